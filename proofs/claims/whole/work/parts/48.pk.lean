/-! ===== what is told of a van, of a flight, of a stop ===== -/
theorem enc_some {σ : StT} {o : Nat → Nat} {R r van : Nat} (hvan : van < 8) : enc ((bdS σ o R).1 r) = nI van ↔ (bdS σ o R).1 r = some van := by
  have := enc_inj (a := (bdS σ o R).1 r) (b := some van) (fun _ h => bdV h) (fun v h => by cases h; exact hvan)
  exact this
theorem enc_none {σ : StT} {o : Nat → Nat} {R r : Nat} : enc ((bdS σ o R).1 r) = (-106 : Int32) ↔ (bdS σ o R).1 r = none := by
  have := enc_inj (a := (bdS σ o R).1 r) (b := none) (fun _ h => bdV h) (fun v h => by cases h)
  exact this
def riS (b : BT) (van : Nat) : Nat → Int32
  | 0 => 0
  | k + 1 => if b.1 k = some van then riS b van k ||| ((1 : Int32) <<< (nI k &&& 31)) else riS b van k
theorem X_riders {P : Int32 → Prop} {σ : StT} {R : Nat} (V : SV σ R) {o : Nat → Nat} {pl : PlT} (hv : ∀ r, r < R → pl.vn r = enc ((bdS σ o R).1 r)) {van : Nat} (hvan : van < 8) (h : P (riS (bdS σ o R) van R)) : wp_X2_ridersIn P pl σ (nI van) := by
  have hR := V.hR
  refine z_up (fun n k => wp_X2_ridersIn_5 P pl σ (nI van) n (riS (bdS σ o R) van k) (nI k)) R (fun n => ?_) (fun n k hk ih => ?_) 0 (by omega)
  · exact z_y (by rw [V.ri, z_leN (by omega) (by omega)]; omega) h
  · refine z_n (by rw [V.ri, z_leN (by omega) (by omega)]; omega) ⟨z_in (by omega) (by omega), ?_⟩
    rw [z_cl (by omega), hv k hk, z_s]
    by_cases c : (bdS σ o R).1 k = some van
    · rw [riS, if_pos c] at ih; exact z_y' ((enc_some hvan).mpr c) ih
    · rw [riS, if_neg c] at ih; exact z_n' (fun e => c ((enc_some hvan).mp e)) ih
theorem M_riders {P : Int32 → Prop} {σ : StT} {R : Nat} {M Mvf : Nat → Int32} (V : SV σ R) (m : SM σ R M) {o : Nat → Nat} (hv : ∀ r, r < R → Mvf r = enc ((bdS σ o R).1 r)) {van : Nat} (hvan : van < 8) (h : P (riS (bdS σ o R) van R)) : wp_X6_ridersIn P M Mvf (nI van) := by
  have hR := V.hR
  refine z_up (fun n k => wp_X6_ridersIn_4 P M Mvf (nI van) n (riS (bdS σ o R) van k) (nI k)) R (fun n => ?_) (fun n k hk ih => ?_) 0 (by omega)
  · exact z_y (by rw [z_c33, m.ri, z_leN (by omega) (by omega)]; omega) h
  · refine z_n (by rw [z_c33, m.ri, z_leN (by omega) (by omega)]; omega) ⟨z_in (by omega) (by omega), ?_⟩
    rw [z_cl (by omega), hv k hk, z_s, Int32.or_zero]
    by_cases c : (bdS σ o R).1 k = some van
    · rw [riS, if_pos c] at ih; exact z_y' ((enc_some hvan).mpr c) ih
    · rw [riS, if_neg c] at ih; exact z_n' (fun e => c ((enc_some hvan).mp e)) ih
def fvs (σ : StT) (b : BT) (R van r : Nat) : Int32 := if b.1 r = some van then frS σ b R r else 0
theorem X_fares {P : Int32 → Prop} {σ : StT} {R : Nat} (V : SV σ R) {o : Nat → Nat} {pl : PlT} (hv : ∀ r, r < R → pl.vn r = enc ((bdS σ o R).1 r)) {van : Nat} (hvan : van < 8) (h : P (zS (fvs σ (bdS σ o R) R van) R)) : wp_X2_faresOf P pl σ (nI van) := by
  have hR := V.hR
  refine z_up (fun n k => wp_X2_faresOf_5 P pl σ (nI van) n (zS (fvs σ (bdS σ o R) R van) k) (nI k)) R (fun n => ?_) (fun n k hk ih => ?_) 0 (by omega)
  · exact z_y (by rw [V.ri, z_leN (by omega) (by omega)]; omega) h
  · refine z_n (by rw [V.ri, z_leN (by omega) (by omega)]; omega) ⟨z_in (by omega) (by omega), ?_⟩
    rw [z_cl (by omega), hv k hk, z_s]
    have e : zS (fvs σ (bdS σ o R) R van) (k + 1) = zS (fvs σ (bdS σ o R) R van) k + fvs σ (bdS σ o R) R van k := rfl
    by_cases c : (bdS σ o R).1 k = some van
    · have e2 : fvs σ (bdS σ o R) R van k = frS σ (bdS σ o R) R k := if_pos c
      rw [e, e2] at ih
      exact z_y' ((enc_some hvan).mpr c) (X_fare V hv hk ih)
    · have e2 : fvs σ (bdS σ o R) R van k = 0 := if_neg c
      rw [e, e2, z_a0] at ih
      exact z_n' (fun e => c ((enc_some hvan).mp e)) ih
theorem M_fares {P : Int32 → Prop} {σ : StT} {R : Nat} {M Mvf : Nat → Int32} (V : SV σ R) (m : SM σ R M) {o : Nat → Nat} (hv : ∀ r, r < R → Mvf r = enc ((bdS σ o R).1 r)) {van : Nat} (hvan : van < 8) (h : P (zS (fvs σ (bdS σ o R) R van) R)) : wp_X6_faresIn P M Mvf (nI van) := by
  have hR := V.hR
  refine z_up (fun n k => wp_X6_faresIn_4 P M Mvf (nI van) n (zS (fvs σ (bdS σ o R) R van) k) (nI k)) R (fun n => ?_) (fun n k hk ih => ?_) 0 (by omega)
  · exact z_y (by rw [z_c33, m.ri, z_leN (by omega) (by omega)]; omega) h
  · refine z_n (by rw [z_c33, m.ri, z_leN (by omega) (by omega)]; omega) ⟨z_in (by omega) (by omega), ?_⟩
    rw [z_cl (by omega), hv k hk, z_s]
    have e : zS (fvs σ (bdS σ o R) R van) (k + 1) = zS (fvs σ (bdS σ o R) R van) k + fvs σ (bdS σ o R) R van k := rfl
    by_cases c : (bdS σ o R).1 k = some van
    · have e2 : fvs σ (bdS σ o R) R van k = frS σ (bdS σ o R) R k := if_pos c
      rw [e, e2] at ih
      exact z_y' ((enc_some hvan).mpr c) (M_fare V m hv hk ih)
    · have e2 : fvs σ (bdS σ o R) R van k = 0 := if_neg c
      rw [e, e2] at ih
      exact z_n' (fun e => c ((enc_some hvan).mp e)) ih
theorem M_pin {P : Int32 → Prop} {σ : StT} {R : Nat} {M Mvf Mlf Mar : Nat → Int32} (V : SV σ R) (m : SM σ R M) {o : Nat → Nat} (ho : ∀ k, k < R → o k < R) (mp : MP σ R o Mvf Mlf Mar) {van : Nat} (hvan : van < 8) (h : P ((bdS σ o R).2.1 van)) : wp_X6_peopleIn P M Mlf (nI van) := by
  have e25 : (25 : Int32) + nI van = nI (25 + van) := z_a 25 van
  have B := (bdI V ho R (Nat.le_refl R) van hvan).1
  have hs := V.sa van hvan
  have i1 := z_sub (a := σ.sa van) (b := (bdS σ o R).2.1 van) (by omega) (by omega)
  refine ⟨by rw [e25]; exact z_in (by omega) (by omega), z_in hvan (by omega), ?_⟩
  rw [e25, z_cl (by omega), z_cl (by omega), m.sa van hvan, mp.lf van hvan]
  have e : σ.sa van - (σ.sa van - (bdS σ o R).2.1 van) = (bdS σ o R).2.1 van := by
    rw [z_eq, z_sub (by omega) (by omega)]; omega
  rw [e]; exact h
def poS (σ : StT) (b : BT) (f : Nat) (s : Bool) (r : Nat) : Int32 := if σ.fl r = nI f ∧ (s = true → b.1 r = none) then σ.pe r else 0
theorem X_people {P : Int32 → Prop} {σ : StT} {R : Nat} (V : SV σ R) {o : Nat → Nat} {pl : PlT} (hv : ∀ r, r < R → pl.vn r = enc ((bdS σ o R).1 r)) {f : Nat} (s : Bool) (h : P (zS (poS σ (bdS σ o R) f s) R)) : wp_X2_peopleOfFlight P pl σ (nI f) (bI s) := by
  have hR := V.hR
  refine z_up (fun n k => wp_X2_peopleOfFlight_6 P pl σ (nI f) (bI s) n (zS (poS σ (bdS σ o R) f s) k) (nI k)) R (fun n => ?_) (fun n k hk ih => ?_) 0 (by omega)
  · exact z_y (by rw [V.ri, z_leN (by omega) (by omega)]; omega) h
  · refine z_n (by rw [V.ri, z_leN (by omega) (by omega)]; omega) ?_
    have e : zS (poS σ (bdS σ o R) f s) (k + 1) = zS (poS σ (bdS σ o R) f s) k + poS σ (bdS σ o R) f s k := rfl
    rw [e] at ih
    have ik : vp_in (nI k) 24 := z_in (by omega) (by omega)
    have fin : (s = true → (bdS σ o R).1 k = none) → wp_X2_peopleOfFlight_36 P pl σ (nI f) (bI s) (wp_X2_peopleOfFlight_6 P pl σ (nI f) (bI s) n) (zS (poS σ (bdS σ o R) f s) k) (nI k) 1 := by
      intro hs
      refine z_t' ⟨ik, ?_⟩
      rw [z_cl (by omega), z_s]
      by_cases c : σ.fl k = nI f
      · have e2 : poS σ (bdS σ o R) f s k = σ.pe k := if_pos ⟨c, hs⟩
        rw [e2] at ih; exact z_y' c ⟨ik, ih⟩
      · have e2 : poS σ (bdS σ o R) f s k = 0 := if_neg (fun g => c g.1)
        rw [e2, z_a0] at ih; exact z_n' c ih
    cases s with
    | false => exact z_y rfl (fin (fun e => by cases e))
    | true =>
      refine z_n z_10 ⟨ik, ?_⟩
      rw [z_cl (by omega), hv k hk]
      by_cases c : (bdS σ o R).1 k = none
      · exact z_y' (enc_none.mpr c) (fin (fun _ => c))
      · refine z_n' (fun e => c (enc_none.mp e)) (z_f' ?_)
        have e2 : poS σ (bdS σ o R) f true k = 0 := if_neg (fun g => c (g.2 rfl))
        rw [e2, z_a0] at ih; rw [z_s]; exact ih
theorem M_people {P : Int32 → Prop} {σ : StT} {R : Nat} {M Mvf : Nat → Int32} (V : SV σ R) (m : SM σ R M) {o : Nat → Nat} (hv : ∀ r, r < R → Mvf r = enc ((bdS σ o R).1 r)) {f : Nat} (s : Bool) (h : P (zS (poS σ (bdS σ o R) f s) R)) : wp_X6_peopleOf P M Mvf (nI f) (bI s) := by
  have hR := V.hR
  refine z_up (fun n k => wp_X6_peopleOf_5 P M Mvf (nI f) (bI s) n (zS (poS σ (bdS σ o R) f s) k) (nI k)) R (fun n => ?_) (fun n k hk ih => ?_) 0 (by omega)
  · exact z_y (by rw [z_c33, m.ri, z_leN (by omega) (by omega)]; omega) h
  · refine z_n (by rw [z_c33, m.ri, z_leN (by omega) (by omega)]; omega) (M_of0 V m hk ?_)
    have e : zS (poS σ (bdS σ o R) f s) (k + 1) = zS (poS σ (bdS σ o R) f s) k + poS σ (bdS σ o R) f s k := rfl
    rw [e] at ih
    have ik : vp_in (nI k) 24 := z_in (by omega) (by omega)
    have no : (poS σ (bdS σ o R) f s k = 0) → wp_X6_peopleOf_49 P M Mvf (nI f) (bI s) (wp_X6_peopleOf_5 P M Mvf (nI f) (bI s) n) (zS (poS σ (bdS σ o R) f s) k) (nI k) 0 := by
      intro e2
      rw [e2] at ih
      refine z_f' ?_
      rw [z_s]; exact ih
    have yes : (poS σ (bdS σ o R) f s k = σ.pe k) → wp_X6_peopleOf_49 P M Mvf (nI f) (bI s) (wp_X6_peopleOf_5 P M Mvf (nI f) (bI s) n) (zS (poS σ (bdS σ o R) f s) k) (nI k) 1 := by
      intro e2
      rw [e2] at ih
      refine z_t' (M_of3 V m hk ?_)
      rw [z_s]; exact ih
    by_cases c : σ.fl k = nI f
    · refine z_y' c ?_
      cases s with
      | false => exact z_y rfl (yes (if_pos ⟨c, fun e => by cases e⟩))
      | true =>
        refine z_n z_10 ⟨ik, ?_⟩
        rw [z_cl (by omega), hv k hk]
        by_cases d : (bdS σ o R).1 k = none
        · exact z_y' (enc_none.mpr d) (yes (if_pos ⟨c, fun _ => d⟩))
        · exact z_n' (fun e => d (enc_none.mp e)) (no (if_neg (fun g => d (g.2 rfl))))
    · exact z_n' c (no (if_neg (fun g => c g.1)))

def wp_X6_vanOf_sw (P : Int32 → (Nat → Int32) → (Nat → Int32) → (Nat → Int32) → (Nat → Int32) → (Nat → Int32) → (Nat → Int32) → Int32 → Prop) (Mst Mvf_3 Mdn_4 Mlf_5 Mar_6 Msa_7 Msm_8 : Nat → Int32) (Mso_9 : Int32) (x1 x2 : Int32) : Prop :=
          (x2 = 0 →
            vp_in ((17 : Int32) + x1) 130 ∧
            P (Mst ((17 : Int32) + x1).toNatClampNeg) Mvf_3 Mdn_4 Mlf_5 Mar_6 Msa_7 Msm_8 Mso_9) ∧
          (x2 = 1 →
            vp_in ((25 : Int32) + x1) 130 ∧
            P (Mst ((25 : Int32) + x1).toNatClampNeg) Mvf_3 Mdn_4 Mlf_5 Mar_6 Msa_7 Msm_8 Mso_9) ∧
          (x2 = 2 →
            wp_X6_peopleIn (fun r_13 =>
              P r_13 Mvf_3 Mdn_4 Mlf_5 Mar_6 Msa_7 Msm_8 Mso_9) Mst Mlf_5 x1) ∧
          (x2 = 3 →
            wp_X6_ridersIn (fun r_14 =>
              P r_14 Mvf_3 Mdn_4 Mlf_5 Mar_6 Msa_7 Msm_8 Mso_9) Mst Mvf_3 x1) ∧
          (x2 = 4 →
            vp_in x1 8 ∧
            P (Mar_6 x1.toNatClampNeg) Mvf_3 Mdn_4 Mlf_5 Mar_6 Msa_7 Msm_8 Mso_9) ∧
          (x2 = 5 →
            P Mso_9 Mvf_3 Mdn_4 Mlf_5 Mar_6 Msa_7 Msm_8 Mso_9) ∧
          (x2 = 6 →
            ((¬ Mso_9 = 0) →
              vp_in (Mso_9 - (1 : Int32)) 24 ∧
              P (Msm_8 (Mso_9 - (1 : Int32)).toNatClampNeg) Mvf_3 Mdn_4 Mlf_5 Mar_6 Msa_7 Msm_8 Mso_9) ∧
            ((Mso_9 = 0) →
              P (-106 : Int32) Mvf_3 Mdn_4 Mlf_5 Mar_6 Msa_7 Msm_8 Mso_9)) ∧
          (x2 = 7 →
            wp_X6_faresIn (fun r_18 =>
              P r_18 Mvf_3 Mdn_4 Mlf_5 Mar_6 Msa_7 Msm_8 Mso_9) Mst Mvf_3 x1) ∧
          ((¬ x2 = 0 ∧ ¬ x2 = 1 ∧ ¬ x2 = 2 ∧ ¬ x2 = 3 ∧ ¬ x2 = 4 ∧ ¬ x2 = 5 ∧ ¬ x2 = 6 ∧ ¬ x2 = 7) →
            P (-102 : Int32) Mvf_3 Mdn_4 Mlf_5 Mar_6 Msa_7 Msm_8 Mso_9)
theorem law9 {xs : Nat → Int32} {rec : RecT} {t : Nat} (rok : RecOK rec (t + 1)) {now pln way tri tpl pad his slo Mst Mhi Mhn Msl Msv Mpd Mln Mat Mit Mvf Mdn Mlf Mar Msa Msm Mso} (rel : Rel now pln pad his slo Mst Mhi Mhn Msl Msv Mpd Mln) : lawC9 xs rec t now pln way tri tpl pad his slo Mst Mhi Mhn Msl Msv Mpd Mln Mat Mit Mvf Mdn Mlf Mar Msa Msm Mso := by
  obtain ⟨⟨R, o, V, m, X⟩, ⟨K, hn, f, H, hg⟩, pr, sl⟩ := id rel
  have hR := V.hR
  unfold lawC9
  generalize xs (5 * t + 1) = x1
  generalize xs (5 * t + 2) = x2
  by_cases c1 : z_is x1 8
  · obtain ⟨v, hv, rfl⟩ := id c1
    have cv : (nI v).toNatClampNeg = v := z_cl (by omega)
    have iv : vp_in (nI v) 8 := z_in hv (by omega)
    have e17 : (17 : Int32) + nI v = nI (17 + v) := z_a 17 v
    have e25 : (25 : Int32) + nI v = nI (25 + v) := z_a 25 v
    have i17 : vp_in ((17 : Int32) + nI v) 130 := by rw [e17]; exact z_in (by omega) (by omega)
    have i25 : vp_in ((25 : Int32) + nI v) 130 := by rw [e25]; exact z_in (by omega) (by omega)
    have c17 : ((17 : Int32) + nI v).toNatClampNeg = 17 + v := by rw [e17]; exact z_cl (by omega)
    have c25 : ((25 : Int32) + nI v).toNatClampNeg = 25 + v := by rw [e25]; exact z_cl (by omega)
    refine Xv_t c1 (z_t (X_follow V X.vn hv (fun n ky wp mi s hm => ?_)))
    have hn := s.le
    have MM : ∀ (Q : Int32 → (Nat → Int32) → (Nat → Int32) → (Nat → Int32) → (Nat → Int32) → (Nat → Int32) → (Nat → Int32) → Int32 → Prop), (∀ Mvf' Mdn' Mlf' Mar' Msa' Msm', MP now R o Mvf' Mlf' Mar' → (∀ j, j < n → Msm' j = mnS (now.le v) ky j) → wp_X6_vanOf_sw Q Mst Mvf' Mdn' Mlf' Mar' Msa' Msm' (nI n) (nI v) x2) → wp_X6_vanOf Q Mst Mvf Mdn Mlf Mar Msa Msm Mso (nI v) x2 := by
      intro Q hq
      exact Mv_t c1 (z_t (M_lay V m X.ord (fun Mvf' Mdn' Mlf' Mar' mp => M_layStops V m mp.vf hv s (fun Msa' Msm' ha hm' => hq _ _ _ _ _ _ mp hm'))))
    refine ⟨fun e => ?_, fun e => ?_, fun e => ?_, fun e => ?_, fun e => ?_, fun e => ?_, fun e => ?_, fun e => ?_, fun e => ?_⟩
    · subst e
      rw [cv]
      refine ⟨iv, (MM _ (fun Mvf' Mdn' Mlf' Mar' Msa' Msm' mp hm' => ⟨fun _ => ?_, fun e => absurd e (by decide), fun e => absurd e (by decide), fun e => absurd e (by decide), fun e => absurd e (by decide), fun e => absurd e (by decide), fun e => absurd e (by decide), fun e => absurd e (by decide), fun e => absurd rfl e.1⟩))⟩
      exact ⟨i17, ⟨((congrArg Mst c17).trans (m.le v hv)).symm, rok _ _ _ _ _ _ _ _ _ _ _ _ _ _ _ _ _ _ _ _ _ _ _ _ rel⟩⟩
    · subst e
      rw [cv]
      refine ⟨iv, (MM _ (fun Mvf' Mdn' Mlf' Mar' Msa' Msm' mp hm' => ⟨fun e => absurd e (by decide), fun _ => ?_, fun e => absurd e (by decide), fun e => absurd e (by decide), fun e => absurd e (by decide), fun e => absurd e (by decide), fun e => absurd e (by decide), fun e => absurd e (by decide), fun e => absurd rfl e.2.1⟩))⟩
      exact ⟨i25, ⟨((congrArg Mst c25).trans (m.sa v hv)).symm, rok _ _ _ _ _ _ _ _ _ _ _ _ _ _ _ _ _ _ _ _ _ _ _ _ rel⟩⟩
    · subst e
      rw [cv]
      exact ⟨iv, (MM _ (fun Mvf' Mdn' Mlf' Mar' Msa' Msm' mp hm' => ⟨fun e => absurd e (by decide), fun e => absurd e (by decide), fun _ => M_pin V m X.ord.lt mp hv ⟨X.pn v hv, rok _ _ _ _ _ _ _ _ _ _ _ _ _ _ _ _ _ _ _ _ _ _ _ _ rel⟩, fun e => absurd e (by decide), fun e => absurd e (by decide), fun e => absurd e (by decide), fun e => absurd e (by decide), fun e => absurd e (by decide), fun e => absurd rfl e.2.2.1⟩))⟩
    · subst e
      exact X_riders V X.vn hv (MM _ (fun Mvf' Mdn' Mlf' Mar' Msa' Msm' mp hm' => ⟨fun e => absurd e (by decide), fun e => absurd e (by decide), fun e => absurd e (by decide), fun _ => M_riders V m mp.vf hv ⟨rfl, rok _ _ _ _ _ _ _ _ _ _ _ _ _ _ _ _ _ _ _ _ _ _ _ _ rel⟩, fun e => absurd e (by decide), fun e => absurd e (by decide), fun e => absurd e (by decide), fun e => absurd e (by decide), fun e => absurd rfl e.2.2.2.1⟩))
    · subst e
      rw [cv]
      exact ⟨iv, (MM _ (fun Mvf' Mdn' Mlf' Mar' Msa' Msm' mp hm' => ⟨fun e => absurd e (by decide), fun e => absurd e (by decide), fun e => absurd e (by decide), fun e => absurd e (by decide), fun _ => ⟨iv, ⟨(X.ao v hv).trans ((congrArg Mar' cv).trans (mp.ar v hv)).symm, rok _ _ _ _ _ _ _ _ _ _ _ _ _ _ _ _ _ _ _ _ _ _ _ _ rel⟩⟩, fun e => absurd e (by decide), fun e => absurd e (by decide), fun e => absurd e (by decide), fun e => absurd rfl e.2.2.2.2.1⟩))⟩
    · subst e
      exact (MM _ (fun Mvf' Mdn' Mlf' Mar' Msa' Msm' mp hm' => ⟨fun e => absurd e (by decide), fun e => absurd e (by decide), fun e => absurd e (by decide), fun e => absurd e (by decide), fun e => absurd e (by decide), fun _ => ⟨rfl, rok _ _ _ _ _ _ _ _ _ _ _ _ _ _ _ _ _ _ _ _ _ _ _ _ rel⟩, fun e => absurd e (by decide), fun e => absurd e (by decide), fun e => absurd rfl e.2.2.2.2.2.1⟩))
    · subst e
      unfold wp_X4_lastMinute
      show (nI n ≤ 0 → _) ∧ (¬ nI n ≤ 0 → _)
      cases n with
      | zero => exact z_y (by decide) (MM _ (fun Mvf' Mdn' Mlf' Mar' Msa' Msm' mp hm' => ⟨fun e => absurd e (by decide), fun e => absurd e (by decide), fun e => absurd e (by decide), fun e => absurd e (by decide), fun e => absurd e (by decide), fun e => absurd e (by decide), fun _ => z_y' rfl ⟨rfl, rok _ _ _ _ _ _ _ _ _ _ _ _ _ _ _ _ _ _ _ _ _ _ _ _ rel⟩, fun e => absurd e (by decide), fun e => absurd rfl e.2.2.2.2.2.2.1⟩))
      | succ n =>
        have hne : ¬ nI (n + 1) = 0 := by rw [show (0 : Int32) = nI 0 from rfl, z_eqN (by omega) (by omega)]; omega
        have i1 : vp_in (nI (n + 1) - (1 : Int32)) 24 := by rw [z_p]; exact z_in (by omega) (by omega)
        have c1' : (nI (n + 1) - (1 : Int32)).toNatClampNeg = n := by rw [z_p]; exact z_cl (by omega)
        refine z_n (by rw [show (0 : Int32) = nI 0 from rfl, z_leN (by omega) (by omega)]; omega) ⟨i1, ?_⟩
        exact (MM _ (fun Mvf' Mdn' Mlf' Mar' Msa' Msm' mp hm' => ⟨fun e => absurd e (by decide), fun e => absurd e (by decide), fun e => absurd e (by decide), fun e => absurd e (by decide), fun e => absurd e (by decide), fun e => absurd e (by decide), fun _ => z_n' hne ⟨i1, ⟨(congrArg mi c1').trans ((hm n (by omega)).trans ((congrArg Msm' c1').trans (hm' n (by omega))).symm), rok _ _ _ _ _ _ _ _ _ _ _ _ _ _ _ _ _ _ _ _ _ _ _ _ rel⟩⟩, fun e => absurd e (by decide), fun e => absurd rfl e.2.2.2.2.2.2.1⟩))
    · subst e
      exact X_fares V X.vn hv (MM _ (fun Mvf' Mdn' Mlf' Mar' Msa' Msm' mp hm' => ⟨fun e => absurd e (by decide), fun e => absurd e (by decide), fun e => absurd e (by decide), fun e => absurd e (by decide), fun e => absurd e (by decide), fun e => absurd e (by decide), fun e => absurd e (by decide), fun _ => M_fares V m mp.vf hv ⟨rfl, rok _ _ _ _ _ _ _ _ _ _ _ _ _ _ _ _ _ _ _ _ _ _ _ _ rel⟩, fun e => absurd rfl e.2.2.2.2.2.2.2⟩))
    · have hd := e
      exact (MM _ (fun Mvf' Mdn' Mlf' Mar' Msa' Msm' mp hm' => ⟨fun e => absurd e hd.1, fun e => absurd e hd.2.1, fun e => absurd e hd.2.2.1, fun e => absurd e hd.2.2.2.1, fun e => absurd e hd.2.2.2.2.1, fun e => absurd e hd.2.2.2.2.2.1, fun e => absurd e hd.2.2.2.2.2.2.1, fun e => absurd e hd.2.2.2.2.2.2.2, fun _ => ⟨rfl, rok _ _ _ _ _ _ _ _ _ _ _ _ _ _ _ _ _ _ _ _ _ _ _ _ rel⟩⟩))
  · exact Xv_f c1 (z_f (Mv_f c1 (z_f ⟨rfl, rok _ _ _ _ _ _ _ _ _ _ _ _ _ _ _ _ _ _ _ _ _ _ _ _ rel⟩)))
theorem law10 {xs : Nat → Int32} {rec : RecT} {t : Nat} (rok : RecOK rec (t + 1)) {now pln way tri tpl pad his slo Mst Mhi Mhn Msl Msv Mpd Mln Mat Mit Mvf Mdn Mlf Mar Msa Msm Mso} (rel : Rel now pln pad his slo Mst Mhi Mhn Msl Msv Mpd Mln) : lawC10 xs rec t now pln way tri tpl pad his slo Mst Mhi Mhn Msl Msv Mpd Mln Mat Mit Mvf Mdn Mlf Mar Msa Msm Mso := by
  obtain ⟨⟨R, o, V, m, X⟩, ⟨K, hn, f, H, hg⟩, pr, sl⟩ := id rel
  have hR := V.hR
  unfold lawC10
  generalize xs (5 * t + 1) = x1
  generalize xs (5 * t + 2) = x2
  by_cases c1 : z_is x1 6
  · obtain ⟨v, hv, rfl⟩ := id c1
    have cv : (nI v).toNatClampNeg = v := z_cl (by omega)
    have iv : vp_in (nI v) 6 := z_in hv (by omega)
    have i5 : vp_in ((5 : Int32) + nI v) 130 := by rw [show (5 : Int32) + nI v = nI (5 + v) from z_a 5 v]; exact z_in (by omega) (by omega)
    have i11 : vp_in ((11 : Int32) + nI v) 130 := by rw [show (11 : Int32) + nI v = nI (11 + v) from z_a 11 v]; exact z_in (by omega) (by omega)
    have c5 : ((5 : Int32) + nI v).toNatClampNeg = 5 + v := by rw [show (5 : Int32) + nI v = nI (5 + v) from z_a 5 v]; exact z_cl (by omega)
    have c11 : ((11 : Int32) + nI v).toNatClampNeg = 11 + v := by rw [show (11 : Int32) + nI v = nI (11 + v) from z_a 11 v]; exact z_cl (by omega)
    refine Xf_t c1 (z_t ⟨fun e => ?_, fun e => ?_, fun e => ?_, fun e => ?_, fun e => ?_, fun e => ?_⟩)
    · subst e
      rw [cv]
      exact ⟨iv, (Mf_t c1 (z_t (M_lay V m X.ord (fun Mvf' Mdn' Mlf' Mar' mp => ⟨fun _ => ⟨i5, ⟨((congrArg Mst c5).trans (m.la v hv)).symm, rok _ _ _ _ _ _ _ _ _ _ _ _ _ _ _ _ _ _ _ _ _ _ _ _ rel⟩⟩, fun e => absurd e (by decide), fun e => absurd e (by decide), fun e => absurd e (by decide), fun e => absurd e (by decide), fun e => absurd rfl e.1⟩))))⟩
    · subst e
      rw [cv]
      exact ⟨iv, (Mf_t c1 (z_t (M_lay V m X.ord (fun Mvf' Mdn' Mlf' Mar' mp => ⟨fun e => absurd e (by decide), fun _ => ⟨i11, ⟨((congrArg Mst c11).trans (m.de v hv)).symm, rok _ _ _ _ _ _ _ _ _ _ _ _ _ _ _ _ _ _ _ _ _ _ _ _ rel⟩⟩, fun e => absurd e (by decide), fun e => absurd e (by decide), fun e => absurd e (by decide), fun e => absurd rfl e.2.1⟩))))⟩
    · subst e
      exact X_fr hv (Mf_t c1 (z_t (M_lay V m X.ord (fun Mvf' Mdn' Mlf' Mar' mp => ⟨fun e => absurd e (by decide), fun e => absurd e (by decide), fun _ => M_ro m hv ⟨rfl, rok _ _ _ _ _ _ _ _ _ _ _ _ _ _ _ _ _ _ _ _ _ _ _ _ rel⟩, fun e => absurd e (by decide), fun e => absurd e (by decide), fun e => absurd rfl e.2.2.1⟩))))
    · subst e
      exact X_people V X.vn false (Mf_t c1 (z_t (M_lay V m X.ord (fun Mvf' Mdn' Mlf' Mar' mp => ⟨fun e => absurd e (by decide), fun e => absurd e (by decide), fun e => absurd e (by decide), fun _ => M_people V m mp.vf false ⟨rfl, rok _ _ _ _ _ _ _ _ _ _ _ _ _ _ _ _ _ _ _ _ _ _ _ _ rel⟩, fun e => absurd e (by decide), fun e => absurd rfl e.2.2.2.1⟩))))
    · subst e
      exact X_people V X.vn true (Mf_t c1 (z_t (M_lay V m X.ord (fun Mvf' Mdn' Mlf' Mar' mp => ⟨fun e => absurd e (by decide), fun e => absurd e (by decide), fun e => absurd e (by decide), fun e => absurd e (by decide), fun _ => M_people V m mp.vf true ⟨rfl, rok _ _ _ _ _ _ _ _ _ _ _ _ _ _ _ _ _ _ _ _ _ _ _ _ rel⟩, fun e => absurd rfl e.2.2.2.2⟩))))
    · have hd := e
      exact (Mf_t c1 (z_t (M_lay V m X.ord (fun Mvf' Mdn' Mlf' Mar' mp => ⟨fun e => absurd e hd.1, fun e => absurd e hd.2.1, fun e => absurd e hd.2.2.1, fun e => absurd e hd.2.2.2.1, fun e => absurd e hd.2.2.2.2, fun _ => ⟨rfl, rok _ _ _ _ _ _ _ _ _ _ _ _ _ _ _ _ _ _ _ _ _ _ _ _ rel⟩⟩))))
  · exact Xf_f c1 (z_f (Mf_f c1 (z_f ⟨rfl, rok _ _ _ _ _ _ _ _ _ _ _ _ _ _ _ _ _ _ _ _ _ _ _ _ rel⟩)))
