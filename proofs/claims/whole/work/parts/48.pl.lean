/-! ===== stop, kerb, fullest ===== -/
theorem M_getting {P : Int32 → Prop} {σ : StT} {R : Nat} {M Mvf : Nat → Int32} (V : SV σ R) (m : SM σ R M) {o : Nat → Nat} (hv : ∀ r, r < R → Mvf r = enc ((bdS σ o R).1 r)) {van : Nat} (hvan : van < 8) {key : Int32} (h : P (zS (goS σ (bdS σ o R) van key) R)) : wp_X6_gettingOut P M Mvf (nI van) key := by
  have hR := V.hR
  refine z_up (fun n k => wp_X6_gettingOut_5 P M Mvf (nI van) key n (zS (goS σ (bdS σ o R) van key) k) (nI k)) R (fun n => ?_) (fun n k hk ih => ?_) 0 (by omega)
  · exact z_y (by rw [z_c33, m.ri, z_leN (by omega) (by omega)]; omega) h
  · refine z_n (by rw [z_c33, m.ri, z_leN (by omega) (by omega)]; omega) ⟨z_in (by omega) (by omega), ?_⟩
    rw [z_cl (by omega), hv k hk, z_s]
    have e : zS (goS σ (bdS σ o R) van key) (k + 1) = zS (goS σ (bdS σ o R) van key) k + goS σ (bdS σ o R) van key k := rfl
    rw [e] at ih
    by_cases c : (bdS σ o R).1 k = some van
    · refine z_y' ((enc_some hvan).mpr c) (M_key V m hk ?_)
      by_cases d : kyS σ k = key
      · have e2 : goS σ (bdS σ o R) van key k = σ.pe k := if_pos ⟨c, d⟩
        rw [e2] at ih; exact z_y' d (M_of3 V m hk ih)
      · have e2 : goS σ (bdS σ o R) van key k = 0 := if_neg (fun g => d g.2)
        rw [e2] at ih; exact z_n' d ih
    · have e2 : goS σ (bdS σ o R) van key k = 0 := if_neg (fun g => c g.1)
      rw [e2] at ih; exact z_n' (fun e => c ((enc_some hvan).mp e)) ih
def kbS (σ : StT) (b : BT) (mn : Int32) (r : Nat) : Bool := decide (rdS σ r ≤ mn) && (match b.1 r with | none => decide (mn - rdS σ r ≤ σ.se 1) | some v => decide (mn < σ.le v))
def kpS (σ : StT) (b : BT) (mn : Int32) (r : Nat) : Int32 := if kbS σ b mn r = true then σ.pe r else 0
theorem X_atKerb {P : Int32 → Prop} {σ : StT} {R : Nat} (V : SV σ R) {o : Nat → Nat} {pl : PlT} (hv : ∀ r, r < R → pl.vn r = enc ((bdS σ o R).1 r)) (hd : ∀ r, r < R → pl.rd r = rdS σ r) {r : Nat} (hr : r < R) {mn : Int32} (h : P (bI (kbS σ (bdS σ o R) mn r))) : wp_X2_isAtKerb P pl σ (nI r) mn := by
  have hR := V.hR
  have ir : vp_in (nI r) 24 := z_in (by omega) (by omega)
  refine ⟨ir, ?_⟩
  rw [z_cl (by omega), hv r hr, hd r hr]
  by_cases c : rdS σ r ≤ mn
  · refine z_y c ⟨ir, ?_⟩
    cases g : (bdS σ o R).1 r with
    | none =>
      refine Xv_f (by rw [z_is_iff (by omega)]; decide) (z_f' ⟨ir, ?_⟩)
      rw [z_c1]
      by_cases d : mn - rdS σ r ≤ σ.se 1
      · have e : kbS σ (bdS σ o R) mn r = true := by simp [kbS, g, c, d]
        rw [e] at h; exact z_n (by rw [z_lt]; rw [z_le] at d; omega) h
      · have e : kbS σ (bdS σ o R) mn r = false := by simp [kbS, g, d]
        rw [e] at h; exact z_y (by rw [z_lt]; rw [z_le] at d; omega) h
    | some v =>
      have hv8 := bdV g
      have ev : (enc (some v)).toNatClampNeg = v := z_cl (by omega)
      refine Xv_t ⟨v, hv8, rfl⟩ (z_t' ⟨z_in hv8 (by omega), ?_⟩)
      rw [ev]
      by_cases d : mn < σ.le v
      · have e : kbS σ (bdS σ o R) mn r = true := by simp [kbS, g, c, d]
        rw [e] at h; exact z_n (by rw [z_le]; rw [z_lt] at d; omega) h
      · have e : kbS σ (bdS σ o R) mn r = false := by simp [kbS, g, d]
        rw [e] at h; exact z_y (by rw [z_le]; rw [z_lt] at d; omega) h
  · have e : kbS σ (bdS σ o R) mn r = false := by simp [kbS, c]
    rw [e] at h; exact z_n c h
theorem X_kerb18 {P : Int32 → Prop} {σ : StT} {R : Nat} (V : SV σ R) {o : Nat → Nat} {pl : PlT} (hv : ∀ r, r < R → pl.vn r = enc ((bdS σ o R).1 r)) (hd : ∀ r, r < R → pl.rd r = rdS σ r) {mn : Int32} (h : P (zS (kpS σ (bdS σ o R) mn) R)) : ∃ n, wp_X5_kerb_18 P σ pl mn n 0 0 := by
  have hR := V.hR
  refine z_up (fun n k => wp_X5_kerb_18 P σ pl mn n (zS (kpS σ (bdS σ o R) mn) k) (nI k)) R (fun n => ?_) (fun n k hk ih => ?_) 0 (by omega)
  · exact z_y (by rw [V.ri, z_leN (by omega) (by omega)]; omega) h
  · refine z_n (by rw [V.ri, z_leN (by omega) (by omega)]; omega) (X_atKerb V hv hd hk ?_)
    rw [z_s]
    have e : zS (kpS σ (bdS σ o R) mn) (k + 1) = zS (kpS σ (bdS σ o R) mn) k + kpS σ (bdS σ o R) mn k := rfl
    rw [e] at ih
    cases g : kbS σ (bdS σ o R) mn k with
    | true =>
      have e2 : kpS σ (bdS σ o R) mn k = σ.pe k := if_pos g
      rw [e2] at ih
      refine z_t' ⟨z_in (by omega) (by omega), ?_⟩
      rw [z_cl (by omega)]; exact ih
    | false =>
      have e2 : kpS σ (bdS σ o R) mn k = 0 := if_neg (by rw [g]; decide)
      rw [e2, z_a0] at ih; exact z_f' ih
theorem M_kerb22 {P : Int32 → (Nat → Int32) → (Nat → Int32) → (Nat → Int32) → (Nat → Int32) → Prop} {σ : StT} {R : Nat} {M Mvf Mdn Mlf Mar : Nat → Int32} (V : SV σ R) (m : SM σ R M) {o : Nat → Nat} (hv : ∀ r, r < R → Mvf r = enc ((bdS σ o R).1 r)) {mn : Int32} (hmn : 0 ≤ mn.toInt ∧ mn.toInt ≤ 3000) (h : P (zS (kpS σ (bdS σ o R) mn) R) Mvf Mdn Mlf Mar) : ∃ n, wp_X6_kerb_22 P M mn Mvf Mdn Mlf Mar n 0 0 := by
  have hR := V.hR
  refine z_up (fun n k => wp_X6_kerb_22 P M mn Mvf Mdn Mlf Mar n (zS (kpS σ (bdS σ o R) mn) k) (nI k)) R (fun n => ?_) (fun n k hk ih => ?_) 0 (by omega)
  · exact z_y (by rw [z_c33, m.ri, z_leN (by omega) (by omega)]; omega) h
  · refine z_n (by rw [z_c33, m.ri, z_leN (by omega) (by omega)]; omega) (M_rd V m hk ⟨z_in (by omega) (by omega), ?_⟩)
    have hb := rdS_b V hk
    have es := z_sub (a := mn) (b := rdS σ k) (by omega) (by omega)
    have e : zS (kpS σ (bdS σ o R) mn) (k + 1) = zS (kpS σ (bdS σ o R) mn) k + kpS σ (bdS σ o R) mn k := rfl
    rw [e] at ih
    rw [z_cl (by omega), hv k hk]
    unfold wp_X6_kerb_95
    rw [z_s]
    have no : kbS σ (bdS σ o R) mn k = false → wp_X6_kerb_22 P M mn Mvf Mdn Mlf Mar n (zS (kpS σ (bdS σ o R) mn) k + (0 : Int32)) (nI (k + 1)) := by
      intro g
      have e2 : kpS σ (bdS σ o R) mn k = 0 := if_neg (by rw [g]; decide)
      rw [e2] at ih; exact ih
    have yes : kbS σ (bdS σ o R) mn k = true → wp_X6_kerb_22 P M mn Mvf Mdn Mlf Mar n (zS (kpS σ (bdS σ o R) mn) k + σ.pe k) (nI (k + 1)) := by
      intro g
      have e2 : kpS σ (bdS σ o R) mn k = σ.pe k := if_pos g
      rw [e2] at ih; exact ih
    by_cases c : rdS σ k ≤ mn
    · have c' := z_le.mp c
      refine z_n (by rw [z_lt, z_00]; omega) ?_
      cases g : (bdS σ o R).1 k with
      | none =>
        refine z_y' rfl ?_
        rw [z_c1, m.se 1 (by omega)]
        by_cases d : mn - rdS σ k ≤ σ.se 1
        · exact z_n (by rw [z_lt]; rw [z_le] at d; omega) (z_t' (M_of3 V m hk (yes (by simp [kbS, g, c, d]))))
        · exact z_y (by rw [z_lt]; rw [z_le] at d; omega) (z_f' (no (by simp [kbS, g, d])))
      | some v =>
        have hv8 := bdV g
        have e17 : (17 : Int32) + enc (some v) = nI (17 + v) := z_a 17 v
        refine z_n' (z_106 v (by omega)) ?_
        rw [e17, z_cl (by omega), m.le v hv8]
        refine ⟨z_in (by omega) (by omega), ?_⟩
        by_cases d : mn < σ.le v
        · exact z_n (by rw [z_le]; rw [z_lt] at d; omega) (z_t' (M_of3 V m hk (yes (by simp [kbS, g, c, d]))))
        · exact z_y (by rw [z_le]; rw [z_lt] at d; omega) (z_f' (no (by simp [kbS, g, d])))
    · have c' : ¬ (rdS σ k).toInt ≤ mn.toInt := fun e => c (z_le.mpr e)
      exact z_y (by rw [z_lt, z_00]; omega) (z_f' (no (by simp [kbS, c])))
def fuS (pn : Nat → Int32) : Nat → Option Nat
  | 0 => none
  | k + 1 => match fuS pn k with
    | none => if (0 : Int32) < pn k then some k else none
    | some w => if pn w < pn k then some k else some w
theorem fuS_p {pn : Nat → Int32} : ∀ {k w : Nat}, fuS pn k = some w → w < k ∧ (0 : Int32) < pn w
  | 0, w, h => by simp [fuS] at h
  | k + 1, w, h => by
    have ih := fun v => @fuS_p pn k v
    rw [fuS] at h
    split at h
    · by_cases c : (0 : Int32) < pn k
      · rw [if_pos c] at h; cases h; exact ⟨by omega, c⟩
      · rw [if_neg c] at h; cases h
    · next v e =>
      have i := ih v e
      by_cases c : pn v < pn k
      · rw [if_pos c] at h; cases h
        refine ⟨by omega, ?_⟩
        have i2 := i.2
        rw [z_lt] at c i2 ⊢
        omega
      · rw [if_neg c] at h; cases h; exact ⟨by omega, i.2⟩
theorem X_fullest {P : Int32 → Prop} {pl : PlT} {pn : Nat → Int32} (hp : ∀ v, v < 8 → pl.pn v = pn v) (h : P (enc (fuS pn 8))) : wp_X5_fullest P pl := by
  suffices hh : ∃ n, ∀ x : Int32, (fuS pn 0 = none → x = 0) → (∀ w, fuS pn 0 = some w → x = pn w) → wp_X5_fullest_7 P pl n (enc (fuS pn 0)) x (nI 0) by
    obtain ⟨n, hn⟩ := hh
    exact ⟨n, hn 0 (fun _ => rfl) (fun w e => by simp [fuS] at e)⟩
  refine z_up (fun n k => ∀ x : Int32, (fuS pn k = none → x = 0) → (∀ w, fuS pn k = some w → x = pn w) → wp_X5_fullest_7 P pl n (enc (fuS pn k)) x (nI k)) 8 (fun n => ?_) (fun n k hk ih => ?_) 0 (by omega)
  · intro x _ _
    exact z_y (by decide) h
  · intro x h0 h1
    have ik : vp_in (nI k) 8 := z_in hk (by omega)
    refine z_n (by rw [show (8 : Int32) = nI 8 from rfl, z_leN (by omega) (by omega)]; omega) ⟨ik, ?_⟩
    rw [z_cl (by omega), hp k hk, z_s]
    cases e : fuS pn k with
    | none =>
      rw [h0 e]
      by_cases c : (0 : Int32) < pn k
      · have e2 : fuS pn (k + 1) = some k := by simp [fuS, e, c]
        rw [e2] at ih
        exact z_n (by rw [z_le]; rw [z_lt] at c; omega) ⟨ik, ih _ (fun a => by cases a) (fun w a => by cases a; rfl)⟩
      · have e2 : fuS pn (k + 1) = none := by simp [fuS, e, c]
        rw [e2] at ih
        exact z_y (by rw [z_le]; rw [z_lt] at c; omega) (ih _ (fun _ => rfl) (fun w a => by cases a))
    | some w =>
      rw [h1 w e]
      by_cases c : pn w < pn k
      · have e2 : fuS pn (k + 1) = some k := by simp [fuS, e, c]
        rw [e2] at ih
        exact z_n (by rw [z_le]; rw [z_lt] at c; omega) ⟨ik, ih _ (fun a => by cases a) (fun w a => by cases a; rfl)⟩
      · have e2 : fuS pn (k + 1) = some w := by simp [fuS, e, c]
        rw [e2] at ih
        exact z_y (by rw [z_le]; rw [z_lt] at c; omega) (ih _ (fun a => by cases a) (fun w' a => by cases a; rfl))
theorem M_fullest {P : Int32 → (Nat → Int32) → (Nat → Int32) → (Nat → Int32) → (Nat → Int32) → Prop} {σ : StT} {R : Nat} {M Mvf Mdn Mlf Mar : Nat → Int32} (V : SV σ R) (m : SM σ R M) {o : Nat → Nat} (ho : ∀ k, k < R → o k < R) (mp : MP σ R o Mvf Mlf Mar) (h : P (enc (fuS (bdS σ o R).2.1 8)) Mvf Mdn Mlf Mar) : ∃ n, wp_X6_fullest_9 P M Mvf Mdn Mlf Mar n (-106) 0 := by
  refine z_up (fun n k => wp_X6_fullest_9 P M Mvf Mdn Mlf Mar n (enc (fuS (bdS σ o R).2.1 k)) (nI k)) 8 (fun n => ?_) (fun n k hk ih => ?_) 0 (by omega)
  · exact z_y (by decide) h
  · refine z_n (by rw [show (8 : Int32) = nI 8 from rfl, z_leN (by omega) (by omega)]; omega) (M_pin V m ho mp hk ?_)
    unfold wp_X6_fullest_47
    rw [z_s]
    cases e : fuS (bdS σ o R).2.1 k with
    | none =>
      by_cases c : (0 : Int32) < (bdS σ o R).2.1 k
      · have e2 : fuS (bdS σ o R).2.1 (k + 1) = some k := by simp [fuS, e, c]
        rw [e2] at ih
        exact z_n (by rw [z_le]; rw [z_lt] at c; omega) (z_y rfl (z_t' ih))
      · have e2 : fuS (bdS σ o R).2.1 (k + 1) = none := by simp [fuS, e, c]
        rw [e2] at ih
        exact z_y (by rw [z_le]; rw [z_lt] at c; omega) (z_f' ih)
    | some w =>
      obtain ⟨hw, hpos⟩ := fuS_p e
      have hpos' := z_lt.mp hpos
      by_cases c : (bdS σ o R).2.1 w < (bdS σ o R).2.1 k
      · have e2 : fuS (bdS σ o R).2.1 (k + 1) = some k := by simp [fuS, e, c]
        rw [e2] at ih
        have c' := z_lt.mp c
        refine z_n (by rw [z_le]; omega) (z_n (z_106 w (by omega)) (M_pin V m ho mp hk (M_pin V m ho mp (by omega) ?_)))
        exact z_n (by rw [z_le]; omega) (z_t' ih)
      · have e2 : fuS (bdS σ o R).2.1 (k + 1) = some w := by simp [fuS, e, c]
        rw [e2] at ih
        by_cases d : (bdS σ o R).2.1 k ≤ 0
        · exact z_y d (z_f' ih)
        · refine z_n d (z_n (z_106 w (by omega)) (M_pin V m ho mp hk (M_pin V m ho mp (by omega) ?_)))
          exact z_y (by rw [z_le]; rw [z_lt] at c; omega) (z_f' ih)

theorem law11 {xs : Nat → Int32} {rec : RecT} {t : Nat} (rok : RecOK rec (t + 1)) {now pln way tri tpl pad his slo Mst Mhi Mhn Msl Msv Mpd Mln Mat Mit Mvf Mdn Mlf Mar Msa Msm Mso} (rel : Rel now pln pad his slo Mst Mhi Mhn Msl Msv Mpd Mln) : lawC11 xs rec t now pln way tri tpl pad his slo Mst Mhi Mhn Msl Msv Mpd Mln Mat Mit Mvf Mdn Mlf Mar Msa Msm Mso := by
  obtain ⟨⟨R, o, V, m, X⟩, ⟨K, hn, f, H, hg⟩, pr, sl⟩ := id rel
  have hR := V.hR
  unfold lawC11
  generalize xs (5 * t + 1) = x1
  generalize xs (5 * t + 2) = x2
  generalize xs (5 * t + 3) = x3
  by_cases c1 : z_is x1 8
  · obtain ⟨v, hv, rfl⟩ := id c1
    refine Xv_t c1 (z_t (X_follow V X.vn hv (fun n ky wp mi s hm => ?_)))
    have hn := s.le
    by_cases c2 : z_is x2 n
    · obtain ⟨p, hp, rfl⟩ := id c2
      have cp : (nI p).toNatClampNeg = p := z_cl (by omega)
      have ip : vp_in (nI p) 24 := z_in (by omega) (by omega)
      refine z_r_t (by omega) c2 (z_t ⟨fun e => ?_, fun e => ?_, fun e => ?_, fun e => ?_, fun e => ?_⟩)
      · subst e
        refine ⟨ip, ?_⟩
        unfold wp_X3_areaOfStop
        rw [cp]
        refine (Mv_t c1 (z_t (M_lay V m X.ord (fun Mvf' Mdn' Mlf' Mar' mp => M_layStops V m mp.vf hv s (fun Msa' Msm' ha hm' => z_w (z_r_t (by omega) c2 (z_t ⟨fun _ => ?_, fun e => absurd e (by decide), fun e => absurd e (by decide), fun e => absurd e (by decide), fun e => absurd rfl e.1⟩)))))))
        refine ⟨ip, ?_⟩
        rw [cp, ha p hp]
        exact ⟨rfl, rok _ _ _ _ _ _ _ _ _ _ _ _ _ _ _ _ _ _ _ _ _ _ _ _ rel⟩
      · subst e
        refine ⟨ip, ?_⟩
        unfold wp_X3_doorOfStop
        rw [cp]
        refine (Mv_t c1 (z_t (M_lay V m X.ord (fun Mvf' Mdn' Mlf' Mar' mp => M_layStops V m mp.vf hv s (fun Msa' Msm' ha hm' => z_w (z_r_t (by omega) c2 (z_t ⟨fun e => absurd e (by decide), fun _ => ?_, fun e => absurd e (by decide), fun e => absurd e (by decide), fun e => absurd rfl e.2.1⟩)))))))
        refine ⟨ip, ?_⟩
        rw [cp, ha p hp]
        exact ⟨rfl, rok _ _ _ _ _ _ _ _ _ _ _ _ _ _ _ _ _ _ _ _ _ _ _ _ rel⟩
      · subst e
        exact ⟨ip, (Mv_t c1 (z_t (M_lay V m X.ord (fun Mvf' Mdn' Mlf' Mar' mp => M_layStops V m mp.vf hv s (fun Msa' Msm' ha hm' => z_w (z_r_t (by omega) c2 (z_t ⟨fun e => absurd e (by decide), fun e => absurd e (by decide), fun _ => ⟨ip, ⟨((congrArg mi cp).trans (hm p hp)).trans ((congrArg Msm' cp).trans (hm' p hp)).symm, rok _ _ _ _ _ _ _ _ _ _ _ _ _ _ _ _ _ _ _ _ _ _ _ _ rel⟩⟩, fun e => absurd e (by decide), fun e => absurd rfl e.2.2.1⟩)))))))⟩
      · subst e
        refine ⟨ip, (Mv_t c1 (z_t (M_lay V m X.ord (fun Mvf' Mdn' Mlf' Mar' mp => M_layStops V m mp.vf hv s (fun Msa' Msm' ha hm' => z_w (z_r_t (by omega) c2 (z_t ⟨fun e => absurd e (by decide), fun e => absurd e (by decide), fun e => absurd e (by decide), fun _ => ?_, fun e => absurd rfl e.2.2.2⟩)))))))⟩
        refine ⟨ip, M_getting V m mp.vf hv ?_⟩
        rw [cp, ha p hp]
        exact ⟨s.wpc p hp, rok _ _ _ _ _ _ _ _ _ _ _ _ _ _ _ _ _ _ _ _ _ _ _ _ rel⟩
      · have hd := e
        exact (Mv_t c1 (z_t (M_lay V m X.ord (fun Mvf' Mdn' Mlf' Mar' mp => M_layStops V m mp.vf hv s (fun Msa' Msm' ha hm' => z_w (z_r_t (by omega) c2 (z_t ⟨fun e => absurd e hd.1, fun e => absurd e hd.2.1, fun e => absurd e hd.2.2.1, fun e => absurd e hd.2.2.2, fun _ => ⟨rfl, rok _ _ _ _ _ _ _ _ _ _ _ _ _ _ _ _ _ _ _ _ _ _ _ _ rel⟩⟩)))))))
    · exact z_r_f (by omega) c2 (z_f (Mv_t c1 (z_t (M_lay V m X.ord (fun Mvf' Mdn' Mlf' Mar' mp => M_layStops V m mp.vf hv s (fun Msa' Msm' ha hm' => z_w (z_r_f (by omega) c2 (z_f ⟨rfl, rok _ _ _ _ _ _ _ _ _ _ _ _ _ _ _ _ _ _ _ _ _ _ _ _ rel⟩))))))))
  · exact Xv_f c1 (z_f (Mv_f c1 (z_f ⟨rfl, rok _ _ _ _ _ _ _ _ _ _ _ _ _ _ _ _ _ _ _ _ _ _ _ _ rel⟩)))
theorem law13 {xs : Nat → Int32} {rec : RecT} {t : Nat} (rok : RecOK rec (t + 1)) {now pln way tri tpl pad his slo Mst Mhi Mhn Msl Msv Mpd Mln Mat Mit Mvf Mdn Mlf Mar Msa Msm Mso} (rel : Rel now pln pad his slo Mst Mhi Mhn Msl Msv Mpd Mln) : lawC13 xs rec t now pln way tri tpl pad his slo Mst Mhi Mhn Msl Msv Mpd Mln Mat Mit Mvf Mdn Mlf Mar Msa Msm Mso := by
  obtain ⟨⟨R, o, V, m, X⟩, ⟨K, hn, f, H, hg⟩, pr, sl⟩ := id rel
  have hR := V.hR
  unfold lawC13
  generalize xs (5 * t + 1) = x1
  by_cases c1 : (0 : Int32) ≤ x1 ∧ x1 ≤ (3000 : Int32)
  · exact z_isIn_t c1.1 c1.2 (z_t (X_kerb18 V X.vn X.rd (Mw_t c1 (z_t (M_lay V m X.ord (fun Mvf' Mdn' Mlf' Mar' mp => M_kerb22 V m mp.vf (z_b c1) ⟨rfl, rok _ _ _ _ _ _ _ _ _ _ _ _ _ _ _ _ _ _ _ _ _ _ _ _ rel⟩))))))
  · exact z_isIn_f c1 (z_f (Mw_f c1 (z_f ⟨rfl, rok _ _ _ _ _ _ _ _ _ _ _ _ _ _ _ _ _ _ _ _ _ _ _ _ rel⟩)))
theorem law17 {xs : Nat → Int32} {rec : RecT} {t : Nat} (rok : RecOK rec (t + 1)) {now pln way tri tpl pad his slo Mst Mhi Mhn Msl Msv Mpd Mln Mat Mit Mvf Mdn Mlf Mar Msa Msm Mso} (rel : Rel now pln pad his slo Mst Mhi Mhn Msl Msv Mpd Mln) : lawC17 xs rec t now pln way tri tpl pad his slo Mst Mhi Mhn Msl Msv Mpd Mln Mat Mit Mvf Mdn Mlf Mar Msa Msm Mso := by
  obtain ⟨⟨R, o, V, m, X⟩, ⟨K, hn, f, H, hg⟩, pr, sl⟩ := id rel
  have hR := V.hR
  unfold lawC17
  exact X_fullest X.pn (M_lay V m X.ord (fun Mvf' Mdn' Mlf' Mar' mp => M_fullest V m X.ord.lt mp ⟨rfl, rok _ _ _ _ _ _ _ _ _ _ _ _ _ _ _ _ _ _ _ _ _ _ _ _ rel⟩))
