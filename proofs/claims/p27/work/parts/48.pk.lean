/-! ===== what is told of a van, of a flight, of a stop ===== -/
theorem enc_some {σ : StT} {o : Nat → Nat} {R r van : Nat} (hvan : van < 8) : enc ((bdS σ o R).1 r) = nI van ↔ (bdS σ o R).1 r = some van := by
  have := enc_inj (a := (bdS σ o R).1 r) (b := some van) (fun _ h => bdV h) (fun v h => by cases h; exact hvan)
  exact this
theorem enc_none {σ : StT} {o : Nat → Nat} {R r : Nat} : enc ((bdS σ o R).1 r) = (-106 : Int32) ↔ (bdS σ o R).1 r = none := by
  have := enc_inj (a := (bdS σ o R).1 r) (b := none) (fun _ h => bdV h) (fun v h => by cases h)
  exact this
def riS (b : BT) (van : Nat) : Nat → Int32
  | 0 => 0
  | k + 1 => if b.1 k = some van then riS b van k ||| ((1 : Int32) <<< (nI k &&& 31)) else riS b van k
theorem X_riders {P : Int32 → Prop} {σ : StT} {R : Nat} (V : SV σ R) {o : Nat → Nat} {pl : PlT} (hv : ∀ r, r < R → pl.vn r = enc ((bdS σ o R).1 r)) {van : Nat} (hvan : van < 8) (h : P (riS (bdS σ o R) van R)) : wp_X2_ridersIn P pl σ (nI van) := by
  have hR := V.hR
  refine z_up (fun n k => wp_X2_ridersIn_5 P pl σ (nI van) n (riS (bdS σ o R) van k) (nI k)) R (fun n => ?_) (fun n k hk ih => ?_) 0 (by omega)
  · exact z_y (by rw [V.ri, z_leN (by omega) (by omega)]; omega) h
  · refine z_n (by rw [V.ri, z_leN (by omega) (by omega)]; omega) ⟨z_in (by omega) (by omega), ?_⟩
    rw [z_cl (by omega), hv k hk, z_s]
    by_cases c : (bdS σ o R).1 k = some van
    · rw [riS, if_pos c] at ih; exact z_y' ((enc_some hvan).mpr c) ih
    · rw [riS, if_neg c] at ih; exact z_n' (fun e => c ((enc_some hvan).mp e)) ih
def fvs (σ : StT) (b : BT) (R van r : Nat) : Int32 := if b.1 r = some van then frS σ b R r else 0
theorem X_fares {P : Int32 → Prop} {σ : StT} {R : Nat} (V : SV σ R) {o : Nat → Nat} {pl : PlT} (hv : ∀ r, r < R → pl.vn r = enc ((bdS σ o R).1 r)) {van : Nat} (hvan : van < 8) (h : P (zS (fvs σ (bdS σ o R) R van) R)) : wp_X2_faresOf P pl σ (nI van) := by
  have hR := V.hR
  refine z_up (fun n k => wp_X2_faresOf_5 P pl σ (nI van) n (zS (fvs σ (bdS σ o R) R van) k) (nI k)) R (fun n => ?_) (fun n k hk ih => ?_) 0 (by omega)
  · exact z_y (by rw [V.ri, z_leN (by omega) (by omega)]; omega) h
  · refine z_n (by rw [V.ri, z_leN (by omega) (by omega)]; omega) ⟨z_in (by omega) (by omega), ?_⟩
    rw [z_cl (by omega), hv k hk, z_s]
    have e : zS (fvs σ (bdS σ o R) R van) (k + 1) = zS (fvs σ (bdS σ o R) R van) k + fvs σ (bdS σ o R) R van k := rfl
    by_cases c : (bdS σ o R).1 k = some van
    · have e2 : fvs σ (bdS σ o R) R van k = frS σ (bdS σ o R) R k := if_pos c
      rw [e, e2] at ih
      exact z_y' ((enc_some hvan).mpr c) (X_fare V hv hk ih)
    · have e2 : fvs σ (bdS σ o R) R van k = 0 := if_neg c
      rw [e, e2, z_a0] at ih
      exact z_n' (fun e => c ((enc_some hvan).mp e)) ih
def poS (σ : StT) (b : BT) (f : Nat) (s : Bool) (r : Nat) : Int32 := if σ.fl r = nI f ∧ (s = true → b.1 r = none) then σ.pe r else 0
theorem X_people {P : Int32 → Prop} {σ : StT} {R : Nat} (V : SV σ R) {o : Nat → Nat} {pl : PlT} (hv : ∀ r, r < R → pl.vn r = enc ((bdS σ o R).1 r)) {f : Nat} (s : Bool) (h : P (zS (poS σ (bdS σ o R) f s) R)) : wp_X2_peopleOfFlight P pl σ (nI f) (bI s) := by
  have hR := V.hR
  refine z_up (fun n k => wp_X2_peopleOfFlight_6 P pl σ (nI f) (bI s) n (zS (poS σ (bdS σ o R) f s) k) (nI k)) R (fun n => ?_) (fun n k hk ih => ?_) 0 (by omega)
  · exact z_y (by rw [V.ri, z_leN (by omega) (by omega)]; omega) h
  · refine z_n (by rw [V.ri, z_leN (by omega) (by omega)]; omega) ?_
    have e : zS (poS σ (bdS σ o R) f s) (k + 1) = zS (poS σ (bdS σ o R) f s) k + poS σ (bdS σ o R) f s k := rfl
    rw [e] at ih
    have ik : vp_in (nI k) 24 := z_in (by omega) (by omega)
    have fin : (s = true → (bdS σ o R).1 k = none) → wp_X2_peopleOfFlight_36 P pl σ (nI f) (bI s) (wp_X2_peopleOfFlight_6 P pl σ (nI f) (bI s) n) (zS (poS σ (bdS σ o R) f s) k) (nI k) 1 := by
      intro hs
      refine z_t' ⟨ik, ?_⟩
      rw [z_cl (by omega), z_s]
      by_cases c : σ.fl k = nI f
      · have e2 : poS σ (bdS σ o R) f s k = σ.pe k := if_pos ⟨c, hs⟩
        rw [e2] at ih; exact z_y' c ⟨ik, ih⟩
      · have e2 : poS σ (bdS σ o R) f s k = 0 := if_neg (fun g => c g.1)
        rw [e2, z_a0] at ih; exact z_n' c ih
    cases s with
    | false => exact z_y rfl (fin (fun e => by cases e))
    | true =>
      refine z_n z_10 ⟨ik, ?_⟩
      rw [z_cl (by omega), hv k hk]
      by_cases c : (bdS σ o R).1 k = none
      · exact z_y' (enc_none.mpr c) (fin (fun _ => c))
      · refine z_n' (fun e => c (enc_none.mp e)) (z_f' ?_)
        have e2 : poS σ (bdS σ o R) f true k = 0 := if_neg (fun g => c (g.2 rfl))
        rw [e2, z_a0] at ih; rw [z_s]; exact ih
