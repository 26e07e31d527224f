/-! ===== a rider is as the class tells it ===== -/
section LIR
variable {P : Int32 → (Nat → Int32) → (Nat → Int32) → (Nat → Int32) → Int32 → Prop} {σ : StT} {R : Nat} {pl : PlT} {q lr lw lg : Nat → Int32}
theorem eL_n {b : BT} {r : Nat} (g : b.1 r = none) : ¬ (0 : Int32) ≤ encL (b.1 r) := fun h => by
  rw [g] at h
  exact encL_neg h
theorem L_r108n {w : WyT} {r : Nat} (V : SV σ R) (hx : XR σ R pl) (hq : LQ σ R q) (hr : LR σ R lr) (hw : ∀ k, k < R → lw k = encL ((BD σ R).1 k)) (hrR : r < R) (g : (BD σ R).1 r = none) (h : ∀ ky wp mi so, P 1 ky wp mi so) (ky wp mi : Nat → Int32) (so : Int32) : wp_L_isRider_108 P σ pl w q lr lw (nI r) (lr r) (encL none) 1 ky wp mi so := by
  have e6 : riV σ (BD σ R) R r 6 = -106 := by unfold riV; rw [g]; rfl
  have e7 : riV σ (BD σ R) R r 7 = -106 := by show atS σ (BD σ R) R r = -106; unfold atS; rw [g]
  have e8 : riV σ (BD σ R) R r 8 = 0 := by show frS σ (BD σ R) R r = 0; unfold frS; rw [g]
  have e9 : riV σ (BD σ R) R r 9 = 0 := by unfold riV; rw [g]; rfl
  refine z_n (fun a => (encL_neg a).elim) (z_t' ?_)
  refine X_rid V hx hrR 6 rfl (by omega) (fun _ _ _ _ => z_y' e6 ?_)
  refine X_rid V hx hrR 7 rfl (by omega) (fun _ _ _ _ => z_y' e7 ?_)
  refine X_rid V hx hrR 8 rfl (by omega) (fun _ _ _ _ => z_y' e8 ?_)
  exact X_rid V hx hrR 9 rfl (by omega) (fun _ _ _ _ => z_y' e9 (h _ _ _ _))
theorem L_r108s {w : WyT} {r v : Nat} (V : SV σ R) (hx : XR σ R pl) (hq : LQ σ R q) (hr : LR σ R lr) (hw : ∀ k, k < R → lw k = encL ((BD σ R).1 k)) (hrR : r < R) (g : (BD σ R).1 r = some v) (h : ∀ ky wp mi so, P 1 ky wp mi so) (ky wp mi : Nat → Int32) (so : Int32) : wp_L_isRider_108 P σ pl w q lr lw (nI r) (lr r) (encL (some v)) 1 ky wp mi so := by
  have hR := V.hR
  have h8 := BD8 σ R
  have hv := h8 r v g
  have ge : (0 : Int32) ≤ encL (some v) := by
    show nI 0 ≤ nI v
    rw [z_leN (by omega) (by omega)]; omega
  have e6 : riV σ (BD σ R) R r 6 = σ.le v - rdS σ r := by unfold riV; rw [g]; rfl
  have e7 : riV σ (BD σ R) R r 7 = mmS σ (BD σ R) R v (kyS σ r) := by show atS σ (BD σ R) R r = _; unfold atS; rw [g]
  have e8 : riV σ (BD σ R) R r 8 = faS σ (BD σ R) false r R (σ.se 3) + faS σ (BD σ R) true r R (σ.se 4) := by show frS σ (BD σ R) R r = _; unfold frS; rw [g]
  have e9 : riV σ (BD σ R) R r 9 = otS σ (BD σ R) r R := by unfold riV; rw [g]; rfl
  refine z_y ge ?_
  have main : ∃ n, wp_L_isRider_176 P σ pl w q lr lw (nI r) (lr r) (nI v) 1 ky wp mi so n (otS σ (BD σ R) r 0 + (if 0 ≤ r then -1 else 0)) (nI 0) := by
    refine z_up (fun n k => wp_L_isRider_176 P σ pl w q lr lw (nI r) (lr r) (nI v) 1 ky wp mi so n (otS σ (BD σ R) r k + (if k ≤ r then -1 else 0)) (nI k)) R (fun n => ?_) (fun n k hk ih => ?_) 0 (by omega)
    · refine z_y (by rw [hq.i5, z_leN (by omega) (by omega)]; omega) (z_t' ?_)
      rw [if_neg (by omega), z_a0]
      refine X_rid V hx hrR 6 rfl (by omega) (fun _ _ _ _ => ?_)
      rw [z_18, z_cl (by omega), hq.le v hv]
      refine ⟨z_in (by omega) (by omega), L_rd hq hr hrR (z_y' e6 ?_)⟩
      refine X_rid V hx hrR 7 rfl (by omega) (fun _ _ _ _ => L_key hr hrR (L_minute V hv h8 hq hr hw (z_y' e7 ?_)))
      refine X_rid V hx hrR 8 rfl (by omega) (fun _ _ _ _ => ?_)
      rw [hq.i3, hq.i4]
      refine L_part V h8 hq hr hw hrR _ false (L_part V h8 hq hr hw hrR _ true (z_y' e8 ?_))
      exact X_rid V hx hrR 9 rfl (by omega) (fun _ _ _ _ => z_y' e9 (h _ _ _ _))
    · refine z_n (by rw [hq.i5, z_leN (by omega) (by omega)]; omega) ⟨z_in (by omega) (by omega), ?_⟩
      rw [z_cl (by omega), hw k hk, z_s]
      rw [otS] at ih
      by_cases c : (BD σ R).1 k = some v
      · refine z_y' ((eL_some h8 hv).mpr c) ⟨z_in (by omega) (by omega), L_key hr hk (L_key hr hrR ?_)⟩
        by_cases d : kyS σ k = kyS σ r
        · refine z_y' d ?_
          have sh : shS σ (BD σ R) true r k = true := shS_s.mpr ⟨c.trans g.symm, fun _ => d⟩
          by_cases f : k = r
          · rw [if_pos f, if_neg (by omega), z_a0] at ih
            rw [if_pos (by omega), Int32.add_assoc, show (-1 : Int32) + 1 = 0 from by decide, z_a0]
            exact ih
          · rw [if_neg f, if_pos sh] at ih
            have e : (if k + 1 ≤ r then (-1 : Int32) else 0) = (if k ≤ r then -1 else 0) := by
              by_cases l : k ≤ r
              · rw [if_pos l, if_pos (by omega)]
              · rw [if_neg l, if_neg (by omega)]
            rw [e, Int32.add_assoc, Int32.add_comm 1, ← Int32.add_assoc] at ih
            exact ih
        · have f : k ≠ r := fun e => d (by rw [e])
          have sh : ¬ shS σ (BD σ R) true r k = true := fun a => d ((shS_s.mp a).2 rfl)
          rw [if_neg f, if_neg sh] at ih
          have e : (if k + 1 ≤ r then (-1 : Int32) else 0) = (if k ≤ r then -1 else 0) := by
            by_cases l : k ≤ r
            · rw [if_pos l, if_pos (by omega)]
            · rw [if_neg l, if_neg (by omega)]
          rw [e] at ih
          rw [z_a0]
          exact z_n' d ih
      · have f : k ≠ r := fun e => c (by rw [e]; exact g)
        have sh : ¬ shS σ (BD σ R) true r k = true := fun a => c ((shS_s.mp a).1.trans g)
        rw [if_neg f, if_neg sh] at ih
        have e : (if k + 1 ≤ r then (-1 : Int32) else 0) = (if k ≤ r then -1 else 0) := by
          by_cases l : k ≤ r
          · rw [if_pos l, if_pos (by omega)]
          · rw [if_neg l, if_neg (by omega)]
        rw [e] at ih
        rw [z_a0]
        exact z_n' (fun a => c ((eL_some h8 hv).mp a)) ih
  have e0 : otS σ (BD σ R) r 0 + (-1 : Int32) = -1 := Int32.zero_add _
  rw [if_pos (Nat.zero_le r), e0] at main
  exact main
theorem L_rider {w : WyT} {r : Nat} (V : SV σ R) (hx : XR σ R pl) (hq : LQ σ R q) (hr : LR σ R lr) (hw : ∀ k, k < R → lw k = encL ((BD σ R).1 k)) (hrR : r < R) (h : ∀ ky wp mi so, P 1 ky wp mi so) : wp_L_isRider P σ pl w q lr lw (nI r) := by
  have hR := V.hR
  have ir : vp_in (nI r) 24 := z_in (by omega) (by omega)
  have h8 := BD8 σ R
  refine ⟨ir, ir, ?_⟩
  rw [z_cl (n := r) (by omega), hw r hrR]
  refine X_rid V hx hrR 0 rfl (by omega) (fun _ _ _ _ => L_fl hr hrR (z_y' rfl ?_))
  refine X_rid V hx hrR 1 rfl (by omega) (fun _ _ _ _ => L_ar hr hrR (z_y' rfl ?_))
  refine X_rid V hx hrR 2 rfl (by omega) (fun _ _ _ _ => L_dr hr hrR (z_y' rfl ?_))
  refine X_rid V hx hrR 3 rfl (by omega) (fun _ _ _ _ => L_pe hr hrR (z_y' rfl ?_))
  refine X_rid V hx hrR 4 rfl (by omega) (fun _ _ _ _ => L_rd hq hr hrR (z_y' rfl ?_))
  refine X_rid V hx hrR 5 rfl (by omega) (fun ky wp mi so => ?_)
  cases g : (BD σ R).1 r with
  | none =>
    have e5 : riV σ (BD σ R) R r 5 = -106 := by show enc ((BD σ R).1 r) = -106; rw [g]; rfl
    exact z_n (fun a => (encL_neg a).elim) (z_y' e5 (L_r108n V hx hq hr hw hrR g h _ _ _ _))
  | some v =>
    have hv := h8 r v g
    have ge : (0 : Int32) ≤ encL (some v) := by
      show nI 0 ≤ nI v
      rw [z_leN (by omega) (by omega)]; omega
    have e5 : riV σ (BD σ R) R r 5 = encL (some v) := by show enc ((BD σ R).1 r) = _; rw [g]; rfl
    exact z_y ge (z_y' e5 (L_r108s V hx hq hr hw hrR g h _ _ _ _))
/-! ===== a van is as the class tells it ===== -/
theorem L_van {w : WyT} {v p : Nat} (V : SV σ R) (hx : XR σ R pl) (hq : LQ σ R q) (hr : LR σ R lr) (hg : LG σ R lw lg) (hv : v < 8) (hp : p < 24) (h : ∀ ky wp mi so, P 1 ky wp mi so) : wp_L_isVan P σ pl w q lr lw lg (nI v) (nI p) := by
  have hR := V.hR
  have h8 := BD8 σ R
  have hw := hg.w
  have hS := saS_le (σ := σ) (b := BD σ R) (van := v) (K := (1000 : Int32)) R
  refine L_ahead hv h8 hR hq hr hw ?_
  -- the answers, once the loops are done
  have ask349 : ∀ ky wp mi so, wp_L_isVan_349 P σ pl w q lr lw lg (nI v) (nI p) (skS σ (BD σ R) R v p R) (nI (saS σ (BD σ R) v (1000 : Int32) R)) (zS (goS σ (BD σ R) v (skS σ (BD σ R) R v p R)) R) 1 ky wp mi so := by
    intro ky wp mi so
    by_cases c : p < saS σ (BD σ R) v (1000 : Int32) R
    · refine z_y (by rw [z_ltN (by omega) (by omega)]; exact c) (z_t' ?_)
      refine X_stp V hx hv hp 0 rfl (by omega) (fun g => absurd g (by omega)) (fun _ _ _ _ _ => z_y' rfl ?_)
      refine X_stp V hx hv hp 1 rfl (by omega) (fun g => absurd g (by omega)) (fun _ _ _ _ _ => z_y' rfl ?_)
      refine X_stp V hx hv hp 2 rfl (by omega) (fun g => absurd g (by omega)) (fun _ _ _ _ _ => L_minute V hv h8 hq hr hw (z_y' rfl ?_))
      refine X_stp V hx hv hp 3 rfl (by omega) (fun g => absurd g (by omega)) (fun _ _ _ _ _ => z_y' rfl ?_)
      exact X_stp V hx hv hp 4 rfl (by omega) (fun g => absurd g (by omega)) (fun _ _ _ _ _ => z_y' rfl (h _ _ _ _))
    · refine z_n (by rw [z_ltN (by omega) (by omega)]; exact c) (z_t' ?_)
      exact X_stp V hx hv hp 0 rfl (by omega) (fun _ _ _ _ _ => z_y' rfl (h _ _ _ _)) (fun g => absurd g c)
  have ask : ∀ ky wp mi so, ∃ n, wp_L_isVan_150 P σ pl w q lr lw lg (nI v) (nI p) (riS (BD σ R) v R) (lkS σ (BD σ R) v R) (skS σ (BD σ R) R v p R) (nI (saS σ (BD σ R) v (1000 : Int32) R)) ky wp mi so n 0 0 := by
    intro ky wp mi so
    refine z_up (fun n k => wp_L_isVan_150 P σ pl w q lr lw lg (nI v) (nI p) (riS (BD σ R) v R) (lkS σ (BD σ R) v R) (skS σ (BD σ R) R v p R) (nI (saS σ (BD σ R) v (1000 : Int32) R)) ky wp mi so n (zS (goS σ (BD σ R) v (skS σ (BD σ R) R v p R)) k) (nI k)) R (fun n => ?_) (fun n k hk ih => ?_) 0 (by omega)
    · refine z_y (by rw [hq.i5, z_leN (by omega) (by omega)]; omega) ?_
      rw [z_18, z_26, z_8, z_cl (n := 18 + v) (by omega), z_cl (n := 26 + v) (by omega), z_cl (n := 8 + v) (by omega), z_cl (n := v) (by omega), hq.le v hv, hq.sa v hv, hg.g v hv, hg.a v hv]
      refine X_vn V hx hv 0 rfl (by omega) (fun _ _ _ _ => ⟨z_in (by omega) (by omega), z_y' rfl ?_⟩)
      refine X_vn V hx hv 1 rfl (by omega) (fun _ _ _ _ => ⟨z_in (by omega) (by omega), z_y' rfl ?_⟩)
      refine X_vn V hx hv 2 rfl (by omega) (fun _ _ _ _ => ⟨z_in (by omega) (by omega), z_y' rfl ?_⟩)
      refine X_vn V hx hv 3 rfl (by omega) (fun _ _ _ _ => z_y' rfl ?_)
      refine X_vn V hx hv 4 rfl (by omega) (fun _ _ _ _ => ⟨z_in (by omega) (by omega), z_y' rfl ?_⟩)
      refine X_vn V hx hv 5 rfl (by omega) (fun _ _ _ _ => z_y' rfl ?_)
      refine X_vn V hx hv 6 rfl (by omega) (fun ky wp mi so => ?_)
      have z0 : nI (saS σ (BD σ R) v (1000 : Int32) R) = 0 ↔ saS σ (BD σ R) v (1000 : Int32) R = 0 := by
        rw [show (0 : Int32) = nI 0 from rfl, z_eqN (by omega) (by omega)]
      by_cases c : saS σ (BD σ R) v (1000 : Int32) R = 0
      · have e6 : vaV σ (BD σ R) R v 6 = -106 := if_pos c
        have e7 : vaV σ (BD σ R) R v 7 = 0 := if_pos c
        exact ⟨fun a => absurd (z0.mpr c) a, fun _ => z_y' e6 (X_vn V hx hv 7 rfl (by omega) (fun ky wp mi so => ⟨fun a => absurd (z0.mpr c) a, fun _ => z_y' e7 (ask349 _ _ _ _)⟩))⟩
      · have e6 : vaV σ (BD σ R) R v 6 = mmS σ (BD σ R) R v (lkS σ (BD σ R) v R) := if_neg c
        have e7 : vaV σ (BD σ R) R v 7 = σ.se 3 + σ.se 4 * nI (saS σ (BD σ R) v (1000 : Int32) R) := if_neg c
        exact ⟨fun _ => L_minute V hv h8 hq hr hw (z_y' e6 (X_vn V hx hv 7 rfl (by omega) (fun ky wp mi so => ⟨fun _ => z_y' (by rw [hq.i3, hq.i4]; exact e7) (ask349 _ _ _ _), fun a => absurd (z0.mp a) c⟩))), fun a => absurd (z0.mp a) c⟩
    · refine z_n (by rw [hq.i5, z_leN (by omega) (by omega)]; omega) ⟨z_in (by omega) (by omega), ?_⟩
      rw [z_cl (by omega), hw k hk, z_s]
      have e : zS (goS σ (BD σ R) v (skS σ (BD σ R) R v p R)) (k + 1) = zS (goS σ (BD σ R) v (skS σ (BD σ R) R v p R)) k + goS σ (BD σ R) v (skS σ (BD σ R) R v p R) k := rfl
      rw [e] at ih
      by_cases c : (BD σ R).1 k = some v
      · refine z_y' ((eL_some h8 hv).mpr c) ⟨z_in (by omega) (by omega), L_key hr hk ?_⟩
        by_cases d : kyS σ k = skS σ (BD σ R) R v p R
        · have e2 : goS σ (BD σ R) v (skS σ (BD σ R) R v p R) k = σ.pe k := if_pos ⟨c, d⟩
          rw [e2] at ih
          exact z_y' d ⟨z_in (by omega) (by omega), L_pe hr hk ih⟩
        · have e2 : goS σ (BD σ R) v (skS σ (BD σ R) R v p R) k = 0 := if_neg (fun a => d a.2)
          rw [e2] at ih
          exact z_n' d ih
      · have e2 : goS σ (BD σ R) v (skS σ (BD σ R) R v p R) k = 0 := if_neg (fun a => c a.1)
        rw [e2] at ih
        exact z_n' (fun a => c ((eL_some h8 hv).mp a)) ih
  refine z_up (fun n k => wp_L_isVan_29 P σ pl w q lr lw lg (nI v) (nI p) (nI (saS σ (BD σ R) v (1000 : Int32) R)) 0 w.ky w.wp w.mi w.so n (riS (BD σ R) v k) (lkS σ (BD σ R) v k) (skS σ (BD σ R) R v p k) (nI k)) R (fun n => ?_) (fun n k hk ih => ?_) 0 (by omega)
  · exact z_y (by rw [hq.i5, z_leN (by omega) (by omega)]; omega) (ask _ _ _ _)
  · have ik : vp_in (nI k) 24 := z_in (by omega) (by omega)
    refine z_n (by rw [hq.i5, z_leN (by omega) (by omega)]; omega) ⟨ik, ?_⟩
    rw [z_cl (by omega), hw k hk]
    rw [riS, lkS, skS] at ih
    by_cases c : (BD σ R).1 k = some v
    · have e1 := (eL_some h8 hv).mpr c
      rw [if_pos c] at ih
      have s94 : ∀ l : Int32, l = (@ite _ ((BD σ R).1 k = some v ∧ lkS σ (BD σ R) v k < kyS σ k) (Classical.propDecidable _) (kyS σ k) (lkS σ (BD σ R) v k)) → wp_L_isVan_94 P σ pl w q lr lw lg (nI v) (nI p) (wp_L_isVan_29 P σ pl w q lr lw lg (nI v) (nI p) (nI (saS σ (BD σ R) v (1000 : Int32) R)) 0 w.ky w.wp w.mi w.so n) (riS (BD σ R) v k ||| ((1 : Int32) <<< (nI k &&& 31))) (skS σ (BD σ R) R v p k) (nI (saS σ (BD σ R) v (1000 : Int32) R)) 0 (nI k) l w.ky w.wp w.mi w.so := by
        intro l hl
        rw [← hl] at ih
        refine ⟨ik, ?_⟩
        rw [z_cl (by omega), hw k hk, z_s]
        refine z_y' e1 ⟨ik, L_key hr hk (L_ahead hv h8 hR hq hr hw ?_)⟩
        have hs2 := saS_le (σ := σ) (b := BD σ R) (van := v) (K := kyS σ k) R
        by_cases d : saS σ (BD σ R) v (kyS σ k) R = p
        · rw [if_pos ⟨c, d⟩] at ih
          exact z_y' (by rw [d]) ⟨ik, L_key hr hk ih⟩
        · rw [if_neg (fun a => d a.2)] at ih
          exact z_n' (by rw [z_eqN (by omega) (by omega)]; exact d) ih
      refine z_y' e1 ⟨ik, ?_⟩
      rw [z_cl (by omega), hw k hk]
      refine z_y' e1 ⟨ik, L_key hr hk ?_⟩
      by_cases d : lkS σ (BD σ R) v k < kyS σ k
      · exact z_n (by rw [z_le]; rw [z_lt] at d; omega) ⟨ik, L_key hr hk (s94 _ (by rw [if_pos ⟨c, d⟩]))⟩
      · exact z_y (by rw [z_le]; rw [z_lt] at d; omega) (s94 _ (by rw [if_neg (fun a => d a.2)]))
    · have e1 : ¬ encL ((BD σ R).1 k) = nI v := fun a => c ((eL_some h8 hv).mp a)
      rw [if_neg c, if_neg (fun a => c a.1), if_neg (fun a => c a.1)] at ih
      refine z_n' e1 ⟨ik, ?_⟩
      rw [z_cl (by omega), hw k hk]
      refine z_n' e1 ⟨ik, ?_⟩
      rw [z_cl (by omega), hw k hk, z_s, or_0]
      exact z_n' e1 ih
end LIR
