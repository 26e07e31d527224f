/-! ===== cancel ===== -/
def shf (s : Nat) (f : Nat → Int32) (a k : Nat) : Nat → Int32 := fun i => if a ≤ i ∧ i < k then f (i + s) else f i
theorem shf_0 (s : Nat) (f : Nat → Int32) (a : Nat) : shf s f a a = f := funext fun i => if_neg (by omega)
theorem shf_s {s : Nat} {f : Nat → Int32} {a k : Nat} (h : a ≤ k) (hs : 0 < s) : upd (shf s f a k) k (shf s f a k (k + s)) = shf s f a (k + 1) := by
  funext i
  rw [z_upd]
  unfold shf
  by_cases c : i = k
  · rw [if_pos c, if_neg (by omega), if_pos (by omega), c]
  · rw [if_neg c]
    by_cases d : a ≤ i ∧ i < k
    · rw [if_pos d, if_pos (by omega)]
    · rw [if_neg d, if_neg (by omega)]
def remS (σ : StT) (r Q : Nat) : StT := mkSt σ.se σ.la σ.de σ.le σ.sa (shf 1 σ.fl r Q) (shf 1 σ.ar r Q) (shf 1 σ.dr r Q) (shf 1 σ.pe r Q) (nI Q)
theorem X_rem {P : (Nat → Int32) → (Nat → Int32) → (Nat → Int32) → (Nat → Int32) → Int32 → Prop} {σ : StT} {Q r : Nat} (V : SV σ (Q + 1)) (hr : r < Q + 1) (h : P (shf 1 σ.fl r Q) (shf 1 σ.ar r Q) (shf 1 σ.dr r Q) (shf 1 σ.pe r Q) (nI Q)) : wp_X3_removeRider P σ (nI r) := by
  have hR := V.hR
  have e : ∃ n, wp_X3_removeRider_2 P σ (nI r) σ.ri n (nI r) (shf 1 σ.fl r r) (shf 1 σ.ar r r) (shf 1 σ.dr r r) (shf 1 σ.pe r r) := by
    rw [V.ri]
    refine z_up (fun n k => r ≤ k → wp_X3_removeRider_2 P σ (nI r) (nI (Q + 1)) n (nI k) (shf 1 σ.fl r k) (shf 1 σ.ar r k) (shf 1 σ.dr r k) (shf 1 σ.pe r k)) Q (fun n => ?_) (fun n k hk ih => ?_) r (by omega) |>.imp (fun n hn => hn (Nat.le_refl r))
    · intro _
      unfold wp_X3_removeRider_2 wp_X3_removeRider_2F
      rw [z_p]
      exact z_y (by rw [z_leN (by omega) (by omega)]; omega) h
    · intro hrk
      unfold wp_X3_removeRider_2 wp_X3_removeRider_2F
      rw [z_p, z_s]
      refine z_n (by rw [z_leN (by omega) (by omega)]; omega) ?_
      rw [z_cl (by omega), z_cl (by omega)]
      rw [shf_s hrk (by omega), shf_s hrk (by omega), shf_s hrk (by omega), shf_s hrk (by omega)]
      have i1 : vp_in (nI (k + 1)) 24 := z_in (by omega) (by omega)
      have i2 : vp_in (nI k) 24 := z_in (by omega) (by omega)
      exact ⟨i1, i2, i1, i2, i1, i2, i1, i2, ih (by omega)⟩
  rw [shf_0, shf_0, shf_0, shf_0] at e
  exact e
theorem shf_in {s : Nat} {f : Nat → Int32} {a k i : Nat} (h : a ≤ i) (h2 : i < k) : shf s f a k i = f (i + s) := if_pos ⟨h, h2⟩
theorem shf_out {s : Nat} {f : Nat → Int32} {a k i : Nat} (h : i < a ∨ k ≤ i) : shf s f a k i = f i := if_neg (by omega)
theorem z_shf {T : Int32 → Prop} {f : Nat → Int32} {Q r : Nat} (h : ∀ i, i < Q + 1 → T (f i)) : ∀ i, i < Q → T (shf 1 f r Q i) := by
  intro i hi
  by_cases c : r ≤ i
  · rw [shf_in c hi]; exact h _ (by omega)
  · rw [shf_out (by omega)]; exact h _ (by omega)
theorem SV.rem {σ : StT} {Q r : Nat} (V : SV σ (Q + 1)) : SV (remS σ r Q) Q :=
  ⟨rfl, by have := V.hR; omega, V.se0, V.se1, V.se2, V.se3, V.se4, V.la, V.de, V.le, V.sa, z_shf (T := fun x => z_is x 6) V.fl, z_shf (T := fun x => z_is x 6) V.ar, z_shf (T := fun x => z_is x 100) V.dr, z_shf (T := fun x => 1 ≤ x.toInt ∧ x.toInt ≤ 4) V.pe⟩
