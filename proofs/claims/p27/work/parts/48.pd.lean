/-! ===== van, ride, rebook ===== -/
/-- a state with one rider more -/
def addS (σ : StT) (R : Nat) (a b c d : Int32) : StT := mkSt σ.se σ.la σ.de σ.le σ.sa (upd σ.fl R a) (upd σ.ar R b) (upd σ.dr R c) (upd σ.pe R d) (nI (R + 1))
theorem z_ups {Q : Int32 → Prop} {f : Nat → Int32} {R : Nat} {x : Int32} (h : ∀ r, r < R → Q (f r)) (hx : Q x) : ∀ r, r < R + 1 → Q (upd f R x r) := by
  intro r hr
  by_cases c : r = R
  · rw [c, z_us]; exact hx
  · rw [z_un c]; exact h r (by omega)
theorem SV.add {σ : StT} {R : Nat} (V : SV σ R) (hR : R < 24) {a b c d : Int32} (ha : z_is a 6) (hb : z_is b 6) (hc : z_is c 100) (hd : 1 ≤ d.toInt ∧ d.toInt ≤ 4) : SV (addS σ R a b c d) (R + 1) :=
  ⟨rfl, hR, V.se0, V.se1, V.se2, V.se3, V.se4, V.la, V.de, V.le, V.sa, z_ups (Q := fun x => z_is x 6) V.fl ha, z_ups (Q := fun x => z_is x 6) V.ar hb, z_ups (Q := fun x => z_is x 100) V.dr hc, z_ups (Q := fun x => 1 ≤ x.toInt ∧ x.toInt ≤ 4) V.pe hd⟩
theorem X_add {P : (Nat → Int32) → (Nat → Int32) → (Nat → Int32) → (Nat → Int32) → Int32 → Prop} {σ : StT} {R : Nat} (hr : σ.ri = nI R) (hR : R < 24) {a b c d : Int32} (h : P (upd σ.fl R a) (upd σ.ar R b) (upd σ.dr R c) (upd σ.pe R d) (nI (R + 1))) : wp_X3_addRider P σ a b c d := by
  unfold wp_X3_addRider
  rw [hr]
  refine z_y (by rw [show (24 : Int32) = nI 24 from rfl, z_ltN (by omega) (by omega)]; omega) ⟨z_in hR (by omega), z_in hR (by omega), z_in hR (by omega), z_in hR (by omega), ?_⟩
  rw [z_cl (by omega), z_s]; exact h
theorem z_isL {x a b : Int32} {n : Nat} (h : a ≤ x ∧ x ≤ b) (ha : a = 0) (hb : b = nI n) (hn : n < 2147483647) : z_is x (n + 1) := by
  rw [z_is_iff (by omega)]
  have h2 := z_b h
  rw [ha, hb, z_nI (by omega), z_00] at h2
  omega
