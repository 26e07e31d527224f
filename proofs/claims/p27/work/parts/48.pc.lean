/-! ===== the questions whether a number is a flight, a van, a rider ===== -/
theorem Xf_t {P : Int32 → Prop} {x : Int32} (h : z_is x 6) (p : P 1) : wp_X5_isFlight P x := z_in_t 5 (by omega) h ⟨z_b1, p⟩
theorem Xf_f {P : Int32 → Prop} {x : Int32} (h : ¬ z_is x 6) (p : P 0) : wp_X5_isFlight P x := z_in_f 5 (by omega) h ⟨z_b0, p⟩
theorem Xv_t {P : Int32 → Prop} {x : Int32} (h : z_is x 8) (p : P 1) : wp_X5_isVan P x := z_in_t 7 (by omega) h ⟨z_b1, p⟩
theorem Xv_f {P : Int32 → Prop} {x : Int32} (h : ¬ z_is x 8) (p : P 0) : wp_X5_isVan P x := z_in_f 7 (by omega) h ⟨z_b0, p⟩
theorem z_r_t {P : Int32 → Prop} {x : Int32} {R : Nat} (hR : R ≤ 24) (h : z_is x R) (p : P 1) : wp_X5_isIn P x 0 (nI R - 1) := by
  obtain ⟨j, hj, rfl⟩ := h
  obtain ⟨q, rfl⟩ : ∃ q, R = q + 1 := ⟨R - 1, by omega⟩
  rw [z_p]
  exact z_in_t q (by omega) ⟨j, hj, rfl⟩ p
theorem z_r_f {P : Int32 → Prop} {x : Int32} {R : Nat} (hR : R ≤ 24) (h : ¬ z_is x R) (p : P 0) : wp_X5_isIn P x 0 (nI R - 1) := by
  refine z_isIn_f ?_ p
  rintro ⟨h1, h2⟩
  apply h
  rw [z_is_iff (by omega)]
  rw [z_le] at h1 h2
  have e := z_nI (n := R) (by omega)
  have e1 : (1 : Int32).toInt = 1 := by decide
  rw [z_sub (by omega) (by omega), e, e1] at h2
  rw [z_00] at h1
  omega
theorem Xr_t {P : Int32 → Prop} {σ : StT} {R : Nat} (V : SV σ R) {x : Int32} (h : z_is x R) (p : P 1) : wp_X5_isRider P σ x := by
  unfold wp_X5_isRider; rw [V.ri]; exact z_r_t V.hR h ⟨z_b1, p⟩
theorem Xr_f {P : Int32 → Prop} {σ : StT} {R : Nat} (V : SV σ R) {x : Int32} (h : ¬ z_is x R) (p : P 0) : wp_X5_isRider P σ x := by
  unfold wp_X5_isRider; rw [V.ri]; exact z_r_f V.hR h ⟨z_b0, p⟩
theorem z_b {x a b : Int32} (h : a ≤ x ∧ x ≤ b) : a.toInt ≤ x.toInt ∧ x.toInt ≤ b.toInt := ⟨z_le.mp h.1, z_le.mp h.2⟩
/-! ===== a plan of the class from that of the reference ===== -/
