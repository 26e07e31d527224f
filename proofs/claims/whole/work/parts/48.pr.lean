/-! ===== the text, as the reference reads it ===== -/
theorem z_0le {a b : Int32} (h : 0 < a.toInt) : ¬ (a ≤ (0 : Int32) ∧ (0 : Int32) ≤ b) := fun e => by
  have := z_le.mp e.1
  rw [z_00] at this
  omega
theorem M_next0 {P : Int32 → Prop} {c : Nat → Int32} {n p : Nat} (h60 : n ≤ 60) (hp : p ≤ n) (h1 : p < n → P (c p)) (h0 : p = n → P 0) : wp_X6_next P c (nI n) (nI p) := by
  unfold wp_X6_next
  by_cases g : p < n
  · refine z_n (by rw [z_leN (by omega) (by omega)]; omega) ⟨z_in (by omega) (by omega), ?_⟩
    rw [z_cl (by omega)]; exact h1 g
  · exact z_y (by rw [z_leN (by omega) (by omega)]; omega) (h0 (by omega))
theorem M_sign {P : Int32 → Int32 → (Nat → Int32) → Prop} {c it : Nat → Int32} {n p k : Nat} {a b : Int32} (h60 : n ≤ 60) (hp : p ≤ n) (hk : k < 4) (ha : 0 < a.toInt)
    (h1 : p < n → (a ≤ c p ∧ c p ≤ b) → P 1 (nI (p + 1)) (upd it k (c p - a)))
    (h0 : ¬ (p < n ∧ a ≤ c p ∧ c p ≤ b) → P 0 (nI p) it) : wp_X6_readsSign P c (nI n) (nI p) it (nI k) a b := by
  have ik : vp_in (nI k) 4 := z_in hk (by omega)
  have ck : (nI k).toNatClampNeg = k := z_cl (by omega)
  refine M_next0 h60 hp (fun g => ?_) (fun g => ?_)
  · by_cases d : a ≤ c p ∧ c p ≤ b
    · refine Mw_t d (z_t' (M_next0 h60 hp (fun _ => ⟨ik, z_t' ⟨z_b1, ?_⟩⟩) (fun e => absurd e (by omega))))
      rw [ck, z_s]; exact h1 g d
    · refine Mw_f d (z_f' ⟨ik, ik, z_f' ⟨z_b0, ?_⟩⟩)
      rw [ck, upd_id, z_a0]
      exact h0 (fun e => d e.2)
  · refine Mw_f (z_0le ha) (z_f' ⟨ik, ik, z_f' ⟨z_b0, ?_⟩⟩)
    rw [ck, upd_id, z_a0]
    exact h0 (fun e => by omega)
