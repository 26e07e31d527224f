/-! ===== wipe, undo, save, restore ===== -/
/-- a row copied, number by number -/
theorem z_copy {P : (Nat → Int32) → Prop} {W : Nat → Int32 → (Nat → Int32) → Prop} {dst src : Nat → Int32} (a : Nat) (N : Nat)
    (h : ∀ d', (∀ k, k < N → d' (a + k) = src k) → (∀ k, k < a ∨ a + N ≤ k → d' k = dst k) → P d')
    (h0 : ∀ n d, P d → W (n + 1) (nI N) d)
    (hs : ∀ n j d, j < N → W n (nI (j + 1)) (upd d (a + j) (src j)) → W (n + 1) (nI j) d) : ∃ n, W n 0 dst := by
  suffices hh : ∃ n, ∀ d, (∀ k, k < 0 → d (a + k) = src k) → (∀ k, k < a ∨ a + N ≤ k → d k = dst k) → W n (nI 0) d by
    obtain ⟨n, hn⟩ := hh
    exact ⟨n, hn _ (fun k hk => absurd hk (by omega)) (fun _ _ => rfl)⟩
  refine z_up (fun n j => ∀ d, (∀ k, k < j → d (a + k) = src k) → (∀ k, k < a ∨ a + N ≤ k → d k = dst k) → W n (nI j) d) N (fun n => ?_) (fun n j hj ih => ?_) 0 (by omega)
  · intro d h1 h2
    exact h0 n d (h d h1 h2)
  · intro d h1 h2
    refine hs n j d hj (ih _ (fun k hk => ?_) (fun k hk => ?_))
    · by_cases c : k = j
      · rw [c, z_us]
      · rw [z_un (by omega)]; exact h1 k (by omega)
    · rw [z_un (by omega)]; exact h2 k hk
