/-! ===== the text, as the reference reads it ===== -/
theorem z_0le {a b : Int32} (h : 0 < a.toInt) : ¬ (a ≤ (0 : Int32) ∧ (0 : Int32) ≤ b) := fun e => by
  have := z_le.mp e.1
  rw [z_00] at this
  omega
theorem M_next0 {P : Int32 → Prop} {c : Nat → Int32} {n p : Nat} (h60 : n ≤ 60) (hp : p ≤ n) (h1 : p < n → P (c p)) (h0 : p = n → P 0) : wp_X6_next P c (nI n) (nI p) := by
  unfold wp_X6_next
  by_cases g : p < n
  · refine z_n (by rw [z_leN (by omega) (by omega)]; omega) ⟨z_in (by omega) (by omega), ?_⟩
    rw [z_cl (by omega)]; exact h1 g
  · exact z_y (by rw [z_leN (by omega) (by omega)]; omega) (h0 (by omega))
theorem M_sign {P : Int32 → Int32 → (Nat → Int32) → Prop} {c it : Nat → Int32} {n p k : Nat} {a b : Int32} (h60 : n ≤ 60) (hp : p ≤ n) (hk : k < 4) (ha : 0 < a.toInt)
    (h1 : p < n → (a ≤ c p ∧ c p ≤ b) → P 1 (nI (p + 1)) (upd it k (c p - a)))
    (h0 : ¬ (p < n ∧ a ≤ c p ∧ c p ≤ b) → P 0 (nI p) it) : wp_X6_readsSign P c (nI n) (nI p) it (nI k) a b := by
  have ik : vp_in (nI k) 4 := z_in hk (by omega)
  have ck : (nI k).toNatClampNeg = k := z_cl (by omega)
  refine M_next0 h60 hp (fun g => ?_) (fun g => ?_)
  · by_cases d : a ≤ c p ∧ c p ≤ b
    · refine Mw_t d (z_t' (M_next0 h60 hp (fun _ => ⟨ik, z_t' ⟨z_b1, ?_⟩⟩) (fun e => absurd e (by omega))))
      rw [ck, z_s]; exact h1 g d
    · refine Mw_f d (z_f' ⟨ik, ik, z_f' ⟨z_b0, ?_⟩⟩)
      rw [ck, upd_id, z_a0]
      exact h0 (fun e => d e.2)
  · refine Mw_f (z_0le ha) (z_f' ⟨ik, ik, z_f' ⟨z_b0, ?_⟩⟩)
    rw [ck, upd_id, z_a0]
    exact h0 (fun e => by omega)
/-- the first fault from state s at place p -/
def FX (c : Nat → Int32) (n s p : Nat) : Int32 := fxS c n (n - p) s
theorem FX_lt {c : Nat → Int32} {n s p : Nat} (h : p < n) : FX c n s p = if aftS s (c p) = 7 then nI p else FX c n (aftS s (c p)) (p + 1) := by
  unfold FX
  obtain ⟨f, e⟩ : ∃ f, n - p = f + 1 := ⟨n - p - 1, by omega⟩
  rw [e, fxS, show n - (f + 1) = p from by omega, show n - (p + 1) = f from by omega]
theorem FX_n {c : Nat → Int32} {n s : Nat} : FX c n s n = if s = 3 ∨ s = 4 ∨ s = 6 then -106 else nI n := by
  unfold FX; rw [Nat.sub_self, fxS]
/-- one step on, or a fault here -/
theorem FX_go {c : Nat → Int32} {n s q p : Nat} (h : p < n) (ha : aftS s (c p) = q) (hq : q ≠ 7) : FX c n s p = FX c n q (p + 1) := by
  rw [FX_lt h, ha, if_neg hq]
theorem FX_no {c : Nat → Int32} {n s p : Nat} (hp : p ≤ n) (hs : s ≠ 3 ∧ s ≠ 4 ∧ s ≠ 6) (h : p < n → aftS s (c p) = 7) : FX c n s p = nI p := by
  rcases Nat.lt_or_ge p n with g | g
  · rw [FX_lt g, if_pos (h g)]
  · have e : p = n := by omega
    subst e
    rw [FX_n, if_neg (by omega)]
/-- a rider ends at place e in state s -/
def RE (c : Nat → Int32) (n p e s : Nat) : Prop := (e ≤ n) ∧ (p + 3 ≤ e) ∧ (s = 3 ∨ s = 4 ∨ s = 6) ∧ (e < n → c e ≠ 44 → aftS s (c e) = 7) ∧ (e < n → c e = 44 → aftS s (c e) = 0) ∧ (FX c n 0 p = FX c n s e)
theorem RE.le {c : Nat → Int32} {n p e s : Nat} (h : RE c n p e s) : e ≤ n := h.1
theorem RE.gt {c : Nat → Int32} {n p e s : Nat} (h : RE c n p e s) : p + 3 ≤ e := h.2.1
theorem RE.st {c : Nat → Int32} {n p e s : Nat} (h : RE c n p e s) : s = 3 ∨ s = 4 ∨ s = 6 := h.2.2.1
theorem RE.no {c : Nat → Int32} {n p e s : Nat} (h : RE c n p e s) : e < n → c e ≠ 44 → aftS s (c e) = 7 := h.2.2.2.1
theorem RE.go {c : Nat → Int32} {n p e s : Nat} (h : RE c n p e s) : e < n → c e = 44 → aftS s (c e) = 0 := h.2.2.2.2.1
theorem RE.eq {c : Nat → Int32} {n p e s : Nat} (h : RE c n p e s) : FX c n 0 p = FX c n s e := h.2.2.2.2.2
theorem z_120 : (0 : Int32) ≠ 120 := by decide
theorem M_94 {P : Int32 → Int32 → (Nat → Int32) → Prop} {c it : Nat → Int32} {n p q s : Nat} (h60 : n ≤ 60) (hq : q ≤ n) (hpq : p + 3 ≤ q) (hs : s = 3 ∨ s = 4) (hd : s = 3 → q < n → ¬ ((48 : Int32) ≤ c q ∧ c q ≤ (57 : Int32))) (he : FX c n 0 p = FX c n s q)
    (h1 : ∀ e s' it', RE c n p e s' → P 1 (nI e) it') (h0 : ∀ e it', FX c n 0 p = nI e → P 0 (nI e) it') : wp_X6_readsRider_94 P c (nI n) (nI q) it := by
  have ad : q < n → aftS s (c q) = adS (c q) := by
    intro g
    rcases hs with e | e
    · subst e; simp only [aftS, hd rfl g, if_false, reduceIte, Nat.reduceEqDiff]
    · subst e; simp only [aftS, if_false, reduceIte, Nat.reduceEqDiff]
  refine M_next0 h60 hq (fun g => ?_) (fun g => ?_)
  · by_cases d : c q = 120
    · refine z_y d ?_
      rw [z_s]
      have a5 : aftS s (c q) = 5 := by rw [ad g]; exact if_pos d
      refine M_sign (k := 3) h60 (by omega) (by omega) (by decide) (fun g2 d2 => ⟨z_b1, ?_⟩) (fun d2 => ⟨z_b0, ?_⟩)
      · have a6 : aftS 5 (c (q + 1)) = 6 := by simp only [aftS, d2, and_self, if_true, if_false, reduceIte, Nat.reduceEqDiff]
        refine h1 (q + 1 + 1) 6 _ ⟨by omega, by omega, by omega, fun _ z => by simp only [aftS, z, if_false, reduceIte, Nat.reduceEqDiff], fun _ z => by simp only [aftS, z, if_true, if_false, reduceIte, Nat.reduceEqDiff], ?_⟩
        rw [he, FX_go g a5 (by omega), FX_go g2 a6 (by omega)]
      · refine h0 (q + 1) _ ?_
        rw [he, FX_go g a5 (by omega)]
        refine FX_no (by omega) (by omega) (fun g2 => ?_)
        have d3 : ¬ ((49 : Int32) ≤ c (q + 1) ∧ c (q + 1) ≤ (52 : Int32)) := fun z => d2 ⟨g2, z⟩
        simp only [aftS, d3, if_false, reduceIte, Nat.reduceEqDiff]
    · refine z_n d (h1 q s _ ⟨hq, hpq, by omega, fun _ z => ?_, fun _ z => ?_, he⟩)
      · rw [ad g]; unfold adS; rw [if_neg d, if_neg z]
      · rw [ad g]; unfold adS; rw [if_neg d, if_pos z]
  · exact z_n z_120 (h1 q s _ ⟨hq, hpq, by omega, fun z => absurd z (by omega), fun z => absurd z (by omega), he⟩)
