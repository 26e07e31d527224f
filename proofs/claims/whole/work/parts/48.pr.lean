/-! ===== the text, as the reference reads it ===== -/
theorem z_0le {a b : Int32} (h : 0 < a.toInt) : ¬ (a ≤ (0 : Int32) ∧ (0 : Int32) ≤ b) := fun e => by
  have := z_le.mp e.1
  rw [z_00] at this
  omega
theorem M_next0 {P : Int32 → Prop} {c : Nat → Int32} {n p : Nat} (h60 : n ≤ 60) (hp : p ≤ n) (h1 : p < n → P (c p)) (h0 : p = n → P 0) : wp_X6_next P c (nI n) (nI p) := by
  unfold wp_X6_next
  by_cases g : p < n
  · refine z_n (by rw [z_leN (by omega) (by omega)]; omega) ⟨z_in (by omega) (by omega), ?_⟩
    rw [z_cl (by omega)]; exact h1 g
  · exact z_y (by rw [z_leN (by omega) (by omega)]; omega) (h0 (by omega))
theorem M_sign {P : Int32 → Int32 → (Nat → Int32) → Prop} {c it : Nat → Int32} {n p k : Nat} {a b : Int32} (h60 : n ≤ 60) (hp : p ≤ n) (hk : k < 4) (ha : 0 < a.toInt)
    (h1 : p < n → (a ≤ c p ∧ c p ≤ b) → P 1 (nI (p + 1)) (upd it k (c p - a)))
    (h0 : ¬ (p < n ∧ a ≤ c p ∧ c p ≤ b) → P 0 (nI p) it) : wp_X6_readsSign P c (nI n) (nI p) it (nI k) a b := by
  have ik : vp_in (nI k) 4 := z_in hk (by omega)
  have ck : (nI k).toNatClampNeg = k := z_cl (by omega)
  refine M_next0 h60 hp (fun g => ?_) (fun g => ?_)
  · by_cases d : a ≤ c p ∧ c p ≤ b
    · refine Mw_t d (z_t' (M_next0 h60 hp (fun _ => ⟨ik, z_t' ⟨z_b1, ?_⟩⟩) (fun e => absurd e (by omega))))
      rw [ck, z_s]; exact h1 g d
    · refine Mw_f d (z_f' ⟨ik, ik, z_f' ⟨z_b0, ?_⟩⟩)
      rw [ck, upd_id, z_a0]
      exact h0 (fun e => d e.2)
  · refine Mw_f (z_0le ha) (z_f' ⟨ik, ik, z_f' ⟨z_b0, ?_⟩⟩)
    rw [ck, upd_id, z_a0]
    exact h0 (fun e => by omega)
/-- the first fault from state s at place p -/
def FX (c : Nat → Int32) (n s p : Nat) : Int32 := fxS c n (n - p) s
theorem FX_lt {c : Nat → Int32} {n s p : Nat} (h : p < n) : FX c n s p = if aftS s (c p) = 7 then nI p else FX c n (aftS s (c p)) (p + 1) := by
  unfold FX
  obtain ⟨f, e⟩ : ∃ f, n - p = f + 1 := ⟨n - p - 1, by omega⟩
  rw [e, fxS, show n - (f + 1) = p from by omega, show n - (p + 1) = f from by omega]
theorem FX_n {c : Nat → Int32} {n s : Nat} : FX c n s n = if s = 3 ∨ s = 4 ∨ s = 6 then -106 else nI n := by
  unfold FX; rw [Nat.sub_self, fxS]
/-- one step on, or a fault here -/
theorem FX_go {c : Nat → Int32} {n s q p : Nat} (h : p < n) (ha : aftS s (c p) = q) (hq : q ≠ 7) : FX c n s p = FX c n q (p + 1) := by
  rw [FX_lt h, ha, if_neg hq]
theorem FX_no {c : Nat → Int32} {n s p : Nat} (hp : p ≤ n) (hs : s ≠ 3 ∧ s ≠ 4 ∧ s ≠ 6) (h : p < n → aftS s (c p) = 7) : FX c n s p = nI p := by
  rcases Nat.lt_or_ge p n with g | g
  · rw [FX_lt g, if_pos (h g)]
  · have e : p = n := by omega
    subst e
    rw [FX_n, if_neg (by omega)]
/-- a rider ends at place e in state s -/
def RE (c : Nat → Int32) (n p e s : Nat) : Prop := (e ≤ n) ∧ (p + 3 ≤ e) ∧ (s = 3 ∨ s = 4 ∨ s = 6) ∧ (e < n → c e ≠ 44 → aftS s (c e) = 7) ∧ (e < n → c e = 44 → aftS s (c e) = 0) ∧ (FX c n 0 p = FX c n s e)
theorem RE.le {c : Nat → Int32} {n p e s : Nat} (h : RE c n p e s) : e ≤ n := h.1
theorem RE.gt {c : Nat → Int32} {n p e s : Nat} (h : RE c n p e s) : p + 3 ≤ e := h.2.1
theorem RE.st {c : Nat → Int32} {n p e s : Nat} (h : RE c n p e s) : s = 3 ∨ s = 4 ∨ s = 6 := h.2.2.1
theorem RE.no {c : Nat → Int32} {n p e s : Nat} (h : RE c n p e s) : e < n → c e ≠ 44 → aftS s (c e) = 7 := h.2.2.2.1
theorem RE.go {c : Nat → Int32} {n p e s : Nat} (h : RE c n p e s) : e < n → c e = 44 → aftS s (c e) = 0 := h.2.2.2.2.1
theorem RE.eq {c : Nat → Int32} {n p e s : Nat} (h : RE c n p e s) : FX c n 0 p = FX c n s e := h.2.2.2.2.2
theorem z_120 : (0 : Int32) ≠ 120 := by decide
theorem M_94 {P : Int32 → Int32 → (Nat → Int32) → Prop} {c it : Nat → Int32} {n p q s : Nat} (h60 : n ≤ 60) (hq : q ≤ n) (hpq : p + 3 ≤ q) (hs : s = 3 ∨ s = 4) (hd : s = 3 → q < n → ¬ ((48 : Int32) ≤ c q ∧ c q ≤ (57 : Int32))) (he : FX c n 0 p = FX c n s q)
    (h1 : ∀ e s' it', RE c n p e s' → P 1 (nI e) it') (h0 : ∀ e it', FX c n 0 p = nI e → P 0 (nI e) it') : wp_X6_readsRider_94 P c (nI n) (nI q) it := by
  have ad : q < n → aftS s (c q) = adS (c q) := by
    intro g
    rcases hs with e | e
    · subst e; simp only [aftS, hd rfl g, if_false, reduceIte, Nat.reduceEqDiff]
    · subst e; simp only [aftS, if_false, reduceIte, Nat.reduceEqDiff]
  refine M_next0 h60 hq (fun g => ?_) (fun g => ?_)
  · by_cases d : c q = 120
    · refine z_y d ?_
      rw [z_s]
      have a5 : aftS s (c q) = 5 := by rw [ad g]; exact if_pos d
      refine M_sign (k := 3) h60 (by omega) (by omega) (by decide) (fun g2 d2 => ⟨z_b1, ?_⟩) (fun d2 => ⟨z_b0, ?_⟩)
      · have a6 : aftS 5 (c (q + 1)) = 6 := by simp only [aftS, d2, and_self, if_true, if_false, reduceIte, Nat.reduceEqDiff]
        refine h1 (q + 1 + 1) 6 _ ⟨by omega, by omega, by omega, fun _ z => by simp only [aftS, z, if_false, reduceIte, Nat.reduceEqDiff], fun _ z => by simp only [aftS, z, if_true, if_false, reduceIte, Nat.reduceEqDiff], ?_⟩
        rw [he, FX_go g a5 (by omega), FX_go g2 a6 (by omega)]
      · refine h0 (q + 1) _ ?_
        rw [he, FX_go g a5 (by omega)]
        refine FX_no (by omega) (by omega) (fun g2 => ?_)
        have d3 : ¬ ((49 : Int32) ≤ c (q + 1) ∧ c (q + 1) ≤ (52 : Int32)) := fun z => d2 ⟨g2, z⟩
        simp only [aftS, d3, if_false, reduceIte, Nat.reduceEqDiff]
    · refine z_n d (h1 q s _ ⟨hq, hpq, by omega, fun _ z => ?_, fun _ z => ?_, he⟩)
      · rw [ad g]; unfold adS; rw [if_neg d, if_neg z]
      · rw [ad g]; unfold adS; rw [if_neg d, if_pos z]
  · exact z_n z_120 (h1 q s _ ⟨hq, hpq, by omega, fun z => absurd z (by omega), fun z => absurd z (by omega), he⟩)
theorem M_rider {P : Int32 → Int32 → (Nat → Int32) → Prop} {c it : Nat → Int32} {n p : Nat} (h60 : n ≤ 60) (hp : p ≤ n)
    (h1 : ∀ e s' it', RE c n p e s' → P 1 (nI e) it') (h0 : ∀ e it', FX c n 0 p = nI e → P 0 (nI e) it') : wp_X6_readsRider P c (nI n) (nI p) it := by
  refine M_sign (k := 0) h60 hp (by omega) (by decide) (fun g0 d0 => z_t' ?_) (fun d0 => z_f' (h0 p _ ?_))
  · have a0 : aftS 0 (c p) = 1 := by simp only [aftS, d0, and_self, if_true, if_false, reduceIte, Nat.reduceEqDiff]
    have f0 := FX_go (n := n) g0 a0 (by omega)
    refine M_sign (k := 1) h60 (by omega) (by omega) (by decide) (fun g1 d1 => z_t' ?_) (fun d1 => z_f' (h0 (p + 1) _ ?_))
    · have a1 : aftS 1 (c (p + 1)) = 2 := by simp only [aftS, d1, and_self, if_true, if_false, reduceIte, Nat.reduceEqDiff]
      have f1 := FX_go (n := n) g1 a1 (by omega)
      refine M_sign (k := 2) h60 (by omega) (by omega) (by decide) (fun g2 d2 => z_t ?_) (fun d2 => z_f (h0 (p + 1 + 1) _ ?_))
      · rw [z_c2, z_us]
        have b2 := z_b d2
        have e48 : (48 : Int32).toInt = 48 := by decide
        have e57 : (57 : Int32).toInt = 57 := by decide
        rw [e48, e57] at b2
        have es := z_sub (a := c (p + 1 + 1)) (b := 48) (by omega) (by omega)
        rw [e48] at es
        by_cases k : c (p + 1 + 1) = 48
        · have a2 : aftS 2 (c (p + 1 + 1)) = 4 := by simp only [aftS, d2, k, and_self, if_true, if_false, reduceIte, Nat.reduceEqDiff]; try decide
          have f2 := FX_go (n := n) g2 a2 (by omega)
          refine z_y (by rw [k]; decide) (M_94 (p := p) (s := 4) h60 (by omega) (by omega) (Or.inr rfl) (fun z => absurd z (by omega)) (by rw [f0, f1, f2]) h1 h0)
        · have a2 : aftS 2 (c (p + 1 + 1)) = 3 := by simp only [aftS, d2, k, and_self, if_true, if_false, reduceIte, Nat.reduceEqDiff]
          have f2 := FX_go (n := n) g2 a2 (by omega)
          have k' : (c (p + 1 + 1)).toInt ≠ 48 := fun z => k (z_eq.mpr (by rw [z, e48]))
          refine z_n (by rw [z_le, es, z_00]; omega) ?_
          refine M_next0 h60 (by omega) (fun g3 => ?_) (fun g3 => ?_)
          · by_cases d3 : (48 : Int32) ≤ c (p + 1 + 1 + 1) ∧ c (p + 1 + 1 + 1) ≤ (57 : Int32)
            · have a3 : aftS 3 (c (p + 1 + 1 + 1)) = 4 := by simp only [aftS, d3, and_self, if_true, if_false, reduceIte, Nat.reduceEqDiff]
              have f3 := FX_go (n := n) g3 a3 (by omega)
              refine Mw_t d3 (z_t' (M_next0 h60 (by omega) (fun _ => ?_) (fun z => absurd z (by omega))))
              rw [z_s]
              exact M_94 (p := p) (s := 4) h60 (by omega) (by omega) (Or.inr rfl) (fun z => absurd z (by omega)) (by rw [f0, f1, f2, f3]) h1 h0
            · exact Mw_f d3 (z_f' (M_94 (p := p) (s := 3) h60 (by omega) (by omega) (Or.inl rfl) (fun _ _ => d3) (by rw [f0, f1, f2]) h1 h0))
          · exact Mw_f (z_0le (by decide)) (z_f' (M_94 (p := p) (s := 3) h60 (by omega) (by omega) (Or.inl rfl) (fun _ z => absurd z (by omega)) (by rw [f0, f1, f2]) h1 h0))
      · rw [f0, f1]
        refine FX_no (by omega) (by omega) (fun g2 => ?_)
        have d3 : ¬ ((48 : Int32) ≤ c (p + 1 + 1) ∧ c (p + 1 + 1) ≤ (57 : Int32)) := fun z => d2 ⟨g2, z⟩
        simp only [aftS, d3, if_false, reduceIte, Nat.reduceEqDiff]
    · rw [f0]
      refine FX_no (by omega) (by omega) (fun g2 => ?_)
      have d3 : ¬ ((97 : Int32) ≤ c (p + 1) ∧ c (p + 1) ≤ (102 : Int32)) := fun z => d1 ⟨g2, z⟩
      simp only [aftS, d3, if_false, reduceIte, Nat.reduceEqDiff]
  · refine FX_no hp (by omega) (fun g2 => ?_)
    have d3 : ¬ ((48 : Int32) ≤ c p ∧ c p ≤ (53 : Int32)) := fun z => d0 ⟨g2, z⟩
    simp only [aftS, d3, if_false, reduceIte, Nat.reduceEqDiff]
theorem M_fault {P : Int32 → Int32 → (Nat → Int32) → Prop} {c : Nat → Int32} {n : Nat} (h60 : n ≤ 60) {at0 : Int32} {it : Nat → Int32} (h : ∀ a it', P (FX c n 0 0) a it') : wp_X6_findFault P c (nI n) at0 it := by
  have main : ∀ d p it, p ≤ n → n ≤ p + d → FX c n 0 0 = FX c n 0 p → wp_X6_findFault_5 P c (nI n) (d + 1) (nI p) it := by
    intro d
    induction d with
    | zero =>
      intro p it hp hd he
      show wp_X6_findFault_5F P c (nI n) (wp_X6_findFault_5 P c (nI n) 0) (nI p) it
      unfold wp_X6_findFault_5F
      refine M_rider (c := c) h60 hp (fun e s' it' re => absurd re.gt (by have := re.le; omega)) (fun e it' he2 => z_f' ?_)
      rw [← he2, ← he]; exact h _ _
    | succ d ih =>
      intro p it hp hd he
      show wp_X6_findFault_5F P c (nI n) (wp_X6_findFault_5 P c (nI n) (d + 1)) (nI p) it
      unfold wp_X6_findFault_5F
      refine M_rider (c := c) h60 hp (fun e s' it' re => z_t' ?_) (fun e it' he2 => z_f' ?_)
      · have hle := re.le
        have hgt := re.gt
        by_cases g : e = n
        · refine z_y' (by rw [g]) ?_
          have : FX c n 0 0 = -106 := by rw [he, re.eq, g, FX_n, if_pos re.st]
          rw [← this]; exact h _ _
        · refine z_n' (by rw [z_eqN (by omega) (by omega)]; exact g) (M_next0 h60 hle (fun g2 => ?_) (fun z => absurd z g))
          rw [z_s]
          by_cases k : c e = 44
          · exact z_y k (ih (e + 1) it' (by omega) (by omega) (by rw [he, re.eq, FX_go g2 (re.go g2 k) (by omega)]))
          · refine z_n k ?_
            have : FX c n 0 0 = nI e := by rw [he, re.eq, FX_lt g2, if_pos (re.no g2 k)]
            rw [← this]; exact h _ _
      · have : FX c n 0 0 = nI e := by rw [he, he2]
        rw [← this]; exact h _ _
  exact ⟨n + 1, main n 0 it (by omega) (by omega) rfl⟩
theorem fxS_congr {c c' : Nat → Int32} {n : Nat} (h : ∀ j, j < n → c j = c' j) : ∀ f s, f ≤ n → fxS c n f s = fxS c' n f s
  | 0, _, _ => rfl
  | f + 1, s, hf => by
    rw [fxS, fxS, h (n - (f + 1)) (by omega), fxS_congr h f _ (by omega)]
theorem law20 {xs : Nat → Int32} {rec : RecT} {t : Nat} (rok : RecOK rec (t + 1)) {now pln way tri tpl pad his slo Mst Mhi Mhn Msl Msv Mpd Mln Mat Mit Mvf Mdn Mlf Mar Msa Msm Mso} (rel : Rel now pln pad his slo Mst Mhi Mhn Msl Msv Mpd Mln) : lawC20 xs rec t now pln way tri tpl pad his slo Mst Mhi Mhn Msl Msv Mpd Mln Mat Mit Mvf Mdn Mlf Mar Msa Msm Mso := by
  obtain ⟨⟨R, o, V, m, X⟩, ⟨K, hn, f, H, hg⟩, pr, sl⟩ := id rel
  have hR := V.hR
  unfold lawC20
  obtain ⟨n, p1, p2, p3, p4⟩ := id pr
  have e : fxS pad.co n n 0 = FX Mpd n 0 0 := fxS_congr p4 n 0 (Nat.le_refl n)
  refine X_fault p2 p1 ?_
  unfold wp_X6_fault
  rw [p3, e]
  refine M_fault p1 (fun a it' => ?_)
  rw [← p3]
  exact ⟨rfl, rok _ _ _ _ _ _ _ _ _ _ _ _ _ _ _ _ _ _ _ _ _ _ _ _ rel⟩
