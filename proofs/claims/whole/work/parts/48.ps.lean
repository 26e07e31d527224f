/-! ===== reading riders ===== -/
def dgS (x : Int32) : Prop := (48 : Int32) ≤ x ∧ x ≤ (57 : Int32)
def q0S (two : Bool) (p : Nat) : Nat := if two = true then p + 4 else p + 3
def enS (two ex : Bool) (p : Nat) : Nat := if ex = true then q0S two p + 2 else q0S two p
def doS (c : Nat → Int32) (two : Bool) (p : Nat) : Int32 := if two = true then (((10 : Int32) * (c (p + 2) - (48 : Int32))) + c (p + 3)) - (48 : Int32) else c (p + 2) - (48 : Int32)
def peS (c : Nat → Int32) (two ex : Bool) (p : Nat) : Int32 := if ex = true then c (q0S two p + 1) - (48 : Int32) else 1
/-- a rider stands at p -/
def RV (c : Nat → Int32) (n p : Nat) (two ex : Bool) : Prop := (p + 2 < n) ∧ ((48 : Int32) ≤ c p ∧ c p ≤ (53 : Int32)) ∧ ((97 : Int32) ≤ c (p + 1) ∧ c (p + 1) ≤ (102 : Int32)) ∧ (dgS (c (p + 2))) ∧ (two = true → ¬ c (p + 2) = 48 ∧ p + 3 < n ∧ dgS (c (p + 3))) ∧ (two = false → p + 3 < n → ¬ dgS (c (p + 3))) ∧ (ex = true → q0S two p + 1 < n ∧ c (q0S two p) = 120 ∧ (49 : Int32) ≤ c (q0S two p + 1) ∧ c (q0S two p + 1) ≤ (52 : Int32)) ∧ (ex = false → q0S two p < n → ¬ c (q0S two p) = 120) ∧ (enS two ex p ≤ n) ∧ (enS two ex p = n ∨ (enS two ex p < n ∧ c (enS two ex p) = 44 ∧ FX c n 0 (enS two ex p + 1) = -106))
theorem RV.g2 {c : Nat → Int32} {n p : Nat} {two ex : Bool} (h : RV c n p two ex) : p + 2 < n := h.1
theorem RV.d0 {c : Nat → Int32} {n p : Nat} {two ex : Bool} (h : RV c n p two ex) : (48 : Int32) ≤ c p ∧ c p ≤ (53 : Int32) := h.2.1
theorem RV.d1 {c : Nat → Int32} {n p : Nat} {two ex : Bool} (h : RV c n p two ex) : (97 : Int32) ≤ c (p + 1) ∧ c (p + 1) ≤ (102 : Int32) := h.2.2.1
theorem RV.d2 {c : Nat → Int32} {n p : Nat} {two ex : Bool} (h : RV c n p two ex) : dgS (c (p + 2)) := h.2.2.2.1
theorem RV.ty {c : Nat → Int32} {n p : Nat} {two ex : Bool} (h : RV c n p two ex) : two = true → ¬ c (p + 2) = 48 ∧ p + 3 < n ∧ dgS (c (p + 3)) := h.2.2.2.2.1
theorem RV.tn {c : Nat → Int32} {n p : Nat} {two ex : Bool} (h : RV c n p two ex) : two = false → p + 3 < n → ¬ dgS (c (p + 3)) := h.2.2.2.2.2.1
theorem RV.ey {c : Nat → Int32} {n p : Nat} {two ex : Bool} (h : RV c n p two ex) : ex = true → q0S two p + 1 < n ∧ c (q0S two p) = 120 ∧ (49 : Int32) ≤ c (q0S two p + 1) ∧ c (q0S two p + 1) ≤ (52 : Int32) := h.2.2.2.2.2.2.1
theorem RV.en {c : Nat → Int32} {n p : Nat} {two ex : Bool} (h : RV c n p two ex) : ex = false → q0S two p < n → ¬ c (q0S two p) = 120 := h.2.2.2.2.2.2.2.1
theorem RV.le {c : Nat → Int32} {n p : Nat} {two ex : Bool} (h : RV c n p two ex) : enS two ex p ≤ n := h.2.2.2.2.2.2.2.2.1
theorem RV.nx {c : Nat → Int32} {n p : Nat} {two ex : Bool} (h : RV c n p two ex) : enS two ex p = n ∨ (enS two ex p < n ∧ c (enS two ex p) = 44 ∧ FX c n 0 (enS two ex p + 1) = -106) := h.2.2.2.2.2.2.2.2.2
theorem n106 {k : Nat} (h : k ≤ 60) : nI k ≠ (-106 : Int32) := z_106 k (by omega)
/-- no fault from here on: then one step on -/
theorem FX_ok {c : Nat → Int32} {n s p : Nat} (h60 : n ≤ 60) (hp : p ≤ n) (hs : s ≠ 3 ∧ s ≠ 4 ∧ s ≠ 6) (h : FX c n s p = -106) : p < n ∧ aftS s (c p) ≠ 7 ∧ FX c n (aftS s (c p)) (p + 1) = -106 := by
  rcases Nat.lt_or_ge p n with g | g
  · rw [FX_lt g] at h
    by_cases k : aftS s (c p) = 7
    · rw [if_pos k] at h; exact absurd h (n106 (by omega))
    · rw [if_neg k] at h; exact ⟨g, k, h⟩
  · have e : p = n := by omega
    subst e
    rw [FX_n, if_neg (by omega)] at h
    exact absurd h (n106 (by omega))
theorem FX_ok' {c : Nat → Int32} {n s p : Nat} (h60 : n ≤ 60) (hp : p < n) (h : FX c n s p = -106) : aftS s (c p) ≠ 7 ∧ FX c n (aftS s (c p)) (p + 1) = -106 := by
  rw [FX_lt hp] at h
  by_cases k : aftS s (c p) = 7
  · rw [if_pos k] at h; exact absurd h (n106 (by omega))
  · rw [if_neg k] at h; exact ⟨k, h⟩
theorem aft0 {x : Int32} (h : aftS 0 x ≠ 7) : ((48 : Int32) ≤ x ∧ x ≤ (53 : Int32)) ∧ aftS 0 x = 1 := by
  by_cases c : (48 : Int32) ≤ x ∧ x ≤ (53 : Int32)
  · exact ⟨c, by simp only [aftS, c, and_self, if_true, if_false, reduceIte, Nat.reduceEqDiff]⟩
  · exact absurd (by simp only [aftS, c, if_false, reduceIte, Nat.reduceEqDiff]) h
theorem aft1 {x : Int32} (h : aftS 1 x ≠ 7) : ((97 : Int32) ≤ x ∧ x ≤ (102 : Int32)) ∧ aftS 1 x = 2 := by
  by_cases c : (97 : Int32) ≤ x ∧ x ≤ (102 : Int32)
  · exact ⟨c, by simp only [aftS, c, and_self, if_true, if_false, reduceIte, Nat.reduceEqDiff]⟩
  · exact absurd (by simp only [aftS, c, if_false, reduceIte, Nat.reduceEqDiff]) h
theorem aft2 {x : Int32} (h : aftS 2 x ≠ 7) : dgS x ∧ ((x = 48 ∧ aftS 2 x = 4) ∨ (¬ x = 48 ∧ aftS 2 x = 3)) := by
  by_cases c : (48 : Int32) ≤ x ∧ x ≤ (57 : Int32)
  · refine ⟨c, ?_⟩
    by_cases d : x = 48
    · exact Or.inl ⟨d, by simp only [aftS, c, d, and_self, if_true, if_false, reduceIte, Nat.reduceEqDiff]; try decide⟩
    · exact Or.inr ⟨d, by simp only [aftS, c, d, and_self, if_true, if_false, reduceIte, Nat.reduceEqDiff]⟩
  · exact absurd (by simp only [aftS, c, if_false, reduceIte, Nat.reduceEqDiff]) h
theorem aft5 {x : Int32} (h : aftS 5 x ≠ 7) : ((49 : Int32) ≤ x ∧ x ≤ (52 : Int32)) ∧ aftS 5 x = 6 := by
  by_cases c : (49 : Int32) ≤ x ∧ x ≤ (52 : Int32)
  · exact ⟨c, by simp only [aftS, c, and_self, if_true, if_false, reduceIte, Nat.reduceEqDiff]⟩
  · exact absurd (by simp only [aftS, c, if_false, reduceIte, Nat.reduceEqDiff]) h
theorem aft6 {x : Int32} (h : aftS 6 x ≠ 7) : x = 44 ∧ aftS 6 x = 0 := by
  by_cases c : x = 44
  · exact ⟨c, by simp only [aftS, c, if_true, if_false, reduceIte, Nat.reduceEqDiff]⟩
  · exact absurd (by simp only [aftS, c, if_false, reduceIte, Nat.reduceEqDiff]) h
theorem ad_ok {x : Int32} (h : adS x ≠ 7) : (x = 120 ∧ adS x = 5) ∨ (¬ x = 120 ∧ x = 44 ∧ adS x = 0) := by
  unfold adS at h ⊢
  by_cases c : x = 120
  · exact Or.inl ⟨c, if_pos c⟩
  · rw [if_neg c] at h ⊢
    by_cases d : x = 44
    · exact Or.inr ⟨c, d, if_pos d⟩
    · rw [if_neg d] at h; exact absurd rfl h
/-- behind the door -/
theorem tail_ok {c : Nat → Int32} {n q s : Nat} (h60 : n ≤ 60) (hq : q ≤ n) (hs : s = 3 ∨ s = 4) (had : q < n → aftS s (c q) = adS (c q)) (h : FX c n s q = -106) : ∃ ex : Bool, (ex = true → q + 1 < n ∧ c q = 120 ∧ (49 : Int32) ≤ c (q + 1) ∧ c (q + 1) ≤ (52 : Int32)) ∧ (ex = false → q < n → ¬ c q = 120) ∧ (if ex = true then q + 2 else q) ≤ n ∧ ((if ex = true then q + 2 else q) = n ∨ ((if ex = true then q + 2 else q) < n ∧ c (if ex = true then q + 2 else q) = 44 ∧ FX c n 0 ((if ex = true then q + 2 else q) + 1) = -106)) := by
  rcases Nat.lt_or_ge q n with g | g
  · obtain ⟨a, b⟩ := FX_ok' h60 g h
    rw [had g] at a b
    rcases ad_ok a with ⟨k, e⟩ | ⟨k, k2, e⟩
    · rw [e] at b
      obtain ⟨g2, a2, b2⟩ := FX_ok h60 (by omega) (by omega) b
      obtain ⟨r, e2⟩ := aft5 a2
      rw [e2] at b2
      refine ⟨true, fun _ => ⟨g2, k, r⟩, fun z => (by cases z), ?_, ?_⟩
      · rw [if_pos rfl]; omega
      · rw [if_pos rfl]
        rcases Nat.lt_or_ge (q + 2) n with g3 | g3
        · obtain ⟨a3, b3⟩ := FX_ok' h60 g3 b2
          obtain ⟨r3, e3⟩ := aft6 a3
          rw [e3] at b3
          exact Or.inr ⟨g3, r3, b3⟩
        · exact Or.inl (by omega)
    · rw [e] at b
      refine ⟨false, fun z => (by cases z), fun _ _ => k, ?_, ?_⟩
      · rw [if_neg (by decide)]; omega
      · rw [if_neg (by decide)]; exact Or.inr ⟨g, k2, b⟩
  · refine ⟨false, fun z => (by cases z), fun _ z => absurd z (by omega), ?_, ?_⟩
    · rw [if_neg (by decide)]; omega
    · rw [if_neg (by decide)]; exact Or.inl (by omega)
theorem rv_ex {c : Nat → Int32} {n p : Nat} (h60 : n ≤ 60) (hp : p ≤ n) (h : FX c n 0 p = -106) : ∃ two ex, RV c n p two ex := by
  obtain ⟨g0, a0, b0⟩ := FX_ok h60 hp (by omega) h
  obtain ⟨r0, e0⟩ := aft0 a0
  rw [e0] at b0
  obtain ⟨g1, a1, b1⟩ := FX_ok h60 (by omega) (by omega) b0
  obtain ⟨r1, e1⟩ := aft1 a1
  rw [e1] at b1
  obtain ⟨g2, a2, b2⟩ := FX_ok h60 (by omega) (by omega) b1
  obtain ⟨r2, e2⟩ := aft2 a2
  have a4 : ∀ x : Int32, aftS 4 x = adS x := fun x => by simp only [aftS, if_false, reduceIte, Nat.reduceEqDiff]
  rcases e2 with ⟨k, e2⟩ | ⟨k, e2⟩
  · rw [e2] at b2
    obtain ⟨ex, t1, t2, t3, t4⟩ := tail_ok h60 (q := p + 3) (by omega) (Or.inr rfl) (fun _ => a4 _) b2
    have nd : p + 3 < n → ¬ dgS (c (p + 3)) := by
      intro g z
      obtain ⟨y, -⟩ := FX_ok' (p := p + 3) h60 g b2
      rw [a4] at y
      have z2 := z_b z
      rcases ad_ok y with ⟨w, -⟩ | ⟨-, w, -⟩
      · rw [w] at z2; exact absurd z2.2 (by decide)
      · rw [w] at z2; exact absurd z2.1 (by decide)
    exact ⟨false, ex, g2, r0, r1, r2, fun z => (by cases z), fun _ => nd, t1, t2, t3, t4⟩
  · rw [e2] at b2
    by_cases w : p + 3 < n ∧ dgS (c (p + 3))
    · have a3 : aftS 3 (c (p + 3)) = 4 := by
        have w2 : (48 : Int32) ≤ c (p + 3) ∧ c (p + 3) ≤ (57 : Int32) := w.2
        simp only [aftS, w2, and_self, if_true, if_false, reduceIte, Nat.reduceEqDiff]
      obtain ⟨y, b3⟩ := FX_ok' (p := p + 3) h60 w.1 b2
      rw [a3] at b3
      obtain ⟨ex, t1, t2, t3, t4⟩ := tail_ok h60 (q := p + 4) (by omega) (Or.inr rfl) (fun _ => a4 _) b3
      exact ⟨true, ex, g2, r0, r1, r2, fun _ => ⟨k, w.1, w.2⟩, fun z => (by cases z), t1, t2, t3, t4⟩
    · have a3 : p + 3 < n → aftS 3 (c (p + 3)) = adS (c (p + 3)) := by
        intro g
        have w2 : ¬ ((48 : Int32) ≤ c (p + 3) ∧ c (p + 3) ≤ (57 : Int32)) := fun z => w ⟨g, z⟩
        simp only [aftS, w2, if_false, reduceIte, Nat.reduceEqDiff]
      obtain ⟨ex, t1, t2, t3, t4⟩ := tail_ok h60 (q := p + 3) (by omega) (Or.inl rfl) a3 b2
      exact ⟨false, ex, g2, r0, r1, r2, fun z => (by cases z), fun _ g z => w ⟨g, z⟩, t1, t2, t3, t4⟩
