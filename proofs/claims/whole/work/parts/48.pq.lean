/-! ===== the text ===== -/
def adS (x : Int32) : Nat := if x = 120 then 5 else if x = 44 then 0 else 7
def aftS (s : Nat) (x : Int32) : Nat :=
  if s = 0 then (if (48 : Int32) ≤ x ∧ x ≤ (53 : Int32) then 1 else 7)
  else if s = 1 then (if (97 : Int32) ≤ x ∧ x ≤ (102 : Int32) then 2 else 7)
  else if s = 2 then (if (48 : Int32) ≤ x ∧ x ≤ (57 : Int32) then (if x = 48 then 4 else 3) else 7)
  else if s = 3 then (if (48 : Int32) ≤ x ∧ x ≤ (57 : Int32) then 4 else adS x)
  else if s = 4 then adS x
  else if s = 5 then (if (49 : Int32) ≤ x ∧ x ≤ (52 : Int32) then 6 else 7)
  else if s = 6 then (if x = 44 then 0 else 7) else 7
theorem X_ad {P : Int32 → Prop} {x : Int32} (h : P (nI (adS x))) : wp_X1_afterDoor P x := by
  unfold adS at h
  by_cases c : x = 120
  · rw [if_pos c] at h; exact z_y' c h
  · rw [if_neg c] at h
    refine z_n' c ?_
    by_cases d : x = 44
    · rw [if_pos d] at h; exact z_y' d h
    · rw [if_neg d] at h; exact z_n' d h
theorem X_dig {P : Int32 → Prop} {x : Int32} (h1 : ((48 : Int32) ≤ x ∧ x ≤ (57 : Int32)) → P 1) (h0 : ¬ ((48 : Int32) ≤ x ∧ x ≤ (57 : Int32)) → P 0) : wp_X1_isDigit P x := by
  by_cases c : (48 : Int32) ≤ x ∧ x ≤ (57 : Int32)
  · exact z_isIn_t c.1 c.2 ⟨z_b1, h1 c⟩
  · exact z_isIn_f c ⟨z_b0, h0 c⟩
theorem X_after {P : Int32 → Prop} {x : Int32} : ∀ {s : Nat}, s < 7 → P (nI (aftS s x)) → wp_X1_after P (nI s) x
  | 0, _, h => by
    by_cases c : (48 : Int32) ≤ x ∧ x ≤ (53 : Int32)
    · have e : aftS 0 x = 1 := by simp only [aftS, c, and_self, if_true, if_false, reduceIte, Nat.reduceEqDiff]
      rw [e] at h
      exact ⟨fun _ => z_isIn_t c.1 c.2 (z_t' h), fun e => absurd e (by decide), fun e => absurd e (by decide), fun e => absurd e (by decide), fun e => absurd e (by decide), fun e => absurd e (by decide), fun e => absurd e (by decide), fun e => absurd rfl e.1⟩
    · have e : aftS 0 x = 7 := by simp only [aftS, c, if_false, reduceIte, Nat.reduceEqDiff]
      rw [e] at h
      exact ⟨fun _ => z_isIn_f c (z_f' h), fun e => absurd e (by decide), fun e => absurd e (by decide), fun e => absurd e (by decide), fun e => absurd e (by decide), fun e => absurd e (by decide), fun e => absurd e (by decide), fun e => absurd rfl e.1⟩
  | 1, _, h => by
    by_cases c : (97 : Int32) ≤ x ∧ x ≤ (102 : Int32)
    · have e : aftS 1 x = 2 := by simp only [aftS, c, and_self, if_true, if_false, reduceIte, Nat.reduceEqDiff]
      rw [e] at h
      exact ⟨fun e => absurd e (by decide), fun _ => z_isIn_t c.1 c.2 (z_t' h), fun e => absurd e (by decide), fun e => absurd e (by decide), fun e => absurd e (by decide), fun e => absurd e (by decide), fun e => absurd e (by decide), fun e => absurd rfl e.2.1⟩
    · have e : aftS 1 x = 7 := by simp only [aftS, c, if_false, reduceIte, Nat.reduceEqDiff]
      rw [e] at h
      exact ⟨fun e => absurd e (by decide), fun _ => z_isIn_f c (z_f' h), fun e => absurd e (by decide), fun e => absurd e (by decide), fun e => absurd e (by decide), fun e => absurd e (by decide), fun e => absurd e (by decide), fun e => absurd rfl e.2.1⟩
  | 2, _, h => by
    by_cases c : (48 : Int32) ≤ x ∧ x ≤ (57 : Int32)
    · by_cases d : x = 48
      · have e : aftS 2 x = 4 := by simp only [aftS, c, d, and_self, if_true, if_false, reduceIte, Nat.reduceEqDiff]; try decide
        rw [e] at h
        exact ⟨fun e => absurd e (by decide), fun e => absurd e (by decide), fun _ => X_dig (fun _ => z_t (z_y' d h)) (fun g => absurd c g), fun e => absurd e (by decide), fun e => absurd e (by decide), fun e => absurd e (by decide), fun e => absurd e (by decide), fun e => absurd rfl e.2.2.1⟩
      · have e : aftS 2 x = 3 := by simp only [aftS, c, d, and_self, if_true, if_false, reduceIte, Nat.reduceEqDiff]
        rw [e] at h
        exact ⟨fun e => absurd e (by decide), fun e => absurd e (by decide), fun _ => X_dig (fun _ => z_t (z_n' d h)) (fun g => absurd c g), fun e => absurd e (by decide), fun e => absurd e (by decide), fun e => absurd e (by decide), fun e => absurd e (by decide), fun e => absurd rfl e.2.2.1⟩
    · have e : aftS 2 x = 7 := by simp only [aftS, c, if_false, reduceIte, Nat.reduceEqDiff]
      rw [e] at h
      exact ⟨fun e => absurd e (by decide), fun e => absurd e (by decide), fun _ => X_dig (fun g => absurd g c) (fun _ => z_f h), fun e => absurd e (by decide), fun e => absurd e (by decide), fun e => absurd e (by decide), fun e => absurd e (by decide), fun e => absurd rfl e.2.2.1⟩
  | 3, _, h => by
    by_cases c : (48 : Int32) ≤ x ∧ x ≤ (57 : Int32)
    · have e : aftS 3 x = 4 := by simp only [aftS, c, and_self, if_true, if_false, reduceIte, Nat.reduceEqDiff]
      rw [e] at h
      exact ⟨fun e => absurd e (by decide), fun e => absurd e (by decide), fun e => absurd e (by decide), fun _ => X_dig (fun _ => z_t' h) (fun g => absurd c g), fun e => absurd e (by decide), fun e => absurd e (by decide), fun e => absurd e (by decide), fun e => absurd rfl e.2.2.2.1⟩
    · have e : aftS 3 x = adS x := by simp only [aftS, c, if_false, reduceIte, Nat.reduceEqDiff]
      rw [e] at h
      exact ⟨fun e => absurd e (by decide), fun e => absurd e (by decide), fun e => absurd e (by decide), fun _ => X_dig (fun g => absurd g c) (fun _ => z_f' (X_ad h)), fun e => absurd e (by decide), fun e => absurd e (by decide), fun e => absurd e (by decide), fun e => absurd rfl e.2.2.2.1⟩
  | 4, _, h => by
    have e : aftS 4 x = adS x := by simp only [aftS, if_false, reduceIte, Nat.reduceEqDiff]
    rw [e] at h
    exact ⟨fun e => absurd e (by decide), fun e => absurd e (by decide), fun e => absurd e (by decide), fun e => absurd e (by decide), fun _ => X_ad h, fun e => absurd e (by decide), fun e => absurd e (by decide), fun e => absurd rfl e.2.2.2.2.1⟩
  | 5, _, h => by
    by_cases c : (49 : Int32) ≤ x ∧ x ≤ (52 : Int32)
    · have e : aftS 5 x = 6 := by simp only [aftS, c, and_self, if_true, if_false, reduceIte, Nat.reduceEqDiff]
      rw [e] at h
      exact ⟨fun e => absurd e (by decide), fun e => absurd e (by decide), fun e => absurd e (by decide), fun e => absurd e (by decide), fun e => absurd e (by decide), fun _ => z_isIn_t c.1 c.2 (z_t' h), fun e => absurd e (by decide), fun e => absurd rfl e.2.2.2.2.2.1⟩
    · have e : aftS 5 x = 7 := by simp only [aftS, c, if_false, reduceIte, Nat.reduceEqDiff]
      rw [e] at h
      exact ⟨fun e => absurd e (by decide), fun e => absurd e (by decide), fun e => absurd e (by decide), fun e => absurd e (by decide), fun e => absurd e (by decide), fun _ => z_isIn_f c (z_f' h), fun e => absurd e (by decide), fun e => absurd rfl e.2.2.2.2.2.1⟩
  | 6, _, h => by
    by_cases c : x = 44
    · have e : aftS 6 x = 0 := by simp only [aftS, c, if_true, if_false, reduceIte, Nat.reduceEqDiff]
      rw [e] at h
      exact ⟨fun e => absurd e (by decide), fun e => absurd e (by decide), fun e => absurd e (by decide), fun e => absurd e (by decide), fun e => absurd e (by decide), fun e => absurd e (by decide), fun _ => z_y' c h, fun e => absurd rfl e.2.2.2.2.2.2⟩
    · have e : aftS 6 x = 7 := by simp only [aftS, c, if_false, reduceIte, Nat.reduceEqDiff]
      rw [e] at h
      exact ⟨fun e => absurd e (by decide), fun e => absurd e (by decide), fun e => absurd e (by decide), fun e => absurd e (by decide), fun e => absurd e (by decide), fun e => absurd e (by decide), fun _ => z_n' c h, fun e => absurd rfl e.2.2.2.2.2.2⟩
  | s + 7, hs, _ => absurd hs (by omega)
/-- the first fault from state s on, f characters before the end of n -/
def fxS (c : Nat → Int32) (n : Nat) : Nat → Nat → Int32
  | 0, s => if s = 3 ∨ s = 4 ∨ s = 6 then -106 else nI n
  | f + 1, s => if aftS s (c (n - (f + 1))) = 7 then nI (n - (f + 1)) else fxS c n f (aftS s (c (n - (f + 1))))
theorem aft_le (s : Nat) (x : Int32) : aftS s x ≤ 7 := by
  unfold aftS adS
  repeat' split
  all_goals omega
theorem X_fault {P : Int32 → Prop} {pd : PdT} {n : Nat} (hn : pd.ln = nI n) (h60 : n ≤ 60) (h : P (fxS pd.co n n 0)) : wp_X1_firstFault P pd := by
  have main : ∀ f p, p + f = n → ∀ s, s < 7 → P (fxS pd.co n f s) → wp_X1_firstFault_4 P pd (f + 1) (nI s) (nI p) := by
    intro f
    induction f with
    | zero =>
      intro p hp s hs h
      rw [fxS] at h
      refine z_y (by rw [hn, z_leN (by omega) (by omega)]; omega) ?_
      rw [hn]
      have e : ∀ k, k < 7 → (nI s = nI k ↔ s = k) := fun k hk => z_eqN (by omega) (by omega)
      refine ⟨fun a => ?_, fun a => ⟨fun b => ?_, fun b => ⟨fun d => ?_, fun d => ?_⟩⟩⟩
      · rw [if_pos (Or.inl ((e 3 (by omega)).mp a))] at h; exact z_t' h
      · rw [if_pos (Or.inr (Or.inl ((e 4 (by omega)).mp b)))] at h; exact z_t' h
      · rw [if_neg] at h
        · exact z_f' h
        · rintro (g | g | g)
          · exact a ((e 3 (by omega)).mpr g)
          · exact b ((e 4 (by omega)).mpr g)
          · exact d ((e 6 (by omega)).mpr g)
      · rw [if_pos (Or.inr (Or.inr ((e 6 (by omega)).mp d)))] at h; exact z_t' h
    | succ f ih =>
      intro p hp s hs h
      rw [fxS, show n - (f + 1) = p from by omega] at h
      refine z_n (by rw [hn, z_leN (by omega) (by omega)]; omega) ⟨z_in (by omega) (by omega), X_after hs ?_⟩
      rw [z_cl (by omega), z_s]
      have hl := aft_le s (pd.co p)
      by_cases c : aftS s (pd.co p) = 7
      · rw [if_pos c] at h
        exact z_y' (by rw [c]; rfl) h
      · rw [if_neg c] at h
        exact z_n' (by rw [show (7 : Int32) = nI 7 from rfl, z_eqN (by omega) (by omega)]; exact c) (ih (p + 1) (by omega) _ (by omega) h)
  exact ⟨n + 1, main n 0 (by omega) 0 (by omega) h⟩
