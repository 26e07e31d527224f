/-! ===== the law gives the vans ===== -/
/-- the inner loop: rider k goes to his place p -/
theorem L_in {P : (Nat → Int32) → (Nat → Int32) → (Nat → Int32) → Prop} {q lr lw0 lo0 lg0 : Nat → Int32} {r3 : Int32 → (Nat → Int32) → Prop} {lw lg : Nat → Int32} {f : Nat → Int32} {k : Nat} (hk : k < 24) (hrd : ∀ (Q : Int32 → Prop) r, r ≤ k → Q (f r) → wp_L_ready Q q (lr r)) {o : Nat → Nat} (ho : IsOrd f k o)
    (h : ∀ (od' : Nat → Int32) (o' : Nat → Nat), IsOrd f (k + 1) o' → (∀ j, j < k + 1 → od' j = nI (o' j)) → r3 (nI (k + 1)) od')
    (p : Nat) : ∀ (od : Nat → Int32), p ≤ k → (∀ j, j < p → od j = nI (o j)) → (∀ j, p < j → j ≤ k → od j = nI (o (j - 1))) → (∀ j, p ≤ j → j < k → (f k).toInt < (f (o j)).toInt) → wp_L_gives_15 P q lr lw0 lo0 lg0 r3 (nI k) lw lg (p + 1) (nI p) od := by
  have fin : ∀ (p : Nat) (od : Nat → Int32), p ≤ k → (∀ j, j < p → od j = nI (o j)) → (∀ j, p < j → j ≤ k → od j = nI (o (j - 1))) → (∀ j, p ≤ j → j < k → (f k).toInt < (f (o j)).toInt) → (∀ j, j < p → (f (o j)).toInt ≤ (f k).toInt) → wp_L_gives_59 P q lr lw0 lo0 lg0 r3 (nI k) (nI p) lw od lg := by
    intro p od hp h1 h2 h3 h4
    refine ⟨z_in (by omega) (by omega), ?_⟩
    rw [z_s, z_cl (by omega)]
    refine h _ (fun j => if j < p then o j else if j = p then k else o (j - 1)) ⟨?_, ?_, ?_⟩ ?_
    · intro j hj
      by_cases c1 : j < p
      · simp only [c1, if_true]; have := ho.lt j (by omega); omega
      · by_cases c2 : j = p
        · simp only [c1, c2, if_false, if_true]; split <;> omega
        · simp only [c1, c2, if_false]; have := ho.lt (j - 1) (by omega); omega
    · intro i j hij hj
      by_cases c1 : j < p
      · have c2 : i < p := by omega
        simp only [c1, c2, if_true]
        exact ho.inc i j hij (by omega)
      · by_cases c2 : j = p
        · have c3 : i < p := by omega
          simp only [c1, c2, c3, if_true, if_false]
          have a := h4 i c3
          have b := ho.lt i (by omega)
          split <;> omega
        · by_cases c3 : i < p
          · simp only [c1, c2, c3, if_true, if_false]
            exact ho.inc i (j - 1) (by omega) (by omega)
          · by_cases c4 : i = p
            · simp only [c1, c2, c4, if_false, if_true]
              have a := h3 (j - 1) (by omega) (by omega)
              split <;> omega
            · simp only [c1, c2, c3, c4, if_false]
              exact ho.inc (i - 1) (j - 1) (by omega) (by omega)
    · intro r hr
      by_cases c : r = k
      · exact ⟨p, by omega, by simp [c]⟩
      · obtain ⟨j, hj, e⟩ := ho.sur r (by omega)
        by_cases c1 : j < p
        · exact ⟨j, by omega, by simp only [c1, if_true]; exact e⟩
        · refine ⟨j + 1, by omega, ?_⟩
          have c2 : ¬ j + 1 < p := by omega
          have c3 : ¬ j + 1 = p := by omega
          simp only [c2, c3, if_false, Nat.add_sub_cancel]
          exact e
    · intro j hj
      by_cases c1 : j < p
      · rw [z_un (by omega)]; simp only [c1, if_true]; exact h1 j c1
      · by_cases c2 : j = p
        · rw [c2, z_us]; simp
        · rw [z_un c2]; simp only [c1, c2, if_false]; exact h2 j (by omega) (by omega)
  induction p with
  | zero =>
    intro od hp h1 h2 h3
    exact ⟨fun _ => fin 0 od hp h1 h2 h3 (fun j hj => absurd hj (by omega)), fun h => absurd (z_le.mpr (by rw [z_nI (by omega)]; decide)) h⟩
  | succ p ih =>
    intro od hp h1 h2 h3
    have e1 : nI (p + 1) - (1 : Int32) = nI p := z_p p
    have e2 : (nI p).toNatClampNeg = p := z_cl (by omega)
    have hop := ho.lt p (by omega)
    have e3 : od p = nI (o p) := h1 p (by omega)
    refine z_n (by rw [show (0 : Int32) = nI 0 from rfl, z_leN (by omega) (by omega)]; omega) ?_
    rw [e1, e2, e3, z_cl (n := k) (by omega), z_cl (n := o p) (by omega)]
    refine ⟨z_in (by omega) (by omega), z_in (by omega) (by omega), ?_⟩
    refine hrd _ _ (by omega) ⟨z_in (by omega) (by omega), ?_⟩
    refine hrd _ _ (Nat.le_refl _) ?_
    constructor
    · intro c
      rw [z_le] at c
      refine fin (p + 1) od hp h1 h2 h3 ?_
      intro j hj
      by_cases e : j = p
      · subst e; exact c
      · have := ho.inc j p (by omega) (by omega); omega
    · intro c
      rw [z_le] at c
      refine ⟨z_in (by omega) (by omega), z_in (by omega) (by omega), ?_⟩
      rw [z_p', z_cl (by omega)]
      refine ih _ (by omega) ?_ ?_ ?_
      · intro j hj; rw [z_un (by omega)]; exact h1 j (by omega)
      · intro j hj hj2
        by_cases e : j = p + 1
        · rw [e, z_us]; rfl
        · rw [z_un e]; exact h2 j (by omega) hj2
      · intro j hj hj2
        by_cases e : j = p
        · subst e; omega
        · exact h3 j (by omega) hj2
/-- the best of the vans from j on -/
def OpD (σ : StT) (pn ao : Nat → Int32) (r j : Nat) (c : Option Nat) : Prop :=
  match c with
  | none => ∀ v, j ≤ v → v < 8 → ¬ tkS σ pn ao r v = true
  | some w => j ≤ w ∧ w < 8 ∧ tkS σ pn ao r w = true ∧ ∀ v, j ≤ v → v < 8 → tkS σ pn ao r v = true → (σ.le w).toInt < (σ.le v).toInt ∨ ((σ.le w).toInt = (σ.le v).toInt ∧ w ≤ v)
theorem fv_op {σ : StT} {pn ao : Nat → Int32} {r : Nat} : ∀ k, (fvS σ pn ao r k = none → ∀ v, v < k → ¬ tkS σ pn ao r v = true) ∧ (∀ w, fvS σ pn ao r k = some w → ∀ v, v < k → tkS σ pn ao r v = true → (σ.le w).toInt < (σ.le v).toInt ∨ ((σ.le w).toInt = (σ.le v).toInt ∧ w ≤ v))
  | 0 => ⟨fun _ v hv => absurd hv (by omega), fun w h => by simp [fvS] at h⟩
  | k + 1 => by
    obtain ⟨i1, i2⟩ := fv_op (σ := σ) (pn := pn) (ao := ao) (r := r) k
    have le1 : ∀ v, v < k + 1 → v < k ∨ v = k := fun v hv => by omega
    rw [fvS]
    cases e : fvS σ pn ao r k with
    | none =>
      have j1 := i1 e
      by_cases c : tkS σ pn ao r k = true
      · simp only [c, if_true]
        refine ⟨fun h => (by cases h), fun w h v hv ht => ?_⟩
        cases h
        rcases le1 v hv with g | g
        · exact absurd ht (j1 v g)
        · subst g; exact Or.inr ⟨rfl, Nat.le_refl _⟩
      · simp only [c]
        refine ⟨fun _ v hv => ?_, fun w h => by simp at h⟩
        rcases le1 v hv with g | g
        · exact j1 v g
        · subst g; exact c
    | some w0 =>
      have j2 := i2 w0 e
      have hw0 := (fvS_some e).1
      by_cases c : tkS σ pn ao r k = true
      · by_cases d : σ.le k < σ.le w0
        · simp only [c, d, if_true]
          refine ⟨fun h => (by cases h), fun w h v hv ht => ?_⟩
          cases h
          rw [z_lt] at d
          rcases le1 v hv with g | g
          · have := j2 v g ht; omega
          · subst g; exact Or.inr ⟨rfl, Nat.le_refl _⟩
        · simp only [c, d, if_true, if_false]
          refine ⟨fun h => (by cases h), fun w h v hv ht => ?_⟩
          cases h
          rw [z_lt] at d
          rcases le1 v hv with g | g
          · exact j2 v g ht
          · subst g; omega
      · simp only [c]
        refine ⟨fun h => (by simp at h), fun w h v hv ht => ?_⟩
        simp only [Bool.false_eq_true, if_false, Option.some.injEq] at h
        subst h
        rcases le1 v hv with g | g
        · exact j2 v g ht
        · subst g; exact absurd ht c
theorem op_fv {σ : StT} {pn ao : Nat → Int32} {r : Nat} {c : Option Nat} (h : OpD σ pn ao r 0 c) : c = fvS σ pn ao r 8 := by
  obtain ⟨i1, i2⟩ := fv_op (σ := σ) (pn := pn) (ao := ao) (r := r) 8
  cases e : fvS σ pn ao r 8 with
  | none =>
    cases c with
    | none => rfl
    | some w =>
      obtain ⟨h1, h2, h3, h4⟩ := h
      exact absurd h3 (i1 e w h2)
  | some v =>
    obtain ⟨hv, ht⟩ := fvS_some e
    cases c with
    | none => exact absurd ht (h v (by omega) hv)
    | some w =>
      obtain ⟨h1, h2, h3, h4⟩ := h
      have a := h4 v (by omega) hv ht
      have b := i2 v e w h2 h3
      have : w = v := by omega
      rw [this]
def encL : Option Nat → Int32
  | none => -1
  | some v => nI v
theorem encL_neg (h : (0 : Int32) ≤ encL none) : False := by revert h; decide
theorem encL_lt : encL none < (0 : Int32) := by decide
theorem encL_nlt {v : Nat} (hv : v < 8) : ¬ encL (some v) < (0 : Int32) := by
  show ¬ nI v < nI 0
  rw [z_ltN (by omega) (by omega)]; omega
theorem z_8m : (7 : Int32) = nI 8 + (-1) := by decide
theorem z_m1lt : nI 0 + (-1) < (0 : Int32) := by decide
/-- whether a van can take a rider, as the law asks it -/
theorem L_best {P : (Nat → Int32) → (Nat → Int32) → (Nat → Int32) → Prop} {σ : StT} {R : Nat} {q lr lw0 lo0 lg0 : Nat → Int32} {r96 : Int32 → (Nat → Int32) → (Nat → Int32) → Prop} {lw lo lg pn ao : Nat → Int32} {r : Nat} {v5 : Int32} (V : SV σ R) (hq : LQ σ R q) (hr : LR σ R lr) (hR : r < R)
    (hg : ∀ v, v < 8 → lg v = pn v ∧ lg (8 + v) = ao v ∧ z_is (ao v) 64)
    (h : ∀ n, wp_L_gives_119 P q lr lw0 lo0 lg0 r96 v5 (lr r) lw lo lg (n + 1) (encL (fvS σ pn ao r 8)) (nI 0 + (-1))) : ∃ n, wp_L_gives_119 P q lr lw0 lo0 lg0 r96 v5 (lr r) lw lo lg n (-1 : Int32) (7 : Int32) := by
  have main : ∀ j, j ≤ 8 → ∀ c, OpD σ pn ao r j c → wp_L_gives_119 P q lr lw0 lo0 lg0 r96 v5 (lr r) lw lo lg (j + 1) (encL c) (nI j + (-1)) := by
    intro j
    induction j with
    | zero =>
      intro _ c hc
      rw [op_fv hc]; exact h 0
    | succ j ih =>
      intro hj c hc
      have hj8 : j < 8 := by omega
      obtain ⟨g1, g2, g3⟩ := hg j hj8
      rw [z_p' j]
      have nxt : nI j + (-1 : Int32) = nI j + (-1) := rfl
      -- how the choice goes on
      have no : tkS σ pn ao r j = false → wp_L_gives_204 P q lr lw0 lo0 lg0 r96 (wp_L_gives_119 P q lr lw0 lo0 lg0 r96 v5 (lr r) lw lo lg (j + 1)) v5 (lr r) (encL c) (nI j) (0 : Int32) lw lo lg := by
        intro ht
        refine z_f' (ih (by omega) c ?_)
        cases c with
        | none =>
          intro v hv hv8
          by_cases g : v = j
          · subst g; rw [ht]; decide
          · exact hc v (by omega) hv8
        | some w =>
          obtain ⟨h1, h2, h3, h4⟩ := hc
          refine ⟨by omega, h2, h3, fun v hv hv8 hvt => ?_⟩
          by_cases g : v = j
          · subst g; rw [ht] at hvt; cases hvt
          · exact h4 v (by omega) hv8 hvt
      have yes : tkS σ pn ao r j = true → wp_L_gives_204 P q lr lw0 lo0 lg0 r96 (wp_L_gives_119 P q lr lw0 lo0 lg0 r96 v5 (lr r) lw lo lg (j + 1)) v5 (lr r) (encL c) (nI j) (1 : Int32) lw lo lg := by
        intro ht
        refine z_t' ?_
        cases c with
        | none =>
          refine z_y encL_lt (ih (by omega) (some j) ⟨Nat.le_refl _, hj8, ht, fun v hv hv8 hvt => ?_⟩)
          by_cases g : v = j
          · subst g; exact Or.inr ⟨rfl, Nat.le_refl _⟩
          · exact absurd hvt (hc v (by omega) hv8)
        | some w =>
          obtain ⟨h1, h2, h3, h4⟩ := hc
          refine z_n (encL_nlt h2) ?_
          rw [show encL (some w) = nI w from rfl, z_18, z_18, z_cl (by omega), z_cl (by omega), hq.le w h2, hq.le j hj8]
          refine ⟨z_in (by omega) (by omega), z_in (by omega) (by omega), ?_⟩
          by_cases d : σ.le w < σ.le j
          · refine z_y d (ih (by omega) (some w) ⟨by omega, h2, h3, fun v hv hv8 hvt => ?_⟩)
            rw [z_lt] at d
            by_cases g : v = j
            · subst g; exact Or.inl d
            · exact h4 v (by omega) hv8 hvt
          · refine z_n d (ih (by omega) (some j) ⟨Nat.le_refl _, hj8, ht, fun v hv hv8 hvt => ?_⟩)
            rw [z_lt] at d
            by_cases g : v = j
            · subst g; exact Or.inr ⟨rfl, Nat.le_refl _⟩
            · have := h4 v (by omega) hv8 hvt; omega
      refine z_n (show ¬ nI j < nI 0 by rw [z_ltN (by omega) (by omega)]; omega) ?_
      rw [z_18, z_cl (by omega), hq.le j hj8]
      refine ⟨z_in (by omega) (by omega), L_rd hq hr hR ?_⟩
      rw [hq.i1]
      by_cases c1 : (0 : Int32) ≤ σ.le j - rdS σ r
      · refine z_n (by rw [z_lt]; rw [z_le] at c1; omega) ?_
        by_cases c2 : σ.le j - rdS σ r ≤ σ.se 1
        · refine z_n (by rw [z_lt]; rw [z_le] at c2; omega) ⟨z_in (by omega) (by omega), L_pe hr hR ?_⟩
          rw [z_26, z_cl (by omega), z_cl (by omega), hq.sa j hj8, g1]
          refine ⟨z_in (by omega) (by omega), ?_⟩
          by_cases c3 : pn j + σ.pe r ≤ σ.sa j
          · refine z_n (by rw [z_lt]; rw [z_le] at c3; omega) ?_
            rw [z_8, z_cl (by omega), g2]
            refine ⟨z_in (by omega) (by omega), L_ar hr hR (L_ones (or_is g3 (V.ar r hR)).1 ?_)⟩
            rw [hq.i2]
            by_cases c4 : zO (ao j ||| ((1 : Int32) <<< (σ.ar r &&& 31))) 6 ≤ σ.se 2
            · refine z_n (by rw [z_lt]; rw [z_le] at c4; omega) (yes ?_)
              simp only [tkS, c1, c2, c3, c4, and_self, decide_true, Bool.and_self]
            · refine z_y (by rw [z_lt]; rw [z_le] at c4; omega) (no ?_)
              simp [tkS, c4]
          · refine z_y (by rw [z_lt]; rw [z_le] at c3; omega) (no ?_)
            simp [tkS, c3]
        · refine z_y (by rw [z_lt]; rw [z_le] at c2; omega) (no ?_)
          simp [tkS, c2]
      · refine z_y (by rw [z_lt]; rw [z_le] at c1; omega) (no ?_)
        simp [tkS, c1]
  have h8 := main 8 (Nat.le_refl _) none (fun v h1 h2 => absurd h1 (by omega))
  rw [← z_8m] at h8
  exact ⟨9, h8⟩
/-- the vans given, as the law keeps them -/
def LG (σ : StT) (R : Nat) (w : Nat → Int32) (g : Nat → Int32) : Prop := (∀ k, k < R → w k = encL ((BD σ R).1 k)) ∧ (∀ v, v < 8 → g v = (BD σ R).2.1 v) ∧ (∀ v, v < 8 → g (8 + v) = (BD σ R).2.2 v)
theorem LG.w {σ : StT} {R : Nat} {w : Nat → Int32} {g : Nat → Int32} (h : LG σ R w g) : ∀ k, k < R → w k = encL ((BD σ R).1 k) := h.1
theorem LG.g {σ : StT} {R : Nat} {w : Nat → Int32} {g : Nat → Int32} (h : LG σ R w g) : ∀ v, v < 8 → g v = (BD σ R).2.1 v := h.2.1
theorem LG.a {σ : StT} {R : Nat} {w : Nat → Int32} {g : Nat → Int32} (h : LG σ R w g) : ∀ v, v < 8 → g (8 + v) = (BD σ R).2.2 v := h.2.2
theorem L_board {P : (Nat → Int32) → (Nat → Int32) → (Nat → Int32) → Prop} {σ : StT} {R : Nat} {q lr lw0 lo0 lg0 lo : Nat → Int32} (V : SV σ R) (hq : LQ σ R q) (hr : LR σ R lr) {o : Nat → Nat} (ho : IsOrd (rdS σ) R o) (hlo : ∀ j, j < R → lo j = nI (o j))
    (h : ∀ lw lg, LG σ R lw lg → P lw lo lg) : ∀ d k, k + d = R → ∀ (lw lg : Nat → Int32), (∀ j, j < k → lw (o j) = encL ((bdS σ o k).1 (o j))) → (∀ v, v < 8 → lg v = (bdS σ o k).2.1 v) → (∀ v, v < 8 → lg (8 + v) = (bdS σ o k).2.2 v) → wp_L_gives_96 P q lr lw0 lo0 lg0 lo (d + 1) (nI k) lw lg := by
  have hR := V.hR
  intro d
  induction d with
  | zero =>
    intro k hk lw lg h1 h2 h3
    have e : k = R := by omega
    subst e
    refine z_y (by rw [hq.i5, z_leN (by omega) (by omega)]; omega) (h _ _ ?_)
    refine ⟨fun r hr => ?_, fun v hv => ?_, fun v hv => ?_⟩
    · rw [BD_eq ho]
      obtain ⟨j, hj, e⟩ := ho.sur r hr
      rw [← e]; exact h1 j hj
    · rw [BD_eq ho]; exact h2 v hv
    · rw [BD_eq ho]; exact h3 v hv
  | succ d ih =>
    intro k hk lw lg h1 h2 h3
    have hok := ho.lt k (by omega)
    have B := bdI V ho.lt k (by omega)
    refine z_n (by rw [hq.i5, z_leN (by omega) (by omega)]; omega) ⟨z_in (by omega) (by omega), ?_⟩
    rw [z_cl (by omega), hlo k (by omega)]
    refine ⟨z_in (by omega) (by omega), ?_⟩
    rw [z_cl (by omega)]
    have hne : ∀ j, j < k → o j ≠ o k := fun j hj e => by have := ho.inj (by omega) (by omega) e; omega
    have eV : (bdS σ o (k + 1)).1 = upO (bdS σ o k).1 (o k) (fvS σ (bdS σ o k).2.1 (bdS σ o k).2.2 (o k) 8) := stS_V
    have est : bdS σ o (k + 1) = stS σ (o k) (bdS σ o k) := rfl
    have old : ∀ j, j < k → (bdS σ o (k + 1)).1 (o j) = (bdS σ o k).1 (o j) := fun j hj => by rw [eV, upO_n (hne j hj)]
    have new : (bdS σ o (k + 1)).1 (o k) = fvS σ (bdS σ o k).2.1 (bdS σ o k).2.2 (o k) 8 := by rw [eV, upO_s]
    refine L_best V hq hr hok (pn := (bdS σ o k).2.1) (ao := (bdS σ o k).2.2) (fun v hv => ⟨h2 v hv, h3 v hv, (B v hv).2.1⟩) (fun n => ?_)
    refine z_y z_m1lt ⟨z_in (by omega) (by omega), ?_⟩
    rw [z_cl (by omega), hlo k (by omega)]
    refine ⟨z_in (by omega) (by omega), ?_⟩
    rw [z_cl (by omega), z_s]
    have hvw : ∀ j, j < k + 1 → upd lw (o k) (encL (fvS σ (bdS σ o k).2.1 (bdS σ o k).2.2 (o k) 8)) (o j) = encL ((bdS σ o (k + 1)).1 (o j)) := by
      intro j hj
      by_cases c : j = k
      · rw [c, z_us, new]
      · rw [z_un (hne j (by omega)), old j (by omega)]; exact h1 j (by omega)
    cases e : fvS σ (bdS σ o k).2.1 (bdS σ o k).2.2 (o k) 8 with
    | none =>
      rw [e] at hvw
      refine z_y encL_lt (ih (k + 1) (by omega) _ _ hvw ?_ ?_)
      · rw [est]; unfold stS; rw [e]; exact h2
      · rw [est]; unfold stS; rw [e]; exact h3
    | some w =>
      rw [e] at hvw
      have hw := (fvS_some e).1
      refine z_n (encL_nlt hw) ?_
      show vp_in (nI w) 16 ∧ wp_L_people (fun r_24 => vp_in (nI w) 16 ∧ vp_in ((8 : Int32) + nI w) 16 ∧ wp_L_areaOf (fun r_27 => vp_in ((8 : Int32) + nI w) 16 ∧ wp_L_gives_96 P q lr lw0 lo0 lg0 lo (d + 1) (nI (k + 1)) (upd lw (o k) (nI w)) (upd (upd lg (nI w).toNatClampNeg (lg (nI w).toNatClampNeg + r_24)) ((8 : Int32) + nI w).toNatClampNeg (upd lg (nI w).toNatClampNeg (lg (nI w).toNatClampNeg + r_24) ((8 : Int32) + nI w).toNatClampNeg ||| ((1 : Int32) <<< (r_27 &&& 31))))) (lr (o k))) (lr (o k))
      rw [z_8, z_cl (n := w) (by omega), z_cl (n := 8 + w) (by omega)]
      have i1 : vp_in (nI w) 16 := z_in (by omega) (by omega)
      have i2 : vp_in (nI (8 + w)) 16 := z_in (by omega) (by omega)
      refine ⟨i1, L_pe hr hok ⟨i1, i2, L_ar hr hok ⟨i2, ih (k + 1) (by omega) _ _ hvw ?_ ?_⟩⟩⟩
      · rw [est]; unfold stS; rw [e]
        intro v hv
        show _ = upd _ w _ v
        rw [z_un (by omega), z_upd, z_upd, h2 v hv, h2 w hw]
      · rw [est]; unfold stS; rw [e]
        intro v hv
        show _ = upd _ w _ v
        rw [z_upd _ _ _ (8 + v), z_upd _ _ _ v, z_un (f := lg) (j := 8 + w) (by omega), z_un (f := lg) (j := 8 + v) (by omega), h3 v hv, h3 w hw]
        by_cases c : v = w
        · rw [if_pos c, if_pos (by omega)]
        · rw [if_neg c, if_neg (by omega)]
theorem L_gives {P : (Nat → Int32) → (Nat → Int32) → (Nat → Int32) → Prop} {σ : StT} {R : Nat} {q lr lw0 lo0 lg0 : Nat → Int32} (V : SV σ R) (hq : LQ σ R q) (hr : LR σ R lr)
    (h : ∀ lw lo lg, LG σ R lw lg → P lw lo lg) : wp_L_gives P q lr lw0 lo0 lg0 := by
  have hR := V.hR
  have l74 : ∀ (lo : Nat → Int32) (o : Nat → Nat), IsOrd (rdS σ) R o → (∀ j, j < R → lo j = nI (o j)) → ∃ n, wp_L_gives_74 P q lr lw0 lo0 lg0 lw0 lo n (nI 0) lg0 := by
    intro lo o ho hlo
    suffices hh : ∃ n, ∀ lg : Nat → Int32, (∀ v, v < 0 → lg v = 0) → wp_L_gives_74 P q lr lw0 lo0 lg0 lw0 lo n (nI 0) lg by
      obtain ⟨n, hn⟩ := hh
      exact ⟨n, hn _ (fun v hv => absurd hv (by omega))⟩
    refine z_up (fun n k => ∀ lg : Nat → Int32, (∀ v, v < k → lg v = 0) → wp_L_gives_74 P q lr lw0 lo0 lg0 lw0 lo n (nI k) lg) 16 (fun n => ?_) (fun n k hk ih => ?_) 0 (by omega)
    · intro lg hg
      refine z_y (by decide) ⟨R + 1, L_board V hq hr ho hlo (fun lw lg hh => h _ _ _ hh) R 0 (by omega) _ _ (fun j hj => absurd hj (by omega)) (fun v hv => ?_) (fun v hv => ?_)⟩
      · rw [hg v (by omega)]; rfl
      · rw [hg (8 + v) (by omega)]; rfl
    · intro lg hg
      refine z_n (by rw [show (16 : Int32) = nI 16 from rfl, z_leN (by omega) (by omega)]; omega) ⟨z_in hk (by omega), ?_⟩
      rw [z_s, z_cl (by omega)]
      refine ih _ (fun v hv => ?_)
      rw [z_upd]; split
      · rfl
      · exact hg v (by omega)
  suffices hh : ∀ d k, k + d = R → ∀ (od : Nat → Int32) (o : Nat → Nat), IsOrd (rdS σ) k o → (∀ j, j < k → od j = nI (o j)) → wp_L_gives_3 P q lr lw0 lo0 lg0 lw0 lg0 (d + 1) (nI k) od from
    ⟨R + 1, hh R 0 (by omega) _ (fun _ => 0) ⟨fun k hk => absurd hk (by omega), fun j k _ hk => absurd hk (by omega), fun r hr => absurd hr (by omega)⟩ (fun j hj => absurd hj (by omega))⟩
  intro d
  induction d with
  | zero =>
    intro k hk od o ho h1
    have e : k = R := by omega
    subst e
    exact z_y (by rw [hq.i5, z_leN (by omega) (by omega)]; omega) (l74 od o ho h1)
  | succ d ih =>
    intro k hk od o ho h1
    refine z_n (by rw [hq.i5, z_leN (by omega) (by omega)]; omega) ⟨k + 1, ?_⟩
    exact L_in (by omega) (fun Q r hr' p => L_rd hq hr (by omega) p) ho (fun od' o' ho' h1' => ih (k + 1) (by omega) od' o' ho' h1') k od (by omega) h1 (fun j a b => by omega) (fun j a b => by omega)
