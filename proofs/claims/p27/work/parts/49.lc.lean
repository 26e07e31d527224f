/-! ===== stops ahead of a place; minutes ===== -/
theorem encL_inj {a b : Option Nat} (ha : ∀ v, a = some v → v < 8) (hb : ∀ v, b = some v → v < 8) : encL a = encL b ↔ a = b := by
  constructor
  · intro h
    cases a with
    | none =>
      cases b with
      | none => rfl
      | some w => exact absurd (h ▸ encL_lt) (encL_nlt (hb w rfl))
    | some v =>
      cases b with
      | none => exact absurd (h.symm ▸ encL_lt) (encL_nlt (ha v rfl))
      | some w =>
        have := (z_eqN (by have := ha v rfl; omega) (by have := hb w rfl; omega)).mp h
        rw [this]
  · intro h; rw [h]
/-- whom a plan may name: vans below 8 -/
def B8 (b : BT) : Prop := ∀ r v, b.1 r = some v → v < 8
theorem BD8 (σ : StT) (R : Nat) : B8 (BD σ R) := fun _ _ h => bdV h
theorem eL_some {b : BT} (h8 : B8 b) {r van : Nat} (hvan : van < 8) : encL (b.1 r) = nI van ↔ b.1 r = some van :=
  encL_inj (a := b.1 r) (b := some van) (fun _ h => h8 _ _ h) (fun v h => by cases h; exact hvan)
theorem eL_ge {b : BT} (h8 : B8 b) {r : Nat} : (0 : Int32) ≤ encL (b.1 r) ↔ ∃ v, b.1 r = some v := by
  cases e : b.1 r with
  | none => exact ⟨fun h => (encL_neg h).elim, fun h => by obtain ⟨v, h⟩ := h; cases h⟩
  | some v =>
    have := h8 _ _ e
    refine ⟨fun _ => ⟨v, rfl⟩, fun _ => ?_⟩
    show nI 0 ≤ nI v
    rw [z_leN (by omega) (by omega)]; omega
/-- rider k is the first of his stop in the van, and his key is below K -/
def frP (σ : StT) (b : BT) (van : Nat) (K : Int32) (k : Nat) : Prop := b.1 k = some van ∧ kyS σ k < K ∧ ∀ e, e < k → b.1 e = some van → kyS σ e ≠ kyS σ k
/-- sums of numbers -/
def nS (f : Nat → Nat) : Nat → Nat
  | 0 => 0
  | k + 1 => nS f k + f k
noncomputable def pN (p : Prop) : Nat := @ite _ p (Classical.propDecidable p) 1 0
theorem pN_t {p : Prop} (h : p) : pN p = 1 := by unfold pN; rw [if_pos h]
theorem pN_f {p : Prop} (h : ¬ p) : pN p = 0 := by unfold pN; rw [if_neg h]
theorem pN_le (p : Prop) : pN p ≤ 1 := by
  by_cases h : p
  · rw [pN_t h]; omega
  · rw [pN_f h]; omega
theorem pN_congr {p q : Prop} (h : p ↔ q) : pN p = pN q := by
  by_cases c : p
  · rw [pN_t c, pN_t (h.mp c)]
  · rw [pN_f c, pN_f (fun g => c (h.mpr g))]
theorem nS_congr {f g : Nat → Nat} : ∀ {k : Nat}, (∀ j, j < k → f j = g j) → nS f k = nS g k
  | 0, _ => rfl
  | k + 1, h => by
    show nS f k + f k = nS g k + g k
    rw [nS_congr fun j hj => h j (by omega), h k (by omega)]
theorem nS_0 {f : Nat → Nat} : ∀ {k : Nat}, (∀ j, j < k → f j = 0) → nS f k = 0
  | 0, _ => rfl
  | k + 1, h => by
    show nS f k + f k = 0
    rw [nS_0 fun j hj => h j (by omega), h k (by omega)]
theorem nS_add {f g : Nat → Nat} : ∀ {k : Nat}, nS (fun j => f j + g j) k = nS f k + nS g k
  | 0 => rfl
  | k + 1 => by
    show nS (fun j => f j + g j) k + (f k + g k) = nS f k + f k + (nS g k + g k)
    rw [nS_add]; omega
theorem nS_swap {F : Nat → Nat → Nat} {R : Nat} : ∀ {n : Nat}, nS (fun f => nS (F f) R) n = nS (fun r => nS (fun f => F f r) n) R
  | 0 => (nS_0 (fun _ _ => rfl)).symm
  | n + 1 => by
    show nS (fun f => nS (F f) R) n + nS (F n) R = nS (fun r => nS (fun f => F f r) n + F n r) R
    rw [nS_swap, nS_add]
theorem nS_le {f g : Nat → Nat} : ∀ {k : Nat}, (∀ j, j < k → f j ≤ g j) → nS f k ≤ nS g k
  | 0, _ => Nat.le_refl _
  | k + 1, h => by
    have := nS_le (f := f) (g := g) (k := k) fun j hj => h j (by omega)
    have := h k (by omega)
    show nS f k + f k ≤ nS g k + g k
    omega
/-- one alone -/
theorem nS_one {f : Nat → Nat} {i : Nat} (h : ∀ j, j ≠ i → f j = 0) : ∀ {k : Nat}, nS f k = if i < k then f i else 0
  | 0 => by rw [if_neg (by omega)]; rfl
  | k + 1 => by
    show nS f k + f k = _
    rw [nS_one h]
    by_cases c : k = i
    · subst c; rw [if_neg (by omega), if_pos (by omega), Nat.zero_add]
    · rw [h k c]
      by_cases d : i < k
      · rw [if_pos d, if_pos (by omega), Nat.add_zero]
      · rw [if_neg d, if_neg (by omega)]
noncomputable def saS (σ : StT) (b : BT) (van : Nat) (K : Int32) : Nat → Nat := nS (fun k => pN (frP σ b van K k))
theorem saS_le {σ : StT} {b : BT} {van : Nat} {K : Int32} : ∀ k, saS σ b van K k ≤ k
  | 0 => Nat.le_refl _
  | k + 1 => by
    have := saS_le (σ := σ) (b := b) (van := van) (K := K) k
    have := pN_le (frP σ b van K k)
    show saS σ b van K k + pN (frP σ b van K k) ≤ k + 1
    omega
section LSA
variable {P : Int32 → Prop} {σ : StT} {R : Nat} {q lr lw : Nat → Int32} {b : BT}
theorem L_ahead56 {r6 : Int32 → Int32 → Prop} {van k : Nat} {x0 x1 v5 y : Int32} (hx0 : x0 = nI van) (hvan : van < 8) (h8 : B8 b) (hR : R ≤ 24) (hr : LR σ R lr) (hw : ∀ k, k < R → lw k = encL (b.1 k)) (hk : k < R) (hy : y = (lr k >>> ((3 : Int32) &&& 31)) &&& (1023 : Int32)) (p0 : Prop)
    (h1 : (p0 ∧ ∀ e, e < k → b.1 e = some van → kyS σ e ≠ kyS σ k) → r6 (v5 + 1) (nI (k + 1))) (h0 : ¬ (p0 ∧ ∀ e, e < k → b.1 e = some van → kyS σ e ≠ kyS σ k) → r6 (v5 + 0) (nI (k + 1))) (t : Bool) (ht : t = true ↔ p0) : ∃ n, wp_L_stopsAhead_56 P q lr lw x0 x1 r6 v5 (nI k) y n (bI t) (0 : Int32) := by
  subst hx0
  have main : ∀ d e, e + d = k → ∀ t : Bool, (t = true ↔ (p0 ∧ ∀ e', e' < e → b.1 e' = some van → kyS σ e' ≠ kyS σ k)) → wp_L_stopsAhead_56 P q lr lw (nI van) x1 r6 v5 (nI k) y (d + 1) (bI t) (nI e) := by
    intro d
    induction d with
    | zero =>
      intro e he t ht
      have : e = k := by omega
      subst this
      refine z_y (by rw [z_leN (by omega) (by omega)]; omega) ?_
      rw [z_s]
      cases t with
      | true => exact z_t' (h1 (ht.mp rfl))
      | false => exact z_f' (h0 (fun g => by have := ht.mpr g; cases this))
    | succ d ih =>
      intro e he t ht
      refine z_n (by rw [z_leN (by omega) (by omega)]; omega) ?_
      rw [z_s, z_cl (by omega)]
      have next : ∀ t' : Bool, (t' = true ↔ (t = true ∧ (b.1 e = some van → kyS σ e ≠ kyS σ k))) → wp_L_stopsAhead_56 P q lr lw (nI van) x1 r6 v5 (nI k) y (d + 1) (bI t') (nI (e + 1)) := by
        intro t' ht'
        refine ih (e + 1) (by omega) t' (ht'.trans ?_)
        rw [ht]
        constructor
        · intro g
          refine ⟨g.1.1, fun e' he' => ?_⟩
          by_cases c : e' = e
          · subst c; exact g.2
          · exact g.1.2 e' (by omega)
        · intro g
          exact ⟨⟨g.1, fun e' he' => g.2 e' (by omega)⟩, g.2 e (by omega)⟩
      cases t with
      | false => exact z_f' (next false ⟨fun g => (by cases g), fun g => by cases g.1⟩)
      | true =>
        refine z_t' ⟨z_in (by omega) (by omega), ?_⟩
        rw [hw e (by omega)]
        by_cases c : b.1 e = some van
        · refine z_y' ((eL_some h8 hvan).mpr c) ⟨z_in (by omega) (by omega), ?_⟩
          by_cases g : kyS σ e = kyS σ k
          · exact z_y (((L_its hr (by omega) hk).mpr g).trans hy.symm) (next false ⟨fun a => (by cases a), fun a => absurd g (a.2 c)⟩)
          · exact z_n (fun a => g ((L_its hr (by omega) hk).mp (a.trans hy))) (next true ⟨fun _ => ⟨rfl, fun _ => g⟩, fun _ => rfl⟩)
        · exact z_n' (fun a => c ((eL_some h8 hvan).mp a)) (next true ⟨fun _ => ⟨rfl, fun a => absurd a c⟩, fun _ => rfl⟩)
  exact ⟨k + 1, main k 0 (by omega) t (ht.trans ⟨fun g => ⟨g, fun e he => absurd he (by omega)⟩, fun g => g.1⟩)⟩
theorem L_ahead {van : Nat} {K : Int32} (hvan : van < 8) (h8 : B8 b) (hR : R ≤ 24) (hq : LQ σ R q) (hr : LR σ R lr) (hw : ∀ k, k < R → lw k = encL (b.1 k)) (h : P (nI (saS σ b van K R))) : wp_L_stopsAhead P q lr lw (nI van) K := by
  refine z_up (fun n k => wp_L_stopsAhead_6 P q lr lw (nI van) K n (nI (saS σ b van K k)) (nI k)) R (fun n => ?_) (fun n k hk ih => ?_) 0 (by omega)
  · exact z_y (by rw [hq.i5, z_leN (by omega) (by omega)]; omega) h
  · refine z_n (by rw [hq.i5, z_leN (by omega) (by omega)]; omega) ⟨z_in (by omega) (by omega), ?_⟩
    rw [z_cl (by omega)]
    intro y ey
    refine ⟨z_in (by omega) (by omega), ?_⟩
    have e1 : saS σ b van K (k + 1) = saS σ b van K k + pN (frP σ b van K k) := rfl
    have st : ∀ (p0 : Prop) (t : Bool), (t = true ↔ p0) → (p0 ↔ (b.1 k = some van ∧ kyS σ k < K)) → ∃ n', wp_L_stopsAhead_56 P q lr lw (nI van) K (wp_L_stopsAhead_6 P q lr lw (nI van) K n) (nI (saS σ b van K k)) (nI k) y n' (bI t) (0 : Int32) := by
      intro p0 t ht hp
      refine L_ahead56 rfl hvan h8 hR hr hw hk ey p0 (fun g => ?_) (fun g => ?_) t ht
      · have : frP σ b van K k := ⟨(hp.mp g.1).1, (hp.mp g.1).2, g.2⟩
        rw [e1, pN_t this] at ih
        rw [z_s]; exact ih
      · have : ¬ frP σ b van K k := fun a => g ⟨hp.mpr ⟨a.1, a.2.1⟩, a.2.2⟩
        rw [e1, pN_f this] at ih
        rw [z_a0]; exact ih
    rw [hw k hk]
    by_cases c : b.1 k = some van
    · refine z_y' ((eL_some h8 hvan).mpr c) ⟨z_in (by omega) (by omega), L_key hr hk ?_⟩
      by_cases g : kyS σ k < K
      · exact z_n (by rw [z_le]; rw [z_lt] at g; omega) (st True true ⟨fun _ => trivial, fun _ => rfl⟩ ⟨fun _ => ⟨c, g⟩, fun _ => trivial⟩)
      · exact z_y (by rw [z_le]; rw [z_lt] at g; omega) (st False false ⟨fun a => (by cases a), fun a => a.elim⟩ ⟨fun a => a.elim, fun a => g a.2⟩)
    · exact z_n' (fun a => c ((eL_some h8 hvan).mp a)) (st False false ⟨fun a => (by cases a), fun a => a.elim⟩ ⟨fun a => a.elim, fun a => c a.1⟩)
/-- the areas up to a place -/
def amS (σ : StT) (b : BT) (van : Nat) (K : Int32) : Nat → Int32
  | 0 => 0
  | k + 1 => if b.1 k = some van ∧ kyS σ k ≤ K then amS σ b van K k ||| ((1 : Int32) <<< (σ.ar k &&& 31)) else amS σ b van K k
theorem amS_is (V : SV σ R) {van : Nat} {K : Int32} : ∀ k, k ≤ R → z_is (amS σ b van K k) 64
  | 0, _ => ⟨0, by omega, rfl⟩
  | k + 1, hk => by
    have ih := amS_is V (van := van) (K := K) k (by omega)
    rw [amS]
    split
    · exact (or_is ih (V.ar k (by omega))).1
    · exact ih
/-- the minute at a place, as the law reckons it -/
noncomputable def mmS (σ : StT) (b : BT) (R van : Nat) (K : Int32) : Int32 := ((σ.le van + (10 : Int32)) + ((5 : Int32) * (K / (100 : Int32)))) + ((3 : Int32) * ((nI (saS σ b van K R) + (1 : Int32)) - zO (amS σ b van K R) 6))
theorem or_0 (x : Int32) : x ||| (0 : Int32) = x := Int32.or_zero
theorem L_minute {van : Nat} {K : Int32} (V : SV σ R) (hvan : van < 8) (h8 : B8 b) (hq : LQ σ R q) (hr : LR σ R lr) (hw : ∀ k, k < R → lw k = encL (b.1 k)) (h : P (mmS σ b R van K)) : wp_L_minuteAt P q lr lw (nI van) K := by
  have hR := V.hR
  refine z_up (fun n k => wp_L_minuteAt_6 P q lr lw (nI van) K n (amS σ b van K k) (nI k)) R (fun n => ?_) (fun n k hk ih => ?_) 0 (by omega)
  · refine z_y (by rw [hq.i5, z_leN (by omega) (by omega)]; omega) (L_ahead hvan h8 hR hq hr hw ?_)
    rw [z_18, z_cl (by omega), hq.le van hvan]
    exact ⟨z_in (by omega) (by omega), L_ones (amS_is V R (Nat.le_refl _)) h⟩
  · refine z_n (by rw [hq.i5, z_leN (by omega) (by omega)]; omega) ⟨z_in (by omega) (by omega), ?_⟩
    rw [z_cl (by omega), hw k hk, z_s, or_0]
    by_cases c : b.1 k = some van
    · refine z_y' ((eL_some h8 hvan).mpr c) ⟨z_in (by omega) (by omega), L_key hr hk ?_⟩
      by_cases g : kyS σ k ≤ K
      · refine z_n (by rw [z_lt]; rw [z_le] at g; omega) ⟨z_in (by omega) (by omega), L_ar hr hk ?_⟩
        rw [amS, if_pos ⟨c, g⟩] at ih; exact ih
      · rw [amS, if_neg (fun a => g a.2)] at ih
        exact z_y (by rw [z_lt]; rw [z_le] at g; omega) ih
    · rw [amS, if_neg (fun a => c a.1)] at ih
      exact z_n' (fun a => c ((eL_some h8 hvan).mp a)) ih
/-! ===== what a rider pays, as the law reckons it ===== -/
theorem shL (h8 : B8 b) {k r : Nat} : encL (b.1 k) = encL (b.1 r) ↔ b.1 k = b.1 r := encL_inj (fun _ h => h8 _ _ h) (fun _ h => h8 _ _ h)
theorem shS_s {s : Bool} {r k : Nat} : shS σ b s r k = true ↔ (b.1 k = b.1 r ∧ (s = true → kyS σ k = kyS σ r)) := by
  unfold shS
  rw [Bool.and_eq_true, decide_eq_true_iff, Bool.or_eq_true, decide_eq_true_iff]
  constructor
  · rintro ⟨h1, h2⟩
    refine ⟨h1.symm, fun hs => ?_⟩
    rcases h2 with h2 | h2
    · rw [hs] at h2; cases h2
    · exact h2.symm
  · rintro ⟨h1, h2⟩
    refine ⟨h1.symm, ?_⟩
    cases s with
    | false => exact Or.inl rfl
    | true => exact Or.inr (h2 rfl).symm
/-- the question whether two share -/
theorem L_share {A B : Prop} {P2 : Prop → Prop → Prop} {s : Bool} {r k : Nat} (h8 : B8 b) (hr : LR σ R lr) (hw : ∀ k, k < R → lw k = encL (b.1 k)) (hk : k < R) (hrR : r < R) (hR : R ≤ 24) (no : shS σ b s r k = false → A) (yes : shS σ b s r k = true → B) :
    ((¬ lw k = lw r → A) ∧ (lw k = lw r → (bI s = 0 → B) ∧ (¬ bI s = 0 → vp_in (nI k) 24 ∧ wp_L_keyOf (fun a => vp_in (nI r) 24 ∧ wp_L_keyOf (fun c => ((¬ a = c) → A) ∧ (a = c → B)) (lr r)) (lr k)))) := by
  have no' : ¬ (b.1 k = b.1 r ∧ (s = true → kyS σ k = kyS σ r)) → A := fun g => no (by
    cases e : shS σ b s r k with
    | false => rfl
    | true => exact absurd (shS_s.mp e) g)
  have yes' : (b.1 k = b.1 r ∧ (s = true → kyS σ k = kyS σ r)) → B := fun g => yes (shS_s.mpr g)
  rw [hw k hk, hw r hrR]
  by_cases c : b.1 k = b.1 r
  · refine z_y' ((shL h8).mpr c) ?_
    cases s with
    | false => exact z_y rfl (yes' ⟨c, fun a => by cases a⟩)
    | true =>
      refine z_n z_10 ⟨z_in (by omega) (by omega), L_key hr hk ⟨z_in (by omega) (by omega), L_key hr hrR ?_⟩⟩
      by_cases g : kyS σ k = kyS σ r
      · exact z_y' g (yes' ⟨c, fun _ => g⟩)
      · exact z_n' g (no' (fun a => g (a.2 rfl)))
  · exact z_n' (fun a => c ((shL h8).mp a)) (no' (fun a => c a.1))
theorem L_part {r : Nat} (V : SV σ R) (h8 : B8 b) (hq : LQ σ R q) (hr : LR σ R lr) (hw : ∀ k, k < R → lw k = encL (b.1 k)) (hrR : r < R) (c : Int32) (s : Bool) (h : P (faS σ b s r R c)) : wp_L_part P q lr lw (nI r) c (bI s) := by
  have hR := V.hR
  have hpos := pl_pos V (b := b) (s := s) hrR
  have hne : ¬ zS (plS σ b s r) R = 0 := by rw [z_eq, z_00]; omega
  have ir : vp_in (nI r) 24 := z_in (by omega) (by omega)
  refine z_up (fun n k => wp_L_part_6 P q lr lw (nI r) c (bI s) n (zS (plS σ b s r) k) (nI k)) R (fun n => ?_) (fun n k hk ih => ?_) 0 (by omega)
  · refine z_y (by rw [hq.i5, z_leN (by omega) (by omega)]; omega) ?_
    refine z_up (fun n k => wp_L_part_92 P q lr lw (nI r) c (bI s) (zS (plS σ b s r) R) n (ovS σ b s r c (zS (plS σ b s r) R) k) (loS σ b s r k) (nI k)) R (fun n => ?_) (fun n k hk ih => ?_) 0 (by omega)
    · refine z_y (by rw [hq.i5, z_leN (by omega) (by omega)]; omega) ⟨ir, ?_⟩
      rw [z_cl (by omega)]
      refine L_pe hr hrR ⟨hne, ?_⟩
      unfold faS at h
      by_cases d : ovS σ b s r c (zS (plS σ b s r) R) R ≤ loS σ b s r R
      · rw [if_pos d] at h; rw [z_a0]; exact z_y d h
      · rw [if_neg d] at h; exact z_n d h
    · refine z_n (by rw [hq.i5, z_leN (by omega) (by omega)]; omega) ⟨z_in (by omega) (by omega), ir, ?_⟩
      rw [z_cl (by omega), z_cl (by omega)]
      refine L_share (P2 := fun a _ => a) h8 hr hw hk hrR hR (fun e => ?_) (fun e => ?_)
      · refine z_f' (z_f' ?_)
        rw [z_s, z_s0, z_a0]
        have e1 : ovS σ b s r c (zS (plS σ b s r) R) (k + 1) = ovS σ b s r c (zS (plS σ b s r) R) k := by simp [ovS, e]
        have e2 : loS σ b s r (k + 1) = loS σ b s r k := by simp [loS, e]
        rw [e1, e2] at ih; exact ih
      · refine z_t' ⟨z_in (by omega) (by omega), ?_⟩
        rw [z_cl (by omega)]
        refine L_pe hr hk ⟨hne, z_t' ?_⟩
        rw [z_s]
        have e1 : ovS σ b s r c (zS (plS σ b s r) R) (k + 1) = ovS σ b s r c (zS (plS σ b s r) R) k - (c * σ.pe k) / zS (plS σ b s r) R := by simp [ovS, e]
        rw [e1] at ih
        by_cases d : k < r
        · have e2 : loS σ b s r (k + 1) = loS σ b s r k + 1 := by simp [loS, e, d]
          rw [e2] at ih
          exact z_n (by rw [z_leN (by omega) (by omega)]; omega) ih
        · have e2 : loS σ b s r (k + 1) = loS σ b s r k := by simp [loS, e, d]
          rw [e2] at ih
          rw [z_a0]
          exact z_y (by rw [z_leN (by omega) (by omega)]; omega) ih
  · refine z_n (by rw [hq.i5, z_leN (by omega) (by omega)]; omega) ⟨z_in (by omega) (by omega), ir, ?_⟩
    rw [z_cl (by omega), z_cl (by omega)]
    have e0 : zS (plS σ b s r) (k + 1) = zS (plS σ b s r) k + plS σ b s r k := rfl
    refine L_share (P2 := fun a _ => a) h8 hr hw hk hrR hR (fun e => ?_) (fun e => ?_)
    · refine z_f' ?_
      have e1 : plS σ b s r k = 0 := by simp [plS, e]
      rw [e0, e1] at ih
      rw [z_s]; exact ih
    · refine z_t' ⟨z_in (by omega) (by omega), ?_⟩
      rw [z_cl (by omega)]
      refine L_pe hr hk ?_
      have e1 : plS σ b s r k = σ.pe k := by simp [plS, e]
      rw [e0, e1] at ih
      rw [z_s]; exact ih
end LSA
