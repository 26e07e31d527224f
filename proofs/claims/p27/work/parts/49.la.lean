/-! ===== the law's words for a rider, its settings ===== -/
theorem z_c5 : (5 : Int32).toNatClampNeg = 5 := rfl
theorem L_low {P : Int32 → Prop} {x y : Int32} (n : Nat) (hy : y = nI n) (h0 : 0 < n) (hn : n < 2147483648) (h : ∀ j, j < n → P (nI j)) : wp_L_low P x y := by
  subst hy
  have e : x &&& (2147483647 : Int32) = nI (x.toBitVec.toNat % 2 ^ 31) := pk_and x 31 (by decide)
  refine ⟨?_, ?_⟩
  · rw [show (0 : Int32) = nI 0 from rfl, z_eqN hn (by omega)]; omega
  · rw [e, pk_rem (Nat.mod_lt _ (by decide)) h0 (by omega)]
    exact h _ (Nat.mod_lt _ h0)
def wd (a b c d : Nat) : Nat := a + 8 * b + 64 * c + 8192 * d
def wdO (a b c d : Nat) : Prop := a < 6 ∧ b < 6 ∧ c < 100 ∧ 1 ≤ d ∧ d ≤ 4
theorem wd_lt {a b c d : Nat} (h : wdO a b c d) : wd a b c d < 65536 := by
  obtain ⟨h1, h2, h3, h4, h5⟩ := h
  unfold wd; omega
theorem wd_a {a b c d : Nat} (h : wdO a b c d) : nI (wd a b c d) &&& (7 : Int32) = nI a := by
  have hl := wd_lt h
  rw [pk_andN (by omega) 3 (by decide)]
  obtain ⟨h1, h2, h3, h4, h5⟩ := h
  exact congrArg nI (by unfold wd; omega)
theorem wd_b {a b c d : Nat} (h : wdO a b c d) : (nI (wd a b c d) >>> ((3 : Int32) &&& 31)) &&& (7 : Int32) = nI b := by
  have hl := wd_lt h
  rw [pk_shrN (by omega) _ 3 (by decide), pk_andN (by omega) 3 (by decide)]
  obtain ⟨h1, h2, h3, h4, h5⟩ := h
  exact congrArg nI (by unfold wd; omega)
theorem wd_c {a b c d : Nat} (h : wdO a b c d) : (nI (wd a b c d) >>> ((6 : Int32) &&& 31)) &&& (127 : Int32) = nI c := by
  have hl := wd_lt h
  rw [pk_shrN (by omega) _ 6 (by decide), pk_andN (by omega) 7 (by decide)]
  obtain ⟨h1, h2, h3, h4, h5⟩ := h
  exact congrArg nI (by unfold wd; omega)
theorem wd_d {a b c d : Nat} (h : wdO a b c d) : nI (wd a b c d) >>> ((13 : Int32) &&& 31) = nI d := by
  have hl := wd_lt h
  rw [pk_shrN (by omega) _ 13 (by decide)]
  obtain ⟨h1, h2, h3, h4, h5⟩ := h
  exact congrArg nI (by unfold wd; omega)
theorem wd_i {a b c d : Nat} (h : wdO a b c d) : (nI (wd a b c d) >>> ((3 : Int32) &&& 31)) &&& (1023 : Int32) = nI (b + 8 * c) := by
  have hl := wd_lt h
  rw [pk_shrN (by omega) _ 3 (by decide), pk_andN (by omega) 10 (by decide)]
  obtain ⟨h1, h2, h3, h4, h5⟩ := h
  exact congrArg nI (by unfold wd; omega)
/-- the law's rows hold the state: its numbers, its riders -/
def LQ (σ : StT) (R : Nat) (q : Nat → Int32) : Prop := (∀ k, k < 5 → q k = σ.se k) ∧ (q 5 = nI R) ∧ (∀ f, f < 6 → q (6 + f) = σ.la f) ∧ (∀ f, f < 6 → q (12 + f) = σ.de f) ∧ (∀ v, v < 8 → q (18 + v) = σ.le v) ∧ (∀ v, v < 8 → q (26 + v) = σ.sa v)
theorem LQ.se {σ : StT} {R : Nat} {q : Nat → Int32} (h : LQ σ R q) : ∀ k, k < 5 → q k = σ.se k := h.1
theorem LQ.ri {σ : StT} {R : Nat} {q : Nat → Int32} (h : LQ σ R q) : q 5 = nI R := h.2.1
theorem LQ.la {σ : StT} {R : Nat} {q : Nat → Int32} (h : LQ σ R q) : ∀ f, f < 6 → q (6 + f) = σ.la f := h.2.2.1
theorem LQ.de {σ : StT} {R : Nat} {q : Nat → Int32} (h : LQ σ R q) : ∀ f, f < 6 → q (12 + f) = σ.de f := h.2.2.2.1
theorem LQ.le {σ : StT} {R : Nat} {q : Nat → Int32} (h : LQ σ R q) : ∀ v, v < 8 → q (18 + v) = σ.le v := h.2.2.2.2.1
theorem LQ.sa {σ : StT} {R : Nat} {q : Nat → Int32} (h : LQ σ R q) : ∀ v, v < 8 → q (26 + v) = σ.sa v := h.2.2.2.2.2
def LR (σ : StT) (R : Nat) (r : Nat → Int32) : Prop := ∀ k, k < R → ∃ a b c d : Nat, wdO a b c d ∧ σ.fl k = nI a ∧ σ.ar k = nI b ∧ σ.dr k = nI c ∧ σ.pe k = nI d ∧ r k = nI (wd a b c d)
theorem LQ.i5 {σ : StT} {R : Nat} {q : Nat → Int32} (h : LQ σ R q) : q (5 : Int32).toNatClampNeg = nI R := h.ri
theorem LQ.i0 {σ : StT} {R : Nat} {q : Nat → Int32} (h : LQ σ R q) : q (0 : Int32).toNatClampNeg = σ.se 0 := h.se 0 (by omega)
theorem LQ.i1 {σ : StT} {R : Nat} {q : Nat → Int32} (h : LQ σ R q) : q (1 : Int32).toNatClampNeg = σ.se 1 := h.se 1 (by omega)
theorem LQ.i2 {σ : StT} {R : Nat} {q : Nat → Int32} (h : LQ σ R q) : q (2 : Int32).toNatClampNeg = σ.se 2 := h.se 2 (by omega)
theorem LQ.i3 {σ : StT} {R : Nat} {q : Nat → Int32} (h : LQ σ R q) : q (3 : Int32).toNatClampNeg = σ.se 3 := h.se 3 (by omega)
theorem LQ.i4 {σ : StT} {R : Nat} {q : Nat → Int32} (h : LQ σ R q) : q (4 : Int32).toNatClampNeg = σ.se 4 := h.se 4 (by omega)
theorem z_6 (j : Nat) : (6 : Int32) + nI j = nI (6 + j) := z_a 6 j
theorem z_12 (j : Nat) : (12 : Int32) + nI j = nI (12 + j) := z_a 12 j
theorem z_18 (j : Nat) : (18 : Int32) + nI j = nI (18 + j) := z_a 18 j
theorem z_26 (j : Nat) : (26 : Int32) + nI j = nI (26 + j) := z_a 26 j
theorem z_8 (j : Nat) : (8 : Int32) + nI j = nI (8 + j) := z_a 8 j
section LRS
variable {P : Int32 → Prop} {σ : StT} {R : Nat} {q r : Nat → Int32} {k : Nat}
theorem L_fl (h : LR σ R r) (hk : k < R) (p : P (σ.fl k)) : wp_L_flightOf P (r k) := by
  obtain ⟨a, b, c, d, h0, h1, h2, h3, h4, h5⟩ := h k hk
  unfold wp_L_flightOf
  rw [h5, wd_a h0, ← h1]; exact p
theorem L_ar (h : LR σ R r) (hk : k < R) (p : P (σ.ar k)) : wp_L_areaOf P (r k) := by
  obtain ⟨a, b, c, d, h0, h1, h2, h3, h4, h5⟩ := h k hk
  unfold wp_L_areaOf
  rw [h5, wd_b h0, ← h2]; exact p
theorem L_dr (h : LR σ R r) (hk : k < R) (p : P (σ.dr k)) : wp_L_doorOf P (r k) := by
  obtain ⟨a, b, c, d, h0, h1, h2, h3, h4, h5⟩ := h k hk
  unfold wp_L_doorOf
  rw [h5, wd_c h0, ← h3]; exact p
theorem L_pe (h : LR σ R r) (hk : k < R) (p : P (σ.pe k)) : wp_L_people P (r k) := by
  obtain ⟨a, b, c, d, h0, h1, h2, h3, h4, h5⟩ := h k hk
  unfold wp_L_people
  rw [h5, wd_d h0, ← h4]; exact p
theorem L_key (h : LR σ R r) (hk : k < R) (p : P (kyS σ k)) : wp_L_keyOf P (r k) := by
  refine L_ar h hk (L_dr h hk ?_)
  rw [Int32.mul_comm]; exact p
theorem L_its {j : Nat} (h : LR σ R r) (hk : k < R) (hj : j < R) : ((r k >>> ((3 : Int32) &&& 31)) &&& (1023 : Int32) = (r j >>> ((3 : Int32) &&& 31)) &&& (1023 : Int32)) ↔ kyS σ k = kyS σ j := by
  obtain ⟨a, b, c, d, h0, h1, h2, h3, h4, h5⟩ := h k hk
  obtain ⟨a', b', c', d', h0', h1', h2', h3', h4', h5'⟩ := h j hj
  unfold kyS
  rw [h5, h5', wd_i h0, wd_i h0', h2, h3, h2', h3', show (100 : Int32) = nI 100 from rfl, z_m, z_m, z_a, z_a]
  obtain ⟨i1, i2, i3, i4, i5⟩ := h0
  obtain ⟨j1, j2, j3, j4, j5⟩ := h0'
  rw [z_eqN (by omega) (by omega), z_eqN (by omega) (by omega)]
  omega
theorem L_rd (hq : LQ σ R q) (h : LR σ R r) (hk : k < R) (p : P (rdS σ k)) : wp_L_ready P q (r k) := by
  obtain ⟨a, b, c, d, h0, h1, h2, h3, h4, h5⟩ := h k hk
  unfold wp_L_ready wp_L_flightOf
  rw [h5, wd_a h0]
  show vp_in ((6 : Int32) + nI a) 34 ∧ vp_in ((12 : Int32) + nI a) 34 ∧ P ((q ((6 : Int32) + nI a).toNatClampNeg + q ((12 : Int32) + nI a).toNatClampNeg) + q (0 : Int32).toNatClampNeg)
  rw [z_6, z_12, hq.i0]
  obtain ⟨i1, i2, i3, i4, i5⟩ := h0
  rw [z_cl (by omega), z_cl (by omega), hq.la a i1, hq.de a i1]
  refine ⟨z_in (by omega) (by omega), z_in (by omega) (by omega), ?_⟩
  unfold rdS at p
  rw [h1, z_cl (by omega)] at p
  exact p
end LRS
/-! ===== how many areas ===== -/
theorem on_all : ∀ a : Fin 64, a.val ≠ 0 → (nI a.val &&& (nI a.val - (1 : Int32))) = nI (a.val &&& (a.val - 1)) ∧ (a.val &&& (a.val - 1)) < a.val ∧ zO (nI a.val) 6 = zO (nI (a.val &&& (a.val - 1))) 6 + 1 := by decide +kernel
theorem L_ones {P : Int32 → Prop} {x : Int32} (hx : z_is x 64) (h : P (zO x 6)) : wp_L_ones P x := by
  obtain ⟨a, ha, rfl⟩ := hx
  have main : ∀ (x0 : Int32) (f a : Nat) (v : Int32), a < 64 → a < f → P (v + zO (nI a) 6) → wp_L_ones_4 P x0 f v (nI a) := by
    intro x0 f
    induction f with
    | zero => intro a v h1 h2; omega
    | succ f ih =>
      intro a v h1 h2 hp
      by_cases c : a = 0
      · subst c
        refine z_y rfl ?_
        have e : zO (nI 0) 6 = 0 := by decide
        rw [e, z_a0] at hp; exact hp
      · obtain ⟨e1, e2, e3⟩ := on_all ⟨a, h1⟩ c
        have e1 : (nI a &&& (nI a - (1 : Int32))) = nI (a &&& (a - 1)) := e1
        have e2 : (a &&& (a - 1)) < a := e2
        have e3 : zO (nI a) 6 = zO (nI (a &&& (a - 1))) 6 + 1 := e3
        refine z_n (by rw [show (0 : Int32) = nI 0 from rfl, z_eqN (by omega) (by omega)]; exact c) ?_
        rw [e1]
        refine ih _ _ (by omega) (by omega) ?_
        rw [e3] at hp
        rw [Int32.add_assoc, Int32.add_comm 1]; exact hp
  exact ⟨65, main _ 65 a 0 ha (by omega) (by rw [Int32.zero_add]; exact h)⟩
/-! ===== the order is one, and so is the plan ===== -/
theorem IsOrd.uniq {f : Nat → Int32} {R : Nat} {o o' : Nat → Nat} (h : IsOrd f R o) (h' : IsOrd f R o') : ∀ k, k < R → o k = o' k := by
  intro k
  induction k using Nat.strongRecOn with
  | _ k ih =>
    intro hk
    obtain ⟨j, hj, ej⟩ := h'.sur (o k) (h.lt k hk)
    obtain ⟨i, hi, ei⟩ := h.sur (o' k) (h'.lt k hk)
    have hjk : k ≤ j := by
      rcases Nat.lt_or_ge j k with c | c
      · have e := ih j c hj
        have := h.inj hj hk (e.trans ej)
        omega
      · exact c
    have hik : k ≤ i := by
      rcases Nat.lt_or_ge i k with c | c
      · have e := ih i c hi
        have := h'.inj hi hk (e.symm.trans ei)
        omega
      · exact c
    rcases Nat.lt_or_ge k j with c | c
    · have a := h'.inc k j c hj
      rcases Nat.lt_or_ge k i with d | d
      · have b := h.inc k i d hi
        rw [ej] at a
        rw [ei] at b
        omega
      · have : i = k := by omega
        rw [this] at ei; exact ei
    · have : j = k := by omega
      rw [this] at ej; exact ej.symm
theorem bdS_congr {σ : StT} {o o' : Nat → Nat} : ∀ {k : Nat}, (∀ j, j < k → o j = o' j) → bdS σ o k = bdS σ o' k
  | 0, _ => rfl
  | k + 1, h => by
    show stS σ (o k) (bdS σ o k) = stS σ (o' k) (bdS σ o' k)
    rw [bdS_congr (fun j hj => h j (by omega)), h k (by omega)]
/-- who gets which van -/
noncomputable def BD (σ : StT) (R : Nat) : BT := bdS σ (Classical.epsilon (fun o => IsOrd (rdS σ) R o)) R
theorem BD_eq {σ : StT} {R : Nat} {o : Nat → Nat} (h : IsOrd (rdS σ) R o) : BD σ R = bdS σ o R :=
  bdS_congr (IsOrd.uniq (Classical.epsilon_spec (p := fun o => IsOrd (rdS σ) R o) ⟨o, h⟩) h)
