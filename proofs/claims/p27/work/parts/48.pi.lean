/-! ===== the reference's stops ===== -/
theorem ky_is {σ : StT} {R : Nat} (V : SV σ R) {b : BT} {van n : Nat} {ky wp : Nat → Int32} (s : ST σ b van R n ky wp) {j : Nat} (hj : j < n) : z_is (ky j) 600 := by
  obtain ⟨r, hr, -, e⟩ := s.mem j hj
  rw [← e]; exact key_is V hr
theorem z_div {a : Nat} (h : a < 600) : nI a / (100 : Int32) = nI (a / 100) := pk_div (d := 100) (by omega) (by omega) (by omega)
theorem ky_area {σ : StT} {R : Nat} (V : SV σ R) {b : BT} {van n : Nat} {ky wp : Nat → Int32} (s : ST σ b van R n ky wp) {j : Nat} (hj : j + 1 < n) : ∃ a c : Nat, a ≤ c ∧ c < 6 ∧ ky j / (100 : Int32) = nI a ∧ ky (j + 1) / (100 : Int32) = nI c := by
  obtain ⟨x, hx, ex⟩ := ky_is V s (j := j) (by omega)
  obtain ⟨y, hy, ey⟩ := ky_is V s hj
  have := s.inc j (j + 1) (by omega) hj
  rw [ex, ey, z_nI (by omega), z_nI (by omega)] at this
  exact ⟨x / 100, y / 100, by omega, by omega, by rw [ex, z_div hx], by rw [ey, z_div hy]⟩
/-- the least key behind last, of the riders below i in the van -/
def LkI (σ : StT) (b : BT) (van : Nat) (last : Int) (i : Nat) (x : Int32) : Prop :=
  (x = 1000 ∨ ∃ r, r < i ∧ b.1 r = some van ∧ kyS σ r = x ∧ last < x.toInt) ∧ ∀ r, r < i → b.1 r = some van → last < (kyS σ r).toInt → x.toInt ≤ (kyS σ r).toInt
theorem LkI.keep {σ : StT} {b : BT} {van i : Nat} {last : Int} {x : Int32} (h : LkI σ b van last i x) (hn : b.1 i = some van → last < (kyS σ i).toInt → x.toInt ≤ (kyS σ i).toInt) : LkI σ b van last (i + 1) x := by
  obtain ⟨h1, h2⟩ := h
  refine ⟨?_, fun r hr hb hl => ?_⟩
  · rcases h1 with h1 | ⟨r, a, b', c, d⟩
    · exact Or.inl h1
    · exact Or.inr ⟨r, by omega, b', c, d⟩
  · by_cases c : r = i
    · subst c; exact hn hb hl
    · exact h2 r (by omega) hb hl
theorem z_1000 : (1000 : Int32).toInt = 1000 := by decide
/-- what last stands for: nothing yet, or the stop before -/
def lstS (ky : Nat → Int32) : Nat → Int32
  | 0 => -1
  | j + 1 => ky j
/-- minutes are small -/
theorem mnS_b {σ : StT} {R : Nat} (V : SV σ R) {b : BT} {van n : Nat} (hvan : van < 8) {ky wp : Nat → Int32} (s : ST σ b van R n ky wp) : ∀ j, j < n → 10 ≤ (mnS (σ.le van) ky j).toInt ∧ (mnS (σ.le van) ky j).toInt ≤ 1600 + 30 * j
  | 0, hj => by
    have hle := V.le van hvan
    obtain ⟨x, hx, ex⟩ := ky_is V s hj
    have e5 : (5 : Int32) * (ky 0 / (100 : Int32)) = nI (5 * (x / 100)) := by rw [ex, z_div hx, show (5 : Int32) = nI 5 from rfl, z_m]
    have e1 : (10 : Int32).toInt = 10 := by decide
    have e2 := z_add (a := σ.le van) (b := 10) (by omega) (by omega)
    have e3 := z_nI (n := 5 * (x / 100)) (by omega)
    show 10 ≤ ((σ.le van + (10 : Int32)) + ((5 : Int32) * (ky 0 / (100 : Int32)))).toInt ∧ ((σ.le van + (10 : Int32)) + ((5 : Int32) * (ky 0 / (100 : Int32)))).toInt ≤ _
    rw [e5, z_add (by omega) (by omega), e2, e3, e1]
    omega
  | j + 1, hj => by
    have hn := s.le
    have hR := V.hR
    have ih := mnS_b V hvan s j (by omega)
    obtain ⟨a, c, hac, hc, ea, ec⟩ := ky_area V s hj
    rw [mnS, ea, ec, z_sN hac]
    have e3 : (3 : Int32).toInt = 3 := by decide
    have e5 : (5 : Int32) * nI (c - a) = nI (5 * (c - a)) := by rw [show (5 : Int32) = nI 5 from rfl, z_m]
    have e6 := z_nI (n := 5 * (c - a)) (by omega)
    by_cases g : nI (c - a) ≤ 0
    · rw [if_pos g, z_add (by omega) (by omega), e3]; omega
    · rw [if_neg g, e5, z_add (by omega) (by omega), e6]; omega
