/-! ===== the stops of the class, counted as the law counts them ===== -/
theorem nS_sg {f : Nat → Nat} {i : Nat} : ∀ {k : Nat}, (∀ j, j < k → j ≠ i → f j = 0) → i < k → nS f k = f i
  | 0, _, h => absurd h (by omega)
  | k + 1, h0, h => by
    show nS f k + f k = f i
    by_cases c : i = k
    · subst c
      rw [nS_0 fun j hj => h0 j (by omega) (by omega), Nat.zero_add]
    · rw [nS_sg (fun j hj => h0 j (by omega)) (by omega), h0 k (by omega) (fun e => c e.symm), Nat.add_zero]
theorem nS_lt {p : Nat} : ∀ n, nS (fun j => pN (j < p)) n = if n ≤ p then n else p
  | 0 => by rw [if_pos (by omega)]; rfl
  | n + 1 => by
    show nS (fun j => pN (j < p)) n + pN (n < p) = _
    rw [nS_lt n]
    by_cases c : n < p
    · rw [pN_t c, if_pos (by omega), if_pos (by omega)]
    · rw [pN_f c]
      by_cases d : n = p
      · rw [if_pos (by omega), if_neg (by omega)]; omega
      · rw [if_neg (by omega), if_neg (by omega), Nat.add_zero]
def FrP (σ : StT) (b : BT) (van : Nat) (y : Int32) (r : Nat) : Prop := b.1 r = some van ∧ kyS σ r = y ∧ ∀ e, e < r → b.1 e = some van → kyS σ e ≠ y
theorem sa_ky {σ : StT} {b : BT} {van R n : Nat} {ky wp : Nat → Int32} (s : ST σ b van R n ky wp) (K : Int32) : saS σ b van K R = nS (fun j => pN (ky j < K)) n := by
  have h1 : saS σ b van K R = nS (fun r => nS (fun j => pN (FrP σ b van (ky j) r ∧ ky j < K)) n) R := by
    refine nS_congr (fun r hr => ?_)
    by_cases c : b.1 r = some van
    · obtain ⟨j, hj, ej⟩ := s.all r hr c
      rw [nS_sg (i := j) (fun i hi hne => pN_f (fun g => hne (s.uniq hi hj (g.1.2.1.symm.trans ej.symm)))) hj]
      refine pN_congr ⟨fun g => ⟨⟨c, ej.symm, fun e he hb => ?_⟩, ?_⟩, fun g => ⟨c, ?_, fun e he hb => ?_⟩⟩
      · rw [ej]; exact g.2.2 e he hb
      · rw [ej]; exact g.2.1
      · rw [← ej]; exact g.2
      · rw [← ej]; exact g.1.2.2 e he hb
    · rw [pN_f (fun g => c g.1), nS_0 (fun j _ => pN_f (fun g => c g.1.1))]
  rw [h1, ← nS_swap]
  refine nS_congr (fun j hj => ?_)
  by_cases c : ky j < K
  · rw [pN_t c]
    obtain ⟨r, hr, hb, e⟩ := s.mem j hj
    obtain ⟨r0, ⟨h2, h3⟩, h4⟩ := pk_least (fun r => b.1 r = some van ∧ kyS σ r = ky j) ⟨r, hb, e⟩
    have hr0 : r0 < R := by
      rcases Nat.lt_or_ge r r0 with g | g
      · exact absurd ⟨hb, e⟩ (h4 r g)
      · omega
    rw [nS_sg (i := r0) (fun i hi hne => pN_f (fun g => ?_)) hr0]
    · exact pN_t ⟨⟨h2, h3, fun e' he' hb' hk' => h4 e' he' ⟨hb', hk'⟩⟩, c⟩
    · rcases Nat.lt_trichotomy i r0 with d | d | d
      · exact h4 i d ⟨g.1.1, g.1.2.1⟩
      · exact hne d
      · exact g.1.2.2 r0 d h2 h3
  · rw [pN_f c]
    exact nS_0 (fun r _ => pN_f (fun g => c g.2))
theorem sa_p {σ : StT} {b : BT} {van R n : Nat} {ky wp : Nat → Int32} (s : ST σ b van R n ky wp) {p : Nat} (hp : p < n) : saS σ b van (ky p) R = p := by
  rw [sa_ky s, nS_congr (g := fun j => pN (j < p)) (fun j hj => pN_congr ?_), nS_lt, if_neg (by omega)]
  rw [z_lt]
  constructor
  · intro h
    rcases Nat.lt_trichotomy j p with c | c | c
    · exact c
    · subst c; omega
    · have := s.inc p j c hj; omega
  · intro h; exact s.inc j p h hp
theorem sa_n {σ : StT} {b : BT} {van R n : Nat} {ky wp : Nat → Int32} (V : SV σ R) (s : ST σ b van R n ky wp) : saS σ b van (1000 : Int32) R = n := by
  rw [sa_ky s, nS_congr (g := fun j => pN (j < n)) (fun j hj => pN_congr ⟨fun _ => hj, fun _ => ?_⟩), nS_lt, if_pos (Nat.le_refl _)]
  obtain ⟨x, hx, ex⟩ := ky_is V s hj
  rw [z_lt, ex, z_nI (by omega), z_1000]; omega
theorem ST.same {σ : StT} {b : BT} {van R n n' : Nat} {ky wp ky' wp' : Nat → Int32} (V : SV σ R) (s : ST σ b van R n ky wp) (s' : ST σ b van R n' ky' wp') : n = n' ∧ ∀ j, j < n → ky j = ky' j := by
  refine ⟨(sa_n V s).symm.trans (sa_n V s'), fun j hj => ?_⟩
  obtain ⟨r, hr, hb, e⟩ := s.mem j hj
  obtain ⟨i, hi, ei⟩ := s'.all r hr hb
  have h1 := sa_p s hj
  have h2 := sa_p s' hi
  rw [ei, e, h1] at h2
  rw [← e, ← ei, h2]
/-! ===== minutes ===== -/
theorem ar_ky {σ : StT} {R : Nat} (V : SV σ R) {r : Nat} (hr : r < R) : kyS σ r / (100 : Int32) = σ.ar r := by
  obtain ⟨a, ha, ea⟩ := V.ar r hr
  obtain ⟨d, hd, ed⟩ := V.dr r hr
  unfold kyS
  rw [ea, ed, show (100 : Int32) = nI 100 from rfl, z_m, z_a, pk_div (by omega) (by omega) (by omega)]
  exact congrArg nI (by omega)
theorem am_bit {σ : StT} {R : Nat} (V : SV σ R) {b : BT} {van : Nat} {K : Int32} : ∀ k, k ≤ R → ∃ a, a < 64 ∧ amS σ b van K k = nI a ∧ ∀ i, i < 6 → (a.testBit i = true ↔ ∃ r, r < k ∧ b.1 r = some van ∧ kyS σ r ≤ K ∧ σ.ar r = nI i)
  | 0, _ => ⟨0, by omega, rfl, fun i hi => ⟨fun h => (by simp at h), fun ⟨r, h, _⟩ => absurd h (by omega)⟩⟩
  | k + 1, hk => by
    obtain ⟨a, ha, ea, hb⟩ := am_bit V (b := b) (van := van) (K := K) k (by omega)
    rw [amS]
    by_cases c : b.1 k = some van ∧ kyS σ k ≤ K
    · rw [if_pos c]
      obtain ⟨j, hj, ej⟩ := V.ar k (by omega)
      obtain ⟨h1, h2, -⟩ := or_all ⟨a, ha⟩ ⟨j, hj⟩
      have h1 : ((nI a) ||| ((1 : Int32) <<< (nI j &&& 31))) = nI (a ||| 2 ^ j) := h1
      have h2 : (a ||| 2 ^ j) < 64 := h2
      refine ⟨_, h2, by rw [ea, ej]; exact h1, fun i hi => ?_⟩
      rw [Nat.testBit_or, Bool.or_eq_true, hb i hi, Nat.testBit_two_pow, decide_eq_true_iff]
      constructor
      · rintro (⟨r, g1, g2⟩ | g)
        · exact ⟨r, by omega, g2⟩
        · subst g; exact ⟨k, by omega, c.1, c.2, ej⟩
      · rintro ⟨r, g1, g2, g3, g4⟩
        by_cases d : r = k
        · subst d
          rw [ej, z_eqN (by omega) (by omega)] at g4
          exact Or.inr g4
        · exact Or.inl ⟨r, by omega, g2, g3, g4⟩
    · rw [if_neg c]
      refine ⟨a, ha, ea, fun i hi => (hb i hi).trans ⟨fun ⟨r, g1, g2⟩ => ⟨r, by omega, g2⟩, fun ⟨r, g1, g2, g3, g4⟩ => ?_⟩⟩
      by_cases d : r = k
      · subst d; exact absurd ⟨g2, g3⟩ c
      · exact ⟨r, by omega, g2, g3, g4⟩
theorem bt_one : ∀ a : Fin 64, ∀ c : Fin 6, (∀ i : Fin 6, a.val.testBit i.val = decide (i = c)) → zO (nI a.val) 6 = 1 := by decide +kernel
theorem bt_off : ∀ a : Fin 64, ∀ c : Fin 6, a.val.testBit c.val = true → (a.val ^^^ 2 ^ c.val) < 64 ∧ (∀ i : Fin 6, (a.val ^^^ 2 ^ c.val).testBit i.val = (a.val.testBit i.val && decide (i ≠ c))) ∧ zO (nI a.val) 6 = zO (nI (a.val ^^^ 2 ^ c.val)) 6 + 1 := by decide +kernel
/-- how many areas there are up to a stop -/
def dS (ky : Nat → Int32) : Nat → Nat
  | 0 => 1
  | p + 1 => if ky (p + 1) / (100 : Int32) - ky p / (100 : Int32) ≤ 0 then dS ky p else dS ky p + 1
theorem dS_le {ky : Nat → Int32} : ∀ p, dS ky p ≤ p + 1
  | 0 => Nat.le_refl _
  | p + 1 => by
    have := dS_le (ky := ky) p
    rw [dS]; split <;> omega
theorem area_le {σ : StT} {R : Nat} (V : SV σ R) {b : BT} {van n : Nat} {ky wp : Nat → Int32} (s : ST σ b van R n ky wp) {j p : Nat} (hj : j ≤ p) (hp : p < n) : ∃ x y : Nat, x ≤ y ∧ y < 6 ∧ ky j / (100 : Int32) = nI x ∧ ky p / (100 : Int32) = nI y := by
  obtain ⟨x, hx, ex⟩ := ky_is V s (j := j) (by omega)
  obtain ⟨y, hy, ey⟩ := ky_is V s hp
  have h : x ≤ y := by
    rcases Nat.lt_or_ge j p with c | c
    · have := s.inc j p c hp
      rw [ex, ey, z_nI (by omega), z_nI (by omega)] at this
      omega
    · have : j = p := by omega
      subst this
      rw [ex, z_eqN (by omega) (by omega)] at ey
      omega
  exact ⟨x / 100, y / 100, by omega, by omega, by rw [ex, z_div hx], by rw [ey, z_div hy]⟩
theorem d_le0 {a c : Nat} (h : a ≤ c) (hc : c < 6) : nI c - nI a ≤ 0 ↔ c = a := by
  rw [z_sN h, show (0 : Int32) = nI 0 from rfl, z_leN (by omega) (by omega)]
  omega
theorem zO_d {σ : StT} {R : Nat} (V : SV σ R) {b : BT} {van n : Nat} {ky wp : Nat → Int32} (s : ST σ b van R n ky wp) : ∀ p, p < n → ∀ a, a < 64 → (∀ i, i < 6 → (a.testBit i = true ↔ ∃ j, j ≤ p ∧ ky j / (100 : Int32) = nI i)) → zO (nI a) 6 = nI (dS ky p)
  | 0, hp => by
    intro a ha h
    obtain ⟨x, y, hxy, hy, ex, -⟩ := area_le V s (Nat.le_refl 0) hp
    refine bt_one ⟨a, ha⟩ ⟨x, by omega⟩ (fun i => ?_)
    have hi := h i.val i.isLt
    show a.testBit i.val = _
    by_cases c : i = ⟨x, by omega⟩
    · rw [decide_eq_true c]
      subst c
      exact hi.mpr ⟨0, Nat.le_refl _, ex⟩
    · rw [decide_eq_false c]
      cases e : a.testBit i.val with
      | false => rfl
      | true =>
        obtain ⟨j, hj, ej⟩ := hi.mp e
        have : j = 0 := by omega
        subst this
        have hi6 := i.isLt
        rw [ex, z_eqN (by omega) (by omega)] at ej
        exact absurd (Fin.ext ej.symm) c
  | p + 1, hp => by
    intro a ha h
    obtain ⟨x, y, hxy, hy, ex, ey⟩ := area_le V s (Nat.le_succ p) hp
    rw [dS, ex, ey]
    by_cases c : nI y - nI x ≤ 0
    · rw [if_pos c]
      have e : y = x := (d_le0 hxy hy).mp c
      refine zO_d V s p (by omega) a ha (fun i hi => (h i hi).trans ⟨fun ⟨j, g1, g2⟩ => ?_, fun ⟨j, g1, g2⟩ => ⟨j, by omega, g2⟩⟩)
      by_cases d : j = p + 1
      · subst d
        exact ⟨p, Nat.le_refl _, by rw [ex, ← e, ← ey]; exact g2⟩
      · exact ⟨j, by omega, g2⟩
    · rw [if_neg c]
      have hlt : x < y := by
        have hne : y ≠ x := fun e => c ((d_le0 hxy hy).mpr e)
        omega
      have hb : a.testBit y = true := (h y hy).mpr ⟨p + 1, Nat.le_refl _, ey⟩
      obtain ⟨h1, h2, h3⟩ := bt_off ⟨a, ha⟩ ⟨y, hy⟩ hb
      have h1 : (a ^^^ 2 ^ y) < 64 := h1
      have h3 : zO (nI a) 6 = zO (nI (a ^^^ 2 ^ y)) 6 + 1 := h3
      rw [h3, zO_d V s p (by omega) _ h1 (fun i hi => ?_), z_s]
      have h2 : (a ^^^ 2 ^ y).testBit i = (a.testBit i && decide ((⟨i, hi⟩ : Fin 6) ≠ ⟨y, hy⟩)) := h2 ⟨i, hi⟩
      rw [h2, Bool.and_eq_true, h i hi, decide_eq_true_iff]
      constructor
      · rintro ⟨⟨j, g1, g2⟩, g3⟩
        by_cases d : j = p + 1
        · subst d
          rw [ey, z_eqN (by omega) (by omega)] at g2
          subst g2
          exact absurd rfl g3
        · exact ⟨j, by omega, g2⟩
      · rintro ⟨j, g1, g2⟩
        refine ⟨⟨j, by omega, g2⟩, fun g3 => ?_⟩
        have g3 : i = y := congrArg Fin.val g3
        subst g3
        obtain ⟨x', y', k1, k2, k3, k4⟩ := area_le V s g1 (by omega)
        rw [g2, z_eqN (by omega) (by omega)] at k3
        rw [ex, z_eqN (by omega) (by omega)] at k4
        omega
theorem mn_f {σ : StT} {R : Nat} (V : SV σ R) {b : BT} {van n : Nat} {ky wp : Nat → Int32} (s : ST σ b van R n ky wp) (le : Int32) : ∀ p, p < n → mnS le ky p = ((le + (10 : Int32)) + ((5 : Int32) * (ky p / (100 : Int32)))) + ((3 : Int32) * ((nI p + (1 : Int32)) - nI (dS ky p)))
  | 0, hp => by
    have e : (3 : Int32) * ((nI 0 + (1 : Int32)) - nI (dS ky 0)) = 0 := by
      show (3 : Int32) * ((nI 0 + (1 : Int32)) - nI 1) = 0
      decide
    rw [e, z_a0]; rfl
  | p + 1, hp => by
    have ih := mn_f V s le p (by omega)
    obtain ⟨x, y, hxy, hy, ex, ey⟩ := area_le V s (Nat.le_succ p) hp
    have hd := dS_le (ky := ky) p
    have f3 : ∀ m, (3 : Int32) * nI m = nI (3 * m) := fun m => z_m 3 m
    have f5 : ∀ m, (5 : Int32) * nI m = nI (5 * m) := fun m => z_m 5 m
    rw [mnS, dS, ih, ex, ey, z_s, z_s]
    by_cases c : nI y - nI x ≤ 0
    · have e : y = x := (d_le0 hxy hy).mp c
      rw [if_pos c, if_pos c, z_sN (by omega), z_sN (by omega), f3, f3, f5, f5, e, Int32.add_assoc (_ + nI (5 * x)), show (3 : Int32) = nI 3 from rfl, z_a]
      exact congrArg (fun m => ((le + (10 : Int32)) + nI (5 * x)) + nI m) (by omega)
    · have hlt : x < y := by
        have hne : y ≠ x := fun e => c ((d_le0 hxy hy).mpr e)
        omega
      rw [if_neg c, if_neg c, z_sN (by omega), z_sN (by omega), z_sN (by omega), f3, f3, f5, f5, f5, Int32.add_assoc, Int32.add_assoc, Int32.add_assoc (le + 10), z_a, z_a, z_a]
      exact congrArg (fun m => (le + (10 : Int32)) + nI m) (by omega)
theorem mm_mn {σ : StT} {R : Nat} (V : SV σ R) {b : BT} {van n : Nat} {ky wp : Nat → Int32} (s : ST σ b van R n ky wp) {p : Nat} (hp : p < n) : mmS σ b R van (ky p) = mnS (σ.le van) ky p := by
  unfold mmS
  rw [mn_f V s (σ.le van) p hp, sa_p s hp]
  obtain ⟨a, ha, ea, hb⟩ := am_bit V (b := b) (van := van) (K := ky p) R (Nat.le_refl _)
  rw [ea, zO_d V s p hp a ha (fun i hi => (hb i hi).trans ⟨fun ⟨r, g1, g2, g3, g4⟩ => ?_, fun ⟨j, g1, g2⟩ => ?_⟩)]
  · obtain ⟨j, hj, ej⟩ := s.all r g1 g2
    refine ⟨j, ?_, by rw [ej, ar_ky V g1]; exact g4⟩
    rcases Nat.lt_or_ge p j with c | c
    · have := s.inc p j c hj
      rw [ej] at this
      rw [z_le] at g3
      omega
    · exact c
  · obtain ⟨r, hr, hb', e⟩ := s.mem j (by omega)
    refine ⟨r, hr, hb', ?_, by rw [← ar_ky V hr, e]; exact g2⟩
    rw [e, z_le]
    rcases Nat.lt_or_ge j p with c | c
    · have := s.inc j p c hp; omega
    · have : j = p := by omega
      rw [this]; exact Int.le_refl _
/-! ===== the last minute of all ===== -/
theorem mnS_up {σ : StT} {R : Nat} (V : SV σ R) {b : BT} {van n : Nat} (hvan : van < 8) {ky wp : Nat → Int32} (s : ST σ b van R n ky wp) : ∀ j i, i ≤ j → j < n → (mnS (σ.le van) ky i).toInt ≤ (mnS (σ.le van) ky j).toInt
  | 0, i, h, _ => by
    have : i = 0 := by omega
    subst this; exact Int.le_refl _
  | j + 1, i, h, hj => by
    by_cases c : i = j + 1
    · subst c; exact Int.le_refl _
    · have ih := mnS_up V hvan s j i (by omega) (by omega)
      have hn := s.le
      have hR := V.hR
      have b1 := mnS_b V hvan s j (by omega)
      obtain ⟨x, y, hxy, hy, ex, ey⟩ := ky_area V s hj
      rw [mnS, ex, ey, z_sN hxy]
      have e3 : (3 : Int32).toInt = 3 := by decide
      have e5 : (5 : Int32) * nI (y - x) = nI (5 * (y - x)) := z_m 5 _
      have e6 := z_nI (n := 5 * (y - x)) (by omega)
      by_cases g : nI (y - x) ≤ 0
      · rw [if_pos g, z_add (by omega) (by omega), e3]; omega
      · rw [if_neg g, e5, z_add (by omega) (by omega), e6]; omega
noncomputable def atS (σ : StT) (b : BT) (R k : Nat) : Int32 := match b.1 k with | none => -106 | some v => mmS σ b R v (kyS σ k)
noncomputable def laS (σ : StT) (b : BT) (R : Nat) : Nat → Int32
  | 0 => -106
  | k + 1 => if laS σ b R k < atS σ b R k then atS σ b R k else laS σ b R k
/-- x is the last of the minutes of those whom Q names -/
def MxP (σ : StT) (b : BT) (R : Nat) (Q : Nat → Nat → Prop) (x : Int32) : Prop := (-106 ≤ x.toInt) ∧ (x = -106 ∨ ∃ r v, r < R ∧ b.1 r = some v ∧ Q r v ∧ x = mmS σ b R v (kyS σ r)) ∧ ∀ r v, r < R → b.1 r = some v → Q r v → (mmS σ b R v (kyS σ r)).toInt ≤ x.toInt
theorem z_106i : (-106 : Int32).toInt = -106 := by decide
theorem MxP.uniq {σ : StT} {b : BT} {R : Nat} {Q : Nat → Nat → Prop} {x y : Int32} (h : MxP σ b R Q x) (h' : MxP σ b R Q y) : x = y := by
  obtain ⟨h1, h2, h3⟩ := h
  obtain ⟨h1', h2', h3'⟩ := h'
  rw [z_eq]
  have a : x.toInt ≤ y.toInt := by
    rcases h2 with h2 | ⟨r, v, g1, g2, g3, g4⟩
    · rw [h2, z_106i]; exact h1'
    · rw [g4]; exact h3' r v g1 g2 g3
  have b : y.toInt ≤ x.toInt := by
    rcases h2' with h2 | ⟨r, v, g1, g2, g3, g4⟩
    · rw [h2, z_106i]; exact h1
    · rw [g4]; exact h3 r v g1 g2 g3
  omega
theorem la_mx {σ : StT} {b : BT} {R : Nat} : ∀ k, k ≤ R → MxP σ b R (fun r _ => r < k) (laS σ b R k)
  | 0, _ => ⟨by show -106 ≤ (-106 : Int32).toInt; rw [z_106i]; omega, Or.inl rfl, fun r v _ _ h => absurd h (by omega)⟩
  | k + 1, hk => by
    obtain ⟨h1, h2, h3⟩ := la_mx (σ := σ) (b := b) (R := R) k (by omega)
    have up : ∀ x : Int32, (x = laS σ b R k ∨ ∃ v, b.1 k = some v ∧ x = mmS σ b R v (kyS σ k)) → (laS σ b R k).toInt ≤ x.toInt → (atS σ b R k).toInt ≤ x.toInt → MxP σ b R (fun r _ => r < k + 1) x := by
      intro x hx g1 g2
      refine ⟨by omega, ?_, fun r v hr hb hq => ?_⟩
      · rcases hx with hx | ⟨v, hv, hx⟩
        · rcases h2 with h2 | ⟨r, v, a1, a2, a3, a4⟩
          · exact Or.inl (hx.trans h2)
          · exact Or.inr ⟨r, v, a1, a2, by omega, hx.trans a4⟩
        · exact Or.inr ⟨k, v, by omega, hv, by omega, hx⟩
      · by_cases c : r = k
        · subst c
          unfold atS at g2
          rw [hb] at g2; exact g2
        · have := h3 r v hr hb (by omega); omega
    rw [laS]
    by_cases c : laS σ b R k < atS σ b R k
    · rw [if_pos c]
      rw [z_lt] at c
      refine up _ ?_ (by omega) (Int.le_refl _)
      unfold atS
      cases e : b.1 k with
      | none =>
        unfold atS at c
        rw [e] at c
        have c : (laS σ b R k).toInt < (-106 : Int32).toInt := c
        rw [z_106i] at c
        omega
      | some v => exact Or.inr ⟨v, rfl, rfl⟩
    · rw [if_neg c]
      rw [z_lt] at c
      exact up _ (Or.inl rfl) (Int.le_refl _) (by omega)
theorem ls_mx {σ : StT} {b : BT} {R : Nat} (V : SV σ R) {N : Nat → Nat} {KY WP : Nat → Nat → Int32} (hs : ∀ v, v < 8 → ST σ b v R (N v) (KY v) (WP v)) : ∀ k, k ≤ 8 → MxP σ b R (fun _ v => v < k) (lsS σ N KY k)
  | 0, _ => ⟨by show -106 ≤ (-106 : Int32).toInt; rw [z_106i]; omega, Or.inl rfl, fun r v _ _ h => absurd h (by omega)⟩
  | k + 1, hk => by
    obtain ⟨h1, h2, h3⟩ := ls_mx V hs k (by omega)
    have s := hs k (by omega)
    rw [lsS]
    have old : (lsS σ N KY k = -106 ∨ ∃ r v, r < R ∧ b.1 r = some v ∧ v < k + 1 ∧ lsS σ N KY k = mmS σ b R v (kyS σ r)) := by
      rcases h2 with h2 | ⟨r, v, a1, a2, a3, a4⟩
      · exact Or.inl h2
      · exact Or.inr ⟨r, v, a1, a2, by omega, a4⟩
    by_cases c : N k = 0
    · rw [if_pos c]
      refine ⟨h1, old, fun r v hr hb hq => ?_⟩
      by_cases d : v = k
      · subst d
        obtain ⟨j, hj, -⟩ := s.all r hr hb
        omega
      · exact h3 r v hr hb (by omega)
    · rw [if_neg c]
      have hl : N k - 1 < N k := by omega
      obtain ⟨r0, g1, g2, g3⟩ := s.mem (N k - 1) hl
      have em := mm_mn V s hl
      have bound : ∀ r, r < R → b.1 r = some k → (mmS σ b R k (kyS σ r)).toInt ≤ (mnS (σ.le k) (KY k) (N k - 1)).toInt := by
        intro r hr hb
        obtain ⟨j, hj, ej⟩ := s.all r hr hb
        rw [← ej, mm_mn V s hj]
        exact mnS_up V (by omega) s (N k - 1) j (by omega) hl
      have hb10 := (mnS_b V (by omega) s (N k - 1) hl).1
      by_cases d : lsS σ N KY k < mnS (σ.le k) (KY k) (N k - 1)
      · rw [if_pos d]
        rw [z_lt] at d
        refine ⟨by omega, Or.inr ⟨r0, k, g1, g2, by omega, by rw [g3]; exact em.symm⟩, fun r v hr hb hq => ?_⟩
        by_cases e : v = k
        · subst e; exact bound r hr hb
        · have := h3 r v hr hb (by omega); omega
      · rw [if_neg d]
        rw [z_lt] at d
        refine ⟨h1, old, fun r v hr hb hq => ?_⟩
        by_cases e : v = k
        · subst e; have := bound r hr hb; omega
        · exact h3 r v hr hb (by omega)
theorem ls_la {σ : StT} {b : BT} {R : Nat} (V : SV σ R) (h8 : B8 b) {N : Nat → Nat} {KY WP : Nat → Nat → Int32} (hs : ∀ v, v < 8 → ST σ b v R (N v) (KY v) (WP v)) : lsS σ N KY 8 = laS σ b R R := by
  obtain ⟨h1, h2, h3⟩ := ls_mx V hs 8 (Nat.le_refl _)
  obtain ⟨g1, g2, g3⟩ := la_mx (σ := σ) (b := b) (R := R) R (Nat.le_refl _)
  refine MxP.uniq (σ := σ) (b := b) (R := R) (Q := fun _ _ => True) ⟨h1, ?_, fun r v hr hb _ => h3 r v hr hb (h8 r v hb)⟩ ⟨g1, ?_, fun r v hr hb _ => g3 r v hr hb hr⟩
  · rcases h2 with h2 | ⟨r, v, a1, a2, a3, a4⟩
    · exact Or.inl h2
    · exact Or.inr ⟨r, v, a1, a2, trivial, a4⟩
  · rcases g2 with h2 | ⟨r, v, a1, a2, a3, a4⟩
    · exact Or.inl h2
    · exact Or.inr ⟨r, v, a1, a2, trivial, a4⟩
