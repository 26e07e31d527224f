/-! ===== characters of a number ===== -/
def tn (x : Int64) : Nat := x.toBitVec.toNat
theorem tn_lt (x : Int64) : tn x < 2 ^ 64 := x.toBitVec.isLt
theorem tn_shr (x : Int64) (s : UInt64) (k : Nat) (hs : s.toNat % 64 = k) : tn ((x.toUInt64 >>> s).toInt64) = tn x / 2 ^ k := by
  show (x.toUInt64 >>> s).toNat = _
  rw [UInt64.toNat_shiftRight, hs, Nat.shiftRight_eq_div_pow]
  rfl
theorem tn_8 (x : Int64) : tn ((x.toUInt64 >>> (((8 : Int32)).toInt64.toUInt64 &&& Int64.toUInt64 63)).toInt64) = tn x / 256 := tn_shr x _ 8 (by decide)
theorem tn_k (x : Int64) : ∀ {k : Nat}, k < 8 → tn ((x.toUInt64 >>> ((((8 : Int32) * nI k)).toInt64.toUInt64 &&& Int64.toUInt64 63)).toInt64) = tn x / 256 ^ k
  | 0, _ => by rw [tn_shr x _ 0 (by decide)]
  | 1, _ => by rw [tn_shr x _ 8 (by decide)]
  | 2, _ => by rw [tn_shr x _ 16 (by decide)]
  | 3, _ => by rw [tn_shr x _ 24 (by decide)]
  | 4, _ => by rw [tn_shr x _ 32 (by decide)]
  | 5, _ => by rw [tn_shr x _ 40 (by decide)]
  | 6, _ => by rw [tn_shr x _ 48 (by decide)]
  | 7, _ => by rw [tn_shr x _ 56 (by decide)]
  | k + 8, h => absurd h (by omega)
theorem tn_byte (x : Int64) : ((x &&& (255 : Int64))).toInt32 = nI (tn x % 256) := by
  apply Int32.toBitVec_inj.1
  have h : (x &&& (255 : Int64)).toBitVec.toNat = tn x % 256 := by
    show (x.toBitVec &&& (255 : Int64).toBitVec).toNat = _
    rw [BitVec.toNat_and, show (255 : Int64).toBitVec.toNat = 2 ^ 8 - 1 from by decide, Nat.and_two_pow_sub_one_eq_mod]
    rfl
  apply BitVec.eq_of_toNat_eq
  show ((x &&& (255 : Int64)).toBitVec.signExtend 32).toNat = (BitVec.ofNat 32 (tn x % 256)).toNat
  rw [BitVec.signExtend_eq_setWidth_of_le _ (by omega), BitVec.toNat_setWidth, h, BitVec.toNat_ofNat]
def byS (x : Int64) (k : Nat) : Nat := tn x / 256 ^ k % 256
def okS (x : Int64) (k : Nat) : Prop := 33 ≤ byS x k ∧ byS x k ≤ 126
theorem M_code {P : Int32 → Prop} {x : Int64} {k : Nat} (hk : k < 8) (h : P (nI (byS x k))) : wp_X6_codeAt P x (nI k) := by
  unfold wp_X6_codeAt
  rw [tn_byte, tn_k x hk]; exact h
theorem cmp_0 (y : Int64) : lg_cmp y (0 : Int64) = 0 ↔ tn y = 0 := by
  have e : y = 0 ↔ tn y = 0 := by
    constructor
    · intro h; rw [h]; rfl
    · intro h
      apply Int64.toBitVec_inj.1
      apply BitVec.eq_of_toNat_eq
      exact h
  rw [← e]
  unfold lg_cmp
  constructor
  · intro h
    by_cases d : y = 0
    · exact d
    · exfalso
      by_cases c : (0 : Int64) < y
      · rw [if_pos c] at h; exact absurd h (by decide)
      · rw [if_neg c, if_neg d] at h; exact absurd h (by decide)
  · intro h; rw [h]; decide
theorem by_lt (x : Int64) (k : Nat) : byS x k < 256 := Nat.mod_lt _ (by omega)
theorem in_ok {x : Int64} {k : Nat} : ((33 : Int32) ≤ nI (byS x k) ∧ nI (byS x k) ≤ (126 : Int32)) ↔ okS x k := by
  have := by_lt x k
  rw [show (33 : Int32) = nI 33 from rfl, show (126 : Int32) = nI 126 from rfl, z_leN (by omega) (by omega), z_leN (by omega) (by omega)]
  rfl
theorem X_chars {P : Int32 → Prop} {x : Int64} (h1 : ∀ c, c ≤ 8 → (∀ k, k < c → okS x k) → (c = 8 ∨ tn x / 256 ^ c = 0) → P (nI c)) (h2 : ∀ c, c < 8 → (∀ k, k < c → okS x k) → tn x / 256 ^ c ≠ 0 → ¬ okS x c → P 0) : wp_X1_charactersIn P x := by
  have main : ∀ d c, c + d = 8 → (∀ k, k < c → okS x k) → ∀ y : Int64, tn y = tn x / 256 ^ c → wp_X1_charactersIn_4 P x (d + 1) (nI c) y := by
    intro d
    induction d with
    | zero =>
      intro c hc hk y hy
      have e : c = 8 := by omega
      subst e
      refine ⟨fun _ => h1 8 (by omega) hk (Or.inl rfl), fun _ => z_y (by decide) (h1 8 (by omega) hk (Or.inl rfl))⟩
    | succ d ih =>
      intro c hc hk y hy
      by_cases g : tn x / 256 ^ c = 0
      · exact z_y ((cmp_0 y).mpr (by rw [hy]; exact g)) (h1 c (by omega) hk (Or.inr g))
      · refine z_n (fun e => g (by rw [← hy]; exact (cmp_0 y).mp e)) (z_n (by rw [show (8 : Int32) = nI 8 from rfl, z_leN (by omega) (by omega)]; omega) ?_)
        have eb : ((y &&& (255 : Int64))).toInt32 = nI (byS x c) := by rw [tn_byte, hy]; rfl
        rw [eb]
        by_cases o : okS x c
        · refine z_isIn_t (in_ok.mpr o).1 (in_ok.mpr o).2 (z_t (fun z ez => ?_))
          rw [z_s]
          refine ih (c + 1) (by omega) (fun k hk2 => ?_) z ?_
          · by_cases q : k = c
            · rw [q]; exact o
            · exact hk k (by omega)
          · rw [ez, tn_8, hy, Nat.div_div_eq_div_mul, Nat.pow_succ]
        · exact z_isIn_f (fun e => o (in_ok.mp e)) (z_f (h2 c (by omega) hk g o))
  exact ⟨9, main 8 0 (by omega) (fun k hk => absurd hk (by omega)) x (by rw [Nat.pow_zero, Nat.div_one])⟩
theorem M_48_0 {P : Int32 → Prop} {x : Int64} {mm : Nat} (hm : mm ≤ 8) (h : P 0) : ∀ d k, k + d = mm → wp_X6_charactersIn_48 P x (nI mm) (d + 1) 0 (nI k) := by
  intro d
  induction d with
  | zero =>
    intro k hk
    exact z_y (by rw [z_leN (by omega) (by omega)]; omega) (z_f' h)
  | succ d ih =>
    intro k hk
    refine z_n (by rw [z_leN (by omega) (by omega)]; omega) (z_f' ?_)
    rw [z_s]; exact ih (k + 1) (by omega)
theorem M_48_1 {P : Int32 → Prop} {x : Int64} {mm : Nat} (hm : mm ≤ 8) (h1 : (∀ k, k < mm → okS x k) → P (nI mm)) (h0 : (∃ k, k < mm ∧ ¬ okS x k) → P 0) (hp : 0 < mm → True) : ∀ d k, k + d = mm → (∀ i, i < k → okS x i) → wp_X6_charactersIn_48 P x (nI mm) (d + 1) 1 (nI k) := by
  intro d
  induction d with
  | zero =>
    intro k hk hi
    have e : k = mm := by omega
    subst e
    exact z_y (by rw [z_leN (by omega) (by omega)]; omega) (z_t' (h1 hi))
  | succ d ih =>
    intro k hk hi
    refine z_n (by rw [z_leN (by omega) (by omega)]; omega) (z_t' (M_code (by omega) ?_))
    rw [z_s]
    by_cases o : okS x k
    · refine Mw_t (in_ok.mpr o) (z_t' (ih (k + 1) (by omega) (fun i hi2 => ?_)))
      by_cases q : i = k
      · rw [q]; exact o
      · exact hi i (by omega)
    · exact Mw_f (fun e => o (in_ok.mp e)) (z_f' (M_48_0 hm (h0 ⟨k, by omega, o⟩) d (k + 1) (by omega)))
theorem M_22 {P : Int32 → Prop} {x : Int64} {mm : Nat} (hm : mm ≤ 8) (h1 : (∀ k, k < mm → okS x k) → (mm = 8 ∨ tn x / 256 ^ mm = 0) → P (nI mm)) (h0 : (∃ k, k < mm ∧ ¬ okS x k) ∨ (mm < 8 ∧ tn x / 256 ^ mm ≠ 0) → P 0) : wp_X6_charactersIn_22 P x (nI mm) := by
  by_cases c : mm = 8
  · refine z_y (by rw [c]; rfl) ⟨mm + 1, M_48_1 hm (fun a => h1 a (Or.inl c)) (fun a => h0 (Or.inl a)) (fun _ => trivial) mm 0 (by omega) (fun i hi => absurd hi (by omega))⟩
  · refine z_n (by rw [show (8 : Int32) = nI 8 from rfl, z_eqN (by omega) (by omega)]; exact c) ?_
    have e := cmp_0 ((x.toUInt64 >>> ((((8 : Int32) * nI mm)).toInt64.toUInt64 &&& Int64.toUInt64 63)).toInt64)
    rw [tn_k x (by omega)] at e
    by_cases g : tn x / 256 ^ mm = 0
    · exact z_y' (e.mpr g) ⟨mm + 1, M_48_1 hm (fun a => h1 a (Or.inr g)) (fun a => h0 (Or.inl a)) (fun _ => trivial) mm 0 (by omega) (fun i hi => absurd hi (by omega))⟩
    · exact z_n' (fun a => g (e.mp a)) ⟨mm + 1, M_48_0 hm (h0 (Or.inr ⟨by omega, g⟩)) mm 0 (by omega)⟩
theorem M_chars {P : Int32 → Prop} {x : Int64} (h : ∀ mm, mm ≤ 8 → (∀ k, k < mm → byS x k ≠ 0) → (mm < 8 → byS x mm = 0) → wp_X6_charactersIn_22 P x (nI mm)) : wp_X6_charactersIn P x := by
  have main : ∀ d c, c + d = 8 → (∀ k, k < c → byS x k ≠ 0) → wp_X6_charactersIn_2 P x (d + 1) (nI c) := by
    intro d
    induction d with
    | zero =>
      intro c hc hk
      have e : c = 8 := by omega
      subst e
      exact z_y (by decide) (h 8 (by omega) hk (fun a => absurd a (by omega)))
    | succ d ih =>
      intro c hc hk
      have hb := by_lt x c
      refine z_n (by rw [show (8 : Int32) = nI 8 from rfl, z_leN (by omega) (by omega)]; omega) (M_code (by omega) ?_)
      rw [z_s]
      by_cases g : byS x c = 0
      · exact z_y (by rw [g]; rfl) (h c (by omega) hk (fun _ => g))
      · refine z_n (by rw [show (0 : Int32) = nI 0 from rfl, z_eqN (by omega) (by omega)]; exact g) (ih (c + 1) (by omega) (fun k hk2 => ?_))
        by_cases q : k = c
        · rw [q]; exact g
        · exact hk k (by omega)
  exact ⟨9, main 8 0 (by omega) (fun k hk => absurd hk (by omega))⟩
theorem by_0 {x : Int64} {k : Nat} (h : tn x / 256 ^ k = 0) : byS x k = 0 := by unfold byS; rw [h]
theorem M_chars_ok {P : Int32 → Prop} {x : Int64} {c : Nat} (hc : c ≤ 8) (hk : ∀ k, k < c → okS x k) (hz : c = 8 ∨ tn x / 256 ^ c = 0) (h : P (nI c)) : wp_X6_charactersIn P x := by
  refine M_chars (fun mm hm h1 h2 => ?_)
  have e : mm = c := by
    rcases Nat.lt_trichotomy mm c with g | g | g
    · have := h2 (by omega); have := (hk mm g).1; omega
    · exact g
    · rcases hz with z | z
      · omega
      · exact absurd (by_0 z) (h1 c g)
  subst e
  refine M_22 hm (fun _ _ => h) ?_
  rintro (⟨k, a, b⟩ | ⟨a, b⟩)
  · exact absurd (hk k a) b
  · rcases hz with z | z
    · omega
    · exact absurd z b
theorem M_chars_bad {P : Int32 → Prop} {x : Int64} {c : Nat} (hc : c < 8) (hk : ∀ k, k < c → okS x k) (hz : tn x / 256 ^ c ≠ 0) (hb : ¬ okS x c) (h : P 0) : wp_X6_charactersIn P x := by
  refine M_chars (fun mm hm h1 h2 => ?_)
  have e : c ≤ mm := by
    rcases Nat.lt_or_ge mm c with g | g
    · have := h2 (by omega); have := (hk mm g).1; omega
    · exact g
  refine M_22 hm (fun a z => ?_) (fun _ => h)
  by_cases g : c = mm
  · subst g
    rcases z with z | z
    · omega
    · exact absurd z hz
  · exact absurd (a c (by omega)) hb
theorem X_append {P : (Nat → Int32) → Int32 → Prop} {pd : PdT} {x : Int64} {n c : Nat} (hn : pd.ln = nI n) (hc : n + c ≤ 60)
    (h : ∀ co, (∀ j, j < n → co j = pd.co j) → (∀ i, i < c → co (n + c - 1 - i) = nI (byS x i)) → P co (nI (n + c))) : wp_X1_append P pd x (nI c) := by
  unfold wp_X1_append
  rw [hn, z_a]
  refine z_n (by rw [z_lt, z_nI (by omega), z_00]; omega) (z_y (by rw [show (60 : Int32) = nI 60 from rfl, z_leN (by omega) (by omega)]; omega) ?_)
  have main : ∀ d i, i + d = c → ∀ (y : Int64) (co : Nat → Int32), tn y = tn x / 256 ^ i → (∀ j, j < n → co j = pd.co j) → (∀ q, q < i → co (n + c - 1 - q) = nI (byS x q)) → wp_X1_append_29 P pd x (nI c) (nI n) (d + 1) y (nI (n + c - i) - (1 : Int32)) co := by
    intro d
    induction d with
    | zero =>
      intro i hi y co hy h1 h2
      have e : i = c := by omega
      subst e
      have e1 : (1 : Int32).toInt = 1 := by decide
      have e2 := z_nI (n := n + i - i) (by omega)
      refine z_y (by rw [z_lt, z_sub (by omega) (by omega), e1, e2, z_nI (by omega)]; omega) ?_
      rw [z_a]
      exact h co h1 h2
    | succ d ih =>
      intro i hi y co hy h1 h2
      obtain ⟨p, hp⟩ : ∃ p, n + c - i = p + 1 := ⟨n + c - i - 1, by omega⟩
      rw [hp, z_p]
      refine z_n (by rw [z_ltN (by omega) (by omega)]; omega) ⟨z_in (by omega) (by omega), fun z ez => ?_⟩
      rw [z_cl (by omega)]
      have nx := ih (i + 1) (by omega) z (upd co p (((y &&& (255 : Int64))).toInt32)) (by rw [ez, tn_8, hy, Nat.div_div_eq_div_mul, Nat.pow_succ]) (fun j hj => by rw [z_un (by omega)]; exact h1 j hj) (fun q hq => by
        by_cases g : q = i
        · rw [g, show n + c - 1 - i = p from by omega, z_us, tn_byte, hy]; rfl
        · rw [z_un (by omega)]; exact h2 q (by omega))
      rw [show n + c - (i + 1) = p from by omega] at nx
      rw [← Int32.sub_eq_add_neg]
      exact nx
  have := main c 0 (by omega) x pd.co (by rw [Nat.pow_zero, Nat.div_one]) (fun _ _ => rfl) (fun q hq => absurd hq (by omega))
  rw [Nat.sub_zero] at this
  exact ⟨_, this⟩
theorem M_put31 {P : Int32 → (Nat → Int32) → Int32 → Prop} {x : Int64} {n c : Nat} {pd : Nat → Int32} (hc8 : c ≤ 8) (hc : n + c ≤ 60)
    (h : ∀ co, (∀ j, j < n → co j = pd j) → (∀ i, i < c → co (n + c - 1 - i) = nI (byS x i)) → P (nI (n + c)) co (nI (n + c))) : ∃ f, wp_X6_put_31 P x f (nI c - 1) pd (nI n) := by
  have main : ∀ i, i ≤ c → ∀ co : Nat → Int32, (∀ j, j < n → co j = pd j) → (∀ q, i ≤ q → q < c → co (n + c - 1 - q) = nI (byS x q)) → wp_X6_put_31 P x (i + 1) (nI i - 1) co (nI (n + (c - i))) := by
    intro i
    induction i with
    | zero =>
      intro hi co h1 h2
      refine z_y (by decide) ?_
      rw [Nat.sub_zero]
      exact h co h1 (fun i hi => h2 i (by omega) hi)
    | succ i ih =>
      intro hi co h1 h2
      rw [z_p]
      refine z_n (by rw [z_lt, z_nI (by omega), z_00]; omega) (M_code (by omega) ⟨z_in (by omega) (by omega), ?_⟩)
      rw [z_cl (by omega), z_s, ← Int32.sub_eq_add_neg]
      have nx := ih (by omega) (upd co (n + (c - (i + 1))) (nI (byS x i))) (fun j hj => by rw [z_un (by omega)]; exact h1 j hj) (fun q hq hq2 => by
        by_cases g : q = i
        · rw [g, show n + c - 1 - i = n + (c - (i + 1)) from by omega, z_us]
        · rw [z_un (by omega)]; exact h2 q (by omega) hq2)
      rw [show n + (c - i) = n + (c - (i + 1)) + 1 from by omega] at nx
      exact nx
  have := main c (by omega) pd (fun _ _ => rfl) (fun q a b => by omega)
  rw [Nat.sub_self, Nat.add_zero] at this
  exact ⟨_, this⟩
theorem law18 {xs : Nat → Int32} {rec : RecT} {t : Nat} (rok : RecOK rec (t + 1)) {now pln way tri tpl pad his slo Mst Mhi Mhn Msl Msv Mpd Mln Mat Mit Mvf Mdn Mlf Mar Msa Msm Mso} (rel : Rel now pln pad his slo Mst Mhi Mhn Msl Msv Mpd Mln) : lawC18 xs rec t now pln way tri tpl pad his slo Mst Mhi Mhn Msl Msv Mpd Mln Mat Mit Mvf Mdn Mlf Mar Msa Msm Mso := by
  obtain ⟨⟨R, o, V, m, X⟩, ⟨K, hn, f, H, hg⟩, pr, sl⟩ := id rel
  have hR := V.hR
  unfold lawC18
  obtain ⟨n, p1, p2, p3, p4⟩ := id pr
  generalize (((xs (5 * t + 1)).toInt64 <<< ((32 : Int32).toInt64 &&& 63)) ||| ((xs (5 * t + 2)).toInt64 &&& (4294967295 : Int64))) = x
  refine X_chars (fun c hc hk hz => ?_) (fun c hc hk hz hb => ?_)
  · by_cases c0 : c = 0
    · subst c0
      exact z_f (M_chars_ok hc hk hz (z_f ⟨rfl, rok _ _ _ _ _ _ _ _ _ _ _ _ _ _ _ _ _ _ _ _ _ _ _ _ rel⟩))
    · have ne : ¬ nI c = 0 := by rw [show (0 : Int32) = nI 0 from rfl, z_eqN (by omega) (by omega)]; exact c0
      refine ⟨fun _ => ?_, fun e => absurd e ne⟩
      rw [p2, z_a]
      by_cases c6 : n + c ≤ 60
      · have l6 : nI (n + c) ≤ (60 : Int32) := by rw [show (60 : Int32) = nI 60 from rfl, z_leN (by omega) (by omega)]; exact c6
        refine z_y l6 (X_append p2 c6 (fun co a1 a2 => M_chars_ok hc hk hz ⟨fun _ => ?_, fun e => absurd e ne⟩))
        rw [p3, z_a]
        refine z_y l6 (M_put31 hc c6 (fun co' b1 b2 => ⟨rfl, rok _ _ _ _ _ _ _ _ _ _ _ _ _ _ _ _ _ _ _ _ _ _ _ _ ⟨⟨R, o, V, m, X⟩, ⟨K, hn, f, H, hg⟩, ⟨n + c, c6, rfl, rfl, fun j hj => ?_⟩, sl⟩⟩))
        show co j = co' j
        by_cases g : j < n
        · rw [a1 j g, b1 j g]; exact p4 j g
        · have e1 := a2 (n + c - 1 - j) (by omega)
          have e2 := b2 (n + c - 1 - j) (by omega)
          rw [show n + c - 1 - (n + c - 1 - j) = j from by omega] at e1 e2
          rw [e1, e2]
      · have l6 : ¬ nI (n + c) ≤ (60 : Int32) := by rw [show (60 : Int32) = nI 60 from rfl, z_leN (by omega) (by omega)]; exact c6
        refine z_n l6 (M_chars_ok hc hk hz ⟨fun _ => ?_, fun e => absurd e ne⟩)
        rw [p3, z_a]
        refine z_n l6 ?_
        rw [← p2]
        exact ⟨rfl, rok _ _ _ _ _ _ _ _ _ _ _ _ _ _ _ _ _ _ _ _ _ _ _ _ ⟨⟨R, o, V, m, X⟩, ⟨K, hn, f, H, hg⟩, ⟨n, p1, p2, p2, p4⟩, sl⟩⟩
  · exact z_f (M_chars_bad hc hk hz hb (z_f ⟨rfl, rok _ _ _ _ _ _ _ _ _ _ _ _ _ _ _ _ _ _ _ _ _ _ _ _ rel⟩))
