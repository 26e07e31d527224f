/-! ===== undo's states ===== -/
theorem z_mod {a d : Nat} (ha : a < 2147483648) (h0 : 0 < d) (hd : d < 2147483648) : nI a - nI a / nI d * nI d = nI (a % d) := pk_rem ha h0 hd
def kp (K : Nat) : Nat := if K = 6 then 5 else K
def ks (K : Nat) : Nat := if K = 6 then 1 else 0
/-- the ring holds the states f 0 .. f (K - 1), the oldest first -/
def HX (his : HiT) (f : Nat → StT) (K : Nat) : Prop := his.sz = nI K ∧ K ≤ 6 ∧ ∃ o, o < 6 ∧ his.ol = nI o ∧ ∀ i, i < K → his.hs ((o + i) % 6) = f i
theorem X_rec32 {P : (Nat → StT) → Int32 → Int32 → Prop} {o0 : HiT} {σ : StT} {hs : Nat → StT} {o K : Nat} (ho : o < 6) (hK : K < 6) {f : Nat → StT} (hf : ∀ i, i < K → hs ((o + i) % 6) = f i)
    (h : ∀ hs', HX (mkHi hs' (nI o) (nI (K + 1))) (fun i => if i = K then σ else f i) (K + 1) → P hs' (nI o) (nI (K + 1))) : wp_X0_record_32 P o0 σ hs (nI o) (nI K) := by
  have e : (nI o + nI K) - (nI o + nI K) / (6 : Int32) * (6 : Int32) = nI ((o + K) % 6) := by
    rw [z_a, show (6 : Int32) = nI 6 from rfl, z_mod (by omega) (by omega) (by omega)]
  refine ⟨?_, ?_⟩
  · rw [e]; exact z_in (by omega) (by omega)
  · intro j hj ej
    rw [e, z_eqN (by omega) (by omega)] at ej
    subst ej
    show P _ _ _
    rw [z_s]
    refine h _ ⟨rfl, by omega, o, ho, rfl, ?_⟩
    intro i hi
    show (if (o + i) % 6 = (o + K) % 6 then _ else hs ((o + i) % 6)) = _
    by_cases c : i = K
    · subst c; rw [if_pos rfl]; exact (if_pos rfl).symm
    · rw [if_neg (by omega)]; exact (hf i (by omega)).trans (if_neg c).symm
theorem X_record {P : (Nat → StT) → Int32 → Int32 → Prop} {his : HiT} {σ : StT} {f : Nat → StT} {K : Nat} (H : HX his f K)
    (h : ∀ hs ol sz, HX (mkHi hs ol sz) (fun i => if i = kp K then σ else f (i + ks K)) (kp K + 1) → P hs ol sz) : wp_X0_record P his σ := by
  obtain ⟨h1, h2, o, ho, h3, h4⟩ := H
  unfold wp_X0_record
  rw [h1, h3]
  by_cases c : K = 6
  · have ek : kp K = 5 := if_pos c
    have es : ks K = 1 := if_pos c
    rw [ek, es] at h
    refine z_n (by rw [show (6 : Int32) = nI 6 from rfl, z_ltN (by omega) (by omega)]; omega) ?_
    have e1 : (nI o + (1 : Int32)) - (nI o + (1 : Int32)) / (6 : Int32) * (6 : Int32) = nI ((o + 1) % 6) := by
      rw [z_s, show (6 : Int32) = nI 6 from rfl, z_mod (by omega) (by omega) (by omega)]
    have e2 : nI K - (1 : Int32) = nI 5 := by rw [c]; rfl
    rw [e1, e2]
    refine X_rec32 (f := fun i => f (i + 1)) (by omega) (by omega) (fun i hi => ?_) (fun hs' hh => h _ _ _ hh)
    rw [show ((o + 1) % 6 + i) % 6 = (o + (i + 1)) % 6 from by omega]
    exact h4 (i + 1) (by omega)
  · have ek : kp K = K := if_neg c
    have es : ks K = 0 := if_neg c
    rw [ek, es] at h
    refine z_y (by rw [show (6 : Int32) = nI 6 from rfl, z_ltN (by omega) (by omega)]; omega) ?_
    exact X_rec32 ho (by omega) h4 (fun hs' hh => h _ _ _ hh)
/-! ===== what holds from call to call ===== -/
