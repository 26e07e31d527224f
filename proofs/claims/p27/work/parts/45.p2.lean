/-! ===== boarding ===== -/
def zO (x : Int32) : Nat → Int32
  | 0 => 0
  | k + 1 => zO x k + ((x >>> (nI k &&& 31)) &&& (1 : Int32))
def b1 (x : Int32) : Int32 := (x - (((x).toUInt32 >>> (((1 : Int32)).toUInt32 &&& Int32.toUInt32 31)).toInt32 &&& (1431655765 : Int32)))
def b2 (y : Int32) : Int32 := ((y &&& (858993459 : Int32)) + (((y).toUInt32 >>> (((2 : Int32)).toUInt32 &&& Int32.toUInt32 31)).toInt32 &&& (858993459 : Int32)))
def b3 (y : Int32) : Int32 := ((y + ((y).toUInt32 >>> (((4 : Int32)).toUInt32 &&& Int32.toUInt32 31)).toInt32) &&& (252645135 : Int32))
def b4 (y : Int32) : Int32 := (y + ((y).toUInt32 >>> (((8 : Int32)).toUInt32 &&& Int32.toUInt32 31)).toInt32)
def b5 (y : Int32) : Int32 := (y + ((y).toUInt32 >>> (((16 : Int32)).toUInt32 &&& Int32.toUInt32 31)).toInt32)
theorem b_all : ∀ a : Fin 64, b5 (b4 (b3 (b2 (b1 (nI a.val))))) &&& (63 : Int32) = zO (nI a.val) 6 := by decide +kernel
theorem X_bits {P : Int32 → Prop} {x : Int32} (hx : z_is x 64) (h : P (zO x 6)) : wp_J6_bitCount_0f7a4 P x := by
  obtain ⟨a, ha, rfl⟩ := hx
  intro y1 e1 y2 e2 y3 e3 y4 e4 y5 e5
  have e : y5 &&& (63 : Int32) = zO (nI a) 6 := by
    rw [e5, e4, e3, e2, e1]
    exact b_all ⟨a, ha⟩
  rw [e]; exact h
theorem or_all : ∀ a : Fin 64, ∀ j : Fin 6, ((nI a.val) ||| ((1 : Int32) <<< (nI j.val &&& 31))) = nI (a.val ||| 2 ^ j.val) ∧ (a.val ||| 2 ^ j.val) < 64 ∧ ¬ (a.val ||| 2 ^ j.val) = 0 := by decide +kernel
theorem or_is {x y : Int32} (hx : z_is x 64) (hy : z_is y 6) : z_is (x ||| ((1 : Int32) <<< (y &&& 31))) 64 ∧ ¬ (x ||| ((1 : Int32) <<< (y &&& 31))) = 0 := by
  obtain ⟨a, ha, rfl⟩ := hx
  obtain ⟨j, hj, rfl⟩ := hy
  obtain ⟨h1, h2, h3⟩ := or_all ⟨a, ha⟩ ⟨j, hj⟩
  have h1 : ((nI a) ||| ((1 : Int32) <<< (nI j &&& 31))) = nI (a ||| 2 ^ j) := h1
  have h2 : (a ||| 2 ^ j) < 64 := h2
  have h3 : ¬ (a ||| 2 ^ j) = 0 := h3
  rw [h1]
  refine ⟨⟨_, h2, rfl⟩, ?_⟩
  rw [show (0 : Int32) = nI 0 from rfl, z_eqN (by omega) (by omega)]
  exact h3
def enc : Option Nat → Int32
  | none => -106
  | some v => nI v
/-- whether van v takes rider r -/
def tkS (σ : StT) (pn ao : Nat → Int32) (r v : Nat) : Bool := decide ((0 : Int32) ≤ σ.le v - rdS σ r ∧ σ.le v - rdS σ r ≤ σ.se 1) && (decide (pn v + σ.pe r ≤ σ.sa v) && decide (zO (ao v ||| ((1 : Int32) <<< (σ.ar r &&& 31))) 6 ≤ σ.se 2))
def bI (b : Bool) : Int32 := if b then 1 else 0
theorem X_takes {P : Int32 → Prop} {σ : StT} {R : Nat} (V : SV σ R) {pl : PlT} {r v : Nat} (hr : r < R) (hv : v < 8) (hrd : pl.rd r = rdS σ r) (hao : z_is (pl.ao v) 64) (h : P (bI (tkS σ pl.pn pl.ao r v))) : wp_X2_takes P pl σ (nI v) (nI r) := by
  have hR := V.hR
  refine ⟨z_in hv (by omega), z_in (by omega) (by omega), ?_⟩
  rw [z_cl (by omega), z_cl (by omega), hrd]
  intro y ey
  subst ey
  rw [z_c1]
  by_cases c1 : (0 : Int32) ≤ σ.le v - rdS σ r ∧ σ.le v - rdS σ r ≤ σ.se 1
  · refine z_isIn_t c1.1 c1.2 (z_t ⟨z_in hv (by omega), z_in (by omega) (by omega), z_in hv (by omega), ?_⟩)
    by_cases c2 : pl.pn v + σ.pe r ≤ σ.sa v
    · refine z_y c2 ⟨z_in hv (by omega), z_in (by omega) (by omega), ?_⟩
      intro y ey
      subst ey
      refine X_bits (or_is hao (V.ar r hr)).1 ?_
      show (σ.se 2 < _ → _) ∧ _
      by_cases c3 : zO (pl.ao v ||| ((1 : Int32) <<< (σ.ar r &&& 31))) 6 ≤ σ.se 2
      · refine z_n (by rw [z_lt]; rw [z_le] at c3; omega) ?_
        have e : tkS σ pl.pn pl.ao r v = true := by simp only [tkS, c1, c2, c3, and_self, decide_true, Bool.and_self]
        rw [e] at h; exact h
      · refine z_y (by rw [z_lt]; rw [z_le] at c3; omega) ?_
        have e : tkS σ pl.pn pl.ao r v = false := by simp [tkS, c3]
        rw [e] at h; exact h
    · refine z_n c2 ?_
      have e : tkS σ pl.pn pl.ao r v = false := by simp [tkS, c2]
      rw [e] at h; exact h
  · refine z_isIn_f c1 (z_f ?_)
    have e : tkS σ pl.pn pl.ao r v = false := by simp only [tkS, c1, decide_false, Bool.false_and]
    rw [e] at h; exact h
/-- the van that rider r gets, of the vans below k -/
def fvS (σ : StT) (pn ao : Nat → Int32) (r : Nat) : Nat → Option Nat
  | 0 => none
  | k + 1 => match fvS σ pn ao r k with
    | none => if tkS σ pn ao r k = true then some k else none
    | some v => if tkS σ pn ao r k = true then (if σ.le k < σ.le v then some k else some v) else some v
theorem fvS_some {σ : StT} {pn ao : Nat → Int32} {r : Nat} : ∀ {k v : Nat}, fvS σ pn ao r k = some v → v < k ∧ tkS σ pn ao r v = true
  | 0, v, h => by simp [fvS] at h
  | k + 1, v, h => by
    have ih := fun v => @fvS_some σ pn ao r k v
    rw [fvS] at h
    split at h
    · next e =>
      by_cases c : tkS σ pn ao r k = true
      · rw [if_pos c] at h; cases h; exact ⟨by omega, c⟩
      · rw [if_neg c] at h; cases h
    · next w e =>
      have i := ih w e
      by_cases c : tkS σ pn ao r k = true
      · rw [if_pos c] at h
        by_cases c2 : σ.le k < σ.le w
        · rw [if_pos c2] at h; cases h; exact ⟨by omega, c⟩
        · rw [if_neg c2] at h; cases h; exact ⟨by omega, i.2⟩
      · rw [if_neg c] at h; cases h; exact ⟨by omega, i.2⟩
theorem X_fv {P : Int32 → Prop} {σ : StT} {R : Nat} (V : SV σ R) {pl : PlT} {r : Nat} (hr : r < R) (hrd : pl.rd r = rdS σ r) (hao : ∀ v, v < 8 → z_is (pl.ao v) 64) (h : P (enc (fvS σ pl.pn pl.ao r 8))) : wp_X2_firstVanFor P pl σ (nI r) := by
  suffices hh : ∃ n, ∀ m : Int32, (∀ v, fvS σ pl.pn pl.ao r 0 = some v → m = σ.le v) → wp_X2_firstVanFor_9 P pl σ (nI r) n (enc (fvS σ pl.pn pl.ao r 0)) m (nI 0) by
    obtain ⟨n, hn⟩ := hh
    exact ⟨n, hn 0 (fun v e => by simp [fvS] at e)⟩
  refine z_up (fun n k => ∀ m : Int32, (∀ v, fvS σ pl.pn pl.ao r k = some v → m = σ.le v) → wp_X2_firstVanFor_9 P pl σ (nI r) n (enc (fvS σ pl.pn pl.ao r k)) m (nI k)) 8 (fun n => ?_) (fun n k hk ih => ?_) 0 (by omega)
  · intro m hm
    exact z_y (by decide) h
  · intro m hm
    refine z_n (by rw [show (8 : Int32) = nI 8 from rfl, z_leN (by omega) (by omega)]; omega) ?_
    have T : ∀ Q : Int32 → Prop, Q (bI (tkS σ pl.pn pl.ao r k)) → wp_X2_takes Q pl σ (nI k) (nI r) := fun Q q => X_takes V hr hk hrd (hao k hk) q
    cases e : fvS σ pl.pn pl.ao r k with
    | none =>
      refine z_y rfl (z_t' (T _ ?_))
      cases et : tkS σ pl.pn pl.ao r k with
      | true =>
        refine z_t' ⟨z_in hk (by omega), ?_⟩
        rw [z_s, z_cl (by omega)]
        have e2 : fvS σ pl.pn pl.ao r (k + 1) = some k := by simp [fvS, e, et]
        rw [e2] at ih
        exact ih _ (fun v hv => by cases hv; rfl)
      | false =>
        refine z_f' ?_
        rw [z_s]
        have e2 : fvS σ pl.pn pl.ao r (k + 1) = none := by simp [fvS, e, et]
        rw [e2] at ih
        exact ih _ (fun v hv => by cases hv)
    | some w =>
      have hw := (fvS_some e).1
      have em := hm w e
      refine z_n (z_106 w (by omega)) ⟨z_in hk (by omega), ?_⟩
      rw [z_cl (by omega), em]
      by_cases c : σ.le k < σ.le w
      · refine z_n (by rw [z_le]; rw [z_lt] at c; omega) (z_t' (T _ ?_))
        cases et : tkS σ pl.pn pl.ao r k with
        | true =>
          refine z_t' ⟨z_in hk (by omega), ?_⟩
          rw [z_s, z_cl (by omega)]
          have e2 : fvS σ pl.pn pl.ao r (k + 1) = some k := by simp [fvS, e, et, c]
          rw [e2] at ih
          exact ih _ (fun v hv => by cases hv; rfl)
        | false =>
          refine z_f' ?_
          rw [z_s]
          have e2 : fvS σ pl.pn pl.ao r (k + 1) = some w := by simp [fvS, e, et]
          rw [e2] at ih
          exact ih _ (fun v hv => by cases hv; rfl)
      · refine z_y (by rw [z_le]; rw [z_lt] at c; omega) (z_f' ?_)
        rw [z_s]
        have e2 : fvS σ pl.pn pl.ao r (k + 1) = some w := by simp [fvS, e, c]
        rw [e2] at ih
        exact ih _ (fun v hv => by cases hv; rfl)
