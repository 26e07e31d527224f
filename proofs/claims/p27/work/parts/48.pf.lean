/-! ===== fares ===== -/
def kyS (σ : StT) (r : Nat) : Int32 := (σ.ar r * (100 : Int32)) + σ.dr r
theorem X_key {P : Int32 → Prop} {σ : StT} {R : Nat} (V : SV σ R) {r : Nat} (hr : r < R) (h : P (kyS σ r)) : wp_X3_stopKey P σ (nI r) := by
  have hR := V.hR
  refine ⟨z_in (by omega) (by omega), z_in (by omega) (by omega), ?_⟩
  rw [z_cl (by omega)]; exact h
/-- whether riders r and q share: in one van, or at one stop of it -/
def shS (σ : StT) (b : BT) (s : Bool) (r q : Nat) : Bool := decide (b.1 r = b.1 q) && (!s || decide (kyS σ r = kyS σ q))
theorem enc_inj {a b : Option Nat} (ha : ∀ v, a = some v → v < 8) (hb : ∀ v, b = some v → v < 8) : enc a = enc b ↔ a = b := by
  constructor
  · intro h
    cases a with
    | none =>
      cases b with
      | none => rfl
      | some w => exact absurd h.symm (z_106 w (by have := hb w rfl; omega))
    | some v =>
      cases b with
      | none => exact absurd h (z_106 v (by have := ha v rfl; omega))
      | some w =>
        have := (z_eqN (by have := ha v rfl; omega) (by have := hb w rfl; omega)).mp h
        rw [this]
  · intro h; rw [h]
theorem bd_inj {σ : StT} {o : Nat → Nat} {R r q : Nat} : enc ((bdS σ o R).1 r) = enc ((bdS σ o R).1 q) ↔ (bdS σ o R).1 r = (bdS σ o R).1 q := enc_inj (fun _ h => bdV h) (fun _ h => bdV h)
theorem X_shares {P : Int32 → Prop} {σ : StT} {R : Nat} (V : SV σ R) {o : Nat → Nat} {pl : PlT} (hv : ∀ r, r < R → pl.vn r = enc ((bdS σ o R).1 r)) {r q : Nat} (hr : r < R) (hq : q < R) (s : Bool) (h : P (bI (shS σ (bdS σ o R) s r q))) : wp_X2_shares P pl σ (nI r) (nI q) (bI s) := by
  have hR := V.hR
  refine ⟨z_in (by omega) (by omega), z_in (by omega) (by omega), ?_⟩
  rw [z_cl (by omega), z_cl (by omega), hv r hr, hv q hq]
  by_cases c : (bdS σ o R).1 r = (bdS σ o R).1 q
  · refine z_y' (bd_inj.mpr c) ?_
    cases s with
    | false =>
      refine z_y rfl ?_
      have e : shS σ (bdS σ o R) false r q = true := by simp [shS, c]
      rw [e] at h; exact h
    | true =>
      refine z_n z_10 (X_key V hr (X_key V hq ?_))
      by_cases d : kyS σ r = kyS σ q
      · refine z_y' d ?_
        have e : shS σ (bdS σ o R) true r q = true := by simp [shS, c, d]
        rw [e] at h; exact h
      · refine z_n' d ?_
        have e : shS σ (bdS σ o R) true r q = false := by simp [shS, d]
        rw [e] at h; exact h
  · refine z_n' (fun e => c (bd_inj.mp e)) ?_
    have e : shS σ (bdS σ o R) s r q = false := by simp [shS, c]
    rw [e] at h; exact h
/-- the people that share -/
def plS (σ : StT) (b : BT) (s : Bool) (r : Nat) (q : Nat) : Int32 := if shS σ b s r q = true then σ.pe q else 0
/-- what is left over, and how many with lower numbers -/
def ovS (σ : StT) (b : BT) (s : Bool) (r : Nat) (c a : Int32) : Nat → Int32
  | 0 => c
  | k + 1 => if shS σ b s r k = true then ovS σ b s r c a k - (c * σ.pe k) / a else ovS σ b s r c a k
def loS (σ : StT) (b : BT) (s : Bool) (r : Nat) : Nat → Int32
  | 0 => 0
  | k + 1 => if shS σ b s r k = true then (if k < r then loS σ b s r k + 1 else loS σ b s r k) else loS σ b s r k
def faS (σ : StT) (b : BT) (s : Bool) (r R : Nat) (c : Int32) : Int32 :=
  if ovS σ b s r c (zS (plS σ b s r) R) R ≤ loS σ b s r R then (c * σ.pe r) / zS (plS σ b s r) R else (c * σ.pe r) / zS (plS σ b s r) R + 1
theorem zS_b {f : Nat → Int32} {hi : Int} : ∀ {k : Nat}, k ≤ 24 → (∀ j, j < k → 0 ≤ (f j).toInt ∧ (f j).toInt ≤ 2000000) → 0 ≤ (zS f k).toInt ∧ (zS f k).toInt ≤ 2000000 * k
  | 0, _, _ => by show 0 ≤ (0 : Int32).toInt ∧ (0 : Int32).toInt ≤ _; rw [z_00]; omega
  | k + 1, hk, h => by
    have ih := zS_b (f := f) (hi := hi) (k := k) (by omega) (fun j hj => h j (by omega))
    have h2 := h k (by omega)
    have e := z_add (a := zS f k) (b := f k) (by omega) (by omega)
    show 0 ≤ (zS f k + f k).toInt ∧ (zS f k + f k).toInt ≤ _
    omega
theorem zS_ge {f : Nat → Int32} : ∀ {k : Nat}, k ≤ 24 → (∀ j, j < k → 0 ≤ (f j).toInt ∧ (f j).toInt ≤ 2000000) → ∀ j, j < k → (f j).toInt ≤ (zS f k).toInt
  | 0, _, _ => fun j hj => absurd hj (by omega)
  | k + 1, hk, h => by
    intro j hj
    have b := zS_b (f := f) (hi := 0) (k := k) (by omega) (fun j hj => h j (by omega))
    have h2 := h k (by omega)
    have e := z_add (a := zS f k) (b := f k) (by omega) (by omega)
    show _ ≤ (zS f k + f k).toInt
    by_cases c : j = k
    · subst c; omega
    · have := zS_ge (f := f) (k := k) (by omega) (fun j hj => h j (by omega)) j (by omega)
      omega
theorem pl_pos {σ : StT} {R : Nat} (V : SV σ R) {b : BT} {s : Bool} {r : Nat} (hr : r < R) : 0 < (zS (plS σ b s r) R).toInt := by
  have hb : ∀ j, j < R → 0 ≤ (plS σ b s r j).toInt ∧ (plS σ b s r j).toInt ≤ 2000000 := by
    intro j hj
    have := V.pe j hj
    unfold plS
    split
    · omega
    · rw [z_00]; omega
  have h1 := zS_ge V.hR hb r hr
  have e : plS σ b s r r = σ.pe r := by
    unfold plS
    rw [if_pos]
    simp [shS]
  rw [e] at h1
  have := V.pe r hr
  omega
theorem X_share {P : Int32 → Prop} {σ : StT} {R : Nat} (V : SV σ R) {o : Nat → Nat} {pl : PlT} (hv : ∀ r, r < R → pl.vn r = enc ((bdS σ o R).1 r)) {r j : Nat} (hr : r < R) (hj : j < 5) (s : Bool) (h : P (faS σ (bdS σ o R) s r R (σ.se j))) : wp_X2_share P pl σ (nI r) (nI j) (bI s) := by
  have hR := V.hR
  refine ⟨z_in hj (by omega), ?_⟩
  rw [z_cl (by omega)]
  have hpos := pl_pos V (b := bdS σ o R) (s := s) hr
  have hne : ¬ zS (plS σ (bdS σ o R) s r) R = 0 := by rw [z_eq, z_00]; omega
  refine z_up (fun n k => wp_X2_share_14 P pl σ (nI r) (nI j) (bI s) (σ.se j) n (zS (plS σ (bdS σ o R) s r) k) (nI k)) R (fun n => ?_) (fun n k hk ih => ?_) 0 (by omega)
  · refine z_y (by rw [V.ri, z_leN (by omega) (by omega)]; omega) (z_y (by rw [z_lt, z_00]; exact hpos) ?_)
    refine z_up (fun n k => wp_X2_share_71 P pl σ (nI r) (nI j) (bI s) (σ.se j) (zS (plS σ (bdS σ o R) s r) R) n (ovS σ (bdS σ o R) s r (σ.se j) (zS (plS σ (bdS σ o R) s r) R) k) (loS σ (bdS σ o R) s r k) (nI k)) R (fun n => ?_) (fun n k hk ih => ?_) 0 (by omega)
    · refine z_y (by rw [V.ri, z_leN (by omega) (by omega)]; omega) ⟨z_in (by omega) (by omega), hne, ?_⟩
      rw [z_cl (by omega)]
      unfold faS at h
      by_cases c : ovS σ (bdS σ o R) s r (σ.se j) (zS (plS σ (bdS σ o R) s r) R) R ≤ loS σ (bdS σ o R) s r R
      · rw [if_pos c] at h; exact z_y c h
      · rw [if_neg c] at h; exact z_n c h
    · refine z_n (by rw [V.ri, z_leN (by omega) (by omega)]; omega) (X_shares V hv hr hk s ?_)
      cases e : shS σ (bdS σ o R) s r k with
      | false =>
        refine z_f' ?_
        rw [z_s]
        have e1 : ovS σ (bdS σ o R) s r (σ.se j) (zS (plS σ (bdS σ o R) s r) R) (k + 1) = ovS σ (bdS σ o R) s r (σ.se j) (zS (plS σ (bdS σ o R) s r) R) k := by simp [ovS, e]
        have e2 : loS σ (bdS σ o R) s r (k + 1) = loS σ (bdS σ o R) s r k := by simp [loS, e]
        rw [e1, e2] at ih; exact ih
      | true =>
        refine z_t' ⟨z_in (by omega) (by omega), hne, ?_⟩
        rw [z_cl (by omega), z_s]
        have e1 : ovS σ (bdS σ o R) s r (σ.se j) (zS (plS σ (bdS σ o R) s r) R) (k + 1) = ovS σ (bdS σ o R) s r (σ.se j) (zS (plS σ (bdS σ o R) s r) R) k - (σ.se j * σ.pe k) / zS (plS σ (bdS σ o R) s r) R := by simp [ovS, e]
        rw [e1] at ih
        by_cases c : k < r
        · have e2 : loS σ (bdS σ o R) s r (k + 1) = loS σ (bdS σ o R) s r k + 1 := by simp [loS, e, c]
          rw [e2] at ih
          exact z_n (by rw [z_leN (by omega) (by omega)]; omega) ih
        · have e2 : loS σ (bdS σ o R) s r (k + 1) = loS σ (bdS σ o R) s r k := by simp [loS, e, c]
          rw [e2] at ih
          rw [z_a0]
          exact z_y (by rw [z_leN (by omega) (by omega)]; omega) ih
  · refine z_n (by rw [V.ri, z_leN (by omega) (by omega)]; omega) (X_shares V hv hr hk s ?_)
    have e0 : zS (plS σ (bdS σ o R) s r) (k + 1) = zS (plS σ (bdS σ o R) s r) k + plS σ (bdS σ o R) s r k := rfl
    cases e : shS σ (bdS σ o R) s r k with
    | false =>
      refine z_f' ?_
      have e1 : plS σ (bdS σ o R) s r k = 0 := by simp [plS, e]
      rw [e0, e1, z_a0] at ih
      rw [z_s]; exact ih
    | true =>
      refine z_t' ⟨z_in (by omega) (by omega), ?_⟩
      have e1 : plS σ (bdS σ o R) s r k = σ.pe k := by simp [plS, e]
      rw [e0, e1] at ih
      rw [z_s, z_cl (by omega)]; exact ih
/-- what a rider pays -/
def frS (σ : StT) (b : BT) (R r : Nat) : Int32 := match b.1 r with | none => 0 | some _ => faS σ b false r R (σ.se 3) + faS σ b true r R (σ.se 4)
theorem X_fare {P : Int32 → Prop} {σ : StT} {R : Nat} (V : SV σ R) {o : Nat → Nat} {pl : PlT} (hv : ∀ r, r < R → pl.vn r = enc ((bdS σ o R).1 r)) {r : Nat} (hr : r < R) (h : P (frS σ (bdS σ o R) R r)) : wp_X2_fare P pl σ (nI r) := by
  have hR := V.hR
  refine ⟨z_in (by omega) (by omega), ?_⟩
  rw [z_cl (by omega), hv r hr]
  unfold frS at h
  cases e : (bdS σ o R).1 r with
  | none => rw [e] at h; exact z_y' rfl h
  | some v =>
    rw [e] at h
    exact z_n' (z_106 v (by have := bdV e; omega)) (X_share V hv hr (j := 3) (by omega) false (X_share V hv hr (j := 4) (by omega) true h))
