/-! ===== plain rows: counting loops, ints, booleans, updates ===== -/
theorem z_up (Q : Nat → Nat → Prop) (R : Nat) (h0 : ∀ n, Q (n + 1) R) (hs : ∀ n k, k < R → Q n (k + 1) → Q (n + 1) k) (k : Nat) (hk : k ≤ R) : ∃ n, Q n k := by
  have h : ∀ d k, k + d = R → Q (d + 1) k := by
    intro d
    induction d with
    | zero => intro k h; have e : k = R := by omega
              subst e; exact h0 0
    | succ d ih => intro k h; exact hs _ _ (by omega) (ih (k + 1) (by omega))
  exact ⟨_, h (R - k) k (by omega)⟩
/-- a loop that counts down to 0 -/
theorem z_down (Q : Nat → Nat → Prop) (h0 : ∀ n, Q (n + 1) 0) (hs : ∀ n k, Q n k → Q (n + 1) (k + 1)) (k : Nat) : ∃ n, Q n k := by
  refine ⟨k + 1, ?_⟩
  induction k with
  | zero => exact h0 0
  | succ k ih => exact hs _ _ ih
theorem z_lt {a b : Int32} : a < b ↔ a.toInt < b.toInt := Int32.lt_iff_toInt_lt
theorem z_le {a b : Int32} : a ≤ b ↔ a.toInt ≤ b.toInt := Int32.le_iff_toInt_le
theorem z_eq {a b : Int32} : a = b ↔ a.toInt = b.toInt := Int32.toInt_inj.symm
theorem z_nI {n : Nat} (h : n < 2147483648) : (nI n).toInt = (n : Int) := nI_toInt h
theorem z_add {a b : Int32} (h : -2147483648 ≤ a.toInt + b.toInt) (h' : a.toInt + b.toInt < 2147483648) : (a + b).toInt = a.toInt + b.toInt := by
  rw [Int32.toInt_add]; exact Int.bmod_eq_of_le (by omega) (by omega)
theorem z_sub {a b : Int32} (h : -2147483648 ≤ a.toInt - b.toInt) (h' : a.toInt - b.toInt < 2147483648) : (a - b).toInt = a.toInt - b.toInt := by
  rw [Int32.toInt_sub]; exact Int.bmod_eq_of_le (by omega) (by omega)
theorem z_mul {a b : Int32} (h : -2147483648 ≤ a.toInt * b.toInt) (h' : a.toInt * b.toInt < 2147483648) : (a * b).toInt = a.toInt * b.toInt := by
  rw [Int32.toInt_mul]; exact Int.bmod_eq_of_le (by omega) (by omega)
theorem z_leN {a b : Nat} (ha : a < 2147483648) (hb : b < 2147483648) : nI a ≤ nI b ↔ a ≤ b := nI_leI ha hb
theorem z_ltN {a b : Nat} (ha : a < 2147483648) (hb : b < 2147483648) : nI a < nI b ↔ a < b := nI_ltI ha hb
theorem z_eqN {a b : Nat} (ha : a < 2147483648) (hb : b < 2147483648) : nI a = nI b ↔ a = b := nI_eq ha hb
theorem z_in {n N : Nat} (h : n < N) (hN : N < 2147483648) : vp_in (nI n) N := vp_in_nI h hN
theorem z_cl {n : Nat} (h : n < 2147483648) : (nI n).toNatClampNeg = n := nI_clamp h
theorem z_s (n : Nat) : nI n + 1 = nI (n + 1) := nI_1 n
theorem z_a (a b : Nat) : nI a + nI b = nI (a + b) := nI_add a b
theorem z_p (n : Nat) : nI (n + 1) - 1 = nI n := nI_pred n
theorem z_p' (n : Nat) : nI (n + 1) + (-1) = nI n := by
  rw [← nI_pred n, Int32.sub_eq_add_neg]
theorem z_m (a b : Nat) : nI a * nI b = nI (a * b) := (Int32.ofNat_mul a b).symm
theorem z_sN {a b : Nat} (h : b ≤ a) : nI a - nI b = nI (a - b) := by
  obtain ⟨c, rfl⟩ : ∃ c, a = b + c := ⟨a - b, by omega⟩
  rw [← z_a, Nat.add_sub_cancel_left, Int32.add_comm, Int32.add_sub_cancel]
theorem z_b0 : g_b 0 := rfl
theorem z_b1 : g_b 1 := rfl
theorem z_106 (n : Nat) (h : n < 2147483648) : ¬ nI n = (-106 : Int32) := by
  intro e
  have h2 := z_eq.mp e
  rw [z_nI h] at h2
  have h3 : (-106 : Int32).toInt = -106 := by decide
  omega
/-- x is one of 0 .. N - 1 -/
def z_is (x : Int32) (N : Nat) : Prop := ∃ j : Nat, j < N ∧ x = nI j
theorem z_is_iff {x : Int32} {N : Nat} (hN : N < 2147483648) : z_is x N ↔ 0 ≤ x.toInt ∧ x.toInt < N := by
  constructor
  · rintro ⟨j, hj, rfl⟩
    rw [z_nI (by omega)]; omega
  · rintro ⟨h1, h2⟩
    obtain ⟨j, hj, rfl⟩ := nI_of (x := x) (by rw [z_lt]; have : (0 : Int32).toInt = 0 := by decide
                                              omega)
    rw [z_nI (by omega)] at h2
    exact ⟨j, by omega, rfl⟩
theorem z_isIn_t {P : Int32 → Prop} {x a b : Int32} (h1 : a ≤ x) (h2 : x ≤ b) (p : P 1) : wp_X5_isIn P x a b := by
  rw [z_le] at h1 h2
  exact ⟨fun h => absurd (z_lt.mp h) (by omega), fun _ => ⟨fun h => absurd (z_lt.mp h) (by omega), fun _ => p⟩⟩
theorem z_isIn_f {P : Int32 → Prop} {x a b : Int32} (h1 : ¬ (a ≤ x ∧ x ≤ b)) (p : P 0) : wp_X5_isIn P x a b := by
  rw [z_le, z_le] at h1
  exact ⟨fun _ => p, fun h => ⟨fun _ => p, fun h' => absurd h1 (by rw [z_lt] at h h'; omega)⟩⟩
theorem z_in_t {P : Int32 → Prop} {x : Int32} (N : Nat) (hN : N < 2147483647) (h : z_is x (N + 1)) (p : P 1) : wp_X5_isIn P x 0 (nI N) := by
  obtain ⟨j, hj, rfl⟩ := h
  refine z_isIn_t ?_ ?_ p
  · rw [show (0 : Int32) = nI 0 from rfl, z_leN (by omega) (by omega)]; omega
  · rw [z_leN (by omega) (by omega)]; omega
theorem z_in_f {P : Int32 → Prop} {x : Int32} (N : Nat) (hN : N < 2147483647) (h : ¬ z_is x (N + 1)) (p : P 0) : wp_X5_isIn P x 0 (nI N) := by
  refine z_isIn_f ?_ p
  rintro ⟨h1, h2⟩
  apply h
  rw [z_is_iff (by omega)]
  rw [z_le] at h1 h2
  rw [z_nI (by omega)] at h2
  have : (0 : Int32).toInt = 0 := by decide
  omega
/-- choices behind a boolean that is known -/
theorem z_t {A B : Prop} (a : A) : ((¬ (1 : Int32) = 0) → A) ∧ (((1 : Int32) = 0) → B) := ⟨fun _ => a, fun h => absurd h (by decide)⟩
theorem z_f {A B : Prop} (b : B) : ((¬ (0 : Int32) = 0) → A) ∧ (((0 : Int32) = 0) → B) := ⟨fun h => absurd rfl h, fun _ => b⟩
theorem z_t' {A B : Prop} (a : A) : (((1 : Int32) = 0) → B) ∧ ((¬ (1 : Int32) = 0) → A) := ⟨fun h => absurd h (by decide), fun _ => a⟩
theorem z_f' {A B : Prop} (b : B) : (((0 : Int32) = 0) → B) ∧ ((¬ (0 : Int32) = 0) → A) := ⟨fun _ => b, fun h => absurd rfl h⟩
/-- choices of which one is known -/
theorem z_y {c A B : Prop} (h : c) (a : A) : (c → A) ∧ (¬ c → B) := ⟨fun _ => a, fun g => absurd h g⟩
theorem z_n {c A B : Prop} (h : ¬ c) (b : B) : (c → A) ∧ (¬ c → B) := ⟨fun g => absurd g h, fun _ => b⟩
theorem z_y' {c A B : Prop} (h : c) (a : A) : (¬ c → B) ∧ (c → A) := ⟨fun g => absurd h g, fun _ => a⟩
theorem z_n' {c A B : Prop} (h : ¬ c) (b : B) : (¬ c → B) ∧ (c → A) := ⟨fun _ => b, fun g => absurd g h⟩
theorem z_us {f : Nat → Int32} {k : Nat} {x : Int32} : upd f k x k = x := pk_us
theorem z_un {f : Nat → Int32} {k j : Nat} {x : Int32} (h : j ≠ k) : upd f k x j = f j := pk_un h
theorem z_upd (f : Nat → Int32) (k : Nat) (x : Int32) (j : Nat) : upd f k x j = if j = k then x else f j := rfl
theorem z_a0 (x : Int32) : x + 0 = x := Int32.add_zero x
theorem z_s0 (x : Int32) : x - 0 = x := Int32.sub_zero x
/-! ===== sums ===== -/
def zS (f : Nat → Int32) : Nat → Int32
  | 0 => 0
  | k + 1 => zS f k + f k
theorem zS_congr {f g : Nat → Int32} : ∀ {k : Nat}, (∀ j, j < k → f j = g j) → zS f k = zS g k
  | 0, _ => rfl
  | k + 1, h => by
    show zS f k + f k = zS g k + g k
    rw [zS_congr fun j hj => h j (by omega), h k (by omega)]
theorem zS_upd {f : Nat → Int32} {a : Nat} {x : Int32} (h0 : f a = 0) : ∀ {k : Nat}, a < k → zS (upd f a x) k = zS f k + x
  | 0, h => absurd h (by omega)
  | k + 1, h => by
    show zS (upd f a x) k + upd f a x k = zS f k + f k + x
    by_cases e : a = k
    · subst e
      rw [z_us, h0, z_a0, zS_congr (g := f) fun j hj => z_un (by omega)]
    · rw [zS_upd h0 (by omega), z_un (by omega), Int32.add_assoc, Int32.add_assoc, Int32.add_comm x]
theorem zS_0 {f : Nat → Int32} : ∀ {k : Nat}, (∀ j, j < k → f j = 0) → zS f k = 0
  | 0, _ => rfl
  | k + 1, h => by
    show zS f k + f k = 0
    rw [zS_0 fun j hj => h j (by omega), h k (by omega)]; rfl
theorem z_c0 : (0 : Int32).toNatClampNeg = 0 := rfl
theorem z_c1 : (1 : Int32).toNatClampNeg = 1 := rfl
theorem z_c2 : (2 : Int32).toNatClampNeg = 2 := rfl
theorem z_c3 : (3 : Int32).toNatClampNeg = 3 := rfl
theorem z_c4 : (4 : Int32).toNatClampNeg = 4 := rfl
theorem z_c33 : (33 : Int32).toNatClampNeg = 33 := rfl
