/-! ===== states that may be, and the row of numbers beside them ===== -/
def SV (σ : StT) (R : Nat) : Prop := (σ.ri = nI R) ∧ (R ≤ 24) ∧ (0 ≤ (σ.se 0).toInt ∧ (σ.se 0).toInt ≤ 90) ∧ (0 ≤ (σ.se 1).toInt ∧ (σ.se 1).toInt ≤ 240) ∧ (1 ≤ (σ.se 2).toInt ∧ (σ.se 2).toInt ≤ 6) ∧ (0 ≤ (σ.se 3).toInt ∧ (σ.se 3).toInt ≤ 300) ∧ (0 ≤ (σ.se 4).toInt ∧ (σ.se 4).toInt ≤ 40) ∧ (∀ f, f < 6 → 0 ≤ (σ.la f).toInt ∧ (σ.la f).toInt ≤ 1200) ∧ (∀ f, f < 6 → -30 ≤ (σ.de f).toInt ∧ (σ.de f).toInt ≤ 300) ∧ (∀ v, v < 8 → 0 ≤ (σ.le v).toInt ∧ (σ.le v).toInt ≤ 1500) ∧ (∀ v, v < 8 → 0 ≤ (σ.sa v).toInt ∧ (σ.sa v).toInt ≤ 12) ∧ (∀ r, r < R → z_is (σ.fl r) 6) ∧ (∀ r, r < R → z_is (σ.ar r) 6) ∧ (∀ r, r < R → z_is (σ.dr r) 100) ∧ (∀ r, r < R → 1 ≤ (σ.pe r).toInt ∧ (σ.pe r).toInt ≤ 4)
theorem SV.ri {σ : StT} {R : Nat} (h : SV σ R) : σ.ri = nI R := h.1
theorem SV.hR {σ : StT} {R : Nat} (h : SV σ R) : R ≤ 24 := h.2.1
theorem SV.se0 {σ : StT} {R : Nat} (h : SV σ R) : 0 ≤ (σ.se 0).toInt ∧ (σ.se 0).toInt ≤ 90 := h.2.2.1
theorem SV.se1 {σ : StT} {R : Nat} (h : SV σ R) : 0 ≤ (σ.se 1).toInt ∧ (σ.se 1).toInt ≤ 240 := h.2.2.2.1
theorem SV.se2 {σ : StT} {R : Nat} (h : SV σ R) : 1 ≤ (σ.se 2).toInt ∧ (σ.se 2).toInt ≤ 6 := h.2.2.2.2.1
theorem SV.se3 {σ : StT} {R : Nat} (h : SV σ R) : 0 ≤ (σ.se 3).toInt ∧ (σ.se 3).toInt ≤ 300 := h.2.2.2.2.2.1
theorem SV.se4 {σ : StT} {R : Nat} (h : SV σ R) : 0 ≤ (σ.se 4).toInt ∧ (σ.se 4).toInt ≤ 40 := h.2.2.2.2.2.2.1
theorem SV.la {σ : StT} {R : Nat} (h : SV σ R) : ∀ f, f < 6 → 0 ≤ (σ.la f).toInt ∧ (σ.la f).toInt ≤ 1200 := h.2.2.2.2.2.2.2.1
theorem SV.de {σ : StT} {R : Nat} (h : SV σ R) : ∀ f, f < 6 → -30 ≤ (σ.de f).toInt ∧ (σ.de f).toInt ≤ 300 := h.2.2.2.2.2.2.2.2.1
theorem SV.le {σ : StT} {R : Nat} (h : SV σ R) : ∀ v, v < 8 → 0 ≤ (σ.le v).toInt ∧ (σ.le v).toInt ≤ 1500 := h.2.2.2.2.2.2.2.2.2.1
theorem SV.sa {σ : StT} {R : Nat} (h : SV σ R) : ∀ v, v < 8 → 0 ≤ (σ.sa v).toInt ∧ (σ.sa v).toInt ≤ 12 := h.2.2.2.2.2.2.2.2.2.2.1
theorem SV.fl {σ : StT} {R : Nat} (h : SV σ R) : ∀ r, r < R → z_is (σ.fl r) 6 := h.2.2.2.2.2.2.2.2.2.2.2.1
theorem SV.ar {σ : StT} {R : Nat} (h : SV σ R) : ∀ r, r < R → z_is (σ.ar r) 6 := h.2.2.2.2.2.2.2.2.2.2.2.2.1
theorem SV.dr {σ : StT} {R : Nat} (h : SV σ R) : ∀ r, r < R → z_is (σ.dr r) 100 := h.2.2.2.2.2.2.2.2.2.2.2.2.2.1
theorem SV.pe {σ : StT} {R : Nat} (h : SV σ R) : ∀ r, r < R → 1 ≤ (σ.pe r).toInt ∧ (σ.pe r).toInt ≤ 4 := h.2.2.2.2.2.2.2.2.2.2.2.2.2.2
/-- the minute at which a rider is ready -/
def rdS (σ : StT) (r : Nat) : Int32 := (σ.la (σ.fl r).toNatClampNeg + σ.de (σ.fl r).toNatClampNeg) + σ.se 0
theorem rdS_b {σ : StT} {R : Nat} (V : SV σ R) {r : Nat} (hr : r < R) : -30 ≤ (rdS σ r).toInt ∧ (rdS σ r).toInt ≤ 1590 := by
  obtain ⟨j, hj, e⟩ := V.fl r hr
  have h1 := V.la j hj
  have h2 := V.de j hj
  have h3 := V.se0
  unfold rdS
  rw [e, z_cl (by omega)]
  have e1 := z_add (a := σ.la j) (b := σ.de j) (by omega) (by omega)
  rw [z_add (by omega) (by omega), e1]
  omega
theorem X_fr {P : Int32 → Prop} {σ : StT} {j : Nat} (hj : j < 6) (h : P ((σ.la j + σ.de j) + σ.se 0)) : wp_X3_flightReady P σ (nI j) := by
  refine ⟨z_in hj (by omega), z_in hj (by omega), ?_⟩
  rw [z_cl (by omega)]; exact h
theorem X_rr {P : Int32 → Prop} {σ : StT} {R : Nat} (V : SV σ R) {r : Nat} (hr : r < R) (h : P (rdS σ r)) : wp_X3_riderReady P σ (nI r) := by
  have hR := V.hR
  refine ⟨z_in (by omega) (by omega), ?_⟩
  rw [z_cl (by omega)]
  obtain ⟨j, hj, e⟩ := V.fl r hr
  unfold rdS at h
  rw [e, z_cl (by omega)] at h
  rw [e]
  exact X_fr hj h
/-! ===== the line ===== -/
/-- o puts the riders 0 .. R - 1 in the order in which they are ready, the lower number first -/
def IsOrd (f : Nat → Int32) (R : Nat) (o : Nat → Nat) : Prop := (∀ k, k < R → o k < R) ∧ (∀ j k, j < k → k < R → (f (o j)).toInt < (f (o k)).toInt ∨ ((f (o j)).toInt = (f (o k)).toInt ∧ o j < o k)) ∧ (∀ r, r < R → ∃ k, k < R ∧ o k = r)
theorem IsOrd.lt {f : Nat → Int32} {R : Nat} {o : Nat → Nat} (h : IsOrd f R o) : ∀ k, k < R → o k < R := h.1
theorem IsOrd.inc {f : Nat → Int32} {R : Nat} {o : Nat → Nat} (h : IsOrd f R o) : ∀ j k, j < k → k < R → (f (o j)).toInt < (f (o k)).toInt ∨ ((f (o j)).toInt = (f (o k)).toInt ∧ o j < o k) := h.2.1
theorem IsOrd.sur {f : Nat → Int32} {R : Nat} {o : Nat → Nat} (h : IsOrd f R o) : ∀ r, r < R → ∃ k, k < R ∧ o k = r := h.2.2
theorem IsOrd.inj {f : Nat → Int32} {R : Nat} {o : Nat → Nat} (h : IsOrd f R o) {j k : Nat} (hj : j < R) (hk : k < R) (e : o j = o k) : j = k := by
  rcases Nat.lt_trichotomy j k with c | c | c
  · have := h.inc j k c hk; rw [e] at this; omega
  · exact c
  · have := h.inc k j c hj; rw [e] at this; omega
/-- the inner loop: rider k goes to his place p -/
theorem X_in {P : (Nat → Int32) → (Nat → Int32) → Prop} {pl : PlT} {σ : StT} {r2 : Int32 → (Nat → Int32) → (Nat → Int32) → Prop} {f : Nat → Int32} {rd : Nat → Int32} {k : Nat} (hk : k < 24) (hrd : ∀ r, r ≤ k → rd r = f r) {o : Nat → Nat} (ho : IsOrd f k o)
    (h : ∀ (od' : Nat → Int32) (o' : Nat → Nat), IsOrd f (k + 1) o' → (∀ j, j < k + 1 → od' j = nI (o' j)) → r2 (nI (k + 1)) od' rd)
    (p : Nat) : ∀ (od : Nat → Int32), p ≤ k → (∀ j, j < p → od j = nI (o j)) → (∀ j, p < j → j ≤ k → od j = nI (o (j - 1))) → (∀ j, p ≤ j → j < k → (f k).toInt < (f (o j)).toInt) → wp_X2_lineUp_23 P pl σ r2 (nI k) rd (p + 1) (nI p) od := by
  have fin : ∀ (p : Nat) (od : Nat → Int32), p ≤ k → (∀ j, j < p → od j = nI (o j)) → (∀ j, p < j → j ≤ k → od j = nI (o (j - 1))) → (∀ j, p ≤ j → j < k → (f k).toInt < (f (o j)).toInt) → (∀ j, j < p → (f (o j)).toInt ≤ (f k).toInt) → wp_X2_lineUp_69 P pl σ r2 (nI k) (nI p) od rd := by
    intro p od hp h1 h2 h3 h4
    refine ⟨z_in (by omega) (by omega), ?_⟩
    rw [z_s, z_cl (by omega)]
    refine h _ (fun j => if j < p then o j else if j = p then k else o (j - 1)) ⟨?_, ?_, ?_⟩ ?_
    · intro j hj
      by_cases c1 : j < p
      · simp only [c1, if_true]; have := ho.lt j (by omega); omega
      · by_cases c2 : j = p
        · simp only [c1, c2, if_false, if_true]; split <;> omega
        · simp only [c1, c2, if_false]; have := ho.lt (j - 1) (by omega); omega
    · intro i j hij hj
      by_cases c1 : j < p
      · have c2 : i < p := by omega
        simp only [c1, c2, if_true]
        exact ho.inc i j hij (by omega)
      · by_cases c2 : j = p
        · have c3 : i < p := by omega
          simp only [c1, c2, c3, if_true, if_false]
          have a := h4 i c3
          have b := ho.lt i (by omega)
          split <;> omega
        · by_cases c3 : i < p
          · simp only [c1, c2, c3, if_true, if_false]
            exact ho.inc i (j - 1) (by omega) (by omega)
          · by_cases c4 : i = p
            · simp only [c1, c2, c4, if_false, if_true]
              have a := h3 (j - 1) (by omega) (by omega)
              split <;> omega
            · simp only [c1, c2, c3, c4, if_false]
              exact ho.inc (i - 1) (j - 1) (by omega) (by omega)
    · intro r hr
      by_cases c : r = k
      · exact ⟨p, by omega, by simp [c]⟩
      · obtain ⟨j, hj, e⟩ := ho.sur r (by omega)
        by_cases c1 : j < p
        · exact ⟨j, by omega, by simp only [c1, if_true]; exact e⟩
        · refine ⟨j + 1, by omega, ?_⟩
          have c2 : ¬ j + 1 < p := by omega
          have c3 : ¬ j + 1 = p := by omega
          simp only [c2, c3, if_false, Nat.add_sub_cancel]
          exact e
    · intro j hj
      by_cases c1 : j < p
      · rw [z_un (by omega)]; simp only [c1, if_true]; exact h1 j c1
      · by_cases c2 : j = p
        · rw [c2, z_us]; simp
        · rw [z_un c2]; simp only [c1, c2, if_false]; exact h2 j (by omega) (by omega)
  induction p with
  | zero =>
    intro od hp h1 h2 h3
    exact ⟨fun _ => fin 0 od hp h1 h2 h3 (fun j hj => absurd hj (by omega)), fun h => absurd (z_le.mpr (by rw [z_nI (by omega)]; decide)) h⟩
  | succ p ih =>
    intro od hp h1 h2 h3
    have e1 : nI (p + 1) - (1 : Int32) = nI p := z_p p
    have e2 : (nI p).toNatClampNeg = p := z_cl (by omega)
    have hop := ho.lt p (by omega)
    have e3 : od p = nI (o p) := h1 p (by omega)
    refine z_n (by rw [show (0 : Int32) = nI 0 from rfl, z_leN (by omega) (by omega)]; omega) ?_
    rw [e1, e2, e3]
    refine ⟨z_in (by omega) (by omega), z_in (by omega) (by omega), z_in (by omega) (by omega), ?_⟩
    rw [z_cl (by omega), z_cl (by omega), hrd _ (by omega), hrd _ (by omega)]
    constructor
    · intro c
      rw [z_le] at c
      refine fin (p + 1) od hp h1 h2 h3 ?_
      intro j hj
      by_cases e : j = p
      · subst e; exact c
      · have := ho.inc j p (by omega) (by omega); omega
    · intro c
      rw [z_le] at c
      refine ⟨z_in (by omega) (by omega), z_in (by omega) (by omega), ?_⟩
      rw [z_p', z_cl (by omega)]
      refine ih _ (by omega) ?_ ?_ ?_
      · intro j hj; rw [z_un (by omega)]; exact h1 j (by omega)
      · intro j hj hj2
        by_cases e : j = p + 1
        · rw [e, z_us]; rfl
        · rw [z_un e]; exact h2 j (by omega) hj2
      · intro j hj hj2
        by_cases e : j = p
        · subst e; omega
        · exact h3 j (by omega) hj2
theorem X_lineUp {P : (Nat → Int32) → (Nat → Int32) → Prop} {pl : PlT} {σ : StT} {R : Nat} (V : SV σ R)
    (h : ∀ (od rd : Nat → Int32) (o : Nat → Nat), IsOrd (rdS σ) R o → (∀ j, j < R → od j = nI (o j)) → (∀ r, r < R → rd r = rdS σ r) → P od rd) : wp_X2_lineUp P pl σ := by
  have hR := V.hR
  suffices hh : ∀ d k, k + d = R → ∀ (od rd : Nat → Int32) (o : Nat → Nat), IsOrd (rdS σ) k o → (∀ j, j < k → od j = nI (o j)) → (∀ r, r < k → rd r = rdS σ r) → wp_X2_lineUp_2 P pl σ (d + 1) (nI k) od rd from
    ⟨R + 1, hh R 0 (by omega) _ _ (fun _ => 0) ⟨fun k hk => absurd hk (by omega), fun j k _ hk => absurd hk (by omega), fun r hr => absurd hr (by omega)⟩ (fun j hj => absurd hj (by omega)) (fun j hj => absurd hj (by omega))⟩
  intro d
  induction d with
  | zero =>
    intro k hk od rd o ho h1 h2
    have e : k = R := by omega
    subst e
    exact z_y (by rw [V.ri, z_leN (by omega) (by omega)]; omega) (h od rd o ho h1 h2)
  | succ d ih =>
    intro k hk od rd o ho h1 h2
    refine z_n (by rw [V.ri, z_leN (by omega) (by omega)]; omega) ?_
    refine X_rr V (by omega) ⟨z_in (by omega) (by omega), k + 1, ?_⟩
    rw [z_cl (by omega)]
    have hrd : ∀ r, r ≤ k → upd rd k (rdS σ k) r = rdS σ r := by
      intro r hr
      by_cases e : r = k
      · rw [e, z_us]
      · rw [z_un e]; exact h2 r (by omega)
    exact X_in (by omega) hrd ho (fun od' o' ho' h1' => ih (k + 1) (by omega) od' _ o' ho' h1' (fun r hr => hrd r (by omega))) k od (by omega) h1 (fun j a b => by omega) (fun j a b => by omega)
