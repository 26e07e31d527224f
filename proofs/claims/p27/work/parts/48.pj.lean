/-! ===== what is told of a rider ===== -/
theorem X_minuteAt {P : Int32 → Prop} {σ : StT} {R : Nat} (hR : R ≤ 24) {b : BT} {van n r : Nat} {ky wp mi : Nat → Int32} (s : ST σ b van R n ky wp) (hr : r < R) (hb : b.1 r = some van)
    (h : ∀ p, p < n → ky p = kyS σ r → P (mi p)) : wp_X4_minuteAt P (mkWy ky wp mi (nI n)) (kyS σ r) := by
  have hn := s.le
  obtain ⟨j, hj, ej⟩ := s.all r hr hb
  have ej2 : (ky j).toInt = (kyS σ r).toInt := by rw [ej]
  refine X_place (w := mkWy ky wp mi (nI n)) (by omega) rfl (fun p hp h1 h2 => ?_)
  have h1 : ∀ j, j < p → (ky j).toInt < (kyS σ r).toInt := h1
  have h2 : p < n → (kyS σ r).toInt ≤ (ky p).toInt := h2
  have hjp : p ≤ j := by
    rcases Nat.lt_or_ge j p with c | c
    · have := h1 j c; omega
    · exact c
  have e : p = j := by
    rcases Nat.lt_or_ge p j with c | c
    · have := s.inc p j c hj; have := h2 (by omega); omega
    · omega
  subst e
  refine z_n (show ¬ nI n ≤ nI p from by rw [z_leN (by omega) (by omega)]; omega) ⟨z_in (by omega) (by omega), ?_⟩
  rw [z_cl (by omega)]; exact h p hj ej
theorem ST.uniq {σ : StT} {b : BT} {van k n : Nat} {ky wp : Nat → Int32} (s : ST σ b van k n ky wp) {p q : Nat} (hp : p < n) (hq : q < n) (e : ky p = ky q) : p = q := by
  rcases Nat.lt_trichotomy p q with c | c | c
  · have := s.inc p q c hq; rw [e] at this; omega
  · exact c
  · have := s.inc q p c hp; rw [e] at this; omega
/-- how many others share the stop -/
def otS (σ : StT) (b : BT) (r : Nat) : Nat → Int32
  | 0 => 0
  | k + 1 => if k = r then otS σ b r k else if shS σ b true r k = true then otS σ b r k + 1 else otS σ b r k
theorem X_others {P : Int32 → Prop} {σ : StT} {R : Nat} (V : SV σ R) {o : Nat → Nat} {pl : PlT} (hv : ∀ r, r < R → pl.vn r = enc ((bdS σ o R).1 r)) {r v : Nat} (hr : r < R) (hb : (bdS σ o R).1 r = some v) (h : P (otS σ (bdS σ o R) r R)) : wp_X2_othersAtStop P pl σ (nI r) := by
  have hR := V.hR
  have hv8 := bdV hb
  refine ⟨z_in (by omega) (by omega), ?_⟩
  rw [z_cl (by omega), hv r hr, hb]
  refine z_n' (z_106 v (by omega)) ?_
  refine z_up (fun n k => wp_X2_othersAtStop_18 P pl σ (nI r) n (otS σ (bdS σ o R) r k) (nI k)) R (fun n => ?_) (fun n k hk ih => ?_) 0 (by omega)
  · exact z_y (by rw [V.ri, z_leN (by omega) (by omega)]; omega) h
  · refine z_n (by rw [V.ri, z_leN (by omega) (by omega)]; omega) ?_
    rw [z_s]
    by_cases c : k = r
    · have e1 : otS σ (bdS σ o R) r (k + 1) = otS σ (bdS σ o R) r k := by simp [otS, c]
      rw [e1] at ih
      exact z_y (by rw [c]) ih
    · refine z_n (by rw [z_eqN (by omega) (by omega)]; exact c) (X_shares V hv hr hk true ?_)
      cases e : shS σ (bdS σ o R) true r k with
      | false =>
        have e1 : otS σ (bdS σ o R) r (k + 1) = otS σ (bdS σ o R) r k := by simp [otS, c, e]
        rw [e1] at ih; exact z_f' ih
      | true =>
        have e1 : otS σ (bdS σ o R) r (k + 1) = otS σ (bdS σ o R) r k + 1 := by simp [otS, c, e]
        rw [e1] at ih; exact z_t' ih
theorem X_wait {P : Int32 → Prop} {σ : StT} {R : Nat} (V : SV σ R) {o : Nat → Nat} {pl : PlT} (hv : ∀ r, r < R → pl.vn r = enc ((bdS σ o R).1 r)) (hd : ∀ r, r < R → pl.rd r = rdS σ r) {r : Nat} (hr : r < R) (h0 : (bdS σ o R).1 r = none → P (-106)) (h1 : ∀ v, (bdS σ o R).1 r = some v → P (σ.le v - rdS σ r)) : wp_X2_waitOf P pl σ (nI r) := by
  have hR := V.hR
  refine ⟨z_in (by omega) (by omega), ?_⟩
  rw [z_cl (by omega), hv r hr, hd r hr]
  cases g : (bdS σ o R).1 r with
  | none => exact Xv_f (by rw [z_is_iff (by omega)]; decide) (z_f' (h0 g))
  | some v =>
    have hv8 := bdV g
    have ev : (enc (some v)).toNatClampNeg = v := z_cl (by omega)
    refine Xv_t ⟨v, hv8, rfl⟩ (z_t' ⟨z_in hv8 (by omega), z_in (by omega) (by omega), ?_⟩)
    rw [ev]; exact h1 v g
