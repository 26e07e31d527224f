/-! ===== reading riders, both sides ===== -/
theorem z_q_t {P : Int32 → Prop} {j n : Nat} (hn : n ≤ 60) (h : j < n) (p : P 1) : wp_X5_isIn P (nI j) 0 (nI n - 1) := by
  obtain ⟨q, rfl⟩ : ∃ q, n = q + 1 := ⟨n - 1, by omega⟩
  rw [z_p]
  exact z_in_t q (by omega) ⟨j, h, rfl⟩ p
theorem z_q_f {P : Int32 → Prop} {j n : Nat} (hn : n ≤ 60) (hj : j < 1000) (h : n ≤ j) (p : P 0) : wp_X5_isIn P (nI j) 0 (nI n - 1) := by
  refine z_isIn_f ?_ p
  rintro ⟨h1, h2⟩
  rw [z_le] at h1 h2
  have e := z_nI (n := n) (by omega)
  have e2 := z_nI (n := j) (by omega)
  have e1 : (1 : Int32).toInt = 1 := by decide
  rw [z_sub (by omega) (by omega), e, e1] at h2
  omega
theorem X_code {P : Int32 → Prop} {pd : PdT} {n j : Nat} (hn : pd.ln = nI n) (h60 : n ≤ 60) (hj : j < 1000) (h1 : j < n → P (pd.co j)) (h0 : n ≤ j → P 0) : wp_X1_codeAt P pd (nI j) := by
  unfold wp_X1_codeAt
  rw [hn]
  rcases Nat.lt_or_ge j n with g | g
  · refine z_q_t h60 g (z_t' ⟨z_in (by omega) (by omega), ?_⟩)
    rw [z_cl (by omega)]; exact h1 g
  · exact z_q_f h60 hj g (z_f' (h0 g))
theorem dg0 : ¬ dgS 0 := by unfold dgS; decide
theorem X_dg {P : Int32 → Prop} {x : Int32} (h1 : dgS x → P 1) (h0 : ¬ dgS x → P 0) : wp_X1_isDigit P x := X_dig h1 h0
theorem X_add100 {P : Int32 → (Nat → Int32) → (Nat → Int32) → (Nat → Int32) → (Nat → Int32) → Int32 → Prop} {pd : PdT} {σ : StT} {R : Nat} {x2 v6 f a d q : Int32} (hr : σ.ri = nI R) (hR : R < 24)
    (h : P v6 (upd σ.fl R f) (upd σ.ar R a) (upd σ.dr R d) (upd σ.pe R q) (nI (R + 1))) : wp_X1_addRiderTo_100 P pd σ x2 f a d v6 q σ.fl σ.ar σ.dr σ.pe σ.ri := by
  unfold wp_X1_addRiderTo_100
  exact X_add (σ := mkSt σ.se σ.la σ.de σ.le σ.sa σ.fl σ.ar σ.dr σ.pe σ.ri) hr hR h
theorem X_add70 {P : Int32 → (Nat → Int32) → (Nat → Int32) → (Nat → Int32) → (Nat → Int32) → Int32 → Prop} {pd : PdT} {σ : StT} {R n p : Nat} {x2 f a d : Int32} {two ex : Bool} (hn : pd.ln = nI n) (h60 : n ≤ 60) (hr : σ.ri = nI R) (hR : R < 24) (rv : RV pd.co n p two ex)
    (h : P (nI (enS two ex p)) (upd σ.fl R f) (upd σ.ar R a) (upd σ.dr R d) (upd σ.pe R (peS pd.co two ex p)) (nI (R + 1))) : wp_X1_addRiderTo_70 P pd σ x2 f a d (nI (q0S two p)) σ.fl σ.ar σ.dr σ.pe σ.ri := by
  have hq : q0S two p ≤ p + 4 := by unfold q0S; split <;> omega
  have hg := rv.g2
  cases ex with
  | true =>
    obtain ⟨k1, k2, k3, k4⟩ := rv.ey rfl
    refine X_code hn h60 (by omega) (fun _ => z_y' k2 ?_) (fun z => absurd z (by omega))
    rw [z_s]
    refine X_code hn h60 (by omega) (fun _ => ?_) (fun z => absurd z (by omega))
    rw [show nI (q0S two p) + 2 = nI (enS two true p) from z_a (q0S two p) 2]
    exact X_add100 hr hR h
  | false =>
    refine X_code hn h60 (by omega) (fun g => z_n' (rv.en rfl g) (X_add100 hr hR h)) (fun _ => z_n' z_120 (X_add100 hr hR h))
theorem X_rider {P : Int32 → (Nat → Int32) → (Nat → Int32) → (Nat → Int32) → (Nat → Int32) → Int32 → Prop} {pd : PdT} {σ : StT} {R n p : Nat} {two ex : Bool} (hn : pd.ln = nI n) (h60 : n ≤ 60) (hr : σ.ri = nI R) (hR : R < 24) (rv : RV pd.co n p two ex)
    (h : P (nI (enS two ex p)) (upd σ.fl R (pd.co p - 48)) (upd σ.ar R (pd.co (p + 1) - 97)) (upd σ.dr R (doS pd.co two p)) (upd σ.pe R (peS pd.co two ex p)) (nI (R + 1))) : wp_X1_addRiderTo P pd σ (nI p) := by
  have hg := rv.g2
  have e1 : nI p + (1 : Int32) = nI (p + 1) := z_a p 1
  have e2 : nI p + (2 : Int32) = nI (p + 2) := z_a p 2
  have e3 : nI p + (3 : Int32) = nI (p + 3) := z_a p 3
  unfold wp_X1_addRiderTo
  rw [e1, e2, e3]
  refine X_code hn h60 (by omega) (fun _ => ?_) (fun z => absurd z (by omega))
  refine X_code hn h60 (by omega) (fun _ => ?_) (fun z => absurd z (by omega))
  refine X_code hn h60 (by omega) (fun _ => ?_) (fun z => absurd z (by omega))
  cases two with
  | true =>
    obtain ⟨t1, t2, t3⟩ := rv.ty rfl
    refine X_code hn h60 (by omega) (fun _ => X_dg (fun _ => z_t' ?_) (fun z => absurd t3 z)) (fun z => absurd z (by omega))
    refine X_code hn h60 (by omega) (fun _ y ey => ?_) (fun z => absurd z (by omega))
    have e4 : nI (p + 3) + 1 = nI (q0S true p) := z_a (p + 3) 1
    rw [e4, ey]
    exact X_add70 hn h60 hr hR rv h
  | false =>
    have no := rv.tn rfl
    refine X_code hn h60 (by omega) (fun g => X_dg (fun z => absurd z (no g)) (fun _ => z_f' ?_)) (fun _ => X_dg (fun z => absurd z dg0) (fun _ => z_f' ?_))
    · exact X_add70 (two := false) hn h60 hr hR rv h
    · exact X_add70 (two := false) hn h60 hr hR rv h
/-- what the reference's item holds behind a rider -/
def IT (c : Nat → Int32) (p : Nat) (two ex : Bool) (it : Nat → Int32) : Prop := (it 0 = c p - 48) ∧ (it 1 = c (p + 1) - 97) ∧ (it 2 = doS c two p) ∧ (it 3 = peS c two ex p)
theorem IT.i0 {c : Nat → Int32} {p : Nat} {two ex : Bool} {it : Nat → Int32} (h : IT c p two ex it) : it 0 = c p - 48 := h.1
theorem IT.i1 {c : Nat → Int32} {p : Nat} {two ex : Bool} {it : Nat → Int32} (h : IT c p two ex it) : it 1 = c (p + 1) - 97 := h.2.1
theorem IT.i2 {c : Nat → Int32} {p : Nat} {two ex : Bool} {it : Nat → Int32} (h : IT c p two ex it) : it 2 = doS c two p := h.2.2.1
theorem IT.i3 {c : Nat → Int32} {p : Nat} {two ex : Bool} {it : Nat → Int32} (h : IT c p two ex it) : it 3 = peS c two ex p := h.2.2.2
theorem M_r94 {P : Int32 → Int32 → (Nat → Int32) → Prop} {c it : Nat → Int32} {n p : Nat} {two ex : Bool} (h60 : n ≤ 60) (rv : RV c n p two ex) (hq : q0S two p ≤ n) (a0 : it 0 = c p - 48) (a1 : it 1 = c (p + 1) - 97) (a2 : it 2 = doS c two p)
    (h : ∀ it', IT c p two ex it' → P 1 (nI (enS two ex p)) it') : wp_X6_readsRider_94 P c (nI n) (nI (q0S two p)) it := by
  cases ex with
  | true =>
    obtain ⟨k1, k2, k3, k4⟩ := rv.ey rfl
    refine M_next0 h60 hq (fun _ => z_y k2 ?_) (fun z => absurd z (by omega))
    rw [z_s]
    refine M_sign (k := 3) h60 (by omega) (by omega) (by decide) (fun g2 d2 => ⟨z_b1, ?_⟩) (fun d2 => absurd ⟨k1, k3, k4⟩ d2)
    refine h _ ⟨?_, ?_, ?_, ?_⟩
    · rw [z_c3, z_un (by omega), z_un (by omega), z_un (by omega)]; exact a0
    · rw [z_c3, z_un (by omega), z_un (by omega), z_un (by omega)]; exact a1
    · rw [z_c3, z_un (by omega), z_un (by omega), z_un (by omega)]; exact a2
    · rw [z_c3, z_us, z_us]
      show c (q0S two p + 1) - 49 + 1 = c (q0S two p + 1) - (48 : Int32)
      rw [show (49 : Int32) = 48 + 1 from by decide, ← Int32.sub_sub, Int32.sub_add_cancel]
  | false =>
    have fin : P 1 (nI (q0S two p)) (upd it (3 : Int32).toNatClampNeg (1 : Int32)) := by
      refine h _ ⟨?_, ?_, ?_, ?_⟩
      · rw [z_c3, z_un (by omega)]; exact a0
      · rw [z_c3, z_un (by omega)]; exact a1
      · rw [z_c3, z_un (by omega)]; exact a2
      · rw [z_c3, z_us]; rfl
    exact M_next0 h60 hq (fun g => z_n (rv.en rfl g) fin) (fun _ => z_n z_120 fin)
theorem M_rider2 {P : Int32 → Int32 → (Nat → Int32) → Prop} {c it : Nat → Int32} {n p : Nat} {two ex : Bool} (h60 : n ≤ 60) (rv : RV c n p two ex)
    (h : ∀ it', IT c p two ex it' → P 1 (nI (enS two ex p)) it') : wp_X6_readsRider P c (nI n) (nI p) it := by
  have hg := rv.g2
  refine M_sign (k := 0) h60 (by omega) (by omega) (by decide) (fun g0 d0 => z_t' ?_) (fun d0 => absurd ⟨by omega, rv.d0⟩ d0)
  refine M_sign (k := 1) h60 (by omega) (by omega) (by decide) (fun g1 d1 => z_t' ?_) (fun d1 => absurd ⟨by omega, rv.d1⟩ d1)
  refine M_sign (k := 2) h60 (by omega) (by omega) (by decide) (fun g2 d2 => z_t ?_) (fun d2 => absurd ⟨by omega, rv.d2⟩ d2)
  rw [z_c2, z_us]
  have b2 := z_b d2
  have e48 : (48 : Int32).toInt = 48 := by decide
  have e57 : (57 : Int32).toInt = 57 := by decide
  rw [e48, e57] at b2
  have es := z_sub (a := c (p + 1 + 1)) (b := 48) (by omega) (by omega)
  rw [e48] at es
  have a0 : ∀ x y, upd (upd (upd it 0 (c p - 48)) 1 (c (p + 1) - 97)) 2 x 0 = c p - 48 ∧ upd (upd (upd (upd it 0 (c p - 48)) 1 (c (p + 1) - 97)) 2 x) 2 y 0 = c p - 48 := fun x y => by
    rw [z_un (by omega), z_un (by omega), z_us, z_un (by omega), z_un (by omega), z_un (by omega), z_us]; exact ⟨rfl, rfl⟩
  have a1 : ∀ x y, upd (upd (upd it 0 (c p - 48)) 1 (c (p + 1) - 97)) 2 x 1 = c (p + 1) - 97 ∧ upd (upd (upd (upd it 0 (c p - 48)) 1 (c (p + 1) - 97)) 2 x) 2 y 1 = c (p + 1) - 97 := fun x y => by
    rw [z_un (by omega), z_us, z_un (by omega), z_un (by omega), z_us]; exact ⟨rfl, rfl⟩
  cases two with
  | true =>
    obtain ⟨t1, t2, t3⟩ := rv.ty rfl
    have k' : (c (p + 1 + 1)).toInt ≠ 48 := fun z => t1 (z_eq.mpr (by rw [show p + 2 = p + 1 + 1 from rfl, z, e48]))
    refine z_n (by rw [z_le, es, z_00]; omega) ?_
    refine M_next0 h60 (by omega) (fun _ => Mw_t t3 (z_t' (M_next0 h60 (by omega) (fun _ => ?_) (fun z => absurd z (by omega))))) (fun z => absurd z (by omega))
    rw [z_s]
    refine M_r94 (two := true) h60 rv (by show p + 4 ≤ n; omega) (a0 _ _).2 (a1 _ _).2 ?_ h
    rw [z_us]; rfl
  | false =>
    have no := rv.tn rfl
    have fin : wp_X6_readsRider_94 P c (nI n) (nI (p + 1 + 1 + 1)) (upd (upd (upd it 0 (c p - 48)) 1 (c (p + 1) - 97)) 2 (c (p + 1 + 1) - 48)) := by
      refine M_r94 (two := false) h60 rv (by show p + 3 ≤ n; omega) (a0 _ 0).1 (a1 _ 0).1 ?_ h
      rw [z_us]; rfl
    by_cases k : c (p + 1 + 1) - 48 ≤ 0
    · exact z_y k fin
    · refine z_n k (M_next0 h60 (by omega) (fun g => Mw_f (fun z => no g z) (z_f' fin)) (fun _ => Mw_f (z_0le (by decide)) (z_f' fin)))
