/-! ===== stop, kerb, fullest ===== -/
def kbS (σ : StT) (b : BT) (mn : Int32) (r : Nat) : Bool := decide (rdS σ r ≤ mn) && (match b.1 r with | none => decide (mn - rdS σ r ≤ σ.se 1) | some v => decide (mn < σ.le v))
def kpS (σ : StT) (b : BT) (mn : Int32) (r : Nat) : Int32 := if kbS σ b mn r = true then σ.pe r else 0
theorem X_atKerb {P : Int32 → Prop} {σ : StT} {R : Nat} (V : SV σ R) {o : Nat → Nat} {pl : PlT} (hv : ∀ r, r < R → pl.vn r = enc ((bdS σ o R).1 r)) (hd : ∀ r, r < R → pl.rd r = rdS σ r) {r : Nat} (hr : r < R) {mn : Int32} (h : P (bI (kbS σ (bdS σ o R) mn r))) : wp_X2_isAtKerb P pl σ (nI r) mn := by
  have hR := V.hR
  have ir : vp_in (nI r) 24 := z_in (by omega) (by omega)
  refine ⟨ir, ?_⟩
  rw [z_cl (by omega), hv r hr, hd r hr]
  by_cases c : rdS σ r ≤ mn
  · refine z_y c ⟨ir, ?_⟩
    cases g : (bdS σ o R).1 r with
    | none =>
      refine Xv_f (by rw [z_is_iff (by omega)]; decide) (z_f' ⟨ir, ?_⟩)
      rw [z_c1]
      by_cases d : mn - rdS σ r ≤ σ.se 1
      · have e : kbS σ (bdS σ o R) mn r = true := by simp [kbS, g, c, d]
        rw [e] at h; exact z_n (by rw [z_lt]; rw [z_le] at d; omega) h
      · have e : kbS σ (bdS σ o R) mn r = false := by simp [kbS, g, d]
        rw [e] at h; exact z_y (by rw [z_lt]; rw [z_le] at d; omega) h
    | some v =>
      have hv8 := bdV g
      have ev : (enc (some v)).toNatClampNeg = v := z_cl (by omega)
      refine Xv_t ⟨v, hv8, rfl⟩ (z_t' ⟨z_in hv8 (by omega), ?_⟩)
      rw [ev]
      by_cases d : mn < σ.le v
      · have e : kbS σ (bdS σ o R) mn r = true := by simp [kbS, g, c, d]
        rw [e] at h; exact z_n (by rw [z_le]; rw [z_lt] at d; omega) h
      · have e : kbS σ (bdS σ o R) mn r = false := by simp [kbS, g, d]
        rw [e] at h; exact z_y (by rw [z_le]; rw [z_lt] at d; omega) h
  · have e : kbS σ (bdS σ o R) mn r = false := by simp [kbS, c]
    rw [e] at h; exact z_n c h
theorem X_kerb18 {P : Int32 → Prop} {σ : StT} {R : Nat} (V : SV σ R) {o : Nat → Nat} {pl : PlT} (hv : ∀ r, r < R → pl.vn r = enc ((bdS σ o R).1 r)) (hd : ∀ r, r < R → pl.rd r = rdS σ r) {mn : Int32} (h : P (zS (kpS σ (bdS σ o R) mn) R)) : ∃ n, wp_X5_kerb_18 P σ pl mn n 0 0 := by
  have hR := V.hR
  refine z_up (fun n k => wp_X5_kerb_18 P σ pl mn n (zS (kpS σ (bdS σ o R) mn) k) (nI k)) R (fun n => ?_) (fun n k hk ih => ?_) 0 (by omega)
  · exact z_y (by rw [V.ri, z_leN (by omega) (by omega)]; omega) h
  · refine z_n (by rw [V.ri, z_leN (by omega) (by omega)]; omega) (X_atKerb V hv hd hk ?_)
    rw [z_s]
    have e : zS (kpS σ (bdS σ o R) mn) (k + 1) = zS (kpS σ (bdS σ o R) mn) k + kpS σ (bdS σ o R) mn k := rfl
    rw [e] at ih
    cases g : kbS σ (bdS σ o R) mn k with
    | true =>
      have e2 : kpS σ (bdS σ o R) mn k = σ.pe k := if_pos g
      rw [e2] at ih
      refine z_t' ⟨z_in (by omega) (by omega), ?_⟩
      rw [z_cl (by omega)]; exact ih
    | false =>
      have e2 : kpS σ (bdS σ o R) mn k = 0 := if_neg (by rw [g]; decide)
      rw [e2, z_a0] at ih; exact z_f' ih
def fuS (pn : Nat → Int32) : Nat → Option Nat
  | 0 => none
  | k + 1 => match fuS pn k with
    | none => if (0 : Int32) < pn k then some k else none
    | some w => if pn w < pn k then some k else some w
theorem fuS_p {pn : Nat → Int32} : ∀ {k w : Nat}, fuS pn k = some w → w < k ∧ (0 : Int32) < pn w
  | 0, w, h => by simp [fuS] at h
  | k + 1, w, h => by
    have ih := fun v => @fuS_p pn k v
    rw [fuS] at h
    split at h
    · by_cases c : (0 : Int32) < pn k
      · rw [if_pos c] at h; cases h; exact ⟨by omega, c⟩
      · rw [if_neg c] at h; cases h
    · next v e =>
      have i := ih v e
      by_cases c : pn v < pn k
      · rw [if_pos c] at h; cases h
        refine ⟨by omega, ?_⟩
        have i2 := i.2
        rw [z_lt] at c i2 ⊢
        omega
      · rw [if_neg c] at h; cases h; exact ⟨by omega, i.2⟩
theorem X_fullest {P : Int32 → Prop} {pl : PlT} {pn : Nat → Int32} (hp : ∀ v, v < 8 → pl.pn v = pn v) (h : P (enc (fuS pn 8))) : wp_X5_fullest P pl := by
  suffices hh : ∃ n, ∀ x : Int32, (fuS pn 0 = none → x = 0) → (∀ w, fuS pn 0 = some w → x = pn w) → wp_X5_fullest_7 P pl n (enc (fuS pn 0)) x (nI 0) by
    obtain ⟨n, hn⟩ := hh
    exact ⟨n, hn 0 (fun _ => rfl) (fun w e => by simp [fuS] at e)⟩
  refine z_up (fun n k => ∀ x : Int32, (fuS pn k = none → x = 0) → (∀ w, fuS pn k = some w → x = pn w) → wp_X5_fullest_7 P pl n (enc (fuS pn k)) x (nI k)) 8 (fun n => ?_) (fun n k hk ih => ?_) 0 (by omega)
  · intro x _ _
    exact z_y (by decide) h
  · intro x h0 h1
    have ik : vp_in (nI k) 8 := z_in hk (by omega)
    refine z_n (by rw [show (8 : Int32) = nI 8 from rfl, z_leN (by omega) (by omega)]; omega) ⟨ik, ?_⟩
    rw [z_cl (by omega), hp k hk, z_s]
    cases e : fuS pn k with
    | none =>
      rw [h0 e]
      by_cases c : (0 : Int32) < pn k
      · have e2 : fuS pn (k + 1) = some k := by simp [fuS, e, c]
        rw [e2] at ih
        exact z_n (by rw [z_le]; rw [z_lt] at c; omega) ⟨ik, ih _ (fun a => by cases a) (fun w a => by cases a; rfl)⟩
      · have e2 : fuS pn (k + 1) = none := by simp [fuS, e, c]
        rw [e2] at ih
        exact z_y (by rw [z_le]; rw [z_lt] at c; omega) (ih _ (fun _ => rfl) (fun w a => by cases a))
    | some w =>
      rw [h1 w e]
      by_cases c : pn w < pn k
      · have e2 : fuS pn (k + 1) = some k := by simp [fuS, e, c]
        rw [e2] at ih
        exact z_n (by rw [z_le]; rw [z_lt] at c; omega) ⟨ik, ih _ (fun a => by cases a) (fun w a => by cases a; rfl)⟩
      · have e2 : fuS pn (k + 1) = some w := by simp [fuS, e, c]
        rw [e2] at ih
        exact z_y (by rw [z_le]; rw [z_lt] at c; omega) (ih _ (fun a => by cases a) (fun w' a => by cases a; rfl))
