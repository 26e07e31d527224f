/-! ===== what the class tells, by functions of the state ===== -/
def XR (σ : StT) (R : Nat) (pl : PlT) : Prop := ∃ o, XP σ R o pl.rd pl.vn pl.pn pl.ao pl.sr pl.sp pl.wt
noncomputable def riV (σ : StT) (b : BT) (R r : Nat) : Nat → Int32
  | 0 => σ.fl r
  | 1 => σ.ar r
  | 2 => σ.dr r
  | 3 => σ.pe r
  | 4 => rdS σ r
  | 5 => enc (b.1 r)
  | 6 => match b.1 r with | none => -106 | some v => σ.le v - rdS σ r
  | 7 => atS σ b R r
  | 8 => frS σ b R r
  | _ => match b.1 r with | none => 0 | some _ => otS σ b r R
theorem X_door {P : Int32 → (Nat → Int32) → (Nat → Int32) → (Nat → Int32) → Int32 → Prop} {σ : StT} {R : Nat} (V : SV σ R) {o : Nat → Nat} {pl : PlT} (hv : ∀ r, r < R → pl.vn r = enc ((bdS σ o R).1 r)) {w : WyT} {r : Nat} (hr : r < R) (h : ∀ ky wp mi so, P (atS σ (bdS σ o R) R r) ky wp mi so) : wp_X5_minuteAtDoor P σ pl w (nI r) := by
  have hR := V.hR
  refine ⟨z_in (by omega) (by omega), ?_⟩
  rw [z_cl (by omega), hv r hr]
  unfold atS at h
  cases g : (bdS σ o R).1 r with
  | none =>
    rw [g] at h
    exact Xv_f (by rw [z_is_iff (by omega)]; decide) (z_f (h _ _ _ _))
  | some v =>
    rw [g] at h
    have hv8 := bdV g
    refine Xv_t ⟨v, hv8, rfl⟩ (z_t (X_follow V hv hv8 (fun n ky wp mi s hm => X_key V hr (X_minuteAt V.hR s hr g (fun p hp e => ?_)))))
    rw [hm p hp, ← mm_mn V s hp, e]
    exact h _ _ _ _
theorem X_oth {P : Int32 → Prop} {σ : StT} {R : Nat} (V : SV σ R) {o : Nat → Nat} {pl : PlT} (hv : ∀ r, r < R → pl.vn r = enc ((bdS σ o R).1 r)) {r : Nat} (hr : r < R) (h0 : (bdS σ o R).1 r = none → P 0) (h1 : ∀ v, (bdS σ o R).1 r = some v → P (otS σ (bdS σ o R) r R)) : wp_X2_othersAtStop P pl σ (nI r) := by
  have hR := V.hR
  cases g : (bdS σ o R).1 r with
  | none =>
    refine ⟨z_in (by omega) (by omega), ?_⟩
    rw [z_cl (by omega), hv r hr, g]
    exact z_y' rfl (h0 g)
  | some v => exact X_others V hv hr g (h1 v g)
theorem X_rid0 {P : Int32 → (Nat → Int32) → (Nat → Int32) → (Nat → Int32) → Int32 → Prop} {σ : StT} {R : Nat} (V : SV σ R) {o : Nat → Nat} {pl : PlT} (X : XP σ R o pl.rd pl.vn pl.pn pl.ao pl.sr pl.sp pl.wt) {w : WyT} {r : Nat} (hr : r < R) (cr : (nI r).toNatClampNeg = r) (ir : vp_in (nI r) 24) : ∀ (j : Nat), j < 10 → (∀ ky wp mi so, P (riV σ (bdS σ o R) R r j) ky wp mi so) → wp_X5_rider P σ pl w (nI r) (nI j)
  | 0, _, h => Xr_t V ⟨r, hr, rfl⟩ (z_t ⟨fun _ => ⟨ir, by rw [cr]; exact h _ _ _ _⟩, fun e => absurd e (by decide), fun e => absurd e (by decide), fun e => absurd e (by decide), fun e => absurd e (by decide), fun e => absurd e (by decide), fun e => absurd e (by decide), fun e => absurd e (by decide), fun e => absurd e (by decide), fun e => absurd e (by decide), fun e => absurd rfl e.1⟩)
  | 1, _, h => Xr_t V ⟨r, hr, rfl⟩ (z_t ⟨fun e => absurd e (by decide), fun _ => ⟨ir, by rw [cr]; exact h _ _ _ _⟩, fun e => absurd e (by decide), fun e => absurd e (by decide), fun e => absurd e (by decide), fun e => absurd e (by decide), fun e => absurd e (by decide), fun e => absurd e (by decide), fun e => absurd e (by decide), fun e => absurd e (by decide), fun e => absurd rfl e.2.1⟩)
  | 2, _, h => Xr_t V ⟨r, hr, rfl⟩ (z_t ⟨fun e => absurd e (by decide), fun e => absurd e (by decide), fun _ => ⟨ir, by rw [cr]; exact h _ _ _ _⟩, fun e => absurd e (by decide), fun e => absurd e (by decide), fun e => absurd e (by decide), fun e => absurd e (by decide), fun e => absurd e (by decide), fun e => absurd e (by decide), fun e => absurd e (by decide), fun e => absurd rfl e.2.2.1⟩)
  | 3, _, h => Xr_t V ⟨r, hr, rfl⟩ (z_t ⟨fun e => absurd e (by decide), fun e => absurd e (by decide), fun e => absurd e (by decide), fun _ => ⟨ir, by rw [cr]; exact h _ _ _ _⟩, fun e => absurd e (by decide), fun e => absurd e (by decide), fun e => absurd e (by decide), fun e => absurd e (by decide), fun e => absurd e (by decide), fun e => absurd e (by decide), fun e => absurd rfl e.2.2.2.1⟩)
  | 4, _, h => Xr_t V ⟨r, hr, rfl⟩ (z_t ⟨fun e => absurd e (by decide), fun e => absurd e (by decide), fun e => absurd e (by decide), fun e => absurd e (by decide), fun _ => X_rr V hr (h _ _ _ _), fun e => absurd e (by decide), fun e => absurd e (by decide), fun e => absurd e (by decide), fun e => absurd e (by decide), fun e => absurd e (by decide), fun e => absurd rfl e.2.2.2.2.1⟩)
  | 5, _, h => Xr_t V ⟨r, hr, rfl⟩ (z_t ⟨fun e => absurd e (by decide), fun e => absurd e (by decide), fun e => absurd e (by decide), fun e => absurd e (by decide), fun e => absurd e (by decide), fun _ => ⟨ir, by rw [cr, X.vn r hr]; exact h _ _ _ _⟩, fun e => absurd e (by decide), fun e => absurd e (by decide), fun e => absurd e (by decide), fun e => absurd e (by decide), fun e => absurd rfl e.2.2.2.2.2.1⟩)
  | 6, _, h => Xr_t V ⟨r, hr, rfl⟩ (z_t ⟨fun e => absurd e (by decide), fun e => absurd e (by decide), fun e => absurd e (by decide), fun e => absurd e (by decide), fun e => absurd e (by decide), fun e => absurd e (by decide), fun _ => X_wait V X.vn X.rd hr (fun g => by have h := h w.ky w.wp w.mi w.so; unfold riV at h; rw [g] at h; exact h) (fun v g => by have h := h w.ky w.wp w.mi w.so; unfold riV at h; rw [g] at h; exact h), fun e => absurd e (by decide), fun e => absurd e (by decide), fun e => absurd e (by decide), fun e => absurd rfl e.2.2.2.2.2.2.1⟩)
  | 7, _, h => Xr_t V ⟨r, hr, rfl⟩ (z_t ⟨fun e => absurd e (by decide), fun e => absurd e (by decide), fun e => absurd e (by decide), fun e => absurd e (by decide), fun e => absurd e (by decide), fun e => absurd e (by decide), fun e => absurd e (by decide), fun _ => X_door V X.vn hr h, fun e => absurd e (by decide), fun e => absurd e (by decide), fun e => absurd rfl e.2.2.2.2.2.2.2.1⟩)
  | 8, _, h => Xr_t V ⟨r, hr, rfl⟩ (z_t ⟨fun e => absurd e (by decide), fun e => absurd e (by decide), fun e => absurd e (by decide), fun e => absurd e (by decide), fun e => absurd e (by decide), fun e => absurd e (by decide), fun e => absurd e (by decide), fun e => absurd e (by decide), fun _ => X_fare V X.vn hr (h _ _ _ _), fun e => absurd e (by decide), fun e => absurd rfl e.2.2.2.2.2.2.2.2.1⟩)
  | 9, _, h => Xr_t V ⟨r, hr, rfl⟩ (z_t ⟨fun e => absurd e (by decide), fun e => absurd e (by decide), fun e => absurd e (by decide), fun e => absurd e (by decide), fun e => absurd e (by decide), fun e => absurd e (by decide), fun e => absurd e (by decide), fun e => absurd e (by decide), fun e => absurd e (by decide), fun _ => X_oth V X.vn hr (fun g => by have h := h w.ky w.wp w.mi w.so; unfold riV at h; rw [g] at h; exact h) (fun v g => by have h := h w.ky w.wp w.mi w.so; unfold riV at h; rw [g] at h; exact h), fun e => absurd rfl e.2.2.2.2.2.2.2.2.2⟩)
  | j + 10, hj, _ => absurd hj (by omega)
theorem X_rid {P : Int32 → (Nat → Int32) → (Nat → Int32) → (Nat → Int32) → Int32 → Prop} {σ : StT} {R : Nat} (V : SV σ R) {pl : PlT} (hx : XR σ R pl) {w : WyT} {r : Nat} (hr : r < R) {x : Int32} (j : Nat) (ex : x = nI j) (hj : j < 10) (h : ∀ ky wp mi so, P (riV σ (BD σ R) R r j) ky wp mi so) : wp_X5_rider P σ pl w (nI r) x := by
  subst ex
  obtain ⟨o, X⟩ := hx
  have hR := V.hR
  rw [BD_eq X.ord] at h
  exact X_rid0 V X hr (z_cl (by omega)) (z_in (by omega) (by omega)) j hj h
noncomputable def riA (σ : StT) (b : BT) (R r j : Nat) : Int32 := if r < R then riV σ b R r j else -101
theorem X_ridA {P : Int32 → (Nat → Int32) → (Nat → Int32) → (Nat → Int32) → Int32 → Prop} {σ : StT} {R : Nat} (V : SV σ R) {pl : PlT} (hx : XR σ R pl) {w : WyT} {r : Nat} (hr : r < 24) {x : Int32} (j : Nat) (ex : x = nI j) (hj : j < 10) (h : ∀ ky wp mi so, P (riA σ (BD σ R) R r j) ky wp mi so) : wp_X5_rider P σ pl w (nI r) x := by
  have hR := V.hR
  unfold riA at h
  by_cases c : r < R
  · rw [if_pos c] at h
    exact X_rid V hx c j ex hj h
  · rw [if_neg c] at h
    exact Xr_f V (fun ⟨i, hi, e⟩ => c (by rw [z_eqN (by omega) (by omega)] at e; omega)) (z_f (h _ _ _ _))
theorem not_is {n N : Nat} (h : N ≤ n) (hn : n < 2147483648) : ¬ z_is (nI n) N := fun ⟨i, hi, e⟩ => by
  rw [z_eqN (by omega) (by omega)] at e
  omega
noncomputable def cnV (σ : StT) (b : BT) (R : Nat) : Nat → Int32
  | 0 => σ.se 0
  | 1 => σ.se 1
  | 2 => σ.se 2
  | 3 => σ.se 3
  | 4 => σ.se 4
  | 5 => nI R
  | 6 => zS σ.pe R
  | 7 => zS (g1 b.1) R
  | 8 => zS (g2 σ b.1) R
  | 9 => zS (g3 σ b.1) R
  | 10 => zS (frS σ b R) R
  | 11 => zS (uvS b.2.1) 8
  | 12 => zS (fun v => nI (saS σ b v (1000 : Int32) R)) 8
  | _ => laS σ b R R
theorem X_cnt0 {P : Int32 → (Nat → Int32) → (Nat → Int32) → (Nat → Int32) → Int32 → Prop} {σ : StT} {R : Nat} (V : SV σ R) {o : Nat → Nat} {pl : PlT} (X : XP σ R o pl.rd pl.vn pl.pn pl.ao pl.sr pl.sp pl.wt) {w : WyT} {pad : PdT} {his : HiT} : ∀ (k : Nat), k < 14 → (∀ ky wp mi so, P (cnV σ (bdS σ o R) R k) ky wp mi so) → wp_X5_count P σ pl w pad his (nI k)
  | 0, _, h => z_in_t 4 (by omega) ⟨0, by omega, rfl⟩ (z_t' ⟨z_in (by omega) (by omega), h _ _ _ _⟩)
  | 1, _, h => z_in_t 4 (by omega) ⟨1, by omega, rfl⟩ (z_t' ⟨z_in (by omega) (by omega), h _ _ _ _⟩)
  | 2, _, h => z_in_t 4 (by omega) ⟨2, by omega, rfl⟩ (z_t' ⟨z_in (by omega) (by omega), h _ _ _ _⟩)
  | 3, _, h => z_in_t 4 (by omega) ⟨3, by omega, rfl⟩ (z_t' ⟨z_in (by omega) (by omega), h _ _ _ _⟩)
  | 4, _, h => z_in_t 4 (by omega) ⟨4, by omega, rfl⟩ (z_t' ⟨z_in (by omega) (by omega), h _ _ _ _⟩)
  | 5, _, h => z_in_f 4 (by omega) (not_is (by omega) (by omega)) (z_f' ⟨(fun _ => by rw [V.ri]; exact h _ _ _ _), fun e => absurd e (by decide), fun e => absurd e (by decide), fun e => absurd e (by decide), fun e => absurd e (by decide), fun e => absurd e (by decide), fun e => absurd e (by decide), fun e => absurd e (by decide), fun e => absurd e (by decide), fun e => absurd e (by decide), fun e => absurd e (by decide), fun e => absurd rfl e.1⟩)
  | 6, _, h => z_in_f 4 (by omega) (not_is (by omega) (by omega)) (z_f' ⟨fun e => absurd e (by decide), (fun _ => X_allPeople V (h _ _ _ _)), fun e => absurd e (by decide), fun e => absurd e (by decide), fun e => absurd e (by decide), fun e => absurd e (by decide), fun e => absurd e (by decide), fun e => absurd e (by decide), fun e => absurd e (by decide), fun e => absurd e (by decide), fun e => absurd e (by decide), fun e => absurd rfl e.2.1⟩)
  | 7, _, h => z_in_f 4 (by omega) (not_is (by omega) (by omega)) (z_f' ⟨fun e => absurd e (by decide), fun e => absurd e (by decide), (fun _ => by rw [X.sr]; exact h _ _ _ _), fun e => absurd e (by decide), fun e => absurd e (by decide), fun e => absurd e (by decide), fun e => absurd e (by decide), fun e => absurd e (by decide), fun e => absurd e (by decide), fun e => absurd e (by decide), fun e => absurd e (by decide), fun e => absurd rfl e.2.2.1⟩)
  | 8, _, h => z_in_f 4 (by omega) (not_is (by omega) (by omega)) (z_f' ⟨fun e => absurd e (by decide), fun e => absurd e (by decide), fun e => absurd e (by decide), (fun _ => by rw [X.sp]; exact h _ _ _ _), fun e => absurd e (by decide), fun e => absurd e (by decide), fun e => absurd e (by decide), fun e => absurd e (by decide), fun e => absurd e (by decide), fun e => absurd e (by decide), fun e => absurd e (by decide), fun e => absurd rfl e.2.2.2.1⟩)
  | 9, _, h => z_in_f 4 (by omega) (not_is (by omega) (by omega)) (z_f' ⟨fun e => absurd e (by decide), fun e => absurd e (by decide), fun e => absurd e (by decide), fun e => absurd e (by decide), (fun _ => by rw [X.wt]; exact h _ _ _ _), fun e => absurd e (by decide), fun e => absurd e (by decide), fun e => absurd e (by decide), fun e => absurd e (by decide), fun e => absurd e (by decide), fun e => absurd e (by decide), fun e => absurd rfl e.2.2.2.2.1⟩)
  | 10, _, h => z_in_f 4 (by omega) (not_is (by omega) (by omega)) (z_f' ⟨fun e => absurd e (by decide), fun e => absurd e (by decide), fun e => absurd e (by decide), fun e => absurd e (by decide), fun e => absurd e (by decide), (fun _ => X_allFares V X.vn (h _ _ _ _)), fun e => absurd e (by decide), fun e => absurd e (by decide), fun e => absurd e (by decide), fun e => absurd e (by decide), fun e => absurd e (by decide), fun e => absurd rfl e.2.2.2.2.2.1⟩)
  | 11, _, h => z_in_f 4 (by omega) (not_is (by omega) (by omega)) (z_f' ⟨fun e => absurd e (by decide), fun e => absurd e (by decide), fun e => absurd e (by decide), fun e => absurd e (by decide), fun e => absurd e (by decide), fun e => absurd e (by decide), (fun _ => X_used X.pn (h _ _ _ _)), fun e => absurd e (by decide), fun e => absurd e (by decide), fun e => absurd e (by decide), fun e => absurd e (by decide), fun e => absurd rfl e.2.2.2.2.2.2.1⟩)
  | 12, _, h => z_in_f 4 (by omega) (not_is (by omega) (by omega)) (z_f' ⟨fun e => absurd e (by decide), fun e => absurd e (by decide), fun e => absurd e (by decide), fun e => absurd e (by decide), fun e => absurd e (by decide), fun e => absurd e (by decide), fun e => absurd e (by decide), (fun _ => X_allStops V X.vn (fun N KY WP ky wp mi so hs => by rw [zS_congr (f := fun v => nI (N v)) (g := fun v => nI (saS σ (bdS σ o R) v (1000 : Int32) R)) (fun v hv => by show nI (N v) = nI _; rw [sa_n V (hs v hv)])]; exact h _ _ _ _)), fun e => absurd e (by decide), fun e => absurd e (by decide), fun e => absurd e (by decide), fun e => absurd rfl e.2.2.2.2.2.2.2.1⟩)
  | 13, _, h => z_in_f 4 (by omega) (not_is (by omega) (by omega)) (z_f' ⟨fun e => absurd e (by decide), fun e => absurd e (by decide), fun e => absurd e (by decide), fun e => absurd e (by decide), fun e => absurd e (by decide), fun e => absurd e (by decide), fun e => absurd e (by decide), fun e => absurd e (by decide), (fun _ => X_lastAt V X.vn (fun N KY WP ky wp mi so hs => by rw [ls_la V (fun _ _ g => bdV g) hs]; exact h _ _ _ _)), fun e => absurd e (by decide), fun e => absurd e (by decide), fun e => absurd rfl e.2.2.2.2.2.2.2.2.1⟩)
  | j + 14, hj, _ => absurd hj (by omega)
theorem X_cnt {P : Int32 → (Nat → Int32) → (Nat → Int32) → (Nat → Int32) → Int32 → Prop} {σ : StT} {R : Nat} (V : SV σ R) {pl : PlT} (hx : XR σ R pl) {w : WyT} {pad : PdT} {his : HiT} {x : Int32} (k : Nat) (ex : x = nI k) (hk : k < 14) (h : ∀ ky wp mi so, P (cnV σ (BD σ R) R k) ky wp mi so) : wp_X5_count P σ pl w pad his x := by
  subst ex
  obtain ⟨o, X⟩ := hx
  rw [BD_eq X.ord] at h
  exact X_cnt0 V X k hk h
/-! ===== a van and its stops ===== -/
noncomputable def lkS (σ : StT) (b : BT) (van : Nat) : Nat → Int32
  | 0 => -1
  | k + 1 => @ite _ (b.1 k = some van ∧ lkS σ b van k < kyS σ k) (Classical.propDecidable _) (kyS σ k) (lkS σ b van k)
theorem lk_max {σ : StT} {R : Nat} (V : SV σ R) {b : BT} {van : Nat} : ∀ k, k ≤ R → (lkS σ b van k = -1 ∧ ∀ r, r < k → ¬ b.1 r = some van) ∨ ((∃ r, r < k ∧ b.1 r = some van ∧ kyS σ r = lkS σ b van k) ∧ ∀ r, r < k → b.1 r = some van → (kyS σ r).toInt ≤ (lkS σ b van k).toInt)
  | 0, _ => Or.inl ⟨rfl, fun r h => absurd h (by omega)⟩
  | k + 1, hk => by
    have ih := lk_max V (b := b) (van := van) k (by omega)
    obtain ⟨x, hx, ex⟩ := key_is V (r := k) (by omega)
    have e1 : (-1 : Int32).toInt = -1 := by decide
    have ek : (kyS σ k).toInt = x := by rw [ex, z_nI (by omega)]
    rw [lkS]
    by_cases c : b.1 k = some van ∧ lkS σ b van k < kyS σ k
    · rw [if_pos c]
      have c2 := z_lt.mp c.2
      refine Or.inr ⟨⟨k, by omega, c.1, rfl⟩, fun r hr hb => ?_⟩
      by_cases d : r = k
      · subst d; exact Int.le_refl _
      · rcases ih with ⟨h1, h2⟩ | ⟨h1, h2⟩
        · exact absurd hb (h2 r (by omega))
        · have := h2 r (by omega) hb; omega
    · rw [if_neg c]
      by_cases d : b.1 k = some van
      · have c2 : ¬ lkS σ b van k < kyS σ k := fun g => c ⟨d, g⟩
        rw [z_lt] at c2
        rcases ih with ⟨h1, h2⟩ | ⟨⟨r0, a1, a2, a3⟩, h2⟩
        · rw [h1, e1] at c2; omega
        · refine Or.inr ⟨⟨r0, by omega, a2, a3⟩, fun r hr hb => ?_⟩
          by_cases f : r = k
          · subst f; omega
          · exact h2 r (by omega) hb
      · rcases ih with ⟨h1, h2⟩ | ⟨⟨r0, a1, a2, a3⟩, h2⟩
        · refine Or.inl ⟨h1, fun r hr => ?_⟩
          by_cases f : r = k
          · subst f; exact d
          · exact h2 r (by omega)
        · refine Or.inr ⟨⟨r0, by omega, a2, a3⟩, fun r hr hb => ?_⟩
          by_cases f : r = k
          · subst f; exact absurd hb d
          · exact h2 r (by omega) hb
theorem lk_ky {σ : StT} {R : Nat} (V : SV σ R) {b : BT} {van n : Nat} {ky wp : Nat → Int32} (s : ST σ b van R (n + 1) ky wp) : lkS σ b van R = ky n := by
  obtain ⟨r, hr, hb, e⟩ := s.mem n (by omega)
  rcases lk_max V (b := b) (van := van) R (Nat.le_refl _) with ⟨h1, h2⟩ | ⟨⟨r0, a1, a2, a3⟩, h2⟩
  · exact absurd hb (h2 r hr)
  · obtain ⟨j, hj, ej⟩ := s.all r0 a1 a2
    have i1 := h2 r hr hb
    rw [e] at i1
    rw [← a3, ← ej]
    rw [← a3, ← ej] at i1
    by_cases c : j = n
    · rw [c]
    · have := s.inc j n (by omega) (by omega); omega
noncomputable def skS (σ : StT) (b : BT) (R van p : Nat) : Nat → Int32
  | 0 => -1
  | k + 1 => @ite _ (b.1 k = some van ∧ saS σ b van (kyS σ k) R = p) (Classical.propDecidable _) (kyS σ k) (skS σ b R van p k)
theorem sk_ky {σ : StT} {R : Nat} {b : BT} {van n : Nat} {ky wp : Nat → Int32} (s : ST σ b van R n ky wp) {p : Nat} (hp : p < n) : skS σ b R van p R = ky p := by
  have main : ∀ k, k ≤ R → (skS σ b R van p k = ky p) ∨ (∀ r, r < k → ¬ (b.1 r = some van ∧ saS σ b van (kyS σ r) R = p)) := by
    intro k
    induction k with
    | zero => intro _; exact Or.inr (fun r h => absurd h (by omega))
    | succ k ih =>
      intro hk
      rw [skS]
      by_cases c : b.1 k = some van ∧ saS σ b van (kyS σ k) R = p
      · rw [if_pos c]
        obtain ⟨j, hj, ej⟩ := s.all k (by omega) c.1
        have h := c.2
        rw [← ej, sa_p s hj] at h
        rw [← ej, h]
        exact Or.inl rfl
      · rw [if_neg c]
        rcases ih (by omega) with h | h
        · exact Or.inl h
        · refine Or.inr (fun r hr => ?_)
          by_cases d : r = k
          · subst d; exact c
          · exact h r (by omega)
  rcases main R (Nat.le_refl _) with h | h
  · exact h
  · obtain ⟨r, hr, hb, e⟩ := s.mem p hp
    exact absurd ⟨hb, by rw [e]; exact sa_p s hp⟩ (h r hr)
noncomputable def vaV (σ : StT) (b : BT) (R v : Nat) : Nat → Int32
  | 0 => σ.le v
  | 1 => σ.sa v
  | 2 => b.2.1 v
  | 3 => riS b v R
  | 4 => b.2.2 v
  | 5 => nI (saS σ b v (1000 : Int32) R)
  | 6 => if saS σ b v (1000 : Int32) R = 0 then -106 else mmS σ b R v (lkS σ b v R)
  | _ => if saS σ b v (1000 : Int32) R = 0 then 0 else σ.se 3 + σ.se 4 * nI (saS σ b v (1000 : Int32) R)
theorem X_lastM {P : Int32 → Prop} {σ : StT} {R : Nat} (V : SV σ R) {b : BT} {v n : Nat} (hv : v < 8) {ky wp mi : Nat → Int32} (s : ST σ b v R n ky wp) (hm : ∀ j, j < n → mi j = mnS (σ.le v) ky j) (h : P (vaV σ b R v 6)) : wp_X4_lastMinute P (mkWy ky wp mi (nI n)) := by
  have hR := V.hR
  have hn := s.le
  unfold vaV at h
  rw [sa_n V s] at h
  show (nI n ≤ 0 → _) ∧ (¬ nI n ≤ 0 → vp_in (nI n - (1 : Int32)) 24 ∧ P (mi (nI n - (1 : Int32)).toNatClampNeg))
  cases n with
  | zero => exact z_y (by decide) h
  | succ n =>
    rw [if_neg (by omega), lk_ky V s, mm_mn V s (by omega), ← hm n (by omega)] at h
    refine z_n (by rw [show (0 : Int32) = nI 0 from rfl, z_leN (by omega) (by omega)]; omega) ?_
    rw [z_p, z_cl (by omega)]
    exact ⟨z_in (by omega) (by omega), h⟩
theorem X_van0 {P : Int32 → (Nat → Int32) → (Nat → Int32) → (Nat → Int32) → Int32 → Prop} {σ : StT} {R : Nat} (V : SV σ R) {o : Nat → Nat} {pl : PlT} (X : XP σ R o pl.rd pl.vn pl.pn pl.ao pl.sr pl.sp pl.wt) {w : WyT} {v : Nat} (hv : v < 8) (cv : (nI v).toNatClampNeg = v) (iv : vp_in (nI v) 8) : ∀ (j : Nat), j < 8 → (∀ ky wp mi so, P (vaV σ (bdS σ o R) R v j) ky wp mi so) → wp_X5_vanOf P σ pl w (nI v) (nI j)
  | 0, _, h => Xv_t ⟨v, hv, rfl⟩ (z_t (X_follow V X.vn hv (fun n ky wp mi s hm => ⟨fun _ => ⟨iv, by rw [cv]; exact h _ _ _ _⟩, fun e => absurd e (by decide), fun e => absurd e (by decide), fun e => absurd e (by decide), fun e => absurd e (by decide), fun e => absurd e (by decide), fun e => absurd e (by decide), fun e => absurd e (by decide), fun e => absurd rfl e.1⟩)))
  | 1, _, h => Xv_t ⟨v, hv, rfl⟩ (z_t (X_follow V X.vn hv (fun n ky wp mi s hm => ⟨fun e => absurd e (by decide), fun _ => ⟨iv, by rw [cv]; exact h _ _ _ _⟩, fun e => absurd e (by decide), fun e => absurd e (by decide), fun e => absurd e (by decide), fun e => absurd e (by decide), fun e => absurd e (by decide), fun e => absurd e (by decide), fun e => absurd rfl e.2.1⟩)))
  | 2, _, h => Xv_t ⟨v, hv, rfl⟩ (z_t (X_follow V X.vn hv (fun n ky wp mi s hm => ⟨fun e => absurd e (by decide), fun e => absurd e (by decide), fun _ => ⟨iv, by rw [cv, X.pn v hv]; exact h _ _ _ _⟩, fun e => absurd e (by decide), fun e => absurd e (by decide), fun e => absurd e (by decide), fun e => absurd e (by decide), fun e => absurd e (by decide), fun e => absurd rfl e.2.2.1⟩)))
  | 3, _, h => Xv_t ⟨v, hv, rfl⟩ (z_t (X_follow V X.vn hv (fun n ky wp mi s hm => ⟨fun e => absurd e (by decide), fun e => absurd e (by decide), fun e => absurd e (by decide), fun _ => X_riders V X.vn hv (h _ _ _ _), fun e => absurd e (by decide), fun e => absurd e (by decide), fun e => absurd e (by decide), fun e => absurd e (by decide), fun e => absurd rfl e.2.2.2.1⟩)))
  | 4, _, h => Xv_t ⟨v, hv, rfl⟩ (z_t (X_follow V X.vn hv (fun n ky wp mi s hm => ⟨fun e => absurd e (by decide), fun e => absurd e (by decide), fun e => absurd e (by decide), fun e => absurd e (by decide), fun _ => ⟨iv, by rw [cv, X.ao v hv]; exact h _ _ _ _⟩, fun e => absurd e (by decide), fun e => absurd e (by decide), fun e => absurd e (by decide), fun e => absurd rfl e.2.2.2.2.1⟩)))
  | 5, _, h => Xv_t ⟨v, hv, rfl⟩ (z_t (X_follow V X.vn hv (fun n ky wp mi s hm => ⟨fun e => absurd e (by decide), fun e => absurd e (by decide), fun e => absurd e (by decide), fun e => absurd e (by decide), fun e => absurd e (by decide), fun _ => by rw [← sa_n V s]; exact h _ _ _ _, fun e => absurd e (by decide), fun e => absurd e (by decide), fun e => absurd rfl e.2.2.2.2.2.1⟩)))
  | 6, _, h => Xv_t ⟨v, hv, rfl⟩ (z_t (X_follow V X.vn hv (fun n ky wp mi s hm => ⟨fun e => absurd e (by decide), fun e => absurd e (by decide), fun e => absurd e (by decide), fun e => absurd e (by decide), fun e => absurd e (by decide), fun e => absurd e (by decide), fun _ => X_lastM V hv s hm (h _ _ _ _), fun e => absurd e (by decide), fun e => absurd rfl e.2.2.2.2.2.2.1⟩)))
  | 7, _, h => Xv_t ⟨v, hv, rfl⟩ (z_t (X_follow V X.vn hv (fun n ky wp mi s hm => ⟨fun e => absurd e (by decide), fun e => absurd e (by decide), fun e => absurd e (by decide), fun e => absurd e (by decide), fun e => absurd e (by decide), fun e => absurd e (by decide), fun e => absurd e (by decide), fun _ => X_fares V X.vn hv (by rw [fv_sum V s]; have h := h ky wp mi (nI n); unfold vaV at h; rw [sa_n V s] at h; exact h), fun e => absurd rfl e.2.2.2.2.2.2.2⟩)))
  | j + 8, hj, _ => absurd hj (by omega)
theorem X_vn {P : Int32 → (Nat → Int32) → (Nat → Int32) → (Nat → Int32) → Int32 → Prop} {σ : StT} {R : Nat} (V : SV σ R) {pl : PlT} (hx : XR σ R pl) {w : WyT} {v : Nat} (hv : v < 8) {x : Int32} (j : Nat) (ex : x = nI j) (hj : j < 8) (h : ∀ ky wp mi so, P (vaV σ (BD σ R) R v j) ky wp mi so) : wp_X5_vanOf P σ pl w (nI v) x := by
  subst ex
  obtain ⟨o, X⟩ := hx
  rw [BD_eq X.ord] at h
  exact X_van0 V X hv (z_cl (by omega)) (z_in hv (by omega)) j hj h
noncomputable def stV (σ : StT) (b : BT) (R v p : Nat) : Nat → Int32
  | 0 => skS σ b R v p R / (100 : Int32)
  | 1 => skS σ b R v p R - skS σ b R v p R / (100 : Int32) * (100 : Int32)
  | 2 => mmS σ b R v (skS σ b R v p R)
  | 3 => zS (goS σ b v (skS σ b R v p R)) R
  | _ => -102
theorem X_st0 {P : Int32 → (Nat → Int32) → (Nat → Int32) → (Nat → Int32) → Int32 → Prop} {σ : StT} {R : Nat} (V : SV σ R) {b : BT} {v n p : Nat} {ky wp mi : Nat → Int32} (s : ST σ b v R n ky wp) (hm : ∀ j, j < n → mi j = mnS (σ.le v) ky j) (hp : p < n) (cp : (nI p).toNatClampNeg = p) (ip : vp_in (nI p) 24) : ∀ (j : Nat), j < 5 → (∀ ky wp mi so, P (stV σ b R v p j) ky wp mi so) →
    ((nI j = 0 → vp_in (nI p) 24 ∧ wp_X3_areaOfStop (fun r => P r ky wp mi (nI n)) (ky (nI p).toNatClampNeg)) ∧ (nI j = 1 → vp_in (nI p) 24 ∧ wp_X3_doorOfStop (fun r => P r ky wp mi (nI n)) (ky (nI p).toNatClampNeg)) ∧ (nI j = 2 → vp_in (nI p) 24 ∧ P (mi (nI p).toNatClampNeg) ky wp mi (nI n)) ∧ (nI j = 3 → vp_in (nI p) 24 ∧ P (wp (nI p).toNatClampNeg) ky wp mi (nI n)) ∧ ((¬ nI j = 0 ∧ ¬ nI j = 1 ∧ ¬ nI j = 2 ∧ ¬ nI j = 3) → P (-102 : Int32) ky wp mi (nI n)))
  | 0, _, h => ⟨fun _ => ⟨ip, by unfold wp_X3_areaOfStop; rw [cp, ← sk_ky s hp]; exact h _ _ _ _⟩, fun e => absurd e (by decide), fun e => absurd e (by decide), fun e => absurd e (by decide), fun e => absurd rfl e.1⟩
  | 1, _, h => ⟨fun e => absurd e (by decide), fun _ => ⟨ip, by unfold wp_X3_doorOfStop; rw [cp, ← sk_ky s hp]; exact h _ _ _ _⟩, fun e => absurd e (by decide), fun e => absurd e (by decide), fun e => absurd rfl e.2.1⟩
  | 2, _, h => ⟨fun e => absurd e (by decide), fun e => absurd e (by decide), fun _ => ⟨ip, by rw [cp, hm p hp, ← mm_mn V s hp, ← sk_ky s hp]; exact h _ _ _ _⟩, fun e => absurd e (by decide), fun e => absurd rfl e.2.2.1⟩
  | 3, _, h => ⟨fun e => absurd e (by decide), fun e => absurd e (by decide), fun e => absurd e (by decide), fun _ => ⟨ip, by rw [cp, s.wpc p hp, ← sk_ky s hp]; exact h _ _ _ _⟩, fun e => absurd rfl e.2.2.2⟩
  | 4, _, h => ⟨fun e => absurd e (by decide), fun e => absurd e (by decide), fun e => absurd e (by decide), fun e => absurd e (by decide), fun _ => h _ _ _ _⟩
  | j + 5, hj, _ => absurd hj (by omega)
theorem X_stp {P : Int32 → (Nat → Int32) → (Nat → Int32) → (Nat → Int32) → Int32 → Prop} {σ : StT} {R : Nat} (V : SV σ R) {pl : PlT} (hx : XR σ R pl) {w : WyT} {v p : Nat} (hv : v < 8) (hp : p < 24) {x : Int32} (j : Nat) (ex : x = nI j) (hj : j < 5) (h0 : saS σ (BD σ R) v (1000 : Int32) R ≤ p → ∀ ky wp mi so, P (-101 : Int32) ky wp mi so) (h : p < saS σ (BD σ R) v (1000 : Int32) R → ∀ ky wp mi so, P (stV σ (BD σ R) R v p j) ky wp mi so) : wp_X5_stop P σ pl w (nI v) (nI p) x := by
  subst ex
  obtain ⟨o, X⟩ := hx
  have hR := V.hR
  rw [BD_eq X.ord] at h h0
  refine Xv_t ⟨v, hv, rfl⟩ (z_t (X_follow V X.vn hv (fun n ky wp mi s hm => ?_)))
  have hn := s.le
  rw [sa_n V s] at h h0
  by_cases c : p < n
  · exact z_r_t (by omega) ⟨p, c, rfl⟩ (z_t (X_st0 V s hm c (z_cl (by omega)) (z_in (by omega) (by omega)) j hj (h c)))
  · exact z_r_f (by omega) (not_is (by omega) (by omega)) (z_f (h0 (by omega) _ _ _ _))
/-! ===== a flight, the kerb, the fullest van ===== -/
def flV (σ : StT) (b : BT) (R f : Nat) : Nat → Int32
  | 0 => σ.la f
  | 1 => σ.de f
  | 2 => (σ.la f + σ.de f) + σ.se 0
  | 3 => zS (poS σ b f false) R
  | _ => zS (poS σ b f true) R
theorem X_fl0 {P : Int32 → Prop} {σ : StT} {R : Nat} (V : SV σ R) {o : Nat → Nat} {pl : PlT} (X : XP σ R o pl.rd pl.vn pl.pn pl.ao pl.sr pl.sp pl.wt) {f : Nat} (hf : f < 6) (cv : (nI f).toNatClampNeg = f) (iv : vp_in (nI f) 6) : ∀ (j : Nat), j < 5 → P (flV σ (bdS σ o R) R f j) → wp_X5_flight P σ pl (nI f) (nI j)
  | 0, _, h => Xf_t ⟨f, hf, rfl⟩ (z_t ⟨fun _ => ⟨iv, by rw [cv]; exact h⟩, fun e => absurd e (by decide), fun e => absurd e (by decide), fun e => absurd e (by decide), fun e => absurd e (by decide), fun e => absurd rfl e.1⟩)
  | 1, _, h => Xf_t ⟨f, hf, rfl⟩ (z_t ⟨fun e => absurd e (by decide), fun _ => ⟨iv, by rw [cv]; exact h⟩, fun e => absurd e (by decide), fun e => absurd e (by decide), fun e => absurd e (by decide), fun e => absurd rfl e.2.1⟩)
  | 2, _, h => Xf_t ⟨f, hf, rfl⟩ (z_t ⟨fun e => absurd e (by decide), fun e => absurd e (by decide), fun _ => X_fr hf h, fun e => absurd e (by decide), fun e => absurd e (by decide), fun e => absurd rfl e.2.2.1⟩)
  | 3, _, h => Xf_t ⟨f, hf, rfl⟩ (z_t ⟨fun e => absurd e (by decide), fun e => absurd e (by decide), fun e => absurd e (by decide), fun _ => X_people V X.vn false h, fun e => absurd e (by decide), fun e => absurd rfl e.2.2.2.1⟩)
  | 4, _, h => Xf_t ⟨f, hf, rfl⟩ (z_t ⟨fun e => absurd e (by decide), fun e => absurd e (by decide), fun e => absurd e (by decide), fun e => absurd e (by decide), fun _ => X_people V X.vn true h, fun e => absurd rfl e.2.2.2.2⟩)
  | j + 5, hj, _ => absurd hj (by omega)
theorem X_flt {P : Int32 → Prop} {σ : StT} {R : Nat} (V : SV σ R) {pl : PlT} (hx : XR σ R pl) {f : Nat} (hf : f < 6) {x : Int32} (j : Nat) (ex : x = nI j) (hj : j < 5) (h : P (flV σ (BD σ R) R f j)) : wp_X5_flight P σ pl (nI f) x := by
  subst ex
  obtain ⟨o, X⟩ := hx
  rw [BD_eq X.ord] at h
  exact X_fl0 V X hf (z_cl (by omega)) (z_in hf (by omega)) j hj h
theorem X_krb {P : Int32 → Prop} {σ : StT} {R : Nat} (V : SV σ R) {pl : PlT} (hx : XR σ R pl) {m : Nat} (hm : m < 1800) (h : P (zS (kpS σ (BD σ R) (nI m)) R)) : wp_X5_kerb P σ pl (nI m) := by
  obtain ⟨o, X⟩ := hx
  rw [BD_eq X.ord] at h
  refine z_isIn_t ?_ ?_ (z_t (X_kerb18 V X.vn X.rd h))
  · rw [show (0 : Int32) = nI 0 from rfl, z_leN (by omega) (by omega)]; omega
  · rw [show (3000 : Int32) = nI 3000 from rfl, z_leN (by omega) (by omega)]; omega
theorem X_ful {P : Int32 → Prop} {σ : StT} {R : Nat} {pl : PlT} (hx : XR σ R pl) (h : P (enc (fuS (BD σ R).2.1 8))) : wp_X5_fullest P pl := by
  obtain ⟨o, X⟩ := hx
  rw [BD_eq X.ord] at h
  exact X_fullest X.pn h
