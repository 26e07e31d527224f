/-! ===== the reference's plan ===== -/
def MP (σ : StT) (R : Nat) (o : Nat → Nat) (Mvf : Nat → Int32) (Mlf : Nat → Int32) (Mar : Nat → Int32) : Prop := (∀ r, r < R → Mvf r = enc ((bdS σ o R).1 r)) ∧ (∀ v, v < 8 → Mlf v = σ.sa v - (bdS σ o R).2.1 v) ∧ (∀ v, v < 8 → Mar v = (bdS σ o R).2.2 v)
theorem MP.vf {σ : StT} {R : Nat} {o : Nat → Nat} {Mvf : Nat → Int32} {Mlf : Nat → Int32} {Mar : Nat → Int32} (h : MP σ R o Mvf Mlf Mar) : ∀ r, r < R → Mvf r = enc ((bdS σ o R).1 r) := h.1
theorem MP.lf {σ : StT} {R : Nat} {o : Nat → Nat} {Mvf : Nat → Int32} {Mlf : Nat → Int32} {Mar : Nat → Int32} (h : MP σ R o Mvf Mlf Mar) : ∀ v, v < 8 → Mlf v = σ.sa v - (bdS σ o R).2.1 v := h.2.1
theorem MP.ar {σ : StT} {R : Nat} {o : Nat → Nat} {Mvf : Nat → Int32} {Mlf : Nat → Int32} {Mar : Nat → Int32} (h : MP σ R o Mvf Mlf Mar) : ∀ v, v < 8 → Mar v = (bdS σ o R).2.2 v := h.2.2
/-- c is the best of those below i who are not done -/
def NxI (f : Nat → Int32) (dn : Nat → Int32) (i : Nat) (c : Option Nat) : Prop :=
  match c with
  | none => ∀ r, r < i → ¬ dn r = 0
  | some b => b < i ∧ dn b = 0 ∧ ∀ r, r < i → dn r = 0 → (f b).toInt < (f r).toInt ∨ ((f b).toInt = (f r).toInt ∧ b ≤ r)
theorem M_next {P : Int32 → Prop} {σ : StT} {R : Nat} {M Mdn : Nat → Int32} (V : SV σ R) (m : SM σ R M) {o : Nat → Nat} (ho : IsOrd (rdS σ) R o) {k : Nat} (hk : k < R) (hd : ∀ r, r < R → (Mdn r = 0 ↔ ∀ j, j < k → o j ≠ r)) (h : P (nI (o k))) : wp_X6_nextRider P M Mdn := by
  have hR := V.hR
  suffices hh : ∃ n, ∀ c, NxI (rdS σ) Mdn 0 c → wp_X6_nextRider_5 P M Mdn n (enc c) (nI 0) by
    obtain ⟨n, hn⟩ := hh
    exact ⟨n, hn none (fun r hr => absurd hr (by omega))⟩
  refine z_up (fun n i => ∀ c, NxI (rdS σ) Mdn i c → wp_X6_nextRider_5 P M Mdn n (enc c) (nI i)) R (fun n => ?_) (fun n i hi ih => ?_) 0 (by omega)
  · intro c hc
    refine z_y (by rw [z_c33, m.ri, z_leN (by omega) (by omega)]; omega) ?_
    have hok := ho.lt k hk
    have nd : Mdn (o k) = 0 := (hd _ hok).mpr (fun j hj e => by have := ho.inj (by omega) hk e; omega)
    cases c with
    | none => exact absurd nd (hc _ hok)
    | some b =>
      obtain ⟨hb, hb0, hb2⟩ := hc
      obtain ⟨j, hj, e⟩ := ho.sur b hb
      have hjk : k ≤ j := by
        rcases Nat.lt_or_ge j k with c | c
        · exact absurd e ((hd b hb).mp hb0 j c)
        · exact c
      have eb : b = o k := by
        rcases Nat.lt_or_ge k j with c | c
        · have i1 := ho.inc k j c hj
          have i2 := hb2 _ hok nd
          rw [e] at i1
          omega
        · have : j = k := by omega
          rw [← e, this]
      rw [eb]; exact h
  · intro c hc
    refine z_n (by rw [z_c33, m.ri, z_leN (by omega) (by omega)]; omega) ⟨z_in (by omega) (by omega), ?_⟩
    rw [z_cl (by omega), z_s]
    by_cases d : Mdn i = 0
    · refine z_y' d ?_
      cases c with
      | none =>
        refine z_y rfl (ih (some i) ⟨by omega, d, ?_⟩)
        intro r hr hr0
        rcases Nat.lt_or_ge r i with g | g
        · exact absurd hr0 (hc r g)
        · have : r = i := by omega
          subst this; exact Or.inr ⟨rfl, by omega⟩
      | some b =>
        obtain ⟨hb, hb0, hb2⟩ := hc
        refine z_n (z_106 b (by omega)) (M_rd V m hi (M_rd V m (by omega) ?_))
        by_cases g : rdS σ b ≤ rdS σ i
        · refine z_y g (ih (some b) ⟨by omega, hb0, ?_⟩)
          intro r hr hr0
          rcases Nat.lt_or_ge r i with g' | g'
          · exact hb2 r g' hr0
          · have : r = i := by omega
            subst this; rw [z_le] at g; omega
        · refine z_n g (ih (some i) ⟨by omega, d, ?_⟩)
          intro r hr hr0
          rw [z_le] at g
          rcases Nat.lt_or_ge r i with g' | g'
          · have := hb2 r g' hr0; omega
          · have : r = i := by omega
            subst this; exact Or.inr ⟨rfl, by omega⟩
    · refine z_n' d (ih c ?_)
      cases c with
      | none =>
        intro r hr
        rcases Nat.lt_or_ge r i with g | g
        · exact hc r g
        · have : r = i := by omega
          subst this; exact d
      | some b =>
        obtain ⟨hb, hb0, hb2⟩ := hc
        refine ⟨by omega, hb0, ?_⟩
        intro r hr hr0
        rcases Nat.lt_or_ge r i with g | g
        · exact hb2 r g hr0
        · have : r = i := by omega
          subst this; exact absurd hr0 d
theorem z_10 : ¬ (1 : Int32) = 0 := by decide
theorem M_lay59 {P : (Nat → Int32) → (Nat → Int32) → (Nat → Int32) → (Nat → Int32) → Prop} {σ : StT} {R : Nat} {M : Nat → Int32} (V : SV σ R) (m : SM σ R M) {o : Nat → Nat} (ho : IsOrd (rdS σ) R o)
    (h : ∀ Mvf Mdn Mlf Mar, MP σ R o Mvf Mlf Mar → P Mvf Mdn Mlf Mar) : ∀ d k, k + d = R → ∀ Mvf Mdn Mlf Mar : Nat → Int32, (∀ j, j < k → Mvf (o j) = enc ((bdS σ o k).1 (o j))) → (∀ r, r < R → (Mdn r = 0 ↔ ∀ j, j < k → o j ≠ r)) → (∀ v, v < 8 → Mlf v = σ.sa v - (bdS σ o k).2.1 v) → (∀ v, v < 8 → Mar v = (bdS σ o k).2.2 v) → wp_X6_lay_59 P M (d + 1) (nI k) Mvf Mdn Mlf Mar := by
  have hR := V.hR
  intro d
  induction d with
  | zero =>
    intro k hk Mvf Mdn Mlf Mar h1 h2 h3 h4
    have e : k = R := by omega
    subst e
    refine z_y (by rw [z_c33, m.ri, z_leN (by omega) (by omega)]; omega) (h _ _ _ _ ⟨?_, h3, h4⟩)
    intro r hr
    obtain ⟨j, hj, e⟩ := ho.sur r hr
    rw [← e]; exact h1 j hj
  | succ d ih =>
    intro k hk Mvf Mdn Mlf Mar h1 h2 h3 h4
    have hok := ho.lt k (by omega)
    have B := bdI V ho.lt k (by omega)
    refine z_n (by rw [z_c33, m.ri, z_leN (by omega) (by omega)]; omega) ?_
    refine M_next V m ho (by omega) h2 ?_
    refine M_fv V m hok h3 (fun v hv => (B v hv).1) h4 ?_
    refine ⟨z_in (by omega) (by omega), z_in (by omega) (by omega), ?_⟩
    rw [z_s, z_cl (by omega)]
    have hne : ∀ j, j < k → o j ≠ o k := fun j hj e => by have := ho.inj (by omega) (by omega) e; omega
    have eV : (bdS σ o (k + 1)).1 = upO (bdS σ o k).1 (o k) (fvS σ (bdS σ o k).2.1 (bdS σ o k).2.2 (o k) 8) := stS_V
    have est : bdS σ o (k + 1) = stS σ (o k) (bdS σ o k) := rfl
    have old : ∀ j, j < k → (bdS σ o (k + 1)).1 (o j) = (bdS σ o k).1 (o j) := fun j hj => by rw [eV, upO_n (hne j hj)]
    have new : (bdS σ o (k + 1)).1 (o k) = fvS σ (bdS σ o k).2.1 (bdS σ o k).2.2 (o k) 8 := by rw [eV, upO_s]
    have hvf : ∀ j, j < k + 1 → upd Mvf (o k) (enc (fvS σ (bdS σ o k).2.1 (bdS σ o k).2.2 (o k) 8)) (o j) = enc ((bdS σ o (k + 1)).1 (o j)) := by
      intro j hj
      by_cases c : j = k
      · rw [c, z_us, new]
      · rw [z_un (hne j (by omega)), old j (by omega)]; exact h1 j (by omega)
    have hdn : ∀ r, r < R → (upd Mdn (o k) (1 : Int32) r = 0 ↔ ∀ j, j < k + 1 → o j ≠ r) := by
      intro r hr
      by_cases c : r = o k
      · rw [c, z_us]
        exact ⟨fun e => absurd e z_10, fun e => absurd rfl (e k (by omega))⟩
      · rw [z_un c, h2 r hr]
        constructor
        · intro e j hj
          by_cases c2 : j = k
          · rw [c2]; exact fun e => c e.symm
          · exact e j (by omega)
        · exact fun e j hj => e j (by omega)
    cases e : fvS σ (bdS σ o k).2.1 (bdS σ o k).2.2 (o k) 8 with
    | none =>
      rw [e] at hvf
      refine z_y rfl (ih (k + 1) (by omega) _ _ _ _ hvf hdn ?_ ?_)
      · rw [est]; unfold stS; rw [e]; exact h3
      · rw [est]; unfold stS; rw [e]; exact h4
    | some w =>
      rw [e] at hvf
      have hw := (fvS_some e).1
      have iw : vp_in (enc (some w)) 8 := z_in hw (by omega)
      have ew : (enc (some w)).toNatClampNeg = w := z_cl (by omega)
      refine z_n (z_106 w (by omega)) ⟨iw, M_of3 V m hok ⟨iw, iw, M_of1 V m hok ⟨iw, ?_⟩⟩⟩
      rw [ew]
      refine ih (k + 1) (by omega) _ _ _ _ hvf hdn ?_ ?_
      · rw [est]; unfold stS; rw [e]
        intro v hv
        show upd Mlf w (Mlf w - σ.pe (o k)) v = σ.sa v - upd _ w _ v
        rw [z_upd, z_upd, h3 v hv, h3 w hw]
        split
        · next c => rw [c, Int32.sub_sub]
        · rfl
      · rw [est]; unfold stS; rw [e]
        intro v hv
        show upd Mar w (Mar w ||| _) v = upd _ w _ v
        rw [z_upd, z_upd, h4 v hv, h4 w hw]
theorem M_lay {P : (Nat → Int32) → (Nat → Int32) → (Nat → Int32) → (Nat → Int32) → Prop} {σ : StT} {R : Nat} {M Mvf0 Mdn0 Mlf0 Mar0 : Nat → Int32} (V : SV σ R) (m : SM σ R M) {o : Nat → Nat} (ho : IsOrd (rdS σ) R o)
    (h : ∀ Mvf Mdn Mlf Mar, MP σ R o Mvf Mlf Mar → P Mvf Mdn Mlf Mar) : wp_X6_lay P M Mvf0 Mdn0 Mlf0 Mar0 := by
  have hR := V.hR
  have l38 : ∀ Mlf Mar : Nat → Int32, (∀ v, v < 8 → Mlf v = σ.sa v) → (∀ v, v < 8 → Mar v = 0) → ∃ n, wp_X6_lay_38 P M Mvf0 Mlf Mar n (nI 0) Mdn0 := by
    intro Mlf Mar h1 h2
    suffices hh : ∃ n, ∀ Mdn : Nat → Int32, (∀ r, r < 0 → Mdn r = 0) → wp_X6_lay_38 P M Mvf0 Mlf Mar n (nI 0) Mdn by
      obtain ⟨n, hn⟩ := hh
      exact ⟨n, hn _ (fun r hr => absurd hr (by omega))⟩
    refine z_up (fun n k => ∀ Mdn : Nat → Int32, (∀ r, r < k → Mdn r = 0) → wp_X6_lay_38 P M Mvf0 Mlf Mar n (nI k) Mdn) 24 (fun n => ?_) (fun n k hk ih => ?_) 0 (by omega)
    · intro Mdn hd
      refine z_y (by decide) ⟨R + 1, M_lay59 V m ho h R 0 (by omega) _ _ _ _ (fun j hj => absurd hj (by omega)) (fun r hr => ?_) (fun v hv => ?_) (fun v hv => ?_)⟩
      · exact ⟨fun _ j hj => absurd hj (by omega), fun _ => hd r (by omega)⟩
      · rw [h1 v hv]; exact (z_s0 _).symm
      · exact h2 v hv
    · intro Mdn hd
      refine z_n (by rw [show (24 : Int32) = nI 24 from rfl, z_leN (by omega) (by omega)]; omega) ⟨z_in hk (by omega), ?_⟩
      rw [z_s, z_cl (by omega)]
      refine ih _ (fun r hr => ?_)
      rw [z_upd]; split
      · rfl
      · exact hd r (by omega)
  suffices hh : ∃ n, ∀ Mlf Mar : Nat → Int32, (∀ v, v < 0 → Mlf v = σ.sa v) → (∀ v, v < 0 → Mar v = 0) → wp_X6_lay_2 P M Mvf0 Mdn0 n (nI 0) Mlf Mar by
    obtain ⟨n, hn⟩ := hh
    exact ⟨n, hn _ _ (fun r hr => absurd hr (by omega)) (fun r hr => absurd hr (by omega))⟩
  refine z_up (fun n k => ∀ Mlf Mar : Nat → Int32, (∀ v, v < k → Mlf v = σ.sa v) → (∀ v, v < k → Mar v = 0) → wp_X6_lay_2 P M Mvf0 Mdn0 n (nI k) Mlf Mar) 8 (fun n => ?_) (fun n k hk ih => ?_) 0 (by omega)
  · intro Mlf Mar h1 h2
    exact z_y (by decide) (l38 Mlf Mar h1 h2)
  · intro Mlf Mar h1 h2
    have e1 : (25 : Int32) + nI k = nI (25 + k) := z_a 25 k
    refine z_n (by rw [show (8 : Int32) = nI 8 from rfl, z_leN (by omega) (by omega)]; omega) ⟨by rw [e1]; exact z_in (by omega) (by omega), z_in hk (by omega), z_in hk (by omega), ?_⟩
    rw [z_s, e1, z_cl (by omega), z_cl (by omega), m.sa k hk]
    refine ih _ _ (fun v hv => ?_) (fun v hv => ?_)
    · rw [z_upd]; split
      · next c => rw [c]
      · exact h1 v (by omega)
    · rw [z_upd]; split
      · rfl
      · exact h2 v (by omega)
