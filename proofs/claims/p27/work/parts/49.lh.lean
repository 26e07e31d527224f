/-! ===== what the law reckons is due ===== -/
theorem LQ.u_se {σ : StT} {R : Nat} {q : Nat → Int32} (h : LQ σ R q) {a : Nat} (ha : a < 5) {x : Int32} : LQ (mkSt (upd σ.se a x) σ.la σ.de σ.le σ.sa σ.fl σ.ar σ.dr σ.pe σ.ri) R (upd q a x) := by
  refine ⟨?_, ?_, ?_, ?_, ?_, ?_⟩
  · intro k hk
    show upd q a x k = upd σ.se a x k
    by_cases c : k = a
    · rw [c, z_us, z_us]
    · rw [z_un (by omega), z_un c]; exact h.se k hk
  · rw [z_un (by omega)]; exact h.ri
  · intro k hk; rw [z_un (by omega)]; exact h.la k hk
  · intro k hk; rw [z_un (by omega)]; exact h.de k hk
  · intro k hk; rw [z_un (by omega)]; exact h.le k hk
  · intro k hk; rw [z_un (by omega)]; exact h.sa k hk
theorem LQ.u_la {σ : StT} {R : Nat} {q : Nat → Int32} (h : LQ σ R q) {a : Nat} (ha : a < 6) {x : Int32} : LQ (mkSt σ.se (upd σ.la a x) σ.de σ.le σ.sa σ.fl σ.ar σ.dr σ.pe σ.ri) R (upd q (6 + a) x) := by
  refine ⟨?_, ?_, ?_, ?_, ?_, ?_⟩
  · intro k hk; rw [z_un (by omega)]; exact h.se k hk
  · rw [z_un (by omega)]; exact h.ri
  · intro k hk
    show upd q (6 + a) x (6 + k) = upd σ.la a x k
    by_cases c : k = a
    · rw [c, z_us, z_us]
    · rw [z_un (by omega), z_un c]; exact h.la k hk
  · intro k hk; rw [z_un (by omega)]; exact h.de k hk
  · intro k hk; rw [z_un (by omega)]; exact h.le k hk
  · intro k hk; rw [z_un (by omega)]; exact h.sa k hk
theorem LQ.u_de {σ : StT} {R : Nat} {q : Nat → Int32} (h : LQ σ R q) {a : Nat} (ha : a < 6) {x : Int32} : LQ (mkSt σ.se σ.la (upd σ.de a x) σ.le σ.sa σ.fl σ.ar σ.dr σ.pe σ.ri) R (upd q (12 + a) x) := by
  refine ⟨?_, ?_, ?_, ?_, ?_, ?_⟩
  · intro k hk; rw [z_un (by omega)]; exact h.se k hk
  · rw [z_un (by omega)]; exact h.ri
  · intro k hk; rw [z_un (by omega)]; exact h.la k hk
  · intro k hk
    show upd q (12 + a) x (12 + k) = upd σ.de a x k
    by_cases c : k = a
    · rw [c, z_us, z_us]
    · rw [z_un (by omega), z_un c]; exact h.de k hk
  · intro k hk; rw [z_un (by omega)]; exact h.le k hk
  · intro k hk; rw [z_un (by omega)]; exact h.sa k hk
theorem LQ.u_le {σ : StT} {R : Nat} {q : Nat → Int32} (h : LQ σ R q) {a : Nat} (ha : a < 8) {x : Int32} : LQ (mkSt σ.se σ.la σ.de (upd σ.le a x) σ.sa σ.fl σ.ar σ.dr σ.pe σ.ri) R (upd q (18 + a) x) := by
  refine ⟨?_, ?_, ?_, ?_, ?_, ?_⟩
  · intro k hk; rw [z_un (by omega)]; exact h.se k hk
  · rw [z_un (by omega)]; exact h.ri
  · intro k hk; rw [z_un (by omega)]; exact h.la k hk
  · intro k hk; rw [z_un (by omega)]; exact h.de k hk
  · intro k hk
    show upd q (18 + a) x (18 + k) = upd σ.le a x k
    by_cases c : k = a
    · rw [c, z_us, z_us]
    · rw [z_un (by omega), z_un c]; exact h.le k hk
  · intro k hk; rw [z_un (by omega)]; exact h.sa k hk
theorem LQ.u_sa {σ : StT} {R : Nat} {q : Nat → Int32} (h : LQ σ R q) {a : Nat} (ha : a < 8) {x : Int32} : LQ (mkSt σ.se σ.la σ.de σ.le (upd σ.sa a x) σ.fl σ.ar σ.dr σ.pe σ.ri) R (upd q (26 + a) x) := by
  refine ⟨?_, ?_, ?_, ?_, ?_, ?_⟩
  · intro k hk; rw [z_un (by omega)]; exact h.se k hk
  · rw [z_un (by omega)]; exact h.ri
  · intro k hk; rw [z_un (by omega)]; exact h.la k hk
  · intro k hk; rw [z_un (by omega)]; exact h.de k hk
  · intro k hk; rw [z_un (by omega)]; exact h.le k hk
  · intro k hk
    show upd q (26 + a) x (26 + k) = upd σ.sa a x k
    by_cases c : k = a
    · rw [c, z_us, z_us]
    · rw [z_un (by omega), z_un c]; exact h.sa k hk
theorem LQ.u5 {σ σ' : StT} {R R' : Nat} {q : Nat → Int32} (h : LQ σ R q) (e1 : σ'.se = σ.se) (e2 : σ'.la = σ.la) (e3 : σ'.de = σ.de) (e4 : σ'.le = σ.le) (e5 : σ'.sa = σ.sa) : LQ σ' R' (upd q 5 (nI R')) := by
  refine ⟨fun k hk => ?_, z_us, fun k hk => ?_, fun k hk => ?_, fun k hk => ?_, fun k hk => ?_⟩
  · rw [z_un (by omega), e1]; exact h.se k hk
  · rw [z_un (by omega), e2]; exact h.la k hk
  · rw [z_un (by omega), e3]; exact h.de k hk
  · rw [z_un (by omega), e4]; exact h.le k hk
  · rw [z_un (by omega), e5]; exact h.sa k hk
theorem LR.add {σ : StT} {R : Nat} {r : Nat → Int32} (h : LR σ R r) {a b c d : Nat} (hw : wdO a b c d) : LR (addS σ R (nI a) (nI b) (nI c) (nI d)) (R + 1) (upd r R (nI (wd a b c d))) := by
  intro k hk
  by_cases g : k = R
  · subst g
    exact ⟨a, b, c, d, hw, z_us, z_us, z_us, z_us, z_us⟩
  · obtain ⟨a', b', c', d', h0, h1, h2, h3, h4, h5⟩ := h k (by omega)
    exact ⟨a', b', c', d', h0, (z_un g).trans h1, (z_un g).trans h2, (z_un g).trans h3, (z_un g).trans h4, (z_un g).trans h5⟩
theorem LR.rem {σ : StT} {Q a : Nat} {r : Nat → Int32} (h : LR σ (Q + 1) r) : LR (remS σ a Q) Q (shf 1 r a Q) := by
  intro k hk
  by_cases g : a ≤ k
  · obtain ⟨a', b', c', d', h0, h1, h2, h3, h4, h5⟩ := h (k + 1) (by omega)
    exact ⟨a', b', c', d', h0, (shf_in g hk).trans h1, (shf_in g hk).trans h2, (shf_in g hk).trans h3, (shf_in g hk).trans h4, (shf_in g hk).trans h5⟩
  · obtain ⟨a', b', c', d', h0, h1, h2, h3, h4, h5⟩ := h k (by omega)
    have o : k < a ∨ Q ≤ k := Or.inl (by omega)
    exact ⟨a', b', c', d', h0, (shf_out o).trans h1, (shf_out o).trans h2, (shf_out o).trans h3, (shf_out o).trans h4, (shf_out o).trans h5⟩
theorem nI_swap (u v w : Nat) : nI (u + v) + (nI w - nI u) = nI (w + v) := by
  rw [← z_a, Int32.add_comm (nI u), Int32.add_assoc, Int32.add_comm (nI u), Int32.sub_add_cancel, z_a]
  exact congrArg nI (Nat.add_comm v w)
theorem LR.reb {σ : StT} {R a : Nat} {r : Nat → Int32} (h : LR σ R r) (ha : a < R) {b : Int32} (hb : z_is b 6) : LR (mkSt σ.se σ.la σ.de σ.le σ.sa (upd σ.fl a b) σ.ar σ.dr σ.pe σ.ri) R (upd r a (r a + (b - σ.fl a))) := by
  obtain ⟨f, hf, rfl⟩ := hb
  intro k hk
  by_cases g : k = a
  · subst g
    obtain ⟨a', b', c', d', h0, h1, h2, h3, h4, h5⟩ := h k hk
    refine ⟨f, b', c', d', ⟨hf, h0.2⟩, z_us, h2, h3, h4, ?_⟩
    rw [z_us, h5, h1]
    have e1 : wd a' b' c' d' = a' + (8 * b' + 64 * c' + 8192 * d') := by unfold wd; omega
    have e2 : wd f b' c' d' = f + (8 * b' + 64 * c' + 8192 * d') := by unfold wd; omega
    rw [e1, e2]
    exact nI_swap _ _ _
  · obtain ⟨a', b', c', d', h0, h1, h2, h3, h4, h5⟩ := h k hk
    exact ⟨a', b', c', d', h0, (z_un g).trans h1, h2, h3, h4, (z_un g).trans h5⟩
theorem encL_enc {P : Int32 → Prop} {c : Option Nat} (h8 : ∀ v, c = some v → v < 8) (h : P (enc c)) : (((0 : Int32) ≤ encL c) → P (encL c)) ∧ ((¬ (0 : Int32) ≤ encL c) → P (-106 : Int32)) := by
  cases c with
  | none => exact ⟨fun e => (encL_neg e).elim, fun _ => h⟩
  | some v =>
    have := h8 v rfl
    refine ⟨fun _ => h, fun e => absurd ?_ e⟩
    show nI 0 ≤ nI v
    rw [z_leN (by omega) (by omega)]; omega
theorem L_sum {P : Int32 → (Nat → Int32) → (Nat → Int32) → (Nat → Int32) → (Nat → Int32) → (Nat → Int32) → Prop} {σ : StT} {R : Nat} {q lr lw lo lg q0 r0 w0 o0 g0 : Nat → Int32} {x0 x1 x2 x3 x4 : Int32} (V : SV σ R) (hq : LQ σ R q) (hr : LR σ R lr) (hw : ∀ k, k < R → lw k = encL ((BD σ R).1 k)) (h : P (zS (g2 σ (BD σ R).1) R) q lr lw lo lg) : ∃ n, wp_L_due_145 P q0 r0 w0 o0 g0 x0 x1 x2 x3 x4 q lr lw lo lg n (0 : Int32) (0 : Int32) := by
  have hR := V.hR
  refine z_up (fun n k => wp_L_due_145 P q0 r0 w0 o0 g0 x0 x1 x2 x3 x4 q lr lw lo lg n (zS (g2 σ (BD σ R).1) k) (nI k)) R (fun n => ?_) (fun n k hk ih => ?_) 0 (by omega)
  · exact z_y (by rw [hq.i5, z_leN (by omega) (by omega)]; omega) h
  · refine z_n (by rw [hq.i5, z_leN (by omega) (by omega)]; omega) ⟨z_in (by omega) (by omega), ?_⟩
    rw [z_cl (by omega), hw k hk, z_s]
    have e : zS (g2 σ (BD σ R).1) (k + 1) = zS (g2 σ (BD σ R).1) k + g2 σ (BD σ R).1 k := rfl
    rw [e] at ih
    cases g : (BD σ R).1 k with
    | none =>
      have e2 : g2 σ (BD σ R).1 k = σ.pe k := by unfold g2; rw [g]
      rw [e2] at ih
      exact z_n (fun a => (encL_neg a).elim) ⟨z_in (by omega) (by omega), L_pe hr hk ih⟩
    | some v =>
      have e2 : g2 σ (BD σ R).1 k = 0 := by unfold g2; rw [g]
      rw [e2] at ih
      refine z_y ?_ ih
      rw [← g]
      exact (eL_ge (BD8 σ R)).mpr ⟨v, g⟩
theorem L_shift {P : Int32 → (Nat → Int32) → (Nat → Int32) → (Nat → Int32) → (Nat → Int32) → (Nat → Int32) → Prop} {R Q a : Nat} {q lr lw lo lg q0 r0 w0 o0 g0 : Nat → Int32} {x0 x1 x2 x3 x4 v : Int32} (hQ : Q < 24) (ha : a ≤ Q) (hq : q 5 = nI (Q + 1)) (h : P v (upd q 5 (nI Q)) (shf 1 lr a Q) lw lo lg) : ∃ n, wp_L_due_298 P q0 r0 w0 o0 g0 x0 x1 x2 x3 x4 v q lw lo lg n (nI a) lr := by
  have e : ∃ n, wp_L_due_298 P q0 r0 w0 o0 g0 x0 x1 x2 x3 x4 v q lw lo lg n (nI a) (shf 1 lr a a) := by
    refine z_up (fun n k => a ≤ k → wp_L_due_298 P q0 r0 w0 o0 g0 x0 x1 x2 x3 x4 v q lw lo lg n (nI k) (shf 1 lr a k)) Q (fun n => ?_) (fun n k hk ih => ?_) a ha |>.imp (fun n hn => hn (Nat.le_refl a))
    · intro _
      unfold wp_L_due_298 wp_L_due_298F
      rw [z_c5, hq, z_p]
      exact z_y (by rw [z_leN (by omega) (by omega)]; omega) h
    · intro hak
      unfold wp_L_due_298 wp_L_due_298F
      rw [z_c5, hq, z_p, z_s]
      refine z_n (by rw [z_leN (by omega) (by omega)]; omega) ?_
      rw [z_cl (by omega), z_cl (by omega), shf_s hak (by omega)]
      exact ⟨z_in (by omega) (by omega), z_in (by omega) (by omega), ih (by omega)⟩
  rw [shf_0] at e
  exact e
theorem L_due0 {P : Int32 → (Nat → Int32) → (Nat → Int32) → (Nat → Int32) → (Nat → Int32) → (Nat → Int32) → Prop} {σ : StT} {R : Nat} {q lr lw lo lg : Nat → Int32} (V : SV σ R) (hq : LQ σ R q) (hr : LR σ R lr) (hw : ∀ k, k < R → lw k = encL ((BD σ R).1 k)) : ∀ (k : Nat) {a : Nat} {b c d : Int32}, k < 7 → AOK R k a b c d →
    (∀ e, erS σ R k a b = some e → P e q lr lw lo lg) →
    (erS σ R k a b = none → ∀ q' r' w' o' g', LQ (nxS σ R k a b c d) (nxR R k) q' → LR (nxS σ R k a b c d) (nxR R k) r' → P (anS σ R k a b c d) q' r' w' o' g') → wp_L_due P q lr lw lo lg (nI k) (nI a) b c d
  | 0, a, b, c, d, _, ok, he, ho => by
    have hR := V.hR
    have ha : a < 5 := ok.1
    refine z_y' rfl ⟨z_in (by omega) (by omega), ?_⟩
    rw [z_cl (by omega), hq.se a ha]
    refine ⟨fun _ => ⟨z_in (by omega) (by omega), ?_⟩, fun e => absurd e (by decide), fun e => absurd e (by decide), fun e => absurd e (by decide), fun e => absurd e (by decide), fun e => absurd e (by decide), fun e => absurd rfl e.1⟩
    rw [z_cl (by omega)]
    exact ho rfl _ _ _ _ _ (hq.u_se ha) hr
  | 1, a, b, c, d, _, ok, he, ho => by
    have hR := V.hR
    have ha : a < 6 := ok.1
    refine z_n' (by decide) (z_y' rfl ?_)
    rw [z_6, z_cl (by omega), hq.la a ha]
    refine ⟨z_in (by omega) (by omega), ⟨fun e => absurd e (by decide), fun _ => ?_, fun e => absurd e (by decide), fun e => absurd e (by decide), fun e => absurd e (by decide), fun e => absurd e (by decide), fun e => absurd rfl e.2.1⟩⟩
    rw [z_6, z_cl (by omega)]
    exact ⟨z_in (by omega) (by omega), ho rfl _ _ _ _ _ (hq.u_la ha) hr⟩
  | 2, a, b, c, d, _, ok, he, ho => by
    have hR := V.hR
    have ha : a < 6 := ok.1
    refine z_n' (by decide) (z_n' (by decide) ?_)
    refine ⟨fun e => absurd e (by decide), fun e => absurd e (by decide), fun _ => ?_, fun e => absurd e (by decide), fun e => absurd e (by decide), fun e => absurd e (by decide), fun e => absurd rfl e.2.2.1⟩
    rw [z_12, z_6, z_c0, z_cl (by omega), z_cl (by omega), z_un (f := q) (k := 12 + a) (j := 6 + a) (by omega), z_un (f := q) (k := 12 + a) (j := 0) (by omega), hq.la a ha, hq.se 0 (by omega)]
    exact ⟨z_in (by omega) (by omega), z_in (by omega) (by omega), ho rfl _ _ _ _ _ (hq.u_de ha) hr⟩
  | 3, a, b, c, d, _, ok, he, ho => by
    have hR := V.hR
    have ha : a < 8 := ok.1
    refine z_n' (by decide) (z_n' (by decide) ?_)
    refine ⟨fun e => absurd e (by decide), fun e => absurd e (by decide), fun e => absurd e (by decide), fun _ => ?_, fun e => absurd e (by decide), fun e => absurd e (by decide), fun e => absurd rfl e.2.2.2.1⟩
    have q2 : LQ (nxS σ R 3 a b c d) R (upd (upd q (18 + a) b) (26 + a) c) := (hq.u_le ha).u_sa ha
    rw [z_18, z_26, z_cl (by omega), z_cl (by omega)]
    refine ⟨z_in (by omega) (by omega), z_in (by omega) (by omega), L_gives (nxV V (k := 3) (by omega) ok rfl) q2 hr (fun lw' lo' lg' g' => ?_)⟩
    exact L_sum (nxV V (k := 3) (by omega) ok rfl) q2 hr g'.w (ho rfl _ _ _ _ _ q2 hr)
  | 4, a, b, c, d, _, ok, he, ho => by
    have hR := V.hR
    obtain ⟨ha, hb, hc, hd⟩ := ok
    refine z_n' (by decide) (z_n' (by decide) ?_)
    refine ⟨fun e => absurd e (by decide), fun e => absurd e (by decide), fun e => absurd e (by decide), fun e => absurd e (by decide), fun _ => ?_, fun e => absurd e (by decide), fun e => absurd rfl e.2.2.2.2.1⟩
    rw [hq.i5]
    by_cases c5 : R = 24
    · refine z_y' (by rw [c5]; rfl) (he _ (by rw [er4, if_pos c5]))
    · have er : erS σ R 4 a b = none := by rw [er4, if_neg c5]
      refine z_n' (by rw [show (24 : Int32) = nI 24 from rfl, z_eqN (by omega) (by omega)]; exact c5) ⟨z_in (by omega) (by omega), ?_⟩
      obtain ⟨b', hb', rfl⟩ := z_isL (n := 5) hb rfl rfl (by omega)
      obtain ⟨c', hc', rfl⟩ := z_isL (n := 99) hc rfl rfl (by omega)
      have hd2 := z_b hd
      have e1 : (1 : Int32).toInt = 1 := by decide
      have e4 : (4 : Int32).toInt = 4 := by decide
      obtain ⟨d', hd', rfl⟩ : z_is d 5 := (z_is_iff (by omega)).mpr (by omega)
      rw [e1, e4, z_nI (by omega)] at hd2
      have ew : ((nI a + ((8 : Int32) * nI b')) + ((64 : Int32) * nI c')) + ((8192 : Int32) * nI d') = nI (wd a b' c' d') := by
        rw [show (8 : Int32) = nI 8 from rfl, show (64 : Int32) = nI 64 from rfl, show (8192 : Int32) = nI 8192 from rfl, z_m, z_m, z_m, z_a, z_a, z_a]
        rfl
      rw [z_c5, z_s, z_us, z_p, ew, z_cl (by omega)]
      exact ho er _ _ _ _ _ (hq.u5 rfl rfl rfl rfl rfl) (hr.add ⟨ha, by omega, by omega, by omega, by omega⟩)
  | 5, a, b, c, d, _, ok, he, ho => by
    have hR := V.hR
    have ok : a ≤ R := ok
    refine z_n' (by decide) (z_n' (by decide) ?_)
    refine ⟨fun e => absurd e (by decide), fun e => absurd e (by decide), fun e => absurd e (by decide), fun e => absurd e (by decide), fun e => absurd e (by decide), fun _ => ?_, fun e => absurd rfl e.2.2.2.2.2⟩
    rw [hq.i5]
    by_cases c1 : a < R
    · have er : erS σ R 5 a b = none := by rw [er5, if_neg (by omega)]
      obtain ⟨Q, rfl⟩ : ∃ Q, R = Q + 1 := ⟨R - 1, by omega⟩
      refine z_y (by rw [z_ltN (by omega) (by omega)]; exact c1) ⟨z_in (by omega) (by omega), ?_⟩
      rw [z_cl (by omega), hw a c1, hq.i3, hq.i4]
      have fin : ∀ v : Int32, v = frS σ (BD σ (Q + 1)) (Q + 1) a → ∃ n, wp_L_due_298 P q lr lw lo lg (nI 5) (nI a) b c d v q lw lo lg n (nI a) lr := by
        intro v hv
        refine L_shift (R := Q) (by omega) (by omega) hq.ri ?_
        rw [hv]
        exact ho er _ _ _ _ _ (hq.u5 rfl rfl rfl rfl rfl) hr.rem
      cases g : (BD σ (Q + 1)).1 a with
      | none =>
        refine z_n (fun e => (encL_neg e).elim) (fin _ ?_)
        unfold frS; rw [g]
      | some v =>
        refine z_y ?_ ?_
        · rw [← g]
          exact (eL_ge (BD8 σ (Q + 1))).mpr ⟨v, g⟩
        · refine L_part V (BD8 σ (Q + 1)) hq hr hw c1 _ false (L_part V (BD8 σ (Q + 1)) hq hr hw c1 _ true (fin _ ?_))
          unfold frS; rw [g]
    · exact z_n (by rw [z_ltN (by omega) (by omega)]; exact c1) (he _ (by rw [er5, if_pos (by omega)]))
  | 6, a, b, c, d, _, ok, he, ho => by
    have hR := V.hR
    obtain ⟨ok1, ok2⟩ : a ≤ R ∧ z_is b 6 := ok
    refine z_n' (by decide) (z_n' (by decide) ?_)
    refine ⟨fun e => absurd e (by decide), fun e => absurd e (by decide), fun e => absurd e (by decide), fun e => absurd e (by decide), fun e => absurd e (by decide), fun e => absurd e (by decide), fun _ => ?_⟩
    rw [hq.i5]
    by_cases c1 : a < R
    · refine z_n (by rw [z_leN (by omega) (by omega)]; omega) ⟨z_in (by omega) (by omega), ?_⟩
      rw [z_cl (by omega)]
      refine L_fl hr c1 ?_
      by_cases c3 : σ.fl a = b
      · refine z_y' c3 ?_
        unfold wp_L_due_357
        rw [hq.i5]
        exact z_y (by rw [z_ltN (by omega) (by omega)]; exact c1) (he _ (by rw [er6, if_neg (by omega), if_pos c3]))
      · have er : erS σ R 6 a b = none := by rw [er6, if_neg (by omega), if_neg c3]
        have i1 : vp_in (nI a) 24 := z_in (by omega) (by omega)
        refine z_n' c3 ⟨i1, i1, L_fl hr c1 ⟨i1, ?_⟩⟩
        have V' : SV (nxS σ R 6 a b c d) R := nxV V (k := 6) (by omega) ⟨ok1, ok2⟩ er
        have q2 : LQ (nxS σ R 6 a b c d) R q := ⟨hq.se, hq.ri, hq.la, hq.de, hq.le, hq.sa⟩
        have r2 : LR (nxS σ R 6 a b c d) R (upd lr a (lr a + (b - σ.fl a))) := hr.reb c1 ok2
        refine L_gives V' q2 r2 (fun lw' lo' lg' g' => ⟨i1, ?_⟩)
        rw [g'.w a c1]
        have h := encL_enc (P := fun x => P x q (upd lr a (lr a + (b - σ.fl a))) lw' lo' lg') (c := (BD (nxS σ R 6 a b c d) R).1 a) (fun v hv => BD8 _ _ a v hv) (ho er _ _ _ _ _ q2 r2)
        exact ⟨fun e => ⟨i1, h.1 e⟩, h.2⟩
    · refine z_y (by rw [z_leN (by omega) (by omega)]; omega) ?_
      unfold wp_L_due_357
      rw [hq.i5]
      exact z_n (by rw [z_ltN (by omega) (by omega)]; exact c1) (he _ (by rw [er6, if_pos (by omega)]))
  | k + 7, _, _, _, _, hk, _, _, _ => absurd hk (by omega)
