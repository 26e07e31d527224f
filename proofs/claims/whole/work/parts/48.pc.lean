/-! ===== the questions whether a number is a flight, a van, a rider ===== -/
theorem Xf_t {P : Int32 → Prop} {x : Int32} (h : z_is x 6) (p : P 1) : wp_X5_isFlight P x := z_in_t 5 (by omega) h ⟨z_b1, p⟩
theorem Xf_f {P : Int32 → Prop} {x : Int32} (h : ¬ z_is x 6) (p : P 0) : wp_X5_isFlight P x := z_in_f 5 (by omega) h ⟨z_b0, p⟩
theorem Mf_t {P : Int32 → Prop} {x : Int32} (h : z_is x 6) (p : P 1) : wp_X6_isFlight P x := z_w (z_in_t 5 (by omega) h ⟨z_b1, p⟩)
theorem Mf_f {P : Int32 → Prop} {x : Int32} (h : ¬ z_is x 6) (p : P 0) : wp_X6_isFlight P x := z_w (z_in_f 5 (by omega) h ⟨z_b0, p⟩)
theorem Xv_t {P : Int32 → Prop} {x : Int32} (h : z_is x 8) (p : P 1) : wp_X5_isVan P x := z_in_t 7 (by omega) h ⟨z_b1, p⟩
theorem Xv_f {P : Int32 → Prop} {x : Int32} (h : ¬ z_is x 8) (p : P 0) : wp_X5_isVan P x := z_in_f 7 (by omega) h ⟨z_b0, p⟩
theorem Mv_t {P : Int32 → Prop} {x : Int32} (h : z_is x 8) (p : P 1) : wp_X6_isVan P x := z_w (z_in_t 7 (by omega) h ⟨z_b1, p⟩)
theorem Mv_f {P : Int32 → Prop} {x : Int32} (h : ¬ z_is x 8) (p : P 0) : wp_X6_isVan P x := z_w (z_in_f 7 (by omega) h ⟨z_b0, p⟩)
theorem z_r_t {P : Int32 → Prop} {x : Int32} {R : Nat} (hR : R ≤ 24) (h : z_is x R) (p : P 1) : wp_X5_isIn P x 0 (nI R - 1) := by
  obtain ⟨j, hj, rfl⟩ := h
  obtain ⟨q, rfl⟩ : ∃ q, R = q + 1 := ⟨R - 1, by omega⟩
  rw [z_p]
  exact z_in_t q (by omega) ⟨j, hj, rfl⟩ p
theorem z_r_f {P : Int32 → Prop} {x : Int32} {R : Nat} (hR : R ≤ 24) (h : ¬ z_is x R) (p : P 0) : wp_X5_isIn P x 0 (nI R - 1) := by
  refine z_isIn_f ?_ p
  rintro ⟨h1, h2⟩
  apply h
  rw [z_is_iff (by omega)]
  rw [z_le] at h1 h2
  have e := z_nI (n := R) (by omega)
  have e1 : (1 : Int32).toInt = 1 := by decide
  rw [z_sub (by omega) (by omega), e, e1] at h2
  rw [z_00] at h1
  omega
theorem Xr_t {P : Int32 → Prop} {σ : StT} {R : Nat} (V : SV σ R) {x : Int32} (h : z_is x R) (p : P 1) : wp_X5_isRider P σ x := by
  unfold wp_X5_isRider; rw [V.ri]; exact z_r_t V.hR h ⟨z_b1, p⟩
theorem Xr_f {P : Int32 → Prop} {σ : StT} {R : Nat} (V : SV σ R) {x : Int32} (h : ¬ z_is x R) (p : P 0) : wp_X5_isRider P σ x := by
  unfold wp_X5_isRider; rw [V.ri]; exact z_r_f V.hR h ⟨z_b0, p⟩
theorem Mr_t {P : Int32 → Prop} {σ : StT} {R : Nat} {M : Nat → Int32} (V : SV σ R) (m : SM σ R M) {x : Int32} (h : z_is x R) (p : P 1) : wp_X6_isRider P M x := by
  unfold wp_X6_isRider; rw [z_c33, m.ri]; exact z_w (z_r_t V.hR h ⟨z_b1, p⟩)
theorem Mr_f {P : Int32 → Prop} {σ : StT} {R : Nat} {M : Nat → Int32} (V : SV σ R) (m : SM σ R M) {x : Int32} (h : ¬ z_is x R) (p : P 0) : wp_X6_isRider P M x := by
  unfold wp_X6_isRider; rw [z_c33, m.ri]; exact z_w (z_r_f V.hR h ⟨z_b0, p⟩)
theorem Mw_t {P : Int32 → Prop} {x a b : Int32} (h : a ≤ x ∧ x ≤ b) (p : P 1) : wp_X6_within P x a b := z_w (z_isIn_t h.1 h.2 p)
theorem Mw_f {P : Int32 → Prop} {x a b : Int32} (h : ¬ (a ≤ x ∧ x ≤ b)) (p : P 0) : wp_X6_within P x a b := z_w (z_isIn_f h p)
theorem M_least {P : Int32 → Prop} : ∀ {j : Nat}, j < 5 → P (g_least j) → wp_X6_leastOf P (nI j)
  | 0, _, h => z_n' (by decide) h
  | 1, _, h => z_n' (by decide) h
  | 2, _, h => z_y' (by decide) h
  | 3, _, h => z_n' (by decide) h
  | 4, _, h => z_n' (by decide) h
  | j + 5, hj, _ => absurd hj (by omega)
theorem M_most {P : Int32 → Prop} : ∀ {j : Nat}, j < 5 → P (g_most j) → wp_X6_mostOf P (nI j)
  | 0, _, h => ⟨fun _ => h, fun e => absurd e (by decide), fun e => absurd e (by decide), fun e => absurd e (by decide), fun e => absurd rfl e.1⟩
  | 1, _, h => ⟨fun e => absurd e (by decide), fun _ => h, fun e => absurd e (by decide), fun e => absurd e (by decide), fun e => absurd rfl e.2.1⟩
  | 2, _, h => ⟨fun e => absurd e (by decide), fun e => absurd e (by decide), fun _ => h, fun e => absurd e (by decide), fun e => absurd rfl e.2.2.1⟩
  | 3, _, h => ⟨fun e => absurd e (by decide), fun e => absurd e (by decide), fun e => absurd e (by decide), fun _ => h, fun e => absurd rfl e.2.2.2⟩
  | 4, _, h => ⟨fun e => absurd e (by decide), fun e => absurd e (by decide), fun e => absurd e (by decide), fun e => absurd e (by decide), fun _ => h⟩
  | j + 5, hj, _ => absurd hj (by omega)
theorem z_b {x a b : Int32} (h : a ≤ x ∧ x ≤ b) : a.toInt ≤ x.toInt ∧ x.toInt ≤ b.toInt := ⟨z_le.mp h.1, z_le.mp h.2⟩
/-! ===== a plan of the class from that of the reference ===== -/
theorem law0 {xs : Nat → Int32} {rec : RecT} {t : Nat} (rok : RecOK rec (t + 1)) {now pln way tri tpl pad his slo Mst Mhi Mhn Msl Msv Mpd Mln Mat Mit Mvf Mdn Mlf Mar Msa Msm Mso} (rel : Rel now pln pad his slo Mst Mhi Mhn Msl Msv Mpd Mln) : lawC0 xs rec t now pln way tri tpl pad his slo Mst Mhi Mhn Msl Msv Mpd Mln Mat Mit Mvf Mdn Mlf Mar Msa Msm Mso := by
  obtain ⟨⟨R, o, V, m, X⟩, ⟨K, hn, f, H, hg⟩, pr, sl⟩ := id rel
  unfold lawC0
  generalize xs (5 * t + 1) = x1
  generalize xs (5 * t + 2) = x2
  by_cases c1 : z_is x1 5
  · obtain ⟨j, hj, rfl⟩ := c1
    refine z_in_t 4 (by omega) ⟨j, hj, rfl⟩ (z_t ⟨z_in hj (by omega), z_in hj (by omega), ?_⟩)
    rw [z_cl (by omega)]
    by_cases c2 : g_least j ≤ x2 ∧ x2 ≤ g_most j
    · refine z_isIn_t c2.1 c2.2 (z_t ⟨z_in hj (by omega), X_record H (fun hs ol sz hx => ⟨z_in hj (by omega), ?_⟩)⟩)
      have V' := V.u_se c2.1 c2.2
      refine X_make V' (fun od rd vn pn ao sr sp wt o' hX => ?_)
      refine z_w (z_in_t 4 (by omega) ⟨j, hj, rfl⟩ (z_t' (M_least hj (M_most hj (z_w (z_isIn_t c2.1 c2.2 (z_t ?_)))))))
      rw [hn]
      refine M_record H.2.1 (fun Mhi' h1 h2 => ⟨z_in (by omega) (by omega), z_in (by omega) (by omega), ?_⟩)
      rw [z_cl (by omega)]
      exact ⟨(m.se j hj).symm, rok _ _ _ _ _ _ _ _ _ _ _ _ _ _ _ _ _ _ _ _ _ _ _ _ ⟨⟨R, o', V', m.u_se hj x2, hX⟩, ⟨_, HR_next V.hR hg H.2.1 V m hx h1 h2⟩, pr, sl⟩⟩
    · refine z_isIn_f c2 (z_f ?_)
      refine z_w (z_in_t 4 (by omega) ⟨j, hj, rfl⟩ (z_t' (M_least hj (M_most hj (z_w (z_isIn_f c2 (z_f ?_)))))))
      exact ⟨rfl, rok _ _ _ _ _ _ _ _ _ _ _ _ _ _ _ _ _ _ _ _ _ _ _ _ rel⟩
  · refine z_in_f 4 (by omega) c1 (z_f ?_)
    refine z_w (z_in_f 4 (by omega) c1 (z_f' ?_))
    exact ⟨rfl, rok _ _ _ _ _ _ _ _ _ _ _ _ _ _ _ _ _ _ _ _ _ _ _ _ rel⟩
theorem law1 {xs : Nat → Int32} {rec : RecT} {t : Nat} (rok : RecOK rec (t + 1)) {now pln way tri tpl pad his slo Mst Mhi Mhn Msl Msv Mpd Mln Mat Mit Mvf Mdn Mlf Mar Msa Msm Mso} (rel : Rel now pln pad his slo Mst Mhi Mhn Msl Msv Mpd Mln) : lawC1 xs rec t now pln way tri tpl pad his slo Mst Mhi Mhn Msl Msv Mpd Mln Mat Mit Mvf Mdn Mlf Mar Msa Msm Mso := by
  obtain ⟨⟨R, o, V, m, X⟩, ⟨K, hn, f, H, hg⟩, pr, sl⟩ := id rel
  unfold lawC1
  generalize xs (5 * t + 1) = x1
  generalize xs (5 * t + 2) = x2
  by_cases c1 : z_is x1 6
  · obtain ⟨j, hj, rfl⟩ := id c1
    have e1 : (5 : Int32) + nI j = nI (5 + j) := z_a 5 j
    refine Xf_t c1 (z_t ?_)
    by_cases c2 : (0 : Int32) ≤ x2 ∧ x2 ≤ (1200 : Int32)
    · refine z_isIn_t c2.1 c2.2 (z_t ⟨z_in hj (by omega), X_record H (fun hs ol sz hx => ⟨z_in hj (by omega), ?_⟩)⟩)
      rw [z_cl (by omega)]
      have V' := V.u_la (j := j) (z_b c2).1 (z_b c2).2
      refine X_make V' (fun od rd vn pn ao sr sp wt o' hX => ?_)
      refine Mf_t c1 (z_t (Mw_t c2 (z_t ?_)))
      rw [hn]
      refine M_record H.2.1 (fun Mhi' h1 h2 => ?_)
      rw [e1, z_cl (by omega)]
      exact ⟨z_in (by omega) (by omega), z_in (by omega) (by omega), (m.la j hj).symm, rok _ _ _ _ _ _ _ _ _ _ _ _ _ _ _ _ _ _ _ _ _ _ _ _ ⟨⟨R, o', V', m.u_la hj x2, hX⟩, ⟨_, HR_next V.hR hg H.2.1 V m hx h1 h2⟩, pr, sl⟩⟩
    · exact z_isIn_f c2 (z_f (Mf_t c1 (z_t (Mw_f c2 (z_f ⟨rfl, rok _ _ _ _ _ _ _ _ _ _ _ _ _ _ _ _ _ _ _ _ _ _ _ _ rel⟩)))))
  · exact Xf_f c1 (z_f (Mf_f c1 (z_f ⟨rfl, rok _ _ _ _ _ _ _ _ _ _ _ _ _ _ _ _ _ _ _ _ _ _ _ _ rel⟩)))
theorem law2 {xs : Nat → Int32} {rec : RecT} {t : Nat} (rok : RecOK rec (t + 1)) {now pln way tri tpl pad his slo Mst Mhi Mhn Msl Msv Mpd Mln Mat Mit Mvf Mdn Mlf Mar Msa Msm Mso} (rel : Rel now pln pad his slo Mst Mhi Mhn Msl Msv Mpd Mln) : lawC2 xs rec t now pln way tri tpl pad his slo Mst Mhi Mhn Msl Msv Mpd Mln Mat Mit Mvf Mdn Mlf Mar Msa Msm Mso := by
  obtain ⟨⟨R, o, V, m, X⟩, ⟨K, hn, f, H, hg⟩, pr, sl⟩ := id rel
  unfold lawC2
  generalize xs (5 * t + 1) = x1
  generalize xs (5 * t + 2) = x2
  by_cases c1 : z_is x1 6
  · obtain ⟨j, hj, rfl⟩ := id c1
    have e1 : (11 : Int32) + nI j = nI (11 + j) := z_a 11 j
    refine Xf_t c1 (z_t ?_)
    by_cases c2 : (-30 : Int32) ≤ x2 ∧ x2 ≤ (300 : Int32)
    · refine z_isIn_t c2.1 c2.2 ⟨z_b1, z_t (X_record H (fun hs ol sz hx => ⟨z_in hj (by omega), ?_⟩))⟩
      rw [z_cl (by omega)]
      have V' := V.u_de (j := j) (z_b c2).1 (z_b c2).2
      refine X_make V' (fun od rd vn pn ao sr sp wt o' hX => ?_)
      refine X_fr hj (Mf_t c1 (z_t (Mw_t c2 (z_t ?_))))
      rw [hn]
      refine M_record H.2.1 (fun Mhi' h1 h2 => ?_)
      rw [e1, z_cl (by omega)]
      exact ⟨z_in (by omega) (by omega), M_ro (m.u_de hj x2) hj ⟨rfl, rok _ _ _ _ _ _ _ _ _ _ _ _ _ _ _ _ _ _ _ _ _ _ _ _ ⟨⟨R, o', V', m.u_de hj x2, hX⟩, ⟨_, HR_next V.hR hg H.2.1 V m hx h1 h2⟩, pr, sl⟩⟩⟩
    · exact z_isIn_f c2 ⟨z_b0, z_f (Mf_t c1 (z_t (Mw_f c2 (z_f ⟨rfl, rok _ _ _ _ _ _ _ _ _ _ _ _ _ _ _ _ _ _ _ _ _ _ _ _ rel⟩))))⟩
  · exact Xf_f c1 (z_f (Mf_f c1 (z_f ⟨rfl, rok _ _ _ _ _ _ _ _ _ _ _ _ _ _ _ _ _ _ _ _ _ _ _ _ rel⟩)))
