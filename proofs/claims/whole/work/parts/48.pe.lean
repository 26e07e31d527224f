/-! ===== wipe, undo, save, restore ===== -/
theorem law19 {xs : Nat → Int32} {rec : RecT} {t : Nat} (rok : RecOK rec (t + 1)) {now pln way tri tpl pad his slo Mst Mhi Mhn Msl Msv Mpd Mln Mat Mit Mvf Mdn Mlf Mar Msa Msm Mso} (rel : Rel now pln pad his slo Mst Mhi Mhn Msl Msv Mpd Mln) : lawC19 xs rec t now pln way tri tpl pad his slo Mst Mhi Mhn Msl Msv Mpd Mln Mat Mit Mvf Mdn Mlf Mar Msa Msm Mso := by
  obtain ⟨nr, hr, ⟨n, h1, h2, h3, h4⟩, sl⟩ := id rel
  refine ⟨h2.trans h3.symm, rok _ _ _ _ _ _ _ _ _ _ _ _ _ _ _ _ _ _ _ _ _ _ _ _ ⟨nr, hr, ⟨0, by omega, rfl, rfl, fun j hj => absurd hj (by omega)⟩, sl⟩⟩
/-- a row copied, number by number -/
theorem z_copy {P : (Nat → Int32) → Prop} {W : Nat → Int32 → (Nat → Int32) → Prop} {dst src : Nat → Int32} (a : Nat) (N : Nat)
    (h : ∀ d', (∀ k, k < N → d' (a + k) = src k) → (∀ k, k < a ∨ a + N ≤ k → d' k = dst k) → P d')
    (h0 : ∀ n d, P d → W (n + 1) (nI N) d)
    (hs : ∀ n j d, j < N → W n (nI (j + 1)) (upd d (a + j) (src j)) → W (n + 1) (nI j) d) : ∃ n, W n 0 dst := by
  suffices hh : ∃ n, ∀ d, (∀ k, k < 0 → d (a + k) = src k) → (∀ k, k < a ∨ a + N ≤ k → d k = dst k) → W n (nI 0) d by
    obtain ⟨n, hn⟩ := hh
    exact ⟨n, hn _ (fun k hk => absurd hk (by omega)) (fun _ _ => rfl)⟩
  refine z_up (fun n j => ∀ d, (∀ k, k < j → d (a + k) = src k) → (∀ k, k < a ∨ a + N ≤ k → d k = dst k) → W n (nI j) d) N (fun n => ?_) (fun n j hj ih => ?_) 0 (by omega)
  · intro d h1 h2
    exact h0 n d (h d h1 h2)
  · intro d h1 h2
    refine hs n j d hj (ih _ (fun k hk => ?_) (fun k hk => ?_))
    · by_cases c : k = j
      · rw [c, z_us]
      · rw [z_un (by omega)]; exact h1 k (by omega)
    · rw [z_un (by omega)]; exact h2 k hk
theorem law21 {xs : Nat → Int32} {rec : RecT} {t : Nat} (rok : RecOK rec (t + 1)) {now pln way tri tpl pad his slo Mst Mhi Mhn Msl Msv Mpd Mln Mat Mit Mvf Mdn Mlf Mar Msa Msm Mso} (rel : Rel now pln pad his slo Mst Mhi Mhn Msl Msv Mpd Mln) : lawC21 xs rec t now pln way tri tpl pad his slo Mst Mhi Mhn Msl Msv Mpd Mln Mat Mit Mvf Mdn Mlf Mar Msa Msm Mso := by
  obtain ⟨⟨R, o, V, m, X⟩, ⟨K, hn, f, H, hg⟩, pr, sl⟩ := id rel
  obtain ⟨h1, h2, q, hq, h3, h4⟩ := H
  unfold lawC21 wp_X5_undo wp_X0_takeBack
  rw [h1, h3]
  by_cases c : K = 0
  · have e : nI K = 0 := by rw [c]; rfl
    refine z_y' e ?_
    unfold wp_X6_undo
    rw [hn]
    refine z_y' e ?_
    exact ⟨rfl, rok _ _ _ _ _ _ _ _ _ _ _ _ _ _ _ _ _ _ _ _ _ _ _ _ ⟨⟨R, o, V, m, X⟩, ⟨K, rfl, f, ⟨rfl, h2, q, hq, rfl, h4⟩, hg⟩, pr, sl⟩⟩
  · obtain ⟨k, rfl⟩ : ∃ k, K = k + 1 := ⟨K - 1, by omega⟩
    have e : ¬ nI (k + 1) = 0 := by rw [show (0 : Int32) = nI 0 from rfl, z_eqN (by omega) (by omega)]; omega
    refine z_n' e ?_
    refine z_y (by rw [show (0 : Int32) = nI 0 from rfl, z_ltN (by omega) (by omega)]; omega) ?_
    have ei : (nI q + (nI (k + 1) - (1 : Int32))) - (nI q + (nI (k + 1) - (1 : Int32))) / (6 : Int32) * (6 : Int32) = nI ((q + k) % 6) := by
      rw [z_p, z_a, show (6 : Int32) = nI 6 from rfl, z_mod (by omega) (by omega) (by omega)]
    rw [ei]
    refine ⟨z_in (by omega) (by omega), fun j hj ej => ?_⟩
    rw [z_eqN (by omega) (by omega)] at ej
    subst ej
    rw [h4 k (by omega)]
    obtain ⟨R', V', m'⟩ := hg k (by omega)
    refine X_make (σ := f k) V' (fun od rd vn pn ao sr sp wt o' hX => ?_)
    unfold wp_X6_undo
    rw [hn]
    refine z_n' e ?_
    rw [z_p]
    refine z_copy (P := fun d => _) (src := fun i => Mhi (130 * k + i)) 0 130 (fun d' hd _ => ?_) (fun n d hp => z_y (by decide) hp) (fun n j d hj w => ?_)
    · refine ⟨rfl, rok _ _ _ _ _ _ _ _ _ _ _ _ _ _ _ _ _ _ _ _ _ _ _ _ ⟨⟨R', o', V', m'.congr V'.hR (fun i hi => ?_), hX⟩, ⟨k, rfl, f, ⟨rfl, by omega, q, hq, rfl, fun i hi => h4 i (by omega)⟩, fun i hi => hg i (by omega)⟩, pr, sl⟩⟩
      have := hd i hi
      rw [Nat.zero_add] at this
      exact this
    · have ek : (nI k * (130 : Int32)) + nI j = nI (130 * k + j) := by
        rw [show (130 : Int32) = nI 130 from rfl, z_m, z_a, Nat.mul_comm]
      refine z_n (by rw [show (130 : Int32) = nI 130 from rfl, z_leN (by omega) (by omega)]; omega) ?_
      rw [ek, z_s, z_cl (by omega), z_cl (by omega)]
      rw [Nat.zero_add] at w
      exact ⟨z_in (by omega) (by omega), z_in hj (by omega), w⟩
theorem Xs_t {P : Int32 → Prop} {x : Int32} (h : z_is x 2) (p : P 1) : wp_X5_isSlot P x := z_in_t 1 (by omega) h ⟨z_b1, p⟩
theorem Xs_f {P : Int32 → Prop} {x : Int32} (h : ¬ z_is x 2) (p : P 0) : wp_X5_isSlot P x := z_in_f 1 (by omega) h ⟨z_b0, p⟩
theorem law22 {xs : Nat → Int32} {rec : RecT} {t : Nat} (rok : RecOK rec (t + 1)) {now pln way tri tpl pad his slo Mst Mhi Mhn Msl Msv Mpd Mln Mat Mit Mvf Mdn Mlf Mar Msa Msm Mso} (rel : Rel now pln pad his slo Mst Mhi Mhn Msl Msv Mpd Mln) : lawC22 xs rec t now pln way tri tpl pad his slo Mst Mhi Mhn Msl Msv Mpd Mln Mat Mit Mvf Mdn Mlf Mar Msa Msm Mso := by
  obtain ⟨⟨R, o, V, m, X⟩, hr, pr, sl⟩ := id rel
  unfold lawC22
  generalize xs (5 * t + 1) = x1
  by_cases c1 : z_is x1 2
  · obtain ⟨j, hj, rfl⟩ := id c1
    refine Xs_t c1 (z_t ⟨z_in hj (by omega), fun j' hj' ej => ?_⟩)
    rw [z_eqN (by omega) (by omega)] at ej
    subst ej
    refine z_w (z_in_t 1 (by omega) c1 (z_t ?_))
    refine z_copy (P := fun d => _) (src := Mst) (130 * j) 130 (fun d' hd hd2 => ?_) (fun n d hp => z_y (by decide) ⟨z_in hj (by omega), hp⟩) (fun n k d hk w => ?_)
    · rw [z_cl (by omega), z_c33, m.ri, V.ri]
      refine ⟨rfl, rok _ _ _ _ _ _ _ _ _ _ _ _ _ _ _ _ _ _ _ _ _ _ _ _ ⟨⟨R, o, V, m, X⟩, hr, pr, fun i hi => ?_⟩⟩
      by_cases c : i = j
      · rw [c]
        refine Or.inr ⟨now, R, ?_, z_us, V, m.congr V.hR hd⟩
        exact (if_pos rfl).trans (by rw [← V.ri]; rfl)
      · show SLR (if i = j then _ else slo i) (upd Msv j 1 i) (fun k => d' (130 * i + k))
        rw [if_neg c, z_un c]
        rcases sl i hi with ⟨a, b⟩ | ⟨s, R', a, b, c2, d2⟩
        · exact Or.inl ⟨a, b⟩
        · exact Or.inr ⟨s, R', a, b, c2, d2.congr c2.hR (fun k hk => hd2 _ (by omega))⟩
    · have ek : ((130 : Int32) * nI j) + nI k = nI (130 * j + k) := by
        rw [show (130 : Int32) = nI 130 from rfl, z_m, z_a]
      refine z_n (by rw [show (130 : Int32) = nI 130 from rfl, z_leN (by omega) (by omega)]; omega) ?_
      rw [ek, z_s, z_cl (by omega), z_cl (by omega)]
      exact ⟨z_in hk (by omega), z_in (by omega) (by omega), w⟩
  · exact Xs_f c1 (z_f (z_w (z_in_f 1 (by omega) c1 (z_f ⟨rfl, rok _ _ _ _ _ _ _ _ _ _ _ _ _ _ _ _ _ _ _ _ _ _ _ _ rel⟩))))
theorem law23 {xs : Nat → Int32} {rec : RecT} {t : Nat} (rok : RecOK rec (t + 1)) {now pln way tri tpl pad his slo Mst Mhi Mhn Msl Msv Mpd Mln Mat Mit Mvf Mdn Mlf Mar Msa Msm Mso} (rel : Rel now pln pad his slo Mst Mhi Mhn Msl Msv Mpd Mln) : lawC23 xs rec t now pln way tri tpl pad his slo Mst Mhi Mhn Msl Msv Mpd Mln Mat Mit Mvf Mdn Mlf Mar Msa Msm Mso := by
  obtain ⟨⟨R, o, V, m, X⟩, ⟨K, hn, f, H, hg⟩, pr, sl⟩ := id rel
  unfold lawC23
  generalize xs (5 * t + 1) = x1
  by_cases c1 : z_is x1 2
  · obtain ⟨j, hj, rfl⟩ := id c1
    refine Xs_t c1 (z_t ⟨z_in hj (by omega), fun j' hj' ej => ?_⟩)
    rw [z_eqN (by omega) (by omega)] at ej
    subst ej
    rcases sl j hj with ⟨a, b⟩ | ⟨s, R', a, b, V', m'⟩
    · rw [a]
      refine z_w (z_in_t 1 (by omega) c1 (z_t ⟨z_in hj (by omega), ?_⟩))
      rw [z_cl (by omega), b]
      exact z_y' rfl ⟨rfl, rok _ _ _ _ _ _ _ _ _ _ _ _ _ _ _ _ _ _ _ _ _ _ _ _ rel⟩
    · rw [a]
      refine X_record H (fun hs ol sz hx => ?_)
      refine X_make (σ := s) V' (fun od rd vn pn ao sr sp wt o' hX => ?_)
      refine z_w (z_in_t 1 (by omega) c1 (z_t ⟨z_in hj (by omega), ?_⟩))
      rw [z_cl (by omega), b, hn]
      refine z_n' z_10 (M_record H.2.1 (fun Mhi' h1 h2 => ?_))
      refine z_copy (P := fun d => _) (src := fun k => Msl (130 * j + k)) 0 130 (fun d' hd hd2 => ?_) (fun n d hp => z_y (by decide) hp) (fun n k d hk w => ?_)
      · have m2 : SM s R' d' := m'.congr V'.hR (fun k hk => by have := hd k hk; rw [Nat.zero_add] at this; exact this)
        refine ⟨?_, rok _ _ _ _ _ _ _ _ _ _ _ _ _ _ _ _ _ _ _ _ _ _ _ _ ⟨⟨R', o', V', m2, hX⟩, ⟨_, HR_next V.hR hg H.2.1 V m hx h1 h2⟩, pr, sl⟩⟩
        rw [z_c33, m2.ri]; exact V'.ri
      · have ek : ((130 : Int32) * nI j) + nI k = nI (130 * j + k) := by
          rw [show (130 : Int32) = nI 130 from rfl, z_m, z_a]
        refine z_n (by rw [show (130 : Int32) = nI 130 from rfl, z_leN (by omega) (by omega)]; omega) ?_
        rw [ek, z_s, z_cl (by omega), z_cl (by omega)]
        rw [Nat.zero_add] at w
        exact ⟨z_in (by omega) (by omega), z_in hk (by omega), w⟩
  · exact Xs_f c1 (z_f (z_w (z_in_f 1 (by omega) c1 (z_f ⟨rfl, rok _ _ _ _ _ _ _ _ _ _ _ _ _ _ _ _ _ _ _ _ _ _ _ _ rel⟩))))
