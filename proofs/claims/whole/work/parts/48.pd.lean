/-! ===== van, ride, rebook ===== -/
theorem M_sp {P : Int32 → Prop} {σ : StT} {R : Nat} {M Mvf Mlf Mar : Nat → Int32} (V : SV σ R) (m : SM σ R M) {o : Nat → Nat} (mp : MP σ R o Mvf Mlf Mar) (h : P (zS (g2 σ (bdS σ o R).1) R)) : wp_X6_strandedPeople P M Mvf := by
  have hR := V.hR
  refine z_up (fun n k => wp_X6_strandedPeople_4 P M Mvf n (zS (g2 σ (bdS σ o R).1) k) (nI k)) R (fun n => ?_) (fun n k hk ih => ?_) 0 (by omega)
  · exact z_y (by rw [z_c33, m.ri, z_leN (by omega) (by omega)]; omega) h
  · refine z_n (by rw [z_c33, m.ri, z_leN (by omega) (by omega)]; omega) ⟨z_in (by omega) (by omega), ?_⟩
    rw [z_cl (by omega), z_s, mp.vf k hk]
    have e : zS (g2 σ (bdS σ o R).1) (k + 1) = zS (g2 σ (bdS σ o R).1) k + g2 σ (bdS σ o R).1 k := rfl
    cases c : (bdS σ o R).1 k with
    | none =>
      have e2 : g2 σ (bdS σ o R).1 k = σ.pe k := by unfold g2; rw [c]
      rw [e, e2] at ih
      exact z_y' rfl (M_of3 V m hk ih)
    | some v =>
      have hv := bdV c
      have e2 : g2 σ (bdS σ o R).1 k = 0 := by unfold g2; rw [c]
      rw [e, e2] at ih
      exact z_n' (z_106 v (by omega)) ih
theorem law3 {xs : Nat → Int32} {rec : RecT} {t : Nat} (rok : RecOK rec (t + 1)) {now pln way tri tpl pad his slo Mst Mhi Mhn Msl Msv Mpd Mln Mat Mit Mvf Mdn Mlf Mar Msa Msm Mso} (rel : Rel now pln pad his slo Mst Mhi Mhn Msl Msv Mpd Mln) : lawC3 xs rec t now pln way tri tpl pad his slo Mst Mhi Mhn Msl Msv Mpd Mln Mat Mit Mvf Mdn Mlf Mar Msa Msm Mso := by
  obtain ⟨⟨R, o, V, m, X⟩, ⟨K, hn, f, H, hg⟩, pr, sl⟩ := id rel
  unfold lawC3
  generalize xs (5 * t + 1) = x1
  generalize xs (5 * t + 2) = x2
  generalize xs (5 * t + 3) = x3
  by_cases c1 : z_is x1 8
  · obtain ⟨j, hj, rfl⟩ := id c1
    have e1 : (17 : Int32) + nI j = nI (17 + j) := z_a 17 j
    have e2 : (25 : Int32) + nI j = nI (25 + j) := z_a 25 j
    refine Xv_t c1 (z_t ?_)
    by_cases c2 : (0 : Int32) ≤ x2 ∧ x2 ≤ (1500 : Int32)
    · by_cases c3 : (0 : Int32) ≤ x3 ∧ x3 ≤ (12 : Int32)
      · refine z_isIn_t c2.1 c2.2 (z_t' (z_isIn_t c3.1 c3.2 (z_t (X_record H (fun hs ol sz hx => ⟨z_in hj (by omega), z_in hj (by omega), ?_⟩)))))
        rw [z_cl (by omega)]
        have V' : SV (mkSt now.se now.la now.de (upd now.le j x2) (upd now.sa j x3) now.fl now.ar now.dr now.pe now.ri) R := (V.u_le (j := j) (z_b c2).1 (z_b c2).2).u_sa (j := j) (z_b c3).1 (z_b c3).2
        have m' : SM (mkSt now.se now.la now.de (upd now.le j x2) (upd now.sa j x3) now.fl now.ar now.dr now.pe now.ri) R (upd (upd Mst (17 + j) x2) (25 + j) x3) := (m.u_le hj x2).u_sa hj x3
        refine X_make V' (fun od rd vn pn ao sr sp wt o' hX => ?_)
        refine Mv_t c1 (z_t (Mw_t c2 (z_t' (Mw_t c3 (z_t ?_)))))
        rw [hn]
        refine M_record H.2.1 (fun Mhi' h1 h2 => ?_)
        rw [e1, e2, z_cl (by omega), z_cl (by omega)]
        refine ⟨z_in (by omega) (by omega), z_in (by omega) (by omega), M_lay V' m' hX.ord (fun Mvf' Mdn' Mlf' Mar' mp => M_sp V' m' mp ?_)⟩
        exact ⟨hX.sp, rok _ _ _ _ _ _ _ _ _ _ _ _ _ _ _ _ _ _ _ _ _ _ _ _ ⟨⟨R, o', V', m', hX⟩, ⟨_, HR_next V.hR hg H.2.1 V m hx h1 h2⟩, pr, sl⟩⟩
      · exact z_isIn_t c2.1 c2.2 (z_t' (z_isIn_f c3 (z_f (Mv_t c1 (z_t (Mw_t c2 (z_t' (Mw_f c3 (z_f ⟨rfl, rok _ _ _ _ _ _ _ _ _ _ _ _ _ _ _ _ _ _ _ _ _ _ _ _ rel⟩)))))))))
    · exact z_isIn_f c2 (z_f' (Mv_t c1 (z_t (Mw_f c2 (z_f' ⟨rfl, rok _ _ _ _ _ _ _ _ _ _ _ _ _ _ _ _ _ _ _ _ _ _ _ _ rel⟩)))))
  · exact Xv_f c1 (z_f (Mv_f c1 (z_f ⟨rfl, rok _ _ _ _ _ _ _ _ _ _ _ _ _ _ _ _ _ _ _ _ _ _ _ _ rel⟩)))
/-- a state with one rider more -/
def addS (σ : StT) (R : Nat) (a b c d : Int32) : StT := mkSt σ.se σ.la σ.de σ.le σ.sa (upd σ.fl R a) (upd σ.ar R b) (upd σ.dr R c) (upd σ.pe R d) (nI (R + 1))
theorem z_ups {Q : Int32 → Prop} {f : Nat → Int32} {R : Nat} {x : Int32} (h : ∀ r, r < R → Q (f r)) (hx : Q x) : ∀ r, r < R + 1 → Q (upd f R x r) := by
  intro r hr
  by_cases c : r = R
  · rw [c, z_us]; exact hx
  · rw [z_un c]; exact h r (by omega)
theorem SV.add {σ : StT} {R : Nat} (V : SV σ R) (hR : R < 24) {a b c d : Int32} (ha : z_is a 6) (hb : z_is b 6) (hc : z_is c 100) (hd : 1 ≤ d.toInt ∧ d.toInt ≤ 4) : SV (addS σ R a b c d) (R + 1) :=
  ⟨rfl, hR, V.se0, V.se1, V.se2, V.se3, V.se4, V.la, V.de, V.le, V.sa, z_ups (Q := fun x => z_is x 6) V.fl ha, z_ups (Q := fun x => z_is x 6) V.ar hb, z_ups (Q := fun x => z_is x 100) V.dr hc, z_ups (Q := fun x => 1 ≤ x.toInt ∧ x.toInt ≤ 4) V.pe hd⟩
theorem X_add {P : (Nat → Int32) → (Nat → Int32) → (Nat → Int32) → (Nat → Int32) → Int32 → Prop} {σ : StT} {R : Nat} (hr : σ.ri = nI R) (hR : R < 24) {a b c d : Int32} (h : P (upd σ.fl R a) (upd σ.ar R b) (upd σ.dr R c) (upd σ.pe R d) (nI (R + 1))) : wp_X3_addRider P σ a b c d := by
  unfold wp_X3_addRider
  rw [hr]
  refine z_y (by rw [show (24 : Int32) = nI 24 from rfl, z_ltN (by omega) (by omega)]; omega) ⟨z_in hR (by omega), z_in hR (by omega), z_in hR (by omega), z_in hR (by omega), ?_⟩
  rw [z_cl (by omega), z_s]; exact h
theorem M_add {P : (Nat → Int32) → Prop} {σ : StT} {R : Nat} {M : Nat → Int32} (m : SM σ R M) (hR : R < 24) {a b c d : Int32} (h : ∀ M', SM (addS σ R a b c d) (R + 1) M' → P M') : wp_X6_add P M a b c d := by
  unfold wp_X6_add
  rw [z_c33, m.ri]
  intro y ey
  have e : y = nI (34 + 4 * R) := by
    rw [ey, show (4 : Int32) = nI 4 from rfl, show (34 : Int32) = nI 34 from rfl, z_m, z_a]
  subst e
  have e0 : nI (34 + 4 * R) + (0 : Int32) = nI (34 + 4 * R) := z_a0 _
  have e1 : nI (34 + 4 * R) + (1 : Int32) = nI (34 + 4 * R + 1) := z_a _ 1
  have e2 : nI (34 + 4 * R) + (2 : Int32) = nI (34 + 4 * R + 2) := z_a _ 2
  have e3 : nI (34 + 4 * R) + (3 : Int32) = nI (34 + 4 * R + 3) := z_a _ 3
  rw [e0, e1, e2, e3, z_cl (by omega), z_cl (by omega), z_cl (by omega), z_cl (by omega)]
  refine ⟨z_in (by omega) (by omega), z_in (by omega) (by omega), z_in (by omega) (by omega), z_in (by omega) (by omega), h _ ?_⟩
  rw [z_un (f := upd (upd (upd M (34 + 4 * R) a) (34 + 4 * R + 1) b) (34 + 4 * R + 2) c) (by omega), z_un (f := upd (upd M (34 + 4 * R) a) (34 + 4 * R + 1) b) (by omega), z_un (f := upd M (34 + 4 * R) a) (by omega), z_un (f := M) (by omega), m.ri, z_s]
  have low : ∀ k, k < 34 + 4 * R → k ≠ 33 → upd (upd (upd (upd (upd M (34 + 4 * R) a) (34 + 4 * R + 1) b) (34 + 4 * R + 2) c) (34 + 4 * R + 3) d) 33 (nI (R + 1)) k = M k := by
    intro k hk h33
    rw [z_un h33, z_un (by omega), z_un (by omega), z_un (by omega), z_un (by omega)]
  refine ⟨?_, ?_, ?_, ?_, ?_, ?_, ?_, ?_, ?_, ?_⟩
  · intro k hk; rw [low _ (by omega) (by omega)]; exact m.se k hk
  · intro k hk; rw [low _ (by omega) (by omega)]; exact m.la k hk
  · intro k hk; rw [low _ (by omega) (by omega)]; exact m.de k hk
  · intro k hk; rw [low _ (by omega) (by omega)]; exact m.le k hk
  · intro k hk; rw [low _ (by omega) (by omega)]; exact m.sa k hk
  · rw [z_us]
  · intro k hk
    show _ = upd σ.fl R a k
    by_cases g : k = R
    · rw [g, z_un (by omega), z_un (by omega), z_un (by omega), z_un (by omega), z_us, z_us]
    · rw [low _ (by omega) (by omega), z_un g]; exact m.fl k (by omega)
  · intro k hk
    show _ = upd σ.ar R b k
    by_cases g : k = R
    · rw [g, z_un (by omega), z_un (by omega), z_un (by omega), show 35 + 4 * R = 34 + 4 * R + 1 from by omega, z_us, z_us]
    · rw [low _ (by omega) (by omega), z_un g]; exact m.ar k (by omega)
  · intro k hk
    show _ = upd σ.dr R c k
    by_cases g : k = R
    · rw [g, z_un (by omega), z_un (by omega), show 36 + 4 * R = 34 + 4 * R + 2 from by omega, z_us, z_us]
    · rw [low _ (by omega) (by omega), z_un g]; exact m.dr k (by omega)
  · intro k hk
    show _ = upd σ.pe R d k
    by_cases g : k = R
    · rw [g, z_un (by omega), show 37 + 4 * R = 34 + 4 * R + 3 from by omega, z_us, z_us]
    · rw [low _ (by omega) (by omega), z_un g]; exact m.pe k (by omega)
theorem z_isL {x a b : Int32} {n : Nat} (h : a ≤ x ∧ x ≤ b) (ha : a = 0) (hb : b = nI n) (hn : n < 2147483647) : z_is x (n + 1) := by
  rw [z_is_iff (by omega)]
  have h2 := z_b h
  rw [ha, hb, z_nI (by omega), z_00] at h2
  omega
theorem law4 {xs : Nat → Int32} {rec : RecT} {t : Nat} (rok : RecOK rec (t + 1)) {now pln way tri tpl pad his slo Mst Mhi Mhn Msl Msv Mpd Mln Mat Mit Mvf Mdn Mlf Mar Msa Msm Mso} (rel : Rel now pln pad his slo Mst Mhi Mhn Msl Msv Mpd Mln) : lawC4 xs rec t now pln way tri tpl pad his slo Mst Mhi Mhn Msl Msv Mpd Mln Mat Mit Mvf Mdn Mlf Mar Msa Msm Mso := by
  obtain ⟨⟨R, o, V, m, X⟩, ⟨K, hn, f, H, hg⟩, pr, sl⟩ := id rel
  have hR := V.hR
  unfold lawC4
  generalize xs (5 * t + 1) = x1
  generalize xs (5 * t + 2) = x2
  generalize xs (5 * t + 3) = x3
  generalize xs (5 * t + 4) = x4
  by_cases c1 : z_is x1 6
  · refine Xf_t c1 (z_t' ?_)
    by_cases c2 : (0 : Int32) ≤ x2 ∧ x2 ≤ (5 : Int32)
    · refine z_isIn_t c2.1 c2.2 (z_t ?_)
      by_cases c3 : (0 : Int32) ≤ x3 ∧ x3 ≤ (99 : Int32)
      · refine z_isIn_t c3.1 c3.2 (z_t' ?_)
        by_cases c4 : (1 : Int32) ≤ x4 ∧ x4 ≤ (4 : Int32)
        · refine z_isIn_t c4.1 c4.2 (z_t ?_)
          rw [V.ri]
          by_cases c5 : R < 24
          · refine z_y (by rw [show (24 : Int32) = nI 24 from rfl, z_ltN (by omega) (by omega)]; omega) (X_record H (fun hs ol sz hx => X_add V.ri c5 ?_))
            have V' := V.add c5 c1 (z_isL (n := 5) c2 rfl rfl (by omega)) (z_isL (n := 99) c3 rfl rfl (by omega)) (z_b c4)
            refine X_make V' (fun od rd vn pn ao sr sp wt o' hX => ?_)
            refine Mf_t c1 (z_t' (Mw_t c2 (z_t (Mw_t c3 (z_t' (Mw_t c4 (z_t ?_)))))))
            rw [z_c33, m.ri, hn]
            refine z_n' (by rw [show (24 : Int32) = nI 24 from rfl, z_eqN (by omega) (by omega)]; omega) (M_record H.2.1 (fun Mhi' h1 h2 => M_add m c5 (fun M' m' => ?_)))
            refine ⟨?_, rok _ _ _ _ _ _ _ _ _ _ _ _ _ _ _ _ _ _ _ _ _ _ _ _ ⟨⟨R + 1, o', V', m', hX⟩, ⟨_, HR_next V.hR hg H.2.1 V m hx h1 h2⟩, pr, sl⟩⟩
            rw [m'.ri]
          · refine z_n (by rw [show (24 : Int32) = nI 24 from rfl, z_ltN (by omega) (by omega)]; omega) ?_
            refine Mf_t c1 (z_t' (Mw_t c2 (z_t (Mw_t c3 (z_t' (Mw_t c4 (z_t ?_)))))))
            rw [z_c33, m.ri]
            refine z_y' (by rw [show (24 : Int32) = nI 24 from rfl, z_eqN (by omega) (by omega)]; omega) ?_
            rw [← V.ri]
            exact ⟨rfl, rok _ _ _ _ _ _ _ _ _ _ _ _ _ _ _ _ _ _ _ _ _ _ _ _ rel⟩
        · exact z_isIn_f c4 (z_f (Mf_t c1 (z_t' (Mw_t c2 (z_t (Mw_t c3 (z_t' (Mw_f c4 (z_f ⟨rfl, rok _ _ _ _ _ _ _ _ _ _ _ _ _ _ _ _ _ _ _ _ _ _ _ _ rel⟩)))))))))
      · exact z_isIn_f c3 (z_f' (Mf_t c1 (z_t' (Mw_t c2 (z_t (Mw_f c3 (z_f' ⟨rfl, rok _ _ _ _ _ _ _ _ _ _ _ _ _ _ _ _ _ _ _ _ _ _ _ _ rel⟩)))))))
    · exact z_isIn_f c2 (z_f (Mf_t c1 (z_t' (Mw_f c2 (z_f ⟨rfl, rok _ _ _ _ _ _ _ _ _ _ _ _ _ _ _ _ _ _ _ _ _ _ _ _ rel⟩)))))
  · exact Xf_f c1 (z_f' (Mf_f c1 (z_f' ⟨rfl, rok _ _ _ _ _ _ _ _ _ _ _ _ _ _ _ _ _ _ _ _ _ _ _ _ rel⟩)))
theorem law7 {xs : Nat → Int32} {rec : RecT} {t : Nat} (rok : RecOK rec (t + 1)) {now pln way tri tpl pad his slo Mst Mhi Mhn Msl Msv Mpd Mln Mat Mit Mvf Mdn Mlf Mar Msa Msm Mso} (rel : Rel now pln pad his slo Mst Mhi Mhn Msl Msv Mpd Mln) : lawC7 xs rec t now pln way tri tpl pad his slo Mst Mhi Mhn Msl Msv Mpd Mln Mat Mit Mvf Mdn Mlf Mar Msa Msm Mso := by
  obtain ⟨⟨R, o, V, m, X⟩, ⟨K, hn, f, H, hg⟩, pr, sl⟩ := id rel
  have hR := V.hR
  unfold lawC7
  generalize xs (5 * t + 1) = x1
  generalize xs (5 * t + 2) = x2
  by_cases c1 : z_is x1 R
  · refine Xr_t V c1 (z_t' ?_)
    by_cases c2 : z_is x2 6
    · obtain ⟨j, hj, rfl⟩ := id c1
      refine Xf_t c2 (z_t ⟨z_in (by omega) (by omega), ?_⟩)
      rw [z_cl (by omega)]
      by_cases c3 : now.fl j = x2
      · refine z_y' c3 (Mr_t V m c1 (z_t' (Mf_t c2 (z_t (M_of0 V m hj (z_y' c3 ?_))))))
        exact ⟨rfl, rok _ _ _ _ _ _ _ _ _ _ _ _ _ _ _ _ _ _ _ _ _ _ _ _ rel⟩
      · refine z_n' c3 (X_record H (fun hs ol sz hx => ⟨z_in (by omega) (by omega), ?_⟩))
        have V' := V.u_fl (j := j) c2
        have m' := m.u_fl hj x2
        have e : (((34 : Int32) + ((4 : Int32) * nI j)) + (0 : Int32)) = nI (34 + 4 * j) := by
          rw [show (4 : Int32) = nI 4 from rfl, show (34 : Int32) = nI 34 from rfl, z_m, z_a, z_a0]
        refine X_make V' (fun od rd vn pn ao sr sp wt o' hX => ⟨z_in (by omega) (by omega), ?_⟩)
        refine Mr_t V m c1 (z_t' (Mf_t c2 (z_t (M_of0 V m hj (z_n' c3 ?_)))))
        rw [hn]
        refine M_record H.2.1 (fun Mhi' h1 h2 => ?_)
        rw [e, z_cl (by omega), z_cl (by omega)]
        refine ⟨z_in (by omega) (by omega), M_lay V' m' hX.ord (fun Mvf' Mdn' Mlf' Mar' mp => ⟨z_in (by omega) (by omega), ?_⟩)⟩
        exact ⟨(hX.vn j hj).trans (mp.vf j hj).symm, rok _ _ _ _ _ _ _ _ _ _ _ _ _ _ _ _ _ _ _ _ _ _ _ _ ⟨⟨R, o', V', m', hX⟩, ⟨_, HR_next V.hR hg H.2.1 V m hx h1 h2⟩, pr, sl⟩⟩
    · exact Xf_f c2 (z_f (Mr_t V m c1 (z_t' (Mf_f c2 (z_f ⟨rfl, rok _ _ _ _ _ _ _ _ _ _ _ _ _ _ _ _ _ _ _ _ _ _ _ _ rel⟩)))))
  · exact Xr_f V c1 (z_f' (Mr_f V m c1 (z_f' ⟨rfl, rok _ _ _ _ _ _ _ _ _ _ _ _ _ _ _ _ _ _ _ _ _ _ _ _ rel⟩)))
