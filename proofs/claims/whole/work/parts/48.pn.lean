/-! ===== what if ===== -/
theorem upd_back (M : Nat → Int32) (i : Nat) (x : Int32) : upd (upd M i x) i (M i) = M := by
  funext k
  rw [z_upd, z_upd]
  by_cases c : k = i
  · rw [if_pos c, c]
  · rw [if_neg c, if_neg c]
theorem upd_upd (M : Nat → Int32) (i : Nat) (x y : Int32) : upd (upd M i x) i y = upd M i y := by
  funext k
  rw [z_upd, z_upd, z_upd]
  by_cases c : k = i
  · rw [if_pos c, if_pos c]
  · rw [if_neg c, if_neg c, if_neg c]
theorem upd_id (M : Nat → Int32) (i : Nat) : upd M i (M i) = M := by
  funext k
  rw [z_upd]
  by_cases c : k = i
  · rw [if_pos c, c]
  · rw [if_neg c]
theorem law14 {xs : Nat → Int32} {rec : RecT} {t : Nat} (rok : RecOK rec (t + 1)) {now pln way tri tpl pad his slo Mst Mhi Mhn Msl Msv Mpd Mln Mat Mit Mvf Mdn Mlf Mar Msa Msm Mso} (rel : Rel now pln pad his slo Mst Mhi Mhn Msl Msv Mpd Mln) : lawC14 xs rec t now pln way tri tpl pad his slo Mst Mhi Mhn Msl Msv Mpd Mln Mat Mit Mvf Mdn Mlf Mar Msa Msm Mso := by
  obtain ⟨⟨R, o, V, m, X⟩, ⟨K, hn, f, H, hg⟩, pr, sl⟩ := id rel
  have hR := V.hR
  unfold lawC14
  generalize xs (5 * t + 1) = x1
  generalize xs (5 * t + 2) = x2
  generalize xs (5 * t + 3) = x3
  by_cases c1 : z_is x1 6
  · obtain ⟨j, hj, rfl⟩ := id c1
    have e11 : (11 : Int32) + nI j = nI (11 + j) := z_a 11 j
    have i11 : vp_in ((11 : Int32) + nI j) 130 := by rw [e11]; exact z_in (by omega) (by omega)
    have c11 : ((11 : Int32) + nI j).toNatClampNeg = 11 + j := by rw [e11]; exact z_cl (by omega)
    by_cases c2 : (-30 : Int32) ≤ x2 ∧ x2 ≤ (300 : Int32)
    · by_cases c3 : (0 : Int32) ≤ x3 ∧ x3 ≤ (2 : Int32)
      · refine Xf_t c1 (z_t (z_isIn_t c2.1 c2.2 ⟨z_b1, z_t' (z_isIn_t c3.1 c3.2 (z_t ⟨z_in hj (by omega), ?_⟩))⟩))
        rw [z_cl (by omega)]
        have V' := V.u_de (j := j) (z_b c2).1 (z_b c2).2
        have m' := m.u_de hj x2
        refine X_make V' (fun od rd vn pn ao sr sp wt o' hX => ?_)
        have back : upd (upd Mst (11 + j) x2) (11 + j) (Mst (11 + j)) = Mst := upd_back _ _ _
        refine ⟨fun d0 => ⟨fun d1 => ?_, fun d1 => ?_⟩, fun d0 => ?_⟩
        · refine X_lastAt (σ := mkSt now.se now.la (upd now.de j x2) now.le now.sa now.fl now.ar now.dr now.pe now.ri) (pl := mkPl od rd vn pn ao sr sp wt) V' hX.vn (fun N KY WP ky wp mi so hs => ?_)
          refine Mf_t c1 (z_t (Mw_t c2 (z_t' (Mw_t c3 (z_t ⟨i11, i11, ?_⟩)))))
          unfold wp_X6_ifDelayed_86
          rw [c11]
          refine M_lay V' m' hX.ord (fun Mvf' Mdn' Mlf' Mar' mp => z_n' d0 (z_n' d1 (M_last V' m' mp.vf hs (fun _ _ _ => ⟨i11, ?_⟩))))
          rw [back]; exact ⟨rfl, rok _ _ _ _ _ _ _ _ _ _ _ _ _ _ _ _ _ _ _ _ _ _ _ _ rel⟩
        · refine Mf_t c1 (z_t (Mw_t c2 (z_t' (Mw_t c3 (z_t ⟨i11, i11, ?_⟩)))))
          unfold wp_X6_ifDelayed_86
          rw [c11]
          refine M_lay V' m' hX.ord (fun Mvf' Mdn' Mlf' Mar' mp => z_n' d0 (z_y' d1 (M_wt V' m' mp.vf ⟨i11, ?_⟩)))
          rw [back]; exact ⟨hX.wt, rok _ _ _ _ _ _ _ _ _ _ _ _ _ _ _ _ _ _ _ _ _ _ _ _ rel⟩
        · refine Mf_t c1 (z_t (Mw_t c2 (z_t' (Mw_t c3 (z_t ⟨i11, i11, ?_⟩)))))
          unfold wp_X6_ifDelayed_86
          rw [c11]
          refine M_lay V' m' hX.ord (fun Mvf' Mdn' Mlf' Mar' mp => z_y' d0 (M_sp V' m' mp ⟨i11, ?_⟩))
          rw [back]; exact ⟨hX.sp, rok _ _ _ _ _ _ _ _ _ _ _ _ _ _ _ _ _ _ _ _ _ _ _ _ rel⟩
      · exact Xf_t c1 (z_t (z_isIn_t c2.1 c2.2 ⟨z_b1, z_t' (z_isIn_f c3 (z_f (Mf_t c1 (z_t (Mw_t c2 (z_t' (Mw_f c3 (z_f ⟨rfl, rok _ _ _ _ _ _ _ _ _ _ _ _ _ _ _ _ _ _ _ _ _ _ _ _ rel⟩))))))))⟩))
    · exact Xf_t c1 (z_t (z_isIn_f c2 ⟨z_b0, z_f' (Mf_t c1 (z_t (Mw_f c2 (z_f' ⟨rfl, rok _ _ _ _ _ _ _ _ _ _ _ _ _ _ _ _ _ _ _ _ _ _ _ _ rel⟩))))⟩))
  · exact Xf_f c1 (z_f (Mf_f c1 (z_f ⟨rfl, rok _ _ _ _ _ _ _ _ _ _ _ _ _ _ _ _ _ _ _ _ _ _ _ _ rel⟩)))
/-- the best minute of those tried: minute, stranded, waiting -/
def bmS (s w : Nat → Int32) : Nat → Int32 × Int32 × Int32
  | 0 => (0, 0, 0)
  | k + 1 => if k = 0 ∨ s k < (bmS s w k).2.1 ∨ (s k = (bmS s w k).2.1 ∧ w k < (bmS s w k).2.2) then (nI (5 * k), s k, w k) else bmS s w k
def leD (σ : StT) (j : Nat) (x : Int32) : StT := mkSt σ.se σ.la σ.de (upd σ.le j x) σ.sa σ.fl σ.ar σ.dr σ.pe σ.ri
def sB (σ : StT) (R : Nat) (o : Nat → Nat) (j k : Nat) : Int32 := zS (g2 (leD σ j (nI (5 * k))) (bdS (leD σ j (nI (5 * k))) o R).1) R
def wB (σ : StT) (R : Nat) (o : Nat → Nat) (j k : Nat) : Int32 := zS (g3 (leD σ j (nI (5 * k))) (bdS (leD σ j (nI (5 * k))) o R).1) R
theorem leD_V {σ : StT} {R : Nat} (V : SV σ R) {j k : Nat} (hk : k ≤ 300) : SV (leD σ j (nI (5 * k))) R := V.u_le (by rw [z_nI (by omega)]; omega) (by rw [z_nI (by omega)]; omega)
theorem X_best {P : Int32 → (Nat → Int32) → (Nat → Int32) → (Nat → Int32) → (Nat → Int32) → (Nat → Int32) → (Nat → Int32) → (Nat → Int32) → (Nat → Int32) → (Nat → Int32) → Int32 → (Nat → Int32) → (Nat → Int32) → (Nat → Int32) → (Nat → Int32) → (Nat → Int32) → Int32 → Int32 → Int32 → Prop} {σ : StT} {R : Nat} (V : SV σ R) {o : Nat → Nat} (ho : IsOrd (rdS σ) R o) {tri : StT} {tpl : PlT} {j : Nat} (hj : j < 8) {od rd : Nat → Int32} (hod : ∀ j, j < R → od j = nI (o j)) (hrd : ∀ r, r < R → rd r = rdS σ r)
    (h : ∀ se la de le sa fl ar dr pe ri od rd vn pn ao sr sp wt, P (bmS (sB σ R o j) (wB σ R o j) 301).1 se la de le sa fl ar dr pe ri od rd vn pn ao sr sp wt) : ∃ n, wp_X5_bestMinute_42 P σ tri tpl (nI j) σ.se σ.la σ.de σ.sa σ.fl σ.ar σ.dr σ.pe σ.ri od rd n 0 0 0 0 σ.le tpl.vn tpl.pn tpl.ao tpl.sr tpl.sp tpl.wt := by
  suffices hh : ∃ n, ∀ (le vn pn ao : Nat → Int32) (sr sp wt : Int32), (∃ x, le = upd σ.le j x) → wp_X5_bestMinute_42 P σ tri tpl (nI j) σ.se σ.la σ.de σ.sa σ.fl σ.ar σ.dr σ.pe σ.ri od rd n (bmS (sB σ R o j) (wB σ R o j) 0).1 (bmS (sB σ R o j) (wB σ R o j) 0).2.1 (bmS (sB σ R o j) (wB σ R o j) 0).2.2 (nI (5 * 0)) le vn pn ao sr sp wt by
    obtain ⟨n, hn⟩ := hh
    exact ⟨n, hn _ _ _ _ _ _ _ ⟨σ.le j, (upd_id _ _).symm⟩⟩
  refine z_up (fun n k => ∀ (le vn pn ao : Nat → Int32) (sr sp wt : Int32), (∃ x, le = upd σ.le j x) → wp_X5_bestMinute_42 P σ tri tpl (nI j) σ.se σ.la σ.de σ.sa σ.fl σ.ar σ.dr σ.pe σ.ri od rd n (bmS (sB σ R o j) (wB σ R o j) k).1 (bmS (sB σ R o j) (wB σ R o j) k).2.1 (bmS (sB σ R o j) (wB σ R o j) k).2.2 (nI (5 * k)) le vn pn ao sr sp wt) 301 (fun n => ?_) (fun n k hk ih => ?_) 0 (by omega)
  · intro le vn pn ao sr sp wt _
    exact z_y (by rw [show (1500 : Int32) = nI 1500 from rfl, z_ltN (by omega) (by omega)]; omega) (h _ _ _ _ _ _ _ _ _ _ _ _ _ _ _ _ _ _)
  · intro le vn pn ao sr sp wt hle
    obtain ⟨x, rfl⟩ := hle
    refine z_n (by rw [show (1500 : Int32) = nI 1500 from rfl, z_ltN (by omega) (by omega)]; omega) ⟨z_in hj (by omega), ?_⟩
    have V' := leD_V V (j := j) (k := k) (by omega)
    rw [z_cl (by omega), upd_upd]
    refine X_board (σ := leD σ j (nI (5 * k))) (R := R) V' (o := o) ho (pl := mkPl od rd vn pn ao sr sp wt) hod hrd (fun vn' pn' ao' sr' sp' wt' hX => ?_)
    have e1 : sp' = sB σ R o j k := hX.sp
    have e2 : wt' = wB σ R o j k := hX.wt
    rw [e1, e2]
    have e5 : nI (5 * k) + 5 = nI (5 * (k + 1)) := z_a (5 * k) 5
    unfold wp_X5_bestMinute_114
    rw [e5]
    have take : (k = 0 ∨ sB σ R o j k < (bmS (sB σ R o j) (wB σ R o j) k).2.1 ∨ (sB σ R o j k = (bmS (sB σ R o j) (wB σ R o j) k).2.1 ∧ wB σ R o j k < (bmS (sB σ R o j) (wB σ R o j) k).2.2)) → wp_X5_bestMinute_42 P σ tri tpl (nI j) σ.se σ.la σ.de σ.sa σ.fl σ.ar σ.dr σ.pe σ.ri od rd n (nI (5 * k)) (sB σ R o j k) (wB σ R o j k) (nI (5 * (k + 1))) (upd σ.le j (nI (5 * k))) vn' pn' ao' sr' (sB σ R o j k) (wB σ R o j k) := by
      intro c
      have := ih (upd σ.le j (nI (5 * k))) vn' pn' ao' sr' (sB σ R o j k) (wB σ R o j k) ⟨_, rfl⟩
      rw [bmS, if_pos c] at this
      exact this
    have keep : ¬ (k = 0 ∨ sB σ R o j k < (bmS (sB σ R o j) (wB σ R o j) k).2.1 ∨ (sB σ R o j k = (bmS (sB σ R o j) (wB σ R o j) k).2.1 ∧ wB σ R o j k < (bmS (sB σ R o j) (wB σ R o j) k).2.2)) → wp_X5_bestMinute_42 P σ tri tpl (nI j) σ.se σ.la σ.de σ.sa σ.fl σ.ar σ.dr σ.pe σ.ri od rd n (bmS (sB σ R o j) (wB σ R o j) k).1 (bmS (sB σ R o j) (wB σ R o j) k).2.1 (bmS (sB σ R o j) (wB σ R o j) k).2.2 (nI (5 * (k + 1))) (upd σ.le j (nI (5 * k))) vn' pn' ao' sr' (sB σ R o j k) (wB σ R o j k) := by
      intro c
      have := ih (upd σ.le j (nI (5 * k))) vn' pn' ao' sr' (sB σ R o j k) (wB σ R o j k) ⟨_, rfl⟩
      rw [bmS, if_neg c] at this
      exact this
    have z0 : nI (5 * k) = 0 ↔ k = 0 := by
      rw [show (0 : Int32) = nI 0 from rfl, z_eqN (by omega) (by omega)]; omega
    refine ⟨fun a => ⟨fun b => take (Or.inl (z0.mp b)), fun b => z_t' (take (Or.inr (Or.inl a)))⟩, fun a => ⟨fun b => ⟨fun c => take (Or.inl (z0.mp c)), fun c => z_f' (keep ?_)⟩, fun b => ⟨fun d => ⟨fun c => take (Or.inl (z0.mp c)), fun c => z_f' (keep ?_)⟩, fun d => ⟨fun c => take (Or.inl (z0.mp c)), fun c => z_t' (take (Or.inr (Or.inr ⟨b, ?_⟩)))⟩⟩⟩⟩
    · rintro (e | e | e)
      · exact c (z0.mpr e)
      · exact a e
      · exact b e.1
    · rintro (e | e | e)
      · exact c (z0.mpr e)
      · exact a e
      · have := e.2; rw [z_lt] at this; rw [z_le] at d; omega
    · rw [z_lt]; rw [z_le] at d; omega
theorem M_best {P : Int32 → (Nat → Int32) → (Nat → Int32) → (Nat → Int32) → (Nat → Int32) → (Nat → Int32) → Prop} {σ : StT} {R : Nat} {M Mvf0 Mdn0 Mlf0 Mar0 : Nat → Int32} (V : SV σ R) (m : SM σ R M) {o : Nat → Nat} (ho : IsOrd (rdS σ) R o) {j : Nat} (hj : j < 8)
    (h : ∀ Mvf Mdn Mlf Mar, P (bmS (sB σ R o j) (wB σ R o j) 301).1 M Mvf Mdn Mlf Mar) : ∃ n, wp_X6_bestMinute_31 P (nI j) (M (17 + j)) n 0 0 0 0 M Mvf0 Mdn0 Mlf0 Mar0 := by
  have e17 : (17 : Int32) + nI j = nI (17 + j) := z_a 17 j
  have i17 : vp_in ((17 : Int32) + nI j) 130 := by rw [e17]; exact z_in (by omega) (by omega)
  have c17 : ((17 : Int32) + nI j).toNatClampNeg = 17 + j := by rw [e17]; exact z_cl (by omega)
  suffices hh : ∃ n, ∀ (x : Int32) (Mvf Mdn Mlf Mar : Nat → Int32), wp_X6_bestMinute_31 P (nI j) (M (17 + j)) n (bmS (sB σ R o j) (wB σ R o j) 0).1 (bmS (sB σ R o j) (wB σ R o j) 0).2.1 (bmS (sB σ R o j) (wB σ R o j) 0).2.2 (nI (5 * 0)) (upd M (17 + j) x) Mvf Mdn Mlf Mar by
    obtain ⟨n, hn⟩ := hh
    have := hn (M (17 + j)) Mvf0 Mdn0 Mlf0 Mar0
    rw [upd_id] at this
    exact ⟨n, this⟩
  refine z_up (fun n k => ∀ (x : Int32) (Mvf Mdn Mlf Mar : Nat → Int32), wp_X6_bestMinute_31 P (nI j) (M (17 + j)) n (bmS (sB σ R o j) (wB σ R o j) k).1 (bmS (sB σ R o j) (wB σ R o j) k).2.1 (bmS (sB σ R o j) (wB σ R o j) k).2.2 (nI (5 * k)) (upd M (17 + j) x) Mvf Mdn Mlf Mar) 301 (fun n => ?_) (fun n k hk ih => ?_) 0 (by omega)
  · intro x Mvf Mdn Mlf Mar
    refine z_y (by rw [show (1500 : Int32) = nI 1500 from rfl, z_ltN (by omega) (by omega)]; omega) ⟨i17, ?_⟩
    rw [c17, upd_back]; exact h _ _ _ _
  · intro x Mvf Mdn Mlf Mar
    refine z_n (by rw [show (1500 : Int32) = nI 1500 from rfl, z_ltN (by omega) (by omega)]; omega) ⟨i17, ?_⟩
    have V' := leD_V V (j := j) (k := k) (by omega)
    have m' : SM (leD σ j (nI (5 * k))) R (upd M (17 + j) (nI (5 * k))) := m.u_le hj _
    have e5 : nI (5 * k) + 5 = nI (5 * (k + 1)) := z_a (5 * k) 5
    rw [c17, upd_upd, e5]
    have z0 : nI (5 * k) = 0 ↔ k = 0 := by
      rw [show (0 : Int32) = nI 0 from rfl, z_eqN (by omega) (by omega)]; omega
    refine M_lay V' m' (o := o) ho (fun Mvf' Mdn' Mlf' Mar' mp => M_sp V' m' mp (M_wt V' m' mp.vf ?_))
    have take : (k = 0 ∨ sB σ R o j k < (bmS (sB σ R o j) (wB σ R o j) k).2.1 ∨ (sB σ R o j k = (bmS (sB σ R o j) (wB σ R o j) k).2.1 ∧ wB σ R o j k < (bmS (sB σ R o j) (wB σ R o j) k).2.2)) → wp_X6_bestMinute_31 P (nI j) (M (17 + j)) n (nI (5 * k)) (sB σ R o j k) (wB σ R o j k) (nI (5 * (k + 1))) (upd M (17 + j) (nI (5 * k))) Mvf' Mdn' Mlf' Mar' := by
      intro c
      have := ih (nI (5 * k)) Mvf' Mdn' Mlf' Mar'
      rw [bmS, if_pos c] at this
      exact this
    have keep : ¬ (k = 0 ∨ sB σ R o j k < (bmS (sB σ R o j) (wB σ R o j) k).2.1 ∨ (sB σ R o j k = (bmS (sB σ R o j) (wB σ R o j) k).2.1 ∧ wB σ R o j k < (bmS (sB σ R o j) (wB σ R o j) k).2.2)) → wp_X6_bestMinute_31 P (nI j) (M (17 + j)) n (bmS (sB σ R o j) (wB σ R o j) k).1 (bmS (sB σ R o j) (wB σ R o j) k).2.1 (bmS (sB σ R o j) (wB σ R o j) k).2.2 (nI (5 * (k + 1))) (upd M (17 + j) (nI (5 * k))) Mvf' Mdn' Mlf' Mar' := by
      intro c
      have := ih (nI (5 * k)) Mvf' Mdn' Mlf' Mar'
      rw [bmS, if_neg c] at this
      exact this
    refine ⟨fun c => take (Or.inl (z0.mp c)), fun c => ⟨fun a => take (Or.inr (Or.inl a)), fun a => ⟨fun b => keep ?_, fun b => ⟨fun d => keep ?_, fun d => take (Or.inr (Or.inr ⟨b, ?_⟩))⟩⟩⟩⟩
    · rintro (e | e | e)
      · exact c (z0.mpr e)
      · exact a e
      · exact b e.1
    · rintro (e | e | e)
      · exact c (z0.mpr e)
      · exact a e
      · have d' : (bmS (sB σ R o j) (wB σ R o j) k).2.2 ≤ wB σ R o j k := d
        have := e.2; rw [z_lt] at this; rw [z_le] at d'; omega
    · have d' : ¬ (bmS (sB σ R o j) (wB σ R o j) k).2.2 ≤ wB σ R o j k := d
      show wB σ R o j k < _
      rw [z_lt]; rw [z_le] at d'; omega
theorem law16 {xs : Nat → Int32} {rec : RecT} {t : Nat} (rok : RecOK rec (t + 1)) {now pln way tri tpl pad his slo Mst Mhi Mhn Msl Msv Mpd Mln Mat Mit Mvf Mdn Mlf Mar Msa Msm Mso} (rel : Rel now pln pad his slo Mst Mhi Mhn Msl Msv Mpd Mln) : lawC16 xs rec t now pln way tri tpl pad his slo Mst Mhi Mhn Msl Msv Mpd Mln Mat Mit Mvf Mdn Mlf Mar Msa Msm Mso := by
  obtain ⟨⟨R, o, V, m, X⟩, ⟨K, hn, f, H, hg⟩, pr, sl⟩ := id rel
  have hR := V.hR
  unfold lawC16
  generalize xs (5 * t + 1) = x1
  by_cases c1 : z_is x1 8
  · obtain ⟨j, hj, rfl⟩ := id c1
    have e17 : (17 : Int32) + nI j = nI (17 + j) := z_a 17 j
    have i17 : vp_in ((17 : Int32) + nI j) 130 := by rw [e17]; exact z_in (by omega) (by omega)
    have c17 : ((17 : Int32) + nI j).toNatClampNeg = 17 + j := by rw [e17]; exact z_cl (by omega)
    refine Xv_t c1 (z_t (X_lineUp (σ := now) V (fun od rd o' ho' hod hrd => X_best V ho' hj hod hrd (fun se la de le sa fl ar dr pe ri od rd vn pn ao sr sp wt => ?_))))
    refine Mv_t c1 (z_t ⟨i17, ?_⟩)
    rw [c17]
    exact M_best V m ho' hj (fun _ _ _ _ => ⟨rfl, rok _ _ _ _ _ _ _ _ _ _ _ _ _ _ _ _ _ _ _ _ _ _ _ _ rel⟩)
  · exact Xv_f c1 (z_f (Mv_f c1 (z_f ⟨rfl, rok _ _ _ _ _ _ _ _ _ _ _ _ _ _ _ _ _ _ _ _ _ _ _ _ rel⟩)))
