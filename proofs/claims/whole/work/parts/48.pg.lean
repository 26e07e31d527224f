/-! ===== cancel ===== -/
def shf (s : Nat) (f : Nat → Int32) (a k : Nat) : Nat → Int32 := fun i => if a ≤ i ∧ i < k then f (i + s) else f i
theorem shf_0 (s : Nat) (f : Nat → Int32) (a : Nat) : shf s f a a = f := funext fun i => if_neg (by omega)
theorem shf_s {s : Nat} {f : Nat → Int32} {a k : Nat} (h : a ≤ k) (hs : 0 < s) : upd (shf s f a k) k (shf s f a k (k + s)) = shf s f a (k + 1) := by
  funext i
  rw [z_upd]
  unfold shf
  by_cases c : i = k
  · rw [if_pos c, if_neg (by omega), if_pos (by omega), c]
  · rw [if_neg c]
    by_cases d : a ≤ i ∧ i < k
    · rw [if_pos d, if_pos (by omega)]
    · rw [if_neg d, if_neg (by omega)]
def remS (σ : StT) (r Q : Nat) : StT := mkSt σ.se σ.la σ.de σ.le σ.sa (shf 1 σ.fl r Q) (shf 1 σ.ar r Q) (shf 1 σ.dr r Q) (shf 1 σ.pe r Q) (nI Q)
theorem X_rem {P : (Nat → Int32) → (Nat → Int32) → (Nat → Int32) → (Nat → Int32) → Int32 → Prop} {σ : StT} {Q r : Nat} (V : SV σ (Q + 1)) (hr : r < Q + 1) (h : P (shf 1 σ.fl r Q) (shf 1 σ.ar r Q) (shf 1 σ.dr r Q) (shf 1 σ.pe r Q) (nI Q)) : wp_X3_removeRider P σ (nI r) := by
  have hR := V.hR
  have e : ∃ n, wp_X3_removeRider_2 P σ (nI r) σ.ri n (nI r) (shf 1 σ.fl r r) (shf 1 σ.ar r r) (shf 1 σ.dr r r) (shf 1 σ.pe r r) := by
    rw [V.ri]
    refine z_up (fun n k => r ≤ k → wp_X3_removeRider_2 P σ (nI r) (nI (Q + 1)) n (nI k) (shf 1 σ.fl r k) (shf 1 σ.ar r k) (shf 1 σ.dr r k) (shf 1 σ.pe r k)) Q (fun n => ?_) (fun n k hk ih => ?_) r (by omega) |>.imp (fun n hn => hn (Nat.le_refl r))
    · intro _
      unfold wp_X3_removeRider_2 wp_X3_removeRider_2F
      rw [z_p]
      exact z_y (by rw [z_leN (by omega) (by omega)]; omega) h
    · intro hrk
      unfold wp_X3_removeRider_2 wp_X3_removeRider_2F
      rw [z_p, z_s]
      refine z_n (by rw [z_leN (by omega) (by omega)]; omega) ?_
      rw [z_cl (by omega), z_cl (by omega)]
      rw [shf_s hrk (by omega), shf_s hrk (by omega), shf_s hrk (by omega), shf_s hrk (by omega)]
      have i1 : vp_in (nI (k + 1)) 24 := z_in (by omega) (by omega)
      have i2 : vp_in (nI k) 24 := z_in (by omega) (by omega)
      exact ⟨i1, i2, i1, i2, i1, i2, i1, i2, ih (by omega)⟩
  rw [shf_0, shf_0, shf_0, shf_0] at e
  exact e
theorem shf_in {s : Nat} {f : Nat → Int32} {a k i : Nat} (h : a ≤ i) (h2 : i < k) : shf s f a k i = f (i + s) := if_pos ⟨h, h2⟩
theorem shf_out {s : Nat} {f : Nat → Int32} {a k i : Nat} (h : i < a ∨ k ≤ i) : shf s f a k i = f i := if_neg (by omega)
theorem z_shf {T : Int32 → Prop} {f : Nat → Int32} {Q r : Nat} (h : ∀ i, i < Q + 1 → T (f i)) : ∀ i, i < Q → T (shf 1 f r Q i) := by
  intro i hi
  by_cases c : r ≤ i
  · rw [shf_in c hi]; exact h _ (by omega)
  · rw [shf_out (by omega)]; exact h _ (by omega)
theorem SV.rem {σ : StT} {Q r : Nat} (V : SV σ (Q + 1)) : SV (remS σ r Q) Q :=
  ⟨rfl, by have := V.hR; omega, V.se0, V.se1, V.se2, V.se3, V.se4, V.la, V.de, V.le, V.sa, z_shf (T := fun x => z_is x 6) V.fl, z_shf (T := fun x => z_is x 6) V.ar, z_shf (T := fun x => z_is x 100) V.dr, z_shf (T := fun x => 1 ≤ x.toInt ∧ x.toInt ≤ 4) V.pe⟩
theorem SM.rem {σ : StT} {Q r : Nat} {M : Nat → Int32} (m : SM σ (Q + 1) M) (hr : r < Q + 1) : SM (remS σ r Q) Q (shf 4 (upd M 33 (nI Q)) (34 + 4 * r) (34 + 4 * Q)) := by
  have low : ∀ k, k < 34 → k ≠ 33 → shf 4 (upd M 33 (nI Q)) (34 + 4 * r) (34 + 4 * Q) k = M k := fun k hk h33 => by rw [shf_out (by omega), z_un h33]
  have hi : ∀ (b : Nat) (f : Nat → Int32), b < 4 → (∀ k, k < Q + 1 → M (34 + b + 4 * k) = f k) → ∀ k, k < Q → shf 4 (upd M 33 (nI Q)) (34 + 4 * r) (34 + 4 * Q) (34 + b + 4 * k) = shf 1 f r Q k := by
    intro b f hb hf k hk
    by_cases c : r ≤ k
    · rw [shf_in (by omega) (by omega), shf_in c hk, z_un (by omega), show 34 + b + 4 * k + 4 = 34 + b + 4 * (k + 1) from by omega]
      exact hf _ (by omega)
    · rw [shf_out (by omega), shf_out (by omega), z_un (by omega)]
      exact hf _ (by omega)
  refine ⟨?_, ?_, ?_, ?_, ?_, ?_, ?_, ?_, ?_, ?_⟩
  · intro k hk; rw [low _ (by omega) (by omega)]; exact m.se k hk
  · intro k hk; rw [low _ (by omega) (by omega)]; exact m.la k hk
  · intro k hk; rw [low _ (by omega) (by omega)]; exact m.de k hk
  · intro k hk; rw [low _ (by omega) (by omega)]; exact m.le k hk
  · intro k hk; rw [low _ (by omega) (by omega)]; exact m.sa k hk
  · rw [shf_out (by omega), z_us]
  · exact hi 0 σ.fl (by omega) m.fl
  · exact hi 1 σ.ar (by omega) m.ar
  · exact hi 2 σ.dr (by omega) m.dr
  · exact hi 3 σ.pe (by omega) m.pe
theorem law6 {xs : Nat → Int32} {rec : RecT} {t : Nat} (rok : RecOK rec (t + 1)) {now pln way tri tpl pad his slo Mst Mhi Mhn Msl Msv Mpd Mln Mat Mit Mvf Mdn Mlf Mar Msa Msm Mso} (rel : Rel now pln pad his slo Mst Mhi Mhn Msl Msv Mpd Mln) : lawC6 xs rec t now pln way tri tpl pad his slo Mst Mhi Mhn Msl Msv Mpd Mln Mat Mit Mvf Mdn Mlf Mar Msa Msm Mso := by
  obtain ⟨⟨R, o, V, m, X⟩, ⟨K, hn, f, H, hg⟩, pr, sl⟩ := id rel
  have hR := V.hR
  unfold lawC6
  generalize xs (5 * t + 1) = x1
  by_cases c1 : z_is x1 R
  · obtain ⟨r, hr, rfl⟩ := id c1
    obtain ⟨Q, rfl⟩ : ∃ Q, R = Q + 1 := ⟨R - 1, by omega⟩
    refine Xr_t V c1 (z_t (X_fare V X.vn hr (X_record H (fun hs ol sz hx => X_rem V hr ?_))))
    have V' := V.rem (r := r)
    have m' := m.rem hr
    refine X_make (σ := remS now r Q) V' (fun od rd vn pn ao sr sp wt o' hX => ?_)
    refine Mr_t V m c1 (z_t (M_lay V m X.ord (fun Mvf' Mdn' Mlf' Mar' mp => M_fare V m mp.vf hr ?_)))
    rw [hn]
    refine M_record H.2.1 (fun Mhi' h1 h2 => ?_)
    rw [z_c33, m.ri, z_p]
    have ea : (34 : Int32) + ((4 : Int32) * nI r) = nI (34 + 4 * r) := by
      rw [show (4 : Int32) = nI 4 from rfl, show (34 : Int32) = nI 34 from rfl, z_m, z_a]
    have eb : (34 : Int32) + ((4 : Int32) * nI Q) = nI (34 + 4 * Q) := by
      rw [show (4 : Int32) = nI 4 from rfl, show (34 : Int32) = nI 34 from rfl, z_m, z_a]
    rw [ea]
    generalize hP : (fun (rm : Int32) (Mst' Mhi' : Nat → Int32) (Mhn' : Int32) (Mvf' Mdn' Mlf' Mar' : Nat → Int32) => frS now (bdS now o (Q + 1)) (Q + 1) r = rm ∧ rec (t + 1) (mkSt now.se now.la now.de now.le now.sa (shf 1 now.fl r Q) (shf 1 now.ar r Q) (shf 1 now.dr r Q) (shf 1 now.pe r Q) (nI Q)) (mkPl od rd vn pn ao sr sp wt) way tri tpl pad (mkHi hs ol sz) slo Mst' Mhi' Mhn' Msl Msv Mpd Mln Mat Mit Mvf' Mdn' Mlf' Mar' Msa Msm Mso) = P
    have e : ∃ n, wp_X6_cancel_43 P (nI r) (frS now (bdS now o (Q + 1)) (Q + 1) r) Mhi' (nI (kp K + 1)) Mvf' Mdn' Mlf' Mar' n (nI (34 + 4 * r)) (shf 4 (upd Mst 33 (nI Q)) (34 + 4 * r) (34 + 4 * r)) := by
      refine z_up (fun n k => 34 + 4 * r ≤ k → wp_X6_cancel_43 P (nI r) (frS now (bdS now o (Q + 1)) (Q + 1) r) Mhi' (nI (kp K + 1)) Mvf' Mdn' Mlf' Mar' n (nI k) (shf 4 (upd Mst 33 (nI Q)) (34 + 4 * r) k)) (34 + 4 * Q) (fun n => ?_) (fun n k hk ih => ?_) (34 + 4 * r) (by omega) |>.imp (fun n hn => hn (Nat.le_refl _))
      · intro _
        unfold wp_X6_cancel_43 wp_X6_cancel_43F
        rw [z_c33, shf_out (by omega), z_us, eb]
        refine z_y (by rw [z_leN (by omega) (by omega)]; omega) ?_
        rw [← hP]
        exact ⟨rfl, rok _ _ _ _ _ _ _ _ _ _ _ _ _ _ _ _ _ _ _ _ _ _ _ _ ⟨⟨Q, o', V', m', hX⟩, ⟨_, HR_next V.hR hg H.2.1 V m hx h1 h2⟩, pr, sl⟩⟩
      · intro hrk
        unfold wp_X6_cancel_43 wp_X6_cancel_43F
        rw [z_c33, shf_out (i := 33) (by omega), z_us, eb]
        have e4 : nI k + (4 : Int32) = nI (k + 4) := z_a k 4
        refine z_n (by rw [z_leN (by omega) (by omega)]; omega) ?_
        rw [e4, z_s, z_cl (by omega), z_cl (by omega), shf_s hrk (by omega)]
        exact ⟨z_in (by omega) (by omega), z_in (by omega) (by omega), ih (by omega)⟩
    rw [shf_0] at e
    exact e
  · exact Xr_f V c1 (z_f (Mr_f V m c1 (z_f ⟨rfl, rok _ _ _ _ _ _ _ _ _ _ _ _ _ _ _ _ _ _ _ _ _ _ _ _ rel⟩)))
