/-! ===== counts ===== -/
theorem X_allPeople {P : Int32 → Prop} {σ : StT} {R : Nat} (V : SV σ R) (h : P (zS σ.pe R)) : wp_X3_allPeople P σ := by
  have hR := V.hR
  refine z_up (fun n k => wp_X3_allPeople_4 P σ n (zS σ.pe k) (nI k)) R (fun n => ?_) (fun n k hk ih => ?_) 0 (by omega)
  · exact z_y (by rw [V.ri, z_leN (by omega) (by omega)]; omega) h
  · refine z_n (by rw [V.ri, z_leN (by omega) (by omega)]; omega) ⟨z_in (by omega) (by omega), ?_⟩
    rw [z_cl (by omega), z_s]; exact ih
theorem zS_add {f g : Nat → Int32} : ∀ {k : Nat}, zS (fun j => f j + g j) k = zS f k + zS g k
  | 0 => rfl
  | k + 1 => by
    show zS (fun j => f j + g j) k + (f k + g k) = zS f k + f k + (zS g k + g k)
    rw [zS_add, Int32.add_assoc, Int32.add_assoc, ← Int32.add_assoc (zS g k), Int32.add_comm (zS g k) (f k), Int32.add_assoc]
theorem zS_swap {F : Nat → Nat → Int32} {R : Nat} : ∀ {n : Nat}, zS (fun f => zS (F f) R) n = zS (fun r => zS (fun f => F f r) n) R
  | 0 => (zS_0 (fun _ _ => rfl)).symm
  | n + 1 => by
    show zS (fun f => zS (F f) R) n + zS (F n) R = zS (fun r => zS (fun f => F f r) n + F n r) R
    rw [zS_swap, zS_add]
theorem po_all {σ : StT} {R : Nat} (V : SV σ R) {b : BT} : zS (fun f => zS (poS σ b f false) R) 6 = zS σ.pe R := by
  rw [zS_swap]
  apply zS_congr
  intro r hr
  obtain ⟨j, hj, e⟩ := V.fl r hr
  have h1 : zS (fun f => poS σ b f false r) 6 = zS (upd (fun _ => 0) j (σ.pe r)) 6 := by
    apply zS_congr
    intro f hf
    rw [z_upd]
    by_cases c : f = j
    · rw [if_pos c]; exact if_pos ⟨by rw [e, c], fun a => by cases a⟩
    · rw [if_neg c]
      refine if_neg (fun g => c ?_)
      have := g.1
      rw [e, z_eqN (by omega) (by omega)] at this
      exact this.symm
  show zS (fun f => poS σ b f false r) 6 = σ.pe r
  rw [h1, zS_upd rfl hj, zS_0 (fun _ _ => rfl), Int32.zero_add]
theorem M_allPeople {P : Int32 → Prop} {σ : StT} {R : Nat} {M Mvf : Nat → Int32} (V : SV σ R) (m : SM σ R M) {o : Nat → Nat} (hv : ∀ r, r < R → Mvf r = enc ((bdS σ o R).1 r)) (h : P (zS σ.pe R)) : wp_X6_allPeople P M Mvf := by
  rw [← po_all V (b := bdS σ o R)] at h
  refine z_up (fun n k => wp_X6_allPeople_4 P M Mvf n (zS (fun f => zS (poS σ (bdS σ o R) f false) R) k) (nI k)) 6 (fun n => ?_) (fun n k hk ih => ?_) 0 (by omega)
  · exact z_y (by decide) h
  · refine z_n (by rw [show (6 : Int32) = nI 6 from rfl, z_leN (by omega) (by omega)]; omega) (M_people V m hv false ?_)
    rw [z_s]; exact ih
theorem M_sr {P : Int32 → Prop} {σ : StT} {R : Nat} {M Mvf : Nat → Int32} (V : SV σ R) (m : SM σ R M) {o : Nat → Nat} (hv : ∀ r, r < R → Mvf r = enc ((bdS σ o R).1 r)) (h : P (zS (g1 (bdS σ o R).1) R)) : wp_X6_strandedRiders P M Mvf := by
  have hR := V.hR
  refine z_up (fun n k => wp_X6_strandedRiders_4 P M Mvf n (zS (g1 (bdS σ o R).1) k) (nI k)) R (fun n => ?_) (fun n k hk ih => ?_) 0 (by omega)
  · exact z_y (by rw [z_c33, m.ri, z_leN (by omega) (by omega)]; omega) h
  · refine z_n (by rw [z_c33, m.ri, z_leN (by omega) (by omega)]; omega) ⟨z_in (by omega) (by omega), ?_⟩
    rw [z_cl (by omega), z_s, hv k hk]
    have e : zS (g1 (bdS σ o R).1) (k + 1) = zS (g1 (bdS σ o R).1) k + g1 (bdS σ o R).1 k := rfl
    cases c : (bdS σ o R).1 k with
    | none =>
      have e2 : g1 (bdS σ o R).1 k = 1 := by unfold g1; rw [c]
      rw [e, e2] at ih
      exact z_y' rfl ih
    | some v =>
      have hv8 := bdV c
      have e2 : g1 (bdS σ o R).1 k = 0 := by unfold g1; rw [c]
      rw [e, e2] at ih
      exact z_n' (z_106 v (by omega)) ih
theorem M_wt {P : Int32 → Prop} {σ : StT} {R : Nat} {M Mvf : Nat → Int32} (V : SV σ R) (m : SM σ R M) {o : Nat → Nat} (hv : ∀ r, r < R → Mvf r = enc ((bdS σ o R).1 r)) (h : P (zS (g3 σ (bdS σ o R).1) R)) : wp_X6_waiting P M Mvf := by
  have hR := V.hR
  refine z_up (fun n k => wp_X6_waiting_4 P M Mvf n (zS (g3 σ (bdS σ o R).1) k) (nI k)) R (fun n => ?_) (fun n k hk ih => ?_) 0 (by omega)
  · exact z_y (by rw [z_c33, m.ri, z_leN (by omega) (by omega)]; omega) h
  · have ik : vp_in (nI k) 24 := z_in (by omega) (by omega)
    refine z_n (by rw [z_c33, m.ri, z_leN (by omega) (by omega)]; omega) ⟨ik, ?_⟩
    rw [z_cl (by omega), z_s, hv k hk]
    have e : zS (g3 σ (bdS σ o R).1) (k + 1) = zS (g3 σ (bdS σ o R).1) k + g3 σ (bdS σ o R).1 k := rfl
    cases c : (bdS σ o R).1 k with
    | none =>
      have e2 : g3 σ (bdS σ o R).1 k = 0 := by unfold g3; rw [c]
      rw [e, e2] at ih
      exact z_y' rfl ih
    | some v =>
      have hv8 := bdV c
      have e2 : g3 σ (bdS σ o R).1 k = σ.pe k * (σ.le v - rdS σ k) := by unfold g3; rw [c]
      rw [e, e2] at ih
      have e17 : (17 : Int32) + enc (some v) = nI (17 + v) := z_a 17 v
      refine z_n' (z_106 v (by omega)) (M_of3 V m hk ⟨ik, ?_⟩)
      rw [e17, z_cl (by omega), m.le v hv8]
      refine ⟨z_in (by omega) (by omega), M_rd V m hk (fun y ey => ?_)⟩
      rw [ey]; exact ih
theorem X_allFares {P : Int32 → Prop} {σ : StT} {R : Nat} (V : SV σ R) {o : Nat → Nat} {pl : PlT} (hv : ∀ r, r < R → pl.vn r = enc ((bdS σ o R).1 r)) (h : P (zS (frS σ (bdS σ o R) R) R)) : wp_X5_allFares P σ pl := by
  have hR := V.hR
  refine z_up (fun n k => wp_X5_allFares_4 P σ pl n (zS (frS σ (bdS σ o R) R) k) (nI k)) R (fun n => ?_) (fun n k hk ih => ?_) 0 (by omega)
  · exact z_y (by rw [V.ri, z_leN (by omega) (by omega)]; omega) h
  · refine z_n (by rw [V.ri, z_leN (by omega) (by omega)]; omega) (X_fare V hv hk ?_)
    rw [z_s]; exact ih
theorem M_allFares {P : Int32 → Prop} {σ : StT} {R : Nat} {M Mvf : Nat → Int32} (V : SV σ R) (m : SM σ R M) {o : Nat → Nat} (hv : ∀ r, r < R → Mvf r = enc ((bdS σ o R).1 r)) (h : P (zS (frS σ (bdS σ o R) R) R)) : wp_X6_allFares P M Mvf := by
  have hR := V.hR
  refine z_up (fun n k => wp_X6_allFares_4 P M Mvf n (zS (frS σ (bdS σ o R) R) k) (nI k)) R (fun n => ?_) (fun n k hk ih => ?_) 0 (by omega)
  · exact z_y (by rw [z_c33, m.ri, z_leN (by omega) (by omega)]; omega) h
  · refine z_n (by rw [z_c33, m.ri, z_leN (by omega) (by omega)]; omega) (M_fare V m hv hk ?_)
    rw [z_s]; exact ih
def uvS (pn : Nat → Int32) (v : Nat) : Int32 := if pn v ≤ 0 then 0 else 1
theorem X_used {P : Int32 → Prop} {pl : PlT} {pn : Nat → Int32} (hp : ∀ v, v < 8 → pl.pn v = pn v) (h : P (zS (uvS pn) 8)) : wp_X2_vansWithRiders P pl := by
  refine z_up (fun n k => wp_X2_vansWithRiders_4 P pl n (zS (uvS pn) k) (nI k)) 8 (fun n => ?_) (fun n k hk ih => ?_) 0 (by omega)
  · exact z_y (by decide) h
  · refine z_n (by rw [show (8 : Int32) = nI 8 from rfl, z_leN (by omega) (by omega)]; omega) ⟨z_in hk (by omega), ?_⟩
    rw [z_cl (by omega), hp k hk, z_s]
    have e : zS (uvS pn) (k + 1) = zS (uvS pn) k + uvS pn k := rfl
    rw [e] at ih
    by_cases c : pn k ≤ 0
    · have e2 : uvS pn k = 0 := if_pos c
      rw [e2, z_a0] at ih; exact z_y c ih
    · have e2 : uvS pn k = 1 := if_neg c
      rw [e2] at ih; exact z_n c ih
theorem M_used {P : Int32 → Prop} {σ : StT} {R : Nat} {Mvf Mlf Mar : Nat → Int32} (V : SV σ R) {o : Nat → Nat} (ho : ∀ k, k < R → o k < R) (mp : MP σ R o Mvf Mlf Mar) (h : P (zS (uvS (bdS σ o R).2.1) 8)) : wp_X6_usedVans P Mar := by
  refine z_up (fun n k => wp_X6_usedVans_4 P Mar n (zS (uvS (bdS σ o R).2.1) k) (nI k)) 8 (fun n => ?_) (fun n k hk ih => ?_) 0 (by omega)
  · exact z_y (by decide) h
  · refine z_n (by rw [show (8 : Int32) = nI 8 from rfl, z_leN (by omega) (by omega)]; omega) ⟨z_in hk (by omega), ?_⟩
    rw [z_cl (by omega), mp.ar k hk, z_s]
    have B := bdI V ho R (Nat.le_refl R) k hk
    have e : zS (uvS (bdS σ o R).2.1) (k + 1) = zS (uvS (bdS σ o R).2.1) k + uvS (bdS σ o R).2.1 k := rfl
    rw [e] at ih
    by_cases c : (bdS σ o R).2.1 k ≤ 0
    · have e2 : uvS (bdS σ o R).2.1 k = 0 := if_pos c
      rw [e2] at ih
      refine z_y (B.2.2.mp ?_) ih
      rw [z_eq, z_00]; rw [z_le, z_00] at c; omega
    · have e2 : uvS (bdS σ o R).2.1 k = 1 := if_neg c
      rw [e2] at ih
      refine z_n (fun a => c ?_) ih
      rw [B.2.2.mpr a]; decide
theorem X_allStops {P : Int32 → (Nat → Int32) → (Nat → Int32) → (Nat → Int32) → Int32 → Prop} {σ : StT} {R : Nat} (V : SV σ R) {o : Nat → Nat} {pl : PlT} (hv : ∀ r, r < R → pl.vn r = enc ((bdS σ o R).1 r)) {w : WyT}
    (h : ∀ (N : Nat → Nat) (KY WP : Nat → Nat → Int32) ky wp mi so, (∀ v, v < 8 → ST σ (bdS σ o R) v R (N v) (KY v) (WP v)) → P (zS (fun v => nI (N v)) 8) ky wp mi so) : wp_X5_allStops P σ pl w := by
  suffices hh : ∃ n, ∀ (N : Nat → Nat) (KY WP : Nat → Nat → Int32) ky wp mi so, (∀ v, v < 0 → ST σ (bdS σ o R) v R (N v) (KY v) (WP v)) → wp_X5_allStops_4 P σ pl w n (zS (fun v => nI (N v)) 0) (nI 0) ky wp mi so by
    obtain ⟨n, hn⟩ := hh
    exact ⟨n, hn (fun _ => 0) (fun _ _ => 0) (fun _ _ => 0) _ _ _ _ (fun v hv => absurd hv (by omega))⟩
  refine z_up (fun n k => ∀ (N : Nat → Nat) (KY WP : Nat → Nat → Int32) ky wp mi so, (∀ v, v < k → ST σ (bdS σ o R) v R (N v) (KY v) (WP v)) → wp_X5_allStops_4 P σ pl w n (zS (fun v => nI (N v)) k) (nI k) ky wp mi so) 8 (fun n => ?_) (fun n k hk ih => ?_) 0 (by omega)
  · intro N KY WP ky wp mi so hs
    exact z_y (by decide) (h N KY WP ky wp mi so hs)
  · intro N KY WP ky wp mi so hs
    refine z_n (by rw [show (8 : Int32) = nI 8 from rfl, z_leN (by omega) (by omega)]; omega) (X_follow V hv hk (fun n' ky' wp' mi' s hm => ?_))
    rw [z_s]
    have e : zS (fun v => nI (N v)) k + nI n' = zS (fun v => nI (if v = k then n' else N v)) (k + 1) := by
      show _ = zS (fun v => nI (if v = k then n' else N v)) k + nI (if k = k then n' else N k)
      rw [if_pos rfl, zS_congr (f := fun v => nI (N v)) (g := fun v => nI (if v = k then n' else N v)) (fun j hj => by show nI (N j) = nI (if j = k then n' else N j); rw [if_neg (by omega)])]
    rw [e]
    refine ih _ (fun v => if v = k then ky' else KY v) (fun v => if v = k then wp' else WP v) _ _ _ _ (fun v hv2 => ?_)
    by_cases c : v = k
    · subst c
      simp only [if_true]; exact s
    · simp only [c, if_false]; exact hs v (by omega)
theorem M_allStops {P : Int32 → (Nat → Int32) → (Nat → Int32) → Int32 → Prop} {σ : StT} {R : Nat} {M Mvf Msa0 Msm0 : Nat → Int32} {Mso0 : Int32} (V : SV σ R) (m : SM σ R M) {o : Nat → Nat} (hv : ∀ r, r < R → Mvf r = enc ((bdS σ o R).1 r)) {N : Nat → Nat} {KY WP : Nat → Nat → Int32} (hs : ∀ v, v < 8 → ST σ (bdS σ o R) v R (N v) (KY v) (WP v))
    (h : ∀ Msa Msm Mso, P (zS (fun v => nI (N v)) 8) Msa Msm Mso) : wp_X6_allStops P M Mvf Msa0 Msm0 Mso0 := by
  suffices hh : ∃ n, ∀ Msa Msm Mso, wp_X6_allStops_4 P M Mvf n (zS (fun v => nI (N v)) 0) (nI 0) Msa Msm Mso by
    obtain ⟨n, hn⟩ := hh
    exact ⟨n, hn _ _ _⟩
  refine z_up (fun n k => ∀ Msa Msm Mso, wp_X6_allStops_4 P M Mvf n (zS (fun v => nI (N v)) k) (nI k) Msa Msm Mso) 8 (fun n => ?_) (fun n k hk ih => ?_) 0 (by omega)
  · intro Msa Msm Mso
    exact z_y (by decide) (h _ _ _)
  · intro Msa Msm Mso
    refine z_n (by rw [show (8 : Int32) = nI 8 from rfl, z_leN (by omega) (by omega)]; omega) (M_layStops V m hv hk (hs k hk) (fun Msa' Msm' _ _ => ?_))
    rw [z_s]; exact ih _ _ _
/-- the last minute at a door -/
def lsS (σ : StT) (N : Nat → Nat) (KY : Nat → Nat → Int32) : Nat → Int32
  | 0 => -106
  | k + 1 => if N k = 0 then lsS σ N KY k else if lsS σ N KY k < mnS (σ.le k) (KY k) (N k - 1) then mnS (σ.le k) (KY k) (N k - 1) else lsS σ N KY k
theorem lsS_congr {σ : StT} {N N' : Nat → Nat} {KY KY' : Nat → Nat → Int32} : ∀ {k : Nat}, (∀ j, j < k → N j = N' j ∧ KY j = KY' j) → lsS σ N KY k = lsS σ N' KY' k
  | 0, _ => rfl
  | k + 1, h => by
    rw [lsS, lsS, lsS_congr (fun j hj => h j (by omega)), (h k (by omega)).1, (h k (by omega)).2]
theorem X_lastAt {P : Int32 → (Nat → Int32) → (Nat → Int32) → (Nat → Int32) → Int32 → Prop} {σ : StT} {R : Nat} (V : SV σ R) {o : Nat → Nat} {pl : PlT} (hv : ∀ r, r < R → pl.vn r = enc ((bdS σ o R).1 r)) {w : WyT}
    (h : ∀ (N : Nat → Nat) (KY WP : Nat → Nat → Int32) ky wp mi so, (∀ v, v < 8 → ST σ (bdS σ o R) v R (N v) (KY v) (WP v)) → P (lsS σ N KY 8) ky wp mi so) : wp_X5_lastAtDoor P w σ pl := by
  have hR := V.hR
  suffices hh : ∃ n, ∀ (N : Nat → Nat) (KY WP : Nat → Nat → Int32) ky wp mi so, (∀ v, v < 0 → ST σ (bdS σ o R) v R (N v) (KY v) (WP v)) → wp_X5_lastAtDoor_6 P w σ pl n (lsS σ N KY 0) (nI 0) ky wp mi so by
    obtain ⟨n, hn⟩ := hh
    exact ⟨n, hn (fun _ => 0) (fun _ _ => 0) (fun _ _ => 0) _ _ _ _ (fun v hv => absurd hv (by omega))⟩
  refine z_up (fun n k => ∀ (N : Nat → Nat) (KY WP : Nat → Nat → Int32) ky wp mi so, (∀ v, v < k → ST σ (bdS σ o R) v R (N v) (KY v) (WP v)) → wp_X5_lastAtDoor_6 P w σ pl n (lsS σ N KY k) (nI k) ky wp mi so) 8 (fun n => ?_) (fun n k hk ih => ?_) 0 (by omega)
  · intro N KY WP ky wp mi so hs
    exact z_y (by decide) (h N KY WP ky wp mi so hs)
  · intro N KY WP ky wp mi so hs
    refine z_n (by rw [show (8 : Int32) = nI 8 from rfl, z_leN (by omega) (by omega)]; omega) (X_follow V hv hk (fun n' ky' wp' mi' s hm => ?_))
    have hn' := s.le
    rw [z_s]
    have hst : ∀ v, v < k + 1 → ST σ (bdS σ o R) v R (if v = k then n' else N v) ((fun v => if v = k then ky' else KY v) v) ((fun v => if v = k then wp' else WP v) v) := by
      intro v hv2
      by_cases c : v = k
      · subst c
        simp only [if_true]; exact s
      · simp only [c, if_false]; exact hs v (by omega)
    have nx := ih (fun v => if v = k then n' else N v) (fun v => if v = k then ky' else KY v) (fun v => if v = k then wp' else WP v) ky' wp' mi' (nI n') hst
    have e1 : lsS σ (fun v => if v = k then n' else N v) (fun v => if v = k then ky' else KY v) k = lsS σ N KY k := lsS_congr (fun j hj => ⟨if_neg (by omega), if_neg (by omega)⟩)
    rw [lsS, e1] at nx
    simp only [if_true] at nx
    cases n' with
    | zero => exact z_y (by decide) nx
    | succ q =>
      refine z_n (by rw [show (0 : Int32) = nI 0 from rfl, z_leN (by omega) (by omega)]; omega) ?_
      refine z_n (show ¬ nI (q + 1) ≤ 0 from by rw [show (0 : Int32) = nI 0 from rfl, z_leN (by omega) (by omega)]; omega) ?_
      show vp_in (nI (q + 1) - (1 : Int32)) 24 ∧ wp_X5_lastAtDoor_6 P w σ pl n (if lsS σ N KY k < mi' (nI (q + 1) - (1 : Int32)).toNatClampNeg then mi' (nI (q + 1) - (1 : Int32)).toNatClampNeg else lsS σ N KY k) (nI (k + 1)) ky' wp' mi' (nI (q + 1))
      rw [z_p, z_cl (by omega), hm q (by omega)]
      rw [if_neg (by omega), Nat.add_sub_cancel] at nx
      exact ⟨z_in (by omega) (by omega), nx⟩
theorem lsS_b {σ : StT} {R : Nat} (V : SV σ R) {b : BT} {N : Nat → Nat} {KY WP : Nat → Nat → Int32} (hs : ∀ v, v < 8 → ST σ b v R (N v) (KY v) (WP v)) : ∀ k, k ≤ 8 → lsS σ N KY k = -106 ∨ 10 ≤ (lsS σ N KY k).toInt
  | 0, _ => Or.inl rfl
  | k + 1, hk => by
    have ih := lsS_b V hs k (by omega)
    rw [lsS]
    by_cases c : N k = 0
    · rw [if_pos c]; exact ih
    · rw [if_neg c]
      have b2 := (mnS_b V (by omega) (hs k (by omega)) (N k - 1) (by omega)).1
      split
      · exact Or.inr b2
      · exact ih
theorem M_last {P : Int32 → (Nat → Int32) → (Nat → Int32) → Int32 → Prop} {σ : StT} {R : Nat} {M Mvf Msa0 Msm0 : Nat → Int32} {Mso0 : Int32} (V : SV σ R) (m : SM σ R M) {o : Nat → Nat} (hv : ∀ r, r < R → Mvf r = enc ((bdS σ o R).1 r)) {N : Nat → Nat} {KY WP : Nat → Nat → Int32} (hs : ∀ v, v < 8 → ST σ (bdS σ o R) v R (N v) (KY v) (WP v))
    (h : ∀ Msa Msm Mso, P (lsS σ N KY 8) Msa Msm Mso) : wp_X6_lastMinute P M Mvf Msa0 Msm0 Mso0 := by
  have hR := V.hR
  suffices hh : ∃ n, ∀ Msa Msm Mso, wp_X6_lastMinute_5 P M Mvf n (lsS σ N KY 0) (nI 0) Msa Msm Mso by
    obtain ⟨n, hn⟩ := hh
    exact ⟨n, hn _ _ _⟩
  refine z_up (fun n k => ∀ Msa Msm Mso, wp_X6_lastMinute_5 P M Mvf n (lsS σ N KY k) (nI k) Msa Msm Mso) 8 (fun n => ?_) (fun n k hk ih => ?_) 0 (by omega)
  · intro Msa Msm Mso
    exact z_y (by decide) (h _ _ _)
  · intro Msa Msm Mso
    refine z_n (by rw [show (8 : Int32) = nI 8 from rfl, z_leN (by omega) (by omega)]; omega) (M_layStops V m hv hk (hs k hk) (fun Msa' Msm' ha hm => ?_))
    have hn' := (hs k hk).le
    have b2 := lsS_b V hs k (by omega)
    have b3 := mnS_b V hk (hs k hk)
    unfold wp_X6_lastMinute_49
    rw [z_s]
    rw [lsS] at ih
    generalize lsS σ N KY k = x at ih b2
    generalize KY k = kk at ih hm b3
    generalize N k = n' at ih hm hn' b3
    cases n' with
    | zero => exact z_y (by decide) (z_f' (ih _ _ _))
    | succ q =>
      rw [if_neg (by omega), Nat.add_sub_cancel] at ih
      refine z_n (by rw [show (0 : Int32) = nI 0 from rfl, z_leN (by omega) (by omega)]; omega) ?_
      rw [z_p, z_cl (by omega), hm q (by omega)]
      have iq : vp_in (nI q) 24 := z_in (by omega) (by omega)
      have b4 := (b3 q (by omega)).1
      by_cases c : x = -106
      · have e106 : (-106 : Int32).toInt = -106 := by decide
        have lt : x < mnS (σ.le k) kk q := by rw [z_lt, c, e106]; omega
        rw [if_pos lt] at ih
        exact z_y c (z_t' ⟨iq, ih _ _ _⟩)
      · refine z_n c ⟨iq, ?_⟩
        by_cases d : x < mnS (σ.le k) kk q
        · rw [if_pos d] at ih
          exact z_n (by rw [z_le]; rw [z_lt] at d; omega) (z_t' ⟨iq, ih _ _ _⟩)
        · rw [if_neg d] at ih
          exact z_y (by rw [z_le]; rw [z_lt] at d; omega) (z_f' (ih _ _ _))

theorem law12 {xs : Nat → Int32} {rec : RecT} {t : Nat} (rok : RecOK rec (t + 1)) {now pln way tri tpl pad his slo Mst Mhi Mhn Msl Msv Mpd Mln Mat Mit Mvf Mdn Mlf Mar Msa Msm Mso} (rel : Rel now pln pad his slo Mst Mhi Mhn Msl Msv Mpd Mln) : lawC12 xs rec t now pln way tri tpl pad his slo Mst Mhi Mhn Msl Msv Mpd Mln Mat Mit Mvf Mdn Mlf Mar Msa Msm Mso := by
  obtain ⟨⟨R, o, V, m, X⟩, ⟨K, hn, f, H, hg⟩, pr, sl⟩ := id rel
  have hR := V.hR
  unfold lawC12
  obtain ⟨h1, h2, h3⟩ := id H
  obtain ⟨pl0, pl1, pl2, pl3, pl4⟩ := id pr
  generalize xs (5 * t + 1) = x1
  by_cases c1 : z_is x1 5
  · obtain ⟨j, hj, rfl⟩ := id c1
    have cj : (nI j).toNatClampNeg = j := z_cl (by omega)
    refine z_in_t 4 (by omega) c1 (z_t' ⟨z_in hj (by omega), ?_⟩)
    refine z_w (z_in_t 4 (by omega) c1 (z_t' ⟨z_in (by omega) (by omega), ?_⟩))
    exact ⟨(congrArg now.se cj).trans ((congrArg Mst cj).trans (m.se j hj)).symm, rok _ _ _ _ _ _ _ _ _ _ _ _ _ _ _ _ _ _ _ _ _ _ _ _ rel⟩
  · refine z_in_f 4 (by omega) c1 (z_f' ⟨fun e => ?_, fun e => ?_, fun e => ?_, fun e => ?_, fun e => ?_, fun e => ?_, fun e => ?_, fun e => ?_, fun e => ?_, fun e => ?_, fun e => ?_, fun e => ?_⟩)
    · subst e
      exact (z_w (z_in_f 4 (by omega) c1 (z_f' (M_lay V m X.ord (fun Mvf' Mdn' Mlf' Mar' mp => ⟨fun _ => ⟨V.ri.trans m.ri.symm, rok _ _ _ _ _ _ _ _ _ _ _ _ _ _ _ _ _ _ _ _ _ _ _ _ rel⟩, fun e => absurd e (by decide), fun e => absurd e (by decide), fun e => absurd e (by decide), fun e => absurd e (by decide), fun e => absurd e (by decide), fun e => absurd e (by decide), fun e => absurd e (by decide), fun e => absurd e (by decide), fun e => absurd e (by decide), fun e => absurd e (by decide), fun e => absurd rfl e.1⟩)))))
    · subst e
      exact X_allPeople V (z_w (z_in_f 4 (by omega) c1 (z_f' (M_lay V m X.ord (fun Mvf' Mdn' Mlf' Mar' mp => ⟨fun e => absurd e (by decide), fun _ => M_allPeople V m mp.vf ⟨rfl, rok _ _ _ _ _ _ _ _ _ _ _ _ _ _ _ _ _ _ _ _ _ _ _ _ rel⟩, fun e => absurd e (by decide), fun e => absurd e (by decide), fun e => absurd e (by decide), fun e => absurd e (by decide), fun e => absurd e (by decide), fun e => absurd e (by decide), fun e => absurd e (by decide), fun e => absurd e (by decide), fun e => absurd e (by decide), fun e => absurd rfl e.2.1⟩)))))
    · subst e
      exact (z_w (z_in_f 4 (by omega) c1 (z_f' (M_lay V m X.ord (fun Mvf' Mdn' Mlf' Mar' mp => ⟨fun e => absurd e (by decide), fun e => absurd e (by decide), fun _ => M_sr V m mp.vf ⟨X.sr, rok _ _ _ _ _ _ _ _ _ _ _ _ _ _ _ _ _ _ _ _ _ _ _ _ rel⟩, fun e => absurd e (by decide), fun e => absurd e (by decide), fun e => absurd e (by decide), fun e => absurd e (by decide), fun e => absurd e (by decide), fun e => absurd e (by decide), fun e => absurd e (by decide), fun e => absurd e (by decide), fun e => absurd rfl e.2.2.1⟩)))))
    · subst e
      exact (z_w (z_in_f 4 (by omega) c1 (z_f' (M_lay V m X.ord (fun Mvf' Mdn' Mlf' Mar' mp => ⟨fun e => absurd e (by decide), fun e => absurd e (by decide), fun e => absurd e (by decide), fun _ => M_sp V m mp ⟨X.sp, rok _ _ _ _ _ _ _ _ _ _ _ _ _ _ _ _ _ _ _ _ _ _ _ _ rel⟩, fun e => absurd e (by decide), fun e => absurd e (by decide), fun e => absurd e (by decide), fun e => absurd e (by decide), fun e => absurd e (by decide), fun e => absurd e (by decide), fun e => absurd e (by decide), fun e => absurd rfl e.2.2.2.1⟩)))))
    · subst e
      exact (z_w (z_in_f 4 (by omega) c1 (z_f' (M_lay V m X.ord (fun Mvf' Mdn' Mlf' Mar' mp => ⟨fun e => absurd e (by decide), fun e => absurd e (by decide), fun e => absurd e (by decide), fun e => absurd e (by decide), fun _ => M_wt V m mp.vf ⟨X.wt, rok _ _ _ _ _ _ _ _ _ _ _ _ _ _ _ _ _ _ _ _ _ _ _ _ rel⟩, fun e => absurd e (by decide), fun e => absurd e (by decide), fun e => absurd e (by decide), fun e => absurd e (by decide), fun e => absurd e (by decide), fun e => absurd e (by decide), fun e => absurd rfl e.2.2.2.2.1⟩)))))
    · subst e
      exact X_allFares V X.vn (z_w (z_in_f 4 (by omega) c1 (z_f' (M_lay V m X.ord (fun Mvf' Mdn' Mlf' Mar' mp => ⟨fun e => absurd e (by decide), fun e => absurd e (by decide), fun e => absurd e (by decide), fun e => absurd e (by decide), fun e => absurd e (by decide), fun _ => M_allFares V m mp.vf ⟨rfl, rok _ _ _ _ _ _ _ _ _ _ _ _ _ _ _ _ _ _ _ _ _ _ _ _ rel⟩, fun e => absurd e (by decide), fun e => absurd e (by decide), fun e => absurd e (by decide), fun e => absurd e (by decide), fun e => absurd e (by decide), fun e => absurd rfl e.2.2.2.2.2.1⟩)))))
    · subst e
      exact X_used X.pn (z_w (z_in_f 4 (by omega) c1 (z_f' (M_lay V m X.ord (fun Mvf' Mdn' Mlf' Mar' mp => ⟨fun e => absurd e (by decide), fun e => absurd e (by decide), fun e => absurd e (by decide), fun e => absurd e (by decide), fun e => absurd e (by decide), fun e => absurd e (by decide), fun _ => M_used V X.ord.lt mp ⟨rfl, rok _ _ _ _ _ _ _ _ _ _ _ _ _ _ _ _ _ _ _ _ _ _ _ _ rel⟩, fun e => absurd e (by decide), fun e => absurd e (by decide), fun e => absurd e (by decide), fun e => absurd e (by decide), fun e => absurd rfl e.2.2.2.2.2.2.1⟩)))))
    · subst e
      exact X_allStops V X.vn (fun N KY WP ky wp mi so hs => (z_w (z_in_f 4 (by omega) c1 (z_f' (M_lay V m X.ord (fun Mvf' Mdn' Mlf' Mar' mp => ⟨fun e => absurd e (by decide), fun e => absurd e (by decide), fun e => absurd e (by decide), fun e => absurd e (by decide), fun e => absurd e (by decide), fun e => absurd e (by decide), fun e => absurd e (by decide), fun _ => M_allStops V m mp.vf hs (fun _ _ _ => ⟨rfl, rok _ _ _ _ _ _ _ _ _ _ _ _ _ _ _ _ _ _ _ _ _ _ _ _ rel⟩), fun e => absurd e (by decide), fun e => absurd e (by decide), fun e => absurd e (by decide), fun e => absurd rfl e.2.2.2.2.2.2.2.1⟩))))))
    · subst e
      exact X_lastAt V X.vn (fun N KY WP ky wp mi so hs => (z_w (z_in_f 4 (by omega) c1 (z_f' (M_lay V m X.ord (fun Mvf' Mdn' Mlf' Mar' mp => ⟨fun e => absurd e (by decide), fun e => absurd e (by decide), fun e => absurd e (by decide), fun e => absurd e (by decide), fun e => absurd e (by decide), fun e => absurd e (by decide), fun e => absurd e (by decide), fun e => absurd e (by decide), fun _ => M_last V m mp.vf hs (fun _ _ _ => ⟨rfl, rok _ _ _ _ _ _ _ _ _ _ _ _ _ _ _ _ _ _ _ _ _ _ _ _ rel⟩), fun e => absurd e (by decide), fun e => absurd e (by decide), fun e => absurd rfl e.2.2.2.2.2.2.2.2.1⟩))))))
    · subst e
      exact (z_w (z_in_f 4 (by omega) c1 (z_f' (M_lay V m X.ord (fun Mvf' Mdn' Mlf' Mar' mp => ⟨fun e => absurd e (by decide), fun e => absurd e (by decide), fun e => absurd e (by decide), fun e => absurd e (by decide), fun e => absurd e (by decide), fun e => absurd e (by decide), fun e => absurd e (by decide), fun e => absurd e (by decide), fun e => absurd e (by decide), fun _ => ⟨pl2.trans pl3.symm, rok _ _ _ _ _ _ _ _ _ _ _ _ _ _ _ _ _ _ _ _ _ _ _ _ rel⟩, fun e => absurd e (by decide), fun e => absurd rfl e.2.2.2.2.2.2.2.2.2.1⟩)))))
    · subst e
      exact (z_w (z_in_f 4 (by omega) c1 (z_f' (M_lay V m X.ord (fun Mvf' Mdn' Mlf' Mar' mp => ⟨fun e => absurd e (by decide), fun e => absurd e (by decide), fun e => absurd e (by decide), fun e => absurd e (by decide), fun e => absurd e (by decide), fun e => absurd e (by decide), fun e => absurd e (by decide), fun e => absurd e (by decide), fun e => absurd e (by decide), fun e => absurd e (by decide), fun _ => ⟨h1.trans hn.symm, rok _ _ _ _ _ _ _ _ _ _ _ _ _ _ _ _ _ _ _ _ _ _ _ _ rel⟩, fun e => absurd rfl e.2.2.2.2.2.2.2.2.2.2⟩)))))
    · have hd := e
      exact (z_w (z_in_f 4 (by omega) c1 (z_f' (M_lay V m X.ord (fun Mvf' Mdn' Mlf' Mar' mp => ⟨fun e => absurd e hd.1, fun e => absurd e hd.2.1, fun e => absurd e hd.2.2.1, fun e => absurd e hd.2.2.2.1, fun e => absurd e hd.2.2.2.2.1, fun e => absurd e hd.2.2.2.2.2.1, fun e => absurd e hd.2.2.2.2.2.2.1, fun e => absurd e hd.2.2.2.2.2.2.2.1, fun e => absurd e hd.2.2.2.2.2.2.2.2.1, fun e => absurd e hd.2.2.2.2.2.2.2.2.2.1, fun e => absurd e hd.2.2.2.2.2.2.2.2.2.2, fun _ => ⟨rfl, rok _ _ _ _ _ _ _ _ _ _ _ _ _ _ _ _ _ _ _ _ _ _ _ _ rel⟩⟩)))))
