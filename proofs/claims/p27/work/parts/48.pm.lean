/-! ===== counts ===== -/
theorem X_allPeople {P : Int32 → Prop} {σ : StT} {R : Nat} (V : SV σ R) (h : P (zS σ.pe R)) : wp_X3_allPeople P σ := by
  have hR := V.hR
  refine z_up (fun n k => wp_X3_allPeople_4 P σ n (zS σ.pe k) (nI k)) R (fun n => ?_) (fun n k hk ih => ?_) 0 (by omega)
  · exact z_y (by rw [V.ri, z_leN (by omega) (by omega)]; omega) h
  · refine z_n (by rw [V.ri, z_leN (by omega) (by omega)]; omega) ⟨z_in (by omega) (by omega), ?_⟩
    rw [z_cl (by omega), z_s]; exact ih
theorem zS_add {f g : Nat → Int32} : ∀ {k : Nat}, zS (fun j => f j + g j) k = zS f k + zS g k
  | 0 => rfl
  | k + 1 => by
    show zS (fun j => f j + g j) k + (f k + g k) = zS f k + f k + (zS g k + g k)
    rw [zS_add, Int32.add_assoc, Int32.add_assoc, ← Int32.add_assoc (zS g k), Int32.add_comm (zS g k) (f k), Int32.add_assoc]
theorem zS_swap {F : Nat → Nat → Int32} {R : Nat} : ∀ {n : Nat}, zS (fun f => zS (F f) R) n = zS (fun r => zS (fun f => F f r) n) R
  | 0 => (zS_0 (fun _ _ => rfl)).symm
  | n + 1 => by
    show zS (fun f => zS (F f) R) n + zS (F n) R = zS (fun r => zS (fun f => F f r) n + F n r) R
    rw [zS_swap, zS_add]
theorem po_all {σ : StT} {R : Nat} (V : SV σ R) {b : BT} : zS (fun f => zS (poS σ b f false) R) 6 = zS σ.pe R := by
  rw [zS_swap]
  apply zS_congr
  intro r hr
  obtain ⟨j, hj, e⟩ := V.fl r hr
  have h1 : zS (fun f => poS σ b f false r) 6 = zS (upd (fun _ => 0) j (σ.pe r)) 6 := by
    apply zS_congr
    intro f hf
    rw [z_upd]
    by_cases c : f = j
    · rw [if_pos c]; exact if_pos ⟨by rw [e, c], fun a => by cases a⟩
    · rw [if_neg c]
      refine if_neg (fun g => c ?_)
      have := g.1
      rw [e, z_eqN (by omega) (by omega)] at this
      exact this.symm
  show zS (fun f => poS σ b f false r) 6 = σ.pe r
  rw [h1, zS_upd rfl hj, zS_0 (fun _ _ => rfl), Int32.zero_add]
theorem X_allFares {P : Int32 → Prop} {σ : StT} {R : Nat} (V : SV σ R) {o : Nat → Nat} {pl : PlT} (hv : ∀ r, r < R → pl.vn r = enc ((bdS σ o R).1 r)) (h : P (zS (frS σ (bdS σ o R) R) R)) : wp_X5_allFares P σ pl := by
  have hR := V.hR
  refine z_up (fun n k => wp_X5_allFares_4 P σ pl n (zS (frS σ (bdS σ o R) R) k) (nI k)) R (fun n => ?_) (fun n k hk ih => ?_) 0 (by omega)
  · exact z_y (by rw [V.ri, z_leN (by omega) (by omega)]; omega) h
  · refine z_n (by rw [V.ri, z_leN (by omega) (by omega)]; omega) (X_fare V hv hk ?_)
    rw [z_s]; exact ih
def uvS (pn : Nat → Int32) (v : Nat) : Int32 := if pn v ≤ 0 then 0 else 1
theorem X_used {P : Int32 → Prop} {pl : PlT} {pn : Nat → Int32} (hp : ∀ v, v < 8 → pl.pn v = pn v) (h : P (zS (uvS pn) 8)) : wp_X2_vansWithRiders P pl := by
  refine z_up (fun n k => wp_X2_vansWithRiders_4 P pl n (zS (uvS pn) k) (nI k)) 8 (fun n => ?_) (fun n k hk ih => ?_) 0 (by omega)
  · exact z_y (by decide) h
  · refine z_n (by rw [show (8 : Int32) = nI 8 from rfl, z_leN (by omega) (by omega)]; omega) ⟨z_in hk (by omega), ?_⟩
    rw [z_cl (by omega), hp k hk, z_s]
    have e : zS (uvS pn) (k + 1) = zS (uvS pn) k + uvS pn k := rfl
    rw [e] at ih
    by_cases c : pn k ≤ 0
    · have e2 : uvS pn k = 0 := if_pos c
      rw [e2, z_a0] at ih; exact z_y c ih
    · have e2 : uvS pn k = 1 := if_neg c
      rw [e2] at ih; exact z_n c ih
theorem X_allStops {P : Int32 → (Nat → Int32) → (Nat → Int32) → (Nat → Int32) → Int32 → Prop} {σ : StT} {R : Nat} (V : SV σ R) {o : Nat → Nat} {pl : PlT} (hv : ∀ r, r < R → pl.vn r = enc ((bdS σ o R).1 r)) {w : WyT}
    (h : ∀ (N : Nat → Nat) (KY WP : Nat → Nat → Int32) ky wp mi so, (∀ v, v < 8 → ST σ (bdS σ o R) v R (N v) (KY v) (WP v)) → P (zS (fun v => nI (N v)) 8) ky wp mi so) : wp_X5_allStops P σ pl w := by
  suffices hh : ∃ n, ∀ (N : Nat → Nat) (KY WP : Nat → Nat → Int32) ky wp mi so, (∀ v, v < 0 → ST σ (bdS σ o R) v R (N v) (KY v) (WP v)) → wp_X5_allStops_4 P σ pl w n (zS (fun v => nI (N v)) 0) (nI 0) ky wp mi so by
    obtain ⟨n, hn⟩ := hh
    exact ⟨n, hn (fun _ => 0) (fun _ _ => 0) (fun _ _ => 0) _ _ _ _ (fun v hv => absurd hv (by omega))⟩
  refine z_up (fun n k => ∀ (N : Nat → Nat) (KY WP : Nat → Nat → Int32) ky wp mi so, (∀ v, v < k → ST σ (bdS σ o R) v R (N v) (KY v) (WP v)) → wp_X5_allStops_4 P σ pl w n (zS (fun v => nI (N v)) k) (nI k) ky wp mi so) 8 (fun n => ?_) (fun n k hk ih => ?_) 0 (by omega)
  · intro N KY WP ky wp mi so hs
    exact z_y (by decide) (h N KY WP ky wp mi so hs)
  · intro N KY WP ky wp mi so hs
    refine z_n (by rw [show (8 : Int32) = nI 8 from rfl, z_leN (by omega) (by omega)]; omega) (X_follow V hv hk (fun n' ky' wp' mi' s hm => ?_))
    rw [z_s]
    have e : zS (fun v => nI (N v)) k + nI n' = zS (fun v => nI (if v = k then n' else N v)) (k + 1) := by
      show _ = zS (fun v => nI (if v = k then n' else N v)) k + nI (if k = k then n' else N k)
      rw [if_pos rfl, zS_congr (f := fun v => nI (N v)) (g := fun v => nI (if v = k then n' else N v)) (fun j hj => by show nI (N j) = nI (if j = k then n' else N j); rw [if_neg (by omega)])]
    rw [e]
    refine ih _ (fun v => if v = k then ky' else KY v) (fun v => if v = k then wp' else WP v) _ _ _ _ (fun v hv2 => ?_)
    by_cases c : v = k
    · subst c
      simp only [if_true]; exact s
    · simp only [c, if_false]; exact hs v (by omega)
/-- the last minute at a door -/
def lsS (σ : StT) (N : Nat → Nat) (KY : Nat → Nat → Int32) : Nat → Int32
  | 0 => -106
  | k + 1 => if N k = 0 then lsS σ N KY k else if lsS σ N KY k < mnS (σ.le k) (KY k) (N k - 1) then mnS (σ.le k) (KY k) (N k - 1) else lsS σ N KY k
theorem lsS_congr {σ : StT} {N N' : Nat → Nat} {KY KY' : Nat → Nat → Int32} : ∀ {k : Nat}, (∀ j, j < k → N j = N' j ∧ KY j = KY' j) → lsS σ N KY k = lsS σ N' KY' k
  | 0, _ => rfl
  | k + 1, h => by
    rw [lsS, lsS, lsS_congr (fun j hj => h j (by omega)), (h k (by omega)).1, (h k (by omega)).2]
theorem X_lastAt {P : Int32 → (Nat → Int32) → (Nat → Int32) → (Nat → Int32) → Int32 → Prop} {σ : StT} {R : Nat} (V : SV σ R) {o : Nat → Nat} {pl : PlT} (hv : ∀ r, r < R → pl.vn r = enc ((bdS σ o R).1 r)) {w : WyT}
    (h : ∀ (N : Nat → Nat) (KY WP : Nat → Nat → Int32) ky wp mi so, (∀ v, v < 8 → ST σ (bdS σ o R) v R (N v) (KY v) (WP v)) → P (lsS σ N KY 8) ky wp mi so) : wp_X5_lastAtDoor P w σ pl := by
  have hR := V.hR
  suffices hh : ∃ n, ∀ (N : Nat → Nat) (KY WP : Nat → Nat → Int32) ky wp mi so, (∀ v, v < 0 → ST σ (bdS σ o R) v R (N v) (KY v) (WP v)) → wp_X5_lastAtDoor_6 P w σ pl n (lsS σ N KY 0) (nI 0) ky wp mi so by
    obtain ⟨n, hn⟩ := hh
    exact ⟨n, hn (fun _ => 0) (fun _ _ => 0) (fun _ _ => 0) _ _ _ _ (fun v hv => absurd hv (by omega))⟩
  refine z_up (fun n k => ∀ (N : Nat → Nat) (KY WP : Nat → Nat → Int32) ky wp mi so, (∀ v, v < k → ST σ (bdS σ o R) v R (N v) (KY v) (WP v)) → wp_X5_lastAtDoor_6 P w σ pl n (lsS σ N KY k) (nI k) ky wp mi so) 8 (fun n => ?_) (fun n k hk ih => ?_) 0 (by omega)
  · intro N KY WP ky wp mi so hs
    exact z_y (by decide) (h N KY WP ky wp mi so hs)
  · intro N KY WP ky wp mi so hs
    refine z_n (by rw [show (8 : Int32) = nI 8 from rfl, z_leN (by omega) (by omega)]; omega) (X_follow V hv hk (fun n' ky' wp' mi' s hm => ?_))
    have hn' := s.le
    rw [z_s]
    have hst : ∀ v, v < k + 1 → ST σ (bdS σ o R) v R (if v = k then n' else N v) ((fun v => if v = k then ky' else KY v) v) ((fun v => if v = k then wp' else WP v) v) := by
      intro v hv2
      by_cases c : v = k
      · subst c
        simp only [if_true]; exact s
      · simp only [c, if_false]; exact hs v (by omega)
    have nx := ih (fun v => if v = k then n' else N v) (fun v => if v = k then ky' else KY v) (fun v => if v = k then wp' else WP v) ky' wp' mi' (nI n') hst
    have e1 : lsS σ (fun v => if v = k then n' else N v) (fun v => if v = k then ky' else KY v) k = lsS σ N KY k := lsS_congr (fun j hj => ⟨if_neg (by omega), if_neg (by omega)⟩)
    rw [lsS, e1] at nx
    simp only [if_true] at nx
    cases n' with
    | zero => exact z_y (by decide) nx
    | succ q =>
      refine z_n (by rw [show (0 : Int32) = nI 0 from rfl, z_leN (by omega) (by omega)]; omega) ?_
      refine z_n (show ¬ nI (q + 1) ≤ 0 from by rw [show (0 : Int32) = nI 0 from rfl, z_leN (by omega) (by omega)]; omega) ?_
      show vp_in (nI (q + 1) - (1 : Int32)) 24 ∧ wp_X5_lastAtDoor_6 P w σ pl n (if lsS σ N KY k < mi' (nI (q + 1) - (1 : Int32)).toNatClampNeg then mi' (nI (q + 1) - (1 : Int32)).toNatClampNeg else lsS σ N KY k) (nI (k + 1)) ky' wp' mi' (nI (q + 1))
      rw [z_p, z_cl (by omega), hm q (by omega)]
      rw [if_neg (by omega), Nat.add_sub_cancel] at nx
      exact ⟨z_in (by omega) (by omega), nx⟩
theorem lsS_b {σ : StT} {R : Nat} (V : SV σ R) {b : BT} {N : Nat → Nat} {KY WP : Nat → Nat → Int32} (hs : ∀ v, v < 8 → ST σ b v R (N v) (KY v) (WP v)) : ∀ k, k ≤ 8 → lsS σ N KY k = -106 ∨ 10 ≤ (lsS σ N KY k).toInt
  | 0, _ => Or.inl rfl
  | k + 1, hk => by
    have ih := lsS_b V hs k (by omega)
    rw [lsS]
    by_cases c : N k = 0
    · rw [if_pos c]; exact ih
    · rw [if_neg c]
      have b2 := (mnS_b V (by omega) (hs k (by omega)) (N k - 1) (by omega)).1
      split
      · exact Or.inr b2
      · exact ih
