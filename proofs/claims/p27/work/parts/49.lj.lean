/-! ===== the counts are as the class tells them ===== -/
theorem eL_ch {c : Option Nat} (h8 : ∀ v, c = some v → v < 8) {A B : Prop} (h0 : c = none → B) (h1 : ∀ v, c = some v → v < 8 → A) : ((0 : Int32) ≤ encL c → A) ∧ (¬ (0 : Int32) ≤ encL c → B) := by
  cases c with
  | none => exact ⟨fun h => (encL_neg h).elim, fun _ => h0 rfl⟩
  | some v =>
    have hv := h8 v rfl
    refine ⟨fun _ => h1 v rfl hv, fun h => absurd ?_ h⟩
    show nI 0 ≤ nI v
    rw [z_leN (by omega) (by omega)]; omega
theorem X_cnt12 {P : Int32 → (Nat → Int32) → (Nat → Int32) → (Nat → Int32) → Int32 → Prop} {σ : StT} {R : Nat} (V : SV σ R) {pl : PlT} (hx : XR σ R pl) {w : WyT} {pad : PdT} {his : HiT} {x : Int32} (ex : x = nI 12) (h : zS (frS σ (BD σ R) R) R = (zS (uvS (BD σ R).2.1) 8 * σ.se 3) + (zS (fun v => nI (saS σ (BD σ R) v (1000 : Int32) R)) 8 * σ.se 4) → ∀ ky wp mi so, P (zS (fun v => nI (saS σ (BD σ R) v (1000 : Int32) R)) 8) ky wp mi so) : wp_X5_count P σ pl w pad his x := by
  subst ex
  obtain ⟨o, X⟩ := hx
  have eb := BD_eq X.ord
  have h8 := BD8 σ R
  refine z_in_f 4 (by omega) (not_is (by omega) (by omega)) (z_f' ⟨fun e => absurd e (by decide), fun e => absurd e (by decide), fun e => absurd e (by decide), fun e => absurd e (by decide), fun e => absurd e (by decide), fun e => absurd e (by decide), fun e => absurd e (by decide), fun _ => ?_, fun e => absurd e (by decide), fun e => absurd e (by decide), fun e => absurd e (by decide), fun e => absurd rfl e.2.2.2.2.2.2.2.1⟩)
  refine X_allStops V X.vn (fun N KY WP ky wp mi so hs => ?_)
  rw [← eb] at hs
  have e : zS (fun v => nI (N v)) 8 = zS (fun v => nI (saS σ (BD σ R) v (1000 : Int32) R)) 8 := zS_congr (fun v hv => by show nI (N v) = nI _; rw [sa_n V (hs v hv)])
  rw [e]
  refine h ?_ _ _ _ _
  rw [← e]
  exact coins V h8 hs (fun v hv => BD_pos V X.ord hv (hs v hv))
theorem L_cnq {σ : StT} {R : Nat} {q : Nat → Int32} (hq : LQ σ R q) : ∀ k, k < 6 → cnV σ (BD σ R) R k = q k
  | 0, _ => (hq.se 0 (by omega)).symm
  | 1, _ => (hq.se 1 (by omega)).symm
  | 2, _ => (hq.se 2 (by omega)).symm
  | 3, _ => (hq.se 3 (by omega)).symm
  | 4, _ => (hq.se 4 (by omega)).symm
  | 5, _ => hq.ri.symm
  | k + 6, h => absurd h (by omega)
section LCT
variable {P : Int32 → (Nat → Int32) → (Nat → Int32) → (Nat → Int32) → Int32 → Prop} {σ : StT} {R : Nat} {pl : PlT} {q lr lw lg : Nat → Int32} {w : WyT} {pad : PdT} {his : HiT} {x1 : Int32} {m f k n : Nat}
theorem L_ct57 (V : SV σ R) (hq : LQ σ R q) (hr : LR σ R lr) (hw : ∀ k, k < R → lw k = encL ((BD σ R).1 k)) (hm : m < 1800) (hf : f < 6) (hk : k < R)
    (ih : wp_L_areCounts_57 P σ pl w pad his q lr lw lg x1 0 0 (nI m) (nI f) w.ky w.wp w.mi w.so n (zS σ.pe (k + 1)) (zS (g1 (BD σ R).1) (k + 1)) (zS (g2 σ (BD σ R).1) (k + 1)) (zS (g3 σ (BD σ R).1) (k + 1)) (zS (frS σ (BD σ R) R) (k + 1)) (laS σ (BD σ R) R (k + 1)) (zS (kpS σ (BD σ R) (nI m)) (k + 1)) (zS (poS σ (BD σ R) f false) (k + 1)) (zS (poS σ (BD σ R) f true) (k + 1)) (nI (k + 1))) : wp_L_areCounts_57 P σ pl w pad his q lr lw lg x1 0 0 (nI m) (nI f) w.ky w.wp w.mi w.so (n + 1) (zS σ.pe k) (zS (g1 (BD σ R).1) k) (zS (g2 σ (BD σ R).1) k) (zS (g3 σ (BD σ R).1) k) (zS (frS σ (BD σ R) R) k) (laS σ (BD σ R) R k) (zS (kpS σ (BD σ R) (nI m)) k) (zS (poS σ (BD σ R) f false) k) (zS (poS σ (BD σ R) f true) k) (nI k) := by
  have hR := V.hR
  have h8 := BD8 σ R
  have ik : vp_in (nI k) 24 := z_in (by omega) (by omega)
  have ck : (nI k).toNatClampNeg = k := z_cl (by omega)
  have h8k : ∀ v, (BD σ R).1 k = some v → v < 8 := h8 k
  have hwk := hw k hk
  have s350 : ∀ x : Int32, x = atS σ (BD σ R) R k → wp_L_areCounts_350 P σ pl w pad his q lr lw lg x1 (wp_L_areCounts_57 P σ pl w pad his q lr lw lg x1 0 0 (nI m) (nI f) w.ky w.wp w.mi w.so n) (zS σ.pe (k + 1)) (zS (g1 (BD σ R).1) (k + 1)) (zS (g2 σ (BD σ R).1) (k + 1)) (zS (g3 σ (BD σ R).1) (k + 1)) (zS (frS σ (BD σ R) R) (k + 1)) 0 0 (laS σ (BD σ R) R k) (nI m) (zS (kpS σ (BD σ R) (nI m)) (k + 1)) (nI f) (zS (poS σ (BD σ R) f false) (k + 1)) (zS (poS σ (BD σ R) f true) (k + 1)) (nI k) x w.ky w.wp w.mi w.so := by
    intro x hx
    subst hx
    rw [laS] at ih
    by_cases c : laS σ (BD σ R) R k < atS σ (BD σ R) R k
    · rw [if_pos c] at ih
      refine z_n (by rw [z_le]; rw [z_lt] at c; omega) ?_
      rw [z_s]; exact ih
    · rw [if_neg c] at ih
      refine z_y (by rw [z_le]; rw [z_lt] at c; omega) ?_
      rw [z_s]; exact ih
  have s315 : ∀ x : Int32, x = poS σ (BD σ R) f true k → wp_L_areCounts_315 P σ pl w pad his q lr lw lg x1 (wp_L_areCounts_57 P σ pl w pad his q lr lw lg x1 0 0 (nI m) (nI f) w.ky w.wp w.mi w.so n) (zS σ.pe (k + 1)) (zS (g1 (BD σ R).1) (k + 1)) (zS (g2 σ (BD σ R).1) (k + 1)) (zS (g3 σ (BD σ R).1) (k + 1)) (zS (frS σ (BD σ R) R) (k + 1)) 0 0 (laS σ (BD σ R) R k) (nI m) (zS (kpS σ (BD σ R) (nI m)) (k + 1)) (nI f) (zS (poS σ (BD σ R) f false) (k + 1)) (nI k) (zS (poS σ (BD σ R) f true) k) x w.ky w.wp w.mi w.so := by
    intro x hx
    subst hx
    refine ⟨ik, ?_⟩
    rw [ck, hwk]
    refine eL_ch h8k (fun g => s350 _ ?_) (fun v g hv => ⟨ik, ik, L_key hr hk ?_⟩)
    · unfold atS; rw [g]
    · rw [g]
      exact L_minute V hv h8 hq hr hw (s350 _ (by unfold atS; rw [g]))
  have s284 : ∀ x : Int32, x = poS σ (BD σ R) f false k → wp_L_areCounts_284 P σ pl w pad his q lr lw lg x1 (wp_L_areCounts_57 P σ pl w pad his q lr lw lg x1 0 0 (nI m) (nI f) w.ky w.wp w.mi w.so n) (zS σ.pe (k + 1)) (zS (g1 (BD σ R).1) (k + 1)) (zS (g2 σ (BD σ R).1) (k + 1)) (zS (g3 σ (BD σ R).1) (k + 1)) (zS (frS σ (BD σ R) R) (k + 1)) 0 0 (laS σ (BD σ R) R k) (nI m) (zS (kpS σ (BD σ R) (nI m)) (k + 1)) (nI f) (zS (poS σ (BD σ R) f true) k) (nI k) (σ.pe k) (zS (poS σ (BD σ R) f false) k) x w.ky w.wp w.mi w.so := by
    intro x hx
    subst hx
    refine ⟨ik, ?_⟩
    rw [ck]
    refine L_fl hr hk ?_
    by_cases c : σ.fl k = nI f
    · refine z_y' c ⟨ik, ?_⟩
      rw [hwk]
      exact eL_ch h8k (fun g => s315 _ (if_pos ⟨c, fun _ => g⟩).symm) (fun v g hv => s315 _ (if_neg (fun a => by have := a.2 rfl; rw [g] at this; cases this)).symm)
    · exact z_n' c (s315 _ (if_neg (fun a => c a.1)).symm)
  have s261 : ∀ x : Int32, x = kpS σ (BD σ R) (nI m) k → wp_L_areCounts_261 P σ pl w pad his q lr lw lg x1 (wp_L_areCounts_57 P σ pl w pad his q lr lw lg x1 0 0 (nI m) (nI f) w.ky w.wp w.mi w.so n) (zS σ.pe (k + 1)) (zS (g1 (BD σ R).1) (k + 1)) (zS (g2 σ (BD σ R).1) (k + 1)) (zS (g3 σ (BD σ R).1) (k + 1)) (zS (frS σ (BD σ R) R) (k + 1)) 0 0 (laS σ (BD σ R) R k) (nI m) (nI f) (zS (poS σ (BD σ R) f false) k) (zS (poS σ (BD σ R) f true) k) (nI k) (σ.pe k) (zS (kpS σ (BD σ R) (nI m)) k) x w.ky w.wp w.mi w.so := by
    intro x hx
    subst hx
    refine ⟨ik, ?_⟩
    rw [ck]
    refine L_fl hr hk ?_
    by_cases c : σ.fl k = nI f
    · exact z_y' c (s284 _ (if_pos ⟨c, fun a => by cases a⟩).symm)
    · exact z_n' c (s284 _ (if_neg (fun a => c a.1)).symm)
  have s211 : ∀ x : Int32, x = frS σ (BD σ R) R k → wp_L_areCounts_211 P σ pl w pad his q lr lw lg x1 (wp_L_areCounts_57 P σ pl w pad his q lr lw lg x1 0 0 (nI m) (nI f) w.ky w.wp w.mi w.so n) (zS σ.pe (k + 1)) (zS (g1 (BD σ R).1) (k + 1)) (zS (g2 σ (BD σ R).1) (k + 1)) (zS (g3 σ (BD σ R).1) (k + 1)) 0 0 (laS σ (BD σ R) R k) (nI m) (zS (kpS σ (BD σ R) (nI m)) k) (nI f) (zS (poS σ (BD σ R) f false) k) (zS (poS σ (BD σ R) f true) k) (nI k) (σ.pe k) (nI m - rdS σ k) (zS (frS σ (BD σ R) R) k) x w.ky w.wp w.mi w.so := by
    intro x hx
    subst hx
    have hb := rdS_b V hk
    have em := z_nI (n := m) (by omega)
    have es := z_sub (a := nI m) (b := rdS σ k) (by omega) (by omega)
    have no : kbS σ (BD σ R) (nI m) k = false → (0 : Int32) = kpS σ (BD σ R) (nI m) k := fun g => (if_neg (by rw [g]; decide)).symm
    have yes : kbS σ (BD σ R) (nI m) k = true → σ.pe k = kpS σ (BD σ R) (nI m) k := fun g => (if_pos g).symm
    by_cases c : rdS σ k ≤ nI m
    · have c' := z_le.mp c
      refine z_n (by rw [z_lt, z_00]; omega) ⟨ik, ?_⟩
      rw [ck, hwk]
      refine eL_ch h8k (fun g => ?_) (fun v g hv => ⟨ik, ?_⟩)
      · rw [hq.i1]
        by_cases d : nI m - rdS σ k ≤ σ.se 1
        · exact z_n (by rw [z_lt]; rw [z_le] at d; omega) (s261 _ (yes (by simp [kbS, g, c, d])))
        · exact z_y (by rw [z_lt]; rw [z_le] at d; omega) (s261 _ (no (by simp [kbS, g, d])))
      · rw [g, show encL (some v) = nI v from rfl, z_18, z_cl (by omega), hq.le v hv]
        refine ⟨z_in (by omega) (by omega), ?_⟩
        by_cases d : nI m < σ.le v
        · exact z_n (by rw [z_le]; rw [z_lt] at d; omega) (s261 _ (yes (by simp [kbS, g, c, d])))
        · exact z_y (by rw [z_le]; rw [z_lt] at d; omega) (s261 _ (no (by simp [kbS, g, d])))
    · have c' : ¬ (rdS σ k).toInt ≤ (nI m).toInt := fun e => c (z_le.mpr e)
      exact z_y (by rw [z_lt, z_00]; omega) (s261 _ (no (by simp [kbS, c])))
  have s167 : ∀ x : Int32, x = g3 σ (BD σ R).1 k → wp_L_areCounts_167 P σ pl w pad his q lr lw lg x1 (wp_L_areCounts_57 P σ pl w pad his q lr lw lg x1 0 0 (nI m) (nI f) w.ky w.wp w.mi w.so n) (zS σ.pe (k + 1)) (zS (g1 (BD σ R).1) (k + 1)) (zS (g2 σ (BD σ R).1) (k + 1)) (zS (frS σ (BD σ R) R) k) 0 0 (laS σ (BD σ R) R k) (nI m) (zS (kpS σ (BD σ R) (nI m)) k) (nI f) (zS (poS σ (BD σ R) f false) k) (zS (poS σ (BD σ R) f true) k) (nI k) (σ.pe k) (nI m - rdS σ k) (zS (g3 σ (BD σ R).1) k) x w.ky w.wp w.mi w.so := by
    intro x hx
    subst hx
    refine ⟨ik, ?_⟩
    rw [ck, hwk, hq.i3, hq.i4]
    refine eL_ch h8k (fun g => s211 _ ?_) (fun v g hv => L_part V h8 hq hr hw hk _ false (L_part V h8 hq hr hw hk _ true (s211 _ ?_)))
    · unfold frS; rw [g]
    · unfold frS; rw [g]
  have s128 : ∀ x : Int32, x = g2 σ (BD σ R).1 k → wp_L_areCounts_128 P σ pl w pad his q lr lw lg x1 (wp_L_areCounts_57 P σ pl w pad his q lr lw lg x1 0 0 (nI m) (nI f) w.ky w.wp w.mi w.so n) (zS σ.pe (k + 1)) (zS (g1 (BD σ R).1) (k + 1)) (zS (g3 σ (BD σ R).1) k) (zS (frS σ (BD σ R) R) k) 0 0 (laS σ (BD σ R) R k) (nI m) (zS (kpS σ (BD σ R) (nI m)) k) (nI f) (zS (poS σ (BD σ R) f false) k) (zS (poS σ (BD σ R) f true) k) (nI k) (σ.pe k) (nI m - rdS σ k) (zS (g2 σ (BD σ R).1) k) x w.ky w.wp w.mi w.so := by
    intro x hx
    subst hx
    refine ⟨ik, ?_⟩
    rw [ck, hwk]
    refine eL_ch h8k (fun g => s167 _ ?_) (fun v g hv => ⟨ik, ?_⟩)
    · unfold g3; rw [g]
    · rw [g, show encL (some v) = nI v from rfl, z_18, z_cl (by omega), hq.le v hv]
      refine ⟨z_in (by omega) (by omega), ik, L_rd hq hr hk (s167 _ ?_)⟩
      unfold g3; rw [g]
  have s109 : ∀ x : Int32, x = g1 (BD σ R).1 k → wp_L_areCounts_109 P σ pl w pad his q lr lw lg x1 (wp_L_areCounts_57 P σ pl w pad his q lr lw lg x1 0 0 (nI m) (nI f) w.ky w.wp w.mi w.so n) (zS σ.pe (k + 1)) (zS (g2 σ (BD σ R).1) k) (zS (g3 σ (BD σ R).1) k) (zS (frS σ (BD σ R) R) k) 0 0 (laS σ (BD σ R) R k) (nI m) (zS (kpS σ (BD σ R) (nI m)) k) (nI f) (zS (poS σ (BD σ R) f false) k) (zS (poS σ (BD σ R) f true) k) (nI k) (σ.pe k) (nI m - rdS σ k) (zS (g1 (BD σ R).1) k) x w.ky w.wp w.mi w.so := by
    intro x hx
    subst hx
    refine ⟨ik, ?_⟩
    rw [ck, hwk]
    refine eL_ch h8k (fun g => s128 _ ?_) (fun v g hv => s128 _ ?_)
    · unfold g2; rw [g]
    · unfold g2; rw [g]
  refine z_n (by rw [hq.i5, z_leN (by omega) (by omega)]; omega) ⟨ik, ?_⟩
  rw [ck]
  refine L_pe hr hk ⟨ik, L_rd hq hr hk ⟨ik, ?_⟩⟩
  rw [hwk]
  refine eL_ch h8k (fun g => s109 _ ?_) (fun v g hv => s109 _ ?_)
  · unfold g1; rw [g]
  · unfold g1; rw [g]
theorem L_ct626 (V : SV σ R) (hx : XR σ R pl) (hq : LQ σ R q) (hf : f < 6) (h : ∀ ky wp mi so, P 1 ky wp mi so) (ky wp mi : Nat → Int32) (so : Int32) : wp_L_areCounts_626 P σ pl w pad his q lr lw lg x1 (nI f) (zS (poS σ (BD σ R) f false) R) (zS (poS σ (BD σ R) f true) R) 1 ky wp mi so := by
  refine z_t' ?_
  rw [z_6, z_12, z_cl (by omega), z_cl (by omega), hq.la f hf, hq.de f hf, hq.i0]
  have i1 : vp_in (nI (6 + f)) 34 := z_in (by omega) (by omega)
  have i2 : vp_in (nI (12 + f)) 34 := z_in (by omega) (by omega)
  exact X_flt V hx hf 0 rfl (by omega) ⟨i1, z_y' rfl (X_flt V hx hf 1 rfl (by omega) ⟨i2, z_y' rfl (X_flt V hx hf 2 rfl (by omega) ⟨i1, i2, z_y' rfl (X_flt V hx hf 3 rfl (by omega) (z_y' rfl (X_flt V hx hf 4 rfl (by omega) (z_y' rfl (h _ _ _ _)))))⟩)⟩)⟩
theorem L_ct467 (V : SV σ R) (hx : XR σ R pl) (hq : LQ σ R q) (hm : m < 1800) (hf : f < 6) (h : ∀ ky wp mi so, P 1 ky wp mi so) (ky wp mi : Nat → Int32) (so : Int32) : ∃ n, wp_L_areCounts_467 P σ pl w pad his q lr lw lg x1 (zS σ.pe R) (zS (g1 (BD σ R).1) R) (zS (g2 σ (BD σ R).1) R) (zS (g3 σ (BD σ R).1) R) (zS (frS σ (BD σ R) R) R) (zS (uvS (BD σ R).2.1) 8) (zS (fun v => nI (saS σ (BD σ R) v (1000 : Int32) R)) 8) (laS σ (BD σ R) R R) (nI m) (zS (kpS σ (BD σ R) (nI m)) R) (nI f) (zS (poS σ (BD σ R) f false) R) (zS (poS σ (BD σ R) f true) R) (enc (fuS (BD σ R).2.1 8)) n 0 ky wp mi so := by
  suffices hh : ∃ n, ∀ ky wp mi so, wp_L_areCounts_467 P σ pl w pad his q lr lw lg x1 (zS σ.pe R) (zS (g1 (BD σ R).1) R) (zS (g2 σ (BD σ R).1) R) (zS (g3 σ (BD σ R).1) R) (zS (frS σ (BD σ R) R) R) (zS (uvS (BD σ R).2.1) 8) (zS (fun v => nI (saS σ (BD σ R) v (1000 : Int32) R)) 8) (laS σ (BD σ R) R R) (nI m) (zS (kpS σ (BD σ R) (nI m)) R) (nI f) (zS (poS σ (BD σ R) f false) R) (zS (poS σ (BD σ R) f true) R) (enc (fuS (BD σ R).2.1 8)) n (nI 0) ky wp mi so from by
    obtain ⟨n, hn⟩ := hh
    exact ⟨n, hn _ _ _ _⟩
  refine z_up (fun n k => ∀ ky wp mi so, wp_L_areCounts_467 P σ pl w pad his q lr lw lg x1 (zS σ.pe R) (zS (g1 (BD σ R).1) R) (zS (g2 σ (BD σ R).1) R) (zS (g3 σ (BD σ R).1) R) (zS (frS σ (BD σ R) R) R) (zS (uvS (BD σ R).2.1) 8) (zS (fun v => nI (saS σ (BD σ R) v (1000 : Int32) R)) 8) (laS σ (BD σ R) R R) (nI m) (zS (kpS σ (BD σ R) (nI m)) R) (nI f) (zS (poS σ (BD σ R) f false) R) (zS (poS σ (BD σ R) f true) R) (enc (fuS (BD σ R).2.1 8)) n (nI k) ky wp mi so) 6 (fun n => ?_) (fun n k hk ih => ?_) 0 (by omega)
  · intro ky wp mi so
    refine z_y (by decide) ?_
    refine X_cnt V hx 6 rfl (by omega) (fun _ _ _ _ => z_y' rfl ?_)
    refine X_cnt V hx 7 rfl (by omega) (fun _ _ _ _ => z_y' rfl ?_)
    refine X_cnt V hx 8 rfl (by omega) (fun _ _ _ _ => z_y' rfl ?_)
    refine X_cnt V hx 9 rfl (by omega) (fun _ _ _ _ => z_y' rfl ?_)
    refine X_cnt V hx 10 rfl (by omega) (fun _ _ _ _ => z_y' rfl ?_)
    refine X_cnt V hx 11 rfl (by omega) (fun _ _ _ _ => z_y' rfl ?_)
    refine X_cnt12 V hx rfl (fun co _ _ _ _ => z_y' rfl ?_)
    refine X_cnt V hx 13 rfl (by omega) (fun _ _ _ _ => z_y' rfl ?_)
    refine X_krb V hx hm (z_y' rfl (X_ful hx (z_y' rfl (z_y' (by rw [hq.i3, hq.i4]; exact co) ?_))))
    exact L_ct626 V hx hq hf h _ _ _ _
  · intro ky wp mi so
    refine z_n (z_nle (n := 6) hk (by omega)) (X_cnt V hx k rfl (by omega) (fun _ _ _ _ => ⟨z_in (by omega) (by omega), z_y ?_ ?_⟩))
    · rw [z_cl (by omega)]
      exact L_cnq hq k hk
    · rw [z_s]; exact ih _ _ _ _
theorem L_ct381 (V : SV σ R) (hx : XR σ R pl) (hq : LQ σ R q) (hr : LR σ R lr) (hg : LG σ R lw lg) (hm : m < 1800) (hf : f < 6) (h : ∀ ky wp mi so, P 1 ky wp mi so) (ky wp mi : Nat → Int32) (so : Int32) : ∃ n, wp_L_areCounts_381 P σ pl w pad his q lr lw lg x1 (zS σ.pe R) (zS (g1 (BD σ R).1) R) (zS (g2 σ (BD σ R).1) R) (zS (g3 σ (BD σ R).1) R) (zS (frS σ (BD σ R) R) R) (laS σ (BD σ R) R R) (nI m) (zS (kpS σ (BD σ R) (nI m)) R) (nI f) (zS (poS σ (BD σ R) f false) R) (zS (poS σ (BD σ R) f true) R) ky wp mi so n 0 0 (-106) 0 := by
  have hR := V.hR
  have h8 := BD8 σ R
  refine z_up (fun n k => wp_L_areCounts_381 P σ pl w pad his q lr lw lg x1 (zS σ.pe R) (zS (g1 (BD σ R).1) R) (zS (g2 σ (BD σ R).1) R) (zS (g3 σ (BD σ R).1) R) (zS (frS σ (BD σ R) R) R) (laS σ (BD σ R) R R) (nI m) (zS (kpS σ (BD σ R) (nI m)) R) (nI f) (zS (poS σ (BD σ R) f false) R) (zS (poS σ (BD σ R) f true) R) ky wp mi so n (zS (uvS (BD σ R).2.1) k) (zS (fun v => nI (saS σ (BD σ R) v (1000 : Int32) R)) k) (enc (fuS (BD σ R).2.1 k)) (nI k)) 8 (fun n => ?_) (fun n k hk ih => ?_) 0 (by omega)
  · exact z_y (by decide) (L_ct467 V hx hq hm hf h _ _ _ _)
  · have ik : vp_in (nI k) 16 := z_in (by omega) (by omega)
    have ck : (nI k).toNatClampNeg = k := z_cl (by omega)
    refine z_n (z_nle (n := 8) hk (by omega)) ⟨ik, ?_⟩
    rw [ck, hg.g k hk]
    have s403 : ∀ x : Int32, x = uvS (BD σ R).2.1 k → wp_L_areCounts_403 P σ pl w pad his q lr lw lg x1 (wp_L_areCounts_381 P σ pl w pad his q lr lw lg x1 (zS σ.pe R) (zS (g1 (BD σ R).1) R) (zS (g2 σ (BD σ R).1) R) (zS (g3 σ (BD σ R).1) R) (zS (frS σ (BD σ R) R) R) (laS σ (BD σ R) R R) (nI m) (zS (kpS σ (BD σ R) (nI m)) R) (nI f) (zS (poS σ (BD σ R) f false) R) (zS (poS σ (BD σ R) f true) R) ky wp mi so n) (zS σ.pe R) (zS (g1 (BD σ R).1) R) (zS (g2 σ (BD σ R).1) R) (zS (g3 σ (BD σ R).1) R) (zS (frS σ (BD σ R) R) R) (zS (fun v => nI (saS σ (BD σ R) v (1000 : Int32) R)) k) (laS σ (BD σ R) R R) (nI m) (zS (kpS σ (BD σ R) (nI m)) R) (nI f) (zS (poS σ (BD σ R) f false) R) (zS (poS σ (BD σ R) f true) R) (enc (fuS (BD σ R).2.1 k)) (nI k) (zS (uvS (BD σ R).2.1) k) x ky wp mi so := by
      intro x hx'
      subst hx'
      refine L_ahead hk h8 hR hq hr hg.w ⟨ik, ?_⟩
      rw [ck, hg.g k hk, z_s]
      rw [fuS] at ih
      cases e : fuS (BD σ R).2.1 k with
      | none =>
        rw [e] at ih
        by_cases c : (0 : Int32) < (BD σ R).2.1 k
        · simp only [c, if_true] at ih
          exact z_n (by rw [z_le]; rw [z_lt] at c; omega) (z_y (by decide) ih)
        · simp only [c, if_false] at ih
          exact z_y (by rw [z_le]; rw [z_lt] at c; omega) ih
      | some v =>
        rw [e] at ih
        obtain ⟨hv, hp⟩ := fuS_p e
        have nlt : ¬ enc (some v) < (0 : Int32) := by
          show ¬ nI v < nI 0
          rw [z_ltN (by omega) (by omega)]; omega
        by_cases c0 : (BD σ R).2.1 k ≤ 0
        · have c : ¬ (BD σ R).2.1 v < (BD σ R).2.1 k := by rw [z_lt]; rw [z_le] at c0; rw [z_lt] at hp; omega
          simp only [c, if_false] at ih
          exact z_y c0 ih
        · refine z_n c0 (z_n nlt ⟨ik, ?_⟩)
          rw [show enc (some v) = nI v from rfl, z_cl (by omega), hg.g v (by omega)]
          refine ⟨z_in (by omega) (by omega), ?_⟩
          by_cases c : (BD σ R).2.1 v < (BD σ R).2.1 k
          · simp only [c, if_true] at ih
            exact z_n (by rw [z_le]; rw [z_lt] at c; omega) ih
          · simp only [c, if_false] at ih
            exact z_y (by rw [z_le]; rw [z_lt] at c; omega) ih
    by_cases c : (BD σ R).2.1 k ≤ 0
    · exact z_y c (s403 _ (if_pos c).symm)
    · exact z_n c (s403 _ (if_neg c).symm)
theorem L_counts {x : Int32} (V : SV σ R) (hx : XR σ R pl) (hq : LQ σ R q) (hr : LR σ R lr) (hg : LG σ R lw lg) (h : ∀ ky wp mi so, P 1 ky wp mi so) : wp_L_areCounts P σ pl w pad his q lr lw lg x := by
  have hR := V.hR
  refine L_low 1800 rfl (by omega) (by omega) (fun m hm => L_low 6 rfl (by omega) (by omega) (fun f hf => ?_))
  refine z_up (fun n k => wp_L_areCounts_57 P σ pl w pad his q lr lw lg x 0 0 (nI m) (nI f) w.ky w.wp w.mi w.so n (zS σ.pe k) (zS (g1 (BD σ R).1) k) (zS (g2 σ (BD σ R).1) k) (zS (g3 σ (BD σ R).1) k) (zS (frS σ (BD σ R) R) k) (laS σ (BD σ R) R k) (zS (kpS σ (BD σ R) (nI m)) k) (zS (poS σ (BD σ R) f false) k) (zS (poS σ (BD σ R) f true) k) (nI k)) R (fun n => ?_) (fun n k hk ih => L_ct57 V hq hr hg.w hm hf hk ih) 0 (by omega)
  exact z_y (by rw [hq.i5, z_leN (by omega) (by omega)]; omega) (L_ct381 V hx hq hr hg hm hf h _ _ _ _)
end LCT
