/-! ===== the law's turns ===== -/
def RTT : Type := Int32 → (Nat → Int32) → (Nat → Int32) → (Nat → Int32) → (Nat → Int32) → (Nat → Int32) → (Nat → Int32) → (Nat → Int32) → (Nat → Int32) → (Nat → Int32) → Int32 → (Nat → Int32) → (Nat → Int32) → (Nat → Int32) → (Nat → Int32) → (Nat → Int32) → Int32 → Int32 → Int32 → (Nat → Int32) → (Nat → Int32) → (Nat → Int32) → Int32 → (Nat → StT) → Int32 → Int32 → (Nat → Int32) → (Nat → Int32) → (Nat → Int32) → (Nat → Int32) → (Nat → Int32) → Prop
def IV (σ : StT) (pl : PlT) (his : HiT) (q r w : Nat → Int32) : Prop := ∃ (R : Nat) (f : Nat → StT) (K : Nat), SV σ R ∧ XR σ R pl ∧ HX his f K ∧ (∀ i, i < K → ∃ R', SV (f i) R') ∧ LQ σ R q ∧ LR σ R r ∧ (∀ k, k < R → w k = encL ((BD σ R).1 k))
def RK (rec : Int32 → (Nat → Int32) → (Nat → Int32) → (Nat → Int32) → (Nat → Int32) → (Nat → Int32) → (Nat → Int32) → (Nat → Int32) → (Nat → Int32) → (Nat → Int32) → Int32 → (Nat → Int32) → (Nat → Int32) → (Nat → Int32) → (Nat → Int32) → (Nat → Int32) → Int32 → Int32 → Int32 → (Nat → Int32) → (Nat → Int32) → (Nat → Int32) → Int32 → (Nat → StT) → Int32 → Int32 → (Nat → Int32) → (Nat → Int32) → (Nat → Int32) → (Nat → Int32) → (Nat → Int32) → Prop) (t : Nat) : Prop := ∀ (σ : StT) (pl : PlT) (y : WyT) (his : HiT) (q r w o g : Nat → Int32), IV σ pl his q r w → rec (nI t) σ.se σ.la σ.de σ.le σ.sa σ.fl σ.ar σ.dr σ.pe σ.ri pl.od pl.rd pl.vn pl.pn pl.ao pl.sr pl.sp pl.wt y.ky y.wp y.mi y.so his.hs his.ol his.sz q r w o g
theorem lg_eq (x : Int64) : lg_cmp x x = 0 := by
  unfold lg_cmp
  rw [if_neg (Int64.lt_irrefl (a := x)), if_pos rfl]
theorem nI_r {j lo hi : Nat} (h1 : lo ≤ j) (h2 : j ≤ hi) (h : hi < 2147483648) : nI lo ≤ nI j ∧ nI j ≤ nI hi := ⟨(z_leN (by omega) (by omega)).mpr h1, (z_leN (by omega) (by omega)).mpr h2⟩
theorem hi_sv {σ : StT} {R : Nat} (V : SV σ R) {f : Nat → StT} {K : Nat} (hf : ∀ i, i < K → ∃ R', SV (f i) R') (hK : K ≤ 6) : ∀ i, i < kp K + 1 → ∃ R', SV (hiN f K σ i) R' := by
  intro i hi
  unfold hiN
  by_cases c : i = kp K
  · rw [if_pos c]; exact ⟨R, V⟩
  · rw [if_neg c]
    refine hf _ ?_
    unfold kp at hi c
    unfold ks
    by_cases d : K = 6
    · rw [if_pos d] at hi c ⊢; omega
    · rw [if_neg d] at hi c ⊢; omega
section LAW
variable {P rec : Int32 → (Nat → Int32) → (Nat → Int32) → (Nat → Int32) → (Nat → Int32) → (Nat → Int32) → (Nat → Int32) → (Nat → Int32) → (Nat → Int32) → (Nat → Int32) → Int32 → (Nat → Int32) → (Nat → Int32) → (Nat → Int32) → (Nat → Int32) → (Nat → Int32) → Int32 → Int32 → Int32 → (Nat → Int32) → (Nat → Int32) → (Nat → Int32) → Int32 → (Nat → StT) → Int32 → Int32 → (Nat → Int32) → (Nat → Int32) → (Nat → Int32) → (Nat → Int32) → (Nat → Int32) → Prop} {n0 : StT} {p0 : PlT} {y0 : WyT} {pad : PdT} {h0 : HiT} {q0 r0 w0 o0 g0 : Nat → Int32} {xs : Nat → Int32} {L : Nat} {t : Nat} {v8 v9 : Int32}
theorem L_771 {σ : StT} {R : Nat} {pl : PlT} {y : WyT} {his : HiT} {f : Nat → StT} {K : Nat} {q r w o g : Nat → Int32} (rok : RK rec (t + 1)) (V : SV σ R) (hx : XR σ R pl) (H : HX his f K) (hf : ∀ i, i < K → ∃ R', SV (f i) R') (hq : LQ σ R q) (hr : LR σ R r) (hg : LG σ R w g) : wp_L_law_771 P n0 p0 y0 pad h0 q0 r0 w0 o0 g0 xs L rec (nI t) v8 σ.se σ.la σ.de σ.le σ.sa σ.fl σ.ar σ.dr σ.pe σ.ri pl.od pl.rd pl.vn pl.pn pl.ao pl.sr pl.sp pl.wt y.ky y.wp y.mi y.so his.hs his.ol his.sz q r w o g := by
  refine L_low 8 rfl (by omega) (by omega) (fun v hv => L_low 4 rfl (by omega) (by omega) (fun p hp => ?_))
  refine L_van (σ := σ) V hx hq hr hg hv (by omega) (fun ky wp mi so => z_t ?_)
  rw [z_s]
  exact rok σ pl (mkWy ky wp mi so) his q r w o g ⟨R, f, K, V, hx, H, hf, hq, hr, hg.w⟩
theorem L_gvs {σ : StT} {R : Nat} {pl : PlT} {y : WyT} {his : HiT} {f : Nat → StT} {K : Nat} {q r w o g : Nat → Int32} (rok : RK rec (t + 1)) (V : SV σ R) (hx : XR σ R pl) (H : HX his f K) (hf : ∀ i, i < K → ∃ R', SV (f i) R') (hq : LQ σ R q) (hr : LR σ R r) :
    wp_L_gives (fun lw_153 lo_154 lg_155 =>
        wp_L_areCounts (fun r_160 ky_156 wp_157 mi_158 so_159 =>
          ((r_160 = 0) →
            P (0 : Int32) σ.se σ.la σ.de σ.le σ.sa σ.fl σ.ar σ.dr σ.pe σ.ri pl.od pl.rd pl.vn pl.pn pl.ao pl.sr pl.sp pl.wt ky_156 wp_157 mi_158 so_159 his.hs his.ol his.sz q r lw_153 lo_154 lg_155) ∧
          ((¬ r_160 = 0) →
            (((q (5 : Int32).toNatClampNeg) ≤ 0) →
              wp_L_law_771 P n0 p0 y0 pad h0 q0 r0 w0 o0 g0 xs L rec (nI t) v8 σ.se σ.la σ.de σ.le σ.sa σ.fl σ.ar σ.dr σ.pe σ.ri pl.od pl.rd pl.vn pl.pn pl.ao pl.sr pl.sp pl.wt ky_156 wp_157 mi_158 so_159 his.hs his.ol his.sz q r lw_153 lo_154 lg_155) ∧
            ((¬ (q (5 : Int32).toNatClampNeg) ≤ 0) →
              wp_L_low (fun r_165 =>
                wp_L_isRider (fun r_170 ky_166 wp_167 mi_168 so_169 =>
                  ((r_170 = 0) →
                    P (0 : Int32) σ.se σ.la σ.de σ.le σ.sa σ.fl σ.ar σ.dr σ.pe σ.ri pl.od pl.rd pl.vn pl.pn pl.ao pl.sr pl.sp pl.wt ky_166 wp_167 mi_168 so_169 his.hs his.ol his.sz q r lw_153 lo_154 lg_155) ∧
                  ((¬ r_170 = 0) →
                    wp_L_law_771 P n0 p0 y0 pad h0 q0 r0 w0 o0 g0 xs L rec (nI t) v8 σ.se σ.la σ.de σ.le σ.sa σ.fl σ.ar σ.dr σ.pe σ.ri pl.od pl.rd pl.vn pl.pn pl.ao pl.sr pl.sp pl.wt ky_166 wp_167 mi_168 so_169 his.hs his.ol his.sz q r lw_153 lo_154 lg_155)) σ pl (mkWy ky_156 wp_157 mi_158 so_159) q r lw_153 r_165) (v9 >>> ((8 : Int32) &&& 31)) (q (5 : Int32).toNatClampNeg)))) σ pl y pad his q r lw_153 lg_155 (v8 >>> ((3 : Int32) &&& 31))) q r w o g := by
  have hR := V.hR
  refine L_gives V hq hr (fun w' o' g' hg => L_counts V hx hq hr hg (fun ky wp mi so => z_t' ?_))
  rw [hq.i5]
  by_cases c : R = 0
  · exact z_y (by rw [c]; decide) (L_771 (y := mkWy ky wp mi so) rok V hx H hf hq hr hg)
  · refine z_n (by rw [show (0 : Int32) = nI 0 from rfl, z_leN (by omega) (by omega)]; omega) (L_low R rfl (by omega) (by omega) (fun j hj => ?_))
    exact L_rider V hx hq hr hg.w hj (fun ky wp mi so => z_t' (L_771 (y := mkWy ky wp mi so) rok V hx H hf hq hr hg))
theorem L_687 {σ σ2 : StT} {R R2 : Nat} {pl2 : PlT} {y : WyT} {his2 : HiT} {f2 : Nat → StT} {K2 : Nat} {q r w o g : Nat → Int32} {k a : Nat} {b c d v17 : Int32} (rok : RK rec (t + 1)) (V : SV σ R) (hq : LQ σ R q) (hr : LR σ R r) (hw : ∀ k, k < R → w k = encL ((BD σ R).1 k)) (hk : k < 7) (ok : AOK R k a b c d)
    (V2 : SV σ2 R2) (hx2 : XR σ2 R2 pl2) (H2 : HX his2 f2 K2) (hf2 : ∀ i, i < K2 → ∃ R', SV (f2 i) R') (he : (erS σ R k a b = some v17 ∧ σ2 = σ ∧ R2 = R) ∨ (erS σ R k a b = none ∧ v17 = anS σ R k a b c d ∧ σ2 = nxS σ R k a b c d ∧ R2 = nxR R k)) : wp_L_law_687 P n0 p0 y0 pad h0 q0 r0 w0 o0 g0 xs L rec (nI t) v8 v9 (nI k) (nI a) b c d v17 σ2.se σ2.la σ2.de σ2.le σ2.sa σ2.fl σ2.ar σ2.dr σ2.pe σ2.ri pl2.od pl2.rd pl2.vn pl2.pn pl2.ao pl2.sr pl2.sp pl2.wt y.ky y.wp y.mi y.so his2.hs his2.ol his2.sz q r w o g := by
  refine L_due0 V hq hr hw k hk ok (fun e er => ?_) (fun er q' r' w' o' g' hq' hr' => ?_)
  · rcases he with ⟨h1, h2, h3⟩ | ⟨h1, -⟩
    · rw [er] at h1
      have h1 : e = v17 := Option.some.inj h1
      subst h1
      subst h2
      subst h3
      exact z_y rfl (L_gvs rok V2 hx2 H2 hf2 hq hr)
    · rw [er] at h1; cases h1
  · rcases he with ⟨h1, -⟩ | ⟨h1, h2, h3, h4⟩
    · rw [er] at h1; cases h1
    · subst h3
      subst h4
      exact z_y h2 (L_gvs rok V2 hx2 H2 hf2 hq' hr')
theorem L_619e {σ : StT} {R : Nat} {pl : PlT} {y : WyT} {his : HiT} {f : Nat → StT} {K : Nat} {q r w o g : Nat → Int32} {k a : Nat} {b c d : Int32} {e : Int32} (rok : RK rec (t + 1)) (V : SV σ R) (hx : XR σ R pl) (H : HX his f K) (hf : ∀ i, i < K → ∃ R', SV (f i) R') (hq : LQ σ R q) (hr : LR σ R r) (hw : ∀ k, k < R → w k = encL ((BD σ R).1 k)) (hk : k < 7) (ok : AOK R k a b c d) (er : erS σ R k a b = some e) : wp_L_law_619 P n0 p0 y0 pad h0 q0 r0 w0 o0 g0 xs L rec (nI t) v8 v9 (nI k) (nI a) b c d (toV σ R) e 1 σ.se σ.la σ.de σ.le σ.sa σ.fl σ.ar σ.dr σ.pe σ.ri pl.od pl.rd pl.vn pl.pn pl.ao pl.sr pl.sp pl.wt y.ky y.wp y.mi y.so his.hs his.ol his.sz q r w o g := by
  refine z_t' (X_told (σ := σ) V hx (fun ky wp mi so => z_y (lg_eq _) ?_))
  exact L_687 (y := mkWy ky wp mi so) rok V hq hr hw hk ok V hx H hf (Or.inl ⟨er, rfl, rfl⟩)
theorem L_619n {σ : StT} {R : Nat} {pl : PlT} {y : WyT} {his : HiT} {f : Nat → StT} {K : Nat} {q r w o g : Nat → Int32} {k a : Nat} {b c d : Int32} {pl2 : PlT} {his2 : HiT} (rok : RK rec (t + 1)) (V : SV σ R) (hx : XR σ R pl) (H : HX his f K) (hf : ∀ i, i < K → ∃ R', SV (f i) R') (hq : LQ σ R q) (hr : LR σ R r) (hw : ∀ k, k < R → w k = encL ((BD σ R).1 k)) (hk : k < 7) (ok : AOK R k a b c d) (er : erS σ R k a b = none) (hx2 : XR (nxS σ R k a b c d) (nxR R k) pl2) (H2 : HX his2 (hiN f K σ) (kp K + 1)) : wp_L_law_619 P n0 p0 y0 pad h0 q0 r0 w0 o0 g0 xs L rec (nI t) v8 v9 (nI k) (nI a) b c d (toV σ R) (anS σ R k a b c d) 0 (nxS σ R k a b c d).se (nxS σ R k a b c d).la (nxS σ R k a b c d).de (nxS σ R k a b c d).le (nxS σ R k a b c d).sa (nxS σ R k a b c d).fl (nxS σ R k a b c d).ar (nxS σ R k a b c d).dr (nxS σ R k a b c d).pe (nxS σ R k a b c d).ri pl2.od pl2.rd pl2.vn pl2.pn pl2.ao pl2.sr pl2.sp pl2.wt y.ky y.wp y.mi y.so his2.hs his2.ol his2.sz q r w o g := by
  have V2 := nxV V hk ok er
  have hf2 := hi_sv V hf H.2.1
  refine z_y rfl ?_
  by_cases u : ((v8 >>> ((24 : Int32) &&& 31)) &&& (3 : Int32)) = 0
  · have hK : (hiN f K σ) (kp K) = σ := if_pos rfl
    refine z_y' u (X_undo (σ := nxS σ R k a b c d) (R := R) H2 (by rw [hK]; exact V) (fun pl3 hx3 => ?_))
    rw [hK] at hx3 ⊢
    have hk6 : kp K < 6 := by
      have := H.2.1
      unfold kp; split <;> omega
    refine z_n (show ¬ nI (kp K) < nI 0 by rw [z_ltN (by omega) (by omega)]; omega) ?_
    refine X_told (σ := σ) V hx3 (fun ky wp mi so => z_y' (lg_eq _) ?_)
    have H3 := HX_less H2
    obtain ⟨o3, X3⟩ := hx3
    refine X_call0 (σ := σ) V X3 H3 k hk ok (fun e er2 => by rw [er] at er2; cases er2) (fun _ pl4 his4 hx4 H4 => z_y rfl ?_)
    exact L_687 (y := mkWy ky wp mi so) rok V hq hr hw hk ok V2 hx4 H4 (hi_sv V (fun i hi => hf2 i (by omega)) (by omega)) (Or.inr ⟨er, rfl, rfl, rfl⟩)
  · exact z_n' u (L_687 (y := y) rok V hq hr hw hk ok V2 hx2 H2 hf2 (Or.inr ⟨er, rfl, rfl, rfl⟩))
theorem fa_0 {σ : StT} {R : Nat} (V : SV σ R) {b : BT} {s : Bool} {r C : Nat} (hr : r < R) (hC : C ≤ 300) : 0 ≤ (faS σ b s r R (nI C)).toInt ∧ (faS σ b s r R (nI C)).toInt ≤ 1300 := by
  rw [fa_nI V hr hC]
  have h := pyG_le (G := gR σ b s r) (p := peN σ) (C := C) (R := R) (r := r)
  have h2 := (pe_nI V hr).2.2
  have h3 : C * peN σ r ≤ 300 * 4 := Nat.mul_le_mul hC h2
  rw [z_nI (by omega)]
  omega
theorem an_ok {σ : StT} {R : Nat} (V : SV σ R) : ∀ {k a : Nat} {b c d : Int32}, k < 7 → AOK R k a b c d → erS σ R k a b = none → (-100 ≤ (anS σ R k a b c d).toInt) ∨ anS σ R k a b c d = -106
  | 0, a, _, _, _, _, ok, _ => Or.inl (by
    have h := V.seB a ok.1
    show -100 ≤ (σ.se a).toInt
    have : ∀ a, a < 5 → 0 ≤ (g_least a).toInt := by decide
    have := this a ok.1
    omega)
  | 1, a, _, _, _, _, ok, _ => Or.inl (by
    have h := V.la a ok.1
    show -100 ≤ (σ.la a).toInt
    omega)
  | 2, a, b, _, _, _, ok, _ => Or.inl (by
    have h := V.la a ok.1
    have h2 := z_b ok.2
    have h3 := V.se0
    have e1 : (-30 : Int32).toInt = -30 := by decide
    have e2 : (300 : Int32).toInt = 300 := by decide
    have i1 := z_add (a := σ.la a) (b := b) (by omega) (by omega)
    show -100 ≤ ((σ.la a + b) + σ.se 0).toInt
    rw [z_add (by omega) (by omega), i1]
    omega)
  | 3, a, b, c, d, _, ok, er => Or.inl (by
    have V' : SV (nxS σ R 3 a b c d) R := nxV V (k := 3) (by omega) ok er
    have h := zS_b (f := g2 (nxS σ R 3 a b c d) (BD (nxS σ R 3 a b c d) R).1) (hi := 0) (k := R) V.hR (fun j hj => by
      have := V'.pe j hj
      unfold g2
      split
      · omega
      · rw [z_00]; omega)
    show -100 ≤ (zS (g2 (nxS σ R 3 a b c d) (BD (nxS σ R 3 a b c d) R).1) R).toInt
    omega)
  | 4, _, _, _, _, _, _, _ => Or.inl (by
    have hR := V.hR
    show -100 ≤ (nI R).toInt
    rw [z_nI (by omega)]; omega)
  | 5, a, b, _, _, _, ok, er => Or.inl (by
    have ha : a < R := by
      rw [er5] at er
      by_cases c : R ≤ a
      · rw [if_pos c] at er; cases er
      · omega
    obtain ⟨e3, l3⟩ := se_nI V.se3
    obtain ⟨e4, l4⟩ := se_nI V.se4
    show -100 ≤ (frS σ (BD σ R) R a).toInt
    unfold frS
    cases g : (BD σ R).1 a with
    | none => show -100 ≤ (0 : Int32).toInt; rw [z_00]; omega
    | some v =>
      show -100 ≤ (faS σ (BD σ R) false a R (σ.se 3) + faS σ (BD σ R) true a R (σ.se 4)).toInt
      rw [e3, e4]
      have h1 := fa_0 V (b := BD σ R) (s := false) (C := (σ.se 3).toInt.toNat) ha (by omega)
      have h2 := fa_0 V (b := BD σ R) (s := true) (C := (σ.se 4).toInt.toNat) ha (by omega)
      rw [z_add (by omega) (by omega)]
      omega)
  | 6, a, b, c, d, _, _, _ => by
    show -100 ≤ (enc ((BD (nxS σ R 6 a b c d) R).1 a)).toInt ∨ enc ((BD (nxS σ R 6 a b c d) R).1 a) = -106
    cases g : (BD (nxS σ R 6 a b c d) R).1 a with
    | none => exact Or.inr rfl
    | some v =>
      have hv := BD8 (nxS σ R 6 a b c d) R a v g
      refine Or.inl ?_
      show -100 ≤ (nI v).toInt
      rw [z_nI (by omega)]; omega
  | k + 7, _, _, _, _, hk, _, _ => absurd hk (by omega)
theorem er_ok {σ : StT} {R : Nat} : ∀ {k a : Nat} {b e : Int32}, k < 7 → erS σ R k a b = some e → ¬ (-100 : Int32) ≤ e ∧ ¬ e = -106
  | 0, _, _, _, _, h => by cases h
  | 1, _, _, _, _, h => by cases h
  | 2, _, _, _, _, h => by cases h
  | 3, _, _, _, _, h => by cases h
  | 4, _, _, _, _, h => by
    rw [er4] at h
    by_cases c : R = 24
    · rw [if_pos c] at h
      rw [← Option.some.inj h]
      decide
    · rw [if_neg c] at h; cases h
  | 5, a, _, _, _, h => by
    rw [er5] at h
    by_cases c : R ≤ a
    · rw [if_pos c] at h
      rw [← Option.some.inj h]
      decide
    · rw [if_neg c] at h; cases h
  | 6, a, b, _, _, h => by
    rw [er6] at h
    by_cases c : R ≤ a
    · rw [if_pos c] at h
      rw [← Option.some.inj h]
      decide
    · rw [if_neg c] at h
      by_cases c2 : σ.fl a = b
      · rw [if_pos c2] at h
        rw [← Option.some.inj h]
        decide
      · rw [if_neg c2] at h; cases h
  | k + 7, _, _, _, hk, _ => absurd hk (by omega)
theorem L_563 {σ : StT} {R : Nat} {pl : PlT} {y : WyT} {his : HiT} {f : Nat → StT} {K : Nat} {q r w o g : Nat → Int32} {k a : Nat} {b c : Int32} (rok : RK rec (t + 1)) (V : SV σ R) (hx : XR σ R pl) (H : HX his f K) (hf : ∀ i, i < K → ∃ R', SV (f i) R') (hq : LQ σ R q) (hr : LR σ R r) (hw : ∀ k, k < R → w k = encL ((BD σ R).1 k)) (hk : k < 7) (ok : ∀ j, j < 4 → AOK R k a b c (nI (1 + j))) : wp_L_law_563 P n0 p0 y0 pad h0 q0 r0 w0 o0 g0 xs L rec (nI t) v8 v9 (nI k) (nI a) b c σ.se σ.la σ.de σ.le σ.sa σ.fl σ.ar σ.dr σ.pe σ.ri pl.od pl.rd pl.vn pl.pn pl.ao pl.sr pl.sp pl.wt y.ky y.wp y.mi y.so his.hs his.ol his.sz q r w o g := by
  refine L_low 4 rfl (by omega) (by omega) (fun j hj => ?_)
  rw [show (1 : Int32) + nI j = nI (1 + j) from z_a 1 j]
  have ok := ok j hj
  refine X_told (σ := σ) V hx (fun ky wp mi so => ?_)
  obtain ⟨o1, X⟩ := id hx
  refine X_call0 (σ := σ) V X H k hk ok (fun e er => ?_) (fun er pl2 his2 hx2 H2 => ?_)
  · obtain ⟨h1, h2⟩ := er_ok hk er
    exact z_n h1 (z_n h2 (L_619e (y := mkWy ky wp mi so) rok V hx H hf hq hr hw hk ok er))
  · have fin := L_619n (P := P) (n0 := n0) (p0 := p0) (y0 := y0) (pad := pad) (h0 := h0) (q0 := q0) (r0 := r0) (w0 := w0) (o0 := o0) (g0 := g0) (xs := xs) (L := L) (v8 := v8) (v9 := v9) (y := mkWy ky wp mi so) (o := o) (g := g) rok V hx H hf hq hr hw hk ok er hx2 H2
    refine ⟨fun _ => fin, fun h => ⟨fun _ => fin, fun h' => ?_⟩⟩
    rcases an_ok V hk ok er with g | g
    · exact absurd (by rw [z_le]; have e : (-100 : Int32).toInt = -100 := by decide
                       omega) h
    · exact absurd g h'
/-- what a and b may be for a kind of call -/
def BOK (R k a : Nat) (b : Int32) : Prop :=
  match k with
  | 0 => a < 5 ∧ g_least a ≤ b ∧ b ≤ g_most a
  | 1 => a < 6 ∧ (0 : Int32) ≤ b ∧ b ≤ (1200 : Int32)
  | 2 => a < 6 ∧ (-30 : Int32) ≤ b ∧ b ≤ (300 : Int32)
  | 3 => a < 8 ∧ ((0 : Int32) ≤ b ∧ b ≤ (1500 : Int32))
  | 4 => a < 6 ∧ ((0 : Int32) ≤ b ∧ b ≤ (5 : Int32))
  | 5 => a ≤ R
  | _ => a ≤ R ∧ z_is b 6
theorem BOK.a4 {R a : Nat} {b : Int32} {c j : Nat} (h : BOK R 4 a b) (hc : c < 100) (hj : j < 4) : AOK R 4 a b (nI c) (nI (1 + j)) :=
  ⟨h.1, h.2, nI_r (lo := 0) (hi := 99) (by omega) (by omega) (by omega), nI_r (lo := 1) (hi := 4) (by omega) (by omega) (by omega)⟩
theorem BOK.ne {R a : Nat} {b : Int32} {c j : Nat} : ∀ {k : Nat}, k ≠ 3 → k < 7 → BOK R k a b → c < 100 → j < 4 → AOK R k a b (nI c) (nI (1 + j))
  | 0, _, _, h, _, _ => h
  | 1, _, _, h, _, _ => h
  | 2, _, _, h, _, _ => h
  | 3, hk, _, _, _, _ => absurd rfl hk
  | 4, _, _, h, hc, hj => h.a4 hc hj
  | 5, _, _, h, _, _ => h
  | 6, _, _, h, _, _ => h
  | k + 7, _, hk, _, _, _ => absurd hk (by omega)
theorem L_516 {σ : StT} {R : Nat} {pl : PlT} {y : WyT} {his : HiT} {f : Nat → StT} {K : Nat} {q r w o g : Nat → Int32} {k a : Nat} {b : Int32} (rok : RK rec (t + 1)) (V : SV σ R) (hx : XR σ R pl) (H : HX his f K) (hf : ∀ i, i < K → ∃ R', SV (f i) R') (hq : LQ σ R q) (hr : LR σ R r) (hw : ∀ k, k < R → w k = encL ((BD σ R).1 k)) (hk : k < 7) (ok : BOK R k a b) : wp_L_law_516 P n0 p0 y0 pad h0 q0 r0 w0 o0 g0 xs L rec (nI t) v8 v9 (nI k) (nI a) b σ.se σ.la σ.de σ.le σ.sa σ.fl σ.ar σ.dr σ.pe σ.ri pl.od pl.rd pl.vn pl.pn pl.ao pl.sr pl.sp pl.wt y.ky y.wp y.mi y.so his.hs his.ol his.sz q r w o g := by
  by_cases k3 : k = 3
  · subst k3
    refine z_y' rfl (L_low 13 rfl (by omega) (by omega) (fun j hj => ?_))
    exact L_563 rok V hx H hf hq hr hw hk (fun i hi => ⟨ok.1, ok.2, nI_r (lo := 0) (hi := 12) (by omega) (by omega) (by omega)⟩)
  · refine z_n' (by rw [show (3 : Int32) = nI 3 from rfl, z_eqN (by omega) (by omega)]; exact k3) (L_low 3 rfl (by omega) (by omega) (fun j hj => ?_))
    refine ⟨fun _ => L_low 3 rfl (by omega) (by omega) (fun i hi => ?_), fun _ => L_low 100 rfl (by omega) (by omega) (fun i hi => ?_)⟩
    · exact L_563 rok V hx H hf hq hr hw hk (fun j' hj' => BOK.ne k3 hk ok (by omega) hj')
    · exact L_563 rok V hx H hf hq hr hw hk (fun j' hj' => BOK.ne k3 hk ok (by omega) hj')
theorem ml0 : ∀ a, a < 5 → a ≠ 2 → g_least a = 0 := by decide
theorem L_317_0 {σ : StT} {R : Nat} {pl : PlT} {y : WyT} {his : HiT} {f : Nat → StT} {K : Nat} {q r w o g : Nat → Int32} {a : Nat} (rok : RK rec (t + 1)) (V : SV σ R) (hx : XR σ R pl) (H : HX his f K) (hf : ∀ i, i < K → ∃ R', SV (f i) R') (hq : LQ σ R q) (hr : LR σ R r) (hw : ∀ k, k < R → w k = encL ((BD σ R).1 k)) (ha : a < 5) : wp_L_law_317 P n0 p0 y0 pad h0 q0 r0 w0 o0 g0 xs L rec (nI t) v8 v9 (nI 0) (nI a) σ.se σ.la σ.de σ.le σ.sa σ.fl σ.ar σ.dr σ.pe σ.ri pl.od pl.rd pl.vn pl.pn pl.ao pl.sr pl.sp pl.wt y.ky y.wp y.mi y.so his.hs his.ol his.sz q r w o g := by
  rcases (show a = 0 ∨ a = 1 ∨ a = 2 ∨ a = 3 ∨ a = 4 from by omega) with rfl | rfl | rfl | rfl | rfl
  · exact z_y' rfl (z_y' rfl (L_low 91 rfl (by omega) (by omega) (fun j hj => L_516 (k := 0) rok V hx H hf hq hr hw (by omega) ⟨by omega, nI_r (lo := 0) (hi := 90) (by omega) (by omega) (by omega)⟩)))
  · exact z_y' rfl (z_n' (by decide) (z_y' rfl (L_low 241 rfl (by omega) (by omega) (fun j hj => L_516 (k := 0) rok V hx H hf hq hr hw (by omega) ⟨by omega, nI_r (lo := 0) (hi := 240) (by omega) (by omega) (by omega)⟩))))
  · refine z_y' rfl (z_n' (by decide) (z_n' (by decide) (z_y' rfl (L_low 6 rfl (by omega) (by omega) (fun j hj => ?_)))))
    rw [show (1 : Int32) + nI j = nI (1 + j) from z_a 1 j]
    exact L_516 (k := 0) rok V hx H hf hq hr hw (by omega) ⟨by omega, nI_r (lo := 1) (hi := 6) (by omega) (by omega) (by omega)⟩
  · exact z_y' rfl (z_n' (by decide) (z_n' (by decide) (z_n' (by decide) (z_y' rfl (L_low 301 rfl (by omega) (by omega) (fun j hj => L_516 (k := 0) rok V hx H hf hq hr hw (by omega) ⟨by omega, nI_r (lo := 0) (hi := 300) (by omega) (by omega) (by omega)⟩))))))
  · exact z_y' rfl (z_n' (by decide) (z_n' (by decide) (z_n' (by decide) (z_n' (by decide) (L_low 41 rfl (by omega) (by omega) (fun j hj => L_516 (k := 0) rok V hx H hf hq hr hw (by omega) ⟨by omega, nI_r (lo := 0) (hi := 40) (by omega) (by omega) (by omega)⟩))))))
theorem L_317_1 {σ : StT} {R : Nat} {pl : PlT} {y : WyT} {his : HiT} {f : Nat → StT} {K : Nat} {q r w o g : Nat → Int32} {a : Nat} (rok : RK rec (t + 1)) (V : SV σ R) (hx : XR σ R pl) (H : HX his f K) (hf : ∀ i, i < K → ∃ R', SV (f i) R') (hq : LQ σ R q) (hr : LR σ R r) (hw : ∀ k, k < R → w k = encL ((BD σ R).1 k)) (ha : a < 6) : wp_L_law_317 P n0 p0 y0 pad h0 q0 r0 w0 o0 g0 xs L rec (nI t) v8 v9 (nI 1) (nI a) σ.se σ.la σ.de σ.le σ.sa σ.fl σ.ar σ.dr σ.pe σ.ri pl.od pl.rd pl.vn pl.pn pl.ao pl.sr pl.sp pl.wt y.ky y.wp y.mi y.so his.hs his.ol his.sz q r w o g := by
  refine z_n' (by decide) (z_y' rfl (L_low 2 rfl (by omega) (by omega) (fun i hi => ⟨fun _ => L_low 300 rfl (by omega) (by omega) (fun j hj => ?_), fun _ => L_low 1201 rfl (by omega) (by omega) (fun j hj => ?_)⟩)))
  · exact L_516 (k := 1) rok V hx H hf hq hr hw (by omega) ⟨ha, nI_r (lo := 0) (hi := 1200) (by omega) (by omega) (by omega)⟩
  · exact L_516 (k := 1) rok V hx H hf hq hr hw (by omega) ⟨ha, nI_r (lo := 0) (hi := 1200) (by omega) (by omega) (by omega)⟩
theorem L_317_2 {σ : StT} {R : Nat} {pl : PlT} {y : WyT} {his : HiT} {f : Nat → StT} {K : Nat} {q r w o g : Nat → Int32} {a : Nat} (rok : RK rec (t + 1)) (V : SV σ R) (hx : XR σ R pl) (H : HX his f K) (hf : ∀ i, i < K → ∃ R', SV (f i) R') (hq : LQ σ R q) (hr : LR σ R r) (hw : ∀ k, k < R → w k = encL ((BD σ R).1 k)) (ha : a < 6) : wp_L_law_317 P n0 p0 y0 pad h0 q0 r0 w0 o0 g0 xs L rec (nI t) v8 v9 (nI 2) (nI a) σ.se σ.la σ.de σ.le σ.sa σ.fl σ.ar σ.dr σ.pe σ.ri pl.od pl.rd pl.vn pl.pn pl.ao pl.sr pl.sp pl.wt y.ky y.wp y.mi y.so his.hs his.ol his.sz q r w o g := by
  refine z_n' (by decide) (z_n' (by decide) (z_y' rfl (L_low 331 rfl (by omega) (by omega) (fun j hj => ?_))))
  have e1 := z_nI (n := j) (by omega)
  have e2 : (30 : Int32).toInt = 30 := by decide
  have e3 : (-30 : Int32).toInt = -30 := by decide
  have e4 : (300 : Int32).toInt = 300 := by decide
  have e5 := z_sub (a := nI j) (b := 30) (by omega) (by omega)
  exact L_516 (k := 2) rok V hx H hf hq hr hw (by omega) ⟨ha, by rw [z_le]; omega, by rw [z_le]; omega⟩
theorem L_317_3 {σ : StT} {R : Nat} {pl : PlT} {y : WyT} {his : HiT} {f : Nat → StT} {K : Nat} {q r w o g : Nat → Int32} {a : Nat} (rok : RK rec (t + 1)) (V : SV σ R) (hx : XR σ R pl) (H : HX his f K) (hf : ∀ i, i < K → ∃ R', SV (f i) R') (hq : LQ σ R q) (hr : LR σ R r) (hw : ∀ k, k < R → w k = encL ((BD σ R).1 k)) (ha : a < 8) : wp_L_law_317 P n0 p0 y0 pad h0 q0 r0 w0 o0 g0 xs L rec (nI t) v8 v9 (nI 3) (nI a) σ.se σ.la σ.de σ.le σ.sa σ.fl σ.ar σ.dr σ.pe σ.ri pl.od pl.rd pl.vn pl.pn pl.ao pl.sr pl.sp pl.wt y.ky y.wp y.mi y.so his.hs his.ol his.sz q r w o g := by
  refine z_n' (by decide) (z_n' (by decide) (z_n' (by decide) (z_y' rfl (L_low 2 rfl (by omega) (by omega) (fun i hi => ⟨fun _ => L_low 400 rfl (by omega) (by omega) (fun j hj => ?_), fun _ => L_low 1501 rfl (by omega) (by omega) (fun j hj => ?_)⟩)))))
  · exact L_516 (k := 3) rok V hx H hf hq hr hw (by omega) ⟨ha, nI_r (lo := 0) (hi := 1500) (by omega) (by omega) (by omega)⟩
  · exact L_516 (k := 3) rok V hx H hf hq hr hw (by omega) ⟨ha, nI_r (lo := 0) (hi := 1500) (by omega) (by omega) (by omega)⟩
theorem L_317_4 {σ : StT} {R : Nat} {pl : PlT} {y : WyT} {his : HiT} {f : Nat → StT} {K : Nat} {q r w o g : Nat → Int32} {a : Nat} (rok : RK rec (t + 1)) (V : SV σ R) (hx : XR σ R pl) (H : HX his f K) (hf : ∀ i, i < K → ∃ R', SV (f i) R') (hq : LQ σ R q) (hr : LR σ R r) (hw : ∀ k, k < R → w k = encL ((BD σ R).1 k)) (ha : a < 6) : wp_L_law_317 P n0 p0 y0 pad h0 q0 r0 w0 o0 g0 xs L rec (nI t) v8 v9 (nI 4) (nI a) σ.se σ.la σ.de σ.le σ.sa σ.fl σ.ar σ.dr σ.pe σ.ri pl.od pl.rd pl.vn pl.pn pl.ao pl.sr pl.sp pl.wt y.ky y.wp y.mi y.so his.hs his.ol his.sz q r w o g := by
  exact z_n' (by decide) (z_n' (by decide) (z_n' (by decide) (z_n' (by decide) (L_low 6 rfl (by omega) (by omega) (fun j hj => L_516 (k := 4) rok V hx H hf hq hr hw (by omega) ⟨ha, nI_r (lo := 0) (hi := 5) (by omega) (by omega) (by omega)⟩)))))
theorem L_317_5 {σ : StT} {R : Nat} {pl : PlT} {y : WyT} {his : HiT} {f : Nat → StT} {K : Nat} {q r w o g : Nat → Int32} {a : Nat} (rok : RK rec (t + 1)) (V : SV σ R) (hx : XR σ R pl) (H : HX his f K) (hf : ∀ i, i < K → ∃ R', SV (f i) R') (hq : LQ σ R q) (hr : LR σ R r) (hw : ∀ k, k < R → w k = encL ((BD σ R).1 k)) (ha : a ≤ R) : wp_L_law_317 P n0 p0 y0 pad h0 q0 r0 w0 o0 g0 xs L rec (nI t) v8 v9 (nI 5) (nI a) σ.se σ.la σ.de σ.le σ.sa σ.fl σ.ar σ.dr σ.pe σ.ri pl.od pl.rd pl.vn pl.pn pl.ao pl.sr pl.sp pl.wt y.ky y.wp y.mi y.so his.hs his.ol his.sz q r w o g := by
  exact z_n' (by decide) (z_n' (by decide) (z_n' (by decide) (z_n' (by decide) (L_low 6 rfl (by omega) (by omega) (fun j hj => L_516 (k := 5) rok V hx H hf hq hr hw (by omega) ha)))))
theorem L_317_6 {σ : StT} {R : Nat} {pl : PlT} {y : WyT} {his : HiT} {f : Nat → StT} {K : Nat} {q r w o g : Nat → Int32} {a : Nat} (rok : RK rec (t + 1)) (V : SV σ R) (hx : XR σ R pl) (H : HX his f K) (hf : ∀ i, i < K → ∃ R', SV (f i) R') (hq : LQ σ R q) (hr : LR σ R r) (hw : ∀ k, k < R → w k = encL ((BD σ R).1 k)) (ha : a ≤ R) : wp_L_law_317 P n0 p0 y0 pad h0 q0 r0 w0 o0 g0 xs L rec (nI t) v8 v9 (nI 6) (nI a) σ.se σ.la σ.de σ.le σ.sa σ.fl σ.ar σ.dr σ.pe σ.ri pl.od pl.rd pl.vn pl.pn pl.ao pl.sr pl.sp pl.wt y.ky y.wp y.mi y.so his.hs his.ol his.sz q r w o g := by
  exact z_n' (by decide) (z_n' (by decide) (z_n' (by decide) (z_n' (by decide) (L_low 6 rfl (by omega) (by omega) (fun j hj => L_516 (k := 6) rok V hx H hf hq hr hw (by omega) ⟨ha, j, hj, rfl⟩)))))
theorem L_243_0 {σ : StT} {R : Nat} {pl : PlT} {y : WyT} {his : HiT} {f : Nat → StT} {K : Nat} {q r w o g : Nat → Int32} (rok : RK rec (t + 1)) (V : SV σ R) (hx : XR σ R pl) (H : HX his f K) (hf : ∀ i, i < K → ∃ R', SV (f i) R') (hq : LQ σ R q) (hr : LR σ R r) (hw : ∀ k, k < R → w k = encL ((BD σ R).1 k)) : wp_L_law_243 P n0 p0 y0 pad h0 q0 r0 w0 o0 g0 xs L rec (nI t) v8 v9 (nI 0) σ.se σ.la σ.de σ.le σ.sa σ.fl σ.ar σ.dr σ.pe σ.ri pl.od pl.rd pl.vn pl.pn pl.ao pl.sr pl.sp pl.wt y.ky y.wp y.mi y.so his.hs his.ol his.sz q r w o g := by
  have hR := V.hR
  exact z_y' rfl (L_low 5 rfl (by omega) (by omega) (fun a ha => L_317_0 rok V hx H hf hq hr hw ha))
theorem L_243_3 {σ : StT} {R : Nat} {pl : PlT} {y : WyT} {his : HiT} {f : Nat → StT} {K : Nat} {q r w o g : Nat → Int32} (rok : RK rec (t + 1)) (V : SV σ R) (hx : XR σ R pl) (H : HX his f K) (hf : ∀ i, i < K → ∃ R', SV (f i) R') (hq : LQ σ R q) (hr : LR σ R r) (hw : ∀ k, k < R → w k = encL ((BD σ R).1 k)) : wp_L_law_243 P n0 p0 y0 pad h0 q0 r0 w0 o0 g0 xs L rec (nI t) v8 v9 (nI 3) σ.se σ.la σ.de σ.le σ.sa σ.fl σ.ar σ.dr σ.pe σ.ri pl.od pl.rd pl.vn pl.pn pl.ao pl.sr pl.sp pl.wt y.ky y.wp y.mi y.so his.hs his.ol his.sz q r w o g := by
  have hR := V.hR
  exact z_n' (by decide) (z_y' rfl (L_low 8 rfl (by omega) (by omega) (fun a ha => L_317_3 rok V hx H hf hq hr hw ha)))
theorem L_243_1 {σ : StT} {R : Nat} {pl : PlT} {y : WyT} {his : HiT} {f : Nat → StT} {K : Nat} {q r w o g : Nat → Int32} (rok : RK rec (t + 1)) (V : SV σ R) (hx : XR σ R pl) (H : HX his f K) (hf : ∀ i, i < K → ∃ R', SV (f i) R') (hq : LQ σ R q) (hr : LR σ R r) (hw : ∀ k, k < R → w k = encL ((BD σ R).1 k)) : wp_L_law_243 P n0 p0 y0 pad h0 q0 r0 w0 o0 g0 xs L rec (nI t) v8 v9 (nI 1) σ.se σ.la σ.de σ.le σ.sa σ.fl σ.ar σ.dr σ.pe σ.ri pl.od pl.rd pl.vn pl.pn pl.ao pl.sr pl.sp pl.wt y.ky y.wp y.mi y.so his.hs his.ol his.sz q r w o g := by
  have hR := V.hR
  exact z_n' (by decide) (z_n' (by decide) (z_y (by decide) (L_low 2 rfl (by omega) (by omega) (fun i hi => ⟨fun _ => L_low 2 rfl (by omega) (by omega) (fun a ha => L_317_1 rok V hx H hf hq hr hw (by omega)), fun _ => L_low 6 rfl (by omega) (by omega) (fun a ha => L_317_1 rok V hx H hf hq hr hw ha)⟩))))
theorem L_243_2 {σ : StT} {R : Nat} {pl : PlT} {y : WyT} {his : HiT} {f : Nat → StT} {K : Nat} {q r w o g : Nat → Int32} (rok : RK rec (t + 1)) (V : SV σ R) (hx : XR σ R pl) (H : HX his f K) (hf : ∀ i, i < K → ∃ R', SV (f i) R') (hq : LQ σ R q) (hr : LR σ R r) (hw : ∀ k, k < R → w k = encL ((BD σ R).1 k)) : wp_L_law_243 P n0 p0 y0 pad h0 q0 r0 w0 o0 g0 xs L rec (nI t) v8 v9 (nI 2) σ.se σ.la σ.de σ.le σ.sa σ.fl σ.ar σ.dr σ.pe σ.ri pl.od pl.rd pl.vn pl.pn pl.ao pl.sr pl.sp pl.wt y.ky y.wp y.mi y.so his.hs his.ol his.sz q r w o g := by
  have hR := V.hR
  exact z_n' (by decide) (z_n' (by decide) (z_y (by decide) (L_low 2 rfl (by omega) (by omega) (fun i hi => ⟨fun _ => L_low 2 rfl (by omega) (by omega) (fun a ha => L_317_2 rok V hx H hf hq hr hw (by omega)), fun _ => L_low 6 rfl (by omega) (by omega) (fun a ha => L_317_2 rok V hx H hf hq hr hw ha)⟩))))
theorem L_243_4 {σ : StT} {R : Nat} {pl : PlT} {y : WyT} {his : HiT} {f : Nat → StT} {K : Nat} {q r w o g : Nat → Int32} (rok : RK rec (t + 1)) (V : SV σ R) (hx : XR σ R pl) (H : HX his f K) (hf : ∀ i, i < K → ∃ R', SV (f i) R') (hq : LQ σ R q) (hr : LR σ R r) (hw : ∀ k, k < R → w k = encL ((BD σ R).1 k)) : wp_L_law_243 P n0 p0 y0 pad h0 q0 r0 w0 o0 g0 xs L rec (nI t) v8 v9 (nI 4) σ.se σ.la σ.de σ.le σ.sa σ.fl σ.ar σ.dr σ.pe σ.ri pl.od pl.rd pl.vn pl.pn pl.ao pl.sr pl.sp pl.wt y.ky y.wp y.mi y.so his.hs his.ol his.sz q r w o g := by
  have hR := V.hR
  exact z_n' (by decide) (z_n' (by decide) (z_y (by decide) (L_low 2 rfl (by omega) (by omega) (fun i hi => ⟨fun _ => L_low 2 rfl (by omega) (by omega) (fun a ha => L_317_4 rok V hx H hf hq hr hw (by omega)), fun _ => L_low 6 rfl (by omega) (by omega) (fun a ha => L_317_4 rok V hx H hf hq hr hw ha)⟩))))
theorem L_243_5 {σ : StT} {R : Nat} {pl : PlT} {y : WyT} {his : HiT} {f : Nat → StT} {K : Nat} {q r w o g : Nat → Int32} (rok : RK rec (t + 1)) (V : SV σ R) (hx : XR σ R pl) (H : HX his f K) (hf : ∀ i, i < K → ∃ R', SV (f i) R') (hq : LQ σ R q) (hr : LR σ R r) (hw : ∀ k, k < R → w k = encL ((BD σ R).1 k)) : wp_L_law_243 P n0 p0 y0 pad h0 q0 r0 w0 o0 g0 xs L rec (nI t) v8 v9 (nI 5) σ.se σ.la σ.de σ.le σ.sa σ.fl σ.ar σ.dr σ.pe σ.ri pl.od pl.rd pl.vn pl.pn pl.ao pl.sr pl.sp pl.wt y.ky y.wp y.mi y.so his.hs his.ol his.sz q r w o g := by
  have hR := V.hR
  exact z_n' (by decide) (z_n' (by decide) (z_n (by decide) (L_low (R + 1) (by rw [hq.i5, z_s]) (by omega) (by omega) (fun a ha => L_317_5 rok V hx H hf hq hr hw (by omega)))))
theorem L_243_6 {σ : StT} {R : Nat} {pl : PlT} {y : WyT} {his : HiT} {f : Nat → StT} {K : Nat} {q r w o g : Nat → Int32} (rok : RK rec (t + 1)) (V : SV σ R) (hx : XR σ R pl) (H : HX his f K) (hf : ∀ i, i < K → ∃ R', SV (f i) R') (hq : LQ σ R q) (hr : LR σ R r) (hw : ∀ k, k < R → w k = encL ((BD σ R).1 k)) : wp_L_law_243 P n0 p0 y0 pad h0 q0 r0 w0 o0 g0 xs L rec (nI t) v8 v9 (nI 6) σ.se σ.la σ.de σ.le σ.sa σ.fl σ.ar σ.dr σ.pe σ.ri pl.od pl.rd pl.vn pl.pn pl.ao pl.sr pl.sp pl.wt y.ky y.wp y.mi y.so his.hs his.ol his.sz q r w o g := by
  have hR := V.hR
  exact z_n' (by decide) (z_n' (by decide) (z_n (by decide) (L_low (R + 1) (by rw [hq.i5, z_s]) (by omega) (by omega) (fun a ha => L_317_6 rok V hx H hf hq hr hw (by omega)))))
theorem L_131 (ht : t < 40) {σ : StT} {pl : PlT} {y : WyT} {his : HiT} {q r w o g : Nat → Int32} (rok : RK rec (t + 1)) (iv : IV σ pl his q r w) : wp_L_law_131F P n0 p0 y0 pad h0 q0 r0 w0 o0 g0 xs L rec (nI t) σ.se σ.la σ.de σ.le σ.sa σ.fl σ.ar σ.dr σ.pe σ.ri pl.od pl.rd pl.vn pl.pn pl.ao pl.sr pl.sp pl.wt y.ky y.wp y.mi y.so his.hs his.ol his.sz q r w o g := by
  obtain ⟨R, f, K, V, hx, H, hf, hq, hr, hw⟩ := iv
  refine z_n (z_nle (n := 40) ht (by omega)) ?_
  have e2 : (2 : Int32) * nI t = nI (2 * t) := z_m 2 t
  have e3 : nI (2 * t) + (1 : Int32) = nI (2 * t + 1) := z_s _
  refine ⟨?_, ?_, L_low 20 rfl (by omega) (by omega) (fun j hj => ?_)⟩
  · rw [e2]; exact nI_pos' (by omega)
  · rw [e2, e3]; exact nI_pos' (by omega)
  · refine ⟨fun _ => L_243_4 rok V hx H hf hq hr hw, fun _ => ⟨fun h12 => ⟨fun n12 => ⟨fun n13 => ⟨fun h16 => ⟨fun n16 => ⟨fun n17 => L_243_6 rok V hx H hf hq hr hw, fun _ => L_243_5 rok V hx H hf hq hr hw⟩, fun _ => L_243_3 rok V hx H hf hq hr hw⟩, fun _ => L_243_2 rok V hx H hf hq hr hw⟩, fun _ => L_243_1 rok V hx H hf hq hr hw⟩, fun _ => L_243_0 rok V hx H hf hq hr hw⟩, fun _ => L_243_4 rok V hx H hf hq hr hw⟩⟩
end LAW
