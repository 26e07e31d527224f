set_option maxHeartbeats 8000000 in
set_option maxRecDepth 100000 in
/-- the law from its entry, once lawOpen stands -/
theorem whole_start_open (hlaw : lawOpen) {p : Program} {e : Env} {s : State} {m : MethodId} {below : List Frame} {meth : Method} {c : Code} (l : Launch) (hflags : l.flags = flags0) {b L : Nat} {xs : Nat → Int32} (hL : L ≤ 2560) (C0 : lw_At p s m meth c b L xs) : W p l e room_1 s m #[Value.ref b] below meth c s.heap [] 0 0 (lw_Z below #[Value.ref b] s) (entryFrame m ([Value.ref b] : List Value).toArray 4) := by
  obtain ⟨hx, hb, hr, hml, hown, hts, hX, hbl, hlocks, hgv⟩ := id C0
  have hts2 : ∀ w ∈ lw_good, w.before #[Value.ref b] s = true := fun w h => hts w (List.mem_filter.mp h).1
  obtain ⟨c0, iS0, hK0⟩ := u_known (C := RX0) (T := TX0) (N := 3) (n := 3) hts2 inX0 (hts2 _ tw_is_X0)
  obtain ⟨c1, iS1, hK1⟩ := u_known (C := RX1) (T := TX1) (N := 2) (n := 2) hts2 inX1 (hts2 _ tw_is_X1)
  obtain ⟨c2, iS2, hK2⟩ := u_known (C := RX2) (T := TX2) (N := 8) (n := 8) hts2 inX2 (hts2 _ tw_is_X2)
  obtain ⟨c3, iS3, hK3⟩ := u_known (C := RX3) (T := TX3) (N := 10) (n := 10) hts2 inX3 (hts2 _ tw_is_X3)
  obtain ⟨c4, iS4, hK4⟩ := u_known (C := RX4) (T := TX4) (N := 4) (n := 4) hts2 inX4 (hts2 _ tw_is_X4)
  obtain ⟨c5, iS5, hK5⟩ := u_known (C := RX5) (T := TX5) (N := 8) (n := 8) hts2 inX5 (hts2 _ tw_is_X5)
  obtain ⟨c6, iS6, hK6⟩ := u_known (C := RX6) (T := TX6) (N := 16) (n := 16) hts2 inX6 (hts2 _ tw_is_X6)
  obtain ⟨dC, dI, hKc⟩ : ∃ (dC : Nat → ClassId) (dI : Nat → Nat → Nat), ∀ (k : Nat) (q : vw_C), vwCl[k]? = some q → u_Kn s q.1 q.2.1 q.2.2 (dC k) (dI k) := by
    refine ⟨fun k => if k = 0 then c0 else if k = 1 then c1 else if k = 2 then c2 else if k = 3 then c3 else if k = 4 then c4 else if k = 5 then c5 else c6, fun k => if k = 0 then iS0 else if k = 1 then iS1 else if k = 2 then iS2 else if k = 3 then iS3 else if k = 4 then iS4 else if k = 5 then iS5 else iS6, ?_⟩
    intro k q hq
    match k, hq with
    | 0, hq => cases hq; exact hK0
    | 1, hq => cases hq; exact hK1
    | 2, hq => cases hq; exact hK2
    | 3, hq => cases hq; exact hK3
    | 4, hq => cases hq; exact hK4
    | 5, hq => cases hq; exact hK5
    | 6, hq => cases hq; exact hK6
    | k + 7, hq => simp [vwCl] at hq
  obtain ⟨cI, kI, compI, f1, f2, f3⟩ := Cond.arrayClass_spec (hts2 _ tw_ac_int)
  obtain ⟨compR, cR, kR, g1, -, g3, g4, g5⟩ := Cond.arrayOver_spec (hts _ tn_ao)
  have hKt : va_K (dC, dI) vwCl (g_tys cI cR) s := by
    refine ⟨hKc, fun k q hq => ?_⟩
    match k, hq with
    | 0, hq => cases hq; exact ⟨fun n z => ⟨fun k h => (by cases h), kI, f2, compI, f3⟩, f1⟩
    | 1, hq => cases hq; exact ⟨fun n z => ⟨fun k h => (by cases h), kR, g3, compR, g4⟩, kR, compR, g3, g4, g1, g5⟩
    | k + 2, hq => simp [g_tys] at hq
  have hA : ∀ a : Nat, a < s.heap.size → ¬ (fun q : Nat => s.heap.size ≤ q) a := fun a h => Nat.not_le.mpr h
  have hs := flat_of_before _ hgv
  have hS_LEAST : g_S1 "SETTING_LEAST" g_least (fun q : Nat => s.heap.size ≤ q) s s.heap := by
    have hel : ∀ j : Nat, j < 5 → (Term.elem (Term.static "ShuttleDoors" "SETTING_LEAST" "[I") (.int (Int32.ofNat j))).eval #[Value.ref b] s none [] s = some (.int (g_least j)) := by
      intro j hj
      match j, hj with
      | 0, _ => exact va_eqt (hs (.eq (.elem (Term.static "ShuttleDoors" "SETTING_LEAST" "[I") (.int 0)) (.int 0)) (by decide +kernel))
      | 1, _ => exact va_eqt (hs (.eq (.elem (Term.static "ShuttleDoors" "SETTING_LEAST" "[I") (.int 1)) (.int 0)) (by decide +kernel))
      | 2, _ => exact va_eqt (hs (.eq (.elem (Term.static "ShuttleDoors" "SETTING_LEAST" "[I") (.int 2)) (.int 1)) (by decide +kernel))
      | 3, _ => exact va_eqt (hs (.eq (.elem (Term.static "ShuttleDoors" "SETTING_LEAST" "[I") (.int 3)) (.int 0)) (by decide +kernel))
      | 4, _ => exact va_eqt (hs (.eq (.elem (Term.static "ShuttleDoors" "SETTING_LEAST" "[I") (.int 4)) (.int 0)) (by decide +kernel))
      | j + 5, hj => omega
    obtain ⟨t, et, hT⟩ := va_Tof (args := #[Value.ref b]) (tm := (Term.static "ShuttleDoors" "SETTING_LEAST" "[I")) (ty := .int) (N := 5) (f := fun j => .int (g_least j)) (by decide) (hs (.arrayOf (Term.static "ShuttleDoors" "SETTING_LEAST" "[I") .int) (by decide +kernel)) (va_eqt (hs (.eq (.length (Term.static "ShuttleDoors" "SETTING_LEAST" "[I")) (.int 5)) (by decide +kernel))) hel hA
    exact ⟨t, va_Zof (hts _ tn_ls_SETTING_LEAST) (hts2 _ tw_in_X5) et hA, hT⟩
  have hS_MOST : g_S1 "SETTING_MOST" g_most (fun q : Nat => s.heap.size ≤ q) s s.heap := by
    have hel : ∀ j : Nat, j < 5 → (Term.elem (Term.static "ShuttleDoors" "SETTING_MOST" "[I") (.int (Int32.ofNat j))).eval #[Value.ref b] s none [] s = some (.int (g_most j)) := by
      intro j hj
      match j, hj with
      | 0, _ => exact va_eqt (hs (.eq (.elem (Term.static "ShuttleDoors" "SETTING_MOST" "[I") (.int 0)) (.int 90)) (by decide +kernel))
      | 1, _ => exact va_eqt (hs (.eq (.elem (Term.static "ShuttleDoors" "SETTING_MOST" "[I") (.int 1)) (.int 240)) (by decide +kernel))
      | 2, _ => exact va_eqt (hs (.eq (.elem (Term.static "ShuttleDoors" "SETTING_MOST" "[I") (.int 2)) (.int 6)) (by decide +kernel))
      | 3, _ => exact va_eqt (hs (.eq (.elem (Term.static "ShuttleDoors" "SETTING_MOST" "[I") (.int 3)) (.int 300)) (by decide +kernel))
      | 4, _ => exact va_eqt (hs (.eq (.elem (Term.static "ShuttleDoors" "SETTING_MOST" "[I") (.int 4)) (.int 40)) (by decide +kernel))
      | j + 5, hj => omega
    obtain ⟨t, et, hT⟩ := va_Tof (args := #[Value.ref b]) (tm := (Term.static "ShuttleDoors" "SETTING_MOST" "[I")) (ty := .int) (N := 5) (f := fun j => .int (g_most j)) (by decide) (hs (.arrayOf (Term.static "ShuttleDoors" "SETTING_MOST" "[I") .int) (by decide +kernel)) (va_eqt (hs (.eq (.length (Term.static "ShuttleDoors" "SETTING_MOST" "[I")) (.int 5)) (by decide +kernel))) hel hA
    exact ⟨t, va_Zof (hts _ tn_ls_SETTING_MOST) (hts2 _ tw_in_X5) et hA, hT⟩
  have hS_FIRST : g_S1 "SETTING_FIRST" g_first (fun q : Nat => s.heap.size ≤ q) s s.heap := by
    have hel : ∀ j : Nat, j < 5 → (Term.elem (Term.static "ShuttleDoors" "SETTING_FIRST" "[I") (.int (Int32.ofNat j))).eval #[Value.ref b] s none [] s = some (.int (g_first j)) := by
      intro j hj
      match j, hj with
      | 0, _ => exact va_eqt (hs (.eq (.elem (Term.static "ShuttleDoors" "SETTING_FIRST" "[I") (.int 0)) (.int 30)) (by decide +kernel))
      | 1, _ => exact va_eqt (hs (.eq (.elem (Term.static "ShuttleDoors" "SETTING_FIRST" "[I") (.int 1)) (.int 60)) (by decide +kernel))
      | 2, _ => exact va_eqt (hs (.eq (.elem (Term.static "ShuttleDoors" "SETTING_FIRST" "[I") (.int 2)) (.int 3)) (by decide +kernel))
      | 3, _ => exact va_eqt (hs (.eq (.elem (Term.static "ShuttleDoors" "SETTING_FIRST" "[I") (.int 3)) (.int 60)) (by decide +kernel))
      | 4, _ => exact va_eqt (hs (.eq (.elem (Term.static "ShuttleDoors" "SETTING_FIRST" "[I") (.int 4)) (.int 6)) (by decide +kernel))
      | j + 5, hj => omega
    obtain ⟨t, et, hT⟩ := va_Tof (args := #[Value.ref b]) (tm := (Term.static "ShuttleDoors" "SETTING_FIRST" "[I")) (ty := .int) (N := 5) (f := fun j => .int (g_first j)) (by decide) (hs (.arrayOf (Term.static "ShuttleDoors" "SETTING_FIRST" "[I") .int) (by decide +kernel)) (va_eqt (hs (.eq (.length (Term.static "ShuttleDoors" "SETTING_FIRST" "[I")) (.int 5)) (by decide +kernel))) hel hA
    exact ⟨t, va_Zof (hts _ tn_ls_SETTING_FIRST) (hts2 _ tw_in_X5) et hA, hT⟩
  have hNW : g_NW s := ⟨va_Nw.of rfl (hts _ tn_X3_39), va_Nw.of rfl (hts _ tn_X5_18), va_Nw.of rfl (hts _ tn_X5_25), va_Nw.of rfl (hts _ tn_X5_38), va_Nw.of rfl (hts _ tn_X2_81), va_Nw.of rfl (hts _ tn_X2_64), va_Nw.of rfl (hts _ tn_X1_17), va_AO.of (hts _ tn_ao)⟩
  have κ : KC p s m #[.ref b] meth c code 4 RL (dC, dI) cI cR (fun q : Nat => s.heap.size ≤ q) ret := ⟨⟨hx, hb, hml, hown, hts2⟩, hKt, fun _ h => h, ⟨hS_LEAST, hS_MOST, hS_FIRST, hNW⟩, hlocks, hr⟩
  have hl := lv_entry ([.ref b]) (n := 4) (Nat.le_of_ble_eq_true rfl)
  rw [lg_entry_eq]
  suffices hG : GW p l e room_1 s m #[.ref b] below meth c (dC, dI) (fun q : Nat => s.heap.size ≤ q) 4 (lw_Z below #[Value.ref b] s) 0 0 (wfl ([] : List va_W)) [(0, .ref b)] 0 [] from hG s.heap [] _ (fun k q h => by simp [wfl] at h) ⟨fun i j p q h => by simp [wfl] at h, fun k q h => by simp [wfl] at h⟩ va_S.rf hl
  refine gb_new (fs := [.null, .null, .null, .null, .null, .null, .null, .null]) (C := RX5) (T := TX5) (N := 8) (ci := 5) (pc' := 3) κ dL_law_0 rfl inX5 tyX5 tyX5_ok tw_cl_L_7 tw_is_X5 tw_in_X5 rfl (by decide +kernel) (Nat.le_of_ble_eq_true rfl) (Nat.le_of_ble_eq_true rfl) (fun q1 => ?_)
  refine gw_nf (ws' := wfl [[(q1, .inr (5, [.null, .null, .null, .null, .null, .null, .null, .null]))]]) (lv' := [(0, .ref b)]) (st' := [.ref q1]) (pc' := 3) (ce' := 1) (sl' := 8) rfl rfl rfl rfl rfl rfl ?_
  refine gw_dup (pc' := 4) κ dL_law_3 rfl rfl ?_
  refine gb_callI (rest := [.ref q1]) κ (c_X5_init q1) ⟨rfl, rfl, Nat.le_of_ble_eq_true rfl, Nat.le_of_ble_eq_true rfl⟩ tw_ml_L_9 tw_im_X5_init tw_co_X5_init tw_in_X5 hy_X5_init rfl rfl (Nat.le_of_ble_eq_true rfl) rfl dL_law_4 [0] rfl (by decide) (fun _ => Nat.le_of_ble_eq_true rfl) ⟨Nat.le_of_ble_eq_true rfl, Nat.le_of_ble_eq_true rfl⟩ (fun v u hv => ?_)
  obtain ⟨rfl, -⟩ := hv
  obtain ⟨qn, qp, qw, qt, qu, qd, qh, qs, ql⟩ := u
  refine gw_nf (ws' := wfl [cX (fun _ => q1) qn qp qw qt qu qd qh ql, cSt qn cI x0_now.se x0_now.la x0_now.de x0_now.le x0_now.sa x0_now.fl x0_now.ar x0_now.dr x0_now.pe x0_now.ri, cPl qp cI x0_pln.od x0_pln.rd x0_pln.vn x0_pln.pn x0_pln.ao x0_pln.sr x0_pln.sp x0_pln.wt, cWy qw cI x0_way.ky x0_way.wp x0_way.mi x0_way.so, cSt qt cI x0_now.se x0_now.la x0_now.de x0_now.le x0_now.sa x0_now.fl x0_now.ar x0_now.dr x0_now.pe x0_now.ri, cPl qu cI x0_pln.od x0_pln.rd x0_pln.vn x0_pln.pn x0_pln.ao x0_pln.sr x0_pln.sp x0_pln.wt, cPd qd cI x0_pad.co x0_pad.ln, cHi qh qs cR x0_his.ol x0_his.sz, cSt (qs 0) cI (x0_his.hs 0).se (x0_his.hs 0).la (x0_his.hs 0).de (x0_his.hs 0).le (x0_his.hs 0).sa (x0_his.hs 0).fl (x0_his.hs 0).ar (x0_his.hs 0).dr (x0_his.hs 0).pe (x0_his.hs 0).ri, cSt (qs 1) cI (x0_his.hs 1).se (x0_his.hs 1).la (x0_his.hs 1).de (x0_his.hs 1).le (x0_his.hs 1).sa (x0_his.hs 1).fl (x0_his.hs 1).ar (x0_his.hs 1).dr (x0_his.hs 1).pe (x0_his.hs 1).ri, cSt (qs 2) cI (x0_his.hs 2).se (x0_his.hs 2).la (x0_his.hs 2).de (x0_his.hs 2).le (x0_his.hs 2).sa (x0_his.hs 2).fl (x0_his.hs 2).ar (x0_his.hs 2).dr (x0_his.hs 2).pe (x0_his.hs 2).ri, cSt (qs 3) cI (x0_his.hs 3).se (x0_his.hs 3).la (x0_his.hs 3).de (x0_his.hs 3).le (x0_his.hs 3).sa (x0_his.hs 3).fl (x0_his.hs 3).ar (x0_his.hs 3).dr (x0_his.hs 3).pe (x0_his.hs 3).ri, cSt (qs 4) cI (x0_his.hs 4).se (x0_his.hs 4).la (x0_his.hs 4).de (x0_his.hs 4).le (x0_his.hs 4).sa (x0_his.hs 4).fl (x0_his.hs 4).ar (x0_his.hs 4).dr (x0_his.hs 4).pe (x0_his.hs 4).ri, cSt (qs 5) cI (x0_his.hs 5).se (x0_his.hs 5).la (x0_his.hs 5).de (x0_his.hs 5).le (x0_his.hs 5).sa (x0_his.hs 5).fl (x0_his.hs 5).ar (x0_his.hs 5).dr (x0_his.hs 5).pe (x0_his.hs 5).ri, [(ql 0, .inl (cR, 2, .inr (.inr (.inr (.inr (fun _ => none))))))]]) (lv' := [(0, .ref b)]) (st' := [.ref q1]) (pc' := 7) (ce' := 102) (sl' := 1461) rfl rfl rfl rfl rfl rfl ?_
  refine gw_astore_n (pc' := 8) κ dL_law_7 rfl rfl (by decide) (lv' := [(1, .ref q1), (0, .ref b)]) rfl ?_
  refine gb_new (fs := [.null, .null, .int 0, .null, .null, .null, .int 0, .int 0, .null, .null, .null, .null, .null, .null, .null, .int 0]) (C := RX6) (T := TX6) (N := 16) (ci := 6) (pc' := 11) κ dL_law_8 rfl inX6 tyX6 tyX6_ok tw_cl_L_10 tw_is_X6 tw_in_X6 rfl (by decide +kernel) (Nat.le_of_ble_eq_true rfl) (Nat.le_of_ble_eq_true rfl) (fun qq => ?_)
  refine gw_nf (ws' := wfl [cX (fun _ => q1) qn qp qw qt qu qd qh ql, cSt qn cI x0_now.se x0_now.la x0_now.de x0_now.le x0_now.sa x0_now.fl x0_now.ar x0_now.dr x0_now.pe x0_now.ri, cPl qp cI x0_pln.od x0_pln.rd x0_pln.vn x0_pln.pn x0_pln.ao x0_pln.sr x0_pln.sp x0_pln.wt, cWy qw cI x0_way.ky x0_way.wp x0_way.mi x0_way.so, cSt qt cI x0_now.se x0_now.la x0_now.de x0_now.le x0_now.sa x0_now.fl x0_now.ar x0_now.dr x0_now.pe x0_now.ri, cPl qu cI x0_pln.od x0_pln.rd x0_pln.vn x0_pln.pn x0_pln.ao x0_pln.sr x0_pln.sp x0_pln.wt, cPd qd cI x0_pad.co x0_pad.ln, cHi qh qs cR x0_his.ol x0_his.sz, cSt (qs 0) cI (x0_his.hs 0).se (x0_his.hs 0).la (x0_his.hs 0).de (x0_his.hs 0).le (x0_his.hs 0).sa (x0_his.hs 0).fl (x0_his.hs 0).ar (x0_his.hs 0).dr (x0_his.hs 0).pe (x0_his.hs 0).ri, cSt (qs 1) cI (x0_his.hs 1).se (x0_his.hs 1).la (x0_his.hs 1).de (x0_his.hs 1).le (x0_his.hs 1).sa (x0_his.hs 1).fl (x0_his.hs 1).ar (x0_his.hs 1).dr (x0_his.hs 1).pe (x0_his.hs 1).ri, cSt (qs 2) cI (x0_his.hs 2).se (x0_his.hs 2).la (x0_his.hs 2).de (x0_his.hs 2).le (x0_his.hs 2).sa (x0_his.hs 2).fl (x0_his.hs 2).ar (x0_his.hs 2).dr (x0_his.hs 2).pe (x0_his.hs 2).ri, cSt (qs 3) cI (x0_his.hs 3).se (x0_his.hs 3).la (x0_his.hs 3).de (x0_his.hs 3).le (x0_his.hs 3).sa (x0_his.hs 3).fl (x0_his.hs 3).ar (x0_his.hs 3).dr (x0_his.hs 3).pe (x0_his.hs 3).ri, cSt (qs 4) cI (x0_his.hs 4).se (x0_his.hs 4).la (x0_his.hs 4).de (x0_his.hs 4).le (x0_his.hs 4).sa (x0_his.hs 4).fl (x0_his.hs 4).ar (x0_his.hs 4).dr (x0_his.hs 4).pe (x0_his.hs 4).ri, cSt (qs 5) cI (x0_his.hs 5).se (x0_his.hs 5).la (x0_his.hs 5).de (x0_his.hs 5).le (x0_his.hs 5).sa (x0_his.hs 5).fl (x0_his.hs 5).ar (x0_his.hs 5).dr (x0_his.hs 5).pe (x0_his.hs 5).ri, [(ql 0, .inl (cR, 2, .inr (.inr (.inr (.inr (fun _ => none))))))], [(qq, .inr (6, [.null, .null, .int 0, .null, .null, .null, .int 0, .int 0, .null, .null, .null, .null, .null, .null, .null, .int 0]))]]) (lv' := [(1, .ref q1), (0, .ref b)]) (st' := [.ref qq]) (pc' := 11) (ce' := 103) (sl' := 1477) rfl rfl rfl rfl rfl rfl ?_
  refine gw_dup (pc' := 12) κ dL_law_11 rfl rfl ?_
  refine gb_callI (rest := [.ref qq]) κ (c_X6_init qq) ⟨rfl, rfl, Nat.le_of_ble_eq_true rfl, Nat.le_of_ble_eq_true rfl⟩ tw_ml_L_12 tw_im_X6_init tw_co_X6_init tw_in_X6 hy_X6_init rfl rfl (Nat.le_of_ble_eq_true rfl) rfl dL_law_12 [15] rfl (by decide) (fun _ => Nat.le_of_ble_eq_true rfl) ⟨Nat.le_of_ble_eq_true rfl, Nat.le_of_ble_eq_true rfl⟩ (fun v qm hv => ?_)
  obtain ⟨rfl, hu⟩ := hv
  have hu : qm 0 = qq := hu
  subst hu
  refine gw_nf (ws' := wfl [cX (fun _ => q1) qn qp qw qt qu qd qh ql, cSt qn cI x0_now.se x0_now.la x0_now.de x0_now.le x0_now.sa x0_now.fl x0_now.ar x0_now.dr x0_now.pe x0_now.ri, cPl qp cI x0_pln.od x0_pln.rd x0_pln.vn x0_pln.pn x0_pln.ao x0_pln.sr x0_pln.sp x0_pln.wt, cWy qw cI x0_way.ky x0_way.wp x0_way.mi x0_way.so, cSt qt cI x0_now.se x0_now.la x0_now.de x0_now.le x0_now.sa x0_now.fl x0_now.ar x0_now.dr x0_now.pe x0_now.ri, cPl qu cI x0_pln.od x0_pln.rd x0_pln.vn x0_pln.pn x0_pln.ao x0_pln.sr x0_pln.sp x0_pln.wt, cPd qd cI x0_pad.co x0_pad.ln, cHi qh qs cR x0_his.ol x0_his.sz, cSt (qs 0) cI (x0_his.hs 0).se (x0_his.hs 0).la (x0_his.hs 0).de (x0_his.hs 0).le (x0_his.hs 0).sa (x0_his.hs 0).fl (x0_his.hs 0).ar (x0_his.hs 0).dr (x0_his.hs 0).pe (x0_his.hs 0).ri, cSt (qs 1) cI (x0_his.hs 1).se (x0_his.hs 1).la (x0_his.hs 1).de (x0_his.hs 1).le (x0_his.hs 1).sa (x0_his.hs 1).fl (x0_his.hs 1).ar (x0_his.hs 1).dr (x0_his.hs 1).pe (x0_his.hs 1).ri, cSt (qs 2) cI (x0_his.hs 2).se (x0_his.hs 2).la (x0_his.hs 2).de (x0_his.hs 2).le (x0_his.hs 2).sa (x0_his.hs 2).fl (x0_his.hs 2).ar (x0_his.hs 2).dr (x0_his.hs 2).pe (x0_his.hs 2).ri, cSt (qs 3) cI (x0_his.hs 3).se (x0_his.hs 3).la (x0_his.hs 3).de (x0_his.hs 3).le (x0_his.hs 3).sa (x0_his.hs 3).fl (x0_his.hs 3).ar (x0_his.hs 3).dr (x0_his.hs 3).pe (x0_his.hs 3).ri, cSt (qs 4) cI (x0_his.hs 4).se (x0_his.hs 4).la (x0_his.hs 4).de (x0_his.hs 4).le (x0_his.hs 4).sa (x0_his.hs 4).fl (x0_his.hs 4).ar (x0_his.hs 4).dr (x0_his.hs 4).pe (x0_his.hs 4).ri, cSt (qs 5) cI (x0_his.hs 5).se (x0_his.hs 5).la (x0_his.hs 5).de (x0_his.hs 5).le (x0_his.hs 5).sa (x0_his.hs 5).fl (x0_his.hs 5).ar (x0_his.hs 5).dr (x0_his.hs 5).pe (x0_his.hs 5).ri, [(ql 0, .inl (cR, 2, .inr (.inr (.inr (.inr (fun _ => none))))))], cM qm cI iX6_Mst (fun _ => 0) 0 (fun _ => 0) (fun _ => 0) (fun _ => 0) 0 0 (fun _ => 0) (fun _ => 0) (fun _ => 0) (fun _ => 0) (fun _ => 0) (fun _ => 0) (fun _ => 0) 0]) (lv' := [(1, .ref q1), (0, .ref b)]) (st' := [.ref (qm 0)]) (pc' := 15) (ce' := 115) (sl' := 2825) rfl rfl rfl rfl rfl rfl ?_
  refine gw_astore_n (pc' := 16) κ dL_law_15 rfl rfl (by decide) (lv' := [(2, .ref (qm 0)), (1, .ref q1), (0, .ref b)]) rfl ?_
  refine gw_iconst (pc' := 17) (v := 0) κ dL_law_16 rfl (by decide) ?_
  refine gw_istore_n (pc' := 18) κ dL_law_17 rfl rfl (by decide) (lv' := [(3, .int 0), (2, .ref (qm 0)), (1, .ref q1), (0, .ref b)]) rfl ?_
  refine gb_sub (bc := [cX (fun _ => q1) qn qp qw qt qu qd qh ql, cSt qn cI x0_now.se x0_now.la x0_now.de x0_now.le x0_now.sa x0_now.fl x0_now.ar x0_now.dr x0_now.pe x0_now.ri, cPl qp cI x0_pln.od x0_pln.rd x0_pln.vn x0_pln.pn x0_pln.ao x0_pln.sr x0_pln.sp x0_pln.wt, cWy qw cI x0_way.ky x0_way.wp x0_way.mi x0_way.so, cSt qt cI x0_now.se x0_now.la x0_now.de x0_now.le x0_now.sa x0_now.fl x0_now.ar x0_now.dr x0_now.pe x0_now.ri, cPl qu cI x0_pln.od x0_pln.rd x0_pln.vn x0_pln.pn x0_pln.ao x0_pln.sr x0_pln.sp x0_pln.wt, cPd qd cI x0_pad.co x0_pad.ln, cHi qh qs cR x0_his.ol x0_his.sz, cSt (qs 0) cI (x0_his.hs 0).se (x0_his.hs 0).la (x0_his.hs 0).de (x0_his.hs 0).le (x0_his.hs 0).sa (x0_his.hs 0).fl (x0_his.hs 0).ar (x0_his.hs 0).dr (x0_his.hs 0).pe (x0_his.hs 0).ri, cSt (qs 1) cI (x0_his.hs 1).se (x0_his.hs 1).la (x0_his.hs 1).de (x0_his.hs 1).le (x0_his.hs 1).sa (x0_his.hs 1).fl (x0_his.hs 1).ar (x0_his.hs 1).dr (x0_his.hs 1).pe (x0_his.hs 1).ri, cSt (qs 2) cI (x0_his.hs 2).se (x0_his.hs 2).la (x0_his.hs 2).de (x0_his.hs 2).le (x0_his.hs 2).sa (x0_his.hs 2).fl (x0_his.hs 2).ar (x0_his.hs 2).dr (x0_his.hs 2).pe (x0_his.hs 2).ri, cSt (qs 3) cI (x0_his.hs 3).se (x0_his.hs 3).la (x0_his.hs 3).de (x0_his.hs 3).le (x0_his.hs 3).sa (x0_his.hs 3).fl (x0_his.hs 3).ar (x0_his.hs 3).dr (x0_his.hs 3).pe (x0_his.hs 3).ri, cSt (qs 4) cI (x0_his.hs 4).se (x0_his.hs 4).la (x0_his.hs 4).de (x0_his.hs 4).le (x0_his.hs 4).sa (x0_his.hs 4).fl (x0_his.hs 4).ar (x0_his.hs 4).dr (x0_his.hs 4).pe (x0_his.hs 4).ri, cSt (qs 5) cI (x0_his.hs 5).se (x0_his.hs 5).la (x0_his.hs 5).de (x0_his.hs 5).le (x0_his.hs 5).sa (x0_his.hs 5).fl (x0_his.hs 5).ar (x0_his.hs 5).dr (x0_his.hs 5).pe (x0_his.hs 5).ri, cM qm cI iX6_Mst (fun _ => 0) 0 (fun _ => 0) (fun _ => 0) (fun _ => 0) 0 0 (fun _ => 0) (fun _ => 0) (fun _ => 0) (fun _ => 0) (fun _ => 0) (fun _ => 0) (fun _ => 0) 0, [(ql 0, .inl (cR, 2, .inr (.inr (.inr (.inr (fun _ => none))))))]]) [0, 1, 2, 3, 4, 5, 6, 7, 8, 9, 10, 11, 12, 13, 15, 14] rfl (by decide) ?_
  exact law_loop κ hX hbl hL (fun _ => q1) qn qp qw qt qu qd qh ql qm qs (L / 5) 0 (by omega) (fun _ _ => 0) x0_now x0_pln x0_way x0_now x0_pln x0_pad x0_his (fun _ => none) iX6_Mst (fun _ => 0) 0 (fun _ => 0) (fun _ => 0) (fun _ => 0) 0 0 (fun _ => 0) (fun _ => 0) (fun _ => 0) (fun _ => 0) (fun _ => 0) (fun _ => 0) (fun _ => 0) 0 (hlaw xs L hL)
