theorem hy_X3_riderReady : g_hy yX3_riderReady 1 := by decide +kernel
set_option maxHeartbeats 4000000 in
set_option maxRecDepth 100000 in
theorem c_X3_riderReady {l : Launch} {D : va_G} {cI cR : ClassId}  (qa : Nat → Nat) {P : Int32 → Prop} (o0 : StT) (x1 : Int32) (h : wp_X3_riderReady P o0 x1) : CT l D cI cR yX3_riderReady cX3_riderReady 2 (some .int) ({ frames := 1, cells := 0, slots := 0, locals := 21 } : Room) [.ref (qa 0), .int x1] (fl [cSt qa cI o0.se o0.la o0.de o0.le o0.sa o0.fl o0.ar o0.dr o0.pe o0.ri]) (fun _ : Unit => (fl [cSt qa cI o0.se o0.la o0.de o0.le o0.sa o0.fl o0.ar o0.dr o0.pe o0.ri])) (pI (fun (r : Int32) (_ : Unit) => P r)) 0 0 := by
  refine ct_of RX3 rfl (by decide +kernel) (Nat.le_of_ble_eq_true rfl) (fun zp ze zs zm zb zt zc A hin κ => ?_)
  unfold wp_X3_riderReady at h
  refine gw_nf (lv' := [(0, .ref (qa 0)), (1, .int x1)]) (pc' := 0) (st' := []) (ce' := 0) (sl' := 0) rfl rfl rfl rfl rfl rfl ?_
  refine gw_aload_n (pc' := 1) κ dX3_riderReady_0 rfl 0 rfl rfl ?_
  refine gw_aload_n (pc' := 2) κ dX3_riderReady_1 rfl 0 rfl rfl ?_
  refine gb_get (pc' := 5) (C := RX3) (T := TX3) (N := 10) κ dX3_riderReady_2 rfl inX3 0 rfl rfl rfl 5 (by decide) tw_fl_X3_27 rfl ?_
  refine gw_iload_n (pc' := 6) κ dX3_riderReady_5 rfl 1 rfl rfl ?_
  obtain ⟨hb_1, h⟩ := h
  refine gb_iald (pc' := 7) κ dX3_riderReady_6 rfl 0 6 rfl rfl hb_1 ?_
  refine gb_callV (ci := 3) (qb := 0) (rest := []) κ (c_X3_flightReady qa o0 (o0.fl x1.toNatClampNeg) h) ⟨rfl, rfl, Nat.le_of_ble_eq_true rfl, Nat.le_of_ble_eq_true rfl⟩ tw_ml_X3_52 tw_im_X3_flightReady tw_se_X3_flightReady tw_co_X3_flightReady tw_in_X3 hy_X3_flightReady rfl rfl rfl rfl rfl (Nat.le_of_ble_eq_true rfl) rfl dX3_riderReady_7 [0] rfl (by decide) (fun _ => Nat.le_of_ble_eq_true rfl) ⟨Nat.le_of_ble_eq_true rfl, Nat.le_of_ble_eq_true rfl⟩ (fun v u hv => ?_)
  obtain ⟨r_2, rfl, h⟩ := hv
  refine gw_nf (ws' := (fl [cSt qa cI o0.se o0.la o0.de o0.le o0.sa o0.fl o0.ar o0.dr o0.pe o0.ri])) (lv' := [(0, .ref (qa 0)), (1, .int x1)]) (st' := [.int r_2]) (pc' := 10) (ce' := 0) (sl' := 0) rfl rfl rfl rfl rfl rfl ?_
  exact gw_iret κ dX3_riderReady_10 () rfl ⟨_, rfl, h⟩
