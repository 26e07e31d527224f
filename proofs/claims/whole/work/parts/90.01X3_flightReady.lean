theorem hy_X3_flightReady : g_hy yX3_flightReady 1 := by decide +kernel
set_option maxHeartbeats 4000000 in
set_option maxRecDepth 100000 in
theorem c_X3_flightReady {l : Launch} {D : va_G} {cI cR : ClassId}  (qa : Nat → Nat) {P : Int32 → Prop} (o0 : StT) (x1 : Int32) (h : wp_X3_flightReady P o0 x1) : CT l D cI cR yX3_flightReady cX3_flightReady 2 (some .int) ({ frames := 0, cells := 0, slots := 0, locals := 0 } : Room) [.ref (qa 0), .int x1] (fl [cSt qa cI o0.se o0.la o0.de o0.le o0.sa o0.fl o0.ar o0.dr o0.pe o0.ri]) (fun _ : Unit => (fl [cSt qa cI o0.se o0.la o0.de o0.le o0.sa o0.fl o0.ar o0.dr o0.pe o0.ri])) (pI (fun (r : Int32) (_ : Unit) => P r)) 0 0 := by
  refine ct_of RX3 rfl (by decide +kernel) (Nat.le_of_ble_eq_true rfl) (fun zp ze zs zm zb zt zc A hin κ => ?_)
  unfold wp_X3_flightReady at h
  refine gw_nf (lv' := [(0, .ref (qa 0)), (1, .int x1)]) (pc' := 0) (st' := []) (ce' := 0) (sl' := 0) rfl rfl rfl rfl rfl rfl ?_
  refine gw_aload_n (pc' := 1) κ dX3_flightReady_0 rfl 0 rfl rfl ?_
  refine gb_get (pc' := 4) (C := RX3) (T := TX3) (N := 10) κ dX3_flightReady_1 rfl inX3 0 rfl rfl rfl 1 (by decide) tw_fl_X3_15 rfl ?_
  refine gw_iload_n (pc' := 5) κ dX3_flightReady_4 rfl 1 rfl rfl ?_
  obtain ⟨hb_1, h⟩ := h
  refine gb_iald (pc' := 6) κ dX3_flightReady_5 rfl 0 2 rfl rfl hb_1 ?_
  refine gw_aload_n (pc' := 7) κ dX3_flightReady_6 rfl 0 rfl rfl ?_
  refine gb_get (pc' := 10) (C := RX3) (T := TX3) (N := 10) κ dX3_flightReady_7 rfl inX3 0 rfl rfl rfl 2 (by decide) tw_fl_X3_18 rfl ?_
  refine gw_iload_n (pc' := 11) κ dX3_flightReady_10 rfl 1 rfl rfl ?_
  obtain ⟨hb_2, h⟩ := h
  refine gb_iald (pc' := 12) κ dX3_flightReady_11 rfl 0 3 rfl rfl hb_2 ?_
  refine gw_iadd (pc' := 13) κ dX3_flightReady_12 rfl  ?_
  refine gw_aload_n (pc' := 14) κ dX3_flightReady_13 rfl 0 rfl rfl ?_
  refine gb_get (pc' := 17) (C := RX3) (T := TX3) (N := 10) κ dX3_flightReady_14 rfl inX3 0 rfl rfl rfl 0 (by decide) tw_fl_X3_9 rfl ?_
  refine gw_iconst (pc' := 18) (v := 0) κ dX3_flightReady_17 rfl (by decide) ?_
  refine gb_iald (pc' := 19) κ dX3_flightReady_18 rfl 0 1 rfl rfl (by unfold vp_in; decide) ?_
  refine gw_iadd (pc' := 20) κ dX3_flightReady_19 rfl  ?_
  exact gw_iret κ dX3_flightReady_20 () rfl ⟨_, rfl, h⟩
