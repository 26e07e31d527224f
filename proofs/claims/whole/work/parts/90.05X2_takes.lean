theorem hy_X2_takes : g_hy yX2_takes 3 := by decide +kernel
set_option maxHeartbeats 4000000 in
set_option maxRecDepth 100000 in
theorem c_X2_takes {l : Launch} {D : va_G} {cI cR : ClassId}  (qa : Nat → Nat) (qb : Nat → Nat) {P : Int32 → Prop} (o0 : PlT) (o1 : StT) (x2 : Int32) (x3 : Int32) (h : wp_X2_takes P o0 o1 x2 x3) : CT l D cI cR yX2_takes cX2_takes 6 (some .boolean) ({ frames := 1, cells := 0, slots := 0, locals := 22 } : Room) [.ref (qa 0), .ref (qb 0), .int x2, .int x3] (fl [cPl qa cI o0.od o0.rd o0.vn o0.pn o0.ao o0.sr o0.sp o0.wt, cSt qb cI o1.se o1.la o1.de o1.le o1.sa o1.fl o1.ar o1.dr o1.pe o1.ri]) (fun _ : Unit => (fl [cPl qa cI o0.od o0.rd o0.vn o0.pn o0.ao o0.sr o0.sp o0.wt, cSt qb cI o1.se o1.la o1.de o1.le o1.sa o1.fl o1.ar o1.dr o1.pe o1.ri])) (pI (fun (r : Int32) (_ : Unit) => P r)) 0 0 := by
  refine ct_of RX2 rfl (by decide +kernel) (Nat.le_of_ble_eq_true rfl) (fun zp ze zs zm zb zt zc A hin κ => ?_)
  unfold wp_X2_takes at h
  refine gw_nf (lv' := [(0, .ref (qa 0)), (1, .ref (qb 0)), (2, .int x2), (3, .int x3)]) (pc' := 0) (st' := []) (ce' := 0) (sl' := 0) rfl rfl rfl rfl rfl rfl ?_
  refine gw_aload_n (pc' := 1) κ dX2_takes_0 rfl 1 rfl rfl ?_
  refine gb_get (pc' := 4) (C := RX3) (T := TX3) (N := 10) κ dX2_takes_1 rfl inX3 1 rfl rfl rfl 3 (by decide) tw_fl_X2_71 rfl ?_
  refine gw_iload_n (pc' := 5) κ dX2_takes_4 rfl 2 rfl rfl ?_
  obtain ⟨hb_1, h⟩ := h
  refine gb_iald (pc' := 6) κ dX2_takes_5 rfl 1 4 rfl rfl hb_1 ?_
  refine gw_aload_n (pc' := 7) κ dX2_takes_6 rfl 0 rfl rfl ?_
  refine gb_get (pc' := 10) (C := RX2) (T := TX2) (N := 8) κ dX2_takes_7 rfl inX2 0 rfl rfl rfl 1 (by decide) tw_fl_X2_15 rfl ?_
  refine gw_iload_n (pc' := 11) κ dX2_takes_10 rfl 3 rfl rfl ?_
  obtain ⟨hb_2, h⟩ := h
  refine gb_iald (pc' := 12) κ dX2_takes_11 rfl 0 2 rfl rfl hb_2 ?_
  refine gw_isub (pc' := 13) κ dX2_takes_12 rfl  ?_
  refine gw_top (fun y_3 hy_3 => ?_)
  have h := h y_3 hy_3
  refine gw_istore (pc' := 15) κ dX2_takes_13 rfl (by decide) (lv' := [(4, .int y_3), (0, .ref (qa 0)), (1, .ref (qb 0)), (2, .int x2), (3, .int x3)]) rfl ?_
  refine gw_iload (pc' := 17) κ dX2_takes_15 rfl 0 rfl ?_
  refine gw_iconst (pc' := 18) (v := 0) κ dX2_takes_17 rfl (by decide) ?_
  refine gw_aload_n (pc' := 19) κ dX2_takes_18 rfl 2 rfl rfl ?_
  refine gb_get (pc' := 22) (C := RX3) (T := TX3) (N := 10) κ dX2_takes_19 rfl inX3 1 rfl rfl rfl 0 (by decide) tw_fl_X2_78 rfl ?_
  refine gw_iconst (pc' := 23) (v := 1) κ dX2_takes_22 rfl (by decide) ?_
  refine gb_iald (pc' := 24) κ dX2_takes_23 rfl 1 1 rfl rfl (by unfold vp_in; decide) ?_
  refine gb_callSN (rest := []) κ (c_X5_isIn  y_3 (0 : Int32) (o1.se (1 : Int32).toNatClampNeg) h) ⟨rfl, rfl, Nat.le_of_ble_eq_true rfl, Nat.le_of_ble_eq_true rfl⟩ κ.2.2.2.1.2.2.2.2.2.2.2.1 tw_st_X5_isIn tw_co_X5_isIn tw_in_X5 hy_X5_isIn rfl (Nat.le_of_ble_eq_true rfl) rfl dX2_takes_24 [] rfl (by decide) (fun _ => Nat.le_of_ble_eq_true rfl) ⟨Nat.le_of_ble_eq_true rfl, Nat.le_of_ble_eq_true rfl⟩ (fun v u hv => ?_)
  obtain ⟨r_5, rfl, h⟩ := hv
  refine gw_nf (ws' := (fl [cPl qa cI o0.od o0.rd o0.vn o0.pn o0.ao o0.sr o0.sp o0.wt, cSt qb cI o1.se o1.la o1.de o1.le o1.sa o1.fl o1.ar o1.dr o1.pe o1.ri])) (lv' := [(4, .int y_3), (0, .ref (qa 0)), (1, .ref (qb 0)), (2, .int x2), (3, .int x3)]) (st' := [.int r_5]) (pc' := 27) (ce' := 0) (sl' := 0) rfl rfl rfl rfl rfl rfl ?_
  refine gw_if_ne (pc' := 30) (tgt := 32) κ dX2_takes_27 rfl (by decide) (fun hc_6 => ?_) (fun hc_6 => ?_)
  · have h := h.1 hc_6
    refine gw_aload_n (pc' := 33) κ dX2_takes_32 rfl 1 rfl rfl ?_
    refine gb_get (pc' := 36) (C := RX2) (T := TX2) (N := 8) κ dX2_takes_33 rfl inX2 0 rfl rfl rfl 3 (by decide) tw_fl_X2_21 rfl ?_
    refine gw_iload_n (pc' := 37) κ dX2_takes_36 rfl 3 rfl rfl ?_
    obtain ⟨hb_7, h⟩ := h
    refine gb_iald (pc' := 38) κ dX2_takes_37 rfl 0 4 rfl rfl hb_7 ?_
    refine gw_aload_n (pc' := 39) κ dX2_takes_38 rfl 2 rfl rfl ?_
    refine gb_get (pc' := 42) (C := RX3) (T := TX3) (N := 10) κ dX2_takes_39 rfl inX3 1 rfl rfl rfl 8 (by decide) tw_fl_X2_57 rfl ?_
    refine gw_iload_n (pc' := 43) κ dX2_takes_42 rfl 4 rfl rfl ?_
    obtain ⟨hb_8, h⟩ := h
    refine gb_iald (pc' := 44) κ dX2_takes_43 rfl 1 9 rfl rfl hb_8 ?_
    refine gw_iadd (pc' := 45) κ dX2_takes_44 rfl  ?_
    refine gw_aload_n (pc' := 46) κ dX2_takes_45 rfl 2 rfl rfl ?_
    refine gb_get (pc' := 49) (C := RX3) (T := TX3) (N := 10) κ dX2_takes_46 rfl inX3 1 rfl rfl rfl 4 (by decide) tw_fl_X2_85 rfl ?_
    refine gw_iload_n (pc' := 50) κ dX2_takes_49 rfl 3 rfl rfl ?_
    obtain ⟨hb_9, h⟩ := h
    refine gb_iald (pc' := 51) κ dX2_takes_50 rfl 1 5 rfl rfl hb_9 ?_
    refine gw_icmp_le (pc' := 54) (tgt := 56) κ dX2_takes_51 rfl (by decide) (fun hc_10 => ?_) (fun hc_10 => ?_)
    · have h := h.1 hc_10
      refine gw_aload_n (pc' := 57) κ dX2_takes_56 rfl 1 rfl rfl ?_
      refine gb_get (pc' := 60) (C := RX2) (T := TX2) (N := 8) κ dX2_takes_57 rfl inX2 0 rfl rfl rfl 4 (by decide) tw_fl_X2_24 rfl ?_
      refine gw_iload_n (pc' := 61) κ dX2_takes_60 rfl 3 rfl rfl ?_
      obtain ⟨hb_11, h⟩ := h
      refine gb_iald (pc' := 62) κ dX2_takes_61 rfl 0 5 rfl rfl hb_11 ?_
      refine gw_iconst (pc' := 63) (v := 1) κ dX2_takes_62 rfl (by decide) ?_
      refine gw_aload_n (pc' := 64) κ dX2_takes_63 rfl 2 rfl rfl ?_
      refine gb_get (pc' := 67) (C := RX3) (T := TX3) (N := 10) κ dX2_takes_64 rfl inX3 1 rfl rfl rfl 6 (by decide) tw_fl_X2_68 rfl ?_
      refine gw_iload_n (pc' := 68) κ dX2_takes_67 rfl 4 rfl rfl ?_
      obtain ⟨hb_12, h⟩ := h
      refine gb_iald (pc' := 69) κ dX2_takes_68 rfl 1 7 rfl rfl hb_12 ?_
      refine gw_ishl (pc' := 70) κ dX2_takes_69 rfl  ?_
      refine gw_ior (pc' := 71) κ dX2_takes_70 rfl  ?_
      refine gw_top (fun y_13 hy_13 => ?_)
      have h := h y_13 hy_13
      refine gw_istore (pc' := 73) κ dX2_takes_71 rfl (by decide) (lv' := [(5, .int y_13), (4, .int y_3), (0, .ref (qa 0)), (1, .ref (qb 0)), (2, .int x2), (3, .int x3)]) rfl ?_
      refine gw_iload (pc' := 75) κ dX2_takes_73 rfl 0 rfl ?_
      refine gb_callS (rest := []) κ (c_J6_bitCount_0f7a4  y_13 h) ⟨rfl, rfl, Nat.le_of_ble_eq_true rfl, Nat.le_of_ble_eq_true rfl⟩ tw_ml_X2_88 tw_st_J6_bitCount_0f7a4 tw_co_J6_bitCount_0f7a4 tw_in_J6 hy_J6_bitCount_0f7a4 rfl (Nat.le_of_ble_eq_true rfl) rfl dX2_takes_75 [] rfl (by decide) (fun _ => Nat.le_of_ble_eq_true rfl) ⟨Nat.le_of_ble_eq_true rfl, Nat.le_of_ble_eq_true rfl⟩ (fun v u hv => ?_)
      obtain ⟨r_14, rfl, h⟩ := hv
      refine gw_nf (ws' := (fl [cPl qa cI o0.od o0.rd o0.vn o0.pn o0.ao o0.sr o0.sp o0.wt, cSt qb cI o1.se o1.la o1.de o1.le o1.sa o1.fl o1.ar o1.dr o1.pe o1.ri])) (lv' := [(5, .int y_13), (4, .int y_3), (0, .ref (qa 0)), (1, .ref (qb 0)), (2, .int x2), (3, .int x3)]) (st' := [.int r_14]) (pc' := 78) (ce' := 0) (sl' := 0) rfl rfl rfl rfl rfl rfl ?_
      refine gw_aload_n (pc' := 79) κ dX2_takes_78 rfl 3 rfl rfl ?_
      refine gb_get (pc' := 82) (C := RX3) (T := TX3) (N := 10) κ dX2_takes_79 rfl inX3 1 rfl rfl rfl 0 (by decide) tw_fl_X2_78 rfl ?_
      refine gw_iconst (pc' := 83) (v := 2) κ dX2_takes_82 rfl (by decide) ?_
      refine gb_iald (pc' := 84) κ dX2_takes_83 rfl 1 1 rfl rfl (by unfold vp_in; decide) ?_
      refine gw_icmp_gt (pc' := 87) (tgt := 91) κ dX2_takes_84 rfl (by decide) (fun hc_16 => ?_) (fun hc_16 => ?_)
      · have h := h.1 hc_16
        refine gw_iconst (pc' := 92) (v := 0) κ dX2_takes_91 rfl (by decide) ?_
        exact gw_zret κ dX2_takes_92 () rfl rfl ⟨_, rfl, h⟩
      · have h := h.2 hc_16
        refine gw_iconst (pc' := 88) (v := 1) κ dX2_takes_87 rfl (by decide) ?_
        refine gw_goto (tgt := 92) κ dX2_takes_88 (by decide) ?_
        exact gw_zret κ dX2_takes_92 () rfl rfl ⟨_, rfl, h⟩
    · have h := h.2 hc_10
      refine gw_iconst (pc' := 55) (v := 0) κ dX2_takes_54 rfl (by decide) ?_
      exact gw_zret κ dX2_takes_55 () rfl rfl ⟨_, rfl, h⟩
  · have h := h.2 hc_6
    refine gw_iconst (pc' := 31) (v := 0) κ dX2_takes_30 rfl (by decide) ?_
    exact gw_zret κ dX2_takes_31 () rfl rfl ⟨_, rfl, h⟩
