theorem hy_X5_rider : g_hy yX5_rider 2 := by decide +kernel
set_option maxHeartbeats 4000000 in
set_option maxRecDepth 100000 in
theorem c_X5_rider {l : Launch} {D : va_G} {cI cR : ClassId}  (qx : Nat → Nat) (qn : Nat → Nat) (qp : Nat → Nat) (qw : Nat → Nat) (qt : Nat → Nat) (qu : Nat → Nat) (qd : Nat → Nat) (qh : Nat → Nat) (ql : Nat → Nat) (qs : Nat → Nat → Nat) {P : Int32 → (Nat → Int32) → (Nat → Int32) → (Nat → Int32) → Int32 → Prop} (now : StT) (pln : PlT) (way : WyT) (x1 : Int32) (x2 : Int32) (h : wp_X5_rider P now pln way x1 x2) : CT l D cI cR yX5_rider cX5_rider 3 (some .int) ({ frames := 4, cells := 0, slots := 0, locals := 96 } : Room) [.ref (qx 0), .int x1, .int x2] (wfl [cX qx qn qp qw qt qu qd qh ql, cSt qn cI now.se now.la now.de now.le now.sa now.fl now.ar now.dr now.pe now.ri, cPl qp cI pln.od pln.rd pln.vn pln.pn pln.ao pln.sr pln.sp pln.wt, cWy qw cI way.ky way.wp way.mi way.so]) (fun u : (Nat → Int32) × (Nat → Int32) × (Nat → Int32) × Int32 => (wfl [cX qx qn qp qw qt qu qd qh ql, cSt qn cI now.se now.la now.de now.le now.sa now.fl now.ar now.dr now.pe now.ri, cPl qp cI pln.od pln.rd pln.vn pln.pn pln.ao pln.sr pln.sp pln.wt, cWy qw cI u.1 u.2.1 u.2.2.1 u.2.2.2])) (pI (fun (r : Int32) (u : (Nat → Int32) × (Nat → Int32) × (Nat → Int32) × Int32) => P r u.1 u.2.1 u.2.2.1 u.2.2.2)) 0 0 := by
  refine ct_of RX5 rfl (by decide +kernel) (Nat.le_of_ble_eq_true rfl) (fun zp ze zs zm zb zt zc A hin κ => ?_)
  unfold wp_X5_rider at h
  refine gw_nf (lv' := [(0, .ref (qx 0)), (1, .int x1), (2, .int x2)]) (pc' := 0) (st' := []) (ce' := 0) (sl' := 0) rfl rfl rfl rfl rfl rfl ?_
  refine gw_aload_n (pc' := 1) κ dX5_rider_0 rfl 0 rfl rfl ?_
  refine gw_iload_n (pc' := 2) κ dX5_rider_1 rfl 1 rfl rfl ?_
  refine gb_callV (ci := 5) (qb := 0) (rest := []) κ (c_X5_isRider qx qn qp qw qt qu qd qh ql qs now x1 h) ⟨rfl, rfl, Nat.le_of_ble_eq_true rfl, Nat.le_of_ble_eq_true rfl⟩ tw_ml_X5_125 tw_im_X5_isRider tw_se_X5_isRider tw_co_X5_isRider tw_in_X5 hy_X5_isRider rfl rfl rfl rfl rfl (Nat.le_of_ble_eq_true rfl) rfl dX5_rider_2 [0, 1] rfl (by decide) (fun _ => Nat.le_of_ble_eq_true rfl) ⟨Nat.le_of_ble_eq_true rfl, Nat.le_of_ble_eq_true rfl⟩ (fun v u hv => ?_)
  obtain ⟨r_1, rfl, h⟩ := hv
  refine gw_nf (ws' := (wfl [cX qx qn qp qw qt qu qd qh ql, cSt qn cI now.se now.la now.de now.le now.sa now.fl now.ar now.dr now.pe now.ri, cPl qp cI pln.od pln.rd pln.vn pln.pn pln.ao pln.sr pln.sp pln.wt, cWy qw cI way.ky way.wp way.mi way.so])) (lv' := [(0, .ref (qx 0)), (1, .int x1), (2, .int x2)]) (st' := [.int r_1]) (pc' := 5) (ce' := 0) (sl' := 0) rfl rfl rfl rfl rfl rfl ?_
  refine gw_if_ne (pc' := 8) (tgt := 11) κ dX5_rider_5 rfl (by decide) (fun hc_2 => ?_) (fun hc_2 => ?_)
  · have h := h.1 hc_2
    refine gw_iload_n (pc' := 12) κ dX5_rider_11 rfl 2 rfl rfl ?_
    obtain ⟨hc_3_0, hc_3_1, hc_3_2, hc_3_3, hc_3_4, hc_3_5, hc_3_6, hc_3_7, hc_3_8, hc_3_9, hc_3d⟩ := h
    by_cases hc_3c_0 : x2 = 0
    · have h := hc_3_0 hc_3c_0
      refine gw_tableIn (tgt := 68) (off := 56) κ dX5_rider_12 (by rw [hc_3c_0]; decide) (by rw [hc_3c_0]; decide) (by rw [hc_3c_0]; decide +kernel) (by decide) ?_
      refine gw_aload_n (pc' := 69) κ dX5_rider_68 rfl 0 rfl rfl ?_
      refine gb_get (pc' := 72) (C := RX5) (T := TX5) (N := 8) κ dX5_rider_69 rfl inX5 0 rfl rfl rfl 0 (by decide) tw_fl_X5_10 rfl ?_
      refine gb_get (pc' := 75) (C := RX3) (T := TX3) (N := 10) κ dX5_rider_72 rfl inX3 1 rfl rfl rfl 5 (by decide) tw_fl_X5_136 rfl ?_
      refine gw_iload_n (pc' := 76) κ dX5_rider_75 rfl 1 rfl rfl ?_
      obtain ⟨hb_4, h⟩ := h
      refine gb_iald (pc' := 77) κ dX5_rider_76 rfl 1 6 rfl rfl hb_4 ?_
      exact gw_iret κ dX5_rider_77 (way.ky, way.wp, way.mi, way.so) rfl ⟨_, rfl, h⟩
    by_cases hc_3c_1 : x2 = 1
    · have h := hc_3_1 hc_3c_1
      refine gw_tableIn (tgt := 78) (off := 66) κ dX5_rider_12 (by rw [hc_3c_1]; decide) (by rw [hc_3c_1]; decide) (by rw [hc_3c_1]; decide +kernel) (by decide) ?_
      refine gw_aload_n (pc' := 79) κ dX5_rider_78 rfl 0 rfl rfl ?_
      refine gb_get (pc' := 82) (C := RX5) (T := TX5) (N := 8) κ dX5_rider_79 rfl inX5 0 rfl rfl rfl 0 (by decide) tw_fl_X5_10 rfl ?_
      refine gb_get (pc' := 85) (C := RX3) (T := TX3) (N := 10) κ dX5_rider_82 rfl inX3 1 rfl rfl rfl 6 (by decide) tw_fl_X5_142 rfl ?_
      refine gw_iload_n (pc' := 86) κ dX5_rider_85 rfl 1 rfl rfl ?_
      obtain ⟨hb_5, h⟩ := h
      refine gb_iald (pc' := 87) κ dX5_rider_86 rfl 1 7 rfl rfl hb_5 ?_
      exact gw_iret κ dX5_rider_87 (way.ky, way.wp, way.mi, way.so) rfl ⟨_, rfl, h⟩
    by_cases hc_3c_2 : x2 = 2
    · have h := hc_3_2 hc_3c_2
      refine gw_tableIn (tgt := 88) (off := 76) κ dX5_rider_12 (by rw [hc_3c_2]; decide) (by rw [hc_3c_2]; decide) (by rw [hc_3c_2]; decide +kernel) (by decide) ?_
      refine gw_aload_n (pc' := 89) κ dX5_rider_88 rfl 0 rfl rfl ?_
      refine gb_get (pc' := 92) (C := RX5) (T := TX5) (N := 8) κ dX5_rider_89 rfl inX5 0 rfl rfl rfl 0 (by decide) tw_fl_X5_10 rfl ?_
      refine gb_get (pc' := 95) (C := RX3) (T := TX3) (N := 10) κ dX5_rider_92 rfl inX3 1 rfl rfl rfl 7 (by decide) tw_fl_X5_145 rfl ?_
      refine gw_iload_n (pc' := 96) κ dX5_rider_95 rfl 1 rfl rfl ?_
      obtain ⟨hb_6, h⟩ := h
      refine gb_iald (pc' := 97) κ dX5_rider_96 rfl 1 8 rfl rfl hb_6 ?_
      exact gw_iret κ dX5_rider_97 (way.ky, way.wp, way.mi, way.so) rfl ⟨_, rfl, h⟩
    by_cases hc_3c_3 : x2 = 3
    · have h := hc_3_3 hc_3c_3
      refine gw_tableIn (tgt := 98) (off := 86) κ dX5_rider_12 (by rw [hc_3c_3]; decide) (by rw [hc_3c_3]; decide) (by rw [hc_3c_3]; decide +kernel) (by decide) ?_
      refine gw_aload_n (pc' := 99) κ dX5_rider_98 rfl 0 rfl rfl ?_
      refine gb_get (pc' := 102) (C := RX5) (T := TX5) (N := 8) κ dX5_rider_99 rfl inX5 0 rfl rfl rfl 0 (by decide) tw_fl_X5_10 rfl ?_
      refine gb_get (pc' := 105) (C := RX3) (T := TX3) (N := 10) κ dX5_rider_102 rfl inX3 1 rfl rfl rfl 8 (by decide) tw_fl_X5_148 rfl ?_
      refine gw_iload_n (pc' := 106) κ dX5_rider_105 rfl 1 rfl rfl ?_
      obtain ⟨hb_7, h⟩ := h
      refine gb_iald (pc' := 107) κ dX5_rider_106 rfl 1 9 rfl rfl hb_7 ?_
      exact gw_iret κ dX5_rider_107 (way.ky, way.wp, way.mi, way.so) rfl ⟨_, rfl, h⟩
    by_cases hc_3c_4 : x2 = 4
    · have h := hc_3_4 hc_3c_4
      refine gw_tableIn (tgt := 108) (off := 96) κ dX5_rider_12 (by rw [hc_3c_4]; decide) (by rw [hc_3c_4]; decide) (by rw [hc_3c_4]; decide +kernel) (by decide) ?_
      refine gw_aload_n (pc' := 109) κ dX5_rider_108 rfl 0 rfl rfl ?_
      refine gb_get (pc' := 112) (C := RX5) (T := TX5) (N := 8) κ dX5_rider_109 rfl inX5 0 rfl rfl rfl 0 (by decide) tw_fl_X5_10 rfl ?_
      refine gw_iload_n (pc' := 113) κ dX5_rider_112 rfl 1 rfl rfl ?_
      refine gb_callV (ci := 3) (qb := 1) (rest := []) κ (c_X3_riderReady qn now x1 h) ⟨rfl, rfl, Nat.le_of_ble_eq_true rfl, Nat.le_of_ble_eq_true rfl⟩ tw_ml_X5_151 tw_im_X3_riderReady tw_se_X3_riderReady tw_co_X3_riderReady tw_in_X3 hy_X3_riderReady rfl rfl rfl rfl rfl (Nat.le_of_ble_eq_true rfl) rfl dX5_rider_113 [1] rfl (by decide) (fun _ => Nat.le_of_ble_eq_true rfl) ⟨Nat.le_of_ble_eq_true rfl, Nat.le_of_ble_eq_true rfl⟩ (fun v u hv => ?_)
      obtain ⟨r_8, rfl, h⟩ := hv
      refine gw_nf (ws' := (wfl [cX qx qn qp qw qt qu qd qh ql, cSt qn cI now.se now.la now.de now.le now.sa now.fl now.ar now.dr now.pe now.ri, cPl qp cI pln.od pln.rd pln.vn pln.pn pln.ao pln.sr pln.sp pln.wt, cWy qw cI way.ky way.wp way.mi way.so])) (lv' := [(0, .ref (qx 0)), (1, .int x1), (2, .int x2)]) (st' := [.int r_8]) (pc' := 116) (ce' := 0) (sl' := 0) rfl rfl rfl rfl rfl rfl ?_
      exact gw_iret κ dX5_rider_116 (way.ky, way.wp, way.mi, way.so) rfl ⟨_, rfl, h⟩
    by_cases hc_3c_5 : x2 = 5
    · have h := hc_3_5 hc_3c_5
      refine gw_tableIn (tgt := 117) (off := 105) κ dX5_rider_12 (by rw [hc_3c_5]; decide) (by rw [hc_3c_5]; decide) (by rw [hc_3c_5]; decide +kernel) (by decide) ?_
      refine gw_aload_n (pc' := 118) κ dX5_rider_117 rfl 0 rfl rfl ?_
      refine gb_get (pc' := 121) (C := RX5) (T := TX5) (N := 8) κ dX5_rider_118 rfl inX5 0 rfl rfl rfl 1 (by decide) tw_fl_X5_19 rfl ?_
      refine gb_get (pc' := 124) (C := RX2) (T := TX2) (N := 8) κ dX5_rider_121 rfl inX2 2 rfl rfl rfl 2 (by decide) tw_fl_X5_139 rfl ?_
      refine gw_iload_n (pc' := 125) κ dX5_rider_124 rfl 1 rfl rfl ?_
      obtain ⟨hb_9, h⟩ := h
      refine gb_iald (pc' := 126) κ dX5_rider_125 rfl 2 3 rfl rfl hb_9 ?_
      exact gw_iret κ dX5_rider_126 (way.ky, way.wp, way.mi, way.so) rfl ⟨_, rfl, h⟩
    by_cases hc_3c_6 : x2 = 6
    · have h := hc_3_6 hc_3c_6
      refine gw_tableIn (tgt := 127) (off := 115) κ dX5_rider_12 (by rw [hc_3c_6]; decide) (by rw [hc_3c_6]; decide) (by rw [hc_3c_6]; decide +kernel) (by decide) ?_
      refine gw_aload_n (pc' := 128) κ dX5_rider_127 rfl 0 rfl rfl ?_
      refine gb_get (pc' := 131) (C := RX5) (T := TX5) (N := 8) κ dX5_rider_128 rfl inX5 0 rfl rfl rfl 1 (by decide) tw_fl_X5_19 rfl ?_
      refine gw_aload_n (pc' := 132) κ dX5_rider_131 rfl 0 rfl rfl ?_
      refine gb_get (pc' := 135) (C := RX5) (T := TX5) (N := 8) κ dX5_rider_132 rfl inX5 0 rfl rfl rfl 0 (by decide) tw_fl_X5_10 rfl ?_
      refine gw_iload_n (pc' := 136) κ dX5_rider_135 rfl 1 rfl rfl ?_
      refine gb_callV (ci := 2) (qb := 2) (rest := []) κ (c_X2_waitOf qp qn pln now x1 h) ⟨rfl, rfl, Nat.le_of_ble_eq_true rfl, Nat.le_of_ble_eq_true rfl⟩ tw_ml_X5_154 tw_im_X2_waitOf tw_se_X2_waitOf tw_co_X2_waitOf tw_in_X2 hy_X2_waitOf rfl rfl rfl rfl rfl (Nat.le_of_ble_eq_true rfl) rfl dX5_rider_136 [2, 1] rfl (by decide) (fun _ => Nat.le_of_ble_eq_true rfl) ⟨Nat.le_of_ble_eq_true rfl, Nat.le_of_ble_eq_true rfl⟩ (fun v u hv => ?_)
      obtain ⟨r_10, rfl, h⟩ := hv
      refine gw_nf (ws' := (wfl [cX qx qn qp qw qt qu qd qh ql, cSt qn cI now.se now.la now.de now.le now.sa now.fl now.ar now.dr now.pe now.ri, cPl qp cI pln.od pln.rd pln.vn pln.pn pln.ao pln.sr pln.sp pln.wt, cWy qw cI way.ky way.wp way.mi way.so])) (lv' := [(0, .ref (qx 0)), (1, .int x1), (2, .int x2)]) (st' := [.int r_10]) (pc' := 139) (ce' := 0) (sl' := 0) rfl rfl rfl rfl rfl rfl ?_
      exact gw_iret κ dX5_rider_139 (way.ky, way.wp, way.mi, way.so) rfl ⟨_, rfl, h⟩
    by_cases hc_3c_7 : x2 = 7
    · have h := hc_3_7 hc_3c_7
      refine gw_tableIn (tgt := 140) (off := 128) κ dX5_rider_12 (by rw [hc_3c_7]; decide) (by rw [hc_3c_7]; decide) (by rw [hc_3c_7]; decide +kernel) (by decide) ?_
      refine gw_aload_n (pc' := 141) κ dX5_rider_140 rfl 0 rfl rfl ?_
      refine gw_iload_n (pc' := 142) κ dX5_rider_141 rfl 1 rfl rfl ?_
      refine gb_callV (ci := 5) (qb := 0) (rest := []) κ (c_X5_minuteAtDoor qx qn qp qw qt qu qd qh ql qs now pln way x1 h) ⟨rfl, rfl, Nat.le_of_ble_eq_true rfl, Nat.le_of_ble_eq_true rfl⟩ tw_ml_X5_157 tw_im_X5_minuteAtDoor tw_se_X5_minuteAtDoor tw_co_X5_minuteAtDoor tw_in_X5 hy_X5_minuteAtDoor rfl rfl rfl rfl rfl (Nat.le_of_ble_eq_true rfl) rfl dX5_rider_142 [0, 1, 2, 3] rfl (by decide) (fun _ => Nat.le_of_ble_eq_true rfl) ⟨Nat.le_of_ble_eq_true rfl, Nat.le_of_ble_eq_true rfl⟩ (fun v u hv => ?_)
      obtain ⟨r_15, rfl, h⟩ := hv
      obtain ⟨ky_11, wp_12, mi_13, so_14⟩ := u
      refine gw_nf (ws' := (wfl [cX qx qn qp qw qt qu qd qh ql, cSt qn cI now.se now.la now.de now.le now.sa now.fl now.ar now.dr now.pe now.ri, cPl qp cI pln.od pln.rd pln.vn pln.pn pln.ao pln.sr pln.sp pln.wt, cWy qw cI ky_11 wp_12 mi_13 so_14])) (lv' := [(0, .ref (qx 0)), (1, .int x1), (2, .int x2)]) (st' := [.int r_15]) (pc' := 145) (ce' := 0) (sl' := 0) rfl rfl rfl rfl rfl rfl ?_
      exact gw_iret κ dX5_rider_145 (ky_11, wp_12, mi_13, so_14) rfl ⟨_, rfl, h⟩
    by_cases hc_3c_8 : x2 = 8
    · have h := hc_3_8 hc_3c_8
      refine gw_tableIn (tgt := 146) (off := 134) κ dX5_rider_12 (by rw [hc_3c_8]; decide) (by rw [hc_3c_8]; decide) (by rw [hc_3c_8]; decide +kernel) (by decide) ?_
      refine gw_aload_n (pc' := 147) κ dX5_rider_146 rfl 0 rfl rfl ?_
      refine gb_get (pc' := 150) (C := RX5) (T := TX5) (N := 8) κ dX5_rider_147 rfl inX5 0 rfl rfl rfl 1 (by decide) tw_fl_X5_19 rfl ?_
      refine gw_aload_n (pc' := 151) κ dX5_rider_150 rfl 0 rfl rfl ?_
      refine gb_get (pc' := 154) (C := RX5) (T := TX5) (N := 8) κ dX5_rider_151 rfl inX5 0 rfl rfl rfl 0 (by decide) tw_fl_X5_10 rfl ?_
      refine gw_iload_n (pc' := 155) κ dX5_rider_154 rfl 1 rfl rfl ?_
      refine gb_callV (ci := 2) (qb := 2) (rest := []) κ (c_X2_fare qp qn pln now x1 h) ⟨rfl, rfl, Nat.le_of_ble_eq_true rfl, Nat.le_of_ble_eq_true rfl⟩ tw_ml_X5_128 tw_im_X2_fare tw_se_X2_fare tw_co_X2_fare tw_in_X2 hy_X2_fare rfl rfl rfl rfl rfl (Nat.le_of_ble_eq_true rfl) rfl dX5_rider_155 [2, 1] rfl (by decide) (fun _ => Nat.le_of_ble_eq_true rfl) ⟨Nat.le_of_ble_eq_true rfl, Nat.le_of_ble_eq_true rfl⟩ (fun v u hv => ?_)
      obtain ⟨r_16, rfl, h⟩ := hv
      refine gw_nf (ws' := (wfl [cX qx qn qp qw qt qu qd qh ql, cSt qn cI now.se now.la now.de now.le now.sa now.fl now.ar now.dr now.pe now.ri, cPl qp cI pln.od pln.rd pln.vn pln.pn pln.ao pln.sr pln.sp pln.wt, cWy qw cI way.ky way.wp way.mi way.so])) (lv' := [(0, .ref (qx 0)), (1, .int x1), (2, .int x2)]) (st' := [.int r_16]) (pc' := 158) (ce' := 0) (sl' := 0) rfl rfl rfl rfl rfl rfl ?_
      exact gw_iret κ dX5_rider_158 (way.ky, way.wp, way.mi, way.so) rfl ⟨_, rfl, h⟩
    by_cases hc_3c_9 : x2 = 9
    · have h := hc_3_9 hc_3c_9
      refine gw_tableIn (tgt := 159) (off := 147) κ dX5_rider_12 (by rw [hc_3c_9]; decide) (by rw [hc_3c_9]; decide) (by rw [hc_3c_9]; decide +kernel) (by decide) ?_
      refine gw_aload_n (pc' := 160) κ dX5_rider_159 rfl 0 rfl rfl ?_
      refine gb_get (pc' := 163) (C := RX5) (T := TX5) (N := 8) κ dX5_rider_160 rfl inX5 0 rfl rfl rfl 1 (by decide) tw_fl_X5_19 rfl ?_
      refine gw_aload_n (pc' := 164) κ dX5_rider_163 rfl 0 rfl rfl ?_
      refine gb_get (pc' := 167) (C := RX5) (T := TX5) (N := 8) κ dX5_rider_164 rfl inX5 0 rfl rfl rfl 0 (by decide) tw_fl_X5_10 rfl ?_
      refine gw_iload_n (pc' := 168) κ dX5_rider_167 rfl 1 rfl rfl ?_
      refine gb_callV (ci := 2) (qb := 2) (rest := []) κ (c_X2_othersAtStop qp qn pln now x1 h) ⟨rfl, rfl, Nat.le_of_ble_eq_true rfl, Nat.le_of_ble_eq_true rfl⟩ tw_ml_X5_160 tw_im_X2_othersAtStop tw_se_X2_othersAtStop tw_co_X2_othersAtStop tw_in_X2 hy_X2_othersAtStop rfl rfl rfl rfl rfl (Nat.le_of_ble_eq_true rfl) rfl dX5_rider_168 [2, 1] rfl (by decide) (fun _ => Nat.le_of_ble_eq_true rfl) ⟨Nat.le_of_ble_eq_true rfl, Nat.le_of_ble_eq_true rfl⟩ (fun v u hv => ?_)
      obtain ⟨r_17, rfl, h⟩ := hv
      refine gw_nf (ws' := (wfl [cX qx qn qp qw qt qu qd qh ql, cSt qn cI now.se now.la now.de now.le now.sa now.fl now.ar now.dr now.pe now.ri, cPl qp cI pln.od pln.rd pln.vn pln.pn pln.ao pln.sr pln.sp pln.wt, cWy qw cI way.ky way.wp way.mi way.so])) (lv' := [(0, .ref (qx 0)), (1, .int x1), (2, .int x2)]) (st' := [.int r_17]) (pc' := 171) (ce' := 0) (sl' := 0) rfl rfl rfl rfl rfl rfl ?_
      exact gw_iret κ dX5_rider_171 (way.ky, way.wp, way.mi, way.so) rfl ⟨_, rfl, h⟩
    have h := hc_3d ⟨hc_3c_0, hc_3c_1, hc_3c_2, hc_3c_3, hc_3c_4, hc_3c_5, hc_3c_6, hc_3c_7, hc_3c_8, hc_3c_9⟩
    refine gw_tableOut (tgt := 172) κ dX5_rider_12 (sw_out2 (x := x2) (lo := 0) (hi := 9) (by decide) (fun k h1 h2 => by rcases (show k = 0 ∨ k = 1 ∨ k = 2 ∨ k = 3 ∨ k = 4 ∨ k = 5 ∨ k = 6 ∨ k = 7 ∨ k = 8 ∨ k = 9 by omega) with rfl | rfl | rfl | rfl | rfl | rfl | rfl | rfl | rfl | rfl <;> assumption)) (by decide) ?_
    refine gw_bipush (pc' := 174) (v := -102) κ dX5_rider_172 rfl (by decide) ?_
    exact gw_iret κ dX5_rider_174 (way.ky, way.wp, way.mi, way.so) rfl ⟨_, rfl, h⟩
  · have h := h.2 hc_2
    refine gw_bipush (pc' := 10) (v := -101) κ dX5_rider_8 rfl (by decide) ?_
    exact gw_iret κ dX5_rider_10 (way.ky, way.wp, way.mi, way.so) rfl ⟨_, rfl, h⟩
theorem hy_X2_ridersIn : g_hy yX2_ridersIn 2 := by decide +kernel
set_option maxHeartbeats 4000000 in
set_option maxRecDepth 100000 in
theorem k_X2_ridersIn_5 {zp : Program} {l : Launch} {ze : Env} {zs : State} {zm : MethodId} {za : Array Value} {zb : List Frame} {zt : Method} {zc : Code} {D : va_G} {cI cR : ClassId} {A : Nat → Prop} (κ : KC zp zs zm za zt zc cX2_ridersIn 5 RX2 D cI cR A (some .int)) (qa : Nat → Nat) (qb : Nat → Nat) (P : Int32 → Prop) (o0 : PlT) (o1 : StT) (x2 : Int32) : ∀ (n : Nat) (v3 : Int32) (v4 : Int32), wp_X2_ridersIn_5 P o0 o1 x2 n v3 v4 → GM zp l ze ({ frames := 0, cells := 0, slots := 0, locals := 0 } : Room) zs zm za zb zt zc D A 5 (pI (fun (r : Int32) (_ : Unit) => P r)) (fun _ : Unit => (wfl [cPl qa cI o0.od o0.rd o0.vn o0.pn o0.ao o0.sr o0.sp o0.wt, cSt qb cI o1.se o1.la o1.de o1.le o1.sa o1.fl o1.ar o1.dr o1.pe o1.ri])) 0 0 0 0 (wfl [cPl qa cI o0.od o0.rd o0.vn o0.pn o0.ao o0.sr o0.sp o0.wt, cSt qb cI o1.se o1.la o1.de o1.le o1.sa o1.fl o1.ar o1.dr o1.pe o1.ri]) [(0, .ref (qa 0)), (1, .ref (qb 0)), (2, .int x2), (3, .int v3), (4, .int v4)] 5 [] := by
  intro n5
  induction n5 with
  | zero => intro v3 v4 h; exact (show False from h).elim
  | succ n5 ih5 =>
    intro v3 v4 h
    have h : wp_X2_ridersIn_5F P o0 o1 x2 (wp_X2_ridersIn_5 P o0 o1 x2 n5) v3 v4 := h
    unfold wp_X2_ridersIn_5F at h
    refine gw_iload (pc' := 7) κ dX2_ridersIn_5 rfl 4 rfl ?_
    refine gw_aload_n (pc' := 8) κ dX2_ridersIn_7 rfl 1 rfl rfl ?_
    refine gb_get (pc' := 11) (C := RX3) (T := TX3) (N := 10) κ dX2_ridersIn_8 rfl inX3 1 rfl rfl rfl 9 (by decide) tw_fl_X2_34 rfl ?_
    refine gw_icmp_ge (pc' := 14) (tgt := 38) κ dX2_ridersIn_11 rfl (by decide) (fun hc_1 => ?_) (fun hc_1 => ?_)
    · have h := h.1 hc_1
      refine gw_iload_n (pc' := 39) κ dX2_ridersIn_38 rfl 3 rfl rfl ?_
      exact gw_iret κ dX2_ridersIn_39 () rfl ⟨_, rfl, h⟩
    · have h := h.2 hc_1
      refine gw_aload_n (pc' := 15) κ dX2_ridersIn_14 rfl 0 rfl rfl ?_
      refine gb_get (pc' := 18) (C := RX2) (T := TX2) (N := 8) κ dX2_ridersIn_15 rfl inX2 0 rfl rfl rfl 2 (by decide) tw_fl_X2_18 rfl ?_
      refine gw_iload (pc' := 20) κ dX2_ridersIn_18 rfl 4 rfl ?_
      obtain ⟨hb_2, h⟩ := h
      refine gb_iald (pc' := 21) κ dX2_ridersIn_20 rfl 0 3 rfl rfl hb_2 ?_
      refine gw_iload_n (pc' := 22) κ dX2_ridersIn_21 rfl 2 rfl rfl ?_
      refine gw_icmp_ne (pc' := 25) (tgt := 32) κ dX2_ridersIn_22 rfl (by decide) (fun hc_3 => ?_) (fun hc_3 => ?_)
      · have h := h.1 hc_3
        refine gw_iinc (pc' := 35) κ dX2_ridersIn_32 rfl 4 rfl (v := (v4 + 1)) rfl (by decide) (lv' := [(4, .int (v4 + 1)), (0, .ref (qa 0)), (1, .ref (qb 0)), (2, .int x2), (3, .int v3)]) rfl ?_
        refine gw_goto (tgt := 5) κ dX2_ridersIn_35 (by decide) ?_
        refine gw_lv (lv' := [(0, .ref (qa 0)), (1, .ref (qb 0)), (2, .int x2), (3, .int v3), (4, .int (v4 + 1))]) [1, 2, 3, 4, 0] rfl ?_
        exact ih5 v3 (v4 + 1) h
      · have h := h.2 hc_3
        refine gw_iload_n (pc' := 26) κ dX2_ridersIn_25 rfl 3 rfl rfl ?_
        refine gw_iconst (pc' := 27) (v := 1) κ dX2_ridersIn_26 rfl (by decide) ?_
        refine gw_iload (pc' := 29) κ dX2_ridersIn_27 rfl 4 rfl ?_
        refine gw_ishl (pc' := 30) κ dX2_ridersIn_29 rfl  ?_
        refine gw_ior (pc' := 31) κ dX2_ridersIn_30 rfl  ?_
        refine gw_istore_n (pc' := 32) κ dX2_ridersIn_31 rfl rfl (by decide) (lv' := [(3, .int (v3 ||| ((1 : Int32) <<< (v4 &&& 31)))), (0, .ref (qa 0)), (1, .ref (qb 0)), (2, .int x2), (4, .int v4)]) rfl ?_
        refine gw_iinc (pc' := 35) κ dX2_ridersIn_32 rfl 4 rfl (v := (v4 + 1)) rfl (by decide) (lv' := [(4, .int (v4 + 1)), (3, .int (v3 ||| ((1 : Int32) <<< (v4 &&& 31)))), (0, .ref (qa 0)), (1, .ref (qb 0)), (2, .int x2)]) rfl ?_
        refine gw_goto (tgt := 5) κ dX2_ridersIn_35 (by decide) ?_
        refine gw_lv (lv' := [(0, .ref (qa 0)), (1, .ref (qb 0)), (2, .int x2), (3, .int (v3 ||| ((1 : Int32) <<< (v4 &&& 31)))), (4, .int (v4 + 1))]) [2, 3, 4, 1, 0] rfl ?_
        exact ih5 (v3 ||| ((1 : Int32) <<< (v4 &&& 31))) (v4 + 1) h
set_option maxHeartbeats 4000000 in
set_option maxRecDepth 100000 in
theorem c_X2_ridersIn {l : Launch} {D : va_G} {cI cR : ClassId}  (qa : Nat → Nat) (qb : Nat → Nat) {P : Int32 → Prop} (o0 : PlT) (o1 : StT) (x2 : Int32) (h : wp_X2_ridersIn P o0 o1 x2) : CT l D cI cR yX2_ridersIn cX2_ridersIn 5 (some .int) ({ frames := 0, cells := 0, slots := 0, locals := 0 } : Room) [.ref (qa 0), .ref (qb 0), .int x2] (wfl [cPl qa cI o0.od o0.rd o0.vn o0.pn o0.ao o0.sr o0.sp o0.wt, cSt qb cI o1.se o1.la o1.de o1.le o1.sa o1.fl o1.ar o1.dr o1.pe o1.ri]) (fun _ : Unit => (wfl [cPl qa cI o0.od o0.rd o0.vn o0.pn o0.ao o0.sr o0.sp o0.wt, cSt qb cI o1.se o1.la o1.de o1.le o1.sa o1.fl o1.ar o1.dr o1.pe o1.ri])) (pI (fun (r : Int32) (_ : Unit) => P r)) 0 0 := by
  refine ct_of RX2 rfl (by decide +kernel) (Nat.le_of_ble_eq_true rfl) (fun zp ze zs zm zb zt zc A hin κ => ?_)
  unfold wp_X2_ridersIn at h
  refine gw_nf (lv' := [(0, .ref (qa 0)), (1, .ref (qb 0)), (2, .int x2)]) (pc' := 0) (st' := []) (ce' := 0) (sl' := 0) rfl rfl rfl rfl rfl rfl ?_
  refine gw_iconst (pc' := 1) (v := 0) κ dX2_ridersIn_0 rfl (by decide) ?_
  refine gw_istore_n (pc' := 2) κ dX2_ridersIn_1 rfl rfl (by decide) (lv' := [(3, .int (0 : Int32)), (0, .ref (qa 0)), (1, .ref (qb 0)), (2, .int x2)]) rfl ?_
  refine gw_iconst (pc' := 3) (v := 0) κ dX2_ridersIn_2 rfl (by decide) ?_
  refine gw_istore (pc' := 5) κ dX2_ridersIn_3 rfl (by decide) (lv' := [(4, .int (0 : Int32)), (3, .int (0 : Int32)), (0, .ref (qa 0)), (1, .ref (qb 0)), (2, .int x2)]) rfl ?_
  obtain ⟨m5, h⟩ := h
  refine gw_lv (lv' := [(0, .ref (qa 0)), (1, .ref (qb 0)), (2, .int x2), (3, .int (0 : Int32)), (4, .int (0 : Int32))]) [2, 3, 4, 1, 0] rfl ?_
  exact k_X2_ridersIn_5 κ qa qb P o0 o1 x2 m5 (0 : Int32) (0 : Int32) h
theorem hy_X4_lastMinute : g_hy yX4_lastMinute 0 := by decide +kernel
set_option maxHeartbeats 4000000 in
set_option maxRecDepth 100000 in
theorem c_X4_lastMinute {l : Launch} {D : va_G} {cI cR : ClassId}  (qa : Nat → Nat) {P : Int32 → Prop} (o0 : WyT) (h : wp_X4_lastMinute P o0) : CT l D cI cR yX4_lastMinute cX4_lastMinute 1 (some .int) ({ frames := 0, cells := 0, slots := 0, locals := 0 } : Room) [.ref (qa 0)] (wfl [cWy qa cI o0.ky o0.wp o0.mi o0.so]) (fun _ : Unit => (wfl [cWy qa cI o0.ky o0.wp o0.mi o0.so])) (pI (fun (r : Int32) (_ : Unit) => P r)) 0 0 := by
  refine ct_of RX4 rfl (by decide +kernel) (Nat.le_of_ble_eq_true rfl) (fun zp ze zs zm zb zt zc A hin κ => ?_)
  unfold wp_X4_lastMinute at h
  refine gw_nf (lv' := [(0, .ref (qa 0))]) (pc' := 0) (st' := []) (ce' := 0) (sl' := 0) rfl rfl rfl rfl rfl rfl ?_
  refine gw_aload_n (pc' := 1) κ dX4_lastMinute_0 rfl 0 rfl rfl ?_
  refine gb_get (pc' := 4) (C := RX4) (T := TX4) (N := 4) κ dX4_lastMinute_1 rfl inX4 0 rfl rfl rfl 3 (by decide) tw_fl_X4_21 rfl ?_
  refine gw_if_le (pc' := 7) (tgt := 21) κ dX4_lastMinute_4 rfl (by decide) (fun hc_1 => ?_) (fun hc_1 => ?_)
  · have h := h.1 hc_1
    refine gw_bipush (pc' := 23) (v := -106) κ dX4_lastMinute_21 rfl (by decide) ?_
    exact gw_iret κ dX4_lastMinute_23 () rfl ⟨_, rfl, h⟩
  · have h := h.2 hc_1
    refine gw_aload_n (pc' := 8) κ dX4_lastMinute_7 rfl 0 rfl rfl ?_
    refine gb_get (pc' := 11) (C := RX4) (T := TX4) (N := 4) κ dX4_lastMinute_8 rfl inX4 0 rfl rfl rfl 2 (by decide) tw_fl_X4_18 rfl ?_
    refine gw_aload_n (pc' := 12) κ dX4_lastMinute_11 rfl 0 rfl rfl ?_
    refine gb_get (pc' := 15) (C := RX4) (T := TX4) (N := 4) κ dX4_lastMinute_12 rfl inX4 0 rfl rfl rfl 3 (by decide) tw_fl_X4_21 rfl ?_
    refine gw_iconst (pc' := 16) (v := 1) κ dX4_lastMinute_15 rfl (by decide) ?_
    refine gw_isub (pc' := 17) κ dX4_lastMinute_16 rfl  ?_
    obtain ⟨hb_2, h⟩ := h
    refine gb_iald (pc' := 18) κ dX4_lastMinute_17 rfl 0 3 rfl rfl hb_2 ?_
    refine gw_goto (tgt := 23) κ dX4_lastMinute_18 (by decide) ?_
    exact gw_iret κ dX4_lastMinute_23 () rfl ⟨_, rfl, h⟩
theorem hy_X2_faresOf : g_hy yX2_faresOf 2 := by decide +kernel
set_option maxHeartbeats 4000000 in
set_option maxRecDepth 100000 in
theorem k_X2_faresOf_5 {zp : Program} {l : Launch} {ze : Env} {zs : State} {zm : MethodId} {za : Array Value} {zb : List Frame} {zt : Method} {zc : Code} {D : va_G} {cI cR : ClassId} {A : Nat → Prop} (κ : KC zp zs zm za zt zc cX2_faresOf 5 RX2 D cI cR A (some .int)) (qa : Nat → Nat) (qb : Nat → Nat) (P : Int32 → Prop) (o0 : PlT) (o1 : StT) (x2 : Int32) : ∀ (n : Nat) (v3 : Int32) (v4 : Int32), wp_X2_faresOf_5 P o0 o1 x2 n v3 v4 → GM zp l ze ({ frames := 4, cells := 0, slots := 0, locals := 96 } : Room) zs zm za zb zt zc D A 5 (pI (fun (r : Int32) (_ : Unit) => P r)) (fun _ : Unit => (wfl [cPl qa cI o0.od o0.rd o0.vn o0.pn o0.ao o0.sr o0.sp o0.wt, cSt qb cI o1.se o1.la o1.de o1.le o1.sa o1.fl o1.ar o1.dr o1.pe o1.ri])) 0 0 0 0 (wfl [cPl qa cI o0.od o0.rd o0.vn o0.pn o0.ao o0.sr o0.sp o0.wt, cSt qb cI o1.se o1.la o1.de o1.le o1.sa o1.fl o1.ar o1.dr o1.pe o1.ri]) [(0, .ref (qa 0)), (1, .ref (qb 0)), (2, .int x2), (3, .int v3), (4, .int v4)] 5 [] := by
  intro n5
  induction n5 with
  | zero => intro v3 v4 h; exact (show False from h).elim
  | succ n5 ih5 =>
    intro v3 v4 h
    have h : wp_X2_faresOf_5F P o0 o1 x2 (wp_X2_faresOf_5 P o0 o1 x2 n5) v3 v4 := h
    unfold wp_X2_faresOf_5F at h
    refine gw_iload (pc' := 7) κ dX2_faresOf_5 rfl 4 rfl ?_
    refine gw_aload_n (pc' := 8) κ dX2_faresOf_7 rfl 1 rfl rfl ?_
    refine gb_get (pc' := 11) (C := RX3) (T := TX3) (N := 10) κ dX2_faresOf_8 rfl inX3 1 rfl rfl rfl 9 (by decide) tw_fl_X2_34 rfl ?_
    refine gw_icmp_ge (pc' := 14) (tgt := 41) κ dX2_faresOf_11 rfl (by decide) (fun hc_1 => ?_) (fun hc_1 => ?_)
    · have h := h.1 hc_1
      refine gw_iload_n (pc' := 42) κ dX2_faresOf_41 rfl 3 rfl rfl ?_
      exact gw_iret κ dX2_faresOf_42 () rfl ⟨_, rfl, h⟩
    · have h := h.2 hc_1
      refine gw_aload_n (pc' := 15) κ dX2_faresOf_14 rfl 0 rfl rfl ?_
      refine gb_get (pc' := 18) (C := RX2) (T := TX2) (N := 8) κ dX2_faresOf_15 rfl inX2 0 rfl rfl rfl 2 (by decide) tw_fl_X2_18 rfl ?_
      refine gw_iload (pc' := 20) κ dX2_faresOf_18 rfl 4 rfl ?_
      obtain ⟨hb_2, h⟩ := h
      refine gb_iald (pc' := 21) κ dX2_faresOf_20 rfl 0 3 rfl rfl hb_2 ?_
      refine gw_iload_n (pc' := 22) κ dX2_faresOf_21 rfl 2 rfl rfl ?_
      refine gw_icmp_ne (pc' := 25) (tgt := 35) κ dX2_faresOf_22 rfl (by decide) (fun hc_3 => ?_) (fun hc_3 => ?_)
      · have h := h.1 hc_3
        refine gw_iinc (pc' := 38) κ dX2_faresOf_35 rfl 4 rfl (v := (v4 + 1)) rfl (by decide) (lv' := [(4, .int (v4 + 1)), (0, .ref (qa 0)), (1, .ref (qb 0)), (2, .int x2), (3, .int v3)]) rfl ?_
        refine gw_goto (tgt := 5) κ dX2_faresOf_38 (by decide) ?_
        refine gw_lv (lv' := [(0, .ref (qa 0)), (1, .ref (qb 0)), (2, .int x2), (3, .int v3), (4, .int (v4 + 1))]) [1, 2, 3, 4, 0] rfl ?_
        exact ih5 v3 (v4 + 1) h
      · have h := h.2 hc_3
        refine gw_iload_n (pc' := 26) κ dX2_faresOf_25 rfl 3 rfl rfl ?_
        refine gw_aload_n (pc' := 27) κ dX2_faresOf_26 rfl 0 rfl rfl ?_
        refine gw_aload_n (pc' := 28) κ dX2_faresOf_27 rfl 1 rfl rfl ?_
        refine gw_iload (pc' := 30) κ dX2_faresOf_28 rfl 4 rfl ?_
        refine gb_callV (ci := 2) (qb := 0) (rest := [.int v3]) κ (c_X2_fare qa qb o0 o1 v4 h) ⟨rfl, rfl, Nat.le_of_ble_eq_true rfl, Nat.le_of_ble_eq_true rfl⟩ tw_ml_X2_100 tw_im_X2_fare tw_se_X2_fare tw_co_X2_fare tw_in_X2 hy_X2_fare rfl rfl rfl rfl rfl (Nat.le_of_ble_eq_true rfl) rfl dX2_faresOf_30 [0, 1] rfl (by decide) (fun _ => Nat.le_of_ble_eq_true rfl) ⟨Nat.le_of_ble_eq_true rfl, Nat.le_of_ble_eq_true rfl⟩ (fun v u hv => ?_)
        obtain ⟨r_4, rfl, h⟩ := hv
        refine gw_nf (ws' := (wfl [cPl qa cI o0.od o0.rd o0.vn o0.pn o0.ao o0.sr o0.sp o0.wt, cSt qb cI o1.se o1.la o1.de o1.le o1.sa o1.fl o1.ar o1.dr o1.pe o1.ri])) (lv' := [(0, .ref (qa 0)), (1, .ref (qb 0)), (2, .int x2), (3, .int v3), (4, .int v4)]) (st' := [.int r_4, .int v3]) (pc' := 33) (ce' := 0) (sl' := 0) rfl rfl rfl rfl rfl rfl ?_
        refine gw_iadd (pc' := 34) κ dX2_faresOf_33 rfl  ?_
        refine gw_istore_n (pc' := 35) κ dX2_faresOf_34 rfl rfl (by decide) (lv' := [(3, .int (v3 + r_4)), (0, .ref (qa 0)), (1, .ref (qb 0)), (2, .int x2), (4, .int v4)]) rfl ?_
        refine gw_iinc (pc' := 38) κ dX2_faresOf_35 rfl 4 rfl (v := (v4 + 1)) rfl (by decide) (lv' := [(4, .int (v4 + 1)), (3, .int (v3 + r_4)), (0, .ref (qa 0)), (1, .ref (qb 0)), (2, .int x2)]) rfl ?_
        refine gw_goto (tgt := 5) κ dX2_faresOf_38 (by decide) ?_
        refine gw_lv (lv' := [(0, .ref (qa 0)), (1, .ref (qb 0)), (2, .int x2), (3, .int (v3 + r_4)), (4, .int (v4 + 1))]) [2, 3, 4, 1, 0] rfl ?_
        exact ih5 (v3 + r_4) (v4 + 1) h
set_option maxHeartbeats 4000000 in
set_option maxRecDepth 100000 in
theorem c_X2_faresOf {l : Launch} {D : va_G} {cI cR : ClassId}  (qa : Nat → Nat) (qb : Nat → Nat) {P : Int32 → Prop} (o0 : PlT) (o1 : StT) (x2 : Int32) (h : wp_X2_faresOf P o0 o1 x2) : CT l D cI cR yX2_faresOf cX2_faresOf 5 (some .int) ({ frames := 4, cells := 0, slots := 0, locals := 96 } : Room) [.ref (qa 0), .ref (qb 0), .int x2] (wfl [cPl qa cI o0.od o0.rd o0.vn o0.pn o0.ao o0.sr o0.sp o0.wt, cSt qb cI o1.se o1.la o1.de o1.le o1.sa o1.fl o1.ar o1.dr o1.pe o1.ri]) (fun _ : Unit => (wfl [cPl qa cI o0.od o0.rd o0.vn o0.pn o0.ao o0.sr o0.sp o0.wt, cSt qb cI o1.se o1.la o1.de o1.le o1.sa o1.fl o1.ar o1.dr o1.pe o1.ri])) (pI (fun (r : Int32) (_ : Unit) => P r)) 0 0 := by
  refine ct_of RX2 rfl (by decide +kernel) (Nat.le_of_ble_eq_true rfl) (fun zp ze zs zm zb zt zc A hin κ => ?_)
  unfold wp_X2_faresOf at h
  refine gw_nf (lv' := [(0, .ref (qa 0)), (1, .ref (qb 0)), (2, .int x2)]) (pc' := 0) (st' := []) (ce' := 0) (sl' := 0) rfl rfl rfl rfl rfl rfl ?_
  refine gw_iconst (pc' := 1) (v := 0) κ dX2_faresOf_0 rfl (by decide) ?_
  refine gw_istore_n (pc' := 2) κ dX2_faresOf_1 rfl rfl (by decide) (lv' := [(3, .int (0 : Int32)), (0, .ref (qa 0)), (1, .ref (qb 0)), (2, .int x2)]) rfl ?_
  refine gw_iconst (pc' := 3) (v := 0) κ dX2_faresOf_2 rfl (by decide) ?_
  refine gw_istore (pc' := 5) κ dX2_faresOf_3 rfl (by decide) (lv' := [(4, .int (0 : Int32)), (3, .int (0 : Int32)), (0, .ref (qa 0)), (1, .ref (qb 0)), (2, .int x2)]) rfl ?_
  obtain ⟨m5, h⟩ := h
  refine gw_lv (lv' := [(0, .ref (qa 0)), (1, .ref (qb 0)), (2, .int x2), (3, .int (0 : Int32)), (4, .int (0 : Int32))]) [2, 3, 4, 1, 0] rfl ?_
  exact k_X2_faresOf_5 κ qa qb P o0 o1 x2 m5 (0 : Int32) (0 : Int32) h
theorem hy_X5_vanOf : g_hy yX5_vanOf 2 := by decide +kernel
set_option maxHeartbeats 4000000 in
set_option maxRecDepth 100000 in
theorem c_X5_vanOf {l : Launch} {D : va_G} {cI cR : ClassId}  (qx : Nat → Nat) (qn : Nat → Nat) (qp : Nat → Nat) (qw : Nat → Nat) (qt : Nat → Nat) (qu : Nat → Nat) (qd : Nat → Nat) (qh : Nat → Nat) (ql : Nat → Nat) (qs : Nat → Nat → Nat) {P : Int32 → (Nat → Int32) → (Nat → Int32) → (Nat → Int32) → Int32 → Prop} (now : StT) (pln : PlT) (way : WyT) (x1 : Int32) (x2 : Int32) (h : wp_X5_vanOf P now pln way x1 x2) : CT l D cI cR yX5_vanOf cX5_vanOf 3 (some .int) ({ frames := 5, cells := 0, slots := 0, locals := 120 } : Room) [.ref (qx 0), .int x1, .int x2] (wfl [cX qx qn qp qw qt qu qd qh ql, cSt qn cI now.se now.la now.de now.le now.sa now.fl now.ar now.dr now.pe now.ri, cPl qp cI pln.od pln.rd pln.vn pln.pn pln.ao pln.sr pln.sp pln.wt, cWy qw cI way.ky way.wp way.mi way.so]) (fun u : (Nat → Int32) × (Nat → Int32) × (Nat → Int32) × Int32 => (wfl [cX qx qn qp qw qt qu qd qh ql, cSt qn cI now.se now.la now.de now.le now.sa now.fl now.ar now.dr now.pe now.ri, cPl qp cI pln.od pln.rd pln.vn pln.pn pln.ao pln.sr pln.sp pln.wt, cWy qw cI u.1 u.2.1 u.2.2.1 u.2.2.2])) (pI (fun (r : Int32) (u : (Nat → Int32) × (Nat → Int32) × (Nat → Int32) × Int32) => P r u.1 u.2.1 u.2.2.1 u.2.2.2)) 0 0 := by
  refine ct_of RX5 rfl (by decide +kernel) (Nat.le_of_ble_eq_true rfl) (fun zp ze zs zm zb zt zc A hin κ => ?_)
  unfold wp_X5_vanOf at h
  refine gw_nf (lv' := [(0, .ref (qx 0)), (1, .int x1), (2, .int x2)]) (pc' := 0) (st' := []) (ce' := 0) (sl' := 0) rfl rfl rfl rfl rfl rfl ?_
  refine gw_iload_n (pc' := 1) κ dX5_vanOf_0 rfl 1 rfl rfl ?_
  refine gb_callS (rest := []) κ (c_X5_isVan  x1 h) ⟨rfl, rfl, Nat.le_of_ble_eq_true rfl, Nat.le_of_ble_eq_true rfl⟩ tw_ml_X5_92 tw_st_X5_isVan tw_co_X5_isVan tw_in_X5 hy_X5_isVan rfl (Nat.le_of_ble_eq_true rfl) rfl dX5_vanOf_1 [] rfl (by decide) (fun _ => Nat.le_of_ble_eq_true rfl) ⟨Nat.le_of_ble_eq_true rfl, Nat.le_of_ble_eq_true rfl⟩ (fun v u hv => ?_)
  obtain ⟨r_1, rfl, h⟩ := hv
  refine gw_nf (ws' := (wfl [cX qx qn qp qw qt qu qd qh ql, cSt qn cI now.se now.la now.de now.le now.sa now.fl now.ar now.dr now.pe now.ri, cPl qp cI pln.od pln.rd pln.vn pln.pn pln.ao pln.sr pln.sp pln.wt, cWy qw cI way.ky way.wp way.mi way.so])) (lv' := [(0, .ref (qx 0)), (1, .int x1), (2, .int x2)]) (st' := [.int r_1]) (pc' := 4) (ce' := 0) (sl' := 0) rfl rfl rfl rfl rfl rfl ?_
  refine gw_if_ne (pc' := 7) (tgt := 10) κ dX5_vanOf_4 rfl (by decide) (fun hc_2 => ?_) (fun hc_2 => ?_)
  · have h := h.1 hc_2
    refine gw_aload_n (pc' := 11) κ dX5_vanOf_10 rfl 0 rfl rfl ?_
    refine gb_get (pc' := 14) (C := RX5) (T := TX5) (N := 8) κ dX5_vanOf_11 rfl inX5 0 rfl rfl rfl 2 (by decide) tw_fl_X5_26 rfl ?_
    refine gw_aload_n (pc' := 15) κ dX5_vanOf_14 rfl 0 rfl rfl ?_
    refine gb_get (pc' := 18) (C := RX5) (T := TX5) (N := 8) κ dX5_vanOf_15 rfl inX5 0 rfl rfl rfl 0 (by decide) tw_fl_X5_10 rfl ?_
    refine gw_aload_n (pc' := 19) κ dX5_vanOf_18 rfl 0 rfl rfl ?_
    refine gb_get (pc' := 22) (C := RX5) (T := TX5) (N := 8) κ dX5_vanOf_19 rfl inX5 0 rfl rfl rfl 1 (by decide) tw_fl_X5_19 rfl ?_
    refine gw_iload_n (pc' := 23) κ dX5_vanOf_22 rfl 1 rfl rfl ?_
    refine gb_callV (ci := 4) (qb := 3) (rest := []) κ (c_X4_follow qw qn qp way now pln x1 h) ⟨rfl, rfl, Nat.le_of_ble_eq_true rfl, Nat.le_of_ble_eq_true rfl⟩ tw_ml_X5_163 tw_im_X4_follow tw_se_X4_follow tw_co_X4_follow tw_in_X4 hy_X4_follow rfl rfl rfl rfl rfl (Nat.le_of_ble_eq_true rfl) rfl dX5_vanOf_23 [3, 1, 2] rfl (by decide) (fun _ => Nat.le_of_ble_eq_true rfl) ⟨Nat.le_of_ble_eq_true rfl, Nat.le_of_ble_eq_true rfl⟩ (fun v u hv => ?_)
    obtain ⟨rfl, h⟩ := hv
    obtain ⟨ky_3, wp_4, mi_5, so_6⟩ := u
    refine gw_nf (ws' := (wfl [cX qx qn qp qw qt qu qd qh ql, cSt qn cI now.se now.la now.de now.le now.sa now.fl now.ar now.dr now.pe now.ri, cPl qp cI pln.od pln.rd pln.vn pln.pn pln.ao pln.sr pln.sp pln.wt, cWy qw cI ky_3 wp_4 mi_5 so_6])) (lv' := [(0, .ref (qx 0)), (1, .int x1), (2, .int x2)]) (st' := []) (pc' := 26) (ce' := 0) (sl' := 0) rfl rfl rfl rfl rfl rfl ?_
    refine gw_iload_n (pc' := 27) κ dX5_vanOf_26 rfl 2 rfl rfl ?_
    obtain ⟨hc_7_0, hc_7_1, hc_7_2, hc_7_3, hc_7_4, hc_7_5, hc_7_6, hc_7_7, hc_7d⟩ := h
    by_cases hc_7c_0 : x2 = 0
    · have h := hc_7_0 hc_7c_0
      refine gw_tableIn (tgt := 72) (off := 45) κ dX5_vanOf_27 (by rw [hc_7c_0]; decide) (by rw [hc_7c_0]; decide) (by rw [hc_7c_0]; decide +kernel) (by decide) ?_
      refine gw_aload_n (pc' := 73) κ dX5_vanOf_72 rfl 0 rfl rfl ?_
      refine gb_get (pc' := 76) (C := RX5) (T := TX5) (N := 8) κ dX5_vanOf_73 rfl inX5 0 rfl rfl rfl 0 (by decide) tw_fl_X5_10 rfl ?_
      refine gb_get (pc' := 79) (C := RX3) (T := TX3) (N := 10) κ dX5_vanOf_76 rfl inX3 1 rfl rfl rfl 3 (by decide) tw_fl_X5_95 rfl ?_
      refine gw_iload_n (pc' := 80) κ dX5_vanOf_79 rfl 1 rfl rfl ?_
      obtain ⟨hb_8, h⟩ := h
      refine gb_iald (pc' := 81) κ dX5_vanOf_80 rfl 1 4 rfl rfl hb_8 ?_
      exact gw_iret κ dX5_vanOf_81 (ky_3, wp_4, mi_5, so_6) rfl ⟨_, rfl, h⟩
    by_cases hc_7c_1 : x2 = 1
    · have h := hc_7_1 hc_7c_1
      refine gw_tableIn (tgt := 82) (off := 55) κ dX5_vanOf_27 (by rw [hc_7c_1]; decide) (by rw [hc_7c_1]; decide) (by rw [hc_7c_1]; decide +kernel) (by decide) ?_
      refine gw_aload_n (pc' := 83) κ dX5_vanOf_82 rfl 0 rfl rfl ?_
      refine gb_get (pc' := 86) (C := RX5) (T := TX5) (N := 8) κ dX5_vanOf_83 rfl inX5 0 rfl rfl rfl 0 (by decide) tw_fl_X5_10 rfl ?_
      refine gb_get (pc' := 89) (C := RX3) (T := TX3) (N := 10) κ dX5_vanOf_86 rfl inX3 1 rfl rfl rfl 4 (by decide) tw_fl_X5_98 rfl ?_
      refine gw_iload_n (pc' := 90) κ dX5_vanOf_89 rfl 1 rfl rfl ?_
      obtain ⟨hb_9, h⟩ := h
      refine gb_iald (pc' := 91) κ dX5_vanOf_90 rfl 1 5 rfl rfl hb_9 ?_
      exact gw_iret κ dX5_vanOf_91 (ky_3, wp_4, mi_5, so_6) rfl ⟨_, rfl, h⟩
    by_cases hc_7c_2 : x2 = 2
    · have h := hc_7_2 hc_7c_2
      refine gw_tableIn (tgt := 92) (off := 65) κ dX5_vanOf_27 (by rw [hc_7c_2]; decide) (by rw [hc_7c_2]; decide) (by rw [hc_7c_2]; decide +kernel) (by decide) ?_
      refine gw_aload_n (pc' := 93) κ dX5_vanOf_92 rfl 0 rfl rfl ?_
      refine gb_get (pc' := 96) (C := RX5) (T := TX5) (N := 8) κ dX5_vanOf_93 rfl inX5 0 rfl rfl rfl 1 (by decide) tw_fl_X5_19 rfl ?_
      refine gb_get (pc' := 99) (C := RX2) (T := TX2) (N := 8) κ dX5_vanOf_96 rfl inX2 2 rfl rfl rfl 3 (by decide) tw_fl_X5_167 rfl ?_
      refine gw_iload_n (pc' := 100) κ dX5_vanOf_99 rfl 1 rfl rfl ?_
      obtain ⟨hb_10, h⟩ := h
      refine gb_iald (pc' := 101) κ dX5_vanOf_100 rfl 2 4 rfl rfl hb_10 ?_
      exact gw_iret κ dX5_vanOf_101 (ky_3, wp_4, mi_5, so_6) rfl ⟨_, rfl, h⟩
    by_cases hc_7c_3 : x2 = 3
    · have h := hc_7_3 hc_7c_3
      refine gw_tableIn (tgt := 102) (off := 75) κ dX5_vanOf_27 (by rw [hc_7c_3]; decide) (by rw [hc_7c_3]; decide) (by rw [hc_7c_3]; decide +kernel) (by decide) ?_
      refine gw_aload_n (pc' := 103) κ dX5_vanOf_102 rfl 0 rfl rfl ?_
      refine gb_get (pc' := 106) (C := RX5) (T := TX5) (N := 8) κ dX5_vanOf_103 rfl inX5 0 rfl rfl rfl 1 (by decide) tw_fl_X5_19 rfl ?_
      refine gw_aload_n (pc' := 107) κ dX5_vanOf_106 rfl 0 rfl rfl ?_
      refine gb_get (pc' := 110) (C := RX5) (T := TX5) (N := 8) κ dX5_vanOf_107 rfl inX5 0 rfl rfl rfl 0 (by decide) tw_fl_X5_10 rfl ?_
      refine gw_iload_n (pc' := 111) κ dX5_vanOf_110 rfl 1 rfl rfl ?_
      refine gb_callV (ci := 2) (qb := 2) (rest := []) κ (c_X2_ridersIn qp qn pln now x1 h) ⟨rfl, rfl, Nat.le_of_ble_eq_true rfl, Nat.le_of_ble_eq_true rfl⟩ tw_ml_X5_170 tw_im_X2_ridersIn tw_se_X2_ridersIn tw_co_X2_ridersIn tw_in_X2 hy_X2_ridersIn rfl rfl rfl rfl rfl (Nat.le_of_ble_eq_true rfl) rfl dX5_vanOf_111 [2, 1] rfl (by decide) (fun _ => Nat.le_of_ble_eq_true rfl) ⟨Nat.le_of_ble_eq_true rfl, Nat.le_of_ble_eq_true rfl⟩ (fun v u hv => ?_)
      obtain ⟨r_11, rfl, h⟩ := hv
      refine gw_nf (ws' := (wfl [cX qx qn qp qw qt qu qd qh ql, cSt qn cI now.se now.la now.de now.le now.sa now.fl now.ar now.dr now.pe now.ri, cPl qp cI pln.od pln.rd pln.vn pln.pn pln.ao pln.sr pln.sp pln.wt, cWy qw cI ky_3 wp_4 mi_5 so_6])) (lv' := [(0, .ref (qx 0)), (1, .int x1), (2, .int x2)]) (st' := [.int r_11]) (pc' := 114) (ce' := 0) (sl' := 0) rfl rfl rfl rfl rfl rfl ?_
      exact gw_iret κ dX5_vanOf_114 (ky_3, wp_4, mi_5, so_6) rfl ⟨_, rfl, h⟩
    by_cases hc_7c_4 : x2 = 4
    · have h := hc_7_4 hc_7c_4
      refine gw_tableIn (tgt := 115) (off := 88) κ dX5_vanOf_27 (by rw [hc_7c_4]; decide) (by rw [hc_7c_4]; decide) (by rw [hc_7c_4]; decide +kernel) (by decide) ?_
      refine gw_aload_n (pc' := 116) κ dX5_vanOf_115 rfl 0 rfl rfl ?_
      refine gb_get (pc' := 119) (C := RX5) (T := TX5) (N := 8) κ dX5_vanOf_116 rfl inX5 0 rfl rfl rfl 1 (by decide) tw_fl_X5_19 rfl ?_
      refine gb_get (pc' := 122) (C := RX2) (T := TX2) (N := 8) κ dX5_vanOf_119 rfl inX2 2 rfl rfl rfl 4 (by decide) tw_fl_X5_173 rfl ?_
      refine gw_iload_n (pc' := 123) κ dX5_vanOf_122 rfl 1 rfl rfl ?_
      obtain ⟨hb_12, h⟩ := h
      refine gb_iald (pc' := 124) κ dX5_vanOf_123 rfl 2 5 rfl rfl hb_12 ?_
      exact gw_iret κ dX5_vanOf_124 (ky_3, wp_4, mi_5, so_6) rfl ⟨_, rfl, h⟩
    by_cases hc_7c_5 : x2 = 5
    · have h := hc_7_5 hc_7c_5
      refine gw_tableIn (tgt := 125) (off := 98) κ dX5_vanOf_27 (by rw [hc_7c_5]; decide) (by rw [hc_7c_5]; decide) (by rw [hc_7c_5]; decide +kernel) (by decide) ?_
      refine gw_aload_n (pc' := 126) κ dX5_vanOf_125 rfl 0 rfl rfl ?_
      refine gb_get (pc' := 129) (C := RX5) (T := TX5) (N := 8) κ dX5_vanOf_126 rfl inX5 0 rfl rfl rfl 2 (by decide) tw_fl_X5_26 rfl ?_
      refine gb_get (pc' := 132) (C := RX4) (T := TX4) (N := 4) κ dX5_vanOf_129 rfl inX4 3 rfl rfl rfl 3 (by decide) tw_fl_X5_176 rfl ?_
      exact gw_iret κ dX5_vanOf_132 (ky_3, wp_4, mi_5, so_6) rfl ⟨_, rfl, h⟩
    by_cases hc_7c_6 : x2 = 6
    · have h := hc_7_6 hc_7c_6
      refine gw_tableIn (tgt := 133) (off := 106) κ dX5_vanOf_27 (by rw [hc_7c_6]; decide) (by rw [hc_7c_6]; decide) (by rw [hc_7c_6]; decide +kernel) (by decide) ?_
      refine gw_aload_n (pc' := 134) κ dX5_vanOf_133 rfl 0 rfl rfl ?_
      refine gb_get (pc' := 137) (C := RX5) (T := TX5) (N := 8) κ dX5_vanOf_134 rfl inX5 0 rfl rfl rfl 2 (by decide) tw_fl_X5_26 rfl ?_
      refine gb_callV (ci := 4) (qb := 3) (rest := []) κ (c_X4_lastMinute qw (mkWy ky_3 wp_4 mi_5 so_6) h) ⟨rfl, rfl, Nat.le_of_ble_eq_true rfl, Nat.le_of_ble_eq_true rfl⟩ tw_ml_X5_179 tw_im_X4_lastMinute tw_se_X4_lastMinute tw_co_X4_lastMinute tw_in_X4 hy_X4_lastMinute rfl rfl rfl rfl rfl (Nat.le_of_ble_eq_true rfl) rfl dX5_vanOf_137 [3] rfl (by decide) (fun _ => Nat.le_of_ble_eq_true rfl) ⟨Nat.le_of_ble_eq_true rfl, Nat.le_of_ble_eq_true rfl⟩ (fun v u hv => ?_)
      obtain ⟨r_13, rfl, h⟩ := hv
      refine gw_nf (ws' := (wfl [cX qx qn qp qw qt qu qd qh ql, cSt qn cI now.se now.la now.de now.le now.sa now.fl now.ar now.dr now.pe now.ri, cPl qp cI pln.od pln.rd pln.vn pln.pn pln.ao pln.sr pln.sp pln.wt, cWy qw cI ky_3 wp_4 mi_5 so_6])) (lv' := [(0, .ref (qx 0)), (1, .int x1), (2, .int x2)]) (st' := [.int r_13]) (pc' := 140) (ce' := 0) (sl' := 0) rfl rfl rfl rfl rfl rfl ?_
      exact gw_iret κ dX5_vanOf_140 (ky_3, wp_4, mi_5, so_6) rfl ⟨_, rfl, h⟩
    by_cases hc_7c_7 : x2 = 7
    · have h := hc_7_7 hc_7c_7
      refine gw_tableIn (tgt := 141) (off := 114) κ dX5_vanOf_27 (by rw [hc_7c_7]; decide) (by rw [hc_7c_7]; decide) (by rw [hc_7c_7]; decide +kernel) (by decide) ?_
      refine gw_aload_n (pc' := 142) κ dX5_vanOf_141 rfl 0 rfl rfl ?_
      refine gb_get (pc' := 145) (C := RX5) (T := TX5) (N := 8) κ dX5_vanOf_142 rfl inX5 0 rfl rfl rfl 1 (by decide) tw_fl_X5_19 rfl ?_
      refine gw_aload_n (pc' := 146) κ dX5_vanOf_145 rfl 0 rfl rfl ?_
      refine gb_get (pc' := 149) (C := RX5) (T := TX5) (N := 8) κ dX5_vanOf_146 rfl inX5 0 rfl rfl rfl 0 (by decide) tw_fl_X5_10 rfl ?_
      refine gw_iload_n (pc' := 150) κ dX5_vanOf_149 rfl 1 rfl rfl ?_
      refine gb_callV (ci := 2) (qb := 2) (rest := []) κ (c_X2_faresOf qp qn pln now x1 h) ⟨rfl, rfl, Nat.le_of_ble_eq_true rfl, Nat.le_of_ble_eq_true rfl⟩ tw_ml_X5_182 tw_im_X2_faresOf tw_se_X2_faresOf tw_co_X2_faresOf tw_in_X2 hy_X2_faresOf rfl rfl rfl rfl rfl (Nat.le_of_ble_eq_true rfl) rfl dX5_vanOf_150 [2, 1] rfl (by decide) (fun _ => Nat.le_of_ble_eq_true rfl) ⟨Nat.le_of_ble_eq_true rfl, Nat.le_of_ble_eq_true rfl⟩ (fun v u hv => ?_)
      obtain ⟨r_14, rfl, h⟩ := hv
      refine gw_nf (ws' := (wfl [cX qx qn qp qw qt qu qd qh ql, cSt qn cI now.se now.la now.de now.le now.sa now.fl now.ar now.dr now.pe now.ri, cPl qp cI pln.od pln.rd pln.vn pln.pn pln.ao pln.sr pln.sp pln.wt, cWy qw cI ky_3 wp_4 mi_5 so_6])) (lv' := [(0, .ref (qx 0)), (1, .int x1), (2, .int x2)]) (st' := [.int r_14]) (pc' := 153) (ce' := 0) (sl' := 0) rfl rfl rfl rfl rfl rfl ?_
      exact gw_iret κ dX5_vanOf_153 (ky_3, wp_4, mi_5, so_6) rfl ⟨_, rfl, h⟩
    have h := hc_7d ⟨hc_7c_0, hc_7c_1, hc_7c_2, hc_7c_3, hc_7c_4, hc_7c_5, hc_7c_6, hc_7c_7⟩
    refine gw_tableOut (tgt := 154) κ dX5_vanOf_27 (sw_out2 (x := x2) (lo := 0) (hi := 7) (by decide) (fun k h1 h2 => by rcases (show k = 0 ∨ k = 1 ∨ k = 2 ∨ k = 3 ∨ k = 4 ∨ k = 5 ∨ k = 6 ∨ k = 7 by omega) with rfl | rfl | rfl | rfl | rfl | rfl | rfl | rfl <;> assumption)) (by decide) ?_
    refine gw_bipush (pc' := 156) (v := -102) κ dX5_vanOf_154 rfl (by decide) ?_
    exact gw_iret κ dX5_vanOf_156 (ky_3, wp_4, mi_5, so_6) rfl ⟨_, rfl, h⟩
  · have h := h.2 hc_2
    refine gw_bipush (pc' := 9) (v := -101) κ dX5_vanOf_7 rfl (by decide) ?_
    exact gw_iret κ dX5_vanOf_9 (way.ky, way.wp, way.mi, way.so) rfl ⟨_, rfl, h⟩
theorem hy_X2_peopleOfFlight : g_hy yX2_peopleOfFlight 3 := by decide +kernel
set_option maxHeartbeats 4000000 in
set_option maxRecDepth 100000 in
theorem k_X2_peopleOfFlight_36 {zp : Program} {l : Launch} {ze : Env} {zs : State} {zm : MethodId} {za : Array Value} {zb : List Frame} {zt : Method} {zc : Code} {D : va_G} {cI cR : ClassId} {A : Nat → Prop} (κ : KC zp zs zm za zt zc cX2_peopleOfFlight 7 RX2 D cI cR A (some .int)) (qa : Nat → Nat) (qb : Nat → Nat) (P : Int32 → Prop) (o0 : PlT) (o1 : StT) (x2 : Int32) (x3 : Int32) (r6 : Int32 → Int32 → Prop) (v4 : Int32) (v5 : Int32) (w0 : Int32) (hr6 : ∀ (v4 : Int32) (v5 : Int32), r6 v4 v5 → GM zp l ze ({ frames := 0, cells := 0, slots := 0, locals := 0 } : Room) zs zm za zb zt zc D A 7 (pI (fun (r : Int32) (_ : Unit) => P r)) (fun _ : Unit => (wfl [cPl qa cI o0.od o0.rd o0.vn o0.pn o0.ao o0.sr o0.sp o0.wt, cSt qb cI o1.se o1.la o1.de o1.le o1.sa o1.fl o1.ar o1.dr o1.pe o1.ri])) 0 0 0 0 (wfl [cPl qa cI o0.od o0.rd o0.vn o0.pn o0.ao o0.sr o0.sp o0.wt, cSt qb cI o1.se o1.la o1.de o1.le o1.sa o1.fl o1.ar o1.dr o1.pe o1.ri]) [(0, .ref (qa 0)), (1, .ref (qb 0)), (2, .int x2), (3, .int x3), (4, .int v4), (5, .int v5)] 6 []) (h : wp_X2_peopleOfFlight_36 P o0 o1 x2 x3 r6 v4 v5 w0) : GM zp l ze ({ frames := 0, cells := 0, slots := 0, locals := 0 } : Room) zs zm za zb zt zc D A 7 (pI (fun (r : Int32) (_ : Unit) => P r)) (fun _ : Unit => (wfl [cPl qa cI o0.od o0.rd o0.vn o0.pn o0.ao o0.sr o0.sp o0.wt, cSt qb cI o1.se o1.la o1.de o1.le o1.sa o1.fl o1.ar o1.dr o1.pe o1.ri])) 0 0 0 0 (wfl [cPl qa cI o0.od o0.rd o0.vn o0.pn o0.ao o0.sr o0.sp o0.wt, cSt qb cI o1.se o1.la o1.de o1.le o1.sa o1.fl o1.ar o1.dr o1.pe o1.ri]) [(0, .ref (qa 0)), (1, .ref (qb 0)), (2, .int x2), (3, .int x3), (4, .int v4), (5, .int v5)] 36 [.int w0] := by
  unfold wp_X2_peopleOfFlight_36 at h
  refine gw_istore (pc' := 38) κ dX2_peopleOfFlight_36 rfl (by decide) (lv' := [(6, .int w0), (0, .ref (qa 0)), (1, .ref (qb 0)), (2, .int x2), (3, .int x3), (4, .int v4), (5, .int v5)]) rfl ?_
  refine gw_iload (pc' := 40) κ dX2_peopleOfFlight_38 rfl 0 rfl ?_
  refine gw_if_eq (pc' := 43) (tgt := 66) κ dX2_peopleOfFlight_40 rfl (by decide) (fun hc_5 => ?_) (fun hc_5 => ?_)
  · have h := h.1 hc_5
    refine gw_iinc (pc' := 69) κ dX2_peopleOfFlight_66 rfl 6 rfl (v := (v5 + 1)) rfl (by decide) (lv' := [(5, .int (v5 + 1)), (6, .int w0), (0, .ref (qa 0)), (1, .ref (qb 0)), (2, .int x2), (3, .int x3), (4, .int v4)]) rfl ?_
    refine gw_goto (tgt := 6) κ dX2_peopleOfFlight_69 (by decide) ?_
    refine gw_lv (lv' := [(0, .ref (qa 0)), (1, .ref (qb 0)), (2, .int x2), (3, .int x3), (4, .int v4), (5, .int (v5 + 1))]) [2, 3, 4, 5, 6, 0] rfl ?_
    exact hr6 v4 (v5 + 1) h
  · have h := h.2 hc_5
    refine gw_aload_n (pc' := 44) κ dX2_peopleOfFlight_43 rfl 2 rfl rfl ?_
    refine gb_get (pc' := 47) (C := RX3) (T := TX3) (N := 10) κ dX2_peopleOfFlight_44 rfl inX3 1 rfl rfl rfl 5 (by decide) tw_fl_X2_93 rfl ?_
    refine gw_iload (pc' := 49) κ dX2_peopleOfFlight_47 rfl 6 rfl ?_
    obtain ⟨hb_6, h⟩ := h
    refine gb_iald (pc' := 50) κ dX2_peopleOfFlight_49 rfl 1 6 rfl rfl hb_6 ?_
    refine gw_iload_n (pc' := 51) κ dX2_peopleOfFlight_50 rfl 3 rfl rfl ?_
    refine gw_icmp_ne (pc' := 54) (tgt := 66) κ dX2_peopleOfFlight_51 rfl (by decide) (fun hc_7 => ?_) (fun hc_7 => ?_)
    · have h := h.1 hc_7
      refine gw_iinc (pc' := 69) κ dX2_peopleOfFlight_66 rfl 6 rfl (v := (v5 + 1)) rfl (by decide) (lv' := [(5, .int (v5 + 1)), (6, .int w0), (0, .ref (qa 0)), (1, .ref (qb 0)), (2, .int x2), (3, .int x3), (4, .int v4)]) rfl ?_
      refine gw_goto (tgt := 6) κ dX2_peopleOfFlight_69 (by decide) ?_
      refine gw_lv (lv' := [(0, .ref (qa 0)), (1, .ref (qb 0)), (2, .int x2), (3, .int x3), (4, .int v4), (5, .int (v5 + 1))]) [2, 3, 4, 5, 6, 0] rfl ?_
      exact hr6 v4 (v5 + 1) h
    · have h := h.2 hc_7
      refine gw_iload (pc' := 56) κ dX2_peopleOfFlight_54 rfl 5 rfl ?_
      refine gw_aload_n (pc' := 57) κ dX2_peopleOfFlight_56 rfl 2 rfl rfl ?_
      refine gb_get (pc' := 60) (C := RX3) (T := TX3) (N := 10) κ dX2_peopleOfFlight_57 rfl inX3 1 rfl rfl rfl 8 (by decide) tw_fl_X2_57 rfl ?_
      refine gw_iload (pc' := 62) κ dX2_peopleOfFlight_60 rfl 6 rfl ?_
      obtain ⟨hb_8, h⟩ := h
      refine gb_iald (pc' := 63) κ dX2_peopleOfFlight_62 rfl 1 9 rfl rfl hb_8 ?_
      refine gw_iadd (pc' := 64) κ dX2_peopleOfFlight_63 rfl  ?_
      refine gw_istore (pc' := 66) κ dX2_peopleOfFlight_64 rfl (by decide) (lv' := [(4, .int (v4 + (o1.pe v5.toNatClampNeg))), (6, .int w0), (0, .ref (qa 0)), (1, .ref (qb 0)), (2, .int x2), (3, .int x3), (5, .int v5)]) rfl ?_
      refine gw_iinc (pc' := 69) κ dX2_peopleOfFlight_66 rfl 6 rfl (v := (v5 + 1)) rfl (by decide) (lv' := [(5, .int (v5 + 1)), (4, .int (v4 + (o1.pe v5.toNatClampNeg))), (6, .int w0), (0, .ref (qa 0)), (1, .ref (qb 0)), (2, .int x2), (3, .int x3)]) rfl ?_
      refine gw_goto (tgt := 6) κ dX2_peopleOfFlight_69 (by decide) ?_
      refine gw_lv (lv' := [(0, .ref (qa 0)), (1, .ref (qb 0)), (2, .int x2), (3, .int x3), (4, .int (v4 + (o1.pe v5.toNatClampNeg))), (5, .int (v5 + 1))]) [3, 4, 5, 6, 1, 0] rfl ?_
      exact hr6 (v4 + (o1.pe v5.toNatClampNeg)) (v5 + 1) h
set_option maxHeartbeats 4000000 in
set_option maxRecDepth 100000 in
theorem k_X2_peopleOfFlight_6 {zp : Program} {l : Launch} {ze : Env} {zs : State} {zm : MethodId} {za : Array Value} {zb : List Frame} {zt : Method} {zc : Code} {D : va_G} {cI cR : ClassId} {A : Nat → Prop} (κ : KC zp zs zm za zt zc cX2_peopleOfFlight 7 RX2 D cI cR A (some .int)) (qa : Nat → Nat) (qb : Nat → Nat) (P : Int32 → Prop) (o0 : PlT) (o1 : StT) (x2 : Int32) (x3 : Int32) : ∀ (n : Nat) (v4 : Int32) (v5 : Int32), wp_X2_peopleOfFlight_6 P o0 o1 x2 x3 n v4 v5 → GM zp l ze ({ frames := 0, cells := 0, slots := 0, locals := 0 } : Room) zs zm za zb zt zc D A 7 (pI (fun (r : Int32) (_ : Unit) => P r)) (fun _ : Unit => (wfl [cPl qa cI o0.od o0.rd o0.vn o0.pn o0.ao o0.sr o0.sp o0.wt, cSt qb cI o1.se o1.la o1.de o1.le o1.sa o1.fl o1.ar o1.dr o1.pe o1.ri])) 0 0 0 0 (wfl [cPl qa cI o0.od o0.rd o0.vn o0.pn o0.ao o0.sr o0.sp o0.wt, cSt qb cI o1.se o1.la o1.de o1.le o1.sa o1.fl o1.ar o1.dr o1.pe o1.ri]) [(0, .ref (qa 0)), (1, .ref (qb 0)), (2, .int x2), (3, .int x3), (4, .int v4), (5, .int v5)] 6 [] := by
  intro n6
  induction n6 with
  | zero => intro v4 v5 h; exact (show False from h).elim
  | succ n6 ih6 =>
    intro v4 v5 h
    have h : wp_X2_peopleOfFlight_6F P o0 o1 x2 x3 (wp_X2_peopleOfFlight_6 P o0 o1 x2 x3 n6) v4 v5 := h
    unfold wp_X2_peopleOfFlight_6F at h
    refine gw_iload (pc' := 8) κ dX2_peopleOfFlight_6 rfl 5 rfl ?_
    refine gw_aload_n (pc' := 9) κ dX2_peopleOfFlight_8 rfl 1 rfl rfl ?_
    refine gb_get (pc' := 12) (C := RX3) (T := TX3) (N := 10) κ dX2_peopleOfFlight_9 rfl inX3 1 rfl rfl rfl 9 (by decide) tw_fl_X2_34 rfl ?_
    refine gw_icmp_ge (pc' := 15) (tgt := 72) κ dX2_peopleOfFlight_12 rfl (by decide) (fun hc_1 => ?_) (fun hc_1 => ?_)
    · have h := h.1 hc_1
      refine gw_iload (pc' := 74) κ dX2_peopleOfFlight_72 rfl 4 rfl ?_
      exact gw_iret κ dX2_peopleOfFlight_74 () rfl ⟨_, rfl, h⟩
    · have h := h.2 hc_1
      refine gw_iload_n (pc' := 16) κ dX2_peopleOfFlight_15 rfl 3 rfl rfl ?_
      refine gw_if_eq (pc' := 19) (tgt := 31) κ dX2_peopleOfFlight_16 rfl (by decide) (fun hc_2 => ?_) (fun hc_2 => ?_)
      · have h := h.1 hc_2
        refine gw_iconst (pc' := 32) (v := 1) κ dX2_peopleOfFlight_31 rfl (by decide) ?_
        refine gw_goto (tgt := 36) κ dX2_peopleOfFlight_32 (by decide) ?_
        refine gw_lv (lv' := [(0, .ref (qa 0)), (1, .ref (qb 0)), (2, .int x2), (3, .int x3), (4, .int v4), (5, .int v5)]) [0, 1, 2, 3, 4, 5] rfl ?_
        exact k_X2_peopleOfFlight_36 κ qa qb P o0 o1 x2 x3 (wp_X2_peopleOfFlight_6 P o0 o1 x2 x3 n6) v4 v5 (1 : Int32) ih6 h
      · have h := h.2 hc_2
        refine gw_aload_n (pc' := 20) κ dX2_peopleOfFlight_19 rfl 0 rfl rfl ?_
        refine gb_get (pc' := 23) (C := RX2) (T := TX2) (N := 8) κ dX2_peopleOfFlight_20 rfl inX2 0 rfl rfl rfl 2 (by decide) tw_fl_X2_18 rfl ?_
        refine gw_iload (pc' := 25) κ dX2_peopleOfFlight_23 rfl 5 rfl ?_
        obtain ⟨hb_3, h⟩ := h
        refine gb_iald (pc' := 26) κ dX2_peopleOfFlight_25 rfl 0 3 rfl rfl hb_3 ?_
        refine gw_bipush (pc' := 28) (v := -106) κ dX2_peopleOfFlight_26 rfl (by decide) ?_
        refine gw_icmp_ne (pc' := 31) (tgt := 35) κ dX2_peopleOfFlight_28 rfl (by decide) (fun hc_4 => ?_) (fun hc_4 => ?_)
        · have h := h.1 hc_4
          refine gw_iconst (pc' := 36) (v := 0) κ dX2_peopleOfFlight_35 rfl (by decide) ?_
          refine gw_lv (lv' := [(0, .ref (qa 0)), (1, .ref (qb 0)), (2, .int x2), (3, .int x3), (4, .int v4), (5, .int v5)]) [0, 1, 2, 3, 4, 5] rfl ?_
          exact k_X2_peopleOfFlight_36 κ qa qb P o0 o1 x2 x3 (wp_X2_peopleOfFlight_6 P o0 o1 x2 x3 n6) v4 v5 (0 : Int32) ih6 h
        · have h := h.2 hc_4
          refine gw_iconst (pc' := 32) (v := 1) κ dX2_peopleOfFlight_31 rfl (by decide) ?_
          refine gw_goto (tgt := 36) κ dX2_peopleOfFlight_32 (by decide) ?_
          refine gw_lv (lv' := [(0, .ref (qa 0)), (1, .ref (qb 0)), (2, .int x2), (3, .int x3), (4, .int v4), (5, .int v5)]) [0, 1, 2, 3, 4, 5] rfl ?_
          exact k_X2_peopleOfFlight_36 κ qa qb P o0 o1 x2 x3 (wp_X2_peopleOfFlight_6 P o0 o1 x2 x3 n6) v4 v5 (1 : Int32) ih6 h
set_option maxHeartbeats 4000000 in
set_option maxRecDepth 100000 in
theorem c_X2_peopleOfFlight {l : Launch} {D : va_G} {cI cR : ClassId}  (qa : Nat → Nat) (qb : Nat → Nat) {P : Int32 → Prop} (o0 : PlT) (o1 : StT) (x2 : Int32) (x3 : Int32) (h : wp_X2_peopleOfFlight P o0 o1 x2 x3) : CT l D cI cR yX2_peopleOfFlight cX2_peopleOfFlight 7 (some .int) ({ frames := 0, cells := 0, slots := 0, locals := 0 } : Room) [.ref (qa 0), .ref (qb 0), .int x2, .int x3] (wfl [cPl qa cI o0.od o0.rd o0.vn o0.pn o0.ao o0.sr o0.sp o0.wt, cSt qb cI o1.se o1.la o1.de o1.le o1.sa o1.fl o1.ar o1.dr o1.pe o1.ri]) (fun _ : Unit => (wfl [cPl qa cI o0.od o0.rd o0.vn o0.pn o0.ao o0.sr o0.sp o0.wt, cSt qb cI o1.se o1.la o1.de o1.le o1.sa o1.fl o1.ar o1.dr o1.pe o1.ri])) (pI (fun (r : Int32) (_ : Unit) => P r)) 0 0 := by
  refine ct_of RX2 rfl (by decide +kernel) (Nat.le_of_ble_eq_true rfl) (fun zp ze zs zm zb zt zc A hin κ => ?_)
  unfold wp_X2_peopleOfFlight at h
  refine gw_nf (lv' := [(0, .ref (qa 0)), (1, .ref (qb 0)), (2, .int x2), (3, .int x3)]) (pc' := 0) (st' := []) (ce' := 0) (sl' := 0) rfl rfl rfl rfl rfl rfl ?_
  refine gw_iconst (pc' := 1) (v := 0) κ dX2_peopleOfFlight_0 rfl (by decide) ?_
  refine gw_istore (pc' := 3) κ dX2_peopleOfFlight_1 rfl (by decide) (lv' := [(4, .int (0 : Int32)), (0, .ref (qa 0)), (1, .ref (qb 0)), (2, .int x2), (3, .int x3)]) rfl ?_
  refine gw_iconst (pc' := 4) (v := 0) κ dX2_peopleOfFlight_3 rfl (by decide) ?_
  refine gw_istore (pc' := 6) κ dX2_peopleOfFlight_4 rfl (by decide) (lv' := [(5, .int (0 : Int32)), (4, .int (0 : Int32)), (0, .ref (qa 0)), (1, .ref (qb 0)), (2, .int x2), (3, .int x3)]) rfl ?_
  obtain ⟨m6, h⟩ := h
  refine gw_lv (lv' := [(0, .ref (qa 0)), (1, .ref (qb 0)), (2, .int x2), (3, .int x3), (4, .int (0 : Int32)), (5, .int (0 : Int32))]) [2, 3, 4, 5, 1, 0] rfl ?_
  exact k_X2_peopleOfFlight_6 κ qa qb P o0 o1 x2 x3 m6 (0 : Int32) (0 : Int32) h
theorem hy_X5_flight : g_hy yX5_flight 2 := by decide +kernel
set_option maxHeartbeats 4000000 in
set_option maxRecDepth 100000 in
theorem c_X5_flight {l : Launch} {D : va_G} {cI cR : ClassId}  (qx : Nat → Nat) (qn : Nat → Nat) (qp : Nat → Nat) (qw : Nat → Nat) (qt : Nat → Nat) (qu : Nat → Nat) (qd : Nat → Nat) (qh : Nat → Nat) (ql : Nat → Nat) (qs : Nat → Nat → Nat) {P : Int32 → Prop} (now : StT) (pln : PlT) (x1 : Int32) (x2 : Int32) (h : wp_X5_flight P now pln x1 x2) : CT l D cI cR yX5_flight cX5_flight 3 (some .int) ({ frames := 2, cells := 0, slots := 0, locals := 42 } : Room) [.ref (qx 0), .int x1, .int x2] (wfl [cX qx qn qp qw qt qu qd qh ql, cSt qn cI now.se now.la now.de now.le now.sa now.fl now.ar now.dr now.pe now.ri, cPl qp cI pln.od pln.rd pln.vn pln.pn pln.ao pln.sr pln.sp pln.wt]) (fun _ : Unit => (wfl [cX qx qn qp qw qt qu qd qh ql, cSt qn cI now.se now.la now.de now.le now.sa now.fl now.ar now.dr now.pe now.ri, cPl qp cI pln.od pln.rd pln.vn pln.pn pln.ao pln.sr pln.sp pln.wt])) (pI (fun (r : Int32) (_ : Unit) => P r)) 0 0 := by
  refine ct_of RX5 rfl (by decide +kernel) (Nat.le_of_ble_eq_true rfl) (fun zp ze zs zm zb zt zc A hin κ => ?_)
  unfold wp_X5_flight at h
  refine gw_nf (lv' := [(0, .ref (qx 0)), (1, .int x1), (2, .int x2)]) (pc' := 0) (st' := []) (ce' := 0) (sl' := 0) rfl rfl rfl rfl rfl rfl ?_
  refine gw_iload_n (pc' := 1) κ dX5_flight_0 rfl 1 rfl rfl ?_
  refine gb_callS (rest := []) κ (c_X5_isFlight  x1 h) ⟨rfl, rfl, Nat.le_of_ble_eq_true rfl, Nat.le_of_ble_eq_true rfl⟩ tw_ml_X5_75 tw_st_X5_isFlight tw_co_X5_isFlight tw_in_X5 hy_X5_isFlight rfl (Nat.le_of_ble_eq_true rfl) rfl dX5_flight_1 [] rfl (by decide) (fun _ => Nat.le_of_ble_eq_true rfl) ⟨Nat.le_of_ble_eq_true rfl, Nat.le_of_ble_eq_true rfl⟩ (fun v u hv => ?_)
  obtain ⟨r_1, rfl, h⟩ := hv
  refine gw_nf (ws' := (wfl [cX qx qn qp qw qt qu qd qh ql, cSt qn cI now.se now.la now.de now.le now.sa now.fl now.ar now.dr now.pe now.ri, cPl qp cI pln.od pln.rd pln.vn pln.pn pln.ao pln.sr pln.sp pln.wt])) (lv' := [(0, .ref (qx 0)), (1, .int x1), (2, .int x2)]) (st' := [.int r_1]) (pc' := 4) (ce' := 0) (sl' := 0) rfl rfl rfl rfl rfl rfl ?_
  refine gw_if_ne (pc' := 7) (tgt := 10) κ dX5_flight_4 rfl (by decide) (fun hc_2 => ?_) (fun hc_2 => ?_)
  · have h := h.1 hc_2
    refine gw_iload_n (pc' := 11) κ dX5_flight_10 rfl 2 rfl rfl ?_
    obtain ⟨hc_3_0, hc_3_1, hc_3_2, hc_3_3, hc_3_4, hc_3d⟩ := h
    by_cases hc_3c_0 : x2 = 0
    · have h := hc_3_0 hc_3c_0
      refine gw_tableIn (tgt := 44) (off := 33) κ dX5_flight_11 (by rw [hc_3c_0]; decide) (by rw [hc_3c_0]; decide) (by rw [hc_3c_0]; decide +kernel) (by decide) ?_
      refine gw_aload_n (pc' := 45) κ dX5_flight_44 rfl 0 rfl rfl ?_
      refine gb_get (pc' := 48) (C := RX5) (T := TX5) (N := 8) κ dX5_flight_45 rfl inX5 0 rfl rfl rfl 0 (by decide) tw_fl_X5_10 rfl ?_
      refine gb_get (pc' := 51) (C := RX3) (T := TX3) (N := 10) κ dX5_flight_48 rfl inX3 1 rfl rfl rfl 1 (by decide) tw_fl_X5_79 rfl ?_
      refine gw_iload_n (pc' := 52) κ dX5_flight_51 rfl 1 rfl rfl ?_
      obtain ⟨hb_4, h⟩ := h
      refine gb_iald (pc' := 53) κ dX5_flight_52 rfl 1 2 rfl rfl hb_4 ?_
      exact gw_iret κ dX5_flight_53 () rfl ⟨_, rfl, h⟩
    by_cases hc_3c_1 : x2 = 1
    · have h := hc_3_1 hc_3c_1
      refine gw_tableIn (tgt := 54) (off := 43) κ dX5_flight_11 (by rw [hc_3c_1]; decide) (by rw [hc_3c_1]; decide) (by rw [hc_3c_1]; decide +kernel) (by decide) ?_
      refine gw_aload_n (pc' := 55) κ dX5_flight_54 rfl 0 rfl rfl ?_
      refine gb_get (pc' := 58) (C := RX5) (T := TX5) (N := 8) κ dX5_flight_55 rfl inX5 0 rfl rfl rfl 0 (by decide) tw_fl_X5_10 rfl ?_
      refine gb_get (pc' := 61) (C := RX3) (T := TX3) (N := 10) κ dX5_flight_58 rfl inX3 1 rfl rfl rfl 2 (by decide) tw_fl_X5_85 rfl ?_
      refine gw_iload_n (pc' := 62) κ dX5_flight_61 rfl 1 rfl rfl ?_
      obtain ⟨hb_5, h⟩ := h
      refine gb_iald (pc' := 63) κ dX5_flight_62 rfl 1 3 rfl rfl hb_5 ?_
      exact gw_iret κ dX5_flight_63 () rfl ⟨_, rfl, h⟩
    by_cases hc_3c_2 : x2 = 2
    · have h := hc_3_2 hc_3c_2
      refine gw_tableIn (tgt := 64) (off := 53) κ dX5_flight_11 (by rw [hc_3c_2]; decide) (by rw [hc_3c_2]; decide) (by rw [hc_3c_2]; decide +kernel) (by decide) ?_
      refine gw_aload_n (pc' := 65) κ dX5_flight_64 rfl 0 rfl rfl ?_
      refine gb_get (pc' := 68) (C := RX5) (T := TX5) (N := 8) κ dX5_flight_65 rfl inX5 0 rfl rfl rfl 0 (by decide) tw_fl_X5_10 rfl ?_
      refine gw_iload_n (pc' := 69) κ dX5_flight_68 rfl 1 rfl rfl ?_
      refine gb_callV (ci := 3) (qb := 1) (rest := []) κ (c_X3_flightReady qn now x1 h) ⟨rfl, rfl, Nat.le_of_ble_eq_true rfl, Nat.le_of_ble_eq_true rfl⟩ tw_ml_X5_88 tw_im_X3_flightReady tw_se_X3_flightReady tw_co_X3_flightReady tw_in_X3 hy_X3_flightReady rfl rfl rfl rfl rfl (Nat.le_of_ble_eq_true rfl) rfl dX5_flight_69 [1] rfl (by decide) (fun _ => Nat.le_of_ble_eq_true rfl) ⟨Nat.le_of_ble_eq_true rfl, Nat.le_of_ble_eq_true rfl⟩ (fun v u hv => ?_)
      obtain ⟨r_6, rfl, h⟩ := hv
      refine gw_nf (ws' := (wfl [cX qx qn qp qw qt qu qd qh ql, cSt qn cI now.se now.la now.de now.le now.sa now.fl now.ar now.dr now.pe now.ri, cPl qp cI pln.od pln.rd pln.vn pln.pn pln.ao pln.sr pln.sp pln.wt])) (lv' := [(0, .ref (qx 0)), (1, .int x1), (2, .int x2)]) (st' := [.int r_6]) (pc' := 72) (ce' := 0) (sl' := 0) rfl rfl rfl rfl rfl rfl ?_
      exact gw_iret κ dX5_flight_72 () rfl ⟨_, rfl, h⟩
    by_cases hc_3c_3 : x2 = 3
    · have h := hc_3_3 hc_3c_3
      refine gw_tableIn (tgt := 73) (off := 62) κ dX5_flight_11 (by rw [hc_3c_3]; decide) (by rw [hc_3c_3]; decide) (by rw [hc_3c_3]; decide +kernel) (by decide) ?_
      refine gw_aload_n (pc' := 74) κ dX5_flight_73 rfl 0 rfl rfl ?_
      refine gb_get (pc' := 77) (C := RX5) (T := TX5) (N := 8) κ dX5_flight_74 rfl inX5 0 rfl rfl rfl 1 (by decide) tw_fl_X5_19 rfl ?_
      refine gw_aload_n (pc' := 78) κ dX5_flight_77 rfl 0 rfl rfl ?_
      refine gb_get (pc' := 81) (C := RX5) (T := TX5) (N := 8) κ dX5_flight_78 rfl inX5 0 rfl rfl rfl 0 (by decide) tw_fl_X5_10 rfl ?_
      refine gw_iload_n (pc' := 82) κ dX5_flight_81 rfl 1 rfl rfl ?_
      refine gw_iconst (pc' := 83) (v := 0) κ dX5_flight_82 rfl (by decide) ?_
      refine gb_callV (ci := 2) (qb := 2) (rest := []) κ (c_X2_peopleOfFlight qp qn pln now x1 (0 : Int32) h) ⟨rfl, rfl, Nat.le_of_ble_eq_true rfl, Nat.le_of_ble_eq_true rfl⟩ tw_ml_X5_185 tw_im_X2_peopleOfFlight tw_se_X2_peopleOfFlight tw_co_X2_peopleOfFlight tw_in_X2 hy_X2_peopleOfFlight rfl rfl rfl rfl rfl (Nat.le_of_ble_eq_true rfl) rfl dX5_flight_83 [2, 1] rfl (by decide) (fun _ => Nat.le_of_ble_eq_true rfl) ⟨Nat.le_of_ble_eq_true rfl, Nat.le_of_ble_eq_true rfl⟩ (fun v u hv => ?_)
      obtain ⟨r_7, rfl, h⟩ := hv
      refine gw_nf (ws' := (wfl [cX qx qn qp qw qt qu qd qh ql, cSt qn cI now.se now.la now.de now.le now.sa now.fl now.ar now.dr now.pe now.ri, cPl qp cI pln.od pln.rd pln.vn pln.pn pln.ao pln.sr pln.sp pln.wt])) (lv' := [(0, .ref (qx 0)), (1, .int x1), (2, .int x2)]) (st' := [.int r_7]) (pc' := 86) (ce' := 0) (sl' := 0) rfl rfl rfl rfl rfl rfl ?_
      exact gw_iret κ dX5_flight_86 () rfl ⟨_, rfl, h⟩
    by_cases hc_3c_4 : x2 = 4
    · have h := hc_3_4 hc_3c_4
      refine gw_tableIn (tgt := 87) (off := 76) κ dX5_flight_11 (by rw [hc_3c_4]; decide) (by rw [hc_3c_4]; decide) (by rw [hc_3c_4]; decide +kernel) (by decide) ?_
      refine gw_aload_n (pc' := 88) κ dX5_flight_87 rfl 0 rfl rfl ?_
      refine gb_get (pc' := 91) (C := RX5) (T := TX5) (N := 8) κ dX5_flight_88 rfl inX5 0 rfl rfl rfl 1 (by decide) tw_fl_X5_19 rfl ?_
      refine gw_aload_n (pc' := 92) κ dX5_flight_91 rfl 0 rfl rfl ?_
      refine gb_get (pc' := 95) (C := RX5) (T := TX5) (N := 8) κ dX5_flight_92 rfl inX5 0 rfl rfl rfl 0 (by decide) tw_fl_X5_10 rfl ?_
      refine gw_iload_n (pc' := 96) κ dX5_flight_95 rfl 1 rfl rfl ?_
      refine gw_iconst (pc' := 97) (v := 1) κ dX5_flight_96 rfl (by decide) ?_
      refine gb_callV (ci := 2) (qb := 2) (rest := []) κ (c_X2_peopleOfFlight qp qn pln now x1 (1 : Int32) h) ⟨rfl, rfl, Nat.le_of_ble_eq_true rfl, Nat.le_of_ble_eq_true rfl⟩ tw_ml_X5_185 tw_im_X2_peopleOfFlight tw_se_X2_peopleOfFlight tw_co_X2_peopleOfFlight tw_in_X2 hy_X2_peopleOfFlight rfl rfl rfl rfl rfl (Nat.le_of_ble_eq_true rfl) rfl dX5_flight_97 [2, 1] rfl (by decide) (fun _ => Nat.le_of_ble_eq_true rfl) ⟨Nat.le_of_ble_eq_true rfl, Nat.le_of_ble_eq_true rfl⟩ (fun v u hv => ?_)
      obtain ⟨r_8, rfl, h⟩ := hv
      refine gw_nf (ws' := (wfl [cX qx qn qp qw qt qu qd qh ql, cSt qn cI now.se now.la now.de now.le now.sa now.fl now.ar now.dr now.pe now.ri, cPl qp cI pln.od pln.rd pln.vn pln.pn pln.ao pln.sr pln.sp pln.wt])) (lv' := [(0, .ref (qx 0)), (1, .int x1), (2, .int x2)]) (st' := [.int r_8]) (pc' := 100) (ce' := 0) (sl' := 0) rfl rfl rfl rfl rfl rfl ?_
      exact gw_iret κ dX5_flight_100 () rfl ⟨_, rfl, h⟩
    have h := hc_3d ⟨hc_3c_0, hc_3c_1, hc_3c_2, hc_3c_3, hc_3c_4⟩
    refine gw_tableOut (tgt := 101) κ dX5_flight_11 (sw_out2 (x := x2) (lo := 0) (hi := 4) (by decide) (fun k h1 h2 => by rcases (show k = 0 ∨ k = 1 ∨ k = 2 ∨ k = 3 ∨ k = 4 by omega) with rfl | rfl | rfl | rfl | rfl <;> assumption)) (by decide) ?_
    refine gw_bipush (pc' := 103) (v := -102) κ dX5_flight_101 rfl (by decide) ?_
    exact gw_iret κ dX5_flight_103 () rfl ⟨_, rfl, h⟩
  · have h := h.2 hc_2
    refine gw_bipush (pc' := 9) (v := -101) κ dX5_flight_7 rfl (by decide) ?_
    exact gw_iret κ dX5_flight_9 () rfl ⟨_, rfl, h⟩
theorem hy_X3_doorOfStop : g_hy yX3_doorOfStop 1 := by decide +kernel
set_option maxHeartbeats 4000000 in
set_option maxRecDepth 100000 in
theorem c_X3_doorOfStop {l : Launch} {D : va_G} {cI cR : ClassId}  {P : Int32 → Prop} (x0 : Int32) (h : wp_X3_doorOfStop P x0) : CT l D cI cR yX3_doorOfStop cX3_doorOfStop 1 (some .int) ({ frames := 0, cells := 0, slots := 0, locals := 0 } : Room) [.int x0] (wfl ([] : List va_W)) (fun _ : Unit => (wfl ([] : List va_W))) (pI (fun (r : Int32) (_ : Unit) => P r)) 0 0 := by
  refine ct_of RX3 rfl (by decide +kernel) (Nat.le_of_ble_eq_true rfl) (fun zp ze zs zm zb zt zc A hin κ => ?_)
  unfold wp_X3_doorOfStop at h
  refine gw_nf (lv' := [(0, .int x0)]) (pc' := 0) (st' := []) (ce' := 0) (sl' := 0) rfl rfl rfl rfl rfl rfl ?_
  refine gw_iload_n (pc' := 1) κ dX3_doorOfStop_0 rfl 0 rfl rfl ?_
  refine gw_bipush (pc' := 3) (v := 100) κ dX3_doorOfStop_1 rfl (by decide) ?_
  refine gw_irem (pc' := 4) κ dX3_doorOfStop_3 rfl (by decide) ?_
  exact gw_iret κ dX3_doorOfStop_4 () rfl ⟨_, rfl, h⟩
theorem hy_X5_stop : g_hy yX5_stop 3 := by decide +kernel
set_option maxHeartbeats 4000000 in
set_option maxRecDepth 100000 in
theorem c_X5_stop {l : Launch} {D : va_G} {cI cR : ClassId}  (qx : Nat → Nat) (qn : Nat → Nat) (qp : Nat → Nat) (qw : Nat → Nat) (qt : Nat → Nat) (qu : Nat → Nat) (qd : Nat → Nat) (qh : Nat → Nat) (ql : Nat → Nat) (qs : Nat → Nat → Nat) {P : Int32 → (Nat → Int32) → (Nat → Int32) → (Nat → Int32) → Int32 → Prop} (now : StT) (pln : PlT) (way : WyT) (x1 : Int32) (x2 : Int32) (x3 : Int32) (h : wp_X5_stop P now pln way x1 x2 x3) : CT l D cI cR yX5_stop cX5_stop 4 (some .int) ({ frames := 3, cells := 0, slots := 0, locals := 70 } : Room) [.ref (qx 0), .int x1, .int x2, .int x3] (wfl [cX qx qn qp qw qt qu qd qh ql, cSt qn cI now.se now.la now.de now.le now.sa now.fl now.ar now.dr now.pe now.ri, cPl qp cI pln.od pln.rd pln.vn pln.pn pln.ao pln.sr pln.sp pln.wt, cWy qw cI way.ky way.wp way.mi way.so]) (fun u : (Nat → Int32) × (Nat → Int32) × (Nat → Int32) × Int32 => (wfl [cX qx qn qp qw qt qu qd qh ql, cSt qn cI now.se now.la now.de now.le now.sa now.fl now.ar now.dr now.pe now.ri, cPl qp cI pln.od pln.rd pln.vn pln.pn pln.ao pln.sr pln.sp pln.wt, cWy qw cI u.1 u.2.1 u.2.2.1 u.2.2.2])) (pI (fun (r : Int32) (u : (Nat → Int32) × (Nat → Int32) × (Nat → Int32) × Int32) => P r u.1 u.2.1 u.2.2.1 u.2.2.2)) 0 0 := by
  refine ct_of RX5 rfl (by decide +kernel) (Nat.le_of_ble_eq_true rfl) (fun zp ze zs zm zb zt zc A hin κ => ?_)
  unfold wp_X5_stop at h
  refine gw_nf (lv' := [(0, .ref (qx 0)), (1, .int x1), (2, .int x2), (3, .int x3)]) (pc' := 0) (st' := []) (ce' := 0) (sl' := 0) rfl rfl rfl rfl rfl rfl ?_
  refine gw_iload_n (pc' := 1) κ dX5_stop_0 rfl 1 rfl rfl ?_
  refine gb_callS (rest := []) κ (c_X5_isVan  x1 h) ⟨rfl, rfl, Nat.le_of_ble_eq_true rfl, Nat.le_of_ble_eq_true rfl⟩ tw_ml_X5_92 tw_st_X5_isVan tw_co_X5_isVan tw_in_X5 hy_X5_isVan rfl (Nat.le_of_ble_eq_true rfl) rfl dX5_stop_1 [] rfl (by decide) (fun _ => Nat.le_of_ble_eq_true rfl) ⟨Nat.le_of_ble_eq_true rfl, Nat.le_of_ble_eq_true rfl⟩ (fun v u hv => ?_)
  obtain ⟨r_1, rfl, h⟩ := hv
  refine gw_nf (ws' := (wfl [cX qx qn qp qw qt qu qd qh ql, cSt qn cI now.se now.la now.de now.le now.sa now.fl now.ar now.dr now.pe now.ri, cPl qp cI pln.od pln.rd pln.vn pln.pn pln.ao pln.sr pln.sp pln.wt, cWy qw cI way.ky way.wp way.mi way.so])) (lv' := [(0, .ref (qx 0)), (1, .int x1), (2, .int x2), (3, .int x3)]) (st' := [.int r_1]) (pc' := 4) (ce' := 0) (sl' := 0) rfl rfl rfl rfl rfl rfl ?_
  refine gw_if_ne (pc' := 7) (tgt := 10) κ dX5_stop_4 rfl (by decide) (fun hc_2 => ?_) (fun hc_2 => ?_)
  · have h := h.1 hc_2
    refine gw_aload_n (pc' := 11) κ dX5_stop_10 rfl 0 rfl rfl ?_
    refine gb_get (pc' := 14) (C := RX5) (T := TX5) (N := 8) κ dX5_stop_11 rfl inX5 0 rfl rfl rfl 2 (by decide) tw_fl_X5_26 rfl ?_
    refine gw_aload_n (pc' := 15) κ dX5_stop_14 rfl 0 rfl rfl ?_
    refine gb_get (pc' := 18) (C := RX5) (T := TX5) (N := 8) κ dX5_stop_15 rfl inX5 0 rfl rfl rfl 0 (by decide) tw_fl_X5_10 rfl ?_
    refine gw_aload_n (pc' := 19) κ dX5_stop_18 rfl 0 rfl rfl ?_
    refine gb_get (pc' := 22) (C := RX5) (T := TX5) (N := 8) κ dX5_stop_19 rfl inX5 0 rfl rfl rfl 1 (by decide) tw_fl_X5_19 rfl ?_
    refine gw_iload_n (pc' := 23) κ dX5_stop_22 rfl 1 rfl rfl ?_
    refine gb_callV (ci := 4) (qb := 3) (rest := []) κ (c_X4_follow qw qn qp way now pln x1 h) ⟨rfl, rfl, Nat.le_of_ble_eq_true rfl, Nat.le_of_ble_eq_true rfl⟩ tw_ml_X5_163 tw_im_X4_follow tw_se_X4_follow tw_co_X4_follow tw_in_X4 hy_X4_follow rfl rfl rfl rfl rfl (Nat.le_of_ble_eq_true rfl) rfl dX5_stop_23 [3, 1, 2] rfl (by decide) (fun _ => Nat.le_of_ble_eq_true rfl) ⟨Nat.le_of_ble_eq_true rfl, Nat.le_of_ble_eq_true rfl⟩ (fun v u hv => ?_)
    obtain ⟨rfl, h⟩ := hv
    obtain ⟨ky_3, wp_4, mi_5, so_6⟩ := u
    refine gw_nf (ws' := (wfl [cX qx qn qp qw qt qu qd qh ql, cSt qn cI now.se now.la now.de now.le now.sa now.fl now.ar now.dr now.pe now.ri, cPl qp cI pln.od pln.rd pln.vn pln.pn pln.ao pln.sr pln.sp pln.wt, cWy qw cI ky_3 wp_4 mi_5 so_6])) (lv' := [(0, .ref (qx 0)), (1, .int x1), (2, .int x2), (3, .int x3)]) (st' := []) (pc' := 26) (ce' := 0) (sl' := 0) rfl rfl rfl rfl rfl rfl ?_
    refine gw_iload_n (pc' := 27) κ dX5_stop_26 rfl 2 rfl rfl ?_
    refine gw_iconst (pc' := 28) (v := 0) κ dX5_stop_27 rfl (by decide) ?_
    refine gw_aload_n (pc' := 29) κ dX5_stop_28 rfl 0 rfl rfl ?_
    refine gb_get (pc' := 32) (C := RX5) (T := TX5) (N := 8) κ dX5_stop_29 rfl inX5 0 rfl rfl rfl 2 (by decide) tw_fl_X5_26 rfl ?_
    refine gb_get (pc' := 35) (C := RX4) (T := TX4) (N := 4) κ dX5_stop_32 rfl inX4 3 rfl rfl rfl 3 (by decide) tw_fl_X5_176 rfl ?_
    refine gw_iconst (pc' := 36) (v := 1) κ dX5_stop_35 rfl (by decide) ?_
    refine gw_isub (pc' := 37) κ dX5_stop_36 rfl  ?_
    refine gb_callS (rest := []) κ (c_X5_isIn  x2 (0 : Int32) (so_6 - (1 : Int32)) h) ⟨rfl, rfl, Nat.le_of_ble_eq_true rfl, Nat.le_of_ble_eq_true rfl⟩ tw_ml_X5_54 tw_st_X5_isIn tw_co_X5_isIn tw_in_X5 hy_X5_isIn rfl (Nat.le_of_ble_eq_true rfl) rfl dX5_stop_37 [] rfl (by decide) (fun _ => Nat.le_of_ble_eq_true rfl) ⟨Nat.le_of_ble_eq_true rfl, Nat.le_of_ble_eq_true rfl⟩ (fun v u hv => ?_)
    obtain ⟨r_7, rfl, h⟩ := hv
    refine gw_nf (ws' := (wfl [cX qx qn qp qw qt qu qd qh ql, cSt qn cI now.se now.la now.de now.le now.sa now.fl now.ar now.dr now.pe now.ri, cPl qp cI pln.od pln.rd pln.vn pln.pn pln.ao pln.sr pln.sp pln.wt, cWy qw cI ky_3 wp_4 mi_5 so_6])) (lv' := [(0, .ref (qx 0)), (1, .int x1), (2, .int x2), (3, .int x3)]) (st' := [.int r_7]) (pc' := 40) (ce' := 0) (sl' := 0) rfl rfl rfl rfl rfl rfl ?_
    refine gw_if_ne (pc' := 43) (tgt := 46) κ dX5_stop_40 rfl (by decide) (fun hc_8 => ?_) (fun hc_8 => ?_)
    · have h := h.1 hc_8
      refine gw_iload_n (pc' := 47) κ dX5_stop_46 rfl 3 rfl rfl ?_
      obtain ⟨hc_9_0, hc_9_1, hc_9_2, hc_9_3, hc_9d⟩ := h
      by_cases hc_9c_0 : x3 = 0
      · have h := hc_9_0 hc_9c_0
        refine gw_tableIn (tgt := 76) (off := 29) κ dX5_stop_47 (by rw [hc_9c_0]; decide) (by rw [hc_9c_0]; decide) (by rw [hc_9c_0]; decide +kernel) (by decide) ?_
        refine gw_aload_n (pc' := 77) κ dX5_stop_76 rfl 0 rfl rfl ?_
        refine gb_get (pc' := 80) (C := RX5) (T := TX5) (N := 8) κ dX5_stop_77 rfl inX5 0 rfl rfl rfl 2 (by decide) tw_fl_X5_26 rfl ?_
        refine gb_get (pc' := 83) (C := RX4) (T := TX4) (N := 4) κ dX5_stop_80 rfl inX4 3 rfl rfl rfl 0 (by decide) tw_fl_X5_189 rfl ?_
        refine gw_iload_n (pc' := 84) κ dX5_stop_83 rfl 2 rfl rfl ?_
        obtain ⟨hb_10, h⟩ := h
        refine gb_iald (pc' := 85) κ dX5_stop_84 rfl 3 1 rfl rfl hb_10 ?_
        refine gb_callS (rest := []) κ (c_X3_areaOfStop  (ky_3 x2.toNatClampNeg) h) ⟨rfl, rfl, Nat.le_of_ble_eq_true rfl, Nat.le_of_ble_eq_true rfl⟩ tw_ml_X5_192 tw_st_X3_areaOfStop tw_co_X3_areaOfStop tw_in_X3 hy_X3_areaOfStop rfl (Nat.le_of_ble_eq_true rfl) rfl dX5_stop_85 [] rfl (by decide) (fun _ => Nat.le_of_ble_eq_true rfl) ⟨Nat.le_of_ble_eq_true rfl, Nat.le_of_ble_eq_true rfl⟩ (fun v u hv => ?_)
        obtain ⟨r_11, rfl, h⟩ := hv
        refine gw_nf (ws' := (wfl [cX qx qn qp qw qt qu qd qh ql, cSt qn cI now.se now.la now.de now.le now.sa now.fl now.ar now.dr now.pe now.ri, cPl qp cI pln.od pln.rd pln.vn pln.pn pln.ao pln.sr pln.sp pln.wt, cWy qw cI ky_3 wp_4 mi_5 so_6])) (lv' := [(0, .ref (qx 0)), (1, .int x1), (2, .int x2), (3, .int x3)]) (st' := [.int r_11]) (pc' := 88) (ce' := 0) (sl' := 0) rfl rfl rfl rfl rfl rfl ?_
        exact gw_iret κ dX5_stop_88 (ky_3, wp_4, mi_5, so_6) rfl ⟨_, rfl, h⟩
      by_cases hc_9c_1 : x3 = 1
      · have h := hc_9_1 hc_9c_1
        refine gw_tableIn (tgt := 89) (off := 42) κ dX5_stop_47 (by rw [hc_9c_1]; decide) (by rw [hc_9c_1]; decide) (by rw [hc_9c_1]; decide +kernel) (by decide) ?_
        refine gw_aload_n (pc' := 90) κ dX5_stop_89 rfl 0 rfl rfl ?_
        refine gb_get (pc' := 93) (C := RX5) (T := TX5) (N := 8) κ dX5_stop_90 rfl inX5 0 rfl rfl rfl 2 (by decide) tw_fl_X5_26 rfl ?_
        refine gb_get (pc' := 96) (C := RX4) (T := TX4) (N := 4) κ dX5_stop_93 rfl inX4 3 rfl rfl rfl 0 (by decide) tw_fl_X5_189 rfl ?_
        refine gw_iload_n (pc' := 97) κ dX5_stop_96 rfl 2 rfl rfl ?_
        obtain ⟨hb_12, h⟩ := h
        refine gb_iald (pc' := 98) κ dX5_stop_97 rfl 3 1 rfl rfl hb_12 ?_
        refine gb_callS (rest := []) κ (c_X3_doorOfStop  (ky_3 x2.toNatClampNeg) h) ⟨rfl, rfl, Nat.le_of_ble_eq_true rfl, Nat.le_of_ble_eq_true rfl⟩ tw_ml_X5_195 tw_st_X3_doorOfStop tw_co_X3_doorOfStop tw_in_X3 hy_X3_doorOfStop rfl (Nat.le_of_ble_eq_true rfl) rfl dX5_stop_98 [] rfl (by decide) (fun _ => Nat.le_of_ble_eq_true rfl) ⟨Nat.le_of_ble_eq_true rfl, Nat.le_of_ble_eq_true rfl⟩ (fun v u hv => ?_)
        obtain ⟨r_13, rfl, h⟩ := hv
        refine gw_nf (ws' := (wfl [cX qx qn qp qw qt qu qd qh ql, cSt qn cI now.se now.la now.de now.le now.sa now.fl now.ar now.dr now.pe now.ri, cPl qp cI pln.od pln.rd pln.vn pln.pn pln.ao pln.sr pln.sp pln.wt, cWy qw cI ky_3 wp_4 mi_5 so_6])) (lv' := [(0, .ref (qx 0)), (1, .int x1), (2, .int x2), (3, .int x3)]) (st' := [.int r_13]) (pc' := 101) (ce' := 0) (sl' := 0) rfl rfl rfl rfl rfl rfl ?_
        exact gw_iret κ dX5_stop_101 (ky_3, wp_4, mi_5, so_6) rfl ⟨_, rfl, h⟩
      by_cases hc_9c_2 : x3 = 2
      · have h := hc_9_2 hc_9c_2
        refine gw_tableIn (tgt := 102) (off := 55) κ dX5_stop_47 (by rw [hc_9c_2]; decide) (by rw [hc_9c_2]; decide) (by rw [hc_9c_2]; decide +kernel) (by decide) ?_
        refine gw_aload_n (pc' := 103) κ dX5_stop_102 rfl 0 rfl rfl ?_
        refine gb_get (pc' := 106) (C := RX5) (T := TX5) (N := 8) κ dX5_stop_103 rfl inX5 0 rfl rfl rfl 2 (by decide) tw_fl_X5_26 rfl ?_
        refine gb_get (pc' := 109) (C := RX4) (T := TX4) (N := 4) κ dX5_stop_106 rfl inX4 3 rfl rfl rfl 2 (by decide) tw_fl_X5_198 rfl ?_
        refine gw_iload_n (pc' := 110) κ dX5_stop_109 rfl 2 rfl rfl ?_
        obtain ⟨hb_14, h⟩ := h
        refine gb_iald (pc' := 111) κ dX5_stop_110 rfl 3 3 rfl rfl hb_14 ?_
        exact gw_iret κ dX5_stop_111 (ky_3, wp_4, mi_5, so_6) rfl ⟨_, rfl, h⟩
      by_cases hc_9c_3 : x3 = 3
      · have h := hc_9_3 hc_9c_3
        refine gw_tableIn (tgt := 112) (off := 65) κ dX5_stop_47 (by rw [hc_9c_3]; decide) (by rw [hc_9c_3]; decide) (by rw [hc_9c_3]; decide +kernel) (by decide) ?_
        refine gw_aload_n (pc' := 113) κ dX5_stop_112 rfl 0 rfl rfl ?_
        refine gb_get (pc' := 116) (C := RX5) (T := TX5) (N := 8) κ dX5_stop_113 rfl inX5 0 rfl rfl rfl 2 (by decide) tw_fl_X5_26 rfl ?_
        refine gb_get (pc' := 119) (C := RX4) (T := TX4) (N := 4) κ dX5_stop_116 rfl inX4 3 rfl rfl rfl 1 (by decide) tw_fl_X5_201 rfl ?_
        refine gw_iload_n (pc' := 120) κ dX5_stop_119 rfl 2 rfl rfl ?_
        obtain ⟨hb_15, h⟩ := h
        refine gb_iald (pc' := 121) κ dX5_stop_120 rfl 3 2 rfl rfl hb_15 ?_
        exact gw_iret κ dX5_stop_121 (ky_3, wp_4, mi_5, so_6) rfl ⟨_, rfl, h⟩
      have h := hc_9d ⟨hc_9c_0, hc_9c_1, hc_9c_2, hc_9c_3⟩
      refine gw_tableOut (tgt := 122) κ dX5_stop_47 (sw_out2 (x := x3) (lo := 0) (hi := 3) (by decide) (fun k h1 h2 => by rcases (show k = 0 ∨ k = 1 ∨ k = 2 ∨ k = 3 by omega) with rfl | rfl | rfl | rfl <;> assumption)) (by decide) ?_
      refine gw_bipush (pc' := 124) (v := -102) κ dX5_stop_122 rfl (by decide) ?_
      exact gw_iret κ dX5_stop_124 (ky_3, wp_4, mi_5, so_6) rfl ⟨_, rfl, h⟩
    · have h := h.2 hc_8
      refine gw_bipush (pc' := 45) (v := -101) κ dX5_stop_43 rfl (by decide) ?_
      exact gw_iret κ dX5_stop_45 (ky_3, wp_4, mi_5, so_6) rfl ⟨_, rfl, h⟩
  · have h := h.2 hc_2
    refine gw_bipush (pc' := 9) (v := -101) κ dX5_stop_7 rfl (by decide) ?_
    exact gw_iret κ dX5_stop_9 (way.ky, way.wp, way.mi, way.so) rfl ⟨_, rfl, h⟩
theorem hy_X3_allPeople : g_hy yX3_allPeople 0 := by decide +kernel
set_option maxHeartbeats 4000000 in
set_option maxRecDepth 100000 in
theorem k_X3_allPeople_4 {zp : Program} {l : Launch} {ze : Env} {zs : State} {zm : MethodId} {za : Array Value} {zb : List Frame} {zt : Method} {zc : Code} {D : va_G} {cI cR : ClassId} {A : Nat → Prop} (κ : KC zp zs zm za zt zc cX3_allPeople 3 RX3 D cI cR A (some .int)) (qa : Nat → Nat) (P : Int32 → Prop) (o0 : StT) : ∀ (n : Nat) (v1 : Int32) (v2 : Int32), wp_X3_allPeople_4 P o0 n v1 v2 → GM zp l ze ({ frames := 0, cells := 0, slots := 0, locals := 0 } : Room) zs zm za zb zt zc D A 3 (pI (fun (r : Int32) (_ : Unit) => P r)) (fun _ : Unit => (wfl [cSt qa cI o0.se o0.la o0.de o0.le o0.sa o0.fl o0.ar o0.dr o0.pe o0.ri])) 0 0 0 0 (wfl [cSt qa cI o0.se o0.la o0.de o0.le o0.sa o0.fl o0.ar o0.dr o0.pe o0.ri]) [(0, .ref (qa 0)), (1, .int v1), (2, .int v2)] 4 [] := by
  intro n4
  induction n4 with
  | zero => intro v1 v2 h; exact (show False from h).elim
  | succ n4 ih4 =>
    intro v1 v2 h
    have h : wp_X3_allPeople_4F P o0 (wp_X3_allPeople_4 P o0 n4) v1 v2 := h
    unfold wp_X3_allPeople_4F at h
    refine gw_iload_n (pc' := 5) κ dX3_allPeople_4 rfl 2 rfl rfl ?_
    refine gw_aload_n (pc' := 6) κ dX3_allPeople_5 rfl 0 rfl rfl ?_
    refine gb_get (pc' := 9) (C := RX3) (T := TX3) (N := 10) κ dX3_allPeople_6 rfl inX3 0 rfl rfl rfl 9 (by decide) tw_fl_X3_48 rfl ?_
    refine gw_icmp_ge (pc' := 12) (tgt := 27) κ dX3_allPeople_9 rfl (by decide) (fun hc_1 => ?_) (fun hc_1 => ?_)
    · have h := h.1 hc_1
      refine gw_iload_n (pc' := 28) κ dX3_allPeople_27 rfl 1 rfl rfl ?_
      exact gw_iret κ dX3_allPeople_28 () rfl ⟨_, rfl, h⟩
    · have h := h.2 hc_1
      refine gw_iload_n (pc' := 13) κ dX3_allPeople_12 rfl 1 rfl rfl ?_
      refine gw_aload_n (pc' := 14) κ dX3_allPeople_13 rfl 0 rfl rfl ?_
      refine gb_get (pc' := 17) (C := RX3) (T := TX3) (N := 10) κ dX3_allPeople_14 rfl inX3 0 rfl rfl rfl 8 (by decide) tw_fl_X3_36 rfl ?_
      refine gw_iload_n (pc' := 18) κ dX3_allPeople_17 rfl 2 rfl rfl ?_
      obtain ⟨hb_2, h⟩ := h
      refine gb_iald (pc' := 19) κ dX3_allPeople_18 rfl 0 9 rfl rfl hb_2 ?_
      refine gw_iadd (pc' := 20) κ dX3_allPeople_19 rfl  ?_
      refine gw_istore_n (pc' := 21) κ dX3_allPeople_20 rfl rfl (by decide) (lv' := [(1, .int (v1 + (o0.pe v2.toNatClampNeg))), (0, .ref (qa 0)), (2, .int v2)]) rfl ?_
      refine gw_iinc (pc' := 24) κ dX3_allPeople_21 rfl 2 rfl (v := (v2 + 1)) rfl (by decide) (lv' := [(2, .int (v2 + 1)), (1, .int (v1 + (o0.pe v2.toNatClampNeg))), (0, .ref (qa 0))]) rfl ?_
      refine gw_goto (tgt := 4) κ dX3_allPeople_24 (by decide) ?_
      refine gw_lv (lv' := [(0, .ref (qa 0)), (1, .int (v1 + (o0.pe v2.toNatClampNeg))), (2, .int (v2 + 1))]) [2, 1, 0] rfl ?_
      exact ih4 (v1 + (o0.pe v2.toNatClampNeg)) (v2 + 1) h
set_option maxHeartbeats 4000000 in
set_option maxRecDepth 100000 in
theorem c_X3_allPeople {l : Launch} {D : va_G} {cI cR : ClassId}  (qa : Nat → Nat) {P : Int32 → Prop} (o0 : StT) (h : wp_X3_allPeople P o0) : CT l D cI cR yX3_allPeople cX3_allPeople 3 (some .int) ({ frames := 0, cells := 0, slots := 0, locals := 0 } : Room) [.ref (qa 0)] (wfl [cSt qa cI o0.se o0.la o0.de o0.le o0.sa o0.fl o0.ar o0.dr o0.pe o0.ri]) (fun _ : Unit => (wfl [cSt qa cI o0.se o0.la o0.de o0.le o0.sa o0.fl o0.ar o0.dr o0.pe o0.ri])) (pI (fun (r : Int32) (_ : Unit) => P r)) 0 0 := by
  refine ct_of RX3 rfl (by decide +kernel) (Nat.le_of_ble_eq_true rfl) (fun zp ze zs zm zb zt zc A hin κ => ?_)
  unfold wp_X3_allPeople at h
  refine gw_nf (lv' := [(0, .ref (qa 0))]) (pc' := 0) (st' := []) (ce' := 0) (sl' := 0) rfl rfl rfl rfl rfl rfl ?_
  refine gw_iconst (pc' := 1) (v := 0) κ dX3_allPeople_0 rfl (by decide) ?_
  refine gw_istore_n (pc' := 2) κ dX3_allPeople_1 rfl rfl (by decide) (lv' := [(1, .int (0 : Int32)), (0, .ref (qa 0))]) rfl ?_
  refine gw_iconst (pc' := 3) (v := 0) κ dX3_allPeople_2 rfl (by decide) ?_
  refine gw_istore_n (pc' := 4) κ dX3_allPeople_3 rfl rfl (by decide) (lv' := [(2, .int (0 : Int32)), (1, .int (0 : Int32)), (0, .ref (qa 0))]) rfl ?_
  obtain ⟨m4, h⟩ := h
  refine gw_lv (lv' := [(0, .ref (qa 0)), (1, .int (0 : Int32)), (2, .int (0 : Int32))]) [2, 1, 0] rfl ?_
  exact k_X3_allPeople_4 κ qa P o0 m4 (0 : Int32) (0 : Int32) h
theorem hy_X5_allFares : g_hy yX5_allFares 0 := by decide +kernel
set_option maxHeartbeats 4000000 in
set_option maxRecDepth 100000 in
theorem k_X5_allFares_4 {zp : Program} {l : Launch} {ze : Env} {zs : State} {zm : MethodId} {za : Array Value} {zb : List Frame} {zt : Method} {zc : Code} {D : va_G} {cI cR : ClassId} {A : Nat → Prop} (κ : KC zp zs zm za zt zc cX5_allFares 3 RX5 D cI cR A (some .int)) (qx : Nat → Nat) (qn : Nat → Nat) (qp : Nat → Nat) (qw : Nat → Nat) (qt : Nat → Nat) (qu : Nat → Nat) (qd : Nat → Nat) (qh : Nat → Nat) (ql : Nat → Nat) (qs : Nat → Nat → Nat) (P : Int32 → Prop) (now : StT) (pln : PlT) : ∀ (n : Nat) (v1 : Int32) (v2 : Int32), wp_X5_allFares_4 P now pln n v1 v2 → GM zp l ze ({ frames := 4, cells := 0, slots := 0, locals := 96 } : Room) zs zm za zb zt zc D A 3 (pI (fun (r : Int32) (_ : Unit) => P r)) (fun _ : Unit => (wfl [cX qx qn qp qw qt qu qd qh ql, cSt qn cI now.se now.la now.de now.le now.sa now.fl now.ar now.dr now.pe now.ri, cPl qp cI pln.od pln.rd pln.vn pln.pn pln.ao pln.sr pln.sp pln.wt])) 0 0 0 0 (wfl [cX qx qn qp qw qt qu qd qh ql, cSt qn cI now.se now.la now.de now.le now.sa now.fl now.ar now.dr now.pe now.ri, cPl qp cI pln.od pln.rd pln.vn pln.pn pln.ao pln.sr pln.sp pln.wt]) [(0, .ref (qx 0)), (1, .int v1), (2, .int v2)] 4 [] := by
  intro n4
  induction n4 with
  | zero => intro v1 v2 h; exact (show False from h).elim
  | succ n4 ih4 =>
    intro v1 v2 h
    have h : wp_X5_allFares_4F P now pln (wp_X5_allFares_4 P now pln n4) v1 v2 := h
    unfold wp_X5_allFares_4F at h
    refine gw_iload_n (pc' := 5) κ dX5_allFares_4 rfl 2 rfl rfl ?_
    refine gw_aload_n (pc' := 6) κ dX5_allFares_5 rfl 0 rfl rfl ?_
    refine gb_get (pc' := 9) (C := RX5) (T := TX5) (N := 8) κ dX5_allFares_6 rfl inX5 0 rfl rfl rfl 0 (by decide) tw_fl_X5_10 rfl ?_
    refine gb_get (pc' := 12) (C := RX3) (T := TX3) (N := 10) κ dX5_allFares_9 rfl inX3 1 rfl rfl rfl 9 (by decide) tw_fl_X5_105 rfl ?_
    refine gw_icmp_ge (pc' := 15) (tgt := 36) κ dX5_allFares_12 rfl (by decide) (fun hc_1 => ?_) (fun hc_1 => ?_)
    · have h := h.1 hc_1
      refine gw_iload_n (pc' := 37) κ dX5_allFares_36 rfl 1 rfl rfl ?_
      exact gw_iret κ dX5_allFares_37 () rfl ⟨_, rfl, h⟩
    · have h := h.2 hc_1
      refine gw_iload_n (pc' := 16) κ dX5_allFares_15 rfl 1 rfl rfl ?_
      refine gw_aload_n (pc' := 17) κ dX5_allFares_16 rfl 0 rfl rfl ?_
      refine gb_get (pc' := 20) (C := RX5) (T := TX5) (N := 8) κ dX5_allFares_17 rfl inX5 0 rfl rfl rfl 1 (by decide) tw_fl_X5_19 rfl ?_
      refine gw_aload_n (pc' := 21) κ dX5_allFares_20 rfl 0 rfl rfl ?_
      refine gb_get (pc' := 24) (C := RX5) (T := TX5) (N := 8) κ dX5_allFares_21 rfl inX5 0 rfl rfl rfl 0 (by decide) tw_fl_X5_10 rfl ?_
      refine gw_iload_n (pc' := 25) κ dX5_allFares_24 rfl 2 rfl rfl ?_
      refine gb_callV (ci := 2) (qb := 2) (rest := [.int v1]) κ (c_X2_fare qp qn pln now v2 h) ⟨rfl, rfl, Nat.le_of_ble_eq_true rfl, Nat.le_of_ble_eq_true rfl⟩ tw_ml_X5_128 tw_im_X2_fare tw_se_X2_fare tw_co_X2_fare tw_in_X2 hy_X2_fare rfl rfl rfl rfl rfl (Nat.le_of_ble_eq_true rfl) rfl dX5_allFares_25 [2, 1] rfl (by decide) (fun _ => Nat.le_of_ble_eq_true rfl) ⟨Nat.le_of_ble_eq_true rfl, Nat.le_of_ble_eq_true rfl⟩ (fun v u hv => ?_)
      obtain ⟨r_2, rfl, h⟩ := hv
      refine gw_nf (ws' := (wfl [cX qx qn qp qw qt qu qd qh ql, cSt qn cI now.se now.la now.de now.le now.sa now.fl now.ar now.dr now.pe now.ri, cPl qp cI pln.od pln.rd pln.vn pln.pn pln.ao pln.sr pln.sp pln.wt])) (lv' := [(0, .ref (qx 0)), (1, .int v1), (2, .int v2)]) (st' := [.int r_2, .int v1]) (pc' := 28) (ce' := 0) (sl' := 0) rfl rfl rfl rfl rfl rfl ?_
      refine gw_iadd (pc' := 29) κ dX5_allFares_28 rfl  ?_
      refine gw_istore_n (pc' := 30) κ dX5_allFares_29 rfl rfl (by decide) (lv' := [(1, .int (v1 + r_2)), (0, .ref (qx 0)), (2, .int v2)]) rfl ?_
      refine gw_iinc (pc' := 33) κ dX5_allFares_30 rfl 2 rfl (v := (v2 + 1)) rfl (by decide) (lv' := [(2, .int (v2 + 1)), (1, .int (v1 + r_2)), (0, .ref (qx 0))]) rfl ?_
      refine gw_goto (tgt := 4) κ dX5_allFares_33 (by decide) ?_
      refine gw_lv (lv' := [(0, .ref (qx 0)), (1, .int (v1 + r_2)), (2, .int (v2 + 1))]) [2, 1, 0] rfl ?_
      exact ih4 (v1 + r_2) (v2 + 1) h
set_option maxHeartbeats 4000000 in
set_option maxRecDepth 100000 in
theorem c_X5_allFares {l : Launch} {D : va_G} {cI cR : ClassId}  (qx : Nat → Nat) (qn : Nat → Nat) (qp : Nat → Nat) (qw : Nat → Nat) (qt : Nat → Nat) (qu : Nat → Nat) (qd : Nat → Nat) (qh : Nat → Nat) (ql : Nat → Nat) (qs : Nat → Nat → Nat) {P : Int32 → Prop} (now : StT) (pln : PlT) (h : wp_X5_allFares P now pln) : CT l D cI cR yX5_allFares cX5_allFares 3 (some .int) ({ frames := 4, cells := 0, slots := 0, locals := 96 } : Room) [.ref (qx 0)] (wfl [cX qx qn qp qw qt qu qd qh ql, cSt qn cI now.se now.la now.de now.le now.sa now.fl now.ar now.dr now.pe now.ri, cPl qp cI pln.od pln.rd pln.vn pln.pn pln.ao pln.sr pln.sp pln.wt]) (fun _ : Unit => (wfl [cX qx qn qp qw qt qu qd qh ql, cSt qn cI now.se now.la now.de now.le now.sa now.fl now.ar now.dr now.pe now.ri, cPl qp cI pln.od pln.rd pln.vn pln.pn pln.ao pln.sr pln.sp pln.wt])) (pI (fun (r : Int32) (_ : Unit) => P r)) 0 0 := by
  refine ct_of RX5 rfl (by decide +kernel) (Nat.le_of_ble_eq_true rfl) (fun zp ze zs zm zb zt zc A hin κ => ?_)
  unfold wp_X5_allFares at h
  refine gw_nf (lv' := [(0, .ref (qx 0))]) (pc' := 0) (st' := []) (ce' := 0) (sl' := 0) rfl rfl rfl rfl rfl rfl ?_
  refine gw_iconst (pc' := 1) (v := 0) κ dX5_allFares_0 rfl (by decide) ?_
  refine gw_istore_n (pc' := 2) κ dX5_allFares_1 rfl rfl (by decide) (lv' := [(1, .int (0 : Int32)), (0, .ref (qx 0))]) rfl ?_
  refine gw_iconst (pc' := 3) (v := 0) κ dX5_allFares_2 rfl (by decide) ?_
  refine gw_istore_n (pc' := 4) κ dX5_allFares_3 rfl rfl (by decide) (lv' := [(2, .int (0 : Int32)), (1, .int (0 : Int32)), (0, .ref (qx 0))]) rfl ?_
  obtain ⟨m4, h⟩ := h
  refine gw_lv (lv' := [(0, .ref (qx 0)), (1, .int (0 : Int32)), (2, .int (0 : Int32))]) [2, 1, 0] rfl ?_
  exact k_X5_allFares_4 κ qx qn qp qw qt qu qd qh ql qs P now pln m4 (0 : Int32) (0 : Int32) h
theorem hy_X2_vansWithRiders : g_hy yX2_vansWithRiders 0 := by decide +kernel
set_option maxHeartbeats 4000000 in
set_option maxRecDepth 100000 in
theorem k_X2_vansWithRiders_4 {zp : Program} {l : Launch} {ze : Env} {zs : State} {zm : MethodId} {za : Array Value} {zb : List Frame} {zt : Method} {zc : Code} {D : va_G} {cI cR : ClassId} {A : Nat → Prop} (κ : KC zp zs zm za zt zc cX2_vansWithRiders 3 RX2 D cI cR A (some .int)) (qa : Nat → Nat) (P : Int32 → Prop) (o0 : PlT) : ∀ (n : Nat) (v1 : Int32) (v2 : Int32), wp_X2_vansWithRiders_4 P o0 n v1 v2 → GM zp l ze ({ frames := 0, cells := 0, slots := 0, locals := 0 } : Room) zs zm za zb zt zc D A 3 (pI (fun (r : Int32) (_ : Unit) => P r)) (fun _ : Unit => (wfl [cPl qa cI o0.od o0.rd o0.vn o0.pn o0.ao o0.sr o0.sp o0.wt])) 0 0 0 0 (wfl [cPl qa cI o0.od o0.rd o0.vn o0.pn o0.ao o0.sr o0.sp o0.wt]) [(0, .ref (qa 0)), (1, .int v1), (2, .int v2)] 4 [] := by
  intro n4
  induction n4 with
  | zero => intro v1 v2 h; exact (show False from h).elim
  | succ n4 ih4 =>
    intro v1 v2 h
    have h : wp_X2_vansWithRiders_4F P o0 (wp_X2_vansWithRiders_4 P o0 n4) v1 v2 := h
    unfold wp_X2_vansWithRiders_4F at h
    refine gw_iload_n (pc' := 5) κ dX2_vansWithRiders_4 rfl 2 rfl rfl ?_
    refine gw_bipush (pc' := 7) (v := 8) κ dX2_vansWithRiders_5 rfl (by decide) ?_
    refine gw_icmp_ge (pc' := 10) (tgt := 28) κ dX2_vansWithRiders_7 rfl (by decide) (fun hc_1 => ?_) (fun hc_1 => ?_)
    · have h := h.1 hc_1
      refine gw_iload_n (pc' := 29) κ dX2_vansWithRiders_28 rfl 1 rfl rfl ?_
      exact gw_iret κ dX2_vansWithRiders_29 () rfl ⟨_, rfl, h⟩
    · have h := h.2 hc_1
      refine gw_aload_n (pc' := 11) κ dX2_vansWithRiders_10 rfl 0 rfl rfl ?_
      refine gb_get (pc' := 14) (C := RX2) (T := TX2) (N := 8) κ dX2_vansWithRiders_11 rfl inX2 0 rfl rfl rfl 3 (by decide) tw_fl_X2_21 rfl ?_
      refine gw_iload_n (pc' := 15) κ dX2_vansWithRiders_14 rfl 2 rfl rfl ?_
      obtain ⟨hb_2, h⟩ := h
      refine gb_iald (pc' := 16) κ dX2_vansWithRiders_15 rfl 0 4 rfl rfl hb_2 ?_
      refine gw_if_le (pc' := 19) (tgt := 22) κ dX2_vansWithRiders_16 rfl (by decide) (fun hc_3 => ?_) (fun hc_3 => ?_)
      · have h := h.1 hc_3
        refine gw_iinc (pc' := 25) κ dX2_vansWithRiders_22 rfl 2 rfl (v := (v2 + 1)) rfl (by decide) (lv' := [(2, .int (v2 + 1)), (0, .ref (qa 0)), (1, .int v1)]) rfl ?_
        refine gw_goto (tgt := 4) κ dX2_vansWithRiders_25 (by decide) ?_
        refine gw_lv (lv' := [(0, .ref (qa 0)), (1, .int v1), (2, .int (v2 + 1))]) [1, 2, 0] rfl ?_
        exact ih4 v1 (v2 + 1) h
      · have h := h.2 hc_3
        refine gw_iinc (pc' := 22) κ dX2_vansWithRiders_19 rfl 1 rfl (v := (v1 + 1)) rfl (by decide) (lv' := [(1, .int (v1 + 1)), (0, .ref (qa 0)), (2, .int v2)]) rfl ?_
        refine gw_iinc (pc' := 25) κ dX2_vansWithRiders_22 rfl 2 rfl (v := (v2 + 1)) rfl (by decide) (lv' := [(2, .int (v2 + 1)), (1, .int (v1 + 1)), (0, .ref (qa 0))]) rfl ?_
        refine gw_goto (tgt := 4) κ dX2_vansWithRiders_25 (by decide) ?_
        refine gw_lv (lv' := [(0, .ref (qa 0)), (1, .int (v1 + 1)), (2, .int (v2 + 1))]) [2, 1, 0] rfl ?_
        exact ih4 (v1 + 1) (v2 + 1) h
set_option maxHeartbeats 4000000 in
set_option maxRecDepth 100000 in
theorem c_X2_vansWithRiders {l : Launch} {D : va_G} {cI cR : ClassId}  (qa : Nat → Nat) {P : Int32 → Prop} (o0 : PlT) (h : wp_X2_vansWithRiders P o0) : CT l D cI cR yX2_vansWithRiders cX2_vansWithRiders 3 (some .int) ({ frames := 0, cells := 0, slots := 0, locals := 0 } : Room) [.ref (qa 0)] (wfl [cPl qa cI o0.od o0.rd o0.vn o0.pn o0.ao o0.sr o0.sp o0.wt]) (fun _ : Unit => (wfl [cPl qa cI o0.od o0.rd o0.vn o0.pn o0.ao o0.sr o0.sp o0.wt])) (pI (fun (r : Int32) (_ : Unit) => P r)) 0 0 := by
  refine ct_of RX2 rfl (by decide +kernel) (Nat.le_of_ble_eq_true rfl) (fun zp ze zs zm zb zt zc A hin κ => ?_)
  unfold wp_X2_vansWithRiders at h
  refine gw_nf (lv' := [(0, .ref (qa 0))]) (pc' := 0) (st' := []) (ce' := 0) (sl' := 0) rfl rfl rfl rfl rfl rfl ?_
  refine gw_iconst (pc' := 1) (v := 0) κ dX2_vansWithRiders_0 rfl (by decide) ?_
  refine gw_istore_n (pc' := 2) κ dX2_vansWithRiders_1 rfl rfl (by decide) (lv' := [(1, .int (0 : Int32)), (0, .ref (qa 0))]) rfl ?_
  refine gw_iconst (pc' := 3) (v := 0) κ dX2_vansWithRiders_2 rfl (by decide) ?_
  refine gw_istore_n (pc' := 4) κ dX2_vansWithRiders_3 rfl rfl (by decide) (lv' := [(2, .int (0 : Int32)), (1, .int (0 : Int32)), (0, .ref (qa 0))]) rfl ?_
  obtain ⟨m4, h⟩ := h
  refine gw_lv (lv' := [(0, .ref (qa 0)), (1, .int (0 : Int32)), (2, .int (0 : Int32))]) [2, 1, 0] rfl ?_
  exact k_X2_vansWithRiders_4 κ qa P o0 m4 (0 : Int32) (0 : Int32) h
theorem hy_X5_allStops : g_hy yX5_allStops 0 := by decide +kernel
set_option maxHeartbeats 4000000 in
set_option maxRecDepth 100000 in
theorem k_X5_allStops_4 {zp : Program} {l : Launch} {ze : Env} {zs : State} {zm : MethodId} {za : Array Value} {zb : List Frame} {zt : Method} {zc : Code} {D : va_G} {cI cR : ClassId} {A : Nat → Prop} (κ : KC zp zs zm za zt zc cX5_allStops 3 RX5 D cI cR A (some .int)) (qx : Nat → Nat) (qn : Nat → Nat) (qp : Nat → Nat) (qw : Nat → Nat) (qt : Nat → Nat) (qu : Nat → Nat) (qd : Nat → Nat) (qh : Nat → Nat) (ql : Nat → Nat) (qs : Nat → Nat → Nat) (P : Int32 → (Nat → Int32) → (Nat → Int32) → (Nat → Int32) → Int32 → Prop) (now : StT) (pln : PlT) (way : WyT) : ∀ (n : Nat) (v1 : Int32) (v2 : Int32) (way_ky : Nat → Int32) (way_wp : Nat → Int32) (way_mi : Nat → Int32) (way_so : Int32), wp_X5_allStops_4 P now pln way n v1 v2 way_ky way_wp way_mi way_so → GM zp l ze ({ frames := 3, cells := 0, slots := 0, locals := 70 } : Room) zs zm za zb zt zc D A 3 (pI (fun (r : Int32) (u : (Nat → Int32) × (Nat → Int32) × (Nat → Int32) × Int32) => P r u.1 u.2.1 u.2.2.1 u.2.2.2)) (fun u : (Nat → Int32) × (Nat → Int32) × (Nat → Int32) × Int32 => (wfl [cX qx qn qp qw qt qu qd qh ql, cSt qn cI now.se now.la now.de now.le now.sa now.fl now.ar now.dr now.pe now.ri, cPl qp cI pln.od pln.rd pln.vn pln.pn pln.ao pln.sr pln.sp pln.wt, cWy qw cI u.1 u.2.1 u.2.2.1 u.2.2.2])) 0 0 0 0 (wfl [cX qx qn qp qw qt qu qd qh ql, cSt qn cI now.se now.la now.de now.le now.sa now.fl now.ar now.dr now.pe now.ri, cPl qp cI pln.od pln.rd pln.vn pln.pn pln.ao pln.sr pln.sp pln.wt, cWy qw cI way_ky way_wp way_mi way_so]) [(0, .ref (qx 0)), (1, .int v1), (2, .int v2)] 4 [] := by
  intro n4
  induction n4 with
  | zero => intro v1 v2 way_ky way_wp way_mi way_so h; exact (show False from h).elim
  | succ n4 ih4 =>
    intro v1 v2 way_ky way_wp way_mi way_so h
    have h : wp_X5_allStops_4F P now pln way (wp_X5_allStops_4 P now pln way n4) v1 v2 way_ky way_wp way_mi way_so := h
    unfold wp_X5_allStops_4F at h
    refine gw_iload_n (pc' := 5) κ dX5_allStops_4 rfl 2 rfl rfl ?_
    refine gw_bipush (pc' := 7) (v := 8) κ dX5_allStops_5 rfl (by decide) ?_
    refine gw_icmp_ge (pc' := 10) (tgt := 42) κ dX5_allStops_7 rfl (by decide) (fun hc_1 => ?_) (fun hc_1 => ?_)
    · have h := h.1 hc_1
      refine gw_iload_n (pc' := 43) κ dX5_allStops_42 rfl 1 rfl rfl ?_
      exact gw_iret κ dX5_allStops_43 (way_ky, way_wp, way_mi, way_so) rfl ⟨_, rfl, h⟩
    · have h := h.2 hc_1
      refine gw_aload_n (pc' := 11) κ dX5_allStops_10 rfl 0 rfl rfl ?_
      refine gb_get (pc' := 14) (C := RX5) (T := TX5) (N := 8) κ dX5_allStops_11 rfl inX5 0 rfl rfl rfl 2 (by decide) tw_fl_X5_26 rfl ?_
      refine gw_aload_n (pc' := 15) κ dX5_allStops_14 rfl 0 rfl rfl ?_
      refine gb_get (pc' := 18) (C := RX5) (T := TX5) (N := 8) κ dX5_allStops_15 rfl inX5 0 rfl rfl rfl 0 (by decide) tw_fl_X5_10 rfl ?_
      refine gw_aload_n (pc' := 19) κ dX5_allStops_18 rfl 0 rfl rfl ?_
      refine gb_get (pc' := 22) (C := RX5) (T := TX5) (N := 8) κ dX5_allStops_19 rfl inX5 0 rfl rfl rfl 1 (by decide) tw_fl_X5_19 rfl ?_
      refine gw_iload_n (pc' := 23) κ dX5_allStops_22 rfl 2 rfl rfl ?_
      refine gb_callV (ci := 4) (qb := 3) (rest := []) κ (c_X4_follow qw qn qp (mkWy way_ky way_wp way_mi way_so) now pln v2 h) ⟨rfl, rfl, Nat.le_of_ble_eq_true rfl, Nat.le_of_ble_eq_true rfl⟩ tw_ml_X5_163 tw_im_X4_follow tw_se_X4_follow tw_co_X4_follow tw_in_X4 hy_X4_follow rfl rfl rfl rfl rfl (Nat.le_of_ble_eq_true rfl) rfl dX5_allStops_23 [3, 1, 2] rfl (by decide) (fun _ => Nat.le_of_ble_eq_true rfl) ⟨Nat.le_of_ble_eq_true rfl, Nat.le_of_ble_eq_true rfl⟩ (fun v u hv => ?_)
      obtain ⟨rfl, h⟩ := hv
      obtain ⟨ky_2, wp_3, mi_4, so_5⟩ := u
      refine gw_nf (ws' := (wfl [cX qx qn qp qw qt qu qd qh ql, cSt qn cI now.se now.la now.de now.le now.sa now.fl now.ar now.dr now.pe now.ri, cPl qp cI pln.od pln.rd pln.vn pln.pn pln.ao pln.sr pln.sp pln.wt, cWy qw cI ky_2 wp_3 mi_4 so_5])) (lv' := [(0, .ref (qx 0)), (1, .int v1), (2, .int v2)]) (st' := []) (pc' := 26) (ce' := 0) (sl' := 0) rfl rfl rfl rfl rfl rfl ?_
      refine gw_iload_n (pc' := 27) κ dX5_allStops_26 rfl 1 rfl rfl ?_
      refine gw_aload_n (pc' := 28) κ dX5_allStops_27 rfl 0 rfl rfl ?_
      refine gb_get (pc' := 31) (C := RX5) (T := TX5) (N := 8) κ dX5_allStops_28 rfl inX5 0 rfl rfl rfl 2 (by decide) tw_fl_X5_26 rfl ?_
      refine gb_get (pc' := 34) (C := RX4) (T := TX4) (N := 4) κ dX5_allStops_31 rfl inX4 3 rfl rfl rfl 3 (by decide) tw_fl_X5_176 rfl ?_
      refine gw_iadd (pc' := 35) κ dX5_allStops_34 rfl  ?_
      refine gw_istore_n (pc' := 36) κ dX5_allStops_35 rfl rfl (by decide) (lv' := [(1, .int (v1 + so_5)), (0, .ref (qx 0)), (2, .int v2)]) rfl ?_
      refine gw_iinc (pc' := 39) κ dX5_allStops_36 rfl 2 rfl (v := (v2 + 1)) rfl (by decide) (lv' := [(2, .int (v2 + 1)), (1, .int (v1 + so_5)), (0, .ref (qx 0))]) rfl ?_
      refine gw_goto (tgt := 4) κ dX5_allStops_39 (by decide) ?_
      refine gw_lv (lv' := [(0, .ref (qx 0)), (1, .int (v1 + so_5)), (2, .int (v2 + 1))]) [2, 1, 0] rfl ?_
      exact ih4 (v1 + so_5) (v2 + 1) ky_2 wp_3 mi_4 so_5 h
set_option maxHeartbeats 4000000 in
set_option maxRecDepth 100000 in
theorem c_X5_allStops {l : Launch} {D : va_G} {cI cR : ClassId}  (qx : Nat → Nat) (qn : Nat → Nat) (qp : Nat → Nat) (qw : Nat → Nat) (qt : Nat → Nat) (qu : Nat → Nat) (qd : Nat → Nat) (qh : Nat → Nat) (ql : Nat → Nat) (qs : Nat → Nat → Nat) {P : Int32 → (Nat → Int32) → (Nat → Int32) → (Nat → Int32) → Int32 → Prop} (now : StT) (pln : PlT) (way : WyT) (h : wp_X5_allStops P now pln way) : CT l D cI cR yX5_allStops cX5_allStops 3 (some .int) ({ frames := 3, cells := 0, slots := 0, locals := 70 } : Room) [.ref (qx 0)] (wfl [cX qx qn qp qw qt qu qd qh ql, cSt qn cI now.se now.la now.de now.le now.sa now.fl now.ar now.dr now.pe now.ri, cPl qp cI pln.od pln.rd pln.vn pln.pn pln.ao pln.sr pln.sp pln.wt, cWy qw cI way.ky way.wp way.mi way.so]) (fun u : (Nat → Int32) × (Nat → Int32) × (Nat → Int32) × Int32 => (wfl [cX qx qn qp qw qt qu qd qh ql, cSt qn cI now.se now.la now.de now.le now.sa now.fl now.ar now.dr now.pe now.ri, cPl qp cI pln.od pln.rd pln.vn pln.pn pln.ao pln.sr pln.sp pln.wt, cWy qw cI u.1 u.2.1 u.2.2.1 u.2.2.2])) (pI (fun (r : Int32) (u : (Nat → Int32) × (Nat → Int32) × (Nat → Int32) × Int32) => P r u.1 u.2.1 u.2.2.1 u.2.2.2)) 0 0 := by
  refine ct_of RX5 rfl (by decide +kernel) (Nat.le_of_ble_eq_true rfl) (fun zp ze zs zm zb zt zc A hin κ => ?_)
  unfold wp_X5_allStops at h
  refine gw_nf (lv' := [(0, .ref (qx 0))]) (pc' := 0) (st' := []) (ce' := 0) (sl' := 0) rfl rfl rfl rfl rfl rfl ?_
  refine gw_iconst (pc' := 1) (v := 0) κ dX5_allStops_0 rfl (by decide) ?_
  refine gw_istore_n (pc' := 2) κ dX5_allStops_1 rfl rfl (by decide) (lv' := [(1, .int (0 : Int32)), (0, .ref (qx 0))]) rfl ?_
  refine gw_iconst (pc' := 3) (v := 0) κ dX5_allStops_2 rfl (by decide) ?_
  refine gw_istore_n (pc' := 4) κ dX5_allStops_3 rfl rfl (by decide) (lv' := [(2, .int (0 : Int32)), (1, .int (0 : Int32)), (0, .ref (qx 0))]) rfl ?_
  obtain ⟨m4, h⟩ := h
  refine gw_lv (lv' := [(0, .ref (qx 0)), (1, .int (0 : Int32)), (2, .int (0 : Int32))]) [2, 1, 0] rfl ?_
  exact k_X5_allStops_4 κ qx qn qp qw qt qu qd qh ql qs P now pln way m4 (0 : Int32) (0 : Int32) way.ky way.wp way.mi way.so h
theorem hy_X5_lastAtDoor : g_hy yX5_lastAtDoor 2 := by decide +kernel
set_option maxHeartbeats 4000000 in
set_option maxRecDepth 100000 in
theorem k_X5_lastAtDoor_6 {zp : Program} {l : Launch} {ze : Env} {zs : State} {zm : MethodId} {za : Array Value} {zb : List Frame} {zt : Method} {zc : Code} {D : va_G} {cI cR : ClassId} {A : Nat → Prop} (κ : KC zp zs zm za zt zc cX5_lastAtDoor 5 RX5 D cI cR A (some .int)) (qx : Nat → Nat) (qn : Nat → Nat) (qp : Nat → Nat) (qw : Nat → Nat) (qt : Nat → Nat) (qu : Nat → Nat) (qd : Nat → Nat) (qh : Nat → Nat) (ql : Nat → Nat) (qa : Nat → Nat) (qb : Nat → Nat) (qs : Nat → Nat → Nat) (P : Int32 → (Nat → Int32) → (Nat → Int32) → (Nat → Int32) → Int32 → Prop) (way : WyT) (o1 : StT) (o2 : PlT) : ∀ (n : Nat) (v3 : Int32) (v4 : Int32) (way_ky : Nat → Int32) (way_wp : Nat → Int32) (way_mi : Nat → Int32) (way_so : Int32), wp_X5_lastAtDoor_6 P way o1 o2 n v3 v4 way_ky way_wp way_mi way_so → GM zp l ze ({ frames := 3, cells := 0, slots := 0, locals := 70 } : Room) zs zm za zb zt zc D A 5 (pI (fun (r : Int32) (u : (Nat → Int32) × (Nat → Int32) × (Nat → Int32) × Int32) => P r u.1 u.2.1 u.2.2.1 u.2.2.2)) (fun u : (Nat → Int32) × (Nat → Int32) × (Nat → Int32) × Int32 => (wfl [cX qx qn qp qw qt qu qd qh ql, cWy qw cI u.1 u.2.1 u.2.2.1 u.2.2.2, cSt qa cI o1.se o1.la o1.de o1.le o1.sa o1.fl o1.ar o1.dr o1.pe o1.ri, cPl qb cI o2.od o2.rd o2.vn o2.pn o2.ao o2.sr o2.sp o2.wt])) 0 0 0 0 (wfl [cX qx qn qp qw qt qu qd qh ql, cWy qw cI way_ky way_wp way_mi way_so, cSt qa cI o1.se o1.la o1.de o1.le o1.sa o1.fl o1.ar o1.dr o1.pe o1.ri, cPl qb cI o2.od o2.rd o2.vn o2.pn o2.ao o2.sr o2.sp o2.wt]) [(0, .ref (qx 0)), (1, .ref (qa 0)), (2, .ref (qb 0)), (3, .int v3), (4, .int v4)] 6 [] := by
  intro n6
  induction n6 with
  | zero => intro v3 v4 way_ky way_wp way_mi way_so h; exact (show False from h).elim
  | succ n6 ih6 =>
    intro v3 v4 way_ky way_wp way_mi way_so h
    have h : wp_X5_lastAtDoor_6F P way o1 o2 (wp_X5_lastAtDoor_6 P way o1 o2 n6) v3 v4 way_ky way_wp way_mi way_so := h
    unfold wp_X5_lastAtDoor_6F at h
    refine gw_iload (pc' := 8) κ dX5_lastAtDoor_6 rfl 4 rfl ?_
    refine gw_bipush (pc' := 10) (v := 8) κ dX5_lastAtDoor_8 rfl (by decide) ?_
    refine gw_icmp_ge (pc' := 13) (tgt := 52) κ dX5_lastAtDoor_10 rfl (by decide) (fun hc_1 => ?_) (fun hc_1 => ?_)
    · have h := h.1 hc_1
      refine gw_iload_n (pc' := 53) κ dX5_lastAtDoor_52 rfl 3 rfl rfl ?_
      exact gw_iret κ dX5_lastAtDoor_53 (way_ky, way_wp, way_mi, way_so) rfl ⟨_, rfl, h⟩
    · have h := h.2 hc_1
      refine gw_aload_n (pc' := 14) κ dX5_lastAtDoor_13 rfl 0 rfl rfl ?_
      refine gb_get (pc' := 17) (C := RX5) (T := TX5) (N := 8) κ dX5_lastAtDoor_14 rfl inX5 0 rfl rfl rfl 2 (by decide) tw_fl_X5_26 rfl ?_
      refine gw_aload_n (pc' := 18) κ dX5_lastAtDoor_17 rfl 1 rfl rfl ?_
      refine gw_aload_n (pc' := 19) κ dX5_lastAtDoor_18 rfl 2 rfl rfl ?_
      refine gw_iload (pc' := 21) κ dX5_lastAtDoor_19 rfl 4 rfl ?_
      refine gb_callV (ci := 4) (qb := 1) (rest := []) κ (c_X4_follow qw qa qb (mkWy way_ky way_wp way_mi way_so) o1 o2 v4 h) ⟨rfl, rfl, Nat.le_of_ble_eq_true rfl, Nat.le_of_ble_eq_true rfl⟩ tw_ml_X5_163 tw_im_X4_follow tw_se_X4_follow tw_co_X4_follow tw_in_X4 hy_X4_follow rfl rfl rfl rfl rfl (Nat.le_of_ble_eq_true rfl) rfl dX5_lastAtDoor_21 [1, 2, 3] rfl (by decide) (fun _ => Nat.le_of_ble_eq_true rfl) ⟨Nat.le_of_ble_eq_true rfl, Nat.le_of_ble_eq_true rfl⟩ (fun v u hv => ?_)
      obtain ⟨rfl, h⟩ := hv
      obtain ⟨ky_2, wp_3, mi_4, so_5⟩ := u
      refine gw_nf (ws' := (wfl [cX qx qn qp qw qt qu qd qh ql, cWy qw cI ky_2 wp_3 mi_4 so_5, cSt qa cI o1.se o1.la o1.de o1.le o1.sa o1.fl o1.ar o1.dr o1.pe o1.ri, cPl qb cI o2.od o2.rd o2.vn o2.pn o2.ao o2.sr o2.sp o2.wt])) (lv' := [(0, .ref (qx 0)), (1, .ref (qa 0)), (2, .ref (qb 0)), (3, .int v3), (4, .int v4)]) (st' := []) (pc' := 24) (ce' := 0) (sl' := 0) rfl rfl rfl rfl rfl rfl ?_
      refine gw_aload_n (pc' := 25) κ dX5_lastAtDoor_24 rfl 0 rfl rfl ?_
      refine gb_get (pc' := 28) (C := RX5) (T := TX5) (N := 8) κ dX5_lastAtDoor_25 rfl inX5 0 rfl rfl rfl 2 (by decide) tw_fl_X5_26 rfl ?_
      refine gb_get (pc' := 31) (C := RX4) (T := TX4) (N := 4) κ dX5_lastAtDoor_28 rfl inX4 1 rfl rfl rfl 3 (by decide) tw_fl_X5_176 rfl ?_
      refine gw_if_le (pc' := 34) (tgt := 46) κ dX5_lastAtDoor_31 rfl (by decide) (fun hc_6 => ?_) (fun hc_6 => ?_)
      · have h := h.1 hc_6
        refine gw_iinc (pc' := 49) κ dX5_lastAtDoor_46 rfl 4 rfl (v := (v4 + 1)) rfl (by decide) (lv' := [(4, .int (v4 + 1)), (0, .ref (qx 0)), (1, .ref (qa 0)), (2, .ref (qb 0)), (3, .int v3)]) rfl ?_
        refine gw_goto (tgt := 6) κ dX5_lastAtDoor_49 (by decide) ?_
        refine gw_lv (lv' := [(0, .ref (qx 0)), (1, .ref (qa 0)), (2, .ref (qb 0)), (3, .int v3), (4, .int (v4 + 1))]) [1, 2, 3, 4, 0] rfl ?_
        exact ih6 v3 (v4 + 1) ky_2 wp_3 mi_4 so_5 h
      · have h := h.2 hc_6
        refine gw_iload_n (pc' := 35) κ dX5_lastAtDoor_34 rfl 3 rfl rfl ?_
        refine gw_aload_n (pc' := 36) κ dX5_lastAtDoor_35 rfl 0 rfl rfl ?_
        refine gb_get (pc' := 39) (C := RX5) (T := TX5) (N := 8) κ dX5_lastAtDoor_36 rfl inX5 0 rfl rfl rfl 2 (by decide) tw_fl_X5_26 rfl ?_
        refine gb_callV (ci := 4) (qb := 1) (rest := [.int v3]) κ (c_X4_lastMinute qw (mkWy ky_2 wp_3 mi_4 so_5) h) ⟨rfl, rfl, Nat.le_of_ble_eq_true rfl, Nat.le_of_ble_eq_true rfl⟩ tw_ml_X5_179 tw_im_X4_lastMinute tw_se_X4_lastMinute tw_co_X4_lastMinute tw_in_X4 hy_X4_lastMinute rfl rfl rfl rfl rfl (Nat.le_of_ble_eq_true rfl) rfl dX5_lastAtDoor_39 [1] rfl (by decide) (fun _ => Nat.le_of_ble_eq_true rfl) ⟨Nat.le_of_ble_eq_true rfl, Nat.le_of_ble_eq_true rfl⟩ (fun v u hv => ?_)
        obtain ⟨r_7, rfl, h⟩ := hv
        refine gw_nf (ws' := (wfl [cX qx qn qp qw qt qu qd qh ql, cWy qw cI ky_2 wp_3 mi_4 so_5, cSt qa cI o1.se o1.la o1.de o1.le o1.sa o1.fl o1.ar o1.dr o1.pe o1.ri, cPl qb cI o2.od o2.rd o2.vn o2.pn o2.ao o2.sr o2.sp o2.wt])) (lv' := [(0, .ref (qx 0)), (1, .ref (qa 0)), (2, .ref (qb 0)), (3, .int v3), (4, .int v4)]) (st' := [.int r_7, .int v3]) (pc' := 42) (ce' := 0) (sl' := 0) rfl rfl rfl rfl rfl rfl ?_
        refine gw_max (pc' := 45) κ dX5_lastAtDoor_42 rfl tw_ml_X5_260 tw_st_J9_max_7cf53 tw_in_J9 tw_co_J9_max_7cf53 ⟨Nat.le_of_ble_eq_true rfl, Nat.le_of_ble_eq_true rfl, Nat.le_of_ble_eq_true rfl, Nat.le_of_ble_eq_true rfl⟩ ?_
        refine gw_istore_n (pc' := 46) κ dX5_lastAtDoor_45 rfl rfl (by decide) (lv' := [(3, .int (if v3 < r_7 then r_7 else v3)), (0, .ref (qx 0)), (1, .ref (qa 0)), (2, .ref (qb 0)), (4, .int v4)]) rfl ?_
        refine gw_iinc (pc' := 49) κ dX5_lastAtDoor_46 rfl 4 rfl (v := (v4 + 1)) rfl (by decide) (lv' := [(4, .int (v4 + 1)), (3, .int (if v3 < r_7 then r_7 else v3)), (0, .ref (qx 0)), (1, .ref (qa 0)), (2, .ref (qb 0))]) rfl ?_
        refine gw_goto (tgt := 6) κ dX5_lastAtDoor_49 (by decide) ?_
        refine gw_lv (lv' := [(0, .ref (qx 0)), (1, .ref (qa 0)), (2, .ref (qb 0)), (3, .int (if v3 < r_7 then r_7 else v3)), (4, .int (v4 + 1))]) [2, 3, 4, 1, 0] rfl ?_
        exact ih6 (if v3 < r_7 then r_7 else v3) (v4 + 1) ky_2 wp_3 mi_4 so_5 h
set_option maxHeartbeats 4000000 in
set_option maxRecDepth 100000 in
theorem c_X5_lastAtDoor {l : Launch} {D : va_G} {cI cR : ClassId}  (qx : Nat → Nat) (qn : Nat → Nat) (qp : Nat → Nat) (qw : Nat → Nat) (qt : Nat → Nat) (qu : Nat → Nat) (qd : Nat → Nat) (qh : Nat → Nat) (ql : Nat → Nat) (qa : Nat → Nat) (qb : Nat → Nat) (qs : Nat → Nat → Nat) {P : Int32 → (Nat → Int32) → (Nat → Int32) → (Nat → Int32) → Int32 → Prop} (way : WyT) (o1 : StT) (o2 : PlT) (h : wp_X5_lastAtDoor P way o1 o2) : CT l D cI cR yX5_lastAtDoor cX5_lastAtDoor 5 (some .int) ({ frames := 3, cells := 0, slots := 0, locals := 70 } : Room) [.ref (qx 0), .ref (qa 0), .ref (qb 0)] (wfl [cX qx qn qp qw qt qu qd qh ql, cWy qw cI way.ky way.wp way.mi way.so, cSt qa cI o1.se o1.la o1.de o1.le o1.sa o1.fl o1.ar o1.dr o1.pe o1.ri, cPl qb cI o2.od o2.rd o2.vn o2.pn o2.ao o2.sr o2.sp o2.wt]) (fun u : (Nat → Int32) × (Nat → Int32) × (Nat → Int32) × Int32 => (wfl [cX qx qn qp qw qt qu qd qh ql, cWy qw cI u.1 u.2.1 u.2.2.1 u.2.2.2, cSt qa cI o1.se o1.la o1.de o1.le o1.sa o1.fl o1.ar o1.dr o1.pe o1.ri, cPl qb cI o2.od o2.rd o2.vn o2.pn o2.ao o2.sr o2.sp o2.wt])) (pI (fun (r : Int32) (u : (Nat → Int32) × (Nat → Int32) × (Nat → Int32) × Int32) => P r u.1 u.2.1 u.2.2.1 u.2.2.2)) 0 0 := by
  refine ct_of RX5 rfl (by decide +kernel) (Nat.le_of_ble_eq_true rfl) (fun zp ze zs zm zb zt zc A hin κ => ?_)
  unfold wp_X5_lastAtDoor at h
  refine gw_nf (lv' := [(0, .ref (qx 0)), (1, .ref (qa 0)), (2, .ref (qb 0))]) (pc' := 0) (st' := []) (ce' := 0) (sl' := 0) rfl rfl rfl rfl rfl rfl ?_
  refine gw_bipush (pc' := 2) (v := -106) κ dX5_lastAtDoor_0 rfl (by decide) ?_
  refine gw_istore_n (pc' := 3) κ dX5_lastAtDoor_2 rfl rfl (by decide) (lv' := [(3, .int (-106 : Int32)), (0, .ref (qx 0)), (1, .ref (qa 0)), (2, .ref (qb 0))]) rfl ?_
  refine gw_iconst (pc' := 4) (v := 0) κ dX5_lastAtDoor_3 rfl (by decide) ?_
  refine gw_istore (pc' := 6) κ dX5_lastAtDoor_4 rfl (by decide) (lv' := [(4, .int (0 : Int32)), (3, .int (-106 : Int32)), (0, .ref (qx 0)), (1, .ref (qa 0)), (2, .ref (qb 0))]) rfl ?_
  obtain ⟨m6, h⟩ := h
  refine gw_lv (lv' := [(0, .ref (qx 0)), (1, .ref (qa 0)), (2, .ref (qb 0)), (3, .int (-106 : Int32)), (4, .int (0 : Int32))]) [2, 3, 4, 1, 0] rfl ?_
  exact k_X5_lastAtDoor_6 κ qx qn qp qw qt qu qd qh ql qa qb qs P way o1 o2 m6 (-106 : Int32) (0 : Int32) way.ky way.wp way.mi way.so h
theorem hy_X5_count : g_hy yX5_count 1 := by decide +kernel
set_option maxHeartbeats 4000000 in
set_option maxRecDepth 100000 in
theorem c_X5_count {l : Launch} {D : va_G} {cI cR : ClassId}  (qx : Nat → Nat) (qn : Nat → Nat) (qp : Nat → Nat) (qw : Nat → Nat) (qt : Nat → Nat) (qu : Nat → Nat) (qd : Nat → Nat) (qh : Nat → Nat) (ql : Nat → Nat) (qs : Nat → Nat → Nat) {P : Int32 → (Nat → Int32) → (Nat → Int32) → (Nat → Int32) → Int32 → Prop} (now : StT) (pln : PlT) (way : WyT) (pad : PdT) (his : HiT) (x1 : Int32) (h : wp_X5_count P now pln way pad his x1) : CT l D cI cR yX5_count cX5_count 2 (some .int) ({ frames := 5, cells := 0, slots := 0, locals := 118 } : Room) [.ref (qx 0), .int x1] (wfl [cX qx qn qp qw qt qu qd qh ql, cSt qn cI now.se now.la now.de now.le now.sa now.fl now.ar now.dr now.pe now.ri, cPl qp cI pln.od pln.rd pln.vn pln.pn pln.ao pln.sr pln.sp pln.wt, cWy qw cI way.ky way.wp way.mi way.so, cPd qd cI pad.co pad.ln, cHi qh qs cR his.ol his.sz, cSt (qs 0) cI (his.hs 0).se (his.hs 0).la (his.hs 0).de (his.hs 0).le (his.hs 0).sa (his.hs 0).fl (his.hs 0).ar (his.hs 0).dr (his.hs 0).pe (his.hs 0).ri, cSt (qs 1) cI (his.hs 1).se (his.hs 1).la (his.hs 1).de (his.hs 1).le (his.hs 1).sa (his.hs 1).fl (his.hs 1).ar (his.hs 1).dr (his.hs 1).pe (his.hs 1).ri, cSt (qs 2) cI (his.hs 2).se (his.hs 2).la (his.hs 2).de (his.hs 2).le (his.hs 2).sa (his.hs 2).fl (his.hs 2).ar (his.hs 2).dr (his.hs 2).pe (his.hs 2).ri, cSt (qs 3) cI (his.hs 3).se (his.hs 3).la (his.hs 3).de (his.hs 3).le (his.hs 3).sa (his.hs 3).fl (his.hs 3).ar (his.hs 3).dr (his.hs 3).pe (his.hs 3).ri, cSt (qs 4) cI (his.hs 4).se (his.hs 4).la (his.hs 4).de (his.hs 4).le (his.hs 4).sa (his.hs 4).fl (his.hs 4).ar (his.hs 4).dr (his.hs 4).pe (his.hs 4).ri, cSt (qs 5) cI (his.hs 5).se (his.hs 5).la (his.hs 5).de (his.hs 5).le (his.hs 5).sa (his.hs 5).fl (his.hs 5).ar (his.hs 5).dr (his.hs 5).pe (his.hs 5).ri]) (fun u : (Nat → Int32) × (Nat → Int32) × (Nat → Int32) × Int32 => (wfl [cX qx qn qp qw qt qu qd qh ql, cSt qn cI now.se now.la now.de now.le now.sa now.fl now.ar now.dr now.pe now.ri, cPl qp cI pln.od pln.rd pln.vn pln.pn pln.ao pln.sr pln.sp pln.wt, cWy qw cI u.1 u.2.1 u.2.2.1 u.2.2.2, cPd qd cI pad.co pad.ln, cHi qh qs cR his.ol his.sz, cSt (qs 0) cI (his.hs 0).se (his.hs 0).la (his.hs 0).de (his.hs 0).le (his.hs 0).sa (his.hs 0).fl (his.hs 0).ar (his.hs 0).dr (his.hs 0).pe (his.hs 0).ri, cSt (qs 1) cI (his.hs 1).se (his.hs 1).la (his.hs 1).de (his.hs 1).le (his.hs 1).sa (his.hs 1).fl (his.hs 1).ar (his.hs 1).dr (his.hs 1).pe (his.hs 1).ri, cSt (qs 2) cI (his.hs 2).se (his.hs 2).la (his.hs 2).de (his.hs 2).le (his.hs 2).sa (his.hs 2).fl (his.hs 2).ar (his.hs 2).dr (his.hs 2).pe (his.hs 2).ri, cSt (qs 3) cI (his.hs 3).se (his.hs 3).la (his.hs 3).de (his.hs 3).le (his.hs 3).sa (his.hs 3).fl (his.hs 3).ar (his.hs 3).dr (his.hs 3).pe (his.hs 3).ri, cSt (qs 4) cI (his.hs 4).se (his.hs 4).la (his.hs 4).de (his.hs 4).le (his.hs 4).sa (his.hs 4).fl (his.hs 4).ar (his.hs 4).dr (his.hs 4).pe (his.hs 4).ri, cSt (qs 5) cI (his.hs 5).se (his.hs 5).la (his.hs 5).de (his.hs 5).le (his.hs 5).sa (his.hs 5).fl (his.hs 5).ar (his.hs 5).dr (his.hs 5).pe (his.hs 5).ri])) (pI (fun (r : Int32) (u : (Nat → Int32) × (Nat → Int32) × (Nat → Int32) × Int32) => P r u.1 u.2.1 u.2.2.1 u.2.2.2)) 0 0 := by
  refine ct_of RX5 rfl (by decide +kernel) (Nat.le_of_ble_eq_true rfl) (fun zp ze zs zm zb zt zc A hin κ => ?_)
  unfold wp_X5_count at h
  refine gw_nf (lv' := [(0, .ref (qx 0)), (1, .int x1)]) (pc' := 0) (st' := []) (ce' := 0) (sl' := 0) rfl rfl rfl rfl rfl rfl ?_
  refine gw_iload_n (pc' := 1) κ dX5_count_0 rfl 1 rfl rfl ?_
  refine gw_iconst (pc' := 2) (v := 0) κ dX5_count_1 rfl (by decide) ?_
  refine gw_iconst (pc' := 3) (v := 4) κ dX5_count_2 rfl (by decide) ?_
  refine gb_callS (rest := []) κ (c_X5_isIn  x1 (0 : Int32) (4 : Int32) h) ⟨rfl, rfl, Nat.le_of_ble_eq_true rfl, Nat.le_of_ble_eq_true rfl⟩ tw_ml_X5_54 tw_st_X5_isIn tw_co_X5_isIn tw_in_X5 hy_X5_isIn rfl (Nat.le_of_ble_eq_true rfl) rfl dX5_count_3 [] rfl (by decide) (fun _ => Nat.le_of_ble_eq_true rfl) ⟨Nat.le_of_ble_eq_true rfl, Nat.le_of_ble_eq_true rfl⟩ (fun v u hv => ?_)
  obtain ⟨r_1, rfl, h⟩ := hv
  refine gw_nf (ws' := (wfl [cX qx qn qp qw qt qu qd qh ql, cSt qn cI now.se now.la now.de now.le now.sa now.fl now.ar now.dr now.pe now.ri, cPl qp cI pln.od pln.rd pln.vn pln.pn pln.ao pln.sr pln.sp pln.wt, cWy qw cI way.ky way.wp way.mi way.so, cPd qd cI pad.co pad.ln, cHi qh qs cR his.ol his.sz, cSt (qs 0) cI (his.hs 0).se (his.hs 0).la (his.hs 0).de (his.hs 0).le (his.hs 0).sa (his.hs 0).fl (his.hs 0).ar (his.hs 0).dr (his.hs 0).pe (his.hs 0).ri, cSt (qs 1) cI (his.hs 1).se (his.hs 1).la (his.hs 1).de (his.hs 1).le (his.hs 1).sa (his.hs 1).fl (his.hs 1).ar (his.hs 1).dr (his.hs 1).pe (his.hs 1).ri, cSt (qs 2) cI (his.hs 2).se (his.hs 2).la (his.hs 2).de (his.hs 2).le (his.hs 2).sa (his.hs 2).fl (his.hs 2).ar (his.hs 2).dr (his.hs 2).pe (his.hs 2).ri, cSt (qs 3) cI (his.hs 3).se (his.hs 3).la (his.hs 3).de (his.hs 3).le (his.hs 3).sa (his.hs 3).fl (his.hs 3).ar (his.hs 3).dr (his.hs 3).pe (his.hs 3).ri, cSt (qs 4) cI (his.hs 4).se (his.hs 4).la (his.hs 4).de (his.hs 4).le (his.hs 4).sa (his.hs 4).fl (his.hs 4).ar (his.hs 4).dr (his.hs 4).pe (his.hs 4).ri, cSt (qs 5) cI (his.hs 5).se (his.hs 5).la (his.hs 5).de (his.hs 5).le (his.hs 5).sa (his.hs 5).fl (his.hs 5).ar (his.hs 5).dr (his.hs 5).pe (his.hs 5).ri])) (lv' := [(0, .ref (qx 0)), (1, .int x1)]) (st' := [.int r_1]) (pc' := 6) (ce' := 0) (sl' := 0) rfl rfl rfl rfl rfl rfl ?_
  refine gw_if_eq (pc' := 9) (tgt := 19) κ dX5_count_6 rfl (by decide) (fun hc_2 => ?_) (fun hc_2 => ?_)
  · have h := h.1 hc_2
    refine gw_iload_n (pc' := 20) κ dX5_count_19 rfl 1 rfl rfl ?_
    obtain ⟨hc_3_5, hc_3_6, hc_3_7, hc_3_8, hc_3_9, hc_3_10, hc_3_11, hc_3_12, hc_3_13, hc_3_14, hc_3_15, hc_3d⟩ := h
    by_cases hc_3c_5 : x1 = 5
    · have h := hc_3_5 hc_3c_5
      refine gw_tableIn (tgt := 80) (off := 60) κ dX5_count_20 (by rw [hc_3c_5]; decide) (by rw [hc_3c_5]; decide) (by rw [hc_3c_5]; decide +kernel) (by decide) ?_
      refine gw_aload_n (pc' := 81) κ dX5_count_80 rfl 0 rfl rfl ?_
      refine gb_get (pc' := 84) (C := RX5) (T := TX5) (N := 8) κ dX5_count_81 rfl inX5 0 rfl rfl rfl 0 (by decide) tw_fl_X5_10 rfl ?_
      refine gb_get (pc' := 87) (C := RX3) (T := TX3) (N := 10) κ dX5_count_84 rfl inX3 1 rfl rfl rfl 9 (by decide) tw_fl_X5_105 rfl ?_
      exact gw_iret κ dX5_count_87 (way.ky, way.wp, way.mi, way.so) rfl ⟨_, rfl, h⟩
    by_cases hc_3c_6 : x1 = 6
    · have h := hc_3_6 hc_3c_6
      refine gw_tableIn (tgt := 88) (off := 68) κ dX5_count_20 (by rw [hc_3c_6]; decide) (by rw [hc_3c_6]; decide) (by rw [hc_3c_6]; decide +kernel) (by decide) ?_
      refine gw_aload_n (pc' := 89) κ dX5_count_88 rfl 0 rfl rfl ?_
      refine gb_get (pc' := 92) (C := RX5) (T := TX5) (N := 8) κ dX5_count_89 rfl inX5 0 rfl rfl rfl 0 (by decide) tw_fl_X5_10 rfl ?_
      refine gb_callV (ci := 3) (qb := 1) (rest := []) κ (c_X3_allPeople qn now h) ⟨rfl, rfl, Nat.le_of_ble_eq_true rfl, Nat.le_of_ble_eq_true rfl⟩ tw_ml_X5_202 tw_im_X3_allPeople tw_se_X3_allPeople tw_co_X3_allPeople tw_in_X3 hy_X3_allPeople rfl rfl rfl rfl rfl (Nat.le_of_ble_eq_true rfl) rfl dX5_count_92 [1] rfl (by decide) (fun _ => Nat.le_of_ble_eq_true rfl) ⟨Nat.le_of_ble_eq_true rfl, Nat.le_of_ble_eq_true rfl⟩ (fun v u hv => ?_)
      obtain ⟨r_4, rfl, h⟩ := hv
      refine gw_nf (ws' := (wfl [cX qx qn qp qw qt qu qd qh ql, cSt qn cI now.se now.la now.de now.le now.sa now.fl now.ar now.dr now.pe now.ri, cPl qp cI pln.od pln.rd pln.vn pln.pn pln.ao pln.sr pln.sp pln.wt, cWy qw cI way.ky way.wp way.mi way.so, cPd qd cI pad.co pad.ln, cHi qh qs cR his.ol his.sz, cSt (qs 0) cI (his.hs 0).se (his.hs 0).la (his.hs 0).de (his.hs 0).le (his.hs 0).sa (his.hs 0).fl (his.hs 0).ar (his.hs 0).dr (his.hs 0).pe (his.hs 0).ri, cSt (qs 1) cI (his.hs 1).se (his.hs 1).la (his.hs 1).de (his.hs 1).le (his.hs 1).sa (his.hs 1).fl (his.hs 1).ar (his.hs 1).dr (his.hs 1).pe (his.hs 1).ri, cSt (qs 2) cI (his.hs 2).se (his.hs 2).la (his.hs 2).de (his.hs 2).le (his.hs 2).sa (his.hs 2).fl (his.hs 2).ar (his.hs 2).dr (his.hs 2).pe (his.hs 2).ri, cSt (qs 3) cI (his.hs 3).se (his.hs 3).la (his.hs 3).de (his.hs 3).le (his.hs 3).sa (his.hs 3).fl (his.hs 3).ar (his.hs 3).dr (his.hs 3).pe (his.hs 3).ri, cSt (qs 4) cI (his.hs 4).se (his.hs 4).la (his.hs 4).de (his.hs 4).le (his.hs 4).sa (his.hs 4).fl (his.hs 4).ar (his.hs 4).dr (his.hs 4).pe (his.hs 4).ri, cSt (qs 5) cI (his.hs 5).se (his.hs 5).la (his.hs 5).de (his.hs 5).le (his.hs 5).sa (his.hs 5).fl (his.hs 5).ar (his.hs 5).dr (his.hs 5).pe (his.hs 5).ri])) (lv' := [(0, .ref (qx 0)), (1, .int x1)]) (st' := [.int r_4]) (pc' := 95) (ce' := 0) (sl' := 0) rfl rfl rfl rfl rfl rfl ?_
      exact gw_iret κ dX5_count_95 (way.ky, way.wp, way.mi, way.so) rfl ⟨_, rfl, h⟩
    by_cases hc_3c_7 : x1 = 7
    · have h := hc_3_7 hc_3c_7
      refine gw_tableIn (tgt := 96) (off := 76) κ dX5_count_20 (by rw [hc_3c_7]; decide) (by rw [hc_3c_7]; decide) (by rw [hc_3c_7]; decide +kernel) (by decide) ?_
      refine gw_aload_n (pc' := 97) κ dX5_count_96 rfl 0 rfl rfl ?_
      refine gb_get (pc' := 100) (C := RX5) (T := TX5) (N := 8) κ dX5_count_97 rfl inX5 0 rfl rfl rfl 1 (by decide) tw_fl_X5_19 rfl ?_
      refine gb_get (pc' := 103) (C := RX2) (T := TX2) (N := 8) κ dX5_count_100 rfl inX2 2 rfl rfl rfl 5 (by decide) tw_fl_X5_205 rfl ?_
      exact gw_iret κ dX5_count_103 (way.ky, way.wp, way.mi, way.so) rfl ⟨_, rfl, h⟩
    by_cases hc_3c_8 : x1 = 8
    · have h := hc_3_8 hc_3c_8
      refine gw_tableIn (tgt := 104) (off := 84) κ dX5_count_20 (by rw [hc_3c_8]; decide) (by rw [hc_3c_8]; decide) (by rw [hc_3c_8]; decide +kernel) (by decide) ?_
      refine gw_aload_n (pc' := 105) κ dX5_count_104 rfl 0 rfl rfl ?_
      refine gb_get (pc' := 108) (C := RX5) (T := TX5) (N := 8) κ dX5_count_105 rfl inX5 0 rfl rfl rfl 1 (by decide) tw_fl_X5_19 rfl ?_
      refine gb_get (pc' := 111) (C := RX2) (T := TX2) (N := 8) κ dX5_count_108 rfl inX2 2 rfl rfl rfl 6 (by decide) tw_fl_X5_101 rfl ?_
      exact gw_iret κ dX5_count_111 (way.ky, way.wp, way.mi, way.so) rfl ⟨_, rfl, h⟩
    by_cases hc_3c_9 : x1 = 9
    · have h := hc_3_9 hc_3c_9
      refine gw_tableIn (tgt := 112) (off := 92) κ dX5_count_20 (by rw [hc_3c_9]; decide) (by rw [hc_3c_9]; decide) (by rw [hc_3c_9]; decide +kernel) (by decide) ?_
      refine gw_aload_n (pc' := 113) κ dX5_count_112 rfl 0 rfl rfl ?_
      refine gb_get (pc' := 116) (C := RX5) (T := TX5) (N := 8) κ dX5_count_113 rfl inX5 0 rfl rfl rfl 1 (by decide) tw_fl_X5_19 rfl ?_
      refine gb_get (pc' := 119) (C := RX2) (T := TX2) (N := 8) κ dX5_count_116 rfl inX2 2 rfl rfl rfl 7 (by decide) tw_fl_X5_208 rfl ?_
      exact gw_iret κ dX5_count_119 (way.ky, way.wp, way.mi, way.so) rfl ⟨_, rfl, h⟩
    by_cases hc_3c_10 : x1 = 10
    · have h := hc_3_10 hc_3c_10
      refine gw_tableIn (tgt := 120) (off := 100) κ dX5_count_20 (by rw [hc_3c_10]; decide) (by rw [hc_3c_10]; decide) (by rw [hc_3c_10]; decide +kernel) (by decide) ?_
      refine gw_aload_n (pc' := 121) κ dX5_count_120 rfl 0 rfl rfl ?_
      refine gb_callV (ci := 5) (qb := 0) (rest := []) κ (c_X5_allFares qx qn qp qw qt qu qd qh ql qs now pln h) ⟨rfl, rfl, Nat.le_of_ble_eq_true rfl, Nat.le_of_ble_eq_true rfl⟩ tw_ml_X5_211 tw_im_X5_allFares tw_se_X5_allFares tw_co_X5_allFares tw_in_X5 hy_X5_allFares rfl rfl rfl rfl rfl (Nat.le_of_ble_eq_true rfl) rfl dX5_count_121 [0, 1, 2] rfl (by decide) (fun _ => Nat.le_of_ble_eq_true rfl) ⟨Nat.le_of_ble_eq_true rfl, Nat.le_of_ble_eq_true rfl⟩ (fun v u hv => ?_)
      obtain ⟨r_5, rfl, h⟩ := hv
      refine gw_nf (ws' := (wfl [cX qx qn qp qw qt qu qd qh ql, cSt qn cI now.se now.la now.de now.le now.sa now.fl now.ar now.dr now.pe now.ri, cPl qp cI pln.od pln.rd pln.vn pln.pn pln.ao pln.sr pln.sp pln.wt, cWy qw cI way.ky way.wp way.mi way.so, cPd qd cI pad.co pad.ln, cHi qh qs cR his.ol his.sz, cSt (qs 0) cI (his.hs 0).se (his.hs 0).la (his.hs 0).de (his.hs 0).le (his.hs 0).sa (his.hs 0).fl (his.hs 0).ar (his.hs 0).dr (his.hs 0).pe (his.hs 0).ri, cSt (qs 1) cI (his.hs 1).se (his.hs 1).la (his.hs 1).de (his.hs 1).le (his.hs 1).sa (his.hs 1).fl (his.hs 1).ar (his.hs 1).dr (his.hs 1).pe (his.hs 1).ri, cSt (qs 2) cI (his.hs 2).se (his.hs 2).la (his.hs 2).de (his.hs 2).le (his.hs 2).sa (his.hs 2).fl (his.hs 2).ar (his.hs 2).dr (his.hs 2).pe (his.hs 2).ri, cSt (qs 3) cI (his.hs 3).se (his.hs 3).la (his.hs 3).de (his.hs 3).le (his.hs 3).sa (his.hs 3).fl (his.hs 3).ar (his.hs 3).dr (his.hs 3).pe (his.hs 3).ri, cSt (qs 4) cI (his.hs 4).se (his.hs 4).la (his.hs 4).de (his.hs 4).le (his.hs 4).sa (his.hs 4).fl (his.hs 4).ar (his.hs 4).dr (his.hs 4).pe (his.hs 4).ri, cSt (qs 5) cI (his.hs 5).se (his.hs 5).la (his.hs 5).de (his.hs 5).le (his.hs 5).sa (his.hs 5).fl (his.hs 5).ar (his.hs 5).dr (his.hs 5).pe (his.hs 5).ri])) (lv' := [(0, .ref (qx 0)), (1, .int x1)]) (st' := [.int r_5]) (pc' := 124) (ce' := 0) (sl' := 0) rfl rfl rfl rfl rfl rfl ?_
      exact gw_iret κ dX5_count_124 (way.ky, way.wp, way.mi, way.so) rfl ⟨_, rfl, h⟩
    by_cases hc_3c_11 : x1 = 11
    · have h := hc_3_11 hc_3c_11
      refine gw_tableIn (tgt := 125) (off := 105) κ dX5_count_20 (by rw [hc_3c_11]; decide) (by rw [hc_3c_11]; decide) (by rw [hc_3c_11]; decide +kernel) (by decide) ?_
      refine gw_aload_n (pc' := 126) κ dX5_count_125 rfl 0 rfl rfl ?_
      refine gb_get (pc' := 129) (C := RX5) (T := TX5) (N := 8) κ dX5_count_126 rfl inX5 0 rfl rfl rfl 1 (by decide) tw_fl_X5_19 rfl ?_
      refine gb_callV (ci := 2) (qb := 2) (rest := []) κ (c_X2_vansWithRiders qp pln h) ⟨rfl, rfl, Nat.le_of_ble_eq_true rfl, Nat.le_of_ble_eq_true rfl⟩ tw_ml_X5_214 tw_im_X2_vansWithRiders tw_se_X2_vansWithRiders tw_co_X2_vansWithRiders tw_in_X2 hy_X2_vansWithRiders rfl rfl rfl rfl rfl (Nat.le_of_ble_eq_true rfl) rfl dX5_count_129 [2] rfl (by decide) (fun _ => Nat.le_of_ble_eq_true rfl) ⟨Nat.le_of_ble_eq_true rfl, Nat.le_of_ble_eq_true rfl⟩ (fun v u hv => ?_)
      obtain ⟨r_6, rfl, h⟩ := hv
      refine gw_nf (ws' := (wfl [cX qx qn qp qw qt qu qd qh ql, cSt qn cI now.se now.la now.de now.le now.sa now.fl now.ar now.dr now.pe now.ri, cPl qp cI pln.od pln.rd pln.vn pln.pn pln.ao pln.sr pln.sp pln.wt, cWy qw cI way.ky way.wp way.mi way.so, cPd qd cI pad.co pad.ln, cHi qh qs cR his.ol his.sz, cSt (qs 0) cI (his.hs 0).se (his.hs 0).la (his.hs 0).de (his.hs 0).le (his.hs 0).sa (his.hs 0).fl (his.hs 0).ar (his.hs 0).dr (his.hs 0).pe (his.hs 0).ri, cSt (qs 1) cI (his.hs 1).se (his.hs 1).la (his.hs 1).de (his.hs 1).le (his.hs 1).sa (his.hs 1).fl (his.hs 1).ar (his.hs 1).dr (his.hs 1).pe (his.hs 1).ri, cSt (qs 2) cI (his.hs 2).se (his.hs 2).la (his.hs 2).de (his.hs 2).le (his.hs 2).sa (his.hs 2).fl (his.hs 2).ar (his.hs 2).dr (his.hs 2).pe (his.hs 2).ri, cSt (qs 3) cI (his.hs 3).se (his.hs 3).la (his.hs 3).de (his.hs 3).le (his.hs 3).sa (his.hs 3).fl (his.hs 3).ar (his.hs 3).dr (his.hs 3).pe (his.hs 3).ri, cSt (qs 4) cI (his.hs 4).se (his.hs 4).la (his.hs 4).de (his.hs 4).le (his.hs 4).sa (his.hs 4).fl (his.hs 4).ar (his.hs 4).dr (his.hs 4).pe (his.hs 4).ri, cSt (qs 5) cI (his.hs 5).se (his.hs 5).la (his.hs 5).de (his.hs 5).le (his.hs 5).sa (his.hs 5).fl (his.hs 5).ar (his.hs 5).dr (his.hs 5).pe (his.hs 5).ri])) (lv' := [(0, .ref (qx 0)), (1, .int x1)]) (st' := [.int r_6]) (pc' := 132) (ce' := 0) (sl' := 0) rfl rfl rfl rfl rfl rfl ?_
      exact gw_iret κ dX5_count_132 (way.ky, way.wp, way.mi, way.so) rfl ⟨_, rfl, h⟩
    by_cases hc_3c_12 : x1 = 12
    · have h := hc_3_12 hc_3c_12
      refine gw_tableIn (tgt := 133) (off := 113) κ dX5_count_20 (by rw [hc_3c_12]; decide) (by rw [hc_3c_12]; decide) (by rw [hc_3c_12]; decide +kernel) (by decide) ?_
      refine gw_aload_n (pc' := 134) κ dX5_count_133 rfl 0 rfl rfl ?_
      refine gb_callV (ci := 5) (qb := 0) (rest := []) κ (c_X5_allStops qx qn qp qw qt qu qd qh ql qs now pln way h) ⟨rfl, rfl, Nat.le_of_ble_eq_true rfl, Nat.le_of_ble_eq_true rfl⟩ tw_ml_X5_217 tw_im_X5_allStops tw_se_X5_allStops tw_co_X5_allStops tw_in_X5 hy_X5_allStops rfl rfl rfl rfl rfl (Nat.le_of_ble_eq_true rfl) rfl dX5_count_134 [0, 1, 2, 3] rfl (by decide) (fun _ => Nat.le_of_ble_eq_true rfl) ⟨Nat.le_of_ble_eq_true rfl, Nat.le_of_ble_eq_true rfl⟩ (fun v u hv => ?_)
      obtain ⟨r_11, rfl, h⟩ := hv
      obtain ⟨ky_7, wp_8, mi_9, so_10⟩ := u
      refine gw_nf (ws' := (wfl [cX qx qn qp qw qt qu qd qh ql, cSt qn cI now.se now.la now.de now.le now.sa now.fl now.ar now.dr now.pe now.ri, cPl qp cI pln.od pln.rd pln.vn pln.pn pln.ao pln.sr pln.sp pln.wt, cWy qw cI ky_7 wp_8 mi_9 so_10, cPd qd cI pad.co pad.ln, cHi qh qs cR his.ol his.sz, cSt (qs 0) cI (his.hs 0).se (his.hs 0).la (his.hs 0).de (his.hs 0).le (his.hs 0).sa (his.hs 0).fl (his.hs 0).ar (his.hs 0).dr (his.hs 0).pe (his.hs 0).ri, cSt (qs 1) cI (his.hs 1).se (his.hs 1).la (his.hs 1).de (his.hs 1).le (his.hs 1).sa (his.hs 1).fl (his.hs 1).ar (his.hs 1).dr (his.hs 1).pe (his.hs 1).ri, cSt (qs 2) cI (his.hs 2).se (his.hs 2).la (his.hs 2).de (his.hs 2).le (his.hs 2).sa (his.hs 2).fl (his.hs 2).ar (his.hs 2).dr (his.hs 2).pe (his.hs 2).ri, cSt (qs 3) cI (his.hs 3).se (his.hs 3).la (his.hs 3).de (his.hs 3).le (his.hs 3).sa (his.hs 3).fl (his.hs 3).ar (his.hs 3).dr (his.hs 3).pe (his.hs 3).ri, cSt (qs 4) cI (his.hs 4).se (his.hs 4).la (his.hs 4).de (his.hs 4).le (his.hs 4).sa (his.hs 4).fl (his.hs 4).ar (his.hs 4).dr (his.hs 4).pe (his.hs 4).ri, cSt (qs 5) cI (his.hs 5).se (his.hs 5).la (his.hs 5).de (his.hs 5).le (his.hs 5).sa (his.hs 5).fl (his.hs 5).ar (his.hs 5).dr (his.hs 5).pe (his.hs 5).ri])) (lv' := [(0, .ref (qx 0)), (1, .int x1)]) (st' := [.int r_11]) (pc' := 137) (ce' := 0) (sl' := 0) rfl rfl rfl rfl rfl rfl ?_
      exact gw_iret κ dX5_count_137 (ky_7, wp_8, mi_9, so_10) rfl ⟨_, rfl, h⟩
    by_cases hc_3c_13 : x1 = 13
    · have h := hc_3_13 hc_3c_13
      refine gw_tableIn (tgt := 138) (off := 118) κ dX5_count_20 (by rw [hc_3c_13]; decide) (by rw [hc_3c_13]; decide) (by rw [hc_3c_13]; decide +kernel) (by decide) ?_
      refine gw_aload_n (pc' := 139) κ dX5_count_138 rfl 0 rfl rfl ?_
      refine gw_aload_n (pc' := 140) κ dX5_count_139 rfl 0 rfl rfl ?_
      refine gb_get (pc' := 143) (C := RX5) (T := TX5) (N := 8) κ dX5_count_140 rfl inX5 0 rfl rfl rfl 0 (by decide) tw_fl_X5_10 rfl ?_
      refine gw_aload_n (pc' := 144) κ dX5_count_143 rfl 0 rfl rfl ?_
      refine gb_get (pc' := 147) (C := RX5) (T := TX5) (N := 8) κ dX5_count_144 rfl inX5 0 rfl rfl rfl 1 (by decide) tw_fl_X5_19 rfl ?_
      refine gb_callV (ci := 5) (qb := 0) (rest := []) κ (c_X5_lastAtDoor qx qn qp qw qt qu qd qh ql qn qp qs way now pln h) ⟨rfl, rfl, Nat.le_of_ble_eq_true rfl, Nat.le_of_ble_eq_true rfl⟩ tw_ml_X5_220 tw_im_X5_lastAtDoor tw_se_X5_lastAtDoor tw_co_X5_lastAtDoor tw_in_X5 hy_X5_lastAtDoor rfl rfl rfl rfl rfl (Nat.le_of_ble_eq_true rfl) rfl dX5_count_147 [0, 3, 1, 2] rfl (by decide) (fun _ => Nat.le_of_ble_eq_true rfl) ⟨Nat.le_of_ble_eq_true rfl, Nat.le_of_ble_eq_true rfl⟩ (fun v u hv => ?_)
      obtain ⟨r_16, rfl, h⟩ := hv
      obtain ⟨ky_12, wp_13, mi_14, so_15⟩ := u
      refine gw_nf (ws' := (wfl [cX qx qn qp qw qt qu qd qh ql, cSt qn cI now.se now.la now.de now.le now.sa now.fl now.ar now.dr now.pe now.ri, cPl qp cI pln.od pln.rd pln.vn pln.pn pln.ao pln.sr pln.sp pln.wt, cWy qw cI ky_12 wp_13 mi_14 so_15, cPd qd cI pad.co pad.ln, cHi qh qs cR his.ol his.sz, cSt (qs 0) cI (his.hs 0).se (his.hs 0).la (his.hs 0).de (his.hs 0).le (his.hs 0).sa (his.hs 0).fl (his.hs 0).ar (his.hs 0).dr (his.hs 0).pe (his.hs 0).ri, cSt (qs 1) cI (his.hs 1).se (his.hs 1).la (his.hs 1).de (his.hs 1).le (his.hs 1).sa (his.hs 1).fl (his.hs 1).ar (his.hs 1).dr (his.hs 1).pe (his.hs 1).ri, cSt (qs 2) cI (his.hs 2).se (his.hs 2).la (his.hs 2).de (his.hs 2).le (his.hs 2).sa (his.hs 2).fl (his.hs 2).ar (his.hs 2).dr (his.hs 2).pe (his.hs 2).ri, cSt (qs 3) cI (his.hs 3).se (his.hs 3).la (his.hs 3).de (his.hs 3).le (his.hs 3).sa (his.hs 3).fl (his.hs 3).ar (his.hs 3).dr (his.hs 3).pe (his.hs 3).ri, cSt (qs 4) cI (his.hs 4).se (his.hs 4).la (his.hs 4).de (his.hs 4).le (his.hs 4).sa (his.hs 4).fl (his.hs 4).ar (his.hs 4).dr (his.hs 4).pe (his.hs 4).ri, cSt (qs 5) cI (his.hs 5).se (his.hs 5).la (his.hs 5).de (his.hs 5).le (his.hs 5).sa (his.hs 5).fl (his.hs 5).ar (his.hs 5).dr (his.hs 5).pe (his.hs 5).ri])) (lv' := [(0, .ref (qx 0)), (1, .int x1)]) (st' := [.int r_16]) (pc' := 150) (ce' := 0) (sl' := 0) rfl rfl rfl rfl rfl rfl ?_
      exact gw_iret κ dX5_count_150 (ky_12, wp_13, mi_14, so_15) rfl ⟨_, rfl, h⟩
    by_cases hc_3c_14 : x1 = 14
    · have h := hc_3_14 hc_3c_14
      refine gw_tableIn (tgt := 151) (off := 131) κ dX5_count_20 (by rw [hc_3c_14]; decide) (by rw [hc_3c_14]; decide) (by rw [hc_3c_14]; decide +kernel) (by decide) ?_
      refine gw_aload_n (pc' := 152) κ dX5_count_151 rfl 0 rfl rfl ?_
      refine gb_get (pc' := 155) (C := RX5) (T := TX5) (N := 8) κ dX5_count_152 rfl inX5 0 rfl rfl rfl 5 (by decide) tw_fl_X5_39 rfl ?_
      refine gb_get (pc' := 158) (C := RX1) (T := TX1) (N := 2) κ dX5_count_155 rfl inX1 4 rfl rfl rfl 1 (by decide) tw_fl_X5_122 rfl ?_
      exact gw_iret κ dX5_count_158 (way.ky, way.wp, way.mi, way.so) rfl ⟨_, rfl, h⟩
    by_cases hc_3c_15 : x1 = 15
    · have h := hc_3_15 hc_3c_15
      refine gw_tableIn (tgt := 159) (off := 139) κ dX5_count_20 (by rw [hc_3c_15]; decide) (by rw [hc_3c_15]; decide) (by rw [hc_3c_15]; decide +kernel) (by decide) ?_
      refine gw_aload_n (pc' := 160) κ dX5_count_159 rfl 0 rfl rfl ?_
      refine gb_get (pc' := 163) (C := RX5) (T := TX5) (N := 8) κ dX5_count_160 rfl inX5 0 rfl rfl rfl 6 (by decide) tw_fl_X5_46 rfl ?_
      refine gb_get (pc' := 166) (C := RX0) (T := TX0) (N := 3) κ dX5_count_163 rfl inX0 5 rfl rfl rfl 2 (by decide) tw_fl_X5_224 rfl ?_
      exact gw_iret κ dX5_count_166 (way.ky, way.wp, way.mi, way.so) rfl ⟨_, rfl, h⟩
    have h := hc_3d ⟨hc_3c_5, hc_3c_6, hc_3c_7, hc_3c_8, hc_3c_9, hc_3c_10, hc_3c_11, hc_3c_12, hc_3c_13, hc_3c_14, hc_3c_15⟩
    refine gw_tableOut (tgt := 167) κ dX5_count_20 (sw_out2 (x := x1) (lo := 5) (hi := 15) (by decide) (fun k h1 h2 => by rcases (show k = 5 ∨ k = 6 ∨ k = 7 ∨ k = 8 ∨ k = 9 ∨ k = 10 ∨ k = 11 ∨ k = 12 ∨ k = 13 ∨ k = 14 ∨ k = 15 by omega) with rfl | rfl | rfl | rfl | rfl | rfl | rfl | rfl | rfl | rfl | rfl <;> assumption)) (by decide) ?_
    refine gw_bipush (pc' := 169) (v := -102) κ dX5_count_167 rfl (by decide) ?_
    exact gw_iret κ dX5_count_169 (way.ky, way.wp, way.mi, way.so) rfl ⟨_, rfl, h⟩
  · have h := h.2 hc_2
    refine gw_aload_n (pc' := 10) κ dX5_count_9 rfl 0 rfl rfl ?_
    refine gb_get (pc' := 13) (C := RX5) (T := TX5) (N := 8) κ dX5_count_10 rfl inX5 0 rfl rfl rfl 0 (by decide) tw_fl_X5_10 rfl ?_
    refine gb_get (pc' := 16) (C := RX3) (T := TX3) (N := 10) κ dX5_count_13 rfl inX3 1 rfl rfl rfl 0 (by decide) tw_fl_X5_65 rfl ?_
    refine gw_iload_n (pc' := 17) κ dX5_count_16 rfl 1 rfl rfl ?_
    obtain ⟨hb_17, h⟩ := h
    refine gb_iald (pc' := 18) κ dX5_count_17 rfl 1 1 rfl rfl hb_17 ?_
    exact gw_iret κ dX5_count_18 (way.ky, way.wp, way.mi, way.so) rfl ⟨_, rfl, h⟩
theorem hy_X2_isAtKerb : g_hy yX2_isAtKerb 3 := by decide +kernel
set_option maxHeartbeats 4000000 in
set_option maxRecDepth 100000 in
theorem c_X2_isAtKerb {l : Launch} {D : va_G} {cI cR : ClassId}  (qa : Nat → Nat) (qb : Nat → Nat) {P : Int32 → Prop} (o0 : PlT) (o1 : StT) (x2 : Int32) (x3 : Int32) (h : wp_X2_isAtKerb P o0 o1 x2 x3) : CT l D cI cR yX2_isAtKerb cX2_isAtKerb 5 (some .boolean) ({ frames := 2, cells := 0, slots := 0, locals := 42 } : Room) [.ref (qa 0), .ref (qb 0), .int x2, .int x3] (wfl [cPl qa cI o0.od o0.rd o0.vn o0.pn o0.ao o0.sr o0.sp o0.wt, cSt qb cI o1.se o1.la o1.de o1.le o1.sa o1.fl o1.ar o1.dr o1.pe o1.ri]) (fun _ : Unit => (wfl [cPl qa cI o0.od o0.rd o0.vn o0.pn o0.ao o0.sr o0.sp o0.wt, cSt qb cI o1.se o1.la o1.de o1.le o1.sa o1.fl o1.ar o1.dr o1.pe o1.ri])) (pI (fun (r : Int32) (_ : Unit) => P r)) 0 0 := by
  refine ct_of RX2 rfl (by decide +kernel) (Nat.le_of_ble_eq_true rfl) (fun zp ze zs zm zb zt zc A hin κ => ?_)
  unfold wp_X2_isAtKerb at h
  refine gw_nf (lv' := [(0, .ref (qa 0)), (1, .ref (qb 0)), (2, .int x2), (3, .int x3)]) (pc' := 0) (st' := []) (ce' := 0) (sl' := 0) rfl rfl rfl rfl rfl rfl ?_
  refine gw_aload_n (pc' := 1) κ dX2_isAtKerb_0 rfl 0 rfl rfl ?_
  refine gb_get (pc' := 4) (C := RX2) (T := TX2) (N := 8) κ dX2_isAtKerb_1 rfl inX2 0 rfl rfl rfl 1 (by decide) tw_fl_X2_15 rfl ?_
  refine gw_iload_n (pc' := 5) κ dX2_isAtKerb_4 rfl 2 rfl rfl ?_
  obtain ⟨hb_1, h⟩ := h
  refine gb_iald (pc' := 6) κ dX2_isAtKerb_5 rfl 0 2 rfl rfl hb_1 ?_
  refine gw_iload_n (pc' := 7) κ dX2_isAtKerb_6 rfl 3 rfl rfl ?_
  refine gw_icmp_le (pc' := 10) (tgt := 12) κ dX2_isAtKerb_7 rfl (by decide) (fun hc_2 => ?_) (fun hc_2 => ?_)
  · have h := h.1 hc_2
    refine gw_aload_n (pc' := 13) κ dX2_isAtKerb_12 rfl 0 rfl rfl ?_
    refine gb_get (pc' := 16) (C := RX2) (T := TX2) (N := 8) κ dX2_isAtKerb_13 rfl inX2 0 rfl rfl rfl 2 (by decide) tw_fl_X2_18 rfl ?_
    refine gw_iload_n (pc' := 17) κ dX2_isAtKerb_16 rfl 2 rfl rfl ?_
    obtain ⟨hb_3, h⟩ := h
    refine gb_iald (pc' := 18) κ dX2_isAtKerb_17 rfl 0 3 rfl rfl hb_3 ?_
    refine gw_istore (pc' := 20) κ dX2_isAtKerb_18 rfl (by decide) (lv' := [(4, .int (o0.vn x2.toNatClampNeg)), (0, .ref (qa 0)), (1, .ref (qb 0)), (2, .int x2), (3, .int x3)]) rfl ?_
    refine gw_iload (pc' := 22) κ dX2_isAtKerb_20 rfl 0 rfl ?_
    refine gb_callSN (rest := []) κ (c_X5_isVan  (o0.vn x2.toNatClampNeg) h) ⟨rfl, rfl, Nat.le_of_ble_eq_true rfl, Nat.le_of_ble_eq_true rfl⟩ κ.2.2.2.1.2.2.2.2.2.2.2.2.1 tw_st_X5_isVan tw_co_X5_isVan tw_in_X5 hy_X5_isVan rfl (Nat.le_of_ble_eq_true rfl) rfl dX2_isAtKerb_22 [] rfl (by decide) (fun _ => Nat.le_of_ble_eq_true rfl) ⟨Nat.le_of_ble_eq_true rfl, Nat.le_of_ble_eq_true rfl⟩ (fun v u hv => ?_)
    obtain ⟨r_4, rfl, h⟩ := hv
    refine gw_nf (ws' := (wfl [cPl qa cI o0.od o0.rd o0.vn o0.pn o0.ao o0.sr o0.sp o0.wt, cSt qb cI o1.se o1.la o1.de o1.le o1.sa o1.fl o1.ar o1.dr o1.pe o1.ri])) (lv' := [(4, .int (o0.vn x2.toNatClampNeg)), (0, .ref (qa 0)), (1, .ref (qb 0)), (2, .int x2), (3, .int x3)]) (st' := [.int r_4]) (pc' := 25) (ce' := 0) (sl' := 0) rfl rfl rfl rfl rfl rfl ?_
    refine gw_if_eq (pc' := 28) (tgt := 45) κ dX2_isAtKerb_25 rfl (by decide) (fun hc_5 => ?_) (fun hc_5 => ?_)
    · have h := h.1 hc_5
      refine gw_iload_n (pc' := 46) κ dX2_isAtKerb_45 rfl 4 rfl rfl ?_
      refine gw_aload_n (pc' := 47) κ dX2_isAtKerb_46 rfl 1 rfl rfl ?_
      refine gb_get (pc' := 50) (C := RX2) (T := TX2) (N := 8) κ dX2_isAtKerb_47 rfl inX2 0 rfl rfl rfl 1 (by decide) tw_fl_X2_15 rfl ?_
      refine gw_iload_n (pc' := 51) κ dX2_isAtKerb_50 rfl 3 rfl rfl ?_
      obtain ⟨hb_6, h⟩ := h
      refine gb_iald (pc' := 52) κ dX2_isAtKerb_51 rfl 0 2 rfl rfl hb_6 ?_
      refine gw_isub (pc' := 53) κ dX2_isAtKerb_52 rfl  ?_
      refine gw_aload_n (pc' := 54) κ dX2_isAtKerb_53 rfl 2 rfl rfl ?_
      refine gb_get (pc' := 57) (C := RX3) (T := TX3) (N := 10) κ dX2_isAtKerb_54 rfl inX3 1 rfl rfl rfl 0 (by decide) tw_fl_X2_78 rfl ?_
      refine gw_iconst (pc' := 58) (v := 1) κ dX2_isAtKerb_57 rfl (by decide) ?_
      refine gb_iald (pc' := 59) κ dX2_isAtKerb_58 rfl 1 1 rfl rfl (by unfold vp_in; decide) ?_
      refine gw_icmp_gt (pc' := 62) (tgt := 66) κ dX2_isAtKerb_59 rfl (by decide) (fun hc_8 => ?_) (fun hc_8 => ?_)
      · have h := h.1 hc_8
        refine gw_iconst (pc' := 67) (v := 0) κ dX2_isAtKerb_66 rfl (by decide) ?_
        exact gw_zret κ dX2_isAtKerb_67 () rfl rfl ⟨_, rfl, h⟩
      · have h := h.2 hc_8
        refine gw_iconst (pc' := 63) (v := 1) κ dX2_isAtKerb_62 rfl (by decide) ?_
        refine gw_goto (tgt := 67) κ dX2_isAtKerb_63 (by decide) ?_
        exact gw_zret κ dX2_isAtKerb_67 () rfl rfl ⟨_, rfl, h⟩
    · have h := h.2 hc_5
      refine gw_aload_n (pc' := 29) κ dX2_isAtKerb_28 rfl 2 rfl rfl ?_
      refine gb_get (pc' := 32) (C := RX3) (T := TX3) (N := 10) κ dX2_isAtKerb_29 rfl inX3 1 rfl rfl rfl 3 (by decide) tw_fl_X2_71 rfl ?_
      refine gw_iload (pc' := 34) κ dX2_isAtKerb_32 rfl 0 rfl ?_
      obtain ⟨hb_9, h⟩ := h
      refine gb_iald (pc' := 35) κ dX2_isAtKerb_34 rfl 1 4 rfl rfl hb_9 ?_
      refine gw_iload_n (pc' := 36) κ dX2_isAtKerb_35 rfl 4 rfl rfl ?_
      refine gw_icmp_le (pc' := 39) (tgt := 43) κ dX2_isAtKerb_36 rfl (by decide) (fun hc_10 => ?_) (fun hc_10 => ?_)
      · have h := h.1 hc_10
        refine gw_iconst (pc' := 44) (v := 0) κ dX2_isAtKerb_43 rfl (by decide) ?_
        exact gw_zret κ dX2_isAtKerb_44 () rfl rfl ⟨_, rfl, h⟩
      · have h := h.2 hc_10
        refine gw_iconst (pc' := 40) (v := 1) κ dX2_isAtKerb_39 rfl (by decide) ?_
        refine gw_goto (tgt := 44) κ dX2_isAtKerb_40 (by decide) ?_
        exact gw_zret κ dX2_isAtKerb_44 () rfl rfl ⟨_, rfl, h⟩
  · have h := h.2 hc_2
    refine gw_iconst (pc' := 11) (v := 0) κ dX2_isAtKerb_10 rfl (by decide) ?_
    exact gw_zret κ dX2_isAtKerb_11 () rfl rfl ⟨_, rfl, h⟩
theorem hy_X5_kerb : g_hy yX5_kerb 1 := by decide +kernel
set_option maxHeartbeats 4000000 in
set_option maxRecDepth 100000 in
theorem k_X5_kerb_18 {zp : Program} {l : Launch} {ze : Env} {zs : State} {zm : MethodId} {za : Array Value} {zb : List Frame} {zt : Method} {zc : Code} {D : va_G} {cI cR : ClassId} {A : Nat → Prop} (κ : KC zp zs zm za zt zc cX5_kerb 4 RX5 D cI cR A (some .int)) (qx : Nat → Nat) (qn : Nat → Nat) (qp : Nat → Nat) (qw : Nat → Nat) (qt : Nat → Nat) (qu : Nat → Nat) (qd : Nat → Nat) (qh : Nat → Nat) (ql : Nat → Nat) (qs : Nat → Nat → Nat) (P : Int32 → Prop) (now : StT) (pln : PlT) (x1 : Int32) : ∀ (n : Nat) (v2 : Int32) (v3 : Int32), wp_X5_kerb_18 P now pln x1 n v2 v3 → GM zp l ze ({ frames := 3, cells := 0, slots := 0, locals := 66 } : Room) zs zm za zb zt zc D A 4 (pI (fun (r : Int32) (_ : Unit) => P r)) (fun _ : Unit => (wfl [cX qx qn qp qw qt qu qd qh ql, cSt qn cI now.se now.la now.de now.le now.sa now.fl now.ar now.dr now.pe now.ri, cPl qp cI pln.od pln.rd pln.vn pln.pn pln.ao pln.sr pln.sp pln.wt])) 0 0 0 0 (wfl [cX qx qn qp qw qt qu qd qh ql, cSt qn cI now.se now.la now.de now.le now.sa now.fl now.ar now.dr now.pe now.ri, cPl qp cI pln.od pln.rd pln.vn pln.pn pln.ao pln.sr pln.sp pln.wt]) [(0, .ref (qx 0)), (1, .int x1), (2, .int v2), (3, .int v3)] 18 [] := by
  intro n18
  induction n18 with
  | zero => intro v2 v3 h; exact (show False from h).elim
  | succ n18 ih18 =>
    intro v2 v3 h
    have h : wp_X5_kerb_18F P now pln x1 (wp_X5_kerb_18 P now pln x1 n18) v2 v3 := h
    unfold wp_X5_kerb_18F at h
    refine gw_iload_n (pc' := 19) κ dX5_kerb_18 rfl 3 rfl rfl ?_
    refine gw_aload_n (pc' := 20) κ dX5_kerb_19 rfl 0 rfl rfl ?_
    refine gb_get (pc' := 23) (C := RX5) (T := TX5) (N := 8) κ dX5_kerb_20 rfl inX5 0 rfl rfl rfl 0 (by decide) tw_fl_X5_10 rfl ?_
    refine gb_get (pc' := 26) (C := RX3) (T := TX3) (N := 10) κ dX5_kerb_23 rfl inX3 1 rfl rfl rfl 9 (by decide) tw_fl_X5_105 rfl ?_
    refine gw_icmp_ge (pc' := 29) (tgt := 63) κ dX5_kerb_26 rfl (by decide) (fun hc_3 => ?_) (fun hc_3 => ?_)
    · have h := h.1 hc_3
      refine gw_iload_n (pc' := 64) κ dX5_kerb_63 rfl 2 rfl rfl ?_
      exact gw_iret κ dX5_kerb_64 () rfl ⟨_, rfl, h⟩
    · have h := h.2 hc_3
      refine gw_aload_n (pc' := 30) κ dX5_kerb_29 rfl 0 rfl rfl ?_
      refine gb_get (pc' := 33) (C := RX5) (T := TX5) (N := 8) κ dX5_kerb_30 rfl inX5 0 rfl rfl rfl 1 (by decide) tw_fl_X5_19 rfl ?_
      refine gw_aload_n (pc' := 34) κ dX5_kerb_33 rfl 0 rfl rfl ?_
      refine gb_get (pc' := 37) (C := RX5) (T := TX5) (N := 8) κ dX5_kerb_34 rfl inX5 0 rfl rfl rfl 0 (by decide) tw_fl_X5_10 rfl ?_
      refine gw_iload_n (pc' := 38) κ dX5_kerb_37 rfl 3 rfl rfl ?_
      refine gw_iload_n (pc' := 39) κ dX5_kerb_38 rfl 1 rfl rfl ?_
      refine gb_callV (ci := 2) (qb := 2) (rest := []) κ (c_X2_isAtKerb qp qn pln now v3 x1 h) ⟨rfl, rfl, Nat.le_of_ble_eq_true rfl, Nat.le_of_ble_eq_true rfl⟩ tw_ml_X5_227 tw_im_X2_isAtKerb tw_se_X2_isAtKerb tw_co_X2_isAtKerb tw_in_X2 hy_X2_isAtKerb rfl rfl rfl rfl rfl (Nat.le_of_ble_eq_true rfl) rfl dX5_kerb_39 [2, 1] rfl (by decide) (fun _ => Nat.le_of_ble_eq_true rfl) ⟨Nat.le_of_ble_eq_true rfl, Nat.le_of_ble_eq_true rfl⟩ (fun v u hv => ?_)
      obtain ⟨r_4, rfl, h⟩ := hv
      refine gw_nf (ws' := (wfl [cX qx qn qp qw qt qu qd qh ql, cSt qn cI now.se now.la now.de now.le now.sa now.fl now.ar now.dr now.pe now.ri, cPl qp cI pln.od pln.rd pln.vn pln.pn pln.ao pln.sr pln.sp pln.wt])) (lv' := [(0, .ref (qx 0)), (1, .int x1), (2, .int v2), (3, .int v3)]) (st' := [.int r_4]) (pc' := 42) (ce' := 0) (sl' := 0) rfl rfl rfl rfl rfl rfl ?_
      refine gw_if_eq (pc' := 45) (tgt := 57) κ dX5_kerb_42 rfl (by decide) (fun hc_5 => ?_) (fun hc_5 => ?_)
      · have h := h.1 hc_5
        refine gw_iinc (pc' := 60) κ dX5_kerb_57 rfl 3 rfl (v := (v3 + 1)) rfl (by decide) (lv' := [(3, .int (v3 + 1)), (0, .ref (qx 0)), (1, .int x1), (2, .int v2)]) rfl ?_
        refine gw_goto (tgt := 18) κ dX5_kerb_60 (by decide) ?_
        refine gw_lv (lv' := [(0, .ref (qx 0)), (1, .int x1), (2, .int v2), (3, .int (v3 + 1))]) [1, 2, 3, 0] rfl ?_
        exact ih18 v2 (v3 + 1) h
      · have h := h.2 hc_5
        refine gw_iload_n (pc' := 46) κ dX5_kerb_45 rfl 2 rfl rfl ?_
        refine gw_aload_n (pc' := 47) κ dX5_kerb_46 rfl 0 rfl rfl ?_
        refine gb_get (pc' := 50) (C := RX5) (T := TX5) (N := 8) κ dX5_kerb_47 rfl inX5 0 rfl rfl rfl 0 (by decide) tw_fl_X5_10 rfl ?_
        refine gb_get (pc' := 53) (C := RX3) (T := TX3) (N := 10) κ dX5_kerb_50 rfl inX3 1 rfl rfl rfl 8 (by decide) tw_fl_X5_148 rfl ?_
        refine gw_iload_n (pc' := 54) κ dX5_kerb_53 rfl 3 rfl rfl ?_
        obtain ⟨hb_6, h⟩ := h
        refine gb_iald (pc' := 55) κ dX5_kerb_54 rfl 1 9 rfl rfl hb_6 ?_
        refine gw_iadd (pc' := 56) κ dX5_kerb_55 rfl  ?_
        refine gw_istore_n (pc' := 57) κ dX5_kerb_56 rfl rfl (by decide) (lv' := [(2, .int (v2 + (now.pe v3.toNatClampNeg))), (0, .ref (qx 0)), (1, .int x1), (3, .int v3)]) rfl ?_
        refine gw_iinc (pc' := 60) κ dX5_kerb_57 rfl 3 rfl (v := (v3 + 1)) rfl (by decide) (lv' := [(3, .int (v3 + 1)), (2, .int (v2 + (now.pe v3.toNatClampNeg))), (0, .ref (qx 0)), (1, .int x1)]) rfl ?_
        refine gw_goto (tgt := 18) κ dX5_kerb_60 (by decide) ?_
        refine gw_lv (lv' := [(0, .ref (qx 0)), (1, .int x1), (2, .int (v2 + (now.pe v3.toNatClampNeg))), (3, .int (v3 + 1))]) [2, 3, 1, 0] rfl ?_
        exact ih18 (v2 + (now.pe v3.toNatClampNeg)) (v3 + 1) h
set_option maxHeartbeats 4000000 in
set_option maxRecDepth 100000 in
theorem c_X5_kerb {l : Launch} {D : va_G} {cI cR : ClassId}  (qx : Nat → Nat) (qn : Nat → Nat) (qp : Nat → Nat) (qw : Nat → Nat) (qt : Nat → Nat) (qu : Nat → Nat) (qd : Nat → Nat) (qh : Nat → Nat) (ql : Nat → Nat) (qs : Nat → Nat → Nat) {P : Int32 → Prop} (now : StT) (pln : PlT) (x1 : Int32) (h : wp_X5_kerb P now pln x1) : CT l D cI cR yX5_kerb cX5_kerb 4 (some .int) ({ frames := 3, cells := 0, slots := 0, locals := 66 } : Room) [.ref (qx 0), .int x1] (wfl [cX qx qn qp qw qt qu qd qh ql, cSt qn cI now.se now.la now.de now.le now.sa now.fl now.ar now.dr now.pe now.ri, cPl qp cI pln.od pln.rd pln.vn pln.pn pln.ao pln.sr pln.sp pln.wt]) (fun _ : Unit => (wfl [cX qx qn qp qw qt qu qd qh ql, cSt qn cI now.se now.la now.de now.le now.sa now.fl now.ar now.dr now.pe now.ri, cPl qp cI pln.od pln.rd pln.vn pln.pn pln.ao pln.sr pln.sp pln.wt])) (pI (fun (r : Int32) (_ : Unit) => P r)) 0 0 := by
  refine ct_of RX5 rfl (by decide +kernel) (Nat.le_of_ble_eq_true rfl) (fun zp ze zs zm zb zt zc A hin κ => ?_)
  unfold wp_X5_kerb at h
  refine gw_nf (lv' := [(0, .ref (qx 0)), (1, .int x1)]) (pc' := 0) (st' := []) (ce' := 0) (sl' := 0) rfl rfl rfl rfl rfl rfl ?_
  refine gw_iload_n (pc' := 1) κ dX5_kerb_0 rfl 1 rfl rfl ?_
  refine gw_iconst (pc' := 2) (v := 0) κ dX5_kerb_1 rfl (by decide) ?_
  refine gw_sipush (pc' := 5) (v := 3000) κ dX5_kerb_2 rfl (by decide) ?_
  refine gb_callS (rest := []) κ (c_X5_isIn  x1 (0 : Int32) (3000 : Int32) h) ⟨rfl, rfl, Nat.le_of_ble_eq_true rfl, Nat.le_of_ble_eq_true rfl⟩ tw_ml_X5_54 tw_st_X5_isIn tw_co_X5_isIn tw_in_X5 hy_X5_isIn rfl (Nat.le_of_ble_eq_true rfl) rfl dX5_kerb_5 [] rfl (by decide) (fun _ => Nat.le_of_ble_eq_true rfl) ⟨Nat.le_of_ble_eq_true rfl, Nat.le_of_ble_eq_true rfl⟩ (fun v u hv => ?_)
  obtain ⟨r_1, rfl, h⟩ := hv
  refine gw_nf (ws' := (wfl [cX qx qn qp qw qt qu qd qh ql, cSt qn cI now.se now.la now.de now.le now.sa now.fl now.ar now.dr now.pe now.ri, cPl qp cI pln.od pln.rd pln.vn pln.pn pln.ao pln.sr pln.sp pln.wt])) (lv' := [(0, .ref (qx 0)), (1, .int x1)]) (st' := [.int r_1]) (pc' := 8) (ce' := 0) (sl' := 0) rfl rfl rfl rfl rfl rfl ?_
  refine gw_if_ne (pc' := 11) (tgt := 14) κ dX5_kerb_8 rfl (by decide) (fun hc_2 => ?_) (fun hc_2 => ?_)
  · have h := h.1 hc_2
    refine gw_iconst (pc' := 15) (v := 0) κ dX5_kerb_14 rfl (by decide) ?_
    refine gw_istore_n (pc' := 16) κ dX5_kerb_15 rfl rfl (by decide) (lv' := [(2, .int (0 : Int32)), (0, .ref (qx 0)), (1, .int x1)]) rfl ?_
    refine gw_iconst (pc' := 17) (v := 0) κ dX5_kerb_16 rfl (by decide) ?_
    refine gw_istore_n (pc' := 18) κ dX5_kerb_17 rfl rfl (by decide) (lv' := [(3, .int (0 : Int32)), (2, .int (0 : Int32)), (0, .ref (qx 0)), (1, .int x1)]) rfl ?_
    obtain ⟨m18, h⟩ := h
    refine gw_lv (lv' := [(0, .ref (qx 0)), (1, .int x1), (2, .int (0 : Int32)), (3, .int (0 : Int32))]) [2, 3, 1, 0] rfl ?_
    exact k_X5_kerb_18 κ qx qn qp qw qt qu qd qh ql qs P now pln x1 m18 (0 : Int32) (0 : Int32) h
  · have h := h.2 hc_2
    refine gw_bipush (pc' := 13) (v := -102) κ dX5_kerb_11 rfl (by decide) ?_
    exact gw_iret κ dX5_kerb_13 () rfl ⟨_, rfl, h⟩
theorem hy_X5_ifDelayed : g_hy yX5_ifDelayed 3 := by decide +kernel
set_option maxHeartbeats 4000000 in
set_option maxRecDepth 100000 in
theorem c_X5_ifDelayed {l : Launch} {D : va_G} {cI cR : ClassId}  (qx : Nat → Nat) (qn : Nat → Nat) (qp : Nat → Nat) (qw : Nat → Nat) (qt : Nat → Nat) (qu : Nat → Nat) (qd : Nat → Nat) (qh : Nat → Nat) (ql : Nat → Nat) (qs : Nat → Nat → Nat) {P : Int32 → (Nat → Int32) → (Nat → Int32) → (Nat → Int32) → Int32 → (Nat → Int32) → (Nat → Int32) → (Nat → Int32) → (Nat → Int32) → (Nat → Int32) → (Nat → Int32) → (Nat → Int32) → (Nat → Int32) → (Nat → Int32) → Int32 → (Nat → Int32) → (Nat → Int32) → (Nat → Int32) → (Nat → Int32) → (Nat → Int32) → Int32 → Int32 → Int32 → Prop} (now : StT) (way : WyT) (tri : StT) (tpl : PlT) (x1 : Int32) (x2 : Int32) (x3 : Int32) (h : wp_X5_ifDelayed P now way tri tpl x1 x2 x3) : CT l D cI cR yX5_ifDelayed cX5_ifDelayed 4 (some .int) ({ frames := 6, cells := 0, slots := 0, locals := 140 } : Room) [.ref (qx 0), .int x1, .int x2, .int x3] (wfl [cX qx qn qp qw qt qu qd qh ql, cSt qn cI now.se now.la now.de now.le now.sa now.fl now.ar now.dr now.pe now.ri, cWy qw cI way.ky way.wp way.mi way.so, cSt qt cI tri.se tri.la tri.de tri.le tri.sa tri.fl tri.ar tri.dr tri.pe tri.ri, cPl qu cI tpl.od tpl.rd tpl.vn tpl.pn tpl.ao tpl.sr tpl.sp tpl.wt]) (fun u : (Nat → Int32) × (Nat → Int32) × (Nat → Int32) × Int32 × (Nat → Int32) × (Nat → Int32) × (Nat → Int32) × (Nat → Int32) × (Nat → Int32) × (Nat → Int32) × (Nat → Int32) × (Nat → Int32) × (Nat → Int32) × Int32 × (Nat → Int32) × (Nat → Int32) × (Nat → Int32) × (Nat → Int32) × (Nat → Int32) × Int32 × Int32 × Int32 => (wfl [cX qx qn qp qw qt qu qd qh ql, cSt qn cI now.se now.la now.de now.le now.sa now.fl now.ar now.dr now.pe now.ri, cWy qw cI u.1 u.2.1 u.2.2.1 u.2.2.2.1, cSt qt cI u.2.2.2.2.1 u.2.2.2.2.2.1 u.2.2.2.2.2.2.1 u.2.2.2.2.2.2.2.1 u.2.2.2.2.2.2.2.2.1 u.2.2.2.2.2.2.2.2.2.1 u.2.2.2.2.2.2.2.2.2.2.1 u.2.2.2.2.2.2.2.2.2.2.2.1 u.2.2.2.2.2.2.2.2.2.2.2.2.1 u.2.2.2.2.2.2.2.2.2.2.2.2.2.1, cPl qu cI u.2.2.2.2.2.2.2.2.2.2.2.2.2.2.1 u.2.2.2.2.2.2.2.2.2.2.2.2.2.2.2.1 u.2.2.2.2.2.2.2.2.2.2.2.2.2.2.2.2.1 u.2.2.2.2.2.2.2.2.2.2.2.2.2.2.2.2.2.1 u.2.2.2.2.2.2.2.2.2.2.2.2.2.2.2.2.2.2.1 u.2.2.2.2.2.2.2.2.2.2.2.2.2.2.2.2.2.2.2.1 u.2.2.2.2.2.2.2.2.2.2.2.2.2.2.2.2.2.2.2.2.1 u.2.2.2.2.2.2.2.2.2.2.2.2.2.2.2.2.2.2.2.2.2])) (pI (fun (r : Int32) (u : (Nat → Int32) × (Nat → Int32) × (Nat → Int32) × Int32 × (Nat → Int32) × (Nat → Int32) × (Nat → Int32) × (Nat → Int32) × (Nat → Int32) × (Nat → Int32) × (Nat → Int32) × (Nat → Int32) × (Nat → Int32) × Int32 × (Nat → Int32) × (Nat → Int32) × (Nat → Int32) × (Nat → Int32) × (Nat → Int32) × Int32 × Int32 × Int32) => P r u.1 u.2.1 u.2.2.1 u.2.2.2.1 u.2.2.2.2.1 u.2.2.2.2.2.1 u.2.2.2.2.2.2.1 u.2.2.2.2.2.2.2.1 u.2.2.2.2.2.2.2.2.1 u.2.2.2.2.2.2.2.2.2.1 u.2.2.2.2.2.2.2.2.2.2.1 u.2.2.2.2.2.2.2.2.2.2.2.1 u.2.2.2.2.2.2.2.2.2.2.2.2.1 u.2.2.2.2.2.2.2.2.2.2.2.2.2.1 u.2.2.2.2.2.2.2.2.2.2.2.2.2.2.1 u.2.2.2.2.2.2.2.2.2.2.2.2.2.2.2.1 u.2.2.2.2.2.2.2.2.2.2.2.2.2.2.2.2.1 u.2.2.2.2.2.2.2.2.2.2.2.2.2.2.2.2.2.1 u.2.2.2.2.2.2.2.2.2.2.2.2.2.2.2.2.2.2.1 u.2.2.2.2.2.2.2.2.2.2.2.2.2.2.2.2.2.2.2.1 u.2.2.2.2.2.2.2.2.2.2.2.2.2.2.2.2.2.2.2.2.1 u.2.2.2.2.2.2.2.2.2.2.2.2.2.2.2.2.2.2.2.2.2)) 0 0 := by
  refine ct_of RX5 rfl (by decide +kernel) (Nat.le_of_ble_eq_true rfl) (fun zp ze zs zm zb zt zc A hin κ => ?_)
  unfold wp_X5_ifDelayed at h
  refine gw_nf (lv' := [(0, .ref (qx 0)), (1, .int x1), (2, .int x2), (3, .int x3)]) (pc' := 0) (st' := []) (ce' := 0) (sl' := 0) rfl rfl rfl rfl rfl rfl ?_
  refine gw_iload_n (pc' := 1) κ dX5_ifDelayed_0 rfl 1 rfl rfl ?_
  refine gb_callS (rest := []) κ (c_X5_isFlight  x1 h) ⟨rfl, rfl, Nat.le_of_ble_eq_true rfl, Nat.le_of_ble_eq_true rfl⟩ tw_ml_X5_75 tw_st_X5_isFlight tw_co_X5_isFlight tw_in_X5 hy_X5_isFlight rfl (Nat.le_of_ble_eq_true rfl) rfl dX5_ifDelayed_1 [] rfl (by decide) (fun _ => Nat.le_of_ble_eq_true rfl) ⟨Nat.le_of_ble_eq_true rfl, Nat.le_of_ble_eq_true rfl⟩ (fun v u hv => ?_)
  obtain ⟨r_1, rfl, h⟩ := hv
  refine gw_nf (ws' := (wfl [cX qx qn qp qw qt qu qd qh ql, cSt qn cI now.se now.la now.de now.le now.sa now.fl now.ar now.dr now.pe now.ri, cWy qw cI way.ky way.wp way.mi way.so, cSt qt cI tri.se tri.la tri.de tri.le tri.sa tri.fl tri.ar tri.dr tri.pe tri.ri, cPl qu cI tpl.od tpl.rd tpl.vn tpl.pn tpl.ao tpl.sr tpl.sp tpl.wt])) (lv' := [(0, .ref (qx 0)), (1, .int x1), (2, .int x2), (3, .int x3)]) (st' := [.int r_1]) (pc' := 4) (ce' := 0) (sl' := 0) rfl rfl rfl rfl rfl rfl ?_
  refine gw_if_ne (pc' := 7) (tgt := 10) κ dX5_ifDelayed_4 rfl (by decide) (fun hc_2 => ?_) (fun hc_2 => ?_)
  · have h := h.1 hc_2
    refine gw_iload_n (pc' := 11) κ dX5_ifDelayed_10 rfl 2 rfl rfl ?_
    refine gb_callS (rest := []) κ (c_X5_isDelay  x2 h) ⟨rfl, rfl, Nat.le_of_ble_eq_true rfl, Nat.le_of_ble_eq_true rfl⟩ tw_ml_X5_82 tw_st_X5_isDelay tw_co_X5_isDelay tw_in_X5 hy_X5_isDelay rfl (Nat.le_of_ble_eq_true rfl) rfl dX5_ifDelayed_11 [] rfl (by decide) (fun _ => Nat.le_of_ble_eq_true rfl) ⟨Nat.le_of_ble_eq_true rfl, Nat.le_of_ble_eq_true rfl⟩ (fun v u hv => ?_)
    obtain ⟨r_3, rfl, h⟩ := hv
    refine gw_nf (ws' := (wfl [cX qx qn qp qw qt qu qd qh ql, cSt qn cI now.se now.la now.de now.le now.sa now.fl now.ar now.dr now.pe now.ri, cWy qw cI way.ky way.wp way.mi way.so, cSt qt cI tri.se tri.la tri.de tri.le tri.sa tri.fl tri.ar tri.dr tri.pe tri.ri, cPl qu cI tpl.od tpl.rd tpl.vn tpl.pn tpl.ao tpl.sr tpl.sp tpl.wt])) (lv' := [(0, .ref (qx 0)), (1, .int x1), (2, .int x2), (3, .int x3)]) (st' := [.int r_3]) (pc' := 14) (ce' := 0) (sl' := 0) rfl rfl rfl rfl rfl rfl ?_
    refine gw_if_eq (pc' := 17) (tgt := 26) κ dX5_ifDelayed_14 rfl (by decide) (fun hc_4 => ?_) (fun hc_4 => ?_)
    · have h := h.1 hc_4
      refine gw_bipush (pc' := 28) (v := -102) κ dX5_ifDelayed_26 rfl (by decide) ?_
      exact gw_iret κ dX5_ifDelayed_28 (way.ky, way.wp, way.mi, way.so, tri.se, tri.la, tri.de, tri.le, tri.sa, tri.fl, tri.ar, tri.dr, tri.pe, tri.ri, tpl.od, tpl.rd, tpl.vn, tpl.pn, tpl.ao, tpl.sr, tpl.sp, tpl.wt) rfl ⟨_, rfl, h⟩
    · have h := h.2 hc_4
      refine gw_iload_n (pc' := 18) κ dX5_ifDelayed_17 rfl 3 rfl rfl ?_
      refine gw_iconst (pc' := 19) (v := 0) κ dX5_ifDelayed_18 rfl (by decide) ?_
      refine gw_iconst (pc' := 20) (v := 2) κ dX5_ifDelayed_19 rfl (by decide) ?_
      refine gb_callS (rest := []) κ (c_X5_isIn  x3 (0 : Int32) (2 : Int32) h) ⟨rfl, rfl, Nat.le_of_ble_eq_true rfl, Nat.le_of_ble_eq_true rfl⟩ tw_ml_X5_54 tw_st_X5_isIn tw_co_X5_isIn tw_in_X5 hy_X5_isIn rfl (Nat.le_of_ble_eq_true rfl) rfl dX5_ifDelayed_20 [] rfl (by decide) (fun _ => Nat.le_of_ble_eq_true rfl) ⟨Nat.le_of_ble_eq_true rfl, Nat.le_of_ble_eq_true rfl⟩ (fun v u hv => ?_)
      obtain ⟨r_5, rfl, h⟩ := hv
      refine gw_nf (ws' := (wfl [cX qx qn qp qw qt qu qd qh ql, cSt qn cI now.se now.la now.de now.le now.sa now.fl now.ar now.dr now.pe now.ri, cWy qw cI way.ky way.wp way.mi way.so, cSt qt cI tri.se tri.la tri.de tri.le tri.sa tri.fl tri.ar tri.dr tri.pe tri.ri, cPl qu cI tpl.od tpl.rd tpl.vn tpl.pn tpl.ao tpl.sr tpl.sp tpl.wt])) (lv' := [(0, .ref (qx 0)), (1, .int x1), (2, .int x2), (3, .int x3)]) (st' := [.int r_5]) (pc' := 23) (ce' := 0) (sl' := 0) rfl rfl rfl rfl rfl rfl ?_
      refine gw_if_ne (pc' := 26) (tgt := 29) κ dX5_ifDelayed_23 rfl (by decide) (fun hc_6 => ?_) (fun hc_6 => ?_)
      · have h := h.1 hc_6
        refine gw_aload_n (pc' := 30) κ dX5_ifDelayed_29 rfl 0 rfl rfl ?_
        refine gb_get (pc' := 33) (C := RX5) (T := TX5) (N := 8) κ dX5_ifDelayed_30 rfl inX5 0 rfl rfl rfl 3 (by decide) tw_fl_X5_30 rfl ?_
        refine gw_aload_n (pc' := 34) κ dX5_ifDelayed_33 rfl 0 rfl rfl ?_
        refine gb_get (pc' := 37) (C := RX5) (T := TX5) (N := 8) κ dX5_ifDelayed_34 rfl inX5 0 rfl rfl rfl 0 (by decide) tw_fl_X5_10 rfl ?_
        refine gb_callV (ci := 3) (qb := 3) (rest := []) κ (c_X3_copyFrom qt qn tri now h) ⟨rfl, rfl, Nat.le_of_ble_eq_true rfl, Nat.le_of_ble_eq_true rfl⟩ tw_ml_X5_231 tw_im_X3_copyFrom tw_se_X3_copyFrom tw_co_X3_copyFrom tw_in_X3 hy_X3_copyFrom rfl rfl rfl rfl rfl (Nat.le_of_ble_eq_true rfl) rfl dX5_ifDelayed_37 [3, 1] rfl (by decide) (fun _ => Nat.le_of_ble_eq_true rfl) ⟨Nat.le_of_ble_eq_true rfl, Nat.le_of_ble_eq_true rfl⟩ (fun v u hv => ?_)
        obtain ⟨rfl, h⟩ := hv
        obtain ⟨se_7, la_8, de_9, le_10, sa_11, fl_12, ar_13, dr_14, pe_15, ri_16⟩ := u
        refine gw_nf (ws' := (wfl [cX qx qn qp qw qt qu qd qh ql, cSt qn cI now.se now.la now.de now.le now.sa now.fl now.ar now.dr now.pe now.ri, cWy qw cI way.ky way.wp way.mi way.so, cSt qt cI se_7 la_8 de_9 le_10 sa_11 fl_12 ar_13 dr_14 pe_15 ri_16, cPl qu cI tpl.od tpl.rd tpl.vn tpl.pn tpl.ao tpl.sr tpl.sp tpl.wt])) (lv' := [(0, .ref (qx 0)), (1, .int x1), (2, .int x2), (3, .int x3)]) (st' := []) (pc' := 40) (ce' := 0) (sl' := 0) rfl rfl rfl rfl rfl rfl ?_
        refine gw_aload_n (pc' := 41) κ dX5_ifDelayed_40 rfl 0 rfl rfl ?_
        refine gb_get (pc' := 44) (C := RX5) (T := TX5) (N := 8) κ dX5_ifDelayed_41 rfl inX5 0 rfl rfl rfl 3 (by decide) tw_fl_X5_30 rfl ?_
        refine gb_get (pc' := 47) (C := RX3) (T := TX3) (N := 10) κ dX5_ifDelayed_44 rfl inX3 3 rfl rfl rfl 2 (by decide) tw_fl_X5_85 rfl ?_
        refine gw_iload_n (pc' := 48) κ dX5_ifDelayed_47 rfl 1 rfl rfl ?_
        refine gw_iload_n (pc' := 49) κ dX5_ifDelayed_48 rfl 2 rfl rfl ?_
        obtain ⟨hb_17, h⟩ := h
        refine gb_iast (pc' := 50) (bs' := [cX qx qn qp qw qt qu qd qh ql, cSt qn cI now.se now.la now.de now.le now.sa now.fl now.ar now.dr now.pe now.ri, cWy qw cI way.ky way.wp way.mi way.so, cSt qt cI se_7 la_8 (upd de_9 x1.toNatClampNeg x2) le_10 sa_11 fl_12 ar_13 dr_14 pe_15 ri_16, cPl qu cI tpl.od tpl.rd tpl.vn tpl.pn tpl.ao tpl.sr tpl.sp tpl.wt]) κ dX5_ifDelayed_49 rfl 3 3 rfl rfl hb_17 rfl ?_
        refine gw_aload_n (pc' := 51) κ dX5_ifDelayed_50 rfl 0 rfl rfl ?_
        refine gb_get (pc' := 54) (C := RX5) (T := TX5) (N := 8) κ dX5_ifDelayed_51 rfl inX5 0 rfl rfl rfl 4 (by decide) tw_fl_X5_33 rfl ?_
        refine gw_aload_n (pc' := 55) κ dX5_ifDelayed_54 rfl 0 rfl rfl ?_
        refine gb_get (pc' := 58) (C := RX5) (T := TX5) (N := 8) κ dX5_ifDelayed_55 rfl inX5 0 rfl rfl rfl 3 (by decide) tw_fl_X5_30 rfl ?_
        refine gb_callV (ci := 2) (qb := 4) (rest := []) κ (c_X2_make qu qt tpl (mkSt se_7 la_8 (upd de_9 x1.toNatClampNeg x2) le_10 sa_11 fl_12 ar_13 dr_14 pe_15 ri_16) h) ⟨rfl, rfl, Nat.le_of_ble_eq_true rfl, Nat.le_of_ble_eq_true rfl⟩ tw_ml_X5_72 tw_im_X2_make tw_se_X2_make tw_co_X2_make tw_in_X2 hy_X2_make rfl rfl rfl rfl rfl (Nat.le_of_ble_eq_true rfl) rfl dX5_ifDelayed_58 [4, 3] rfl (by decide) (fun _ => Nat.le_of_ble_eq_true rfl) ⟨Nat.le_of_ble_eq_true rfl, Nat.le_of_ble_eq_true rfl⟩ (fun v u hv => ?_)
        obtain ⟨rfl, h⟩ := hv
        obtain ⟨od_18, rd_19, vn_20, pn_21, ao_22, sr_23, sp_24, wt_25⟩ := u
        refine gw_nf (ws' := (wfl [cX qx qn qp qw qt qu qd qh ql, cSt qn cI now.se now.la now.de now.le now.sa now.fl now.ar now.dr now.pe now.ri, cWy qw cI way.ky way.wp way.mi way.so, cSt qt cI se_7 la_8 (upd de_9 x1.toNatClampNeg x2) le_10 sa_11 fl_12 ar_13 dr_14 pe_15 ri_16, cPl qu cI od_18 rd_19 vn_20 pn_21 ao_22 sr_23 sp_24 wt_25])) (lv' := [(0, .ref (qx 0)), (1, .int x1), (2, .int x2), (3, .int x3)]) (st' := []) (pc' := 61) (ce' := 0) (sl' := 0) rfl rfl rfl rfl rfl rfl ?_
        refine gw_iload_n (pc' := 62) κ dX5_ifDelayed_61 rfl 3 rfl rfl ?_
        refine gw_if_ne (pc' := 65) (tgt := 73) κ dX5_ifDelayed_62 rfl (by decide) (fun hc_26 => ?_) (fun hc_26 => ?_)
        · have h := h.1 hc_26
          refine gw_iload_n (pc' := 74) κ dX5_ifDelayed_73 rfl 3 rfl rfl ?_
          refine gw_iconst (pc' := 75) (v := 1) κ dX5_ifDelayed_74 rfl (by decide) ?_
          refine gw_icmp_ne (pc' := 78) (tgt := 86) κ dX5_ifDelayed_75 rfl (by decide) (fun hc_27 => ?_) (fun hc_27 => ?_)
          · have h := h.1 hc_27
            refine gw_aload_n (pc' := 87) κ dX5_ifDelayed_86 rfl 0 rfl rfl ?_
            refine gw_aload_n (pc' := 88) κ dX5_ifDelayed_87 rfl 0 rfl rfl ?_
            refine gb_get (pc' := 91) (C := RX5) (T := TX5) (N := 8) κ dX5_ifDelayed_88 rfl inX5 0 rfl rfl rfl 3 (by decide) tw_fl_X5_30 rfl ?_
            refine gw_aload_n (pc' := 92) κ dX5_ifDelayed_91 rfl 0 rfl rfl ?_
            refine gb_get (pc' := 95) (C := RX5) (T := TX5) (N := 8) κ dX5_ifDelayed_92 rfl inX5 0 rfl rfl rfl 4 (by decide) tw_fl_X5_33 rfl ?_
            refine gb_callV (ci := 5) (qb := 0) (rest := []) κ (c_X5_lastAtDoor qx qn qp qw qt qu qd qh ql qt qu qs way (mkSt se_7 la_8 (upd de_9 x1.toNatClampNeg x2) le_10 sa_11 fl_12 ar_13 dr_14 pe_15 ri_16) (mkPl od_18 rd_19 vn_20 pn_21 ao_22 sr_23 sp_24 wt_25) h) ⟨rfl, rfl, Nat.le_of_ble_eq_true rfl, Nat.le_of_ble_eq_true rfl⟩ tw_ml_X5_220 tw_im_X5_lastAtDoor tw_se_X5_lastAtDoor tw_co_X5_lastAtDoor tw_in_X5 hy_X5_lastAtDoor rfl rfl rfl rfl rfl (Nat.le_of_ble_eq_true rfl) rfl dX5_ifDelayed_95 [0, 2, 3, 4] rfl (by decide) (fun _ => Nat.le_of_ble_eq_true rfl) ⟨Nat.le_of_ble_eq_true rfl, Nat.le_of_ble_eq_true rfl⟩ (fun v u hv => ?_)
            obtain ⟨r_32, rfl, h⟩ := hv
            obtain ⟨ky_28, wp_29, mi_30, so_31⟩ := u
            refine gw_nf (ws' := (wfl [cX qx qn qp qw qt qu qd qh ql, cSt qn cI now.se now.la now.de now.le now.sa now.fl now.ar now.dr now.pe now.ri, cWy qw cI ky_28 wp_29 mi_30 so_31, cSt qt cI se_7 la_8 (upd de_9 x1.toNatClampNeg x2) le_10 sa_11 fl_12 ar_13 dr_14 pe_15 ri_16, cPl qu cI od_18 rd_19 vn_20 pn_21 ao_22 sr_23 sp_24 wt_25])) (lv' := [(0, .ref (qx 0)), (1, .int x1), (2, .int x2), (3, .int x3)]) (st' := [.int r_32]) (pc' := 98) (ce' := 0) (sl' := 0) rfl rfl rfl rfl rfl rfl ?_
            exact gw_iret κ dX5_ifDelayed_98 (ky_28, wp_29, mi_30, so_31, se_7, la_8, (upd de_9 x1.toNatClampNeg x2), le_10, sa_11, fl_12, ar_13, dr_14, pe_15, ri_16, od_18, rd_19, vn_20, pn_21, ao_22, sr_23, sp_24, wt_25) rfl ⟨_, rfl, h⟩
          · have h := h.2 hc_27
            refine gw_aload_n (pc' := 79) κ dX5_ifDelayed_78 rfl 0 rfl rfl ?_
            refine gb_get (pc' := 82) (C := RX5) (T := TX5) (N := 8) κ dX5_ifDelayed_79 rfl inX5 0 rfl rfl rfl 4 (by decide) tw_fl_X5_33 rfl ?_
            refine gb_get (pc' := 85) (C := RX2) (T := TX2) (N := 8) κ dX5_ifDelayed_82 rfl inX2 4 rfl rfl rfl 7 (by decide) tw_fl_X5_208 rfl ?_
            exact gw_iret κ dX5_ifDelayed_85 (way.ky, way.wp, way.mi, way.so, se_7, la_8, (upd de_9 x1.toNatClampNeg x2), le_10, sa_11, fl_12, ar_13, dr_14, pe_15, ri_16, od_18, rd_19, vn_20, pn_21, ao_22, sr_23, sp_24, wt_25) rfl ⟨_, rfl, h⟩
        · have h := h.2 hc_26
          refine gw_aload_n (pc' := 66) κ dX5_ifDelayed_65 rfl 0 rfl rfl ?_
          refine gb_get (pc' := 69) (C := RX5) (T := TX5) (N := 8) κ dX5_ifDelayed_66 rfl inX5 0 rfl rfl rfl 4 (by decide) tw_fl_X5_33 rfl ?_
          refine gb_get (pc' := 72) (C := RX2) (T := TX2) (N := 8) κ dX5_ifDelayed_69 rfl inX2 4 rfl rfl rfl 6 (by decide) tw_fl_X5_101 rfl ?_
          exact gw_iret κ dX5_ifDelayed_72 (way.ky, way.wp, way.mi, way.so, se_7, la_8, (upd de_9 x1.toNatClampNeg x2), le_10, sa_11, fl_12, ar_13, dr_14, pe_15, ri_16, od_18, rd_19, vn_20, pn_21, ao_22, sr_23, sp_24, wt_25) rfl ⟨_, rfl, h⟩
      · have h := h.2 hc_6
        refine gw_bipush (pc' := 28) (v := -102) κ dX5_ifDelayed_26 rfl (by decide) ?_
        exact gw_iret κ dX5_ifDelayed_28 (way.ky, way.wp, way.mi, way.so, tri.se, tri.la, tri.de, tri.le, tri.sa, tri.fl, tri.ar, tri.dr, tri.pe, tri.ri, tpl.od, tpl.rd, tpl.vn, tpl.pn, tpl.ao, tpl.sr, tpl.sp, tpl.wt) rfl ⟨_, rfl, h⟩
  · have h := h.2 hc_2
    refine gw_bipush (pc' := 9) (v := -101) κ dX5_ifDelayed_7 rfl (by decide) ?_
    exact gw_iret κ dX5_ifDelayed_9 (way.ky, way.wp, way.mi, way.so, tri.se, tri.la, tri.de, tri.le, tri.sa, tri.fl, tri.ar, tri.dr, tri.pe, tri.ri, tpl.od, tpl.rd, tpl.vn, tpl.pn, tpl.ao, tpl.sr, tpl.sp, tpl.wt) rfl ⟨_, rfl, h⟩
theorem hy_X5_mostDelay : g_hy yX5_mostDelay 1 := by decide +kernel
set_option maxHeartbeats 4000000 in
set_option maxRecDepth 100000 in
theorem k_X5_mostDelay_25 {zp : Program} {l : Launch} {ze : Env} {zs : State} {zm : MethodId} {za : Array Value} {zb : List Frame} {zt : Method} {zc : Code} {D : va_G} {cI cR : ClassId} {A : Nat → Prop} (κ : KC zp zs zm za zt zc cX5_mostDelay 3 RX5 D cI cR A (some .int)) (qx : Nat → Nat) (qn : Nat → Nat) (qp : Nat → Nat) (qw : Nat → Nat) (qt : Nat → Nat) (qu : Nat → Nat) (qd : Nat → Nat) (qh : Nat → Nat) (ql : Nat → Nat) (qs : Nat → Nat → Nat) (P : Int32 → (Nat → Int32) → (Nat → Int32) → (Nat → Int32) → (Nat → Int32) → (Nat → Int32) → (Nat → Int32) → (Nat → Int32) → (Nat → Int32) → (Nat → Int32) → Int32 → (Nat → Int32) → (Nat → Int32) → (Nat → Int32) → (Nat → Int32) → (Nat → Int32) → Int32 → Int32 → Int32 → Prop) (now : StT) (pln : PlT) (tri : StT) (tpl : PlT) (x1 : Int32) (tri_se : Nat → Int32) (tri_la : Nat → Int32) (tri_le : Nat → Int32) (tri_sa : Nat → Int32) (tri_fl : Nat → Int32) (tri_ar : Nat → Int32) (tri_dr : Nat → Int32) (tri_pe : Nat → Int32) (tri_ri : Int32) : ∀ (n : Nat) (v2 : Int32) (tri_de : Nat → Int32) (tpl_od : Nat → Int32) (tpl_rd : Nat → Int32) (tpl_vn : Nat → Int32) (tpl_pn : Nat → Int32) (tpl_ao : Nat → Int32) (tpl_sr : Int32) (tpl_sp : Int32) (tpl_wt : Int32), wp_X5_mostDelay_25 P now pln tri tpl x1 tri_se tri_la tri_le tri_sa tri_fl tri_ar tri_dr tri_pe tri_ri n v2 tri_de tpl_od tpl_rd tpl_vn tpl_pn tpl_ao tpl_sr tpl_sp tpl_wt → GM zp l ze ({ frames := 6, cells := 0, slots := 0, locals := 140 } : Room) zs zm za zb zt zc D A 3 (pI (fun (r : Int32) (u : (Nat → Int32) × (Nat → Int32) × (Nat → Int32) × (Nat → Int32) × (Nat → Int32) × (Nat → Int32) × (Nat → Int32) × (Nat → Int32) × (Nat → Int32) × Int32 × (Nat → Int32) × (Nat → Int32) × (Nat → Int32) × (Nat → Int32) × (Nat → Int32) × Int32 × Int32 × Int32) => P r u.1 u.2.1 u.2.2.1 u.2.2.2.1 u.2.2.2.2.1 u.2.2.2.2.2.1 u.2.2.2.2.2.2.1 u.2.2.2.2.2.2.2.1 u.2.2.2.2.2.2.2.2.1 u.2.2.2.2.2.2.2.2.2.1 u.2.2.2.2.2.2.2.2.2.2.1 u.2.2.2.2.2.2.2.2.2.2.2.1 u.2.2.2.2.2.2.2.2.2.2.2.2.1 u.2.2.2.2.2.2.2.2.2.2.2.2.2.1 u.2.2.2.2.2.2.2.2.2.2.2.2.2.2.1 u.2.2.2.2.2.2.2.2.2.2.2.2.2.2.2.1 u.2.2.2.2.2.2.2.2.2.2.2.2.2.2.2.2.1 u.2.2.2.2.2.2.2.2.2.2.2.2.2.2.2.2.2)) (fun u : (Nat → Int32) × (Nat → Int32) × (Nat → Int32) × (Nat → Int32) × (Nat → Int32) × (Nat → Int32) × (Nat → Int32) × (Nat → Int32) × (Nat → Int32) × Int32 × (Nat → Int32) × (Nat → Int32) × (Nat → Int32) × (Nat → Int32) × (Nat → Int32) × Int32 × Int32 × Int32 => (wfl [cX qx qn qp qw qt qu qd qh ql, cSt qn cI now.se now.la now.de now.le now.sa now.fl now.ar now.dr now.pe now.ri, cPl qp cI pln.od pln.rd pln.vn pln.pn pln.ao pln.sr pln.sp pln.wt, cSt qt cI u.1 u.2.1 u.2.2.1 u.2.2.2.1 u.2.2.2.2.1 u.2.2.2.2.2.1 u.2.2.2.2.2.2.1 u.2.2.2.2.2.2.2.1 u.2.2.2.2.2.2.2.2.1 u.2.2.2.2.2.2.2.2.2.1, cPl qu cI u.2.2.2.2.2.2.2.2.2.2.1 u.2.2.2.2.2.2.2.2.2.2.2.1 u.2.2.2.2.2.2.2.2.2.2.2.2.1 u.2.2.2.2.2.2.2.2.2.2.2.2.2.1 u.2.2.2.2.2.2.2.2.2.2.2.2.2.2.1 u.2.2.2.2.2.2.2.2.2.2.2.2.2.2.2.1 u.2.2.2.2.2.2.2.2.2.2.2.2.2.2.2.2.1 u.2.2.2.2.2.2.2.2.2.2.2.2.2.2.2.2.2])) 0 0 0 0 (wfl [cX qx qn qp qw qt qu qd qh ql, cSt qn cI now.se now.la now.de now.le now.sa now.fl now.ar now.dr now.pe now.ri, cPl qp cI pln.od pln.rd pln.vn pln.pn pln.ao pln.sr pln.sp pln.wt, cSt qt cI tri_se tri_la tri_de tri_le tri_sa tri_fl tri_ar tri_dr tri_pe tri_ri, cPl qu cI tpl_od tpl_rd tpl_vn tpl_pn tpl_ao tpl_sr tpl_sp tpl_wt]) [(0, .ref (qx 0)), (1, .int x1), (2, .int v2)] 25 [] := by
  intro n25
  induction n25 with
  | zero => intro v2 tri_de tpl_od tpl_rd tpl_vn tpl_pn tpl_ao tpl_sr tpl_sp tpl_wt h; exact (show False from h).elim
  | succ n25 ih25 =>
    intro v2 tri_de tpl_od tpl_rd tpl_vn tpl_pn tpl_ao tpl_sr tpl_sp tpl_wt h
    have h : wp_X5_mostDelay_25F P now pln tri tpl x1 tri_se tri_la tri_le tri_sa tri_fl tri_ar tri_dr tri_pe tri_ri (wp_X5_mostDelay_25 P now pln tri tpl x1 tri_se tri_la tri_le tri_sa tri_fl tri_ar tri_dr tri_pe tri_ri n25) v2 tri_de tpl_od tpl_rd tpl_vn tpl_pn tpl_ao tpl_sr tpl_sp tpl_wt := h
    unfold wp_X5_mostDelay_25F at h
    refine gw_iload_n (pc' := 26) κ dX5_mostDelay_25 rfl 2 rfl rfl ?_
    refine gw_bipush (pc' := 28) (v := -30) κ dX5_mostDelay_26 rfl (by decide) ?_
    refine gw_icmp_le (pc' := 31) (tgt := 77) κ dX5_mostDelay_28 rfl (by decide) (fun hc_13 => ?_) (fun hc_13 => ?_)
    · have h := h.1 hc_13
      refine gw_bipush (pc' := 79) (v := -30) κ dX5_mostDelay_77 rfl (by decide) ?_
      exact gw_iret κ dX5_mostDelay_79 (tri_se, tri_la, tri_de, tri_le, tri_sa, tri_fl, tri_ar, tri_dr, tri_pe, tri_ri, tpl_od, tpl_rd, tpl_vn, tpl_pn, tpl_ao, tpl_sr, tpl_sp, tpl_wt) rfl ⟨_, rfl, h⟩
    · have h := h.2 hc_13
      refine gw_aload_n (pc' := 32) κ dX5_mostDelay_31 rfl 0 rfl rfl ?_
      refine gb_get (pc' := 35) (C := RX5) (T := TX5) (N := 8) κ dX5_mostDelay_32 rfl inX5 0 rfl rfl rfl 3 (by decide) tw_fl_X5_30 rfl ?_
      refine gb_get (pc' := 38) (C := RX3) (T := TX3) (N := 10) κ dX5_mostDelay_35 rfl inX3 3 rfl rfl rfl 2 (by decide) tw_fl_X5_85 rfl ?_
      refine gw_iload_n (pc' := 39) κ dX5_mostDelay_38 rfl 1 rfl rfl ?_
      refine gw_iload_n (pc' := 40) κ dX5_mostDelay_39 rfl 2 rfl rfl ?_
      obtain ⟨hb_14, h⟩ := h
      refine gb_iast (pc' := 41) (bs' := [cX qx qn qp qw qt qu qd qh ql, cSt qn cI now.se now.la now.de now.le now.sa now.fl now.ar now.dr now.pe now.ri, cPl qp cI pln.od pln.rd pln.vn pln.pn pln.ao pln.sr pln.sp pln.wt, cSt qt cI tri_se tri_la (upd tri_de x1.toNatClampNeg v2) tri_le tri_sa tri_fl tri_ar tri_dr tri_pe tri_ri, cPl qu cI tpl_od tpl_rd tpl_vn tpl_pn tpl_ao tpl_sr tpl_sp tpl_wt]) κ dX5_mostDelay_40 rfl 3 3 rfl rfl hb_14 rfl ?_
      refine gw_aload_n (pc' := 42) κ dX5_mostDelay_41 rfl 0 rfl rfl ?_
      refine gb_get (pc' := 45) (C := RX5) (T := TX5) (N := 8) κ dX5_mostDelay_42 rfl inX5 0 rfl rfl rfl 4 (by decide) tw_fl_X5_33 rfl ?_
      refine gw_aload_n (pc' := 46) κ dX5_mostDelay_45 rfl 0 rfl rfl ?_
      refine gb_get (pc' := 49) (C := RX5) (T := TX5) (N := 8) κ dX5_mostDelay_46 rfl inX5 0 rfl rfl rfl 3 (by decide) tw_fl_X5_30 rfl ?_
      refine gb_callV (ci := 2) (qb := 4) (rest := []) κ (c_X2_make qu qt (mkPl tpl_od tpl_rd tpl_vn tpl_pn tpl_ao tpl_sr tpl_sp tpl_wt) (mkSt tri_se tri_la (upd tri_de x1.toNatClampNeg v2) tri_le tri_sa tri_fl tri_ar tri_dr tri_pe tri_ri) h) ⟨rfl, rfl, Nat.le_of_ble_eq_true rfl, Nat.le_of_ble_eq_true rfl⟩ tw_ml_X5_72 tw_im_X2_make tw_se_X2_make tw_co_X2_make tw_in_X2 hy_X2_make rfl rfl rfl rfl rfl (Nat.le_of_ble_eq_true rfl) rfl dX5_mostDelay_49 [4, 3] rfl (by decide) (fun _ => Nat.le_of_ble_eq_true rfl) ⟨Nat.le_of_ble_eq_true rfl, Nat.le_of_ble_eq_true rfl⟩ (fun v u hv => ?_)
      obtain ⟨rfl, h⟩ := hv
      obtain ⟨od_15, rd_16, vn_17, pn_18, ao_19, sr_20, sp_21, wt_22⟩ := u
      refine gw_nf (ws' := (wfl [cX qx qn qp qw qt qu qd qh ql, cSt qn cI now.se now.la now.de now.le now.sa now.fl now.ar now.dr now.pe now.ri, cPl qp cI pln.od pln.rd pln.vn pln.pn pln.ao pln.sr pln.sp pln.wt, cSt qt cI tri_se tri_la (upd tri_de x1.toNatClampNeg v2) tri_le tri_sa tri_fl tri_ar tri_dr tri_pe tri_ri, cPl qu cI od_15 rd_16 vn_17 pn_18 ao_19 sr_20 sp_21 wt_22])) (lv' := [(0, .ref (qx 0)), (1, .int x1), (2, .int v2)]) (st' := []) (pc' := 52) (ce' := 0) (sl' := 0) rfl rfl rfl rfl rfl rfl ?_
      refine gw_aload_n (pc' := 53) κ dX5_mostDelay_52 rfl 0 rfl rfl ?_
      refine gb_get (pc' := 56) (C := RX5) (T := TX5) (N := 8) κ dX5_mostDelay_53 rfl inX5 0 rfl rfl rfl 4 (by decide) tw_fl_X5_33 rfl ?_
      refine gb_get (pc' := 59) (C := RX2) (T := TX2) (N := 8) κ dX5_mostDelay_56 rfl inX2 4 rfl rfl rfl 6 (by decide) tw_fl_X5_101 rfl ?_
      refine gw_aload_n (pc' := 60) κ dX5_mostDelay_59 rfl 0 rfl rfl ?_
      refine gb_get (pc' := 63) (C := RX5) (T := TX5) (N := 8) κ dX5_mostDelay_60 rfl inX5 0 rfl rfl rfl 1 (by decide) tw_fl_X5_19 rfl ?_
      refine gb_get (pc' := 66) (C := RX2) (T := TX2) (N := 8) κ dX5_mostDelay_63 rfl inX2 2 rfl rfl rfl 6 (by decide) tw_fl_X5_101 rfl ?_
      refine gw_icmp_gt (pc' := 69) (tgt := 71) κ dX5_mostDelay_66 rfl (by decide) (fun hc_23 => ?_) (fun hc_23 => ?_)
      · have h := h.1 hc_23
        refine gw_iinc (pc' := 74) κ dX5_mostDelay_71 rfl 2 rfl (v := (v2 + (-1))) rfl (by decide) (lv' := [(2, .int (v2 + (-1))), (0, .ref (qx 0)), (1, .int x1)]) rfl ?_
        refine gw_goto (tgt := 25) κ dX5_mostDelay_74 (by decide) ?_
        refine gw_lv (lv' := [(0, .ref (qx 0)), (1, .int x1), (2, .int (v2 + (-1)))]) [1, 2, 0] rfl ?_
        exact ih25 (v2 + (-1)) (upd tri_de x1.toNatClampNeg v2) od_15 rd_16 vn_17 pn_18 ao_19 sr_20 sp_21 wt_22 h
      · have h := h.2 hc_23
        refine gw_iload_n (pc' := 70) κ dX5_mostDelay_69 rfl 2 rfl rfl ?_
        exact gw_iret κ dX5_mostDelay_70 (tri_se, tri_la, (upd tri_de x1.toNatClampNeg v2), tri_le, tri_sa, tri_fl, tri_ar, tri_dr, tri_pe, tri_ri, od_15, rd_16, vn_17, pn_18, ao_19, sr_20, sp_21, wt_22) rfl ⟨_, rfl, h⟩
set_option maxHeartbeats 4000000 in
set_option maxRecDepth 100000 in
theorem c_X5_mostDelay {l : Launch} {D : va_G} {cI cR : ClassId}  (qx : Nat → Nat) (qn : Nat → Nat) (qp : Nat → Nat) (qw : Nat → Nat) (qt : Nat → Nat) (qu : Nat → Nat) (qd : Nat → Nat) (qh : Nat → Nat) (ql : Nat → Nat) (qs : Nat → Nat → Nat) {P : Int32 → (Nat → Int32) → (Nat → Int32) → (Nat → Int32) → (Nat → Int32) → (Nat → Int32) → (Nat → Int32) → (Nat → Int32) → (Nat → Int32) → (Nat → Int32) → Int32 → (Nat → Int32) → (Nat → Int32) → (Nat → Int32) → (Nat → Int32) → (Nat → Int32) → Int32 → Int32 → Int32 → Prop} (now : StT) (pln : PlT) (tri : StT) (tpl : PlT) (x1 : Int32) (h : wp_X5_mostDelay P now pln tri tpl x1) : CT l D cI cR yX5_mostDelay cX5_mostDelay 3 (some .int) ({ frames := 6, cells := 0, slots := 0, locals := 140 } : Room) [.ref (qx 0), .int x1] (wfl [cX qx qn qp qw qt qu qd qh ql, cSt qn cI now.se now.la now.de now.le now.sa now.fl now.ar now.dr now.pe now.ri, cPl qp cI pln.od pln.rd pln.vn pln.pn pln.ao pln.sr pln.sp pln.wt, cSt qt cI tri.se tri.la tri.de tri.le tri.sa tri.fl tri.ar tri.dr tri.pe tri.ri, cPl qu cI tpl.od tpl.rd tpl.vn tpl.pn tpl.ao tpl.sr tpl.sp tpl.wt]) (fun u : (Nat → Int32) × (Nat → Int32) × (Nat → Int32) × (Nat → Int32) × (Nat → Int32) × (Nat → Int32) × (Nat → Int32) × (Nat → Int32) × (Nat → Int32) × Int32 × (Nat → Int32) × (Nat → Int32) × (Nat → Int32) × (Nat → Int32) × (Nat → Int32) × Int32 × Int32 × Int32 => (wfl [cX qx qn qp qw qt qu qd qh ql, cSt qn cI now.se now.la now.de now.le now.sa now.fl now.ar now.dr now.pe now.ri, cPl qp cI pln.od pln.rd pln.vn pln.pn pln.ao pln.sr pln.sp pln.wt, cSt qt cI u.1 u.2.1 u.2.2.1 u.2.2.2.1 u.2.2.2.2.1 u.2.2.2.2.2.1 u.2.2.2.2.2.2.1 u.2.2.2.2.2.2.2.1 u.2.2.2.2.2.2.2.2.1 u.2.2.2.2.2.2.2.2.2.1, cPl qu cI u.2.2.2.2.2.2.2.2.2.2.1 u.2.2.2.2.2.2.2.2.2.2.2.1 u.2.2.2.2.2.2.2.2.2.2.2.2.1 u.2.2.2.2.2.2.2.2.2.2.2.2.2.1 u.2.2.2.2.2.2.2.2.2.2.2.2.2.2.1 u.2.2.2.2.2.2.2.2.2.2.2.2.2.2.2.1 u.2.2.2.2.2.2.2.2.2.2.2.2.2.2.2.2.1 u.2.2.2.2.2.2.2.2.2.2.2.2.2.2.2.2.2])) (pI (fun (r : Int32) (u : (Nat → Int32) × (Nat → Int32) × (Nat → Int32) × (Nat → Int32) × (Nat → Int32) × (Nat → Int32) × (Nat → Int32) × (Nat → Int32) × (Nat → Int32) × Int32 × (Nat → Int32) × (Nat → Int32) × (Nat → Int32) × (Nat → Int32) × (Nat → Int32) × Int32 × Int32 × Int32) => P r u.1 u.2.1 u.2.2.1 u.2.2.2.1 u.2.2.2.2.1 u.2.2.2.2.2.1 u.2.2.2.2.2.2.1 u.2.2.2.2.2.2.2.1 u.2.2.2.2.2.2.2.2.1 u.2.2.2.2.2.2.2.2.2.1 u.2.2.2.2.2.2.2.2.2.2.1 u.2.2.2.2.2.2.2.2.2.2.2.1 u.2.2.2.2.2.2.2.2.2.2.2.2.1 u.2.2.2.2.2.2.2.2.2.2.2.2.2.1 u.2.2.2.2.2.2.2.2.2.2.2.2.2.2.1 u.2.2.2.2.2.2.2.2.2.2.2.2.2.2.2.1 u.2.2.2.2.2.2.2.2.2.2.2.2.2.2.2.2.1 u.2.2.2.2.2.2.2.2.2.2.2.2.2.2.2.2.2)) 0 0 := by
  refine ct_of RX5 rfl (by decide +kernel) (Nat.le_of_ble_eq_true rfl) (fun zp ze zs zm zb zt zc A hin κ => ?_)
  unfold wp_X5_mostDelay at h
  refine gw_nf (lv' := [(0, .ref (qx 0)), (1, .int x1)]) (pc' := 0) (st' := []) (ce' := 0) (sl' := 0) rfl rfl rfl rfl rfl rfl ?_
  refine gw_iload_n (pc' := 1) κ dX5_mostDelay_0 rfl 1 rfl rfl ?_
  refine gb_callS (rest := []) κ (c_X5_isFlight  x1 h) ⟨rfl, rfl, Nat.le_of_ble_eq_true rfl, Nat.le_of_ble_eq_true rfl⟩ tw_ml_X5_75 tw_st_X5_isFlight tw_co_X5_isFlight tw_in_X5 hy_X5_isFlight rfl (Nat.le_of_ble_eq_true rfl) rfl dX5_mostDelay_1 [] rfl (by decide) (fun _ => Nat.le_of_ble_eq_true rfl) ⟨Nat.le_of_ble_eq_true rfl, Nat.le_of_ble_eq_true rfl⟩ (fun v u hv => ?_)
  obtain ⟨r_1, rfl, h⟩ := hv
  refine gw_nf (ws' := (wfl [cX qx qn qp qw qt qu qd qh ql, cSt qn cI now.se now.la now.de now.le now.sa now.fl now.ar now.dr now.pe now.ri, cPl qp cI pln.od pln.rd pln.vn pln.pn pln.ao pln.sr pln.sp pln.wt, cSt qt cI tri.se tri.la tri.de tri.le tri.sa tri.fl tri.ar tri.dr tri.pe tri.ri, cPl qu cI tpl.od tpl.rd tpl.vn tpl.pn tpl.ao tpl.sr tpl.sp tpl.wt])) (lv' := [(0, .ref (qx 0)), (1, .int x1)]) (st' := [.int r_1]) (pc' := 4) (ce' := 0) (sl' := 0) rfl rfl rfl rfl rfl rfl ?_
  refine gw_if_ne (pc' := 7) (tgt := 10) κ dX5_mostDelay_4 rfl (by decide) (fun hc_2 => ?_) (fun hc_2 => ?_)
  · have h := h.1 hc_2
    refine gw_aload_n (pc' := 11) κ dX5_mostDelay_10 rfl 0 rfl rfl ?_
    refine gb_get (pc' := 14) (C := RX5) (T := TX5) (N := 8) κ dX5_mostDelay_11 rfl inX5 0 rfl rfl rfl 3 (by decide) tw_fl_X5_30 rfl ?_
    refine gw_aload_n (pc' := 15) κ dX5_mostDelay_14 rfl 0 rfl rfl ?_
    refine gb_get (pc' := 18) (C := RX5) (T := TX5) (N := 8) κ dX5_mostDelay_15 rfl inX5 0 rfl rfl rfl 0 (by decide) tw_fl_X5_10 rfl ?_
    refine gb_callV (ci := 3) (qb := 3) (rest := []) κ (c_X3_copyFrom qt qn tri now h) ⟨rfl, rfl, Nat.le_of_ble_eq_true rfl, Nat.le_of_ble_eq_true rfl⟩ tw_ml_X5_231 tw_im_X3_copyFrom tw_se_X3_copyFrom tw_co_X3_copyFrom tw_in_X3 hy_X3_copyFrom rfl rfl rfl rfl rfl (Nat.le_of_ble_eq_true rfl) rfl dX5_mostDelay_18 [3, 1] rfl (by decide) (fun _ => Nat.le_of_ble_eq_true rfl) ⟨Nat.le_of_ble_eq_true rfl, Nat.le_of_ble_eq_true rfl⟩ (fun v u hv => ?_)
    obtain ⟨rfl, h⟩ := hv
    obtain ⟨se_3, la_4, de_5, le_6, sa_7, fl_8, ar_9, dr_10, pe_11, ri_12⟩ := u
    refine gw_nf (ws' := (wfl [cX qx qn qp qw qt qu qd qh ql, cSt qn cI now.se now.la now.de now.le now.sa now.fl now.ar now.dr now.pe now.ri, cPl qp cI pln.od pln.rd pln.vn pln.pn pln.ao pln.sr pln.sp pln.wt, cSt qt cI se_3 la_4 de_5 le_6 sa_7 fl_8 ar_9 dr_10 pe_11 ri_12, cPl qu cI tpl.od tpl.rd tpl.vn tpl.pn tpl.ao tpl.sr tpl.sp tpl.wt])) (lv' := [(0, .ref (qx 0)), (1, .int x1)]) (st' := []) (pc' := 21) (ce' := 0) (sl' := 0) rfl rfl rfl rfl rfl rfl ?_
    refine gw_sipush (pc' := 24) (v := 300) κ dX5_mostDelay_21 rfl (by decide) ?_
    refine gw_istore_n (pc' := 25) κ dX5_mostDelay_24 rfl rfl (by decide) (lv' := [(2, .int (300 : Int32)), (0, .ref (qx 0)), (1, .int x1)]) rfl ?_
    obtain ⟨m25, h⟩ := h
    refine gw_lv (lv' := [(0, .ref (qx 0)), (1, .int x1), (2, .int (300 : Int32))]) [1, 2, 0] rfl ?_
    exact k_X5_mostDelay_25 κ qx qn qp qw qt qu qd qh ql qs P now pln tri tpl x1 se_3 la_4 le_6 sa_7 fl_8 ar_9 dr_10 pe_11 ri_12 m25 (300 : Int32) de_5 tpl.od tpl.rd tpl.vn tpl.pn tpl.ao tpl.sr tpl.sp tpl.wt h
  · have h := h.2 hc_2
    refine gw_bipush (pc' := 9) (v := -101) κ dX5_mostDelay_7 rfl (by decide) ?_
    exact gw_iret κ dX5_mostDelay_9 (tri.se, tri.la, tri.de, tri.le, tri.sa, tri.fl, tri.ar, tri.dr, tri.pe, tri.ri, tpl.od, tpl.rd, tpl.vn, tpl.pn, tpl.ao, tpl.sr, tpl.sp, tpl.wt) rfl ⟨_, rfl, h⟩
theorem hy_X5_bestMinute : g_hy yX5_bestMinute 1 := by decide +kernel
set_option maxHeartbeats 4000000 in
set_option maxRecDepth 100000 in
theorem k_X5_bestMinute_114 {zp : Program} {l : Launch} {ze : Env} {zs : State} {zm : MethodId} {za : Array Value} {zb : List Frame} {zt : Method} {zc : Code} {D : va_G} {cI cR : ClassId} {A : Nat → Prop} (κ : KC zp zs zm za zt zc cX5_bestMinute 9 RX5 D cI cR A (some .int)) (qx : Nat → Nat) (qn : Nat → Nat) (qp : Nat → Nat) (qw : Nat → Nat) (qt : Nat → Nat) (qu : Nat → Nat) (qd : Nat → Nat) (qh : Nat → Nat) (ql : Nat → Nat) (qs : Nat → Nat → Nat) (P : Int32 → (Nat → Int32) → (Nat → Int32) → (Nat → Int32) → (Nat → Int32) → (Nat → Int32) → (Nat → Int32) → (Nat → Int32) → (Nat → Int32) → (Nat → Int32) → Int32 → (Nat → Int32) → (Nat → Int32) → (Nat → Int32) → (Nat → Int32) → (Nat → Int32) → Int32 → Int32 → Int32 → Prop) (now : StT) (tri : StT) (tpl : PlT) (x1 : Int32) (r42 : Int32 → Int32 → Int32 → Int32 → (Nat → Int32) → (Nat → Int32) → (Nat → Int32) → (Nat → Int32) → Int32 → Int32 → Int32 → Prop) (v2 : Int32) (v3 : Int32) (v4 : Int32) (v5 : Int32) (v6 : Int32) (v7 : Int32) (w0 : Int32) (tri_se : Nat → Int32) (tri_la : Nat → Int32) (tri_de : Nat → Int32) (tri_le : Nat → Int32) (tri_sa : Nat → Int32) (tri_fl : Nat → Int32) (tri_ar : Nat → Int32) (tri_dr : Nat → Int32) (tri_pe : Nat → Int32) (tri_ri : Int32) (tpl_od : Nat → Int32) (tpl_rd : Nat → Int32) (tpl_vn : Nat → Int32) (tpl_pn : Nat → Int32) (tpl_ao : Nat → Int32) (tpl_sr : Int32) (tpl_sp : Int32) (tpl_wt : Int32) (hr42 : ∀ (v2 : Int32) (v3 : Int32) (v4 : Int32) (v5 : Int32) (tri_le : Nat → Int32) (tpl_vn : Nat → Int32) (tpl_pn : Nat → Int32) (tpl_ao : Nat → Int32) (tpl_sr : Int32) (tpl_sp : Int32) (tpl_wt : Int32), r42 v2 v3 v4 v5 tri_le tpl_vn tpl_pn tpl_ao tpl_sr tpl_sp tpl_wt → GM zp l ze ({ frames := 5, cells := 0, slots := 0, locals := 119 } : Room) zs zm za zb zt zc D A 9 (pI (fun (r : Int32) (u : (Nat → Int32) × (Nat → Int32) × (Nat → Int32) × (Nat → Int32) × (Nat → Int32) × (Nat → Int32) × (Nat → Int32) × (Nat → Int32) × (Nat → Int32) × Int32 × (Nat → Int32) × (Nat → Int32) × (Nat → Int32) × (Nat → Int32) × (Nat → Int32) × Int32 × Int32 × Int32) => P r u.1 u.2.1 u.2.2.1 u.2.2.2.1 u.2.2.2.2.1 u.2.2.2.2.2.1 u.2.2.2.2.2.2.1 u.2.2.2.2.2.2.2.1 u.2.2.2.2.2.2.2.2.1 u.2.2.2.2.2.2.2.2.2.1 u.2.2.2.2.2.2.2.2.2.2.1 u.2.2.2.2.2.2.2.2.2.2.2.1 u.2.2.2.2.2.2.2.2.2.2.2.2.1 u.2.2.2.2.2.2.2.2.2.2.2.2.2.1 u.2.2.2.2.2.2.2.2.2.2.2.2.2.2.1 u.2.2.2.2.2.2.2.2.2.2.2.2.2.2.2.1 u.2.2.2.2.2.2.2.2.2.2.2.2.2.2.2.2.1 u.2.2.2.2.2.2.2.2.2.2.2.2.2.2.2.2.2)) (fun u : (Nat → Int32) × (Nat → Int32) × (Nat → Int32) × (Nat → Int32) × (Nat → Int32) × (Nat → Int32) × (Nat → Int32) × (Nat → Int32) × (Nat → Int32) × Int32 × (Nat → Int32) × (Nat → Int32) × (Nat → Int32) × (Nat → Int32) × (Nat → Int32) × Int32 × Int32 × Int32 => (wfl [cX qx qn qp qw qt qu qd qh ql, cSt qn cI now.se now.la now.de now.le now.sa now.fl now.ar now.dr now.pe now.ri, cSt qt cI u.1 u.2.1 u.2.2.1 u.2.2.2.1 u.2.2.2.2.1 u.2.2.2.2.2.1 u.2.2.2.2.2.2.1 u.2.2.2.2.2.2.2.1 u.2.2.2.2.2.2.2.2.1 u.2.2.2.2.2.2.2.2.2.1, cPl qu cI u.2.2.2.2.2.2.2.2.2.2.1 u.2.2.2.2.2.2.2.2.2.2.2.1 u.2.2.2.2.2.2.2.2.2.2.2.2.1 u.2.2.2.2.2.2.2.2.2.2.2.2.2.1 u.2.2.2.2.2.2.2.2.2.2.2.2.2.2.1 u.2.2.2.2.2.2.2.2.2.2.2.2.2.2.2.1 u.2.2.2.2.2.2.2.2.2.2.2.2.2.2.2.2.1 u.2.2.2.2.2.2.2.2.2.2.2.2.2.2.2.2.2])) 0 0 0 0 (wfl [cX qx qn qp qw qt qu qd qh ql, cSt qn cI now.se now.la now.de now.le now.sa now.fl now.ar now.dr now.pe now.ri, cSt qt cI tri_se tri_la tri_de tri_le tri_sa tri_fl tri_ar tri_dr tri_pe tri_ri, cPl qu cI tpl_od tpl_rd tpl_vn tpl_pn tpl_ao tpl_sr tpl_sp tpl_wt]) [(0, .ref (qx 0)), (1, .int x1), (2, .int v2), (3, .int v3), (4, .int v4), (5, .int v5)] 42 []) (h : wp_X5_bestMinute_114 P now tri tpl x1 r42 v2 v3 v4 v5 v6 v7 w0 tri_se tri_la tri_de tri_le tri_sa tri_fl tri_ar tri_dr tri_pe tri_ri tpl_od tpl_rd tpl_vn tpl_pn tpl_ao tpl_sr tpl_sp tpl_wt) : GM zp l ze ({ frames := 5, cells := 0, slots := 0, locals := 119 } : Room) zs zm za zb zt zc D A 9 (pI (fun (r : Int32) (u : (Nat → Int32) × (Nat → Int32) × (Nat → Int32) × (Nat → Int32) × (Nat → Int32) × (Nat → Int32) × (Nat → Int32) × (Nat → Int32) × (Nat → Int32) × Int32 × (Nat → Int32) × (Nat → Int32) × (Nat → Int32) × (Nat → Int32) × (Nat → Int32) × Int32 × Int32 × Int32) => P r u.1 u.2.1 u.2.2.1 u.2.2.2.1 u.2.2.2.2.1 u.2.2.2.2.2.1 u.2.2.2.2.2.2.1 u.2.2.2.2.2.2.2.1 u.2.2.2.2.2.2.2.2.1 u.2.2.2.2.2.2.2.2.2.1 u.2.2.2.2.2.2.2.2.2.2.1 u.2.2.2.2.2.2.2.2.2.2.2.1 u.2.2.2.2.2.2.2.2.2.2.2.2.1 u.2.2.2.2.2.2.2.2.2.2.2.2.2.1 u.2.2.2.2.2.2.2.2.2.2.2.2.2.2.1 u.2.2.2.2.2.2.2.2.2.2.2.2.2.2.2.1 u.2.2.2.2.2.2.2.2.2.2.2.2.2.2.2.2.1 u.2.2.2.2.2.2.2.2.2.2.2.2.2.2.2.2.2)) (fun u : (Nat → Int32) × (Nat → Int32) × (Nat → Int32) × (Nat → Int32) × (Nat → Int32) × (Nat → Int32) × (Nat → Int32) × (Nat → Int32) × (Nat → Int32) × Int32 × (Nat → Int32) × (Nat → Int32) × (Nat → Int32) × (Nat → Int32) × (Nat → Int32) × Int32 × Int32 × Int32 => (wfl [cX qx qn qp qw qt qu qd qh ql, cSt qn cI now.se now.la now.de now.le now.sa now.fl now.ar now.dr now.pe now.ri, cSt qt cI u.1 u.2.1 u.2.2.1 u.2.2.2.1 u.2.2.2.2.1 u.2.2.2.2.2.1 u.2.2.2.2.2.2.1 u.2.2.2.2.2.2.2.1 u.2.2.2.2.2.2.2.2.1 u.2.2.2.2.2.2.2.2.2.1, cPl qu cI u.2.2.2.2.2.2.2.2.2.2.1 u.2.2.2.2.2.2.2.2.2.2.2.1 u.2.2.2.2.2.2.2.2.2.2.2.2.1 u.2.2.2.2.2.2.2.2.2.2.2.2.2.1 u.2.2.2.2.2.2.2.2.2.2.2.2.2.2.1 u.2.2.2.2.2.2.2.2.2.2.2.2.2.2.2.1 u.2.2.2.2.2.2.2.2.2.2.2.2.2.2.2.2.1 u.2.2.2.2.2.2.2.2.2.2.2.2.2.2.2.2.2])) 0 0 0 0 (wfl [cX qx qn qp qw qt qu qd qh ql, cSt qn cI now.se now.la now.de now.le now.sa now.fl now.ar now.dr now.pe now.ri, cSt qt cI tri_se tri_la tri_de tri_le tri_sa tri_fl tri_ar tri_dr tri_pe tri_ri, cPl qu cI tpl_od tpl_rd tpl_vn tpl_pn tpl_ao tpl_sr tpl_sp tpl_wt]) [(0, .ref (qx 0)), (1, .int x1), (2, .int v2), (3, .int v3), (4, .int v4), (5, .int v5), (6, .int v6), (7, .int v7)] 114 [.int w0] := by
  unfold wp_X5_bestMinute_114 at h
  refine gw_istore (pc' := 116) κ dX5_bestMinute_114 rfl (by decide) (lv' := [(8, .int w0), (0, .ref (qx 0)), (1, .int x1), (2, .int v2), (3, .int v3), (4, .int v4), (5, .int v5), (6, .int v6), (7, .int v7)]) rfl ?_
  refine gw_iload (pc' := 118) κ dX5_bestMinute_116 rfl 6 rfl ?_
  refine gw_if_eq (pc' := 121) (tgt := 126) κ dX5_bestMinute_118 rfl (by decide) (fun hc_26 => ?_) (fun hc_26 => ?_)
  · have h := h.1 hc_26
    refine gw_iload (pc' := 128) κ dX5_bestMinute_126 rfl 6 rfl ?_
    refine gw_istore_n (pc' := 129) κ dX5_bestMinute_128 rfl rfl (by decide) (lv' := [(2, .int v5), (8, .int w0), (0, .ref (qx 0)), (1, .int x1), (3, .int v3), (4, .int v4), (5, .int v5), (6, .int v6), (7, .int v7)]) rfl ?_
    refine gw_iload (pc' := 131) κ dX5_bestMinute_129 rfl 7 rfl ?_
    refine gw_istore_n (pc' := 132) κ dX5_bestMinute_131 rfl rfl (by decide) (lv' := [(3, .int v6), (2, .int v5), (8, .int w0), (0, .ref (qx 0)), (1, .int x1), (4, .int v4), (5, .int v5), (6, .int v6), (7, .int v7)]) rfl ?_
    refine gw_iload (pc' := 134) κ dX5_bestMinute_132 rfl 8 rfl ?_
    refine gw_istore (pc' := 136) κ dX5_bestMinute_134 rfl (by decide) (lv' := [(4, .int v7), (3, .int v6), (2, .int v5), (8, .int w0), (0, .ref (qx 0)), (1, .int x1), (5, .int v5), (6, .int v6), (7, .int v7)]) rfl ?_
    refine gw_iinc (pc' := 139) κ dX5_bestMinute_136 rfl 6 rfl (v := (v5 + 5)) rfl (by decide) (lv' := [(5, .int (v5 + 5)), (4, .int v7), (3, .int v6), (2, .int v5), (8, .int w0), (0, .ref (qx 0)), (1, .int x1), (6, .int v6), (7, .int v7)]) rfl ?_
    refine gw_goto (tgt := 42) κ dX5_bestMinute_139 (by decide) ?_
    refine gw_lv (lv' := [(0, .ref (qx 0)), (1, .int x1), (2, .int v5), (3, .int v6), (4, .int v7), (5, .int (v5 + 5))]) [5, 6, 3, 2, 1, 0] rfl ?_
    exact hr42 v5 v6 v7 (v5 + 5) tri_le tpl_vn tpl_pn tpl_ao tpl_sr tpl_sp tpl_wt h
  · have h := h.2 hc_26
    refine gw_iload (pc' := 123) κ dX5_bestMinute_121 rfl 0 rfl ?_
    refine gw_if_eq (pc' := 126) (tgt := 136) κ dX5_bestMinute_123 rfl (by decide) (fun hc_27 => ?_) (fun hc_27 => ?_)
    · have h := h.1 hc_27
      refine gw_iinc (pc' := 139) κ dX5_bestMinute_136 rfl 6 rfl (v := (v5 + 5)) rfl (by decide) (lv' := [(5, .int (v5 + 5)), (8, .int w0), (0, .ref (qx 0)), (1, .int x1), (2, .int v2), (3, .int v3), (4, .int v4), (6, .int v6), (7, .int v7)]) rfl ?_
      refine gw_goto (tgt := 42) κ dX5_bestMinute_139 (by decide) ?_
      refine gw_lv (lv' := [(0, .ref (qx 0)), (1, .int x1), (2, .int v2), (3, .int v3), (4, .int v4), (5, .int (v5 + 5))]) [2, 3, 4, 5, 6, 0] rfl ?_
      exact hr42 v2 v3 v4 (v5 + 5) tri_le tpl_vn tpl_pn tpl_ao tpl_sr tpl_sp tpl_wt h
    · have h := h.2 hc_27
      refine gw_iload (pc' := 128) κ dX5_bestMinute_126 rfl 6 rfl ?_
      refine gw_istore_n (pc' := 129) κ dX5_bestMinute_128 rfl rfl (by decide) (lv' := [(2, .int v5), (8, .int w0), (0, .ref (qx 0)), (1, .int x1), (3, .int v3), (4, .int v4), (5, .int v5), (6, .int v6), (7, .int v7)]) rfl ?_
      refine gw_iload (pc' := 131) κ dX5_bestMinute_129 rfl 7 rfl ?_
      refine gw_istore_n (pc' := 132) κ dX5_bestMinute_131 rfl rfl (by decide) (lv' := [(3, .int v6), (2, .int v5), (8, .int w0), (0, .ref (qx 0)), (1, .int x1), (4, .int v4), (5, .int v5), (6, .int v6), (7, .int v7)]) rfl ?_
      refine gw_iload (pc' := 134) κ dX5_bestMinute_132 rfl 8 rfl ?_
      refine gw_istore (pc' := 136) κ dX5_bestMinute_134 rfl (by decide) (lv' := [(4, .int v7), (3, .int v6), (2, .int v5), (8, .int w0), (0, .ref (qx 0)), (1, .int x1), (5, .int v5), (6, .int v6), (7, .int v7)]) rfl ?_
      refine gw_iinc (pc' := 139) κ dX5_bestMinute_136 rfl 6 rfl (v := (v5 + 5)) rfl (by decide) (lv' := [(5, .int (v5 + 5)), (4, .int v7), (3, .int v6), (2, .int v5), (8, .int w0), (0, .ref (qx 0)), (1, .int x1), (6, .int v6), (7, .int v7)]) rfl ?_
      refine gw_goto (tgt := 42) κ dX5_bestMinute_139 (by decide) ?_
      refine gw_lv (lv' := [(0, .ref (qx 0)), (1, .int x1), (2, .int v5), (3, .int v6), (4, .int v7), (5, .int (v5 + 5))]) [5, 6, 3, 2, 1, 0] rfl ?_
      exact hr42 v5 v6 v7 (v5 + 5) tri_le tpl_vn tpl_pn tpl_ao tpl_sr tpl_sp tpl_wt h
set_option maxHeartbeats 4000000 in
set_option maxRecDepth 100000 in
theorem k_X5_bestMinute_42 {zp : Program} {l : Launch} {ze : Env} {zs : State} {zm : MethodId} {za : Array Value} {zb : List Frame} {zt : Method} {zc : Code} {D : va_G} {cI cR : ClassId} {A : Nat → Prop} (κ : KC zp zs zm za zt zc cX5_bestMinute 9 RX5 D cI cR A (some .int)) (qx : Nat → Nat) (qn : Nat → Nat) (qp : Nat → Nat) (qw : Nat → Nat) (qt : Nat → Nat) (qu : Nat → Nat) (qd : Nat → Nat) (qh : Nat → Nat) (ql : Nat → Nat) (qs : Nat → Nat → Nat) (P : Int32 → (Nat → Int32) → (Nat → Int32) → (Nat → Int32) → (Nat → Int32) → (Nat → Int32) → (Nat → Int32) → (Nat → Int32) → (Nat → Int32) → (Nat → Int32) → Int32 → (Nat → Int32) → (Nat → Int32) → (Nat → Int32) → (Nat → Int32) → (Nat → Int32) → Int32 → Int32 → Int32 → Prop) (now : StT) (tri : StT) (tpl : PlT) (x1 : Int32) (tri_se : Nat → Int32) (tri_la : Nat → Int32) (tri_de : Nat → Int32) (tri_sa : Nat → Int32) (tri_fl : Nat → Int32) (tri_ar : Nat → Int32) (tri_dr : Nat → Int32) (tri_pe : Nat → Int32) (tri_ri : Int32) (tpl_od : Nat → Int32) (tpl_rd : Nat → Int32) : ∀ (n : Nat) (v2 : Int32) (v3 : Int32) (v4 : Int32) (v5 : Int32) (tri_le : Nat → Int32) (tpl_vn : Nat → Int32) (tpl_pn : Nat → Int32) (tpl_ao : Nat → Int32) (tpl_sr : Int32) (tpl_sp : Int32) (tpl_wt : Int32), wp_X5_bestMinute_42 P now tri tpl x1 tri_se tri_la tri_de tri_sa tri_fl tri_ar tri_dr tri_pe tri_ri tpl_od tpl_rd n v2 v3 v4 v5 tri_le tpl_vn tpl_pn tpl_ao tpl_sr tpl_sp tpl_wt → GM zp l ze ({ frames := 5, cells := 0, slots := 0, locals := 119 } : Room) zs zm za zb zt zc D A 9 (pI (fun (r : Int32) (u : (Nat → Int32) × (Nat → Int32) × (Nat → Int32) × (Nat → Int32) × (Nat → Int32) × (Nat → Int32) × (Nat → Int32) × (Nat → Int32) × (Nat → Int32) × Int32 × (Nat → Int32) × (Nat → Int32) × (Nat → Int32) × (Nat → Int32) × (Nat → Int32) × Int32 × Int32 × Int32) => P r u.1 u.2.1 u.2.2.1 u.2.2.2.1 u.2.2.2.2.1 u.2.2.2.2.2.1 u.2.2.2.2.2.2.1 u.2.2.2.2.2.2.2.1 u.2.2.2.2.2.2.2.2.1 u.2.2.2.2.2.2.2.2.2.1 u.2.2.2.2.2.2.2.2.2.2.1 u.2.2.2.2.2.2.2.2.2.2.2.1 u.2.2.2.2.2.2.2.2.2.2.2.2.1 u.2.2.2.2.2.2.2.2.2.2.2.2.2.1 u.2.2.2.2.2.2.2.2.2.2.2.2.2.2.1 u.2.2.2.2.2.2.2.2.2.2.2.2.2.2.2.1 u.2.2.2.2.2.2.2.2.2.2.2.2.2.2.2.2.1 u.2.2.2.2.2.2.2.2.2.2.2.2.2.2.2.2.2)) (fun u : (Nat → Int32) × (Nat → Int32) × (Nat → Int32) × (Nat → Int32) × (Nat → Int32) × (Nat → Int32) × (Nat → Int32) × (Nat → Int32) × (Nat → Int32) × Int32 × (Nat → Int32) × (Nat → Int32) × (Nat → Int32) × (Nat → Int32) × (Nat → Int32) × Int32 × Int32 × Int32 => (wfl [cX qx qn qp qw qt qu qd qh ql, cSt qn cI now.se now.la now.de now.le now.sa now.fl now.ar now.dr now.pe now.ri, cSt qt cI u.1 u.2.1 u.2.2.1 u.2.2.2.1 u.2.2.2.2.1 u.2.2.2.2.2.1 u.2.2.2.2.2.2.1 u.2.2.2.2.2.2.2.1 u.2.2.2.2.2.2.2.2.1 u.2.2.2.2.2.2.2.2.2.1, cPl qu cI u.2.2.2.2.2.2.2.2.2.2.1 u.2.2.2.2.2.2.2.2.2.2.2.1 u.2.2.2.2.2.2.2.2.2.2.2.2.1 u.2.2.2.2.2.2.2.2.2.2.2.2.2.1 u.2.2.2.2.2.2.2.2.2.2.2.2.2.2.1 u.2.2.2.2.2.2.2.2.2.2.2.2.2.2.2.1 u.2.2.2.2.2.2.2.2.2.2.2.2.2.2.2.2.1 u.2.2.2.2.2.2.2.2.2.2.2.2.2.2.2.2.2])) 0 0 0 0 (wfl [cX qx qn qp qw qt qu qd qh ql, cSt qn cI now.se now.la now.de now.le now.sa now.fl now.ar now.dr now.pe now.ri, cSt qt cI tri_se tri_la tri_de tri_le tri_sa tri_fl tri_ar tri_dr tri_pe tri_ri, cPl qu cI tpl_od tpl_rd tpl_vn tpl_pn tpl_ao tpl_sr tpl_sp tpl_wt]) [(0, .ref (qx 0)), (1, .int x1), (2, .int v2), (3, .int v3), (4, .int v4), (5, .int v5)] 42 [] := by
  intro n42
  induction n42 with
  | zero => intro v2 v3 v4 v5 tri_le tpl_vn tpl_pn tpl_ao tpl_sr tpl_sp tpl_wt h; exact (show False from h).elim
  | succ n42 ih42 =>
    intro v2 v3 v4 v5 tri_le tpl_vn tpl_pn tpl_ao tpl_sr tpl_sp tpl_wt h
    have h : wp_X5_bestMinute_42F P now tri tpl x1 tri_se tri_la tri_de tri_sa tri_fl tri_ar tri_dr tri_pe tri_ri tpl_od tpl_rd (wp_X5_bestMinute_42 P now tri tpl x1 tri_se tri_la tri_de tri_sa tri_fl tri_ar tri_dr tri_pe tri_ri tpl_od tpl_rd n42) v2 v3 v4 v5 tri_le tpl_vn tpl_pn tpl_ao tpl_sr tpl_sp tpl_wt := h
    unfold wp_X5_bestMinute_42F at h
    refine gw_iload (pc' := 44) κ dX5_bestMinute_42 rfl 5 rfl ?_
    refine gw_sipush (pc' := 47) (v := 1500) κ dX5_bestMinute_44 rfl (by decide) ?_
    refine gw_icmp_gt (pc' := 50) (tgt := 142) κ dX5_bestMinute_47 rfl (by decide) (fun hc_15 => ?_) (fun hc_15 => ?_)
    · have h := h.1 hc_15
      refine gw_iload_n (pc' := 143) κ dX5_bestMinute_142 rfl 2 rfl rfl ?_
      exact gw_iret κ dX5_bestMinute_143 (tri_se, tri_la, tri_de, tri_le, tri_sa, tri_fl, tri_ar, tri_dr, tri_pe, tri_ri, tpl_od, tpl_rd, tpl_vn, tpl_pn, tpl_ao, tpl_sr, tpl_sp, tpl_wt) rfl ⟨_, rfl, h⟩
    · have h := h.2 hc_15
      refine gw_aload_n (pc' := 51) κ dX5_bestMinute_50 rfl 0 rfl rfl ?_
      refine gb_get (pc' := 54) (C := RX5) (T := TX5) (N := 8) κ dX5_bestMinute_51 rfl inX5 0 rfl rfl rfl 3 (by decide) tw_fl_X5_30 rfl ?_
      refine gb_get (pc' := 57) (C := RX3) (T := TX3) (N := 10) κ dX5_bestMinute_54 rfl inX3 2 rfl rfl rfl 3 (by decide) tw_fl_X5_95 rfl ?_
      refine gw_iload_n (pc' := 58) κ dX5_bestMinute_57 rfl 1 rfl rfl ?_
      refine gw_iload (pc' := 60) κ dX5_bestMinute_58 rfl 5 rfl ?_
      obtain ⟨hb_16, h⟩ := h
      refine gb_iast (pc' := 61) (bs' := [cX qx qn qp qw qt qu qd qh ql, cSt qn cI now.se now.la now.de now.le now.sa now.fl now.ar now.dr now.pe now.ri, cSt qt cI tri_se tri_la tri_de (upd tri_le x1.toNatClampNeg v5) tri_sa tri_fl tri_ar tri_dr tri_pe tri_ri, cPl qu cI tpl_od tpl_rd tpl_vn tpl_pn tpl_ao tpl_sr tpl_sp tpl_wt]) κ dX5_bestMinute_60 rfl 2 4 rfl rfl hb_16 rfl ?_
      refine gw_aload_n (pc' := 62) κ dX5_bestMinute_61 rfl 0 rfl rfl ?_
      refine gb_get (pc' := 65) (C := RX5) (T := TX5) (N := 8) κ dX5_bestMinute_62 rfl inX5 0 rfl rfl rfl 4 (by decide) tw_fl_X5_33 rfl ?_
      refine gw_aload_n (pc' := 66) κ dX5_bestMinute_65 rfl 0 rfl rfl ?_
      refine gb_get (pc' := 69) (C := RX5) (T := TX5) (N := 8) κ dX5_bestMinute_66 rfl inX5 0 rfl rfl rfl 3 (by decide) tw_fl_X5_30 rfl ?_
      refine gb_callV (ci := 2) (qb := 3) (rest := []) κ (c_X2_board qu qt (mkPl tpl_od tpl_rd tpl_vn tpl_pn tpl_ao tpl_sr tpl_sp tpl_wt) (mkSt tri_se tri_la tri_de (upd tri_le x1.toNatClampNeg v5) tri_sa tri_fl tri_ar tri_dr tri_pe tri_ri) h) ⟨rfl, rfl, Nat.le_of_ble_eq_true rfl, Nat.le_of_ble_eq_true rfl⟩ tw_ml_X5_237 tw_im_X2_board tw_se_X2_board tw_co_X2_board tw_in_X2 hy_X2_board rfl rfl rfl rfl rfl (Nat.le_of_ble_eq_true rfl) rfl dX5_bestMinute_69 [3, 2] rfl (by decide) (fun _ => Nat.le_of_ble_eq_true rfl) ⟨Nat.le_of_ble_eq_true rfl, Nat.le_of_ble_eq_true rfl⟩ (fun v u hv => ?_)
      obtain ⟨rfl, h⟩ := hv
      obtain ⟨vn_17, pn_18, ao_19, sr_20, sp_21, wt_22⟩ := u
      refine gw_nf (ws' := (wfl [cX qx qn qp qw qt qu qd qh ql, cSt qn cI now.se now.la now.de now.le now.sa now.fl now.ar now.dr now.pe now.ri, cSt qt cI tri_se tri_la tri_de (upd tri_le x1.toNatClampNeg v5) tri_sa tri_fl tri_ar tri_dr tri_pe tri_ri, cPl qu cI tpl_od tpl_rd vn_17 pn_18 ao_19 sr_20 sp_21 wt_22])) (lv' := [(0, .ref (qx 0)), (1, .int x1), (2, .int v2), (3, .int v3), (4, .int v4), (5, .int v5)]) (st' := []) (pc' := 72) (ce' := 0) (sl' := 0) rfl rfl rfl rfl rfl rfl ?_
      refine gw_aload_n (pc' := 73) κ dX5_bestMinute_72 rfl 0 rfl rfl ?_
      refine gb_get (pc' := 76) (C := RX5) (T := TX5) (N := 8) κ dX5_bestMinute_73 rfl inX5 0 rfl rfl rfl 4 (by decide) tw_fl_X5_33 rfl ?_
      refine gb_get (pc' := 79) (C := RX2) (T := TX2) (N := 8) κ dX5_bestMinute_76 rfl inX2 3 rfl rfl rfl 6 (by decide) tw_fl_X5_101 rfl ?_
      refine gw_istore (pc' := 81) κ dX5_bestMinute_79 rfl (by decide) (lv' := [(6, .int sp_21), (0, .ref (qx 0)), (1, .int x1), (2, .int v2), (3, .int v3), (4, .int v4), (5, .int v5)]) rfl ?_
      refine gw_aload_n (pc' := 82) κ dX5_bestMinute_81 rfl 1 rfl rfl ?_
      refine gb_get (pc' := 85) (C := RX5) (T := TX5) (N := 8) κ dX5_bestMinute_82 rfl inX5 0 rfl rfl rfl 4 (by decide) tw_fl_X5_33 rfl ?_
      refine gb_get (pc' := 88) (C := RX2) (T := TX2) (N := 8) κ dX5_bestMinute_85 rfl inX2 3 rfl rfl rfl 7 (by decide) tw_fl_X5_208 rfl ?_
      refine gw_istore (pc' := 90) κ dX5_bestMinute_88 rfl (by decide) (lv' := [(7, .int wt_22), (6, .int sp_21), (0, .ref (qx 0)), (1, .int x1), (2, .int v2), (3, .int v3), (4, .int v4), (5, .int v5)]) rfl ?_
      refine gw_iload (pc' := 92) κ dX5_bestMinute_90 rfl 1 rfl ?_
      refine gw_iload_n (pc' := 93) κ dX5_bestMinute_92 rfl 5 rfl rfl ?_
      refine gw_icmp_lt (pc' := 96) (tgt := 109) κ dX5_bestMinute_93 rfl (by decide) (fun hc_23 => ?_) (fun hc_23 => ?_)
      · have h := h.1 hc_23
        refine gw_iconst (pc' := 110) (v := 1) κ dX5_bestMinute_109 rfl (by decide) ?_
        refine gw_goto (tgt := 114) κ dX5_bestMinute_110 (by decide) ?_
        refine gw_lv (lv' := [(0, .ref (qx 0)), (1, .int x1), (2, .int v2), (3, .int v3), (4, .int v4), (5, .int v5), (6, .int sp_21), (7, .int wt_22)]) [2, 3, 4, 5, 6, 7, 1, 0] rfl ?_
        exact k_X5_bestMinute_114 κ qx qn qp qw qt qu qd qh ql qs P now tri tpl x1 (wp_X5_bestMinute_42 P now tri tpl x1 tri_se tri_la tri_de tri_sa tri_fl tri_ar tri_dr tri_pe tri_ri tpl_od tpl_rd n42) v2 v3 v4 v5 sp_21 wt_22 (1 : Int32) tri_se tri_la tri_de (upd tri_le x1.toNatClampNeg v5) tri_sa tri_fl tri_ar tri_dr tri_pe tri_ri tpl_od tpl_rd vn_17 pn_18 ao_19 sr_20 sp_21 wt_22 ih42 h
      · have h := h.2 hc_23
        refine gw_iload (pc' := 98) κ dX5_bestMinute_96 rfl 1 rfl ?_
        refine gw_iload_n (pc' := 99) κ dX5_bestMinute_98 rfl 5 rfl rfl ?_
        refine gw_icmp_ne (pc' := 102) (tgt := 113) κ dX5_bestMinute_99 rfl (by decide) (fun hc_24 => ?_) (fun hc_24 => ?_)
        · have h := h.1 hc_24
          refine gw_iconst (pc' := 114) (v := 0) κ dX5_bestMinute_113 rfl (by decide) ?_
          refine gw_lv (lv' := [(0, .ref (qx 0)), (1, .int x1), (2, .int v2), (3, .int v3), (4, .int v4), (5, .int v5), (6, .int sp_21), (7, .int wt_22)]) [2, 3, 4, 5, 6, 7, 1, 0] rfl ?_
          exact k_X5_bestMinute_114 κ qx qn qp qw qt qu qd qh ql qs P now tri tpl x1 (wp_X5_bestMinute_42 P now tri tpl x1 tri_se tri_la tri_de tri_sa tri_fl tri_ar tri_dr tri_pe tri_ri tpl_od tpl_rd n42) v2 v3 v4 v5 sp_21 wt_22 (0 : Int32) tri_se tri_la tri_de (upd tri_le x1.toNatClampNeg v5) tri_sa tri_fl tri_ar tri_dr tri_pe tri_ri tpl_od tpl_rd vn_17 pn_18 ao_19 sr_20 sp_21 wt_22 ih42 h
        · have h := h.2 hc_24
          refine gw_iload (pc' := 104) κ dX5_bestMinute_102 rfl 0 rfl ?_
          refine gw_iload (pc' := 106) κ dX5_bestMinute_104 rfl 6 rfl ?_
          refine gw_icmp_ge (pc' := 109) (tgt := 113) κ dX5_bestMinute_106 rfl (by decide) (fun hc_25 => ?_) (fun hc_25 => ?_)
          · have h := h.1 hc_25
            refine gw_iconst (pc' := 114) (v := 0) κ dX5_bestMinute_113 rfl (by decide) ?_
            refine gw_lv (lv' := [(0, .ref (qx 0)), (1, .int x1), (2, .int v2), (3, .int v3), (4, .int v4), (5, .int v5), (6, .int sp_21), (7, .int wt_22)]) [2, 3, 4, 5, 6, 7, 1, 0] rfl ?_
            exact k_X5_bestMinute_114 κ qx qn qp qw qt qu qd qh ql qs P now tri tpl x1 (wp_X5_bestMinute_42 P now tri tpl x1 tri_se tri_la tri_de tri_sa tri_fl tri_ar tri_dr tri_pe tri_ri tpl_od tpl_rd n42) v2 v3 v4 v5 sp_21 wt_22 (0 : Int32) tri_se tri_la tri_de (upd tri_le x1.toNatClampNeg v5) tri_sa tri_fl tri_ar tri_dr tri_pe tri_ri tpl_od tpl_rd vn_17 pn_18 ao_19 sr_20 sp_21 wt_22 ih42 h
          · have h := h.2 hc_25
            refine gw_iconst (pc' := 110) (v := 1) κ dX5_bestMinute_109 rfl (by decide) ?_
            refine gw_goto (tgt := 114) κ dX5_bestMinute_110 (by decide) ?_
            refine gw_lv (lv' := [(0, .ref (qx 0)), (1, .int x1), (2, .int v2), (3, .int v3), (4, .int v4), (5, .int v5), (6, .int sp_21), (7, .int wt_22)]) [2, 3, 4, 5, 6, 7, 1, 0] rfl ?_
            exact k_X5_bestMinute_114 κ qx qn qp qw qt qu qd qh ql qs P now tri tpl x1 (wp_X5_bestMinute_42 P now tri tpl x1 tri_se tri_la tri_de tri_sa tri_fl tri_ar tri_dr tri_pe tri_ri tpl_od tpl_rd n42) v2 v3 v4 v5 sp_21 wt_22 (1 : Int32) tri_se tri_la tri_de (upd tri_le x1.toNatClampNeg v5) tri_sa tri_fl tri_ar tri_dr tri_pe tri_ri tpl_od tpl_rd vn_17 pn_18 ao_19 sr_20 sp_21 wt_22 ih42 h
set_option maxHeartbeats 4000000 in
set_option maxRecDepth 100000 in
theorem c_X5_bestMinute {l : Launch} {D : va_G} {cI cR : ClassId}  (qx : Nat → Nat) (qn : Nat → Nat) (qp : Nat → Nat) (qw : Nat → Nat) (qt : Nat → Nat) (qu : Nat → Nat) (qd : Nat → Nat) (qh : Nat → Nat) (ql : Nat → Nat) (qs : Nat → Nat → Nat) {P : Int32 → (Nat → Int32) → (Nat → Int32) → (Nat → Int32) → (Nat → Int32) → (Nat → Int32) → (Nat → Int32) → (Nat → Int32) → (Nat → Int32) → (Nat → Int32) → Int32 → (Nat → Int32) → (Nat → Int32) → (Nat → Int32) → (Nat → Int32) → (Nat → Int32) → Int32 → Int32 → Int32 → Prop} (now : StT) (tri : StT) (tpl : PlT) (x1 : Int32) (h : wp_X5_bestMinute P now tri tpl x1) : CT l D cI cR yX5_bestMinute cX5_bestMinute 9 (some .int) ({ frames := 5, cells := 0, slots := 0, locals := 119 } : Room) [.ref (qx 0), .int x1] (wfl [cX qx qn qp qw qt qu qd qh ql, cSt qn cI now.se now.la now.de now.le now.sa now.fl now.ar now.dr now.pe now.ri, cSt qt cI tri.se tri.la tri.de tri.le tri.sa tri.fl tri.ar tri.dr tri.pe tri.ri, cPl qu cI tpl.od tpl.rd tpl.vn tpl.pn tpl.ao tpl.sr tpl.sp tpl.wt]) (fun u : (Nat → Int32) × (Nat → Int32) × (Nat → Int32) × (Nat → Int32) × (Nat → Int32) × (Nat → Int32) × (Nat → Int32) × (Nat → Int32) × (Nat → Int32) × Int32 × (Nat → Int32) × (Nat → Int32) × (Nat → Int32) × (Nat → Int32) × (Nat → Int32) × Int32 × Int32 × Int32 => (wfl [cX qx qn qp qw qt qu qd qh ql, cSt qn cI now.se now.la now.de now.le now.sa now.fl now.ar now.dr now.pe now.ri, cSt qt cI u.1 u.2.1 u.2.2.1 u.2.2.2.1 u.2.2.2.2.1 u.2.2.2.2.2.1 u.2.2.2.2.2.2.1 u.2.2.2.2.2.2.2.1 u.2.2.2.2.2.2.2.2.1 u.2.2.2.2.2.2.2.2.2.1, cPl qu cI u.2.2.2.2.2.2.2.2.2.2.1 u.2.2.2.2.2.2.2.2.2.2.2.1 u.2.2.2.2.2.2.2.2.2.2.2.2.1 u.2.2.2.2.2.2.2.2.2.2.2.2.2.1 u.2.2.2.2.2.2.2.2.2.2.2.2.2.2.1 u.2.2.2.2.2.2.2.2.2.2.2.2.2.2.2.1 u.2.2.2.2.2.2.2.2.2.2.2.2.2.2.2.2.1 u.2.2.2.2.2.2.2.2.2.2.2.2.2.2.2.2.2])) (pI (fun (r : Int32) (u : (Nat → Int32) × (Nat → Int32) × (Nat → Int32) × (Nat → Int32) × (Nat → Int32) × (Nat → Int32) × (Nat → Int32) × (Nat → Int32) × (Nat → Int32) × Int32 × (Nat → Int32) × (Nat → Int32) × (Nat → Int32) × (Nat → Int32) × (Nat → Int32) × Int32 × Int32 × Int32) => P r u.1 u.2.1 u.2.2.1 u.2.2.2.1 u.2.2.2.2.1 u.2.2.2.2.2.1 u.2.2.2.2.2.2.1 u.2.2.2.2.2.2.2.1 u.2.2.2.2.2.2.2.2.1 u.2.2.2.2.2.2.2.2.2.1 u.2.2.2.2.2.2.2.2.2.2.1 u.2.2.2.2.2.2.2.2.2.2.2.1 u.2.2.2.2.2.2.2.2.2.2.2.2.1 u.2.2.2.2.2.2.2.2.2.2.2.2.2.1 u.2.2.2.2.2.2.2.2.2.2.2.2.2.2.1 u.2.2.2.2.2.2.2.2.2.2.2.2.2.2.2.1 u.2.2.2.2.2.2.2.2.2.2.2.2.2.2.2.2.1 u.2.2.2.2.2.2.2.2.2.2.2.2.2.2.2.2.2)) 0 0 := by
  refine ct_of RX5 rfl (by decide +kernel) (Nat.le_of_ble_eq_true rfl) (fun zp ze zs zm zb zt zc A hin κ => ?_)
  unfold wp_X5_bestMinute at h
  refine gw_nf (lv' := [(0, .ref (qx 0)), (1, .int x1)]) (pc' := 0) (st' := []) (ce' := 0) (sl' := 0) rfl rfl rfl rfl rfl rfl ?_
  refine gw_iload_n (pc' := 1) κ dX5_bestMinute_0 rfl 1 rfl rfl ?_
  refine gb_callS (rest := []) κ (c_X5_isVan  x1 h) ⟨rfl, rfl, Nat.le_of_ble_eq_true rfl, Nat.le_of_ble_eq_true rfl⟩ tw_ml_X5_92 tw_st_X5_isVan tw_co_X5_isVan tw_in_X5 hy_X5_isVan rfl (Nat.le_of_ble_eq_true rfl) rfl dX5_bestMinute_1 [] rfl (by decide) (fun _ => Nat.le_of_ble_eq_true rfl) ⟨Nat.le_of_ble_eq_true rfl, Nat.le_of_ble_eq_true rfl⟩ (fun v u hv => ?_)
  obtain ⟨r_1, rfl, h⟩ := hv
  refine gw_nf (ws' := (wfl [cX qx qn qp qw qt qu qd qh ql, cSt qn cI now.se now.la now.de now.le now.sa now.fl now.ar now.dr now.pe now.ri, cSt qt cI tri.se tri.la tri.de tri.le tri.sa tri.fl tri.ar tri.dr tri.pe tri.ri, cPl qu cI tpl.od tpl.rd tpl.vn tpl.pn tpl.ao tpl.sr tpl.sp tpl.wt])) (lv' := [(0, .ref (qx 0)), (1, .int x1)]) (st' := [.int r_1]) (pc' := 4) (ce' := 0) (sl' := 0) rfl rfl rfl rfl rfl rfl ?_
  refine gw_if_ne (pc' := 7) (tgt := 10) κ dX5_bestMinute_4 rfl (by decide) (fun hc_2 => ?_) (fun hc_2 => ?_)
  · have h := h.1 hc_2
    refine gw_iconst (pc' := 11) (v := 0) κ dX5_bestMinute_10 rfl (by decide) ?_
    refine gw_istore_n (pc' := 12) κ dX5_bestMinute_11 rfl rfl (by decide) (lv' := [(2, .int (0 : Int32)), (0, .ref (qx 0)), (1, .int x1)]) rfl ?_
    refine gw_iconst (pc' := 13) (v := 0) κ dX5_bestMinute_12 rfl (by decide) ?_
    refine gw_istore_n (pc' := 14) κ dX5_bestMinute_13 rfl rfl (by decide) (lv' := [(3, .int (0 : Int32)), (2, .int (0 : Int32)), (0, .ref (qx 0)), (1, .int x1)]) rfl ?_
    refine gw_iconst (pc' := 15) (v := 0) κ dX5_bestMinute_14 rfl (by decide) ?_
    refine gw_istore (pc' := 17) κ dX5_bestMinute_15 rfl (by decide) (lv' := [(4, .int (0 : Int32)), (3, .int (0 : Int32)), (2, .int (0 : Int32)), (0, .ref (qx 0)), (1, .int x1)]) rfl ?_
    refine gw_aload_n (pc' := 18) κ dX5_bestMinute_17 rfl 3 rfl rfl ?_
    refine gb_get (pc' := 21) (C := RX5) (T := TX5) (N := 8) κ dX5_bestMinute_18 rfl inX5 0 rfl rfl rfl 3 (by decide) tw_fl_X5_30 rfl ?_
    refine gw_aload_n (pc' := 22) κ dX5_bestMinute_21 rfl 3 rfl rfl ?_
    refine gb_get (pc' := 25) (C := RX5) (T := TX5) (N := 8) κ dX5_bestMinute_22 rfl inX5 0 rfl rfl rfl 0 (by decide) tw_fl_X5_10 rfl ?_
    refine gb_callV (ci := 3) (qb := 2) (rest := []) κ (c_X3_copyFrom qt qn tri now h) ⟨rfl, rfl, Nat.le_of_ble_eq_true rfl, Nat.le_of_ble_eq_true rfl⟩ tw_ml_X5_231 tw_im_X3_copyFrom tw_se_X3_copyFrom tw_co_X3_copyFrom tw_in_X3 hy_X3_copyFrom rfl rfl rfl rfl rfl (Nat.le_of_ble_eq_true rfl) rfl dX5_bestMinute_25 [2, 1] rfl (by decide) (fun _ => Nat.le_of_ble_eq_true rfl) ⟨Nat.le_of_ble_eq_true rfl, Nat.le_of_ble_eq_true rfl⟩ (fun v u hv => ?_)
    obtain ⟨rfl, h⟩ := hv
    obtain ⟨se_3, la_4, de_5, le_6, sa_7, fl_8, ar_9, dr_10, pe_11, ri_12⟩ := u
    refine gw_nf (ws' := (wfl [cX qx qn qp qw qt qu qd qh ql, cSt qn cI now.se now.la now.de now.le now.sa now.fl now.ar now.dr now.pe now.ri, cSt qt cI se_3 la_4 de_5 le_6 sa_7 fl_8 ar_9 dr_10 pe_11 ri_12, cPl qu cI tpl.od tpl.rd tpl.vn tpl.pn tpl.ao tpl.sr tpl.sp tpl.wt])) (lv' := [(4, .int (0 : Int32)), (3, .int (0 : Int32)), (2, .int (0 : Int32)), (0, .ref (qx 0)), (1, .int x1)]) (st' := []) (pc' := 28) (ce' := 0) (sl' := 0) rfl rfl rfl rfl rfl rfl ?_
    refine gw_aload_n (pc' := 29) κ dX5_bestMinute_28 rfl 3 rfl rfl ?_
    refine gb_get (pc' := 32) (C := RX5) (T := TX5) (N := 8) κ dX5_bestMinute_29 rfl inX5 0 rfl rfl rfl 4 (by decide) tw_fl_X5_33 rfl ?_
    refine gw_aload_n (pc' := 33) κ dX5_bestMinute_32 rfl 3 rfl rfl ?_
    refine gb_get (pc' := 36) (C := RX5) (T := TX5) (N := 8) κ dX5_bestMinute_33 rfl inX5 0 rfl rfl rfl 3 (by decide) tw_fl_X5_30 rfl ?_
    refine gb_callV (ci := 2) (qb := 3) (rest := []) κ (c_X2_lineUp qu qt tpl (mkSt se_3 la_4 de_5 le_6 sa_7 fl_8 ar_9 dr_10 pe_11 ri_12) h) ⟨rfl, rfl, Nat.le_of_ble_eq_true rfl, Nat.le_of_ble_eq_true rfl⟩ tw_ml_X5_234 tw_im_X2_lineUp tw_se_X2_lineUp tw_co_X2_lineUp tw_in_X2 hy_X2_lineUp rfl rfl rfl rfl rfl (Nat.le_of_ble_eq_true rfl) rfl dX5_bestMinute_36 [3, 2] rfl (by decide) (fun _ => Nat.le_of_ble_eq_true rfl) ⟨Nat.le_of_ble_eq_true rfl, Nat.le_of_ble_eq_true rfl⟩ (fun v u hv => ?_)
    obtain ⟨rfl, h⟩ := hv
    obtain ⟨od_13, rd_14⟩ := u
    refine gw_nf (ws' := (wfl [cX qx qn qp qw qt qu qd qh ql, cSt qn cI now.se now.la now.de now.le now.sa now.fl now.ar now.dr now.pe now.ri, cSt qt cI se_3 la_4 de_5 le_6 sa_7 fl_8 ar_9 dr_10 pe_11 ri_12, cPl qu cI od_13 rd_14 tpl.vn tpl.pn tpl.ao tpl.sr tpl.sp tpl.wt])) (lv' := [(4, .int (0 : Int32)), (3, .int (0 : Int32)), (2, .int (0 : Int32)), (0, .ref (qx 0)), (1, .int x1)]) (st' := []) (pc' := 39) (ce' := 0) (sl' := 0) rfl rfl rfl rfl rfl rfl ?_
    refine gw_iconst (pc' := 40) (v := 0) κ dX5_bestMinute_39 rfl (by decide) ?_
    refine gw_istore (pc' := 42) κ dX5_bestMinute_40 rfl (by decide) (lv' := [(5, .int (0 : Int32)), (4, .int (0 : Int32)), (3, .int (0 : Int32)), (2, .int (0 : Int32)), (0, .ref (qx 0)), (1, .int x1)]) rfl ?_
    obtain ⟨m42, h⟩ := h
    refine gw_lv (lv' := [(0, .ref (qx 0)), (1, .int x1), (2, .int (0 : Int32)), (3, .int (0 : Int32)), (4, .int (0 : Int32)), (5, .int (0 : Int32))]) [4, 5, 3, 2, 1, 0] rfl ?_
    exact k_X5_bestMinute_42 κ qx qn qp qw qt qu qd qh ql qs P now tri tpl x1 se_3 la_4 de_5 sa_7 fl_8 ar_9 dr_10 pe_11 ri_12 od_13 rd_14 m42 (0 : Int32) (0 : Int32) (0 : Int32) (0 : Int32) le_6 tpl.vn tpl.pn tpl.ao tpl.sr tpl.sp tpl.wt h
  · have h := h.2 hc_2
    refine gw_bipush (pc' := 9) (v := -101) κ dX5_bestMinute_7 rfl (by decide) ?_
    exact gw_iret κ dX5_bestMinute_9 (tri.se, tri.la, tri.de, tri.le, tri.sa, tri.fl, tri.ar, tri.dr, tri.pe, tri.ri, tpl.od, tpl.rd, tpl.vn, tpl.pn, tpl.ao, tpl.sr, tpl.sp, tpl.wt) rfl ⟨_, rfl, h⟩
