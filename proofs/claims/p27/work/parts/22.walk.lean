theorem hy_X5_flight : g_hy yX5_flight 2 := by decide +kernel
set_option maxHeartbeats 4000000 in
set_option maxRecDepth 100000 in
theorem c_X5_flight {l : Launch} {D : va_G} {cI cR : ClassId}  (qx : Nat → Nat) (qn : Nat → Nat) (qp : Nat → Nat) (qw : Nat → Nat) (qt : Nat → Nat) (qu : Nat → Nat) (qd : Nat → Nat) (qh : Nat → Nat) (ql : Nat → Nat) (qs : Nat → Nat → Nat) {P : Int32 → Prop} (now : StT) (pln : PlT) (x1 : Int32) (x2 : Int32) (h : wp_X5_flight P now pln x1 x2) : CT l D cI cR yX5_flight cX5_flight 3 (some .int) ({ frames := 2, cells := 0, slots := 0, locals := 42 } : Room) [.ref (qx 0), .int x1, .int x2] (wfl [cX qx qn qp qw qt qu qd qh ql, cSt qn cI now.se now.la now.de now.le now.sa now.fl now.ar now.dr now.pe now.ri, cPl qp cI pln.od pln.rd pln.vn pln.pn pln.ao pln.sr pln.sp pln.wt]) (fun _ : Unit => (wfl [cX qx qn qp qw qt qu qd qh ql, cSt qn cI now.se now.la now.de now.le now.sa now.fl now.ar now.dr now.pe now.ri, cPl qp cI pln.od pln.rd pln.vn pln.pn pln.ao pln.sr pln.sp pln.wt])) (pI (fun (r : Int32) (_ : Unit) => P r)) 0 0 := by
  refine ct_of RX5 rfl (by decide +kernel) (Nat.le_of_ble_eq_true rfl) (fun zp ze zs zm zb zt zc A hin κ => ?_)
  unfold wp_X5_flight at h
  refine gw_nf (lv' := [(0, .ref (qx 0)), (1, .int x1), (2, .int x2)]) (pc' := 0) (st' := []) (ce' := 0) (sl' := 0) rfl rfl rfl rfl rfl rfl ?_
  refine gw_iload_n (pc' := 1) κ dX5_flight_0 rfl 1 rfl rfl ?_
  refine gb_callS (rest := []) κ (c_X5_isFlight  x1 h) ⟨rfl, rfl, Nat.le_of_ble_eq_true rfl, Nat.le_of_ble_eq_true rfl⟩ tw_ml_X5_75 tw_st_X5_isFlight tw_co_X5_isFlight tw_in_X5 hy_X5_isFlight rfl (Nat.le_of_ble_eq_true rfl) rfl dX5_flight_1 [] rfl (by decide) (fun _ => Nat.le_of_ble_eq_true rfl) ⟨Nat.le_of_ble_eq_true rfl, Nat.le_of_ble_eq_true rfl⟩ (fun v u hv => ?_)
  obtain ⟨r_1, rfl, h⟩ := hv
  refine gw_nf (ws' := (wfl [cX qx qn qp qw qt qu qd qh ql, cSt qn cI now.se now.la now.de now.le now.sa now.fl now.ar now.dr now.pe now.ri, cPl qp cI pln.od pln.rd pln.vn pln.pn pln.ao pln.sr pln.sp pln.wt])) (lv' := [(0, .ref (qx 0)), (1, .int x1), (2, .int x2)]) (st' := [.int r_1]) (pc' := 4) (ce' := 0) (sl' := 0) rfl rfl rfl rfl rfl rfl ?_
  refine gw_if_ne (pc' := 7) (tgt := 10) κ dX5_flight_4 rfl (by decide) (fun hc_2 => ?_) (fun hc_2 => ?_)
  · have h := h.1 hc_2
    refine gw_iload_n (pc' := 11) κ dX5_flight_10 rfl 2 rfl rfl ?_
    obtain ⟨hc_3_0, hc_3_1, hc_3_2, hc_3_3, hc_3_4, hc_3d⟩ := h
    by_cases hc_3c_0 : x2 = 0
    · have h := hc_3_0 hc_3c_0
      refine gw_tableIn (tgt := 44) (off := 33) κ dX5_flight_11 (by rw [hc_3c_0]; decide) (by rw [hc_3c_0]; decide) (by rw [hc_3c_0]; decide +kernel) (by decide) ?_
      refine gw_aload_n (pc' := 45) κ dX5_flight_44 rfl 0 rfl rfl ?_
      refine gb_get (pc' := 48) (C := RX5) (T := TX5) (N := 8) κ dX5_flight_45 rfl inX5 0 rfl rfl rfl 0 (by decide) tw_fl_X5_10 rfl ?_
      refine gb_get (pc' := 51) (C := RX3) (T := TX3) (N := 10) κ dX5_flight_48 rfl inX3 1 rfl rfl rfl 1 (by decide) tw_fl_X5_79 rfl ?_
      refine gw_iload_n (pc' := 52) κ dX5_flight_51 rfl 1 rfl rfl ?_
      obtain ⟨hb_4, h⟩ := h
      refine gb_iald (pc' := 53) κ dX5_flight_52 rfl 1 2 rfl rfl hb_4 ?_
      exact gw_iret κ dX5_flight_53 () rfl ⟨_, rfl, h⟩
    by_cases hc_3c_1 : x2 = 1
    · have h := hc_3_1 hc_3c_1
      refine gw_tableIn (tgt := 54) (off := 43) κ dX5_flight_11 (by rw [hc_3c_1]; decide) (by rw [hc_3c_1]; decide) (by rw [hc_3c_1]; decide +kernel) (by decide) ?_
      refine gw_aload_n (pc' := 55) κ dX5_flight_54 rfl 0 rfl rfl ?_
      refine gb_get (pc' := 58) (C := RX5) (T := TX5) (N := 8) κ dX5_flight_55 rfl inX5 0 rfl rfl rfl 0 (by decide) tw_fl_X5_10 rfl ?_
      refine gb_get (pc' := 61) (C := RX3) (T := TX3) (N := 10) κ dX5_flight_58 rfl inX3 1 rfl rfl rfl 2 (by decide) tw_fl_X5_85 rfl ?_
      refine gw_iload_n (pc' := 62) κ dX5_flight_61 rfl 1 rfl rfl ?_
      obtain ⟨hb_5, h⟩ := h
      refine gb_iald (pc' := 63) κ dX5_flight_62 rfl 1 3 rfl rfl hb_5 ?_
      exact gw_iret κ dX5_flight_63 () rfl ⟨_, rfl, h⟩
    by_cases hc_3c_2 : x2 = 2
    · have h := hc_3_2 hc_3c_2
      refine gw_tableIn (tgt := 64) (off := 53) κ dX5_flight_11 (by rw [hc_3c_2]; decide) (by rw [hc_3c_2]; decide) (by rw [hc_3c_2]; decide +kernel) (by decide) ?_
      refine gw_aload_n (pc' := 65) κ dX5_flight_64 rfl 0 rfl rfl ?_
      refine gb_get (pc' := 68) (C := RX5) (T := TX5) (N := 8) κ dX5_flight_65 rfl inX5 0 rfl rfl rfl 0 (by decide) tw_fl_X5_10 rfl ?_
      refine gw_iload_n (pc' := 69) κ dX5_flight_68 rfl 1 rfl rfl ?_
      refine gb_callV (ci := 3) (qb := 1) (rest := []) κ (c_X3_flightReady qn now x1 h) ⟨rfl, rfl, Nat.le_of_ble_eq_true rfl, Nat.le_of_ble_eq_true rfl⟩ tw_ml_X5_88 tw_im_X3_flightReady tw_se_X3_flightReady tw_co_X3_flightReady tw_in_X3 hy_X3_flightReady rfl rfl rfl rfl rfl (Nat.le_of_ble_eq_true rfl) rfl dX5_flight_69 [1] rfl (by decide) (fun _ => Nat.le_of_ble_eq_true rfl) ⟨Nat.le_of_ble_eq_true rfl, Nat.le_of_ble_eq_true rfl⟩ (fun v u hv => ?_)
      obtain ⟨r_6, rfl, h⟩ := hv
      refine gw_nf (ws' := (wfl [cX qx qn qp qw qt qu qd qh ql, cSt qn cI now.se now.la now.de now.le now.sa now.fl now.ar now.dr now.pe now.ri, cPl qp cI pln.od pln.rd pln.vn pln.pn pln.ao pln.sr pln.sp pln.wt])) (lv' := [(0, .ref (qx 0)), (1, .int x1), (2, .int x2)]) (st' := [.int r_6]) (pc' := 72) (ce' := 0) (sl' := 0) rfl rfl rfl rfl rfl rfl ?_
      exact gw_iret κ dX5_flight_72 () rfl ⟨_, rfl, h⟩
    by_cases hc_3c_3 : x2 = 3
    · have h := hc_3_3 hc_3c_3
      refine gw_tableIn (tgt := 73) (off := 62) κ dX5_flight_11 (by rw [hc_3c_3]; decide) (by rw [hc_3c_3]; decide) (by rw [hc_3c_3]; decide +kernel) (by decide) ?_
      refine gw_aload_n (pc' := 74) κ dX5_flight_73 rfl 0 rfl rfl ?_
      refine gb_get (pc' := 77) (C := RX5) (T := TX5) (N := 8) κ dX5_flight_74 rfl inX5 0 rfl rfl rfl 1 (by decide) tw_fl_X5_19 rfl ?_
      refine gw_aload_n (pc' := 78) κ dX5_flight_77 rfl 0 rfl rfl ?_
      refine gb_get (pc' := 81) (C := RX5) (T := TX5) (N := 8) κ dX5_flight_78 rfl inX5 0 rfl rfl rfl 0 (by decide) tw_fl_X5_10 rfl ?_
      refine gw_iload_n (pc' := 82) κ dX5_flight_81 rfl 1 rfl rfl ?_
      refine gw_iconst (pc' := 83) (v := 0) κ dX5_flight_82 rfl (by decide) ?_
      refine gb_callV (ci := 2) (qb := 2) (rest := []) κ (c_X2_peopleOfFlight qp qn pln now x1 (0 : Int32) h) ⟨rfl, rfl, Nat.le_of_ble_eq_true rfl, Nat.le_of_ble_eq_true rfl⟩ tw_ml_X5_185 tw_im_X2_peopleOfFlight tw_se_X2_peopleOfFlight tw_co_X2_peopleOfFlight tw_in_X2 hy_X2_peopleOfFlight rfl rfl rfl rfl rfl (Nat.le_of_ble_eq_true rfl) rfl dX5_flight_83 [2, 1] rfl (by decide) (fun _ => Nat.le_of_ble_eq_true rfl) ⟨Nat.le_of_ble_eq_true rfl, Nat.le_of_ble_eq_true rfl⟩ (fun v u hv => ?_)
      obtain ⟨r_7, rfl, h⟩ := hv
      refine gw_nf (ws' := (wfl [cX qx qn qp qw qt qu qd qh ql, cSt qn cI now.se now.la now.de now.le now.sa now.fl now.ar now.dr now.pe now.ri, cPl qp cI pln.od pln.rd pln.vn pln.pn pln.ao pln.sr pln.sp pln.wt])) (lv' := [(0, .ref (qx 0)), (1, .int x1), (2, .int x2)]) (st' := [.int r_7]) (pc' := 86) (ce' := 0) (sl' := 0) rfl rfl rfl rfl rfl rfl ?_
      exact gw_iret κ dX5_flight_86 () rfl ⟨_, rfl, h⟩
    by_cases hc_3c_4 : x2 = 4
    · have h := hc_3_4 hc_3c_4
      refine gw_tableIn (tgt := 87) (off := 76) κ dX5_flight_11 (by rw [hc_3c_4]; decide) (by rw [hc_3c_4]; decide) (by rw [hc_3c_4]; decide +kernel) (by decide) ?_
      refine gw_aload_n (pc' := 88) κ dX5_flight_87 rfl 0 rfl rfl ?_
      refine gb_get (pc' := 91) (C := RX5) (T := TX5) (N := 8) κ dX5_flight_88 rfl inX5 0 rfl rfl rfl 1 (by decide) tw_fl_X5_19 rfl ?_
      refine gw_aload_n (pc' := 92) κ dX5_flight_91 rfl 0 rfl rfl ?_
      refine gb_get (pc' := 95) (C := RX5) (T := TX5) (N := 8) κ dX5_flight_92 rfl inX5 0 rfl rfl rfl 0 (by decide) tw_fl_X5_10 rfl ?_
      refine gw_iload_n (pc' := 96) κ dX5_flight_95 rfl 1 rfl rfl ?_
      refine gw_iconst (pc' := 97) (v := 1) κ dX5_flight_96 rfl (by decide) ?_
      refine gb_callV (ci := 2) (qb := 2) (rest := []) κ (c_X2_peopleOfFlight qp qn pln now x1 (1 : Int32) h) ⟨rfl, rfl, Nat.le_of_ble_eq_true rfl, Nat.le_of_ble_eq_true rfl⟩ tw_ml_X5_185 tw_im_X2_peopleOfFlight tw_se_X2_peopleOfFlight tw_co_X2_peopleOfFlight tw_in_X2 hy_X2_peopleOfFlight rfl rfl rfl rfl rfl (Nat.le_of_ble_eq_true rfl) rfl dX5_flight_97 [2, 1] rfl (by decide) (fun _ => Nat.le_of_ble_eq_true rfl) ⟨Nat.le_of_ble_eq_true rfl, Nat.le_of_ble_eq_true rfl⟩ (fun v u hv => ?_)
      obtain ⟨r_8, rfl, h⟩ := hv
      refine gw_nf (ws' := (wfl [cX qx qn qp qw qt qu qd qh ql, cSt qn cI now.se now.la now.de now.le now.sa now.fl now.ar now.dr now.pe now.ri, cPl qp cI pln.od pln.rd pln.vn pln.pn pln.ao pln.sr pln.sp pln.wt])) (lv' := [(0, .ref (qx 0)), (1, .int x1), (2, .int x2)]) (st' := [.int r_8]) (pc' := 100) (ce' := 0) (sl' := 0) rfl rfl rfl rfl rfl rfl ?_
      exact gw_iret κ dX5_flight_100 () rfl ⟨_, rfl, h⟩
    have h := hc_3d ⟨hc_3c_0, hc_3c_1, hc_3c_2, hc_3c_3, hc_3c_4⟩
    refine gw_tableOut (tgt := 101) κ dX5_flight_11 (sw_out2 (x := x2) (lo := 0) (hi := 4) (by decide) (fun k h1 h2 => by rcases (show k = 0 ∨ k = 1 ∨ k = 2 ∨ k = 3 ∨ k = 4 by omega) with rfl | rfl | rfl | rfl | rfl <;> assumption)) (by decide) ?_
    refine gw_bipush (pc' := 103) (v := -102) κ dX5_flight_101 rfl (by decide) ?_
    exact gw_iret κ dX5_flight_103 () rfl ⟨_, rfl, h⟩
  · have h := h.2 hc_2
    refine gw_bipush (pc' := 9) (v := -101) κ dX5_flight_7 rfl (by decide) ?_
    exact gw_iret κ dX5_flight_9 () rfl ⟨_, rfl, h⟩
theorem hy_X3_doorOfStop : g_hy yX3_doorOfStop 1 := by decide +kernel
set_option maxHeartbeats 4000000 in
set_option maxRecDepth 100000 in
theorem c_X3_doorOfStop {l : Launch} {D : va_G} {cI cR : ClassId}  {P : Int32 → Prop} (x0 : Int32) (h : wp_X3_doorOfStop P x0) : CT l D cI cR yX3_doorOfStop cX3_doorOfStop 1 (some .int) ({ frames := 0, cells := 0, slots := 0, locals := 0 } : Room) [.int x0] (wfl ([] : List va_W)) (fun _ : Unit => (wfl ([] : List va_W))) (pI (fun (r : Int32) (_ : Unit) => P r)) 0 0 := by
  refine ct_of RX3 rfl (by decide +kernel) (Nat.le_of_ble_eq_true rfl) (fun zp ze zs zm zb zt zc A hin κ => ?_)
  unfold wp_X3_doorOfStop at h
  refine gw_nf (lv' := [(0, .int x0)]) (pc' := 0) (st' := []) (ce' := 0) (sl' := 0) rfl rfl rfl rfl rfl rfl ?_
  refine gw_iload_n (pc' := 1) κ dX3_doorOfStop_0 rfl 0 rfl rfl ?_
  refine gw_bipush (pc' := 3) (v := 100) κ dX3_doorOfStop_1 rfl (by decide) ?_
  refine gw_irem (pc' := 4) κ dX3_doorOfStop_3 rfl (by decide) ?_
  exact gw_iret κ dX3_doorOfStop_4 () rfl ⟨_, rfl, h⟩
theorem hy_X5_stop : g_hy yX5_stop 3 := by decide +kernel
set_option maxHeartbeats 4000000 in
set_option maxRecDepth 100000 in
theorem c_X5_stop {l : Launch} {D : va_G} {cI cR : ClassId}  (qx : Nat → Nat) (qn : Nat → Nat) (qp : Nat → Nat) (qw : Nat → Nat) (qt : Nat → Nat) (qu : Nat → Nat) (qd : Nat → Nat) (qh : Nat → Nat) (ql : Nat → Nat) (qs : Nat → Nat → Nat) {P : Int32 → (Nat → Int32) → (Nat → Int32) → (Nat → Int32) → Int32 → Prop} (now : StT) (pln : PlT) (way : WyT) (x1 : Int32) (x2 : Int32) (x3 : Int32) (h : wp_X5_stop P now pln way x1 x2 x3) : CT l D cI cR yX5_stop cX5_stop 4 (some .int) ({ frames := 3, cells := 0, slots := 0, locals := 70 } : Room) [.ref (qx 0), .int x1, .int x2, .int x3] (wfl [cX qx qn qp qw qt qu qd qh ql, cSt qn cI now.se now.la now.de now.le now.sa now.fl now.ar now.dr now.pe now.ri, cPl qp cI pln.od pln.rd pln.vn pln.pn pln.ao pln.sr pln.sp pln.wt, cWy qw cI way.ky way.wp way.mi way.so]) (fun u : (Nat → Int32) × (Nat → Int32) × (Nat → Int32) × Int32 => (wfl [cX qx qn qp qw qt qu qd qh ql, cSt qn cI now.se now.la now.de now.le now.sa now.fl now.ar now.dr now.pe now.ri, cPl qp cI pln.od pln.rd pln.vn pln.pn pln.ao pln.sr pln.sp pln.wt, cWy qw cI u.1 u.2.1 u.2.2.1 u.2.2.2])) (pI (fun (r : Int32) (u : (Nat → Int32) × (Nat → Int32) × (Nat → Int32) × Int32) => P r u.1 u.2.1 u.2.2.1 u.2.2.2)) 0 0 := by
  refine ct_of RX5 rfl (by decide +kernel) (Nat.le_of_ble_eq_true rfl) (fun zp ze zs zm zb zt zc A hin κ => ?_)
  unfold wp_X5_stop at h
  refine gw_nf (lv' := [(0, .ref (qx 0)), (1, .int x1), (2, .int x2), (3, .int x3)]) (pc' := 0) (st' := []) (ce' := 0) (sl' := 0) rfl rfl rfl rfl rfl rfl ?_
  refine gw_iload_n (pc' := 1) κ dX5_stop_0 rfl 1 rfl rfl ?_
  refine gb_callS (rest := []) κ (c_X5_isVan  x1 h) ⟨rfl, rfl, Nat.le_of_ble_eq_true rfl, Nat.le_of_ble_eq_true rfl⟩ tw_ml_X5_92 tw_st_X5_isVan tw_co_X5_isVan tw_in_X5 hy_X5_isVan rfl (Nat.le_of_ble_eq_true rfl) rfl dX5_stop_1 [] rfl (by decide) (fun _ => Nat.le_of_ble_eq_true rfl) ⟨Nat.le_of_ble_eq_true rfl, Nat.le_of_ble_eq_true rfl⟩ (fun v u hv => ?_)
  obtain ⟨r_1, rfl, h⟩ := hv
  refine gw_nf (ws' := (wfl [cX qx qn qp qw qt qu qd qh ql, cSt qn cI now.se now.la now.de now.le now.sa now.fl now.ar now.dr now.pe now.ri, cPl qp cI pln.od pln.rd pln.vn pln.pn pln.ao pln.sr pln.sp pln.wt, cWy qw cI way.ky way.wp way.mi way.so])) (lv' := [(0, .ref (qx 0)), (1, .int x1), (2, .int x2), (3, .int x3)]) (st' := [.int r_1]) (pc' := 4) (ce' := 0) (sl' := 0) rfl rfl rfl rfl rfl rfl ?_
  refine gw_if_ne (pc' := 7) (tgt := 10) κ dX5_stop_4 rfl (by decide) (fun hc_2 => ?_) (fun hc_2 => ?_)
  · have h := h.1 hc_2
    refine gw_aload_n (pc' := 11) κ dX5_stop_10 rfl 0 rfl rfl ?_
    refine gb_get (pc' := 14) (C := RX5) (T := TX5) (N := 8) κ dX5_stop_11 rfl inX5 0 rfl rfl rfl 2 (by decide) tw_fl_X5_26 rfl ?_
    refine gw_aload_n (pc' := 15) κ dX5_stop_14 rfl 0 rfl rfl ?_
    refine gb_get (pc' := 18) (C := RX5) (T := TX5) (N := 8) κ dX5_stop_15 rfl inX5 0 rfl rfl rfl 0 (by decide) tw_fl_X5_10 rfl ?_
    refine gw_aload_n (pc' := 19) κ dX5_stop_18 rfl 0 rfl rfl ?_
    refine gb_get (pc' := 22) (C := RX5) (T := TX5) (N := 8) κ dX5_stop_19 rfl inX5 0 rfl rfl rfl 1 (by decide) tw_fl_X5_19 rfl ?_
    refine gw_iload_n (pc' := 23) κ dX5_stop_22 rfl 1 rfl rfl ?_
    refine gb_callV (ci := 4) (qb := 3) (rest := []) κ (c_X4_follow qw qn qp way now pln x1 h) ⟨rfl, rfl, Nat.le_of_ble_eq_true rfl, Nat.le_of_ble_eq_true rfl⟩ tw_ml_X5_163 tw_im_X4_follow tw_se_X4_follow tw_co_X4_follow tw_in_X4 hy_X4_follow rfl rfl rfl rfl rfl (Nat.le_of_ble_eq_true rfl) rfl dX5_stop_23 [3, 1, 2] rfl (by decide) (fun _ => Nat.le_of_ble_eq_true rfl) ⟨Nat.le_of_ble_eq_true rfl, Nat.le_of_ble_eq_true rfl⟩ (fun v u hv => ?_)
    obtain ⟨rfl, h⟩ := hv
    obtain ⟨ky_3, wp_4, mi_5, so_6⟩ := u
    refine gw_nf (ws' := (wfl [cX qx qn qp qw qt qu qd qh ql, cSt qn cI now.se now.la now.de now.le now.sa now.fl now.ar now.dr now.pe now.ri, cPl qp cI pln.od pln.rd pln.vn pln.pn pln.ao pln.sr pln.sp pln.wt, cWy qw cI ky_3 wp_4 mi_5 so_6])) (lv' := [(0, .ref (qx 0)), (1, .int x1), (2, .int x2), (3, .int x3)]) (st' := []) (pc' := 26) (ce' := 0) (sl' := 0) rfl rfl rfl rfl rfl rfl ?_
    refine gw_iload_n (pc' := 27) κ dX5_stop_26 rfl 2 rfl rfl ?_
    refine gw_iconst (pc' := 28) (v := 0) κ dX5_stop_27 rfl (by decide) ?_
    refine gw_aload_n (pc' := 29) κ dX5_stop_28 rfl 0 rfl rfl ?_
    refine gb_get (pc' := 32) (C := RX5) (T := TX5) (N := 8) κ dX5_stop_29 rfl inX5 0 rfl rfl rfl 2 (by decide) tw_fl_X5_26 rfl ?_
    refine gb_get (pc' := 35) (C := RX4) (T := TX4) (N := 4) κ dX5_stop_32 rfl inX4 3 rfl rfl rfl 3 (by decide) tw_fl_X5_176 rfl ?_
    refine gw_iconst (pc' := 36) (v := 1) κ dX5_stop_35 rfl (by decide) ?_
    refine gw_isub (pc' := 37) κ dX5_stop_36 rfl  ?_
    refine gb_callS (rest := []) κ (c_X5_isIn  x2 (0 : Int32) (so_6 - (1 : Int32)) h) ⟨rfl, rfl, Nat.le_of_ble_eq_true rfl, Nat.le_of_ble_eq_true rfl⟩ tw_ml_X5_54 tw_st_X5_isIn tw_co_X5_isIn tw_in_X5 hy_X5_isIn rfl (Nat.le_of_ble_eq_true rfl) rfl dX5_stop_37 [] rfl (by decide) (fun _ => Nat.le_of_ble_eq_true rfl) ⟨Nat.le_of_ble_eq_true rfl, Nat.le_of_ble_eq_true rfl⟩ (fun v u hv => ?_)
    obtain ⟨r_7, rfl, h⟩ := hv
    refine gw_nf (ws' := (wfl [cX qx qn qp qw qt qu qd qh ql, cSt qn cI now.se now.la now.de now.le now.sa now.fl now.ar now.dr now.pe now.ri, cPl qp cI pln.od pln.rd pln.vn pln.pn pln.ao pln.sr pln.sp pln.wt, cWy qw cI ky_3 wp_4 mi_5 so_6])) (lv' := [(0, .ref (qx 0)), (1, .int x1), (2, .int x2), (3, .int x3)]) (st' := [.int r_7]) (pc' := 40) (ce' := 0) (sl' := 0) rfl rfl rfl rfl rfl rfl ?_
    refine gw_if_ne (pc' := 43) (tgt := 46) κ dX5_stop_40 rfl (by decide) (fun hc_8 => ?_) (fun hc_8 => ?_)
    · have h := h.1 hc_8
      refine gw_iload_n (pc' := 47) κ dX5_stop_46 rfl 3 rfl rfl ?_
      obtain ⟨hc_9_0, hc_9_1, hc_9_2, hc_9_3, hc_9d⟩ := h
      by_cases hc_9c_0 : x3 = 0
      · have h := hc_9_0 hc_9c_0
        refine gw_tableIn (tgt := 76) (off := 29) κ dX5_stop_47 (by rw [hc_9c_0]; decide) (by rw [hc_9c_0]; decide) (by rw [hc_9c_0]; decide +kernel) (by decide) ?_
        refine gw_aload_n (pc' := 77) κ dX5_stop_76 rfl 0 rfl rfl ?_
        refine gb_get (pc' := 80) (C := RX5) (T := TX5) (N := 8) κ dX5_stop_77 rfl inX5 0 rfl rfl rfl 2 (by decide) tw_fl_X5_26 rfl ?_
        refine gb_get (pc' := 83) (C := RX4) (T := TX4) (N := 4) κ dX5_stop_80 rfl inX4 3 rfl rfl rfl 0 (by decide) tw_fl_X5_189 rfl ?_
        refine gw_iload_n (pc' := 84) κ dX5_stop_83 rfl 2 rfl rfl ?_
        obtain ⟨hb_10, h⟩ := h
        refine gb_iald (pc' := 85) κ dX5_stop_84 rfl 3 1 rfl rfl hb_10 ?_
        refine gb_callS (rest := []) κ (c_X3_areaOfStop  (ky_3 x2.toNatClampNeg) h) ⟨rfl, rfl, Nat.le_of_ble_eq_true rfl, Nat.le_of_ble_eq_true rfl⟩ tw_ml_X5_192 tw_st_X3_areaOfStop tw_co_X3_areaOfStop tw_in_X3 hy_X3_areaOfStop rfl (Nat.le_of_ble_eq_true rfl) rfl dX5_stop_85 [] rfl (by decide) (fun _ => Nat.le_of_ble_eq_true rfl) ⟨Nat.le_of_ble_eq_true rfl, Nat.le_of_ble_eq_true rfl⟩ (fun v u hv => ?_)
        obtain ⟨r_11, rfl, h⟩ := hv
        refine gw_nf (ws' := (wfl [cX qx qn qp qw qt qu qd qh ql, cSt qn cI now.se now.la now.de now.le now.sa now.fl now.ar now.dr now.pe now.ri, cPl qp cI pln.od pln.rd pln.vn pln.pn pln.ao pln.sr pln.sp pln.wt, cWy qw cI ky_3 wp_4 mi_5 so_6])) (lv' := [(0, .ref (qx 0)), (1, .int x1), (2, .int x2), (3, .int x3)]) (st' := [.int r_11]) (pc' := 88) (ce' := 0) (sl' := 0) rfl rfl rfl rfl rfl rfl ?_
        exact gw_iret κ dX5_stop_88 (ky_3, wp_4, mi_5, so_6) rfl ⟨_, rfl, h⟩
      by_cases hc_9c_1 : x3 = 1
      · have h := hc_9_1 hc_9c_1
        refine gw_tableIn (tgt := 89) (off := 42) κ dX5_stop_47 (by rw [hc_9c_1]; decide) (by rw [hc_9c_1]; decide) (by rw [hc_9c_1]; decide +kernel) (by decide) ?_
        refine gw_aload_n (pc' := 90) κ dX5_stop_89 rfl 0 rfl rfl ?_
        refine gb_get (pc' := 93) (C := RX5) (T := TX5) (N := 8) κ dX5_stop_90 rfl inX5 0 rfl rfl rfl 2 (by decide) tw_fl_X5_26 rfl ?_
        refine gb_get (pc' := 96) (C := RX4) (T := TX4) (N := 4) κ dX5_stop_93 rfl inX4 3 rfl rfl rfl 0 (by decide) tw_fl_X5_189 rfl ?_
        refine gw_iload_n (pc' := 97) κ dX5_stop_96 rfl 2 rfl rfl ?_
        obtain ⟨hb_12, h⟩ := h
        refine gb_iald (pc' := 98) κ dX5_stop_97 rfl 3 1 rfl rfl hb_12 ?_
        refine gb_callS (rest := []) κ (c_X3_doorOfStop  (ky_3 x2.toNatClampNeg) h) ⟨rfl, rfl, Nat.le_of_ble_eq_true rfl, Nat.le_of_ble_eq_true rfl⟩ tw_ml_X5_195 tw_st_X3_doorOfStop tw_co_X3_doorOfStop tw_in_X3 hy_X3_doorOfStop rfl (Nat.le_of_ble_eq_true rfl) rfl dX5_stop_98 [] rfl (by decide) (fun _ => Nat.le_of_ble_eq_true rfl) ⟨Nat.le_of_ble_eq_true rfl, Nat.le_of_ble_eq_true rfl⟩ (fun v u hv => ?_)
        obtain ⟨r_13, rfl, h⟩ := hv
        refine gw_nf (ws' := (wfl [cX qx qn qp qw qt qu qd qh ql, cSt qn cI now.se now.la now.de now.le now.sa now.fl now.ar now.dr now.pe now.ri, cPl qp cI pln.od pln.rd pln.vn pln.pn pln.ao pln.sr pln.sp pln.wt, cWy qw cI ky_3 wp_4 mi_5 so_6])) (lv' := [(0, .ref (qx 0)), (1, .int x1), (2, .int x2), (3, .int x3)]) (st' := [.int r_13]) (pc' := 101) (ce' := 0) (sl' := 0) rfl rfl rfl rfl rfl rfl ?_
        exact gw_iret κ dX5_stop_101 (ky_3, wp_4, mi_5, so_6) rfl ⟨_, rfl, h⟩
      by_cases hc_9c_2 : x3 = 2
      · have h := hc_9_2 hc_9c_2
        refine gw_tableIn (tgt := 102) (off := 55) κ dX5_stop_47 (by rw [hc_9c_2]; decide) (by rw [hc_9c_2]; decide) (by rw [hc_9c_2]; decide +kernel) (by decide) ?_
        refine gw_aload_n (pc' := 103) κ dX5_stop_102 rfl 0 rfl rfl ?_
        refine gb_get (pc' := 106) (C := RX5) (T := TX5) (N := 8) κ dX5_stop_103 rfl inX5 0 rfl rfl rfl 2 (by decide) tw_fl_X5_26 rfl ?_
        refine gb_get (pc' := 109) (C := RX4) (T := TX4) (N := 4) κ dX5_stop_106 rfl inX4 3 rfl rfl rfl 2 (by decide) tw_fl_X5_198 rfl ?_
        refine gw_iload_n (pc' := 110) κ dX5_stop_109 rfl 2 rfl rfl ?_
        obtain ⟨hb_14, h⟩ := h
        refine gb_iald (pc' := 111) κ dX5_stop_110 rfl 3 3 rfl rfl hb_14 ?_
        exact gw_iret κ dX5_stop_111 (ky_3, wp_4, mi_5, so_6) rfl ⟨_, rfl, h⟩
      by_cases hc_9c_3 : x3 = 3
      · have h := hc_9_3 hc_9c_3
        refine gw_tableIn (tgt := 112) (off := 65) κ dX5_stop_47 (by rw [hc_9c_3]; decide) (by rw [hc_9c_3]; decide) (by rw [hc_9c_3]; decide +kernel) (by decide) ?_
        refine gw_aload_n (pc' := 113) κ dX5_stop_112 rfl 0 rfl rfl ?_
        refine gb_get (pc' := 116) (C := RX5) (T := TX5) (N := 8) κ dX5_stop_113 rfl inX5 0 rfl rfl rfl 2 (by decide) tw_fl_X5_26 rfl ?_
        refine gb_get (pc' := 119) (C := RX4) (T := TX4) (N := 4) κ dX5_stop_116 rfl inX4 3 rfl rfl rfl 1 (by decide) tw_fl_X5_201 rfl ?_
        refine gw_iload_n (pc' := 120) κ dX5_stop_119 rfl 2 rfl rfl ?_
        obtain ⟨hb_15, h⟩ := h
        refine gb_iald (pc' := 121) κ dX5_stop_120 rfl 3 2 rfl rfl hb_15 ?_
        exact gw_iret κ dX5_stop_121 (ky_3, wp_4, mi_5, so_6) rfl ⟨_, rfl, h⟩
      have h := hc_9d ⟨hc_9c_0, hc_9c_1, hc_9c_2, hc_9c_3⟩
      refine gw_tableOut (tgt := 122) κ dX5_stop_47 (sw_out2 (x := x3) (lo := 0) (hi := 3) (by decide) (fun k h1 h2 => by rcases (show k = 0 ∨ k = 1 ∨ k = 2 ∨ k = 3 by omega) with rfl | rfl | rfl | rfl <;> assumption)) (by decide) ?_
      refine gw_bipush (pc' := 124) (v := -102) κ dX5_stop_122 rfl (by decide) ?_
      exact gw_iret κ dX5_stop_124 (ky_3, wp_4, mi_5, so_6) rfl ⟨_, rfl, h⟩
    · have h := h.2 hc_8
      refine gw_bipush (pc' := 45) (v := -101) κ dX5_stop_43 rfl (by decide) ?_
      exact gw_iret κ dX5_stop_45 (ky_3, wp_4, mi_5, so_6) rfl ⟨_, rfl, h⟩
  · have h := h.2 hc_2
    refine gw_bipush (pc' := 9) (v := -101) κ dX5_stop_7 rfl (by decide) ?_
    exact gw_iret κ dX5_stop_9 (way.ky, way.wp, way.mi, way.so) rfl ⟨_, rfl, h⟩
theorem hy_X3_allPeople : g_hy yX3_allPeople 0 := by decide +kernel
set_option maxHeartbeats 4000000 in
set_option maxRecDepth 100000 in
theorem k_X3_allPeople_4 {zp : Program} {l : Launch} {ze : Env} {zs : State} {zm : MethodId} {za : Array Value} {zb : List Frame} {zt : Method} {zc : Code} {D : va_G} {cI cR : ClassId} {A : Nat → Prop} (κ : KC zp zs zm za zt zc cX3_allPeople 3 RX3 D cI cR A (some .int)) (qa : Nat → Nat) (P : Int32 → Prop) (o0 : StT) : ∀ (n : Nat) (v1 : Int32) (v2 : Int32), wp_X3_allPeople_4 P o0 n v1 v2 → GM zp l ze ({ frames := 0, cells := 0, slots := 0, locals := 0 } : Room) zs zm za zb zt zc D A 3 (pI (fun (r : Int32) (_ : Unit) => P r)) (fun _ : Unit => (wfl [cSt qa cI o0.se o0.la o0.de o0.le o0.sa o0.fl o0.ar o0.dr o0.pe o0.ri])) 0 0 0 0 (wfl [cSt qa cI o0.se o0.la o0.de o0.le o0.sa o0.fl o0.ar o0.dr o0.pe o0.ri]) [(0, .ref (qa 0)), (1, .int v1), (2, .int v2)] 4 [] := by
  intro n4
  induction n4 with
  | zero => intro v1 v2 h; exact (show False from h).elim
  | succ n4 ih4 =>
    intro v1 v2 h
    have h : wp_X3_allPeople_4F P o0 (wp_X3_allPeople_4 P o0 n4) v1 v2 := h
    unfold wp_X3_allPeople_4F at h
    refine gw_iload_n (pc' := 5) κ dX3_allPeople_4 rfl 2 rfl rfl ?_
    refine gw_aload_n (pc' := 6) κ dX3_allPeople_5 rfl 0 rfl rfl ?_
    refine gb_get (pc' := 9) (C := RX3) (T := TX3) (N := 10) κ dX3_allPeople_6 rfl inX3 0 rfl rfl rfl 9 (by decide) tw_fl_X3_48 rfl ?_
    refine gw_icmp_ge (pc' := 12) (tgt := 27) κ dX3_allPeople_9 rfl (by decide) (fun hc_1 => ?_) (fun hc_1 => ?_)
    · have h := h.1 hc_1
      refine gw_iload_n (pc' := 28) κ dX3_allPeople_27 rfl 1 rfl rfl ?_
      exact gw_iret κ dX3_allPeople_28 () rfl ⟨_, rfl, h⟩
    · have h := h.2 hc_1
      refine gw_iload_n (pc' := 13) κ dX3_allPeople_12 rfl 1 rfl rfl ?_
      refine gw_aload_n (pc' := 14) κ dX3_allPeople_13 rfl 0 rfl rfl ?_
      refine gb_get (pc' := 17) (C := RX3) (T := TX3) (N := 10) κ dX3_allPeople_14 rfl inX3 0 rfl rfl rfl 8 (by decide) tw_fl_X3_36 rfl ?_
      refine gw_iload_n (pc' := 18) κ dX3_allPeople_17 rfl 2 rfl rfl ?_
      obtain ⟨hb_2, h⟩ := h
      refine gb_iald (pc' := 19) κ dX3_allPeople_18 rfl 0 9 rfl rfl hb_2 ?_
      refine gw_iadd (pc' := 20) κ dX3_allPeople_19 rfl  ?_
      refine gw_istore_n (pc' := 21) κ dX3_allPeople_20 rfl rfl (by decide) (lv' := [(1, .int (v1 + (o0.pe v2.toNatClampNeg))), (0, .ref (qa 0)), (2, .int v2)]) rfl ?_
      refine gw_iinc (pc' := 24) κ dX3_allPeople_21 rfl 2 rfl (v := (v2 + 1)) rfl (by decide) (lv' := [(2, .int (v2 + 1)), (1, .int (v1 + (o0.pe v2.toNatClampNeg))), (0, .ref (qa 0))]) rfl ?_
      refine gw_goto (tgt := 4) κ dX3_allPeople_24 (by decide) ?_
      refine gw_lv (lv' := [(0, .ref (qa 0)), (1, .int (v1 + (o0.pe v2.toNatClampNeg))), (2, .int (v2 + 1))]) [2, 1, 0] rfl ?_
      exact ih4 (v1 + (o0.pe v2.toNatClampNeg)) (v2 + 1) h
set_option maxHeartbeats 4000000 in
set_option maxRecDepth 100000 in
theorem c_X3_allPeople {l : Launch} {D : va_G} {cI cR : ClassId}  (qa : Nat → Nat) {P : Int32 → Prop} (o0 : StT) (h : wp_X3_allPeople P o0) : CT l D cI cR yX3_allPeople cX3_allPeople 3 (some .int) ({ frames := 0, cells := 0, slots := 0, locals := 0 } : Room) [.ref (qa 0)] (wfl [cSt qa cI o0.se o0.la o0.de o0.le o0.sa o0.fl o0.ar o0.dr o0.pe o0.ri]) (fun _ : Unit => (wfl [cSt qa cI o0.se o0.la o0.de o0.le o0.sa o0.fl o0.ar o0.dr o0.pe o0.ri])) (pI (fun (r : Int32) (_ : Unit) => P r)) 0 0 := by
  refine ct_of RX3 rfl (by decide +kernel) (Nat.le_of_ble_eq_true rfl) (fun zp ze zs zm zb zt zc A hin κ => ?_)
  unfold wp_X3_allPeople at h
  refine gw_nf (lv' := [(0, .ref (qa 0))]) (pc' := 0) (st' := []) (ce' := 0) (sl' := 0) rfl rfl rfl rfl rfl rfl ?_
  refine gw_iconst (pc' := 1) (v := 0) κ dX3_allPeople_0 rfl (by decide) ?_
  refine gw_istore_n (pc' := 2) κ dX3_allPeople_1 rfl rfl (by decide) (lv' := [(1, .int (0 : Int32)), (0, .ref (qa 0))]) rfl ?_
  refine gw_iconst (pc' := 3) (v := 0) κ dX3_allPeople_2 rfl (by decide) ?_
  refine gw_istore_n (pc' := 4) κ dX3_allPeople_3 rfl rfl (by decide) (lv' := [(2, .int (0 : Int32)), (1, .int (0 : Int32)), (0, .ref (qa 0))]) rfl ?_
  obtain ⟨m4, h⟩ := h
  refine gw_lv (lv' := [(0, .ref (qa 0)), (1, .int (0 : Int32)), (2, .int (0 : Int32))]) [2, 1, 0] rfl ?_
  exact k_X3_allPeople_4 κ qa P o0 m4 (0 : Int32) (0 : Int32) h
theorem hy_X5_allFares : g_hy yX5_allFares 0 := by decide +kernel
set_option maxHeartbeats 4000000 in
set_option maxRecDepth 100000 in
theorem k_X5_allFares_4 {zp : Program} {l : Launch} {ze : Env} {zs : State} {zm : MethodId} {za : Array Value} {zb : List Frame} {zt : Method} {zc : Code} {D : va_G} {cI cR : ClassId} {A : Nat → Prop} (κ : KC zp zs zm za zt zc cX5_allFares 3 RX5 D cI cR A (some .int)) (qx : Nat → Nat) (qn : Nat → Nat) (qp : Nat → Nat) (qw : Nat → Nat) (qt : Nat → Nat) (qu : Nat → Nat) (qd : Nat → Nat) (qh : Nat → Nat) (ql : Nat → Nat) (qs : Nat → Nat → Nat) (P : Int32 → Prop) (now : StT) (pln : PlT) : ∀ (n : Nat) (v1 : Int32) (v2 : Int32), wp_X5_allFares_4 P now pln n v1 v2 → GM zp l ze ({ frames := 4, cells := 0, slots := 0, locals := 96 } : Room) zs zm za zb zt zc D A 3 (pI (fun (r : Int32) (_ : Unit) => P r)) (fun _ : Unit => (wfl [cX qx qn qp qw qt qu qd qh ql, cSt qn cI now.se now.la now.de now.le now.sa now.fl now.ar now.dr now.pe now.ri, cPl qp cI pln.od pln.rd pln.vn pln.pn pln.ao pln.sr pln.sp pln.wt])) 0 0 0 0 (wfl [cX qx qn qp qw qt qu qd qh ql, cSt qn cI now.se now.la now.de now.le now.sa now.fl now.ar now.dr now.pe now.ri, cPl qp cI pln.od pln.rd pln.vn pln.pn pln.ao pln.sr pln.sp pln.wt]) [(0, .ref (qx 0)), (1, .int v1), (2, .int v2)] 4 [] := by
  intro n4
  induction n4 with
  | zero => intro v1 v2 h; exact (show False from h).elim
  | succ n4 ih4 =>
    intro v1 v2 h
    have h : wp_X5_allFares_4F P now pln (wp_X5_allFares_4 P now pln n4) v1 v2 := h
    unfold wp_X5_allFares_4F at h
    refine gw_iload_n (pc' := 5) κ dX5_allFares_4 rfl 2 rfl rfl ?_
    refine gw_aload_n (pc' := 6) κ dX5_allFares_5 rfl 0 rfl rfl ?_
    refine gb_get (pc' := 9) (C := RX5) (T := TX5) (N := 8) κ dX5_allFares_6 rfl inX5 0 rfl rfl rfl 0 (by decide) tw_fl_X5_10 rfl ?_
    refine gb_get (pc' := 12) (C := RX3) (T := TX3) (N := 10) κ dX5_allFares_9 rfl inX3 1 rfl rfl rfl 9 (by decide) tw_fl_X5_105 rfl ?_
    refine gw_icmp_ge (pc' := 15) (tgt := 36) κ dX5_allFares_12 rfl (by decide) (fun hc_1 => ?_) (fun hc_1 => ?_)
    · have h := h.1 hc_1
      refine gw_iload_n (pc' := 37) κ dX5_allFares_36 rfl 1 rfl rfl ?_
      exact gw_iret κ dX5_allFares_37 () rfl ⟨_, rfl, h⟩
    · have h := h.2 hc_1
      refine gw_iload_n (pc' := 16) κ dX5_allFares_15 rfl 1 rfl rfl ?_
      refine gw_aload_n (pc' := 17) κ dX5_allFares_16 rfl 0 rfl rfl ?_
      refine gb_get (pc' := 20) (C := RX5) (T := TX5) (N := 8) κ dX5_allFares_17 rfl inX5 0 rfl rfl rfl 1 (by decide) tw_fl_X5_19 rfl ?_
      refine gw_aload_n (pc' := 21) κ dX5_allFares_20 rfl 0 rfl rfl ?_
      refine gb_get (pc' := 24) (C := RX5) (T := TX5) (N := 8) κ dX5_allFares_21 rfl inX5 0 rfl rfl rfl 0 (by decide) tw_fl_X5_10 rfl ?_
      refine gw_iload_n (pc' := 25) κ dX5_allFares_24 rfl 2 rfl rfl ?_
      refine gb_callV (ci := 2) (qb := 2) (rest := [.int v1]) κ (c_X2_fare qp qn pln now v2 h) ⟨rfl, rfl, Nat.le_of_ble_eq_true rfl, Nat.le_of_ble_eq_true rfl⟩ tw_ml_X5_128 tw_im_X2_fare tw_se_X2_fare tw_co_X2_fare tw_in_X2 hy_X2_fare rfl rfl rfl rfl rfl (Nat.le_of_ble_eq_true rfl) rfl dX5_allFares_25 [2, 1] rfl (by decide) (fun _ => Nat.le_of_ble_eq_true rfl) ⟨Nat.le_of_ble_eq_true rfl, Nat.le_of_ble_eq_true rfl⟩ (fun v u hv => ?_)
      obtain ⟨r_2, rfl, h⟩ := hv
      refine gw_nf (ws' := (wfl [cX qx qn qp qw qt qu qd qh ql, cSt qn cI now.se now.la now.de now.le now.sa now.fl now.ar now.dr now.pe now.ri, cPl qp cI pln.od pln.rd pln.vn pln.pn pln.ao pln.sr pln.sp pln.wt])) (lv' := [(0, .ref (qx 0)), (1, .int v1), (2, .int v2)]) (st' := [.int r_2, .int v1]) (pc' := 28) (ce' := 0) (sl' := 0) rfl rfl rfl rfl rfl rfl ?_
      refine gw_iadd (pc' := 29) κ dX5_allFares_28 rfl  ?_
      refine gw_istore_n (pc' := 30) κ dX5_allFares_29 rfl rfl (by decide) (lv' := [(1, .int (v1 + r_2)), (0, .ref (qx 0)), (2, .int v2)]) rfl ?_
      refine gw_iinc (pc' := 33) κ dX5_allFares_30 rfl 2 rfl (v := (v2 + 1)) rfl (by decide) (lv' := [(2, .int (v2 + 1)), (1, .int (v1 + r_2)), (0, .ref (qx 0))]) rfl ?_
      refine gw_goto (tgt := 4) κ dX5_allFares_33 (by decide) ?_
      refine gw_lv (lv' := [(0, .ref (qx 0)), (1, .int (v1 + r_2)), (2, .int (v2 + 1))]) [2, 1, 0] rfl ?_
      exact ih4 (v1 + r_2) (v2 + 1) h
set_option maxHeartbeats 4000000 in
set_option maxRecDepth 100000 in
theorem c_X5_allFares {l : Launch} {D : va_G} {cI cR : ClassId}  (qx : Nat → Nat) (qn : Nat → Nat) (qp : Nat → Nat) (qw : Nat → Nat) (qt : Nat → Nat) (qu : Nat → Nat) (qd : Nat → Nat) (qh : Nat → Nat) (ql : Nat → Nat) (qs : Nat → Nat → Nat) {P : Int32 → Prop} (now : StT) (pln : PlT) (h : wp_X5_allFares P now pln) : CT l D cI cR yX5_allFares cX5_allFares 3 (some .int) ({ frames := 4, cells := 0, slots := 0, locals := 96 } : Room) [.ref (qx 0)] (wfl [cX qx qn qp qw qt qu qd qh ql, cSt qn cI now.se now.la now.de now.le now.sa now.fl now.ar now.dr now.pe now.ri, cPl qp cI pln.od pln.rd pln.vn pln.pn pln.ao pln.sr pln.sp pln.wt]) (fun _ : Unit => (wfl [cX qx qn qp qw qt qu qd qh ql, cSt qn cI now.se now.la now.de now.le now.sa now.fl now.ar now.dr now.pe now.ri, cPl qp cI pln.od pln.rd pln.vn pln.pn pln.ao pln.sr pln.sp pln.wt])) (pI (fun (r : Int32) (_ : Unit) => P r)) 0 0 := by
  refine ct_of RX5 rfl (by decide +kernel) (Nat.le_of_ble_eq_true rfl) (fun zp ze zs zm zb zt zc A hin κ => ?_)
  unfold wp_X5_allFares at h
  refine gw_nf (lv' := [(0, .ref (qx 0))]) (pc' := 0) (st' := []) (ce' := 0) (sl' := 0) rfl rfl rfl rfl rfl rfl ?_
  refine gw_iconst (pc' := 1) (v := 0) κ dX5_allFares_0 rfl (by decide) ?_
  refine gw_istore_n (pc' := 2) κ dX5_allFares_1 rfl rfl (by decide) (lv' := [(1, .int (0 : Int32)), (0, .ref (qx 0))]) rfl ?_
  refine gw_iconst (pc' := 3) (v := 0) κ dX5_allFares_2 rfl (by decide) ?_
  refine gw_istore_n (pc' := 4) κ dX5_allFares_3 rfl rfl (by decide) (lv' := [(2, .int (0 : Int32)), (1, .int (0 : Int32)), (0, .ref (qx 0))]) rfl ?_
  obtain ⟨m4, h⟩ := h
  refine gw_lv (lv' := [(0, .ref (qx 0)), (1, .int (0 : Int32)), (2, .int (0 : Int32))]) [2, 1, 0] rfl ?_
  exact k_X5_allFares_4 κ qx qn qp qw qt qu qd qh ql qs P now pln m4 (0 : Int32) (0 : Int32) h
theorem hy_X2_vansWithRiders : g_hy yX2_vansWithRiders 0 := by decide +kernel
set_option maxHeartbeats 4000000 in
set_option maxRecDepth 100000 in
theorem k_X2_vansWithRiders_4 {zp : Program} {l : Launch} {ze : Env} {zs : State} {zm : MethodId} {za : Array Value} {zb : List Frame} {zt : Method} {zc : Code} {D : va_G} {cI cR : ClassId} {A : Nat → Prop} (κ : KC zp zs zm za zt zc cX2_vansWithRiders 3 RX2 D cI cR A (some .int)) (qa : Nat → Nat) (P : Int32 → Prop) (o0 : PlT) : ∀ (n : Nat) (v1 : Int32) (v2 : Int32), wp_X2_vansWithRiders_4 P o0 n v1 v2 → GM zp l ze ({ frames := 0, cells := 0, slots := 0, locals := 0 } : Room) zs zm za zb zt zc D A 3 (pI (fun (r : Int32) (_ : Unit) => P r)) (fun _ : Unit => (wfl [cPl qa cI o0.od o0.rd o0.vn o0.pn o0.ao o0.sr o0.sp o0.wt])) 0 0 0 0 (wfl [cPl qa cI o0.od o0.rd o0.vn o0.pn o0.ao o0.sr o0.sp o0.wt]) [(0, .ref (qa 0)), (1, .int v1), (2, .int v2)] 4 [] := by
  intro n4
  induction n4 with
  | zero => intro v1 v2 h; exact (show False from h).elim
  | succ n4 ih4 =>
    intro v1 v2 h
    have h : wp_X2_vansWithRiders_4F P o0 (wp_X2_vansWithRiders_4 P o0 n4) v1 v2 := h
    unfold wp_X2_vansWithRiders_4F at h
    refine gw_iload_n (pc' := 5) κ dX2_vansWithRiders_4 rfl 2 rfl rfl ?_
    refine gw_bipush (pc' := 7) (v := 8) κ dX2_vansWithRiders_5 rfl (by decide) ?_
    refine gw_icmp_ge (pc' := 10) (tgt := 28) κ dX2_vansWithRiders_7 rfl (by decide) (fun hc_1 => ?_) (fun hc_1 => ?_)
    · have h := h.1 hc_1
      refine gw_iload_n (pc' := 29) κ dX2_vansWithRiders_28 rfl 1 rfl rfl ?_
      exact gw_iret κ dX2_vansWithRiders_29 () rfl ⟨_, rfl, h⟩
    · have h := h.2 hc_1
      refine gw_aload_n (pc' := 11) κ dX2_vansWithRiders_10 rfl 0 rfl rfl ?_
      refine gb_get (pc' := 14) (C := RX2) (T := TX2) (N := 8) κ dX2_vansWithRiders_11 rfl inX2 0 rfl rfl rfl 3 (by decide) tw_fl_X2_21 rfl ?_
      refine gw_iload_n (pc' := 15) κ dX2_vansWithRiders_14 rfl 2 rfl rfl ?_
      obtain ⟨hb_2, h⟩ := h
      refine gb_iald (pc' := 16) κ dX2_vansWithRiders_15 rfl 0 4 rfl rfl hb_2 ?_
      refine gw_if_le (pc' := 19) (tgt := 22) κ dX2_vansWithRiders_16 rfl (by decide) (fun hc_3 => ?_) (fun hc_3 => ?_)
      · have h := h.1 hc_3
        refine gw_iinc (pc' := 25) κ dX2_vansWithRiders_22 rfl 2 rfl (v := (v2 + 1)) rfl (by decide) (lv' := [(2, .int (v2 + 1)), (0, .ref (qa 0)), (1, .int v1)]) rfl ?_
        refine gw_goto (tgt := 4) κ dX2_vansWithRiders_25 (by decide) ?_
        refine gw_lv (lv' := [(0, .ref (qa 0)), (1, .int v1), (2, .int (v2 + 1))]) [1, 2, 0] rfl ?_
        exact ih4 v1 (v2 + 1) h
      · have h := h.2 hc_3
        refine gw_iinc (pc' := 22) κ dX2_vansWithRiders_19 rfl 1 rfl (v := (v1 + 1)) rfl (by decide) (lv' := [(1, .int (v1 + 1)), (0, .ref (qa 0)), (2, .int v2)]) rfl ?_
        refine gw_iinc (pc' := 25) κ dX2_vansWithRiders_22 rfl 2 rfl (v := (v2 + 1)) rfl (by decide) (lv' := [(2, .int (v2 + 1)), (1, .int (v1 + 1)), (0, .ref (qa 0))]) rfl ?_
        refine gw_goto (tgt := 4) κ dX2_vansWithRiders_25 (by decide) ?_
        refine gw_lv (lv' := [(0, .ref (qa 0)), (1, .int (v1 + 1)), (2, .int (v2 + 1))]) [2, 1, 0] rfl ?_
        exact ih4 (v1 + 1) (v2 + 1) h
set_option maxHeartbeats 4000000 in
set_option maxRecDepth 100000 in
theorem c_X2_vansWithRiders {l : Launch} {D : va_G} {cI cR : ClassId}  (qa : Nat → Nat) {P : Int32 → Prop} (o0 : PlT) (h : wp_X2_vansWithRiders P o0) : CT l D cI cR yX2_vansWithRiders cX2_vansWithRiders 3 (some .int) ({ frames := 0, cells := 0, slots := 0, locals := 0 } : Room) [.ref (qa 0)] (wfl [cPl qa cI o0.od o0.rd o0.vn o0.pn o0.ao o0.sr o0.sp o0.wt]) (fun _ : Unit => (wfl [cPl qa cI o0.od o0.rd o0.vn o0.pn o0.ao o0.sr o0.sp o0.wt])) (pI (fun (r : Int32) (_ : Unit) => P r)) 0 0 := by
  refine ct_of RX2 rfl (by decide +kernel) (Nat.le_of_ble_eq_true rfl) (fun zp ze zs zm zb zt zc A hin κ => ?_)
  unfold wp_X2_vansWithRiders at h
  refine gw_nf (lv' := [(0, .ref (qa 0))]) (pc' := 0) (st' := []) (ce' := 0) (sl' := 0) rfl rfl rfl rfl rfl rfl ?_
  refine gw_iconst (pc' := 1) (v := 0) κ dX2_vansWithRiders_0 rfl (by decide) ?_
  refine gw_istore_n (pc' := 2) κ dX2_vansWithRiders_1 rfl rfl (by decide) (lv' := [(1, .int (0 : Int32)), (0, .ref (qa 0))]) rfl ?_
  refine gw_iconst (pc' := 3) (v := 0) κ dX2_vansWithRiders_2 rfl (by decide) ?_
  refine gw_istore_n (pc' := 4) κ dX2_vansWithRiders_3 rfl rfl (by decide) (lv' := [(2, .int (0 : Int32)), (1, .int (0 : Int32)), (0, .ref (qa 0))]) rfl ?_
  obtain ⟨m4, h⟩ := h
  refine gw_lv (lv' := [(0, .ref (qa 0)), (1, .int (0 : Int32)), (2, .int (0 : Int32))]) [2, 1, 0] rfl ?_
  exact k_X2_vansWithRiders_4 κ qa P o0 m4 (0 : Int32) (0 : Int32) h
theorem hy_X5_allStops : g_hy yX5_allStops 0 := by decide +kernel
set_option maxHeartbeats 4000000 in
set_option maxRecDepth 100000 in
theorem k_X5_allStops_4 {zp : Program} {l : Launch} {ze : Env} {zs : State} {zm : MethodId} {za : Array Value} {zb : List Frame} {zt : Method} {zc : Code} {D : va_G} {cI cR : ClassId} {A : Nat → Prop} (κ : KC zp zs zm za zt zc cX5_allStops 3 RX5 D cI cR A (some .int)) (qx : Nat → Nat) (qn : Nat → Nat) (qp : Nat → Nat) (qw : Nat → Nat) (qt : Nat → Nat) (qu : Nat → Nat) (qd : Nat → Nat) (qh : Nat → Nat) (ql : Nat → Nat) (qs : Nat → Nat → Nat) (P : Int32 → (Nat → Int32) → (Nat → Int32) → (Nat → Int32) → Int32 → Prop) (now : StT) (pln : PlT) (way : WyT) : ∀ (n : Nat) (v1 : Int32) (v2 : Int32) (way_ky : Nat → Int32) (way_wp : Nat → Int32) (way_mi : Nat → Int32) (way_so : Int32), wp_X5_allStops_4 P now pln way n v1 v2 way_ky way_wp way_mi way_so → GM zp l ze ({ frames := 3, cells := 0, slots := 0, locals := 70 } : Room) zs zm za zb zt zc D A 3 (pI (fun (r : Int32) (u : (Nat → Int32) × (Nat → Int32) × (Nat → Int32) × Int32) => P r u.1 u.2.1 u.2.2.1 u.2.2.2)) (fun u : (Nat → Int32) × (Nat → Int32) × (Nat → Int32) × Int32 => (wfl [cX qx qn qp qw qt qu qd qh ql, cSt qn cI now.se now.la now.de now.le now.sa now.fl now.ar now.dr now.pe now.ri, cPl qp cI pln.od pln.rd pln.vn pln.pn pln.ao pln.sr pln.sp pln.wt, cWy qw cI u.1 u.2.1 u.2.2.1 u.2.2.2])) 0 0 0 0 (wfl [cX qx qn qp qw qt qu qd qh ql, cSt qn cI now.se now.la now.de now.le now.sa now.fl now.ar now.dr now.pe now.ri, cPl qp cI pln.od pln.rd pln.vn pln.pn pln.ao pln.sr pln.sp pln.wt, cWy qw cI way_ky way_wp way_mi way_so]) [(0, .ref (qx 0)), (1, .int v1), (2, .int v2)] 4 [] := by
  intro n4
  induction n4 with
  | zero => intro v1 v2 way_ky way_wp way_mi way_so h; exact (show False from h).elim
  | succ n4 ih4 =>
    intro v1 v2 way_ky way_wp way_mi way_so h
    have h : wp_X5_allStops_4F P now pln way (wp_X5_allStops_4 P now pln way n4) v1 v2 way_ky way_wp way_mi way_so := h
    unfold wp_X5_allStops_4F at h
    refine gw_iload_n (pc' := 5) κ dX5_allStops_4 rfl 2 rfl rfl ?_
    refine gw_bipush (pc' := 7) (v := 8) κ dX5_allStops_5 rfl (by decide) ?_
    refine gw_icmp_ge (pc' := 10) (tgt := 42) κ dX5_allStops_7 rfl (by decide) (fun hc_1 => ?_) (fun hc_1 => ?_)
    · have h := h.1 hc_1
      refine gw_iload_n (pc' := 43) κ dX5_allStops_42 rfl 1 rfl rfl ?_
      exact gw_iret κ dX5_allStops_43 (way_ky, way_wp, way_mi, way_so) rfl ⟨_, rfl, h⟩
    · have h := h.2 hc_1
      refine gw_aload_n (pc' := 11) κ dX5_allStops_10 rfl 0 rfl rfl ?_
      refine gb_get (pc' := 14) (C := RX5) (T := TX5) (N := 8) κ dX5_allStops_11 rfl inX5 0 rfl rfl rfl 2 (by decide) tw_fl_X5_26 rfl ?_
      refine gw_aload_n (pc' := 15) κ dX5_allStops_14 rfl 0 rfl rfl ?_
      refine gb_get (pc' := 18) (C := RX5) (T := TX5) (N := 8) κ dX5_allStops_15 rfl inX5 0 rfl rfl rfl 0 (by decide) tw_fl_X5_10 rfl ?_
      refine gw_aload_n (pc' := 19) κ dX5_allStops_18 rfl 0 rfl rfl ?_
      refine gb_get (pc' := 22) (C := RX5) (T := TX5) (N := 8) κ dX5_allStops_19 rfl inX5 0 rfl rfl rfl 1 (by decide) tw_fl_X5_19 rfl ?_
      refine gw_iload_n (pc' := 23) κ dX5_allStops_22 rfl 2 rfl rfl ?_
      refine gb_callV (ci := 4) (qb := 3) (rest := []) κ (c_X4_follow qw qn qp (mkWy way_ky way_wp way_mi way_so) now pln v2 h) ⟨rfl, rfl, Nat.le_of_ble_eq_true rfl, Nat.le_of_ble_eq_true rfl⟩ tw_ml_X5_163 tw_im_X4_follow tw_se_X4_follow tw_co_X4_follow tw_in_X4 hy_X4_follow rfl rfl rfl rfl rfl (Nat.le_of_ble_eq_true rfl) rfl dX5_allStops_23 [3, 1, 2] rfl (by decide) (fun _ => Nat.le_of_ble_eq_true rfl) ⟨Nat.le_of_ble_eq_true rfl, Nat.le_of_ble_eq_true rfl⟩ (fun v u hv => ?_)
      obtain ⟨rfl, h⟩ := hv
      obtain ⟨ky_2, wp_3, mi_4, so_5⟩ := u
      refine gw_nf (ws' := (wfl [cX qx qn qp qw qt qu qd qh ql, cSt qn cI now.se now.la now.de now.le now.sa now.fl now.ar now.dr now.pe now.ri, cPl qp cI pln.od pln.rd pln.vn pln.pn pln.ao pln.sr pln.sp pln.wt, cWy qw cI ky_2 wp_3 mi_4 so_5])) (lv' := [(0, .ref (qx 0)), (1, .int v1), (2, .int v2)]) (st' := []) (pc' := 26) (ce' := 0) (sl' := 0) rfl rfl rfl rfl rfl rfl ?_
      refine gw_iload_n (pc' := 27) κ dX5_allStops_26 rfl 1 rfl rfl ?_
      refine gw_aload_n (pc' := 28) κ dX5_allStops_27 rfl 0 rfl rfl ?_
      refine gb_get (pc' := 31) (C := RX5) (T := TX5) (N := 8) κ dX5_allStops_28 rfl inX5 0 rfl rfl rfl 2 (by decide) tw_fl_X5_26 rfl ?_
      refine gb_get (pc' := 34) (C := RX4) (T := TX4) (N := 4) κ dX5_allStops_31 rfl inX4 3 rfl rfl rfl 3 (by decide) tw_fl_X5_176 rfl ?_
      refine gw_iadd (pc' := 35) κ dX5_allStops_34 rfl  ?_
      refine gw_istore_n (pc' := 36) κ dX5_allStops_35 rfl rfl (by decide) (lv' := [(1, .int (v1 + so_5)), (0, .ref (qx 0)), (2, .int v2)]) rfl ?_
      refine gw_iinc (pc' := 39) κ dX5_allStops_36 rfl 2 rfl (v := (v2 + 1)) rfl (by decide) (lv' := [(2, .int (v2 + 1)), (1, .int (v1 + so_5)), (0, .ref (qx 0))]) rfl ?_
      refine gw_goto (tgt := 4) κ dX5_allStops_39 (by decide) ?_
      refine gw_lv (lv' := [(0, .ref (qx 0)), (1, .int (v1 + so_5)), (2, .int (v2 + 1))]) [2, 1, 0] rfl ?_
      exact ih4 (v1 + so_5) (v2 + 1) ky_2 wp_3 mi_4 so_5 h
set_option maxHeartbeats 4000000 in
set_option maxRecDepth 100000 in
theorem c_X5_allStops {l : Launch} {D : va_G} {cI cR : ClassId}  (qx : Nat → Nat) (qn : Nat → Nat) (qp : Nat → Nat) (qw : Nat → Nat) (qt : Nat → Nat) (qu : Nat → Nat) (qd : Nat → Nat) (qh : Nat → Nat) (ql : Nat → Nat) (qs : Nat → Nat → Nat) {P : Int32 → (Nat → Int32) → (Nat → Int32) → (Nat → Int32) → Int32 → Prop} (now : StT) (pln : PlT) (way : WyT) (h : wp_X5_allStops P now pln way) : CT l D cI cR yX5_allStops cX5_allStops 3 (some .int) ({ frames := 3, cells := 0, slots := 0, locals := 70 } : Room) [.ref (qx 0)] (wfl [cX qx qn qp qw qt qu qd qh ql, cSt qn cI now.se now.la now.de now.le now.sa now.fl now.ar now.dr now.pe now.ri, cPl qp cI pln.od pln.rd pln.vn pln.pn pln.ao pln.sr pln.sp pln.wt, cWy qw cI way.ky way.wp way.mi way.so]) (fun u : (Nat → Int32) × (Nat → Int32) × (Nat → Int32) × Int32 => (wfl [cX qx qn qp qw qt qu qd qh ql, cSt qn cI now.se now.la now.de now.le now.sa now.fl now.ar now.dr now.pe now.ri, cPl qp cI pln.od pln.rd pln.vn pln.pn pln.ao pln.sr pln.sp pln.wt, cWy qw cI u.1 u.2.1 u.2.2.1 u.2.2.2])) (pI (fun (r : Int32) (u : (Nat → Int32) × (Nat → Int32) × (Nat → Int32) × Int32) => P r u.1 u.2.1 u.2.2.1 u.2.2.2)) 0 0 := by
  refine ct_of RX5 rfl (by decide +kernel) (Nat.le_of_ble_eq_true rfl) (fun zp ze zs zm zb zt zc A hin κ => ?_)
  unfold wp_X5_allStops at h
  refine gw_nf (lv' := [(0, .ref (qx 0))]) (pc' := 0) (st' := []) (ce' := 0) (sl' := 0) rfl rfl rfl rfl rfl rfl ?_
  refine gw_iconst (pc' := 1) (v := 0) κ dX5_allStops_0 rfl (by decide) ?_
  refine gw_istore_n (pc' := 2) κ dX5_allStops_1 rfl rfl (by decide) (lv' := [(1, .int (0 : Int32)), (0, .ref (qx 0))]) rfl ?_
  refine gw_iconst (pc' := 3) (v := 0) κ dX5_allStops_2 rfl (by decide) ?_
  refine gw_istore_n (pc' := 4) κ dX5_allStops_3 rfl rfl (by decide) (lv' := [(2, .int (0 : Int32)), (1, .int (0 : Int32)), (0, .ref (qx 0))]) rfl ?_
  obtain ⟨m4, h⟩ := h
  refine gw_lv (lv' := [(0, .ref (qx 0)), (1, .int (0 : Int32)), (2, .int (0 : Int32))]) [2, 1, 0] rfl ?_
  exact k_X5_allStops_4 κ qx qn qp qw qt qu qd qh ql qs P now pln way m4 (0 : Int32) (0 : Int32) way.ky way.wp way.mi way.so h
theorem hy_X5_lastAtDoor : g_hy yX5_lastAtDoor 2 := by decide +kernel
set_option maxHeartbeats 4000000 in
set_option maxRecDepth 100000 in
theorem k_X5_lastAtDoor_6 {zp : Program} {l : Launch} {ze : Env} {zs : State} {zm : MethodId} {za : Array Value} {zb : List Frame} {zt : Method} {zc : Code} {D : va_G} {cI cR : ClassId} {A : Nat → Prop} (κ : KC zp zs zm za zt zc cX5_lastAtDoor 5 RX5 D cI cR A (some .int)) (qx : Nat → Nat) (qn : Nat → Nat) (qp : Nat → Nat) (qw : Nat → Nat) (qt : Nat → Nat) (qu : Nat → Nat) (qd : Nat → Nat) (qh : Nat → Nat) (ql : Nat → Nat) (qa : Nat → Nat) (qb : Nat → Nat) (qs : Nat → Nat → Nat) (P : Int32 → (Nat → Int32) → (Nat → Int32) → (Nat → Int32) → Int32 → Prop) (way : WyT) (o1 : StT) (o2 : PlT) : ∀ (n : Nat) (v3 : Int32) (v4 : Int32) (way_ky : Nat → Int32) (way_wp : Nat → Int32) (way_mi : Nat → Int32) (way_so : Int32), wp_X5_lastAtDoor_6 P way o1 o2 n v3 v4 way_ky way_wp way_mi way_so → GM zp l ze ({ frames := 3, cells := 0, slots := 0, locals := 70 } : Room) zs zm za zb zt zc D A 5 (pI (fun (r : Int32) (u : (Nat → Int32) × (Nat → Int32) × (Nat → Int32) × Int32) => P r u.1 u.2.1 u.2.2.1 u.2.2.2)) (fun u : (Nat → Int32) × (Nat → Int32) × (Nat → Int32) × Int32 => (wfl [cX qx qn qp qw qt qu qd qh ql, cWy qw cI u.1 u.2.1 u.2.2.1 u.2.2.2, cSt qa cI o1.se o1.la o1.de o1.le o1.sa o1.fl o1.ar o1.dr o1.pe o1.ri, cPl qb cI o2.od o2.rd o2.vn o2.pn o2.ao o2.sr o2.sp o2.wt])) 0 0 0 0 (wfl [cX qx qn qp qw qt qu qd qh ql, cWy qw cI way_ky way_wp way_mi way_so, cSt qa cI o1.se o1.la o1.de o1.le o1.sa o1.fl o1.ar o1.dr o1.pe o1.ri, cPl qb cI o2.od o2.rd o2.vn o2.pn o2.ao o2.sr o2.sp o2.wt]) [(0, .ref (qx 0)), (1, .ref (qa 0)), (2, .ref (qb 0)), (3, .int v3), (4, .int v4)] 6 [] := by
  intro n6
  induction n6 with
  | zero => intro v3 v4 way_ky way_wp way_mi way_so h; exact (show False from h).elim
  | succ n6 ih6 =>
    intro v3 v4 way_ky way_wp way_mi way_so h
    have h : wp_X5_lastAtDoor_6F P way o1 o2 (wp_X5_lastAtDoor_6 P way o1 o2 n6) v3 v4 way_ky way_wp way_mi way_so := h
    unfold wp_X5_lastAtDoor_6F at h
    refine gw_iload (pc' := 8) κ dX5_lastAtDoor_6 rfl 4 rfl ?_
    refine gw_bipush (pc' := 10) (v := 8) κ dX5_lastAtDoor_8 rfl (by decide) ?_
    refine gw_icmp_ge (pc' := 13) (tgt := 52) κ dX5_lastAtDoor_10 rfl (by decide) (fun hc_1 => ?_) (fun hc_1 => ?_)
    · have h := h.1 hc_1
      refine gw_iload_n (pc' := 53) κ dX5_lastAtDoor_52 rfl 3 rfl rfl ?_
      exact gw_iret κ dX5_lastAtDoor_53 (way_ky, way_wp, way_mi, way_so) rfl ⟨_, rfl, h⟩
    · have h := h.2 hc_1
      refine gw_aload_n (pc' := 14) κ dX5_lastAtDoor_13 rfl 0 rfl rfl ?_
      refine gb_get (pc' := 17) (C := RX5) (T := TX5) (N := 8) κ dX5_lastAtDoor_14 rfl inX5 0 rfl rfl rfl 2 (by decide) tw_fl_X5_26 rfl ?_
      refine gw_aload_n (pc' := 18) κ dX5_lastAtDoor_17 rfl 1 rfl rfl ?_
      refine gw_aload_n (pc' := 19) κ dX5_lastAtDoor_18 rfl 2 rfl rfl ?_
      refine gw_iload (pc' := 21) κ dX5_lastAtDoor_19 rfl 4 rfl ?_
      refine gb_callV (ci := 4) (qb := 1) (rest := []) κ (c_X4_follow qw qa qb (mkWy way_ky way_wp way_mi way_so) o1 o2 v4 h) ⟨rfl, rfl, Nat.le_of_ble_eq_true rfl, Nat.le_of_ble_eq_true rfl⟩ tw_ml_X5_163 tw_im_X4_follow tw_se_X4_follow tw_co_X4_follow tw_in_X4 hy_X4_follow rfl rfl rfl rfl rfl (Nat.le_of_ble_eq_true rfl) rfl dX5_lastAtDoor_21 [1, 2, 3] rfl (by decide) (fun _ => Nat.le_of_ble_eq_true rfl) ⟨Nat.le_of_ble_eq_true rfl, Nat.le_of_ble_eq_true rfl⟩ (fun v u hv => ?_)
      obtain ⟨rfl, h⟩ := hv
      obtain ⟨ky_2, wp_3, mi_4, so_5⟩ := u
      refine gw_nf (ws' := (wfl [cX qx qn qp qw qt qu qd qh ql, cWy qw cI ky_2 wp_3 mi_4 so_5, cSt qa cI o1.se o1.la o1.de o1.le o1.sa o1.fl o1.ar o1.dr o1.pe o1.ri, cPl qb cI o2.od o2.rd o2.vn o2.pn o2.ao o2.sr o2.sp o2.wt])) (lv' := [(0, .ref (qx 0)), (1, .ref (qa 0)), (2, .ref (qb 0)), (3, .int v3), (4, .int v4)]) (st' := []) (pc' := 24) (ce' := 0) (sl' := 0) rfl rfl rfl rfl rfl rfl ?_
      refine gw_aload_n (pc' := 25) κ dX5_lastAtDoor_24 rfl 0 rfl rfl ?_
      refine gb_get (pc' := 28) (C := RX5) (T := TX5) (N := 8) κ dX5_lastAtDoor_25 rfl inX5 0 rfl rfl rfl 2 (by decide) tw_fl_X5_26 rfl ?_
      refine gb_get (pc' := 31) (C := RX4) (T := TX4) (N := 4) κ dX5_lastAtDoor_28 rfl inX4 1 rfl rfl rfl 3 (by decide) tw_fl_X5_176 rfl ?_
      refine gw_if_le (pc' := 34) (tgt := 46) κ dX5_lastAtDoor_31 rfl (by decide) (fun hc_6 => ?_) (fun hc_6 => ?_)
      · have h := h.1 hc_6
        refine gw_iinc (pc' := 49) κ dX5_lastAtDoor_46 rfl 4 rfl (v := (v4 + 1)) rfl (by decide) (lv' := [(4, .int (v4 + 1)), (0, .ref (qx 0)), (1, .ref (qa 0)), (2, .ref (qb 0)), (3, .int v3)]) rfl ?_
        refine gw_goto (tgt := 6) κ dX5_lastAtDoor_49 (by decide) ?_
        refine gw_lv (lv' := [(0, .ref (qx 0)), (1, .ref (qa 0)), (2, .ref (qb 0)), (3, .int v3), (4, .int (v4 + 1))]) [1, 2, 3, 4, 0] rfl ?_
        exact ih6 v3 (v4 + 1) ky_2 wp_3 mi_4 so_5 h
      · have h := h.2 hc_6
        refine gw_iload_n (pc' := 35) κ dX5_lastAtDoor_34 rfl 3 rfl rfl ?_
        refine gw_aload_n (pc' := 36) κ dX5_lastAtDoor_35 rfl 0 rfl rfl ?_
        refine gb_get (pc' := 39) (C := RX5) (T := TX5) (N := 8) κ dX5_lastAtDoor_36 rfl inX5 0 rfl rfl rfl 2 (by decide) tw_fl_X5_26 rfl ?_
        refine gb_callV (ci := 4) (qb := 1) (rest := [.int v3]) κ (c_X4_lastMinute qw (mkWy ky_2 wp_3 mi_4 so_5) h) ⟨rfl, rfl, Nat.le_of_ble_eq_true rfl, Nat.le_of_ble_eq_true rfl⟩ tw_ml_X5_179 tw_im_X4_lastMinute tw_se_X4_lastMinute tw_co_X4_lastMinute tw_in_X4 hy_X4_lastMinute rfl rfl rfl rfl rfl (Nat.le_of_ble_eq_true rfl) rfl dX5_lastAtDoor_39 [1] rfl (by decide) (fun _ => Nat.le_of_ble_eq_true rfl) ⟨Nat.le_of_ble_eq_true rfl, Nat.le_of_ble_eq_true rfl⟩ (fun v u hv => ?_)
        obtain ⟨r_7, rfl, h⟩ := hv
        refine gw_nf (ws' := (wfl [cX qx qn qp qw qt qu qd qh ql, cWy qw cI ky_2 wp_3 mi_4 so_5, cSt qa cI o1.se o1.la o1.de o1.le o1.sa o1.fl o1.ar o1.dr o1.pe o1.ri, cPl qb cI o2.od o2.rd o2.vn o2.pn o2.ao o2.sr o2.sp o2.wt])) (lv' := [(0, .ref (qx 0)), (1, .ref (qa 0)), (2, .ref (qb 0)), (3, .int v3), (4, .int v4)]) (st' := [.int r_7, .int v3]) (pc' := 42) (ce' := 0) (sl' := 0) rfl rfl rfl rfl rfl rfl ?_
        refine gw_max (pc' := 45) κ dX5_lastAtDoor_42 rfl tw_ml_X5_260 tw_st_J9_max_7cf53 tw_in_J9 tw_co_J9_max_7cf53 ⟨Nat.le_of_ble_eq_true rfl, Nat.le_of_ble_eq_true rfl, Nat.le_of_ble_eq_true rfl, Nat.le_of_ble_eq_true rfl⟩ ?_
        refine gw_istore_n (pc' := 46) κ dX5_lastAtDoor_45 rfl rfl (by decide) (lv' := [(3, .int (if v3 < r_7 then r_7 else v3)), (0, .ref (qx 0)), (1, .ref (qa 0)), (2, .ref (qb 0)), (4, .int v4)]) rfl ?_
        refine gw_iinc (pc' := 49) κ dX5_lastAtDoor_46 rfl 4 rfl (v := (v4 + 1)) rfl (by decide) (lv' := [(4, .int (v4 + 1)), (3, .int (if v3 < r_7 then r_7 else v3)), (0, .ref (qx 0)), (1, .ref (qa 0)), (2, .ref (qb 0))]) rfl ?_
        refine gw_goto (tgt := 6) κ dX5_lastAtDoor_49 (by decide) ?_
        refine gw_lv (lv' := [(0, .ref (qx 0)), (1, .ref (qa 0)), (2, .ref (qb 0)), (3, .int (if v3 < r_7 then r_7 else v3)), (4, .int (v4 + 1))]) [2, 3, 4, 1, 0] rfl ?_
        exact ih6 (if v3 < r_7 then r_7 else v3) (v4 + 1) ky_2 wp_3 mi_4 so_5 h
set_option maxHeartbeats 4000000 in
set_option maxRecDepth 100000 in
theorem c_X5_lastAtDoor {l : Launch} {D : va_G} {cI cR : ClassId}  (qx : Nat → Nat) (qn : Nat → Nat) (qp : Nat → Nat) (qw : Nat → Nat) (qt : Nat → Nat) (qu : Nat → Nat) (qd : Nat → Nat) (qh : Nat → Nat) (ql : Nat → Nat) (qa : Nat → Nat) (qb : Nat → Nat) (qs : Nat → Nat → Nat) {P : Int32 → (Nat → Int32) → (Nat → Int32) → (Nat → Int32) → Int32 → Prop} (way : WyT) (o1 : StT) (o2 : PlT) (h : wp_X5_lastAtDoor P way o1 o2) : CT l D cI cR yX5_lastAtDoor cX5_lastAtDoor 5 (some .int) ({ frames := 3, cells := 0, slots := 0, locals := 70 } : Room) [.ref (qx 0), .ref (qa 0), .ref (qb 0)] (wfl [cX qx qn qp qw qt qu qd qh ql, cWy qw cI way.ky way.wp way.mi way.so, cSt qa cI o1.se o1.la o1.de o1.le o1.sa o1.fl o1.ar o1.dr o1.pe o1.ri, cPl qb cI o2.od o2.rd o2.vn o2.pn o2.ao o2.sr o2.sp o2.wt]) (fun u : (Nat → Int32) × (Nat → Int32) × (Nat → Int32) × Int32 => (wfl [cX qx qn qp qw qt qu qd qh ql, cWy qw cI u.1 u.2.1 u.2.2.1 u.2.2.2, cSt qa cI o1.se o1.la o1.de o1.le o1.sa o1.fl o1.ar o1.dr o1.pe o1.ri, cPl qb cI o2.od o2.rd o2.vn o2.pn o2.ao o2.sr o2.sp o2.wt])) (pI (fun (r : Int32) (u : (Nat → Int32) × (Nat → Int32) × (Nat → Int32) × Int32) => P r u.1 u.2.1 u.2.2.1 u.2.2.2)) 0 0 := by
  refine ct_of RX5 rfl (by decide +kernel) (Nat.le_of_ble_eq_true rfl) (fun zp ze zs zm zb zt zc A hin κ => ?_)
  unfold wp_X5_lastAtDoor at h
  refine gw_nf (lv' := [(0, .ref (qx 0)), (1, .ref (qa 0)), (2, .ref (qb 0))]) (pc' := 0) (st' := []) (ce' := 0) (sl' := 0) rfl rfl rfl rfl rfl rfl ?_
  refine gw_bipush (pc' := 2) (v := -106) κ dX5_lastAtDoor_0 rfl (by decide) ?_
  refine gw_istore_n (pc' := 3) κ dX5_lastAtDoor_2 rfl rfl (by decide) (lv' := [(3, .int (-106 : Int32)), (0, .ref (qx 0)), (1, .ref (qa 0)), (2, .ref (qb 0))]) rfl ?_
  refine gw_iconst (pc' := 4) (v := 0) κ dX5_lastAtDoor_3 rfl (by decide) ?_
  refine gw_istore (pc' := 6) κ dX5_lastAtDoor_4 rfl (by decide) (lv' := [(4, .int (0 : Int32)), (3, .int (-106 : Int32)), (0, .ref (qx 0)), (1, .ref (qa 0)), (2, .ref (qb 0))]) rfl ?_
  obtain ⟨m6, h⟩ := h
  refine gw_lv (lv' := [(0, .ref (qx 0)), (1, .ref (qa 0)), (2, .ref (qb 0)), (3, .int (-106 : Int32)), (4, .int (0 : Int32))]) [2, 3, 4, 1, 0] rfl ?_
  exact k_X5_lastAtDoor_6 κ qx qn qp qw qt qu qd qh ql qa qb qs P way o1 o2 m6 (-106 : Int32) (0 : Int32) way.ky way.wp way.mi way.so h
theorem hy_X5_count : g_hy yX5_count 1 := by decide +kernel
set_option maxHeartbeats 4000000 in
set_option maxRecDepth 100000 in
theorem c_X5_count {l : Launch} {D : va_G} {cI cR : ClassId}  (qx : Nat → Nat) (qn : Nat → Nat) (qp : Nat → Nat) (qw : Nat → Nat) (qt : Nat → Nat) (qu : Nat → Nat) (qd : Nat → Nat) (qh : Nat → Nat) (ql : Nat → Nat) (qs : Nat → Nat → Nat) {P : Int32 → (Nat → Int32) → (Nat → Int32) → (Nat → Int32) → Int32 → Prop} (now : StT) (pln : PlT) (way : WyT) (pad : PdT) (his : HiT) (x1 : Int32) (h : wp_X5_count P now pln way pad his x1) : CT l D cI cR yX5_count cX5_count 2 (some .int) ({ frames := 5, cells := 0, slots := 0, locals := 118 } : Room) [.ref (qx 0), .int x1] (wfl [cX qx qn qp qw qt qu qd qh ql, cSt qn cI now.se now.la now.de now.le now.sa now.fl now.ar now.dr now.pe now.ri, cPl qp cI pln.od pln.rd pln.vn pln.pn pln.ao pln.sr pln.sp pln.wt, cWy qw cI way.ky way.wp way.mi way.so, cPd qd cI pad.co pad.ln, cHi qh qs cR his.ol his.sz, cSt (qs 0) cI (his.hs 0).se (his.hs 0).la (his.hs 0).de (his.hs 0).le (his.hs 0).sa (his.hs 0).fl (his.hs 0).ar (his.hs 0).dr (his.hs 0).pe (his.hs 0).ri, cSt (qs 1) cI (his.hs 1).se (his.hs 1).la (his.hs 1).de (his.hs 1).le (his.hs 1).sa (his.hs 1).fl (his.hs 1).ar (his.hs 1).dr (his.hs 1).pe (his.hs 1).ri, cSt (qs 2) cI (his.hs 2).se (his.hs 2).la (his.hs 2).de (his.hs 2).le (his.hs 2).sa (his.hs 2).fl (his.hs 2).ar (his.hs 2).dr (his.hs 2).pe (his.hs 2).ri, cSt (qs 3) cI (his.hs 3).se (his.hs 3).la (his.hs 3).de (his.hs 3).le (his.hs 3).sa (his.hs 3).fl (his.hs 3).ar (his.hs 3).dr (his.hs 3).pe (his.hs 3).ri, cSt (qs 4) cI (his.hs 4).se (his.hs 4).la (his.hs 4).de (his.hs 4).le (his.hs 4).sa (his.hs 4).fl (his.hs 4).ar (his.hs 4).dr (his.hs 4).pe (his.hs 4).ri, cSt (qs 5) cI (his.hs 5).se (his.hs 5).la (his.hs 5).de (his.hs 5).le (his.hs 5).sa (his.hs 5).fl (his.hs 5).ar (his.hs 5).dr (his.hs 5).pe (his.hs 5).ri]) (fun u : (Nat → Int32) × (Nat → Int32) × (Nat → Int32) × Int32 => (wfl [cX qx qn qp qw qt qu qd qh ql, cSt qn cI now.se now.la now.de now.le now.sa now.fl now.ar now.dr now.pe now.ri, cPl qp cI pln.od pln.rd pln.vn pln.pn pln.ao pln.sr pln.sp pln.wt, cWy qw cI u.1 u.2.1 u.2.2.1 u.2.2.2, cPd qd cI pad.co pad.ln, cHi qh qs cR his.ol his.sz, cSt (qs 0) cI (his.hs 0).se (his.hs 0).la (his.hs 0).de (his.hs 0).le (his.hs 0).sa (his.hs 0).fl (his.hs 0).ar (his.hs 0).dr (his.hs 0).pe (his.hs 0).ri, cSt (qs 1) cI (his.hs 1).se (his.hs 1).la (his.hs 1).de (his.hs 1).le (his.hs 1).sa (his.hs 1).fl (his.hs 1).ar (his.hs 1).dr (his.hs 1).pe (his.hs 1).ri, cSt (qs 2) cI (his.hs 2).se (his.hs 2).la (his.hs 2).de (his.hs 2).le (his.hs 2).sa (his.hs 2).fl (his.hs 2).ar (his.hs 2).dr (his.hs 2).pe (his.hs 2).ri, cSt (qs 3) cI (his.hs 3).se (his.hs 3).la (his.hs 3).de (his.hs 3).le (his.hs 3).sa (his.hs 3).fl (his.hs 3).ar (his.hs 3).dr (his.hs 3).pe (his.hs 3).ri, cSt (qs 4) cI (his.hs 4).se (his.hs 4).la (his.hs 4).de (his.hs 4).le (his.hs 4).sa (his.hs 4).fl (his.hs 4).ar (his.hs 4).dr (his.hs 4).pe (his.hs 4).ri, cSt (qs 5) cI (his.hs 5).se (his.hs 5).la (his.hs 5).de (his.hs 5).le (his.hs 5).sa (his.hs 5).fl (his.hs 5).ar (his.hs 5).dr (his.hs 5).pe (his.hs 5).ri])) (pI (fun (r : Int32) (u : (Nat → Int32) × (Nat → Int32) × (Nat → Int32) × Int32) => P r u.1 u.2.1 u.2.2.1 u.2.2.2)) 0 0 := by
  refine ct_of RX5 rfl (by decide +kernel) (Nat.le_of_ble_eq_true rfl) (fun zp ze zs zm zb zt zc A hin κ => ?_)
  unfold wp_X5_count at h
  refine gw_nf (lv' := [(0, .ref (qx 0)), (1, .int x1)]) (pc' := 0) (st' := []) (ce' := 0) (sl' := 0) rfl rfl rfl rfl rfl rfl ?_
  refine gw_iload_n (pc' := 1) κ dX5_count_0 rfl 1 rfl rfl ?_
  refine gw_iconst (pc' := 2) (v := 0) κ dX5_count_1 rfl (by decide) ?_
  refine gw_iconst (pc' := 3) (v := 4) κ dX5_count_2 rfl (by decide) ?_
  refine gb_callS (rest := []) κ (c_X5_isIn  x1 (0 : Int32) (4 : Int32) h) ⟨rfl, rfl, Nat.le_of_ble_eq_true rfl, Nat.le_of_ble_eq_true rfl⟩ tw_ml_X5_54 tw_st_X5_isIn tw_co_X5_isIn tw_in_X5 hy_X5_isIn rfl (Nat.le_of_ble_eq_true rfl) rfl dX5_count_3 [] rfl (by decide) (fun _ => Nat.le_of_ble_eq_true rfl) ⟨Nat.le_of_ble_eq_true rfl, Nat.le_of_ble_eq_true rfl⟩ (fun v u hv => ?_)
  obtain ⟨r_1, rfl, h⟩ := hv
  refine gw_nf (ws' := (wfl [cX qx qn qp qw qt qu qd qh ql, cSt qn cI now.se now.la now.de now.le now.sa now.fl now.ar now.dr now.pe now.ri, cPl qp cI pln.od pln.rd pln.vn pln.pn pln.ao pln.sr pln.sp pln.wt, cWy qw cI way.ky way.wp way.mi way.so, cPd qd cI pad.co pad.ln, cHi qh qs cR his.ol his.sz, cSt (qs 0) cI (his.hs 0).se (his.hs 0).la (his.hs 0).de (his.hs 0).le (his.hs 0).sa (his.hs 0).fl (his.hs 0).ar (his.hs 0).dr (his.hs 0).pe (his.hs 0).ri, cSt (qs 1) cI (his.hs 1).se (his.hs 1).la (his.hs 1).de (his.hs 1).le (his.hs 1).sa (his.hs 1).fl (his.hs 1).ar (his.hs 1).dr (his.hs 1).pe (his.hs 1).ri, cSt (qs 2) cI (his.hs 2).se (his.hs 2).la (his.hs 2).de (his.hs 2).le (his.hs 2).sa (his.hs 2).fl (his.hs 2).ar (his.hs 2).dr (his.hs 2).pe (his.hs 2).ri, cSt (qs 3) cI (his.hs 3).se (his.hs 3).la (his.hs 3).de (his.hs 3).le (his.hs 3).sa (his.hs 3).fl (his.hs 3).ar (his.hs 3).dr (his.hs 3).pe (his.hs 3).ri, cSt (qs 4) cI (his.hs 4).se (his.hs 4).la (his.hs 4).de (his.hs 4).le (his.hs 4).sa (his.hs 4).fl (his.hs 4).ar (his.hs 4).dr (his.hs 4).pe (his.hs 4).ri, cSt (qs 5) cI (his.hs 5).se (his.hs 5).la (his.hs 5).de (his.hs 5).le (his.hs 5).sa (his.hs 5).fl (his.hs 5).ar (his.hs 5).dr (his.hs 5).pe (his.hs 5).ri])) (lv' := [(0, .ref (qx 0)), (1, .int x1)]) (st' := [.int r_1]) (pc' := 6) (ce' := 0) (sl' := 0) rfl rfl rfl rfl rfl rfl ?_
  refine gw_if_eq (pc' := 9) (tgt := 19) κ dX5_count_6 rfl (by decide) (fun hc_2 => ?_) (fun hc_2 => ?_)
  · have h := h.1 hc_2
    refine gw_iload_n (pc' := 20) κ dX5_count_19 rfl 1 rfl rfl ?_
    obtain ⟨hc_3_5, hc_3_6, hc_3_7, hc_3_8, hc_3_9, hc_3_10, hc_3_11, hc_3_12, hc_3_13, hc_3_14, hc_3_15, hc_3d⟩ := h
    by_cases hc_3c_5 : x1 = 5
    · have h := hc_3_5 hc_3c_5
      refine gw_tableIn (tgt := 80) (off := 60) κ dX5_count_20 (by rw [hc_3c_5]; decide) (by rw [hc_3c_5]; decide) (by rw [hc_3c_5]; decide +kernel) (by decide) ?_
      refine gw_aload_n (pc' := 81) κ dX5_count_80 rfl 0 rfl rfl ?_
      refine gb_get (pc' := 84) (C := RX5) (T := TX5) (N := 8) κ dX5_count_81 rfl inX5 0 rfl rfl rfl 0 (by decide) tw_fl_X5_10 rfl ?_
      refine gb_get (pc' := 87) (C := RX3) (T := TX3) (N := 10) κ dX5_count_84 rfl inX3 1 rfl rfl rfl 9 (by decide) tw_fl_X5_105 rfl ?_
      exact gw_iret κ dX5_count_87 (way.ky, way.wp, way.mi, way.so) rfl ⟨_, rfl, h⟩
    by_cases hc_3c_6 : x1 = 6
    · have h := hc_3_6 hc_3c_6
      refine gw_tableIn (tgt := 88) (off := 68) κ dX5_count_20 (by rw [hc_3c_6]; decide) (by rw [hc_3c_6]; decide) (by rw [hc_3c_6]; decide +kernel) (by decide) ?_
      refine gw_aload_n (pc' := 89) κ dX5_count_88 rfl 0 rfl rfl ?_
      refine gb_get (pc' := 92) (C := RX5) (T := TX5) (N := 8) κ dX5_count_89 rfl inX5 0 rfl rfl rfl 0 (by decide) tw_fl_X5_10 rfl ?_
      refine gb_callV (ci := 3) (qb := 1) (rest := []) κ (c_X3_allPeople qn now h) ⟨rfl, rfl, Nat.le_of_ble_eq_true rfl, Nat.le_of_ble_eq_true rfl⟩ tw_ml_X5_202 tw_im_X3_allPeople tw_se_X3_allPeople tw_co_X3_allPeople tw_in_X3 hy_X3_allPeople rfl rfl rfl rfl rfl (Nat.le_of_ble_eq_true rfl) rfl dX5_count_92 [1] rfl (by decide) (fun _ => Nat.le_of_ble_eq_true rfl) ⟨Nat.le_of_ble_eq_true rfl, Nat.le_of_ble_eq_true rfl⟩ (fun v u hv => ?_)
      obtain ⟨r_4, rfl, h⟩ := hv
      refine gw_nf (ws' := (wfl [cX qx qn qp qw qt qu qd qh ql, cSt qn cI now.se now.la now.de now.le now.sa now.fl now.ar now.dr now.pe now.ri, cPl qp cI pln.od pln.rd pln.vn pln.pn pln.ao pln.sr pln.sp pln.wt, cWy qw cI way.ky way.wp way.mi way.so, cPd qd cI pad.co pad.ln, cHi qh qs cR his.ol his.sz, cSt (qs 0) cI (his.hs 0).se (his.hs 0).la (his.hs 0).de (his.hs 0).le (his.hs 0).sa (his.hs 0).fl (his.hs 0).ar (his.hs 0).dr (his.hs 0).pe (his.hs 0).ri, cSt (qs 1) cI (his.hs 1).se (his.hs 1).la (his.hs 1).de (his.hs 1).le (his.hs 1).sa (his.hs 1).fl (his.hs 1).ar (his.hs 1).dr (his.hs 1).pe (his.hs 1).ri, cSt (qs 2) cI (his.hs 2).se (his.hs 2).la (his.hs 2).de (his.hs 2).le (his.hs 2).sa (his.hs 2).fl (his.hs 2).ar (his.hs 2).dr (his.hs 2).pe (his.hs 2).ri, cSt (qs 3) cI (his.hs 3).se (his.hs 3).la (his.hs 3).de (his.hs 3).le (his.hs 3).sa (his.hs 3).fl (his.hs 3).ar (his.hs 3).dr (his.hs 3).pe (his.hs 3).ri, cSt (qs 4) cI (his.hs 4).se (his.hs 4).la (his.hs 4).de (his.hs 4).le (his.hs 4).sa (his.hs 4).fl (his.hs 4).ar (his.hs 4).dr (his.hs 4).pe (his.hs 4).ri, cSt (qs 5) cI (his.hs 5).se (his.hs 5).la (his.hs 5).de (his.hs 5).le (his.hs 5).sa (his.hs 5).fl (his.hs 5).ar (his.hs 5).dr (his.hs 5).pe (his.hs 5).ri])) (lv' := [(0, .ref (qx 0)), (1, .int x1)]) (st' := [.int r_4]) (pc' := 95) (ce' := 0) (sl' := 0) rfl rfl rfl rfl rfl rfl ?_
      exact gw_iret κ dX5_count_95 (way.ky, way.wp, way.mi, way.so) rfl ⟨_, rfl, h⟩
    by_cases hc_3c_7 : x1 = 7
    · have h := hc_3_7 hc_3c_7
      refine gw_tableIn (tgt := 96) (off := 76) κ dX5_count_20 (by rw [hc_3c_7]; decide) (by rw [hc_3c_7]; decide) (by rw [hc_3c_7]; decide +kernel) (by decide) ?_
      refine gw_aload_n (pc' := 97) κ dX5_count_96 rfl 0 rfl rfl ?_
      refine gb_get (pc' := 100) (C := RX5) (T := TX5) (N := 8) κ dX5_count_97 rfl inX5 0 rfl rfl rfl 1 (by decide) tw_fl_X5_19 rfl ?_
      refine gb_get (pc' := 103) (C := RX2) (T := TX2) (N := 8) κ dX5_count_100 rfl inX2 2 rfl rfl rfl 5 (by decide) tw_fl_X5_205 rfl ?_
      exact gw_iret κ dX5_count_103 (way.ky, way.wp, way.mi, way.so) rfl ⟨_, rfl, h⟩
    by_cases hc_3c_8 : x1 = 8
    · have h := hc_3_8 hc_3c_8
      refine gw_tableIn (tgt := 104) (off := 84) κ dX5_count_20 (by rw [hc_3c_8]; decide) (by rw [hc_3c_8]; decide) (by rw [hc_3c_8]; decide +kernel) (by decide) ?_
      refine gw_aload_n (pc' := 105) κ dX5_count_104 rfl 0 rfl rfl ?_
      refine gb_get (pc' := 108) (C := RX5) (T := TX5) (N := 8) κ dX5_count_105 rfl inX5 0 rfl rfl rfl 1 (by decide) tw_fl_X5_19 rfl ?_
      refine gb_get (pc' := 111) (C := RX2) (T := TX2) (N := 8) κ dX5_count_108 rfl inX2 2 rfl rfl rfl 6 (by decide) tw_fl_X5_101 rfl ?_
      exact gw_iret κ dX5_count_111 (way.ky, way.wp, way.mi, way.so) rfl ⟨_, rfl, h⟩
    by_cases hc_3c_9 : x1 = 9
    · have h := hc_3_9 hc_3c_9
      refine gw_tableIn (tgt := 112) (off := 92) κ dX5_count_20 (by rw [hc_3c_9]; decide) (by rw [hc_3c_9]; decide) (by rw [hc_3c_9]; decide +kernel) (by decide) ?_
      refine gw_aload_n (pc' := 113) κ dX5_count_112 rfl 0 rfl rfl ?_
      refine gb_get (pc' := 116) (C := RX5) (T := TX5) (N := 8) κ dX5_count_113 rfl inX5 0 rfl rfl rfl 1 (by decide) tw_fl_X5_19 rfl ?_
      refine gb_get (pc' := 119) (C := RX2) (T := TX2) (N := 8) κ dX5_count_116 rfl inX2 2 rfl rfl rfl 7 (by decide) tw_fl_X5_208 rfl ?_
      exact gw_iret κ dX5_count_119 (way.ky, way.wp, way.mi, way.so) rfl ⟨_, rfl, h⟩
    by_cases hc_3c_10 : x1 = 10
    · have h := hc_3_10 hc_3c_10
      refine gw_tableIn (tgt := 120) (off := 100) κ dX5_count_20 (by rw [hc_3c_10]; decide) (by rw [hc_3c_10]; decide) (by rw [hc_3c_10]; decide +kernel) (by decide) ?_
      refine gw_aload_n (pc' := 121) κ dX5_count_120 rfl 0 rfl rfl ?_
      refine gb_callV (ci := 5) (qb := 0) (rest := []) κ (c_X5_allFares qx qn qp qw qt qu qd qh ql qs now pln h) ⟨rfl, rfl, Nat.le_of_ble_eq_true rfl, Nat.le_of_ble_eq_true rfl⟩ tw_ml_X5_211 tw_im_X5_allFares tw_se_X5_allFares tw_co_X5_allFares tw_in_X5 hy_X5_allFares rfl rfl rfl rfl rfl (Nat.le_of_ble_eq_true rfl) rfl dX5_count_121 [0, 1, 2] rfl (by decide) (fun _ => Nat.le_of_ble_eq_true rfl) ⟨Nat.le_of_ble_eq_true rfl, Nat.le_of_ble_eq_true rfl⟩ (fun v u hv => ?_)
      obtain ⟨r_5, rfl, h⟩ := hv
      refine gw_nf (ws' := (wfl [cX qx qn qp qw qt qu qd qh ql, cSt qn cI now.se now.la now.de now.le now.sa now.fl now.ar now.dr now.pe now.ri, cPl qp cI pln.od pln.rd pln.vn pln.pn pln.ao pln.sr pln.sp pln.wt, cWy qw cI way.ky way.wp way.mi way.so, cPd qd cI pad.co pad.ln, cHi qh qs cR his.ol his.sz, cSt (qs 0) cI (his.hs 0).se (his.hs 0).la (his.hs 0).de (his.hs 0).le (his.hs 0).sa (his.hs 0).fl (his.hs 0).ar (his.hs 0).dr (his.hs 0).pe (his.hs 0).ri, cSt (qs 1) cI (his.hs 1).se (his.hs 1).la (his.hs 1).de (his.hs 1).le (his.hs 1).sa (his.hs 1).fl (his.hs 1).ar (his.hs 1).dr (his.hs 1).pe (his.hs 1).ri, cSt (qs 2) cI (his.hs 2).se (his.hs 2).la (his.hs 2).de (his.hs 2).le (his.hs 2).sa (his.hs 2).fl (his.hs 2).ar (his.hs 2).dr (his.hs 2).pe (his.hs 2).ri, cSt (qs 3) cI (his.hs 3).se (his.hs 3).la (his.hs 3).de (his.hs 3).le (his.hs 3).sa (his.hs 3).fl (his.hs 3).ar (his.hs 3).dr (his.hs 3).pe (his.hs 3).ri, cSt (qs 4) cI (his.hs 4).se (his.hs 4).la (his.hs 4).de (his.hs 4).le (his.hs 4).sa (his.hs 4).fl (his.hs 4).ar (his.hs 4).dr (his.hs 4).pe (his.hs 4).ri, cSt (qs 5) cI (his.hs 5).se (his.hs 5).la (his.hs 5).de (his.hs 5).le (his.hs 5).sa (his.hs 5).fl (his.hs 5).ar (his.hs 5).dr (his.hs 5).pe (his.hs 5).ri])) (lv' := [(0, .ref (qx 0)), (1, .int x1)]) (st' := [.int r_5]) (pc' := 124) (ce' := 0) (sl' := 0) rfl rfl rfl rfl rfl rfl ?_
      exact gw_iret κ dX5_count_124 (way.ky, way.wp, way.mi, way.so) rfl ⟨_, rfl, h⟩
    by_cases hc_3c_11 : x1 = 11
    · have h := hc_3_11 hc_3c_11
      refine gw_tableIn (tgt := 125) (off := 105) κ dX5_count_20 (by rw [hc_3c_11]; decide) (by rw [hc_3c_11]; decide) (by rw [hc_3c_11]; decide +kernel) (by decide) ?_
      refine gw_aload_n (pc' := 126) κ dX5_count_125 rfl 0 rfl rfl ?_
      refine gb_get (pc' := 129) (C := RX5) (T := TX5) (N := 8) κ dX5_count_126 rfl inX5 0 rfl rfl rfl 1 (by decide) tw_fl_X5_19 rfl ?_
      refine gb_callV (ci := 2) (qb := 2) (rest := []) κ (c_X2_vansWithRiders qp pln h) ⟨rfl, rfl, Nat.le_of_ble_eq_true rfl, Nat.le_of_ble_eq_true rfl⟩ tw_ml_X5_214 tw_im_X2_vansWithRiders tw_se_X2_vansWithRiders tw_co_X2_vansWithRiders tw_in_X2 hy_X2_vansWithRiders rfl rfl rfl rfl rfl (Nat.le_of_ble_eq_true rfl) rfl dX5_count_129 [2] rfl (by decide) (fun _ => Nat.le_of_ble_eq_true rfl) ⟨Nat.le_of_ble_eq_true rfl, Nat.le_of_ble_eq_true rfl⟩ (fun v u hv => ?_)
      obtain ⟨r_6, rfl, h⟩ := hv
      refine gw_nf (ws' := (wfl [cX qx qn qp qw qt qu qd qh ql, cSt qn cI now.se now.la now.de now.le now.sa now.fl now.ar now.dr now.pe now.ri, cPl qp cI pln.od pln.rd pln.vn pln.pn pln.ao pln.sr pln.sp pln.wt, cWy qw cI way.ky way.wp way.mi way.so, cPd qd cI pad.co pad.ln, cHi qh qs cR his.ol his.sz, cSt (qs 0) cI (his.hs 0).se (his.hs 0).la (his.hs 0).de (his.hs 0).le (his.hs 0).sa (his.hs 0).fl (his.hs 0).ar (his.hs 0).dr (his.hs 0).pe (his.hs 0).ri, cSt (qs 1) cI (his.hs 1).se (his.hs 1).la (his.hs 1).de (his.hs 1).le (his.hs 1).sa (his.hs 1).fl (his.hs 1).ar (his.hs 1).dr (his.hs 1).pe (his.hs 1).ri, cSt (qs 2) cI (his.hs 2).se (his.hs 2).la (his.hs 2).de (his.hs 2).le (his.hs 2).sa (his.hs 2).fl (his.hs 2).ar (his.hs 2).dr (his.hs 2).pe (his.hs 2).ri, cSt (qs 3) cI (his.hs 3).se (his.hs 3).la (his.hs 3).de (his.hs 3).le (his.hs 3).sa (his.hs 3).fl (his.hs 3).ar (his.hs 3).dr (his.hs 3).pe (his.hs 3).ri, cSt (qs 4) cI (his.hs 4).se (his.hs 4).la (his.hs 4).de (his.hs 4).le (his.hs 4).sa (his.hs 4).fl (his.hs 4).ar (his.hs 4).dr (his.hs 4).pe (his.hs 4).ri, cSt (qs 5) cI (his.hs 5).se (his.hs 5).la (his.hs 5).de (his.hs 5).le (his.hs 5).sa (his.hs 5).fl (his.hs 5).ar (his.hs 5).dr (his.hs 5).pe (his.hs 5).ri])) (lv' := [(0, .ref (qx 0)), (1, .int x1)]) (st' := [.int r_6]) (pc' := 132) (ce' := 0) (sl' := 0) rfl rfl rfl rfl rfl rfl ?_
      exact gw_iret κ dX5_count_132 (way.ky, way.wp, way.mi, way.so) rfl ⟨_, rfl, h⟩
    by_cases hc_3c_12 : x1 = 12
    · have h := hc_3_12 hc_3c_12
      refine gw_tableIn (tgt := 133) (off := 113) κ dX5_count_20 (by rw [hc_3c_12]; decide) (by rw [hc_3c_12]; decide) (by rw [hc_3c_12]; decide +kernel) (by decide) ?_
      refine gw_aload_n (pc' := 134) κ dX5_count_133 rfl 0 rfl rfl ?_
      refine gb_callV (ci := 5) (qb := 0) (rest := []) κ (c_X5_allStops qx qn qp qw qt qu qd qh ql qs now pln way h) ⟨rfl, rfl, Nat.le_of_ble_eq_true rfl, Nat.le_of_ble_eq_true rfl⟩ tw_ml_X5_217 tw_im_X5_allStops tw_se_X5_allStops tw_co_X5_allStops tw_in_X5 hy_X5_allStops rfl rfl rfl rfl rfl (Nat.le_of_ble_eq_true rfl) rfl dX5_count_134 [0, 1, 2, 3] rfl (by decide) (fun _ => Nat.le_of_ble_eq_true rfl) ⟨Nat.le_of_ble_eq_true rfl, Nat.le_of_ble_eq_true rfl⟩ (fun v u hv => ?_)
      obtain ⟨r_11, rfl, h⟩ := hv
      obtain ⟨ky_7, wp_8, mi_9, so_10⟩ := u
      refine gw_nf (ws' := (wfl [cX qx qn qp qw qt qu qd qh ql, cSt qn cI now.se now.la now.de now.le now.sa now.fl now.ar now.dr now.pe now.ri, cPl qp cI pln.od pln.rd pln.vn pln.pn pln.ao pln.sr pln.sp pln.wt, cWy qw cI ky_7 wp_8 mi_9 so_10, cPd qd cI pad.co pad.ln, cHi qh qs cR his.ol his.sz, cSt (qs 0) cI (his.hs 0).se (his.hs 0).la (his.hs 0).de (his.hs 0).le (his.hs 0).sa (his.hs 0).fl (his.hs 0).ar (his.hs 0).dr (his.hs 0).pe (his.hs 0).ri, cSt (qs 1) cI (his.hs 1).se (his.hs 1).la (his.hs 1).de (his.hs 1).le (his.hs 1).sa (his.hs 1).fl (his.hs 1).ar (his.hs 1).dr (his.hs 1).pe (his.hs 1).ri, cSt (qs 2) cI (his.hs 2).se (his.hs 2).la (his.hs 2).de (his.hs 2).le (his.hs 2).sa (his.hs 2).fl (his.hs 2).ar (his.hs 2).dr (his.hs 2).pe (his.hs 2).ri, cSt (qs 3) cI (his.hs 3).se (his.hs 3).la (his.hs 3).de (his.hs 3).le (his.hs 3).sa (his.hs 3).fl (his.hs 3).ar (his.hs 3).dr (his.hs 3).pe (his.hs 3).ri, cSt (qs 4) cI (his.hs 4).se (his.hs 4).la (his.hs 4).de (his.hs 4).le (his.hs 4).sa (his.hs 4).fl (his.hs 4).ar (his.hs 4).dr (his.hs 4).pe (his.hs 4).ri, cSt (qs 5) cI (his.hs 5).se (his.hs 5).la (his.hs 5).de (his.hs 5).le (his.hs 5).sa (his.hs 5).fl (his.hs 5).ar (his.hs 5).dr (his.hs 5).pe (his.hs 5).ri])) (lv' := [(0, .ref (qx 0)), (1, .int x1)]) (st' := [.int r_11]) (pc' := 137) (ce' := 0) (sl' := 0) rfl rfl rfl rfl rfl rfl ?_
      exact gw_iret κ dX5_count_137 (ky_7, wp_8, mi_9, so_10) rfl ⟨_, rfl, h⟩
    by_cases hc_3c_13 : x1 = 13
    · have h := hc_3_13 hc_3c_13
      refine gw_tableIn (tgt := 138) (off := 118) κ dX5_count_20 (by rw [hc_3c_13]; decide) (by rw [hc_3c_13]; decide) (by rw [hc_3c_13]; decide +kernel) (by decide) ?_
      refine gw_aload_n (pc' := 139) κ dX5_count_138 rfl 0 rfl rfl ?_
      refine gw_aload_n (pc' := 140) κ dX5_count_139 rfl 0 rfl rfl ?_
      refine gb_get (pc' := 143) (C := RX5) (T := TX5) (N := 8) κ dX5_count_140 rfl inX5 0 rfl rfl rfl 0 (by decide) tw_fl_X5_10 rfl ?_
      refine gw_aload_n (pc' := 144) κ dX5_count_143 rfl 0 rfl rfl ?_
      refine gb_get (pc' := 147) (C := RX5) (T := TX5) (N := 8) κ dX5_count_144 rfl inX5 0 rfl rfl rfl 1 (by decide) tw_fl_X5_19 rfl ?_
      refine gb_callV (ci := 5) (qb := 0) (rest := []) κ (c_X5_lastAtDoor qx qn qp qw qt qu qd qh ql qn qp qs way now pln h) ⟨rfl, rfl, Nat.le_of_ble_eq_true rfl, Nat.le_of_ble_eq_true rfl⟩ tw_ml_X5_220 tw_im_X5_lastAtDoor tw_se_X5_lastAtDoor tw_co_X5_lastAtDoor tw_in_X5 hy_X5_lastAtDoor rfl rfl rfl rfl rfl (Nat.le_of_ble_eq_true rfl) rfl dX5_count_147 [0, 3, 1, 2] rfl (by decide) (fun _ => Nat.le_of_ble_eq_true rfl) ⟨Nat.le_of_ble_eq_true rfl, Nat.le_of_ble_eq_true rfl⟩ (fun v u hv => ?_)
      obtain ⟨r_16, rfl, h⟩ := hv
      obtain ⟨ky_12, wp_13, mi_14, so_15⟩ := u
      refine gw_nf (ws' := (wfl [cX qx qn qp qw qt qu qd qh ql, cSt qn cI now.se now.la now.de now.le now.sa now.fl now.ar now.dr now.pe now.ri, cPl qp cI pln.od pln.rd pln.vn pln.pn pln.ao pln.sr pln.sp pln.wt, cWy qw cI ky_12 wp_13 mi_14 so_15, cPd qd cI pad.co pad.ln, cHi qh qs cR his.ol his.sz, cSt (qs 0) cI (his.hs 0).se (his.hs 0).la (his.hs 0).de (his.hs 0).le (his.hs 0).sa (his.hs 0).fl (his.hs 0).ar (his.hs 0).dr (his.hs 0).pe (his.hs 0).ri, cSt (qs 1) cI (his.hs 1).se (his.hs 1).la (his.hs 1).de (his.hs 1).le (his.hs 1).sa (his.hs 1).fl (his.hs 1).ar (his.hs 1).dr (his.hs 1).pe (his.hs 1).ri, cSt (qs 2) cI (his.hs 2).se (his.hs 2).la (his.hs 2).de (his.hs 2).le (his.hs 2).sa (his.hs 2).fl (his.hs 2).ar (his.hs 2).dr (his.hs 2).pe (his.hs 2).ri, cSt (qs 3) cI (his.hs 3).se (his.hs 3).la (his.hs 3).de (his.hs 3).le (his.hs 3).sa (his.hs 3).fl (his.hs 3).ar (his.hs 3).dr (his.hs 3).pe (his.hs 3).ri, cSt (qs 4) cI (his.hs 4).se (his.hs 4).la (his.hs 4).de (his.hs 4).le (his.hs 4).sa (his.hs 4).fl (his.hs 4).ar (his.hs 4).dr (his.hs 4).pe (his.hs 4).ri, cSt (qs 5) cI (his.hs 5).se (his.hs 5).la (his.hs 5).de (his.hs 5).le (his.hs 5).sa (his.hs 5).fl (his.hs 5).ar (his.hs 5).dr (his.hs 5).pe (his.hs 5).ri])) (lv' := [(0, .ref (qx 0)), (1, .int x1)]) (st' := [.int r_16]) (pc' := 150) (ce' := 0) (sl' := 0) rfl rfl rfl rfl rfl rfl ?_
      exact gw_iret κ dX5_count_150 (ky_12, wp_13, mi_14, so_15) rfl ⟨_, rfl, h⟩
    by_cases hc_3c_14 : x1 = 14
    · have h := hc_3_14 hc_3c_14
      refine gw_tableIn (tgt := 151) (off := 131) κ dX5_count_20 (by rw [hc_3c_14]; decide) (by rw [hc_3c_14]; decide) (by rw [hc_3c_14]; decide +kernel) (by decide) ?_
      refine gw_aload_n (pc' := 152) κ dX5_count_151 rfl 0 rfl rfl ?_
      refine gb_get (pc' := 155) (C := RX5) (T := TX5) (N := 8) κ dX5_count_152 rfl inX5 0 rfl rfl rfl 5 (by decide) tw_fl_X5_39 rfl ?_
      refine gb_get (pc' := 158) (C := RX1) (T := TX1) (N := 2) κ dX5_count_155 rfl inX1 4 rfl rfl rfl 1 (by decide) tw_fl_X5_122 rfl ?_
      exact gw_iret κ dX5_count_158 (way.ky, way.wp, way.mi, way.so) rfl ⟨_, rfl, h⟩
    by_cases hc_3c_15 : x1 = 15
    · have h := hc_3_15 hc_3c_15
      refine gw_tableIn (tgt := 159) (off := 139) κ dX5_count_20 (by rw [hc_3c_15]; decide) (by rw [hc_3c_15]; decide) (by rw [hc_3c_15]; decide +kernel) (by decide) ?_
      refine gw_aload_n (pc' := 160) κ dX5_count_159 rfl 0 rfl rfl ?_
      refine gb_get (pc' := 163) (C := RX5) (T := TX5) (N := 8) κ dX5_count_160 rfl inX5 0 rfl rfl rfl 6 (by decide) tw_fl_X5_46 rfl ?_
      refine gb_get (pc' := 166) (C := RX0) (T := TX0) (N := 3) κ dX5_count_163 rfl inX0 5 rfl rfl rfl 2 (by decide) tw_fl_X5_224 rfl ?_
      exact gw_iret κ dX5_count_166 (way.ky, way.wp, way.mi, way.so) rfl ⟨_, rfl, h⟩
    have h := hc_3d ⟨hc_3c_5, hc_3c_6, hc_3c_7, hc_3c_8, hc_3c_9, hc_3c_10, hc_3c_11, hc_3c_12, hc_3c_13, hc_3c_14, hc_3c_15⟩
    refine gw_tableOut (tgt := 167) κ dX5_count_20 (sw_out2 (x := x1) (lo := 5) (hi := 15) (by decide) (fun k h1 h2 => by rcases (show k = 5 ∨ k = 6 ∨ k = 7 ∨ k = 8 ∨ k = 9 ∨ k = 10 ∨ k = 11 ∨ k = 12 ∨ k = 13 ∨ k = 14 ∨ k = 15 by omega) with rfl | rfl | rfl | rfl | rfl | rfl | rfl | rfl | rfl | rfl | rfl <;> assumption)) (by decide) ?_
    refine gw_bipush (pc' := 169) (v := -102) κ dX5_count_167 rfl (by decide) ?_
    exact gw_iret κ dX5_count_169 (way.ky, way.wp, way.mi, way.so) rfl ⟨_, rfl, h⟩
  · have h := h.2 hc_2
    refine gw_aload_n (pc' := 10) κ dX5_count_9 rfl 0 rfl rfl ?_
    refine gb_get (pc' := 13) (C := RX5) (T := TX5) (N := 8) κ dX5_count_10 rfl inX5 0 rfl rfl rfl 0 (by decide) tw_fl_X5_10 rfl ?_
    refine gb_get (pc' := 16) (C := RX3) (T := TX3) (N := 10) κ dX5_count_13 rfl inX3 1 rfl rfl rfl 0 (by decide) tw_fl_X5_65 rfl ?_
    refine gw_iload_n (pc' := 17) κ dX5_count_16 rfl 1 rfl rfl ?_
    obtain ⟨hb_17, h⟩ := h
    refine gb_iald (pc' := 18) κ dX5_count_17 rfl 1 1 rfl rfl hb_17 ?_
    exact gw_iret κ dX5_count_18 (way.ky, way.wp, way.mi, way.so) rfl ⟨_, rfl, h⟩
theorem hy_X2_isAtKerb : g_hy yX2_isAtKerb 3 := by decide +kernel
set_option maxHeartbeats 4000000 in
set_option maxRecDepth 100000 in
theorem c_X2_isAtKerb {l : Launch} {D : va_G} {cI cR : ClassId}  (qa : Nat → Nat) (qb : Nat → Nat) {P : Int32 → Prop} (o0 : PlT) (o1 : StT) (x2 : Int32) (x3 : Int32) (h : wp_X2_isAtKerb P o0 o1 x2 x3) : CT l D cI cR yX2_isAtKerb cX2_isAtKerb 5 (some .boolean) ({ frames := 2, cells := 0, slots := 0, locals := 42 } : Room) [.ref (qa 0), .ref (qb 0), .int x2, .int x3] (wfl [cPl qa cI o0.od o0.rd o0.vn o0.pn o0.ao o0.sr o0.sp o0.wt, cSt qb cI o1.se o1.la o1.de o1.le o1.sa o1.fl o1.ar o1.dr o1.pe o1.ri]) (fun _ : Unit => (wfl [cPl qa cI o0.od o0.rd o0.vn o0.pn o0.ao o0.sr o0.sp o0.wt, cSt qb cI o1.se o1.la o1.de o1.le o1.sa o1.fl o1.ar o1.dr o1.pe o1.ri])) (pI (fun (r : Int32) (_ : Unit) => P r)) 0 0 := by
  refine ct_of RX2 rfl (by decide +kernel) (Nat.le_of_ble_eq_true rfl) (fun zp ze zs zm zb zt zc A hin κ => ?_)
  unfold wp_X2_isAtKerb at h
  refine gw_nf (lv' := [(0, .ref (qa 0)), (1, .ref (qb 0)), (2, .int x2), (3, .int x3)]) (pc' := 0) (st' := []) (ce' := 0) (sl' := 0) rfl rfl rfl rfl rfl rfl ?_
  refine gw_aload_n (pc' := 1) κ dX2_isAtKerb_0 rfl 0 rfl rfl ?_
  refine gb_get (pc' := 4) (C := RX2) (T := TX2) (N := 8) κ dX2_isAtKerb_1 rfl inX2 0 rfl rfl rfl 1 (by decide) tw_fl_X2_15 rfl ?_
  refine gw_iload_n (pc' := 5) κ dX2_isAtKerb_4 rfl 2 rfl rfl ?_
  obtain ⟨hb_1, h⟩ := h
  refine gb_iald (pc' := 6) κ dX2_isAtKerb_5 rfl 0 2 rfl rfl hb_1 ?_
  refine gw_iload_n (pc' := 7) κ dX2_isAtKerb_6 rfl 3 rfl rfl ?_
  refine gw_icmp_le (pc' := 10) (tgt := 12) κ dX2_isAtKerb_7 rfl (by decide) (fun hc_2 => ?_) (fun hc_2 => ?_)
  · have h := h.1 hc_2
    refine gw_aload_n (pc' := 13) κ dX2_isAtKerb_12 rfl 0 rfl rfl ?_
    refine gb_get (pc' := 16) (C := RX2) (T := TX2) (N := 8) κ dX2_isAtKerb_13 rfl inX2 0 rfl rfl rfl 2 (by decide) tw_fl_X2_18 rfl ?_
    refine gw_iload_n (pc' := 17) κ dX2_isAtKerb_16 rfl 2 rfl rfl ?_
    obtain ⟨hb_3, h⟩ := h
    refine gb_iald (pc' := 18) κ dX2_isAtKerb_17 rfl 0 3 rfl rfl hb_3 ?_
    refine gw_istore (pc' := 20) κ dX2_isAtKerb_18 rfl (by decide) (lv' := [(4, .int (o0.vn x2.toNatClampNeg)), (0, .ref (qa 0)), (1, .ref (qb 0)), (2, .int x2), (3, .int x3)]) rfl ?_
    refine gw_iload (pc' := 22) κ dX2_isAtKerb_20 rfl 0 rfl ?_
    refine gb_callSN (rest := []) κ (c_X5_isVan  (o0.vn x2.toNatClampNeg) h) ⟨rfl, rfl, Nat.le_of_ble_eq_true rfl, Nat.le_of_ble_eq_true rfl⟩ κ.2.2.2.1.2.2.2.2.2.2.2.2.1 tw_st_X5_isVan tw_co_X5_isVan tw_in_X5 hy_X5_isVan rfl (Nat.le_of_ble_eq_true rfl) rfl dX2_isAtKerb_22 [] rfl (by decide) (fun _ => Nat.le_of_ble_eq_true rfl) ⟨Nat.le_of_ble_eq_true rfl, Nat.le_of_ble_eq_true rfl⟩ (fun v u hv => ?_)
    obtain ⟨r_4, rfl, h⟩ := hv
    refine gw_nf (ws' := (wfl [cPl qa cI o0.od o0.rd o0.vn o0.pn o0.ao o0.sr o0.sp o0.wt, cSt qb cI o1.se o1.la o1.de o1.le o1.sa o1.fl o1.ar o1.dr o1.pe o1.ri])) (lv' := [(4, .int (o0.vn x2.toNatClampNeg)), (0, .ref (qa 0)), (1, .ref (qb 0)), (2, .int x2), (3, .int x3)]) (st' := [.int r_4]) (pc' := 25) (ce' := 0) (sl' := 0) rfl rfl rfl rfl rfl rfl ?_
    refine gw_if_eq (pc' := 28) (tgt := 45) κ dX2_isAtKerb_25 rfl (by decide) (fun hc_5 => ?_) (fun hc_5 => ?_)
    · have h := h.1 hc_5
      refine gw_iload_n (pc' := 46) κ dX2_isAtKerb_45 rfl 4 rfl rfl ?_
      refine gw_aload_n (pc' := 47) κ dX2_isAtKerb_46 rfl 1 rfl rfl ?_
      refine gb_get (pc' := 50) (C := RX2) (T := TX2) (N := 8) κ dX2_isAtKerb_47 rfl inX2 0 rfl rfl rfl 1 (by decide) tw_fl_X2_15 rfl ?_
      refine gw_iload_n (pc' := 51) κ dX2_isAtKerb_50 rfl 3 rfl rfl ?_
      obtain ⟨hb_6, h⟩ := h
      refine gb_iald (pc' := 52) κ dX2_isAtKerb_51 rfl 0 2 rfl rfl hb_6 ?_
      refine gw_isub (pc' := 53) κ dX2_isAtKerb_52 rfl  ?_
      refine gw_aload_n (pc' := 54) κ dX2_isAtKerb_53 rfl 2 rfl rfl ?_
      refine gb_get (pc' := 57) (C := RX3) (T := TX3) (N := 10) κ dX2_isAtKerb_54 rfl inX3 1 rfl rfl rfl 0 (by decide) tw_fl_X2_78 rfl ?_
      refine gw_iconst (pc' := 58) (v := 1) κ dX2_isAtKerb_57 rfl (by decide) ?_
      refine gb_iald (pc' := 59) κ dX2_isAtKerb_58 rfl 1 1 rfl rfl (by unfold vp_in; decide) ?_
      refine gw_icmp_gt (pc' := 62) (tgt := 66) κ dX2_isAtKerb_59 rfl (by decide) (fun hc_8 => ?_) (fun hc_8 => ?_)
      · have h := h.1 hc_8
        refine gw_iconst (pc' := 67) (v := 0) κ dX2_isAtKerb_66 rfl (by decide) ?_
        exact gw_zret κ dX2_isAtKerb_67 () rfl rfl ⟨_, rfl, h⟩
      · have h := h.2 hc_8
        refine gw_iconst (pc' := 63) (v := 1) κ dX2_isAtKerb_62 rfl (by decide) ?_
        refine gw_goto (tgt := 67) κ dX2_isAtKerb_63 (by decide) ?_
        exact gw_zret κ dX2_isAtKerb_67 () rfl rfl ⟨_, rfl, h⟩
    · have h := h.2 hc_5
      refine gw_aload_n (pc' := 29) κ dX2_isAtKerb_28 rfl 2 rfl rfl ?_
      refine gb_get (pc' := 32) (C := RX3) (T := TX3) (N := 10) κ dX2_isAtKerb_29 rfl inX3 1 rfl rfl rfl 3 (by decide) tw_fl_X2_71 rfl ?_
      refine gw_iload (pc' := 34) κ dX2_isAtKerb_32 rfl 0 rfl ?_
      obtain ⟨hb_9, h⟩ := h
      refine gb_iald (pc' := 35) κ dX2_isAtKerb_34 rfl 1 4 rfl rfl hb_9 ?_
      refine gw_iload_n (pc' := 36) κ dX2_isAtKerb_35 rfl 4 rfl rfl ?_
      refine gw_icmp_le (pc' := 39) (tgt := 43) κ dX2_isAtKerb_36 rfl (by decide) (fun hc_10 => ?_) (fun hc_10 => ?_)
      · have h := h.1 hc_10
        refine gw_iconst (pc' := 44) (v := 0) κ dX2_isAtKerb_43 rfl (by decide) ?_
        exact gw_zret κ dX2_isAtKerb_44 () rfl rfl ⟨_, rfl, h⟩
      · have h := h.2 hc_10
        refine gw_iconst (pc' := 40) (v := 1) κ dX2_isAtKerb_39 rfl (by decide) ?_
        refine gw_goto (tgt := 44) κ dX2_isAtKerb_40 (by decide) ?_
        exact gw_zret κ dX2_isAtKerb_44 () rfl rfl ⟨_, rfl, h⟩
  · have h := h.2 hc_2
    refine gw_iconst (pc' := 11) (v := 0) κ dX2_isAtKerb_10 rfl (by decide) ?_
    exact gw_zret κ dX2_isAtKerb_11 () rfl rfl ⟨_, rfl, h⟩
theorem hy_X5_kerb : g_hy yX5_kerb 1 := by decide +kernel
set_option maxHeartbeats 4000000 in
set_option maxRecDepth 100000 in
theorem k_X5_kerb_18 {zp : Program} {l : Launch} {ze : Env} {zs : State} {zm : MethodId} {za : Array Value} {zb : List Frame} {zt : Method} {zc : Code} {D : va_G} {cI cR : ClassId} {A : Nat → Prop} (κ : KC zp zs zm za zt zc cX5_kerb 4 RX5 D cI cR A (some .int)) (qx : Nat → Nat) (qn : Nat → Nat) (qp : Nat → Nat) (qw : Nat → Nat) (qt : Nat → Nat) (qu : Nat → Nat) (qd : Nat → Nat) (qh : Nat → Nat) (ql : Nat → Nat) (qs : Nat → Nat → Nat) (P : Int32 → Prop) (now : StT) (pln : PlT) (x1 : Int32) : ∀ (n : Nat) (v2 : Int32) (v3 : Int32), wp_X5_kerb_18 P now pln x1 n v2 v3 → GM zp l ze ({ frames := 3, cells := 0, slots := 0, locals := 66 } : Room) zs zm za zb zt zc D A 4 (pI (fun (r : Int32) (_ : Unit) => P r)) (fun _ : Unit => (wfl [cX qx qn qp qw qt qu qd qh ql, cSt qn cI now.se now.la now.de now.le now.sa now.fl now.ar now.dr now.pe now.ri, cPl qp cI pln.od pln.rd pln.vn pln.pn pln.ao pln.sr pln.sp pln.wt])) 0 0 0 0 (wfl [cX qx qn qp qw qt qu qd qh ql, cSt qn cI now.se now.la now.de now.le now.sa now.fl now.ar now.dr now.pe now.ri, cPl qp cI pln.od pln.rd pln.vn pln.pn pln.ao pln.sr pln.sp pln.wt]) [(0, .ref (qx 0)), (1, .int x1), (2, .int v2), (3, .int v3)] 18 [] := by
  intro n18
  induction n18 with
  | zero => intro v2 v3 h; exact (show False from h).elim
  | succ n18 ih18 =>
    intro v2 v3 h
    have h : wp_X5_kerb_18F P now pln x1 (wp_X5_kerb_18 P now pln x1 n18) v2 v3 := h
    unfold wp_X5_kerb_18F at h
    refine gw_iload_n (pc' := 19) κ dX5_kerb_18 rfl 3 rfl rfl ?_
    refine gw_aload_n (pc' := 20) κ dX5_kerb_19 rfl 0 rfl rfl ?_
    refine gb_get (pc' := 23) (C := RX5) (T := TX5) (N := 8) κ dX5_kerb_20 rfl inX5 0 rfl rfl rfl 0 (by decide) tw_fl_X5_10 rfl ?_
    refine gb_get (pc' := 26) (C := RX3) (T := TX3) (N := 10) κ dX5_kerb_23 rfl inX3 1 rfl rfl rfl 9 (by decide) tw_fl_X5_105 rfl ?_
    refine gw_icmp_ge (pc' := 29) (tgt := 63) κ dX5_kerb_26 rfl (by decide) (fun hc_3 => ?_) (fun hc_3 => ?_)
    · have h := h.1 hc_3
      refine gw_iload_n (pc' := 64) κ dX5_kerb_63 rfl 2 rfl rfl ?_
      exact gw_iret κ dX5_kerb_64 () rfl ⟨_, rfl, h⟩
    · have h := h.2 hc_3
      refine gw_aload_n (pc' := 30) κ dX5_kerb_29 rfl 0 rfl rfl ?_
      refine gb_get (pc' := 33) (C := RX5) (T := TX5) (N := 8) κ dX5_kerb_30 rfl inX5 0 rfl rfl rfl 1 (by decide) tw_fl_X5_19 rfl ?_
      refine gw_aload_n (pc' := 34) κ dX5_kerb_33 rfl 0 rfl rfl ?_
      refine gb_get (pc' := 37) (C := RX5) (T := TX5) (N := 8) κ dX5_kerb_34 rfl inX5 0 rfl rfl rfl 0 (by decide) tw_fl_X5_10 rfl ?_
      refine gw_iload_n (pc' := 38) κ dX5_kerb_37 rfl 3 rfl rfl ?_
      refine gw_iload_n (pc' := 39) κ dX5_kerb_38 rfl 1 rfl rfl ?_
      refine gb_callV (ci := 2) (qb := 2) (rest := []) κ (c_X2_isAtKerb qp qn pln now v3 x1 h) ⟨rfl, rfl, Nat.le_of_ble_eq_true rfl, Nat.le_of_ble_eq_true rfl⟩ tw_ml_X5_227 tw_im_X2_isAtKerb tw_se_X2_isAtKerb tw_co_X2_isAtKerb tw_in_X2 hy_X2_isAtKerb rfl rfl rfl rfl rfl (Nat.le_of_ble_eq_true rfl) rfl dX5_kerb_39 [2, 1] rfl (by decide) (fun _ => Nat.le_of_ble_eq_true rfl) ⟨Nat.le_of_ble_eq_true rfl, Nat.le_of_ble_eq_true rfl⟩ (fun v u hv => ?_)
      obtain ⟨r_4, rfl, h⟩ := hv
      refine gw_nf (ws' := (wfl [cX qx qn qp qw qt qu qd qh ql, cSt qn cI now.se now.la now.de now.le now.sa now.fl now.ar now.dr now.pe now.ri, cPl qp cI pln.od pln.rd pln.vn pln.pn pln.ao pln.sr pln.sp pln.wt])) (lv' := [(0, .ref (qx 0)), (1, .int x1), (2, .int v2), (3, .int v3)]) (st' := [.int r_4]) (pc' := 42) (ce' := 0) (sl' := 0) rfl rfl rfl rfl rfl rfl ?_
      refine gw_if_eq (pc' := 45) (tgt := 57) κ dX5_kerb_42 rfl (by decide) (fun hc_5 => ?_) (fun hc_5 => ?_)
      · have h := h.1 hc_5
        refine gw_iinc (pc' := 60) κ dX5_kerb_57 rfl 3 rfl (v := (v3 + 1)) rfl (by decide) (lv' := [(3, .int (v3 + 1)), (0, .ref (qx 0)), (1, .int x1), (2, .int v2)]) rfl ?_
        refine gw_goto (tgt := 18) κ dX5_kerb_60 (by decide) ?_
        refine gw_lv (lv' := [(0, .ref (qx 0)), (1, .int x1), (2, .int v2), (3, .int (v3 + 1))]) [1, 2, 3, 0] rfl ?_
        exact ih18 v2 (v3 + 1) h
      · have h := h.2 hc_5
        refine gw_iload_n (pc' := 46) κ dX5_kerb_45 rfl 2 rfl rfl ?_
        refine gw_aload_n (pc' := 47) κ dX5_kerb_46 rfl 0 rfl rfl ?_
        refine gb_get (pc' := 50) (C := RX5) (T := TX5) (N := 8) κ dX5_kerb_47 rfl inX5 0 rfl rfl rfl 0 (by decide) tw_fl_X5_10 rfl ?_
        refine gb_get (pc' := 53) (C := RX3) (T := TX3) (N := 10) κ dX5_kerb_50 rfl inX3 1 rfl rfl rfl 8 (by decide) tw_fl_X5_148 rfl ?_
        refine gw_iload_n (pc' := 54) κ dX5_kerb_53 rfl 3 rfl rfl ?_
        obtain ⟨hb_6, h⟩ := h
        refine gb_iald (pc' := 55) κ dX5_kerb_54 rfl 1 9 rfl rfl hb_6 ?_
        refine gw_iadd (pc' := 56) κ dX5_kerb_55 rfl  ?_
        refine gw_istore_n (pc' := 57) κ dX5_kerb_56 rfl rfl (by decide) (lv' := [(2, .int (v2 + (now.pe v3.toNatClampNeg))), (0, .ref (qx 0)), (1, .int x1), (3, .int v3)]) rfl ?_
        refine gw_iinc (pc' := 60) κ dX5_kerb_57 rfl 3 rfl (v := (v3 + 1)) rfl (by decide) (lv' := [(3, .int (v3 + 1)), (2, .int (v2 + (now.pe v3.toNatClampNeg))), (0, .ref (qx 0)), (1, .int x1)]) rfl ?_
        refine gw_goto (tgt := 18) κ dX5_kerb_60 (by decide) ?_
        refine gw_lv (lv' := [(0, .ref (qx 0)), (1, .int x1), (2, .int (v2 + (now.pe v3.toNatClampNeg))), (3, .int (v3 + 1))]) [2, 3, 1, 0] rfl ?_
        exact ih18 (v2 + (now.pe v3.toNatClampNeg)) (v3 + 1) h
set_option maxHeartbeats 4000000 in
set_option maxRecDepth 100000 in
theorem c_X5_kerb {l : Launch} {D : va_G} {cI cR : ClassId}  (qx : Nat → Nat) (qn : Nat → Nat) (qp : Nat → Nat) (qw : Nat → Nat) (qt : Nat → Nat) (qu : Nat → Nat) (qd : Nat → Nat) (qh : Nat → Nat) (ql : Nat → Nat) (qs : Nat → Nat → Nat) {P : Int32 → Prop} (now : StT) (pln : PlT) (x1 : Int32) (h : wp_X5_kerb P now pln x1) : CT l D cI cR yX5_kerb cX5_kerb 4 (some .int) ({ frames := 3, cells := 0, slots := 0, locals := 66 } : Room) [.ref (qx 0), .int x1] (wfl [cX qx qn qp qw qt qu qd qh ql, cSt qn cI now.se now.la now.de now.le now.sa now.fl now.ar now.dr now.pe now.ri, cPl qp cI pln.od pln.rd pln.vn pln.pn pln.ao pln.sr pln.sp pln.wt]) (fun _ : Unit => (wfl [cX qx qn qp qw qt qu qd qh ql, cSt qn cI now.se now.la now.de now.le now.sa now.fl now.ar now.dr now.pe now.ri, cPl qp cI pln.od pln.rd pln.vn pln.pn pln.ao pln.sr pln.sp pln.wt])) (pI (fun (r : Int32) (_ : Unit) => P r)) 0 0 := by
  refine ct_of RX5 rfl (by decide +kernel) (Nat.le_of_ble_eq_true rfl) (fun zp ze zs zm zb zt zc A hin κ => ?_)
  unfold wp_X5_kerb at h
  refine gw_nf (lv' := [(0, .ref (qx 0)), (1, .int x1)]) (pc' := 0) (st' := []) (ce' := 0) (sl' := 0) rfl rfl rfl rfl rfl rfl ?_
  refine gw_iload_n (pc' := 1) κ dX5_kerb_0 rfl 1 rfl rfl ?_
  refine gw_iconst (pc' := 2) (v := 0) κ dX5_kerb_1 rfl (by decide) ?_
  refine gw_sipush (pc' := 5) (v := 3000) κ dX5_kerb_2 rfl (by decide) ?_
  refine gb_callS (rest := []) κ (c_X5_isIn  x1 (0 : Int32) (3000 : Int32) h) ⟨rfl, rfl, Nat.le_of_ble_eq_true rfl, Nat.le_of_ble_eq_true rfl⟩ tw_ml_X5_54 tw_st_X5_isIn tw_co_X5_isIn tw_in_X5 hy_X5_isIn rfl (Nat.le_of_ble_eq_true rfl) rfl dX5_kerb_5 [] rfl (by decide) (fun _ => Nat.le_of_ble_eq_true rfl) ⟨Nat.le_of_ble_eq_true rfl, Nat.le_of_ble_eq_true rfl⟩ (fun v u hv => ?_)
  obtain ⟨r_1, rfl, h⟩ := hv
  refine gw_nf (ws' := (wfl [cX qx qn qp qw qt qu qd qh ql, cSt qn cI now.se now.la now.de now.le now.sa now.fl now.ar now.dr now.pe now.ri, cPl qp cI pln.od pln.rd pln.vn pln.pn pln.ao pln.sr pln.sp pln.wt])) (lv' := [(0, .ref (qx 0)), (1, .int x1)]) (st' := [.int r_1]) (pc' := 8) (ce' := 0) (sl' := 0) rfl rfl rfl rfl rfl rfl ?_
  refine gw_if_ne (pc' := 11) (tgt := 14) κ dX5_kerb_8 rfl (by decide) (fun hc_2 => ?_) (fun hc_2 => ?_)
  · have h := h.1 hc_2
    refine gw_iconst (pc' := 15) (v := 0) κ dX5_kerb_14 rfl (by decide) ?_
    refine gw_istore_n (pc' := 16) κ dX5_kerb_15 rfl rfl (by decide) (lv' := [(2, .int (0 : Int32)), (0, .ref (qx 0)), (1, .int x1)]) rfl ?_
    refine gw_iconst (pc' := 17) (v := 0) κ dX5_kerb_16 rfl (by decide) ?_
    refine gw_istore_n (pc' := 18) κ dX5_kerb_17 rfl rfl (by decide) (lv' := [(3, .int (0 : Int32)), (2, .int (0 : Int32)), (0, .ref (qx 0)), (1, .int x1)]) rfl ?_
    obtain ⟨m18, h⟩ := h
    refine gw_lv (lv' := [(0, .ref (qx 0)), (1, .int x1), (2, .int (0 : Int32)), (3, .int (0 : Int32))]) [2, 3, 1, 0] rfl ?_
    exact k_X5_kerb_18 κ qx qn qp qw qt qu qd qh ql qs P now pln x1 m18 (0 : Int32) (0 : Int32) h
  · have h := h.2 hc_2
    refine gw_bipush (pc' := 13) (v := -102) κ dX5_kerb_11 rfl (by decide) ?_
    exact gw_iret κ dX5_kerb_13 () rfl ⟨_, rfl, h⟩
theorem hy_X5_fullest : g_hy yX5_fullest 0 := by decide +kernel
set_option maxHeartbeats 4000000 in
set_option maxRecDepth 100000 in
theorem k_X5_fullest_7 {zp : Program} {l : Launch} {ze : Env} {zs : State} {zm : MethodId} {za : Array Value} {zb : List Frame} {zt : Method} {zc : Code} {D : va_G} {cI cR : ClassId} {A : Nat → Prop} (κ : KC zp zs zm za zt zc cX5_fullest 4 RX5 D cI cR A (some .int)) (qx : Nat → Nat) (qn : Nat → Nat) (qp : Nat → Nat) (qw : Nat → Nat) (qt : Nat → Nat) (qu : Nat → Nat) (qd : Nat → Nat) (qh : Nat → Nat) (ql : Nat → Nat) (qs : Nat → Nat → Nat) (P : Int32 → Prop) (pln : PlT) : ∀ (n : Nat) (v1 : Int32) (v2 : Int32) (v3 : Int32), wp_X5_fullest_7 P pln n v1 v2 v3 → GM zp l ze ({ frames := 0, cells := 0, slots := 0, locals := 0 } : Room) zs zm za zb zt zc D A 4 (pI (fun (r : Int32) (_ : Unit) => P r)) (fun _ : Unit => (wfl [cX qx qn qp qw qt qu qd qh ql, cPl qp cI pln.od pln.rd pln.vn pln.pn pln.ao pln.sr pln.sp pln.wt])) 0 0 0 0 (wfl [cX qx qn qp qw qt qu qd qh ql, cPl qp cI pln.od pln.rd pln.vn pln.pn pln.ao pln.sr pln.sp pln.wt]) [(0, .ref (qx 0)), (1, .int v1), (2, .int v2), (3, .int v3)] 7 [] := by
  intro n7
  induction n7 with
  | zero => intro v1 v2 v3 h; exact (show False from h).elim
  | succ n7 ih7 =>
    intro v1 v2 v3 h
    have h : wp_X5_fullest_7F P pln (wp_X5_fullest_7 P pln n7) v1 v2 v3 := h
    unfold wp_X5_fullest_7F at h
    refine gw_iload_n (pc' := 8) κ dX5_fullest_7 rfl 3 rfl rfl ?_
    refine gw_bipush (pc' := 10) (v := 8) κ dX5_fullest_8 rfl (by decide) ?_
    refine gw_icmp_ge (pc' := 13) (tgt := 44) κ dX5_fullest_10 rfl (by decide) (fun hc_1 => ?_) (fun hc_1 => ?_)
    · have h := h.1 hc_1
      refine gw_iload_n (pc' := 45) κ dX5_fullest_44 rfl 1 rfl rfl ?_
      exact gw_iret κ dX5_fullest_45 () rfl ⟨_, rfl, h⟩
    · have h := h.2 hc_1
      refine gw_aload_n (pc' := 14) κ dX5_fullest_13 rfl 0 rfl rfl ?_
      refine gb_get (pc' := 17) (C := RX5) (T := TX5) (N := 8) κ dX5_fullest_14 rfl inX5 0 rfl rfl rfl 1 (by decide) tw_fl_X5_19 rfl ?_
      refine gb_get (pc' := 20) (C := RX2) (T := TX2) (N := 8) κ dX5_fullest_17 rfl inX2 1 rfl rfl rfl 3 (by decide) tw_fl_X5_167 rfl ?_
      refine gw_iload_n (pc' := 21) κ dX5_fullest_20 rfl 3 rfl rfl ?_
      obtain ⟨hb_2, h⟩ := h
      refine gb_iald (pc' := 22) κ dX5_fullest_21 rfl 1 4 rfl rfl hb_2 ?_
      refine gw_iload_n (pc' := 23) κ dX5_fullest_22 rfl 2 rfl rfl ?_
      refine gw_icmp_le (pc' := 26) (tgt := 38) κ dX5_fullest_23 rfl (by decide) (fun hc_3 => ?_) (fun hc_3 => ?_)
      · have h := h.1 hc_3
        refine gw_iinc (pc' := 41) κ dX5_fullest_38 rfl 3 rfl (v := (v3 + 1)) rfl (by decide) (lv' := [(3, .int (v3 + 1)), (0, .ref (qx 0)), (1, .int v1), (2, .int v2)]) rfl ?_
        refine gw_goto (tgt := 7) κ dX5_fullest_41 (by decide) ?_
        refine gw_lv (lv' := [(0, .ref (qx 0)), (1, .int v1), (2, .int v2), (3, .int (v3 + 1))]) [1, 2, 3, 0] rfl ?_
        exact ih7 v1 v2 (v3 + 1) h
      · have h := h.2 hc_3
        refine gw_iload_n (pc' := 27) κ dX5_fullest_26 rfl 3 rfl rfl ?_
        refine gw_istore_n (pc' := 28) κ dX5_fullest_27 rfl rfl (by decide) (lv' := [(1, .int v3), (0, .ref (qx 0)), (2, .int v2), (3, .int v3)]) rfl ?_
        refine gw_aload_n (pc' := 29) κ dX5_fullest_28 rfl 1 rfl rfl ?_
        refine gb_get (pc' := 32) (C := RX5) (T := TX5) (N := 8) κ dX5_fullest_29 rfl inX5 0 rfl rfl rfl 1 (by decide) tw_fl_X5_19 rfl ?_
        refine gb_get (pc' := 35) (C := RX2) (T := TX2) (N := 8) κ dX5_fullest_32 rfl inX2 1 rfl rfl rfl 3 (by decide) tw_fl_X5_167 rfl ?_
        refine gw_iload_n (pc' := 36) κ dX5_fullest_35 rfl 3 rfl rfl ?_
        obtain ⟨hb_4, h⟩ := h
        refine gb_iald (pc' := 37) κ dX5_fullest_36 rfl 1 4 rfl rfl hb_4 ?_
        refine gw_istore_n (pc' := 38) κ dX5_fullest_37 rfl rfl (by decide) (lv' := [(2, .int (pln.pn v3.toNatClampNeg)), (1, .int v3), (0, .ref (qx 0)), (3, .int v3)]) rfl ?_
        refine gw_iinc (pc' := 41) κ dX5_fullest_38 rfl 3 rfl (v := (v3 + 1)) rfl (by decide) (lv' := [(3, .int (v3 + 1)), (2, .int (pln.pn v3.toNatClampNeg)), (1, .int v3), (0, .ref (qx 0))]) rfl ?_
        refine gw_goto (tgt := 7) κ dX5_fullest_41 (by decide) ?_
        refine gw_lv (lv' := [(0, .ref (qx 0)), (1, .int v3), (2, .int (pln.pn v3.toNatClampNeg)), (3, .int (v3 + 1))]) [3, 2, 1, 0] rfl ?_
        exact ih7 v3 (pln.pn v3.toNatClampNeg) (v3 + 1) h
set_option maxHeartbeats 4000000 in
set_option maxRecDepth 100000 in
theorem c_X5_fullest {l : Launch} {D : va_G} {cI cR : ClassId}  (qx : Nat → Nat) (qn : Nat → Nat) (qp : Nat → Nat) (qw : Nat → Nat) (qt : Nat → Nat) (qu : Nat → Nat) (qd : Nat → Nat) (qh : Nat → Nat) (ql : Nat → Nat) (qs : Nat → Nat → Nat) {P : Int32 → Prop} (pln : PlT) (h : wp_X5_fullest P pln) : CT l D cI cR yX5_fullest cX5_fullest 4 (some .int) ({ frames := 0, cells := 0, slots := 0, locals := 0 } : Room) [.ref (qx 0)] (wfl [cX qx qn qp qw qt qu qd qh ql, cPl qp cI pln.od pln.rd pln.vn pln.pn pln.ao pln.sr pln.sp pln.wt]) (fun _ : Unit => (wfl [cX qx qn qp qw qt qu qd qh ql, cPl qp cI pln.od pln.rd pln.vn pln.pn pln.ao pln.sr pln.sp pln.wt])) (pI (fun (r : Int32) (_ : Unit) => P r)) 0 0 := by
  refine ct_of RX5 rfl (by decide +kernel) (Nat.le_of_ble_eq_true rfl) (fun zp ze zs zm zb zt zc A hin κ => ?_)
  unfold wp_X5_fullest at h
  refine gw_nf (lv' := [(0, .ref (qx 0))]) (pc' := 0) (st' := []) (ce' := 0) (sl' := 0) rfl rfl rfl rfl rfl rfl ?_
  refine gw_bipush (pc' := 2) (v := -106) κ dX5_fullest_0 rfl (by decide) ?_
  refine gw_istore_n (pc' := 3) κ dX5_fullest_2 rfl rfl (by decide) (lv' := [(1, .int (-106 : Int32)), (0, .ref (qx 0))]) rfl ?_
  refine gw_iconst (pc' := 4) (v := 0) κ dX5_fullest_3 rfl (by decide) ?_
  refine gw_istore_n (pc' := 5) κ dX5_fullest_4 rfl rfl (by decide) (lv' := [(2, .int (0 : Int32)), (1, .int (-106 : Int32)), (0, .ref (qx 0))]) rfl ?_
  refine gw_iconst (pc' := 6) (v := 0) κ dX5_fullest_5 rfl (by decide) ?_
  refine gw_istore_n (pc' := 7) κ dX5_fullest_6 rfl rfl (by decide) (lv' := [(3, .int (0 : Int32)), (2, .int (0 : Int32)), (1, .int (-106 : Int32)), (0, .ref (qx 0))]) rfl ?_
  obtain ⟨m7, h⟩ := h
  refine gw_lv (lv' := [(0, .ref (qx 0)), (1, .int (-106 : Int32)), (2, .int (0 : Int32)), (3, .int (0 : Int32))]) [3, 2, 1, 0] rfl ?_
  exact k_X5_fullest_7 κ qx qn qp qw qt qu qd qh ql qs P pln m7 (-106 : Int32) (0 : Int32) (0 : Int32) h
theorem hy_X0_takeBack : g_hy yX0_takeBack 1 := by decide +kernel
set_option maxHeartbeats 4000000 in
set_option maxRecDepth 100000 in
theorem c_X0_takeBack {l : Launch} {D : va_G} {cI cR : ClassId}  (qa : Nat → Nat) (qb : Nat → Nat) (qas : Nat → Nat → Nat) {P : Int32 → (Nat → Int32) → (Nat → Int32) → (Nat → Int32) → (Nat → Int32) → (Nat → Int32) → (Nat → Int32) → (Nat → Int32) → (Nat → Int32) → (Nat → Int32) → Int32 → Prop} (o0 : HiT) (o1 : StT) (h : wp_X0_takeBack P o0 o1) : CT l D cI cR yX0_takeBack cX0_takeBack 2 none ({ frames := 2, cells := 0, slots := 0, locals := 61 } : Room) [.ref (qa 0), .ref (qb 0)] (wfl [cHi qa qas cR o0.ol o0.sz, cSt (qas 0) cI (o0.hs 0).se (o0.hs 0).la (o0.hs 0).de (o0.hs 0).le (o0.hs 0).sa (o0.hs 0).fl (o0.hs 0).ar (o0.hs 0).dr (o0.hs 0).pe (o0.hs 0).ri, cSt (qas 1) cI (o0.hs 1).se (o0.hs 1).la (o0.hs 1).de (o0.hs 1).le (o0.hs 1).sa (o0.hs 1).fl (o0.hs 1).ar (o0.hs 1).dr (o0.hs 1).pe (o0.hs 1).ri, cSt (qas 2) cI (o0.hs 2).se (o0.hs 2).la (o0.hs 2).de (o0.hs 2).le (o0.hs 2).sa (o0.hs 2).fl (o0.hs 2).ar (o0.hs 2).dr (o0.hs 2).pe (o0.hs 2).ri, cSt (qas 3) cI (o0.hs 3).se (o0.hs 3).la (o0.hs 3).de (o0.hs 3).le (o0.hs 3).sa (o0.hs 3).fl (o0.hs 3).ar (o0.hs 3).dr (o0.hs 3).pe (o0.hs 3).ri, cSt (qas 4) cI (o0.hs 4).se (o0.hs 4).la (o0.hs 4).de (o0.hs 4).le (o0.hs 4).sa (o0.hs 4).fl (o0.hs 4).ar (o0.hs 4).dr (o0.hs 4).pe (o0.hs 4).ri, cSt (qas 5) cI (o0.hs 5).se (o0.hs 5).la (o0.hs 5).de (o0.hs 5).le (o0.hs 5).sa (o0.hs 5).fl (o0.hs 5).ar (o0.hs 5).dr (o0.hs 5).pe (o0.hs 5).ri, cSt qb cI o1.se o1.la o1.de o1.le o1.sa o1.fl o1.ar o1.dr o1.pe o1.ri]) (fun u : Int32 × (Nat → Int32) × (Nat → Int32) × (Nat → Int32) × (Nat → Int32) × (Nat → Int32) × (Nat → Int32) × (Nat → Int32) × (Nat → Int32) × (Nat → Int32) × Int32 => (wfl [cHi qa qas cR o0.ol u.1, cSt (qas 0) cI (o0.hs 0).se (o0.hs 0).la (o0.hs 0).de (o0.hs 0).le (o0.hs 0).sa (o0.hs 0).fl (o0.hs 0).ar (o0.hs 0).dr (o0.hs 0).pe (o0.hs 0).ri, cSt (qas 1) cI (o0.hs 1).se (o0.hs 1).la (o0.hs 1).de (o0.hs 1).le (o0.hs 1).sa (o0.hs 1).fl (o0.hs 1).ar (o0.hs 1).dr (o0.hs 1).pe (o0.hs 1).ri, cSt (qas 2) cI (o0.hs 2).se (o0.hs 2).la (o0.hs 2).de (o0.hs 2).le (o0.hs 2).sa (o0.hs 2).fl (o0.hs 2).ar (o0.hs 2).dr (o0.hs 2).pe (o0.hs 2).ri, cSt (qas 3) cI (o0.hs 3).se (o0.hs 3).la (o0.hs 3).de (o0.hs 3).le (o0.hs 3).sa (o0.hs 3).fl (o0.hs 3).ar (o0.hs 3).dr (o0.hs 3).pe (o0.hs 3).ri, cSt (qas 4) cI (o0.hs 4).se (o0.hs 4).la (o0.hs 4).de (o0.hs 4).le (o0.hs 4).sa (o0.hs 4).fl (o0.hs 4).ar (o0.hs 4).dr (o0.hs 4).pe (o0.hs 4).ri, cSt (qas 5) cI (o0.hs 5).se (o0.hs 5).la (o0.hs 5).de (o0.hs 5).le (o0.hs 5).sa (o0.hs 5).fl (o0.hs 5).ar (o0.hs 5).dr (o0.hs 5).pe (o0.hs 5).ri, cSt qb cI u.2.1 u.2.2.1 u.2.2.2.1 u.2.2.2.2.1 u.2.2.2.2.2.1 u.2.2.2.2.2.2.1 u.2.2.2.2.2.2.2.1 u.2.2.2.2.2.2.2.2.1 u.2.2.2.2.2.2.2.2.2.1 u.2.2.2.2.2.2.2.2.2.2])) (pV (fun (u : Int32 × (Nat → Int32) × (Nat → Int32) × (Nat → Int32) × (Nat → Int32) × (Nat → Int32) × (Nat → Int32) × (Nat → Int32) × (Nat → Int32) × (Nat → Int32) × Int32) => P u.1 u.2.1 u.2.2.1 u.2.2.2.1 u.2.2.2.2.1 u.2.2.2.2.2.1 u.2.2.2.2.2.2.1 u.2.2.2.2.2.2.2.1 u.2.2.2.2.2.2.2.2.1 u.2.2.2.2.2.2.2.2.2.1 u.2.2.2.2.2.2.2.2.2.2)) 0 0 := by
  refine ct_of RX0 rfl (by decide +kernel) (Nat.le_of_ble_eq_true rfl) (fun zp ze zs zm zb zt zc A hin κ => ?_)
  unfold wp_X0_takeBack at h
  refine gw_nf (lv' := [(0, .ref (qa 0)), (1, .ref (qb 0))]) (pc' := 0) (st' := []) (ce' := 0) (sl' := 0) rfl rfl rfl rfl rfl rfl ?_
  refine gw_aload_n (pc' := 1) κ dX0_takeBack_0 rfl 0 rfl rfl ?_
  refine gb_get (pc' := 4) (C := RX0) (T := TX0) (N := 3) κ dX0_takeBack_1 rfl inX0 0 rfl rfl rfl 2 (by decide) tw_fl_X0_18 rfl ?_
  refine gw_if_gt (pc' := 7) (tgt := 8) κ dX0_takeBack_4 rfl (by decide) (fun hc_1 => ?_) (fun hc_1 => ?_)
  · have h := h.1 hc_1
    refine gw_aload_n (pc' := 9) κ dX0_takeBack_8 rfl 0 rfl rfl ?_
    refine gw_dup (pc' := 10) κ dX0_takeBack_9 rfl rfl ?_
    refine gb_get (pc' := 13) (C := RX0) (T := TX0) (N := 3) κ dX0_takeBack_10 rfl inX0 0 rfl rfl rfl 2 (by decide) tw_fl_X0_18 rfl ?_
    refine gw_iconst (pc' := 14) (v := 1) κ dX0_takeBack_13 rfl (by decide) ?_
    refine gw_isub (pc' := 15) κ dX0_takeBack_14 rfl  ?_
    refine gb_put (pc' := 18) (C := RX0) (T := TX0) (N := 3) (ty := .int) (bs' := [cHi qa qas cR o0.ol (o0.sz - (1 : Int32)), cSt (qas 0) cI (o0.hs 0).se (o0.hs 0).la (o0.hs 0).de (o0.hs 0).le (o0.hs 0).sa (o0.hs 0).fl (o0.hs 0).ar (o0.hs 0).dr (o0.hs 0).pe (o0.hs 0).ri, cSt (qas 1) cI (o0.hs 1).se (o0.hs 1).la (o0.hs 1).de (o0.hs 1).le (o0.hs 1).sa (o0.hs 1).fl (o0.hs 1).ar (o0.hs 1).dr (o0.hs 1).pe (o0.hs 1).ri, cSt (qas 2) cI (o0.hs 2).se (o0.hs 2).la (o0.hs 2).de (o0.hs 2).le (o0.hs 2).sa (o0.hs 2).fl (o0.hs 2).ar (o0.hs 2).dr (o0.hs 2).pe (o0.hs 2).ri, cSt (qas 3) cI (o0.hs 3).se (o0.hs 3).la (o0.hs 3).de (o0.hs 3).le (o0.hs 3).sa (o0.hs 3).fl (o0.hs 3).ar (o0.hs 3).dr (o0.hs 3).pe (o0.hs 3).ri, cSt (qas 4) cI (o0.hs 4).se (o0.hs 4).la (o0.hs 4).de (o0.hs 4).le (o0.hs 4).sa (o0.hs 4).fl (o0.hs 4).ar (o0.hs 4).dr (o0.hs 4).pe (o0.hs 4).ri, cSt (qas 5) cI (o0.hs 5).se (o0.hs 5).la (o0.hs 5).de (o0.hs 5).le (o0.hs 5).sa (o0.hs 5).fl (o0.hs 5).ar (o0.hs 5).dr (o0.hs 5).pe (o0.hs 5).ri, cSt qb cI o1.se o1.la o1.de o1.le o1.sa o1.fl o1.ar o1.dr o1.pe o1.ri]) κ dX0_takeBack_15 rfl inX0 tyX0 tyX0_ok nmX0 0 rfl rfl rfl 2 (by decide) tw_fl_X0_18 rfl (by decide +kernel) rfl rfl (Nat.le_of_ble_eq_true rfl) rfl ?_
    refine gw_aload_n (pc' := 19) κ dX0_takeBack_18 rfl 1 rfl rfl ?_
    refine gw_aload_n (pc' := 20) κ dX0_takeBack_19 rfl 0 rfl rfl ?_
    refine gb_get (pc' := 23) (C := RX0) (T := TX0) (N := 3) κ dX0_takeBack_20 rfl inX0 0 rfl rfl rfl 0 (by decide) tw_fl_X0_11 rfl ?_
    refine gw_aload_n (pc' := 24) κ dX0_takeBack_23 rfl 0 rfl rfl ?_
    refine gb_get (pc' := 27) (C := RX0) (T := TX0) (N := 3) κ dX0_takeBack_24 rfl inX0 0 rfl rfl rfl 1 (by decide) tw_fl_X0_22 rfl ?_
    refine gw_aload_n (pc' := 28) κ dX0_takeBack_27 rfl 0 rfl rfl ?_
    refine gb_get (pc' := 31) (C := RX0) (T := TX0) (N := 3) κ dX0_takeBack_28 rfl inX0 0 rfl rfl rfl 2 (by decide) tw_fl_X0_18 rfl ?_
    refine gw_iadd (pc' := 32) κ dX0_takeBack_31 rfl  ?_
    refine gw_bipush (pc' := 34) (v := 6) κ dX0_takeBack_32 rfl (by decide) ?_
    refine gw_irem (pc' := 35) κ dX0_takeBack_34 rfl (by decide) ?_
    obtain ⟨hb_2, h⟩ := h
    obtain ⟨j_4, j_4l, hj_3⟩ := vp_in_of hb_2 (by decide)
    have h := h j_4 j_4l hj_3
    rcases (show j_4 = 0 ∨ j_4 = 1 ∨ j_4 = 2 ∨ j_4 = 3 ∨ j_4 = 4 ∨ j_4 = 5 from by omega) with rfl | rfl | rfl | rfl | rfl | rfl
    · refine gb_aald (pc' := 36) κ dX0_takeBack_35 rfl 0 1 rfl rfl hb_2 (v := .ref (qas 0 0)) (by rw [hj_3, nI_clamp (by decide)]; rfl) ?_
      refine gb_callV (ci := 3) (qb := 7) (rest := []) κ (c_X3_copyFrom qb (qas 0) o1 (o0.hs 0) h) ⟨rfl, rfl, Nat.le_of_ble_eq_true rfl, Nat.le_of_ble_eq_true rfl⟩ tw_ml_X0_25 tw_im_X3_copyFrom tw_se_X3_copyFrom tw_co_X3_copyFrom tw_in_X3 hy_X3_copyFrom rfl rfl rfl rfl rfl (Nat.le_of_ble_eq_true rfl) rfl dX0_takeBack_36 [7, 1] rfl (by decide) (fun _ => Nat.le_of_ble_eq_true rfl) ⟨Nat.le_of_ble_eq_true rfl, Nat.le_of_ble_eq_true rfl⟩ (fun v u hv => ?_)
      obtain ⟨rfl, h⟩ := hv
      obtain ⟨se_25, la_26, de_27, le_28, sa_29, fl_30, ar_31, dr_32, pe_33, ri_34⟩ := u
      refine gw_nf (ws' := (wfl [cHi qa qas cR o0.ol (o0.sz - (1 : Int32)), cSt (qas 0) cI (o0.hs 0).se (o0.hs 0).la (o0.hs 0).de (o0.hs 0).le (o0.hs 0).sa (o0.hs 0).fl (o0.hs 0).ar (o0.hs 0).dr (o0.hs 0).pe (o0.hs 0).ri, cSt (qas 1) cI (o0.hs 1).se (o0.hs 1).la (o0.hs 1).de (o0.hs 1).le (o0.hs 1).sa (o0.hs 1).fl (o0.hs 1).ar (o0.hs 1).dr (o0.hs 1).pe (o0.hs 1).ri, cSt (qas 2) cI (o0.hs 2).se (o0.hs 2).la (o0.hs 2).de (o0.hs 2).le (o0.hs 2).sa (o0.hs 2).fl (o0.hs 2).ar (o0.hs 2).dr (o0.hs 2).pe (o0.hs 2).ri, cSt (qas 3) cI (o0.hs 3).se (o0.hs 3).la (o0.hs 3).de (o0.hs 3).le (o0.hs 3).sa (o0.hs 3).fl (o0.hs 3).ar (o0.hs 3).dr (o0.hs 3).pe (o0.hs 3).ri, cSt (qas 4) cI (o0.hs 4).se (o0.hs 4).la (o0.hs 4).de (o0.hs 4).le (o0.hs 4).sa (o0.hs 4).fl (o0.hs 4).ar (o0.hs 4).dr (o0.hs 4).pe (o0.hs 4).ri, cSt (qas 5) cI (o0.hs 5).se (o0.hs 5).la (o0.hs 5).de (o0.hs 5).le (o0.hs 5).sa (o0.hs 5).fl (o0.hs 5).ar (o0.hs 5).dr (o0.hs 5).pe (o0.hs 5).ri, cSt qb cI se_25 la_26 de_27 le_28 sa_29 fl_30 ar_31 dr_32 pe_33 ri_34])) (lv' := [(0, .ref (qa 0)), (1, .ref (qb 0))]) (st' := []) (pc' := 39) (ce' := 0) (sl' := 0) rfl rfl rfl rfl rfl rfl ?_
      exact gw_vret κ dX0_takeBack_39 ((o0.sz - (1 : Int32)), se_25, la_26, de_27, le_28, sa_29, fl_30, ar_31, dr_32, pe_33, ri_34) rfl ⟨rfl, h⟩
    · refine gb_aald (pc' := 36) κ dX0_takeBack_35 rfl 0 1 rfl rfl hb_2 (v := .ref (qas 1 0)) (by rw [hj_3, nI_clamp (by decide)]; rfl) ?_
      refine gb_callV (ci := 3) (qb := 7) (rest := []) κ (c_X3_copyFrom qb (qas 1) o1 (o0.hs 1) h) ⟨rfl, rfl, Nat.le_of_ble_eq_true rfl, Nat.le_of_ble_eq_true rfl⟩ tw_ml_X0_25 tw_im_X3_copyFrom tw_se_X3_copyFrom tw_co_X3_copyFrom tw_in_X3 hy_X3_copyFrom rfl rfl rfl rfl rfl (Nat.le_of_ble_eq_true rfl) rfl dX0_takeBack_36 [7, 2] rfl (by decide) (fun _ => Nat.le_of_ble_eq_true rfl) ⟨Nat.le_of_ble_eq_true rfl, Nat.le_of_ble_eq_true rfl⟩ (fun v u hv => ?_)
      obtain ⟨rfl, h⟩ := hv
      obtain ⟨se_35, la_36, de_37, le_38, sa_39, fl_40, ar_41, dr_42, pe_43, ri_44⟩ := u
      refine gw_nf (ws' := (wfl [cHi qa qas cR o0.ol (o0.sz - (1 : Int32)), cSt (qas 0) cI (o0.hs 0).se (o0.hs 0).la (o0.hs 0).de (o0.hs 0).le (o0.hs 0).sa (o0.hs 0).fl (o0.hs 0).ar (o0.hs 0).dr (o0.hs 0).pe (o0.hs 0).ri, cSt (qas 1) cI (o0.hs 1).se (o0.hs 1).la (o0.hs 1).de (o0.hs 1).le (o0.hs 1).sa (o0.hs 1).fl (o0.hs 1).ar (o0.hs 1).dr (o0.hs 1).pe (o0.hs 1).ri, cSt (qas 2) cI (o0.hs 2).se (o0.hs 2).la (o0.hs 2).de (o0.hs 2).le (o0.hs 2).sa (o0.hs 2).fl (o0.hs 2).ar (o0.hs 2).dr (o0.hs 2).pe (o0.hs 2).ri, cSt (qas 3) cI (o0.hs 3).se (o0.hs 3).la (o0.hs 3).de (o0.hs 3).le (o0.hs 3).sa (o0.hs 3).fl (o0.hs 3).ar (o0.hs 3).dr (o0.hs 3).pe (o0.hs 3).ri, cSt (qas 4) cI (o0.hs 4).se (o0.hs 4).la (o0.hs 4).de (o0.hs 4).le (o0.hs 4).sa (o0.hs 4).fl (o0.hs 4).ar (o0.hs 4).dr (o0.hs 4).pe (o0.hs 4).ri, cSt (qas 5) cI (o0.hs 5).se (o0.hs 5).la (o0.hs 5).de (o0.hs 5).le (o0.hs 5).sa (o0.hs 5).fl (o0.hs 5).ar (o0.hs 5).dr (o0.hs 5).pe (o0.hs 5).ri, cSt qb cI se_35 la_36 de_37 le_38 sa_39 fl_40 ar_41 dr_42 pe_43 ri_44])) (lv' := [(0, .ref (qa 0)), (1, .ref (qb 0))]) (st' := []) (pc' := 39) (ce' := 0) (sl' := 0) rfl rfl rfl rfl rfl rfl ?_
      exact gw_vret κ dX0_takeBack_39 ((o0.sz - (1 : Int32)), se_35, la_36, de_37, le_38, sa_39, fl_40, ar_41, dr_42, pe_43, ri_44) rfl ⟨rfl, h⟩
    · refine gb_aald (pc' := 36) κ dX0_takeBack_35 rfl 0 1 rfl rfl hb_2 (v := .ref (qas 2 0)) (by rw [hj_3, nI_clamp (by decide)]; rfl) ?_
      refine gb_callV (ci := 3) (qb := 7) (rest := []) κ (c_X3_copyFrom qb (qas 2) o1 (o0.hs 2) h) ⟨rfl, rfl, Nat.le_of_ble_eq_true rfl, Nat.le_of_ble_eq_true rfl⟩ tw_ml_X0_25 tw_im_X3_copyFrom tw_se_X3_copyFrom tw_co_X3_copyFrom tw_in_X3 hy_X3_copyFrom rfl rfl rfl rfl rfl (Nat.le_of_ble_eq_true rfl) rfl dX0_takeBack_36 [7, 3] rfl (by decide) (fun _ => Nat.le_of_ble_eq_true rfl) ⟨Nat.le_of_ble_eq_true rfl, Nat.le_of_ble_eq_true rfl⟩ (fun v u hv => ?_)
      obtain ⟨rfl, h⟩ := hv
      obtain ⟨se_45, la_46, de_47, le_48, sa_49, fl_50, ar_51, dr_52, pe_53, ri_54⟩ := u
      refine gw_nf (ws' := (wfl [cHi qa qas cR o0.ol (o0.sz - (1 : Int32)), cSt (qas 0) cI (o0.hs 0).se (o0.hs 0).la (o0.hs 0).de (o0.hs 0).le (o0.hs 0).sa (o0.hs 0).fl (o0.hs 0).ar (o0.hs 0).dr (o0.hs 0).pe (o0.hs 0).ri, cSt (qas 1) cI (o0.hs 1).se (o0.hs 1).la (o0.hs 1).de (o0.hs 1).le (o0.hs 1).sa (o0.hs 1).fl (o0.hs 1).ar (o0.hs 1).dr (o0.hs 1).pe (o0.hs 1).ri, cSt (qas 2) cI (o0.hs 2).se (o0.hs 2).la (o0.hs 2).de (o0.hs 2).le (o0.hs 2).sa (o0.hs 2).fl (o0.hs 2).ar (o0.hs 2).dr (o0.hs 2).pe (o0.hs 2).ri, cSt (qas 3) cI (o0.hs 3).se (o0.hs 3).la (o0.hs 3).de (o0.hs 3).le (o0.hs 3).sa (o0.hs 3).fl (o0.hs 3).ar (o0.hs 3).dr (o0.hs 3).pe (o0.hs 3).ri, cSt (qas 4) cI (o0.hs 4).se (o0.hs 4).la (o0.hs 4).de (o0.hs 4).le (o0.hs 4).sa (o0.hs 4).fl (o0.hs 4).ar (o0.hs 4).dr (o0.hs 4).pe (o0.hs 4).ri, cSt (qas 5) cI (o0.hs 5).se (o0.hs 5).la (o0.hs 5).de (o0.hs 5).le (o0.hs 5).sa (o0.hs 5).fl (o0.hs 5).ar (o0.hs 5).dr (o0.hs 5).pe (o0.hs 5).ri, cSt qb cI se_45 la_46 de_47 le_48 sa_49 fl_50 ar_51 dr_52 pe_53 ri_54])) (lv' := [(0, .ref (qa 0)), (1, .ref (qb 0))]) (st' := []) (pc' := 39) (ce' := 0) (sl' := 0) rfl rfl rfl rfl rfl rfl ?_
      exact gw_vret κ dX0_takeBack_39 ((o0.sz - (1 : Int32)), se_45, la_46, de_47, le_48, sa_49, fl_50, ar_51, dr_52, pe_53, ri_54) rfl ⟨rfl, h⟩
    · refine gb_aald (pc' := 36) κ dX0_takeBack_35 rfl 0 1 rfl rfl hb_2 (v := .ref (qas 3 0)) (by rw [hj_3, nI_clamp (by decide)]; rfl) ?_
      refine gb_callV (ci := 3) (qb := 7) (rest := []) κ (c_X3_copyFrom qb (qas 3) o1 (o0.hs 3) h) ⟨rfl, rfl, Nat.le_of_ble_eq_true rfl, Nat.le_of_ble_eq_true rfl⟩ tw_ml_X0_25 tw_im_X3_copyFrom tw_se_X3_copyFrom tw_co_X3_copyFrom tw_in_X3 hy_X3_copyFrom rfl rfl rfl rfl rfl (Nat.le_of_ble_eq_true rfl) rfl dX0_takeBack_36 [7, 4] rfl (by decide) (fun _ => Nat.le_of_ble_eq_true rfl) ⟨Nat.le_of_ble_eq_true rfl, Nat.le_of_ble_eq_true rfl⟩ (fun v u hv => ?_)
      obtain ⟨rfl, h⟩ := hv
      obtain ⟨se_55, la_56, de_57, le_58, sa_59, fl_60, ar_61, dr_62, pe_63, ri_64⟩ := u
      refine gw_nf (ws' := (wfl [cHi qa qas cR o0.ol (o0.sz - (1 : Int32)), cSt (qas 0) cI (o0.hs 0).se (o0.hs 0).la (o0.hs 0).de (o0.hs 0).le (o0.hs 0).sa (o0.hs 0).fl (o0.hs 0).ar (o0.hs 0).dr (o0.hs 0).pe (o0.hs 0).ri, cSt (qas 1) cI (o0.hs 1).se (o0.hs 1).la (o0.hs 1).de (o0.hs 1).le (o0.hs 1).sa (o0.hs 1).fl (o0.hs 1).ar (o0.hs 1).dr (o0.hs 1).pe (o0.hs 1).ri, cSt (qas 2) cI (o0.hs 2).se (o0.hs 2).la (o0.hs 2).de (o0.hs 2).le (o0.hs 2).sa (o0.hs 2).fl (o0.hs 2).ar (o0.hs 2).dr (o0.hs 2).pe (o0.hs 2).ri, cSt (qas 3) cI (o0.hs 3).se (o0.hs 3).la (o0.hs 3).de (o0.hs 3).le (o0.hs 3).sa (o0.hs 3).fl (o0.hs 3).ar (o0.hs 3).dr (o0.hs 3).pe (o0.hs 3).ri, cSt (qas 4) cI (o0.hs 4).se (o0.hs 4).la (o0.hs 4).de (o0.hs 4).le (o0.hs 4).sa (o0.hs 4).fl (o0.hs 4).ar (o0.hs 4).dr (o0.hs 4).pe (o0.hs 4).ri, cSt (qas 5) cI (o0.hs 5).se (o0.hs 5).la (o0.hs 5).de (o0.hs 5).le (o0.hs 5).sa (o0.hs 5).fl (o0.hs 5).ar (o0.hs 5).dr (o0.hs 5).pe (o0.hs 5).ri, cSt qb cI se_55 la_56 de_57 le_58 sa_59 fl_60 ar_61 dr_62 pe_63 ri_64])) (lv' := [(0, .ref (qa 0)), (1, .ref (qb 0))]) (st' := []) (pc' := 39) (ce' := 0) (sl' := 0) rfl rfl rfl rfl rfl rfl ?_
      exact gw_vret κ dX0_takeBack_39 ((o0.sz - (1 : Int32)), se_55, la_56, de_57, le_58, sa_59, fl_60, ar_61, dr_62, pe_63, ri_64) rfl ⟨rfl, h⟩
    · refine gb_aald (pc' := 36) κ dX0_takeBack_35 rfl 0 1 rfl rfl hb_2 (v := .ref (qas 4 0)) (by rw [hj_3, nI_clamp (by decide)]; rfl) ?_
      refine gb_callV (ci := 3) (qb := 7) (rest := []) κ (c_X3_copyFrom qb (qas 4) o1 (o0.hs 4) h) ⟨rfl, rfl, Nat.le_of_ble_eq_true rfl, Nat.le_of_ble_eq_true rfl⟩ tw_ml_X0_25 tw_im_X3_copyFrom tw_se_X3_copyFrom tw_co_X3_copyFrom tw_in_X3 hy_X3_copyFrom rfl rfl rfl rfl rfl (Nat.le_of_ble_eq_true rfl) rfl dX0_takeBack_36 [7, 5] rfl (by decide) (fun _ => Nat.le_of_ble_eq_true rfl) ⟨Nat.le_of_ble_eq_true rfl, Nat.le_of_ble_eq_true rfl⟩ (fun v u hv => ?_)
      obtain ⟨rfl, h⟩ := hv
      obtain ⟨se_65, la_66, de_67, le_68, sa_69, fl_70, ar_71, dr_72, pe_73, ri_74⟩ := u
      refine gw_nf (ws' := (wfl [cHi qa qas cR o0.ol (o0.sz - (1 : Int32)), cSt (qas 0) cI (o0.hs 0).se (o0.hs 0).la (o0.hs 0).de (o0.hs 0).le (o0.hs 0).sa (o0.hs 0).fl (o0.hs 0).ar (o0.hs 0).dr (o0.hs 0).pe (o0.hs 0).ri, cSt (qas 1) cI (o0.hs 1).se (o0.hs 1).la (o0.hs 1).de (o0.hs 1).le (o0.hs 1).sa (o0.hs 1).fl (o0.hs 1).ar (o0.hs 1).dr (o0.hs 1).pe (o0.hs 1).ri, cSt (qas 2) cI (o0.hs 2).se (o0.hs 2).la (o0.hs 2).de (o0.hs 2).le (o0.hs 2).sa (o0.hs 2).fl (o0.hs 2).ar (o0.hs 2).dr (o0.hs 2).pe (o0.hs 2).ri, cSt (qas 3) cI (o0.hs 3).se (o0.hs 3).la (o0.hs 3).de (o0.hs 3).le (o0.hs 3).sa (o0.hs 3).fl (o0.hs 3).ar (o0.hs 3).dr (o0.hs 3).pe (o0.hs 3).ri, cSt (qas 4) cI (o0.hs 4).se (o0.hs 4).la (o0.hs 4).de (o0.hs 4).le (o0.hs 4).sa (o0.hs 4).fl (o0.hs 4).ar (o0.hs 4).dr (o0.hs 4).pe (o0.hs 4).ri, cSt (qas 5) cI (o0.hs 5).se (o0.hs 5).la (o0.hs 5).de (o0.hs 5).le (o0.hs 5).sa (o0.hs 5).fl (o0.hs 5).ar (o0.hs 5).dr (o0.hs 5).pe (o0.hs 5).ri, cSt qb cI se_65 la_66 de_67 le_68 sa_69 fl_70 ar_71 dr_72 pe_73 ri_74])) (lv' := [(0, .ref (qa 0)), (1, .ref (qb 0))]) (st' := []) (pc' := 39) (ce' := 0) (sl' := 0) rfl rfl rfl rfl rfl rfl ?_
      exact gw_vret κ dX0_takeBack_39 ((o0.sz - (1 : Int32)), se_65, la_66, de_67, le_68, sa_69, fl_70, ar_71, dr_72, pe_73, ri_74) rfl ⟨rfl, h⟩
    · refine gb_aald (pc' := 36) κ dX0_takeBack_35 rfl 0 1 rfl rfl hb_2 (v := .ref (qas 5 0)) (by rw [hj_3, nI_clamp (by decide)]; rfl) ?_
      refine gb_callV (ci := 3) (qb := 7) (rest := []) κ (c_X3_copyFrom qb (qas 5) o1 (o0.hs 5) h) ⟨rfl, rfl, Nat.le_of_ble_eq_true rfl, Nat.le_of_ble_eq_true rfl⟩ tw_ml_X0_25 tw_im_X3_copyFrom tw_se_X3_copyFrom tw_co_X3_copyFrom tw_in_X3 hy_X3_copyFrom rfl rfl rfl rfl rfl (Nat.le_of_ble_eq_true rfl) rfl dX0_takeBack_36 [7, 6] rfl (by decide) (fun _ => Nat.le_of_ble_eq_true rfl) ⟨Nat.le_of_ble_eq_true rfl, Nat.le_of_ble_eq_true rfl⟩ (fun v u hv => ?_)
      obtain ⟨rfl, h⟩ := hv
      obtain ⟨se_75, la_76, de_77, le_78, sa_79, fl_80, ar_81, dr_82, pe_83, ri_84⟩ := u
      refine gw_nf (ws' := (wfl [cHi qa qas cR o0.ol (o0.sz - (1 : Int32)), cSt (qas 0) cI (o0.hs 0).se (o0.hs 0).la (o0.hs 0).de (o0.hs 0).le (o0.hs 0).sa (o0.hs 0).fl (o0.hs 0).ar (o0.hs 0).dr (o0.hs 0).pe (o0.hs 0).ri, cSt (qas 1) cI (o0.hs 1).se (o0.hs 1).la (o0.hs 1).de (o0.hs 1).le (o0.hs 1).sa (o0.hs 1).fl (o0.hs 1).ar (o0.hs 1).dr (o0.hs 1).pe (o0.hs 1).ri, cSt (qas 2) cI (o0.hs 2).se (o0.hs 2).la (o0.hs 2).de (o0.hs 2).le (o0.hs 2).sa (o0.hs 2).fl (o0.hs 2).ar (o0.hs 2).dr (o0.hs 2).pe (o0.hs 2).ri, cSt (qas 3) cI (o0.hs 3).se (o0.hs 3).la (o0.hs 3).de (o0.hs 3).le (o0.hs 3).sa (o0.hs 3).fl (o0.hs 3).ar (o0.hs 3).dr (o0.hs 3).pe (o0.hs 3).ri, cSt (qas 4) cI (o0.hs 4).se (o0.hs 4).la (o0.hs 4).de (o0.hs 4).le (o0.hs 4).sa (o0.hs 4).fl (o0.hs 4).ar (o0.hs 4).dr (o0.hs 4).pe (o0.hs 4).ri, cSt (qas 5) cI (o0.hs 5).se (o0.hs 5).la (o0.hs 5).de (o0.hs 5).le (o0.hs 5).sa (o0.hs 5).fl (o0.hs 5).ar (o0.hs 5).dr (o0.hs 5).pe (o0.hs 5).ri, cSt qb cI se_75 la_76 de_77 le_78 sa_79 fl_80 ar_81 dr_82 pe_83 ri_84])) (lv' := [(0, .ref (qa 0)), (1, .ref (qb 0))]) (st' := []) (pc' := 39) (ce' := 0) (sl' := 0) rfl rfl rfl rfl rfl rfl ?_
      exact gw_vret κ dX0_takeBack_39 ((o0.sz - (1 : Int32)), se_75, la_76, de_77, le_78, sa_79, fl_80, ar_81, dr_82, pe_83, ri_84) rfl ⟨rfl, h⟩
  · have h := h.2 hc_1
    exact gw_vret κ dX0_takeBack_7 (o0.sz, o1.se, o1.la, o1.de, o1.le, o1.sa, o1.fl, o1.ar, o1.dr, o1.pe, o1.ri) rfl ⟨rfl, h⟩
theorem hy_X5_undo : g_hy yX5_undo 0 := by decide +kernel
set_option maxHeartbeats 4000000 in
set_option maxRecDepth 100000 in
theorem c_X5_undo {l : Launch} {D : va_G} {cI cR : ClassId}  (qx : Nat → Nat) (qn : Nat → Nat) (qp : Nat → Nat) (qw : Nat → Nat) (qt : Nat → Nat) (qu : Nat → Nat) (qd : Nat → Nat) (qh : Nat → Nat) (ql : Nat → Nat) (qs : Nat → Nat → Nat) {P : Int32 → (Nat → Int32) → (Nat → Int32) → (Nat → Int32) → (Nat → Int32) → (Nat → Int32) → (Nat → Int32) → (Nat → Int32) → (Nat → Int32) → (Nat → Int32) → Int32 → (Nat → Int32) → (Nat → Int32) → (Nat → Int32) → (Nat → Int32) → (Nat → Int32) → Int32 → Int32 → Int32 → Int32 → Prop} (now : StT) (pln : PlT) (his : HiT) (h : wp_X5_undo P now pln his) : CT l D cI cR yX5_undo cX5_undo 1 (some .int) ({ frames := 6, cells := 0, slots := 0, locals := 140 } : Room) [.ref (qx 0)] (wfl [cX qx qn qp qw qt qu qd qh ql, cSt qn cI now.se now.la now.de now.le now.sa now.fl now.ar now.dr now.pe now.ri, cPl qp cI pln.od pln.rd pln.vn pln.pn pln.ao pln.sr pln.sp pln.wt, cHi qh qs cR his.ol his.sz, cSt (qs 0) cI (his.hs 0).se (his.hs 0).la (his.hs 0).de (his.hs 0).le (his.hs 0).sa (his.hs 0).fl (his.hs 0).ar (his.hs 0).dr (his.hs 0).pe (his.hs 0).ri, cSt (qs 1) cI (his.hs 1).se (his.hs 1).la (his.hs 1).de (his.hs 1).le (his.hs 1).sa (his.hs 1).fl (his.hs 1).ar (his.hs 1).dr (his.hs 1).pe (his.hs 1).ri, cSt (qs 2) cI (his.hs 2).se (his.hs 2).la (his.hs 2).de (his.hs 2).le (his.hs 2).sa (his.hs 2).fl (his.hs 2).ar (his.hs 2).dr (his.hs 2).pe (his.hs 2).ri, cSt (qs 3) cI (his.hs 3).se (his.hs 3).la (his.hs 3).de (his.hs 3).le (his.hs 3).sa (his.hs 3).fl (his.hs 3).ar (his.hs 3).dr (his.hs 3).pe (his.hs 3).ri, cSt (qs 4) cI (his.hs 4).se (his.hs 4).la (his.hs 4).de (his.hs 4).le (his.hs 4).sa (his.hs 4).fl (his.hs 4).ar (his.hs 4).dr (his.hs 4).pe (his.hs 4).ri, cSt (qs 5) cI (his.hs 5).se (his.hs 5).la (his.hs 5).de (his.hs 5).le (his.hs 5).sa (his.hs 5).fl (his.hs 5).ar (his.hs 5).dr (his.hs 5).pe (his.hs 5).ri]) (fun u : (Nat → Int32) × (Nat → Int32) × (Nat → Int32) × (Nat → Int32) × (Nat → Int32) × (Nat → Int32) × (Nat → Int32) × (Nat → Int32) × (Nat → Int32) × Int32 × (Nat → Int32) × (Nat → Int32) × (Nat → Int32) × (Nat → Int32) × (Nat → Int32) × Int32 × Int32 × Int32 × Int32 => (wfl [cX qx qn qp qw qt qu qd qh ql, cSt qn cI u.1 u.2.1 u.2.2.1 u.2.2.2.1 u.2.2.2.2.1 u.2.2.2.2.2.1 u.2.2.2.2.2.2.1 u.2.2.2.2.2.2.2.1 u.2.2.2.2.2.2.2.2.1 u.2.2.2.2.2.2.2.2.2.1, cPl qp cI u.2.2.2.2.2.2.2.2.2.2.1 u.2.2.2.2.2.2.2.2.2.2.2.1 u.2.2.2.2.2.2.2.2.2.2.2.2.1 u.2.2.2.2.2.2.2.2.2.2.2.2.2.1 u.2.2.2.2.2.2.2.2.2.2.2.2.2.2.1 u.2.2.2.2.2.2.2.2.2.2.2.2.2.2.2.1 u.2.2.2.2.2.2.2.2.2.2.2.2.2.2.2.2.1 u.2.2.2.2.2.2.2.2.2.2.2.2.2.2.2.2.2.1, cHi qh qs cR his.ol u.2.2.2.2.2.2.2.2.2.2.2.2.2.2.2.2.2.2, cSt (qs 0) cI (his.hs 0).se (his.hs 0).la (his.hs 0).de (his.hs 0).le (his.hs 0).sa (his.hs 0).fl (his.hs 0).ar (his.hs 0).dr (his.hs 0).pe (his.hs 0).ri, cSt (qs 1) cI (his.hs 1).se (his.hs 1).la (his.hs 1).de (his.hs 1).le (his.hs 1).sa (his.hs 1).fl (his.hs 1).ar (his.hs 1).dr (his.hs 1).pe (his.hs 1).ri, cSt (qs 2) cI (his.hs 2).se (his.hs 2).la (his.hs 2).de (his.hs 2).le (his.hs 2).sa (his.hs 2).fl (his.hs 2).ar (his.hs 2).dr (his.hs 2).pe (his.hs 2).ri, cSt (qs 3) cI (his.hs 3).se (his.hs 3).la (his.hs 3).de (his.hs 3).le (his.hs 3).sa (his.hs 3).fl (his.hs 3).ar (his.hs 3).dr (his.hs 3).pe (his.hs 3).ri, cSt (qs 4) cI (his.hs 4).se (his.hs 4).la (his.hs 4).de (his.hs 4).le (his.hs 4).sa (his.hs 4).fl (his.hs 4).ar (his.hs 4).dr (his.hs 4).pe (his.hs 4).ri, cSt (qs 5) cI (his.hs 5).se (his.hs 5).la (his.hs 5).de (his.hs 5).le (his.hs 5).sa (his.hs 5).fl (his.hs 5).ar (his.hs 5).dr (his.hs 5).pe (his.hs 5).ri])) (pI (fun (r : Int32) (u : (Nat → Int32) × (Nat → Int32) × (Nat → Int32) × (Nat → Int32) × (Nat → Int32) × (Nat → Int32) × (Nat → Int32) × (Nat → Int32) × (Nat → Int32) × Int32 × (Nat → Int32) × (Nat → Int32) × (Nat → Int32) × (Nat → Int32) × (Nat → Int32) × Int32 × Int32 × Int32 × Int32) => P r u.1 u.2.1 u.2.2.1 u.2.2.2.1 u.2.2.2.2.1 u.2.2.2.2.2.1 u.2.2.2.2.2.2.1 u.2.2.2.2.2.2.2.1 u.2.2.2.2.2.2.2.2.1 u.2.2.2.2.2.2.2.2.2.1 u.2.2.2.2.2.2.2.2.2.2.1 u.2.2.2.2.2.2.2.2.2.2.2.1 u.2.2.2.2.2.2.2.2.2.2.2.2.1 u.2.2.2.2.2.2.2.2.2.2.2.2.2.1 u.2.2.2.2.2.2.2.2.2.2.2.2.2.2.1 u.2.2.2.2.2.2.2.2.2.2.2.2.2.2.2.1 u.2.2.2.2.2.2.2.2.2.2.2.2.2.2.2.2.1 u.2.2.2.2.2.2.2.2.2.2.2.2.2.2.2.2.2.1 u.2.2.2.2.2.2.2.2.2.2.2.2.2.2.2.2.2.2)) 0 0 := by
  refine ct_of RX5 rfl (by decide +kernel) (Nat.le_of_ble_eq_true rfl) (fun zp ze zs zm zb zt zc A hin κ => ?_)
  unfold wp_X5_undo at h
  refine gw_nf (lv' := [(0, .ref (qx 0))]) (pc' := 0) (st' := []) (ce' := 0) (sl' := 0) rfl rfl rfl rfl rfl rfl ?_
  refine gw_aload_n (pc' := 1) κ dX5_undo_0 rfl 0 rfl rfl ?_
  refine gb_get (pc' := 4) (C := RX5) (T := TX5) (N := 8) κ dX5_undo_1 rfl inX5 0 rfl rfl rfl 6 (by decide) tw_fl_X5_46 rfl ?_
  refine gb_get (pc' := 7) (C := RX0) (T := TX0) (N := 3) κ dX5_undo_4 rfl inX0 3 rfl rfl rfl 2 (by decide) tw_fl_X5_224 rfl ?_
  refine gw_if_ne (pc' := 10) (tgt := 13) κ dX5_undo_7 rfl (by decide) (fun hc_1 => ?_) (fun hc_1 => ?_)
  · have h := h.1 hc_1
    refine gw_aload_n (pc' := 14) κ dX5_undo_13 rfl 0 rfl rfl ?_
    refine gb_get (pc' := 17) (C := RX5) (T := TX5) (N := 8) κ dX5_undo_14 rfl inX5 0 rfl rfl rfl 6 (by decide) tw_fl_X5_46 rfl ?_
    refine gw_aload_n (pc' := 18) κ dX5_undo_17 rfl 0 rfl rfl ?_
    refine gb_get (pc' := 21) (C := RX5) (T := TX5) (N := 8) κ dX5_undo_18 rfl inX5 0 rfl rfl rfl 0 (by decide) tw_fl_X5_10 rfl ?_
    refine gb_callV (ci := 0) (qb := 3) (rest := []) κ (c_X0_takeBack qh qn qs his now h) ⟨rfl, rfl, Nat.le_of_ble_eq_true rfl, Nat.le_of_ble_eq_true rfl⟩ tw_ml_X5_248 tw_im_X0_takeBack tw_se_X0_takeBack tw_co_X0_takeBack tw_in_X0 hy_X0_takeBack rfl rfl rfl rfl rfl (Nat.le_of_ble_eq_true rfl) rfl dX5_undo_21 [3, 4, 5, 6, 7, 8, 9, 1] rfl (by decide) (fun _ => Nat.le_of_ble_eq_true rfl) ⟨Nat.le_of_ble_eq_true rfl, Nat.le_of_ble_eq_true rfl⟩ (fun v u hv => ?_)
    obtain ⟨rfl, h⟩ := hv
    obtain ⟨sz_2, se_3, la_4, de_5, le_6, sa_7, fl_8, ar_9, dr_10, pe_11, ri_12⟩ := u
    refine gw_nf (ws' := (wfl [cX qx qn qp qw qt qu qd qh ql, cSt qn cI se_3 la_4 de_5 le_6 sa_7 fl_8 ar_9 dr_10 pe_11 ri_12, cPl qp cI pln.od pln.rd pln.vn pln.pn pln.ao pln.sr pln.sp pln.wt, cHi qh qs cR his.ol sz_2, cSt (qs 0) cI (his.hs 0).se (his.hs 0).la (his.hs 0).de (his.hs 0).le (his.hs 0).sa (his.hs 0).fl (his.hs 0).ar (his.hs 0).dr (his.hs 0).pe (his.hs 0).ri, cSt (qs 1) cI (his.hs 1).se (his.hs 1).la (his.hs 1).de (his.hs 1).le (his.hs 1).sa (his.hs 1).fl (his.hs 1).ar (his.hs 1).dr (his.hs 1).pe (his.hs 1).ri, cSt (qs 2) cI (his.hs 2).se (his.hs 2).la (his.hs 2).de (his.hs 2).le (his.hs 2).sa (his.hs 2).fl (his.hs 2).ar (his.hs 2).dr (his.hs 2).pe (his.hs 2).ri, cSt (qs 3) cI (his.hs 3).se (his.hs 3).la (his.hs 3).de (his.hs 3).le (his.hs 3).sa (his.hs 3).fl (his.hs 3).ar (his.hs 3).dr (his.hs 3).pe (his.hs 3).ri, cSt (qs 4) cI (his.hs 4).se (his.hs 4).la (his.hs 4).de (his.hs 4).le (his.hs 4).sa (his.hs 4).fl (his.hs 4).ar (his.hs 4).dr (his.hs 4).pe (his.hs 4).ri, cSt (qs 5) cI (his.hs 5).se (his.hs 5).la (his.hs 5).de (his.hs 5).le (his.hs 5).sa (his.hs 5).fl (his.hs 5).ar (his.hs 5).dr (his.hs 5).pe (his.hs 5).ri])) (lv' := [(0, .ref (qx 0))]) (st' := []) (pc' := 24) (ce' := 0) (sl' := 0) rfl rfl rfl rfl rfl rfl ?_
    refine gw_aload_n (pc' := 25) κ dX5_undo_24 rfl 0 rfl rfl ?_
    refine gb_get (pc' := 28) (C := RX5) (T := TX5) (N := 8) κ dX5_undo_25 rfl inX5 0 rfl rfl rfl 1 (by decide) tw_fl_X5_19 rfl ?_
    refine gw_aload_n (pc' := 29) κ dX5_undo_28 rfl 0 rfl rfl ?_
    refine gb_get (pc' := 32) (C := RX5) (T := TX5) (N := 8) κ dX5_undo_29 rfl inX5 0 rfl rfl rfl 0 (by decide) tw_fl_X5_10 rfl ?_
    refine gb_callV (ci := 2) (qb := 2) (rest := []) κ (c_X2_make qp qn pln (mkSt se_3 la_4 de_5 le_6 sa_7 fl_8 ar_9 dr_10 pe_11 ri_12) h) ⟨rfl, rfl, Nat.le_of_ble_eq_true rfl, Nat.le_of_ble_eq_true rfl⟩ tw_ml_X5_72 tw_im_X2_make tw_se_X2_make tw_co_X2_make tw_in_X2 hy_X2_make rfl rfl rfl rfl rfl (Nat.le_of_ble_eq_true rfl) rfl dX5_undo_32 [2, 1] rfl (by decide) (fun _ => Nat.le_of_ble_eq_true rfl) ⟨Nat.le_of_ble_eq_true rfl, Nat.le_of_ble_eq_true rfl⟩ (fun v u hv => ?_)
    obtain ⟨rfl, h⟩ := hv
    obtain ⟨od_13, rd_14, vn_15, pn_16, ao_17, sr_18, sp_19, wt_20⟩ := u
    refine gw_nf (ws' := (wfl [cX qx qn qp qw qt qu qd qh ql, cSt qn cI se_3 la_4 de_5 le_6 sa_7 fl_8 ar_9 dr_10 pe_11 ri_12, cPl qp cI od_13 rd_14 vn_15 pn_16 ao_17 sr_18 sp_19 wt_20, cHi qh qs cR his.ol sz_2, cSt (qs 0) cI (his.hs 0).se (his.hs 0).la (his.hs 0).de (his.hs 0).le (his.hs 0).sa (his.hs 0).fl (his.hs 0).ar (his.hs 0).dr (his.hs 0).pe (his.hs 0).ri, cSt (qs 1) cI (his.hs 1).se (his.hs 1).la (his.hs 1).de (his.hs 1).le (his.hs 1).sa (his.hs 1).fl (his.hs 1).ar (his.hs 1).dr (his.hs 1).pe (his.hs 1).ri, cSt (qs 2) cI (his.hs 2).se (his.hs 2).la (his.hs 2).de (his.hs 2).le (his.hs 2).sa (his.hs 2).fl (his.hs 2).ar (his.hs 2).dr (his.hs 2).pe (his.hs 2).ri, cSt (qs 3) cI (his.hs 3).se (his.hs 3).la (his.hs 3).de (his.hs 3).le (his.hs 3).sa (his.hs 3).fl (his.hs 3).ar (his.hs 3).dr (his.hs 3).pe (his.hs 3).ri, cSt (qs 4) cI (his.hs 4).se (his.hs 4).la (his.hs 4).de (his.hs 4).le (his.hs 4).sa (his.hs 4).fl (his.hs 4).ar (his.hs 4).dr (his.hs 4).pe (his.hs 4).ri, cSt (qs 5) cI (his.hs 5).se (his.hs 5).la (his.hs 5).de (his.hs 5).le (his.hs 5).sa (his.hs 5).fl (his.hs 5).ar (his.hs 5).dr (his.hs 5).pe (his.hs 5).ri])) (lv' := [(0, .ref (qx 0))]) (st' := []) (pc' := 35) (ce' := 0) (sl' := 0) rfl rfl rfl rfl rfl rfl ?_
    refine gw_aload_n (pc' := 36) κ dX5_undo_35 rfl 0 rfl rfl ?_
    refine gb_get (pc' := 39) (C := RX5) (T := TX5) (N := 8) κ dX5_undo_36 rfl inX5 0 rfl rfl rfl 6 (by decide) tw_fl_X5_46 rfl ?_
    refine gb_get (pc' := 42) (C := RX0) (T := TX0) (N := 3) κ dX5_undo_39 rfl inX0 3 rfl rfl rfl 2 (by decide) tw_fl_X5_224 rfl ?_
    exact gw_iret κ dX5_undo_42 (se_3, la_4, de_5, le_6, sa_7, fl_8, ar_9, dr_10, pe_11, ri_12, od_13, rd_14, vn_15, pn_16, ao_17, sr_18, sp_19, wt_20, sz_2) rfl ⟨_, rfl, h⟩
  · have h := h.2 hc_1
    refine gw_bipush (pc' := 12) (v := -105) κ dX5_undo_10 rfl (by decide) ?_
    exact gw_iret κ dX5_undo_12 (now.se, now.la, now.de, now.le, now.sa, now.fl, now.ar, now.dr, now.pe, now.ri, pln.od, pln.rd, pln.vn, pln.pn, pln.ao, pln.sr, pln.sp, pln.wt, his.sz) rfl ⟨_, rfl, h⟩
theorem hy_L_low : g_hy yL_low 2 := by decide +kernel
set_option maxHeartbeats 4000000 in
set_option maxRecDepth 100000 in
theorem c_L_low {l : Launch} {D : va_G} {cI cR : ClassId}  {P : Int32 → Prop} (x0 : Int32) (x1 : Int32) (h : wp_L_low P x0 x1) : CT l D cI cR yL_low cL_low 2 (some .int) ({ frames := 0, cells := 0, slots := 0, locals := 0 } : Room) [.int x0, .int x1] (wfl ([] : List va_W)) (fun _ : Unit => (wfl ([] : List va_W))) (pI (fun (r : Int32) (_ : Unit) => P r)) 0 0 := by
  refine ct_of RL rfl (by decide +kernel) (Nat.le_of_ble_eq_true rfl) (fun zp ze zs zm zb zt zc A hin κ => ?_)
  unfold wp_L_low at h
  refine gw_nf (lv' := [(0, .int x0), (1, .int x1)]) (pc' := 0) (st' := []) (ce' := 0) (sl' := 0) rfl rfl rfl rfl rfl rfl ?_
  refine gw_iload_n (pc' := 1) κ dL_low_0 rfl 0 rfl rfl ?_
  refine gw_ldc (pc' := 3) κ dL_low_1 rfl tw_ct_L_9 ?_
  refine gw_iand (pc' := 4) κ dL_low_3 rfl  ?_
  refine gw_iload_n (pc' := 5) κ dL_low_4 rfl 1 rfl rfl ?_
  obtain ⟨hb_1, h⟩ := h
  refine gw_irem (pc' := 6) κ dL_low_5 rfl hb_1 ?_
  exact gw_iret κ dL_low_6 () rfl ⟨_, rfl, h⟩
theorem hy_L_flightOf : g_hy yL_flightOf 1 := by decide +kernel
set_option maxHeartbeats 4000000 in
set_option maxRecDepth 100000 in
theorem c_L_flightOf {l : Launch} {D : va_G} {cI cR : ClassId}  {P : Int32 → Prop} (x0 : Int32) (h : wp_L_flightOf P x0) : CT l D cI cR yL_flightOf cL_flightOf 1 (some .int) ({ frames := 0, cells := 0, slots := 0, locals := 0 } : Room) [.int x0] (wfl ([] : List va_W)) (fun _ : Unit => (wfl ([] : List va_W))) (pI (fun (r : Int32) (_ : Unit) => P r)) 0 0 := by
  refine ct_of RL rfl (by decide +kernel) (Nat.le_of_ble_eq_true rfl) (fun zp ze zs zm zb zt zc A hin κ => ?_)
  unfold wp_L_flightOf at h
  refine gw_nf (lv' := [(0, .int x0)]) (pc' := 0) (st' := []) (ce' := 0) (sl' := 0) rfl rfl rfl rfl rfl rfl ?_
  refine gw_iload_n (pc' := 1) κ dL_flightOf_0 rfl 0 rfl rfl ?_
  refine gw_bipush (pc' := 3) (v := 7) κ dL_flightOf_1 rfl (by decide) ?_
  refine gw_iand (pc' := 4) κ dL_flightOf_3 rfl  ?_
  exact gw_iret κ dL_flightOf_4 () rfl ⟨_, rfl, h⟩
theorem hy_L_areaOf : g_hy yL_areaOf 1 := by decide +kernel
set_option maxHeartbeats 4000000 in
set_option maxRecDepth 100000 in
theorem c_L_areaOf {l : Launch} {D : va_G} {cI cR : ClassId}  {P : Int32 → Prop} (x0 : Int32) (h : wp_L_areaOf P x0) : CT l D cI cR yL_areaOf cL_areaOf 1 (some .int) ({ frames := 0, cells := 0, slots := 0, locals := 0 } : Room) [.int x0] (wfl ([] : List va_W)) (fun _ : Unit => (wfl ([] : List va_W))) (pI (fun (r : Int32) (_ : Unit) => P r)) 0 0 := by
  refine ct_of RL rfl (by decide +kernel) (Nat.le_of_ble_eq_true rfl) (fun zp ze zs zm zb zt zc A hin κ => ?_)
  unfold wp_L_areaOf at h
  refine gw_nf (lv' := [(0, .int x0)]) (pc' := 0) (st' := []) (ce' := 0) (sl' := 0) rfl rfl rfl rfl rfl rfl ?_
  refine gw_iload_n (pc' := 1) κ dL_areaOf_0 rfl 0 rfl rfl ?_
  refine gw_iconst (pc' := 2) (v := 3) κ dL_areaOf_1 rfl (by decide) ?_
  refine gw_ishr (pc' := 3) κ dL_areaOf_2 rfl  ?_
  refine gw_bipush (pc' := 5) (v := 7) κ dL_areaOf_3 rfl (by decide) ?_
  refine gw_iand (pc' := 6) κ dL_areaOf_5 rfl  ?_
  exact gw_iret κ dL_areaOf_6 () rfl ⟨_, rfl, h⟩
theorem hy_L_doorOf : g_hy yL_doorOf 1 := by decide +kernel
set_option maxHeartbeats 4000000 in
set_option maxRecDepth 100000 in
theorem c_L_doorOf {l : Launch} {D : va_G} {cI cR : ClassId}  {P : Int32 → Prop} (x0 : Int32) (h : wp_L_doorOf P x0) : CT l D cI cR yL_doorOf cL_doorOf 1 (some .int) ({ frames := 0, cells := 0, slots := 0, locals := 0 } : Room) [.int x0] (wfl ([] : List va_W)) (fun _ : Unit => (wfl ([] : List va_W))) (pI (fun (r : Int32) (_ : Unit) => P r)) 0 0 := by
  refine ct_of RL rfl (by decide +kernel) (Nat.le_of_ble_eq_true rfl) (fun zp ze zs zm zb zt zc A hin κ => ?_)
  unfold wp_L_doorOf at h
  refine gw_nf (lv' := [(0, .int x0)]) (pc' := 0) (st' := []) (ce' := 0) (sl' := 0) rfl rfl rfl rfl rfl rfl ?_
  refine gw_iload_n (pc' := 1) κ dL_doorOf_0 rfl 0 rfl rfl ?_
  refine gw_bipush (pc' := 3) (v := 6) κ dL_doorOf_1 rfl (by decide) ?_
  refine gw_ishr (pc' := 4) κ dL_doorOf_3 rfl  ?_
  refine gw_bipush (pc' := 6) (v := 127) κ dL_doorOf_4 rfl (by decide) ?_
  refine gw_iand (pc' := 7) κ dL_doorOf_6 rfl  ?_
  exact gw_iret κ dL_doorOf_7 () rfl ⟨_, rfl, h⟩
theorem hy_L_people : g_hy yL_people 1 := by decide +kernel
set_option maxHeartbeats 4000000 in
set_option maxRecDepth 100000 in
theorem c_L_people {l : Launch} {D : va_G} {cI cR : ClassId}  {P : Int32 → Prop} (x0 : Int32) (h : wp_L_people P x0) : CT l D cI cR yL_people cL_people 1 (some .int) ({ frames := 0, cells := 0, slots := 0, locals := 0 } : Room) [.int x0] (wfl ([] : List va_W)) (fun _ : Unit => (wfl ([] : List va_W))) (pI (fun (r : Int32) (_ : Unit) => P r)) 0 0 := by
  refine ct_of RL rfl (by decide +kernel) (Nat.le_of_ble_eq_true rfl) (fun zp ze zs zm zb zt zc A hin κ => ?_)
  unfold wp_L_people at h
  refine gw_nf (lv' := [(0, .int x0)]) (pc' := 0) (st' := []) (ce' := 0) (sl' := 0) rfl rfl rfl rfl rfl rfl ?_
  refine gw_iload_n (pc' := 1) κ dL_people_0 rfl 0 rfl rfl ?_
  refine gw_bipush (pc' := 3) (v := 13) κ dL_people_1 rfl (by decide) ?_
  refine gw_ishr (pc' := 4) κ dL_people_3 rfl  ?_
  exact gw_iret κ dL_people_4 () rfl ⟨_, rfl, h⟩
theorem hy_L_ready : g_hy yL_ready 2 := by decide +kernel
set_option maxHeartbeats 4000000 in
set_option maxRecDepth 100000 in
theorem c_L_ready {l : Launch} {D : va_G} {cI cR : ClassId}  (jq : Nat → Nat) {P : Int32 → Prop} (lq : Nat → Int32) (x0 : Int32) (h : wp_L_ready P lq x0) : CT l D cI cR yL_ready cL_ready 2 (some .int) ({ frames := 1, cells := 0, slots := 0, locals := 20 } : Room) [.int x0, .ref (jq 0)] (wfl [cA34 jq cI lq]) (fun _ : Unit => (wfl [cA34 jq cI lq])) (pI (fun (r : Int32) (_ : Unit) => P r)) 0 0 := by
  refine ct_of RL rfl (by decide +kernel) (Nat.le_of_ble_eq_true rfl) (fun zp ze zs zm zb zt zc A hin κ => ?_)
  unfold wp_L_ready at h
  refine gw_nf (lv' := [(0, .int x0), (1, .ref (jq 0))]) (pc' := 0) (st' := []) (ce' := 0) (sl' := 0) rfl rfl rfl rfl rfl rfl ?_
  refine gw_aload_n (pc' := 1) κ dL_ready_0 rfl 1 rfl rfl ?_
  refine gw_bipush (pc' := 3) (v := 6) κ dL_ready_1 rfl (by decide) ?_
  refine gw_iload_n (pc' := 4) κ dL_ready_3 rfl 0 rfl rfl ?_
  refine gb_callS (rest := [.int (6 : Int32), .ref (jq 0)]) κ (c_L_flightOf  x0 h) ⟨rfl, rfl, Nat.le_of_ble_eq_true rfl, Nat.le_of_ble_eq_true rfl⟩ tw_ml_L_10 tw_st_L_flightOf tw_co_L_flightOf tw_in_L hy_L_flightOf rfl (Nat.le_of_ble_eq_true rfl) rfl dL_ready_4 [] rfl (by decide) (fun _ => Nat.le_of_ble_eq_true rfl) ⟨Nat.le_of_ble_eq_true rfl, Nat.le_of_ble_eq_true rfl⟩ (fun v u hv => ?_)
  obtain ⟨r_1, rfl, h⟩ := hv
  refine gw_nf (ws' := (wfl [cA34 jq cI lq])) (lv' := [(0, .int x0), (1, .ref (jq 0))]) (st' := [.int r_1, .int (6 : Int32), .ref (jq 0)]) (pc' := 7) (ce' := 0) (sl' := 0) rfl rfl rfl rfl rfl rfl ?_
  refine gw_iadd (pc' := 8) κ dL_ready_7 rfl  ?_
  obtain ⟨hb_2, h⟩ := h
  refine gb_iald (pc' := 9) κ dL_ready_8 rfl 0 0 rfl rfl hb_2 ?_
  refine gw_aload_n (pc' := 10) κ dL_ready_9 rfl 1 rfl rfl ?_
  refine gw_bipush (pc' := 12) (v := 12) κ dL_ready_10 rfl (by decide) ?_
  refine gw_iload_n (pc' := 13) κ dL_ready_12 rfl 0 rfl rfl ?_
  refine gb_callS (rest := [.int (12 : Int32), .ref (jq 0), .int (lq ((6 : Int32) + r_1).toNatClampNeg)]) κ (c_L_flightOf  x0 h) ⟨rfl, rfl, Nat.le_of_ble_eq_true rfl, Nat.le_of_ble_eq_true rfl⟩ tw_ml_L_10 tw_st_L_flightOf tw_co_L_flightOf tw_in_L hy_L_flightOf rfl (Nat.le_of_ble_eq_true rfl) rfl dL_ready_13 [] rfl (by decide) (fun _ => Nat.le_of_ble_eq_true rfl) ⟨Nat.le_of_ble_eq_true rfl, Nat.le_of_ble_eq_true rfl⟩ (fun v u hv => ?_)
  obtain ⟨r_3, rfl, h⟩ := hv
  refine gw_nf (ws' := (wfl [cA34 jq cI lq])) (lv' := [(0, .int x0), (1, .ref (jq 0))]) (st' := [.int r_3, .int (12 : Int32), .ref (jq 0), .int (lq ((6 : Int32) + r_1).toNatClampNeg)]) (pc' := 16) (ce' := 0) (sl' := 0) rfl rfl rfl rfl rfl rfl ?_
  refine gw_iadd (pc' := 17) κ dL_ready_16 rfl  ?_
  obtain ⟨hb_4, h⟩ := h
  refine gb_iald (pc' := 18) κ dL_ready_17 rfl 0 0 rfl rfl hb_4 ?_
  refine gw_iadd (pc' := 19) κ dL_ready_18 rfl  ?_
  refine gw_aload_n (pc' := 20) κ dL_ready_19 rfl 1 rfl rfl ?_
  refine gw_iconst (pc' := 21) (v := 0) κ dL_ready_20 rfl (by decide) ?_
  refine gb_iald (pc' := 22) κ dL_ready_21 rfl 0 0 rfl rfl (by unfold vp_in; decide) ?_
  refine gw_iadd (pc' := 23) κ dL_ready_22 rfl  ?_
  exact gw_iret κ dL_ready_23 () rfl ⟨_, rfl, h⟩
theorem hy_L_ones : g_hy yL_ones 1 := by decide +kernel
set_option maxHeartbeats 4000000 in
set_option maxRecDepth 100000 in
theorem k_L_ones_4 {zp : Program} {l : Launch} {ze : Env} {zs : State} {zm : MethodId} {za : Array Value} {zb : List Frame} {zt : Method} {zc : Code} {D : va_G} {cI cR : ClassId} {A : Nat → Prop} (κ : KC zp zs zm za zt zc cL_ones 3 RL D cI cR A (some .int)) (P : Int32 → Prop) (x0 : Int32) : ∀ (n : Nat) (v1 : Int32) (v2 : Int32), wp_L_ones_4 P x0 n v1 v2 → GM zp l ze ({ frames := 0, cells := 0, slots := 0, locals := 0 } : Room) zs zm za zb zt zc D A 3 (pI (fun (r : Int32) (_ : Unit) => P r)) (fun _ : Unit => (wfl ([] : List va_W))) 0 0 0 0 (wfl ([] : List va_W)) [(1, .int v1), (2, .int v2)] 4 [] := by
  intro n4
  induction n4 with
  | zero => intro v1 v2 h; exact (show False from h).elim
  | succ n4 ih4 =>
    intro v1 v2 h
    have h : wp_L_ones_4F P x0 (wp_L_ones_4 P x0 n4) v1 v2 := h
    unfold wp_L_ones_4F at h
    refine gw_iload_n (pc' := 5) κ dL_ones_4 rfl 1 rfl rfl ?_
    refine gw_if_eq (pc' := 8) (tgt := 20) κ dL_ones_5 rfl (by decide) (fun hc_1 => ?_) (fun hc_1 => ?_)
    · have h := h.1 hc_1
      refine gw_iload_n (pc' := 21) κ dL_ones_20 rfl 0 rfl rfl ?_
      exact gw_iret κ dL_ones_21 () rfl ⟨_, rfl, h⟩
    · have h := h.2 hc_1
      refine gw_iinc (pc' := 11) κ dL_ones_8 rfl 0 rfl (v := (v1 + 1)) rfl (by decide) (lv' := [(1, .int (v1 + 1)), (2, .int v2)]) rfl ?_
      refine gw_iload_n (pc' := 12) κ dL_ones_11 rfl 1 rfl rfl ?_
      refine gw_iload_n (pc' := 13) κ dL_ones_12 rfl 1 rfl rfl ?_
      refine gw_iconst (pc' := 14) (v := 1) κ dL_ones_13 rfl (by decide) ?_
      refine gw_isub (pc' := 15) κ dL_ones_14 rfl  ?_
      refine gw_iand (pc' := 16) κ dL_ones_15 rfl  ?_
      refine gw_istore_n (pc' := 17) κ dL_ones_16 rfl rfl (by decide) (lv' := [(2, .int (v2 &&& (v2 - (1 : Int32)))), (1, .int (v1 + 1))]) rfl ?_
      refine gw_goto (tgt := 4) κ dL_ones_17 (by decide) ?_
      refine gw_lv (lv' := [(1, .int (v1 + 1)), (2, .int (v2 &&& (v2 - (1 : Int32))))]) [1, 0] rfl ?_
      exact ih4 (v1 + 1) (v2 &&& (v2 - (1 : Int32))) h
set_option maxHeartbeats 4000000 in
set_option maxRecDepth 100000 in
theorem c_L_ones {l : Launch} {D : va_G} {cI cR : ClassId}  {P : Int32 → Prop} (x0 : Int32) (h : wp_L_ones P x0) : CT l D cI cR yL_ones cL_ones 3 (some .int) ({ frames := 0, cells := 0, slots := 0, locals := 0 } : Room) [.int x0] (wfl ([] : List va_W)) (fun _ : Unit => (wfl ([] : List va_W))) (pI (fun (r : Int32) (_ : Unit) => P r)) 0 0 := by
  refine ct_of RL rfl (by decide +kernel) (Nat.le_of_ble_eq_true rfl) (fun zp ze zs zm zb zt zc A hin κ => ?_)
  unfold wp_L_ones at h
  refine gw_nf (lv' := [(0, .int x0)]) (pc' := 0) (st' := []) (ce' := 0) (sl' := 0) rfl rfl rfl rfl rfl rfl ?_
  refine gw_iconst (pc' := 1) (v := 0) κ dL_ones_0 rfl (by decide) ?_
  refine gw_istore_n (pc' := 2) κ dL_ones_1 rfl rfl (by decide) (lv' := [(1, .int (0 : Int32)), (0, .int x0)]) rfl ?_
  refine gw_iload_n (pc' := 3) κ dL_ones_2 rfl 1 rfl rfl ?_
  refine gw_istore_n (pc' := 4) κ dL_ones_3 rfl rfl (by decide) (lv' := [(2, .int x0), (1, .int (0 : Int32)), (0, .int x0)]) rfl ?_
  obtain ⟨m4, h⟩ := h
  refine gw_lv (lv' := [(1, .int (0 : Int32)), (2, .int x0)]) [1, 0] rfl ?_
  exact k_L_ones_4 κ P x0 m4 (0 : Int32) x0 h
theorem hy_L_gives : g_hy yL_gives 5 := by decide +kernel
set_option maxHeartbeats 4000000 in
set_option maxRecDepth 100000 in
theorem k_L_gives_59 {zp : Program} {l : Launch} {ze : Env} {zs : State} {zm : MethodId} {za : Array Value} {zb : List Frame} {zt : Method} {zc : Code} {D : va_G} {cI cR : ClassId} {A : Nat → Prop} (κ : KC zp zs zm za zt zc cL_gives 11 RL D cI cR A none) (jq : Nat → Nat) (jr : Nat → Nat) (jw : Nat → Nat) (jo : Nat → Nat) (jg : Nat → Nat) (P : (Nat → Int32) → (Nat → Int32) → (Nat → Int32) → Prop) (lq : Nat → Int32) (lr : Nat → Int32) (lw : Nat → Int32) (lo : Nat → Int32) (lg : Nat → Int32) (r3 : Int32 → (Nat → Int32) → Prop) (v5 : Int32) (v6 : Int32) (nlw : Nat → Int32) (nlo : Nat → Int32) (nlg : Nat → Int32) (hr3 : ∀ (v5 : Int32) (nlo : Nat → Int32), r3 v5 nlo → GM zp l ze ({ frames := 2, cells := 0, slots := 0, locals := 41 } : Room) zs zm za zb zt zc D A 11 (pV (fun (u : (Nat → Int32) × (Nat → Int32) × (Nat → Int32)) => P u.1 u.2.1 u.2.2)) (fun u : (Nat → Int32) × (Nat → Int32) × (Nat → Int32) => (wfl [cA34 jq cI lq, cA24 jr cI lr, cA24 jw cI u.1, cA24 jo cI u.2.1, cA16 jg cI u.2.2])) 0 0 0 0 (wfl [cA34 jq cI lq, cA24 jr cI lr, cA24 jw cI nlw, cA24 jo cI nlo, cA16 jg cI nlg]) [(0, .ref (jq 0)), (1, .ref (jr 0)), (2, .ref (jw 0)), (3, .ref (jo 0)), (4, .ref (jg 0)), (5, .int v5)] 3 []) (h : wp_L_gives_59 P lq lr lw lo lg r3 v5 v6 nlw nlo nlg) : GM zp l ze ({ frames := 2, cells := 0, slots := 0, locals := 41 } : Room) zs zm za zb zt zc D A 11 (pV (fun (u : (Nat → Int32) × (Nat → Int32) × (Nat → Int32)) => P u.1 u.2.1 u.2.2)) (fun u : (Nat → Int32) × (Nat → Int32) × (Nat → Int32) => (wfl [cA34 jq cI lq, cA24 jr cI lr, cA24 jw cI u.1, cA24 jo cI u.2.1, cA16 jg cI u.2.2])) 0 0 0 0 (wfl [cA34 jq cI lq, cA24 jr cI lr, cA24 jw cI nlw, cA24 jo cI nlo, cA16 jg cI nlg]) [(0, .ref (jq 0)), (1, .ref (jr 0)), (2, .ref (jw 0)), (3, .ref (jo 0)), (4, .ref (jg 0)), (5, .int v5), (6, .int v6)] 59 [] := by
  unfold wp_L_gives_59 at h
  refine gw_aload_n (pc' := 60) κ dL_gives_59 rfl 3 rfl rfl ?_
  refine gw_iload (pc' := 62) κ dL_gives_60 rfl 6 rfl ?_
  refine gw_iload (pc' := 64) κ dL_gives_62 rfl 5 rfl ?_
  obtain ⟨hb_18, h⟩ := h
  refine gb_iast (pc' := 65) (bs' := [cA34 jq cI lq, cA24 jr cI lr, cA24 jw cI nlw, cA24 jo cI (upd nlo v6.toNatClampNeg v5), cA16 jg cI nlg]) κ dL_gives_64 rfl 3 0 rfl rfl hb_18 rfl ?_
  refine gw_iinc (pc' := 68) κ dL_gives_65 rfl 5 rfl (v := (v5 + 1)) rfl (by decide) (lv' := [(5, .int (v5 + 1)), (0, .ref (jq 0)), (1, .ref (jr 0)), (2, .ref (jw 0)), (3, .ref (jo 0)), (4, .ref (jg 0)), (6, .int v6)]) rfl ?_
  refine gw_goto (tgt := 3) κ dL_gives_68 (by decide) ?_
  refine gw_lv (lv' := [(0, .ref (jq 0)), (1, .ref (jr 0)), (2, .ref (jw 0)), (3, .ref (jo 0)), (4, .ref (jg 0)), (5, .int (v5 + 1))]) [1, 2, 3, 4, 5, 0] rfl ?_
  exact hr3 (v5 + 1) (upd nlo v6.toNatClampNeg v5) h
set_option maxHeartbeats 4000000 in
set_option maxRecDepth 100000 in
theorem k_L_gives_15 {zp : Program} {l : Launch} {ze : Env} {zs : State} {zm : MethodId} {za : Array Value} {zb : List Frame} {zt : Method} {zc : Code} {D : va_G} {cI cR : ClassId} {A : Nat → Prop} (κ : KC zp zs zm za zt zc cL_gives 11 RL D cI cR A none) (jq : Nat → Nat) (jr : Nat → Nat) (jw : Nat → Nat) (jo : Nat → Nat) (jg : Nat → Nat) (P : (Nat → Int32) → (Nat → Int32) → (Nat → Int32) → Prop) (lq : Nat → Int32) (lr : Nat → Int32) (lw : Nat → Int32) (lo : Nat → Int32) (lg : Nat → Int32) (r3 : Int32 → (Nat → Int32) → Prop) (v5 : Int32) (nlw : Nat → Int32) (nlg : Nat → Int32) (hr3 : ∀ (v5 : Int32) (nlo : Nat → Int32), r3 v5 nlo → GM zp l ze ({ frames := 2, cells := 0, slots := 0, locals := 41 } : Room) zs zm za zb zt zc D A 11 (pV (fun (u : (Nat → Int32) × (Nat → Int32) × (Nat → Int32)) => P u.1 u.2.1 u.2.2)) (fun u : (Nat → Int32) × (Nat → Int32) × (Nat → Int32) => (wfl [cA34 jq cI lq, cA24 jr cI lr, cA24 jw cI u.1, cA24 jo cI u.2.1, cA16 jg cI u.2.2])) 0 0 0 0 (wfl [cA34 jq cI lq, cA24 jr cI lr, cA24 jw cI nlw, cA24 jo cI nlo, cA16 jg cI nlg]) [(0, .ref (jq 0)), (1, .ref (jr 0)), (2, .ref (jw 0)), (3, .ref (jo 0)), (4, .ref (jg 0)), (5, .int v5)] 3 []) : ∀ (n : Nat) (v6 : Int32) (nlo : Nat → Int32), wp_L_gives_15 P lq lr lw lo lg r3 v5 nlw nlg n v6 nlo → GM zp l ze ({ frames := 2, cells := 0, slots := 0, locals := 41 } : Room) zs zm za zb zt zc D A 11 (pV (fun (u : (Nat → Int32) × (Nat → Int32) × (Nat → Int32)) => P u.1 u.2.1 u.2.2)) (fun u : (Nat → Int32) × (Nat → Int32) × (Nat → Int32) => (wfl [cA34 jq cI lq, cA24 jr cI lr, cA24 jw cI u.1, cA24 jo cI u.2.1, cA16 jg cI u.2.2])) 0 0 0 0 (wfl [cA34 jq cI lq, cA24 jr cI lr, cA24 jw cI nlw, cA24 jo cI nlo, cA16 jg cI nlg]) [(0, .ref (jq 0)), (1, .ref (jr 0)), (2, .ref (jw 0)), (3, .ref (jo 0)), (4, .ref (jg 0)), (5, .int v5), (6, .int v6)] 15 [] := by
  intro n15
  induction n15 with
  | zero => intro v6 nlo h; exact (show False from h).elim
  | succ n15 ih15 =>
    intro v6 nlo h
    have h : wp_L_gives_15F P lq lr lw lo lg r3 v5 nlw nlg (wp_L_gives_15 P lq lr lw lo lg r3 v5 nlw nlg n15) v6 nlo := h
    unfold wp_L_gives_15F at h
    refine gw_iload (pc' := 17) κ dL_gives_15 rfl 6 rfl ?_
    refine gw_if_le (pc' := 20) (tgt := 59) κ dL_gives_17 rfl (by decide) (fun hc_5 => ?_) (fun hc_5 => ?_)
    · have h := h.1 hc_5
      refine gw_lv (lv' := [(0, .ref (jq 0)), (1, .ref (jr 0)), (2, .ref (jw 0)), (3, .ref (jo 0)), (4, .ref (jg 0)), (5, .int v5), (6, .int v6)]) [0, 1, 2, 3, 4, 5, 6] rfl ?_
      exact k_L_gives_59 κ jq jr jw jo jg P lq lr lw lo lg r3 v5 v6 nlw nlo nlg hr3 h
    · have h := h.2 hc_5
      refine gw_aload_n (pc' := 21) κ dL_gives_20 rfl 1 rfl rfl ?_
      refine gw_aload_n (pc' := 22) κ dL_gives_21 rfl 3 rfl rfl ?_
      refine gw_iload (pc' := 24) κ dL_gives_22 rfl 6 rfl ?_
      refine gw_iconst (pc' := 25) (v := 1) κ dL_gives_24 rfl (by decide) ?_
      refine gw_isub (pc' := 26) κ dL_gives_25 rfl  ?_
      obtain ⟨hb_6, h⟩ := h
      refine gb_iald (pc' := 27) κ dL_gives_26 rfl 3 0 rfl rfl hb_6 ?_
      obtain ⟨hb_7, h⟩ := h
      refine gb_iald (pc' := 28) κ dL_gives_27 rfl 1 0 rfl rfl hb_7 ?_
      refine gw_aload_n (pc' := 29) κ dL_gives_28 rfl 0 rfl rfl ?_
      refine gb_callS (rest := []) κ (c_L_ready jq lq (lr (nlo (v6 - (1 : Int32)).toNatClampNeg).toNatClampNeg) h) ⟨rfl, rfl, Nat.le_of_ble_eq_true rfl, Nat.le_of_ble_eq_true rfl⟩ tw_ml_L_16 tw_st_L_ready tw_co_L_ready tw_in_L hy_L_ready rfl (Nat.le_of_ble_eq_true rfl) rfl dL_gives_29 [0] rfl (by decide) (fun _ => Nat.le_of_ble_eq_true rfl) ⟨Nat.le_of_ble_eq_true rfl, Nat.le_of_ble_eq_true rfl⟩ (fun v u hv => ?_)
      obtain ⟨r_8, rfl, h⟩ := hv
      refine gw_nf (ws' := (wfl [cA34 jq cI lq, cA24 jr cI lr, cA24 jw cI nlw, cA24 jo cI nlo, cA16 jg cI nlg])) (lv' := [(0, .ref (jq 0)), (1, .ref (jr 0)), (2, .ref (jw 0)), (3, .ref (jo 0)), (4, .ref (jg 0)), (5, .int v5), (6, .int v6)]) (st' := [.int r_8]) (pc' := 32) (ce' := 0) (sl' := 0) rfl rfl rfl rfl rfl rfl ?_
      refine gw_aload_n (pc' := 33) κ dL_gives_32 rfl 1 rfl rfl ?_
      refine gw_iload (pc' := 35) κ dL_gives_33 rfl 5 rfl ?_
      obtain ⟨hb_9, h⟩ := h
      refine gb_iald (pc' := 36) κ dL_gives_35 rfl 1 0 rfl rfl hb_9 ?_
      refine gw_aload_n (pc' := 37) κ dL_gives_36 rfl 0 rfl rfl ?_
      refine gb_callS (rest := [.int r_8]) κ (c_L_ready jq lq (lr v5.toNatClampNeg) h) ⟨rfl, rfl, Nat.le_of_ble_eq_true rfl, Nat.le_of_ble_eq_true rfl⟩ tw_ml_L_16 tw_st_L_ready tw_co_L_ready tw_in_L hy_L_ready rfl (Nat.le_of_ble_eq_true rfl) rfl dL_gives_37 [0] rfl (by decide) (fun _ => Nat.le_of_ble_eq_true rfl) ⟨Nat.le_of_ble_eq_true rfl, Nat.le_of_ble_eq_true rfl⟩ (fun v u hv => ?_)
      obtain ⟨r_10, rfl, h⟩ := hv
      refine gw_nf (ws' := (wfl [cA34 jq cI lq, cA24 jr cI lr, cA24 jw cI nlw, cA24 jo cI nlo, cA16 jg cI nlg])) (lv' := [(0, .ref (jq 0)), (1, .ref (jr 0)), (2, .ref (jw 0)), (3, .ref (jo 0)), (4, .ref (jg 0)), (5, .int v5), (6, .int v6)]) (st' := [.int r_10, .int r_8]) (pc' := 40) (ce' := 0) (sl' := 0) rfl rfl rfl rfl rfl rfl ?_
      refine gw_icmp_le (pc' := 43) (tgt := 59) κ dL_gives_40 rfl (by decide) (fun hc_11 => ?_) (fun hc_11 => ?_)
      · have h := h.1 hc_11
        refine gw_lv (lv' := [(0, .ref (jq 0)), (1, .ref (jr 0)), (2, .ref (jw 0)), (3, .ref (jo 0)), (4, .ref (jg 0)), (5, .int v5), (6, .int v6)]) [0, 1, 2, 3, 4, 5, 6] rfl ?_
        exact k_L_gives_59 κ jq jr jw jo jg P lq lr lw lo lg r3 v5 v6 nlw nlo nlg hr3 h
      · have h := h.2 hc_11
        refine gw_aload_n (pc' := 44) κ dL_gives_43 rfl 3 rfl rfl ?_
        refine gw_iload (pc' := 46) κ dL_gives_44 rfl 6 rfl ?_
        refine gw_aload_n (pc' := 47) κ dL_gives_46 rfl 3 rfl rfl ?_
        refine gw_iload (pc' := 49) κ dL_gives_47 rfl 6 rfl ?_
        refine gw_iconst (pc' := 50) (v := 1) κ dL_gives_49 rfl (by decide) ?_
        refine gw_isub (pc' := 51) κ dL_gives_50 rfl  ?_
        obtain ⟨hb_12, h⟩ := h
        refine gb_iald (pc' := 52) κ dL_gives_51 rfl 3 0 rfl rfl hb_12 ?_
        obtain ⟨hb_13, h⟩ := h
        refine gb_iast (pc' := 53) (bs' := [cA34 jq cI lq, cA24 jr cI lr, cA24 jw cI nlw, cA24 jo cI (upd nlo v6.toNatClampNeg (nlo (v6 - (1 : Int32)).toNatClampNeg)), cA16 jg cI nlg]) κ dL_gives_52 rfl 3 0 rfl rfl hb_13 rfl ?_
        refine gw_iinc (pc' := 56) κ dL_gives_53 rfl 6 rfl (v := (v6 + (-1))) rfl (by decide) (lv' := [(6, .int (v6 + (-1))), (0, .ref (jq 0)), (1, .ref (jr 0)), (2, .ref (jw 0)), (3, .ref (jo 0)), (4, .ref (jg 0)), (5, .int v5)]) rfl ?_
        refine gw_goto (tgt := 15) κ dL_gives_56 (by decide) ?_
        refine gw_lv (lv' := [(0, .ref (jq 0)), (1, .ref (jr 0)), (2, .ref (jw 0)), (3, .ref (jo 0)), (4, .ref (jg 0)), (5, .int v5), (6, .int (v6 + (-1)))]) [1, 2, 3, 4, 5, 6, 0] rfl ?_
        exact ih15 (v6 + (-1)) (upd nlo v6.toNatClampNeg (nlo (v6 - (1 : Int32)).toNatClampNeg)) h
set_option maxHeartbeats 4000000 in
set_option maxRecDepth 100000 in
theorem k_L_gives_204 {zp : Program} {l : Launch} {ze : Env} {zs : State} {zm : MethodId} {za : Array Value} {zb : List Frame} {zt : Method} {zc : Code} {D : va_G} {cI cR : ClassId} {A : Nat → Prop} (κ : KC zp zs zm za zt zc cL_gives 11 RL D cI cR A none) (jq : Nat → Nat) (jr : Nat → Nat) (jw : Nat → Nat) (jo : Nat → Nat) (jg : Nat → Nat) (P : (Nat → Int32) → (Nat → Int32) → (Nat → Int32) → Prop) (lq : Nat → Int32) (lr : Nat → Int32) (lw : Nat → Int32) (lo : Nat → Int32) (lg : Nat → Int32) (r96 : Int32 → (Nat → Int32) → (Nat → Int32) → Prop) (r119 : Int32 → Int32 → Prop) (v5 : Int32) (v6 : Int32) (v7 : Int32) (v8 : Int32) (w0 : Int32) (nlw : Nat → Int32) (nlo : Nat → Int32) (nlg : Nat → Int32) (hr96 : ∀ (v5 : Int32) (nlw : Nat → Int32) (nlg : Nat → Int32), r96 v5 nlw nlg → GM zp l ze ({ frames := 2, cells := 0, slots := 0, locals := 41 } : Room) zs zm za zb zt zc D A 11 (pV (fun (u : (Nat → Int32) × (Nat → Int32) × (Nat → Int32)) => P u.1 u.2.1 u.2.2)) (fun u : (Nat → Int32) × (Nat → Int32) × (Nat → Int32) => (wfl [cA34 jq cI lq, cA24 jr cI lr, cA24 jw cI u.1, cA24 jo cI u.2.1, cA16 jg cI u.2.2])) 0 0 0 0 (wfl [cA34 jq cI lq, cA24 jr cI lr, cA24 jw cI nlw, cA24 jo cI nlo, cA16 jg cI nlg]) [(0, .ref (jq 0)), (1, .ref (jr 0)), (2, .ref (jw 0)), (3, .ref (jo 0)), (4, .ref (jg 0)), (5, .int v5)] 96 []) (hr119 : ∀ (v7 : Int32) (v8 : Int32), r119 v7 v8 → GM zp l ze ({ frames := 2, cells := 0, slots := 0, locals := 41 } : Room) zs zm za zb zt zc D A 11 (pV (fun (u : (Nat → Int32) × (Nat → Int32) × (Nat → Int32)) => P u.1 u.2.1 u.2.2)) (fun u : (Nat → Int32) × (Nat → Int32) × (Nat → Int32) => (wfl [cA34 jq cI lq, cA24 jr cI lr, cA24 jw cI u.1, cA24 jo cI u.2.1, cA16 jg cI u.2.2])) 0 0 0 0 (wfl [cA34 jq cI lq, cA24 jr cI lr, cA24 jw cI nlw, cA24 jo cI nlo, cA16 jg cI nlg]) [(0, .ref (jq 0)), (1, .ref (jr 0)), (2, .ref (jw 0)), (3, .ref (jo 0)), (4, .ref (jg 0)), (5, .int v5), (6, .int v6), (7, .int v7), (8, .int v8)] 119 []) (h : wp_L_gives_204 P lq lr lw lo lg r96 r119 v5 v6 v7 v8 w0 nlw nlo nlg) : GM zp l ze ({ frames := 2, cells := 0, slots := 0, locals := 41 } : Room) zs zm za zb zt zc D A 11 (pV (fun (u : (Nat → Int32) × (Nat → Int32) × (Nat → Int32)) => P u.1 u.2.1 u.2.2)) (fun u : (Nat → Int32) × (Nat → Int32) × (Nat → Int32) => (wfl [cA34 jq cI lq, cA24 jr cI lr, cA24 jw cI u.1, cA24 jo cI u.2.1, cA16 jg cI u.2.2])) 0 0 0 0 (wfl [cA34 jq cI lq, cA24 jr cI lr, cA24 jw cI nlw, cA24 jo cI nlo, cA16 jg cI nlg]) [(0, .ref (jq 0)), (1, .ref (jr 0)), (2, .ref (jw 0)), (3, .ref (jo 0)), (4, .ref (jg 0)), (5, .int v5), (6, .int v6), (7, .int v7), (8, .int v8)] 204 [.int w0] := by
  unfold wp_L_gives_204 at h
  refine gw_istore (pc' := 206) κ dL_gives_204 rfl (by decide) (lv' := [(10, .int w0), (0, .ref (jq 0)), (1, .ref (jr 0)), (2, .ref (jw 0)), (3, .ref (jo 0)), (4, .ref (jg 0)), (5, .int v5), (6, .int v6), (7, .int v7), (8, .int v8)]) rfl ?_
  refine gw_iload (pc' := 208) κ dL_gives_206 rfl 0 rfl ?_
  refine gw_if_eq (pc' := 211) (tgt := 238) κ dL_gives_208 rfl (by decide) (fun hc_43 => ?_) (fun hc_43 => ?_)
  · have h := h.1 hc_43
    refine gw_iload (pc' := 240) κ dL_gives_238 rfl 8 rfl ?_
    refine gw_istore (pc' := 242) κ dL_gives_240 rfl (by decide) (lv' := [(7, .int v7), (10, .int w0), (0, .ref (jq 0)), (1, .ref (jr 0)), (2, .ref (jw 0)), (3, .ref (jo 0)), (4, .ref (jg 0)), (5, .int v5), (6, .int v6), (8, .int v8)]) rfl ?_
    refine gw_iinc (pc' := 245) κ dL_gives_242 rfl 9 rfl (v := (v8 + (-1))) rfl (by decide) (lv' := [(8, .int (v8 + (-1))), (7, .int v7), (10, .int w0), (0, .ref (jq 0)), (1, .ref (jr 0)), (2, .ref (jw 0)), (3, .ref (jo 0)), (4, .ref (jg 0)), (5, .int v5), (6, .int v6)]) rfl ?_
    refine gw_goto (tgt := 119) κ dL_gives_245 (by decide) ?_
    refine gw_lv (lv' := [(0, .ref (jq 0)), (1, .ref (jr 0)), (2, .ref (jw 0)), (3, .ref (jo 0)), (4, .ref (jg 0)), (5, .int v5), (6, .int v6), (7, .int v7), (8, .int (v8 + (-1)))]) [3, 4, 5, 6, 7, 8, 9, 1, 0] rfl ?_
    exact hr119 v7 (v8 + (-1)) h
  · have h := h.2 hc_43
    refine gw_iload (pc' := 213) κ dL_gives_211 rfl 8 rfl ?_
    refine gw_if_lt (pc' := 216) (tgt := 233) κ dL_gives_213 rfl (by decide) (fun hc_44 => ?_) (fun hc_44 => ?_)
    · have h := h.1 hc_44
      refine gw_iload (pc' := 235) κ dL_gives_233 rfl 9 rfl ?_
      refine gw_goto (tgt := 240) κ dL_gives_235 (by decide) ?_
      refine gw_istore (pc' := 242) κ dL_gives_240 rfl (by decide) (lv' := [(7, .int v8), (10, .int w0), (0, .ref (jq 0)), (1, .ref (jr 0)), (2, .ref (jw 0)), (3, .ref (jo 0)), (4, .ref (jg 0)), (5, .int v5), (6, .int v6), (8, .int v8)]) rfl ?_
      refine gw_iinc (pc' := 245) κ dL_gives_242 rfl 9 rfl (v := (v8 + (-1))) rfl (by decide) (lv' := [(8, .int (v8 + (-1))), (7, .int v8), (10, .int w0), (0, .ref (jq 0)), (1, .ref (jr 0)), (2, .ref (jw 0)), (3, .ref (jo 0)), (4, .ref (jg 0)), (5, .int v5), (6, .int v6)]) rfl ?_
      refine gw_goto (tgt := 119) κ dL_gives_245 (by decide) ?_
      refine gw_lv (lv' := [(0, .ref (jq 0)), (1, .ref (jr 0)), (2, .ref (jw 0)), (3, .ref (jo 0)), (4, .ref (jg 0)), (5, .int v5), (6, .int v6), (7, .int v8), (8, .int (v8 + (-1)))]) [3, 4, 5, 6, 7, 8, 9, 1, 0] rfl ?_
      exact hr119 v8 (v8 + (-1)) h
    · have h := h.2 hc_44
      refine gw_aload_n (pc' := 217) κ dL_gives_216 rfl 1 rfl rfl ?_
      refine gw_bipush (pc' := 219) (v := 18) κ dL_gives_217 rfl (by decide) ?_
      refine gw_iload (pc' := 221) κ dL_gives_219 rfl 9 rfl ?_
      refine gw_iadd (pc' := 222) κ dL_gives_221 rfl  ?_
      obtain ⟨hb_45, h⟩ := h
      refine gb_iald (pc' := 223) κ dL_gives_222 rfl 0 0 rfl rfl hb_45 ?_
      refine gw_aload_n (pc' := 224) κ dL_gives_223 rfl 1 rfl rfl ?_
      refine gw_bipush (pc' := 226) (v := 18) κ dL_gives_224 rfl (by decide) ?_
      refine gw_iload (pc' := 228) κ dL_gives_226 rfl 8 rfl ?_
      refine gw_iadd (pc' := 229) κ dL_gives_228 rfl  ?_
      obtain ⟨hb_46, h⟩ := h
      refine gb_iald (pc' := 230) κ dL_gives_229 rfl 0 0 rfl rfl hb_46 ?_
      refine gw_icmp_gt (pc' := 233) (tgt := 238) κ dL_gives_230 rfl (by decide) (fun hc_47 => ?_) (fun hc_47 => ?_)
      · have h := h.1 hc_47
        refine gw_iload (pc' := 240) κ dL_gives_238 rfl 8 rfl ?_
        refine gw_istore (pc' := 242) κ dL_gives_240 rfl (by decide) (lv' := [(7, .int v7), (10, .int w0), (0, .ref (jq 0)), (1, .ref (jr 0)), (2, .ref (jw 0)), (3, .ref (jo 0)), (4, .ref (jg 0)), (5, .int v5), (6, .int v6), (8, .int v8)]) rfl ?_
        refine gw_iinc (pc' := 245) κ dL_gives_242 rfl 9 rfl (v := (v8 + (-1))) rfl (by decide) (lv' := [(8, .int (v8 + (-1))), (7, .int v7), (10, .int w0), (0, .ref (jq 0)), (1, .ref (jr 0)), (2, .ref (jw 0)), (3, .ref (jo 0)), (4, .ref (jg 0)), (5, .int v5), (6, .int v6)]) rfl ?_
        refine gw_goto (tgt := 119) κ dL_gives_245 (by decide) ?_
        refine gw_lv (lv' := [(0, .ref (jq 0)), (1, .ref (jr 0)), (2, .ref (jw 0)), (3, .ref (jo 0)), (4, .ref (jg 0)), (5, .int v5), (6, .int v6), (7, .int v7), (8, .int (v8 + (-1)))]) [3, 4, 5, 6, 7, 8, 9, 1, 0] rfl ?_
        exact hr119 v7 (v8 + (-1)) h
      · have h := h.2 hc_47
        refine gw_iload (pc' := 235) κ dL_gives_233 rfl 9 rfl ?_
        refine gw_goto (tgt := 240) κ dL_gives_235 (by decide) ?_
        refine gw_istore (pc' := 242) κ dL_gives_240 rfl (by decide) (lv' := [(7, .int v8), (10, .int w0), (0, .ref (jq 0)), (1, .ref (jr 0)), (2, .ref (jw 0)), (3, .ref (jo 0)), (4, .ref (jg 0)), (5, .int v5), (6, .int v6), (8, .int v8)]) rfl ?_
        refine gw_iinc (pc' := 245) κ dL_gives_242 rfl 9 rfl (v := (v8 + (-1))) rfl (by decide) (lv' := [(8, .int (v8 + (-1))), (7, .int v8), (10, .int w0), (0, .ref (jq 0)), (1, .ref (jr 0)), (2, .ref (jw 0)), (3, .ref (jo 0)), (4, .ref (jg 0)), (5, .int v5), (6, .int v6)]) rfl ?_
        refine gw_goto (tgt := 119) κ dL_gives_245 (by decide) ?_
        refine gw_lv (lv' := [(0, .ref (jq 0)), (1, .ref (jr 0)), (2, .ref (jw 0)), (3, .ref (jo 0)), (4, .ref (jg 0)), (5, .int v5), (6, .int v6), (7, .int v8), (8, .int (v8 + (-1)))]) [3, 4, 5, 6, 7, 8, 9, 1, 0] rfl ?_
        exact hr119 v8 (v8 + (-1)) h
set_option maxHeartbeats 4000000 in
set_option maxRecDepth 100000 in
theorem k_L_gives_119 {zp : Program} {l : Launch} {ze : Env} {zs : State} {zm : MethodId} {za : Array Value} {zb : List Frame} {zt : Method} {zc : Code} {D : va_G} {cI cR : ClassId} {A : Nat → Prop} (κ : KC zp zs zm za zt zc cL_gives 11 RL D cI cR A none) (jq : Nat → Nat) (jr : Nat → Nat) (jw : Nat → Nat) (jo : Nat → Nat) (jg : Nat → Nat) (P : (Nat → Int32) → (Nat → Int32) → (Nat → Int32) → Prop) (lq : Nat → Int32) (lr : Nat → Int32) (lw : Nat → Int32) (lo : Nat → Int32) (lg : Nat → Int32) (r96 : Int32 → (Nat → Int32) → (Nat → Int32) → Prop) (v5 : Int32) (v6 : Int32) (nlw : Nat → Int32) (nlo : Nat → Int32) (nlg : Nat → Int32) (hr96 : ∀ (v5 : Int32) (nlw : Nat → Int32) (nlg : Nat → Int32), r96 v5 nlw nlg → GM zp l ze ({ frames := 2, cells := 0, slots := 0, locals := 41 } : Room) zs zm za zb zt zc D A 11 (pV (fun (u : (Nat → Int32) × (Nat → Int32) × (Nat → Int32)) => P u.1 u.2.1 u.2.2)) (fun u : (Nat → Int32) × (Nat → Int32) × (Nat → Int32) => (wfl [cA34 jq cI lq, cA24 jr cI lr, cA24 jw cI u.1, cA24 jo cI u.2.1, cA16 jg cI u.2.2])) 0 0 0 0 (wfl [cA34 jq cI lq, cA24 jr cI lr, cA24 jw cI nlw, cA24 jo cI nlo, cA16 jg cI nlg]) [(0, .ref (jq 0)), (1, .ref (jr 0)), (2, .ref (jw 0)), (3, .ref (jo 0)), (4, .ref (jg 0)), (5, .int v5)] 96 []) : ∀ (n : Nat) (v7 : Int32) (v8 : Int32), wp_L_gives_119 P lq lr lw lo lg r96 v5 v6 nlw nlo nlg n v7 v8 → GM zp l ze ({ frames := 2, cells := 0, slots := 0, locals := 41 } : Room) zs zm za zb zt zc D A 11 (pV (fun (u : (Nat → Int32) × (Nat → Int32) × (Nat → Int32)) => P u.1 u.2.1 u.2.2)) (fun u : (Nat → Int32) × (Nat → Int32) × (Nat → Int32) => (wfl [cA34 jq cI lq, cA24 jr cI lr, cA24 jw cI u.1, cA24 jo cI u.2.1, cA16 jg cI u.2.2])) 0 0 0 0 (wfl [cA34 jq cI lq, cA24 jr cI lr, cA24 jw cI nlw, cA24 jo cI nlo, cA16 jg cI nlg]) [(0, .ref (jq 0)), (1, .ref (jr 0)), (2, .ref (jw 0)), (3, .ref (jo 0)), (4, .ref (jg 0)), (5, .int v5), (6, .int v6), (7, .int v7), (8, .int v8)] 119 [] := by
  intro n119
  induction n119 with
  | zero => intro v7 v8 h; exact (show False from h).elim
  | succ n119 ih119 =>
    intro v7 v8 h
    have h : wp_L_gives_119F P lq lr lw lo lg r96 v5 v6 nlw nlo nlg (wp_L_gives_119 P lq lr lw lo lg r96 v5 v6 nlw nlo nlg n119) v7 v8 := h
    unfold wp_L_gives_119F at h
    refine gw_iload (pc' := 121) κ dL_gives_119 rfl 8 rfl ?_
    refine gw_if_lt (pc' := 124) (tgt := 248) κ dL_gives_121 rfl (by decide) (fun hc_19 => ?_) (fun hc_19 => ?_)
    · have h := h.1 hc_19
      refine gw_aload_n (pc' := 249) κ dL_gives_248 rfl 2 rfl rfl ?_
      refine gw_aload_n (pc' := 250) κ dL_gives_249 rfl 3 rfl rfl ?_
      refine gw_iload (pc' := 252) κ dL_gives_250 rfl 5 rfl ?_
      obtain ⟨hb_20, h⟩ := h
      refine gb_iald (pc' := 253) κ dL_gives_252 rfl 3 0 rfl rfl hb_20 ?_
      refine gw_iload (pc' := 255) κ dL_gives_253 rfl 7 rfl ?_
      obtain ⟨hb_21, h⟩ := h
      refine gb_iast (pc' := 256) (bs' := [cA34 jq cI lq, cA24 jr cI lr, cA24 jw cI (upd nlw (nlo v5.toNatClampNeg).toNatClampNeg v7), cA24 jo cI nlo, cA16 jg cI nlg]) κ dL_gives_255 rfl 2 0 rfl rfl hb_21 rfl ?_
      refine gw_iload (pc' := 258) κ dL_gives_256 rfl 7 rfl ?_
      refine gw_if_lt (pc' := 261) (tgt := 292) κ dL_gives_258 rfl (by decide) (fun hc_22 => ?_) (fun hc_22 => ?_)
      · have h := h.1 hc_22
        refine gw_iinc (pc' := 295) κ dL_gives_292 rfl 5 rfl (v := (v5 + 1)) rfl (by decide) (lv' := [(5, .int (v5 + 1)), (0, .ref (jq 0)), (1, .ref (jr 0)), (2, .ref (jw 0)), (3, .ref (jo 0)), (4, .ref (jg 0)), (6, .int v6), (7, .int v7), (8, .int v8)]) rfl ?_
        refine gw_goto (tgt := 96) κ dL_gives_295 (by decide) ?_
        refine gw_lv (lv' := [(0, .ref (jq 0)), (1, .ref (jr 0)), (2, .ref (jw 0)), (3, .ref (jo 0)), (4, .ref (jg 0)), (5, .int (v5 + 1))]) [1, 2, 3, 4, 5, 0] rfl ?_
        exact hr96 (v5 + 1) (upd nlw (nlo v5.toNatClampNeg).toNatClampNeg v7) nlg h
      · have h := h.2 hc_22
        refine gw_aload (pc' := 263) κ dL_gives_261 rfl 4 rfl ?_
        refine gw_iload (pc' := 265) κ dL_gives_263 rfl 7 rfl ?_
        refine gw_dup2 (pc' := 266) κ dL_gives_265 rfl rfl rfl ?_
        obtain ⟨hb_23, h⟩ := h
        refine gb_iald (pc' := 267) κ dL_gives_266 rfl 4 0 rfl rfl hb_23 ?_
        refine gw_iload (pc' := 269) κ dL_gives_267 rfl 6 rfl ?_
        refine gb_callS (rest := [.int (nlg v7.toNatClampNeg), .int v7, .ref (jg 0)]) κ (c_L_people  v6 h) ⟨rfl, rfl, Nat.le_of_ble_eq_true rfl, Nat.le_of_ble_eq_true rfl⟩ tw_ml_L_20 tw_st_L_people tw_co_L_people tw_in_L hy_L_people rfl (Nat.le_of_ble_eq_true rfl) rfl dL_gives_269 [] rfl (by decide) (fun _ => Nat.le_of_ble_eq_true rfl) ⟨Nat.le_of_ble_eq_true rfl, Nat.le_of_ble_eq_true rfl⟩ (fun v u hv => ?_)
        obtain ⟨r_24, rfl, h⟩ := hv
        refine gw_nf (ws' := (wfl [cA34 jq cI lq, cA24 jr cI lr, cA24 jw cI (upd nlw (nlo v5.toNatClampNeg).toNatClampNeg v7), cA24 jo cI nlo, cA16 jg cI nlg])) (lv' := [(0, .ref (jq 0)), (1, .ref (jr 0)), (2, .ref (jw 0)), (3, .ref (jo 0)), (4, .ref (jg 0)), (5, .int v5), (6, .int v6), (7, .int v7), (8, .int v8)]) (st' := [.int r_24, .int (nlg v7.toNatClampNeg), .int v7, .ref (jg 0)]) (pc' := 272) (ce' := 0) (sl' := 0) rfl rfl rfl rfl rfl rfl ?_
        refine gw_iadd (pc' := 273) κ dL_gives_272 rfl  ?_
        obtain ⟨hb_25, h⟩ := h
        refine gb_iast (pc' := 274) (bs' := [cA34 jq cI lq, cA24 jr cI lr, cA24 jw cI (upd nlw (nlo v5.toNatClampNeg).toNatClampNeg v7), cA24 jo cI nlo, cA16 jg cI (upd nlg v7.toNatClampNeg ((nlg v7.toNatClampNeg) + r_24))]) κ dL_gives_273 rfl 4 0 rfl rfl hb_25 rfl ?_
        refine gw_aload (pc' := 276) κ dL_gives_274 rfl 4 rfl ?_
        refine gw_bipush (pc' := 278) (v := 8) κ dL_gives_276 rfl (by decide) ?_
        refine gw_iload (pc' := 280) κ dL_gives_278 rfl 7 rfl ?_
        refine gw_iadd (pc' := 281) κ dL_gives_280 rfl  ?_
        refine gw_dup2 (pc' := 282) κ dL_gives_281 rfl rfl rfl ?_
        obtain ⟨hb_26, h⟩ := h
        refine gb_iald (pc' := 283) κ dL_gives_282 rfl 4 0 rfl rfl hb_26 ?_
        refine gw_iconst (pc' := 284) (v := 1) κ dL_gives_283 rfl (by decide) ?_
        refine gw_iload (pc' := 286) κ dL_gives_284 rfl 6 rfl ?_
        refine gb_callS (rest := [.int (1 : Int32), .int ((upd nlg v7.toNatClampNeg ((nlg v7.toNatClampNeg) + r_24)) ((8 : Int32) + v7).toNatClampNeg), .int ((8 : Int32) + v7), .ref (jg 0)]) κ (c_L_areaOf  v6 h) ⟨rfl, rfl, Nat.le_of_ble_eq_true rfl, Nat.le_of_ble_eq_true rfl⟩ tw_ml_L_23 tw_st_L_areaOf tw_co_L_areaOf tw_in_L hy_L_areaOf rfl (Nat.le_of_ble_eq_true rfl) rfl dL_gives_286 [] rfl (by decide) (fun _ => Nat.le_of_ble_eq_true rfl) ⟨Nat.le_of_ble_eq_true rfl, Nat.le_of_ble_eq_true rfl⟩ (fun v u hv => ?_)
        obtain ⟨r_27, rfl, h⟩ := hv
        refine gw_nf (ws' := (wfl [cA34 jq cI lq, cA24 jr cI lr, cA24 jw cI (upd nlw (nlo v5.toNatClampNeg).toNatClampNeg v7), cA24 jo cI nlo, cA16 jg cI (upd nlg v7.toNatClampNeg ((nlg v7.toNatClampNeg) + r_24))])) (lv' := [(0, .ref (jq 0)), (1, .ref (jr 0)), (2, .ref (jw 0)), (3, .ref (jo 0)), (4, .ref (jg 0)), (5, .int v5), (6, .int v6), (7, .int v7), (8, .int v8)]) (st' := [.int r_27, .int (1 : Int32), .int ((upd nlg v7.toNatClampNeg ((nlg v7.toNatClampNeg) + r_24)) ((8 : Int32) + v7).toNatClampNeg), .int ((8 : Int32) + v7), .ref (jg 0)]) (pc' := 289) (ce' := 0) (sl' := 0) rfl rfl rfl rfl rfl rfl ?_
        refine gw_ishl (pc' := 290) κ dL_gives_289 rfl  ?_
        refine gw_ior (pc' := 291) κ dL_gives_290 rfl  ?_
        obtain ⟨hb_28, h⟩ := h
        refine gb_iast (pc' := 292) (bs' := [cA34 jq cI lq, cA24 jr cI lr, cA24 jw cI (upd nlw (nlo v5.toNatClampNeg).toNatClampNeg v7), cA24 jo cI nlo, cA16 jg cI (upd (upd nlg v7.toNatClampNeg ((nlg v7.toNatClampNeg) + r_24)) ((8 : Int32) + v7).toNatClampNeg (((upd nlg v7.toNatClampNeg ((nlg v7.toNatClampNeg) + r_24)) ((8 : Int32) + v7).toNatClampNeg) ||| ((1 : Int32) <<< (r_27 &&& 31))))]) κ dL_gives_291 rfl 4 0 rfl rfl hb_28 rfl ?_
        refine gw_iinc (pc' := 295) κ dL_gives_292 rfl 5 rfl (v := (v5 + 1)) rfl (by decide) (lv' := [(5, .int (v5 + 1)), (0, .ref (jq 0)), (1, .ref (jr 0)), (2, .ref (jw 0)), (3, .ref (jo 0)), (4, .ref (jg 0)), (6, .int v6), (7, .int v7), (8, .int v8)]) rfl ?_
        refine gw_goto (tgt := 96) κ dL_gives_295 (by decide) ?_
        refine gw_lv (lv' := [(0, .ref (jq 0)), (1, .ref (jr 0)), (2, .ref (jw 0)), (3, .ref (jo 0)), (4, .ref (jg 0)), (5, .int (v5 + 1))]) [1, 2, 3, 4, 5, 0] rfl ?_
        exact hr96 (v5 + 1) (upd nlw (nlo v5.toNatClampNeg).toNatClampNeg v7) (upd (upd nlg v7.toNatClampNeg ((nlg v7.toNatClampNeg) + r_24)) ((8 : Int32) + v7).toNatClampNeg (((upd nlg v7.toNatClampNeg ((nlg v7.toNatClampNeg) + r_24)) ((8 : Int32) + v7).toNatClampNeg) ||| ((1 : Int32) <<< (r_27 &&& 31)))) h
    · have h := h.2 hc_19
      refine gw_aload_n (pc' := 125) κ dL_gives_124 rfl 0 rfl rfl ?_
      refine gw_bipush (pc' := 127) (v := 18) κ dL_gives_125 rfl (by decide) ?_
      refine gw_iload (pc' := 129) κ dL_gives_127 rfl 8 rfl ?_
      refine gw_iadd (pc' := 130) κ dL_gives_129 rfl  ?_
      obtain ⟨hb_29, h⟩ := h
      refine gb_iald (pc' := 131) κ dL_gives_130 rfl 0 0 rfl rfl hb_29 ?_
      refine gw_iload (pc' := 133) κ dL_gives_131 rfl 6 rfl ?_
      refine gw_aload_n (pc' := 134) κ dL_gives_133 rfl 0 rfl rfl ?_
      refine gb_callS (rest := [.int (lq ((18 : Int32) + v8).toNatClampNeg)]) κ (c_L_ready jq lq v6 h) ⟨rfl, rfl, Nat.le_of_ble_eq_true rfl, Nat.le_of_ble_eq_true rfl⟩ tw_ml_L_16 tw_st_L_ready tw_co_L_ready tw_in_L hy_L_ready rfl (Nat.le_of_ble_eq_true rfl) rfl dL_gives_134 [0] rfl (by decide) (fun _ => Nat.le_of_ble_eq_true rfl) ⟨Nat.le_of_ble_eq_true rfl, Nat.le_of_ble_eq_true rfl⟩ (fun v u hv => ?_)
      obtain ⟨r_30, rfl, h⟩ := hv
      refine gw_nf (ws' := (wfl [cA34 jq cI lq, cA24 jr cI lr, cA24 jw cI nlw, cA24 jo cI nlo, cA16 jg cI nlg])) (lv' := [(0, .ref (jq 0)), (1, .ref (jr 0)), (2, .ref (jw 0)), (3, .ref (jo 0)), (4, .ref (jg 0)), (5, .int v5), (6, .int v6), (7, .int v7), (8, .int v8)]) (st' := [.int r_30, .int (lq ((18 : Int32) + v8).toNatClampNeg)]) (pc' := 137) (ce' := 0) (sl' := 0) rfl rfl rfl rfl rfl rfl ?_
      refine gw_isub (pc' := 138) κ dL_gives_137 rfl  ?_
      refine gw_istore (pc' := 140) κ dL_gives_138 rfl (by decide) (lv' := [(9, .int ((lq ((18 : Int32) + v8).toNatClampNeg) - r_30)), (0, .ref (jq 0)), (1, .ref (jr 0)), (2, .ref (jw 0)), (3, .ref (jo 0)), (4, .ref (jg 0)), (5, .int v5), (6, .int v6), (7, .int v7), (8, .int v8)]) rfl ?_
      refine gw_iload (pc' := 142) κ dL_gives_140 rfl 0 rfl ?_
      refine gw_if_lt (pc' := 145) (tgt := 203) κ dL_gives_142 rfl (by decide) (fun hc_31 => ?_) (fun hc_31 => ?_)
      · have h := h.1 hc_31
        refine gw_iconst (pc' := 204) (v := 0) κ dL_gives_203 rfl (by decide) ?_
        refine gw_lv (lv' := [(0, .ref (jq 0)), (1, .ref (jr 0)), (2, .ref (jw 0)), (3, .ref (jo 0)), (4, .ref (jg 0)), (5, .int v5), (6, .int v6), (7, .int v7), (8, .int v8)]) [1, 2, 3, 4, 5, 6, 7, 8, 9] rfl ?_
        exact k_L_gives_204 κ jq jr jw jo jg P lq lr lw lo lg r96 (wp_L_gives_119 P lq lr lw lo lg r96 v5 v6 nlw nlo nlg n119) v5 v6 v7 v8 (0 : Int32) nlw nlo nlg hr96 ih119 h
      · have h := h.2 hc_31
        refine gw_iload (pc' := 147) κ dL_gives_145 rfl 0 rfl ?_
        refine gw_aload_n (pc' := 148) κ dL_gives_147 rfl 1 rfl rfl ?_
        refine gw_iconst (pc' := 149) (v := 1) κ dL_gives_148 rfl (by decide) ?_
        refine gb_iald (pc' := 150) κ dL_gives_149 rfl 0 0 rfl rfl (by unfold vp_in; decide) ?_
        refine gw_icmp_gt (pc' := 153) (tgt := 203) κ dL_gives_150 rfl (by decide) (fun hc_33 => ?_) (fun hc_33 => ?_)
        · have h := h.1 hc_33
          refine gw_iconst (pc' := 204) (v := 0) κ dL_gives_203 rfl (by decide) ?_
          refine gw_lv (lv' := [(0, .ref (jq 0)), (1, .ref (jr 0)), (2, .ref (jw 0)), (3, .ref (jo 0)), (4, .ref (jg 0)), (5, .int v5), (6, .int v6), (7, .int v7), (8, .int v8)]) [1, 2, 3, 4, 5, 6, 7, 8, 9] rfl ?_
          exact k_L_gives_204 κ jq jr jw jo jg P lq lr lw lo lg r96 (wp_L_gives_119 P lq lr lw lo lg r96 v5 v6 nlw nlo nlg n119) v5 v6 v7 v8 (0 : Int32) nlw nlo nlg hr96 ih119 h
        · have h := h.2 hc_33
          refine gw_aload (pc' := 155) κ dL_gives_153 rfl 5 rfl ?_
          refine gw_iload (pc' := 157) κ dL_gives_155 rfl 9 rfl ?_
          obtain ⟨hb_34, h⟩ := h
          refine gb_iald (pc' := 158) κ dL_gives_157 rfl 4 0 rfl rfl hb_34 ?_
          refine gw_iload (pc' := 160) κ dL_gives_158 rfl 7 rfl ?_
          refine gb_callS (rest := [.int (nlg v8.toNatClampNeg)]) κ (c_L_people  v6 h) ⟨rfl, rfl, Nat.le_of_ble_eq_true rfl, Nat.le_of_ble_eq_true rfl⟩ tw_ml_L_20 tw_st_L_people tw_co_L_people tw_in_L hy_L_people rfl (Nat.le_of_ble_eq_true rfl) rfl dL_gives_160 [] rfl (by decide) (fun _ => Nat.le_of_ble_eq_true rfl) ⟨Nat.le_of_ble_eq_true rfl, Nat.le_of_ble_eq_true rfl⟩ (fun v u hv => ?_)
          obtain ⟨r_35, rfl, h⟩ := hv
          refine gw_nf (ws' := (wfl [cA34 jq cI lq, cA24 jr cI lr, cA24 jw cI nlw, cA24 jo cI nlo, cA16 jg cI nlg])) (lv' := [(9, .int ((lq ((18 : Int32) + v8).toNatClampNeg) - r_30)), (0, .ref (jq 0)), (1, .ref (jr 0)), (2, .ref (jw 0)), (3, .ref (jo 0)), (4, .ref (jg 0)), (5, .int v5), (6, .int v6), (7, .int v7), (8, .int v8)]) (st' := [.int r_35, .int (nlg v8.toNatClampNeg)]) (pc' := 163) (ce' := 0) (sl' := 0) rfl rfl rfl rfl rfl rfl ?_
          refine gw_iadd (pc' := 164) κ dL_gives_163 rfl  ?_
          refine gw_aload_n (pc' := 165) κ dL_gives_164 rfl 1 rfl rfl ?_
          refine gw_bipush (pc' := 167) (v := 26) κ dL_gives_165 rfl (by decide) ?_
          refine gw_iload (pc' := 169) κ dL_gives_167 rfl 9 rfl ?_
          refine gw_iadd (pc' := 170) κ dL_gives_169 rfl  ?_
          obtain ⟨hb_36, h⟩ := h
          refine gb_iald (pc' := 171) κ dL_gives_170 rfl 0 0 rfl rfl hb_36 ?_
          refine gw_icmp_gt (pc' := 174) (tgt := 203) κ dL_gives_171 rfl (by decide) (fun hc_37 => ?_) (fun hc_37 => ?_)
          · have h := h.1 hc_37
            refine gw_iconst (pc' := 204) (v := 0) κ dL_gives_203 rfl (by decide) ?_
            refine gw_lv (lv' := [(0, .ref (jq 0)), (1, .ref (jr 0)), (2, .ref (jw 0)), (3, .ref (jo 0)), (4, .ref (jg 0)), (5, .int v5), (6, .int v6), (7, .int v7), (8, .int v8)]) [1, 2, 3, 4, 5, 6, 7, 8, 9] rfl ?_
            exact k_L_gives_204 κ jq jr jw jo jg P lq lr lw lo lg r96 (wp_L_gives_119 P lq lr lw lo lg r96 v5 v6 nlw nlo nlg n119) v5 v6 v7 v8 (0 : Int32) nlw nlo nlg hr96 ih119 h
          · have h := h.2 hc_37
            refine gw_aload (pc' := 176) κ dL_gives_174 rfl 5 rfl ?_
            refine gw_bipush (pc' := 178) (v := 8) κ dL_gives_176 rfl (by decide) ?_
            refine gw_iload (pc' := 180) κ dL_gives_178 rfl 9 rfl ?_
            refine gw_iadd (pc' := 181) κ dL_gives_180 rfl  ?_
            obtain ⟨hb_38, h⟩ := h
            refine gb_iald (pc' := 182) κ dL_gives_181 rfl 4 0 rfl rfl hb_38 ?_
            refine gw_iconst (pc' := 183) (v := 1) κ dL_gives_182 rfl (by decide) ?_
            refine gw_iload (pc' := 185) κ dL_gives_183 rfl 7 rfl ?_
            refine gb_callS (rest := [.int (1 : Int32), .int (nlg ((8 : Int32) + v8).toNatClampNeg)]) κ (c_L_areaOf  v6 h) ⟨rfl, rfl, Nat.le_of_ble_eq_true rfl, Nat.le_of_ble_eq_true rfl⟩ tw_ml_L_23 tw_st_L_areaOf tw_co_L_areaOf tw_in_L hy_L_areaOf rfl (Nat.le_of_ble_eq_true rfl) rfl dL_gives_185 [] rfl (by decide) (fun _ => Nat.le_of_ble_eq_true rfl) ⟨Nat.le_of_ble_eq_true rfl, Nat.le_of_ble_eq_true rfl⟩ (fun v u hv => ?_)
            obtain ⟨r_39, rfl, h⟩ := hv
            refine gw_nf (ws' := (wfl [cA34 jq cI lq, cA24 jr cI lr, cA24 jw cI nlw, cA24 jo cI nlo, cA16 jg cI nlg])) (lv' := [(9, .int ((lq ((18 : Int32) + v8).toNatClampNeg) - r_30)), (0, .ref (jq 0)), (1, .ref (jr 0)), (2, .ref (jw 0)), (3, .ref (jo 0)), (4, .ref (jg 0)), (5, .int v5), (6, .int v6), (7, .int v7), (8, .int v8)]) (st' := [.int r_39, .int (1 : Int32), .int (nlg ((8 : Int32) + v8).toNatClampNeg)]) (pc' := 188) (ce' := 0) (sl' := 0) rfl rfl rfl rfl rfl rfl ?_
            refine gw_ishl (pc' := 189) κ dL_gives_188 rfl  ?_
            refine gw_ior (pc' := 190) κ dL_gives_189 rfl  ?_
            refine gb_callS (rest := []) κ (c_L_ones  ((nlg ((8 : Int32) + v8).toNatClampNeg) ||| ((1 : Int32) <<< (r_39 &&& 31))) h) ⟨rfl, rfl, Nat.le_of_ble_eq_true rfl, Nat.le_of_ble_eq_true rfl⟩ tw_ml_L_26 tw_st_L_ones tw_co_L_ones tw_in_L hy_L_ones rfl (Nat.le_of_ble_eq_true rfl) rfl dL_gives_190 [] rfl (by decide) (fun _ => Nat.le_of_ble_eq_true rfl) ⟨Nat.le_of_ble_eq_true rfl, Nat.le_of_ble_eq_true rfl⟩ (fun v u hv => ?_)
            obtain ⟨r_40, rfl, h⟩ := hv
            refine gw_nf (ws' := (wfl [cA34 jq cI lq, cA24 jr cI lr, cA24 jw cI nlw, cA24 jo cI nlo, cA16 jg cI nlg])) (lv' := [(9, .int ((lq ((18 : Int32) + v8).toNatClampNeg) - r_30)), (0, .ref (jq 0)), (1, .ref (jr 0)), (2, .ref (jw 0)), (3, .ref (jo 0)), (4, .ref (jg 0)), (5, .int v5), (6, .int v6), (7, .int v7), (8, .int v8)]) (st' := [.int r_40]) (pc' := 193) (ce' := 0) (sl' := 0) rfl rfl rfl rfl rfl rfl ?_
            refine gw_aload_n (pc' := 194) κ dL_gives_193 rfl 1 rfl rfl ?_
            refine gw_iconst (pc' := 195) (v := 2) κ dL_gives_194 rfl (by decide) ?_
            refine gb_iald (pc' := 196) κ dL_gives_195 rfl 0 0 rfl rfl (by unfold vp_in; decide) ?_
            refine gw_icmp_gt (pc' := 199) (tgt := 203) κ dL_gives_196 rfl (by decide) (fun hc_42 => ?_) (fun hc_42 => ?_)
            · have h := h.1 hc_42
              refine gw_iconst (pc' := 204) (v := 0) κ dL_gives_203 rfl (by decide) ?_
              refine gw_lv (lv' := [(0, .ref (jq 0)), (1, .ref (jr 0)), (2, .ref (jw 0)), (3, .ref (jo 0)), (4, .ref (jg 0)), (5, .int v5), (6, .int v6), (7, .int v7), (8, .int v8)]) [1, 2, 3, 4, 5, 6, 7, 8, 9] rfl ?_
              exact k_L_gives_204 κ jq jr jw jo jg P lq lr lw lo lg r96 (wp_L_gives_119 P lq lr lw lo lg r96 v5 v6 nlw nlo nlg n119) v5 v6 v7 v8 (0 : Int32) nlw nlo nlg hr96 ih119 h
            · have h := h.2 hc_42
              refine gw_iconst (pc' := 200) (v := 1) κ dL_gives_199 rfl (by decide) ?_
              refine gw_goto (tgt := 204) κ dL_gives_200 (by decide) ?_
              refine gw_lv (lv' := [(0, .ref (jq 0)), (1, .ref (jr 0)), (2, .ref (jw 0)), (3, .ref (jo 0)), (4, .ref (jg 0)), (5, .int v5), (6, .int v6), (7, .int v7), (8, .int v8)]) [1, 2, 3, 4, 5, 6, 7, 8, 9] rfl ?_
              exact k_L_gives_204 κ jq jr jw jo jg P lq lr lw lo lg r96 (wp_L_gives_119 P lq lr lw lo lg r96 v5 v6 nlw nlo nlg n119) v5 v6 v7 v8 (1 : Int32) nlw nlo nlg hr96 ih119 h
set_option maxHeartbeats 4000000 in
set_option maxRecDepth 100000 in
theorem k_L_gives_96 {zp : Program} {l : Launch} {ze : Env} {zs : State} {zm : MethodId} {za : Array Value} {zb : List Frame} {zt : Method} {zc : Code} {D : va_G} {cI cR : ClassId} {A : Nat → Prop} (κ : KC zp zs zm za zt zc cL_gives 11 RL D cI cR A none) (jq : Nat → Nat) (jr : Nat → Nat) (jw : Nat → Nat) (jo : Nat → Nat) (jg : Nat → Nat) (P : (Nat → Int32) → (Nat → Int32) → (Nat → Int32) → Prop) (lq : Nat → Int32) (lr : Nat → Int32) (lw : Nat → Int32) (lo : Nat → Int32) (lg : Nat → Int32) (nlo : Nat → Int32) : ∀ (n : Nat) (v5 : Int32) (nlw : Nat → Int32) (nlg : Nat → Int32), wp_L_gives_96 P lq lr lw lo lg nlo n v5 nlw nlg → GM zp l ze ({ frames := 2, cells := 0, slots := 0, locals := 41 } : Room) zs zm za zb zt zc D A 11 (pV (fun (u : (Nat → Int32) × (Nat → Int32) × (Nat → Int32)) => P u.1 u.2.1 u.2.2)) (fun u : (Nat → Int32) × (Nat → Int32) × (Nat → Int32) => (wfl [cA34 jq cI lq, cA24 jr cI lr, cA24 jw cI u.1, cA24 jo cI u.2.1, cA16 jg cI u.2.2])) 0 0 0 0 (wfl [cA34 jq cI lq, cA24 jr cI lr, cA24 jw cI nlw, cA24 jo cI nlo, cA16 jg cI nlg]) [(0, .ref (jq 0)), (1, .ref (jr 0)), (2, .ref (jw 0)), (3, .ref (jo 0)), (4, .ref (jg 0)), (5, .int v5)] 96 [] := by
  intro n96
  induction n96 with
  | zero => intro v5 nlw nlg h; exact (show False from h).elim
  | succ n96 ih96 =>
    intro v5 nlw nlg h
    have h : wp_L_gives_96F P lq lr lw lo lg nlo (wp_L_gives_96 P lq lr lw lo lg nlo n96) v5 nlw nlg := h
    unfold wp_L_gives_96F at h
    refine gw_iload (pc' := 98) κ dL_gives_96 rfl 5 rfl ?_
    refine gw_aload_n (pc' := 99) κ dL_gives_98 rfl 0 rfl rfl ?_
    refine gw_iconst (pc' := 100) (v := 5) κ dL_gives_99 rfl (by decide) ?_
    refine gb_iald (pc' := 101) κ dL_gives_100 rfl 0 0 rfl rfl (by unfold vp_in; decide) ?_
    refine gw_icmp_ge (pc' := 104) (tgt := 298) κ dL_gives_101 rfl (by decide) (fun hc_15 => ?_) (fun hc_15 => ?_)
    · have h := h.1 hc_15
      exact gw_vret κ dL_gives_298 (nlw, nlo, nlg) rfl ⟨rfl, h⟩
    · have h := h.2 hc_15
      refine gw_aload_n (pc' := 105) κ dL_gives_104 rfl 1 rfl rfl ?_
      refine gw_aload_n (pc' := 106) κ dL_gives_105 rfl 3 rfl rfl ?_
      refine gw_iload (pc' := 108) κ dL_gives_106 rfl 5 rfl ?_
      obtain ⟨hb_16, h⟩ := h
      refine gb_iald (pc' := 109) κ dL_gives_108 rfl 3 0 rfl rfl hb_16 ?_
      obtain ⟨hb_17, h⟩ := h
      refine gb_iald (pc' := 110) κ dL_gives_109 rfl 1 0 rfl rfl hb_17 ?_
      refine gw_istore (pc' := 112) κ dL_gives_110 rfl (by decide) (lv' := [(6, .int (lr (nlo v5.toNatClampNeg).toNatClampNeg)), (0, .ref (jq 0)), (1, .ref (jr 0)), (2, .ref (jw 0)), (3, .ref (jo 0)), (4, .ref (jg 0)), (5, .int v5)]) rfl ?_
      refine gw_iconst (pc' := 113) (v := -1) κ dL_gives_112 rfl (by decide) ?_
      refine gw_istore (pc' := 115) κ dL_gives_113 rfl (by decide) (lv' := [(7, .int (-1 : Int32)), (6, .int (lr (nlo v5.toNatClampNeg).toNatClampNeg)), (0, .ref (jq 0)), (1, .ref (jr 0)), (2, .ref (jw 0)), (3, .ref (jo 0)), (4, .ref (jg 0)), (5, .int v5)]) rfl ?_
      refine gw_bipush (pc' := 117) (v := 7) κ dL_gives_115 rfl (by decide) ?_
      refine gw_istore (pc' := 119) κ dL_gives_117 rfl (by decide) (lv' := [(8, .int (7 : Int32)), (7, .int (-1 : Int32)), (6, .int (lr (nlo v5.toNatClampNeg).toNatClampNeg)), (0, .ref (jq 0)), (1, .ref (jr 0)), (2, .ref (jw 0)), (3, .ref (jo 0)), (4, .ref (jg 0)), (5, .int v5)]) rfl ?_
      obtain ⟨m119, h⟩ := h
      refine gw_lv (lv' := [(0, .ref (jq 0)), (1, .ref (jr 0)), (2, .ref (jw 0)), (3, .ref (jo 0)), (4, .ref (jg 0)), (5, .int v5), (6, .int (lr (nlo v5.toNatClampNeg).toNatClampNeg)), (7, .int (-1 : Int32)), (8, .int (7 : Int32))]) [3, 4, 5, 6, 7, 8, 2, 1, 0] rfl ?_
      exact k_L_gives_119 κ jq jr jw jo jg P lq lr lw lo lg (wp_L_gives_96 P lq lr lw lo lg nlo n96) v5 (lr (nlo v5.toNatClampNeg).toNatClampNeg) nlw nlo nlg ih96 m119 (-1 : Int32) (7 : Int32) h
set_option maxHeartbeats 4000000 in
set_option maxRecDepth 100000 in
theorem k_L_gives_74 {zp : Program} {l : Launch} {ze : Env} {zs : State} {zm : MethodId} {za : Array Value} {zb : List Frame} {zt : Method} {zc : Code} {D : va_G} {cI cR : ClassId} {A : Nat → Prop} (κ : KC zp zs zm za zt zc cL_gives 11 RL D cI cR A none) (jq : Nat → Nat) (jr : Nat → Nat) (jw : Nat → Nat) (jo : Nat → Nat) (jg : Nat → Nat) (P : (Nat → Int32) → (Nat → Int32) → (Nat → Int32) → Prop) (lq : Nat → Int32) (lr : Nat → Int32) (lw : Nat → Int32) (lo : Nat → Int32) (lg : Nat → Int32) (nlw : Nat → Int32) (nlo : Nat → Int32) : ∀ (n : Nat) (v5 : Int32) (nlg : Nat → Int32), wp_L_gives_74 P lq lr lw lo lg nlw nlo n v5 nlg → GM zp l ze ({ frames := 2, cells := 0, slots := 0, locals := 41 } : Room) zs zm za zb zt zc D A 11 (pV (fun (u : (Nat → Int32) × (Nat → Int32) × (Nat → Int32)) => P u.1 u.2.1 u.2.2)) (fun u : (Nat → Int32) × (Nat → Int32) × (Nat → Int32) => (wfl [cA34 jq cI lq, cA24 jr cI lr, cA24 jw cI u.1, cA24 jo cI u.2.1, cA16 jg cI u.2.2])) 0 0 0 0 (wfl [cA34 jq cI lq, cA24 jr cI lr, cA24 jw cI nlw, cA24 jo cI nlo, cA16 jg cI nlg]) [(0, .ref (jq 0)), (1, .ref (jr 0)), (2, .ref (jw 0)), (3, .ref (jo 0)), (4, .ref (jg 0)), (5, .int v5)] 74 [] := by
  intro n74
  induction n74 with
  | zero => intro v5 nlg h; exact (show False from h).elim
  | succ n74 ih74 =>
    intro v5 nlg h
    have h : wp_L_gives_74F P lq lr lw lo lg nlw nlo (wp_L_gives_74 P lq lr lw lo lg nlw nlo n74) v5 nlg := h
    unfold wp_L_gives_74F at h
    refine gw_iload (pc' := 76) κ dL_gives_74 rfl 5 rfl ?_
    refine gw_bipush (pc' := 78) (v := 16) κ dL_gives_76 rfl (by decide) ?_
    refine gw_icmp_ge (pc' := 81) (tgt := 93) κ dL_gives_78 rfl (by decide) (fun hc_3 => ?_) (fun hc_3 => ?_)
    · have h := h.1 hc_3
      refine gw_iconst (pc' := 94) (v := 0) κ dL_gives_93 rfl (by decide) ?_
      refine gw_istore (pc' := 96) κ dL_gives_94 rfl (by decide) (lv' := [(5, .int (0 : Int32)), (0, .ref (jq 0)), (1, .ref (jr 0)), (2, .ref (jw 0)), (3, .ref (jo 0)), (4, .ref (jg 0))]) rfl ?_
      obtain ⟨m96, h⟩ := h
      refine gw_lv (lv' := [(0, .ref (jq 0)), (1, .ref (jr 0)), (2, .ref (jw 0)), (3, .ref (jo 0)), (4, .ref (jg 0)), (5, .int (0 : Int32))]) [1, 2, 3, 4, 5, 0] rfl ?_
      exact k_L_gives_96 κ jq jr jw jo jg P lq lr lw lo lg nlo m96 (0 : Int32) nlw nlg h
    · have h := h.2 hc_3
      refine gw_aload (pc' := 83) κ dL_gives_81 rfl 4 rfl ?_
      refine gw_iload (pc' := 85) κ dL_gives_83 rfl 5 rfl ?_
      refine gw_iconst (pc' := 86) (v := 0) κ dL_gives_85 rfl (by decide) ?_
      obtain ⟨hb_4, h⟩ := h
      refine gb_iast (pc' := 87) (bs' := [cA34 jq cI lq, cA24 jr cI lr, cA24 jw cI nlw, cA24 jo cI nlo, cA16 jg cI (upd nlg v5.toNatClampNeg (0 : Int32))]) κ dL_gives_86 rfl 4 0 rfl rfl hb_4 rfl ?_
      refine gw_iinc (pc' := 90) κ dL_gives_87 rfl 5 rfl (v := (v5 + 1)) rfl (by decide) (lv' := [(5, .int (v5 + 1)), (0, .ref (jq 0)), (1, .ref (jr 0)), (2, .ref (jw 0)), (3, .ref (jo 0)), (4, .ref (jg 0))]) rfl ?_
      refine gw_goto (tgt := 74) κ dL_gives_90 (by decide) ?_
      refine gw_lv (lv' := [(0, .ref (jq 0)), (1, .ref (jr 0)), (2, .ref (jw 0)), (3, .ref (jo 0)), (4, .ref (jg 0)), (5, .int (v5 + 1))]) [1, 2, 3, 4, 5, 0] rfl ?_
      exact ih74 (v5 + 1) (upd nlg v5.toNatClampNeg (0 : Int32)) h
set_option maxHeartbeats 4000000 in
set_option maxRecDepth 100000 in
theorem k_L_gives_3 {zp : Program} {l : Launch} {ze : Env} {zs : State} {zm : MethodId} {za : Array Value} {zb : List Frame} {zt : Method} {zc : Code} {D : va_G} {cI cR : ClassId} {A : Nat → Prop} (κ : KC zp zs zm za zt zc cL_gives 11 RL D cI cR A none) (jq : Nat → Nat) (jr : Nat → Nat) (jw : Nat → Nat) (jo : Nat → Nat) (jg : Nat → Nat) (P : (Nat → Int32) → (Nat → Int32) → (Nat → Int32) → Prop) (lq : Nat → Int32) (lr : Nat → Int32) (lw : Nat → Int32) (lo : Nat → Int32) (lg : Nat → Int32) (nlw : Nat → Int32) (nlg : Nat → Int32) : ∀ (n : Nat) (v5 : Int32) (nlo : Nat → Int32), wp_L_gives_3 P lq lr lw lo lg nlw nlg n v5 nlo → GM zp l ze ({ frames := 2, cells := 0, slots := 0, locals := 41 } : Room) zs zm za zb zt zc D A 11 (pV (fun (u : (Nat → Int32) × (Nat → Int32) × (Nat → Int32)) => P u.1 u.2.1 u.2.2)) (fun u : (Nat → Int32) × (Nat → Int32) × (Nat → Int32) => (wfl [cA34 jq cI lq, cA24 jr cI lr, cA24 jw cI u.1, cA24 jo cI u.2.1, cA16 jg cI u.2.2])) 0 0 0 0 (wfl [cA34 jq cI lq, cA24 jr cI lr, cA24 jw cI nlw, cA24 jo cI nlo, cA16 jg cI nlg]) [(0, .ref (jq 0)), (1, .ref (jr 0)), (2, .ref (jw 0)), (3, .ref (jo 0)), (4, .ref (jg 0)), (5, .int v5)] 3 [] := by
  intro n3
  induction n3 with
  | zero => intro v5 nlo h; exact (show False from h).elim
  | succ n3 ih3 =>
    intro v5 nlo h
    have h : wp_L_gives_3F P lq lr lw lo lg nlw nlg (wp_L_gives_3 P lq lr lw lo lg nlw nlg n3) v5 nlo := h
    unfold wp_L_gives_3F at h
    refine gw_iload (pc' := 5) κ dL_gives_3 rfl 5 rfl ?_
    refine gw_aload_n (pc' := 6) κ dL_gives_5 rfl 0 rfl rfl ?_
    refine gw_iconst (pc' := 7) (v := 5) κ dL_gives_6 rfl (by decide) ?_
    refine gb_iald (pc' := 8) κ dL_gives_7 rfl 0 0 rfl rfl (by unfold vp_in; decide) ?_
    refine gw_icmp_ge (pc' := 11) (tgt := 71) κ dL_gives_8 rfl (by decide) (fun hc_2 => ?_) (fun hc_2 => ?_)
    · have h := h.1 hc_2
      refine gw_iconst (pc' := 72) (v := 0) κ dL_gives_71 rfl (by decide) ?_
      refine gw_istore (pc' := 74) κ dL_gives_72 rfl (by decide) (lv' := [(5, .int (0 : Int32)), (0, .ref (jq 0)), (1, .ref (jr 0)), (2, .ref (jw 0)), (3, .ref (jo 0)), (4, .ref (jg 0))]) rfl ?_
      obtain ⟨m74, h⟩ := h
      refine gw_lv (lv' := [(0, .ref (jq 0)), (1, .ref (jr 0)), (2, .ref (jw 0)), (3, .ref (jo 0)), (4, .ref (jg 0)), (5, .int (0 : Int32))]) [1, 2, 3, 4, 5, 0] rfl ?_
      exact k_L_gives_74 κ jq jr jw jo jg P lq lr lw lo lg nlw nlo m74 (0 : Int32) nlg h
    · have h := h.2 hc_2
      refine gw_iload (pc' := 13) κ dL_gives_11 rfl 5 rfl ?_
      refine gw_istore (pc' := 15) κ dL_gives_13 rfl (by decide) (lv' := [(6, .int v5), (0, .ref (jq 0)), (1, .ref (jr 0)), (2, .ref (jw 0)), (3, .ref (jo 0)), (4, .ref (jg 0)), (5, .int v5)]) rfl ?_
      obtain ⟨m15, h⟩ := h
      refine gw_lv (lv' := [(0, .ref (jq 0)), (1, .ref (jr 0)), (2, .ref (jw 0)), (3, .ref (jo 0)), (4, .ref (jg 0)), (5, .int v5), (6, .int v5)]) [1, 2, 3, 4, 5, 6, 0] rfl ?_
      exact k_L_gives_15 κ jq jr jw jo jg P lq lr lw lo lg (wp_L_gives_3 P lq lr lw lo lg nlw nlg n3) v5 nlw nlg ih3 m15 v5 nlo h
set_option maxHeartbeats 4000000 in
set_option maxRecDepth 100000 in
theorem c_L_gives {l : Launch} {D : va_G} {cI cR : ClassId}  (jq : Nat → Nat) (jr : Nat → Nat) (jw : Nat → Nat) (jo : Nat → Nat) (jg : Nat → Nat) {P : (Nat → Int32) → (Nat → Int32) → (Nat → Int32) → Prop} (lq : Nat → Int32) (lr : Nat → Int32) (lw : Nat → Int32) (lo : Nat → Int32) (lg : Nat → Int32) (h : wp_L_gives P lq lr lw lo lg) : CT l D cI cR yL_gives cL_gives 11 none ({ frames := 2, cells := 0, slots := 0, locals := 41 } : Room) [.ref (jq 0), .ref (jr 0), .ref (jw 0), .ref (jo 0), .ref (jg 0)] (wfl [cA34 jq cI lq, cA24 jr cI lr, cA24 jw cI lw, cA24 jo cI lo, cA16 jg cI lg]) (fun u : (Nat → Int32) × (Nat → Int32) × (Nat → Int32) => (wfl [cA34 jq cI lq, cA24 jr cI lr, cA24 jw cI u.1, cA24 jo cI u.2.1, cA16 jg cI u.2.2])) (pV (fun (u : (Nat → Int32) × (Nat → Int32) × (Nat → Int32)) => P u.1 u.2.1 u.2.2)) 0 0 := by
  refine ct_of RL rfl (by decide +kernel) (Nat.le_of_ble_eq_true rfl) (fun zp ze zs zm zb zt zc A hin κ => ?_)
  unfold wp_L_gives at h
  refine gw_nf (lv' := [(0, .ref (jq 0)), (1, .ref (jr 0)), (2, .ref (jw 0)), (3, .ref (jo 0)), (4, .ref (jg 0))]) (pc' := 0) (st' := []) (ce' := 0) (sl' := 0) rfl rfl rfl rfl rfl rfl ?_
  refine gw_iconst (pc' := 1) (v := 0) κ dL_gives_0 rfl (by decide) ?_
  refine gw_istore (pc' := 3) κ dL_gives_1 rfl (by decide) (lv' := [(5, .int (0 : Int32)), (0, .ref (jq 0)), (1, .ref (jr 0)), (2, .ref (jw 0)), (3, .ref (jo 0)), (4, .ref (jg 0))]) rfl ?_
  obtain ⟨m3, h⟩ := h
  refine gw_lv (lv' := [(0, .ref (jq 0)), (1, .ref (jr 0)), (2, .ref (jw 0)), (3, .ref (jo 0)), (4, .ref (jg 0)), (5, .int (0 : Int32))]) [1, 2, 3, 4, 5, 0] rfl ?_
  exact k_L_gives_3 κ jq jr jw jo jg P lq lr lw lo lg lw lg m3 (0 : Int32) lo h
theorem hy_L_keyOf : g_hy yL_keyOf 1 := by decide +kernel
set_option maxHeartbeats 4000000 in
set_option maxRecDepth 100000 in
theorem c_L_keyOf {l : Launch} {D : va_G} {cI cR : ClassId}  {P : Int32 → Prop} (x0 : Int32) (h : wp_L_keyOf P x0) : CT l D cI cR yL_keyOf cL_keyOf 1 (some .int) ({ frames := 1, cells := 0, slots := 0, locals := 20 } : Room) [.int x0] (wfl ([] : List va_W)) (fun _ : Unit => (wfl ([] : List va_W))) (pI (fun (r : Int32) (_ : Unit) => P r)) 0 0 := by
  refine ct_of RL rfl (by decide +kernel) (Nat.le_of_ble_eq_true rfl) (fun zp ze zs zm zb zt zc A hin κ => ?_)
  unfold wp_L_keyOf at h
  refine gw_nf (lv' := [(0, .int x0)]) (pc' := 0) (st' := []) (ce' := 0) (sl' := 0) rfl rfl rfl rfl rfl rfl ?_
  refine gw_bipush (pc' := 2) (v := 100) κ dL_keyOf_0 rfl (by decide) ?_
  refine gw_iload_n (pc' := 3) κ dL_keyOf_2 rfl 0 rfl rfl ?_
  refine gb_callS (rest := [.int (100 : Int32)]) κ (c_L_areaOf  x0 h) ⟨rfl, rfl, Nat.le_of_ble_eq_true rfl, Nat.le_of_ble_eq_true rfl⟩ tw_ml_L_23 tw_st_L_areaOf tw_co_L_areaOf tw_in_L hy_L_areaOf rfl (Nat.le_of_ble_eq_true rfl) rfl dL_keyOf_3 [] rfl (by decide) (fun _ => Nat.le_of_ble_eq_true rfl) ⟨Nat.le_of_ble_eq_true rfl, Nat.le_of_ble_eq_true rfl⟩ (fun v u hv => ?_)
  obtain ⟨r_1, rfl, h⟩ := hv
  refine gw_nf (ws' := (wfl ([] : List va_W))) (lv' := [(0, .int x0)]) (st' := [.int r_1, .int (100 : Int32)]) (pc' := 6) (ce' := 0) (sl' := 0) rfl rfl rfl rfl rfl rfl ?_
  refine gw_imul (pc' := 7) κ dL_keyOf_6 rfl  ?_
  refine gw_iload_n (pc' := 8) κ dL_keyOf_7 rfl 0 rfl rfl ?_
  refine gb_callS (rest := [.int ((100 : Int32) * r_1)]) κ (c_L_doorOf  x0 h) ⟨rfl, rfl, Nat.le_of_ble_eq_true rfl, Nat.le_of_ble_eq_true rfl⟩ tw_ml_L_32 tw_st_L_doorOf tw_co_L_doorOf tw_in_L hy_L_doorOf rfl (Nat.le_of_ble_eq_true rfl) rfl dL_keyOf_8 [] rfl (by decide) (fun _ => Nat.le_of_ble_eq_true rfl) ⟨Nat.le_of_ble_eq_true rfl, Nat.le_of_ble_eq_true rfl⟩ (fun v u hv => ?_)
  obtain ⟨r_2, rfl, h⟩ := hv
  refine gw_nf (ws' := (wfl ([] : List va_W))) (lv' := [(0, .int x0)]) (st' := [.int r_2, .int ((100 : Int32) * r_1)]) (pc' := 11) (ce' := 0) (sl' := 0) rfl rfl rfl rfl rfl rfl ?_
  refine gw_iadd (pc' := 12) κ dL_keyOf_11 rfl  ?_
  exact gw_iret κ dL_keyOf_12 () rfl ⟨_, rfl, h⟩
