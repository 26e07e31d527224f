theorem hy_X5_isIn : g_hy yX5_isIn 3 := by decide +kernel
set_option maxHeartbeats 4000000 in
set_option maxRecDepth 100000 in
theorem c_X5_isIn {l : Launch} {D : va_G} {cI cR : ClassId}  {P : Int32 → Prop} (x0 : Int32) (x1 : Int32) (x2 : Int32) (h : wp_X5_isIn P x0 x1 x2) : CT l D cI cR yX5_isIn cX5_isIn 3 (some .boolean) ({ frames := 0, cells := 0, slots := 0, locals := 0 } : Room) [.int x0, .int x1, .int x2] (wfl ([] : List va_W)) (fun _ : Unit => (wfl ([] : List va_W))) (pI (fun (r : Int32) (_ : Unit) => P r)) 0 0 := by
  refine ct_of RX5 rfl (by decide +kernel) (Nat.le_of_ble_eq_true rfl) (fun zp ze zs zm zb zt zc A hin κ => ?_)
  unfold wp_X5_isIn at h
  refine gw_nf (lv' := [(0, .int x0), (1, .int x1), (2, .int x2)]) (pc' := 0) (st' := []) (ce' := 0) (sl' := 0) rfl rfl rfl rfl rfl rfl ?_
  refine gw_iload_n (pc' := 1) κ dX5_isIn_0 rfl 0 rfl rfl ?_
  refine gw_iload_n (pc' := 2) κ dX5_isIn_1 rfl 1 rfl rfl ?_
  refine gw_icmp_lt (pc' := 5) (tgt := 14) κ dX5_isIn_2 rfl (by decide) (fun hc_1 => ?_) (fun hc_1 => ?_)
  · have h := h.1 hc_1
    refine gw_iconst (pc' := 15) (v := 0) κ dX5_isIn_14 rfl (by decide) ?_
    exact gw_zret κ dX5_isIn_15 () rfl rfl ⟨_, rfl, h⟩
  · have h := h.2 hc_1
    refine gw_iload_n (pc' := 6) κ dX5_isIn_5 rfl 0 rfl rfl ?_
    refine gw_iload_n (pc' := 7) κ dX5_isIn_6 rfl 2 rfl rfl ?_
    refine gw_icmp_gt (pc' := 10) (tgt := 14) κ dX5_isIn_7 rfl (by decide) (fun hc_2 => ?_) (fun hc_2 => ?_)
    · have h := h.1 hc_2
      refine gw_iconst (pc' := 15) (v := 0) κ dX5_isIn_14 rfl (by decide) ?_
      exact gw_zret κ dX5_isIn_15 () rfl rfl ⟨_, rfl, h⟩
    · have h := h.2 hc_2
      refine gw_iconst (pc' := 11) (v := 1) κ dX5_isIn_10 rfl (by decide) ?_
      refine gw_goto (tgt := 15) κ dX5_isIn_11 (by decide) ?_
      exact gw_zret κ dX5_isIn_15 () rfl rfl ⟨_, rfl, h⟩
theorem hy_X3_copyFrom : g_hy yX3_copyFrom 1 := by decide +kernel
set_option maxHeartbeats 4000000 in
set_option maxRecDepth 100000 in
theorem c_X3_copyFrom {l : Launch} {D : va_G} {cI cR : ClassId}  (qa : Nat → Nat) (qb : Nat → Nat) {P : (Nat → Int32) → (Nat → Int32) → (Nat → Int32) → (Nat → Int32) → (Nat → Int32) → (Nat → Int32) → (Nat → Int32) → (Nat → Int32) → (Nat → Int32) → Int32 → Prop} (o0 : StT) (o1 : StT) (h : wp_X3_copyFrom P o0 o1) : CT l D cI cR yX3_copyFrom cX3_copyFrom 2 none ({ frames := 1, cells := 0, slots := 0, locals := 40 } : Room) [.ref (qa 0), .ref (qb 0)] (wfl [cSt qa cI o0.se o0.la o0.de o0.le o0.sa o0.fl o0.ar o0.dr o0.pe o0.ri, cSt qb cI o1.se o1.la o1.de o1.le o1.sa o1.fl o1.ar o1.dr o1.pe o1.ri]) (fun u : (Nat → Int32) × (Nat → Int32) × (Nat → Int32) × (Nat → Int32) × (Nat → Int32) × (Nat → Int32) × (Nat → Int32) × (Nat → Int32) × (Nat → Int32) × Int32 => (wfl [cSt qa cI u.1 u.2.1 u.2.2.1 u.2.2.2.1 u.2.2.2.2.1 u.2.2.2.2.2.1 u.2.2.2.2.2.2.1 u.2.2.2.2.2.2.2.1 u.2.2.2.2.2.2.2.2.1 u.2.2.2.2.2.2.2.2.2, cSt qb cI o1.se o1.la o1.de o1.le o1.sa o1.fl o1.ar o1.dr o1.pe o1.ri])) (pV (fun (u : (Nat → Int32) × (Nat → Int32) × (Nat → Int32) × (Nat → Int32) × (Nat → Int32) × (Nat → Int32) × (Nat → Int32) × (Nat → Int32) × (Nat → Int32) × Int32) => P u.1 u.2.1 u.2.2.1 u.2.2.2.1 u.2.2.2.2.1 u.2.2.2.2.2.1 u.2.2.2.2.2.2.1 u.2.2.2.2.2.2.2.1 u.2.2.2.2.2.2.2.2.1 u.2.2.2.2.2.2.2.2.2)) 0 0 := by
  refine ct_of RX3 rfl (by decide +kernel) (Nat.le_of_ble_eq_true rfl) (fun zp ze zs zm zb zt zc A hin κ => ?_)
  unfold wp_X3_copyFrom at h
  refine gw_nf (lv' := [(0, .ref (qa 0)), (1, .ref (qb 0))]) (pc' := 0) (st' := []) (ce' := 0) (sl' := 0) rfl rfl rfl rfl rfl rfl ?_
  refine gw_aload_n (pc' := 1) κ dX3_copyFrom_0 rfl 1 rfl rfl ?_
  refine gb_get (pc' := 4) (C := RX3) (T := TX3) (N := 10) κ dX3_copyFrom_1 rfl inX3 1 rfl rfl rfl 0 (by decide) tw_fl_X3_9 rfl ?_
  refine gw_iconst (pc' := 5) (v := 0) κ dX3_copyFrom_4 rfl (by decide) ?_
  refine gw_aload_n (pc' := 6) κ dX3_copyFrom_5 rfl 0 rfl rfl ?_
  refine gb_get (pc' := 9) (C := RX3) (T := TX3) (N := 10) κ dX3_copyFrom_6 rfl inX3 0 rfl rfl rfl 0 (by decide) tw_fl_X3_9 rfl ?_
  refine gw_iconst (pc' := 10) (v := 0) κ dX3_copyFrom_9 rfl (by decide) ?_
  refine gw_iconst (pc' := 11) (v := 5) κ dX3_copyFrom_10 rfl (by decide) ?_
  refine gb_copy (pc' := 14) (bs' := [cSt qa cI o1.se o0.la o0.de o0.le o0.sa o0.fl o0.ar o0.dr o0.pe o0.ri, cSt qb cI o1.se o1.la o1.de o1.le o1.sa o1.fl o1.ar o1.dr o1.pe o1.ri]) κ dX3_copyFrom_11 rfl 1 1 0 1 rfl rfl rfl rfl (by decide) (by decide) tw_ml_X3_42 tw_in_J10 ⟨Nat.le_of_ble_eq_true rfl, Nat.le_of_ble_eq_true rfl⟩ rfl ?_
  refine gw_aload_n (pc' := 15) κ dX3_copyFrom_14 rfl 1 rfl rfl ?_
  refine gb_get (pc' := 18) (C := RX3) (T := TX3) (N := 10) κ dX3_copyFrom_15 rfl inX3 1 rfl rfl rfl 1 (by decide) tw_fl_X3_15 rfl ?_
  refine gw_iconst (pc' := 19) (v := 0) κ dX3_copyFrom_18 rfl (by decide) ?_
  refine gw_aload_n (pc' := 20) κ dX3_copyFrom_19 rfl 0 rfl rfl ?_
  refine gb_get (pc' := 23) (C := RX3) (T := TX3) (N := 10) κ dX3_copyFrom_20 rfl inX3 0 rfl rfl rfl 1 (by decide) tw_fl_X3_15 rfl ?_
  refine gw_iconst (pc' := 24) (v := 0) κ dX3_copyFrom_23 rfl (by decide) ?_
  refine gw_bipush (pc' := 26) (v := 6) κ dX3_copyFrom_24 rfl (by decide) ?_
  refine gb_copy (pc' := 29) (bs' := [cSt qa cI o1.se o1.la o0.de o0.le o0.sa o0.fl o0.ar o0.dr o0.pe o0.ri, cSt qb cI o1.se o1.la o1.de o1.le o1.sa o1.fl o1.ar o1.dr o1.pe o1.ri]) κ dX3_copyFrom_26 rfl 1 2 0 2 rfl rfl rfl rfl (by decide) (by decide) tw_ml_X3_42 tw_in_J10 ⟨Nat.le_of_ble_eq_true rfl, Nat.le_of_ble_eq_true rfl⟩ rfl ?_
  refine gw_aload_n (pc' := 30) κ dX3_copyFrom_29 rfl 1 rfl rfl ?_
  refine gb_get (pc' := 33) (C := RX3) (T := TX3) (N := 10) κ dX3_copyFrom_30 rfl inX3 1 rfl rfl rfl 2 (by decide) tw_fl_X3_18 rfl ?_
  refine gw_iconst (pc' := 34) (v := 0) κ dX3_copyFrom_33 rfl (by decide) ?_
  refine gw_aload_n (pc' := 35) κ dX3_copyFrom_34 rfl 0 rfl rfl ?_
  refine gb_get (pc' := 38) (C := RX3) (T := TX3) (N := 10) κ dX3_copyFrom_35 rfl inX3 0 rfl rfl rfl 2 (by decide) tw_fl_X3_18 rfl ?_
  refine gw_iconst (pc' := 39) (v := 0) κ dX3_copyFrom_38 rfl (by decide) ?_
  refine gw_bipush (pc' := 41) (v := 6) κ dX3_copyFrom_39 rfl (by decide) ?_
  refine gb_copy (pc' := 44) (bs' := [cSt qa cI o1.se o1.la o1.de o0.le o0.sa o0.fl o0.ar o0.dr o0.pe o0.ri, cSt qb cI o1.se o1.la o1.de o1.le o1.sa o1.fl o1.ar o1.dr o1.pe o1.ri]) κ dX3_copyFrom_41 rfl 1 3 0 3 rfl rfl rfl rfl (by decide) (by decide) tw_ml_X3_42 tw_in_J10 ⟨Nat.le_of_ble_eq_true rfl, Nat.le_of_ble_eq_true rfl⟩ rfl ?_
  refine gw_aload_n (pc' := 45) κ dX3_copyFrom_44 rfl 1 rfl rfl ?_
  refine gb_get (pc' := 48) (C := RX3) (T := TX3) (N := 10) κ dX3_copyFrom_45 rfl inX3 1 rfl rfl rfl 3 (by decide) tw_fl_X3_21 rfl ?_
  refine gw_iconst (pc' := 49) (v := 0) κ dX3_copyFrom_48 rfl (by decide) ?_
  refine gw_aload_n (pc' := 50) κ dX3_copyFrom_49 rfl 0 rfl rfl ?_
  refine gb_get (pc' := 53) (C := RX3) (T := TX3) (N := 10) κ dX3_copyFrom_50 rfl inX3 0 rfl rfl rfl 3 (by decide) tw_fl_X3_21 rfl ?_
  refine gw_iconst (pc' := 54) (v := 0) κ dX3_copyFrom_53 rfl (by decide) ?_
  refine gw_bipush (pc' := 56) (v := 8) κ dX3_copyFrom_54 rfl (by decide) ?_
  refine gb_copy (pc' := 59) (bs' := [cSt qa cI o1.se o1.la o1.de o1.le o0.sa o0.fl o0.ar o0.dr o0.pe o0.ri, cSt qb cI o1.se o1.la o1.de o1.le o1.sa o1.fl o1.ar o1.dr o1.pe o1.ri]) κ dX3_copyFrom_56 rfl 1 4 0 4 rfl rfl rfl rfl (by decide) (by decide) tw_ml_X3_42 tw_in_J10 ⟨Nat.le_of_ble_eq_true rfl, Nat.le_of_ble_eq_true rfl⟩ rfl ?_
  refine gw_aload_n (pc' := 60) κ dX3_copyFrom_59 rfl 1 rfl rfl ?_
  refine gb_get (pc' := 63) (C := RX3) (T := TX3) (N := 10) κ dX3_copyFrom_60 rfl inX3 1 rfl rfl rfl 4 (by decide) tw_fl_X3_24 rfl ?_
  refine gw_iconst (pc' := 64) (v := 0) κ dX3_copyFrom_63 rfl (by decide) ?_
  refine gw_aload_n (pc' := 65) κ dX3_copyFrom_64 rfl 0 rfl rfl ?_
  refine gb_get (pc' := 68) (C := RX3) (T := TX3) (N := 10) κ dX3_copyFrom_65 rfl inX3 0 rfl rfl rfl 4 (by decide) tw_fl_X3_24 rfl ?_
  refine gw_iconst (pc' := 69) (v := 0) κ dX3_copyFrom_68 rfl (by decide) ?_
  refine gw_bipush (pc' := 71) (v := 8) κ dX3_copyFrom_69 rfl (by decide) ?_
  refine gb_copy (pc' := 74) (bs' := [cSt qa cI o1.se o1.la o1.de o1.le o1.sa o0.fl o0.ar o0.dr o0.pe o0.ri, cSt qb cI o1.se o1.la o1.de o1.le o1.sa o1.fl o1.ar o1.dr o1.pe o1.ri]) κ dX3_copyFrom_71 rfl 1 5 0 5 rfl rfl rfl rfl (by decide) (by decide) tw_ml_X3_42 tw_in_J10 ⟨Nat.le_of_ble_eq_true rfl, Nat.le_of_ble_eq_true rfl⟩ rfl ?_
  refine gw_aload_n (pc' := 75) κ dX3_copyFrom_74 rfl 1 rfl rfl ?_
  refine gb_get (pc' := 78) (C := RX3) (T := TX3) (N := 10) κ dX3_copyFrom_75 rfl inX3 1 rfl rfl rfl 5 (by decide) tw_fl_X3_27 rfl ?_
  refine gw_iconst (pc' := 79) (v := 0) κ dX3_copyFrom_78 rfl (by decide) ?_
  refine gw_aload_n (pc' := 80) κ dX3_copyFrom_79 rfl 0 rfl rfl ?_
  refine gb_get (pc' := 83) (C := RX3) (T := TX3) (N := 10) κ dX3_copyFrom_80 rfl inX3 0 rfl rfl rfl 5 (by decide) tw_fl_X3_27 rfl ?_
  refine gw_iconst (pc' := 84) (v := 0) κ dX3_copyFrom_83 rfl (by decide) ?_
  refine gw_bipush (pc' := 86) (v := 24) κ dX3_copyFrom_84 rfl (by decide) ?_
  refine gb_copy (pc' := 89) (bs' := [cSt qa cI o1.se o1.la o1.de o1.le o1.sa o1.fl o0.ar o0.dr o0.pe o0.ri, cSt qb cI o1.se o1.la o1.de o1.le o1.sa o1.fl o1.ar o1.dr o1.pe o1.ri]) κ dX3_copyFrom_86 rfl 1 6 0 6 rfl rfl rfl rfl (by decide) (by decide) tw_ml_X3_42 tw_in_J10 ⟨Nat.le_of_ble_eq_true rfl, Nat.le_of_ble_eq_true rfl⟩ rfl ?_
  refine gw_aload_n (pc' := 90) κ dX3_copyFrom_89 rfl 1 rfl rfl ?_
  refine gb_get (pc' := 93) (C := RX3) (T := TX3) (N := 10) κ dX3_copyFrom_90 rfl inX3 1 rfl rfl rfl 6 (by decide) tw_fl_X3_30 rfl ?_
  refine gw_iconst (pc' := 94) (v := 0) κ dX3_copyFrom_93 rfl (by decide) ?_
  refine gw_aload_n (pc' := 95) κ dX3_copyFrom_94 rfl 0 rfl rfl ?_
  refine gb_get (pc' := 98) (C := RX3) (T := TX3) (N := 10) κ dX3_copyFrom_95 rfl inX3 0 rfl rfl rfl 6 (by decide) tw_fl_X3_30 rfl ?_
  refine gw_iconst (pc' := 99) (v := 0) κ dX3_copyFrom_98 rfl (by decide) ?_
  refine gw_bipush (pc' := 101) (v := 24) κ dX3_copyFrom_99 rfl (by decide) ?_
  refine gb_copy (pc' := 104) (bs' := [cSt qa cI o1.se o1.la o1.de o1.le o1.sa o1.fl o1.ar o0.dr o0.pe o0.ri, cSt qb cI o1.se o1.la o1.de o1.le o1.sa o1.fl o1.ar o1.dr o1.pe o1.ri]) κ dX3_copyFrom_101 rfl 1 7 0 7 rfl rfl rfl rfl (by decide) (by decide) tw_ml_X3_42 tw_in_J10 ⟨Nat.le_of_ble_eq_true rfl, Nat.le_of_ble_eq_true rfl⟩ rfl ?_
  refine gw_aload_n (pc' := 105) κ dX3_copyFrom_104 rfl 1 rfl rfl ?_
  refine gb_get (pc' := 108) (C := RX3) (T := TX3) (N := 10) κ dX3_copyFrom_105 rfl inX3 1 rfl rfl rfl 7 (by decide) tw_fl_X3_33 rfl ?_
  refine gw_iconst (pc' := 109) (v := 0) κ dX3_copyFrom_108 rfl (by decide) ?_
  refine gw_aload_n (pc' := 110) κ dX3_copyFrom_109 rfl 0 rfl rfl ?_
  refine gb_get (pc' := 113) (C := RX3) (T := TX3) (N := 10) κ dX3_copyFrom_110 rfl inX3 0 rfl rfl rfl 7 (by decide) tw_fl_X3_33 rfl ?_
  refine gw_iconst (pc' := 114) (v := 0) κ dX3_copyFrom_113 rfl (by decide) ?_
  refine gw_bipush (pc' := 116) (v := 24) κ dX3_copyFrom_114 rfl (by decide) ?_
  refine gb_copy (pc' := 119) (bs' := [cSt qa cI o1.se o1.la o1.de o1.le o1.sa o1.fl o1.ar o1.dr o0.pe o0.ri, cSt qb cI o1.se o1.la o1.de o1.le o1.sa o1.fl o1.ar o1.dr o1.pe o1.ri]) κ dX3_copyFrom_116 rfl 1 8 0 8 rfl rfl rfl rfl (by decide) (by decide) tw_ml_X3_42 tw_in_J10 ⟨Nat.le_of_ble_eq_true rfl, Nat.le_of_ble_eq_true rfl⟩ rfl ?_
  refine gw_aload_n (pc' := 120) κ dX3_copyFrom_119 rfl 1 rfl rfl ?_
  refine gb_get (pc' := 123) (C := RX3) (T := TX3) (N := 10) κ dX3_copyFrom_120 rfl inX3 1 rfl rfl rfl 8 (by decide) tw_fl_X3_36 rfl ?_
  refine gw_iconst (pc' := 124) (v := 0) κ dX3_copyFrom_123 rfl (by decide) ?_
  refine gw_aload_n (pc' := 125) κ dX3_copyFrom_124 rfl 0 rfl rfl ?_
  refine gb_get (pc' := 128) (C := RX3) (T := TX3) (N := 10) κ dX3_copyFrom_125 rfl inX3 0 rfl rfl rfl 8 (by decide) tw_fl_X3_36 rfl ?_
  refine gw_iconst (pc' := 129) (v := 0) κ dX3_copyFrom_128 rfl (by decide) ?_
  refine gw_bipush (pc' := 131) (v := 24) κ dX3_copyFrom_129 rfl (by decide) ?_
  refine gb_copy (pc' := 134) (bs' := [cSt qa cI o1.se o1.la o1.de o1.le o1.sa o1.fl o1.ar o1.dr o1.pe o0.ri, cSt qb cI o1.se o1.la o1.de o1.le o1.sa o1.fl o1.ar o1.dr o1.pe o1.ri]) κ dX3_copyFrom_131 rfl 1 9 0 9 rfl rfl rfl rfl (by decide) (by decide) tw_ml_X3_42 tw_in_J10 ⟨Nat.le_of_ble_eq_true rfl, Nat.le_of_ble_eq_true rfl⟩ rfl ?_
  refine gw_aload_n (pc' := 135) κ dX3_copyFrom_134 rfl 0 rfl rfl ?_
  refine gw_aload_n (pc' := 136) κ dX3_copyFrom_135 rfl 1 rfl rfl ?_
  refine gb_get (pc' := 139) (C := RX3) (T := TX3) (N := 10) κ dX3_copyFrom_136 rfl inX3 1 rfl rfl rfl 9 (by decide) tw_fl_X3_48 rfl ?_
  refine gb_put (pc' := 142) (C := RX3) (T := TX3) (N := 10) (ty := .int) (bs' := [cSt qa cI o1.se o1.la o1.de o1.le o1.sa o1.fl o1.ar o1.dr o1.pe o1.ri, cSt qb cI o1.se o1.la o1.de o1.le o1.sa o1.fl o1.ar o1.dr o1.pe o1.ri]) κ dX3_copyFrom_139 rfl inX3 tyX3 tyX3_ok nmX3 0 rfl rfl rfl 9 (by decide) tw_fl_X3_48 rfl (by decide +kernel) rfl rfl (Nat.le_of_ble_eq_true rfl) rfl ?_
  exact gw_vret κ dX3_copyFrom_142 (o1.se, o1.la, o1.de, o1.le, o1.sa, o1.fl, o1.ar, o1.dr, o1.pe, o1.ri) rfl ⟨rfl, h⟩
theorem hy_X0_record : g_hy yX0_record 1 := by decide +kernel
set_option maxHeartbeats 4000000 in
set_option maxRecDepth 100000 in
theorem k_X0_record_32 {zp : Program} {l : Launch} {ze : Env} {zs : State} {zm : MethodId} {za : Array Value} {zb : List Frame} {zt : Method} {zc : Code} {D : va_G} {cI cR : ClassId} {A : Nat → Prop} (κ : KC zp zs zm za zt zc cX0_record 2 RX0 D cI cR A none) (qa : Nat → Nat) (qb : Nat → Nat) (qas : Nat → Nat → Nat) (P : (Nat → StT) → Int32 → Int32 → Prop) (o0 : HiT) (o1 : StT) (hs : Nat → StT) (ol : Int32) (sz : Int32) (h : wp_X0_record_32 P o0 o1 hs ol sz) : GM zp l ze ({ frames := 2, cells := 0, slots := 0, locals := 61 } : Room) zs zm za zb zt zc D A 2 (pV (fun (u : (Nat → StT) × Int32 × Int32) => P u.1 u.2.1 u.2.2)) (fun u : (Nat → StT) × Int32 × Int32 => (wfl [cHi qa qas cR u.2.1 u.2.2, cSt (qas 0) cI (u.1 0).se (u.1 0).la (u.1 0).de (u.1 0).le (u.1 0).sa (u.1 0).fl (u.1 0).ar (u.1 0).dr (u.1 0).pe (u.1 0).ri, cSt (qas 1) cI (u.1 1).se (u.1 1).la (u.1 1).de (u.1 1).le (u.1 1).sa (u.1 1).fl (u.1 1).ar (u.1 1).dr (u.1 1).pe (u.1 1).ri, cSt (qas 2) cI (u.1 2).se (u.1 2).la (u.1 2).de (u.1 2).le (u.1 2).sa (u.1 2).fl (u.1 2).ar (u.1 2).dr (u.1 2).pe (u.1 2).ri, cSt (qas 3) cI (u.1 3).se (u.1 3).la (u.1 3).de (u.1 3).le (u.1 3).sa (u.1 3).fl (u.1 3).ar (u.1 3).dr (u.1 3).pe (u.1 3).ri, cSt (qas 4) cI (u.1 4).se (u.1 4).la (u.1 4).de (u.1 4).le (u.1 4).sa (u.1 4).fl (u.1 4).ar (u.1 4).dr (u.1 4).pe (u.1 4).ri, cSt (qas 5) cI (u.1 5).se (u.1 5).la (u.1 5).de (u.1 5).le (u.1 5).sa (u.1 5).fl (u.1 5).ar (u.1 5).dr (u.1 5).pe (u.1 5).ri, cSt qb cI o1.se o1.la o1.de o1.le o1.sa o1.fl o1.ar o1.dr o1.pe o1.ri])) 0 0 0 0 (wfl [cHi qa qas cR ol sz, cSt (qas 0) cI (hs 0).se (hs 0).la (hs 0).de (hs 0).le (hs 0).sa (hs 0).fl (hs 0).ar (hs 0).dr (hs 0).pe (hs 0).ri, cSt (qas 1) cI (hs 1).se (hs 1).la (hs 1).de (hs 1).le (hs 1).sa (hs 1).fl (hs 1).ar (hs 1).dr (hs 1).pe (hs 1).ri, cSt (qas 2) cI (hs 2).se (hs 2).la (hs 2).de (hs 2).le (hs 2).sa (hs 2).fl (hs 2).ar (hs 2).dr (hs 2).pe (hs 2).ri, cSt (qas 3) cI (hs 3).se (hs 3).la (hs 3).de (hs 3).le (hs 3).sa (hs 3).fl (hs 3).ar (hs 3).dr (hs 3).pe (hs 3).ri, cSt (qas 4) cI (hs 4).se (hs 4).la (hs 4).de (hs 4).le (hs 4).sa (hs 4).fl (hs 4).ar (hs 4).dr (hs 4).pe (hs 4).ri, cSt (qas 5) cI (hs 5).se (hs 5).la (hs 5).de (hs 5).le (hs 5).sa (hs 5).fl (hs 5).ar (hs 5).dr (hs 5).pe (hs 5).ri, cSt qb cI o1.se o1.la o1.de o1.le o1.sa o1.fl o1.ar o1.dr o1.pe o1.ri]) [(0, .ref (qa 0)), (1, .ref (qb 0))] 32 [] := by
  unfold wp_X0_record_32 at h
  refine gw_aload_n (pc' := 33) κ dX0_record_32 rfl 0 rfl rfl ?_
  refine gb_get (pc' := 36) (C := RX0) (T := TX0) (N := 3) κ dX0_record_33 rfl inX0 0 rfl rfl rfl 0 (by decide) tw_fl_X0_11 rfl ?_
  refine gw_aload_n (pc' := 37) κ dX0_record_36 rfl 0 rfl rfl ?_
  refine gb_get (pc' := 40) (C := RX0) (T := TX0) (N := 3) κ dX0_record_37 rfl inX0 0 rfl rfl rfl 1 (by decide) tw_fl_X0_22 rfl ?_
  refine gw_aload_n (pc' := 41) κ dX0_record_40 rfl 0 rfl rfl ?_
  refine gb_get (pc' := 44) (C := RX0) (T := TX0) (N := 3) κ dX0_record_41 rfl inX0 0 rfl rfl rfl 2 (by decide) tw_fl_X0_18 rfl ?_
  refine gw_iadd (pc' := 45) κ dX0_record_44 rfl  ?_
  refine gw_bipush (pc' := 47) (v := 6) κ dX0_record_45 rfl (by decide) ?_
  refine gw_irem (pc' := 48) κ dX0_record_47 rfl (by decide) ?_
  obtain ⟨hb_2, h⟩ := h
  obtain ⟨j_4, j_4l, hj_3⟩ := vp_in_of hb_2 (by decide)
  have h := h j_4 j_4l hj_3
  rcases (show j_4 = 0 ∨ j_4 = 1 ∨ j_4 = 2 ∨ j_4 = 3 ∨ j_4 = 4 ∨ j_4 = 5 from by omega) with rfl | rfl | rfl | rfl | rfl | rfl
  · refine gb_aald (pc' := 49) κ dX0_record_48 rfl 0 1 rfl rfl hb_2 (v := .ref (qas 0 0)) (by rw [hj_3, nI_clamp (by decide)]; rfl) ?_
    refine gw_aload_n (pc' := 50) κ dX0_record_49 rfl 1 rfl rfl ?_
    refine gb_callV (ci := 3) (qb := 1) (rest := []) κ (c_X3_copyFrom (qas 0) qb (hs 0) o1 h) ⟨rfl, rfl, Nat.le_of_ble_eq_true rfl, Nat.le_of_ble_eq_true rfl⟩ tw_ml_X0_25 tw_im_X3_copyFrom tw_se_X3_copyFrom tw_co_X3_copyFrom tw_in_X3 hy_X3_copyFrom rfl rfl rfl rfl rfl (Nat.le_of_ble_eq_true rfl) rfl dX0_record_50 [1, 7] rfl (by decide) (fun _ => Nat.le_of_ble_eq_true rfl) ⟨Nat.le_of_ble_eq_true rfl, Nat.le_of_ble_eq_true rfl⟩ (fun v u hv => ?_)
    obtain ⟨rfl, h⟩ := hv
    obtain ⟨se_45, la_46, de_47, le_48, sa_49, fl_50, ar_51, dr_52, pe_53, ri_54⟩ := u
    refine gw_nf (ws' := (wfl [cHi qa qas cR ol sz, cSt (qas 0) cI ((updS hs 0 (mkSt se_45 la_46 de_47 le_48 sa_49 fl_50 ar_51 dr_52 pe_53 ri_54)) 0).se ((updS hs 0 (mkSt se_45 la_46 de_47 le_48 sa_49 fl_50 ar_51 dr_52 pe_53 ri_54)) 0).la ((updS hs 0 (mkSt se_45 la_46 de_47 le_48 sa_49 fl_50 ar_51 dr_52 pe_53 ri_54)) 0).de ((updS hs 0 (mkSt se_45 la_46 de_47 le_48 sa_49 fl_50 ar_51 dr_52 pe_53 ri_54)) 0).le ((updS hs 0 (mkSt se_45 la_46 de_47 le_48 sa_49 fl_50 ar_51 dr_52 pe_53 ri_54)) 0).sa ((updS hs 0 (mkSt se_45 la_46 de_47 le_48 sa_49 fl_50 ar_51 dr_52 pe_53 ri_54)) 0).fl ((updS hs 0 (mkSt se_45 la_46 de_47 le_48 sa_49 fl_50 ar_51 dr_52 pe_53 ri_54)) 0).ar ((updS hs 0 (mkSt se_45 la_46 de_47 le_48 sa_49 fl_50 ar_51 dr_52 pe_53 ri_54)) 0).dr ((updS hs 0 (mkSt se_45 la_46 de_47 le_48 sa_49 fl_50 ar_51 dr_52 pe_53 ri_54)) 0).pe ((updS hs 0 (mkSt se_45 la_46 de_47 le_48 sa_49 fl_50 ar_51 dr_52 pe_53 ri_54)) 0).ri, cSt (qas 1) cI ((updS hs 0 (mkSt se_45 la_46 de_47 le_48 sa_49 fl_50 ar_51 dr_52 pe_53 ri_54)) 1).se ((updS hs 0 (mkSt se_45 la_46 de_47 le_48 sa_49 fl_50 ar_51 dr_52 pe_53 ri_54)) 1).la ((updS hs 0 (mkSt se_45 la_46 de_47 le_48 sa_49 fl_50 ar_51 dr_52 pe_53 ri_54)) 1).de ((updS hs 0 (mkSt se_45 la_46 de_47 le_48 sa_49 fl_50 ar_51 dr_52 pe_53 ri_54)) 1).le ((updS hs 0 (mkSt se_45 la_46 de_47 le_48 sa_49 fl_50 ar_51 dr_52 pe_53 ri_54)) 1).sa ((updS hs 0 (mkSt se_45 la_46 de_47 le_48 sa_49 fl_50 ar_51 dr_52 pe_53 ri_54)) 1).fl ((updS hs 0 (mkSt se_45 la_46 de_47 le_48 sa_49 fl_50 ar_51 dr_52 pe_53 ri_54)) 1).ar ((updS hs 0 (mkSt se_45 la_46 de_47 le_48 sa_49 fl_50 ar_51 dr_52 pe_53 ri_54)) 1).dr ((updS hs 0 (mkSt se_45 la_46 de_47 le_48 sa_49 fl_50 ar_51 dr_52 pe_53 ri_54)) 1).pe ((updS hs 0 (mkSt se_45 la_46 de_47 le_48 sa_49 fl_50 ar_51 dr_52 pe_53 ri_54)) 1).ri, cSt (qas 2) cI ((updS hs 0 (mkSt se_45 la_46 de_47 le_48 sa_49 fl_50 ar_51 dr_52 pe_53 ri_54)) 2).se ((updS hs 0 (mkSt se_45 la_46 de_47 le_48 sa_49 fl_50 ar_51 dr_52 pe_53 ri_54)) 2).la ((updS hs 0 (mkSt se_45 la_46 de_47 le_48 sa_49 fl_50 ar_51 dr_52 pe_53 ri_54)) 2).de ((updS hs 0 (mkSt se_45 la_46 de_47 le_48 sa_49 fl_50 ar_51 dr_52 pe_53 ri_54)) 2).le ((updS hs 0 (mkSt se_45 la_46 de_47 le_48 sa_49 fl_50 ar_51 dr_52 pe_53 ri_54)) 2).sa ((updS hs 0 (mkSt se_45 la_46 de_47 le_48 sa_49 fl_50 ar_51 dr_52 pe_53 ri_54)) 2).fl ((updS hs 0 (mkSt se_45 la_46 de_47 le_48 sa_49 fl_50 ar_51 dr_52 pe_53 ri_54)) 2).ar ((updS hs 0 (mkSt se_45 la_46 de_47 le_48 sa_49 fl_50 ar_51 dr_52 pe_53 ri_54)) 2).dr ((updS hs 0 (mkSt se_45 la_46 de_47 le_48 sa_49 fl_50 ar_51 dr_52 pe_53 ri_54)) 2).pe ((updS hs 0 (mkSt se_45 la_46 de_47 le_48 sa_49 fl_50 ar_51 dr_52 pe_53 ri_54)) 2).ri, cSt (qas 3) cI ((updS hs 0 (mkSt se_45 la_46 de_47 le_48 sa_49 fl_50 ar_51 dr_52 pe_53 ri_54)) 3).se ((updS hs 0 (mkSt se_45 la_46 de_47 le_48 sa_49 fl_50 ar_51 dr_52 pe_53 ri_54)) 3).la ((updS hs 0 (mkSt se_45 la_46 de_47 le_48 sa_49 fl_50 ar_51 dr_52 pe_53 ri_54)) 3).de ((updS hs 0 (mkSt se_45 la_46 de_47 le_48 sa_49 fl_50 ar_51 dr_52 pe_53 ri_54)) 3).le ((updS hs 0 (mkSt se_45 la_46 de_47 le_48 sa_49 fl_50 ar_51 dr_52 pe_53 ri_54)) 3).sa ((updS hs 0 (mkSt se_45 la_46 de_47 le_48 sa_49 fl_50 ar_51 dr_52 pe_53 ri_54)) 3).fl ((updS hs 0 (mkSt se_45 la_46 de_47 le_48 sa_49 fl_50 ar_51 dr_52 pe_53 ri_54)) 3).ar ((updS hs 0 (mkSt se_45 la_46 de_47 le_48 sa_49 fl_50 ar_51 dr_52 pe_53 ri_54)) 3).dr ((updS hs 0 (mkSt se_45 la_46 de_47 le_48 sa_49 fl_50 ar_51 dr_52 pe_53 ri_54)) 3).pe ((updS hs 0 (mkSt se_45 la_46 de_47 le_48 sa_49 fl_50 ar_51 dr_52 pe_53 ri_54)) 3).ri, cSt (qas 4) cI ((updS hs 0 (mkSt se_45 la_46 de_47 le_48 sa_49 fl_50 ar_51 dr_52 pe_53 ri_54)) 4).se ((updS hs 0 (mkSt se_45 la_46 de_47 le_48 sa_49 fl_50 ar_51 dr_52 pe_53 ri_54)) 4).la ((updS hs 0 (mkSt se_45 la_46 de_47 le_48 sa_49 fl_50 ar_51 dr_52 pe_53 ri_54)) 4).de ((updS hs 0 (mkSt se_45 la_46 de_47 le_48 sa_49 fl_50 ar_51 dr_52 pe_53 ri_54)) 4).le ((updS hs 0 (mkSt se_45 la_46 de_47 le_48 sa_49 fl_50 ar_51 dr_52 pe_53 ri_54)) 4).sa ((updS hs 0 (mkSt se_45 la_46 de_47 le_48 sa_49 fl_50 ar_51 dr_52 pe_53 ri_54)) 4).fl ((updS hs 0 (mkSt se_45 la_46 de_47 le_48 sa_49 fl_50 ar_51 dr_52 pe_53 ri_54)) 4).ar ((updS hs 0 (mkSt se_45 la_46 de_47 le_48 sa_49 fl_50 ar_51 dr_52 pe_53 ri_54)) 4).dr ((updS hs 0 (mkSt se_45 la_46 de_47 le_48 sa_49 fl_50 ar_51 dr_52 pe_53 ri_54)) 4).pe ((updS hs 0 (mkSt se_45 la_46 de_47 le_48 sa_49 fl_50 ar_51 dr_52 pe_53 ri_54)) 4).ri, cSt (qas 5) cI ((updS hs 0 (mkSt se_45 la_46 de_47 le_48 sa_49 fl_50 ar_51 dr_52 pe_53 ri_54)) 5).se ((updS hs 0 (mkSt se_45 la_46 de_47 le_48 sa_49 fl_50 ar_51 dr_52 pe_53 ri_54)) 5).la ((updS hs 0 (mkSt se_45 la_46 de_47 le_48 sa_49 fl_50 ar_51 dr_52 pe_53 ri_54)) 5).de ((updS hs 0 (mkSt se_45 la_46 de_47 le_48 sa_49 fl_50 ar_51 dr_52 pe_53 ri_54)) 5).le ((updS hs 0 (mkSt se_45 la_46 de_47 le_48 sa_49 fl_50 ar_51 dr_52 pe_53 ri_54)) 5).sa ((updS hs 0 (mkSt se_45 la_46 de_47 le_48 sa_49 fl_50 ar_51 dr_52 pe_53 ri_54)) 5).fl ((updS hs 0 (mkSt se_45 la_46 de_47 le_48 sa_49 fl_50 ar_51 dr_52 pe_53 ri_54)) 5).ar ((updS hs 0 (mkSt se_45 la_46 de_47 le_48 sa_49 fl_50 ar_51 dr_52 pe_53 ri_54)) 5).dr ((updS hs 0 (mkSt se_45 la_46 de_47 le_48 sa_49 fl_50 ar_51 dr_52 pe_53 ri_54)) 5).pe ((updS hs 0 (mkSt se_45 la_46 de_47 le_48 sa_49 fl_50 ar_51 dr_52 pe_53 ri_54)) 5).ri, cSt qb cI o1.se o1.la o1.de o1.le o1.sa o1.fl o1.ar o1.dr o1.pe o1.ri])) (lv' := [(0, .ref (qa 0)), (1, .ref (qb 0))]) (st' := []) (pc' := 53) (ce' := 0) (sl' := 0) rfl rfl rfl rfl rfl rfl ?_
    refine gw_aload_n (pc' := 54) κ dX0_record_53 rfl 0 rfl rfl ?_
    refine gw_dup (pc' := 55) κ dX0_record_54 rfl rfl ?_
    refine gb_get (pc' := 58) (C := RX0) (T := TX0) (N := 3) κ dX0_record_55 rfl inX0 0 rfl rfl rfl 2 (by decide) tw_fl_X0_18 rfl ?_
    refine gw_iconst (pc' := 59) (v := 1) κ dX0_record_58 rfl (by decide) ?_
    refine gw_iadd (pc' := 60) κ dX0_record_59 rfl  ?_
    refine gb_put (pc' := 63) (C := RX0) (T := TX0) (N := 3) (ty := .int) (bs' := [cHi qa qas cR ol (sz + (1 : Int32)), cSt (qas 0) cI ((updS hs 0 (mkSt se_45 la_46 de_47 le_48 sa_49 fl_50 ar_51 dr_52 pe_53 ri_54)) 0).se ((updS hs 0 (mkSt se_45 la_46 de_47 le_48 sa_49 fl_50 ar_51 dr_52 pe_53 ri_54)) 0).la ((updS hs 0 (mkSt se_45 la_46 de_47 le_48 sa_49 fl_50 ar_51 dr_52 pe_53 ri_54)) 0).de ((updS hs 0 (mkSt se_45 la_46 de_47 le_48 sa_49 fl_50 ar_51 dr_52 pe_53 ri_54)) 0).le ((updS hs 0 (mkSt se_45 la_46 de_47 le_48 sa_49 fl_50 ar_51 dr_52 pe_53 ri_54)) 0).sa ((updS hs 0 (mkSt se_45 la_46 de_47 le_48 sa_49 fl_50 ar_51 dr_52 pe_53 ri_54)) 0).fl ((updS hs 0 (mkSt se_45 la_46 de_47 le_48 sa_49 fl_50 ar_51 dr_52 pe_53 ri_54)) 0).ar ((updS hs 0 (mkSt se_45 la_46 de_47 le_48 sa_49 fl_50 ar_51 dr_52 pe_53 ri_54)) 0).dr ((updS hs 0 (mkSt se_45 la_46 de_47 le_48 sa_49 fl_50 ar_51 dr_52 pe_53 ri_54)) 0).pe ((updS hs 0 (mkSt se_45 la_46 de_47 le_48 sa_49 fl_50 ar_51 dr_52 pe_53 ri_54)) 0).ri, cSt (qas 1) cI ((updS hs 0 (mkSt se_45 la_46 de_47 le_48 sa_49 fl_50 ar_51 dr_52 pe_53 ri_54)) 1).se ((updS hs 0 (mkSt se_45 la_46 de_47 le_48 sa_49 fl_50 ar_51 dr_52 pe_53 ri_54)) 1).la ((updS hs 0 (mkSt se_45 la_46 de_47 le_48 sa_49 fl_50 ar_51 dr_52 pe_53 ri_54)) 1).de ((updS hs 0 (mkSt se_45 la_46 de_47 le_48 sa_49 fl_50 ar_51 dr_52 pe_53 ri_54)) 1).le ((updS hs 0 (mkSt se_45 la_46 de_47 le_48 sa_49 fl_50 ar_51 dr_52 pe_53 ri_54)) 1).sa ((updS hs 0 (mkSt se_45 la_46 de_47 le_48 sa_49 fl_50 ar_51 dr_52 pe_53 ri_54)) 1).fl ((updS hs 0 (mkSt se_45 la_46 de_47 le_48 sa_49 fl_50 ar_51 dr_52 pe_53 ri_54)) 1).ar ((updS hs 0 (mkSt se_45 la_46 de_47 le_48 sa_49 fl_50 ar_51 dr_52 pe_53 ri_54)) 1).dr ((updS hs 0 (mkSt se_45 la_46 de_47 le_48 sa_49 fl_50 ar_51 dr_52 pe_53 ri_54)) 1).pe ((updS hs 0 (mkSt se_45 la_46 de_47 le_48 sa_49 fl_50 ar_51 dr_52 pe_53 ri_54)) 1).ri, cSt (qas 2) cI ((updS hs 0 (mkSt se_45 la_46 de_47 le_48 sa_49 fl_50 ar_51 dr_52 pe_53 ri_54)) 2).se ((updS hs 0 (mkSt se_45 la_46 de_47 le_48 sa_49 fl_50 ar_51 dr_52 pe_53 ri_54)) 2).la ((updS hs 0 (mkSt se_45 la_46 de_47 le_48 sa_49 fl_50 ar_51 dr_52 pe_53 ri_54)) 2).de ((updS hs 0 (mkSt se_45 la_46 de_47 le_48 sa_49 fl_50 ar_51 dr_52 pe_53 ri_54)) 2).le ((updS hs 0 (mkSt se_45 la_46 de_47 le_48 sa_49 fl_50 ar_51 dr_52 pe_53 ri_54)) 2).sa ((updS hs 0 (mkSt se_45 la_46 de_47 le_48 sa_49 fl_50 ar_51 dr_52 pe_53 ri_54)) 2).fl ((updS hs 0 (mkSt se_45 la_46 de_47 le_48 sa_49 fl_50 ar_51 dr_52 pe_53 ri_54)) 2).ar ((updS hs 0 (mkSt se_45 la_46 de_47 le_48 sa_49 fl_50 ar_51 dr_52 pe_53 ri_54)) 2).dr ((updS hs 0 (mkSt se_45 la_46 de_47 le_48 sa_49 fl_50 ar_51 dr_52 pe_53 ri_54)) 2).pe ((updS hs 0 (mkSt se_45 la_46 de_47 le_48 sa_49 fl_50 ar_51 dr_52 pe_53 ri_54)) 2).ri, cSt (qas 3) cI ((updS hs 0 (mkSt se_45 la_46 de_47 le_48 sa_49 fl_50 ar_51 dr_52 pe_53 ri_54)) 3).se ((updS hs 0 (mkSt se_45 la_46 de_47 le_48 sa_49 fl_50 ar_51 dr_52 pe_53 ri_54)) 3).la ((updS hs 0 (mkSt se_45 la_46 de_47 le_48 sa_49 fl_50 ar_51 dr_52 pe_53 ri_54)) 3).de ((updS hs 0 (mkSt se_45 la_46 de_47 le_48 sa_49 fl_50 ar_51 dr_52 pe_53 ri_54)) 3).le ((updS hs 0 (mkSt se_45 la_46 de_47 le_48 sa_49 fl_50 ar_51 dr_52 pe_53 ri_54)) 3).sa ((updS hs 0 (mkSt se_45 la_46 de_47 le_48 sa_49 fl_50 ar_51 dr_52 pe_53 ri_54)) 3).fl ((updS hs 0 (mkSt se_45 la_46 de_47 le_48 sa_49 fl_50 ar_51 dr_52 pe_53 ri_54)) 3).ar ((updS hs 0 (mkSt se_45 la_46 de_47 le_48 sa_49 fl_50 ar_51 dr_52 pe_53 ri_54)) 3).dr ((updS hs 0 (mkSt se_45 la_46 de_47 le_48 sa_49 fl_50 ar_51 dr_52 pe_53 ri_54)) 3).pe ((updS hs 0 (mkSt se_45 la_46 de_47 le_48 sa_49 fl_50 ar_51 dr_52 pe_53 ri_54)) 3).ri, cSt (qas 4) cI ((updS hs 0 (mkSt se_45 la_46 de_47 le_48 sa_49 fl_50 ar_51 dr_52 pe_53 ri_54)) 4).se ((updS hs 0 (mkSt se_45 la_46 de_47 le_48 sa_49 fl_50 ar_51 dr_52 pe_53 ri_54)) 4).la ((updS hs 0 (mkSt se_45 la_46 de_47 le_48 sa_49 fl_50 ar_51 dr_52 pe_53 ri_54)) 4).de ((updS hs 0 (mkSt se_45 la_46 de_47 le_48 sa_49 fl_50 ar_51 dr_52 pe_53 ri_54)) 4).le ((updS hs 0 (mkSt se_45 la_46 de_47 le_48 sa_49 fl_50 ar_51 dr_52 pe_53 ri_54)) 4).sa ((updS hs 0 (mkSt se_45 la_46 de_47 le_48 sa_49 fl_50 ar_51 dr_52 pe_53 ri_54)) 4).fl ((updS hs 0 (mkSt se_45 la_46 de_47 le_48 sa_49 fl_50 ar_51 dr_52 pe_53 ri_54)) 4).ar ((updS hs 0 (mkSt se_45 la_46 de_47 le_48 sa_49 fl_50 ar_51 dr_52 pe_53 ri_54)) 4).dr ((updS hs 0 (mkSt se_45 la_46 de_47 le_48 sa_49 fl_50 ar_51 dr_52 pe_53 ri_54)) 4).pe ((updS hs 0 (mkSt se_45 la_46 de_47 le_48 sa_49 fl_50 ar_51 dr_52 pe_53 ri_54)) 4).ri, cSt (qas 5) cI ((updS hs 0 (mkSt se_45 la_46 de_47 le_48 sa_49 fl_50 ar_51 dr_52 pe_53 ri_54)) 5).se ((updS hs 0 (mkSt se_45 la_46 de_47 le_48 sa_49 fl_50 ar_51 dr_52 pe_53 ri_54)) 5).la ((updS hs 0 (mkSt se_45 la_46 de_47 le_48 sa_49 fl_50 ar_51 dr_52 pe_53 ri_54)) 5).de ((updS hs 0 (mkSt se_45 la_46 de_47 le_48 sa_49 fl_50 ar_51 dr_52 pe_53 ri_54)) 5).le ((updS hs 0 (mkSt se_45 la_46 de_47 le_48 sa_49 fl_50 ar_51 dr_52 pe_53 ri_54)) 5).sa ((updS hs 0 (mkSt se_45 la_46 de_47 le_48 sa_49 fl_50 ar_51 dr_52 pe_53 ri_54)) 5).fl ((updS hs 0 (mkSt se_45 la_46 de_47 le_48 sa_49 fl_50 ar_51 dr_52 pe_53 ri_54)) 5).ar ((updS hs 0 (mkSt se_45 la_46 de_47 le_48 sa_49 fl_50 ar_51 dr_52 pe_53 ri_54)) 5).dr ((updS hs 0 (mkSt se_45 la_46 de_47 le_48 sa_49 fl_50 ar_51 dr_52 pe_53 ri_54)) 5).pe ((updS hs 0 (mkSt se_45 la_46 de_47 le_48 sa_49 fl_50 ar_51 dr_52 pe_53 ri_54)) 5).ri, cSt qb cI o1.se o1.la o1.de o1.le o1.sa o1.fl o1.ar o1.dr o1.pe o1.ri]) κ dX0_record_60 rfl inX0 tyX0 tyX0_ok nmX0 0 rfl rfl rfl 2 (by decide) tw_fl_X0_18 rfl (by decide +kernel) rfl rfl (Nat.le_of_ble_eq_true rfl) rfl ?_
    exact gw_vret κ dX0_record_63 ((updS hs 0 (mkSt se_45 la_46 de_47 le_48 sa_49 fl_50 ar_51 dr_52 pe_53 ri_54)), ol, (sz + (1 : Int32))) rfl ⟨rfl, h⟩
  · refine gb_aald (pc' := 49) κ dX0_record_48 rfl 0 1 rfl rfl hb_2 (v := .ref (qas 1 0)) (by rw [hj_3, nI_clamp (by decide)]; rfl) ?_
    refine gw_aload_n (pc' := 50) κ dX0_record_49 rfl 1 rfl rfl ?_
    refine gb_callV (ci := 3) (qb := 2) (rest := []) κ (c_X3_copyFrom (qas 1) qb (hs 1) o1 h) ⟨rfl, rfl, Nat.le_of_ble_eq_true rfl, Nat.le_of_ble_eq_true rfl⟩ tw_ml_X0_25 tw_im_X3_copyFrom tw_se_X3_copyFrom tw_co_X3_copyFrom tw_in_X3 hy_X3_copyFrom rfl rfl rfl rfl rfl (Nat.le_of_ble_eq_true rfl) rfl dX0_record_50 [2, 7] rfl (by decide) (fun _ => Nat.le_of_ble_eq_true rfl) ⟨Nat.le_of_ble_eq_true rfl, Nat.le_of_ble_eq_true rfl⟩ (fun v u hv => ?_)
    obtain ⟨rfl, h⟩ := hv
    obtain ⟨se_55, la_56, de_57, le_58, sa_59, fl_60, ar_61, dr_62, pe_63, ri_64⟩ := u
    refine gw_nf (ws' := (wfl [cHi qa qas cR ol sz, cSt (qas 0) cI ((updS hs 1 (mkSt se_55 la_56 de_57 le_58 sa_59 fl_60 ar_61 dr_62 pe_63 ri_64)) 0).se ((updS hs 1 (mkSt se_55 la_56 de_57 le_58 sa_59 fl_60 ar_61 dr_62 pe_63 ri_64)) 0).la ((updS hs 1 (mkSt se_55 la_56 de_57 le_58 sa_59 fl_60 ar_61 dr_62 pe_63 ri_64)) 0).de ((updS hs 1 (mkSt se_55 la_56 de_57 le_58 sa_59 fl_60 ar_61 dr_62 pe_63 ri_64)) 0).le ((updS hs 1 (mkSt se_55 la_56 de_57 le_58 sa_59 fl_60 ar_61 dr_62 pe_63 ri_64)) 0).sa ((updS hs 1 (mkSt se_55 la_56 de_57 le_58 sa_59 fl_60 ar_61 dr_62 pe_63 ri_64)) 0).fl ((updS hs 1 (mkSt se_55 la_56 de_57 le_58 sa_59 fl_60 ar_61 dr_62 pe_63 ri_64)) 0).ar ((updS hs 1 (mkSt se_55 la_56 de_57 le_58 sa_59 fl_60 ar_61 dr_62 pe_63 ri_64)) 0).dr ((updS hs 1 (mkSt se_55 la_56 de_57 le_58 sa_59 fl_60 ar_61 dr_62 pe_63 ri_64)) 0).pe ((updS hs 1 (mkSt se_55 la_56 de_57 le_58 sa_59 fl_60 ar_61 dr_62 pe_63 ri_64)) 0).ri, cSt (qas 1) cI ((updS hs 1 (mkSt se_55 la_56 de_57 le_58 sa_59 fl_60 ar_61 dr_62 pe_63 ri_64)) 1).se ((updS hs 1 (mkSt se_55 la_56 de_57 le_58 sa_59 fl_60 ar_61 dr_62 pe_63 ri_64)) 1).la ((updS hs 1 (mkSt se_55 la_56 de_57 le_58 sa_59 fl_60 ar_61 dr_62 pe_63 ri_64)) 1).de ((updS hs 1 (mkSt se_55 la_56 de_57 le_58 sa_59 fl_60 ar_61 dr_62 pe_63 ri_64)) 1).le ((updS hs 1 (mkSt se_55 la_56 de_57 le_58 sa_59 fl_60 ar_61 dr_62 pe_63 ri_64)) 1).sa ((updS hs 1 (mkSt se_55 la_56 de_57 le_58 sa_59 fl_60 ar_61 dr_62 pe_63 ri_64)) 1).fl ((updS hs 1 (mkSt se_55 la_56 de_57 le_58 sa_59 fl_60 ar_61 dr_62 pe_63 ri_64)) 1).ar ((updS hs 1 (mkSt se_55 la_56 de_57 le_58 sa_59 fl_60 ar_61 dr_62 pe_63 ri_64)) 1).dr ((updS hs 1 (mkSt se_55 la_56 de_57 le_58 sa_59 fl_60 ar_61 dr_62 pe_63 ri_64)) 1).pe ((updS hs 1 (mkSt se_55 la_56 de_57 le_58 sa_59 fl_60 ar_61 dr_62 pe_63 ri_64)) 1).ri, cSt (qas 2) cI ((updS hs 1 (mkSt se_55 la_56 de_57 le_58 sa_59 fl_60 ar_61 dr_62 pe_63 ri_64)) 2).se ((updS hs 1 (mkSt se_55 la_56 de_57 le_58 sa_59 fl_60 ar_61 dr_62 pe_63 ri_64)) 2).la ((updS hs 1 (mkSt se_55 la_56 de_57 le_58 sa_59 fl_60 ar_61 dr_62 pe_63 ri_64)) 2).de ((updS hs 1 (mkSt se_55 la_56 de_57 le_58 sa_59 fl_60 ar_61 dr_62 pe_63 ri_64)) 2).le ((updS hs 1 (mkSt se_55 la_56 de_57 le_58 sa_59 fl_60 ar_61 dr_62 pe_63 ri_64)) 2).sa ((updS hs 1 (mkSt se_55 la_56 de_57 le_58 sa_59 fl_60 ar_61 dr_62 pe_63 ri_64)) 2).fl ((updS hs 1 (mkSt se_55 la_56 de_57 le_58 sa_59 fl_60 ar_61 dr_62 pe_63 ri_64)) 2).ar ((updS hs 1 (mkSt se_55 la_56 de_57 le_58 sa_59 fl_60 ar_61 dr_62 pe_63 ri_64)) 2).dr ((updS hs 1 (mkSt se_55 la_56 de_57 le_58 sa_59 fl_60 ar_61 dr_62 pe_63 ri_64)) 2).pe ((updS hs 1 (mkSt se_55 la_56 de_57 le_58 sa_59 fl_60 ar_61 dr_62 pe_63 ri_64)) 2).ri, cSt (qas 3) cI ((updS hs 1 (mkSt se_55 la_56 de_57 le_58 sa_59 fl_60 ar_61 dr_62 pe_63 ri_64)) 3).se ((updS hs 1 (mkSt se_55 la_56 de_57 le_58 sa_59 fl_60 ar_61 dr_62 pe_63 ri_64)) 3).la ((updS hs 1 (mkSt se_55 la_56 de_57 le_58 sa_59 fl_60 ar_61 dr_62 pe_63 ri_64)) 3).de ((updS hs 1 (mkSt se_55 la_56 de_57 le_58 sa_59 fl_60 ar_61 dr_62 pe_63 ri_64)) 3).le ((updS hs 1 (mkSt se_55 la_56 de_57 le_58 sa_59 fl_60 ar_61 dr_62 pe_63 ri_64)) 3).sa ((updS hs 1 (mkSt se_55 la_56 de_57 le_58 sa_59 fl_60 ar_61 dr_62 pe_63 ri_64)) 3).fl ((updS hs 1 (mkSt se_55 la_56 de_57 le_58 sa_59 fl_60 ar_61 dr_62 pe_63 ri_64)) 3).ar ((updS hs 1 (mkSt se_55 la_56 de_57 le_58 sa_59 fl_60 ar_61 dr_62 pe_63 ri_64)) 3).dr ((updS hs 1 (mkSt se_55 la_56 de_57 le_58 sa_59 fl_60 ar_61 dr_62 pe_63 ri_64)) 3).pe ((updS hs 1 (mkSt se_55 la_56 de_57 le_58 sa_59 fl_60 ar_61 dr_62 pe_63 ri_64)) 3).ri, cSt (qas 4) cI ((updS hs 1 (mkSt se_55 la_56 de_57 le_58 sa_59 fl_60 ar_61 dr_62 pe_63 ri_64)) 4).se ((updS hs 1 (mkSt se_55 la_56 de_57 le_58 sa_59 fl_60 ar_61 dr_62 pe_63 ri_64)) 4).la ((updS hs 1 (mkSt se_55 la_56 de_57 le_58 sa_59 fl_60 ar_61 dr_62 pe_63 ri_64)) 4).de ((updS hs 1 (mkSt se_55 la_56 de_57 le_58 sa_59 fl_60 ar_61 dr_62 pe_63 ri_64)) 4).le ((updS hs 1 (mkSt se_55 la_56 de_57 le_58 sa_59 fl_60 ar_61 dr_62 pe_63 ri_64)) 4).sa ((updS hs 1 (mkSt se_55 la_56 de_57 le_58 sa_59 fl_60 ar_61 dr_62 pe_63 ri_64)) 4).fl ((updS hs 1 (mkSt se_55 la_56 de_57 le_58 sa_59 fl_60 ar_61 dr_62 pe_63 ri_64)) 4).ar ((updS hs 1 (mkSt se_55 la_56 de_57 le_58 sa_59 fl_60 ar_61 dr_62 pe_63 ri_64)) 4).dr ((updS hs 1 (mkSt se_55 la_56 de_57 le_58 sa_59 fl_60 ar_61 dr_62 pe_63 ri_64)) 4).pe ((updS hs 1 (mkSt se_55 la_56 de_57 le_58 sa_59 fl_60 ar_61 dr_62 pe_63 ri_64)) 4).ri, cSt (qas 5) cI ((updS hs 1 (mkSt se_55 la_56 de_57 le_58 sa_59 fl_60 ar_61 dr_62 pe_63 ri_64)) 5).se ((updS hs 1 (mkSt se_55 la_56 de_57 le_58 sa_59 fl_60 ar_61 dr_62 pe_63 ri_64)) 5).la ((updS hs 1 (mkSt se_55 la_56 de_57 le_58 sa_59 fl_60 ar_61 dr_62 pe_63 ri_64)) 5).de ((updS hs 1 (mkSt se_55 la_56 de_57 le_58 sa_59 fl_60 ar_61 dr_62 pe_63 ri_64)) 5).le ((updS hs 1 (mkSt se_55 la_56 de_57 le_58 sa_59 fl_60 ar_61 dr_62 pe_63 ri_64)) 5).sa ((updS hs 1 (mkSt se_55 la_56 de_57 le_58 sa_59 fl_60 ar_61 dr_62 pe_63 ri_64)) 5).fl ((updS hs 1 (mkSt se_55 la_56 de_57 le_58 sa_59 fl_60 ar_61 dr_62 pe_63 ri_64)) 5).ar ((updS hs 1 (mkSt se_55 la_56 de_57 le_58 sa_59 fl_60 ar_61 dr_62 pe_63 ri_64)) 5).dr ((updS hs 1 (mkSt se_55 la_56 de_57 le_58 sa_59 fl_60 ar_61 dr_62 pe_63 ri_64)) 5).pe ((updS hs 1 (mkSt se_55 la_56 de_57 le_58 sa_59 fl_60 ar_61 dr_62 pe_63 ri_64)) 5).ri, cSt qb cI o1.se o1.la o1.de o1.le o1.sa o1.fl o1.ar o1.dr o1.pe o1.ri])) (lv' := [(0, .ref (qa 0)), (1, .ref (qb 0))]) (st' := []) (pc' := 53) (ce' := 0) (sl' := 0) rfl rfl rfl rfl rfl rfl ?_
    refine gw_aload_n (pc' := 54) κ dX0_record_53 rfl 0 rfl rfl ?_
    refine gw_dup (pc' := 55) κ dX0_record_54 rfl rfl ?_
    refine gb_get (pc' := 58) (C := RX0) (T := TX0) (N := 3) κ dX0_record_55 rfl inX0 0 rfl rfl rfl 2 (by decide) tw_fl_X0_18 rfl ?_
    refine gw_iconst (pc' := 59) (v := 1) κ dX0_record_58 rfl (by decide) ?_
    refine gw_iadd (pc' := 60) κ dX0_record_59 rfl  ?_
    refine gb_put (pc' := 63) (C := RX0) (T := TX0) (N := 3) (ty := .int) (bs' := [cHi qa qas cR ol (sz + (1 : Int32)), cSt (qas 0) cI ((updS hs 1 (mkSt se_55 la_56 de_57 le_58 sa_59 fl_60 ar_61 dr_62 pe_63 ri_64)) 0).se ((updS hs 1 (mkSt se_55 la_56 de_57 le_58 sa_59 fl_60 ar_61 dr_62 pe_63 ri_64)) 0).la ((updS hs 1 (mkSt se_55 la_56 de_57 le_58 sa_59 fl_60 ar_61 dr_62 pe_63 ri_64)) 0).de ((updS hs 1 (mkSt se_55 la_56 de_57 le_58 sa_59 fl_60 ar_61 dr_62 pe_63 ri_64)) 0).le ((updS hs 1 (mkSt se_55 la_56 de_57 le_58 sa_59 fl_60 ar_61 dr_62 pe_63 ri_64)) 0).sa ((updS hs 1 (mkSt se_55 la_56 de_57 le_58 sa_59 fl_60 ar_61 dr_62 pe_63 ri_64)) 0).fl ((updS hs 1 (mkSt se_55 la_56 de_57 le_58 sa_59 fl_60 ar_61 dr_62 pe_63 ri_64)) 0).ar ((updS hs 1 (mkSt se_55 la_56 de_57 le_58 sa_59 fl_60 ar_61 dr_62 pe_63 ri_64)) 0).dr ((updS hs 1 (mkSt se_55 la_56 de_57 le_58 sa_59 fl_60 ar_61 dr_62 pe_63 ri_64)) 0).pe ((updS hs 1 (mkSt se_55 la_56 de_57 le_58 sa_59 fl_60 ar_61 dr_62 pe_63 ri_64)) 0).ri, cSt (qas 1) cI ((updS hs 1 (mkSt se_55 la_56 de_57 le_58 sa_59 fl_60 ar_61 dr_62 pe_63 ri_64)) 1).se ((updS hs 1 (mkSt se_55 la_56 de_57 le_58 sa_59 fl_60 ar_61 dr_62 pe_63 ri_64)) 1).la ((updS hs 1 (mkSt se_55 la_56 de_57 le_58 sa_59 fl_60 ar_61 dr_62 pe_63 ri_64)) 1).de ((updS hs 1 (mkSt se_55 la_56 de_57 le_58 sa_59 fl_60 ar_61 dr_62 pe_63 ri_64)) 1).le ((updS hs 1 (mkSt se_55 la_56 de_57 le_58 sa_59 fl_60 ar_61 dr_62 pe_63 ri_64)) 1).sa ((updS hs 1 (mkSt se_55 la_56 de_57 le_58 sa_59 fl_60 ar_61 dr_62 pe_63 ri_64)) 1).fl ((updS hs 1 (mkSt se_55 la_56 de_57 le_58 sa_59 fl_60 ar_61 dr_62 pe_63 ri_64)) 1).ar ((updS hs 1 (mkSt se_55 la_56 de_57 le_58 sa_59 fl_60 ar_61 dr_62 pe_63 ri_64)) 1).dr ((updS hs 1 (mkSt se_55 la_56 de_57 le_58 sa_59 fl_60 ar_61 dr_62 pe_63 ri_64)) 1).pe ((updS hs 1 (mkSt se_55 la_56 de_57 le_58 sa_59 fl_60 ar_61 dr_62 pe_63 ri_64)) 1).ri, cSt (qas 2) cI ((updS hs 1 (mkSt se_55 la_56 de_57 le_58 sa_59 fl_60 ar_61 dr_62 pe_63 ri_64)) 2).se ((updS hs 1 (mkSt se_55 la_56 de_57 le_58 sa_59 fl_60 ar_61 dr_62 pe_63 ri_64)) 2).la ((updS hs 1 (mkSt se_55 la_56 de_57 le_58 sa_59 fl_60 ar_61 dr_62 pe_63 ri_64)) 2).de ((updS hs 1 (mkSt se_55 la_56 de_57 le_58 sa_59 fl_60 ar_61 dr_62 pe_63 ri_64)) 2).le ((updS hs 1 (mkSt se_55 la_56 de_57 le_58 sa_59 fl_60 ar_61 dr_62 pe_63 ri_64)) 2).sa ((updS hs 1 (mkSt se_55 la_56 de_57 le_58 sa_59 fl_60 ar_61 dr_62 pe_63 ri_64)) 2).fl ((updS hs 1 (mkSt se_55 la_56 de_57 le_58 sa_59 fl_60 ar_61 dr_62 pe_63 ri_64)) 2).ar ((updS hs 1 (mkSt se_55 la_56 de_57 le_58 sa_59 fl_60 ar_61 dr_62 pe_63 ri_64)) 2).dr ((updS hs 1 (mkSt se_55 la_56 de_57 le_58 sa_59 fl_60 ar_61 dr_62 pe_63 ri_64)) 2).pe ((updS hs 1 (mkSt se_55 la_56 de_57 le_58 sa_59 fl_60 ar_61 dr_62 pe_63 ri_64)) 2).ri, cSt (qas 3) cI ((updS hs 1 (mkSt se_55 la_56 de_57 le_58 sa_59 fl_60 ar_61 dr_62 pe_63 ri_64)) 3).se ((updS hs 1 (mkSt se_55 la_56 de_57 le_58 sa_59 fl_60 ar_61 dr_62 pe_63 ri_64)) 3).la ((updS hs 1 (mkSt se_55 la_56 de_57 le_58 sa_59 fl_60 ar_61 dr_62 pe_63 ri_64)) 3).de ((updS hs 1 (mkSt se_55 la_56 de_57 le_58 sa_59 fl_60 ar_61 dr_62 pe_63 ri_64)) 3).le ((updS hs 1 (mkSt se_55 la_56 de_57 le_58 sa_59 fl_60 ar_61 dr_62 pe_63 ri_64)) 3).sa ((updS hs 1 (mkSt se_55 la_56 de_57 le_58 sa_59 fl_60 ar_61 dr_62 pe_63 ri_64)) 3).fl ((updS hs 1 (mkSt se_55 la_56 de_57 le_58 sa_59 fl_60 ar_61 dr_62 pe_63 ri_64)) 3).ar ((updS hs 1 (mkSt se_55 la_56 de_57 le_58 sa_59 fl_60 ar_61 dr_62 pe_63 ri_64)) 3).dr ((updS hs 1 (mkSt se_55 la_56 de_57 le_58 sa_59 fl_60 ar_61 dr_62 pe_63 ri_64)) 3).pe ((updS hs 1 (mkSt se_55 la_56 de_57 le_58 sa_59 fl_60 ar_61 dr_62 pe_63 ri_64)) 3).ri, cSt (qas 4) cI ((updS hs 1 (mkSt se_55 la_56 de_57 le_58 sa_59 fl_60 ar_61 dr_62 pe_63 ri_64)) 4).se ((updS hs 1 (mkSt se_55 la_56 de_57 le_58 sa_59 fl_60 ar_61 dr_62 pe_63 ri_64)) 4).la ((updS hs 1 (mkSt se_55 la_56 de_57 le_58 sa_59 fl_60 ar_61 dr_62 pe_63 ri_64)) 4).de ((updS hs 1 (mkSt se_55 la_56 de_57 le_58 sa_59 fl_60 ar_61 dr_62 pe_63 ri_64)) 4).le ((updS hs 1 (mkSt se_55 la_56 de_57 le_58 sa_59 fl_60 ar_61 dr_62 pe_63 ri_64)) 4).sa ((updS hs 1 (mkSt se_55 la_56 de_57 le_58 sa_59 fl_60 ar_61 dr_62 pe_63 ri_64)) 4).fl ((updS hs 1 (mkSt se_55 la_56 de_57 le_58 sa_59 fl_60 ar_61 dr_62 pe_63 ri_64)) 4).ar ((updS hs 1 (mkSt se_55 la_56 de_57 le_58 sa_59 fl_60 ar_61 dr_62 pe_63 ri_64)) 4).dr ((updS hs 1 (mkSt se_55 la_56 de_57 le_58 sa_59 fl_60 ar_61 dr_62 pe_63 ri_64)) 4).pe ((updS hs 1 (mkSt se_55 la_56 de_57 le_58 sa_59 fl_60 ar_61 dr_62 pe_63 ri_64)) 4).ri, cSt (qas 5) cI ((updS hs 1 (mkSt se_55 la_56 de_57 le_58 sa_59 fl_60 ar_61 dr_62 pe_63 ri_64)) 5).se ((updS hs 1 (mkSt se_55 la_56 de_57 le_58 sa_59 fl_60 ar_61 dr_62 pe_63 ri_64)) 5).la ((updS hs 1 (mkSt se_55 la_56 de_57 le_58 sa_59 fl_60 ar_61 dr_62 pe_63 ri_64)) 5).de ((updS hs 1 (mkSt se_55 la_56 de_57 le_58 sa_59 fl_60 ar_61 dr_62 pe_63 ri_64)) 5).le ((updS hs 1 (mkSt se_55 la_56 de_57 le_58 sa_59 fl_60 ar_61 dr_62 pe_63 ri_64)) 5).sa ((updS hs 1 (mkSt se_55 la_56 de_57 le_58 sa_59 fl_60 ar_61 dr_62 pe_63 ri_64)) 5).fl ((updS hs 1 (mkSt se_55 la_56 de_57 le_58 sa_59 fl_60 ar_61 dr_62 pe_63 ri_64)) 5).ar ((updS hs 1 (mkSt se_55 la_56 de_57 le_58 sa_59 fl_60 ar_61 dr_62 pe_63 ri_64)) 5).dr ((updS hs 1 (mkSt se_55 la_56 de_57 le_58 sa_59 fl_60 ar_61 dr_62 pe_63 ri_64)) 5).pe ((updS hs 1 (mkSt se_55 la_56 de_57 le_58 sa_59 fl_60 ar_61 dr_62 pe_63 ri_64)) 5).ri, cSt qb cI o1.se o1.la o1.de o1.le o1.sa o1.fl o1.ar o1.dr o1.pe o1.ri]) κ dX0_record_60 rfl inX0 tyX0 tyX0_ok nmX0 0 rfl rfl rfl 2 (by decide) tw_fl_X0_18 rfl (by decide +kernel) rfl rfl (Nat.le_of_ble_eq_true rfl) rfl ?_
    exact gw_vret κ dX0_record_63 ((updS hs 1 (mkSt se_55 la_56 de_57 le_58 sa_59 fl_60 ar_61 dr_62 pe_63 ri_64)), ol, (sz + (1 : Int32))) rfl ⟨rfl, h⟩
  · refine gb_aald (pc' := 49) κ dX0_record_48 rfl 0 1 rfl rfl hb_2 (v := .ref (qas 2 0)) (by rw [hj_3, nI_clamp (by decide)]; rfl) ?_
    refine gw_aload_n (pc' := 50) κ dX0_record_49 rfl 1 rfl rfl ?_
    refine gb_callV (ci := 3) (qb := 3) (rest := []) κ (c_X3_copyFrom (qas 2) qb (hs 2) o1 h) ⟨rfl, rfl, Nat.le_of_ble_eq_true rfl, Nat.le_of_ble_eq_true rfl⟩ tw_ml_X0_25 tw_im_X3_copyFrom tw_se_X3_copyFrom tw_co_X3_copyFrom tw_in_X3 hy_X3_copyFrom rfl rfl rfl rfl rfl (Nat.le_of_ble_eq_true rfl) rfl dX0_record_50 [3, 7] rfl (by decide) (fun _ => Nat.le_of_ble_eq_true rfl) ⟨Nat.le_of_ble_eq_true rfl, Nat.le_of_ble_eq_true rfl⟩ (fun v u hv => ?_)
    obtain ⟨rfl, h⟩ := hv
    obtain ⟨se_65, la_66, de_67, le_68, sa_69, fl_70, ar_71, dr_72, pe_73, ri_74⟩ := u
    refine gw_nf (ws' := (wfl [cHi qa qas cR ol sz, cSt (qas 0) cI ((updS hs 2 (mkSt se_65 la_66 de_67 le_68 sa_69 fl_70 ar_71 dr_72 pe_73 ri_74)) 0).se ((updS hs 2 (mkSt se_65 la_66 de_67 le_68 sa_69 fl_70 ar_71 dr_72 pe_73 ri_74)) 0).la ((updS hs 2 (mkSt se_65 la_66 de_67 le_68 sa_69 fl_70 ar_71 dr_72 pe_73 ri_74)) 0).de ((updS hs 2 (mkSt se_65 la_66 de_67 le_68 sa_69 fl_70 ar_71 dr_72 pe_73 ri_74)) 0).le ((updS hs 2 (mkSt se_65 la_66 de_67 le_68 sa_69 fl_70 ar_71 dr_72 pe_73 ri_74)) 0).sa ((updS hs 2 (mkSt se_65 la_66 de_67 le_68 sa_69 fl_70 ar_71 dr_72 pe_73 ri_74)) 0).fl ((updS hs 2 (mkSt se_65 la_66 de_67 le_68 sa_69 fl_70 ar_71 dr_72 pe_73 ri_74)) 0).ar ((updS hs 2 (mkSt se_65 la_66 de_67 le_68 sa_69 fl_70 ar_71 dr_72 pe_73 ri_74)) 0).dr ((updS hs 2 (mkSt se_65 la_66 de_67 le_68 sa_69 fl_70 ar_71 dr_72 pe_73 ri_74)) 0).pe ((updS hs 2 (mkSt se_65 la_66 de_67 le_68 sa_69 fl_70 ar_71 dr_72 pe_73 ri_74)) 0).ri, cSt (qas 1) cI ((updS hs 2 (mkSt se_65 la_66 de_67 le_68 sa_69 fl_70 ar_71 dr_72 pe_73 ri_74)) 1).se ((updS hs 2 (mkSt se_65 la_66 de_67 le_68 sa_69 fl_70 ar_71 dr_72 pe_73 ri_74)) 1).la ((updS hs 2 (mkSt se_65 la_66 de_67 le_68 sa_69 fl_70 ar_71 dr_72 pe_73 ri_74)) 1).de ((updS hs 2 (mkSt se_65 la_66 de_67 le_68 sa_69 fl_70 ar_71 dr_72 pe_73 ri_74)) 1).le ((updS hs 2 (mkSt se_65 la_66 de_67 le_68 sa_69 fl_70 ar_71 dr_72 pe_73 ri_74)) 1).sa ((updS hs 2 (mkSt se_65 la_66 de_67 le_68 sa_69 fl_70 ar_71 dr_72 pe_73 ri_74)) 1).fl ((updS hs 2 (mkSt se_65 la_66 de_67 le_68 sa_69 fl_70 ar_71 dr_72 pe_73 ri_74)) 1).ar ((updS hs 2 (mkSt se_65 la_66 de_67 le_68 sa_69 fl_70 ar_71 dr_72 pe_73 ri_74)) 1).dr ((updS hs 2 (mkSt se_65 la_66 de_67 le_68 sa_69 fl_70 ar_71 dr_72 pe_73 ri_74)) 1).pe ((updS hs 2 (mkSt se_65 la_66 de_67 le_68 sa_69 fl_70 ar_71 dr_72 pe_73 ri_74)) 1).ri, cSt (qas 2) cI ((updS hs 2 (mkSt se_65 la_66 de_67 le_68 sa_69 fl_70 ar_71 dr_72 pe_73 ri_74)) 2).se ((updS hs 2 (mkSt se_65 la_66 de_67 le_68 sa_69 fl_70 ar_71 dr_72 pe_73 ri_74)) 2).la ((updS hs 2 (mkSt se_65 la_66 de_67 le_68 sa_69 fl_70 ar_71 dr_72 pe_73 ri_74)) 2).de ((updS hs 2 (mkSt se_65 la_66 de_67 le_68 sa_69 fl_70 ar_71 dr_72 pe_73 ri_74)) 2).le ((updS hs 2 (mkSt se_65 la_66 de_67 le_68 sa_69 fl_70 ar_71 dr_72 pe_73 ri_74)) 2).sa ((updS hs 2 (mkSt se_65 la_66 de_67 le_68 sa_69 fl_70 ar_71 dr_72 pe_73 ri_74)) 2).fl ((updS hs 2 (mkSt se_65 la_66 de_67 le_68 sa_69 fl_70 ar_71 dr_72 pe_73 ri_74)) 2).ar ((updS hs 2 (mkSt se_65 la_66 de_67 le_68 sa_69 fl_70 ar_71 dr_72 pe_73 ri_74)) 2).dr ((updS hs 2 (mkSt se_65 la_66 de_67 le_68 sa_69 fl_70 ar_71 dr_72 pe_73 ri_74)) 2).pe ((updS hs 2 (mkSt se_65 la_66 de_67 le_68 sa_69 fl_70 ar_71 dr_72 pe_73 ri_74)) 2).ri, cSt (qas 3) cI ((updS hs 2 (mkSt se_65 la_66 de_67 le_68 sa_69 fl_70 ar_71 dr_72 pe_73 ri_74)) 3).se ((updS hs 2 (mkSt se_65 la_66 de_67 le_68 sa_69 fl_70 ar_71 dr_72 pe_73 ri_74)) 3).la ((updS hs 2 (mkSt se_65 la_66 de_67 le_68 sa_69 fl_70 ar_71 dr_72 pe_73 ri_74)) 3).de ((updS hs 2 (mkSt se_65 la_66 de_67 le_68 sa_69 fl_70 ar_71 dr_72 pe_73 ri_74)) 3).le ((updS hs 2 (mkSt se_65 la_66 de_67 le_68 sa_69 fl_70 ar_71 dr_72 pe_73 ri_74)) 3).sa ((updS hs 2 (mkSt se_65 la_66 de_67 le_68 sa_69 fl_70 ar_71 dr_72 pe_73 ri_74)) 3).fl ((updS hs 2 (mkSt se_65 la_66 de_67 le_68 sa_69 fl_70 ar_71 dr_72 pe_73 ri_74)) 3).ar ((updS hs 2 (mkSt se_65 la_66 de_67 le_68 sa_69 fl_70 ar_71 dr_72 pe_73 ri_74)) 3).dr ((updS hs 2 (mkSt se_65 la_66 de_67 le_68 sa_69 fl_70 ar_71 dr_72 pe_73 ri_74)) 3).pe ((updS hs 2 (mkSt se_65 la_66 de_67 le_68 sa_69 fl_70 ar_71 dr_72 pe_73 ri_74)) 3).ri, cSt (qas 4) cI ((updS hs 2 (mkSt se_65 la_66 de_67 le_68 sa_69 fl_70 ar_71 dr_72 pe_73 ri_74)) 4).se ((updS hs 2 (mkSt se_65 la_66 de_67 le_68 sa_69 fl_70 ar_71 dr_72 pe_73 ri_74)) 4).la ((updS hs 2 (mkSt se_65 la_66 de_67 le_68 sa_69 fl_70 ar_71 dr_72 pe_73 ri_74)) 4).de ((updS hs 2 (mkSt se_65 la_66 de_67 le_68 sa_69 fl_70 ar_71 dr_72 pe_73 ri_74)) 4).le ((updS hs 2 (mkSt se_65 la_66 de_67 le_68 sa_69 fl_70 ar_71 dr_72 pe_73 ri_74)) 4).sa ((updS hs 2 (mkSt se_65 la_66 de_67 le_68 sa_69 fl_70 ar_71 dr_72 pe_73 ri_74)) 4).fl ((updS hs 2 (mkSt se_65 la_66 de_67 le_68 sa_69 fl_70 ar_71 dr_72 pe_73 ri_74)) 4).ar ((updS hs 2 (mkSt se_65 la_66 de_67 le_68 sa_69 fl_70 ar_71 dr_72 pe_73 ri_74)) 4).dr ((updS hs 2 (mkSt se_65 la_66 de_67 le_68 sa_69 fl_70 ar_71 dr_72 pe_73 ri_74)) 4).pe ((updS hs 2 (mkSt se_65 la_66 de_67 le_68 sa_69 fl_70 ar_71 dr_72 pe_73 ri_74)) 4).ri, cSt (qas 5) cI ((updS hs 2 (mkSt se_65 la_66 de_67 le_68 sa_69 fl_70 ar_71 dr_72 pe_73 ri_74)) 5).se ((updS hs 2 (mkSt se_65 la_66 de_67 le_68 sa_69 fl_70 ar_71 dr_72 pe_73 ri_74)) 5).la ((updS hs 2 (mkSt se_65 la_66 de_67 le_68 sa_69 fl_70 ar_71 dr_72 pe_73 ri_74)) 5).de ((updS hs 2 (mkSt se_65 la_66 de_67 le_68 sa_69 fl_70 ar_71 dr_72 pe_73 ri_74)) 5).le ((updS hs 2 (mkSt se_65 la_66 de_67 le_68 sa_69 fl_70 ar_71 dr_72 pe_73 ri_74)) 5).sa ((updS hs 2 (mkSt se_65 la_66 de_67 le_68 sa_69 fl_70 ar_71 dr_72 pe_73 ri_74)) 5).fl ((updS hs 2 (mkSt se_65 la_66 de_67 le_68 sa_69 fl_70 ar_71 dr_72 pe_73 ri_74)) 5).ar ((updS hs 2 (mkSt se_65 la_66 de_67 le_68 sa_69 fl_70 ar_71 dr_72 pe_73 ri_74)) 5).dr ((updS hs 2 (mkSt se_65 la_66 de_67 le_68 sa_69 fl_70 ar_71 dr_72 pe_73 ri_74)) 5).pe ((updS hs 2 (mkSt se_65 la_66 de_67 le_68 sa_69 fl_70 ar_71 dr_72 pe_73 ri_74)) 5).ri, cSt qb cI o1.se o1.la o1.de o1.le o1.sa o1.fl o1.ar o1.dr o1.pe o1.ri])) (lv' := [(0, .ref (qa 0)), (1, .ref (qb 0))]) (st' := []) (pc' := 53) (ce' := 0) (sl' := 0) rfl rfl rfl rfl rfl rfl ?_
    refine gw_aload_n (pc' := 54) κ dX0_record_53 rfl 0 rfl rfl ?_
    refine gw_dup (pc' := 55) κ dX0_record_54 rfl rfl ?_
    refine gb_get (pc' := 58) (C := RX0) (T := TX0) (N := 3) κ dX0_record_55 rfl inX0 0 rfl rfl rfl 2 (by decide) tw_fl_X0_18 rfl ?_
    refine gw_iconst (pc' := 59) (v := 1) κ dX0_record_58 rfl (by decide) ?_
    refine gw_iadd (pc' := 60) κ dX0_record_59 rfl  ?_
    refine gb_put (pc' := 63) (C := RX0) (T := TX0) (N := 3) (ty := .int) (bs' := [cHi qa qas cR ol (sz + (1 : Int32)), cSt (qas 0) cI ((updS hs 2 (mkSt se_65 la_66 de_67 le_68 sa_69 fl_70 ar_71 dr_72 pe_73 ri_74)) 0).se ((updS hs 2 (mkSt se_65 la_66 de_67 le_68 sa_69 fl_70 ar_71 dr_72 pe_73 ri_74)) 0).la ((updS hs 2 (mkSt se_65 la_66 de_67 le_68 sa_69 fl_70 ar_71 dr_72 pe_73 ri_74)) 0).de ((updS hs 2 (mkSt se_65 la_66 de_67 le_68 sa_69 fl_70 ar_71 dr_72 pe_73 ri_74)) 0).le ((updS hs 2 (mkSt se_65 la_66 de_67 le_68 sa_69 fl_70 ar_71 dr_72 pe_73 ri_74)) 0).sa ((updS hs 2 (mkSt se_65 la_66 de_67 le_68 sa_69 fl_70 ar_71 dr_72 pe_73 ri_74)) 0).fl ((updS hs 2 (mkSt se_65 la_66 de_67 le_68 sa_69 fl_70 ar_71 dr_72 pe_73 ri_74)) 0).ar ((updS hs 2 (mkSt se_65 la_66 de_67 le_68 sa_69 fl_70 ar_71 dr_72 pe_73 ri_74)) 0).dr ((updS hs 2 (mkSt se_65 la_66 de_67 le_68 sa_69 fl_70 ar_71 dr_72 pe_73 ri_74)) 0).pe ((updS hs 2 (mkSt se_65 la_66 de_67 le_68 sa_69 fl_70 ar_71 dr_72 pe_73 ri_74)) 0).ri, cSt (qas 1) cI ((updS hs 2 (mkSt se_65 la_66 de_67 le_68 sa_69 fl_70 ar_71 dr_72 pe_73 ri_74)) 1).se ((updS hs 2 (mkSt se_65 la_66 de_67 le_68 sa_69 fl_70 ar_71 dr_72 pe_73 ri_74)) 1).la ((updS hs 2 (mkSt se_65 la_66 de_67 le_68 sa_69 fl_70 ar_71 dr_72 pe_73 ri_74)) 1).de ((updS hs 2 (mkSt se_65 la_66 de_67 le_68 sa_69 fl_70 ar_71 dr_72 pe_73 ri_74)) 1).le ((updS hs 2 (mkSt se_65 la_66 de_67 le_68 sa_69 fl_70 ar_71 dr_72 pe_73 ri_74)) 1).sa ((updS hs 2 (mkSt se_65 la_66 de_67 le_68 sa_69 fl_70 ar_71 dr_72 pe_73 ri_74)) 1).fl ((updS hs 2 (mkSt se_65 la_66 de_67 le_68 sa_69 fl_70 ar_71 dr_72 pe_73 ri_74)) 1).ar ((updS hs 2 (mkSt se_65 la_66 de_67 le_68 sa_69 fl_70 ar_71 dr_72 pe_73 ri_74)) 1).dr ((updS hs 2 (mkSt se_65 la_66 de_67 le_68 sa_69 fl_70 ar_71 dr_72 pe_73 ri_74)) 1).pe ((updS hs 2 (mkSt se_65 la_66 de_67 le_68 sa_69 fl_70 ar_71 dr_72 pe_73 ri_74)) 1).ri, cSt (qas 2) cI ((updS hs 2 (mkSt se_65 la_66 de_67 le_68 sa_69 fl_70 ar_71 dr_72 pe_73 ri_74)) 2).se ((updS hs 2 (mkSt se_65 la_66 de_67 le_68 sa_69 fl_70 ar_71 dr_72 pe_73 ri_74)) 2).la ((updS hs 2 (mkSt se_65 la_66 de_67 le_68 sa_69 fl_70 ar_71 dr_72 pe_73 ri_74)) 2).de ((updS hs 2 (mkSt se_65 la_66 de_67 le_68 sa_69 fl_70 ar_71 dr_72 pe_73 ri_74)) 2).le ((updS hs 2 (mkSt se_65 la_66 de_67 le_68 sa_69 fl_70 ar_71 dr_72 pe_73 ri_74)) 2).sa ((updS hs 2 (mkSt se_65 la_66 de_67 le_68 sa_69 fl_70 ar_71 dr_72 pe_73 ri_74)) 2).fl ((updS hs 2 (mkSt se_65 la_66 de_67 le_68 sa_69 fl_70 ar_71 dr_72 pe_73 ri_74)) 2).ar ((updS hs 2 (mkSt se_65 la_66 de_67 le_68 sa_69 fl_70 ar_71 dr_72 pe_73 ri_74)) 2).dr ((updS hs 2 (mkSt se_65 la_66 de_67 le_68 sa_69 fl_70 ar_71 dr_72 pe_73 ri_74)) 2).pe ((updS hs 2 (mkSt se_65 la_66 de_67 le_68 sa_69 fl_70 ar_71 dr_72 pe_73 ri_74)) 2).ri, cSt (qas 3) cI ((updS hs 2 (mkSt se_65 la_66 de_67 le_68 sa_69 fl_70 ar_71 dr_72 pe_73 ri_74)) 3).se ((updS hs 2 (mkSt se_65 la_66 de_67 le_68 sa_69 fl_70 ar_71 dr_72 pe_73 ri_74)) 3).la ((updS hs 2 (mkSt se_65 la_66 de_67 le_68 sa_69 fl_70 ar_71 dr_72 pe_73 ri_74)) 3).de ((updS hs 2 (mkSt se_65 la_66 de_67 le_68 sa_69 fl_70 ar_71 dr_72 pe_73 ri_74)) 3).le ((updS hs 2 (mkSt se_65 la_66 de_67 le_68 sa_69 fl_70 ar_71 dr_72 pe_73 ri_74)) 3).sa ((updS hs 2 (mkSt se_65 la_66 de_67 le_68 sa_69 fl_70 ar_71 dr_72 pe_73 ri_74)) 3).fl ((updS hs 2 (mkSt se_65 la_66 de_67 le_68 sa_69 fl_70 ar_71 dr_72 pe_73 ri_74)) 3).ar ((updS hs 2 (mkSt se_65 la_66 de_67 le_68 sa_69 fl_70 ar_71 dr_72 pe_73 ri_74)) 3).dr ((updS hs 2 (mkSt se_65 la_66 de_67 le_68 sa_69 fl_70 ar_71 dr_72 pe_73 ri_74)) 3).pe ((updS hs 2 (mkSt se_65 la_66 de_67 le_68 sa_69 fl_70 ar_71 dr_72 pe_73 ri_74)) 3).ri, cSt (qas 4) cI ((updS hs 2 (mkSt se_65 la_66 de_67 le_68 sa_69 fl_70 ar_71 dr_72 pe_73 ri_74)) 4).se ((updS hs 2 (mkSt se_65 la_66 de_67 le_68 sa_69 fl_70 ar_71 dr_72 pe_73 ri_74)) 4).la ((updS hs 2 (mkSt se_65 la_66 de_67 le_68 sa_69 fl_70 ar_71 dr_72 pe_73 ri_74)) 4).de ((updS hs 2 (mkSt se_65 la_66 de_67 le_68 sa_69 fl_70 ar_71 dr_72 pe_73 ri_74)) 4).le ((updS hs 2 (mkSt se_65 la_66 de_67 le_68 sa_69 fl_70 ar_71 dr_72 pe_73 ri_74)) 4).sa ((updS hs 2 (mkSt se_65 la_66 de_67 le_68 sa_69 fl_70 ar_71 dr_72 pe_73 ri_74)) 4).fl ((updS hs 2 (mkSt se_65 la_66 de_67 le_68 sa_69 fl_70 ar_71 dr_72 pe_73 ri_74)) 4).ar ((updS hs 2 (mkSt se_65 la_66 de_67 le_68 sa_69 fl_70 ar_71 dr_72 pe_73 ri_74)) 4).dr ((updS hs 2 (mkSt se_65 la_66 de_67 le_68 sa_69 fl_70 ar_71 dr_72 pe_73 ri_74)) 4).pe ((updS hs 2 (mkSt se_65 la_66 de_67 le_68 sa_69 fl_70 ar_71 dr_72 pe_73 ri_74)) 4).ri, cSt (qas 5) cI ((updS hs 2 (mkSt se_65 la_66 de_67 le_68 sa_69 fl_70 ar_71 dr_72 pe_73 ri_74)) 5).se ((updS hs 2 (mkSt se_65 la_66 de_67 le_68 sa_69 fl_70 ar_71 dr_72 pe_73 ri_74)) 5).la ((updS hs 2 (mkSt se_65 la_66 de_67 le_68 sa_69 fl_70 ar_71 dr_72 pe_73 ri_74)) 5).de ((updS hs 2 (mkSt se_65 la_66 de_67 le_68 sa_69 fl_70 ar_71 dr_72 pe_73 ri_74)) 5).le ((updS hs 2 (mkSt se_65 la_66 de_67 le_68 sa_69 fl_70 ar_71 dr_72 pe_73 ri_74)) 5).sa ((updS hs 2 (mkSt se_65 la_66 de_67 le_68 sa_69 fl_70 ar_71 dr_72 pe_73 ri_74)) 5).fl ((updS hs 2 (mkSt se_65 la_66 de_67 le_68 sa_69 fl_70 ar_71 dr_72 pe_73 ri_74)) 5).ar ((updS hs 2 (mkSt se_65 la_66 de_67 le_68 sa_69 fl_70 ar_71 dr_72 pe_73 ri_74)) 5).dr ((updS hs 2 (mkSt se_65 la_66 de_67 le_68 sa_69 fl_70 ar_71 dr_72 pe_73 ri_74)) 5).pe ((updS hs 2 (mkSt se_65 la_66 de_67 le_68 sa_69 fl_70 ar_71 dr_72 pe_73 ri_74)) 5).ri, cSt qb cI o1.se o1.la o1.de o1.le o1.sa o1.fl o1.ar o1.dr o1.pe o1.ri]) κ dX0_record_60 rfl inX0 tyX0 tyX0_ok nmX0 0 rfl rfl rfl 2 (by decide) tw_fl_X0_18 rfl (by decide +kernel) rfl rfl (Nat.le_of_ble_eq_true rfl) rfl ?_
    exact gw_vret κ dX0_record_63 ((updS hs 2 (mkSt se_65 la_66 de_67 le_68 sa_69 fl_70 ar_71 dr_72 pe_73 ri_74)), ol, (sz + (1 : Int32))) rfl ⟨rfl, h⟩
  · refine gb_aald (pc' := 49) κ dX0_record_48 rfl 0 1 rfl rfl hb_2 (v := .ref (qas 3 0)) (by rw [hj_3, nI_clamp (by decide)]; rfl) ?_
    refine gw_aload_n (pc' := 50) κ dX0_record_49 rfl 1 rfl rfl ?_
    refine gb_callV (ci := 3) (qb := 4) (rest := []) κ (c_X3_copyFrom (qas 3) qb (hs 3) o1 h) ⟨rfl, rfl, Nat.le_of_ble_eq_true rfl, Nat.le_of_ble_eq_true rfl⟩ tw_ml_X0_25 tw_im_X3_copyFrom tw_se_X3_copyFrom tw_co_X3_copyFrom tw_in_X3 hy_X3_copyFrom rfl rfl rfl rfl rfl (Nat.le_of_ble_eq_true rfl) rfl dX0_record_50 [4, 7] rfl (by decide) (fun _ => Nat.le_of_ble_eq_true rfl) ⟨Nat.le_of_ble_eq_true rfl, Nat.le_of_ble_eq_true rfl⟩ (fun v u hv => ?_)
    obtain ⟨rfl, h⟩ := hv
    obtain ⟨se_75, la_76, de_77, le_78, sa_79, fl_80, ar_81, dr_82, pe_83, ri_84⟩ := u
    refine gw_nf (ws' := (wfl [cHi qa qas cR ol sz, cSt (qas 0) cI ((updS hs 3 (mkSt se_75 la_76 de_77 le_78 sa_79 fl_80 ar_81 dr_82 pe_83 ri_84)) 0).se ((updS hs 3 (mkSt se_75 la_76 de_77 le_78 sa_79 fl_80 ar_81 dr_82 pe_83 ri_84)) 0).la ((updS hs 3 (mkSt se_75 la_76 de_77 le_78 sa_79 fl_80 ar_81 dr_82 pe_83 ri_84)) 0).de ((updS hs 3 (mkSt se_75 la_76 de_77 le_78 sa_79 fl_80 ar_81 dr_82 pe_83 ri_84)) 0).le ((updS hs 3 (mkSt se_75 la_76 de_77 le_78 sa_79 fl_80 ar_81 dr_82 pe_83 ri_84)) 0).sa ((updS hs 3 (mkSt se_75 la_76 de_77 le_78 sa_79 fl_80 ar_81 dr_82 pe_83 ri_84)) 0).fl ((updS hs 3 (mkSt se_75 la_76 de_77 le_78 sa_79 fl_80 ar_81 dr_82 pe_83 ri_84)) 0).ar ((updS hs 3 (mkSt se_75 la_76 de_77 le_78 sa_79 fl_80 ar_81 dr_82 pe_83 ri_84)) 0).dr ((updS hs 3 (mkSt se_75 la_76 de_77 le_78 sa_79 fl_80 ar_81 dr_82 pe_83 ri_84)) 0).pe ((updS hs 3 (mkSt se_75 la_76 de_77 le_78 sa_79 fl_80 ar_81 dr_82 pe_83 ri_84)) 0).ri, cSt (qas 1) cI ((updS hs 3 (mkSt se_75 la_76 de_77 le_78 sa_79 fl_80 ar_81 dr_82 pe_83 ri_84)) 1).se ((updS hs 3 (mkSt se_75 la_76 de_77 le_78 sa_79 fl_80 ar_81 dr_82 pe_83 ri_84)) 1).la ((updS hs 3 (mkSt se_75 la_76 de_77 le_78 sa_79 fl_80 ar_81 dr_82 pe_83 ri_84)) 1).de ((updS hs 3 (mkSt se_75 la_76 de_77 le_78 sa_79 fl_80 ar_81 dr_82 pe_83 ri_84)) 1).le ((updS hs 3 (mkSt se_75 la_76 de_77 le_78 sa_79 fl_80 ar_81 dr_82 pe_83 ri_84)) 1).sa ((updS hs 3 (mkSt se_75 la_76 de_77 le_78 sa_79 fl_80 ar_81 dr_82 pe_83 ri_84)) 1).fl ((updS hs 3 (mkSt se_75 la_76 de_77 le_78 sa_79 fl_80 ar_81 dr_82 pe_83 ri_84)) 1).ar ((updS hs 3 (mkSt se_75 la_76 de_77 le_78 sa_79 fl_80 ar_81 dr_82 pe_83 ri_84)) 1).dr ((updS hs 3 (mkSt se_75 la_76 de_77 le_78 sa_79 fl_80 ar_81 dr_82 pe_83 ri_84)) 1).pe ((updS hs 3 (mkSt se_75 la_76 de_77 le_78 sa_79 fl_80 ar_81 dr_82 pe_83 ri_84)) 1).ri, cSt (qas 2) cI ((updS hs 3 (mkSt se_75 la_76 de_77 le_78 sa_79 fl_80 ar_81 dr_82 pe_83 ri_84)) 2).se ((updS hs 3 (mkSt se_75 la_76 de_77 le_78 sa_79 fl_80 ar_81 dr_82 pe_83 ri_84)) 2).la ((updS hs 3 (mkSt se_75 la_76 de_77 le_78 sa_79 fl_80 ar_81 dr_82 pe_83 ri_84)) 2).de ((updS hs 3 (mkSt se_75 la_76 de_77 le_78 sa_79 fl_80 ar_81 dr_82 pe_83 ri_84)) 2).le ((updS hs 3 (mkSt se_75 la_76 de_77 le_78 sa_79 fl_80 ar_81 dr_82 pe_83 ri_84)) 2).sa ((updS hs 3 (mkSt se_75 la_76 de_77 le_78 sa_79 fl_80 ar_81 dr_82 pe_83 ri_84)) 2).fl ((updS hs 3 (mkSt se_75 la_76 de_77 le_78 sa_79 fl_80 ar_81 dr_82 pe_83 ri_84)) 2).ar ((updS hs 3 (mkSt se_75 la_76 de_77 le_78 sa_79 fl_80 ar_81 dr_82 pe_83 ri_84)) 2).dr ((updS hs 3 (mkSt se_75 la_76 de_77 le_78 sa_79 fl_80 ar_81 dr_82 pe_83 ri_84)) 2).pe ((updS hs 3 (mkSt se_75 la_76 de_77 le_78 sa_79 fl_80 ar_81 dr_82 pe_83 ri_84)) 2).ri, cSt (qas 3) cI ((updS hs 3 (mkSt se_75 la_76 de_77 le_78 sa_79 fl_80 ar_81 dr_82 pe_83 ri_84)) 3).se ((updS hs 3 (mkSt se_75 la_76 de_77 le_78 sa_79 fl_80 ar_81 dr_82 pe_83 ri_84)) 3).la ((updS hs 3 (mkSt se_75 la_76 de_77 le_78 sa_79 fl_80 ar_81 dr_82 pe_83 ri_84)) 3).de ((updS hs 3 (mkSt se_75 la_76 de_77 le_78 sa_79 fl_80 ar_81 dr_82 pe_83 ri_84)) 3).le ((updS hs 3 (mkSt se_75 la_76 de_77 le_78 sa_79 fl_80 ar_81 dr_82 pe_83 ri_84)) 3).sa ((updS hs 3 (mkSt se_75 la_76 de_77 le_78 sa_79 fl_80 ar_81 dr_82 pe_83 ri_84)) 3).fl ((updS hs 3 (mkSt se_75 la_76 de_77 le_78 sa_79 fl_80 ar_81 dr_82 pe_83 ri_84)) 3).ar ((updS hs 3 (mkSt se_75 la_76 de_77 le_78 sa_79 fl_80 ar_81 dr_82 pe_83 ri_84)) 3).dr ((updS hs 3 (mkSt se_75 la_76 de_77 le_78 sa_79 fl_80 ar_81 dr_82 pe_83 ri_84)) 3).pe ((updS hs 3 (mkSt se_75 la_76 de_77 le_78 sa_79 fl_80 ar_81 dr_82 pe_83 ri_84)) 3).ri, cSt (qas 4) cI ((updS hs 3 (mkSt se_75 la_76 de_77 le_78 sa_79 fl_80 ar_81 dr_82 pe_83 ri_84)) 4).se ((updS hs 3 (mkSt se_75 la_76 de_77 le_78 sa_79 fl_80 ar_81 dr_82 pe_83 ri_84)) 4).la ((updS hs 3 (mkSt se_75 la_76 de_77 le_78 sa_79 fl_80 ar_81 dr_82 pe_83 ri_84)) 4).de ((updS hs 3 (mkSt se_75 la_76 de_77 le_78 sa_79 fl_80 ar_81 dr_82 pe_83 ri_84)) 4).le ((updS hs 3 (mkSt se_75 la_76 de_77 le_78 sa_79 fl_80 ar_81 dr_82 pe_83 ri_84)) 4).sa ((updS hs 3 (mkSt se_75 la_76 de_77 le_78 sa_79 fl_80 ar_81 dr_82 pe_83 ri_84)) 4).fl ((updS hs 3 (mkSt se_75 la_76 de_77 le_78 sa_79 fl_80 ar_81 dr_82 pe_83 ri_84)) 4).ar ((updS hs 3 (mkSt se_75 la_76 de_77 le_78 sa_79 fl_80 ar_81 dr_82 pe_83 ri_84)) 4).dr ((updS hs 3 (mkSt se_75 la_76 de_77 le_78 sa_79 fl_80 ar_81 dr_82 pe_83 ri_84)) 4).pe ((updS hs 3 (mkSt se_75 la_76 de_77 le_78 sa_79 fl_80 ar_81 dr_82 pe_83 ri_84)) 4).ri, cSt (qas 5) cI ((updS hs 3 (mkSt se_75 la_76 de_77 le_78 sa_79 fl_80 ar_81 dr_82 pe_83 ri_84)) 5).se ((updS hs 3 (mkSt se_75 la_76 de_77 le_78 sa_79 fl_80 ar_81 dr_82 pe_83 ri_84)) 5).la ((updS hs 3 (mkSt se_75 la_76 de_77 le_78 sa_79 fl_80 ar_81 dr_82 pe_83 ri_84)) 5).de ((updS hs 3 (mkSt se_75 la_76 de_77 le_78 sa_79 fl_80 ar_81 dr_82 pe_83 ri_84)) 5).le ((updS hs 3 (mkSt se_75 la_76 de_77 le_78 sa_79 fl_80 ar_81 dr_82 pe_83 ri_84)) 5).sa ((updS hs 3 (mkSt se_75 la_76 de_77 le_78 sa_79 fl_80 ar_81 dr_82 pe_83 ri_84)) 5).fl ((updS hs 3 (mkSt se_75 la_76 de_77 le_78 sa_79 fl_80 ar_81 dr_82 pe_83 ri_84)) 5).ar ((updS hs 3 (mkSt se_75 la_76 de_77 le_78 sa_79 fl_80 ar_81 dr_82 pe_83 ri_84)) 5).dr ((updS hs 3 (mkSt se_75 la_76 de_77 le_78 sa_79 fl_80 ar_81 dr_82 pe_83 ri_84)) 5).pe ((updS hs 3 (mkSt se_75 la_76 de_77 le_78 sa_79 fl_80 ar_81 dr_82 pe_83 ri_84)) 5).ri, cSt qb cI o1.se o1.la o1.de o1.le o1.sa o1.fl o1.ar o1.dr o1.pe o1.ri])) (lv' := [(0, .ref (qa 0)), (1, .ref (qb 0))]) (st' := []) (pc' := 53) (ce' := 0) (sl' := 0) rfl rfl rfl rfl rfl rfl ?_
    refine gw_aload_n (pc' := 54) κ dX0_record_53 rfl 0 rfl rfl ?_
    refine gw_dup (pc' := 55) κ dX0_record_54 rfl rfl ?_
    refine gb_get (pc' := 58) (C := RX0) (T := TX0) (N := 3) κ dX0_record_55 rfl inX0 0 rfl rfl rfl 2 (by decide) tw_fl_X0_18 rfl ?_
    refine gw_iconst (pc' := 59) (v := 1) κ dX0_record_58 rfl (by decide) ?_
    refine gw_iadd (pc' := 60) κ dX0_record_59 rfl  ?_
    refine gb_put (pc' := 63) (C := RX0) (T := TX0) (N := 3) (ty := .int) (bs' := [cHi qa qas cR ol (sz + (1 : Int32)), cSt (qas 0) cI ((updS hs 3 (mkSt se_75 la_76 de_77 le_78 sa_79 fl_80 ar_81 dr_82 pe_83 ri_84)) 0).se ((updS hs 3 (mkSt se_75 la_76 de_77 le_78 sa_79 fl_80 ar_81 dr_82 pe_83 ri_84)) 0).la ((updS hs 3 (mkSt se_75 la_76 de_77 le_78 sa_79 fl_80 ar_81 dr_82 pe_83 ri_84)) 0).de ((updS hs 3 (mkSt se_75 la_76 de_77 le_78 sa_79 fl_80 ar_81 dr_82 pe_83 ri_84)) 0).le ((updS hs 3 (mkSt se_75 la_76 de_77 le_78 sa_79 fl_80 ar_81 dr_82 pe_83 ri_84)) 0).sa ((updS hs 3 (mkSt se_75 la_76 de_77 le_78 sa_79 fl_80 ar_81 dr_82 pe_83 ri_84)) 0).fl ((updS hs 3 (mkSt se_75 la_76 de_77 le_78 sa_79 fl_80 ar_81 dr_82 pe_83 ri_84)) 0).ar ((updS hs 3 (mkSt se_75 la_76 de_77 le_78 sa_79 fl_80 ar_81 dr_82 pe_83 ri_84)) 0).dr ((updS hs 3 (mkSt se_75 la_76 de_77 le_78 sa_79 fl_80 ar_81 dr_82 pe_83 ri_84)) 0).pe ((updS hs 3 (mkSt se_75 la_76 de_77 le_78 sa_79 fl_80 ar_81 dr_82 pe_83 ri_84)) 0).ri, cSt (qas 1) cI ((updS hs 3 (mkSt se_75 la_76 de_77 le_78 sa_79 fl_80 ar_81 dr_82 pe_83 ri_84)) 1).se ((updS hs 3 (mkSt se_75 la_76 de_77 le_78 sa_79 fl_80 ar_81 dr_82 pe_83 ri_84)) 1).la ((updS hs 3 (mkSt se_75 la_76 de_77 le_78 sa_79 fl_80 ar_81 dr_82 pe_83 ri_84)) 1).de ((updS hs 3 (mkSt se_75 la_76 de_77 le_78 sa_79 fl_80 ar_81 dr_82 pe_83 ri_84)) 1).le ((updS hs 3 (mkSt se_75 la_76 de_77 le_78 sa_79 fl_80 ar_81 dr_82 pe_83 ri_84)) 1).sa ((updS hs 3 (mkSt se_75 la_76 de_77 le_78 sa_79 fl_80 ar_81 dr_82 pe_83 ri_84)) 1).fl ((updS hs 3 (mkSt se_75 la_76 de_77 le_78 sa_79 fl_80 ar_81 dr_82 pe_83 ri_84)) 1).ar ((updS hs 3 (mkSt se_75 la_76 de_77 le_78 sa_79 fl_80 ar_81 dr_82 pe_83 ri_84)) 1).dr ((updS hs 3 (mkSt se_75 la_76 de_77 le_78 sa_79 fl_80 ar_81 dr_82 pe_83 ri_84)) 1).pe ((updS hs 3 (mkSt se_75 la_76 de_77 le_78 sa_79 fl_80 ar_81 dr_82 pe_83 ri_84)) 1).ri, cSt (qas 2) cI ((updS hs 3 (mkSt se_75 la_76 de_77 le_78 sa_79 fl_80 ar_81 dr_82 pe_83 ri_84)) 2).se ((updS hs 3 (mkSt se_75 la_76 de_77 le_78 sa_79 fl_80 ar_81 dr_82 pe_83 ri_84)) 2).la ((updS hs 3 (mkSt se_75 la_76 de_77 le_78 sa_79 fl_80 ar_81 dr_82 pe_83 ri_84)) 2).de ((updS hs 3 (mkSt se_75 la_76 de_77 le_78 sa_79 fl_80 ar_81 dr_82 pe_83 ri_84)) 2).le ((updS hs 3 (mkSt se_75 la_76 de_77 le_78 sa_79 fl_80 ar_81 dr_82 pe_83 ri_84)) 2).sa ((updS hs 3 (mkSt se_75 la_76 de_77 le_78 sa_79 fl_80 ar_81 dr_82 pe_83 ri_84)) 2).fl ((updS hs 3 (mkSt se_75 la_76 de_77 le_78 sa_79 fl_80 ar_81 dr_82 pe_83 ri_84)) 2).ar ((updS hs 3 (mkSt se_75 la_76 de_77 le_78 sa_79 fl_80 ar_81 dr_82 pe_83 ri_84)) 2).dr ((updS hs 3 (mkSt se_75 la_76 de_77 le_78 sa_79 fl_80 ar_81 dr_82 pe_83 ri_84)) 2).pe ((updS hs 3 (mkSt se_75 la_76 de_77 le_78 sa_79 fl_80 ar_81 dr_82 pe_83 ri_84)) 2).ri, cSt (qas 3) cI ((updS hs 3 (mkSt se_75 la_76 de_77 le_78 sa_79 fl_80 ar_81 dr_82 pe_83 ri_84)) 3).se ((updS hs 3 (mkSt se_75 la_76 de_77 le_78 sa_79 fl_80 ar_81 dr_82 pe_83 ri_84)) 3).la ((updS hs 3 (mkSt se_75 la_76 de_77 le_78 sa_79 fl_80 ar_81 dr_82 pe_83 ri_84)) 3).de ((updS hs 3 (mkSt se_75 la_76 de_77 le_78 sa_79 fl_80 ar_81 dr_82 pe_83 ri_84)) 3).le ((updS hs 3 (mkSt se_75 la_76 de_77 le_78 sa_79 fl_80 ar_81 dr_82 pe_83 ri_84)) 3).sa ((updS hs 3 (mkSt se_75 la_76 de_77 le_78 sa_79 fl_80 ar_81 dr_82 pe_83 ri_84)) 3).fl ((updS hs 3 (mkSt se_75 la_76 de_77 le_78 sa_79 fl_80 ar_81 dr_82 pe_83 ri_84)) 3).ar ((updS hs 3 (mkSt se_75 la_76 de_77 le_78 sa_79 fl_80 ar_81 dr_82 pe_83 ri_84)) 3).dr ((updS hs 3 (mkSt se_75 la_76 de_77 le_78 sa_79 fl_80 ar_81 dr_82 pe_83 ri_84)) 3).pe ((updS hs 3 (mkSt se_75 la_76 de_77 le_78 sa_79 fl_80 ar_81 dr_82 pe_83 ri_84)) 3).ri, cSt (qas 4) cI ((updS hs 3 (mkSt se_75 la_76 de_77 le_78 sa_79 fl_80 ar_81 dr_82 pe_83 ri_84)) 4).se ((updS hs 3 (mkSt se_75 la_76 de_77 le_78 sa_79 fl_80 ar_81 dr_82 pe_83 ri_84)) 4).la ((updS hs 3 (mkSt se_75 la_76 de_77 le_78 sa_79 fl_80 ar_81 dr_82 pe_83 ri_84)) 4).de ((updS hs 3 (mkSt se_75 la_76 de_77 le_78 sa_79 fl_80 ar_81 dr_82 pe_83 ri_84)) 4).le ((updS hs 3 (mkSt se_75 la_76 de_77 le_78 sa_79 fl_80 ar_81 dr_82 pe_83 ri_84)) 4).sa ((updS hs 3 (mkSt se_75 la_76 de_77 le_78 sa_79 fl_80 ar_81 dr_82 pe_83 ri_84)) 4).fl ((updS hs 3 (mkSt se_75 la_76 de_77 le_78 sa_79 fl_80 ar_81 dr_82 pe_83 ri_84)) 4).ar ((updS hs 3 (mkSt se_75 la_76 de_77 le_78 sa_79 fl_80 ar_81 dr_82 pe_83 ri_84)) 4).dr ((updS hs 3 (mkSt se_75 la_76 de_77 le_78 sa_79 fl_80 ar_81 dr_82 pe_83 ri_84)) 4).pe ((updS hs 3 (mkSt se_75 la_76 de_77 le_78 sa_79 fl_80 ar_81 dr_82 pe_83 ri_84)) 4).ri, cSt (qas 5) cI ((updS hs 3 (mkSt se_75 la_76 de_77 le_78 sa_79 fl_80 ar_81 dr_82 pe_83 ri_84)) 5).se ((updS hs 3 (mkSt se_75 la_76 de_77 le_78 sa_79 fl_80 ar_81 dr_82 pe_83 ri_84)) 5).la ((updS hs 3 (mkSt se_75 la_76 de_77 le_78 sa_79 fl_80 ar_81 dr_82 pe_83 ri_84)) 5).de ((updS hs 3 (mkSt se_75 la_76 de_77 le_78 sa_79 fl_80 ar_81 dr_82 pe_83 ri_84)) 5).le ((updS hs 3 (mkSt se_75 la_76 de_77 le_78 sa_79 fl_80 ar_81 dr_82 pe_83 ri_84)) 5).sa ((updS hs 3 (mkSt se_75 la_76 de_77 le_78 sa_79 fl_80 ar_81 dr_82 pe_83 ri_84)) 5).fl ((updS hs 3 (mkSt se_75 la_76 de_77 le_78 sa_79 fl_80 ar_81 dr_82 pe_83 ri_84)) 5).ar ((updS hs 3 (mkSt se_75 la_76 de_77 le_78 sa_79 fl_80 ar_81 dr_82 pe_83 ri_84)) 5).dr ((updS hs 3 (mkSt se_75 la_76 de_77 le_78 sa_79 fl_80 ar_81 dr_82 pe_83 ri_84)) 5).pe ((updS hs 3 (mkSt se_75 la_76 de_77 le_78 sa_79 fl_80 ar_81 dr_82 pe_83 ri_84)) 5).ri, cSt qb cI o1.se o1.la o1.de o1.le o1.sa o1.fl o1.ar o1.dr o1.pe o1.ri]) κ dX0_record_60 rfl inX0 tyX0 tyX0_ok nmX0 0 rfl rfl rfl 2 (by decide) tw_fl_X0_18 rfl (by decide +kernel) rfl rfl (Nat.le_of_ble_eq_true rfl) rfl ?_
    exact gw_vret κ dX0_record_63 ((updS hs 3 (mkSt se_75 la_76 de_77 le_78 sa_79 fl_80 ar_81 dr_82 pe_83 ri_84)), ol, (sz + (1 : Int32))) rfl ⟨rfl, h⟩
  · refine gb_aald (pc' := 49) κ dX0_record_48 rfl 0 1 rfl rfl hb_2 (v := .ref (qas 4 0)) (by rw [hj_3, nI_clamp (by decide)]; rfl) ?_
    refine gw_aload_n (pc' := 50) κ dX0_record_49 rfl 1 rfl rfl ?_
    refine gb_callV (ci := 3) (qb := 5) (rest := []) κ (c_X3_copyFrom (qas 4) qb (hs 4) o1 h) ⟨rfl, rfl, Nat.le_of_ble_eq_true rfl, Nat.le_of_ble_eq_true rfl⟩ tw_ml_X0_25 tw_im_X3_copyFrom tw_se_X3_copyFrom tw_co_X3_copyFrom tw_in_X3 hy_X3_copyFrom rfl rfl rfl rfl rfl (Nat.le_of_ble_eq_true rfl) rfl dX0_record_50 [5, 7] rfl (by decide) (fun _ => Nat.le_of_ble_eq_true rfl) ⟨Nat.le_of_ble_eq_true rfl, Nat.le_of_ble_eq_true rfl⟩ (fun v u hv => ?_)
    obtain ⟨rfl, h⟩ := hv
    obtain ⟨se_85, la_86, de_87, le_88, sa_89, fl_90, ar_91, dr_92, pe_93, ri_94⟩ := u
    refine gw_nf (ws' := (wfl [cHi qa qas cR ol sz, cSt (qas 0) cI ((updS hs 4 (mkSt se_85 la_86 de_87 le_88 sa_89 fl_90 ar_91 dr_92 pe_93 ri_94)) 0).se ((updS hs 4 (mkSt se_85 la_86 de_87 le_88 sa_89 fl_90 ar_91 dr_92 pe_93 ri_94)) 0).la ((updS hs 4 (mkSt se_85 la_86 de_87 le_88 sa_89 fl_90 ar_91 dr_92 pe_93 ri_94)) 0).de ((updS hs 4 (mkSt se_85 la_86 de_87 le_88 sa_89 fl_90 ar_91 dr_92 pe_93 ri_94)) 0).le ((updS hs 4 (mkSt se_85 la_86 de_87 le_88 sa_89 fl_90 ar_91 dr_92 pe_93 ri_94)) 0).sa ((updS hs 4 (mkSt se_85 la_86 de_87 le_88 sa_89 fl_90 ar_91 dr_92 pe_93 ri_94)) 0).fl ((updS hs 4 (mkSt se_85 la_86 de_87 le_88 sa_89 fl_90 ar_91 dr_92 pe_93 ri_94)) 0).ar ((updS hs 4 (mkSt se_85 la_86 de_87 le_88 sa_89 fl_90 ar_91 dr_92 pe_93 ri_94)) 0).dr ((updS hs 4 (mkSt se_85 la_86 de_87 le_88 sa_89 fl_90 ar_91 dr_92 pe_93 ri_94)) 0).pe ((updS hs 4 (mkSt se_85 la_86 de_87 le_88 sa_89 fl_90 ar_91 dr_92 pe_93 ri_94)) 0).ri, cSt (qas 1) cI ((updS hs 4 (mkSt se_85 la_86 de_87 le_88 sa_89 fl_90 ar_91 dr_92 pe_93 ri_94)) 1).se ((updS hs 4 (mkSt se_85 la_86 de_87 le_88 sa_89 fl_90 ar_91 dr_92 pe_93 ri_94)) 1).la ((updS hs 4 (mkSt se_85 la_86 de_87 le_88 sa_89 fl_90 ar_91 dr_92 pe_93 ri_94)) 1).de ((updS hs 4 (mkSt se_85 la_86 de_87 le_88 sa_89 fl_90 ar_91 dr_92 pe_93 ri_94)) 1).le ((updS hs 4 (mkSt se_85 la_86 de_87 le_88 sa_89 fl_90 ar_91 dr_92 pe_93 ri_94)) 1).sa ((updS hs 4 (mkSt se_85 la_86 de_87 le_88 sa_89 fl_90 ar_91 dr_92 pe_93 ri_94)) 1).fl ((updS hs 4 (mkSt se_85 la_86 de_87 le_88 sa_89 fl_90 ar_91 dr_92 pe_93 ri_94)) 1).ar ((updS hs 4 (mkSt se_85 la_86 de_87 le_88 sa_89 fl_90 ar_91 dr_92 pe_93 ri_94)) 1).dr ((updS hs 4 (mkSt se_85 la_86 de_87 le_88 sa_89 fl_90 ar_91 dr_92 pe_93 ri_94)) 1).pe ((updS hs 4 (mkSt se_85 la_86 de_87 le_88 sa_89 fl_90 ar_91 dr_92 pe_93 ri_94)) 1).ri, cSt (qas 2) cI ((updS hs 4 (mkSt se_85 la_86 de_87 le_88 sa_89 fl_90 ar_91 dr_92 pe_93 ri_94)) 2).se ((updS hs 4 (mkSt se_85 la_86 de_87 le_88 sa_89 fl_90 ar_91 dr_92 pe_93 ri_94)) 2).la ((updS hs 4 (mkSt se_85 la_86 de_87 le_88 sa_89 fl_90 ar_91 dr_92 pe_93 ri_94)) 2).de ((updS hs 4 (mkSt se_85 la_86 de_87 le_88 sa_89 fl_90 ar_91 dr_92 pe_93 ri_94)) 2).le ((updS hs 4 (mkSt se_85 la_86 de_87 le_88 sa_89 fl_90 ar_91 dr_92 pe_93 ri_94)) 2).sa ((updS hs 4 (mkSt se_85 la_86 de_87 le_88 sa_89 fl_90 ar_91 dr_92 pe_93 ri_94)) 2).fl ((updS hs 4 (mkSt se_85 la_86 de_87 le_88 sa_89 fl_90 ar_91 dr_92 pe_93 ri_94)) 2).ar ((updS hs 4 (mkSt se_85 la_86 de_87 le_88 sa_89 fl_90 ar_91 dr_92 pe_93 ri_94)) 2).dr ((updS hs 4 (mkSt se_85 la_86 de_87 le_88 sa_89 fl_90 ar_91 dr_92 pe_93 ri_94)) 2).pe ((updS hs 4 (mkSt se_85 la_86 de_87 le_88 sa_89 fl_90 ar_91 dr_92 pe_93 ri_94)) 2).ri, cSt (qas 3) cI ((updS hs 4 (mkSt se_85 la_86 de_87 le_88 sa_89 fl_90 ar_91 dr_92 pe_93 ri_94)) 3).se ((updS hs 4 (mkSt se_85 la_86 de_87 le_88 sa_89 fl_90 ar_91 dr_92 pe_93 ri_94)) 3).la ((updS hs 4 (mkSt se_85 la_86 de_87 le_88 sa_89 fl_90 ar_91 dr_92 pe_93 ri_94)) 3).de ((updS hs 4 (mkSt se_85 la_86 de_87 le_88 sa_89 fl_90 ar_91 dr_92 pe_93 ri_94)) 3).le ((updS hs 4 (mkSt se_85 la_86 de_87 le_88 sa_89 fl_90 ar_91 dr_92 pe_93 ri_94)) 3).sa ((updS hs 4 (mkSt se_85 la_86 de_87 le_88 sa_89 fl_90 ar_91 dr_92 pe_93 ri_94)) 3).fl ((updS hs 4 (mkSt se_85 la_86 de_87 le_88 sa_89 fl_90 ar_91 dr_92 pe_93 ri_94)) 3).ar ((updS hs 4 (mkSt se_85 la_86 de_87 le_88 sa_89 fl_90 ar_91 dr_92 pe_93 ri_94)) 3).dr ((updS hs 4 (mkSt se_85 la_86 de_87 le_88 sa_89 fl_90 ar_91 dr_92 pe_93 ri_94)) 3).pe ((updS hs 4 (mkSt se_85 la_86 de_87 le_88 sa_89 fl_90 ar_91 dr_92 pe_93 ri_94)) 3).ri, cSt (qas 4) cI ((updS hs 4 (mkSt se_85 la_86 de_87 le_88 sa_89 fl_90 ar_91 dr_92 pe_93 ri_94)) 4).se ((updS hs 4 (mkSt se_85 la_86 de_87 le_88 sa_89 fl_90 ar_91 dr_92 pe_93 ri_94)) 4).la ((updS hs 4 (mkSt se_85 la_86 de_87 le_88 sa_89 fl_90 ar_91 dr_92 pe_93 ri_94)) 4).de ((updS hs 4 (mkSt se_85 la_86 de_87 le_88 sa_89 fl_90 ar_91 dr_92 pe_93 ri_94)) 4).le ((updS hs 4 (mkSt se_85 la_86 de_87 le_88 sa_89 fl_90 ar_91 dr_92 pe_93 ri_94)) 4).sa ((updS hs 4 (mkSt se_85 la_86 de_87 le_88 sa_89 fl_90 ar_91 dr_92 pe_93 ri_94)) 4).fl ((updS hs 4 (mkSt se_85 la_86 de_87 le_88 sa_89 fl_90 ar_91 dr_92 pe_93 ri_94)) 4).ar ((updS hs 4 (mkSt se_85 la_86 de_87 le_88 sa_89 fl_90 ar_91 dr_92 pe_93 ri_94)) 4).dr ((updS hs 4 (mkSt se_85 la_86 de_87 le_88 sa_89 fl_90 ar_91 dr_92 pe_93 ri_94)) 4).pe ((updS hs 4 (mkSt se_85 la_86 de_87 le_88 sa_89 fl_90 ar_91 dr_92 pe_93 ri_94)) 4).ri, cSt (qas 5) cI ((updS hs 4 (mkSt se_85 la_86 de_87 le_88 sa_89 fl_90 ar_91 dr_92 pe_93 ri_94)) 5).se ((updS hs 4 (mkSt se_85 la_86 de_87 le_88 sa_89 fl_90 ar_91 dr_92 pe_93 ri_94)) 5).la ((updS hs 4 (mkSt se_85 la_86 de_87 le_88 sa_89 fl_90 ar_91 dr_92 pe_93 ri_94)) 5).de ((updS hs 4 (mkSt se_85 la_86 de_87 le_88 sa_89 fl_90 ar_91 dr_92 pe_93 ri_94)) 5).le ((updS hs 4 (mkSt se_85 la_86 de_87 le_88 sa_89 fl_90 ar_91 dr_92 pe_93 ri_94)) 5).sa ((updS hs 4 (mkSt se_85 la_86 de_87 le_88 sa_89 fl_90 ar_91 dr_92 pe_93 ri_94)) 5).fl ((updS hs 4 (mkSt se_85 la_86 de_87 le_88 sa_89 fl_90 ar_91 dr_92 pe_93 ri_94)) 5).ar ((updS hs 4 (mkSt se_85 la_86 de_87 le_88 sa_89 fl_90 ar_91 dr_92 pe_93 ri_94)) 5).dr ((updS hs 4 (mkSt se_85 la_86 de_87 le_88 sa_89 fl_90 ar_91 dr_92 pe_93 ri_94)) 5).pe ((updS hs 4 (mkSt se_85 la_86 de_87 le_88 sa_89 fl_90 ar_91 dr_92 pe_93 ri_94)) 5).ri, cSt qb cI o1.se o1.la o1.de o1.le o1.sa o1.fl o1.ar o1.dr o1.pe o1.ri])) (lv' := [(0, .ref (qa 0)), (1, .ref (qb 0))]) (st' := []) (pc' := 53) (ce' := 0) (sl' := 0) rfl rfl rfl rfl rfl rfl ?_
    refine gw_aload_n (pc' := 54) κ dX0_record_53 rfl 0 rfl rfl ?_
    refine gw_dup (pc' := 55) κ dX0_record_54 rfl rfl ?_
    refine gb_get (pc' := 58) (C := RX0) (T := TX0) (N := 3) κ dX0_record_55 rfl inX0 0 rfl rfl rfl 2 (by decide) tw_fl_X0_18 rfl ?_
    refine gw_iconst (pc' := 59) (v := 1) κ dX0_record_58 rfl (by decide) ?_
    refine gw_iadd (pc' := 60) κ dX0_record_59 rfl  ?_
    refine gb_put (pc' := 63) (C := RX0) (T := TX0) (N := 3) (ty := .int) (bs' := [cHi qa qas cR ol (sz + (1 : Int32)), cSt (qas 0) cI ((updS hs 4 (mkSt se_85 la_86 de_87 le_88 sa_89 fl_90 ar_91 dr_92 pe_93 ri_94)) 0).se ((updS hs 4 (mkSt se_85 la_86 de_87 le_88 sa_89 fl_90 ar_91 dr_92 pe_93 ri_94)) 0).la ((updS hs 4 (mkSt se_85 la_86 de_87 le_88 sa_89 fl_90 ar_91 dr_92 pe_93 ri_94)) 0).de ((updS hs 4 (mkSt se_85 la_86 de_87 le_88 sa_89 fl_90 ar_91 dr_92 pe_93 ri_94)) 0).le ((updS hs 4 (mkSt se_85 la_86 de_87 le_88 sa_89 fl_90 ar_91 dr_92 pe_93 ri_94)) 0).sa ((updS hs 4 (mkSt se_85 la_86 de_87 le_88 sa_89 fl_90 ar_91 dr_92 pe_93 ri_94)) 0).fl ((updS hs 4 (mkSt se_85 la_86 de_87 le_88 sa_89 fl_90 ar_91 dr_92 pe_93 ri_94)) 0).ar ((updS hs 4 (mkSt se_85 la_86 de_87 le_88 sa_89 fl_90 ar_91 dr_92 pe_93 ri_94)) 0).dr ((updS hs 4 (mkSt se_85 la_86 de_87 le_88 sa_89 fl_90 ar_91 dr_92 pe_93 ri_94)) 0).pe ((updS hs 4 (mkSt se_85 la_86 de_87 le_88 sa_89 fl_90 ar_91 dr_92 pe_93 ri_94)) 0).ri, cSt (qas 1) cI ((updS hs 4 (mkSt se_85 la_86 de_87 le_88 sa_89 fl_90 ar_91 dr_92 pe_93 ri_94)) 1).se ((updS hs 4 (mkSt se_85 la_86 de_87 le_88 sa_89 fl_90 ar_91 dr_92 pe_93 ri_94)) 1).la ((updS hs 4 (mkSt se_85 la_86 de_87 le_88 sa_89 fl_90 ar_91 dr_92 pe_93 ri_94)) 1).de ((updS hs 4 (mkSt se_85 la_86 de_87 le_88 sa_89 fl_90 ar_91 dr_92 pe_93 ri_94)) 1).le ((updS hs 4 (mkSt se_85 la_86 de_87 le_88 sa_89 fl_90 ar_91 dr_92 pe_93 ri_94)) 1).sa ((updS hs 4 (mkSt se_85 la_86 de_87 le_88 sa_89 fl_90 ar_91 dr_92 pe_93 ri_94)) 1).fl ((updS hs 4 (mkSt se_85 la_86 de_87 le_88 sa_89 fl_90 ar_91 dr_92 pe_93 ri_94)) 1).ar ((updS hs 4 (mkSt se_85 la_86 de_87 le_88 sa_89 fl_90 ar_91 dr_92 pe_93 ri_94)) 1).dr ((updS hs 4 (mkSt se_85 la_86 de_87 le_88 sa_89 fl_90 ar_91 dr_92 pe_93 ri_94)) 1).pe ((updS hs 4 (mkSt se_85 la_86 de_87 le_88 sa_89 fl_90 ar_91 dr_92 pe_93 ri_94)) 1).ri, cSt (qas 2) cI ((updS hs 4 (mkSt se_85 la_86 de_87 le_88 sa_89 fl_90 ar_91 dr_92 pe_93 ri_94)) 2).se ((updS hs 4 (mkSt se_85 la_86 de_87 le_88 sa_89 fl_90 ar_91 dr_92 pe_93 ri_94)) 2).la ((updS hs 4 (mkSt se_85 la_86 de_87 le_88 sa_89 fl_90 ar_91 dr_92 pe_93 ri_94)) 2).de ((updS hs 4 (mkSt se_85 la_86 de_87 le_88 sa_89 fl_90 ar_91 dr_92 pe_93 ri_94)) 2).le ((updS hs 4 (mkSt se_85 la_86 de_87 le_88 sa_89 fl_90 ar_91 dr_92 pe_93 ri_94)) 2).sa ((updS hs 4 (mkSt se_85 la_86 de_87 le_88 sa_89 fl_90 ar_91 dr_92 pe_93 ri_94)) 2).fl ((updS hs 4 (mkSt se_85 la_86 de_87 le_88 sa_89 fl_90 ar_91 dr_92 pe_93 ri_94)) 2).ar ((updS hs 4 (mkSt se_85 la_86 de_87 le_88 sa_89 fl_90 ar_91 dr_92 pe_93 ri_94)) 2).dr ((updS hs 4 (mkSt se_85 la_86 de_87 le_88 sa_89 fl_90 ar_91 dr_92 pe_93 ri_94)) 2).pe ((updS hs 4 (mkSt se_85 la_86 de_87 le_88 sa_89 fl_90 ar_91 dr_92 pe_93 ri_94)) 2).ri, cSt (qas 3) cI ((updS hs 4 (mkSt se_85 la_86 de_87 le_88 sa_89 fl_90 ar_91 dr_92 pe_93 ri_94)) 3).se ((updS hs 4 (mkSt se_85 la_86 de_87 le_88 sa_89 fl_90 ar_91 dr_92 pe_93 ri_94)) 3).la ((updS hs 4 (mkSt se_85 la_86 de_87 le_88 sa_89 fl_90 ar_91 dr_92 pe_93 ri_94)) 3).de ((updS hs 4 (mkSt se_85 la_86 de_87 le_88 sa_89 fl_90 ar_91 dr_92 pe_93 ri_94)) 3).le ((updS hs 4 (mkSt se_85 la_86 de_87 le_88 sa_89 fl_90 ar_91 dr_92 pe_93 ri_94)) 3).sa ((updS hs 4 (mkSt se_85 la_86 de_87 le_88 sa_89 fl_90 ar_91 dr_92 pe_93 ri_94)) 3).fl ((updS hs 4 (mkSt se_85 la_86 de_87 le_88 sa_89 fl_90 ar_91 dr_92 pe_93 ri_94)) 3).ar ((updS hs 4 (mkSt se_85 la_86 de_87 le_88 sa_89 fl_90 ar_91 dr_92 pe_93 ri_94)) 3).dr ((updS hs 4 (mkSt se_85 la_86 de_87 le_88 sa_89 fl_90 ar_91 dr_92 pe_93 ri_94)) 3).pe ((updS hs 4 (mkSt se_85 la_86 de_87 le_88 sa_89 fl_90 ar_91 dr_92 pe_93 ri_94)) 3).ri, cSt (qas 4) cI ((updS hs 4 (mkSt se_85 la_86 de_87 le_88 sa_89 fl_90 ar_91 dr_92 pe_93 ri_94)) 4).se ((updS hs 4 (mkSt se_85 la_86 de_87 le_88 sa_89 fl_90 ar_91 dr_92 pe_93 ri_94)) 4).la ((updS hs 4 (mkSt se_85 la_86 de_87 le_88 sa_89 fl_90 ar_91 dr_92 pe_93 ri_94)) 4).de ((updS hs 4 (mkSt se_85 la_86 de_87 le_88 sa_89 fl_90 ar_91 dr_92 pe_93 ri_94)) 4).le ((updS hs 4 (mkSt se_85 la_86 de_87 le_88 sa_89 fl_90 ar_91 dr_92 pe_93 ri_94)) 4).sa ((updS hs 4 (mkSt se_85 la_86 de_87 le_88 sa_89 fl_90 ar_91 dr_92 pe_93 ri_94)) 4).fl ((updS hs 4 (mkSt se_85 la_86 de_87 le_88 sa_89 fl_90 ar_91 dr_92 pe_93 ri_94)) 4).ar ((updS hs 4 (mkSt se_85 la_86 de_87 le_88 sa_89 fl_90 ar_91 dr_92 pe_93 ri_94)) 4).dr ((updS hs 4 (mkSt se_85 la_86 de_87 le_88 sa_89 fl_90 ar_91 dr_92 pe_93 ri_94)) 4).pe ((updS hs 4 (mkSt se_85 la_86 de_87 le_88 sa_89 fl_90 ar_91 dr_92 pe_93 ri_94)) 4).ri, cSt (qas 5) cI ((updS hs 4 (mkSt se_85 la_86 de_87 le_88 sa_89 fl_90 ar_91 dr_92 pe_93 ri_94)) 5).se ((updS hs 4 (mkSt se_85 la_86 de_87 le_88 sa_89 fl_90 ar_91 dr_92 pe_93 ri_94)) 5).la ((updS hs 4 (mkSt se_85 la_86 de_87 le_88 sa_89 fl_90 ar_91 dr_92 pe_93 ri_94)) 5).de ((updS hs 4 (mkSt se_85 la_86 de_87 le_88 sa_89 fl_90 ar_91 dr_92 pe_93 ri_94)) 5).le ((updS hs 4 (mkSt se_85 la_86 de_87 le_88 sa_89 fl_90 ar_91 dr_92 pe_93 ri_94)) 5).sa ((updS hs 4 (mkSt se_85 la_86 de_87 le_88 sa_89 fl_90 ar_91 dr_92 pe_93 ri_94)) 5).fl ((updS hs 4 (mkSt se_85 la_86 de_87 le_88 sa_89 fl_90 ar_91 dr_92 pe_93 ri_94)) 5).ar ((updS hs 4 (mkSt se_85 la_86 de_87 le_88 sa_89 fl_90 ar_91 dr_92 pe_93 ri_94)) 5).dr ((updS hs 4 (mkSt se_85 la_86 de_87 le_88 sa_89 fl_90 ar_91 dr_92 pe_93 ri_94)) 5).pe ((updS hs 4 (mkSt se_85 la_86 de_87 le_88 sa_89 fl_90 ar_91 dr_92 pe_93 ri_94)) 5).ri, cSt qb cI o1.se o1.la o1.de o1.le o1.sa o1.fl o1.ar o1.dr o1.pe o1.ri]) κ dX0_record_60 rfl inX0 tyX0 tyX0_ok nmX0 0 rfl rfl rfl 2 (by decide) tw_fl_X0_18 rfl (by decide +kernel) rfl rfl (Nat.le_of_ble_eq_true rfl) rfl ?_
    exact gw_vret κ dX0_record_63 ((updS hs 4 (mkSt se_85 la_86 de_87 le_88 sa_89 fl_90 ar_91 dr_92 pe_93 ri_94)), ol, (sz + (1 : Int32))) rfl ⟨rfl, h⟩
  · refine gb_aald (pc' := 49) κ dX0_record_48 rfl 0 1 rfl rfl hb_2 (v := .ref (qas 5 0)) (by rw [hj_3, nI_clamp (by decide)]; rfl) ?_
    refine gw_aload_n (pc' := 50) κ dX0_record_49 rfl 1 rfl rfl ?_
    refine gb_callV (ci := 3) (qb := 6) (rest := []) κ (c_X3_copyFrom (qas 5) qb (hs 5) o1 h) ⟨rfl, rfl, Nat.le_of_ble_eq_true rfl, Nat.le_of_ble_eq_true rfl⟩ tw_ml_X0_25 tw_im_X3_copyFrom tw_se_X3_copyFrom tw_co_X3_copyFrom tw_in_X3 hy_X3_copyFrom rfl rfl rfl rfl rfl (Nat.le_of_ble_eq_true rfl) rfl dX0_record_50 [6, 7] rfl (by decide) (fun _ => Nat.le_of_ble_eq_true rfl) ⟨Nat.le_of_ble_eq_true rfl, Nat.le_of_ble_eq_true rfl⟩ (fun v u hv => ?_)
    obtain ⟨rfl, h⟩ := hv
    obtain ⟨se_95, la_96, de_97, le_98, sa_99, fl_100, ar_101, dr_102, pe_103, ri_104⟩ := u
    refine gw_nf (ws' := (wfl [cHi qa qas cR ol sz, cSt (qas 0) cI ((updS hs 5 (mkSt se_95 la_96 de_97 le_98 sa_99 fl_100 ar_101 dr_102 pe_103 ri_104)) 0).se ((updS hs 5 (mkSt se_95 la_96 de_97 le_98 sa_99 fl_100 ar_101 dr_102 pe_103 ri_104)) 0).la ((updS hs 5 (mkSt se_95 la_96 de_97 le_98 sa_99 fl_100 ar_101 dr_102 pe_103 ri_104)) 0).de ((updS hs 5 (mkSt se_95 la_96 de_97 le_98 sa_99 fl_100 ar_101 dr_102 pe_103 ri_104)) 0).le ((updS hs 5 (mkSt se_95 la_96 de_97 le_98 sa_99 fl_100 ar_101 dr_102 pe_103 ri_104)) 0).sa ((updS hs 5 (mkSt se_95 la_96 de_97 le_98 sa_99 fl_100 ar_101 dr_102 pe_103 ri_104)) 0).fl ((updS hs 5 (mkSt se_95 la_96 de_97 le_98 sa_99 fl_100 ar_101 dr_102 pe_103 ri_104)) 0).ar ((updS hs 5 (mkSt se_95 la_96 de_97 le_98 sa_99 fl_100 ar_101 dr_102 pe_103 ri_104)) 0).dr ((updS hs 5 (mkSt se_95 la_96 de_97 le_98 sa_99 fl_100 ar_101 dr_102 pe_103 ri_104)) 0).pe ((updS hs 5 (mkSt se_95 la_96 de_97 le_98 sa_99 fl_100 ar_101 dr_102 pe_103 ri_104)) 0).ri, cSt (qas 1) cI ((updS hs 5 (mkSt se_95 la_96 de_97 le_98 sa_99 fl_100 ar_101 dr_102 pe_103 ri_104)) 1).se ((updS hs 5 (mkSt se_95 la_96 de_97 le_98 sa_99 fl_100 ar_101 dr_102 pe_103 ri_104)) 1).la ((updS hs 5 (mkSt se_95 la_96 de_97 le_98 sa_99 fl_100 ar_101 dr_102 pe_103 ri_104)) 1).de ((updS hs 5 (mkSt se_95 la_96 de_97 le_98 sa_99 fl_100 ar_101 dr_102 pe_103 ri_104)) 1).le ((updS hs 5 (mkSt se_95 la_96 de_97 le_98 sa_99 fl_100 ar_101 dr_102 pe_103 ri_104)) 1).sa ((updS hs 5 (mkSt se_95 la_96 de_97 le_98 sa_99 fl_100 ar_101 dr_102 pe_103 ri_104)) 1).fl ((updS hs 5 (mkSt se_95 la_96 de_97 le_98 sa_99 fl_100 ar_101 dr_102 pe_103 ri_104)) 1).ar ((updS hs 5 (mkSt se_95 la_96 de_97 le_98 sa_99 fl_100 ar_101 dr_102 pe_103 ri_104)) 1).dr ((updS hs 5 (mkSt se_95 la_96 de_97 le_98 sa_99 fl_100 ar_101 dr_102 pe_103 ri_104)) 1).pe ((updS hs 5 (mkSt se_95 la_96 de_97 le_98 sa_99 fl_100 ar_101 dr_102 pe_103 ri_104)) 1).ri, cSt (qas 2) cI ((updS hs 5 (mkSt se_95 la_96 de_97 le_98 sa_99 fl_100 ar_101 dr_102 pe_103 ri_104)) 2).se ((updS hs 5 (mkSt se_95 la_96 de_97 le_98 sa_99 fl_100 ar_101 dr_102 pe_103 ri_104)) 2).la ((updS hs 5 (mkSt se_95 la_96 de_97 le_98 sa_99 fl_100 ar_101 dr_102 pe_103 ri_104)) 2).de ((updS hs 5 (mkSt se_95 la_96 de_97 le_98 sa_99 fl_100 ar_101 dr_102 pe_103 ri_104)) 2).le ((updS hs 5 (mkSt se_95 la_96 de_97 le_98 sa_99 fl_100 ar_101 dr_102 pe_103 ri_104)) 2).sa ((updS hs 5 (mkSt se_95 la_96 de_97 le_98 sa_99 fl_100 ar_101 dr_102 pe_103 ri_104)) 2).fl ((updS hs 5 (mkSt se_95 la_96 de_97 le_98 sa_99 fl_100 ar_101 dr_102 pe_103 ri_104)) 2).ar ((updS hs 5 (mkSt se_95 la_96 de_97 le_98 sa_99 fl_100 ar_101 dr_102 pe_103 ri_104)) 2).dr ((updS hs 5 (mkSt se_95 la_96 de_97 le_98 sa_99 fl_100 ar_101 dr_102 pe_103 ri_104)) 2).pe ((updS hs 5 (mkSt se_95 la_96 de_97 le_98 sa_99 fl_100 ar_101 dr_102 pe_103 ri_104)) 2).ri, cSt (qas 3) cI ((updS hs 5 (mkSt se_95 la_96 de_97 le_98 sa_99 fl_100 ar_101 dr_102 pe_103 ri_104)) 3).se ((updS hs 5 (mkSt se_95 la_96 de_97 le_98 sa_99 fl_100 ar_101 dr_102 pe_103 ri_104)) 3).la ((updS hs 5 (mkSt se_95 la_96 de_97 le_98 sa_99 fl_100 ar_101 dr_102 pe_103 ri_104)) 3).de ((updS hs 5 (mkSt se_95 la_96 de_97 le_98 sa_99 fl_100 ar_101 dr_102 pe_103 ri_104)) 3).le ((updS hs 5 (mkSt se_95 la_96 de_97 le_98 sa_99 fl_100 ar_101 dr_102 pe_103 ri_104)) 3).sa ((updS hs 5 (mkSt se_95 la_96 de_97 le_98 sa_99 fl_100 ar_101 dr_102 pe_103 ri_104)) 3).fl ((updS hs 5 (mkSt se_95 la_96 de_97 le_98 sa_99 fl_100 ar_101 dr_102 pe_103 ri_104)) 3).ar ((updS hs 5 (mkSt se_95 la_96 de_97 le_98 sa_99 fl_100 ar_101 dr_102 pe_103 ri_104)) 3).dr ((updS hs 5 (mkSt se_95 la_96 de_97 le_98 sa_99 fl_100 ar_101 dr_102 pe_103 ri_104)) 3).pe ((updS hs 5 (mkSt se_95 la_96 de_97 le_98 sa_99 fl_100 ar_101 dr_102 pe_103 ri_104)) 3).ri, cSt (qas 4) cI ((updS hs 5 (mkSt se_95 la_96 de_97 le_98 sa_99 fl_100 ar_101 dr_102 pe_103 ri_104)) 4).se ((updS hs 5 (mkSt se_95 la_96 de_97 le_98 sa_99 fl_100 ar_101 dr_102 pe_103 ri_104)) 4).la ((updS hs 5 (mkSt se_95 la_96 de_97 le_98 sa_99 fl_100 ar_101 dr_102 pe_103 ri_104)) 4).de ((updS hs 5 (mkSt se_95 la_96 de_97 le_98 sa_99 fl_100 ar_101 dr_102 pe_103 ri_104)) 4).le ((updS hs 5 (mkSt se_95 la_96 de_97 le_98 sa_99 fl_100 ar_101 dr_102 pe_103 ri_104)) 4).sa ((updS hs 5 (mkSt se_95 la_96 de_97 le_98 sa_99 fl_100 ar_101 dr_102 pe_103 ri_104)) 4).fl ((updS hs 5 (mkSt se_95 la_96 de_97 le_98 sa_99 fl_100 ar_101 dr_102 pe_103 ri_104)) 4).ar ((updS hs 5 (mkSt se_95 la_96 de_97 le_98 sa_99 fl_100 ar_101 dr_102 pe_103 ri_104)) 4).dr ((updS hs 5 (mkSt se_95 la_96 de_97 le_98 sa_99 fl_100 ar_101 dr_102 pe_103 ri_104)) 4).pe ((updS hs 5 (mkSt se_95 la_96 de_97 le_98 sa_99 fl_100 ar_101 dr_102 pe_103 ri_104)) 4).ri, cSt (qas 5) cI ((updS hs 5 (mkSt se_95 la_96 de_97 le_98 sa_99 fl_100 ar_101 dr_102 pe_103 ri_104)) 5).se ((updS hs 5 (mkSt se_95 la_96 de_97 le_98 sa_99 fl_100 ar_101 dr_102 pe_103 ri_104)) 5).la ((updS hs 5 (mkSt se_95 la_96 de_97 le_98 sa_99 fl_100 ar_101 dr_102 pe_103 ri_104)) 5).de ((updS hs 5 (mkSt se_95 la_96 de_97 le_98 sa_99 fl_100 ar_101 dr_102 pe_103 ri_104)) 5).le ((updS hs 5 (mkSt se_95 la_96 de_97 le_98 sa_99 fl_100 ar_101 dr_102 pe_103 ri_104)) 5).sa ((updS hs 5 (mkSt se_95 la_96 de_97 le_98 sa_99 fl_100 ar_101 dr_102 pe_103 ri_104)) 5).fl ((updS hs 5 (mkSt se_95 la_96 de_97 le_98 sa_99 fl_100 ar_101 dr_102 pe_103 ri_104)) 5).ar ((updS hs 5 (mkSt se_95 la_96 de_97 le_98 sa_99 fl_100 ar_101 dr_102 pe_103 ri_104)) 5).dr ((updS hs 5 (mkSt se_95 la_96 de_97 le_98 sa_99 fl_100 ar_101 dr_102 pe_103 ri_104)) 5).pe ((updS hs 5 (mkSt se_95 la_96 de_97 le_98 sa_99 fl_100 ar_101 dr_102 pe_103 ri_104)) 5).ri, cSt qb cI o1.se o1.la o1.de o1.le o1.sa o1.fl o1.ar o1.dr o1.pe o1.ri])) (lv' := [(0, .ref (qa 0)), (1, .ref (qb 0))]) (st' := []) (pc' := 53) (ce' := 0) (sl' := 0) rfl rfl rfl rfl rfl rfl ?_
    refine gw_aload_n (pc' := 54) κ dX0_record_53 rfl 0 rfl rfl ?_
    refine gw_dup (pc' := 55) κ dX0_record_54 rfl rfl ?_
    refine gb_get (pc' := 58) (C := RX0) (T := TX0) (N := 3) κ dX0_record_55 rfl inX0 0 rfl rfl rfl 2 (by decide) tw_fl_X0_18 rfl ?_
    refine gw_iconst (pc' := 59) (v := 1) κ dX0_record_58 rfl (by decide) ?_
    refine gw_iadd (pc' := 60) κ dX0_record_59 rfl  ?_
    refine gb_put (pc' := 63) (C := RX0) (T := TX0) (N := 3) (ty := .int) (bs' := [cHi qa qas cR ol (sz + (1 : Int32)), cSt (qas 0) cI ((updS hs 5 (mkSt se_95 la_96 de_97 le_98 sa_99 fl_100 ar_101 dr_102 pe_103 ri_104)) 0).se ((updS hs 5 (mkSt se_95 la_96 de_97 le_98 sa_99 fl_100 ar_101 dr_102 pe_103 ri_104)) 0).la ((updS hs 5 (mkSt se_95 la_96 de_97 le_98 sa_99 fl_100 ar_101 dr_102 pe_103 ri_104)) 0).de ((updS hs 5 (mkSt se_95 la_96 de_97 le_98 sa_99 fl_100 ar_101 dr_102 pe_103 ri_104)) 0).le ((updS hs 5 (mkSt se_95 la_96 de_97 le_98 sa_99 fl_100 ar_101 dr_102 pe_103 ri_104)) 0).sa ((updS hs 5 (mkSt se_95 la_96 de_97 le_98 sa_99 fl_100 ar_101 dr_102 pe_103 ri_104)) 0).fl ((updS hs 5 (mkSt se_95 la_96 de_97 le_98 sa_99 fl_100 ar_101 dr_102 pe_103 ri_104)) 0).ar ((updS hs 5 (mkSt se_95 la_96 de_97 le_98 sa_99 fl_100 ar_101 dr_102 pe_103 ri_104)) 0).dr ((updS hs 5 (mkSt se_95 la_96 de_97 le_98 sa_99 fl_100 ar_101 dr_102 pe_103 ri_104)) 0).pe ((updS hs 5 (mkSt se_95 la_96 de_97 le_98 sa_99 fl_100 ar_101 dr_102 pe_103 ri_104)) 0).ri, cSt (qas 1) cI ((updS hs 5 (mkSt se_95 la_96 de_97 le_98 sa_99 fl_100 ar_101 dr_102 pe_103 ri_104)) 1).se ((updS hs 5 (mkSt se_95 la_96 de_97 le_98 sa_99 fl_100 ar_101 dr_102 pe_103 ri_104)) 1).la ((updS hs 5 (mkSt se_95 la_96 de_97 le_98 sa_99 fl_100 ar_101 dr_102 pe_103 ri_104)) 1).de ((updS hs 5 (mkSt se_95 la_96 de_97 le_98 sa_99 fl_100 ar_101 dr_102 pe_103 ri_104)) 1).le ((updS hs 5 (mkSt se_95 la_96 de_97 le_98 sa_99 fl_100 ar_101 dr_102 pe_103 ri_104)) 1).sa ((updS hs 5 (mkSt se_95 la_96 de_97 le_98 sa_99 fl_100 ar_101 dr_102 pe_103 ri_104)) 1).fl ((updS hs 5 (mkSt se_95 la_96 de_97 le_98 sa_99 fl_100 ar_101 dr_102 pe_103 ri_104)) 1).ar ((updS hs 5 (mkSt se_95 la_96 de_97 le_98 sa_99 fl_100 ar_101 dr_102 pe_103 ri_104)) 1).dr ((updS hs 5 (mkSt se_95 la_96 de_97 le_98 sa_99 fl_100 ar_101 dr_102 pe_103 ri_104)) 1).pe ((updS hs 5 (mkSt se_95 la_96 de_97 le_98 sa_99 fl_100 ar_101 dr_102 pe_103 ri_104)) 1).ri, cSt (qas 2) cI ((updS hs 5 (mkSt se_95 la_96 de_97 le_98 sa_99 fl_100 ar_101 dr_102 pe_103 ri_104)) 2).se ((updS hs 5 (mkSt se_95 la_96 de_97 le_98 sa_99 fl_100 ar_101 dr_102 pe_103 ri_104)) 2).la ((updS hs 5 (mkSt se_95 la_96 de_97 le_98 sa_99 fl_100 ar_101 dr_102 pe_103 ri_104)) 2).de ((updS hs 5 (mkSt se_95 la_96 de_97 le_98 sa_99 fl_100 ar_101 dr_102 pe_103 ri_104)) 2).le ((updS hs 5 (mkSt se_95 la_96 de_97 le_98 sa_99 fl_100 ar_101 dr_102 pe_103 ri_104)) 2).sa ((updS hs 5 (mkSt se_95 la_96 de_97 le_98 sa_99 fl_100 ar_101 dr_102 pe_103 ri_104)) 2).fl ((updS hs 5 (mkSt se_95 la_96 de_97 le_98 sa_99 fl_100 ar_101 dr_102 pe_103 ri_104)) 2).ar ((updS hs 5 (mkSt se_95 la_96 de_97 le_98 sa_99 fl_100 ar_101 dr_102 pe_103 ri_104)) 2).dr ((updS hs 5 (mkSt se_95 la_96 de_97 le_98 sa_99 fl_100 ar_101 dr_102 pe_103 ri_104)) 2).pe ((updS hs 5 (mkSt se_95 la_96 de_97 le_98 sa_99 fl_100 ar_101 dr_102 pe_103 ri_104)) 2).ri, cSt (qas 3) cI ((updS hs 5 (mkSt se_95 la_96 de_97 le_98 sa_99 fl_100 ar_101 dr_102 pe_103 ri_104)) 3).se ((updS hs 5 (mkSt se_95 la_96 de_97 le_98 sa_99 fl_100 ar_101 dr_102 pe_103 ri_104)) 3).la ((updS hs 5 (mkSt se_95 la_96 de_97 le_98 sa_99 fl_100 ar_101 dr_102 pe_103 ri_104)) 3).de ((updS hs 5 (mkSt se_95 la_96 de_97 le_98 sa_99 fl_100 ar_101 dr_102 pe_103 ri_104)) 3).le ((updS hs 5 (mkSt se_95 la_96 de_97 le_98 sa_99 fl_100 ar_101 dr_102 pe_103 ri_104)) 3).sa ((updS hs 5 (mkSt se_95 la_96 de_97 le_98 sa_99 fl_100 ar_101 dr_102 pe_103 ri_104)) 3).fl ((updS hs 5 (mkSt se_95 la_96 de_97 le_98 sa_99 fl_100 ar_101 dr_102 pe_103 ri_104)) 3).ar ((updS hs 5 (mkSt se_95 la_96 de_97 le_98 sa_99 fl_100 ar_101 dr_102 pe_103 ri_104)) 3).dr ((updS hs 5 (mkSt se_95 la_96 de_97 le_98 sa_99 fl_100 ar_101 dr_102 pe_103 ri_104)) 3).pe ((updS hs 5 (mkSt se_95 la_96 de_97 le_98 sa_99 fl_100 ar_101 dr_102 pe_103 ri_104)) 3).ri, cSt (qas 4) cI ((updS hs 5 (mkSt se_95 la_96 de_97 le_98 sa_99 fl_100 ar_101 dr_102 pe_103 ri_104)) 4).se ((updS hs 5 (mkSt se_95 la_96 de_97 le_98 sa_99 fl_100 ar_101 dr_102 pe_103 ri_104)) 4).la ((updS hs 5 (mkSt se_95 la_96 de_97 le_98 sa_99 fl_100 ar_101 dr_102 pe_103 ri_104)) 4).de ((updS hs 5 (mkSt se_95 la_96 de_97 le_98 sa_99 fl_100 ar_101 dr_102 pe_103 ri_104)) 4).le ((updS hs 5 (mkSt se_95 la_96 de_97 le_98 sa_99 fl_100 ar_101 dr_102 pe_103 ri_104)) 4).sa ((updS hs 5 (mkSt se_95 la_96 de_97 le_98 sa_99 fl_100 ar_101 dr_102 pe_103 ri_104)) 4).fl ((updS hs 5 (mkSt se_95 la_96 de_97 le_98 sa_99 fl_100 ar_101 dr_102 pe_103 ri_104)) 4).ar ((updS hs 5 (mkSt se_95 la_96 de_97 le_98 sa_99 fl_100 ar_101 dr_102 pe_103 ri_104)) 4).dr ((updS hs 5 (mkSt se_95 la_96 de_97 le_98 sa_99 fl_100 ar_101 dr_102 pe_103 ri_104)) 4).pe ((updS hs 5 (mkSt se_95 la_96 de_97 le_98 sa_99 fl_100 ar_101 dr_102 pe_103 ri_104)) 4).ri, cSt (qas 5) cI ((updS hs 5 (mkSt se_95 la_96 de_97 le_98 sa_99 fl_100 ar_101 dr_102 pe_103 ri_104)) 5).se ((updS hs 5 (mkSt se_95 la_96 de_97 le_98 sa_99 fl_100 ar_101 dr_102 pe_103 ri_104)) 5).la ((updS hs 5 (mkSt se_95 la_96 de_97 le_98 sa_99 fl_100 ar_101 dr_102 pe_103 ri_104)) 5).de ((updS hs 5 (mkSt se_95 la_96 de_97 le_98 sa_99 fl_100 ar_101 dr_102 pe_103 ri_104)) 5).le ((updS hs 5 (mkSt se_95 la_96 de_97 le_98 sa_99 fl_100 ar_101 dr_102 pe_103 ri_104)) 5).sa ((updS hs 5 (mkSt se_95 la_96 de_97 le_98 sa_99 fl_100 ar_101 dr_102 pe_103 ri_104)) 5).fl ((updS hs 5 (mkSt se_95 la_96 de_97 le_98 sa_99 fl_100 ar_101 dr_102 pe_103 ri_104)) 5).ar ((updS hs 5 (mkSt se_95 la_96 de_97 le_98 sa_99 fl_100 ar_101 dr_102 pe_103 ri_104)) 5).dr ((updS hs 5 (mkSt se_95 la_96 de_97 le_98 sa_99 fl_100 ar_101 dr_102 pe_103 ri_104)) 5).pe ((updS hs 5 (mkSt se_95 la_96 de_97 le_98 sa_99 fl_100 ar_101 dr_102 pe_103 ri_104)) 5).ri, cSt qb cI o1.se o1.la o1.de o1.le o1.sa o1.fl o1.ar o1.dr o1.pe o1.ri]) κ dX0_record_60 rfl inX0 tyX0 tyX0_ok nmX0 0 rfl rfl rfl 2 (by decide) tw_fl_X0_18 rfl (by decide +kernel) rfl rfl (Nat.le_of_ble_eq_true rfl) rfl ?_
    exact gw_vret κ dX0_record_63 ((updS hs 5 (mkSt se_95 la_96 de_97 le_98 sa_99 fl_100 ar_101 dr_102 pe_103 ri_104)), ol, (sz + (1 : Int32))) rfl ⟨rfl, h⟩
set_option maxHeartbeats 4000000 in
set_option maxRecDepth 100000 in
theorem c_X0_record {l : Launch} {D : va_G} {cI cR : ClassId}  (qa : Nat → Nat) (qb : Nat → Nat) (qas : Nat → Nat → Nat) {P : (Nat → StT) → Int32 → Int32 → Prop} (o0 : HiT) (o1 : StT) (h : wp_X0_record P o0 o1) : CT l D cI cR yX0_record cX0_record 2 none ({ frames := 2, cells := 0, slots := 0, locals := 61 } : Room) [.ref (qa 0), .ref (qb 0)] (wfl [cHi qa qas cR o0.ol o0.sz, cSt (qas 0) cI (o0.hs 0).se (o0.hs 0).la (o0.hs 0).de (o0.hs 0).le (o0.hs 0).sa (o0.hs 0).fl (o0.hs 0).ar (o0.hs 0).dr (o0.hs 0).pe (o0.hs 0).ri, cSt (qas 1) cI (o0.hs 1).se (o0.hs 1).la (o0.hs 1).de (o0.hs 1).le (o0.hs 1).sa (o0.hs 1).fl (o0.hs 1).ar (o0.hs 1).dr (o0.hs 1).pe (o0.hs 1).ri, cSt (qas 2) cI (o0.hs 2).se (o0.hs 2).la (o0.hs 2).de (o0.hs 2).le (o0.hs 2).sa (o0.hs 2).fl (o0.hs 2).ar (o0.hs 2).dr (o0.hs 2).pe (o0.hs 2).ri, cSt (qas 3) cI (o0.hs 3).se (o0.hs 3).la (o0.hs 3).de (o0.hs 3).le (o0.hs 3).sa (o0.hs 3).fl (o0.hs 3).ar (o0.hs 3).dr (o0.hs 3).pe (o0.hs 3).ri, cSt (qas 4) cI (o0.hs 4).se (o0.hs 4).la (o0.hs 4).de (o0.hs 4).le (o0.hs 4).sa (o0.hs 4).fl (o0.hs 4).ar (o0.hs 4).dr (o0.hs 4).pe (o0.hs 4).ri, cSt (qas 5) cI (o0.hs 5).se (o0.hs 5).la (o0.hs 5).de (o0.hs 5).le (o0.hs 5).sa (o0.hs 5).fl (o0.hs 5).ar (o0.hs 5).dr (o0.hs 5).pe (o0.hs 5).ri, cSt qb cI o1.se o1.la o1.de o1.le o1.sa o1.fl o1.ar o1.dr o1.pe o1.ri]) (fun u : (Nat → StT) × Int32 × Int32 => (wfl [cHi qa qas cR u.2.1 u.2.2, cSt (qas 0) cI (u.1 0).se (u.1 0).la (u.1 0).de (u.1 0).le (u.1 0).sa (u.1 0).fl (u.1 0).ar (u.1 0).dr (u.1 0).pe (u.1 0).ri, cSt (qas 1) cI (u.1 1).se (u.1 1).la (u.1 1).de (u.1 1).le (u.1 1).sa (u.1 1).fl (u.1 1).ar (u.1 1).dr (u.1 1).pe (u.1 1).ri, cSt (qas 2) cI (u.1 2).se (u.1 2).la (u.1 2).de (u.1 2).le (u.1 2).sa (u.1 2).fl (u.1 2).ar (u.1 2).dr (u.1 2).pe (u.1 2).ri, cSt (qas 3) cI (u.1 3).se (u.1 3).la (u.1 3).de (u.1 3).le (u.1 3).sa (u.1 3).fl (u.1 3).ar (u.1 3).dr (u.1 3).pe (u.1 3).ri, cSt (qas 4) cI (u.1 4).se (u.1 4).la (u.1 4).de (u.1 4).le (u.1 4).sa (u.1 4).fl (u.1 4).ar (u.1 4).dr (u.1 4).pe (u.1 4).ri, cSt (qas 5) cI (u.1 5).se (u.1 5).la (u.1 5).de (u.1 5).le (u.1 5).sa (u.1 5).fl (u.1 5).ar (u.1 5).dr (u.1 5).pe (u.1 5).ri, cSt qb cI o1.se o1.la o1.de o1.le o1.sa o1.fl o1.ar o1.dr o1.pe o1.ri])) (pV (fun (u : (Nat → StT) × Int32 × Int32) => P u.1 u.2.1 u.2.2)) 0 0 := by
  refine ct_of RX0 rfl (by decide +kernel) (Nat.le_of_ble_eq_true rfl) (fun zp ze zs zm zb zt zc A hin κ => ?_)
  unfold wp_X0_record at h
  refine gw_nf (lv' := [(0, .ref (qa 0)), (1, .ref (qb 0))]) (pc' := 0) (st' := []) (ce' := 0) (sl' := 0) rfl rfl rfl rfl rfl rfl ?_
  refine gw_aload_n (pc' := 1) κ dX0_record_0 rfl 0 rfl rfl ?_
  refine gb_get (pc' := 4) (C := RX0) (T := TX0) (N := 3) κ dX0_record_1 rfl inX0 0 rfl rfl rfl 2 (by decide) tw_fl_X0_18 rfl ?_
  refine gw_bipush (pc' := 6) (v := 6) κ dX0_record_4 rfl (by decide) ?_
  refine gw_icmp_lt (pc' := 9) (tgt := 32) κ dX0_record_6 rfl (by decide) (fun hc_1 => ?_) (fun hc_1 => ?_)
  · have h := h.1 hc_1
    refine gw_lv (lv' := [(0, .ref (qa 0)), (1, .ref (qb 0))]) [0, 1] rfl ?_
    exact k_X0_record_32 κ qa qb qas P o0 o1 o0.hs o0.ol o0.sz h
  · have h := h.2 hc_1
    refine gw_aload_n (pc' := 10) κ dX0_record_9 rfl 0 rfl rfl ?_
    refine gw_aload_n (pc' := 11) κ dX0_record_10 rfl 0 rfl rfl ?_
    refine gb_get (pc' := 14) (C := RX0) (T := TX0) (N := 3) κ dX0_record_11 rfl inX0 0 rfl rfl rfl 1 (by decide) tw_fl_X0_22 rfl ?_
    refine gw_iconst (pc' := 15) (v := 1) κ dX0_record_14 rfl (by decide) ?_
    refine gw_iadd (pc' := 16) κ dX0_record_15 rfl  ?_
    refine gw_bipush (pc' := 18) (v := 6) κ dX0_record_16 rfl (by decide) ?_
    refine gw_irem (pc' := 19) κ dX0_record_18 rfl (by decide) ?_
    refine gb_put (pc' := 22) (C := RX0) (T := TX0) (N := 3) (ty := .int) (bs' := [cHi qa qas cR ((o0.ol + (1 : Int32)) - (o0.ol + (1 : Int32)) / (6 : Int32) * (6 : Int32)) o0.sz, cSt (qas 0) cI (o0.hs 0).se (o0.hs 0).la (o0.hs 0).de (o0.hs 0).le (o0.hs 0).sa (o0.hs 0).fl (o0.hs 0).ar (o0.hs 0).dr (o0.hs 0).pe (o0.hs 0).ri, cSt (qas 1) cI (o0.hs 1).se (o0.hs 1).la (o0.hs 1).de (o0.hs 1).le (o0.hs 1).sa (o0.hs 1).fl (o0.hs 1).ar (o0.hs 1).dr (o0.hs 1).pe (o0.hs 1).ri, cSt (qas 2) cI (o0.hs 2).se (o0.hs 2).la (o0.hs 2).de (o0.hs 2).le (o0.hs 2).sa (o0.hs 2).fl (o0.hs 2).ar (o0.hs 2).dr (o0.hs 2).pe (o0.hs 2).ri, cSt (qas 3) cI (o0.hs 3).se (o0.hs 3).la (o0.hs 3).de (o0.hs 3).le (o0.hs 3).sa (o0.hs 3).fl (o0.hs 3).ar (o0.hs 3).dr (o0.hs 3).pe (o0.hs 3).ri, cSt (qas 4) cI (o0.hs 4).se (o0.hs 4).la (o0.hs 4).de (o0.hs 4).le (o0.hs 4).sa (o0.hs 4).fl (o0.hs 4).ar (o0.hs 4).dr (o0.hs 4).pe (o0.hs 4).ri, cSt (qas 5) cI (o0.hs 5).se (o0.hs 5).la (o0.hs 5).de (o0.hs 5).le (o0.hs 5).sa (o0.hs 5).fl (o0.hs 5).ar (o0.hs 5).dr (o0.hs 5).pe (o0.hs 5).ri, cSt qb cI o1.se o1.la o1.de o1.le o1.sa o1.fl o1.ar o1.dr o1.pe o1.ri]) κ dX0_record_19 rfl inX0 tyX0 tyX0_ok nmX0 0 rfl rfl rfl 1 (by decide) tw_fl_X0_22 rfl (by decide +kernel) rfl rfl (Nat.le_of_ble_eq_true rfl) rfl ?_
    refine gw_aload_n (pc' := 23) κ dX0_record_22 rfl 0 rfl rfl ?_
    refine gw_dup (pc' := 24) κ dX0_record_23 rfl rfl ?_
    refine gb_get (pc' := 27) (C := RX0) (T := TX0) (N := 3) κ dX0_record_24 rfl inX0 0 rfl rfl rfl 2 (by decide) tw_fl_X0_18 rfl ?_
    refine gw_iconst (pc' := 28) (v := 1) κ dX0_record_27 rfl (by decide) ?_
    refine gw_isub (pc' := 29) κ dX0_record_28 rfl  ?_
    refine gb_put (pc' := 32) (C := RX0) (T := TX0) (N := 3) (ty := .int) (bs' := [cHi qa qas cR ((o0.ol + (1 : Int32)) - (o0.ol + (1 : Int32)) / (6 : Int32) * (6 : Int32)) (o0.sz - (1 : Int32)), cSt (qas 0) cI (o0.hs 0).se (o0.hs 0).la (o0.hs 0).de (o0.hs 0).le (o0.hs 0).sa (o0.hs 0).fl (o0.hs 0).ar (o0.hs 0).dr (o0.hs 0).pe (o0.hs 0).ri, cSt (qas 1) cI (o0.hs 1).se (o0.hs 1).la (o0.hs 1).de (o0.hs 1).le (o0.hs 1).sa (o0.hs 1).fl (o0.hs 1).ar (o0.hs 1).dr (o0.hs 1).pe (o0.hs 1).ri, cSt (qas 2) cI (o0.hs 2).se (o0.hs 2).la (o0.hs 2).de (o0.hs 2).le (o0.hs 2).sa (o0.hs 2).fl (o0.hs 2).ar (o0.hs 2).dr (o0.hs 2).pe (o0.hs 2).ri, cSt (qas 3) cI (o0.hs 3).se (o0.hs 3).la (o0.hs 3).de (o0.hs 3).le (o0.hs 3).sa (o0.hs 3).fl (o0.hs 3).ar (o0.hs 3).dr (o0.hs 3).pe (o0.hs 3).ri, cSt (qas 4) cI (o0.hs 4).se (o0.hs 4).la (o0.hs 4).de (o0.hs 4).le (o0.hs 4).sa (o0.hs 4).fl (o0.hs 4).ar (o0.hs 4).dr (o0.hs 4).pe (o0.hs 4).ri, cSt (qas 5) cI (o0.hs 5).se (o0.hs 5).la (o0.hs 5).de (o0.hs 5).le (o0.hs 5).sa (o0.hs 5).fl (o0.hs 5).ar (o0.hs 5).dr (o0.hs 5).pe (o0.hs 5).ri, cSt qb cI o1.se o1.la o1.de o1.le o1.sa o1.fl o1.ar o1.dr o1.pe o1.ri]) κ dX0_record_29 rfl inX0 tyX0 tyX0_ok nmX0 0 rfl rfl rfl 2 (by decide) tw_fl_X0_18 rfl (by decide +kernel) rfl rfl (Nat.le_of_ble_eq_true rfl) rfl ?_
    refine gw_lv (lv' := [(0, .ref (qa 0)), (1, .ref (qb 0))]) [0, 1] rfl ?_
    exact k_X0_record_32 κ qa qb qas P o0 o1 o0.hs ((o0.ol + (1 : Int32)) - (o0.ol + (1 : Int32)) / (6 : Int32) * (6 : Int32)) (o0.sz - (1 : Int32)) h
theorem hy_X3_flightReady : g_hy yX3_flightReady 1 := by decide +kernel
set_option maxHeartbeats 4000000 in
set_option maxRecDepth 100000 in
theorem c_X3_flightReady {l : Launch} {D : va_G} {cI cR : ClassId}  (qa : Nat → Nat) {P : Int32 → Prop} (o0 : StT) (x1 : Int32) (h : wp_X3_flightReady P o0 x1) : CT l D cI cR yX3_flightReady cX3_flightReady 2 (some .int) ({ frames := 0, cells := 0, slots := 0, locals := 0 } : Room) [.ref (qa 0), .int x1] (wfl [cSt qa cI o0.se o0.la o0.de o0.le o0.sa o0.fl o0.ar o0.dr o0.pe o0.ri]) (fun _ : Unit => (wfl [cSt qa cI o0.se o0.la o0.de o0.le o0.sa o0.fl o0.ar o0.dr o0.pe o0.ri])) (pI (fun (r : Int32) (_ : Unit) => P r)) 0 0 := by
  refine ct_of RX3 rfl (by decide +kernel) (Nat.le_of_ble_eq_true rfl) (fun zp ze zs zm zb zt zc A hin κ => ?_)
  unfold wp_X3_flightReady at h
  refine gw_nf (lv' := [(0, .ref (qa 0)), (1, .int x1)]) (pc' := 0) (st' := []) (ce' := 0) (sl' := 0) rfl rfl rfl rfl rfl rfl ?_
  refine gw_aload_n (pc' := 1) κ dX3_flightReady_0 rfl 0 rfl rfl ?_
  refine gb_get (pc' := 4) (C := RX3) (T := TX3) (N := 10) κ dX3_flightReady_1 rfl inX3 0 rfl rfl rfl 1 (by decide) tw_fl_X3_15 rfl ?_
  refine gw_iload_n (pc' := 5) κ dX3_flightReady_4 rfl 1 rfl rfl ?_
  obtain ⟨hb_1, h⟩ := h
  refine gb_iald (pc' := 6) κ dX3_flightReady_5 rfl 0 2 rfl rfl hb_1 ?_
  refine gw_aload_n (pc' := 7) κ dX3_flightReady_6 rfl 0 rfl rfl ?_
  refine gb_get (pc' := 10) (C := RX3) (T := TX3) (N := 10) κ dX3_flightReady_7 rfl inX3 0 rfl rfl rfl 2 (by decide) tw_fl_X3_18 rfl ?_
  refine gw_iload_n (pc' := 11) κ dX3_flightReady_10 rfl 1 rfl rfl ?_
  obtain ⟨hb_2, h⟩ := h
  refine gb_iald (pc' := 12) κ dX3_flightReady_11 rfl 0 3 rfl rfl hb_2 ?_
  refine gw_iadd (pc' := 13) κ dX3_flightReady_12 rfl  ?_
  refine gw_aload_n (pc' := 14) κ dX3_flightReady_13 rfl 0 rfl rfl ?_
  refine gb_get (pc' := 17) (C := RX3) (T := TX3) (N := 10) κ dX3_flightReady_14 rfl inX3 0 rfl rfl rfl 0 (by decide) tw_fl_X3_9 rfl ?_
  refine gw_iconst (pc' := 18) (v := 0) κ dX3_flightReady_17 rfl (by decide) ?_
  refine gb_iald (pc' := 19) κ dX3_flightReady_18 rfl 0 1 rfl rfl (by unfold vp_in; decide) ?_
  refine gw_iadd (pc' := 20) κ dX3_flightReady_19 rfl  ?_
  exact gw_iret κ dX3_flightReady_20 () rfl ⟨_, rfl, h⟩
theorem hy_X3_riderReady : g_hy yX3_riderReady 1 := by decide +kernel
set_option maxHeartbeats 4000000 in
set_option maxRecDepth 100000 in
theorem c_X3_riderReady {l : Launch} {D : va_G} {cI cR : ClassId}  (qa : Nat → Nat) {P : Int32 → Prop} (o0 : StT) (x1 : Int32) (h : wp_X3_riderReady P o0 x1) : CT l D cI cR yX3_riderReady cX3_riderReady 2 (some .int) ({ frames := 1, cells := 0, slots := 0, locals := 21 } : Room) [.ref (qa 0), .int x1] (wfl [cSt qa cI o0.se o0.la o0.de o0.le o0.sa o0.fl o0.ar o0.dr o0.pe o0.ri]) (fun _ : Unit => (wfl [cSt qa cI o0.se o0.la o0.de o0.le o0.sa o0.fl o0.ar o0.dr o0.pe o0.ri])) (pI (fun (r : Int32) (_ : Unit) => P r)) 0 0 := by
  refine ct_of RX3 rfl (by decide +kernel) (Nat.le_of_ble_eq_true rfl) (fun zp ze zs zm zb zt zc A hin κ => ?_)
  unfold wp_X3_riderReady at h
  refine gw_nf (lv' := [(0, .ref (qa 0)), (1, .int x1)]) (pc' := 0) (st' := []) (ce' := 0) (sl' := 0) rfl rfl rfl rfl rfl rfl ?_
  refine gw_aload_n (pc' := 1) κ dX3_riderReady_0 rfl 0 rfl rfl ?_
  refine gw_aload_n (pc' := 2) κ dX3_riderReady_1 rfl 0 rfl rfl ?_
  refine gb_get (pc' := 5) (C := RX3) (T := TX3) (N := 10) κ dX3_riderReady_2 rfl inX3 0 rfl rfl rfl 5 (by decide) tw_fl_X3_27 rfl ?_
  refine gw_iload_n (pc' := 6) κ dX3_riderReady_5 rfl 1 rfl rfl ?_
  obtain ⟨hb_1, h⟩ := h
  refine gb_iald (pc' := 7) κ dX3_riderReady_6 rfl 0 6 rfl rfl hb_1 ?_
  refine gb_callV (ci := 3) (qb := 0) (rest := []) κ (c_X3_flightReady qa o0 (o0.fl x1.toNatClampNeg) h) ⟨rfl, rfl, Nat.le_of_ble_eq_true rfl, Nat.le_of_ble_eq_true rfl⟩ tw_ml_X3_52 tw_im_X3_flightReady tw_se_X3_flightReady tw_co_X3_flightReady tw_in_X3 hy_X3_flightReady rfl rfl rfl rfl rfl (Nat.le_of_ble_eq_true rfl) rfl dX3_riderReady_7 [0] rfl (by decide) (fun _ => Nat.le_of_ble_eq_true rfl) ⟨Nat.le_of_ble_eq_true rfl, Nat.le_of_ble_eq_true rfl⟩ (fun v u hv => ?_)
  obtain ⟨r_2, rfl, h⟩ := hv
  refine gw_nf (ws' := (wfl [cSt qa cI o0.se o0.la o0.de o0.le o0.sa o0.fl o0.ar o0.dr o0.pe o0.ri])) (lv' := [(0, .ref (qa 0)), (1, .int x1)]) (st' := [.int r_2]) (pc' := 10) (ce' := 0) (sl' := 0) rfl rfl rfl rfl rfl rfl ?_
  exact gw_iret κ dX3_riderReady_10 () rfl ⟨_, rfl, h⟩
theorem hy_X2_lineUp : g_hy yX2_lineUp 1 := by decide +kernel
set_option maxHeartbeats 4000000 in
set_option maxRecDepth 100000 in
theorem k_X2_lineUp_69 {zp : Program} {l : Launch} {ze : Env} {zs : State} {zm : MethodId} {za : Array Value} {zb : List Frame} {zt : Method} {zc : Code} {D : va_G} {cI cR : ClassId} {A : Nat → Prop} (κ : KC zp zs zm za zt zc cX2_lineUp 4 RX2 D cI cR A none) (qa : Nat → Nat) (qb : Nat → Nat) (P : (Nat → Int32) → (Nat → Int32) → Prop) (o0 : PlT) (o1 : StT) (r2 : Int32 → (Nat → Int32) → (Nat → Int32) → Prop) (v2 : Int32) (v3 : Int32) (od : Nat → Int32) (rd : Nat → Int32) (hr2 : ∀ (v2 : Int32) (od : Nat → Int32) (rd : Nat → Int32), r2 v2 od rd → GM zp l ze ({ frames := 2, cells := 0, slots := 0, locals := 42 } : Room) zs zm za zb zt zc D A 4 (pV (fun (u : (Nat → Int32) × (Nat → Int32)) => P u.1 u.2)) (fun u : (Nat → Int32) × (Nat → Int32) => (wfl [cPl qa cI u.1 u.2 o0.vn o0.pn o0.ao o0.sr o0.sp o0.wt, cSt qb cI o1.se o1.la o1.de o1.le o1.sa o1.fl o1.ar o1.dr o1.pe o1.ri])) 0 0 0 0 (wfl [cPl qa cI od rd o0.vn o0.pn o0.ao o0.sr o0.sp o0.wt, cSt qb cI o1.se o1.la o1.de o1.le o1.sa o1.fl o1.ar o1.dr o1.pe o1.ri]) [(0, .ref (qa 0)), (1, .ref (qb 0)), (2, .int v2)] 2 []) (h : wp_X2_lineUp_69 P o0 o1 r2 v2 v3 od rd) : GM zp l ze ({ frames := 2, cells := 0, slots := 0, locals := 42 } : Room) zs zm za zb zt zc D A 4 (pV (fun (u : (Nat → Int32) × (Nat → Int32)) => P u.1 u.2)) (fun u : (Nat → Int32) × (Nat → Int32) => (wfl [cPl qa cI u.1 u.2 o0.vn o0.pn o0.ao o0.sr o0.sp o0.wt, cSt qb cI o1.se o1.la o1.de o1.le o1.sa o1.fl o1.ar o1.dr o1.pe o1.ri])) 0 0 0 0 (wfl [cPl qa cI od rd o0.vn o0.pn o0.ao o0.sr o0.sp o0.wt, cSt qb cI o1.se o1.la o1.de o1.le o1.sa o1.fl o1.ar o1.dr o1.pe o1.ri]) [(0, .ref (qa 0)), (1, .ref (qb 0)), (2, .int v2), (3, .int v3)] 69 [] := by
  unfold wp_X2_lineUp_69 at h
  refine gw_aload_n (pc' := 70) κ dX2_lineUp_69 rfl 0 rfl rfl ?_
  refine gb_get (pc' := 73) (C := RX2) (T := TX2) (N := 8) κ dX2_lineUp_70 rfl inX2 0 rfl rfl rfl 0 (by decide) tw_fl_X2_9 rfl ?_
  refine gw_iload_n (pc' := 74) κ dX2_lineUp_73 rfl 3 rfl rfl ?_
  refine gw_iload_n (pc' := 75) κ dX2_lineUp_74 rfl 2 rfl rfl ?_
  obtain ⟨hb_11, h⟩ := h
  refine gb_iast (pc' := 76) (bs' := [cPl qa cI (upd od v3.toNatClampNeg v2) rd o0.vn o0.pn o0.ao o0.sr o0.sp o0.wt, cSt qb cI o1.se o1.la o1.de o1.le o1.sa o1.fl o1.ar o1.dr o1.pe o1.ri]) κ dX2_lineUp_75 rfl 0 1 rfl rfl hb_11 rfl ?_
  refine gw_iinc (pc' := 79) κ dX2_lineUp_76 rfl 2 rfl (v := (v2 + 1)) rfl (by decide) (lv' := [(2, .int (v2 + 1)), (0, .ref (qa 0)), (1, .ref (qb 0)), (3, .int v3)]) rfl ?_
  refine gw_goto (tgt := 2) κ dX2_lineUp_79 (by decide) ?_
  refine gw_lv (lv' := [(0, .ref (qa 0)), (1, .ref (qb 0)), (2, .int (v2 + 1))]) [1, 2, 0] rfl ?_
  exact hr2 (v2 + 1) (upd od v3.toNatClampNeg v2) rd h
set_option maxHeartbeats 4000000 in
set_option maxRecDepth 100000 in
theorem k_X2_lineUp_23 {zp : Program} {l : Launch} {ze : Env} {zs : State} {zm : MethodId} {za : Array Value} {zb : List Frame} {zt : Method} {zc : Code} {D : va_G} {cI cR : ClassId} {A : Nat → Prop} (κ : KC zp zs zm za zt zc cX2_lineUp 4 RX2 D cI cR A none) (qa : Nat → Nat) (qb : Nat → Nat) (P : (Nat → Int32) → (Nat → Int32) → Prop) (o0 : PlT) (o1 : StT) (r2 : Int32 → (Nat → Int32) → (Nat → Int32) → Prop) (v2 : Int32) (rd : Nat → Int32) (hr2 : ∀ (v2 : Int32) (od : Nat → Int32) (rd : Nat → Int32), r2 v2 od rd → GM zp l ze ({ frames := 2, cells := 0, slots := 0, locals := 42 } : Room) zs zm za zb zt zc D A 4 (pV (fun (u : (Nat → Int32) × (Nat → Int32)) => P u.1 u.2)) (fun u : (Nat → Int32) × (Nat → Int32) => (wfl [cPl qa cI u.1 u.2 o0.vn o0.pn o0.ao o0.sr o0.sp o0.wt, cSt qb cI o1.se o1.la o1.de o1.le o1.sa o1.fl o1.ar o1.dr o1.pe o1.ri])) 0 0 0 0 (wfl [cPl qa cI od rd o0.vn o0.pn o0.ao o0.sr o0.sp o0.wt, cSt qb cI o1.se o1.la o1.de o1.le o1.sa o1.fl o1.ar o1.dr o1.pe o1.ri]) [(0, .ref (qa 0)), (1, .ref (qb 0)), (2, .int v2)] 2 []) : ∀ (n : Nat) (v3 : Int32) (od : Nat → Int32), wp_X2_lineUp_23 P o0 o1 r2 v2 rd n v3 od → GM zp l ze ({ frames := 2, cells := 0, slots := 0, locals := 42 } : Room) zs zm za zb zt zc D A 4 (pV (fun (u : (Nat → Int32) × (Nat → Int32)) => P u.1 u.2)) (fun u : (Nat → Int32) × (Nat → Int32) => (wfl [cPl qa cI u.1 u.2 o0.vn o0.pn o0.ao o0.sr o0.sp o0.wt, cSt qb cI o1.se o1.la o1.de o1.le o1.sa o1.fl o1.ar o1.dr o1.pe o1.ri])) 0 0 0 0 (wfl [cPl qa cI od rd o0.vn o0.pn o0.ao o0.sr o0.sp o0.wt, cSt qb cI o1.se o1.la o1.de o1.le o1.sa o1.fl o1.ar o1.dr o1.pe o1.ri]) [(0, .ref (qa 0)), (1, .ref (qb 0)), (2, .int v2), (3, .int v3)] 23 [] := by
  intro n23
  induction n23 with
  | zero => intro v3 od h; exact (show False from h).elim
  | succ n23 ih23 =>
    intro v3 od h
    have h : wp_X2_lineUp_23F P o0 o1 r2 v2 rd (wp_X2_lineUp_23 P o0 o1 r2 v2 rd n23) v3 od := h
    unfold wp_X2_lineUp_23F at h
    refine gw_iload_n (pc' := 24) κ dX2_lineUp_23 rfl 3 rfl rfl ?_
    refine gw_if_le (pc' := 27) (tgt := 69) κ dX2_lineUp_24 rfl (by decide) (fun hc_4 => ?_) (fun hc_4 => ?_)
    · have h := h.1 hc_4
      refine gw_lv (lv' := [(0, .ref (qa 0)), (1, .ref (qb 0)), (2, .int v2), (3, .int v3)]) [0, 1, 2, 3] rfl ?_
      exact k_X2_lineUp_69 κ qa qb P o0 o1 r2 v2 v3 od rd hr2 h
    · have h := h.2 hc_4
      refine gw_aload_n (pc' := 28) κ dX2_lineUp_27 rfl 0 rfl rfl ?_
      refine gb_get (pc' := 31) (C := RX2) (T := TX2) (N := 8) κ dX2_lineUp_28 rfl inX2 0 rfl rfl rfl 1 (by decide) tw_fl_X2_15 rfl ?_
      refine gw_aload_n (pc' := 32) κ dX2_lineUp_31 rfl 0 rfl rfl ?_
      refine gb_get (pc' := 35) (C := RX2) (T := TX2) (N := 8) κ dX2_lineUp_32 rfl inX2 0 rfl rfl rfl 0 (by decide) tw_fl_X2_9 rfl ?_
      refine gw_iload_n (pc' := 36) κ dX2_lineUp_35 rfl 3 rfl rfl ?_
      refine gw_iconst (pc' := 37) (v := 1) κ dX2_lineUp_36 rfl (by decide) ?_
      refine gw_isub (pc' := 38) κ dX2_lineUp_37 rfl  ?_
      obtain ⟨hb_5, h⟩ := h
      refine gb_iald (pc' := 39) κ dX2_lineUp_38 rfl 0 1 rfl rfl hb_5 ?_
      obtain ⟨hb_6, h⟩ := h
      refine gb_iald (pc' := 40) κ dX2_lineUp_39 rfl 0 2 rfl rfl hb_6 ?_
      refine gw_aload_n (pc' := 41) κ dX2_lineUp_40 rfl 0 rfl rfl ?_
      refine gb_get (pc' := 44) (C := RX2) (T := TX2) (N := 8) κ dX2_lineUp_41 rfl inX2 0 rfl rfl rfl 1 (by decide) tw_fl_X2_15 rfl ?_
      refine gw_iload_n (pc' := 45) κ dX2_lineUp_44 rfl 2 rfl rfl ?_
      obtain ⟨hb_7, h⟩ := h
      refine gb_iald (pc' := 46) κ dX2_lineUp_45 rfl 0 2 rfl rfl hb_7 ?_
      refine gw_icmp_le (pc' := 49) (tgt := 69) κ dX2_lineUp_46 rfl (by decide) (fun hc_8 => ?_) (fun hc_8 => ?_)
      · have h := h.1 hc_8
        refine gw_lv (lv' := [(0, .ref (qa 0)), (1, .ref (qb 0)), (2, .int v2), (3, .int v3)]) [0, 1, 2, 3] rfl ?_
        exact k_X2_lineUp_69 κ qa qb P o0 o1 r2 v2 v3 od rd hr2 h
      · have h := h.2 hc_8
        refine gw_aload_n (pc' := 50) κ dX2_lineUp_49 rfl 0 rfl rfl ?_
        refine gb_get (pc' := 53) (C := RX2) (T := TX2) (N := 8) κ dX2_lineUp_50 rfl inX2 0 rfl rfl rfl 0 (by decide) tw_fl_X2_9 rfl ?_
        refine gw_iload_n (pc' := 54) κ dX2_lineUp_53 rfl 3 rfl rfl ?_
        refine gw_aload_n (pc' := 55) κ dX2_lineUp_54 rfl 0 rfl rfl ?_
        refine gb_get (pc' := 58) (C := RX2) (T := TX2) (N := 8) κ dX2_lineUp_55 rfl inX2 0 rfl rfl rfl 0 (by decide) tw_fl_X2_9 rfl ?_
        refine gw_iload_n (pc' := 59) κ dX2_lineUp_58 rfl 3 rfl rfl ?_
        refine gw_iconst (pc' := 60) (v := 1) κ dX2_lineUp_59 rfl (by decide) ?_
        refine gw_isub (pc' := 61) κ dX2_lineUp_60 rfl  ?_
        obtain ⟨hb_9, h⟩ := h
        refine gb_iald (pc' := 62) κ dX2_lineUp_61 rfl 0 1 rfl rfl hb_9 ?_
        obtain ⟨hb_10, h⟩ := h
        refine gb_iast (pc' := 63) (bs' := [cPl qa cI (upd od v3.toNatClampNeg (od (v3 - (1 : Int32)).toNatClampNeg)) rd o0.vn o0.pn o0.ao o0.sr o0.sp o0.wt, cSt qb cI o1.se o1.la o1.de o1.le o1.sa o1.fl o1.ar o1.dr o1.pe o1.ri]) κ dX2_lineUp_62 rfl 0 1 rfl rfl hb_10 rfl ?_
        refine gw_iinc (pc' := 66) κ dX2_lineUp_63 rfl 3 rfl (v := (v3 + (-1))) rfl (by decide) (lv' := [(3, .int (v3 + (-1))), (0, .ref (qa 0)), (1, .ref (qb 0)), (2, .int v2)]) rfl ?_
        refine gw_goto (tgt := 23) κ dX2_lineUp_66 (by decide) ?_
        refine gw_lv (lv' := [(0, .ref (qa 0)), (1, .ref (qb 0)), (2, .int v2), (3, .int (v3 + (-1)))]) [1, 2, 3, 0] rfl ?_
        exact ih23 (v3 + (-1)) (upd od v3.toNatClampNeg (od (v3 - (1 : Int32)).toNatClampNeg)) h
set_option maxHeartbeats 4000000 in
set_option maxRecDepth 100000 in
theorem k_X2_lineUp_2 {zp : Program} {l : Launch} {ze : Env} {zs : State} {zm : MethodId} {za : Array Value} {zb : List Frame} {zt : Method} {zc : Code} {D : va_G} {cI cR : ClassId} {A : Nat → Prop} (κ : KC zp zs zm za zt zc cX2_lineUp 4 RX2 D cI cR A none) (qa : Nat → Nat) (qb : Nat → Nat) (P : (Nat → Int32) → (Nat → Int32) → Prop) (o0 : PlT) (o1 : StT) : ∀ (n : Nat) (v2 : Int32) (od : Nat → Int32) (rd : Nat → Int32), wp_X2_lineUp_2 P o0 o1 n v2 od rd → GM zp l ze ({ frames := 2, cells := 0, slots := 0, locals := 42 } : Room) zs zm za zb zt zc D A 4 (pV (fun (u : (Nat → Int32) × (Nat → Int32)) => P u.1 u.2)) (fun u : (Nat → Int32) × (Nat → Int32) => (wfl [cPl qa cI u.1 u.2 o0.vn o0.pn o0.ao o0.sr o0.sp o0.wt, cSt qb cI o1.se o1.la o1.de o1.le o1.sa o1.fl o1.ar o1.dr o1.pe o1.ri])) 0 0 0 0 (wfl [cPl qa cI od rd o0.vn o0.pn o0.ao o0.sr o0.sp o0.wt, cSt qb cI o1.se o1.la o1.de o1.le o1.sa o1.fl o1.ar o1.dr o1.pe o1.ri]) [(0, .ref (qa 0)), (1, .ref (qb 0)), (2, .int v2)] 2 [] := by
  intro n2
  induction n2 with
  | zero => intro v2 od rd h; exact (show False from h).elim
  | succ n2 ih2 =>
    intro v2 od rd h
    have h : wp_X2_lineUp_2F P o0 o1 (wp_X2_lineUp_2 P o0 o1 n2) v2 od rd := h
    unfold wp_X2_lineUp_2F at h
    refine gw_iload_n (pc' := 3) κ dX2_lineUp_2 rfl 2 rfl rfl ?_
    refine gw_aload_n (pc' := 4) κ dX2_lineUp_3 rfl 1 rfl rfl ?_
    refine gb_get (pc' := 7) (C := RX3) (T := TX3) (N := 10) κ dX2_lineUp_4 rfl inX3 1 rfl rfl rfl 9 (by decide) tw_fl_X2_34 rfl ?_
    refine gw_icmp_ge (pc' := 10) (tgt := 82) κ dX2_lineUp_7 rfl (by decide) (fun hc_1 => ?_) (fun hc_1 => ?_)
    · have h := h.1 hc_1
      exact gw_vret κ dX2_lineUp_82 (od, rd) rfl ⟨rfl, h⟩
    · have h := h.2 hc_1
      refine gw_aload_n (pc' := 11) κ dX2_lineUp_10 rfl 0 rfl rfl ?_
      refine gb_get (pc' := 14) (C := RX2) (T := TX2) (N := 8) κ dX2_lineUp_11 rfl inX2 0 rfl rfl rfl 1 (by decide) tw_fl_X2_15 rfl ?_
      refine gw_iload_n (pc' := 15) κ dX2_lineUp_14 rfl 2 rfl rfl ?_
      refine gw_aload_n (pc' := 16) κ dX2_lineUp_15 rfl 1 rfl rfl ?_
      refine gw_iload_n (pc' := 17) κ dX2_lineUp_16 rfl 2 rfl rfl ?_
      refine gb_callV (ci := 3) (qb := 1) (rest := [.int v2, .ref (qa 2)]) κ (c_X3_riderReady qb o1 v2 h) ⟨rfl, rfl, Nat.le_of_ble_eq_true rfl, Nat.le_of_ble_eq_true rfl⟩ tw_ml_X2_40 tw_im_X3_riderReady tw_se_X3_riderReady tw_co_X3_riderReady tw_in_X3 hy_X3_riderReady rfl rfl rfl rfl rfl (Nat.le_of_ble_eq_true rfl) rfl dX2_lineUp_17 [1] rfl (by decide) (fun _ => Nat.le_of_ble_eq_true rfl) ⟨Nat.le_of_ble_eq_true rfl, Nat.le_of_ble_eq_true rfl⟩ (fun v u hv => ?_)
      obtain ⟨r_2, rfl, h⟩ := hv
      refine gw_nf (ws' := (wfl [cPl qa cI od rd o0.vn o0.pn o0.ao o0.sr o0.sp o0.wt, cSt qb cI o1.se o1.la o1.de o1.le o1.sa o1.fl o1.ar o1.dr o1.pe o1.ri])) (lv' := [(0, .ref (qa 0)), (1, .ref (qb 0)), (2, .int v2)]) (st' := [.int r_2, .int v2, .ref (qa 2)]) (pc' := 20) (ce' := 0) (sl' := 0) rfl rfl rfl rfl rfl rfl ?_
      obtain ⟨hb_3, h⟩ := h
      refine gb_iast (pc' := 21) (bs' := [cPl qa cI od (upd rd v2.toNatClampNeg r_2) o0.vn o0.pn o0.ao o0.sr o0.sp o0.wt, cSt qb cI o1.se o1.la o1.de o1.le o1.sa o1.fl o1.ar o1.dr o1.pe o1.ri]) κ dX2_lineUp_20 rfl 0 2 rfl rfl hb_3 rfl ?_
      refine gw_iload_n (pc' := 22) κ dX2_lineUp_21 rfl 2 rfl rfl ?_
      refine gw_istore_n (pc' := 23) κ dX2_lineUp_22 rfl rfl (by decide) (lv' := [(3, .int v2), (0, .ref (qa 0)), (1, .ref (qb 0)), (2, .int v2)]) rfl ?_
      obtain ⟨m23, h⟩ := h
      refine gw_lv (lv' := [(0, .ref (qa 0)), (1, .ref (qb 0)), (2, .int v2), (3, .int v2)]) [1, 2, 3, 0] rfl ?_
      exact k_X2_lineUp_23 κ qa qb P o0 o1 (wp_X2_lineUp_2 P o0 o1 n2) v2 (upd rd v2.toNatClampNeg r_2) ih2 m23 v2 od h
set_option maxHeartbeats 4000000 in
set_option maxRecDepth 100000 in
theorem c_X2_lineUp {l : Launch} {D : va_G} {cI cR : ClassId}  (qa : Nat → Nat) (qb : Nat → Nat) {P : (Nat → Int32) → (Nat → Int32) → Prop} (o0 : PlT) (o1 : StT) (h : wp_X2_lineUp P o0 o1) : CT l D cI cR yX2_lineUp cX2_lineUp 4 none ({ frames := 2, cells := 0, slots := 0, locals := 42 } : Room) [.ref (qa 0), .ref (qb 0)] (wfl [cPl qa cI o0.od o0.rd o0.vn o0.pn o0.ao o0.sr o0.sp o0.wt, cSt qb cI o1.se o1.la o1.de o1.le o1.sa o1.fl o1.ar o1.dr o1.pe o1.ri]) (fun u : (Nat → Int32) × (Nat → Int32) => (wfl [cPl qa cI u.1 u.2 o0.vn o0.pn o0.ao o0.sr o0.sp o0.wt, cSt qb cI o1.se o1.la o1.de o1.le o1.sa o1.fl o1.ar o1.dr o1.pe o1.ri])) (pV (fun (u : (Nat → Int32) × (Nat → Int32)) => P u.1 u.2)) 0 0 := by
  refine ct_of RX2 rfl (by decide +kernel) (Nat.le_of_ble_eq_true rfl) (fun zp ze zs zm zb zt zc A hin κ => ?_)
  unfold wp_X2_lineUp at h
  refine gw_nf (lv' := [(0, .ref (qa 0)), (1, .ref (qb 0))]) (pc' := 0) (st' := []) (ce' := 0) (sl' := 0) rfl rfl rfl rfl rfl rfl ?_
  refine gw_iconst (pc' := 1) (v := 0) κ dX2_lineUp_0 rfl (by decide) ?_
  refine gw_istore_n (pc' := 2) κ dX2_lineUp_1 rfl rfl (by decide) (lv' := [(2, .int (0 : Int32)), (0, .ref (qa 0)), (1, .ref (qb 0))]) rfl ?_
  obtain ⟨m2, h⟩ := h
  refine gw_lv (lv' := [(0, .ref (qa 0)), (1, .ref (qb 0)), (2, .int (0 : Int32))]) [1, 2, 0] rfl ?_
  exact k_X2_lineUp_2 κ qa qb P o0 o1 m2 (0 : Int32) o0.od o0.rd h
theorem hy_J6_bitCount_0f7a4 : g_hy yJ6_bitCount_0f7a4 1 := by decide +kernel
set_option maxHeartbeats 4000000 in
set_option maxRecDepth 100000 in
theorem c_J6_bitCount_0f7a4 {l : Launch} {D : va_G} {cI cR : ClassId}  {P : Int32 → Prop} (x0 : Int32) (h : wp_J6_bitCount_0f7a4 P x0) : CT l D cI cR yJ6_bitCount_0f7a4 cJ6_bitCount_0f7a4 1 (some .int) ({ frames := 0, cells := 0, slots := 0, locals := 0 } : Room) [.int x0] (wfl ([] : List va_W)) (fun _ : Unit => (wfl ([] : List va_W))) (pI (fun (r : Int32) (_ : Unit) => P r)) 0 0 := by
  refine ct_of RJ6 rfl (by decide +kernel) (Nat.le_of_ble_eq_true rfl) (fun zp ze zs zm zb zt zc A hin κ => ?_)
  unfold wp_J6_bitCount_0f7a4 at h
  refine gw_nf (lv' := [(0, .int x0)]) (pc' := 0) (st' := []) (ce' := 0) (sl' := 0) rfl rfl rfl rfl rfl rfl ?_
  refine gw_iload_n (pc' := 1) κ dJ6_bitCount_0f7a4_0 rfl 0 rfl rfl ?_
  refine gw_iload_n (pc' := 2) κ dJ6_bitCount_0f7a4_1 rfl 0 rfl rfl ?_
  refine gw_iconst (pc' := 3) (v := 1) κ dJ6_bitCount_0f7a4_2 rfl (by decide) ?_
  refine gw_iushr (pc' := 4) κ dJ6_bitCount_0f7a4_3 rfl  ?_
  refine gw_ldcw (pc' := 7) κ dJ6_bitCount_0f7a4_4 rfl tw_ct_J6_265 ?_
  refine gw_iand (pc' := 8) κ dJ6_bitCount_0f7a4_7 rfl  ?_
  refine gw_isub (pc' := 9) κ dJ6_bitCount_0f7a4_8 rfl  ?_
  refine gw_top (fun y_1 hy_1 => ?_)
  have h := h y_1 hy_1
  refine gw_istore_n (pc' := 10) κ dJ6_bitCount_0f7a4_9 rfl rfl (by decide) (lv' := [(0, .int y_1)]) rfl ?_
  refine gw_iload_n (pc' := 11) κ dJ6_bitCount_0f7a4_10 rfl 0 rfl rfl ?_
  refine gw_ldcw (pc' := 14) κ dJ6_bitCount_0f7a4_11 rfl tw_ct_J6_266 ?_
  refine gw_iand (pc' := 15) κ dJ6_bitCount_0f7a4_14 rfl  ?_
  refine gw_iload_n (pc' := 16) κ dJ6_bitCount_0f7a4_15 rfl 0 rfl rfl ?_
  refine gw_iconst (pc' := 17) (v := 2) κ dJ6_bitCount_0f7a4_16 rfl (by decide) ?_
  refine gw_iushr (pc' := 18) κ dJ6_bitCount_0f7a4_17 rfl  ?_
  refine gw_ldcw (pc' := 21) κ dJ6_bitCount_0f7a4_18 rfl tw_ct_J6_266 ?_
  refine gw_iand (pc' := 22) κ dJ6_bitCount_0f7a4_21 rfl  ?_
  refine gw_iadd (pc' := 23) κ dJ6_bitCount_0f7a4_22 rfl  ?_
  refine gw_top (fun y_2 hy_2 => ?_)
  have h := h y_2 hy_2
  refine gw_istore_n (pc' := 24) κ dJ6_bitCount_0f7a4_23 rfl rfl (by decide) (lv' := [(0, .int y_2)]) rfl ?_
  refine gw_iload_n (pc' := 25) κ dJ6_bitCount_0f7a4_24 rfl 0 rfl rfl ?_
  refine gw_iload_n (pc' := 26) κ dJ6_bitCount_0f7a4_25 rfl 0 rfl rfl ?_
  refine gw_iconst (pc' := 27) (v := 4) κ dJ6_bitCount_0f7a4_26 rfl (by decide) ?_
  refine gw_iushr (pc' := 28) κ dJ6_bitCount_0f7a4_27 rfl  ?_
  refine gw_iadd (pc' := 29) κ dJ6_bitCount_0f7a4_28 rfl  ?_
  refine gw_ldcw (pc' := 32) κ dJ6_bitCount_0f7a4_29 rfl tw_ct_J6_267 ?_
  refine gw_iand (pc' := 33) κ dJ6_bitCount_0f7a4_32 rfl  ?_
  refine gw_top (fun y_3 hy_3 => ?_)
  have h := h y_3 hy_3
  refine gw_istore_n (pc' := 34) κ dJ6_bitCount_0f7a4_33 rfl rfl (by decide) (lv' := [(0, .int y_3)]) rfl ?_
  refine gw_iload_n (pc' := 35) κ dJ6_bitCount_0f7a4_34 rfl 0 rfl rfl ?_
  refine gw_iload_n (pc' := 36) κ dJ6_bitCount_0f7a4_35 rfl 0 rfl rfl ?_
  refine gw_bipush (pc' := 38) (v := 8) κ dJ6_bitCount_0f7a4_36 rfl (by decide) ?_
  refine gw_iushr (pc' := 39) κ dJ6_bitCount_0f7a4_38 rfl  ?_
  refine gw_iadd (pc' := 40) κ dJ6_bitCount_0f7a4_39 rfl  ?_
  refine gw_top (fun y_4 hy_4 => ?_)
  have h := h y_4 hy_4
  refine gw_istore_n (pc' := 41) κ dJ6_bitCount_0f7a4_40 rfl rfl (by decide) (lv' := [(0, .int y_4)]) rfl ?_
  refine gw_iload_n (pc' := 42) κ dJ6_bitCount_0f7a4_41 rfl 0 rfl rfl ?_
  refine gw_iload_n (pc' := 43) κ dJ6_bitCount_0f7a4_42 rfl 0 rfl rfl ?_
  refine gw_bipush (pc' := 45) (v := 16) κ dJ6_bitCount_0f7a4_43 rfl (by decide) ?_
  refine gw_iushr (pc' := 46) κ dJ6_bitCount_0f7a4_45 rfl  ?_
  refine gw_iadd (pc' := 47) κ dJ6_bitCount_0f7a4_46 rfl  ?_
  refine gw_top (fun y_5 hy_5 => ?_)
  have h := h y_5 hy_5
  refine gw_istore_n (pc' := 48) κ dJ6_bitCount_0f7a4_47 rfl rfl (by decide) (lv' := [(0, .int y_5)]) rfl ?_
  refine gw_iload_n (pc' := 49) κ dJ6_bitCount_0f7a4_48 rfl 0 rfl rfl ?_
  refine gw_bipush (pc' := 51) (v := 63) κ dJ6_bitCount_0f7a4_49 rfl (by decide) ?_
  refine gw_iand (pc' := 52) κ dJ6_bitCount_0f7a4_51 rfl  ?_
  exact gw_iret κ dJ6_bitCount_0f7a4_52 () rfl ⟨_, rfl, h⟩
theorem hy_X2_takes : g_hy yX2_takes 3 := by decide +kernel
set_option maxHeartbeats 4000000 in
set_option maxRecDepth 100000 in
theorem c_X2_takes {l : Launch} {D : va_G} {cI cR : ClassId}  (qa : Nat → Nat) (qb : Nat → Nat) {P : Int32 → Prop} (o0 : PlT) (o1 : StT) (x2 : Int32) (x3 : Int32) (h : wp_X2_takes P o0 o1 x2 x3) : CT l D cI cR yX2_takes cX2_takes 6 (some .boolean) ({ frames := 1, cells := 0, slots := 0, locals := 22 } : Room) [.ref (qa 0), .ref (qb 0), .int x2, .int x3] (wfl [cPl qa cI o0.od o0.rd o0.vn o0.pn o0.ao o0.sr o0.sp o0.wt, cSt qb cI o1.se o1.la o1.de o1.le o1.sa o1.fl o1.ar o1.dr o1.pe o1.ri]) (fun _ : Unit => (wfl [cPl qa cI o0.od o0.rd o0.vn o0.pn o0.ao o0.sr o0.sp o0.wt, cSt qb cI o1.se o1.la o1.de o1.le o1.sa o1.fl o1.ar o1.dr o1.pe o1.ri])) (pI (fun (r : Int32) (_ : Unit) => P r)) 0 0 := by
  refine ct_of RX2 rfl (by decide +kernel) (Nat.le_of_ble_eq_true rfl) (fun zp ze zs zm zb zt zc A hin κ => ?_)
  unfold wp_X2_takes at h
  refine gw_nf (lv' := [(0, .ref (qa 0)), (1, .ref (qb 0)), (2, .int x2), (3, .int x3)]) (pc' := 0) (st' := []) (ce' := 0) (sl' := 0) rfl rfl rfl rfl rfl rfl ?_
  refine gw_aload_n (pc' := 1) κ dX2_takes_0 rfl 1 rfl rfl ?_
  refine gb_get (pc' := 4) (C := RX3) (T := TX3) (N := 10) κ dX2_takes_1 rfl inX3 1 rfl rfl rfl 3 (by decide) tw_fl_X2_71 rfl ?_
  refine gw_iload_n (pc' := 5) κ dX2_takes_4 rfl 2 rfl rfl ?_
  obtain ⟨hb_1, h⟩ := h
  refine gb_iald (pc' := 6) κ dX2_takes_5 rfl 1 4 rfl rfl hb_1 ?_
  refine gw_aload_n (pc' := 7) κ dX2_takes_6 rfl 0 rfl rfl ?_
  refine gb_get (pc' := 10) (C := RX2) (T := TX2) (N := 8) κ dX2_takes_7 rfl inX2 0 rfl rfl rfl 1 (by decide) tw_fl_X2_15 rfl ?_
  refine gw_iload_n (pc' := 11) κ dX2_takes_10 rfl 3 rfl rfl ?_
  obtain ⟨hb_2, h⟩ := h
  refine gb_iald (pc' := 12) κ dX2_takes_11 rfl 0 2 rfl rfl hb_2 ?_
  refine gw_isub (pc' := 13) κ dX2_takes_12 rfl  ?_
  refine gw_top (fun y_3 hy_3 => ?_)
  have h := h y_3 hy_3
  refine gw_istore (pc' := 15) κ dX2_takes_13 rfl (by decide) (lv' := [(4, .int y_3), (0, .ref (qa 0)), (1, .ref (qb 0)), (2, .int x2), (3, .int x3)]) rfl ?_
  refine gw_iload (pc' := 17) κ dX2_takes_15 rfl 0 rfl ?_
  refine gw_iconst (pc' := 18) (v := 0) κ dX2_takes_17 rfl (by decide) ?_
  refine gw_aload_n (pc' := 19) κ dX2_takes_18 rfl 2 rfl rfl ?_
  refine gb_get (pc' := 22) (C := RX3) (T := TX3) (N := 10) κ dX2_takes_19 rfl inX3 1 rfl rfl rfl 0 (by decide) tw_fl_X2_78 rfl ?_
  refine gw_iconst (pc' := 23) (v := 1) κ dX2_takes_22 rfl (by decide) ?_
  refine gb_iald (pc' := 24) κ dX2_takes_23 rfl 1 1 rfl rfl (by unfold vp_in; decide) ?_
  refine gb_callSN (rest := []) κ (c_X5_isIn  y_3 (0 : Int32) (o1.se (1 : Int32).toNatClampNeg) h) ⟨rfl, rfl, Nat.le_of_ble_eq_true rfl, Nat.le_of_ble_eq_true rfl⟩ κ.2.2.2.1.2.2.2.2.2.2.2.1 tw_st_X5_isIn tw_co_X5_isIn tw_in_X5 hy_X5_isIn rfl (Nat.le_of_ble_eq_true rfl) rfl dX2_takes_24 [] rfl (by decide) (fun _ => Nat.le_of_ble_eq_true rfl) ⟨Nat.le_of_ble_eq_true rfl, Nat.le_of_ble_eq_true rfl⟩ (fun v u hv => ?_)
  obtain ⟨r_5, rfl, h⟩ := hv
  refine gw_nf (ws' := (wfl [cPl qa cI o0.od o0.rd o0.vn o0.pn o0.ao o0.sr o0.sp o0.wt, cSt qb cI o1.se o1.la o1.de o1.le o1.sa o1.fl o1.ar o1.dr o1.pe o1.ri])) (lv' := [(4, .int y_3), (0, .ref (qa 0)), (1, .ref (qb 0)), (2, .int x2), (3, .int x3)]) (st' := [.int r_5]) (pc' := 27) (ce' := 0) (sl' := 0) rfl rfl rfl rfl rfl rfl ?_
  refine gw_if_ne (pc' := 30) (tgt := 32) κ dX2_takes_27 rfl (by decide) (fun hc_6 => ?_) (fun hc_6 => ?_)
  · have h := h.1 hc_6
    refine gw_aload_n (pc' := 33) κ dX2_takes_32 rfl 1 rfl rfl ?_
    refine gb_get (pc' := 36) (C := RX2) (T := TX2) (N := 8) κ dX2_takes_33 rfl inX2 0 rfl rfl rfl 3 (by decide) tw_fl_X2_21 rfl ?_
    refine gw_iload_n (pc' := 37) κ dX2_takes_36 rfl 3 rfl rfl ?_
    obtain ⟨hb_7, h⟩ := h
    refine gb_iald (pc' := 38) κ dX2_takes_37 rfl 0 4 rfl rfl hb_7 ?_
    refine gw_aload_n (pc' := 39) κ dX2_takes_38 rfl 2 rfl rfl ?_
    refine gb_get (pc' := 42) (C := RX3) (T := TX3) (N := 10) κ dX2_takes_39 rfl inX3 1 rfl rfl rfl 8 (by decide) tw_fl_X2_57 rfl ?_
    refine gw_iload_n (pc' := 43) κ dX2_takes_42 rfl 4 rfl rfl ?_
    obtain ⟨hb_8, h⟩ := h
    refine gb_iald (pc' := 44) κ dX2_takes_43 rfl 1 9 rfl rfl hb_8 ?_
    refine gw_iadd (pc' := 45) κ dX2_takes_44 rfl  ?_
    refine gw_aload_n (pc' := 46) κ dX2_takes_45 rfl 2 rfl rfl ?_
    refine gb_get (pc' := 49) (C := RX3) (T := TX3) (N := 10) κ dX2_takes_46 rfl inX3 1 rfl rfl rfl 4 (by decide) tw_fl_X2_85 rfl ?_
    refine gw_iload_n (pc' := 50) κ dX2_takes_49 rfl 3 rfl rfl ?_
    obtain ⟨hb_9, h⟩ := h
    refine gb_iald (pc' := 51) κ dX2_takes_50 rfl 1 5 rfl rfl hb_9 ?_
    refine gw_icmp_le (pc' := 54) (tgt := 56) κ dX2_takes_51 rfl (by decide) (fun hc_10 => ?_) (fun hc_10 => ?_)
    · have h := h.1 hc_10
      refine gw_aload_n (pc' := 57) κ dX2_takes_56 rfl 1 rfl rfl ?_
      refine gb_get (pc' := 60) (C := RX2) (T := TX2) (N := 8) κ dX2_takes_57 rfl inX2 0 rfl rfl rfl 4 (by decide) tw_fl_X2_24 rfl ?_
      refine gw_iload_n (pc' := 61) κ dX2_takes_60 rfl 3 rfl rfl ?_
      obtain ⟨hb_11, h⟩ := h
      refine gb_iald (pc' := 62) κ dX2_takes_61 rfl 0 5 rfl rfl hb_11 ?_
      refine gw_iconst (pc' := 63) (v := 1) κ dX2_takes_62 rfl (by decide) ?_
      refine gw_aload_n (pc' := 64) κ dX2_takes_63 rfl 2 rfl rfl ?_
      refine gb_get (pc' := 67) (C := RX3) (T := TX3) (N := 10) κ dX2_takes_64 rfl inX3 1 rfl rfl rfl 6 (by decide) tw_fl_X2_68 rfl ?_
      refine gw_iload_n (pc' := 68) κ dX2_takes_67 rfl 4 rfl rfl ?_
      obtain ⟨hb_12, h⟩ := h
      refine gb_iald (pc' := 69) κ dX2_takes_68 rfl 1 7 rfl rfl hb_12 ?_
      refine gw_ishl (pc' := 70) κ dX2_takes_69 rfl  ?_
      refine gw_ior (pc' := 71) κ dX2_takes_70 rfl  ?_
      refine gw_top (fun y_13 hy_13 => ?_)
      have h := h y_13 hy_13
      refine gw_istore (pc' := 73) κ dX2_takes_71 rfl (by decide) (lv' := [(5, .int y_13), (4, .int y_3), (0, .ref (qa 0)), (1, .ref (qb 0)), (2, .int x2), (3, .int x3)]) rfl ?_
      refine gw_iload (pc' := 75) κ dX2_takes_73 rfl 0 rfl ?_
      refine gb_callS (rest := []) κ (c_J6_bitCount_0f7a4  y_13 h) ⟨rfl, rfl, Nat.le_of_ble_eq_true rfl, Nat.le_of_ble_eq_true rfl⟩ tw_ml_X2_88 tw_st_J6_bitCount_0f7a4 tw_co_J6_bitCount_0f7a4 tw_in_J6 hy_J6_bitCount_0f7a4 rfl (Nat.le_of_ble_eq_true rfl) rfl dX2_takes_75 [] rfl (by decide) (fun _ => Nat.le_of_ble_eq_true rfl) ⟨Nat.le_of_ble_eq_true rfl, Nat.le_of_ble_eq_true rfl⟩ (fun v u hv => ?_)
      obtain ⟨r_14, rfl, h⟩ := hv
      refine gw_nf (ws' := (wfl [cPl qa cI o0.od o0.rd o0.vn o0.pn o0.ao o0.sr o0.sp o0.wt, cSt qb cI o1.se o1.la o1.de o1.le o1.sa o1.fl o1.ar o1.dr o1.pe o1.ri])) (lv' := [(5, .int y_13), (4, .int y_3), (0, .ref (qa 0)), (1, .ref (qb 0)), (2, .int x2), (3, .int x3)]) (st' := [.int r_14]) (pc' := 78) (ce' := 0) (sl' := 0) rfl rfl rfl rfl rfl rfl ?_
      refine gw_aload_n (pc' := 79) κ dX2_takes_78 rfl 3 rfl rfl ?_
      refine gb_get (pc' := 82) (C := RX3) (T := TX3) (N := 10) κ dX2_takes_79 rfl inX3 1 rfl rfl rfl 0 (by decide) tw_fl_X2_78 rfl ?_
      refine gw_iconst (pc' := 83) (v := 2) κ dX2_takes_82 rfl (by decide) ?_
      refine gb_iald (pc' := 84) κ dX2_takes_83 rfl 1 1 rfl rfl (by unfold vp_in; decide) ?_
      refine gw_icmp_gt (pc' := 87) (tgt := 91) κ dX2_takes_84 rfl (by decide) (fun hc_16 => ?_) (fun hc_16 => ?_)
      · have h := h.1 hc_16
        refine gw_iconst (pc' := 92) (v := 0) κ dX2_takes_91 rfl (by decide) ?_
        exact gw_zret κ dX2_takes_92 () rfl rfl ⟨_, rfl, h⟩
      · have h := h.2 hc_16
        refine gw_iconst (pc' := 88) (v := 1) κ dX2_takes_87 rfl (by decide) ?_
        refine gw_goto (tgt := 92) κ dX2_takes_88 (by decide) ?_
        exact gw_zret κ dX2_takes_92 () rfl rfl ⟨_, rfl, h⟩
    · have h := h.2 hc_10
      refine gw_iconst (pc' := 55) (v := 0) κ dX2_takes_54 rfl (by decide) ?_
      exact gw_zret κ dX2_takes_55 () rfl rfl ⟨_, rfl, h⟩
  · have h := h.2 hc_6
    refine gw_iconst (pc' := 31) (v := 0) κ dX2_takes_30 rfl (by decide) ?_
    exact gw_zret κ dX2_takes_31 () rfl rfl ⟨_, rfl, h⟩
theorem hy_X2_firstVanFor : g_hy yX2_firstVanFor 2 := by decide +kernel
set_option maxHeartbeats 4000000 in
set_option maxRecDepth 100000 in
theorem k_X2_firstVanFor_39 {zp : Program} {l : Launch} {ze : Env} {zs : State} {zm : MethodId} {za : Array Value} {zb : List Frame} {zt : Method} {zc : Code} {D : va_G} {cI cR : ClassId} {A : Nat → Prop} (κ : KC zp zs zm za zt zc cX2_firstVanFor 7 RX2 D cI cR A (some .int)) (qa : Nat → Nat) (qb : Nat → Nat) (P : Int32 → Prop) (o0 : PlT) (o1 : StT) (x2 : Int32) (r9 : Int32 → Int32 → Int32 → Prop) (v3 : Int32) (v4 : Int32) (v5 : Int32) (w0 : Int32) (hr9 : ∀ (v3 : Int32) (v4 : Int32) (v5 : Int32), r9 v3 v4 v5 → GM zp l ze ({ frames := 2, cells := 0, slots := 0, locals := 47 } : Room) zs zm za zb zt zc D A 7 (pI (fun (r : Int32) (_ : Unit) => P r)) (fun _ : Unit => (wfl [cPl qa cI o0.od o0.rd o0.vn o0.pn o0.ao o0.sr o0.sp o0.wt, cSt qb cI o1.se o1.la o1.de o1.le o1.sa o1.fl o1.ar o1.dr o1.pe o1.ri])) 0 0 0 0 (wfl [cPl qa cI o0.od o0.rd o0.vn o0.pn o0.ao o0.sr o0.sp o0.wt, cSt qb cI o1.se o1.la o1.de o1.le o1.sa o1.fl o1.ar o1.dr o1.pe o1.ri]) [(0, .ref (qa 0)), (1, .ref (qb 0)), (2, .int x2), (3, .int v3), (4, .int v4), (5, .int v5)] 9 []) (h : wp_X2_firstVanFor_39 P o0 o1 x2 r9 v3 v4 v5 w0) : GM zp l ze ({ frames := 2, cells := 0, slots := 0, locals := 47 } : Room) zs zm za zb zt zc D A 7 (pI (fun (r : Int32) (_ : Unit) => P r)) (fun _ : Unit => (wfl [cPl qa cI o0.od o0.rd o0.vn o0.pn o0.ao o0.sr o0.sp o0.wt, cSt qb cI o1.se o1.la o1.de o1.le o1.sa o1.fl o1.ar o1.dr o1.pe o1.ri])) 0 0 0 0 (wfl [cPl qa cI o0.od o0.rd o0.vn o0.pn o0.ao o0.sr o0.sp o0.wt, cSt qb cI o1.se o1.la o1.de o1.le o1.sa o1.fl o1.ar o1.dr o1.pe o1.ri]) [(0, .ref (qa 0)), (1, .ref (qb 0)), (2, .int x2), (3, .int v3), (4, .int v4), (5, .int v5)] 39 [.int w0] := by
  unfold wp_X2_firstVanFor_39 at h
  refine gw_istore (pc' := 41) κ dX2_firstVanFor_39 rfl (by decide) (lv' := [(6, .int w0), (0, .ref (qa 0)), (1, .ref (qb 0)), (2, .int x2), (3, .int v3), (4, .int v4), (5, .int v5)]) rfl ?_
  refine gw_iload (pc' := 43) κ dX2_firstVanFor_41 rfl 0 rfl ?_
  refine gw_if_eq (pc' := 46) (tgt := 69) κ dX2_firstVanFor_43 rfl (by decide) (fun hc_5 => ?_) (fun hc_5 => ?_)
  · have h := h.1 hc_5
    refine gw_iinc (pc' := 72) κ dX2_firstVanFor_69 rfl 6 rfl (v := (v5 + 1)) rfl (by decide) (lv' := [(5, .int (v5 + 1)), (6, .int w0), (0, .ref (qa 0)), (1, .ref (qb 0)), (2, .int x2), (3, .int v3), (4, .int v4)]) rfl ?_
    refine gw_goto (tgt := 9) κ dX2_firstVanFor_72 (by decide) ?_
    refine gw_lv (lv' := [(0, .ref (qa 0)), (1, .ref (qb 0)), (2, .int x2), (3, .int v3), (4, .int v4), (5, .int (v5 + 1))]) [2, 3, 4, 5, 6, 0] rfl ?_
    exact hr9 v3 v4 (v5 + 1) h
  · have h := h.2 hc_5
    refine gw_aload_n (pc' := 47) κ dX2_firstVanFor_46 rfl 1 rfl rfl ?_
    refine gw_aload_n (pc' := 48) κ dX2_firstVanFor_47 rfl 2 rfl rfl ?_
    refine gw_iload (pc' := 50) κ dX2_firstVanFor_48 rfl 6 rfl ?_
    refine gw_iload_n (pc' := 51) κ dX2_firstVanFor_50 rfl 3 rfl rfl ?_
    refine gb_callV (ci := 2) (qb := 0) (rest := []) κ (c_X2_takes qa qb o0 o1 v5 x2 h) ⟨rfl, rfl, Nat.le_of_ble_eq_true rfl, Nat.le_of_ble_eq_true rfl⟩ tw_ml_X2_74 tw_im_X2_takes tw_se_X2_takes tw_co_X2_takes tw_in_X2 hy_X2_takes rfl rfl rfl rfl rfl (Nat.le_of_ble_eq_true rfl) rfl dX2_firstVanFor_51 [0, 1] rfl (by decide) (fun _ => Nat.le_of_ble_eq_true rfl) ⟨Nat.le_of_ble_eq_true rfl, Nat.le_of_ble_eq_true rfl⟩ (fun v u hv => ?_)
    obtain ⟨r_6, rfl, h⟩ := hv
    refine gw_nf (ws' := (wfl [cPl qa cI o0.od o0.rd o0.vn o0.pn o0.ao o0.sr o0.sp o0.wt, cSt qb cI o1.se o1.la o1.de o1.le o1.sa o1.fl o1.ar o1.dr o1.pe o1.ri])) (lv' := [(6, .int w0), (0, .ref (qa 0)), (1, .ref (qb 0)), (2, .int x2), (3, .int v3), (4, .int v4), (5, .int v5)]) (st' := [.int r_6]) (pc' := 54) (ce' := 0) (sl' := 0) rfl rfl rfl rfl rfl rfl ?_
    refine gw_if_eq (pc' := 57) (tgt := 69) κ dX2_firstVanFor_54 rfl (by decide) (fun hc_7 => ?_) (fun hc_7 => ?_)
    · have h := h.1 hc_7
      refine gw_iinc (pc' := 72) κ dX2_firstVanFor_69 rfl 6 rfl (v := (v5 + 1)) rfl (by decide) (lv' := [(5, .int (v5 + 1)), (6, .int w0), (0, .ref (qa 0)), (1, .ref (qb 0)), (2, .int x2), (3, .int v3), (4, .int v4)]) rfl ?_
      refine gw_goto (tgt := 9) κ dX2_firstVanFor_72 (by decide) ?_
      refine gw_lv (lv' := [(0, .ref (qa 0)), (1, .ref (qb 0)), (2, .int x2), (3, .int v3), (4, .int v4), (5, .int (v5 + 1))]) [2, 3, 4, 5, 6, 0] rfl ?_
      exact hr9 v3 v4 (v5 + 1) h
    · have h := h.2 hc_7
      refine gw_iload (pc' := 59) κ dX2_firstVanFor_57 rfl 6 rfl ?_
      refine gw_istore_n (pc' := 60) κ dX2_firstVanFor_59 rfl rfl (by decide) (lv' := [(3, .int v5), (6, .int w0), (0, .ref (qa 0)), (1, .ref (qb 0)), (2, .int x2), (4, .int v4), (5, .int v5)]) rfl ?_
      refine gw_aload_n (pc' := 61) κ dX2_firstVanFor_60 rfl 3 rfl rfl ?_
      refine gb_get (pc' := 64) (C := RX3) (T := TX3) (N := 10) κ dX2_firstVanFor_61 rfl inX3 1 rfl rfl rfl 3 (by decide) tw_fl_X2_71 rfl ?_
      refine gw_iload (pc' := 66) κ dX2_firstVanFor_64 rfl 6 rfl ?_
      obtain ⟨hb_8, h⟩ := h
      refine gb_iald (pc' := 67) κ dX2_firstVanFor_66 rfl 1 4 rfl rfl hb_8 ?_
      refine gw_istore (pc' := 69) κ dX2_firstVanFor_67 rfl (by decide) (lv' := [(4, .int (o1.le v5.toNatClampNeg)), (3, .int v5), (6, .int w0), (0, .ref (qa 0)), (1, .ref (qb 0)), (2, .int x2), (5, .int v5)]) rfl ?_
      refine gw_iinc (pc' := 72) κ dX2_firstVanFor_69 rfl 6 rfl (v := (v5 + 1)) rfl (by decide) (lv' := [(5, .int (v5 + 1)), (4, .int (o1.le v5.toNatClampNeg)), (3, .int v5), (6, .int w0), (0, .ref (qa 0)), (1, .ref (qb 0)), (2, .int x2)]) rfl ?_
      refine gw_goto (tgt := 9) κ dX2_firstVanFor_72 (by decide) ?_
      refine gw_lv (lv' := [(0, .ref (qa 0)), (1, .ref (qb 0)), (2, .int x2), (3, .int v5), (4, .int (o1.le v5.toNatClampNeg)), (5, .int (v5 + 1))]) [4, 5, 6, 2, 1, 0] rfl ?_
      exact hr9 v5 (o1.le v5.toNatClampNeg) (v5 + 1) h
set_option maxHeartbeats 4000000 in
set_option maxRecDepth 100000 in
theorem k_X2_firstVanFor_9 {zp : Program} {l : Launch} {ze : Env} {zs : State} {zm : MethodId} {za : Array Value} {zb : List Frame} {zt : Method} {zc : Code} {D : va_G} {cI cR : ClassId} {A : Nat → Prop} (κ : KC zp zs zm za zt zc cX2_firstVanFor 7 RX2 D cI cR A (some .int)) (qa : Nat → Nat) (qb : Nat → Nat) (P : Int32 → Prop) (o0 : PlT) (o1 : StT) (x2 : Int32) : ∀ (n : Nat) (v3 : Int32) (v4 : Int32) (v5 : Int32), wp_X2_firstVanFor_9 P o0 o1 x2 n v3 v4 v5 → GM zp l ze ({ frames := 2, cells := 0, slots := 0, locals := 47 } : Room) zs zm za zb zt zc D A 7 (pI (fun (r : Int32) (_ : Unit) => P r)) (fun _ : Unit => (wfl [cPl qa cI o0.od o0.rd o0.vn o0.pn o0.ao o0.sr o0.sp o0.wt, cSt qb cI o1.se o1.la o1.de o1.le o1.sa o1.fl o1.ar o1.dr o1.pe o1.ri])) 0 0 0 0 (wfl [cPl qa cI o0.od o0.rd o0.vn o0.pn o0.ao o0.sr o0.sp o0.wt, cSt qb cI o1.se o1.la o1.de o1.le o1.sa o1.fl o1.ar o1.dr o1.pe o1.ri]) [(0, .ref (qa 0)), (1, .ref (qb 0)), (2, .int x2), (3, .int v3), (4, .int v4), (5, .int v5)] 9 [] := by
  intro n9
  induction n9 with
  | zero => intro v3 v4 v5 h; exact (show False from h).elim
  | succ n9 ih9 =>
    intro v3 v4 v5 h
    have h : wp_X2_firstVanFor_9F P o0 o1 x2 (wp_X2_firstVanFor_9 P o0 o1 x2 n9) v3 v4 v5 := h
    unfold wp_X2_firstVanFor_9F at h
    refine gw_iload (pc' := 11) κ dX2_firstVanFor_9 rfl 5 rfl ?_
    refine gw_bipush (pc' := 13) (v := 8) κ dX2_firstVanFor_11 rfl (by decide) ?_
    refine gw_icmp_ge (pc' := 16) (tgt := 75) κ dX2_firstVanFor_13 rfl (by decide) (fun hc_1 => ?_) (fun hc_1 => ?_)
    · have h := h.1 hc_1
      refine gw_iload_n (pc' := 76) κ dX2_firstVanFor_75 rfl 3 rfl rfl ?_
      exact gw_iret κ dX2_firstVanFor_76 () rfl ⟨_, rfl, h⟩
    · have h := h.2 hc_1
      refine gw_iload_n (pc' := 17) κ dX2_firstVanFor_16 rfl 3 rfl rfl ?_
      refine gw_bipush (pc' := 19) (v := -106) κ dX2_firstVanFor_17 rfl (by decide) ?_
      refine gw_icmp_eq (pc' := 22) (tgt := 34) κ dX2_firstVanFor_19 rfl (by decide) (fun hc_2 => ?_) (fun hc_2 => ?_)
      · have h := h.1 hc_2
        refine gw_iconst (pc' := 35) (v := 1) κ dX2_firstVanFor_34 rfl (by decide) ?_
        refine gw_goto (tgt := 39) κ dX2_firstVanFor_35 (by decide) ?_
        refine gw_lv (lv' := [(0, .ref (qa 0)), (1, .ref (qb 0)), (2, .int x2), (3, .int v3), (4, .int v4), (5, .int v5)]) [0, 1, 2, 3, 4, 5] rfl ?_
        exact k_X2_firstVanFor_39 κ qa qb P o0 o1 x2 (wp_X2_firstVanFor_9 P o0 o1 x2 n9) v3 v4 v5 (1 : Int32) ih9 h
      · have h := h.2 hc_2
        refine gw_aload_n (pc' := 23) κ dX2_firstVanFor_22 rfl 1 rfl rfl ?_
        refine gb_get (pc' := 26) (C := RX3) (T := TX3) (N := 10) κ dX2_firstVanFor_23 rfl inX3 1 rfl rfl rfl 3 (by decide) tw_fl_X2_71 rfl ?_
        refine gw_iload (pc' := 28) κ dX2_firstVanFor_26 rfl 5 rfl ?_
        obtain ⟨hb_3, h⟩ := h
        refine gb_iald (pc' := 29) κ dX2_firstVanFor_28 rfl 1 4 rfl rfl hb_3 ?_
        refine gw_iload (pc' := 31) κ dX2_firstVanFor_29 rfl 4 rfl ?_
        refine gw_icmp_ge (pc' := 34) (tgt := 38) κ dX2_firstVanFor_31 rfl (by decide) (fun hc_4 => ?_) (fun hc_4 => ?_)
        · have h := h.1 hc_4
          refine gw_iconst (pc' := 39) (v := 0) κ dX2_firstVanFor_38 rfl (by decide) ?_
          refine gw_lv (lv' := [(0, .ref (qa 0)), (1, .ref (qb 0)), (2, .int x2), (3, .int v3), (4, .int v4), (5, .int v5)]) [0, 1, 2, 3, 4, 5] rfl ?_
          exact k_X2_firstVanFor_39 κ qa qb P o0 o1 x2 (wp_X2_firstVanFor_9 P o0 o1 x2 n9) v3 v4 v5 (0 : Int32) ih9 h
        · have h := h.2 hc_4
          refine gw_iconst (pc' := 35) (v := 1) κ dX2_firstVanFor_34 rfl (by decide) ?_
          refine gw_goto (tgt := 39) κ dX2_firstVanFor_35 (by decide) ?_
          refine gw_lv (lv' := [(0, .ref (qa 0)), (1, .ref (qb 0)), (2, .int x2), (3, .int v3), (4, .int v4), (5, .int v5)]) [0, 1, 2, 3, 4, 5] rfl ?_
          exact k_X2_firstVanFor_39 κ qa qb P o0 o1 x2 (wp_X2_firstVanFor_9 P o0 o1 x2 n9) v3 v4 v5 (1 : Int32) ih9 h
set_option maxHeartbeats 4000000 in
set_option maxRecDepth 100000 in
theorem c_X2_firstVanFor {l : Launch} {D : va_G} {cI cR : ClassId}  (qa : Nat → Nat) (qb : Nat → Nat) {P : Int32 → Prop} (o0 : PlT) (o1 : StT) (x2 : Int32) (h : wp_X2_firstVanFor P o0 o1 x2) : CT l D cI cR yX2_firstVanFor cX2_firstVanFor 7 (some .int) ({ frames := 2, cells := 0, slots := 0, locals := 47 } : Room) [.ref (qa 0), .ref (qb 0), .int x2] (wfl [cPl qa cI o0.od o0.rd o0.vn o0.pn o0.ao o0.sr o0.sp o0.wt, cSt qb cI o1.se o1.la o1.de o1.le o1.sa o1.fl o1.ar o1.dr o1.pe o1.ri]) (fun _ : Unit => (wfl [cPl qa cI o0.od o0.rd o0.vn o0.pn o0.ao o0.sr o0.sp o0.wt, cSt qb cI o1.se o1.la o1.de o1.le o1.sa o1.fl o1.ar o1.dr o1.pe o1.ri])) (pI (fun (r : Int32) (_ : Unit) => P r)) 0 0 := by
  refine ct_of RX2 rfl (by decide +kernel) (Nat.le_of_ble_eq_true rfl) (fun zp ze zs zm zb zt zc A hin κ => ?_)
  unfold wp_X2_firstVanFor at h
  refine gw_nf (lv' := [(0, .ref (qa 0)), (1, .ref (qb 0)), (2, .int x2)]) (pc' := 0) (st' := []) (ce' := 0) (sl' := 0) rfl rfl rfl rfl rfl rfl ?_
  refine gw_bipush (pc' := 2) (v := -106) κ dX2_firstVanFor_0 rfl (by decide) ?_
  refine gw_istore_n (pc' := 3) κ dX2_firstVanFor_2 rfl rfl (by decide) (lv' := [(3, .int (-106 : Int32)), (0, .ref (qa 0)), (1, .ref (qb 0)), (2, .int x2)]) rfl ?_
  refine gw_iconst (pc' := 4) (v := 0) κ dX2_firstVanFor_3 rfl (by decide) ?_
  refine gw_istore (pc' := 6) κ dX2_firstVanFor_4 rfl (by decide) (lv' := [(4, .int (0 : Int32)), (3, .int (-106 : Int32)), (0, .ref (qa 0)), (1, .ref (qb 0)), (2, .int x2)]) rfl ?_
  refine gw_iconst (pc' := 7) (v := 0) κ dX2_firstVanFor_6 rfl (by decide) ?_
  refine gw_istore (pc' := 9) κ dX2_firstVanFor_7 rfl (by decide) (lv' := [(5, .int (0 : Int32)), (4, .int (0 : Int32)), (3, .int (-106 : Int32)), (0, .ref (qa 0)), (1, .ref (qb 0)), (2, .int x2)]) rfl ?_
  obtain ⟨m9, h⟩ := h
  refine gw_lv (lv' := [(0, .ref (qa 0)), (1, .ref (qb 0)), (2, .int x2), (3, .int (-106 : Int32)), (4, .int (0 : Int32)), (5, .int (0 : Int32))]) [3, 4, 5, 2, 1, 0] rfl ?_
  exact k_X2_firstVanFor_9 κ qa qb P o0 o1 x2 m9 (-106 : Int32) (0 : Int32) (0 : Int32) h
theorem hy_X5_isVan : g_hy yX5_isVan 1 := by decide +kernel
set_option maxHeartbeats 4000000 in
set_option maxRecDepth 100000 in
theorem c_X5_isVan {l : Launch} {D : va_G} {cI cR : ClassId}  {P : Int32 → Prop} (x0 : Int32) (h : wp_X5_isVan P x0) : CT l D cI cR yX5_isVan cX5_isVan 1 (some .boolean) ({ frames := 1, cells := 0, slots := 0, locals := 22 } : Room) [.int x0] (wfl ([] : List va_W)) (fun _ : Unit => (wfl ([] : List va_W))) (pI (fun (r : Int32) (_ : Unit) => P r)) 0 0 := by
  refine ct_of RX5 rfl (by decide +kernel) (Nat.le_of_ble_eq_true rfl) (fun zp ze zs zm zb zt zc A hin κ => ?_)
  unfold wp_X5_isVan at h
  refine gw_nf (lv' := [(0, .int x0)]) (pc' := 0) (st' := []) (ce' := 0) (sl' := 0) rfl rfl rfl rfl rfl rfl ?_
  refine gw_iload_n (pc' := 1) κ dX5_isVan_0 rfl 0 rfl rfl ?_
  refine gw_iconst (pc' := 2) (v := 0) κ dX5_isVan_1 rfl (by decide) ?_
  refine gw_bipush (pc' := 4) (v := 7) κ dX5_isVan_2 rfl (by decide) ?_
  refine gb_callS (rest := []) κ (c_X5_isIn  x0 (0 : Int32) (7 : Int32) h) ⟨rfl, rfl, Nat.le_of_ble_eq_true rfl, Nat.le_of_ble_eq_true rfl⟩ tw_ml_X5_54 tw_st_X5_isIn tw_co_X5_isIn tw_in_X5 hy_X5_isIn rfl (Nat.le_of_ble_eq_true rfl) rfl dX5_isVan_4 [] rfl (by decide) (fun _ => Nat.le_of_ble_eq_true rfl) ⟨Nat.le_of_ble_eq_true rfl, Nat.le_of_ble_eq_true rfl⟩ (fun v u hv => ?_)
  obtain ⟨r_1, rfl, h⟩ := hv
  refine gw_nf (ws' := (wfl ([] : List va_W))) (lv' := [(0, .int x0)]) (st' := [.int r_1]) (pc' := 7) (ce' := 0) (sl' := 0) rfl rfl rfl rfl rfl rfl ?_
  obtain ⟨hb9, h⟩ := h
  exact gw_zret κ dX5_isVan_7 () rfl hb9 ⟨_, rfl, h⟩
theorem hy_X2_boardOne : g_hy yX2_boardOne 2 := by decide +kernel
set_option maxHeartbeats 4000000 in
set_option maxRecDepth 100000 in
theorem c_X2_boardOne {l : Launch} {D : va_G} {cI cR : ClassId}  (qa : Nat → Nat) (qb : Nat → Nat) {P : (Nat → Int32) → (Nat → Int32) → (Nat → Int32) → Int32 → Int32 → Int32 → Prop} (o0 : PlT) (o1 : StT) (x2 : Int32) (h : wp_X2_boardOne P o0 o1 x2) : CT l D cI cR yX2_boardOne cX2_boardOne 5 none ({ frames := 3, cells := 0, slots := 0, locals := 73 } : Room) [.ref (qa 0), .ref (qb 0), .int x2] (wfl [cPl qa cI o0.od o0.rd o0.vn o0.pn o0.ao o0.sr o0.sp o0.wt, cSt qb cI o1.se o1.la o1.de o1.le o1.sa o1.fl o1.ar o1.dr o1.pe o1.ri]) (fun u : (Nat → Int32) × (Nat → Int32) × (Nat → Int32) × Int32 × Int32 × Int32 => (wfl [cPl qa cI o0.od o0.rd u.1 u.2.1 u.2.2.1 u.2.2.2.1 u.2.2.2.2.1 u.2.2.2.2.2, cSt qb cI o1.se o1.la o1.de o1.le o1.sa o1.fl o1.ar o1.dr o1.pe o1.ri])) (pV (fun (u : (Nat → Int32) × (Nat → Int32) × (Nat → Int32) × Int32 × Int32 × Int32) => P u.1 u.2.1 u.2.2.1 u.2.2.2.1 u.2.2.2.2.1 u.2.2.2.2.2)) 0 0 := by
  refine ct_of RX2 rfl (by decide +kernel) (Nat.le_of_ble_eq_true rfl) (fun zp ze zs zm zb zt zc A hin κ => ?_)
  unfold wp_X2_boardOne at h
  refine gw_nf (lv' := [(0, .ref (qa 0)), (1, .ref (qb 0)), (2, .int x2)]) (pc' := 0) (st' := []) (ce' := 0) (sl' := 0) rfl rfl rfl rfl rfl rfl ?_
  refine gw_aload_n (pc' := 1) κ dX2_boardOne_0 rfl 1 rfl rfl ?_
  refine gb_get (pc' := 4) (C := RX3) (T := TX3) (N := 10) κ dX2_boardOne_1 rfl inX3 1 rfl rfl rfl 8 (by decide) tw_fl_X2_57 rfl ?_
  refine gw_iload_n (pc' := 5) κ dX2_boardOne_4 rfl 2 rfl rfl ?_
  obtain ⟨hb_1, h⟩ := h
  refine gb_iald (pc' := 6) κ dX2_boardOne_5 rfl 1 9 rfl rfl hb_1 ?_
  refine gw_istore_n (pc' := 7) κ dX2_boardOne_6 rfl rfl (by decide) (lv' := [(3, .int (o1.pe x2.toNatClampNeg)), (0, .ref (qa 0)), (1, .ref (qb 0)), (2, .int x2)]) rfl ?_
  refine gw_aload_n (pc' := 8) κ dX2_boardOne_7 rfl 1 rfl rfl ?_
  refine gw_aload_n (pc' := 9) κ dX2_boardOne_8 rfl 2 rfl rfl ?_
  refine gw_iload_n (pc' := 10) κ dX2_boardOne_9 rfl 3 rfl rfl ?_
  refine gb_callV (ci := 2) (qb := 0) (rest := []) κ (c_X2_firstVanFor qa qb o0 o1 x2 h) ⟨rfl, rfl, Nat.le_of_ble_eq_true rfl, Nat.le_of_ble_eq_true rfl⟩ tw_ml_X2_60 tw_im_X2_firstVanFor tw_se_X2_firstVanFor tw_co_X2_firstVanFor tw_in_X2 hy_X2_firstVanFor rfl rfl rfl rfl rfl (Nat.le_of_ble_eq_true rfl) rfl dX2_boardOne_10 [0, 1] rfl (by decide) (fun _ => Nat.le_of_ble_eq_true rfl) ⟨Nat.le_of_ble_eq_true rfl, Nat.le_of_ble_eq_true rfl⟩ (fun v u hv => ?_)
  obtain ⟨r_2, rfl, h⟩ := hv
  refine gw_nf (ws' := (wfl [cPl qa cI o0.od o0.rd o0.vn o0.pn o0.ao o0.sr o0.sp o0.wt, cSt qb cI o1.se o1.la o1.de o1.le o1.sa o1.fl o1.ar o1.dr o1.pe o1.ri])) (lv' := [(3, .int (o1.pe x2.toNatClampNeg)), (0, .ref (qa 0)), (1, .ref (qb 0)), (2, .int x2)]) (st' := [.int r_2]) (pc' := 13) (ce' := 0) (sl' := 0) rfl rfl rfl rfl rfl rfl ?_
  refine gw_istore (pc' := 15) κ dX2_boardOne_13 rfl (by decide) (lv' := [(4, .int r_2), (3, .int (o1.pe x2.toNatClampNeg)), (0, .ref (qa 0)), (1, .ref (qb 0)), (2, .int x2)]) rfl ?_
  refine gw_aload_n (pc' := 16) κ dX2_boardOne_15 rfl 2 rfl rfl ?_
  refine gb_get (pc' := 19) (C := RX2) (T := TX2) (N := 8) κ dX2_boardOne_16 rfl inX2 0 rfl rfl rfl 2 (by decide) tw_fl_X2_18 rfl ?_
  refine gw_iload_n (pc' := 20) κ dX2_boardOne_19 rfl 4 rfl rfl ?_
  refine gw_iload (pc' := 22) κ dX2_boardOne_20 rfl 0 rfl ?_
  obtain ⟨hb_3, h⟩ := h
  refine gb_iast (pc' := 23) (bs' := [cPl qa cI o0.od o0.rd (upd o0.vn x2.toNatClampNeg r_2) o0.pn o0.ao o0.sr o0.sp o0.wt, cSt qb cI o1.se o1.la o1.de o1.le o1.sa o1.fl o1.ar o1.dr o1.pe o1.ri]) κ dX2_boardOne_22 rfl 0 3 rfl rfl hb_3 rfl ?_
  refine gw_iload (pc' := 25) κ dX2_boardOne_23 rfl 0 rfl ?_
  refine gb_callSN (rest := []) κ (c_X5_isVan  r_2 h) ⟨rfl, rfl, Nat.le_of_ble_eq_true rfl, Nat.le_of_ble_eq_true rfl⟩ κ.2.2.2.1.2.2.2.2.2.2.2.2.1 tw_st_X5_isVan tw_co_X5_isVan tw_in_X5 hy_X5_isVan rfl (Nat.le_of_ble_eq_true rfl) rfl dX2_boardOne_25 [] rfl (by decide) (fun _ => Nat.le_of_ble_eq_true rfl) ⟨Nat.le_of_ble_eq_true rfl, Nat.le_of_ble_eq_true rfl⟩ (fun v u hv => ?_)
  obtain ⟨r_4, rfl, h⟩ := hv
  refine gw_nf (ws' := (wfl [cPl qa cI o0.od o0.rd (upd o0.vn x2.toNatClampNeg r_2) o0.pn o0.ao o0.sr o0.sp o0.wt, cSt qb cI o1.se o1.la o1.de o1.le o1.sa o1.fl o1.ar o1.dr o1.pe o1.ri])) (lv' := [(4, .int r_2), (3, .int (o1.pe x2.toNatClampNeg)), (0, .ref (qa 0)), (1, .ref (qb 0)), (2, .int x2)]) (st' := [.int r_4]) (pc' := 28) (ce' := 0) (sl' := 0) rfl rfl rfl rfl rfl rfl ?_
  refine gw_if_ne (pc' := 31) (tgt := 52) κ dX2_boardOne_28 rfl (by decide) (fun hc_5 => ?_) (fun hc_5 => ?_)
  · have h := h.1 hc_5
    refine gw_aload_n (pc' := 53) κ dX2_boardOne_52 rfl 2 rfl rfl ?_
    refine gb_get (pc' := 56) (C := RX2) (T := TX2) (N := 8) κ dX2_boardOne_53 rfl inX2 0 rfl rfl rfl 3 (by decide) tw_fl_X2_21 rfl ?_
    refine gw_iload (pc' := 58) κ dX2_boardOne_56 rfl 0 rfl ?_
    refine gw_dup2 (pc' := 59) κ dX2_boardOne_58 rfl rfl rfl ?_
    obtain ⟨hb_6, h⟩ := h
    refine gb_iald (pc' := 60) κ dX2_boardOne_59 rfl 0 4 rfl rfl hb_6 ?_
    refine gw_iload_n (pc' := 61) κ dX2_boardOne_60 rfl 1 rfl rfl ?_
    refine gw_iadd (pc' := 62) κ dX2_boardOne_61 rfl  ?_
    obtain ⟨hb_7, h⟩ := h
    refine gb_iast (pc' := 63) (bs' := [cPl qa cI o0.od o0.rd (upd o0.vn x2.toNatClampNeg r_2) (upd o0.pn r_2.toNatClampNeg ((o0.pn r_2.toNatClampNeg) + (o1.pe x2.toNatClampNeg))) o0.ao o0.sr o0.sp o0.wt, cSt qb cI o1.se o1.la o1.de o1.le o1.sa o1.fl o1.ar o1.dr o1.pe o1.ri]) κ dX2_boardOne_62 rfl 0 4 rfl rfl hb_7 rfl ?_
    refine gw_aload_n (pc' := 64) κ dX2_boardOne_63 rfl 2 rfl rfl ?_
    refine gb_get (pc' := 67) (C := RX2) (T := TX2) (N := 8) κ dX2_boardOne_64 rfl inX2 0 rfl rfl rfl 4 (by decide) tw_fl_X2_24 rfl ?_
    refine gw_iload (pc' := 69) κ dX2_boardOne_67 rfl 0 rfl ?_
    refine gw_dup2 (pc' := 70) κ dX2_boardOne_69 rfl rfl rfl ?_
    obtain ⟨hb_8, h⟩ := h
    refine gb_iald (pc' := 71) κ dX2_boardOne_70 rfl 0 5 rfl rfl hb_8 ?_
    refine gw_iconst (pc' := 72) (v := 1) κ dX2_boardOne_71 rfl (by decide) ?_
    refine gw_aload_n (pc' := 73) κ dX2_boardOne_72 rfl 3 rfl rfl ?_
    refine gb_get (pc' := 76) (C := RX3) (T := TX3) (N := 10) κ dX2_boardOne_73 rfl inX3 1 rfl rfl rfl 6 (by decide) tw_fl_X2_68 rfl ?_
    refine gw_iload_n (pc' := 77) κ dX2_boardOne_76 rfl 4 rfl rfl ?_
    obtain ⟨hb_9, h⟩ := h
    refine gb_iald (pc' := 78) κ dX2_boardOne_77 rfl 1 7 rfl rfl hb_9 ?_
    refine gw_ishl (pc' := 79) κ dX2_boardOne_78 rfl  ?_
    refine gw_ior (pc' := 80) κ dX2_boardOne_79 rfl  ?_
    obtain ⟨hb_10, h⟩ := h
    refine gb_iast (pc' := 81) (bs' := [cPl qa cI o0.od o0.rd (upd o0.vn x2.toNatClampNeg r_2) (upd o0.pn r_2.toNatClampNeg ((o0.pn r_2.toNatClampNeg) + (o1.pe x2.toNatClampNeg))) (upd o0.ao r_2.toNatClampNeg ((o0.ao r_2.toNatClampNeg) ||| ((1 : Int32) <<< ((o1.ar x2.toNatClampNeg) &&& 31)))) o0.sr o0.sp o0.wt, cSt qb cI o1.se o1.la o1.de o1.le o1.sa o1.fl o1.ar o1.dr o1.pe o1.ri]) κ dX2_boardOne_80 rfl 0 5 rfl rfl hb_10 rfl ?_
    refine gw_aload_n (pc' := 82) κ dX2_boardOne_81 rfl 2 rfl rfl ?_
    refine gw_dup (pc' := 83) κ dX2_boardOne_82 rfl rfl ?_
    refine gb_get (pc' := 86) (C := RX2) (T := TX2) (N := 8) κ dX2_boardOne_83 rfl inX2 0 rfl rfl rfl 7 (by decide) tw_fl_X2_50 rfl ?_
    refine gw_iload_n (pc' := 87) κ dX2_boardOne_86 rfl 1 rfl rfl ?_
    refine gw_aload_n (pc' := 88) κ dX2_boardOne_87 rfl 3 rfl rfl ?_
    refine gb_get (pc' := 91) (C := RX3) (T := TX3) (N := 10) κ dX2_boardOne_88 rfl inX3 1 rfl rfl rfl 3 (by decide) tw_fl_X2_71 rfl ?_
    refine gw_iload (pc' := 93) κ dX2_boardOne_91 rfl 0 rfl ?_
    obtain ⟨hb_11, h⟩ := h
    refine gb_iald (pc' := 94) κ dX2_boardOne_93 rfl 1 4 rfl rfl hb_11 ?_
    refine gw_aload_n (pc' := 95) κ dX2_boardOne_94 rfl 2 rfl rfl ?_
    refine gb_get (pc' := 98) (C := RX2) (T := TX2) (N := 8) κ dX2_boardOne_95 rfl inX2 0 rfl rfl rfl 1 (by decide) tw_fl_X2_15 rfl ?_
    refine gw_iload_n (pc' := 99) κ dX2_boardOne_98 rfl 4 rfl rfl ?_
    obtain ⟨hb_12, h⟩ := h
    refine gb_iald (pc' := 100) κ dX2_boardOne_99 rfl 0 2 rfl rfl hb_12 ?_
    refine gw_isub (pc' := 101) κ dX2_boardOne_100 rfl  ?_
    refine gw_imul (pc' := 102) κ dX2_boardOne_101 rfl  ?_
    refine gw_iadd (pc' := 103) κ dX2_boardOne_102 rfl  ?_
    refine gb_put (pc' := 106) (C := RX2) (T := TX2) (N := 8) (ty := .int) (bs' := [cPl qa cI o0.od o0.rd (upd o0.vn x2.toNatClampNeg r_2) (upd o0.pn r_2.toNatClampNeg ((o0.pn r_2.toNatClampNeg) + (o1.pe x2.toNatClampNeg))) (upd o0.ao r_2.toNatClampNeg ((o0.ao r_2.toNatClampNeg) ||| ((1 : Int32) <<< ((o1.ar x2.toNatClampNeg) &&& 31)))) o0.sr o0.sp (o0.wt + ((o1.pe x2.toNatClampNeg) * ((o1.le r_2.toNatClampNeg) - (o0.rd x2.toNatClampNeg)))), cSt qb cI o1.se o1.la o1.de o1.le o1.sa o1.fl o1.ar o1.dr o1.pe o1.ri]) κ dX2_boardOne_103 rfl inX2 tyX2 tyX2_ok nmX2 0 rfl rfl rfl 7 (by decide) tw_fl_X2_50 rfl (by decide +kernel) rfl rfl (Nat.le_of_ble_eq_true rfl) rfl ?_
    exact gw_vret κ dX2_boardOne_106 ((upd o0.vn x2.toNatClampNeg r_2), (upd o0.pn r_2.toNatClampNeg ((o0.pn r_2.toNatClampNeg) + (o1.pe x2.toNatClampNeg))), (upd o0.ao r_2.toNatClampNeg ((o0.ao r_2.toNatClampNeg) ||| ((1 : Int32) <<< ((o1.ar x2.toNatClampNeg) &&& 31)))), o0.sr, o0.sp, (o0.wt + ((o1.pe x2.toNatClampNeg) * ((o1.le r_2.toNatClampNeg) - (o0.rd x2.toNatClampNeg))))) rfl ⟨rfl, h⟩
  · have h := h.2 hc_5
    refine gw_aload_n (pc' := 32) κ dX2_boardOne_31 rfl 2 rfl rfl ?_
    refine gw_dup (pc' := 33) κ dX2_boardOne_32 rfl rfl ?_
    refine gb_get (pc' := 36) (C := RX2) (T := TX2) (N := 8) κ dX2_boardOne_33 rfl inX2 0 rfl rfl rfl 5 (by decide) tw_fl_X2_44 rfl ?_
    refine gw_iconst (pc' := 37) (v := 1) κ dX2_boardOne_36 rfl (by decide) ?_
    refine gw_iadd (pc' := 38) κ dX2_boardOne_37 rfl  ?_
    refine gb_put (pc' := 41) (C := RX2) (T := TX2) (N := 8) (ty := .int) (bs' := [cPl qa cI o0.od o0.rd (upd o0.vn x2.toNatClampNeg r_2) o0.pn o0.ao (o0.sr + (1 : Int32)) o0.sp o0.wt, cSt qb cI o1.se o1.la o1.de o1.le o1.sa o1.fl o1.ar o1.dr o1.pe o1.ri]) κ dX2_boardOne_38 rfl inX2 tyX2 tyX2_ok nmX2 0 rfl rfl rfl 5 (by decide) tw_fl_X2_44 rfl (by decide +kernel) rfl rfl (Nat.le_of_ble_eq_true rfl) rfl ?_
    refine gw_aload_n (pc' := 42) κ dX2_boardOne_41 rfl 2 rfl rfl ?_
    refine gw_dup (pc' := 43) κ dX2_boardOne_42 rfl rfl ?_
    refine gb_get (pc' := 46) (C := RX2) (T := TX2) (N := 8) κ dX2_boardOne_43 rfl inX2 0 rfl rfl rfl 6 (by decide) tw_fl_X2_47 rfl ?_
    refine gw_iload_n (pc' := 47) κ dX2_boardOne_46 rfl 1 rfl rfl ?_
    refine gw_iadd (pc' := 48) κ dX2_boardOne_47 rfl  ?_
    refine gb_put (pc' := 51) (C := RX2) (T := TX2) (N := 8) (ty := .int) (bs' := [cPl qa cI o0.od o0.rd (upd o0.vn x2.toNatClampNeg r_2) o0.pn o0.ao (o0.sr + (1 : Int32)) (o0.sp + (o1.pe x2.toNatClampNeg)) o0.wt, cSt qb cI o1.se o1.la o1.de o1.le o1.sa o1.fl o1.ar o1.dr o1.pe o1.ri]) κ dX2_boardOne_48 rfl inX2 tyX2 tyX2_ok nmX2 0 rfl rfl rfl 6 (by decide) tw_fl_X2_47 rfl (by decide +kernel) rfl rfl (Nat.le_of_ble_eq_true rfl) rfl ?_
    exact gw_vret κ dX2_boardOne_51 ((upd o0.vn x2.toNatClampNeg r_2), o0.pn, o0.ao, (o0.sr + (1 : Int32)), (o0.sp + (o1.pe x2.toNatClampNeg)), o0.wt) rfl ⟨rfl, h⟩
theorem hy_X2_board : g_hy yX2_board 1 := by decide +kernel
set_option maxHeartbeats 4000000 in
set_option maxRecDepth 100000 in
theorem k_X2_board_45 {zp : Program} {l : Launch} {ze : Env} {zs : State} {zm : MethodId} {za : Array Value} {zb : List Frame} {zt : Method} {zc : Code} {D : va_G} {cI cR : ClassId} {A : Nat → Prop} (κ : KC zp zs zm za zt zc cX2_board 3 RX2 D cI cR A none) (qa : Nat → Nat) (qb : Nat → Nat) (P : (Nat → Int32) → (Nat → Int32) → (Nat → Int32) → Int32 → Int32 → Int32 → Prop) (o0 : PlT) (o1 : StT) : ∀ (n : Nat) (v2 : Int32) (vn : Nat → Int32) (pn : Nat → Int32) (ao : Nat → Int32) (sr : Int32) (sp : Int32) (wt : Int32), wp_X2_board_45 P o0 o1 n v2 vn pn ao sr sp wt → GM zp l ze ({ frames := 4, cells := 0, slots := 0, locals := 97 } : Room) zs zm za zb zt zc D A 3 (pV (fun (u : (Nat → Int32) × (Nat → Int32) × (Nat → Int32) × Int32 × Int32 × Int32) => P u.1 u.2.1 u.2.2.1 u.2.2.2.1 u.2.2.2.2.1 u.2.2.2.2.2)) (fun u : (Nat → Int32) × (Nat → Int32) × (Nat → Int32) × Int32 × Int32 × Int32 => (wfl [cPl qa cI o0.od o0.rd u.1 u.2.1 u.2.2.1 u.2.2.2.1 u.2.2.2.2.1 u.2.2.2.2.2, cSt qb cI o1.se o1.la o1.de o1.le o1.sa o1.fl o1.ar o1.dr o1.pe o1.ri])) 0 0 0 0 (wfl [cPl qa cI o0.od o0.rd vn pn ao sr sp wt, cSt qb cI o1.se o1.la o1.de o1.le o1.sa o1.fl o1.ar o1.dr o1.pe o1.ri]) [(0, .ref (qa 0)), (1, .ref (qb 0)), (2, .int v2)] 45 [] := by
  intro n45
  induction n45 with
  | zero => intro v2 vn pn ao sr sp wt h; exact (show False from h).elim
  | succ n45 ih45 =>
    intro v2 vn pn ao sr sp wt h
    have h : wp_X2_board_45F P o0 o1 (wp_X2_board_45 P o0 o1 n45) v2 vn pn ao sr sp wt := h
    unfold wp_X2_board_45F at h
    refine gw_iload_n (pc' := 46) κ dX2_board_45 rfl 2 rfl rfl ?_
    refine gw_aload_n (pc' := 47) κ dX2_board_46 rfl 1 rfl rfl ?_
    refine gb_get (pc' := 50) (C := RX3) (T := TX3) (N := 10) κ dX2_board_47 rfl inX3 1 rfl rfl rfl 9 (by decide) tw_fl_X2_34 rfl ?_
    refine gw_icmp_ge (pc' := 53) (tgt := 70) κ dX2_board_50 rfl (by decide) (fun hc_4 => ?_) (fun hc_4 => ?_)
    · have h := h.1 hc_4
      exact gw_vret κ dX2_board_70 (vn, pn, ao, sr, sp, wt) rfl ⟨rfl, h⟩
    · have h := h.2 hc_4
      refine gw_aload_n (pc' := 54) κ dX2_board_53 rfl 0 rfl rfl ?_
      refine gw_aload_n (pc' := 55) κ dX2_board_54 rfl 1 rfl rfl ?_
      refine gw_aload_n (pc' := 56) κ dX2_board_55 rfl 0 rfl rfl ?_
      refine gb_get (pc' := 59) (C := RX2) (T := TX2) (N := 8) κ dX2_board_56 rfl inX2 0 rfl rfl rfl 0 (by decide) tw_fl_X2_9 rfl ?_
      refine gw_iload_n (pc' := 60) κ dX2_board_59 rfl 2 rfl rfl ?_
      obtain ⟨hb_5, h⟩ := h
      refine gb_iald (pc' := 61) κ dX2_board_60 rfl 0 1 rfl rfl hb_5 ?_
      refine gb_callV (ci := 2) (qb := 0) (rest := []) κ (c_X2_boardOne qa qb (mkPl o0.od o0.rd vn pn ao sr sp wt) o1 (o0.od v2.toNatClampNeg) h) ⟨rfl, rfl, Nat.le_of_ble_eq_true rfl, Nat.le_of_ble_eq_true rfl⟩ tw_ml_X2_53 tw_im_X2_boardOne tw_se_X2_boardOne tw_co_X2_boardOne tw_in_X2 hy_X2_boardOne rfl rfl rfl rfl rfl (Nat.le_of_ble_eq_true rfl) rfl dX2_board_61 [0, 1] rfl (by decide) (fun _ => Nat.le_of_ble_eq_true rfl) ⟨Nat.le_of_ble_eq_true rfl, Nat.le_of_ble_eq_true rfl⟩ (fun v u hv => ?_)
      obtain ⟨rfl, h⟩ := hv
      obtain ⟨vn_6, pn_7, ao_8, sr_9, sp_10, wt_11⟩ := u
      refine gw_nf (ws' := (wfl [cPl qa cI o0.od o0.rd vn_6 pn_7 ao_8 sr_9 sp_10 wt_11, cSt qb cI o1.se o1.la o1.de o1.le o1.sa o1.fl o1.ar o1.dr o1.pe o1.ri])) (lv' := [(0, .ref (qa 0)), (1, .ref (qb 0)), (2, .int v2)]) (st' := []) (pc' := 64) (ce' := 0) (sl' := 0) rfl rfl rfl rfl rfl rfl ?_
      refine gw_iinc (pc' := 67) κ dX2_board_64 rfl 2 rfl (v := (v2 + 1)) rfl (by decide) (lv' := [(2, .int (v2 + 1)), (0, .ref (qa 0)), (1, .ref (qb 0))]) rfl ?_
      refine gw_goto (tgt := 45) κ dX2_board_67 (by decide) ?_
      refine gw_lv (lv' := [(0, .ref (qa 0)), (1, .ref (qb 0)), (2, .int (v2 + 1))]) [1, 2, 0] rfl ?_
      exact ih45 (v2 + 1) vn_6 pn_7 ao_8 sr_9 sp_10 wt_11 h
set_option maxHeartbeats 4000000 in
set_option maxRecDepth 100000 in
theorem k_X2_board_2 {zp : Program} {l : Launch} {ze : Env} {zs : State} {zm : MethodId} {za : Array Value} {zb : List Frame} {zt : Method} {zc : Code} {D : va_G} {cI cR : ClassId} {A : Nat → Prop} (κ : KC zp zs zm za zt zc cX2_board 3 RX2 D cI cR A none) (qa : Nat → Nat) (qb : Nat → Nat) (P : (Nat → Int32) → (Nat → Int32) → (Nat → Int32) → Int32 → Int32 → Int32 → Prop) (o0 : PlT) (o1 : StT) (vn : Nat → Int32) (sr : Int32) (sp : Int32) (wt : Int32) : ∀ (n : Nat) (v2 : Int32) (pn : Nat → Int32) (ao : Nat → Int32), wp_X2_board_2 P o0 o1 vn sr sp wt n v2 pn ao → GM zp l ze ({ frames := 4, cells := 0, slots := 0, locals := 97 } : Room) zs zm za zb zt zc D A 3 (pV (fun (u : (Nat → Int32) × (Nat → Int32) × (Nat → Int32) × Int32 × Int32 × Int32) => P u.1 u.2.1 u.2.2.1 u.2.2.2.1 u.2.2.2.2.1 u.2.2.2.2.2)) (fun u : (Nat → Int32) × (Nat → Int32) × (Nat → Int32) × Int32 × Int32 × Int32 => (wfl [cPl qa cI o0.od o0.rd u.1 u.2.1 u.2.2.1 u.2.2.2.1 u.2.2.2.2.1 u.2.2.2.2.2, cSt qb cI o1.se o1.la o1.de o1.le o1.sa o1.fl o1.ar o1.dr o1.pe o1.ri])) 0 0 0 0 (wfl [cPl qa cI o0.od o0.rd vn pn ao sr sp wt, cSt qb cI o1.se o1.la o1.de o1.le o1.sa o1.fl o1.ar o1.dr o1.pe o1.ri]) [(0, .ref (qa 0)), (1, .ref (qb 0)), (2, .int v2)] 2 [] := by
  intro n2
  induction n2 with
  | zero => intro v2 pn ao h; exact (show False from h).elim
  | succ n2 ih2 =>
    intro v2 pn ao h
    have h : wp_X2_board_2F P o0 o1 vn sr sp wt (wp_X2_board_2 P o0 o1 vn sr sp wt n2) v2 pn ao := h
    unfold wp_X2_board_2F at h
    refine gw_iload_n (pc' := 3) κ dX2_board_2 rfl 2 rfl rfl ?_
    refine gw_bipush (pc' := 5) (v := 8) κ dX2_board_3 rfl (by decide) ?_
    refine gw_icmp_ge (pc' := 8) (tgt := 28) κ dX2_board_5 rfl (by decide) (fun hc_1 => ?_) (fun hc_1 => ?_)
    · have h := h.1 hc_1
      refine gw_aload_n (pc' := 29) κ dX2_board_28 rfl 0 rfl rfl ?_
      refine gw_iconst (pc' := 30) (v := 0) κ dX2_board_29 rfl (by decide) ?_
      refine gb_put (pc' := 33) (C := RX2) (T := TX2) (N := 8) (ty := .int) (bs' := [cPl qa cI o0.od o0.rd vn pn ao (0 : Int32) sp wt, cSt qb cI o1.se o1.la o1.de o1.le o1.sa o1.fl o1.ar o1.dr o1.pe o1.ri]) κ dX2_board_30 rfl inX2 tyX2 tyX2_ok nmX2 0 rfl rfl rfl 5 (by decide) tw_fl_X2_44 rfl (by decide +kernel) rfl rfl (Nat.le_of_ble_eq_true rfl) rfl ?_
      refine gw_aload_n (pc' := 34) κ dX2_board_33 rfl 0 rfl rfl ?_
      refine gw_iconst (pc' := 35) (v := 0) κ dX2_board_34 rfl (by decide) ?_
      refine gb_put (pc' := 38) (C := RX2) (T := TX2) (N := 8) (ty := .int) (bs' := [cPl qa cI o0.od o0.rd vn pn ao (0 : Int32) (0 : Int32) wt, cSt qb cI o1.se o1.la o1.de o1.le o1.sa o1.fl o1.ar o1.dr o1.pe o1.ri]) κ dX2_board_35 rfl inX2 tyX2 tyX2_ok nmX2 0 rfl rfl rfl 6 (by decide) tw_fl_X2_47 rfl (by decide +kernel) rfl rfl (Nat.le_of_ble_eq_true rfl) rfl ?_
      refine gw_aload_n (pc' := 39) κ dX2_board_38 rfl 0 rfl rfl ?_
      refine gw_iconst (pc' := 40) (v := 0) κ dX2_board_39 rfl (by decide) ?_
      refine gb_put (pc' := 43) (C := RX2) (T := TX2) (N := 8) (ty := .int) (bs' := [cPl qa cI o0.od o0.rd vn pn ao (0 : Int32) (0 : Int32) (0 : Int32), cSt qb cI o1.se o1.la o1.de o1.le o1.sa o1.fl o1.ar o1.dr o1.pe o1.ri]) κ dX2_board_40 rfl inX2 tyX2 tyX2_ok nmX2 0 rfl rfl rfl 7 (by decide) tw_fl_X2_50 rfl (by decide +kernel) rfl rfl (Nat.le_of_ble_eq_true rfl) rfl ?_
      refine gw_iconst (pc' := 44) (v := 0) κ dX2_board_43 rfl (by decide) ?_
      refine gw_istore_n (pc' := 45) κ dX2_board_44 rfl rfl (by decide) (lv' := [(2, .int (0 : Int32)), (0, .ref (qa 0)), (1, .ref (qb 0))]) rfl ?_
      obtain ⟨m45, h⟩ := h
      refine gw_lv (lv' := [(0, .ref (qa 0)), (1, .ref (qb 0)), (2, .int (0 : Int32))]) [1, 2, 0] rfl ?_
      exact k_X2_board_45 κ qa qb P o0 o1 m45 (0 : Int32) vn pn ao (0 : Int32) (0 : Int32) (0 : Int32) h
    · have h := h.2 hc_1
      refine gw_aload_n (pc' := 9) κ dX2_board_8 rfl 0 rfl rfl ?_
      refine gb_get (pc' := 12) (C := RX2) (T := TX2) (N := 8) κ dX2_board_9 rfl inX2 0 rfl rfl rfl 3 (by decide) tw_fl_X2_21 rfl ?_
      refine gw_iload_n (pc' := 13) κ dX2_board_12 rfl 2 rfl rfl ?_
      refine gw_iconst (pc' := 14) (v := 0) κ dX2_board_13 rfl (by decide) ?_
      obtain ⟨hb_2, h⟩ := h
      refine gb_iast (pc' := 15) (bs' := [cPl qa cI o0.od o0.rd vn (upd pn v2.toNatClampNeg (0 : Int32)) ao sr sp wt, cSt qb cI o1.se o1.la o1.de o1.le o1.sa o1.fl o1.ar o1.dr o1.pe o1.ri]) κ dX2_board_14 rfl 0 4 rfl rfl hb_2 rfl ?_
      refine gw_aload_n (pc' := 16) κ dX2_board_15 rfl 0 rfl rfl ?_
      refine gb_get (pc' := 19) (C := RX2) (T := TX2) (N := 8) κ dX2_board_16 rfl inX2 0 rfl rfl rfl 4 (by decide) tw_fl_X2_24 rfl ?_
      refine gw_iload_n (pc' := 20) κ dX2_board_19 rfl 2 rfl rfl ?_
      refine gw_iconst (pc' := 21) (v := 0) κ dX2_board_20 rfl (by decide) ?_
      obtain ⟨hb_3, h⟩ := h
      refine gb_iast (pc' := 22) (bs' := [cPl qa cI o0.od o0.rd vn (upd pn v2.toNatClampNeg (0 : Int32)) (upd ao v2.toNatClampNeg (0 : Int32)) sr sp wt, cSt qb cI o1.se o1.la o1.de o1.le o1.sa o1.fl o1.ar o1.dr o1.pe o1.ri]) κ dX2_board_21 rfl 0 5 rfl rfl hb_3 rfl ?_
      refine gw_iinc (pc' := 25) κ dX2_board_22 rfl 2 rfl (v := (v2 + 1)) rfl (by decide) (lv' := [(2, .int (v2 + 1)), (0, .ref (qa 0)), (1, .ref (qb 0))]) rfl ?_
      refine gw_goto (tgt := 2) κ dX2_board_25 (by decide) ?_
      refine gw_lv (lv' := [(0, .ref (qa 0)), (1, .ref (qb 0)), (2, .int (v2 + 1))]) [1, 2, 0] rfl ?_
      exact ih2 (v2 + 1) (upd pn v2.toNatClampNeg (0 : Int32)) (upd ao v2.toNatClampNeg (0 : Int32)) h
set_option maxHeartbeats 4000000 in
set_option maxRecDepth 100000 in
theorem c_X2_board {l : Launch} {D : va_G} {cI cR : ClassId}  (qa : Nat → Nat) (qb : Nat → Nat) {P : (Nat → Int32) → (Nat → Int32) → (Nat → Int32) → Int32 → Int32 → Int32 → Prop} (o0 : PlT) (o1 : StT) (h : wp_X2_board P o0 o1) : CT l D cI cR yX2_board cX2_board 3 none ({ frames := 4, cells := 0, slots := 0, locals := 97 } : Room) [.ref (qa 0), .ref (qb 0)] (wfl [cPl qa cI o0.od o0.rd o0.vn o0.pn o0.ao o0.sr o0.sp o0.wt, cSt qb cI o1.se o1.la o1.de o1.le o1.sa o1.fl o1.ar o1.dr o1.pe o1.ri]) (fun u : (Nat → Int32) × (Nat → Int32) × (Nat → Int32) × Int32 × Int32 × Int32 => (wfl [cPl qa cI o0.od o0.rd u.1 u.2.1 u.2.2.1 u.2.2.2.1 u.2.2.2.2.1 u.2.2.2.2.2, cSt qb cI o1.se o1.la o1.de o1.le o1.sa o1.fl o1.ar o1.dr o1.pe o1.ri])) (pV (fun (u : (Nat → Int32) × (Nat → Int32) × (Nat → Int32) × Int32 × Int32 × Int32) => P u.1 u.2.1 u.2.2.1 u.2.2.2.1 u.2.2.2.2.1 u.2.2.2.2.2)) 0 0 := by
  refine ct_of RX2 rfl (by decide +kernel) (Nat.le_of_ble_eq_true rfl) (fun zp ze zs zm zb zt zc A hin κ => ?_)
  unfold wp_X2_board at h
  refine gw_nf (lv' := [(0, .ref (qa 0)), (1, .ref (qb 0))]) (pc' := 0) (st' := []) (ce' := 0) (sl' := 0) rfl rfl rfl rfl rfl rfl ?_
  refine gw_iconst (pc' := 1) (v := 0) κ dX2_board_0 rfl (by decide) ?_
  refine gw_istore_n (pc' := 2) κ dX2_board_1 rfl rfl (by decide) (lv' := [(2, .int (0 : Int32)), (0, .ref (qa 0)), (1, .ref (qb 0))]) rfl ?_
  obtain ⟨m2, h⟩ := h
  refine gw_lv (lv' := [(0, .ref (qa 0)), (1, .ref (qb 0)), (2, .int (0 : Int32))]) [1, 2, 0] rfl ?_
  exact k_X2_board_2 κ qa qb P o0 o1 o0.vn o0.sr o0.sp o0.wt m2 (0 : Int32) o0.pn o0.ao h
theorem hy_X2_make : g_hy yX2_make 1 := by decide +kernel
set_option maxHeartbeats 4000000 in
set_option maxRecDepth 100000 in
theorem c_X2_make {l : Launch} {D : va_G} {cI cR : ClassId}  (qa : Nat → Nat) (qb : Nat → Nat) {P : (Nat → Int32) → (Nat → Int32) → (Nat → Int32) → (Nat → Int32) → (Nat → Int32) → Int32 → Int32 → Int32 → Prop} (o0 : PlT) (o1 : StT) (h : wp_X2_make P o0 o1) : CT l D cI cR yX2_make cX2_make 2 none ({ frames := 5, cells := 0, slots := 0, locals := 119 } : Room) [.ref (qa 0), .ref (qb 0)] (wfl [cPl qa cI o0.od o0.rd o0.vn o0.pn o0.ao o0.sr o0.sp o0.wt, cSt qb cI o1.se o1.la o1.de o1.le o1.sa o1.fl o1.ar o1.dr o1.pe o1.ri]) (fun u : (Nat → Int32) × (Nat → Int32) × (Nat → Int32) × (Nat → Int32) × (Nat → Int32) × Int32 × Int32 × Int32 => (wfl [cPl qa cI u.1 u.2.1 u.2.2.1 u.2.2.2.1 u.2.2.2.2.1 u.2.2.2.2.2.1 u.2.2.2.2.2.2.1 u.2.2.2.2.2.2.2, cSt qb cI o1.se o1.la o1.de o1.le o1.sa o1.fl o1.ar o1.dr o1.pe o1.ri])) (pV (fun (u : (Nat → Int32) × (Nat → Int32) × (Nat → Int32) × (Nat → Int32) × (Nat → Int32) × Int32 × Int32 × Int32) => P u.1 u.2.1 u.2.2.1 u.2.2.2.1 u.2.2.2.2.1 u.2.2.2.2.2.1 u.2.2.2.2.2.2.1 u.2.2.2.2.2.2.2)) 0 0 := by
  refine ct_of RX2 rfl (by decide +kernel) (Nat.le_of_ble_eq_true rfl) (fun zp ze zs zm zb zt zc A hin κ => ?_)
  unfold wp_X2_make at h
  refine gw_nf (lv' := [(0, .ref (qa 0)), (1, .ref (qb 0))]) (pc' := 0) (st' := []) (ce' := 0) (sl' := 0) rfl rfl rfl rfl rfl rfl ?_
  refine gw_aload_n (pc' := 1) κ dX2_make_0 rfl 0 rfl rfl ?_
  refine gw_aload_n (pc' := 2) κ dX2_make_1 rfl 1 rfl rfl ?_
  refine gb_callV (ci := 2) (qb := 0) (rest := []) κ (c_X2_lineUp qa qb o0 o1 h) ⟨rfl, rfl, Nat.le_of_ble_eq_true rfl, Nat.le_of_ble_eq_true rfl⟩ tw_ml_X2_27 tw_im_X2_lineUp tw_se_X2_lineUp tw_co_X2_lineUp tw_in_X2 hy_X2_lineUp rfl rfl rfl rfl rfl (Nat.le_of_ble_eq_true rfl) rfl dX2_make_2 [0, 1] rfl (by decide) (fun _ => Nat.le_of_ble_eq_true rfl) ⟨Nat.le_of_ble_eq_true rfl, Nat.le_of_ble_eq_true rfl⟩ (fun v u hv => ?_)
  obtain ⟨rfl, h⟩ := hv
  obtain ⟨od_1, rd_2⟩ := u
  refine gw_nf (ws' := (wfl [cPl qa cI od_1 rd_2 o0.vn o0.pn o0.ao o0.sr o0.sp o0.wt, cSt qb cI o1.se o1.la o1.de o1.le o1.sa o1.fl o1.ar o1.dr o1.pe o1.ri])) (lv' := [(0, .ref (qa 0)), (1, .ref (qb 0))]) (st' := []) (pc' := 5) (ce' := 0) (sl' := 0) rfl rfl rfl rfl rfl rfl ?_
  refine gw_aload_n (pc' := 6) κ dX2_make_5 rfl 0 rfl rfl ?_
  refine gw_aload_n (pc' := 7) κ dX2_make_6 rfl 1 rfl rfl ?_
  refine gb_callV (ci := 2) (qb := 0) (rest := []) κ (c_X2_board qa qb (mkPl od_1 rd_2 o0.vn o0.pn o0.ao o0.sr o0.sp o0.wt) o1 h) ⟨rfl, rfl, Nat.le_of_ble_eq_true rfl, Nat.le_of_ble_eq_true rfl⟩ tw_ml_X2_31 tw_im_X2_board tw_se_X2_board tw_co_X2_board tw_in_X2 hy_X2_board rfl rfl rfl rfl rfl (Nat.le_of_ble_eq_true rfl) rfl dX2_make_7 [0, 1] rfl (by decide) (fun _ => Nat.le_of_ble_eq_true rfl) ⟨Nat.le_of_ble_eq_true rfl, Nat.le_of_ble_eq_true rfl⟩ (fun v u hv => ?_)
  obtain ⟨rfl, h⟩ := hv
  obtain ⟨vn_3, pn_4, ao_5, sr_6, sp_7, wt_8⟩ := u
  refine gw_nf (ws' := (wfl [cPl qa cI od_1 rd_2 vn_3 pn_4 ao_5 sr_6 sp_7 wt_8, cSt qb cI o1.se o1.la o1.de o1.le o1.sa o1.fl o1.ar o1.dr o1.pe o1.ri])) (lv' := [(0, .ref (qa 0)), (1, .ref (qb 0))]) (st' := []) (pc' := 10) (ce' := 0) (sl' := 0) rfl rfl rfl rfl rfl rfl ?_
  exact gw_vret κ dX2_make_10 (od_1, rd_2, vn_3, pn_4, ao_5, sr_6, sp_7, wt_8) rfl ⟨rfl, h⟩
theorem hy_X5_set : g_hy yX5_set 2 := by decide +kernel
set_option maxHeartbeats 4000000 in
set_option maxRecDepth 100000 in
theorem c_X5_set {l : Launch} {D : va_G} {cI cR : ClassId}  (qx : Nat → Nat) (qn : Nat → Nat) (qp : Nat → Nat) (qw : Nat → Nat) (qt : Nat → Nat) (qu : Nat → Nat) (qd : Nat → Nat) (qh : Nat → Nat) (ql : Nat → Nat) (qs : Nat → Nat → Nat) {P : Int32 → (Nat → Int32) → (Nat → Int32) → (Nat → Int32) → (Nat → Int32) → (Nat → Int32) → (Nat → Int32) → Int32 → Int32 → Int32 → (Nat → StT) → Int32 → Int32 → Prop} (now : StT) (pln : PlT) (his : HiT) (x1 : Int32) (x2 : Int32) (h : wp_X5_set P now pln his x1 x2) : CT l D cI cR yX5_set cX5_set 4 (some .int) ({ frames := 6, cells := 0, slots := 0, locals := 140 } : Room) [.ref (qx 0), .int x1, .int x2] (wfl [cX qx qn qp qw qt qu qd qh ql, cSt qn cI now.se now.la now.de now.le now.sa now.fl now.ar now.dr now.pe now.ri, cPl qp cI pln.od pln.rd pln.vn pln.pn pln.ao pln.sr pln.sp pln.wt, cHi qh qs cR his.ol his.sz, cSt (qs 0) cI (his.hs 0).se (his.hs 0).la (his.hs 0).de (his.hs 0).le (his.hs 0).sa (his.hs 0).fl (his.hs 0).ar (his.hs 0).dr (his.hs 0).pe (his.hs 0).ri, cSt (qs 1) cI (his.hs 1).se (his.hs 1).la (his.hs 1).de (his.hs 1).le (his.hs 1).sa (his.hs 1).fl (his.hs 1).ar (his.hs 1).dr (his.hs 1).pe (his.hs 1).ri, cSt (qs 2) cI (his.hs 2).se (his.hs 2).la (his.hs 2).de (his.hs 2).le (his.hs 2).sa (his.hs 2).fl (his.hs 2).ar (his.hs 2).dr (his.hs 2).pe (his.hs 2).ri, cSt (qs 3) cI (his.hs 3).se (his.hs 3).la (his.hs 3).de (his.hs 3).le (his.hs 3).sa (his.hs 3).fl (his.hs 3).ar (his.hs 3).dr (his.hs 3).pe (his.hs 3).ri, cSt (qs 4) cI (his.hs 4).se (his.hs 4).la (his.hs 4).de (his.hs 4).le (his.hs 4).sa (his.hs 4).fl (his.hs 4).ar (his.hs 4).dr (his.hs 4).pe (his.hs 4).ri, cSt (qs 5) cI (his.hs 5).se (his.hs 5).la (his.hs 5).de (his.hs 5).le (his.hs 5).sa (his.hs 5).fl (his.hs 5).ar (his.hs 5).dr (his.hs 5).pe (his.hs 5).ri]) (fun u : (Nat → Int32) × (Nat → Int32) × (Nat → Int32) × (Nat → Int32) × (Nat → Int32) × (Nat → Int32) × Int32 × Int32 × Int32 × (Nat → StT) × Int32 × Int32 => (wfl [cX qx qn qp qw qt qu qd qh ql, cSt qn cI u.1 now.la now.de now.le now.sa now.fl now.ar now.dr now.pe now.ri, cPl qp cI u.2.1 u.2.2.1 u.2.2.2.1 u.2.2.2.2.1 u.2.2.2.2.2.1 u.2.2.2.2.2.2.1 u.2.2.2.2.2.2.2.1 u.2.2.2.2.2.2.2.2.1, cHi qh qs cR u.2.2.2.2.2.2.2.2.2.2.1 u.2.2.2.2.2.2.2.2.2.2.2, cSt (qs 0) cI (u.2.2.2.2.2.2.2.2.2.1 0).se (u.2.2.2.2.2.2.2.2.2.1 0).la (u.2.2.2.2.2.2.2.2.2.1 0).de (u.2.2.2.2.2.2.2.2.2.1 0).le (u.2.2.2.2.2.2.2.2.2.1 0).sa (u.2.2.2.2.2.2.2.2.2.1 0).fl (u.2.2.2.2.2.2.2.2.2.1 0).ar (u.2.2.2.2.2.2.2.2.2.1 0).dr (u.2.2.2.2.2.2.2.2.2.1 0).pe (u.2.2.2.2.2.2.2.2.2.1 0).ri, cSt (qs 1) cI (u.2.2.2.2.2.2.2.2.2.1 1).se (u.2.2.2.2.2.2.2.2.2.1 1).la (u.2.2.2.2.2.2.2.2.2.1 1).de (u.2.2.2.2.2.2.2.2.2.1 1).le (u.2.2.2.2.2.2.2.2.2.1 1).sa (u.2.2.2.2.2.2.2.2.2.1 1).fl (u.2.2.2.2.2.2.2.2.2.1 1).ar (u.2.2.2.2.2.2.2.2.2.1 1).dr (u.2.2.2.2.2.2.2.2.2.1 1).pe (u.2.2.2.2.2.2.2.2.2.1 1).ri, cSt (qs 2) cI (u.2.2.2.2.2.2.2.2.2.1 2).se (u.2.2.2.2.2.2.2.2.2.1 2).la (u.2.2.2.2.2.2.2.2.2.1 2).de (u.2.2.2.2.2.2.2.2.2.1 2).le (u.2.2.2.2.2.2.2.2.2.1 2).sa (u.2.2.2.2.2.2.2.2.2.1 2).fl (u.2.2.2.2.2.2.2.2.2.1 2).ar (u.2.2.2.2.2.2.2.2.2.1 2).dr (u.2.2.2.2.2.2.2.2.2.1 2).pe (u.2.2.2.2.2.2.2.2.2.1 2).ri, cSt (qs 3) cI (u.2.2.2.2.2.2.2.2.2.1 3).se (u.2.2.2.2.2.2.2.2.2.1 3).la (u.2.2.2.2.2.2.2.2.2.1 3).de (u.2.2.2.2.2.2.2.2.2.1 3).le (u.2.2.2.2.2.2.2.2.2.1 3).sa (u.2.2.2.2.2.2.2.2.2.1 3).fl (u.2.2.2.2.2.2.2.2.2.1 3).ar (u.2.2.2.2.2.2.2.2.2.1 3).dr (u.2.2.2.2.2.2.2.2.2.1 3).pe (u.2.2.2.2.2.2.2.2.2.1 3).ri, cSt (qs 4) cI (u.2.2.2.2.2.2.2.2.2.1 4).se (u.2.2.2.2.2.2.2.2.2.1 4).la (u.2.2.2.2.2.2.2.2.2.1 4).de (u.2.2.2.2.2.2.2.2.2.1 4).le (u.2.2.2.2.2.2.2.2.2.1 4).sa (u.2.2.2.2.2.2.2.2.2.1 4).fl (u.2.2.2.2.2.2.2.2.2.1 4).ar (u.2.2.2.2.2.2.2.2.2.1 4).dr (u.2.2.2.2.2.2.2.2.2.1 4).pe (u.2.2.2.2.2.2.2.2.2.1 4).ri, cSt (qs 5) cI (u.2.2.2.2.2.2.2.2.2.1 5).se (u.2.2.2.2.2.2.2.2.2.1 5).la (u.2.2.2.2.2.2.2.2.2.1 5).de (u.2.2.2.2.2.2.2.2.2.1 5).le (u.2.2.2.2.2.2.2.2.2.1 5).sa (u.2.2.2.2.2.2.2.2.2.1 5).fl (u.2.2.2.2.2.2.2.2.2.1 5).ar (u.2.2.2.2.2.2.2.2.2.1 5).dr (u.2.2.2.2.2.2.2.2.2.1 5).pe (u.2.2.2.2.2.2.2.2.2.1 5).ri])) (pI (fun (r : Int32) (u : (Nat → Int32) × (Nat → Int32) × (Nat → Int32) × (Nat → Int32) × (Nat → Int32) × (Nat → Int32) × Int32 × Int32 × Int32 × (Nat → StT) × Int32 × Int32) => P r u.1 u.2.1 u.2.2.1 u.2.2.2.1 u.2.2.2.2.1 u.2.2.2.2.2.1 u.2.2.2.2.2.2.1 u.2.2.2.2.2.2.2.1 u.2.2.2.2.2.2.2.2.1 u.2.2.2.2.2.2.2.2.2.1 u.2.2.2.2.2.2.2.2.2.2.1 u.2.2.2.2.2.2.2.2.2.2.2)) 0 0 := by
  refine ct_of RX5 rfl (by decide +kernel) (Nat.le_of_ble_eq_true rfl) (fun zp ze zs zm zb zt zc A hin κ => ?_)
  unfold wp_X5_set at h
  refine gw_nf (lv' := [(0, .ref (qx 0)), (1, .int x1), (2, .int x2)]) (pc' := 0) (st' := []) (ce' := 0) (sl' := 0) rfl rfl rfl rfl rfl rfl ?_
  refine gw_iload_n (pc' := 1) κ dX5_set_0 rfl 1 rfl rfl ?_
  refine gw_iconst (pc' := 2) (v := 0) κ dX5_set_1 rfl (by decide) ?_
  refine gw_iconst (pc' := 3) (v := 4) κ dX5_set_2 rfl (by decide) ?_
  refine gb_callS (rest := []) κ (c_X5_isIn  x1 (0 : Int32) (4 : Int32) h) ⟨rfl, rfl, Nat.le_of_ble_eq_true rfl, Nat.le_of_ble_eq_true rfl⟩ tw_ml_X5_54 tw_st_X5_isIn tw_co_X5_isIn tw_in_X5 hy_X5_isIn rfl (Nat.le_of_ble_eq_true rfl) rfl dX5_set_3 [] rfl (by decide) (fun _ => Nat.le_of_ble_eq_true rfl) ⟨Nat.le_of_ble_eq_true rfl, Nat.le_of_ble_eq_true rfl⟩ (fun v u hv => ?_)
  obtain ⟨r_1, rfl, h⟩ := hv
  refine gw_nf (ws' := (wfl [cX qx qn qp qw qt qu qd qh ql, cSt qn cI now.se now.la now.de now.le now.sa now.fl now.ar now.dr now.pe now.ri, cPl qp cI pln.od pln.rd pln.vn pln.pn pln.ao pln.sr pln.sp pln.wt, cHi qh qs cR his.ol his.sz, cSt (qs 0) cI (his.hs 0).se (his.hs 0).la (his.hs 0).de (his.hs 0).le (his.hs 0).sa (his.hs 0).fl (his.hs 0).ar (his.hs 0).dr (his.hs 0).pe (his.hs 0).ri, cSt (qs 1) cI (his.hs 1).se (his.hs 1).la (his.hs 1).de (his.hs 1).le (his.hs 1).sa (his.hs 1).fl (his.hs 1).ar (his.hs 1).dr (his.hs 1).pe (his.hs 1).ri, cSt (qs 2) cI (his.hs 2).se (his.hs 2).la (his.hs 2).de (his.hs 2).le (his.hs 2).sa (his.hs 2).fl (his.hs 2).ar (his.hs 2).dr (his.hs 2).pe (his.hs 2).ri, cSt (qs 3) cI (his.hs 3).se (his.hs 3).la (his.hs 3).de (his.hs 3).le (his.hs 3).sa (his.hs 3).fl (his.hs 3).ar (his.hs 3).dr (his.hs 3).pe (his.hs 3).ri, cSt (qs 4) cI (his.hs 4).se (his.hs 4).la (his.hs 4).de (his.hs 4).le (his.hs 4).sa (his.hs 4).fl (his.hs 4).ar (his.hs 4).dr (his.hs 4).pe (his.hs 4).ri, cSt (qs 5) cI (his.hs 5).se (his.hs 5).la (his.hs 5).de (his.hs 5).le (his.hs 5).sa (his.hs 5).fl (his.hs 5).ar (his.hs 5).dr (his.hs 5).pe (his.hs 5).ri])) (lv' := [(0, .ref (qx 0)), (1, .int x1), (2, .int x2)]) (st' := [.int r_1]) (pc' := 6) (ce' := 0) (sl' := 0) rfl rfl rfl rfl rfl rfl ?_
  refine gw_if_ne (pc' := 9) (tgt := 12) κ dX5_set_6 rfl (by decide) (fun hc_2 => ?_) (fun hc_2 => ?_)
  · have h := h.1 hc_2
    refine gw_iload_n (pc' := 13) κ dX5_set_12 rfl 2 rfl rfl ?_
    refine gw_gets (pc' := 16) κ dX5_set_13 rfl κ.2.2.2.1.1 tw_fl_X5_58 (fun t_3 hT_4 => ?_)
    refine gw_iload_n (pc' := 17) κ dX5_set_16 rfl 1 rfl rfl ?_
    obtain ⟨hb_5, h⟩ := h
    refine gw_tiald (pc' := 18) κ dX5_set_17 rfl hT_4 hb_5 ?_
    refine gw_gets (pc' := 21) κ dX5_set_18 rfl κ.2.2.2.1.2.1 tw_fl_X5_62 (fun t_6 hT_7 => ?_)
    refine gw_iload_n (pc' := 22) κ dX5_set_21 rfl 1 rfl rfl ?_
    obtain ⟨hb_8, h⟩ := h
    refine gw_tiald (pc' := 23) κ dX5_set_22 rfl hT_7 hb_8 ?_
    refine gb_callS (rest := []) κ (c_X5_isIn  x2 (g_least x1.toNatClampNeg) (g_most x1.toNatClampNeg) h) ⟨rfl, rfl, Nat.le_of_ble_eq_true rfl, Nat.le_of_ble_eq_true rfl⟩ tw_ml_X5_54 tw_st_X5_isIn tw_co_X5_isIn tw_in_X5 hy_X5_isIn rfl (Nat.le_of_ble_eq_true rfl) rfl dX5_set_23 [] rfl (by decide) (fun _ => Nat.le_of_ble_eq_true rfl) ⟨Nat.le_of_ble_eq_true rfl, Nat.le_of_ble_eq_true rfl⟩ (fun v u hv => ?_)
    obtain ⟨r_9, rfl, h⟩ := hv
    refine gw_nf (ws' := (wfl [cX qx qn qp qw qt qu qd qh ql, cSt qn cI now.se now.la now.de now.le now.sa now.fl now.ar now.dr now.pe now.ri, cPl qp cI pln.od pln.rd pln.vn pln.pn pln.ao pln.sr pln.sp pln.wt, cHi qh qs cR his.ol his.sz, cSt (qs 0) cI (his.hs 0).se (his.hs 0).la (his.hs 0).de (his.hs 0).le (his.hs 0).sa (his.hs 0).fl (his.hs 0).ar (his.hs 0).dr (his.hs 0).pe (his.hs 0).ri, cSt (qs 1) cI (his.hs 1).se (his.hs 1).la (his.hs 1).de (his.hs 1).le (his.hs 1).sa (his.hs 1).fl (his.hs 1).ar (his.hs 1).dr (his.hs 1).pe (his.hs 1).ri, cSt (qs 2) cI (his.hs 2).se (his.hs 2).la (his.hs 2).de (his.hs 2).le (his.hs 2).sa (his.hs 2).fl (his.hs 2).ar (his.hs 2).dr (his.hs 2).pe (his.hs 2).ri, cSt (qs 3) cI (his.hs 3).se (his.hs 3).la (his.hs 3).de (his.hs 3).le (his.hs 3).sa (his.hs 3).fl (his.hs 3).ar (his.hs 3).dr (his.hs 3).pe (his.hs 3).ri, cSt (qs 4) cI (his.hs 4).se (his.hs 4).la (his.hs 4).de (his.hs 4).le (his.hs 4).sa (his.hs 4).fl (his.hs 4).ar (his.hs 4).dr (his.hs 4).pe (his.hs 4).ri, cSt (qs 5) cI (his.hs 5).se (his.hs 5).la (his.hs 5).de (his.hs 5).le (his.hs 5).sa (his.hs 5).fl (his.hs 5).ar (his.hs 5).dr (his.hs 5).pe (his.hs 5).ri])) (lv' := [(0, .ref (qx 0)), (1, .int x1), (2, .int x2)]) (st' := [.int r_9]) (pc' := 26) (ce' := 0) (sl' := 0) rfl rfl rfl rfl rfl rfl ?_
    refine gw_if_ne (pc' := 29) (tgt := 32) κ dX5_set_26 rfl (by decide) (fun hc_10 => ?_) (fun hc_10 => ?_)
    · have h := h.1 hc_10
      refine gw_aload_n (pc' := 33) κ dX5_set_32 rfl 0 rfl rfl ?_
      refine gb_get (pc' := 36) (C := RX5) (T := TX5) (N := 8) κ dX5_set_33 rfl inX5 0 rfl rfl rfl 0 (by decide) tw_fl_X5_10 rfl ?_
      refine gb_get (pc' := 39) (C := RX3) (T := TX3) (N := 10) κ dX5_set_36 rfl inX3 1 rfl rfl rfl 0 (by decide) tw_fl_X5_65 rfl ?_
      refine gw_iload_n (pc' := 40) κ dX5_set_39 rfl 1 rfl rfl ?_
      obtain ⟨hb_11, h⟩ := h
      refine gb_iald (pc' := 41) κ dX5_set_40 rfl 1 1 rfl rfl hb_11 ?_
      refine gw_istore_n (pc' := 42) κ dX5_set_41 rfl rfl (by decide) (lv' := [(3, .int (now.se x1.toNatClampNeg)), (0, .ref (qx 0)), (1, .int x1), (2, .int x2)]) rfl ?_
      refine gw_aload_n (pc' := 43) κ dX5_set_42 rfl 1 rfl rfl ?_
      refine gb_get (pc' := 46) (C := RX5) (T := TX5) (N := 8) κ dX5_set_43 rfl inX5 0 rfl rfl rfl 6 (by decide) tw_fl_X5_46 rfl ?_
      refine gw_aload_n (pc' := 47) κ dX5_set_46 rfl 1 rfl rfl ?_
      refine gb_get (pc' := 50) (C := RX5) (T := TX5) (N := 8) κ dX5_set_47 rfl inX5 0 rfl rfl rfl 0 (by decide) tw_fl_X5_10 rfl ?_
      refine gb_callV (ci := 0) (qb := 3) (rest := []) κ (c_X0_record qh qn qs his now h) ⟨rfl, rfl, Nat.le_of_ble_eq_true rfl, Nat.le_of_ble_eq_true rfl⟩ tw_ml_X5_68 tw_im_X0_record tw_se_X0_record tw_co_X0_record tw_in_X0 hy_X0_record rfl rfl rfl rfl rfl (Nat.le_of_ble_eq_true rfl) rfl dX5_set_50 [3, 4, 5, 6, 7, 8, 9, 1] rfl (by decide) (fun _ => Nat.le_of_ble_eq_true rfl) ⟨Nat.le_of_ble_eq_true rfl, Nat.le_of_ble_eq_true rfl⟩ (fun v u hv => ?_)
      obtain ⟨rfl, h⟩ := hv
      obtain ⟨hs_12, ol_13, sz_14⟩ := u
      refine gw_nf (ws' := (wfl [cX qx qn qp qw qt qu qd qh ql, cSt qn cI now.se now.la now.de now.le now.sa now.fl now.ar now.dr now.pe now.ri, cPl qp cI pln.od pln.rd pln.vn pln.pn pln.ao pln.sr pln.sp pln.wt, cHi qh qs cR ol_13 sz_14, cSt (qs 0) cI (hs_12 0).se (hs_12 0).la (hs_12 0).de (hs_12 0).le (hs_12 0).sa (hs_12 0).fl (hs_12 0).ar (hs_12 0).dr (hs_12 0).pe (hs_12 0).ri, cSt (qs 1) cI (hs_12 1).se (hs_12 1).la (hs_12 1).de (hs_12 1).le (hs_12 1).sa (hs_12 1).fl (hs_12 1).ar (hs_12 1).dr (hs_12 1).pe (hs_12 1).ri, cSt (qs 2) cI (hs_12 2).se (hs_12 2).la (hs_12 2).de (hs_12 2).le (hs_12 2).sa (hs_12 2).fl (hs_12 2).ar (hs_12 2).dr (hs_12 2).pe (hs_12 2).ri, cSt (qs 3) cI (hs_12 3).se (hs_12 3).la (hs_12 3).de (hs_12 3).le (hs_12 3).sa (hs_12 3).fl (hs_12 3).ar (hs_12 3).dr (hs_12 3).pe (hs_12 3).ri, cSt (qs 4) cI (hs_12 4).se (hs_12 4).la (hs_12 4).de (hs_12 4).le (hs_12 4).sa (hs_12 4).fl (hs_12 4).ar (hs_12 4).dr (hs_12 4).pe (hs_12 4).ri, cSt (qs 5) cI (hs_12 5).se (hs_12 5).la (hs_12 5).de (hs_12 5).le (hs_12 5).sa (hs_12 5).fl (hs_12 5).ar (hs_12 5).dr (hs_12 5).pe (hs_12 5).ri])) (lv' := [(3, .int (now.se x1.toNatClampNeg)), (0, .ref (qx 0)), (1, .int x1), (2, .int x2)]) (st' := []) (pc' := 53) (ce' := 0) (sl' := 0) rfl rfl rfl rfl rfl rfl ?_
      refine gw_aload_n (pc' := 54) κ dX5_set_53 rfl 1 rfl rfl ?_
      refine gb_get (pc' := 57) (C := RX5) (T := TX5) (N := 8) κ dX5_set_54 rfl inX5 0 rfl rfl rfl 0 (by decide) tw_fl_X5_10 rfl ?_
      refine gb_get (pc' := 60) (C := RX3) (T := TX3) (N := 10) κ dX5_set_57 rfl inX3 1 rfl rfl rfl 0 (by decide) tw_fl_X5_65 rfl ?_
      refine gw_iload_n (pc' := 61) κ dX5_set_60 rfl 2 rfl rfl ?_
      refine gw_iload_n (pc' := 62) κ dX5_set_61 rfl 3 rfl rfl ?_
      obtain ⟨hb_15, h⟩ := h
      refine gb_iast (pc' := 63) (bs' := [cX qx qn qp qw qt qu qd qh ql, cSt qn cI (upd now.se x1.toNatClampNeg x2) now.la now.de now.le now.sa now.fl now.ar now.dr now.pe now.ri, cPl qp cI pln.od pln.rd pln.vn pln.pn pln.ao pln.sr pln.sp pln.wt, cHi qh qs cR ol_13 sz_14, cSt (qs 0) cI (hs_12 0).se (hs_12 0).la (hs_12 0).de (hs_12 0).le (hs_12 0).sa (hs_12 0).fl (hs_12 0).ar (hs_12 0).dr (hs_12 0).pe (hs_12 0).ri, cSt (qs 1) cI (hs_12 1).se (hs_12 1).la (hs_12 1).de (hs_12 1).le (hs_12 1).sa (hs_12 1).fl (hs_12 1).ar (hs_12 1).dr (hs_12 1).pe (hs_12 1).ri, cSt (qs 2) cI (hs_12 2).se (hs_12 2).la (hs_12 2).de (hs_12 2).le (hs_12 2).sa (hs_12 2).fl (hs_12 2).ar (hs_12 2).dr (hs_12 2).pe (hs_12 2).ri, cSt (qs 3) cI (hs_12 3).se (hs_12 3).la (hs_12 3).de (hs_12 3).le (hs_12 3).sa (hs_12 3).fl (hs_12 3).ar (hs_12 3).dr (hs_12 3).pe (hs_12 3).ri, cSt (qs 4) cI (hs_12 4).se (hs_12 4).la (hs_12 4).de (hs_12 4).le (hs_12 4).sa (hs_12 4).fl (hs_12 4).ar (hs_12 4).dr (hs_12 4).pe (hs_12 4).ri, cSt (qs 5) cI (hs_12 5).se (hs_12 5).la (hs_12 5).de (hs_12 5).le (hs_12 5).sa (hs_12 5).fl (hs_12 5).ar (hs_12 5).dr (hs_12 5).pe (hs_12 5).ri]) κ dX5_set_62 rfl 1 1 rfl rfl hb_15 rfl ?_
      refine gw_aload_n (pc' := 64) κ dX5_set_63 rfl 1 rfl rfl ?_
      refine gb_get (pc' := 67) (C := RX5) (T := TX5) (N := 8) κ dX5_set_64 rfl inX5 0 rfl rfl rfl 1 (by decide) tw_fl_X5_19 rfl ?_
      refine gw_aload_n (pc' := 68) κ dX5_set_67 rfl 1 rfl rfl ?_
      refine gb_get (pc' := 71) (C := RX5) (T := TX5) (N := 8) κ dX5_set_68 rfl inX5 0 rfl rfl rfl 0 (by decide) tw_fl_X5_10 rfl ?_
      refine gb_callV (ci := 2) (qb := 2) (rest := []) κ (c_X2_make qp qn pln (mkSt (upd now.se x1.toNatClampNeg x2) now.la now.de now.le now.sa now.fl now.ar now.dr now.pe now.ri) h) ⟨rfl, rfl, Nat.le_of_ble_eq_true rfl, Nat.le_of_ble_eq_true rfl⟩ tw_ml_X5_72 tw_im_X2_make tw_se_X2_make tw_co_X2_make tw_in_X2 hy_X2_make rfl rfl rfl rfl rfl (Nat.le_of_ble_eq_true rfl) rfl dX5_set_71 [2, 1] rfl (by decide) (fun _ => Nat.le_of_ble_eq_true rfl) ⟨Nat.le_of_ble_eq_true rfl, Nat.le_of_ble_eq_true rfl⟩ (fun v u hv => ?_)
      obtain ⟨rfl, h⟩ := hv
      obtain ⟨od_16, rd_17, vn_18, pn_19, ao_20, sr_21, sp_22, wt_23⟩ := u
      refine gw_nf (ws' := (wfl [cX qx qn qp qw qt qu qd qh ql, cSt qn cI (upd now.se x1.toNatClampNeg x2) now.la now.de now.le now.sa now.fl now.ar now.dr now.pe now.ri, cPl qp cI od_16 rd_17 vn_18 pn_19 ao_20 sr_21 sp_22 wt_23, cHi qh qs cR ol_13 sz_14, cSt (qs 0) cI (hs_12 0).se (hs_12 0).la (hs_12 0).de (hs_12 0).le (hs_12 0).sa (hs_12 0).fl (hs_12 0).ar (hs_12 0).dr (hs_12 0).pe (hs_12 0).ri, cSt (qs 1) cI (hs_12 1).se (hs_12 1).la (hs_12 1).de (hs_12 1).le (hs_12 1).sa (hs_12 1).fl (hs_12 1).ar (hs_12 1).dr (hs_12 1).pe (hs_12 1).ri, cSt (qs 2) cI (hs_12 2).se (hs_12 2).la (hs_12 2).de (hs_12 2).le (hs_12 2).sa (hs_12 2).fl (hs_12 2).ar (hs_12 2).dr (hs_12 2).pe (hs_12 2).ri, cSt (qs 3) cI (hs_12 3).se (hs_12 3).la (hs_12 3).de (hs_12 3).le (hs_12 3).sa (hs_12 3).fl (hs_12 3).ar (hs_12 3).dr (hs_12 3).pe (hs_12 3).ri, cSt (qs 4) cI (hs_12 4).se (hs_12 4).la (hs_12 4).de (hs_12 4).le (hs_12 4).sa (hs_12 4).fl (hs_12 4).ar (hs_12 4).dr (hs_12 4).pe (hs_12 4).ri, cSt (qs 5) cI (hs_12 5).se (hs_12 5).la (hs_12 5).de (hs_12 5).le (hs_12 5).sa (hs_12 5).fl (hs_12 5).ar (hs_12 5).dr (hs_12 5).pe (hs_12 5).ri])) (lv' := [(3, .int (now.se x1.toNatClampNeg)), (0, .ref (qx 0)), (1, .int x1), (2, .int x2)]) (st' := []) (pc' := 74) (ce' := 0) (sl' := 0) rfl rfl rfl rfl rfl rfl ?_
      refine gw_iload_n (pc' := 75) κ dX5_set_74 rfl 0 rfl rfl ?_
      exact gw_iret κ dX5_set_75 ((upd now.se x1.toNatClampNeg x2), od_16, rd_17, vn_18, pn_19, ao_20, sr_21, sp_22, wt_23, hs_12, ol_13, sz_14) rfl ⟨_, rfl, h⟩
    · have h := h.2 hc_10
      refine gw_bipush (pc' := 31) (v := -102) κ dX5_set_29 rfl (by decide) ?_
      exact gw_iret κ dX5_set_31 (now.se, pln.od, pln.rd, pln.vn, pln.pn, pln.ao, pln.sr, pln.sp, pln.wt, his.hs, his.ol, his.sz) rfl ⟨_, rfl, h⟩
  · have h := h.2 hc_2
    refine gw_bipush (pc' := 11) (v := -102) κ dX5_set_9 rfl (by decide) ?_
    exact gw_iret κ dX5_set_11 (now.se, pln.od, pln.rd, pln.vn, pln.pn, pln.ao, pln.sr, pln.sp, pln.wt, his.hs, his.ol, his.sz) rfl ⟨_, rfl, h⟩
theorem hy_X5_isFlight : g_hy yX5_isFlight 1 := by decide +kernel
set_option maxHeartbeats 4000000 in
set_option maxRecDepth 100000 in
theorem c_X5_isFlight {l : Launch} {D : va_G} {cI cR : ClassId}  {P : Int32 → Prop} (x0 : Int32) (h : wp_X5_isFlight P x0) : CT l D cI cR yX5_isFlight cX5_isFlight 1 (some .boolean) ({ frames := 1, cells := 0, slots := 0, locals := 22 } : Room) [.int x0] (wfl ([] : List va_W)) (fun _ : Unit => (wfl ([] : List va_W))) (pI (fun (r : Int32) (_ : Unit) => P r)) 0 0 := by
  refine ct_of RX5 rfl (by decide +kernel) (Nat.le_of_ble_eq_true rfl) (fun zp ze zs zm zb zt zc A hin κ => ?_)
  unfold wp_X5_isFlight at h
  refine gw_nf (lv' := [(0, .int x0)]) (pc' := 0) (st' := []) (ce' := 0) (sl' := 0) rfl rfl rfl rfl rfl rfl ?_
  refine gw_iload_n (pc' := 1) κ dX5_isFlight_0 rfl 0 rfl rfl ?_
  refine gw_iconst (pc' := 2) (v := 0) κ dX5_isFlight_1 rfl (by decide) ?_
  refine gw_iconst (pc' := 3) (v := 5) κ dX5_isFlight_2 rfl (by decide) ?_
  refine gb_callS (rest := []) κ (c_X5_isIn  x0 (0 : Int32) (5 : Int32) h) ⟨rfl, rfl, Nat.le_of_ble_eq_true rfl, Nat.le_of_ble_eq_true rfl⟩ tw_ml_X5_54 tw_st_X5_isIn tw_co_X5_isIn tw_in_X5 hy_X5_isIn rfl (Nat.le_of_ble_eq_true rfl) rfl dX5_isFlight_3 [] rfl (by decide) (fun _ => Nat.le_of_ble_eq_true rfl) ⟨Nat.le_of_ble_eq_true rfl, Nat.le_of_ble_eq_true rfl⟩ (fun v u hv => ?_)
  obtain ⟨r_1, rfl, h⟩ := hv
  refine gw_nf (ws' := (wfl ([] : List va_W))) (lv' := [(0, .int x0)]) (st' := [.int r_1]) (pc' := 6) (ce' := 0) (sl' := 0) rfl rfl rfl rfl rfl rfl ?_
  obtain ⟨hb9, h⟩ := h
  exact gw_zret κ dX5_isFlight_6 () rfl hb9 ⟨_, rfl, h⟩
theorem hy_X5_land : g_hy yX5_land 2 := by decide +kernel
set_option maxHeartbeats 4000000 in
set_option maxRecDepth 100000 in
theorem c_X5_land {l : Launch} {D : va_G} {cI cR : ClassId}  (qx : Nat → Nat) (qn : Nat → Nat) (qp : Nat → Nat) (qw : Nat → Nat) (qt : Nat → Nat) (qu : Nat → Nat) (qd : Nat → Nat) (qh : Nat → Nat) (ql : Nat → Nat) (qs : Nat → Nat → Nat) {P : Int32 → (Nat → Int32) → (Nat → Int32) → (Nat → Int32) → (Nat → Int32) → (Nat → Int32) → (Nat → Int32) → Int32 → Int32 → Int32 → (Nat → StT) → Int32 → Int32 → Prop} (now : StT) (pln : PlT) (his : HiT) (x1 : Int32) (x2 : Int32) (h : wp_X5_land P now pln his x1 x2) : CT l D cI cR yX5_land cX5_land 4 (some .int) ({ frames := 6, cells := 0, slots := 0, locals := 140 } : Room) [.ref (qx 0), .int x1, .int x2] (wfl [cX qx qn qp qw qt qu qd qh ql, cSt qn cI now.se now.la now.de now.le now.sa now.fl now.ar now.dr now.pe now.ri, cPl qp cI pln.od pln.rd pln.vn pln.pn pln.ao pln.sr pln.sp pln.wt, cHi qh qs cR his.ol his.sz, cSt (qs 0) cI (his.hs 0).se (his.hs 0).la (his.hs 0).de (his.hs 0).le (his.hs 0).sa (his.hs 0).fl (his.hs 0).ar (his.hs 0).dr (his.hs 0).pe (his.hs 0).ri, cSt (qs 1) cI (his.hs 1).se (his.hs 1).la (his.hs 1).de (his.hs 1).le (his.hs 1).sa (his.hs 1).fl (his.hs 1).ar (his.hs 1).dr (his.hs 1).pe (his.hs 1).ri, cSt (qs 2) cI (his.hs 2).se (his.hs 2).la (his.hs 2).de (his.hs 2).le (his.hs 2).sa (his.hs 2).fl (his.hs 2).ar (his.hs 2).dr (his.hs 2).pe (his.hs 2).ri, cSt (qs 3) cI (his.hs 3).se (his.hs 3).la (his.hs 3).de (his.hs 3).le (his.hs 3).sa (his.hs 3).fl (his.hs 3).ar (his.hs 3).dr (his.hs 3).pe (his.hs 3).ri, cSt (qs 4) cI (his.hs 4).se (his.hs 4).la (his.hs 4).de (his.hs 4).le (his.hs 4).sa (his.hs 4).fl (his.hs 4).ar (his.hs 4).dr (his.hs 4).pe (his.hs 4).ri, cSt (qs 5) cI (his.hs 5).se (his.hs 5).la (his.hs 5).de (his.hs 5).le (his.hs 5).sa (his.hs 5).fl (his.hs 5).ar (his.hs 5).dr (his.hs 5).pe (his.hs 5).ri]) (fun u : (Nat → Int32) × (Nat → Int32) × (Nat → Int32) × (Nat → Int32) × (Nat → Int32) × (Nat → Int32) × Int32 × Int32 × Int32 × (Nat → StT) × Int32 × Int32 => (wfl [cX qx qn qp qw qt qu qd qh ql, cSt qn cI now.se u.1 now.de now.le now.sa now.fl now.ar now.dr now.pe now.ri, cPl qp cI u.2.1 u.2.2.1 u.2.2.2.1 u.2.2.2.2.1 u.2.2.2.2.2.1 u.2.2.2.2.2.2.1 u.2.2.2.2.2.2.2.1 u.2.2.2.2.2.2.2.2.1, cHi qh qs cR u.2.2.2.2.2.2.2.2.2.2.1 u.2.2.2.2.2.2.2.2.2.2.2, cSt (qs 0) cI (u.2.2.2.2.2.2.2.2.2.1 0).se (u.2.2.2.2.2.2.2.2.2.1 0).la (u.2.2.2.2.2.2.2.2.2.1 0).de (u.2.2.2.2.2.2.2.2.2.1 0).le (u.2.2.2.2.2.2.2.2.2.1 0).sa (u.2.2.2.2.2.2.2.2.2.1 0).fl (u.2.2.2.2.2.2.2.2.2.1 0).ar (u.2.2.2.2.2.2.2.2.2.1 0).dr (u.2.2.2.2.2.2.2.2.2.1 0).pe (u.2.2.2.2.2.2.2.2.2.1 0).ri, cSt (qs 1) cI (u.2.2.2.2.2.2.2.2.2.1 1).se (u.2.2.2.2.2.2.2.2.2.1 1).la (u.2.2.2.2.2.2.2.2.2.1 1).de (u.2.2.2.2.2.2.2.2.2.1 1).le (u.2.2.2.2.2.2.2.2.2.1 1).sa (u.2.2.2.2.2.2.2.2.2.1 1).fl (u.2.2.2.2.2.2.2.2.2.1 1).ar (u.2.2.2.2.2.2.2.2.2.1 1).dr (u.2.2.2.2.2.2.2.2.2.1 1).pe (u.2.2.2.2.2.2.2.2.2.1 1).ri, cSt (qs 2) cI (u.2.2.2.2.2.2.2.2.2.1 2).se (u.2.2.2.2.2.2.2.2.2.1 2).la (u.2.2.2.2.2.2.2.2.2.1 2).de (u.2.2.2.2.2.2.2.2.2.1 2).le (u.2.2.2.2.2.2.2.2.2.1 2).sa (u.2.2.2.2.2.2.2.2.2.1 2).fl (u.2.2.2.2.2.2.2.2.2.1 2).ar (u.2.2.2.2.2.2.2.2.2.1 2).dr (u.2.2.2.2.2.2.2.2.2.1 2).pe (u.2.2.2.2.2.2.2.2.2.1 2).ri, cSt (qs 3) cI (u.2.2.2.2.2.2.2.2.2.1 3).se (u.2.2.2.2.2.2.2.2.2.1 3).la (u.2.2.2.2.2.2.2.2.2.1 3).de (u.2.2.2.2.2.2.2.2.2.1 3).le (u.2.2.2.2.2.2.2.2.2.1 3).sa (u.2.2.2.2.2.2.2.2.2.1 3).fl (u.2.2.2.2.2.2.2.2.2.1 3).ar (u.2.2.2.2.2.2.2.2.2.1 3).dr (u.2.2.2.2.2.2.2.2.2.1 3).pe (u.2.2.2.2.2.2.2.2.2.1 3).ri, cSt (qs 4) cI (u.2.2.2.2.2.2.2.2.2.1 4).se (u.2.2.2.2.2.2.2.2.2.1 4).la (u.2.2.2.2.2.2.2.2.2.1 4).de (u.2.2.2.2.2.2.2.2.2.1 4).le (u.2.2.2.2.2.2.2.2.2.1 4).sa (u.2.2.2.2.2.2.2.2.2.1 4).fl (u.2.2.2.2.2.2.2.2.2.1 4).ar (u.2.2.2.2.2.2.2.2.2.1 4).dr (u.2.2.2.2.2.2.2.2.2.1 4).pe (u.2.2.2.2.2.2.2.2.2.1 4).ri, cSt (qs 5) cI (u.2.2.2.2.2.2.2.2.2.1 5).se (u.2.2.2.2.2.2.2.2.2.1 5).la (u.2.2.2.2.2.2.2.2.2.1 5).de (u.2.2.2.2.2.2.2.2.2.1 5).le (u.2.2.2.2.2.2.2.2.2.1 5).sa (u.2.2.2.2.2.2.2.2.2.1 5).fl (u.2.2.2.2.2.2.2.2.2.1 5).ar (u.2.2.2.2.2.2.2.2.2.1 5).dr (u.2.2.2.2.2.2.2.2.2.1 5).pe (u.2.2.2.2.2.2.2.2.2.1 5).ri])) (pI (fun (r : Int32) (u : (Nat → Int32) × (Nat → Int32) × (Nat → Int32) × (Nat → Int32) × (Nat → Int32) × (Nat → Int32) × Int32 × Int32 × Int32 × (Nat → StT) × Int32 × Int32) => P r u.1 u.2.1 u.2.2.1 u.2.2.2.1 u.2.2.2.2.1 u.2.2.2.2.2.1 u.2.2.2.2.2.2.1 u.2.2.2.2.2.2.2.1 u.2.2.2.2.2.2.2.2.1 u.2.2.2.2.2.2.2.2.2.1 u.2.2.2.2.2.2.2.2.2.2.1 u.2.2.2.2.2.2.2.2.2.2.2)) 0 0 := by
  refine ct_of RX5 rfl (by decide +kernel) (Nat.le_of_ble_eq_true rfl) (fun zp ze zs zm zb zt zc A hin κ => ?_)
  unfold wp_X5_land at h
  refine gw_nf (lv' := [(0, .ref (qx 0)), (1, .int x1), (2, .int x2)]) (pc' := 0) (st' := []) (ce' := 0) (sl' := 0) rfl rfl rfl rfl rfl rfl ?_
  refine gw_iload_n (pc' := 1) κ dX5_land_0 rfl 1 rfl rfl ?_
  refine gb_callS (rest := []) κ (c_X5_isFlight  x1 h) ⟨rfl, rfl, Nat.le_of_ble_eq_true rfl, Nat.le_of_ble_eq_true rfl⟩ tw_ml_X5_75 tw_st_X5_isFlight tw_co_X5_isFlight tw_in_X5 hy_X5_isFlight rfl (Nat.le_of_ble_eq_true rfl) rfl dX5_land_1 [] rfl (by decide) (fun _ => Nat.le_of_ble_eq_true rfl) ⟨Nat.le_of_ble_eq_true rfl, Nat.le_of_ble_eq_true rfl⟩ (fun v u hv => ?_)
  obtain ⟨r_1, rfl, h⟩ := hv
  refine gw_nf (ws' := (wfl [cX qx qn qp qw qt qu qd qh ql, cSt qn cI now.se now.la now.de now.le now.sa now.fl now.ar now.dr now.pe now.ri, cPl qp cI pln.od pln.rd pln.vn pln.pn pln.ao pln.sr pln.sp pln.wt, cHi qh qs cR his.ol his.sz, cSt (qs 0) cI (his.hs 0).se (his.hs 0).la (his.hs 0).de (his.hs 0).le (his.hs 0).sa (his.hs 0).fl (his.hs 0).ar (his.hs 0).dr (his.hs 0).pe (his.hs 0).ri, cSt (qs 1) cI (his.hs 1).se (his.hs 1).la (his.hs 1).de (his.hs 1).le (his.hs 1).sa (his.hs 1).fl (his.hs 1).ar (his.hs 1).dr (his.hs 1).pe (his.hs 1).ri, cSt (qs 2) cI (his.hs 2).se (his.hs 2).la (his.hs 2).de (his.hs 2).le (his.hs 2).sa (his.hs 2).fl (his.hs 2).ar (his.hs 2).dr (his.hs 2).pe (his.hs 2).ri, cSt (qs 3) cI (his.hs 3).se (his.hs 3).la (his.hs 3).de (his.hs 3).le (his.hs 3).sa (his.hs 3).fl (his.hs 3).ar (his.hs 3).dr (his.hs 3).pe (his.hs 3).ri, cSt (qs 4) cI (his.hs 4).se (his.hs 4).la (his.hs 4).de (his.hs 4).le (his.hs 4).sa (his.hs 4).fl (his.hs 4).ar (his.hs 4).dr (his.hs 4).pe (his.hs 4).ri, cSt (qs 5) cI (his.hs 5).se (his.hs 5).la (his.hs 5).de (his.hs 5).le (his.hs 5).sa (his.hs 5).fl (his.hs 5).ar (his.hs 5).dr (his.hs 5).pe (his.hs 5).ri])) (lv' := [(0, .ref (qx 0)), (1, .int x1), (2, .int x2)]) (st' := [.int r_1]) (pc' := 4) (ce' := 0) (sl' := 0) rfl rfl rfl rfl rfl rfl ?_
  refine gw_if_ne (pc' := 7) (tgt := 10) κ dX5_land_4 rfl (by decide) (fun hc_2 => ?_) (fun hc_2 => ?_)
  · have h := h.1 hc_2
    refine gw_iload_n (pc' := 11) κ dX5_land_10 rfl 2 rfl rfl ?_
    refine gw_iconst (pc' := 12) (v := 0) κ dX5_land_11 rfl (by decide) ?_
    refine gw_sipush (pc' := 15) (v := 1200) κ dX5_land_12 rfl (by decide) ?_
    refine gb_callS (rest := []) κ (c_X5_isIn  x2 (0 : Int32) (1200 : Int32) h) ⟨rfl, rfl, Nat.le_of_ble_eq_true rfl, Nat.le_of_ble_eq_true rfl⟩ tw_ml_X5_54 tw_st_X5_isIn tw_co_X5_isIn tw_in_X5 hy_X5_isIn rfl (Nat.le_of_ble_eq_true rfl) rfl dX5_land_15 [] rfl (by decide) (fun _ => Nat.le_of_ble_eq_true rfl) ⟨Nat.le_of_ble_eq_true rfl, Nat.le_of_ble_eq_true rfl⟩ (fun v u hv => ?_)
    obtain ⟨r_3, rfl, h⟩ := hv
    refine gw_nf (ws' := (wfl [cX qx qn qp qw qt qu qd qh ql, cSt qn cI now.se now.la now.de now.le now.sa now.fl now.ar now.dr now.pe now.ri, cPl qp cI pln.od pln.rd pln.vn pln.pn pln.ao pln.sr pln.sp pln.wt, cHi qh qs cR his.ol his.sz, cSt (qs 0) cI (his.hs 0).se (his.hs 0).la (his.hs 0).de (his.hs 0).le (his.hs 0).sa (his.hs 0).fl (his.hs 0).ar (his.hs 0).dr (his.hs 0).pe (his.hs 0).ri, cSt (qs 1) cI (his.hs 1).se (his.hs 1).la (his.hs 1).de (his.hs 1).le (his.hs 1).sa (his.hs 1).fl (his.hs 1).ar (his.hs 1).dr (his.hs 1).pe (his.hs 1).ri, cSt (qs 2) cI (his.hs 2).se (his.hs 2).la (his.hs 2).de (his.hs 2).le (his.hs 2).sa (his.hs 2).fl (his.hs 2).ar (his.hs 2).dr (his.hs 2).pe (his.hs 2).ri, cSt (qs 3) cI (his.hs 3).se (his.hs 3).la (his.hs 3).de (his.hs 3).le (his.hs 3).sa (his.hs 3).fl (his.hs 3).ar (his.hs 3).dr (his.hs 3).pe (his.hs 3).ri, cSt (qs 4) cI (his.hs 4).se (his.hs 4).la (his.hs 4).de (his.hs 4).le (his.hs 4).sa (his.hs 4).fl (his.hs 4).ar (his.hs 4).dr (his.hs 4).pe (his.hs 4).ri, cSt (qs 5) cI (his.hs 5).se (his.hs 5).la (his.hs 5).de (his.hs 5).le (his.hs 5).sa (his.hs 5).fl (his.hs 5).ar (his.hs 5).dr (his.hs 5).pe (his.hs 5).ri])) (lv' := [(0, .ref (qx 0)), (1, .int x1), (2, .int x2)]) (st' := [.int r_3]) (pc' := 18) (ce' := 0) (sl' := 0) rfl rfl rfl rfl rfl rfl ?_
    refine gw_if_ne (pc' := 21) (tgt := 24) κ dX5_land_18 rfl (by decide) (fun hc_4 => ?_) (fun hc_4 => ?_)
    · have h := h.1 hc_4
      refine gw_aload_n (pc' := 25) κ dX5_land_24 rfl 0 rfl rfl ?_
      refine gb_get (pc' := 28) (C := RX5) (T := TX5) (N := 8) κ dX5_land_25 rfl inX5 0 rfl rfl rfl 0 (by decide) tw_fl_X5_10 rfl ?_
      refine gb_get (pc' := 31) (C := RX3) (T := TX3) (N := 10) κ dX5_land_28 rfl inX3 1 rfl rfl rfl 1 (by decide) tw_fl_X5_79 rfl ?_
      refine gw_iload_n (pc' := 32) κ dX5_land_31 rfl 1 rfl rfl ?_
      obtain ⟨hb_5, h⟩ := h
      refine gb_iald (pc' := 33) κ dX5_land_32 rfl 1 2 rfl rfl hb_5 ?_
      refine gw_istore_n (pc' := 34) κ dX5_land_33 rfl rfl (by decide) (lv' := [(3, .int (now.la x1.toNatClampNeg)), (0, .ref (qx 0)), (1, .int x1), (2, .int x2)]) rfl ?_
      refine gw_aload_n (pc' := 35) κ dX5_land_34 rfl 1 rfl rfl ?_
      refine gb_get (pc' := 38) (C := RX5) (T := TX5) (N := 8) κ dX5_land_35 rfl inX5 0 rfl rfl rfl 6 (by decide) tw_fl_X5_46 rfl ?_
      refine gw_aload_n (pc' := 39) κ dX5_land_38 rfl 1 rfl rfl ?_
      refine gb_get (pc' := 42) (C := RX5) (T := TX5) (N := 8) κ dX5_land_39 rfl inX5 0 rfl rfl rfl 0 (by decide) tw_fl_X5_10 rfl ?_
      refine gb_callV (ci := 0) (qb := 3) (rest := []) κ (c_X0_record qh qn qs his now h) ⟨rfl, rfl, Nat.le_of_ble_eq_true rfl, Nat.le_of_ble_eq_true rfl⟩ tw_ml_X5_68 tw_im_X0_record tw_se_X0_record tw_co_X0_record tw_in_X0 hy_X0_record rfl rfl rfl rfl rfl (Nat.le_of_ble_eq_true rfl) rfl dX5_land_42 [3, 4, 5, 6, 7, 8, 9, 1] rfl (by decide) (fun _ => Nat.le_of_ble_eq_true rfl) ⟨Nat.le_of_ble_eq_true rfl, Nat.le_of_ble_eq_true rfl⟩ (fun v u hv => ?_)
      obtain ⟨rfl, h⟩ := hv
      obtain ⟨hs_6, ol_7, sz_8⟩ := u
      refine gw_nf (ws' := (wfl [cX qx qn qp qw qt qu qd qh ql, cSt qn cI now.se now.la now.de now.le now.sa now.fl now.ar now.dr now.pe now.ri, cPl qp cI pln.od pln.rd pln.vn pln.pn pln.ao pln.sr pln.sp pln.wt, cHi qh qs cR ol_7 sz_8, cSt (qs 0) cI (hs_6 0).se (hs_6 0).la (hs_6 0).de (hs_6 0).le (hs_6 0).sa (hs_6 0).fl (hs_6 0).ar (hs_6 0).dr (hs_6 0).pe (hs_6 0).ri, cSt (qs 1) cI (hs_6 1).se (hs_6 1).la (hs_6 1).de (hs_6 1).le (hs_6 1).sa (hs_6 1).fl (hs_6 1).ar (hs_6 1).dr (hs_6 1).pe (hs_6 1).ri, cSt (qs 2) cI (hs_6 2).se (hs_6 2).la (hs_6 2).de (hs_6 2).le (hs_6 2).sa (hs_6 2).fl (hs_6 2).ar (hs_6 2).dr (hs_6 2).pe (hs_6 2).ri, cSt (qs 3) cI (hs_6 3).se (hs_6 3).la (hs_6 3).de (hs_6 3).le (hs_6 3).sa (hs_6 3).fl (hs_6 3).ar (hs_6 3).dr (hs_6 3).pe (hs_6 3).ri, cSt (qs 4) cI (hs_6 4).se (hs_6 4).la (hs_6 4).de (hs_6 4).le (hs_6 4).sa (hs_6 4).fl (hs_6 4).ar (hs_6 4).dr (hs_6 4).pe (hs_6 4).ri, cSt (qs 5) cI (hs_6 5).se (hs_6 5).la (hs_6 5).de (hs_6 5).le (hs_6 5).sa (hs_6 5).fl (hs_6 5).ar (hs_6 5).dr (hs_6 5).pe (hs_6 5).ri])) (lv' := [(3, .int (now.la x1.toNatClampNeg)), (0, .ref (qx 0)), (1, .int x1), (2, .int x2)]) (st' := []) (pc' := 45) (ce' := 0) (sl' := 0) rfl rfl rfl rfl rfl rfl ?_
      refine gw_aload_n (pc' := 46) κ dX5_land_45 rfl 1 rfl rfl ?_
      refine gb_get (pc' := 49) (C := RX5) (T := TX5) (N := 8) κ dX5_land_46 rfl inX5 0 rfl rfl rfl 0 (by decide) tw_fl_X5_10 rfl ?_
      refine gb_get (pc' := 52) (C := RX3) (T := TX3) (N := 10) κ dX5_land_49 rfl inX3 1 rfl rfl rfl 1 (by decide) tw_fl_X5_79 rfl ?_
      refine gw_iload_n (pc' := 53) κ dX5_land_52 rfl 2 rfl rfl ?_
      refine gw_iload_n (pc' := 54) κ dX5_land_53 rfl 3 rfl rfl ?_
      obtain ⟨hb_9, h⟩ := h
      refine gb_iast (pc' := 55) (bs' := [cX qx qn qp qw qt qu qd qh ql, cSt qn cI now.se (upd now.la x1.toNatClampNeg x2) now.de now.le now.sa now.fl now.ar now.dr now.pe now.ri, cPl qp cI pln.od pln.rd pln.vn pln.pn pln.ao pln.sr pln.sp pln.wt, cHi qh qs cR ol_7 sz_8, cSt (qs 0) cI (hs_6 0).se (hs_6 0).la (hs_6 0).de (hs_6 0).le (hs_6 0).sa (hs_6 0).fl (hs_6 0).ar (hs_6 0).dr (hs_6 0).pe (hs_6 0).ri, cSt (qs 1) cI (hs_6 1).se (hs_6 1).la (hs_6 1).de (hs_6 1).le (hs_6 1).sa (hs_6 1).fl (hs_6 1).ar (hs_6 1).dr (hs_6 1).pe (hs_6 1).ri, cSt (qs 2) cI (hs_6 2).se (hs_6 2).la (hs_6 2).de (hs_6 2).le (hs_6 2).sa (hs_6 2).fl (hs_6 2).ar (hs_6 2).dr (hs_6 2).pe (hs_6 2).ri, cSt (qs 3) cI (hs_6 3).se (hs_6 3).la (hs_6 3).de (hs_6 3).le (hs_6 3).sa (hs_6 3).fl (hs_6 3).ar (hs_6 3).dr (hs_6 3).pe (hs_6 3).ri, cSt (qs 4) cI (hs_6 4).se (hs_6 4).la (hs_6 4).de (hs_6 4).le (hs_6 4).sa (hs_6 4).fl (hs_6 4).ar (hs_6 4).dr (hs_6 4).pe (hs_6 4).ri, cSt (qs 5) cI (hs_6 5).se (hs_6 5).la (hs_6 5).de (hs_6 5).le (hs_6 5).sa (hs_6 5).fl (hs_6 5).ar (hs_6 5).dr (hs_6 5).pe (hs_6 5).ri]) κ dX5_land_54 rfl 1 2 rfl rfl hb_9 rfl ?_
      refine gw_aload_n (pc' := 56) κ dX5_land_55 rfl 1 rfl rfl ?_
      refine gb_get (pc' := 59) (C := RX5) (T := TX5) (N := 8) κ dX5_land_56 rfl inX5 0 rfl rfl rfl 1 (by decide) tw_fl_X5_19 rfl ?_
      refine gw_aload_n (pc' := 60) κ dX5_land_59 rfl 1 rfl rfl ?_
      refine gb_get (pc' := 63) (C := RX5) (T := TX5) (N := 8) κ dX5_land_60 rfl inX5 0 rfl rfl rfl 0 (by decide) tw_fl_X5_10 rfl ?_
      refine gb_callV (ci := 2) (qb := 2) (rest := []) κ (c_X2_make qp qn pln (mkSt now.se (upd now.la x1.toNatClampNeg x2) now.de now.le now.sa now.fl now.ar now.dr now.pe now.ri) h) ⟨rfl, rfl, Nat.le_of_ble_eq_true rfl, Nat.le_of_ble_eq_true rfl⟩ tw_ml_X5_72 tw_im_X2_make tw_se_X2_make tw_co_X2_make tw_in_X2 hy_X2_make rfl rfl rfl rfl rfl (Nat.le_of_ble_eq_true rfl) rfl dX5_land_63 [2, 1] rfl (by decide) (fun _ => Nat.le_of_ble_eq_true rfl) ⟨Nat.le_of_ble_eq_true rfl, Nat.le_of_ble_eq_true rfl⟩ (fun v u hv => ?_)
      obtain ⟨rfl, h⟩ := hv
      obtain ⟨od_10, rd_11, vn_12, pn_13, ao_14, sr_15, sp_16, wt_17⟩ := u
      refine gw_nf (ws' := (wfl [cX qx qn qp qw qt qu qd qh ql, cSt qn cI now.se (upd now.la x1.toNatClampNeg x2) now.de now.le now.sa now.fl now.ar now.dr now.pe now.ri, cPl qp cI od_10 rd_11 vn_12 pn_13 ao_14 sr_15 sp_16 wt_17, cHi qh qs cR ol_7 sz_8, cSt (qs 0) cI (hs_6 0).se (hs_6 0).la (hs_6 0).de (hs_6 0).le (hs_6 0).sa (hs_6 0).fl (hs_6 0).ar (hs_6 0).dr (hs_6 0).pe (hs_6 0).ri, cSt (qs 1) cI (hs_6 1).se (hs_6 1).la (hs_6 1).de (hs_6 1).le (hs_6 1).sa (hs_6 1).fl (hs_6 1).ar (hs_6 1).dr (hs_6 1).pe (hs_6 1).ri, cSt (qs 2) cI (hs_6 2).se (hs_6 2).la (hs_6 2).de (hs_6 2).le (hs_6 2).sa (hs_6 2).fl (hs_6 2).ar (hs_6 2).dr (hs_6 2).pe (hs_6 2).ri, cSt (qs 3) cI (hs_6 3).se (hs_6 3).la (hs_6 3).de (hs_6 3).le (hs_6 3).sa (hs_6 3).fl (hs_6 3).ar (hs_6 3).dr (hs_6 3).pe (hs_6 3).ri, cSt (qs 4) cI (hs_6 4).se (hs_6 4).la (hs_6 4).de (hs_6 4).le (hs_6 4).sa (hs_6 4).fl (hs_6 4).ar (hs_6 4).dr (hs_6 4).pe (hs_6 4).ri, cSt (qs 5) cI (hs_6 5).se (hs_6 5).la (hs_6 5).de (hs_6 5).le (hs_6 5).sa (hs_6 5).fl (hs_6 5).ar (hs_6 5).dr (hs_6 5).pe (hs_6 5).ri])) (lv' := [(3, .int (now.la x1.toNatClampNeg)), (0, .ref (qx 0)), (1, .int x1), (2, .int x2)]) (st' := []) (pc' := 66) (ce' := 0) (sl' := 0) rfl rfl rfl rfl rfl rfl ?_
      refine gw_iload_n (pc' := 67) κ dX5_land_66 rfl 0 rfl rfl ?_
      exact gw_iret κ dX5_land_67 ((upd now.la x1.toNatClampNeg x2), od_10, rd_11, vn_12, pn_13, ao_14, sr_15, sp_16, wt_17, hs_6, ol_7, sz_8) rfl ⟨_, rfl, h⟩
    · have h := h.2 hc_4
      refine gw_bipush (pc' := 23) (v := -102) κ dX5_land_21 rfl (by decide) ?_
      exact gw_iret κ dX5_land_23 (now.la, pln.od, pln.rd, pln.vn, pln.pn, pln.ao, pln.sr, pln.sp, pln.wt, his.hs, his.ol, his.sz) rfl ⟨_, rfl, h⟩
  · have h := h.2 hc_2
    refine gw_bipush (pc' := 9) (v := -101) κ dX5_land_7 rfl (by decide) ?_
    exact gw_iret κ dX5_land_9 (now.la, pln.od, pln.rd, pln.vn, pln.pn, pln.ao, pln.sr, pln.sp, pln.wt, his.hs, his.ol, his.sz) rfl ⟨_, rfl, h⟩
theorem hy_X5_isDelay : g_hy yX5_isDelay 1 := by decide +kernel
set_option maxHeartbeats 4000000 in
set_option maxRecDepth 100000 in
theorem c_X5_isDelay {l : Launch} {D : va_G} {cI cR : ClassId}  {P : Int32 → Prop} (x0 : Int32) (h : wp_X5_isDelay P x0) : CT l D cI cR yX5_isDelay cX5_isDelay 1 (some .boolean) ({ frames := 1, cells := 0, slots := 0, locals := 22 } : Room) [.int x0] (wfl ([] : List va_W)) (fun _ : Unit => (wfl ([] : List va_W))) (pI (fun (r : Int32) (_ : Unit) => P r)) 0 0 := by
  refine ct_of RX5 rfl (by decide +kernel) (Nat.le_of_ble_eq_true rfl) (fun zp ze zs zm zb zt zc A hin κ => ?_)
  unfold wp_X5_isDelay at h
  refine gw_nf (lv' := [(0, .int x0)]) (pc' := 0) (st' := []) (ce' := 0) (sl' := 0) rfl rfl rfl rfl rfl rfl ?_
  refine gw_iload_n (pc' := 1) κ dX5_isDelay_0 rfl 0 rfl rfl ?_
  refine gw_bipush (pc' := 3) (v := -30) κ dX5_isDelay_1 rfl (by decide) ?_
  refine gw_sipush (pc' := 6) (v := 300) κ dX5_isDelay_3 rfl (by decide) ?_
  refine gb_callS (rest := []) κ (c_X5_isIn  x0 (-30 : Int32) (300 : Int32) h) ⟨rfl, rfl, Nat.le_of_ble_eq_true rfl, Nat.le_of_ble_eq_true rfl⟩ tw_ml_X5_54 tw_st_X5_isIn tw_co_X5_isIn tw_in_X5 hy_X5_isIn rfl (Nat.le_of_ble_eq_true rfl) rfl dX5_isDelay_6 [] rfl (by decide) (fun _ => Nat.le_of_ble_eq_true rfl) ⟨Nat.le_of_ble_eq_true rfl, Nat.le_of_ble_eq_true rfl⟩ (fun v u hv => ?_)
  obtain ⟨r_1, rfl, h⟩ := hv
  refine gw_nf (ws' := (wfl ([] : List va_W))) (lv' := [(0, .int x0)]) (st' := [.int r_1]) (pc' := 9) (ce' := 0) (sl' := 0) rfl rfl rfl rfl rfl rfl ?_
  obtain ⟨hb9, h⟩ := h
  exact gw_zret κ dX5_isDelay_9 () rfl hb9 ⟨_, rfl, h⟩
theorem hy_X5_delay : g_hy yX5_delay 2 := by decide +kernel
set_option maxHeartbeats 4000000 in
set_option maxRecDepth 100000 in
theorem c_X5_delay {l : Launch} {D : va_G} {cI cR : ClassId}  (qx : Nat → Nat) (qn : Nat → Nat) (qp : Nat → Nat) (qw : Nat → Nat) (qt : Nat → Nat) (qu : Nat → Nat) (qd : Nat → Nat) (qh : Nat → Nat) (ql : Nat → Nat) (qs : Nat → Nat → Nat) {P : Int32 → (Nat → Int32) → (Nat → Int32) → (Nat → Int32) → (Nat → Int32) → (Nat → Int32) → (Nat → Int32) → Int32 → Int32 → Int32 → (Nat → StT) → Int32 → Int32 → Prop} (now : StT) (pln : PlT) (his : HiT) (x1 : Int32) (x2 : Int32) (h : wp_X5_delay P now pln his x1 x2) : CT l D cI cR yX5_delay cX5_delay 3 (some .int) ({ frames := 6, cells := 0, slots := 0, locals := 140 } : Room) [.ref (qx 0), .int x1, .int x2] (wfl [cX qx qn qp qw qt qu qd qh ql, cSt qn cI now.se now.la now.de now.le now.sa now.fl now.ar now.dr now.pe now.ri, cPl qp cI pln.od pln.rd pln.vn pln.pn pln.ao pln.sr pln.sp pln.wt, cHi qh qs cR his.ol his.sz, cSt (qs 0) cI (his.hs 0).se (his.hs 0).la (his.hs 0).de (his.hs 0).le (his.hs 0).sa (his.hs 0).fl (his.hs 0).ar (his.hs 0).dr (his.hs 0).pe (his.hs 0).ri, cSt (qs 1) cI (his.hs 1).se (his.hs 1).la (his.hs 1).de (his.hs 1).le (his.hs 1).sa (his.hs 1).fl (his.hs 1).ar (his.hs 1).dr (his.hs 1).pe (his.hs 1).ri, cSt (qs 2) cI (his.hs 2).se (his.hs 2).la (his.hs 2).de (his.hs 2).le (his.hs 2).sa (his.hs 2).fl (his.hs 2).ar (his.hs 2).dr (his.hs 2).pe (his.hs 2).ri, cSt (qs 3) cI (his.hs 3).se (his.hs 3).la (his.hs 3).de (his.hs 3).le (his.hs 3).sa (his.hs 3).fl (his.hs 3).ar (his.hs 3).dr (his.hs 3).pe (his.hs 3).ri, cSt (qs 4) cI (his.hs 4).se (his.hs 4).la (his.hs 4).de (his.hs 4).le (his.hs 4).sa (his.hs 4).fl (his.hs 4).ar (his.hs 4).dr (his.hs 4).pe (his.hs 4).ri, cSt (qs 5) cI (his.hs 5).se (his.hs 5).la (his.hs 5).de (his.hs 5).le (his.hs 5).sa (his.hs 5).fl (his.hs 5).ar (his.hs 5).dr (his.hs 5).pe (his.hs 5).ri]) (fun u : (Nat → Int32) × (Nat → Int32) × (Nat → Int32) × (Nat → Int32) × (Nat → Int32) × (Nat → Int32) × Int32 × Int32 × Int32 × (Nat → StT) × Int32 × Int32 => (wfl [cX qx qn qp qw qt qu qd qh ql, cSt qn cI now.se now.la u.1 now.le now.sa now.fl now.ar now.dr now.pe now.ri, cPl qp cI u.2.1 u.2.2.1 u.2.2.2.1 u.2.2.2.2.1 u.2.2.2.2.2.1 u.2.2.2.2.2.2.1 u.2.2.2.2.2.2.2.1 u.2.2.2.2.2.2.2.2.1, cHi qh qs cR u.2.2.2.2.2.2.2.2.2.2.1 u.2.2.2.2.2.2.2.2.2.2.2, cSt (qs 0) cI (u.2.2.2.2.2.2.2.2.2.1 0).se (u.2.2.2.2.2.2.2.2.2.1 0).la (u.2.2.2.2.2.2.2.2.2.1 0).de (u.2.2.2.2.2.2.2.2.2.1 0).le (u.2.2.2.2.2.2.2.2.2.1 0).sa (u.2.2.2.2.2.2.2.2.2.1 0).fl (u.2.2.2.2.2.2.2.2.2.1 0).ar (u.2.2.2.2.2.2.2.2.2.1 0).dr (u.2.2.2.2.2.2.2.2.2.1 0).pe (u.2.2.2.2.2.2.2.2.2.1 0).ri, cSt (qs 1) cI (u.2.2.2.2.2.2.2.2.2.1 1).se (u.2.2.2.2.2.2.2.2.2.1 1).la (u.2.2.2.2.2.2.2.2.2.1 1).de (u.2.2.2.2.2.2.2.2.2.1 1).le (u.2.2.2.2.2.2.2.2.2.1 1).sa (u.2.2.2.2.2.2.2.2.2.1 1).fl (u.2.2.2.2.2.2.2.2.2.1 1).ar (u.2.2.2.2.2.2.2.2.2.1 1).dr (u.2.2.2.2.2.2.2.2.2.1 1).pe (u.2.2.2.2.2.2.2.2.2.1 1).ri, cSt (qs 2) cI (u.2.2.2.2.2.2.2.2.2.1 2).se (u.2.2.2.2.2.2.2.2.2.1 2).la (u.2.2.2.2.2.2.2.2.2.1 2).de (u.2.2.2.2.2.2.2.2.2.1 2).le (u.2.2.2.2.2.2.2.2.2.1 2).sa (u.2.2.2.2.2.2.2.2.2.1 2).fl (u.2.2.2.2.2.2.2.2.2.1 2).ar (u.2.2.2.2.2.2.2.2.2.1 2).dr (u.2.2.2.2.2.2.2.2.2.1 2).pe (u.2.2.2.2.2.2.2.2.2.1 2).ri, cSt (qs 3) cI (u.2.2.2.2.2.2.2.2.2.1 3).se (u.2.2.2.2.2.2.2.2.2.1 3).la (u.2.2.2.2.2.2.2.2.2.1 3).de (u.2.2.2.2.2.2.2.2.2.1 3).le (u.2.2.2.2.2.2.2.2.2.1 3).sa (u.2.2.2.2.2.2.2.2.2.1 3).fl (u.2.2.2.2.2.2.2.2.2.1 3).ar (u.2.2.2.2.2.2.2.2.2.1 3).dr (u.2.2.2.2.2.2.2.2.2.1 3).pe (u.2.2.2.2.2.2.2.2.2.1 3).ri, cSt (qs 4) cI (u.2.2.2.2.2.2.2.2.2.1 4).se (u.2.2.2.2.2.2.2.2.2.1 4).la (u.2.2.2.2.2.2.2.2.2.1 4).de (u.2.2.2.2.2.2.2.2.2.1 4).le (u.2.2.2.2.2.2.2.2.2.1 4).sa (u.2.2.2.2.2.2.2.2.2.1 4).fl (u.2.2.2.2.2.2.2.2.2.1 4).ar (u.2.2.2.2.2.2.2.2.2.1 4).dr (u.2.2.2.2.2.2.2.2.2.1 4).pe (u.2.2.2.2.2.2.2.2.2.1 4).ri, cSt (qs 5) cI (u.2.2.2.2.2.2.2.2.2.1 5).se (u.2.2.2.2.2.2.2.2.2.1 5).la (u.2.2.2.2.2.2.2.2.2.1 5).de (u.2.2.2.2.2.2.2.2.2.1 5).le (u.2.2.2.2.2.2.2.2.2.1 5).sa (u.2.2.2.2.2.2.2.2.2.1 5).fl (u.2.2.2.2.2.2.2.2.2.1 5).ar (u.2.2.2.2.2.2.2.2.2.1 5).dr (u.2.2.2.2.2.2.2.2.2.1 5).pe (u.2.2.2.2.2.2.2.2.2.1 5).ri])) (pI (fun (r : Int32) (u : (Nat → Int32) × (Nat → Int32) × (Nat → Int32) × (Nat → Int32) × (Nat → Int32) × (Nat → Int32) × Int32 × Int32 × Int32 × (Nat → StT) × Int32 × Int32) => P r u.1 u.2.1 u.2.2.1 u.2.2.2.1 u.2.2.2.2.1 u.2.2.2.2.2.1 u.2.2.2.2.2.2.1 u.2.2.2.2.2.2.2.1 u.2.2.2.2.2.2.2.2.1 u.2.2.2.2.2.2.2.2.2.1 u.2.2.2.2.2.2.2.2.2.2.1 u.2.2.2.2.2.2.2.2.2.2.2)) 0 0 := by
  refine ct_of RX5 rfl (by decide +kernel) (Nat.le_of_ble_eq_true rfl) (fun zp ze zs zm zb zt zc A hin κ => ?_)
  unfold wp_X5_delay at h
  refine gw_nf (lv' := [(0, .ref (qx 0)), (1, .int x1), (2, .int x2)]) (pc' := 0) (st' := []) (ce' := 0) (sl' := 0) rfl rfl rfl rfl rfl rfl ?_
  refine gw_iload_n (pc' := 1) κ dX5_delay_0 rfl 1 rfl rfl ?_
  refine gb_callS (rest := []) κ (c_X5_isFlight  x1 h) ⟨rfl, rfl, Nat.le_of_ble_eq_true rfl, Nat.le_of_ble_eq_true rfl⟩ tw_ml_X5_75 tw_st_X5_isFlight tw_co_X5_isFlight tw_in_X5 hy_X5_isFlight rfl (Nat.le_of_ble_eq_true rfl) rfl dX5_delay_1 [] rfl (by decide) (fun _ => Nat.le_of_ble_eq_true rfl) ⟨Nat.le_of_ble_eq_true rfl, Nat.le_of_ble_eq_true rfl⟩ (fun v u hv => ?_)
  obtain ⟨r_1, rfl, h⟩ := hv
  refine gw_nf (ws' := (wfl [cX qx qn qp qw qt qu qd qh ql, cSt qn cI now.se now.la now.de now.le now.sa now.fl now.ar now.dr now.pe now.ri, cPl qp cI pln.od pln.rd pln.vn pln.pn pln.ao pln.sr pln.sp pln.wt, cHi qh qs cR his.ol his.sz, cSt (qs 0) cI (his.hs 0).se (his.hs 0).la (his.hs 0).de (his.hs 0).le (his.hs 0).sa (his.hs 0).fl (his.hs 0).ar (his.hs 0).dr (his.hs 0).pe (his.hs 0).ri, cSt (qs 1) cI (his.hs 1).se (his.hs 1).la (his.hs 1).de (his.hs 1).le (his.hs 1).sa (his.hs 1).fl (his.hs 1).ar (his.hs 1).dr (his.hs 1).pe (his.hs 1).ri, cSt (qs 2) cI (his.hs 2).se (his.hs 2).la (his.hs 2).de (his.hs 2).le (his.hs 2).sa (his.hs 2).fl (his.hs 2).ar (his.hs 2).dr (his.hs 2).pe (his.hs 2).ri, cSt (qs 3) cI (his.hs 3).se (his.hs 3).la (his.hs 3).de (his.hs 3).le (his.hs 3).sa (his.hs 3).fl (his.hs 3).ar (his.hs 3).dr (his.hs 3).pe (his.hs 3).ri, cSt (qs 4) cI (his.hs 4).se (his.hs 4).la (his.hs 4).de (his.hs 4).le (his.hs 4).sa (his.hs 4).fl (his.hs 4).ar (his.hs 4).dr (his.hs 4).pe (his.hs 4).ri, cSt (qs 5) cI (his.hs 5).se (his.hs 5).la (his.hs 5).de (his.hs 5).le (his.hs 5).sa (his.hs 5).fl (his.hs 5).ar (his.hs 5).dr (his.hs 5).pe (his.hs 5).ri])) (lv' := [(0, .ref (qx 0)), (1, .int x1), (2, .int x2)]) (st' := [.int r_1]) (pc' := 4) (ce' := 0) (sl' := 0) rfl rfl rfl rfl rfl rfl ?_
  refine gw_if_ne (pc' := 7) (tgt := 10) κ dX5_delay_4 rfl (by decide) (fun hc_2 => ?_) (fun hc_2 => ?_)
  · have h := h.1 hc_2
    refine gw_iload_n (pc' := 11) κ dX5_delay_10 rfl 2 rfl rfl ?_
    refine gb_callS (rest := []) κ (c_X5_isDelay  x2 h) ⟨rfl, rfl, Nat.le_of_ble_eq_true rfl, Nat.le_of_ble_eq_true rfl⟩ tw_ml_X5_82 tw_st_X5_isDelay tw_co_X5_isDelay tw_in_X5 hy_X5_isDelay rfl (Nat.le_of_ble_eq_true rfl) rfl dX5_delay_11 [] rfl (by decide) (fun _ => Nat.le_of_ble_eq_true rfl) ⟨Nat.le_of_ble_eq_true rfl, Nat.le_of_ble_eq_true rfl⟩ (fun v u hv => ?_)
    obtain ⟨r_3, rfl, h⟩ := hv
    refine gw_nf (ws' := (wfl [cX qx qn qp qw qt qu qd qh ql, cSt qn cI now.se now.la now.de now.le now.sa now.fl now.ar now.dr now.pe now.ri, cPl qp cI pln.od pln.rd pln.vn pln.pn pln.ao pln.sr pln.sp pln.wt, cHi qh qs cR his.ol his.sz, cSt (qs 0) cI (his.hs 0).se (his.hs 0).la (his.hs 0).de (his.hs 0).le (his.hs 0).sa (his.hs 0).fl (his.hs 0).ar (his.hs 0).dr (his.hs 0).pe (his.hs 0).ri, cSt (qs 1) cI (his.hs 1).se (his.hs 1).la (his.hs 1).de (his.hs 1).le (his.hs 1).sa (his.hs 1).fl (his.hs 1).ar (his.hs 1).dr (his.hs 1).pe (his.hs 1).ri, cSt (qs 2) cI (his.hs 2).se (his.hs 2).la (his.hs 2).de (his.hs 2).le (his.hs 2).sa (his.hs 2).fl (his.hs 2).ar (his.hs 2).dr (his.hs 2).pe (his.hs 2).ri, cSt (qs 3) cI (his.hs 3).se (his.hs 3).la (his.hs 3).de (his.hs 3).le (his.hs 3).sa (his.hs 3).fl (his.hs 3).ar (his.hs 3).dr (his.hs 3).pe (his.hs 3).ri, cSt (qs 4) cI (his.hs 4).se (his.hs 4).la (his.hs 4).de (his.hs 4).le (his.hs 4).sa (his.hs 4).fl (his.hs 4).ar (his.hs 4).dr (his.hs 4).pe (his.hs 4).ri, cSt (qs 5) cI (his.hs 5).se (his.hs 5).la (his.hs 5).de (his.hs 5).le (his.hs 5).sa (his.hs 5).fl (his.hs 5).ar (his.hs 5).dr (his.hs 5).pe (his.hs 5).ri])) (lv' := [(0, .ref (qx 0)), (1, .int x1), (2, .int x2)]) (st' := [.int r_3]) (pc' := 14) (ce' := 0) (sl' := 0) rfl rfl rfl rfl rfl rfl ?_
    refine gw_if_ne (pc' := 17) (tgt := 20) κ dX5_delay_14 rfl (by decide) (fun hc_4 => ?_) (fun hc_4 => ?_)
    · have h := h.1 hc_4
      refine gw_aload_n (pc' := 21) κ dX5_delay_20 rfl 0 rfl rfl ?_
      refine gb_get (pc' := 24) (C := RX5) (T := TX5) (N := 8) κ dX5_delay_21 rfl inX5 0 rfl rfl rfl 6 (by decide) tw_fl_X5_46 rfl ?_
      refine gw_aload_n (pc' := 25) κ dX5_delay_24 rfl 0 rfl rfl ?_
      refine gb_get (pc' := 28) (C := RX5) (T := TX5) (N := 8) κ dX5_delay_25 rfl inX5 0 rfl rfl rfl 0 (by decide) tw_fl_X5_10 rfl ?_
      refine gb_callV (ci := 0) (qb := 3) (rest := []) κ (c_X0_record qh qn qs his now h) ⟨rfl, rfl, Nat.le_of_ble_eq_true rfl, Nat.le_of_ble_eq_true rfl⟩ tw_ml_X5_68 tw_im_X0_record tw_se_X0_record tw_co_X0_record tw_in_X0 hy_X0_record rfl rfl rfl rfl rfl (Nat.le_of_ble_eq_true rfl) rfl dX5_delay_28 [3, 4, 5, 6, 7, 8, 9, 1] rfl (by decide) (fun _ => Nat.le_of_ble_eq_true rfl) ⟨Nat.le_of_ble_eq_true rfl, Nat.le_of_ble_eq_true rfl⟩ (fun v u hv => ?_)
      obtain ⟨rfl, h⟩ := hv
      obtain ⟨hs_5, ol_6, sz_7⟩ := u
      refine gw_nf (ws' := (wfl [cX qx qn qp qw qt qu qd qh ql, cSt qn cI now.se now.la now.de now.le now.sa now.fl now.ar now.dr now.pe now.ri, cPl qp cI pln.od pln.rd pln.vn pln.pn pln.ao pln.sr pln.sp pln.wt, cHi qh qs cR ol_6 sz_7, cSt (qs 0) cI (hs_5 0).se (hs_5 0).la (hs_5 0).de (hs_5 0).le (hs_5 0).sa (hs_5 0).fl (hs_5 0).ar (hs_5 0).dr (hs_5 0).pe (hs_5 0).ri, cSt (qs 1) cI (hs_5 1).se (hs_5 1).la (hs_5 1).de (hs_5 1).le (hs_5 1).sa (hs_5 1).fl (hs_5 1).ar (hs_5 1).dr (hs_5 1).pe (hs_5 1).ri, cSt (qs 2) cI (hs_5 2).se (hs_5 2).la (hs_5 2).de (hs_5 2).le (hs_5 2).sa (hs_5 2).fl (hs_5 2).ar (hs_5 2).dr (hs_5 2).pe (hs_5 2).ri, cSt (qs 3) cI (hs_5 3).se (hs_5 3).la (hs_5 3).de (hs_5 3).le (hs_5 3).sa (hs_5 3).fl (hs_5 3).ar (hs_5 3).dr (hs_5 3).pe (hs_5 3).ri, cSt (qs 4) cI (hs_5 4).se (hs_5 4).la (hs_5 4).de (hs_5 4).le (hs_5 4).sa (hs_5 4).fl (hs_5 4).ar (hs_5 4).dr (hs_5 4).pe (hs_5 4).ri, cSt (qs 5) cI (hs_5 5).se (hs_5 5).la (hs_5 5).de (hs_5 5).le (hs_5 5).sa (hs_5 5).fl (hs_5 5).ar (hs_5 5).dr (hs_5 5).pe (hs_5 5).ri])) (lv' := [(0, .ref (qx 0)), (1, .int x1), (2, .int x2)]) (st' := []) (pc' := 31) (ce' := 0) (sl' := 0) rfl rfl rfl rfl rfl rfl ?_
      refine gw_aload_n (pc' := 32) κ dX5_delay_31 rfl 0 rfl rfl ?_
      refine gb_get (pc' := 35) (C := RX5) (T := TX5) (N := 8) κ dX5_delay_32 rfl inX5 0 rfl rfl rfl 0 (by decide) tw_fl_X5_10 rfl ?_
      refine gb_get (pc' := 38) (C := RX3) (T := TX3) (N := 10) κ dX5_delay_35 rfl inX3 1 rfl rfl rfl 2 (by decide) tw_fl_X5_85 rfl ?_
      refine gw_iload_n (pc' := 39) κ dX5_delay_38 rfl 1 rfl rfl ?_
      refine gw_iload_n (pc' := 40) κ dX5_delay_39 rfl 2 rfl rfl ?_
      obtain ⟨hb_8, h⟩ := h
      refine gb_iast (pc' := 41) (bs' := [cX qx qn qp qw qt qu qd qh ql, cSt qn cI now.se now.la (upd now.de x1.toNatClampNeg x2) now.le now.sa now.fl now.ar now.dr now.pe now.ri, cPl qp cI pln.od pln.rd pln.vn pln.pn pln.ao pln.sr pln.sp pln.wt, cHi qh qs cR ol_6 sz_7, cSt (qs 0) cI (hs_5 0).se (hs_5 0).la (hs_5 0).de (hs_5 0).le (hs_5 0).sa (hs_5 0).fl (hs_5 0).ar (hs_5 0).dr (hs_5 0).pe (hs_5 0).ri, cSt (qs 1) cI (hs_5 1).se (hs_5 1).la (hs_5 1).de (hs_5 1).le (hs_5 1).sa (hs_5 1).fl (hs_5 1).ar (hs_5 1).dr (hs_5 1).pe (hs_5 1).ri, cSt (qs 2) cI (hs_5 2).se (hs_5 2).la (hs_5 2).de (hs_5 2).le (hs_5 2).sa (hs_5 2).fl (hs_5 2).ar (hs_5 2).dr (hs_5 2).pe (hs_5 2).ri, cSt (qs 3) cI (hs_5 3).se (hs_5 3).la (hs_5 3).de (hs_5 3).le (hs_5 3).sa (hs_5 3).fl (hs_5 3).ar (hs_5 3).dr (hs_5 3).pe (hs_5 3).ri, cSt (qs 4) cI (hs_5 4).se (hs_5 4).la (hs_5 4).de (hs_5 4).le (hs_5 4).sa (hs_5 4).fl (hs_5 4).ar (hs_5 4).dr (hs_5 4).pe (hs_5 4).ri, cSt (qs 5) cI (hs_5 5).se (hs_5 5).la (hs_5 5).de (hs_5 5).le (hs_5 5).sa (hs_5 5).fl (hs_5 5).ar (hs_5 5).dr (hs_5 5).pe (hs_5 5).ri]) κ dX5_delay_40 rfl 1 3 rfl rfl hb_8 rfl ?_
      refine gw_aload_n (pc' := 42) κ dX5_delay_41 rfl 0 rfl rfl ?_
      refine gb_get (pc' := 45) (C := RX5) (T := TX5) (N := 8) κ dX5_delay_42 rfl inX5 0 rfl rfl rfl 1 (by decide) tw_fl_X5_19 rfl ?_
      refine gw_aload_n (pc' := 46) κ dX5_delay_45 rfl 0 rfl rfl ?_
      refine gb_get (pc' := 49) (C := RX5) (T := TX5) (N := 8) κ dX5_delay_46 rfl inX5 0 rfl rfl rfl 0 (by decide) tw_fl_X5_10 rfl ?_
      refine gb_callV (ci := 2) (qb := 2) (rest := []) κ (c_X2_make qp qn pln (mkSt now.se now.la (upd now.de x1.toNatClampNeg x2) now.le now.sa now.fl now.ar now.dr now.pe now.ri) h) ⟨rfl, rfl, Nat.le_of_ble_eq_true rfl, Nat.le_of_ble_eq_true rfl⟩ tw_ml_X5_72 tw_im_X2_make tw_se_X2_make tw_co_X2_make tw_in_X2 hy_X2_make rfl rfl rfl rfl rfl (Nat.le_of_ble_eq_true rfl) rfl dX5_delay_49 [2, 1] rfl (by decide) (fun _ => Nat.le_of_ble_eq_true rfl) ⟨Nat.le_of_ble_eq_true rfl, Nat.le_of_ble_eq_true rfl⟩ (fun v u hv => ?_)
      obtain ⟨rfl, h⟩ := hv
      obtain ⟨od_9, rd_10, vn_11, pn_12, ao_13, sr_14, sp_15, wt_16⟩ := u
      refine gw_nf (ws' := (wfl [cX qx qn qp qw qt qu qd qh ql, cSt qn cI now.se now.la (upd now.de x1.toNatClampNeg x2) now.le now.sa now.fl now.ar now.dr now.pe now.ri, cPl qp cI od_9 rd_10 vn_11 pn_12 ao_13 sr_14 sp_15 wt_16, cHi qh qs cR ol_6 sz_7, cSt (qs 0) cI (hs_5 0).se (hs_5 0).la (hs_5 0).de (hs_5 0).le (hs_5 0).sa (hs_5 0).fl (hs_5 0).ar (hs_5 0).dr (hs_5 0).pe (hs_5 0).ri, cSt (qs 1) cI (hs_5 1).se (hs_5 1).la (hs_5 1).de (hs_5 1).le (hs_5 1).sa (hs_5 1).fl (hs_5 1).ar (hs_5 1).dr (hs_5 1).pe (hs_5 1).ri, cSt (qs 2) cI (hs_5 2).se (hs_5 2).la (hs_5 2).de (hs_5 2).le (hs_5 2).sa (hs_5 2).fl (hs_5 2).ar (hs_5 2).dr (hs_5 2).pe (hs_5 2).ri, cSt (qs 3) cI (hs_5 3).se (hs_5 3).la (hs_5 3).de (hs_5 3).le (hs_5 3).sa (hs_5 3).fl (hs_5 3).ar (hs_5 3).dr (hs_5 3).pe (hs_5 3).ri, cSt (qs 4) cI (hs_5 4).se (hs_5 4).la (hs_5 4).de (hs_5 4).le (hs_5 4).sa (hs_5 4).fl (hs_5 4).ar (hs_5 4).dr (hs_5 4).pe (hs_5 4).ri, cSt (qs 5) cI (hs_5 5).se (hs_5 5).la (hs_5 5).de (hs_5 5).le (hs_5 5).sa (hs_5 5).fl (hs_5 5).ar (hs_5 5).dr (hs_5 5).pe (hs_5 5).ri])) (lv' := [(0, .ref (qx 0)), (1, .int x1), (2, .int x2)]) (st' := []) (pc' := 52) (ce' := 0) (sl' := 0) rfl rfl rfl rfl rfl rfl ?_
      refine gw_aload_n (pc' := 53) κ dX5_delay_52 rfl 0 rfl rfl ?_
      refine gb_get (pc' := 56) (C := RX5) (T := TX5) (N := 8) κ dX5_delay_53 rfl inX5 0 rfl rfl rfl 0 (by decide) tw_fl_X5_10 rfl ?_
      refine gw_iload_n (pc' := 57) κ dX5_delay_56 rfl 1 rfl rfl ?_
      refine gb_callV (ci := 3) (qb := 1) (rest := []) κ (c_X3_flightReady qn (mkSt now.se now.la (upd now.de x1.toNatClampNeg x2) now.le now.sa now.fl now.ar now.dr now.pe now.ri) x1 h) ⟨rfl, rfl, Nat.le_of_ble_eq_true rfl, Nat.le_of_ble_eq_true rfl⟩ tw_ml_X5_88 tw_im_X3_flightReady tw_se_X3_flightReady tw_co_X3_flightReady tw_in_X3 hy_X3_flightReady rfl rfl rfl rfl rfl (Nat.le_of_ble_eq_true rfl) rfl dX5_delay_57 [1] rfl (by decide) (fun _ => Nat.le_of_ble_eq_true rfl) ⟨Nat.le_of_ble_eq_true rfl, Nat.le_of_ble_eq_true rfl⟩ (fun v u hv => ?_)
      obtain ⟨r_17, rfl, h⟩ := hv
      refine gw_nf (ws' := (wfl [cX qx qn qp qw qt qu qd qh ql, cSt qn cI now.se now.la (upd now.de x1.toNatClampNeg x2) now.le now.sa now.fl now.ar now.dr now.pe now.ri, cPl qp cI od_9 rd_10 vn_11 pn_12 ao_13 sr_14 sp_15 wt_16, cHi qh qs cR ol_6 sz_7, cSt (qs 0) cI (hs_5 0).se (hs_5 0).la (hs_5 0).de (hs_5 0).le (hs_5 0).sa (hs_5 0).fl (hs_5 0).ar (hs_5 0).dr (hs_5 0).pe (hs_5 0).ri, cSt (qs 1) cI (hs_5 1).se (hs_5 1).la (hs_5 1).de (hs_5 1).le (hs_5 1).sa (hs_5 1).fl (hs_5 1).ar (hs_5 1).dr (hs_5 1).pe (hs_5 1).ri, cSt (qs 2) cI (hs_5 2).se (hs_5 2).la (hs_5 2).de (hs_5 2).le (hs_5 2).sa (hs_5 2).fl (hs_5 2).ar (hs_5 2).dr (hs_5 2).pe (hs_5 2).ri, cSt (qs 3) cI (hs_5 3).se (hs_5 3).la (hs_5 3).de (hs_5 3).le (hs_5 3).sa (hs_5 3).fl (hs_5 3).ar (hs_5 3).dr (hs_5 3).pe (hs_5 3).ri, cSt (qs 4) cI (hs_5 4).se (hs_5 4).la (hs_5 4).de (hs_5 4).le (hs_5 4).sa (hs_5 4).fl (hs_5 4).ar (hs_5 4).dr (hs_5 4).pe (hs_5 4).ri, cSt (qs 5) cI (hs_5 5).se (hs_5 5).la (hs_5 5).de (hs_5 5).le (hs_5 5).sa (hs_5 5).fl (hs_5 5).ar (hs_5 5).dr (hs_5 5).pe (hs_5 5).ri])) (lv' := [(0, .ref (qx 0)), (1, .int x1), (2, .int x2)]) (st' := [.int r_17]) (pc' := 60) (ce' := 0) (sl' := 0) rfl rfl rfl rfl rfl rfl ?_
      exact gw_iret κ dX5_delay_60 ((upd now.de x1.toNatClampNeg x2), od_9, rd_10, vn_11, pn_12, ao_13, sr_14, sp_15, wt_16, hs_5, ol_6, sz_7) rfl ⟨_, rfl, h⟩
    · have h := h.2 hc_4
      refine gw_bipush (pc' := 19) (v := -102) κ dX5_delay_17 rfl (by decide) ?_
      exact gw_iret κ dX5_delay_19 (now.de, pln.od, pln.rd, pln.vn, pln.pn, pln.ao, pln.sr, pln.sp, pln.wt, his.hs, his.ol, his.sz) rfl ⟨_, rfl, h⟩
  · have h := h.2 hc_2
    refine gw_bipush (pc' := 9) (v := -101) κ dX5_delay_7 rfl (by decide) ?_
    exact gw_iret κ dX5_delay_9 (now.de, pln.od, pln.rd, pln.vn, pln.pn, pln.ao, pln.sr, pln.sp, pln.wt, his.hs, his.ol, his.sz) rfl ⟨_, rfl, h⟩
theorem hy_X5_van : g_hy yX5_van 3 := by decide +kernel
set_option maxHeartbeats 4000000 in
set_option maxRecDepth 100000 in
theorem c_X5_van {l : Launch} {D : va_G} {cI cR : ClassId}  (qx : Nat → Nat) (qn : Nat → Nat) (qp : Nat → Nat) (qw : Nat → Nat) (qt : Nat → Nat) (qu : Nat → Nat) (qd : Nat → Nat) (qh : Nat → Nat) (ql : Nat → Nat) (qs : Nat → Nat → Nat) {P : Int32 → (Nat → Int32) → (Nat → Int32) → (Nat → Int32) → (Nat → Int32) → (Nat → Int32) → (Nat → Int32) → (Nat → Int32) → Int32 → Int32 → Int32 → (Nat → StT) → Int32 → Int32 → Prop} (now : StT) (pln : PlT) (his : HiT) (x1 : Int32) (x2 : Int32) (x3 : Int32) (h : wp_X5_van P now pln his x1 x2 x3) : CT l D cI cR yX5_van cX5_van 4 (some .int) ({ frames := 6, cells := 0, slots := 0, locals := 140 } : Room) [.ref (qx 0), .int x1, .int x2, .int x3] (wfl [cX qx qn qp qw qt qu qd qh ql, cSt qn cI now.se now.la now.de now.le now.sa now.fl now.ar now.dr now.pe now.ri, cPl qp cI pln.od pln.rd pln.vn pln.pn pln.ao pln.sr pln.sp pln.wt, cHi qh qs cR his.ol his.sz, cSt (qs 0) cI (his.hs 0).se (his.hs 0).la (his.hs 0).de (his.hs 0).le (his.hs 0).sa (his.hs 0).fl (his.hs 0).ar (his.hs 0).dr (his.hs 0).pe (his.hs 0).ri, cSt (qs 1) cI (his.hs 1).se (his.hs 1).la (his.hs 1).de (his.hs 1).le (his.hs 1).sa (his.hs 1).fl (his.hs 1).ar (his.hs 1).dr (his.hs 1).pe (his.hs 1).ri, cSt (qs 2) cI (his.hs 2).se (his.hs 2).la (his.hs 2).de (his.hs 2).le (his.hs 2).sa (his.hs 2).fl (his.hs 2).ar (his.hs 2).dr (his.hs 2).pe (his.hs 2).ri, cSt (qs 3) cI (his.hs 3).se (his.hs 3).la (his.hs 3).de (his.hs 3).le (his.hs 3).sa (his.hs 3).fl (his.hs 3).ar (his.hs 3).dr (his.hs 3).pe (his.hs 3).ri, cSt (qs 4) cI (his.hs 4).se (his.hs 4).la (his.hs 4).de (his.hs 4).le (his.hs 4).sa (his.hs 4).fl (his.hs 4).ar (his.hs 4).dr (his.hs 4).pe (his.hs 4).ri, cSt (qs 5) cI (his.hs 5).se (his.hs 5).la (his.hs 5).de (his.hs 5).le (his.hs 5).sa (his.hs 5).fl (his.hs 5).ar (his.hs 5).dr (his.hs 5).pe (his.hs 5).ri]) (fun u : (Nat → Int32) × (Nat → Int32) × (Nat → Int32) × (Nat → Int32) × (Nat → Int32) × (Nat → Int32) × (Nat → Int32) × Int32 × Int32 × Int32 × (Nat → StT) × Int32 × Int32 => (wfl [cX qx qn qp qw qt qu qd qh ql, cSt qn cI now.se now.la now.de u.1 u.2.1 now.fl now.ar now.dr now.pe now.ri, cPl qp cI u.2.2.1 u.2.2.2.1 u.2.2.2.2.1 u.2.2.2.2.2.1 u.2.2.2.2.2.2.1 u.2.2.2.2.2.2.2.1 u.2.2.2.2.2.2.2.2.1 u.2.2.2.2.2.2.2.2.2.1, cHi qh qs cR u.2.2.2.2.2.2.2.2.2.2.2.1 u.2.2.2.2.2.2.2.2.2.2.2.2, cSt (qs 0) cI (u.2.2.2.2.2.2.2.2.2.2.1 0).se (u.2.2.2.2.2.2.2.2.2.2.1 0).la (u.2.2.2.2.2.2.2.2.2.2.1 0).de (u.2.2.2.2.2.2.2.2.2.2.1 0).le (u.2.2.2.2.2.2.2.2.2.2.1 0).sa (u.2.2.2.2.2.2.2.2.2.2.1 0).fl (u.2.2.2.2.2.2.2.2.2.2.1 0).ar (u.2.2.2.2.2.2.2.2.2.2.1 0).dr (u.2.2.2.2.2.2.2.2.2.2.1 0).pe (u.2.2.2.2.2.2.2.2.2.2.1 0).ri, cSt (qs 1) cI (u.2.2.2.2.2.2.2.2.2.2.1 1).se (u.2.2.2.2.2.2.2.2.2.2.1 1).la (u.2.2.2.2.2.2.2.2.2.2.1 1).de (u.2.2.2.2.2.2.2.2.2.2.1 1).le (u.2.2.2.2.2.2.2.2.2.2.1 1).sa (u.2.2.2.2.2.2.2.2.2.2.1 1).fl (u.2.2.2.2.2.2.2.2.2.2.1 1).ar (u.2.2.2.2.2.2.2.2.2.2.1 1).dr (u.2.2.2.2.2.2.2.2.2.2.1 1).pe (u.2.2.2.2.2.2.2.2.2.2.1 1).ri, cSt (qs 2) cI (u.2.2.2.2.2.2.2.2.2.2.1 2).se (u.2.2.2.2.2.2.2.2.2.2.1 2).la (u.2.2.2.2.2.2.2.2.2.2.1 2).de (u.2.2.2.2.2.2.2.2.2.2.1 2).le (u.2.2.2.2.2.2.2.2.2.2.1 2).sa (u.2.2.2.2.2.2.2.2.2.2.1 2).fl (u.2.2.2.2.2.2.2.2.2.2.1 2).ar (u.2.2.2.2.2.2.2.2.2.2.1 2).dr (u.2.2.2.2.2.2.2.2.2.2.1 2).pe (u.2.2.2.2.2.2.2.2.2.2.1 2).ri, cSt (qs 3) cI (u.2.2.2.2.2.2.2.2.2.2.1 3).se (u.2.2.2.2.2.2.2.2.2.2.1 3).la (u.2.2.2.2.2.2.2.2.2.2.1 3).de (u.2.2.2.2.2.2.2.2.2.2.1 3).le (u.2.2.2.2.2.2.2.2.2.2.1 3).sa (u.2.2.2.2.2.2.2.2.2.2.1 3).fl (u.2.2.2.2.2.2.2.2.2.2.1 3).ar (u.2.2.2.2.2.2.2.2.2.2.1 3).dr (u.2.2.2.2.2.2.2.2.2.2.1 3).pe (u.2.2.2.2.2.2.2.2.2.2.1 3).ri, cSt (qs 4) cI (u.2.2.2.2.2.2.2.2.2.2.1 4).se (u.2.2.2.2.2.2.2.2.2.2.1 4).la (u.2.2.2.2.2.2.2.2.2.2.1 4).de (u.2.2.2.2.2.2.2.2.2.2.1 4).le (u.2.2.2.2.2.2.2.2.2.2.1 4).sa (u.2.2.2.2.2.2.2.2.2.2.1 4).fl (u.2.2.2.2.2.2.2.2.2.2.1 4).ar (u.2.2.2.2.2.2.2.2.2.2.1 4).dr (u.2.2.2.2.2.2.2.2.2.2.1 4).pe (u.2.2.2.2.2.2.2.2.2.2.1 4).ri, cSt (qs 5) cI (u.2.2.2.2.2.2.2.2.2.2.1 5).se (u.2.2.2.2.2.2.2.2.2.2.1 5).la (u.2.2.2.2.2.2.2.2.2.2.1 5).de (u.2.2.2.2.2.2.2.2.2.2.1 5).le (u.2.2.2.2.2.2.2.2.2.2.1 5).sa (u.2.2.2.2.2.2.2.2.2.2.1 5).fl (u.2.2.2.2.2.2.2.2.2.2.1 5).ar (u.2.2.2.2.2.2.2.2.2.2.1 5).dr (u.2.2.2.2.2.2.2.2.2.2.1 5).pe (u.2.2.2.2.2.2.2.2.2.2.1 5).ri])) (pI (fun (r : Int32) (u : (Nat → Int32) × (Nat → Int32) × (Nat → Int32) × (Nat → Int32) × (Nat → Int32) × (Nat → Int32) × (Nat → Int32) × Int32 × Int32 × Int32 × (Nat → StT) × Int32 × Int32) => P r u.1 u.2.1 u.2.2.1 u.2.2.2.1 u.2.2.2.2.1 u.2.2.2.2.2.1 u.2.2.2.2.2.2.1 u.2.2.2.2.2.2.2.1 u.2.2.2.2.2.2.2.2.1 u.2.2.2.2.2.2.2.2.2.1 u.2.2.2.2.2.2.2.2.2.2.1 u.2.2.2.2.2.2.2.2.2.2.2.1 u.2.2.2.2.2.2.2.2.2.2.2.2)) 0 0 := by
  refine ct_of RX5 rfl (by decide +kernel) (Nat.le_of_ble_eq_true rfl) (fun zp ze zs zm zb zt zc A hin κ => ?_)
  unfold wp_X5_van at h
  refine gw_nf (lv' := [(0, .ref (qx 0)), (1, .int x1), (2, .int x2), (3, .int x3)]) (pc' := 0) (st' := []) (ce' := 0) (sl' := 0) rfl rfl rfl rfl rfl rfl ?_
  refine gw_iload_n (pc' := 1) κ dX5_van_0 rfl 1 rfl rfl ?_
  refine gb_callS (rest := []) κ (c_X5_isVan  x1 h) ⟨rfl, rfl, Nat.le_of_ble_eq_true rfl, Nat.le_of_ble_eq_true rfl⟩ tw_ml_X5_92 tw_st_X5_isVan tw_co_X5_isVan tw_in_X5 hy_X5_isVan rfl (Nat.le_of_ble_eq_true rfl) rfl dX5_van_1 [] rfl (by decide) (fun _ => Nat.le_of_ble_eq_true rfl) ⟨Nat.le_of_ble_eq_true rfl, Nat.le_of_ble_eq_true rfl⟩ (fun v u hv => ?_)
  obtain ⟨r_1, rfl, h⟩ := hv
  refine gw_nf (ws' := (wfl [cX qx qn qp qw qt qu qd qh ql, cSt qn cI now.se now.la now.de now.le now.sa now.fl now.ar now.dr now.pe now.ri, cPl qp cI pln.od pln.rd pln.vn pln.pn pln.ao pln.sr pln.sp pln.wt, cHi qh qs cR his.ol his.sz, cSt (qs 0) cI (his.hs 0).se (his.hs 0).la (his.hs 0).de (his.hs 0).le (his.hs 0).sa (his.hs 0).fl (his.hs 0).ar (his.hs 0).dr (his.hs 0).pe (his.hs 0).ri, cSt (qs 1) cI (his.hs 1).se (his.hs 1).la (his.hs 1).de (his.hs 1).le (his.hs 1).sa (his.hs 1).fl (his.hs 1).ar (his.hs 1).dr (his.hs 1).pe (his.hs 1).ri, cSt (qs 2) cI (his.hs 2).se (his.hs 2).la (his.hs 2).de (his.hs 2).le (his.hs 2).sa (his.hs 2).fl (his.hs 2).ar (his.hs 2).dr (his.hs 2).pe (his.hs 2).ri, cSt (qs 3) cI (his.hs 3).se (his.hs 3).la (his.hs 3).de (his.hs 3).le (his.hs 3).sa (his.hs 3).fl (his.hs 3).ar (his.hs 3).dr (his.hs 3).pe (his.hs 3).ri, cSt (qs 4) cI (his.hs 4).se (his.hs 4).la (his.hs 4).de (his.hs 4).le (his.hs 4).sa (his.hs 4).fl (his.hs 4).ar (his.hs 4).dr (his.hs 4).pe (his.hs 4).ri, cSt (qs 5) cI (his.hs 5).se (his.hs 5).la (his.hs 5).de (his.hs 5).le (his.hs 5).sa (his.hs 5).fl (his.hs 5).ar (his.hs 5).dr (his.hs 5).pe (his.hs 5).ri])) (lv' := [(0, .ref (qx 0)), (1, .int x1), (2, .int x2), (3, .int x3)]) (st' := [.int r_1]) (pc' := 4) (ce' := 0) (sl' := 0) rfl rfl rfl rfl rfl rfl ?_
  refine gw_if_ne (pc' := 7) (tgt := 10) κ dX5_van_4 rfl (by decide) (fun hc_2 => ?_) (fun hc_2 => ?_)
  · have h := h.1 hc_2
    refine gw_iload_n (pc' := 11) κ dX5_van_10 rfl 2 rfl rfl ?_
    refine gw_iconst (pc' := 12) (v := 0) κ dX5_van_11 rfl (by decide) ?_
    refine gw_sipush (pc' := 15) (v := 1500) κ dX5_van_12 rfl (by decide) ?_
    refine gb_callS (rest := []) κ (c_X5_isIn  x2 (0 : Int32) (1500 : Int32) h) ⟨rfl, rfl, Nat.le_of_ble_eq_true rfl, Nat.le_of_ble_eq_true rfl⟩ tw_ml_X5_54 tw_st_X5_isIn tw_co_X5_isIn tw_in_X5 hy_X5_isIn rfl (Nat.le_of_ble_eq_true rfl) rfl dX5_van_15 [] rfl (by decide) (fun _ => Nat.le_of_ble_eq_true rfl) ⟨Nat.le_of_ble_eq_true rfl, Nat.le_of_ble_eq_true rfl⟩ (fun v u hv => ?_)
    obtain ⟨r_3, rfl, h⟩ := hv
    refine gw_nf (ws' := (wfl [cX qx qn qp qw qt qu qd qh ql, cSt qn cI now.se now.la now.de now.le now.sa now.fl now.ar now.dr now.pe now.ri, cPl qp cI pln.od pln.rd pln.vn pln.pn pln.ao pln.sr pln.sp pln.wt, cHi qh qs cR his.ol his.sz, cSt (qs 0) cI (his.hs 0).se (his.hs 0).la (his.hs 0).de (his.hs 0).le (his.hs 0).sa (his.hs 0).fl (his.hs 0).ar (his.hs 0).dr (his.hs 0).pe (his.hs 0).ri, cSt (qs 1) cI (his.hs 1).se (his.hs 1).la (his.hs 1).de (his.hs 1).le (his.hs 1).sa (his.hs 1).fl (his.hs 1).ar (his.hs 1).dr (his.hs 1).pe (his.hs 1).ri, cSt (qs 2) cI (his.hs 2).se (his.hs 2).la (his.hs 2).de (his.hs 2).le (his.hs 2).sa (his.hs 2).fl (his.hs 2).ar (his.hs 2).dr (his.hs 2).pe (his.hs 2).ri, cSt (qs 3) cI (his.hs 3).se (his.hs 3).la (his.hs 3).de (his.hs 3).le (his.hs 3).sa (his.hs 3).fl (his.hs 3).ar (his.hs 3).dr (his.hs 3).pe (his.hs 3).ri, cSt (qs 4) cI (his.hs 4).se (his.hs 4).la (his.hs 4).de (his.hs 4).le (his.hs 4).sa (his.hs 4).fl (his.hs 4).ar (his.hs 4).dr (his.hs 4).pe (his.hs 4).ri, cSt (qs 5) cI (his.hs 5).se (his.hs 5).la (his.hs 5).de (his.hs 5).le (his.hs 5).sa (his.hs 5).fl (his.hs 5).ar (his.hs 5).dr (his.hs 5).pe (his.hs 5).ri])) (lv' := [(0, .ref (qx 0)), (1, .int x1), (2, .int x2), (3, .int x3)]) (st' := [.int r_3]) (pc' := 18) (ce' := 0) (sl' := 0) rfl rfl rfl rfl rfl rfl ?_
    refine gw_if_eq (pc' := 21) (tgt := 31) κ dX5_van_18 rfl (by decide) (fun hc_4 => ?_) (fun hc_4 => ?_)
    · have h := h.1 hc_4
      refine gw_bipush (pc' := 33) (v := -102) κ dX5_van_31 rfl (by decide) ?_
      exact gw_iret κ dX5_van_33 (now.le, now.sa, pln.od, pln.rd, pln.vn, pln.pn, pln.ao, pln.sr, pln.sp, pln.wt, his.hs, his.ol, his.sz) rfl ⟨_, rfl, h⟩
    · have h := h.2 hc_4
      refine gw_iload_n (pc' := 22) κ dX5_van_21 rfl 3 rfl rfl ?_
      refine gw_iconst (pc' := 23) (v := 0) κ dX5_van_22 rfl (by decide) ?_
      refine gw_bipush (pc' := 25) (v := 12) κ dX5_van_23 rfl (by decide) ?_
      refine gb_callS (rest := []) κ (c_X5_isIn  x3 (0 : Int32) (12 : Int32) h) ⟨rfl, rfl, Nat.le_of_ble_eq_true rfl, Nat.le_of_ble_eq_true rfl⟩ tw_ml_X5_54 tw_st_X5_isIn tw_co_X5_isIn tw_in_X5 hy_X5_isIn rfl (Nat.le_of_ble_eq_true rfl) rfl dX5_van_25 [] rfl (by decide) (fun _ => Nat.le_of_ble_eq_true rfl) ⟨Nat.le_of_ble_eq_true rfl, Nat.le_of_ble_eq_true rfl⟩ (fun v u hv => ?_)
      obtain ⟨r_5, rfl, h⟩ := hv
      refine gw_nf (ws' := (wfl [cX qx qn qp qw qt qu qd qh ql, cSt qn cI now.se now.la now.de now.le now.sa now.fl now.ar now.dr now.pe now.ri, cPl qp cI pln.od pln.rd pln.vn pln.pn pln.ao pln.sr pln.sp pln.wt, cHi qh qs cR his.ol his.sz, cSt (qs 0) cI (his.hs 0).se (his.hs 0).la (his.hs 0).de (his.hs 0).le (his.hs 0).sa (his.hs 0).fl (his.hs 0).ar (his.hs 0).dr (his.hs 0).pe (his.hs 0).ri, cSt (qs 1) cI (his.hs 1).se (his.hs 1).la (his.hs 1).de (his.hs 1).le (his.hs 1).sa (his.hs 1).fl (his.hs 1).ar (his.hs 1).dr (his.hs 1).pe (his.hs 1).ri, cSt (qs 2) cI (his.hs 2).se (his.hs 2).la (his.hs 2).de (his.hs 2).le (his.hs 2).sa (his.hs 2).fl (his.hs 2).ar (his.hs 2).dr (his.hs 2).pe (his.hs 2).ri, cSt (qs 3) cI (his.hs 3).se (his.hs 3).la (his.hs 3).de (his.hs 3).le (his.hs 3).sa (his.hs 3).fl (his.hs 3).ar (his.hs 3).dr (his.hs 3).pe (his.hs 3).ri, cSt (qs 4) cI (his.hs 4).se (his.hs 4).la (his.hs 4).de (his.hs 4).le (his.hs 4).sa (his.hs 4).fl (his.hs 4).ar (his.hs 4).dr (his.hs 4).pe (his.hs 4).ri, cSt (qs 5) cI (his.hs 5).se (his.hs 5).la (his.hs 5).de (his.hs 5).le (his.hs 5).sa (his.hs 5).fl (his.hs 5).ar (his.hs 5).dr (his.hs 5).pe (his.hs 5).ri])) (lv' := [(0, .ref (qx 0)), (1, .int x1), (2, .int x2), (3, .int x3)]) (st' := [.int r_5]) (pc' := 28) (ce' := 0) (sl' := 0) rfl rfl rfl rfl rfl rfl ?_
      refine gw_if_ne (pc' := 31) (tgt := 34) κ dX5_van_28 rfl (by decide) (fun hc_6 => ?_) (fun hc_6 => ?_)
      · have h := h.1 hc_6
        refine gw_aload_n (pc' := 35) κ dX5_van_34 rfl 0 rfl rfl ?_
        refine gb_get (pc' := 38) (C := RX5) (T := TX5) (N := 8) κ dX5_van_35 rfl inX5 0 rfl rfl rfl 6 (by decide) tw_fl_X5_46 rfl ?_
        refine gw_aload_n (pc' := 39) κ dX5_van_38 rfl 0 rfl rfl ?_
        refine gb_get (pc' := 42) (C := RX5) (T := TX5) (N := 8) κ dX5_van_39 rfl inX5 0 rfl rfl rfl 0 (by decide) tw_fl_X5_10 rfl ?_
        refine gb_callV (ci := 0) (qb := 3) (rest := []) κ (c_X0_record qh qn qs his now h) ⟨rfl, rfl, Nat.le_of_ble_eq_true rfl, Nat.le_of_ble_eq_true rfl⟩ tw_ml_X5_68 tw_im_X0_record tw_se_X0_record tw_co_X0_record tw_in_X0 hy_X0_record rfl rfl rfl rfl rfl (Nat.le_of_ble_eq_true rfl) rfl dX5_van_42 [3, 4, 5, 6, 7, 8, 9, 1] rfl (by decide) (fun _ => Nat.le_of_ble_eq_true rfl) ⟨Nat.le_of_ble_eq_true rfl, Nat.le_of_ble_eq_true rfl⟩ (fun v u hv => ?_)
        obtain ⟨rfl, h⟩ := hv
        obtain ⟨hs_7, ol_8, sz_9⟩ := u
        refine gw_nf (ws' := (wfl [cX qx qn qp qw qt qu qd qh ql, cSt qn cI now.se now.la now.de now.le now.sa now.fl now.ar now.dr now.pe now.ri, cPl qp cI pln.od pln.rd pln.vn pln.pn pln.ao pln.sr pln.sp pln.wt, cHi qh qs cR ol_8 sz_9, cSt (qs 0) cI (hs_7 0).se (hs_7 0).la (hs_7 0).de (hs_7 0).le (hs_7 0).sa (hs_7 0).fl (hs_7 0).ar (hs_7 0).dr (hs_7 0).pe (hs_7 0).ri, cSt (qs 1) cI (hs_7 1).se (hs_7 1).la (hs_7 1).de (hs_7 1).le (hs_7 1).sa (hs_7 1).fl (hs_7 1).ar (hs_7 1).dr (hs_7 1).pe (hs_7 1).ri, cSt (qs 2) cI (hs_7 2).se (hs_7 2).la (hs_7 2).de (hs_7 2).le (hs_7 2).sa (hs_7 2).fl (hs_7 2).ar (hs_7 2).dr (hs_7 2).pe (hs_7 2).ri, cSt (qs 3) cI (hs_7 3).se (hs_7 3).la (hs_7 3).de (hs_7 3).le (hs_7 3).sa (hs_7 3).fl (hs_7 3).ar (hs_7 3).dr (hs_7 3).pe (hs_7 3).ri, cSt (qs 4) cI (hs_7 4).se (hs_7 4).la (hs_7 4).de (hs_7 4).le (hs_7 4).sa (hs_7 4).fl (hs_7 4).ar (hs_7 4).dr (hs_7 4).pe (hs_7 4).ri, cSt (qs 5) cI (hs_7 5).se (hs_7 5).la (hs_7 5).de (hs_7 5).le (hs_7 5).sa (hs_7 5).fl (hs_7 5).ar (hs_7 5).dr (hs_7 5).pe (hs_7 5).ri])) (lv' := [(0, .ref (qx 0)), (1, .int x1), (2, .int x2), (3, .int x3)]) (st' := []) (pc' := 45) (ce' := 0) (sl' := 0) rfl rfl rfl rfl rfl rfl ?_
        refine gw_aload_n (pc' := 46) κ dX5_van_45 rfl 0 rfl rfl ?_
        refine gb_get (pc' := 49) (C := RX5) (T := TX5) (N := 8) κ dX5_van_46 rfl inX5 0 rfl rfl rfl 0 (by decide) tw_fl_X5_10 rfl ?_
        refine gb_get (pc' := 52) (C := RX3) (T := TX3) (N := 10) κ dX5_van_49 rfl inX3 1 rfl rfl rfl 3 (by decide) tw_fl_X5_95 rfl ?_
        refine gw_iload_n (pc' := 53) κ dX5_van_52 rfl 1 rfl rfl ?_
        refine gw_iload_n (pc' := 54) κ dX5_van_53 rfl 2 rfl rfl ?_
        obtain ⟨hb_10, h⟩ := h
        refine gb_iast (pc' := 55) (bs' := [cX qx qn qp qw qt qu qd qh ql, cSt qn cI now.se now.la now.de (upd now.le x1.toNatClampNeg x2) now.sa now.fl now.ar now.dr now.pe now.ri, cPl qp cI pln.od pln.rd pln.vn pln.pn pln.ao pln.sr pln.sp pln.wt, cHi qh qs cR ol_8 sz_9, cSt (qs 0) cI (hs_7 0).se (hs_7 0).la (hs_7 0).de (hs_7 0).le (hs_7 0).sa (hs_7 0).fl (hs_7 0).ar (hs_7 0).dr (hs_7 0).pe (hs_7 0).ri, cSt (qs 1) cI (hs_7 1).se (hs_7 1).la (hs_7 1).de (hs_7 1).le (hs_7 1).sa (hs_7 1).fl (hs_7 1).ar (hs_7 1).dr (hs_7 1).pe (hs_7 1).ri, cSt (qs 2) cI (hs_7 2).se (hs_7 2).la (hs_7 2).de (hs_7 2).le (hs_7 2).sa (hs_7 2).fl (hs_7 2).ar (hs_7 2).dr (hs_7 2).pe (hs_7 2).ri, cSt (qs 3) cI (hs_7 3).se (hs_7 3).la (hs_7 3).de (hs_7 3).le (hs_7 3).sa (hs_7 3).fl (hs_7 3).ar (hs_7 3).dr (hs_7 3).pe (hs_7 3).ri, cSt (qs 4) cI (hs_7 4).se (hs_7 4).la (hs_7 4).de (hs_7 4).le (hs_7 4).sa (hs_7 4).fl (hs_7 4).ar (hs_7 4).dr (hs_7 4).pe (hs_7 4).ri, cSt (qs 5) cI (hs_7 5).se (hs_7 5).la (hs_7 5).de (hs_7 5).le (hs_7 5).sa (hs_7 5).fl (hs_7 5).ar (hs_7 5).dr (hs_7 5).pe (hs_7 5).ri]) κ dX5_van_54 rfl 1 4 rfl rfl hb_10 rfl ?_
        refine gw_aload_n (pc' := 56) κ dX5_van_55 rfl 0 rfl rfl ?_
        refine gb_get (pc' := 59) (C := RX5) (T := TX5) (N := 8) κ dX5_van_56 rfl inX5 0 rfl rfl rfl 0 (by decide) tw_fl_X5_10 rfl ?_
        refine gb_get (pc' := 62) (C := RX3) (T := TX3) (N := 10) κ dX5_van_59 rfl inX3 1 rfl rfl rfl 4 (by decide) tw_fl_X5_98 rfl ?_
        refine gw_iload_n (pc' := 63) κ dX5_van_62 rfl 1 rfl rfl ?_
        refine gw_iload_n (pc' := 64) κ dX5_van_63 rfl 3 rfl rfl ?_
        obtain ⟨hb_11, h⟩ := h
        refine gb_iast (pc' := 65) (bs' := [cX qx qn qp qw qt qu qd qh ql, cSt qn cI now.se now.la now.de (upd now.le x1.toNatClampNeg x2) (upd now.sa x1.toNatClampNeg x3) now.fl now.ar now.dr now.pe now.ri, cPl qp cI pln.od pln.rd pln.vn pln.pn pln.ao pln.sr pln.sp pln.wt, cHi qh qs cR ol_8 sz_9, cSt (qs 0) cI (hs_7 0).se (hs_7 0).la (hs_7 0).de (hs_7 0).le (hs_7 0).sa (hs_7 0).fl (hs_7 0).ar (hs_7 0).dr (hs_7 0).pe (hs_7 0).ri, cSt (qs 1) cI (hs_7 1).se (hs_7 1).la (hs_7 1).de (hs_7 1).le (hs_7 1).sa (hs_7 1).fl (hs_7 1).ar (hs_7 1).dr (hs_7 1).pe (hs_7 1).ri, cSt (qs 2) cI (hs_7 2).se (hs_7 2).la (hs_7 2).de (hs_7 2).le (hs_7 2).sa (hs_7 2).fl (hs_7 2).ar (hs_7 2).dr (hs_7 2).pe (hs_7 2).ri, cSt (qs 3) cI (hs_7 3).se (hs_7 3).la (hs_7 3).de (hs_7 3).le (hs_7 3).sa (hs_7 3).fl (hs_7 3).ar (hs_7 3).dr (hs_7 3).pe (hs_7 3).ri, cSt (qs 4) cI (hs_7 4).se (hs_7 4).la (hs_7 4).de (hs_7 4).le (hs_7 4).sa (hs_7 4).fl (hs_7 4).ar (hs_7 4).dr (hs_7 4).pe (hs_7 4).ri, cSt (qs 5) cI (hs_7 5).se (hs_7 5).la (hs_7 5).de (hs_7 5).le (hs_7 5).sa (hs_7 5).fl (hs_7 5).ar (hs_7 5).dr (hs_7 5).pe (hs_7 5).ri]) κ dX5_van_64 rfl 1 5 rfl rfl hb_11 rfl ?_
        refine gw_aload_n (pc' := 66) κ dX5_van_65 rfl 0 rfl rfl ?_
        refine gb_get (pc' := 69) (C := RX5) (T := TX5) (N := 8) κ dX5_van_66 rfl inX5 0 rfl rfl rfl 1 (by decide) tw_fl_X5_19 rfl ?_
        refine gw_aload_n (pc' := 70) κ dX5_van_69 rfl 0 rfl rfl ?_
        refine gb_get (pc' := 73) (C := RX5) (T := TX5) (N := 8) κ dX5_van_70 rfl inX5 0 rfl rfl rfl 0 (by decide) tw_fl_X5_10 rfl ?_
        refine gb_callV (ci := 2) (qb := 2) (rest := []) κ (c_X2_make qp qn pln (mkSt now.se now.la now.de (upd now.le x1.toNatClampNeg x2) (upd now.sa x1.toNatClampNeg x3) now.fl now.ar now.dr now.pe now.ri) h) ⟨rfl, rfl, Nat.le_of_ble_eq_true rfl, Nat.le_of_ble_eq_true rfl⟩ tw_ml_X5_72 tw_im_X2_make tw_se_X2_make tw_co_X2_make tw_in_X2 hy_X2_make rfl rfl rfl rfl rfl (Nat.le_of_ble_eq_true rfl) rfl dX5_van_73 [2, 1] rfl (by decide) (fun _ => Nat.le_of_ble_eq_true rfl) ⟨Nat.le_of_ble_eq_true rfl, Nat.le_of_ble_eq_true rfl⟩ (fun v u hv => ?_)
        obtain ⟨rfl, h⟩ := hv
        obtain ⟨od_12, rd_13, vn_14, pn_15, ao_16, sr_17, sp_18, wt_19⟩ := u
        refine gw_nf (ws' := (wfl [cX qx qn qp qw qt qu qd qh ql, cSt qn cI now.se now.la now.de (upd now.le x1.toNatClampNeg x2) (upd now.sa x1.toNatClampNeg x3) now.fl now.ar now.dr now.pe now.ri, cPl qp cI od_12 rd_13 vn_14 pn_15 ao_16 sr_17 sp_18 wt_19, cHi qh qs cR ol_8 sz_9, cSt (qs 0) cI (hs_7 0).se (hs_7 0).la (hs_7 0).de (hs_7 0).le (hs_7 0).sa (hs_7 0).fl (hs_7 0).ar (hs_7 0).dr (hs_7 0).pe (hs_7 0).ri, cSt (qs 1) cI (hs_7 1).se (hs_7 1).la (hs_7 1).de (hs_7 1).le (hs_7 1).sa (hs_7 1).fl (hs_7 1).ar (hs_7 1).dr (hs_7 1).pe (hs_7 1).ri, cSt (qs 2) cI (hs_7 2).se (hs_7 2).la (hs_7 2).de (hs_7 2).le (hs_7 2).sa (hs_7 2).fl (hs_7 2).ar (hs_7 2).dr (hs_7 2).pe (hs_7 2).ri, cSt (qs 3) cI (hs_7 3).se (hs_7 3).la (hs_7 3).de (hs_7 3).le (hs_7 3).sa (hs_7 3).fl (hs_7 3).ar (hs_7 3).dr (hs_7 3).pe (hs_7 3).ri, cSt (qs 4) cI (hs_7 4).se (hs_7 4).la (hs_7 4).de (hs_7 4).le (hs_7 4).sa (hs_7 4).fl (hs_7 4).ar (hs_7 4).dr (hs_7 4).pe (hs_7 4).ri, cSt (qs 5) cI (hs_7 5).se (hs_7 5).la (hs_7 5).de (hs_7 5).le (hs_7 5).sa (hs_7 5).fl (hs_7 5).ar (hs_7 5).dr (hs_7 5).pe (hs_7 5).ri])) (lv' := [(0, .ref (qx 0)), (1, .int x1), (2, .int x2), (3, .int x3)]) (st' := []) (pc' := 76) (ce' := 0) (sl' := 0) rfl rfl rfl rfl rfl rfl ?_
        refine gw_aload_n (pc' := 77) κ dX5_van_76 rfl 0 rfl rfl ?_
        refine gb_get (pc' := 80) (C := RX5) (T := TX5) (N := 8) κ dX5_van_77 rfl inX5 0 rfl rfl rfl 1 (by decide) tw_fl_X5_19 rfl ?_
        refine gb_get (pc' := 83) (C := RX2) (T := TX2) (N := 8) κ dX5_van_80 rfl inX2 2 rfl rfl rfl 6 (by decide) tw_fl_X5_101 rfl ?_
        exact gw_iret κ dX5_van_83 ((upd now.le x1.toNatClampNeg x2), (upd now.sa x1.toNatClampNeg x3), od_12, rd_13, vn_14, pn_15, ao_16, sr_17, sp_18, wt_19, hs_7, ol_8, sz_9) rfl ⟨_, rfl, h⟩
      · have h := h.2 hc_6
        refine gw_bipush (pc' := 33) (v := -102) κ dX5_van_31 rfl (by decide) ?_
        exact gw_iret κ dX5_van_33 (now.le, now.sa, pln.od, pln.rd, pln.vn, pln.pn, pln.ao, pln.sr, pln.sp, pln.wt, his.hs, his.ol, his.sz) rfl ⟨_, rfl, h⟩
  · have h := h.2 hc_2
    refine gw_bipush (pc' := 9) (v := -101) κ dX5_van_7 rfl (by decide) ?_
    exact gw_iret κ dX5_van_9 (now.le, now.sa, pln.od, pln.rd, pln.vn, pln.pn, pln.ao, pln.sr, pln.sp, pln.wt, his.hs, his.ol, his.sz) rfl ⟨_, rfl, h⟩
theorem hy_X3_addRider : g_hy yX3_addRider 4 := by decide +kernel
set_option maxHeartbeats 4000000 in
set_option maxRecDepth 100000 in
theorem c_X3_addRider {l : Launch} {D : va_G} {cI cR : ClassId}  (qa : Nat → Nat) {P : (Nat → Int32) → (Nat → Int32) → (Nat → Int32) → (Nat → Int32) → Int32 → Prop} (o0 : StT) (x1 : Int32) (x2 : Int32) (x3 : Int32) (x4 : Int32) (h : wp_X3_addRider P o0 x1 x2 x3 x4) : CT l D cI cR yX3_addRider cX3_addRider 5 none ({ frames := 0, cells := 0, slots := 0, locals := 0 } : Room) [.ref (qa 0), .int x1, .int x2, .int x3, .int x4] (wfl [cSt qa cI o0.se o0.la o0.de o0.le o0.sa o0.fl o0.ar o0.dr o0.pe o0.ri]) (fun u : (Nat → Int32) × (Nat → Int32) × (Nat → Int32) × (Nat → Int32) × Int32 => (wfl [cSt qa cI o0.se o0.la o0.de o0.le o0.sa u.1 u.2.1 u.2.2.1 u.2.2.2.1 u.2.2.2.2])) (pV (fun (u : (Nat → Int32) × (Nat → Int32) × (Nat → Int32) × (Nat → Int32) × Int32) => P u.1 u.2.1 u.2.2.1 u.2.2.2.1 u.2.2.2.2)) 0 0 := by
  refine ct_of RX3 rfl (by decide +kernel) (Nat.le_of_ble_eq_true rfl) (fun zp ze zs zm zb zt zc A hin κ => ?_)
  unfold wp_X3_addRider at h
  refine gw_nf (lv' := [(0, .ref (qa 0)), (1, .int x1), (2, .int x2), (3, .int x3), (4, .int x4)]) (pc' := 0) (st' := []) (ce' := 0) (sl' := 0) rfl rfl rfl rfl rfl rfl ?_
  refine gw_aload_n (pc' := 1) κ dX3_addRider_0 rfl 0 rfl rfl ?_
  refine gb_get (pc' := 4) (C := RX3) (T := TX3) (N := 10) κ dX3_addRider_1 rfl inX3 0 rfl rfl rfl 9 (by decide) tw_fl_X3_48 rfl ?_
  refine gw_bipush (pc' := 6) (v := 24) κ dX3_addRider_4 rfl (by decide) ?_
  refine gw_icmp_lt (pc' := 9) (tgt := 10) κ dX3_addRider_6 rfl (by decide) (fun hc_1 => ?_) (fun hc_1 => ?_)
  · have h := h.1 hc_1
    refine gw_aload_n (pc' := 11) κ dX3_addRider_10 rfl 0 rfl rfl ?_
    refine gb_get (pc' := 14) (C := RX3) (T := TX3) (N := 10) κ dX3_addRider_11 rfl inX3 0 rfl rfl rfl 5 (by decide) tw_fl_X3_27 rfl ?_
    refine gw_aload_n (pc' := 15) κ dX3_addRider_14 rfl 0 rfl rfl ?_
    refine gb_get (pc' := 18) (C := RX3) (T := TX3) (N := 10) κ dX3_addRider_15 rfl inX3 0 rfl rfl rfl 9 (by decide) tw_fl_X3_48 rfl ?_
    refine gw_iload_n (pc' := 19) κ dX3_addRider_18 rfl 1 rfl rfl ?_
    obtain ⟨hb_2, h⟩ := h
    refine gb_iast (pc' := 20) (bs' := [cSt qa cI o0.se o0.la o0.de o0.le o0.sa (upd o0.fl o0.ri.toNatClampNeg x1) o0.ar o0.dr o0.pe o0.ri]) κ dX3_addRider_19 rfl 0 6 rfl rfl hb_2 rfl ?_
    refine gw_aload_n (pc' := 21) κ dX3_addRider_20 rfl 0 rfl rfl ?_
    refine gb_get (pc' := 24) (C := RX3) (T := TX3) (N := 10) κ dX3_addRider_21 rfl inX3 0 rfl rfl rfl 6 (by decide) tw_fl_X3_30 rfl ?_
    refine gw_aload_n (pc' := 25) κ dX3_addRider_24 rfl 0 rfl rfl ?_
    refine gb_get (pc' := 28) (C := RX3) (T := TX3) (N := 10) κ dX3_addRider_25 rfl inX3 0 rfl rfl rfl 9 (by decide) tw_fl_X3_48 rfl ?_
    refine gw_iload_n (pc' := 29) κ dX3_addRider_28 rfl 2 rfl rfl ?_
    obtain ⟨hb_3, h⟩ := h
    refine gb_iast (pc' := 30) (bs' := [cSt qa cI o0.se o0.la o0.de o0.le o0.sa (upd o0.fl o0.ri.toNatClampNeg x1) (upd o0.ar o0.ri.toNatClampNeg x2) o0.dr o0.pe o0.ri]) κ dX3_addRider_29 rfl 0 7 rfl rfl hb_3 rfl ?_
    refine gw_aload_n (pc' := 31) κ dX3_addRider_30 rfl 0 rfl rfl ?_
    refine gb_get (pc' := 34) (C := RX3) (T := TX3) (N := 10) κ dX3_addRider_31 rfl inX3 0 rfl rfl rfl 7 (by decide) tw_fl_X3_33 rfl ?_
    refine gw_aload_n (pc' := 35) κ dX3_addRider_34 rfl 0 rfl rfl ?_
    refine gb_get (pc' := 38) (C := RX3) (T := TX3) (N := 10) κ dX3_addRider_35 rfl inX3 0 rfl rfl rfl 9 (by decide) tw_fl_X3_48 rfl ?_
    refine gw_iload_n (pc' := 39) κ dX3_addRider_38 rfl 3 rfl rfl ?_
    obtain ⟨hb_4, h⟩ := h
    refine gb_iast (pc' := 40) (bs' := [cSt qa cI o0.se o0.la o0.de o0.le o0.sa (upd o0.fl o0.ri.toNatClampNeg x1) (upd o0.ar o0.ri.toNatClampNeg x2) (upd o0.dr o0.ri.toNatClampNeg x3) o0.pe o0.ri]) κ dX3_addRider_39 rfl 0 8 rfl rfl hb_4 rfl ?_
    refine gw_aload_n (pc' := 41) κ dX3_addRider_40 rfl 0 rfl rfl ?_
    refine gb_get (pc' := 44) (C := RX3) (T := TX3) (N := 10) κ dX3_addRider_41 rfl inX3 0 rfl rfl rfl 8 (by decide) tw_fl_X3_36 rfl ?_
    refine gw_aload_n (pc' := 45) κ dX3_addRider_44 rfl 0 rfl rfl ?_
    refine gb_get (pc' := 48) (C := RX3) (T := TX3) (N := 10) κ dX3_addRider_45 rfl inX3 0 rfl rfl rfl 9 (by decide) tw_fl_X3_48 rfl ?_
    refine gw_iload (pc' := 50) κ dX3_addRider_48 rfl 4 rfl ?_
    obtain ⟨hb_5, h⟩ := h
    refine gb_iast (pc' := 51) (bs' := [cSt qa cI o0.se o0.la o0.de o0.le o0.sa (upd o0.fl o0.ri.toNatClampNeg x1) (upd o0.ar o0.ri.toNatClampNeg x2) (upd o0.dr o0.ri.toNatClampNeg x3) (upd o0.pe o0.ri.toNatClampNeg x4) o0.ri]) κ dX3_addRider_50 rfl 0 9 rfl rfl hb_5 rfl ?_
    refine gw_aload_n (pc' := 52) κ dX3_addRider_51 rfl 0 rfl rfl ?_
    refine gw_dup (pc' := 53) κ dX3_addRider_52 rfl rfl ?_
    refine gb_get (pc' := 56) (C := RX3) (T := TX3) (N := 10) κ dX3_addRider_53 rfl inX3 0 rfl rfl rfl 9 (by decide) tw_fl_X3_48 rfl ?_
    refine gw_iconst (pc' := 57) (v := 1) κ dX3_addRider_56 rfl (by decide) ?_
    refine gw_iadd (pc' := 58) κ dX3_addRider_57 rfl  ?_
    refine gb_put (pc' := 61) (C := RX3) (T := TX3) (N := 10) (ty := .int) (bs' := [cSt qa cI o0.se o0.la o0.de o0.le o0.sa (upd o0.fl o0.ri.toNatClampNeg x1) (upd o0.ar o0.ri.toNatClampNeg x2) (upd o0.dr o0.ri.toNatClampNeg x3) (upd o0.pe o0.ri.toNatClampNeg x4) (o0.ri + (1 : Int32))]) κ dX3_addRider_58 rfl inX3 tyX3 tyX3_ok nmX3 0 rfl rfl rfl 9 (by decide) tw_fl_X3_48 rfl (by decide +kernel) rfl rfl (Nat.le_of_ble_eq_true rfl) rfl ?_
    exact gw_vret κ dX3_addRider_61 ((upd o0.fl o0.ri.toNatClampNeg x1), (upd o0.ar o0.ri.toNatClampNeg x2), (upd o0.dr o0.ri.toNatClampNeg x3), (upd o0.pe o0.ri.toNatClampNeg x4), (o0.ri + (1 : Int32))) rfl ⟨rfl, h⟩
  · have h := h.2 hc_1
    exact gw_vret κ dX3_addRider_9 (o0.fl, o0.ar, o0.dr, o0.pe, o0.ri) rfl ⟨rfl, h⟩
theorem hy_X5_ride : g_hy yX5_ride 4 := by decide +kernel
set_option maxHeartbeats 4000000 in
set_option maxRecDepth 100000 in
theorem c_X5_ride {l : Launch} {D : va_G} {cI cR : ClassId}  (qx : Nat → Nat) (qn : Nat → Nat) (qp : Nat → Nat) (qw : Nat → Nat) (qt : Nat → Nat) (qu : Nat → Nat) (qd : Nat → Nat) (qh : Nat → Nat) (ql : Nat → Nat) (qs : Nat → Nat → Nat) {P : Int32 → (Nat → Int32) → (Nat → Int32) → (Nat → Int32) → (Nat → Int32) → Int32 → (Nat → Int32) → (Nat → Int32) → (Nat → Int32) → (Nat → Int32) → (Nat → Int32) → Int32 → Int32 → Int32 → (Nat → StT) → Int32 → Int32 → Prop} (now : StT) (pln : PlT) (his : HiT) (x1 : Int32) (x2 : Int32) (x3 : Int32) (x4 : Int32) (h : wp_X5_ride P now pln his x1 x2 x3 x4) : CT l D cI cR yX5_ride cX5_ride 5 (some .int) ({ frames := 6, cells := 0, slots := 0, locals := 140 } : Room) [.ref (qx 0), .int x1, .int x2, .int x3, .int x4] (wfl [cX qx qn qp qw qt qu qd qh ql, cSt qn cI now.se now.la now.de now.le now.sa now.fl now.ar now.dr now.pe now.ri, cPl qp cI pln.od pln.rd pln.vn pln.pn pln.ao pln.sr pln.sp pln.wt, cHi qh qs cR his.ol his.sz, cSt (qs 0) cI (his.hs 0).se (his.hs 0).la (his.hs 0).de (his.hs 0).le (his.hs 0).sa (his.hs 0).fl (his.hs 0).ar (his.hs 0).dr (his.hs 0).pe (his.hs 0).ri, cSt (qs 1) cI (his.hs 1).se (his.hs 1).la (his.hs 1).de (his.hs 1).le (his.hs 1).sa (his.hs 1).fl (his.hs 1).ar (his.hs 1).dr (his.hs 1).pe (his.hs 1).ri, cSt (qs 2) cI (his.hs 2).se (his.hs 2).la (his.hs 2).de (his.hs 2).le (his.hs 2).sa (his.hs 2).fl (his.hs 2).ar (his.hs 2).dr (his.hs 2).pe (his.hs 2).ri, cSt (qs 3) cI (his.hs 3).se (his.hs 3).la (his.hs 3).de (his.hs 3).le (his.hs 3).sa (his.hs 3).fl (his.hs 3).ar (his.hs 3).dr (his.hs 3).pe (his.hs 3).ri, cSt (qs 4) cI (his.hs 4).se (his.hs 4).la (his.hs 4).de (his.hs 4).le (his.hs 4).sa (his.hs 4).fl (his.hs 4).ar (his.hs 4).dr (his.hs 4).pe (his.hs 4).ri, cSt (qs 5) cI (his.hs 5).se (his.hs 5).la (his.hs 5).de (his.hs 5).le (his.hs 5).sa (his.hs 5).fl (his.hs 5).ar (his.hs 5).dr (his.hs 5).pe (his.hs 5).ri]) (fun u : (Nat → Int32) × (Nat → Int32) × (Nat → Int32) × (Nat → Int32) × Int32 × (Nat → Int32) × (Nat → Int32) × (Nat → Int32) × (Nat → Int32) × (Nat → Int32) × Int32 × Int32 × Int32 × (Nat → StT) × Int32 × Int32 => (wfl [cX qx qn qp qw qt qu qd qh ql, cSt qn cI now.se now.la now.de now.le now.sa u.1 u.2.1 u.2.2.1 u.2.2.2.1 u.2.2.2.2.1, cPl qp cI u.2.2.2.2.2.1 u.2.2.2.2.2.2.1 u.2.2.2.2.2.2.2.1 u.2.2.2.2.2.2.2.2.1 u.2.2.2.2.2.2.2.2.2.1 u.2.2.2.2.2.2.2.2.2.2.1 u.2.2.2.2.2.2.2.2.2.2.2.1 u.2.2.2.2.2.2.2.2.2.2.2.2.1, cHi qh qs cR u.2.2.2.2.2.2.2.2.2.2.2.2.2.2.1 u.2.2.2.2.2.2.2.2.2.2.2.2.2.2.2, cSt (qs 0) cI (u.2.2.2.2.2.2.2.2.2.2.2.2.2.1 0).se (u.2.2.2.2.2.2.2.2.2.2.2.2.2.1 0).la (u.2.2.2.2.2.2.2.2.2.2.2.2.2.1 0).de (u.2.2.2.2.2.2.2.2.2.2.2.2.2.1 0).le (u.2.2.2.2.2.2.2.2.2.2.2.2.2.1 0).sa (u.2.2.2.2.2.2.2.2.2.2.2.2.2.1 0).fl (u.2.2.2.2.2.2.2.2.2.2.2.2.2.1 0).ar (u.2.2.2.2.2.2.2.2.2.2.2.2.2.1 0).dr (u.2.2.2.2.2.2.2.2.2.2.2.2.2.1 0).pe (u.2.2.2.2.2.2.2.2.2.2.2.2.2.1 0).ri, cSt (qs 1) cI (u.2.2.2.2.2.2.2.2.2.2.2.2.2.1 1).se (u.2.2.2.2.2.2.2.2.2.2.2.2.2.1 1).la (u.2.2.2.2.2.2.2.2.2.2.2.2.2.1 1).de (u.2.2.2.2.2.2.2.2.2.2.2.2.2.1 1).le (u.2.2.2.2.2.2.2.2.2.2.2.2.2.1 1).sa (u.2.2.2.2.2.2.2.2.2.2.2.2.2.1 1).fl (u.2.2.2.2.2.2.2.2.2.2.2.2.2.1 1).ar (u.2.2.2.2.2.2.2.2.2.2.2.2.2.1 1).dr (u.2.2.2.2.2.2.2.2.2.2.2.2.2.1 1).pe (u.2.2.2.2.2.2.2.2.2.2.2.2.2.1 1).ri, cSt (qs 2) cI (u.2.2.2.2.2.2.2.2.2.2.2.2.2.1 2).se (u.2.2.2.2.2.2.2.2.2.2.2.2.2.1 2).la (u.2.2.2.2.2.2.2.2.2.2.2.2.2.1 2).de (u.2.2.2.2.2.2.2.2.2.2.2.2.2.1 2).le (u.2.2.2.2.2.2.2.2.2.2.2.2.2.1 2).sa (u.2.2.2.2.2.2.2.2.2.2.2.2.2.1 2).fl (u.2.2.2.2.2.2.2.2.2.2.2.2.2.1 2).ar (u.2.2.2.2.2.2.2.2.2.2.2.2.2.1 2).dr (u.2.2.2.2.2.2.2.2.2.2.2.2.2.1 2).pe (u.2.2.2.2.2.2.2.2.2.2.2.2.2.1 2).ri, cSt (qs 3) cI (u.2.2.2.2.2.2.2.2.2.2.2.2.2.1 3).se (u.2.2.2.2.2.2.2.2.2.2.2.2.2.1 3).la (u.2.2.2.2.2.2.2.2.2.2.2.2.2.1 3).de (u.2.2.2.2.2.2.2.2.2.2.2.2.2.1 3).le (u.2.2.2.2.2.2.2.2.2.2.2.2.2.1 3).sa (u.2.2.2.2.2.2.2.2.2.2.2.2.2.1 3).fl (u.2.2.2.2.2.2.2.2.2.2.2.2.2.1 3).ar (u.2.2.2.2.2.2.2.2.2.2.2.2.2.1 3).dr (u.2.2.2.2.2.2.2.2.2.2.2.2.2.1 3).pe (u.2.2.2.2.2.2.2.2.2.2.2.2.2.1 3).ri, cSt (qs 4) cI (u.2.2.2.2.2.2.2.2.2.2.2.2.2.1 4).se (u.2.2.2.2.2.2.2.2.2.2.2.2.2.1 4).la (u.2.2.2.2.2.2.2.2.2.2.2.2.2.1 4).de (u.2.2.2.2.2.2.2.2.2.2.2.2.2.1 4).le (u.2.2.2.2.2.2.2.2.2.2.2.2.2.1 4).sa (u.2.2.2.2.2.2.2.2.2.2.2.2.2.1 4).fl (u.2.2.2.2.2.2.2.2.2.2.2.2.2.1 4).ar (u.2.2.2.2.2.2.2.2.2.2.2.2.2.1 4).dr (u.2.2.2.2.2.2.2.2.2.2.2.2.2.1 4).pe (u.2.2.2.2.2.2.2.2.2.2.2.2.2.1 4).ri, cSt (qs 5) cI (u.2.2.2.2.2.2.2.2.2.2.2.2.2.1 5).se (u.2.2.2.2.2.2.2.2.2.2.2.2.2.1 5).la (u.2.2.2.2.2.2.2.2.2.2.2.2.2.1 5).de (u.2.2.2.2.2.2.2.2.2.2.2.2.2.1 5).le (u.2.2.2.2.2.2.2.2.2.2.2.2.2.1 5).sa (u.2.2.2.2.2.2.2.2.2.2.2.2.2.1 5).fl (u.2.2.2.2.2.2.2.2.2.2.2.2.2.1 5).ar (u.2.2.2.2.2.2.2.2.2.2.2.2.2.1 5).dr (u.2.2.2.2.2.2.2.2.2.2.2.2.2.1 5).pe (u.2.2.2.2.2.2.2.2.2.2.2.2.2.1 5).ri])) (pI (fun (r : Int32) (u : (Nat → Int32) × (Nat → Int32) × (Nat → Int32) × (Nat → Int32) × Int32 × (Nat → Int32) × (Nat → Int32) × (Nat → Int32) × (Nat → Int32) × (Nat → Int32) × Int32 × Int32 × Int32 × (Nat → StT) × Int32 × Int32) => P r u.1 u.2.1 u.2.2.1 u.2.2.2.1 u.2.2.2.2.1 u.2.2.2.2.2.1 u.2.2.2.2.2.2.1 u.2.2.2.2.2.2.2.1 u.2.2.2.2.2.2.2.2.1 u.2.2.2.2.2.2.2.2.2.1 u.2.2.2.2.2.2.2.2.2.2.1 u.2.2.2.2.2.2.2.2.2.2.2.1 u.2.2.2.2.2.2.2.2.2.2.2.2.1 u.2.2.2.2.2.2.2.2.2.2.2.2.2.1 u.2.2.2.2.2.2.2.2.2.2.2.2.2.2.1 u.2.2.2.2.2.2.2.2.2.2.2.2.2.2.2)) 0 0 := by
  refine ct_of RX5 rfl (by decide +kernel) (Nat.le_of_ble_eq_true rfl) (fun zp ze zs zm zb zt zc A hin κ => ?_)
  unfold wp_X5_ride at h
  refine gw_nf (lv' := [(0, .ref (qx 0)), (1, .int x1), (2, .int x2), (3, .int x3), (4, .int x4)]) (pc' := 0) (st' := []) (ce' := 0) (sl' := 0) rfl rfl rfl rfl rfl rfl ?_
  refine gw_iload_n (pc' := 1) κ dX5_ride_0 rfl 1 rfl rfl ?_
  refine gb_callS (rest := []) κ (c_X5_isFlight  x1 h) ⟨rfl, rfl, Nat.le_of_ble_eq_true rfl, Nat.le_of_ble_eq_true rfl⟩ tw_ml_X5_75 tw_st_X5_isFlight tw_co_X5_isFlight tw_in_X5 hy_X5_isFlight rfl (Nat.le_of_ble_eq_true rfl) rfl dX5_ride_1 [] rfl (by decide) (fun _ => Nat.le_of_ble_eq_true rfl) ⟨Nat.le_of_ble_eq_true rfl, Nat.le_of_ble_eq_true rfl⟩ (fun v u hv => ?_)
  obtain ⟨r_1, rfl, h⟩ := hv
  refine gw_nf (ws' := (wfl [cX qx qn qp qw qt qu qd qh ql, cSt qn cI now.se now.la now.de now.le now.sa now.fl now.ar now.dr now.pe now.ri, cPl qp cI pln.od pln.rd pln.vn pln.pn pln.ao pln.sr pln.sp pln.wt, cHi qh qs cR his.ol his.sz, cSt (qs 0) cI (his.hs 0).se (his.hs 0).la (his.hs 0).de (his.hs 0).le (his.hs 0).sa (his.hs 0).fl (his.hs 0).ar (his.hs 0).dr (his.hs 0).pe (his.hs 0).ri, cSt (qs 1) cI (his.hs 1).se (his.hs 1).la (his.hs 1).de (his.hs 1).le (his.hs 1).sa (his.hs 1).fl (his.hs 1).ar (his.hs 1).dr (his.hs 1).pe (his.hs 1).ri, cSt (qs 2) cI (his.hs 2).se (his.hs 2).la (his.hs 2).de (his.hs 2).le (his.hs 2).sa (his.hs 2).fl (his.hs 2).ar (his.hs 2).dr (his.hs 2).pe (his.hs 2).ri, cSt (qs 3) cI (his.hs 3).se (his.hs 3).la (his.hs 3).de (his.hs 3).le (his.hs 3).sa (his.hs 3).fl (his.hs 3).ar (his.hs 3).dr (his.hs 3).pe (his.hs 3).ri, cSt (qs 4) cI (his.hs 4).se (his.hs 4).la (his.hs 4).de (his.hs 4).le (his.hs 4).sa (his.hs 4).fl (his.hs 4).ar (his.hs 4).dr (his.hs 4).pe (his.hs 4).ri, cSt (qs 5) cI (his.hs 5).se (his.hs 5).la (his.hs 5).de (his.hs 5).le (his.hs 5).sa (his.hs 5).fl (his.hs 5).ar (his.hs 5).dr (his.hs 5).pe (his.hs 5).ri])) (lv' := [(0, .ref (qx 0)), (1, .int x1), (2, .int x2), (3, .int x3), (4, .int x4)]) (st' := [.int r_1]) (pc' := 4) (ce' := 0) (sl' := 0) rfl rfl rfl rfl rfl rfl ?_
  refine gw_if_eq (pc' := 7) (tgt := 16) κ dX5_ride_4 rfl (by decide) (fun hc_2 => ?_) (fun hc_2 => ?_)
  · have h := h.1 hc_2
    refine gw_bipush (pc' := 18) (v := -101) κ dX5_ride_16 rfl (by decide) ?_
    exact gw_iret κ dX5_ride_18 (now.fl, now.ar, now.dr, now.pe, now.ri, pln.od, pln.rd, pln.vn, pln.pn, pln.ao, pln.sr, pln.sp, pln.wt, his.hs, his.ol, his.sz) rfl ⟨_, rfl, h⟩
  · have h := h.2 hc_2
    refine gw_iload_n (pc' := 8) κ dX5_ride_7 rfl 2 rfl rfl ?_
    refine gw_iconst (pc' := 9) (v := 0) κ dX5_ride_8 rfl (by decide) ?_
    refine gw_iconst (pc' := 10) (v := 5) κ dX5_ride_9 rfl (by decide) ?_
    refine gb_callS (rest := []) κ (c_X5_isIn  x2 (0 : Int32) (5 : Int32) h) ⟨rfl, rfl, Nat.le_of_ble_eq_true rfl, Nat.le_of_ble_eq_true rfl⟩ tw_ml_X5_54 tw_st_X5_isIn tw_co_X5_isIn tw_in_X5 hy_X5_isIn rfl (Nat.le_of_ble_eq_true rfl) rfl dX5_ride_10 [] rfl (by decide) (fun _ => Nat.le_of_ble_eq_true rfl) ⟨Nat.le_of_ble_eq_true rfl, Nat.le_of_ble_eq_true rfl⟩ (fun v u hv => ?_)
    obtain ⟨r_3, rfl, h⟩ := hv
    refine gw_nf (ws' := (wfl [cX qx qn qp qw qt qu qd qh ql, cSt qn cI now.se now.la now.de now.le now.sa now.fl now.ar now.dr now.pe now.ri, cPl qp cI pln.od pln.rd pln.vn pln.pn pln.ao pln.sr pln.sp pln.wt, cHi qh qs cR his.ol his.sz, cSt (qs 0) cI (his.hs 0).se (his.hs 0).la (his.hs 0).de (his.hs 0).le (his.hs 0).sa (his.hs 0).fl (his.hs 0).ar (his.hs 0).dr (his.hs 0).pe (his.hs 0).ri, cSt (qs 1) cI (his.hs 1).se (his.hs 1).la (his.hs 1).de (his.hs 1).le (his.hs 1).sa (his.hs 1).fl (his.hs 1).ar (his.hs 1).dr (his.hs 1).pe (his.hs 1).ri, cSt (qs 2) cI (his.hs 2).se (his.hs 2).la (his.hs 2).de (his.hs 2).le (his.hs 2).sa (his.hs 2).fl (his.hs 2).ar (his.hs 2).dr (his.hs 2).pe (his.hs 2).ri, cSt (qs 3) cI (his.hs 3).se (his.hs 3).la (his.hs 3).de (his.hs 3).le (his.hs 3).sa (his.hs 3).fl (his.hs 3).ar (his.hs 3).dr (his.hs 3).pe (his.hs 3).ri, cSt (qs 4) cI (his.hs 4).se (his.hs 4).la (his.hs 4).de (his.hs 4).le (his.hs 4).sa (his.hs 4).fl (his.hs 4).ar (his.hs 4).dr (his.hs 4).pe (his.hs 4).ri, cSt (qs 5) cI (his.hs 5).se (his.hs 5).la (his.hs 5).de (his.hs 5).le (his.hs 5).sa (his.hs 5).fl (his.hs 5).ar (his.hs 5).dr (his.hs 5).pe (his.hs 5).ri])) (lv' := [(0, .ref (qx 0)), (1, .int x1), (2, .int x2), (3, .int x3), (4, .int x4)]) (st' := [.int r_3]) (pc' := 13) (ce' := 0) (sl' := 0) rfl rfl rfl rfl rfl rfl ?_
    refine gw_if_ne (pc' := 16) (tgt := 19) κ dX5_ride_13 rfl (by decide) (fun hc_4 => ?_) (fun hc_4 => ?_)
    · have h := h.1 hc_4
      refine gw_iload_n (pc' := 20) κ dX5_ride_19 rfl 3 rfl rfl ?_
      refine gw_iconst (pc' := 21) (v := 0) κ dX5_ride_20 rfl (by decide) ?_
      refine gw_bipush (pc' := 23) (v := 99) κ dX5_ride_21 rfl (by decide) ?_
      refine gb_callS (rest := []) κ (c_X5_isIn  x3 (0 : Int32) (99 : Int32) h) ⟨rfl, rfl, Nat.le_of_ble_eq_true rfl, Nat.le_of_ble_eq_true rfl⟩ tw_ml_X5_54 tw_st_X5_isIn tw_co_X5_isIn tw_in_X5 hy_X5_isIn rfl (Nat.le_of_ble_eq_true rfl) rfl dX5_ride_23 [] rfl (by decide) (fun _ => Nat.le_of_ble_eq_true rfl) ⟨Nat.le_of_ble_eq_true rfl, Nat.le_of_ble_eq_true rfl⟩ (fun v u hv => ?_)
      obtain ⟨r_5, rfl, h⟩ := hv
      refine gw_nf (ws' := (wfl [cX qx qn qp qw qt qu qd qh ql, cSt qn cI now.se now.la now.de now.le now.sa now.fl now.ar now.dr now.pe now.ri, cPl qp cI pln.od pln.rd pln.vn pln.pn pln.ao pln.sr pln.sp pln.wt, cHi qh qs cR his.ol his.sz, cSt (qs 0) cI (his.hs 0).se (his.hs 0).la (his.hs 0).de (his.hs 0).le (his.hs 0).sa (his.hs 0).fl (his.hs 0).ar (his.hs 0).dr (his.hs 0).pe (his.hs 0).ri, cSt (qs 1) cI (his.hs 1).se (his.hs 1).la (his.hs 1).de (his.hs 1).le (his.hs 1).sa (his.hs 1).fl (his.hs 1).ar (his.hs 1).dr (his.hs 1).pe (his.hs 1).ri, cSt (qs 2) cI (his.hs 2).se (his.hs 2).la (his.hs 2).de (his.hs 2).le (his.hs 2).sa (his.hs 2).fl (his.hs 2).ar (his.hs 2).dr (his.hs 2).pe (his.hs 2).ri, cSt (qs 3) cI (his.hs 3).se (his.hs 3).la (his.hs 3).de (his.hs 3).le (his.hs 3).sa (his.hs 3).fl (his.hs 3).ar (his.hs 3).dr (his.hs 3).pe (his.hs 3).ri, cSt (qs 4) cI (his.hs 4).se (his.hs 4).la (his.hs 4).de (his.hs 4).le (his.hs 4).sa (his.hs 4).fl (his.hs 4).ar (his.hs 4).dr (his.hs 4).pe (his.hs 4).ri, cSt (qs 5) cI (his.hs 5).se (his.hs 5).la (his.hs 5).de (his.hs 5).le (his.hs 5).sa (his.hs 5).fl (his.hs 5).ar (his.hs 5).dr (his.hs 5).pe (his.hs 5).ri])) (lv' := [(0, .ref (qx 0)), (1, .int x1), (2, .int x2), (3, .int x3), (4, .int x4)]) (st' := [.int r_5]) (pc' := 26) (ce' := 0) (sl' := 0) rfl rfl rfl rfl rfl rfl ?_
      refine gw_if_eq (pc' := 29) (tgt := 39) κ dX5_ride_26 rfl (by decide) (fun hc_6 => ?_) (fun hc_6 => ?_)
      · have h := h.1 hc_6
        refine gw_bipush (pc' := 41) (v := -102) κ dX5_ride_39 rfl (by decide) ?_
        exact gw_iret κ dX5_ride_41 (now.fl, now.ar, now.dr, now.pe, now.ri, pln.od, pln.rd, pln.vn, pln.pn, pln.ao, pln.sr, pln.sp, pln.wt, his.hs, his.ol, his.sz) rfl ⟨_, rfl, h⟩
      · have h := h.2 hc_6
        refine gw_iload (pc' := 31) κ dX5_ride_29 rfl 4 rfl ?_
        refine gw_iconst (pc' := 32) (v := 1) κ dX5_ride_31 rfl (by decide) ?_
        refine gw_iconst (pc' := 33) (v := 4) κ dX5_ride_32 rfl (by decide) ?_
        refine gb_callS (rest := []) κ (c_X5_isIn  x4 (1 : Int32) (4 : Int32) h) ⟨rfl, rfl, Nat.le_of_ble_eq_true rfl, Nat.le_of_ble_eq_true rfl⟩ tw_ml_X5_54 tw_st_X5_isIn tw_co_X5_isIn tw_in_X5 hy_X5_isIn rfl (Nat.le_of_ble_eq_true rfl) rfl dX5_ride_33 [] rfl (by decide) (fun _ => Nat.le_of_ble_eq_true rfl) ⟨Nat.le_of_ble_eq_true rfl, Nat.le_of_ble_eq_true rfl⟩ (fun v u hv => ?_)
        obtain ⟨r_7, rfl, h⟩ := hv
        refine gw_nf (ws' := (wfl [cX qx qn qp qw qt qu qd qh ql, cSt qn cI now.se now.la now.de now.le now.sa now.fl now.ar now.dr now.pe now.ri, cPl qp cI pln.od pln.rd pln.vn pln.pn pln.ao pln.sr pln.sp pln.wt, cHi qh qs cR his.ol his.sz, cSt (qs 0) cI (his.hs 0).se (his.hs 0).la (his.hs 0).de (his.hs 0).le (his.hs 0).sa (his.hs 0).fl (his.hs 0).ar (his.hs 0).dr (his.hs 0).pe (his.hs 0).ri, cSt (qs 1) cI (his.hs 1).se (his.hs 1).la (his.hs 1).de (his.hs 1).le (his.hs 1).sa (his.hs 1).fl (his.hs 1).ar (his.hs 1).dr (his.hs 1).pe (his.hs 1).ri, cSt (qs 2) cI (his.hs 2).se (his.hs 2).la (his.hs 2).de (his.hs 2).le (his.hs 2).sa (his.hs 2).fl (his.hs 2).ar (his.hs 2).dr (his.hs 2).pe (his.hs 2).ri, cSt (qs 3) cI (his.hs 3).se (his.hs 3).la (his.hs 3).de (his.hs 3).le (his.hs 3).sa (his.hs 3).fl (his.hs 3).ar (his.hs 3).dr (his.hs 3).pe (his.hs 3).ri, cSt (qs 4) cI (his.hs 4).se (his.hs 4).la (his.hs 4).de (his.hs 4).le (his.hs 4).sa (his.hs 4).fl (his.hs 4).ar (his.hs 4).dr (his.hs 4).pe (his.hs 4).ri, cSt (qs 5) cI (his.hs 5).se (his.hs 5).la (his.hs 5).de (his.hs 5).le (his.hs 5).sa (his.hs 5).fl (his.hs 5).ar (his.hs 5).dr (his.hs 5).pe (his.hs 5).ri])) (lv' := [(0, .ref (qx 0)), (1, .int x1), (2, .int x2), (3, .int x3), (4, .int x4)]) (st' := [.int r_7]) (pc' := 36) (ce' := 0) (sl' := 0) rfl rfl rfl rfl rfl rfl ?_
        refine gw_if_ne (pc' := 39) (tgt := 42) κ dX5_ride_36 rfl (by decide) (fun hc_8 => ?_) (fun hc_8 => ?_)
        · have h := h.1 hc_8
          refine gw_aload_n (pc' := 43) κ dX5_ride_42 rfl 0 rfl rfl ?_
          refine gb_get (pc' := 46) (C := RX5) (T := TX5) (N := 8) κ dX5_ride_43 rfl inX5 0 rfl rfl rfl 0 (by decide) tw_fl_X5_10 rfl ?_
          refine gb_get (pc' := 49) (C := RX3) (T := TX3) (N := 10) κ dX5_ride_46 rfl inX3 1 rfl rfl rfl 9 (by decide) tw_fl_X5_105 rfl ?_
          refine gw_bipush (pc' := 51) (v := 24) κ dX5_ride_49 rfl (by decide) ?_
          refine gw_icmp_lt (pc' := 54) (tgt := 57) κ dX5_ride_51 rfl (by decide) (fun hc_9 => ?_) (fun hc_9 => ?_)
          · have h := h.1 hc_9
            refine gw_aload_n (pc' := 58) κ dX5_ride_57 rfl 0 rfl rfl ?_
            refine gb_get (pc' := 61) (C := RX5) (T := TX5) (N := 8) κ dX5_ride_58 rfl inX5 0 rfl rfl rfl 6 (by decide) tw_fl_X5_46 rfl ?_
            refine gw_aload_n (pc' := 62) κ dX5_ride_61 rfl 0 rfl rfl ?_
            refine gb_get (pc' := 65) (C := RX5) (T := TX5) (N := 8) κ dX5_ride_62 rfl inX5 0 rfl rfl rfl 0 (by decide) tw_fl_X5_10 rfl ?_
            refine gb_callV (ci := 0) (qb := 3) (rest := []) κ (c_X0_record qh qn qs his now h) ⟨rfl, rfl, Nat.le_of_ble_eq_true rfl, Nat.le_of_ble_eq_true rfl⟩ tw_ml_X5_68 tw_im_X0_record tw_se_X0_record tw_co_X0_record tw_in_X0 hy_X0_record rfl rfl rfl rfl rfl (Nat.le_of_ble_eq_true rfl) rfl dX5_ride_65 [3, 4, 5, 6, 7, 8, 9, 1] rfl (by decide) (fun _ => Nat.le_of_ble_eq_true rfl) ⟨Nat.le_of_ble_eq_true rfl, Nat.le_of_ble_eq_true rfl⟩ (fun v u hv => ?_)
            obtain ⟨rfl, h⟩ := hv
            obtain ⟨hs_10, ol_11, sz_12⟩ := u
            refine gw_nf (ws' := (wfl [cX qx qn qp qw qt qu qd qh ql, cSt qn cI now.se now.la now.de now.le now.sa now.fl now.ar now.dr now.pe now.ri, cPl qp cI pln.od pln.rd pln.vn pln.pn pln.ao pln.sr pln.sp pln.wt, cHi qh qs cR ol_11 sz_12, cSt (qs 0) cI (hs_10 0).se (hs_10 0).la (hs_10 0).de (hs_10 0).le (hs_10 0).sa (hs_10 0).fl (hs_10 0).ar (hs_10 0).dr (hs_10 0).pe (hs_10 0).ri, cSt (qs 1) cI (hs_10 1).se (hs_10 1).la (hs_10 1).de (hs_10 1).le (hs_10 1).sa (hs_10 1).fl (hs_10 1).ar (hs_10 1).dr (hs_10 1).pe (hs_10 1).ri, cSt (qs 2) cI (hs_10 2).se (hs_10 2).la (hs_10 2).de (hs_10 2).le (hs_10 2).sa (hs_10 2).fl (hs_10 2).ar (hs_10 2).dr (hs_10 2).pe (hs_10 2).ri, cSt (qs 3) cI (hs_10 3).se (hs_10 3).la (hs_10 3).de (hs_10 3).le (hs_10 3).sa (hs_10 3).fl (hs_10 3).ar (hs_10 3).dr (hs_10 3).pe (hs_10 3).ri, cSt (qs 4) cI (hs_10 4).se (hs_10 4).la (hs_10 4).de (hs_10 4).le (hs_10 4).sa (hs_10 4).fl (hs_10 4).ar (hs_10 4).dr (hs_10 4).pe (hs_10 4).ri, cSt (qs 5) cI (hs_10 5).se (hs_10 5).la (hs_10 5).de (hs_10 5).le (hs_10 5).sa (hs_10 5).fl (hs_10 5).ar (hs_10 5).dr (hs_10 5).pe (hs_10 5).ri])) (lv' := [(0, .ref (qx 0)), (1, .int x1), (2, .int x2), (3, .int x3), (4, .int x4)]) (st' := []) (pc' := 68) (ce' := 0) (sl' := 0) rfl rfl rfl rfl rfl rfl ?_
            refine gw_aload_n (pc' := 69) κ dX5_ride_68 rfl 0 rfl rfl ?_
            refine gb_get (pc' := 72) (C := RX5) (T := TX5) (N := 8) κ dX5_ride_69 rfl inX5 0 rfl rfl rfl 0 (by decide) tw_fl_X5_10 rfl ?_
            refine gw_iload_n (pc' := 73) κ dX5_ride_72 rfl 1 rfl rfl ?_
            refine gw_iload_n (pc' := 74) κ dX5_ride_73 rfl 2 rfl rfl ?_
            refine gw_iload_n (pc' := 75) κ dX5_ride_74 rfl 3 rfl rfl ?_
            refine gw_iload (pc' := 77) κ dX5_ride_75 rfl 4 rfl ?_
            refine gb_callV (ci := 3) (qb := 1) (rest := []) κ (c_X3_addRider qn now x1 x2 x3 x4 h) ⟨rfl, rfl, Nat.le_of_ble_eq_true rfl, Nat.le_of_ble_eq_true rfl⟩ tw_ml_X5_108 tw_im_X3_addRider tw_se_X3_addRider tw_co_X3_addRider tw_in_X3 hy_X3_addRider rfl rfl rfl rfl rfl (Nat.le_of_ble_eq_true rfl) rfl dX5_ride_77 [1] rfl (by decide) (fun _ => Nat.le_of_ble_eq_true rfl) ⟨Nat.le_of_ble_eq_true rfl, Nat.le_of_ble_eq_true rfl⟩ (fun v u hv => ?_)
            obtain ⟨rfl, h⟩ := hv
            obtain ⟨fl_13, ar_14, dr_15, pe_16, ri_17⟩ := u
            refine gw_nf (ws' := (wfl [cX qx qn qp qw qt qu qd qh ql, cSt qn cI now.se now.la now.de now.le now.sa fl_13 ar_14 dr_15 pe_16 ri_17, cPl qp cI pln.od pln.rd pln.vn pln.pn pln.ao pln.sr pln.sp pln.wt, cHi qh qs cR ol_11 sz_12, cSt (qs 0) cI (hs_10 0).se (hs_10 0).la (hs_10 0).de (hs_10 0).le (hs_10 0).sa (hs_10 0).fl (hs_10 0).ar (hs_10 0).dr (hs_10 0).pe (hs_10 0).ri, cSt (qs 1) cI (hs_10 1).se (hs_10 1).la (hs_10 1).de (hs_10 1).le (hs_10 1).sa (hs_10 1).fl (hs_10 1).ar (hs_10 1).dr (hs_10 1).pe (hs_10 1).ri, cSt (qs 2) cI (hs_10 2).se (hs_10 2).la (hs_10 2).de (hs_10 2).le (hs_10 2).sa (hs_10 2).fl (hs_10 2).ar (hs_10 2).dr (hs_10 2).pe (hs_10 2).ri, cSt (qs 3) cI (hs_10 3).se (hs_10 3).la (hs_10 3).de (hs_10 3).le (hs_10 3).sa (hs_10 3).fl (hs_10 3).ar (hs_10 3).dr (hs_10 3).pe (hs_10 3).ri, cSt (qs 4) cI (hs_10 4).se (hs_10 4).la (hs_10 4).de (hs_10 4).le (hs_10 4).sa (hs_10 4).fl (hs_10 4).ar (hs_10 4).dr (hs_10 4).pe (hs_10 4).ri, cSt (qs 5) cI (hs_10 5).se (hs_10 5).la (hs_10 5).de (hs_10 5).le (hs_10 5).sa (hs_10 5).fl (hs_10 5).ar (hs_10 5).dr (hs_10 5).pe (hs_10 5).ri])) (lv' := [(0, .ref (qx 0)), (1, .int x1), (2, .int x2), (3, .int x3), (4, .int x4)]) (st' := []) (pc' := 80) (ce' := 0) (sl' := 0) rfl rfl rfl rfl rfl rfl ?_
            refine gw_aload_n (pc' := 81) κ dX5_ride_80 rfl 0 rfl rfl ?_
            refine gb_get (pc' := 84) (C := RX5) (T := TX5) (N := 8) κ dX5_ride_81 rfl inX5 0 rfl rfl rfl 1 (by decide) tw_fl_X5_19 rfl ?_
            refine gw_aload_n (pc' := 85) κ dX5_ride_84 rfl 0 rfl rfl ?_
            refine gb_get (pc' := 88) (C := RX5) (T := TX5) (N := 8) κ dX5_ride_85 rfl inX5 0 rfl rfl rfl 0 (by decide) tw_fl_X5_10 rfl ?_
            refine gb_callV (ci := 2) (qb := 2) (rest := []) κ (c_X2_make qp qn pln (mkSt now.se now.la now.de now.le now.sa fl_13 ar_14 dr_15 pe_16 ri_17) h) ⟨rfl, rfl, Nat.le_of_ble_eq_true rfl, Nat.le_of_ble_eq_true rfl⟩ tw_ml_X5_72 tw_im_X2_make tw_se_X2_make tw_co_X2_make tw_in_X2 hy_X2_make rfl rfl rfl rfl rfl (Nat.le_of_ble_eq_true rfl) rfl dX5_ride_88 [2, 1] rfl (by decide) (fun _ => Nat.le_of_ble_eq_true rfl) ⟨Nat.le_of_ble_eq_true rfl, Nat.le_of_ble_eq_true rfl⟩ (fun v u hv => ?_)
            obtain ⟨rfl, h⟩ := hv
            obtain ⟨od_18, rd_19, vn_20, pn_21, ao_22, sr_23, sp_24, wt_25⟩ := u
            refine gw_nf (ws' := (wfl [cX qx qn qp qw qt qu qd qh ql, cSt qn cI now.se now.la now.de now.le now.sa fl_13 ar_14 dr_15 pe_16 ri_17, cPl qp cI od_18 rd_19 vn_20 pn_21 ao_22 sr_23 sp_24 wt_25, cHi qh qs cR ol_11 sz_12, cSt (qs 0) cI (hs_10 0).se (hs_10 0).la (hs_10 0).de (hs_10 0).le (hs_10 0).sa (hs_10 0).fl (hs_10 0).ar (hs_10 0).dr (hs_10 0).pe (hs_10 0).ri, cSt (qs 1) cI (hs_10 1).se (hs_10 1).la (hs_10 1).de (hs_10 1).le (hs_10 1).sa (hs_10 1).fl (hs_10 1).ar (hs_10 1).dr (hs_10 1).pe (hs_10 1).ri, cSt (qs 2) cI (hs_10 2).se (hs_10 2).la (hs_10 2).de (hs_10 2).le (hs_10 2).sa (hs_10 2).fl (hs_10 2).ar (hs_10 2).dr (hs_10 2).pe (hs_10 2).ri, cSt (qs 3) cI (hs_10 3).se (hs_10 3).la (hs_10 3).de (hs_10 3).le (hs_10 3).sa (hs_10 3).fl (hs_10 3).ar (hs_10 3).dr (hs_10 3).pe (hs_10 3).ri, cSt (qs 4) cI (hs_10 4).se (hs_10 4).la (hs_10 4).de (hs_10 4).le (hs_10 4).sa (hs_10 4).fl (hs_10 4).ar (hs_10 4).dr (hs_10 4).pe (hs_10 4).ri, cSt (qs 5) cI (hs_10 5).se (hs_10 5).la (hs_10 5).de (hs_10 5).le (hs_10 5).sa (hs_10 5).fl (hs_10 5).ar (hs_10 5).dr (hs_10 5).pe (hs_10 5).ri])) (lv' := [(0, .ref (qx 0)), (1, .int x1), (2, .int x2), (3, .int x3), (4, .int x4)]) (st' := []) (pc' := 91) (ce' := 0) (sl' := 0) rfl rfl rfl rfl rfl rfl ?_
            refine gw_aload_n (pc' := 92) κ dX5_ride_91 rfl 0 rfl rfl ?_
            refine gb_get (pc' := 95) (C := RX5) (T := TX5) (N := 8) κ dX5_ride_92 rfl inX5 0 rfl rfl rfl 0 (by decide) tw_fl_X5_10 rfl ?_
            refine gb_get (pc' := 98) (C := RX3) (T := TX3) (N := 10) κ dX5_ride_95 rfl inX3 1 rfl rfl rfl 9 (by decide) tw_fl_X5_105 rfl ?_
            refine gw_iconst (pc' := 99) (v := 1) κ dX5_ride_98 rfl (by decide) ?_
            refine gw_isub (pc' := 100) κ dX5_ride_99 rfl  ?_
            exact gw_iret κ dX5_ride_100 (fl_13, ar_14, dr_15, pe_16, ri_17, od_18, rd_19, vn_20, pn_21, ao_22, sr_23, sp_24, wt_25, hs_10, ol_11, sz_12) rfl ⟨_, rfl, h⟩
          · have h := h.2 hc_9
            refine gw_bipush (pc' := 56) (v := -104) κ dX5_ride_54 rfl (by decide) ?_
            exact gw_iret κ dX5_ride_56 (now.fl, now.ar, now.dr, now.pe, now.ri, pln.od, pln.rd, pln.vn, pln.pn, pln.ao, pln.sr, pln.sp, pln.wt, his.hs, his.ol, his.sz) rfl ⟨_, rfl, h⟩
        · have h := h.2 hc_8
          refine gw_bipush (pc' := 41) (v := -102) κ dX5_ride_39 rfl (by decide) ?_
          exact gw_iret κ dX5_ride_41 (now.fl, now.ar, now.dr, now.pe, now.ri, pln.od, pln.rd, pln.vn, pln.pn, pln.ao, pln.sr, pln.sp, pln.wt, his.hs, his.ol, his.sz) rfl ⟨_, rfl, h⟩
    · have h := h.2 hc_4
      refine gw_bipush (pc' := 18) (v := -101) κ dX5_ride_16 rfl (by decide) ?_
      exact gw_iret κ dX5_ride_18 (now.fl, now.ar, now.dr, now.pe, now.ri, pln.od, pln.rd, pln.vn, pln.pn, pln.ao, pln.sr, pln.sp, pln.wt, his.hs, his.ol, his.sz) rfl ⟨_, rfl, h⟩
theorem hy_X1_isDigit : g_hy yX1_isDigit 1 := by decide +kernel
set_option maxHeartbeats 4000000 in
set_option maxRecDepth 100000 in
theorem c_X1_isDigit {l : Launch} {D : va_G} {cI cR : ClassId}  {P : Int32 → Prop} (x0 : Int32) (h : wp_X1_isDigit P x0) : CT l D cI cR yX1_isDigit cX1_isDigit 1 (some .boolean) ({ frames := 1, cells := 0, slots := 0, locals := 22 } : Room) [.int x0] (wfl ([] : List va_W)) (fun _ : Unit => (wfl ([] : List va_W))) (pI (fun (r : Int32) (_ : Unit) => P r)) 0 0 := by
  refine ct_of RX1 rfl (by decide +kernel) (Nat.le_of_ble_eq_true rfl) (fun zp ze zs zm zb zt zc A hin κ => ?_)
  unfold wp_X1_isDigit at h
  refine gw_nf (lv' := [(0, .int x0)]) (pc' := 0) (st' := []) (ce' := 0) (sl' := 0) rfl rfl rfl rfl rfl rfl ?_
  refine gw_iload_n (pc' := 1) κ dX1_isDigit_0 rfl 0 rfl rfl ?_
  refine gw_bipush (pc' := 3) (v := 48) κ dX1_isDigit_1 rfl (by decide) ?_
  refine gw_bipush (pc' := 5) (v := 57) κ dX1_isDigit_3 rfl (by decide) ?_
  refine gb_callSN (rest := []) κ (c_X5_isIn  x0 (48 : Int32) (57 : Int32) h) ⟨rfl, rfl, Nat.le_of_ble_eq_true rfl, Nat.le_of_ble_eq_true rfl⟩ κ.2.2.2.1.2.2.2.2.2.2.2.2.2.1 tw_st_X5_isIn tw_co_X5_isIn tw_in_X5 hy_X5_isIn rfl (Nat.le_of_ble_eq_true rfl) rfl dX1_isDigit_5 [] rfl (by decide) (fun _ => Nat.le_of_ble_eq_true rfl) ⟨Nat.le_of_ble_eq_true rfl, Nat.le_of_ble_eq_true rfl⟩ (fun v u hv => ?_)
  obtain ⟨r_1, rfl, h⟩ := hv
  refine gw_nf (ws' := (wfl ([] : List va_W))) (lv' := [(0, .int x0)]) (st' := [.int r_1]) (pc' := 8) (ce' := 0) (sl' := 0) rfl rfl rfl rfl rfl rfl ?_
  obtain ⟨hb9, h⟩ := h
  exact gw_zret κ dX1_isDigit_8 () rfl hb9 ⟨_, rfl, h⟩
theorem hy_X1_afterFirstDigit : g_hy yX1_afterFirstDigit 1 := by decide +kernel
set_option maxHeartbeats 4000000 in
set_option maxRecDepth 100000 in
theorem c_X1_afterFirstDigit {l : Launch} {D : va_G} {cI cR : ClassId}  {P : Int32 → Prop} (x0 : Int32) (h : wp_X1_afterFirstDigit P x0) : CT l D cI cR yX1_afterFirstDigit cX1_afterFirstDigit 1 (some .int) ({ frames := 2, cells := 0, slots := 0, locals := 42 } : Room) [.int x0] (wfl ([] : List va_W)) (fun _ : Unit => (wfl ([] : List va_W))) (pI (fun (r : Int32) (_ : Unit) => P r)) 0 0 := by
  refine ct_of RX1 rfl (by decide +kernel) (Nat.le_of_ble_eq_true rfl) (fun zp ze zs zm zb zt zc A hin κ => ?_)
  unfold wp_X1_afterFirstDigit at h
  refine gw_nf (lv' := [(0, .int x0)]) (pc' := 0) (st' := []) (ce' := 0) (sl' := 0) rfl rfl rfl rfl rfl rfl ?_
  refine gw_iload_n (pc' := 1) κ dX1_afterFirstDigit_0 rfl 0 rfl rfl ?_
  refine gb_callS (rest := []) κ (c_X1_isDigit  x0 h) ⟨rfl, rfl, Nat.le_of_ble_eq_true rfl, Nat.le_of_ble_eq_true rfl⟩ tw_ml_X1_37 tw_st_X1_isDigit tw_co_X1_isDigit tw_in_X1 hy_X1_isDigit rfl (Nat.le_of_ble_eq_true rfl) rfl dX1_afterFirstDigit_1 [] rfl (by decide) (fun _ => Nat.le_of_ble_eq_true rfl) ⟨Nat.le_of_ble_eq_true rfl, Nat.le_of_ble_eq_true rfl⟩ (fun v u hv => ?_)
  obtain ⟨r_1, rfl, h⟩ := hv
  refine gw_nf (ws' := (wfl ([] : List va_W))) (lv' := [(0, .int x0)]) (st' := [.int r_1]) (pc' := 4) (ce' := 0) (sl' := 0) rfl rfl rfl rfl rfl rfl ?_
  refine gw_if_ne (pc' := 7) (tgt := 10) κ dX1_afterFirstDigit_4 rfl (by decide) (fun hc_2 => ?_) (fun hc_2 => ?_)
  · have h := h.1 hc_2
    refine gw_iload_n (pc' := 11) κ dX1_afterFirstDigit_10 rfl 0 rfl rfl ?_
    refine gw_bipush (pc' := 13) (v := 48) κ dX1_afterFirstDigit_11 rfl (by decide) ?_
    refine gw_icmp_ne (pc' := 16) (tgt := 20) κ dX1_afterFirstDigit_13 rfl (by decide) (fun hc_3 => ?_) (fun hc_3 => ?_)
    · have h := h.1 hc_3
      refine gw_iconst (pc' := 21) (v := 3) κ dX1_afterFirstDigit_20 rfl (by decide) ?_
      exact gw_iret κ dX1_afterFirstDigit_21 () rfl ⟨_, rfl, h⟩
    · have h := h.2 hc_3
      refine gw_iconst (pc' := 17) (v := 4) κ dX1_afterFirstDigit_16 rfl (by decide) ?_
      refine gw_goto (tgt := 21) κ dX1_afterFirstDigit_17 (by decide) ?_
      exact gw_iret κ dX1_afterFirstDigit_21 () rfl ⟨_, rfl, h⟩
  · have h := h.2 hc_2
    refine gw_bipush (pc' := 9) (v := 7) κ dX1_afterFirstDigit_7 rfl (by decide) ?_
    exact gw_iret κ dX1_afterFirstDigit_9 () rfl ⟨_, rfl, h⟩
theorem hy_X1_afterDoor : g_hy yX1_afterDoor 1 := by decide +kernel
set_option maxHeartbeats 4000000 in
set_option maxRecDepth 100000 in
theorem c_X1_afterDoor {l : Launch} {D : va_G} {cI cR : ClassId}  {P : Int32 → Prop} (x0 : Int32) (h : wp_X1_afterDoor P x0) : CT l D cI cR yX1_afterDoor cX1_afterDoor 1 (some .int) ({ frames := 0, cells := 0, slots := 0, locals := 0 } : Room) [.int x0] (wfl ([] : List va_W)) (fun _ : Unit => (wfl ([] : List va_W))) (pI (fun (r : Int32) (_ : Unit) => P r)) 0 0 := by
  refine ct_of RX1 rfl (by decide +kernel) (Nat.le_of_ble_eq_true rfl) (fun zp ze zs zm zb zt zc A hin κ => ?_)
  unfold wp_X1_afterDoor at h
  refine gw_nf (lv' := [(0, .int x0)]) (pc' := 0) (st' := []) (ce' := 0) (sl' := 0) rfl rfl rfl rfl rfl rfl ?_
  refine gw_iload_n (pc' := 1) κ dX1_afterDoor_0 rfl 0 rfl rfl ?_
  refine gw_bipush (pc' := 3) (v := 120) κ dX1_afterDoor_1 rfl (by decide) ?_
  refine gw_icmp_ne (pc' := 6) (tgt := 8) κ dX1_afterDoor_3 rfl (by decide) (fun hc_1 => ?_) (fun hc_1 => ?_)
  · have h := h.1 hc_1
    refine gw_iload_n (pc' := 9) κ dX1_afterDoor_8 rfl 0 rfl rfl ?_
    refine gw_bipush (pc' := 11) (v := 44) κ dX1_afterDoor_9 rfl (by decide) ?_
    refine gw_icmp_ne (pc' := 14) (tgt := 18) κ dX1_afterDoor_11 rfl (by decide) (fun hc_2 => ?_) (fun hc_2 => ?_)
    · have h := h.1 hc_2
      refine gw_bipush (pc' := 20) (v := 7) κ dX1_afterDoor_18 rfl (by decide) ?_
      exact gw_iret κ dX1_afterDoor_20 () rfl ⟨_, rfl, h⟩
    · have h := h.2 hc_2
      refine gw_iconst (pc' := 15) (v := 0) κ dX1_afterDoor_14 rfl (by decide) ?_
      refine gw_goto (tgt := 20) κ dX1_afterDoor_15 (by decide) ?_
      exact gw_iret κ dX1_afterDoor_20 () rfl ⟨_, rfl, h⟩
  · have h := h.2 hc_1
    refine gw_iconst (pc' := 7) (v := 5) κ dX1_afterDoor_6 rfl (by decide) ?_
    exact gw_iret κ dX1_afterDoor_7 () rfl ⟨_, rfl, h⟩
theorem hy_X1_after : g_hy yX1_after 2 := by decide +kernel
set_option maxHeartbeats 4000000 in
set_option maxRecDepth 100000 in
theorem c_X1_after {l : Launch} {D : va_G} {cI cR : ClassId}  {P : Int32 → Prop} (x0 : Int32) (x1 : Int32) (h : wp_X1_after P x0 x1) : CT l D cI cR yX1_after cX1_after 2 (some .int) ({ frames := 3, cells := 0, slots := 0, locals := 62 } : Room) [.int x0, .int x1] (wfl ([] : List va_W)) (fun _ : Unit => (wfl ([] : List va_W))) (pI (fun (r : Int32) (_ : Unit) => P r)) 0 0 := by
  refine ct_of RX1 rfl (by decide +kernel) (Nat.le_of_ble_eq_true rfl) (fun zp ze zs zm zb zt zc A hin κ => ?_)
  unfold wp_X1_after at h
  refine gw_nf (lv' := [(0, .int x0), (1, .int x1)]) (pc' := 0) (st' := []) (ce' := 0) (sl' := 0) rfl rfl rfl rfl rfl rfl ?_
  refine gw_iload_n (pc' := 1) κ dX1_after_0 rfl 0 rfl rfl ?_
  obtain ⟨hc_1_0, hc_1_1, hc_1_2, hc_1_3, hc_1_4, hc_1_5, hc_1_6, hc_1d⟩ := h
  by_cases hc_1c_0 : x0 = 0
  · have h := hc_1_0 hc_1c_0
    refine gw_tableIn (tgt := 44) (off := 43) κ dX1_after_1 (by rw [hc_1c_0]; decide) (by rw [hc_1c_0]; decide) (by rw [hc_1c_0]; decide +kernel) (by decide) ?_
    refine gw_iload_n (pc' := 45) κ dX1_after_44 rfl 1 rfl rfl ?_
    refine gw_bipush (pc' := 47) (v := 48) κ dX1_after_45 rfl (by decide) ?_
    refine gw_bipush (pc' := 49) (v := 53) κ dX1_after_47 rfl (by decide) ?_
    refine gb_callSN (rest := []) κ (c_X5_isIn  x1 (48 : Int32) (53 : Int32) h) ⟨rfl, rfl, Nat.le_of_ble_eq_true rfl, Nat.le_of_ble_eq_true rfl⟩ κ.2.2.2.1.2.2.2.2.2.2.2.2.2.1 tw_st_X5_isIn tw_co_X5_isIn tw_in_X5 hy_X5_isIn rfl (Nat.le_of_ble_eq_true rfl) rfl dX1_after_49 [] rfl (by decide) (fun _ => Nat.le_of_ble_eq_true rfl) ⟨Nat.le_of_ble_eq_true rfl, Nat.le_of_ble_eq_true rfl⟩ (fun v u hv => ?_)
    obtain ⟨r_2, rfl, h⟩ := hv
    refine gw_nf (ws' := (wfl ([] : List va_W))) (lv' := [(0, .int x0), (1, .int x1)]) (st' := [.int r_2]) (pc' := 52) (ce' := 0) (sl' := 0) rfl rfl rfl rfl rfl rfl ?_
    refine gw_if_eq (pc' := 55) (tgt := 59) κ dX1_after_52 rfl (by decide) (fun hc_3 => ?_) (fun hc_3 => ?_)
    · have h := h.1 hc_3
      refine gw_bipush (pc' := 61) (v := 7) κ dX1_after_59 rfl (by decide) ?_
      exact gw_iret κ dX1_after_61 () rfl ⟨_, rfl, h⟩
    · have h := h.2 hc_3
      refine gw_iconst (pc' := 56) (v := 1) κ dX1_after_55 rfl (by decide) ?_
      refine gw_goto (tgt := 61) κ dX1_after_56 (by decide) ?_
      exact gw_iret κ dX1_after_61 () rfl ⟨_, rfl, h⟩
  by_cases hc_1c_1 : x0 = 1
  · have h := hc_1_1 hc_1c_1
    refine gw_tableIn (tgt := 62) (off := 61) κ dX1_after_1 (by rw [hc_1c_1]; decide) (by rw [hc_1c_1]; decide) (by rw [hc_1c_1]; decide +kernel) (by decide) ?_
    refine gw_iload_n (pc' := 63) κ dX1_after_62 rfl 1 rfl rfl ?_
    refine gw_bipush (pc' := 65) (v := 97) κ dX1_after_63 rfl (by decide) ?_
    refine gw_bipush (pc' := 67) (v := 102) κ dX1_after_65 rfl (by decide) ?_
    refine gb_callSN (rest := []) κ (c_X5_isIn  x1 (97 : Int32) (102 : Int32) h) ⟨rfl, rfl, Nat.le_of_ble_eq_true rfl, Nat.le_of_ble_eq_true rfl⟩ κ.2.2.2.1.2.2.2.2.2.2.2.2.2.1 tw_st_X5_isIn tw_co_X5_isIn tw_in_X5 hy_X5_isIn rfl (Nat.le_of_ble_eq_true rfl) rfl dX1_after_67 [] rfl (by decide) (fun _ => Nat.le_of_ble_eq_true rfl) ⟨Nat.le_of_ble_eq_true rfl, Nat.le_of_ble_eq_true rfl⟩ (fun v u hv => ?_)
    obtain ⟨r_4, rfl, h⟩ := hv
    refine gw_nf (ws' := (wfl ([] : List va_W))) (lv' := [(0, .int x0), (1, .int x1)]) (st' := [.int r_4]) (pc' := 70) (ce' := 0) (sl' := 0) rfl rfl rfl rfl rfl rfl ?_
    refine gw_if_eq (pc' := 73) (tgt := 77) κ dX1_after_70 rfl (by decide) (fun hc_5 => ?_) (fun hc_5 => ?_)
    · have h := h.1 hc_5
      refine gw_bipush (pc' := 79) (v := 7) κ dX1_after_77 rfl (by decide) ?_
      exact gw_iret κ dX1_after_79 () rfl ⟨_, rfl, h⟩
    · have h := h.2 hc_5
      refine gw_iconst (pc' := 74) (v := 2) κ dX1_after_73 rfl (by decide) ?_
      refine gw_goto (tgt := 79) κ dX1_after_74 (by decide) ?_
      exact gw_iret κ dX1_after_79 () rfl ⟨_, rfl, h⟩
  by_cases hc_1c_2 : x0 = 2
  · have h := hc_1_2 hc_1c_2
    refine gw_tableIn (tgt := 80) (off := 79) κ dX1_after_1 (by rw [hc_1c_2]; decide) (by rw [hc_1c_2]; decide) (by rw [hc_1c_2]; decide +kernel) (by decide) ?_
    refine gw_iload_n (pc' := 81) κ dX1_after_80 rfl 1 rfl rfl ?_
    refine gb_callS (rest := []) κ (c_X1_afterFirstDigit  x1 h) ⟨rfl, rfl, Nat.le_of_ble_eq_true rfl, Nat.le_of_ble_eq_true rfl⟩ tw_ml_X1_33 tw_st_X1_afterFirstDigit tw_co_X1_afterFirstDigit tw_in_X1 hy_X1_afterFirstDigit rfl (Nat.le_of_ble_eq_true rfl) rfl dX1_after_81 [] rfl (by decide) (fun _ => Nat.le_of_ble_eq_true rfl) ⟨Nat.le_of_ble_eq_true rfl, Nat.le_of_ble_eq_true rfl⟩ (fun v u hv => ?_)
    obtain ⟨r_6, rfl, h⟩ := hv
    refine gw_nf (ws' := (wfl ([] : List va_W))) (lv' := [(0, .int x0), (1, .int x1)]) (st' := [.int r_6]) (pc' := 84) (ce' := 0) (sl' := 0) rfl rfl rfl rfl rfl rfl ?_
    exact gw_iret κ dX1_after_84 () rfl ⟨_, rfl, h⟩
  by_cases hc_1c_3 : x0 = 3
  · have h := hc_1_3 hc_1c_3
    refine gw_tableIn (tgt := 85) (off := 84) κ dX1_after_1 (by rw [hc_1c_3]; decide) (by rw [hc_1c_3]; decide) (by rw [hc_1c_3]; decide +kernel) (by decide) ?_
    refine gw_iload_n (pc' := 86) κ dX1_after_85 rfl 1 rfl rfl ?_
    refine gb_callS (rest := []) κ (c_X1_isDigit  x1 h) ⟨rfl, rfl, Nat.le_of_ble_eq_true rfl, Nat.le_of_ble_eq_true rfl⟩ tw_ml_X1_37 tw_st_X1_isDigit tw_co_X1_isDigit tw_in_X1 hy_X1_isDigit rfl (Nat.le_of_ble_eq_true rfl) rfl dX1_after_86 [] rfl (by decide) (fun _ => Nat.le_of_ble_eq_true rfl) ⟨Nat.le_of_ble_eq_true rfl, Nat.le_of_ble_eq_true rfl⟩ (fun v u hv => ?_)
    obtain ⟨r_7, rfl, h⟩ := hv
    refine gw_nf (ws' := (wfl ([] : List va_W))) (lv' := [(0, .int x0), (1, .int x1)]) (st' := [.int r_7]) (pc' := 89) (ce' := 0) (sl' := 0) rfl rfl rfl rfl rfl rfl ?_
    refine gw_if_eq (pc' := 92) (tgt := 96) κ dX1_after_89 rfl (by decide) (fun hc_8 => ?_) (fun hc_8 => ?_)
    · have h := h.1 hc_8
      refine gw_iload_n (pc' := 97) κ dX1_after_96 rfl 1 rfl rfl ?_
      refine gb_callS (rest := []) κ (c_X1_afterDoor  x1 h) ⟨rfl, rfl, Nat.le_of_ble_eq_true rfl, Nat.le_of_ble_eq_true rfl⟩ tw_ml_X1_40 tw_st_X1_afterDoor tw_co_X1_afterDoor tw_in_X1 hy_X1_afterDoor rfl (Nat.le_of_ble_eq_true rfl) rfl dX1_after_97 [] rfl (by decide) (fun _ => Nat.le_of_ble_eq_true rfl) ⟨Nat.le_of_ble_eq_true rfl, Nat.le_of_ble_eq_true rfl⟩ (fun v u hv => ?_)
      obtain ⟨r_9, rfl, h⟩ := hv
      refine gw_nf (ws' := (wfl ([] : List va_W))) (lv' := [(0, .int x0), (1, .int x1)]) (st' := [.int r_9]) (pc' := 100) (ce' := 0) (sl' := 0) rfl rfl rfl rfl rfl rfl ?_
      exact gw_iret κ dX1_after_100 () rfl ⟨_, rfl, h⟩
    · have h := h.2 hc_8
      refine gw_iconst (pc' := 93) (v := 4) κ dX1_after_92 rfl (by decide) ?_
      refine gw_goto (tgt := 100) κ dX1_after_93 (by decide) ?_
      exact gw_iret κ dX1_after_100 () rfl ⟨_, rfl, h⟩
  by_cases hc_1c_4 : x0 = 4
  · have h := hc_1_4 hc_1c_4
    refine gw_tableIn (tgt := 101) (off := 100) κ dX1_after_1 (by rw [hc_1c_4]; decide) (by rw [hc_1c_4]; decide) (by rw [hc_1c_4]; decide +kernel) (by decide) ?_
    refine gw_iload_n (pc' := 102) κ dX1_after_101 rfl 1 rfl rfl ?_
    refine gb_callS (rest := []) κ (c_X1_afterDoor  x1 h) ⟨rfl, rfl, Nat.le_of_ble_eq_true rfl, Nat.le_of_ble_eq_true rfl⟩ tw_ml_X1_40 tw_st_X1_afterDoor tw_co_X1_afterDoor tw_in_X1 hy_X1_afterDoor rfl (Nat.le_of_ble_eq_true rfl) rfl dX1_after_102 [] rfl (by decide) (fun _ => Nat.le_of_ble_eq_true rfl) ⟨Nat.le_of_ble_eq_true rfl, Nat.le_of_ble_eq_true rfl⟩ (fun v u hv => ?_)
    obtain ⟨r_10, rfl, h⟩ := hv
    refine gw_nf (ws' := (wfl ([] : List va_W))) (lv' := [(0, .int x0), (1, .int x1)]) (st' := [.int r_10]) (pc' := 105) (ce' := 0) (sl' := 0) rfl rfl rfl rfl rfl rfl ?_
    exact gw_iret κ dX1_after_105 () rfl ⟨_, rfl, h⟩
  by_cases hc_1c_5 : x0 = 5
  · have h := hc_1_5 hc_1c_5
    refine gw_tableIn (tgt := 106) (off := 105) κ dX1_after_1 (by rw [hc_1c_5]; decide) (by rw [hc_1c_5]; decide) (by rw [hc_1c_5]; decide +kernel) (by decide) ?_
    refine gw_iload_n (pc' := 107) κ dX1_after_106 rfl 1 rfl rfl ?_
    refine gw_bipush (pc' := 109) (v := 49) κ dX1_after_107 rfl (by decide) ?_
    refine gw_bipush (pc' := 111) (v := 52) κ dX1_after_109 rfl (by decide) ?_
    refine gb_callSN (rest := []) κ (c_X5_isIn  x1 (49 : Int32) (52 : Int32) h) ⟨rfl, rfl, Nat.le_of_ble_eq_true rfl, Nat.le_of_ble_eq_true rfl⟩ κ.2.2.2.1.2.2.2.2.2.2.2.2.2.1 tw_st_X5_isIn tw_co_X5_isIn tw_in_X5 hy_X5_isIn rfl (Nat.le_of_ble_eq_true rfl) rfl dX1_after_111 [] rfl (by decide) (fun _ => Nat.le_of_ble_eq_true rfl) ⟨Nat.le_of_ble_eq_true rfl, Nat.le_of_ble_eq_true rfl⟩ (fun v u hv => ?_)
    obtain ⟨r_11, rfl, h⟩ := hv
    refine gw_nf (ws' := (wfl ([] : List va_W))) (lv' := [(0, .int x0), (1, .int x1)]) (st' := [.int r_11]) (pc' := 114) (ce' := 0) (sl' := 0) rfl rfl rfl rfl rfl rfl ?_
    refine gw_if_eq (pc' := 117) (tgt := 122) κ dX1_after_114 rfl (by decide) (fun hc_12 => ?_) (fun hc_12 => ?_)
    · have h := h.1 hc_12
      refine gw_bipush (pc' := 124) (v := 7) κ dX1_after_122 rfl (by decide) ?_
      exact gw_iret κ dX1_after_124 () rfl ⟨_, rfl, h⟩
    · have h := h.2 hc_12
      refine gw_bipush (pc' := 119) (v := 6) κ dX1_after_117 rfl (by decide) ?_
      refine gw_goto (tgt := 124) κ dX1_after_119 (by decide) ?_
      exact gw_iret κ dX1_after_124 () rfl ⟨_, rfl, h⟩
  by_cases hc_1c_6 : x0 = 6
  · have h := hc_1_6 hc_1c_6
    refine gw_tableIn (tgt := 125) (off := 124) κ dX1_after_1 (by rw [hc_1c_6]; decide) (by rw [hc_1c_6]; decide) (by rw [hc_1c_6]; decide +kernel) (by decide) ?_
    refine gw_iload_n (pc' := 126) κ dX1_after_125 rfl 1 rfl rfl ?_
    refine gw_bipush (pc' := 128) (v := 44) κ dX1_after_126 rfl (by decide) ?_
    refine gw_icmp_ne (pc' := 131) (tgt := 135) κ dX1_after_128 rfl (by decide) (fun hc_13 => ?_) (fun hc_13 => ?_)
    · have h := h.1 hc_13
      refine gw_bipush (pc' := 137) (v := 7) κ dX1_after_135 rfl (by decide) ?_
      exact gw_iret κ dX1_after_137 () rfl ⟨_, rfl, h⟩
    · have h := h.2 hc_13
      refine gw_iconst (pc' := 132) (v := 0) κ dX1_after_131 rfl (by decide) ?_
      refine gw_goto (tgt := 137) κ dX1_after_132 (by decide) ?_
      exact gw_iret κ dX1_after_137 () rfl ⟨_, rfl, h⟩
  have h := hc_1d ⟨hc_1c_0, hc_1c_1, hc_1c_2, hc_1c_3, hc_1c_4, hc_1c_5, hc_1c_6⟩
  refine gw_tableOut (tgt := 138) κ dX1_after_1 (sw_out2 (x := x0) (lo := 0) (hi := 6) (by decide) (fun k h1 h2 => by rcases (show k = 0 ∨ k = 1 ∨ k = 2 ∨ k = 3 ∨ k = 4 ∨ k = 5 ∨ k = 6 by omega) with rfl | rfl | rfl | rfl | rfl | rfl | rfl <;> assumption)) (by decide) ?_
  refine gw_bipush (pc' := 140) (v := 7) κ dX1_after_138 rfl (by decide) ?_
  exact gw_iret κ dX1_after_140 () rfl ⟨_, rfl, h⟩
theorem hy_X1_mayEnd : g_hy yX1_mayEnd 1 := by decide +kernel
set_option maxHeartbeats 4000000 in
set_option maxRecDepth 100000 in
theorem c_X1_mayEnd {l : Launch} {D : va_G} {cI cR : ClassId}  {P : Int32 → Prop} (x0 : Int32) (h : wp_X1_mayEnd P x0) : CT l D cI cR yX1_mayEnd cX1_mayEnd 1 (some .boolean) ({ frames := 0, cells := 0, slots := 0, locals := 0 } : Room) [.int x0] (wfl ([] : List va_W)) (fun _ : Unit => (wfl ([] : List va_W))) (pI (fun (r : Int32) (_ : Unit) => P r)) 0 0 := by
  refine ct_of RX1 rfl (by decide +kernel) (Nat.le_of_ble_eq_true rfl) (fun zp ze zs zm zb zt zc A hin κ => ?_)
  unfold wp_X1_mayEnd at h
  refine gw_nf (lv' := [(0, .int x0)]) (pc' := 0) (st' := []) (ce' := 0) (sl' := 0) rfl rfl rfl rfl rfl rfl ?_
  refine gw_iload_n (pc' := 1) κ dX1_mayEnd_0 rfl 0 rfl rfl ?_
  refine gw_iconst (pc' := 2) (v := 3) κ dX1_mayEnd_1 rfl (by decide) ?_
  refine gw_icmp_eq (pc' := 5) (tgt := 16) κ dX1_mayEnd_2 rfl (by decide) (fun hc_1 => ?_) (fun hc_1 => ?_)
  · have h := h.1 hc_1
    refine gw_iconst (pc' := 17) (v := 1) κ dX1_mayEnd_16 rfl (by decide) ?_
    refine gw_goto (tgt := 21) κ dX1_mayEnd_17 (by decide) ?_
    exact gw_zret κ dX1_mayEnd_21 () rfl rfl ⟨_, rfl, h⟩
  · have h := h.2 hc_1
    refine gw_iload_n (pc' := 6) κ dX1_mayEnd_5 rfl 0 rfl rfl ?_
    refine gw_iconst (pc' := 7) (v := 4) κ dX1_mayEnd_6 rfl (by decide) ?_
    refine gw_icmp_eq (pc' := 10) (tgt := 16) κ dX1_mayEnd_7 rfl (by decide) (fun hc_2 => ?_) (fun hc_2 => ?_)
    · have h := h.1 hc_2
      refine gw_iconst (pc' := 17) (v := 1) κ dX1_mayEnd_16 rfl (by decide) ?_
      refine gw_goto (tgt := 21) κ dX1_mayEnd_17 (by decide) ?_
      exact gw_zret κ dX1_mayEnd_21 () rfl rfl ⟨_, rfl, h⟩
    · have h := h.2 hc_2
      refine gw_iload_n (pc' := 11) κ dX1_mayEnd_10 rfl 0 rfl rfl ?_
      refine gw_bipush (pc' := 13) (v := 6) κ dX1_mayEnd_11 rfl (by decide) ?_
      refine gw_icmp_ne (pc' := 16) (tgt := 20) κ dX1_mayEnd_13 rfl (by decide) (fun hc_3 => ?_) (fun hc_3 => ?_)
      · have h := h.1 hc_3
        refine gw_iconst (pc' := 21) (v := 0) κ dX1_mayEnd_20 rfl (by decide) ?_
        exact gw_zret κ dX1_mayEnd_21 () rfl rfl ⟨_, rfl, h⟩
      · have h := h.2 hc_3
        refine gw_iconst (pc' := 17) (v := 1) κ dX1_mayEnd_16 rfl (by decide) ?_
        refine gw_goto (tgt := 21) κ dX1_mayEnd_17 (by decide) ?_
        exact gw_zret κ dX1_mayEnd_21 () rfl rfl ⟨_, rfl, h⟩
