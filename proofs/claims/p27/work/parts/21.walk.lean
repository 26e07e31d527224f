theorem hy_X2_share : g_hy yX2_share 4 := by decide +kernel
set_option maxHeartbeats 4000000 in
set_option maxRecDepth 100000 in
theorem k_X2_share_71 {zp : Program} {l : Launch} {ze : Env} {zs : State} {zm : MethodId} {za : Array Value} {zb : List Frame} {zt : Method} {zc : Code} {D : va_G} {cI cR : ClassId} {A : Nat → Prop} (κ : KC zp zs zm za zt zc cX2_share 10 RX2 D cI cR A (some .int)) (qa : Nat → Nat) (qb : Nat → Nat) (P : Int32 → Prop) (o0 : PlT) (o1 : StT) (x2 : Int32) (x3 : Int32) (x4 : Int32) (v5 : Int32) (v6 : Int32) : ∀ (n : Nat) (v7 : Int32) (v8 : Int32) (v9 : Int32), wp_X2_share_71 P o0 o1 x2 x3 x4 v5 v6 n v7 v8 v9 → GM zp l ze ({ frames := 2, cells := 0, slots := 0, locals := 45 } : Room) zs zm za zb zt zc D A 10 (pI (fun (r : Int32) (_ : Unit) => P r)) (fun _ : Unit => (wfl [cPl qa cI o0.od o0.rd o0.vn o0.pn o0.ao o0.sr o0.sp o0.wt, cSt qb cI o1.se o1.la o1.de o1.le o1.sa o1.fl o1.ar o1.dr o1.pe o1.ri])) 0 0 0 0 (wfl [cPl qa cI o0.od o0.rd o0.vn o0.pn o0.ao o0.sr o0.sp o0.wt, cSt qb cI o1.se o1.la o1.de o1.le o1.sa o1.fl o1.ar o1.dr o1.pe o1.ri]) [(0, .ref (qa 0)), (1, .ref (qb 0)), (2, .int x2), (4, .int x4), (5, .int v5), (6, .int v6), (7, .int v7), (8, .int v8), (9, .int v9)] 71 [] := by
  intro n71
  induction n71 with
  | zero => intro v7 v8 v9 h; exact (show False from h).elim
  | succ n71 ih71 =>
    intro v7 v8 v9 h
    have h : wp_X2_share_71F P o0 o1 x2 x3 x4 v5 v6 (wp_X2_share_71 P o0 o1 x2 x3 x4 v5 v6 n71) v7 v8 v9 := h
    unfold wp_X2_share_71F at h
    refine gw_iload (pc' := 73) κ dX2_share_71 rfl 8 rfl ?_
    refine gw_aload_n (pc' := 74) κ dX2_share_73 rfl 1 rfl rfl ?_
    refine gb_get (pc' := 77) (C := RX3) (T := TX3) (N := 10) κ dX2_share_74 rfl inX3 1 rfl rfl rfl 9 (by decide) tw_fl_X2_34 rfl ?_
    refine gw_icmp_ge (pc' := 80) (tgt := 133) κ dX2_share_77 rfl (by decide) (fun hc_7 => ?_) (fun hc_7 => ?_)
    · have h := h.1 hc_7
      refine gw_iload (pc' := 135) κ dX2_share_133 rfl 4 rfl ?_
      refine gw_aload_n (pc' := 136) κ dX2_share_135 rfl 1 rfl rfl ?_
      refine gb_get (pc' := 139) (C := RX3) (T := TX3) (N := 10) κ dX2_share_136 rfl inX3 1 rfl rfl rfl 8 (by decide) tw_fl_X2_57 rfl ?_
      refine gw_iload_n (pc' := 140) κ dX2_share_139 rfl 2 rfl rfl ?_
      obtain ⟨hb_8, h⟩ := h
      refine gb_iald (pc' := 141) κ dX2_share_140 rfl 1 9 rfl rfl hb_8 ?_
      refine gw_imul (pc' := 142) κ dX2_share_141 rfl  ?_
      refine gw_iload (pc' := 144) κ dX2_share_142 rfl 5 rfl ?_
      obtain ⟨hb_9, h⟩ := h
      refine gw_idiv (pc' := 145) κ dX2_share_144 rfl hb_9 ?_
      refine gw_istore (pc' := 147) κ dX2_share_145 rfl (by decide) (lv' := [(9, .int ((v5 * (o1.pe x2.toNatClampNeg)) / v6)), (0, .ref (qa 0)), (1, .ref (qb 0)), (2, .int x2), (4, .int x4), (5, .int v5), (6, .int v6), (7, .int v7), (8, .int v8)]) rfl ?_
      refine gw_iload (pc' := 149) κ dX2_share_147 rfl 8 rfl ?_
      refine gw_iload (pc' := 151) κ dX2_share_149 rfl 7 rfl ?_
      refine gw_icmp_ge (pc' := 154) (tgt := 161) κ dX2_share_151 rfl (by decide) (fun hc_10 => ?_) (fun hc_10 => ?_)
      · have h := h.1 hc_10
        refine gw_iload (pc' := 163) κ dX2_share_161 rfl 0 rfl ?_
        exact gw_iret κ dX2_share_163 () rfl ⟨_, rfl, h⟩
      · have h := h.2 hc_10
        refine gw_iload (pc' := 156) κ dX2_share_154 rfl 0 rfl ?_
        refine gw_iconst (pc' := 157) (v := 1) κ dX2_share_156 rfl (by decide) ?_
        refine gw_iadd (pc' := 158) κ dX2_share_157 rfl  ?_
        refine gw_goto (tgt := 163) κ dX2_share_158 (by decide) ?_
        exact gw_iret κ dX2_share_163 () rfl ⟨_, rfl, h⟩
    · have h := h.2 hc_7
      refine gw_aload_n (pc' := 81) κ dX2_share_80 rfl 0 rfl rfl ?_
      refine gw_aload_n (pc' := 82) κ dX2_share_81 rfl 1 rfl rfl ?_
      refine gw_iload_n (pc' := 83) κ dX2_share_82 rfl 2 rfl rfl ?_
      refine gw_iload (pc' := 85) κ dX2_share_83 rfl 8 rfl ?_
      refine gw_iload (pc' := 87) κ dX2_share_85 rfl 3 rfl ?_
      refine gb_callV (ci := 2) (qb := 0) (rest := []) κ (c_X2_shares qa qb o0 o1 x2 v9 x4 h) ⟨rfl, rfl, Nat.le_of_ble_eq_true rfl, Nat.le_of_ble_eq_true rfl⟩ tw_ml_X2_96 tw_im_X2_shares tw_se_X2_shares tw_co_X2_shares tw_in_X2 hy_X2_shares rfl rfl rfl rfl rfl (Nat.le_of_ble_eq_true rfl) rfl dX2_share_87 [0, 1] rfl (by decide) (fun _ => Nat.le_of_ble_eq_true rfl) ⟨Nat.le_of_ble_eq_true rfl, Nat.le_of_ble_eq_true rfl⟩ (fun v u hv => ?_)
      obtain ⟨r_11, rfl, h⟩ := hv
      refine gw_nf (ws' := (wfl [cPl qa cI o0.od o0.rd o0.vn o0.pn o0.ao o0.sr o0.sp o0.wt, cSt qb cI o1.se o1.la o1.de o1.le o1.sa o1.fl o1.ar o1.dr o1.pe o1.ri])) (lv' := [(0, .ref (qa 0)), (1, .ref (qb 0)), (2, .int x2), (4, .int x4), (5, .int v5), (6, .int v6), (7, .int v7), (8, .int v8), (9, .int v9)]) (st' := [.int r_11]) (pc' := 90) (ce' := 0) (sl' := 0) rfl rfl rfl rfl rfl rfl ?_
      refine gw_if_eq (pc' := 93) (tgt := 127) κ dX2_share_90 rfl (by decide) (fun hc_12 => ?_) (fun hc_12 => ?_)
      · have h := h.1 hc_12
        refine gw_iinc (pc' := 130) κ dX2_share_127 rfl 8 rfl (v := (v9 + 1)) rfl (by decide) (lv' := [(9, .int (v9 + 1)), (0, .ref (qa 0)), (1, .ref (qb 0)), (2, .int x2), (4, .int x4), (5, .int v5), (6, .int v6), (7, .int v7), (8, .int v8)]) rfl ?_
        refine gw_goto (tgt := 71) κ dX2_share_130 (by decide) ?_
        refine gw_lv (lv' := [(0, .ref (qa 0)), (1, .ref (qb 0)), (2, .int x2), (4, .int x4), (5, .int v5), (6, .int v6), (7, .int v7), (8, .int v8), (9, .int (v9 + 1))]) [1, 2, 3, 4, 5, 6, 7, 8, 0] rfl ?_
        exact ih71 v7 v8 (v9 + 1) h
      · have h := h.2 hc_12
        refine gw_iload (pc' := 95) κ dX2_share_93 rfl 6 rfl ?_
        refine gw_iload (pc' := 97) κ dX2_share_95 rfl 4 rfl ?_
        refine gw_aload_n (pc' := 98) κ dX2_share_97 rfl 1 rfl rfl ?_
        refine gb_get (pc' := 101) (C := RX3) (T := TX3) (N := 10) κ dX2_share_98 rfl inX3 1 rfl rfl rfl 8 (by decide) tw_fl_X2_57 rfl ?_
        refine gw_iload (pc' := 103) κ dX2_share_101 rfl 8 rfl ?_
        obtain ⟨hb_13, h⟩ := h
        refine gb_iald (pc' := 104) κ dX2_share_103 rfl 1 9 rfl rfl hb_13 ?_
        refine gw_imul (pc' := 105) κ dX2_share_104 rfl  ?_
        refine gw_iload (pc' := 107) κ dX2_share_105 rfl 5 rfl ?_
        obtain ⟨hb_14, h⟩ := h
        refine gw_idiv (pc' := 108) κ dX2_share_107 rfl hb_14 ?_
        refine gw_isub (pc' := 109) κ dX2_share_108 rfl  ?_
        refine gw_istore (pc' := 111) κ dX2_share_109 rfl (by decide) (lv' := [(7, .int (v7 - ((v5 * (o1.pe v9.toNatClampNeg)) / v6))), (0, .ref (qa 0)), (1, .ref (qb 0)), (2, .int x2), (4, .int x4), (5, .int v5), (6, .int v6), (8, .int v8), (9, .int v9)]) rfl ?_
        refine gw_iload (pc' := 113) κ dX2_share_111 rfl 7 rfl ?_
        refine gw_iload (pc' := 115) κ dX2_share_113 rfl 8 rfl ?_
        refine gw_iload_n (pc' := 116) κ dX2_share_115 rfl 3 rfl rfl ?_
        refine gw_icmp_ge (pc' := 119) (tgt := 123) κ dX2_share_116 rfl (by decide) (fun hc_15 => ?_) (fun hc_15 => ?_)
        · have h := h.1 hc_15
          refine gw_iconst (pc' := 124) (v := 0) κ dX2_share_123 rfl (by decide) ?_
          refine gw_iadd (pc' := 125) κ dX2_share_124 rfl  ?_
          refine gw_istore (pc' := 127) κ dX2_share_125 rfl (by decide) (lv' := [(8, .int (v8 + (0 : Int32))), (7, .int (v7 - ((v5 * (o1.pe v9.toNatClampNeg)) / v6))), (0, .ref (qa 0)), (1, .ref (qb 0)), (2, .int x2), (4, .int x4), (5, .int v5), (6, .int v6), (9, .int v9)]) rfl ?_
          refine gw_iinc (pc' := 130) κ dX2_share_127 rfl 8 rfl (v := (v9 + 1)) rfl (by decide) (lv' := [(9, .int (v9 + 1)), (8, .int (v8 + (0 : Int32))), (7, .int (v7 - ((v5 * (o1.pe v9.toNatClampNeg)) / v6))), (0, .ref (qa 0)), (1, .ref (qb 0)), (2, .int x2), (4, .int x4), (5, .int v5), (6, .int v6)]) rfl ?_
          refine gw_goto (tgt := 71) κ dX2_share_130 (by decide) ?_
          refine gw_lv (lv' := [(0, .ref (qa 0)), (1, .ref (qb 0)), (2, .int x2), (4, .int x4), (5, .int v5), (6, .int v6), (7, .int (v7 - ((v5 * (o1.pe v9.toNatClampNeg)) / v6))), (8, .int (v8 + (0 : Int32))), (9, .int (v9 + 1))]) [3, 4, 5, 6, 7, 8, 2, 1, 0] rfl ?_
          exact ih71 (v7 - ((v5 * (o1.pe v9.toNatClampNeg)) / v6)) (v8 + (0 : Int32)) (v9 + 1) h
        · have h := h.2 hc_15
          refine gw_iconst (pc' := 120) (v := 1) κ dX2_share_119 rfl (by decide) ?_
          refine gw_goto (tgt := 124) κ dX2_share_120 (by decide) ?_
          refine gw_iadd (pc' := 125) κ dX2_share_124 rfl  ?_
          refine gw_istore (pc' := 127) κ dX2_share_125 rfl (by decide) (lv' := [(8, .int (v8 + (1 : Int32))), (7, .int (v7 - ((v5 * (o1.pe v9.toNatClampNeg)) / v6))), (0, .ref (qa 0)), (1, .ref (qb 0)), (2, .int x2), (4, .int x4), (5, .int v5), (6, .int v6), (9, .int v9)]) rfl ?_
          refine gw_iinc (pc' := 130) κ dX2_share_127 rfl 8 rfl (v := (v9 + 1)) rfl (by decide) (lv' := [(9, .int (v9 + 1)), (8, .int (v8 + (1 : Int32))), (7, .int (v7 - ((v5 * (o1.pe v9.toNatClampNeg)) / v6))), (0, .ref (qa 0)), (1, .ref (qb 0)), (2, .int x2), (4, .int x4), (5, .int v5), (6, .int v6)]) rfl ?_
          refine gw_goto (tgt := 71) κ dX2_share_130 (by decide) ?_
          refine gw_lv (lv' := [(0, .ref (qa 0)), (1, .ref (qb 0)), (2, .int x2), (4, .int x4), (5, .int v5), (6, .int v6), (7, .int (v7 - ((v5 * (o1.pe v9.toNatClampNeg)) / v6))), (8, .int (v8 + (1 : Int32))), (9, .int (v9 + 1))]) [3, 4, 5, 6, 7, 8, 2, 1, 0] rfl ?_
          exact ih71 (v7 - ((v5 * (o1.pe v9.toNatClampNeg)) / v6)) (v8 + (1 : Int32)) (v9 + 1) h
set_option maxHeartbeats 4000000 in
set_option maxRecDepth 100000 in
theorem k_X2_share_14 {zp : Program} {l : Launch} {ze : Env} {zs : State} {zm : MethodId} {za : Array Value} {zb : List Frame} {zt : Method} {zc : Code} {D : va_G} {cI cR : ClassId} {A : Nat → Prop} (κ : KC zp zs zm za zt zc cX2_share 10 RX2 D cI cR A (some .int)) (qa : Nat → Nat) (qb : Nat → Nat) (P : Int32 → Prop) (o0 : PlT) (o1 : StT) (x2 : Int32) (x3 : Int32) (x4 : Int32) (v5 : Int32) : ∀ (n : Nat) (v6 : Int32) (v7 : Int32), wp_X2_share_14 P o0 o1 x2 x3 x4 v5 n v6 v7 → GM zp l ze ({ frames := 2, cells := 0, slots := 0, locals := 45 } : Room) zs zm za zb zt zc D A 10 (pI (fun (r : Int32) (_ : Unit) => P r)) (fun _ : Unit => (wfl [cPl qa cI o0.od o0.rd o0.vn o0.pn o0.ao o0.sr o0.sp o0.wt, cSt qb cI o1.se o1.la o1.de o1.le o1.sa o1.fl o1.ar o1.dr o1.pe o1.ri])) 0 0 0 0 (wfl [cPl qa cI o0.od o0.rd o0.vn o0.pn o0.ao o0.sr o0.sp o0.wt, cSt qb cI o1.se o1.la o1.de o1.le o1.sa o1.fl o1.ar o1.dr o1.pe o1.ri]) [(0, .ref (qa 0)), (1, .ref (qb 0)), (2, .int x2), (4, .int x4), (5, .int v5), (6, .int v6), (7, .int v7)] 14 [] := by
  intro n14
  induction n14 with
  | zero => intro v6 v7 h; exact (show False from h).elim
  | succ n14 ih14 =>
    intro v6 v7 h
    have h : wp_X2_share_14F P o0 o1 x2 x3 x4 v5 (wp_X2_share_14 P o0 o1 x2 x3 x4 v5 n14) v6 v7 := h
    unfold wp_X2_share_14F at h
    refine gw_iload (pc' := 16) κ dX2_share_14 rfl 6 rfl ?_
    refine gw_aload_n (pc' := 17) κ dX2_share_16 rfl 1 rfl rfl ?_
    refine gb_get (pc' := 20) (C := RX3) (T := TX3) (N := 10) κ dX2_share_17 rfl inX3 1 rfl rfl rfl 9 (by decide) tw_fl_X2_34 rfl ?_
    refine gw_icmp_ge (pc' := 23) (tgt := 54) κ dX2_share_20 rfl (by decide) (fun hc_2 => ?_) (fun hc_2 => ?_)
    · have h := h.1 hc_2
      refine gw_iload (pc' := 56) κ dX2_share_54 rfl 5 rfl ?_
      refine gw_if_gt (pc' := 59) (tgt := 61) κ dX2_share_56 rfl (by decide) (fun hc_3 => ?_) (fun hc_3 => ?_)
      · have h := h.1 hc_3
        refine gw_iload (pc' := 63) κ dX2_share_61 rfl 4 rfl ?_
        refine gw_istore (pc' := 65) κ dX2_share_63 rfl (by decide) (lv' := [(7, .int v5), (0, .ref (qa 0)), (1, .ref (qb 0)), (2, .int x2), (4, .int x4), (5, .int v5), (6, .int v6)]) rfl ?_
        refine gw_iconst (pc' := 66) (v := 0) κ dX2_share_65 rfl (by decide) ?_
        refine gw_istore (pc' := 68) κ dX2_share_66 rfl (by decide) (lv' := [(8, .int (0 : Int32)), (7, .int v5), (0, .ref (qa 0)), (1, .ref (qb 0)), (2, .int x2), (4, .int x4), (5, .int v5), (6, .int v6)]) rfl ?_
        refine gw_iconst (pc' := 69) (v := 0) κ dX2_share_68 rfl (by decide) ?_
        refine gw_istore (pc' := 71) κ dX2_share_69 rfl (by decide) (lv' := [(9, .int (0 : Int32)), (8, .int (0 : Int32)), (7, .int v5), (0, .ref (qa 0)), (1, .ref (qb 0)), (2, .int x2), (4, .int x4), (5, .int v5), (6, .int v6)]) rfl ?_
        obtain ⟨m71, h⟩ := h
        refine gw_lv (lv' := [(0, .ref (qa 0)), (1, .ref (qb 0)), (2, .int x2), (4, .int x4), (5, .int v5), (6, .int v6), (7, .int v5), (8, .int (0 : Int32)), (9, .int (0 : Int32))]) [3, 4, 5, 6, 7, 8, 2, 1, 0] rfl ?_
        exact k_X2_share_71 κ qa qb P o0 o1 x2 x3 x4 v5 v6 m71 v5 (0 : Int32) (0 : Int32) h
      · have h := h.2 hc_3
        refine gw_iconst (pc' := 60) (v := 0) κ dX2_share_59 rfl (by decide) ?_
        exact gw_iret κ dX2_share_60 () rfl ⟨_, rfl, h⟩
    · have h := h.2 hc_2
      refine gw_aload_n (pc' := 24) κ dX2_share_23 rfl 0 rfl rfl ?_
      refine gw_aload_n (pc' := 25) κ dX2_share_24 rfl 1 rfl rfl ?_
      refine gw_iload_n (pc' := 26) κ dX2_share_25 rfl 2 rfl rfl ?_
      refine gw_iload (pc' := 28) κ dX2_share_26 rfl 6 rfl ?_
      refine gw_iload (pc' := 30) κ dX2_share_28 rfl 3 rfl ?_
      refine gb_callV (ci := 2) (qb := 0) (rest := []) κ (c_X2_shares qa qb o0 o1 x2 v7 x4 h) ⟨rfl, rfl, Nat.le_of_ble_eq_true rfl, Nat.le_of_ble_eq_true rfl⟩ tw_ml_X2_96 tw_im_X2_shares tw_se_X2_shares tw_co_X2_shares tw_in_X2 hy_X2_shares rfl rfl rfl rfl rfl (Nat.le_of_ble_eq_true rfl) rfl dX2_share_30 [0, 1] rfl (by decide) (fun _ => Nat.le_of_ble_eq_true rfl) ⟨Nat.le_of_ble_eq_true rfl, Nat.le_of_ble_eq_true rfl⟩ (fun v u hv => ?_)
      obtain ⟨r_4, rfl, h⟩ := hv
      refine gw_nf (ws' := (wfl [cPl qa cI o0.od o0.rd o0.vn o0.pn o0.ao o0.sr o0.sp o0.wt, cSt qb cI o1.se o1.la o1.de o1.le o1.sa o1.fl o1.ar o1.dr o1.pe o1.ri])) (lv' := [(0, .ref (qa 0)), (1, .ref (qb 0)), (2, .int x2), (4, .int x4), (5, .int v5), (6, .int v6), (7, .int v7)]) (st' := [.int r_4]) (pc' := 33) (ce' := 0) (sl' := 0) rfl rfl rfl rfl rfl rfl ?_
      refine gw_if_eq (pc' := 36) (tgt := 48) κ dX2_share_33 rfl (by decide) (fun hc_5 => ?_) (fun hc_5 => ?_)
      · have h := h.1 hc_5
        refine gw_iinc (pc' := 51) κ dX2_share_48 rfl 6 rfl (v := (v7 + 1)) rfl (by decide) (lv' := [(7, .int (v7 + 1)), (0, .ref (qa 0)), (1, .ref (qb 0)), (2, .int x2), (4, .int x4), (5, .int v5), (6, .int v6)]) rfl ?_
        refine gw_goto (tgt := 14) κ dX2_share_51 (by decide) ?_
        refine gw_lv (lv' := [(0, .ref (qa 0)), (1, .ref (qb 0)), (2, .int x2), (4, .int x4), (5, .int v5), (6, .int v6), (7, .int (v7 + 1))]) [1, 2, 3, 4, 5, 6, 0] rfl ?_
        exact ih14 v6 (v7 + 1) h
      · have h := h.2 hc_5
        refine gw_iload (pc' := 38) κ dX2_share_36 rfl 5 rfl ?_
        refine gw_aload_n (pc' := 39) κ dX2_share_38 rfl 1 rfl rfl ?_
        refine gb_get (pc' := 42) (C := RX3) (T := TX3) (N := 10) κ dX2_share_39 rfl inX3 1 rfl rfl rfl 8 (by decide) tw_fl_X2_57 rfl ?_
        refine gw_iload (pc' := 44) κ dX2_share_42 rfl 6 rfl ?_
        obtain ⟨hb_6, h⟩ := h
        refine gb_iald (pc' := 45) κ dX2_share_44 rfl 1 9 rfl rfl hb_6 ?_
        refine gw_iadd (pc' := 46) κ dX2_share_45 rfl  ?_
        refine gw_istore (pc' := 48) κ dX2_share_46 rfl (by decide) (lv' := [(6, .int (v6 + (o1.pe v7.toNatClampNeg))), (0, .ref (qa 0)), (1, .ref (qb 0)), (2, .int x2), (4, .int x4), (5, .int v5), (7, .int v7)]) rfl ?_
        refine gw_iinc (pc' := 51) κ dX2_share_48 rfl 6 rfl (v := (v7 + 1)) rfl (by decide) (lv' := [(7, .int (v7 + 1)), (6, .int (v6 + (o1.pe v7.toNatClampNeg))), (0, .ref (qa 0)), (1, .ref (qb 0)), (2, .int x2), (4, .int x4), (5, .int v5)]) rfl ?_
        refine gw_goto (tgt := 14) κ dX2_share_51 (by decide) ?_
        refine gw_lv (lv' := [(0, .ref (qa 0)), (1, .ref (qb 0)), (2, .int x2), (4, .int x4), (5, .int v5), (6, .int (v6 + (o1.pe v7.toNatClampNeg))), (7, .int (v7 + 1))]) [2, 3, 4, 5, 6, 1, 0] rfl ?_
        exact ih14 (v6 + (o1.pe v7.toNatClampNeg)) (v7 + 1) h
set_option maxHeartbeats 4000000 in
set_option maxRecDepth 100000 in
theorem c_X2_share {l : Launch} {D : va_G} {cI cR : ClassId}  (qa : Nat → Nat) (qb : Nat → Nat) {P : Int32 → Prop} (o0 : PlT) (o1 : StT) (x2 : Int32) (x3 : Int32) (x4 : Int32) (h : wp_X2_share P o0 o1 x2 x3 x4) : CT l D cI cR yX2_share cX2_share 10 (some .int) ({ frames := 2, cells := 0, slots := 0, locals := 45 } : Room) [.ref (qa 0), .ref (qb 0), .int x2, .int x3, .int x4] (wfl [cPl qa cI o0.od o0.rd o0.vn o0.pn o0.ao o0.sr o0.sp o0.wt, cSt qb cI o1.se o1.la o1.de o1.le o1.sa o1.fl o1.ar o1.dr o1.pe o1.ri]) (fun _ : Unit => (wfl [cPl qa cI o0.od o0.rd o0.vn o0.pn o0.ao o0.sr o0.sp o0.wt, cSt qb cI o1.se o1.la o1.de o1.le o1.sa o1.fl o1.ar o1.dr o1.pe o1.ri])) (pI (fun (r : Int32) (_ : Unit) => P r)) 0 0 := by
  refine ct_of RX2 rfl (by decide +kernel) (Nat.le_of_ble_eq_true rfl) (fun zp ze zs zm zb zt zc A hin κ => ?_)
  unfold wp_X2_share at h
  refine gw_nf (lv' := [(0, .ref (qa 0)), (1, .ref (qb 0)), (2, .int x2), (3, .int x3), (4, .int x4)]) (pc' := 0) (st' := []) (ce' := 0) (sl' := 0) rfl rfl rfl rfl rfl rfl ?_
  refine gw_aload_n (pc' := 1) κ dX2_share_0 rfl 1 rfl rfl ?_
  refine gb_get (pc' := 4) (C := RX3) (T := TX3) (N := 10) κ dX2_share_1 rfl inX3 1 rfl rfl rfl 0 (by decide) tw_fl_X2_78 rfl ?_
  refine gw_iload_n (pc' := 5) κ dX2_share_4 rfl 3 rfl rfl ?_
  obtain ⟨hb_1, h⟩ := h
  refine gb_iald (pc' := 6) κ dX2_share_5 rfl 1 1 rfl rfl hb_1 ?_
  refine gw_istore (pc' := 8) κ dX2_share_6 rfl (by decide) (lv' := [(5, .int (o1.se x3.toNatClampNeg)), (0, .ref (qa 0)), (1, .ref (qb 0)), (2, .int x2), (3, .int x3), (4, .int x4)]) rfl ?_
  refine gw_iconst (pc' := 9) (v := 0) κ dX2_share_8 rfl (by decide) ?_
  refine gw_istore (pc' := 11) κ dX2_share_9 rfl (by decide) (lv' := [(6, .int (0 : Int32)), (5, .int (o1.se x3.toNatClampNeg)), (0, .ref (qa 0)), (1, .ref (qb 0)), (2, .int x2), (3, .int x3), (4, .int x4)]) rfl ?_
  refine gw_iconst (pc' := 12) (v := 0) κ dX2_share_11 rfl (by decide) ?_
  refine gw_istore (pc' := 14) κ dX2_share_12 rfl (by decide) (lv' := [(7, .int (0 : Int32)), (6, .int (0 : Int32)), (5, .int (o1.se x3.toNatClampNeg)), (0, .ref (qa 0)), (1, .ref (qb 0)), (2, .int x2), (3, .int x3), (4, .int x4)]) rfl ?_
  obtain ⟨m14, h⟩ := h
  refine gw_lv (lv' := [(0, .ref (qa 0)), (1, .ref (qb 0)), (2, .int x2), (4, .int x4), (5, .int (o1.se x3.toNatClampNeg)), (6, .int (0 : Int32)), (7, .int (0 : Int32))]) [3, 4, 5, 7, 2, 1, 0] rfl ?_
  exact k_X2_share_14 κ qa qb P o0 o1 x2 x3 x4 (o1.se x3.toNatClampNeg) m14 (0 : Int32) (0 : Int32) h
theorem hy_X2_fare : g_hy yX2_fare 2 := by decide +kernel
set_option maxHeartbeats 4000000 in
set_option maxRecDepth 100000 in
theorem c_X2_fare {l : Launch} {D : va_G} {cI cR : ClassId}  (qa : Nat → Nat) (qb : Nat → Nat) {P : Int32 → Prop} (o0 : PlT) (o1 : StT) (x2 : Int32) (h : wp_X2_fare P o0 o1 x2) : CT l D cI cR yX2_fare cX2_fare 3 (some .int) ({ frames := 3, cells := 0, slots := 0, locals := 74 } : Room) [.ref (qa 0), .ref (qb 0), .int x2] (wfl [cPl qa cI o0.od o0.rd o0.vn o0.pn o0.ao o0.sr o0.sp o0.wt, cSt qb cI o1.se o1.la o1.de o1.le o1.sa o1.fl o1.ar o1.dr o1.pe o1.ri]) (fun _ : Unit => (wfl [cPl qa cI o0.od o0.rd o0.vn o0.pn o0.ao o0.sr o0.sp o0.wt, cSt qb cI o1.se o1.la o1.de o1.le o1.sa o1.fl o1.ar o1.dr o1.pe o1.ri])) (pI (fun (r : Int32) (_ : Unit) => P r)) 0 0 := by
  refine ct_of RX2 rfl (by decide +kernel) (Nat.le_of_ble_eq_true rfl) (fun zp ze zs zm zb zt zc A hin κ => ?_)
  unfold wp_X2_fare at h
  refine gw_nf (lv' := [(0, .ref (qa 0)), (1, .ref (qb 0)), (2, .int x2)]) (pc' := 0) (st' := []) (ce' := 0) (sl' := 0) rfl rfl rfl rfl rfl rfl ?_
  refine gw_aload_n (pc' := 1) κ dX2_fare_0 rfl 0 rfl rfl ?_
  refine gb_get (pc' := 4) (C := RX2) (T := TX2) (N := 8) κ dX2_fare_1 rfl inX2 0 rfl rfl rfl 2 (by decide) tw_fl_X2_18 rfl ?_
  refine gw_iload_n (pc' := 5) κ dX2_fare_4 rfl 2 rfl rfl ?_
  obtain ⟨hb_1, h⟩ := h
  refine gb_iald (pc' := 6) κ dX2_fare_5 rfl 0 3 rfl rfl hb_1 ?_
  refine gw_bipush (pc' := 8) (v := -106) κ dX2_fare_6 rfl (by decide) ?_
  refine gw_icmp_ne (pc' := 11) (tgt := 13) κ dX2_fare_8 rfl (by decide) (fun hc_2 => ?_) (fun hc_2 => ?_)
  · have h := h.1 hc_2
    refine gw_aload_n (pc' := 14) κ dX2_fare_13 rfl 0 rfl rfl ?_
    refine gw_aload_n (pc' := 15) κ dX2_fare_14 rfl 1 rfl rfl ?_
    refine gw_iload_n (pc' := 16) κ dX2_fare_15 rfl 2 rfl rfl ?_
    refine gw_iconst (pc' := 17) (v := 3) κ dX2_fare_16 rfl (by decide) ?_
    refine gw_iconst (pc' := 18) (v := 0) κ dX2_fare_17 rfl (by decide) ?_
    refine gb_callV (ci := 2) (qb := 0) (rest := []) κ (c_X2_share qa qb o0 o1 x2 (3 : Int32) (0 : Int32) h) ⟨rfl, rfl, Nat.le_of_ble_eq_true rfl, Nat.le_of_ble_eq_true rfl⟩ tw_ml_X2_103 tw_im_X2_share tw_se_X2_share tw_co_X2_share tw_in_X2 hy_X2_share rfl rfl rfl rfl rfl (Nat.le_of_ble_eq_true rfl) rfl dX2_fare_18 [0, 1] rfl (by decide) (fun _ => Nat.le_of_ble_eq_true rfl) ⟨Nat.le_of_ble_eq_true rfl, Nat.le_of_ble_eq_true rfl⟩ (fun v u hv => ?_)
    obtain ⟨r_3, rfl, h⟩ := hv
    refine gw_nf (ws' := (wfl [cPl qa cI o0.od o0.rd o0.vn o0.pn o0.ao o0.sr o0.sp o0.wt, cSt qb cI o1.se o1.la o1.de o1.le o1.sa o1.fl o1.ar o1.dr o1.pe o1.ri])) (lv' := [(0, .ref (qa 0)), (1, .ref (qb 0)), (2, .int x2)]) (st' := [.int r_3]) (pc' := 21) (ce' := 0) (sl' := 0) rfl rfl rfl rfl rfl rfl ?_
    refine gw_aload_n (pc' := 22) κ dX2_fare_21 rfl 0 rfl rfl ?_
    refine gw_aload_n (pc' := 23) κ dX2_fare_22 rfl 1 rfl rfl ?_
    refine gw_iload_n (pc' := 24) κ dX2_fare_23 rfl 2 rfl rfl ?_
    refine gw_iconst (pc' := 25) (v := 4) κ dX2_fare_24 rfl (by decide) ?_
    refine gw_iconst (pc' := 26) (v := 1) κ dX2_fare_25 rfl (by decide) ?_
    refine gb_callV (ci := 2) (qb := 0) (rest := [.int r_3]) κ (c_X2_share qa qb o0 o1 x2 (4 : Int32) (1 : Int32) h) ⟨rfl, rfl, Nat.le_of_ble_eq_true rfl, Nat.le_of_ble_eq_true rfl⟩ tw_ml_X2_103 tw_im_X2_share tw_se_X2_share tw_co_X2_share tw_in_X2 hy_X2_share rfl rfl rfl rfl rfl (Nat.le_of_ble_eq_true rfl) rfl dX2_fare_26 [0, 1] rfl (by decide) (fun _ => Nat.le_of_ble_eq_true rfl) ⟨Nat.le_of_ble_eq_true rfl, Nat.le_of_ble_eq_true rfl⟩ (fun v u hv => ?_)
    obtain ⟨r_4, rfl, h⟩ := hv
    refine gw_nf (ws' := (wfl [cPl qa cI o0.od o0.rd o0.vn o0.pn o0.ao o0.sr o0.sp o0.wt, cSt qb cI o1.se o1.la o1.de o1.le o1.sa o1.fl o1.ar o1.dr o1.pe o1.ri])) (lv' := [(0, .ref (qa 0)), (1, .ref (qb 0)), (2, .int x2)]) (st' := [.int r_4, .int r_3]) (pc' := 29) (ce' := 0) (sl' := 0) rfl rfl rfl rfl rfl rfl ?_
    refine gw_iadd (pc' := 30) κ dX2_fare_29 rfl  ?_
    exact gw_iret κ dX2_fare_30 () rfl ⟨_, rfl, h⟩
  · have h := h.2 hc_2
    refine gw_iconst (pc' := 12) (v := 0) κ dX2_fare_11 rfl (by decide) ?_
    exact gw_iret κ dX2_fare_12 () rfl ⟨_, rfl, h⟩
theorem hy_X3_removeRider : g_hy yX3_removeRider 1 := by decide +kernel
set_option maxHeartbeats 4000000 in
set_option maxRecDepth 100000 in
theorem k_X3_removeRider_2 {zp : Program} {l : Launch} {ze : Env} {zs : State} {zm : MethodId} {za : Array Value} {zb : List Frame} {zt : Method} {zc : Code} {D : va_G} {cI cR : ClassId} {A : Nat → Prop} (κ : KC zp zs zm za zt zc cX3_removeRider 3 RX3 D cI cR A none) (qa : Nat → Nat) (P : (Nat → Int32) → (Nat → Int32) → (Nat → Int32) → (Nat → Int32) → Int32 → Prop) (o0 : StT) (x1 : Int32) (ri : Int32) : ∀ (n : Nat) (v2 : Int32) (fl : Nat → Int32) (ar : Nat → Int32) (dr : Nat → Int32) (pe : Nat → Int32), wp_X3_removeRider_2 P o0 x1 ri n v2 fl ar dr pe → GM zp l ze ({ frames := 0, cells := 0, slots := 0, locals := 0 } : Room) zs zm za zb zt zc D A 3 (pV (fun (u : (Nat → Int32) × (Nat → Int32) × (Nat → Int32) × (Nat → Int32) × Int32) => P u.1 u.2.1 u.2.2.1 u.2.2.2.1 u.2.2.2.2)) (fun u : (Nat → Int32) × (Nat → Int32) × (Nat → Int32) × (Nat → Int32) × Int32 => (wfl [cSt qa cI o0.se o0.la o0.de o0.le o0.sa u.1 u.2.1 u.2.2.1 u.2.2.2.1 u.2.2.2.2])) 0 0 0 0 (wfl [cSt qa cI o0.se o0.la o0.de o0.le o0.sa fl ar dr pe ri]) [(0, .ref (qa 0)), (2, .int v2)] 2 [] := by
  intro n2
  induction n2 with
  | zero => intro v2 fl ar dr pe h; exact (show False from h).elim
  | succ n2 ih2 =>
    intro v2 fl ar dr pe h
    have h : wp_X3_removeRider_2F P o0 x1 ri (wp_X3_removeRider_2 P o0 x1 ri n2) v2 fl ar dr pe := h
    unfold wp_X3_removeRider_2F at h
    refine gw_iload_n (pc' := 3) κ dX3_removeRider_2 rfl 1 rfl rfl ?_
    refine gw_aload_n (pc' := 4) κ dX3_removeRider_3 rfl 0 rfl rfl ?_
    refine gb_get (pc' := 7) (C := RX3) (T := TX3) (N := 10) κ dX3_removeRider_4 rfl inX3 0 rfl rfl rfl 9 (by decide) tw_fl_X3_48 rfl ?_
    refine gw_iconst (pc' := 8) (v := 1) κ dX3_removeRider_7 rfl (by decide) ?_
    refine gw_isub (pc' := 9) κ dX3_removeRider_8 rfl  ?_
    refine gw_icmp_ge (pc' := 12) (tgt := 74) κ dX3_removeRider_9 rfl (by decide) (fun hc_1 => ?_) (fun hc_1 => ?_)
    · have h := h.1 hc_1
      refine gw_aload_n (pc' := 75) κ dX3_removeRider_74 rfl 0 rfl rfl ?_
      refine gw_dup (pc' := 76) κ dX3_removeRider_75 rfl rfl ?_
      refine gb_get (pc' := 79) (C := RX3) (T := TX3) (N := 10) κ dX3_removeRider_76 rfl inX3 0 rfl rfl rfl 9 (by decide) tw_fl_X3_48 rfl ?_
      refine gw_iconst (pc' := 80) (v := 1) κ dX3_removeRider_79 rfl (by decide) ?_
      refine gw_isub (pc' := 81) κ dX3_removeRider_80 rfl  ?_
      refine gb_put (pc' := 84) (C := RX3) (T := TX3) (N := 10) (ty := .int) (bs' := [cSt qa cI o0.se o0.la o0.de o0.le o0.sa fl ar dr pe (ri - (1 : Int32))]) κ dX3_removeRider_81 rfl inX3 tyX3 tyX3_ok nmX3 0 rfl rfl rfl 9 (by decide) tw_fl_X3_48 rfl (by decide +kernel) rfl rfl (Nat.le_of_ble_eq_true rfl) rfl ?_
      exact gw_vret κ dX3_removeRider_84 (fl, ar, dr, pe, (ri - (1 : Int32))) rfl ⟨rfl, h⟩
    · have h := h.2 hc_1
      refine gw_aload_n (pc' := 13) κ dX3_removeRider_12 rfl 0 rfl rfl ?_
      refine gb_get (pc' := 16) (C := RX3) (T := TX3) (N := 10) κ dX3_removeRider_13 rfl inX3 0 rfl rfl rfl 5 (by decide) tw_fl_X3_27 rfl ?_
      refine gw_iload_n (pc' := 17) κ dX3_removeRider_16 rfl 1 rfl rfl ?_
      refine gw_aload_n (pc' := 18) κ dX3_removeRider_17 rfl 0 rfl rfl ?_
      refine gb_get (pc' := 21) (C := RX3) (T := TX3) (N := 10) κ dX3_removeRider_18 rfl inX3 0 rfl rfl rfl 5 (by decide) tw_fl_X3_27 rfl ?_
      refine gw_iload_n (pc' := 22) κ dX3_removeRider_21 rfl 1 rfl rfl ?_
      refine gw_iconst (pc' := 23) (v := 1) κ dX3_removeRider_22 rfl (by decide) ?_
      refine gw_iadd (pc' := 24) κ dX3_removeRider_23 rfl  ?_
      obtain ⟨hb_2, h⟩ := h
      refine gb_iald (pc' := 25) κ dX3_removeRider_24 rfl 0 6 rfl rfl hb_2 ?_
      obtain ⟨hb_3, h⟩ := h
      refine gb_iast (pc' := 26) (bs' := [cSt qa cI o0.se o0.la o0.de o0.le o0.sa (upd fl v2.toNatClampNeg (fl (v2 + (1 : Int32)).toNatClampNeg)) ar dr pe ri]) κ dX3_removeRider_25 rfl 0 6 rfl rfl hb_3 rfl ?_
      refine gw_aload_n (pc' := 27) κ dX3_removeRider_26 rfl 0 rfl rfl ?_
      refine gb_get (pc' := 30) (C := RX3) (T := TX3) (N := 10) κ dX3_removeRider_27 rfl inX3 0 rfl rfl rfl 6 (by decide) tw_fl_X3_30 rfl ?_
      refine gw_iload_n (pc' := 31) κ dX3_removeRider_30 rfl 1 rfl rfl ?_
      refine gw_aload_n (pc' := 32) κ dX3_removeRider_31 rfl 0 rfl rfl ?_
      refine gb_get (pc' := 35) (C := RX3) (T := TX3) (N := 10) κ dX3_removeRider_32 rfl inX3 0 rfl rfl rfl 6 (by decide) tw_fl_X3_30 rfl ?_
      refine gw_iload_n (pc' := 36) κ dX3_removeRider_35 rfl 1 rfl rfl ?_
      refine gw_iconst (pc' := 37) (v := 1) κ dX3_removeRider_36 rfl (by decide) ?_
      refine gw_iadd (pc' := 38) κ dX3_removeRider_37 rfl  ?_
      obtain ⟨hb_4, h⟩ := h
      refine gb_iald (pc' := 39) κ dX3_removeRider_38 rfl 0 7 rfl rfl hb_4 ?_
      obtain ⟨hb_5, h⟩ := h
      refine gb_iast (pc' := 40) (bs' := [cSt qa cI o0.se o0.la o0.de o0.le o0.sa (upd fl v2.toNatClampNeg (fl (v2 + (1 : Int32)).toNatClampNeg)) (upd ar v2.toNatClampNeg (ar (v2 + (1 : Int32)).toNatClampNeg)) dr pe ri]) κ dX3_removeRider_39 rfl 0 7 rfl rfl hb_5 rfl ?_
      refine gw_aload_n (pc' := 41) κ dX3_removeRider_40 rfl 0 rfl rfl ?_
      refine gb_get (pc' := 44) (C := RX3) (T := TX3) (N := 10) κ dX3_removeRider_41 rfl inX3 0 rfl rfl rfl 7 (by decide) tw_fl_X3_33 rfl ?_
      refine gw_iload_n (pc' := 45) κ dX3_removeRider_44 rfl 1 rfl rfl ?_
      refine gw_aload_n (pc' := 46) κ dX3_removeRider_45 rfl 0 rfl rfl ?_
      refine gb_get (pc' := 49) (C := RX3) (T := TX3) (N := 10) κ dX3_removeRider_46 rfl inX3 0 rfl rfl rfl 7 (by decide) tw_fl_X3_33 rfl ?_
      refine gw_iload_n (pc' := 50) κ dX3_removeRider_49 rfl 1 rfl rfl ?_
      refine gw_iconst (pc' := 51) (v := 1) κ dX3_removeRider_50 rfl (by decide) ?_
      refine gw_iadd (pc' := 52) κ dX3_removeRider_51 rfl  ?_
      obtain ⟨hb_6, h⟩ := h
      refine gb_iald (pc' := 53) κ dX3_removeRider_52 rfl 0 8 rfl rfl hb_6 ?_
      obtain ⟨hb_7, h⟩ := h
      refine gb_iast (pc' := 54) (bs' := [cSt qa cI o0.se o0.la o0.de o0.le o0.sa (upd fl v2.toNatClampNeg (fl (v2 + (1 : Int32)).toNatClampNeg)) (upd ar v2.toNatClampNeg (ar (v2 + (1 : Int32)).toNatClampNeg)) (upd dr v2.toNatClampNeg (dr (v2 + (1 : Int32)).toNatClampNeg)) pe ri]) κ dX3_removeRider_53 rfl 0 8 rfl rfl hb_7 rfl ?_
      refine gw_aload_n (pc' := 55) κ dX3_removeRider_54 rfl 0 rfl rfl ?_
      refine gb_get (pc' := 58) (C := RX3) (T := TX3) (N := 10) κ dX3_removeRider_55 rfl inX3 0 rfl rfl rfl 8 (by decide) tw_fl_X3_36 rfl ?_
      refine gw_iload_n (pc' := 59) κ dX3_removeRider_58 rfl 1 rfl rfl ?_
      refine gw_aload_n (pc' := 60) κ dX3_removeRider_59 rfl 0 rfl rfl ?_
      refine gb_get (pc' := 63) (C := RX3) (T := TX3) (N := 10) κ dX3_removeRider_60 rfl inX3 0 rfl rfl rfl 8 (by decide) tw_fl_X3_36 rfl ?_
      refine gw_iload_n (pc' := 64) κ dX3_removeRider_63 rfl 1 rfl rfl ?_
      refine gw_iconst (pc' := 65) (v := 1) κ dX3_removeRider_64 rfl (by decide) ?_
      refine gw_iadd (pc' := 66) κ dX3_removeRider_65 rfl  ?_
      obtain ⟨hb_8, h⟩ := h
      refine gb_iald (pc' := 67) κ dX3_removeRider_66 rfl 0 9 rfl rfl hb_8 ?_
      obtain ⟨hb_9, h⟩ := h
      refine gb_iast (pc' := 68) (bs' := [cSt qa cI o0.se o0.la o0.de o0.le o0.sa (upd fl v2.toNatClampNeg (fl (v2 + (1 : Int32)).toNatClampNeg)) (upd ar v2.toNatClampNeg (ar (v2 + (1 : Int32)).toNatClampNeg)) (upd dr v2.toNatClampNeg (dr (v2 + (1 : Int32)).toNatClampNeg)) (upd pe v2.toNatClampNeg (pe (v2 + (1 : Int32)).toNatClampNeg)) ri]) κ dX3_removeRider_67 rfl 0 9 rfl rfl hb_9 rfl ?_
      refine gw_iinc (pc' := 71) κ dX3_removeRider_68 rfl 1 rfl (v := (v2 + 1)) rfl (by decide) (lv' := [(2, .int (v2 + 1)), (0, .ref (qa 0))]) rfl ?_
      refine gw_goto (tgt := 2) κ dX3_removeRider_71 (by decide) ?_
      refine gw_lv (lv' := [(0, .ref (qa 0)), (2, .int (v2 + 1))]) [1, 0] rfl ?_
      exact ih2 (v2 + 1) (upd fl v2.toNatClampNeg (fl (v2 + (1 : Int32)).toNatClampNeg)) (upd ar v2.toNatClampNeg (ar (v2 + (1 : Int32)).toNatClampNeg)) (upd dr v2.toNatClampNeg (dr (v2 + (1 : Int32)).toNatClampNeg)) (upd pe v2.toNatClampNeg (pe (v2 + (1 : Int32)).toNatClampNeg)) h
set_option maxHeartbeats 4000000 in
set_option maxRecDepth 100000 in
theorem c_X3_removeRider {l : Launch} {D : va_G} {cI cR : ClassId}  (qa : Nat → Nat) {P : (Nat → Int32) → (Nat → Int32) → (Nat → Int32) → (Nat → Int32) → Int32 → Prop} (o0 : StT) (x1 : Int32) (h : wp_X3_removeRider P o0 x1) : CT l D cI cR yX3_removeRider cX3_removeRider 3 none ({ frames := 0, cells := 0, slots := 0, locals := 0 } : Room) [.ref (qa 0), .int x1] (wfl [cSt qa cI o0.se o0.la o0.de o0.le o0.sa o0.fl o0.ar o0.dr o0.pe o0.ri]) (fun u : (Nat → Int32) × (Nat → Int32) × (Nat → Int32) × (Nat → Int32) × Int32 => (wfl [cSt qa cI o0.se o0.la o0.de o0.le o0.sa u.1 u.2.1 u.2.2.1 u.2.2.2.1 u.2.2.2.2])) (pV (fun (u : (Nat → Int32) × (Nat → Int32) × (Nat → Int32) × (Nat → Int32) × Int32) => P u.1 u.2.1 u.2.2.1 u.2.2.2.1 u.2.2.2.2)) 0 0 := by
  refine ct_of RX3 rfl (by decide +kernel) (Nat.le_of_ble_eq_true rfl) (fun zp ze zs zm zb zt zc A hin κ => ?_)
  unfold wp_X3_removeRider at h
  refine gw_nf (lv' := [(0, .ref (qa 0)), (1, .int x1)]) (pc' := 0) (st' := []) (ce' := 0) (sl' := 0) rfl rfl rfl rfl rfl rfl ?_
  refine gw_iload_n (pc' := 1) κ dX3_removeRider_0 rfl 1 rfl rfl ?_
  refine gw_istore_n (pc' := 2) κ dX3_removeRider_1 rfl rfl (by decide) (lv' := [(2, .int x1), (0, .ref (qa 0)), (1, .int x1)]) rfl ?_
  obtain ⟨m2, h⟩ := h
  refine gw_lv (lv' := [(0, .ref (qa 0)), (2, .int x1)]) [1, 0] rfl ?_
  exact k_X3_removeRider_2 κ qa P o0 x1 o0.ri m2 x1 o0.fl o0.ar o0.dr o0.pe h
theorem hy_X5_cancel : g_hy yX5_cancel 1 := by decide +kernel
set_option maxHeartbeats 4000000 in
set_option maxRecDepth 100000 in
theorem c_X5_cancel {l : Launch} {D : va_G} {cI cR : ClassId}  (qx : Nat → Nat) (qn : Nat → Nat) (qp : Nat → Nat) (qw : Nat → Nat) (qt : Nat → Nat) (qu : Nat → Nat) (qd : Nat → Nat) (qh : Nat → Nat) (ql : Nat → Nat) (qs : Nat → Nat → Nat) {P : Int32 → (Nat → Int32) → (Nat → Int32) → (Nat → Int32) → (Nat → Int32) → Int32 → (Nat → Int32) → (Nat → Int32) → (Nat → Int32) → (Nat → Int32) → (Nat → Int32) → Int32 → Int32 → Int32 → (Nat → StT) → Int32 → Int32 → Prop} (now : StT) (pln : PlT) (his : HiT) (x1 : Int32) (h : wp_X5_cancel P now pln his x1) : CT l D cI cR yX5_cancel cX5_cancel 3 (some .int) ({ frames := 6, cells := 0, slots := 0, locals := 140 } : Room) [.ref (qx 0), .int x1] (wfl [cX qx qn qp qw qt qu qd qh ql, cSt qn cI now.se now.la now.de now.le now.sa now.fl now.ar now.dr now.pe now.ri, cPl qp cI pln.od pln.rd pln.vn pln.pn pln.ao pln.sr pln.sp pln.wt, cHi qh qs cR his.ol his.sz, cSt (qs 0) cI (his.hs 0).se (his.hs 0).la (his.hs 0).de (his.hs 0).le (his.hs 0).sa (his.hs 0).fl (his.hs 0).ar (his.hs 0).dr (his.hs 0).pe (his.hs 0).ri, cSt (qs 1) cI (his.hs 1).se (his.hs 1).la (his.hs 1).de (his.hs 1).le (his.hs 1).sa (his.hs 1).fl (his.hs 1).ar (his.hs 1).dr (his.hs 1).pe (his.hs 1).ri, cSt (qs 2) cI (his.hs 2).se (his.hs 2).la (his.hs 2).de (his.hs 2).le (his.hs 2).sa (his.hs 2).fl (his.hs 2).ar (his.hs 2).dr (his.hs 2).pe (his.hs 2).ri, cSt (qs 3) cI (his.hs 3).se (his.hs 3).la (his.hs 3).de (his.hs 3).le (his.hs 3).sa (his.hs 3).fl (his.hs 3).ar (his.hs 3).dr (his.hs 3).pe (his.hs 3).ri, cSt (qs 4) cI (his.hs 4).se (his.hs 4).la (his.hs 4).de (his.hs 4).le (his.hs 4).sa (his.hs 4).fl (his.hs 4).ar (his.hs 4).dr (his.hs 4).pe (his.hs 4).ri, cSt (qs 5) cI (his.hs 5).se (his.hs 5).la (his.hs 5).de (his.hs 5).le (his.hs 5).sa (his.hs 5).fl (his.hs 5).ar (his.hs 5).dr (his.hs 5).pe (his.hs 5).ri]) (fun u : (Nat → Int32) × (Nat → Int32) × (Nat → Int32) × (Nat → Int32) × Int32 × (Nat → Int32) × (Nat → Int32) × (Nat → Int32) × (Nat → Int32) × (Nat → Int32) × Int32 × Int32 × Int32 × (Nat → StT) × Int32 × Int32 => (wfl [cX qx qn qp qw qt qu qd qh ql, cSt qn cI now.se now.la now.de now.le now.sa u.1 u.2.1 u.2.2.1 u.2.2.2.1 u.2.2.2.2.1, cPl qp cI u.2.2.2.2.2.1 u.2.2.2.2.2.2.1 u.2.2.2.2.2.2.2.1 u.2.2.2.2.2.2.2.2.1 u.2.2.2.2.2.2.2.2.2.1 u.2.2.2.2.2.2.2.2.2.2.1 u.2.2.2.2.2.2.2.2.2.2.2.1 u.2.2.2.2.2.2.2.2.2.2.2.2.1, cHi qh qs cR u.2.2.2.2.2.2.2.2.2.2.2.2.2.2.1 u.2.2.2.2.2.2.2.2.2.2.2.2.2.2.2, cSt (qs 0) cI (u.2.2.2.2.2.2.2.2.2.2.2.2.2.1 0).se (u.2.2.2.2.2.2.2.2.2.2.2.2.2.1 0).la (u.2.2.2.2.2.2.2.2.2.2.2.2.2.1 0).de (u.2.2.2.2.2.2.2.2.2.2.2.2.2.1 0).le (u.2.2.2.2.2.2.2.2.2.2.2.2.2.1 0).sa (u.2.2.2.2.2.2.2.2.2.2.2.2.2.1 0).fl (u.2.2.2.2.2.2.2.2.2.2.2.2.2.1 0).ar (u.2.2.2.2.2.2.2.2.2.2.2.2.2.1 0).dr (u.2.2.2.2.2.2.2.2.2.2.2.2.2.1 0).pe (u.2.2.2.2.2.2.2.2.2.2.2.2.2.1 0).ri, cSt (qs 1) cI (u.2.2.2.2.2.2.2.2.2.2.2.2.2.1 1).se (u.2.2.2.2.2.2.2.2.2.2.2.2.2.1 1).la (u.2.2.2.2.2.2.2.2.2.2.2.2.2.1 1).de (u.2.2.2.2.2.2.2.2.2.2.2.2.2.1 1).le (u.2.2.2.2.2.2.2.2.2.2.2.2.2.1 1).sa (u.2.2.2.2.2.2.2.2.2.2.2.2.2.1 1).fl (u.2.2.2.2.2.2.2.2.2.2.2.2.2.1 1).ar (u.2.2.2.2.2.2.2.2.2.2.2.2.2.1 1).dr (u.2.2.2.2.2.2.2.2.2.2.2.2.2.1 1).pe (u.2.2.2.2.2.2.2.2.2.2.2.2.2.1 1).ri, cSt (qs 2) cI (u.2.2.2.2.2.2.2.2.2.2.2.2.2.1 2).se (u.2.2.2.2.2.2.2.2.2.2.2.2.2.1 2).la (u.2.2.2.2.2.2.2.2.2.2.2.2.2.1 2).de (u.2.2.2.2.2.2.2.2.2.2.2.2.2.1 2).le (u.2.2.2.2.2.2.2.2.2.2.2.2.2.1 2).sa (u.2.2.2.2.2.2.2.2.2.2.2.2.2.1 2).fl (u.2.2.2.2.2.2.2.2.2.2.2.2.2.1 2).ar (u.2.2.2.2.2.2.2.2.2.2.2.2.2.1 2).dr (u.2.2.2.2.2.2.2.2.2.2.2.2.2.1 2).pe (u.2.2.2.2.2.2.2.2.2.2.2.2.2.1 2).ri, cSt (qs 3) cI (u.2.2.2.2.2.2.2.2.2.2.2.2.2.1 3).se (u.2.2.2.2.2.2.2.2.2.2.2.2.2.1 3).la (u.2.2.2.2.2.2.2.2.2.2.2.2.2.1 3).de (u.2.2.2.2.2.2.2.2.2.2.2.2.2.1 3).le (u.2.2.2.2.2.2.2.2.2.2.2.2.2.1 3).sa (u.2.2.2.2.2.2.2.2.2.2.2.2.2.1 3).fl (u.2.2.2.2.2.2.2.2.2.2.2.2.2.1 3).ar (u.2.2.2.2.2.2.2.2.2.2.2.2.2.1 3).dr (u.2.2.2.2.2.2.2.2.2.2.2.2.2.1 3).pe (u.2.2.2.2.2.2.2.2.2.2.2.2.2.1 3).ri, cSt (qs 4) cI (u.2.2.2.2.2.2.2.2.2.2.2.2.2.1 4).se (u.2.2.2.2.2.2.2.2.2.2.2.2.2.1 4).la (u.2.2.2.2.2.2.2.2.2.2.2.2.2.1 4).de (u.2.2.2.2.2.2.2.2.2.2.2.2.2.1 4).le (u.2.2.2.2.2.2.2.2.2.2.2.2.2.1 4).sa (u.2.2.2.2.2.2.2.2.2.2.2.2.2.1 4).fl (u.2.2.2.2.2.2.2.2.2.2.2.2.2.1 4).ar (u.2.2.2.2.2.2.2.2.2.2.2.2.2.1 4).dr (u.2.2.2.2.2.2.2.2.2.2.2.2.2.1 4).pe (u.2.2.2.2.2.2.2.2.2.2.2.2.2.1 4).ri, cSt (qs 5) cI (u.2.2.2.2.2.2.2.2.2.2.2.2.2.1 5).se (u.2.2.2.2.2.2.2.2.2.2.2.2.2.1 5).la (u.2.2.2.2.2.2.2.2.2.2.2.2.2.1 5).de (u.2.2.2.2.2.2.2.2.2.2.2.2.2.1 5).le (u.2.2.2.2.2.2.2.2.2.2.2.2.2.1 5).sa (u.2.2.2.2.2.2.2.2.2.2.2.2.2.1 5).fl (u.2.2.2.2.2.2.2.2.2.2.2.2.2.1 5).ar (u.2.2.2.2.2.2.2.2.2.2.2.2.2.1 5).dr (u.2.2.2.2.2.2.2.2.2.2.2.2.2.1 5).pe (u.2.2.2.2.2.2.2.2.2.2.2.2.2.1 5).ri])) (pI (fun (r : Int32) (u : (Nat → Int32) × (Nat → Int32) × (Nat → Int32) × (Nat → Int32) × Int32 × (Nat → Int32) × (Nat → Int32) × (Nat → Int32) × (Nat → Int32) × (Nat → Int32) × Int32 × Int32 × Int32 × (Nat → StT) × Int32 × Int32) => P r u.1 u.2.1 u.2.2.1 u.2.2.2.1 u.2.2.2.2.1 u.2.2.2.2.2.1 u.2.2.2.2.2.2.1 u.2.2.2.2.2.2.2.1 u.2.2.2.2.2.2.2.2.1 u.2.2.2.2.2.2.2.2.2.1 u.2.2.2.2.2.2.2.2.2.2.1 u.2.2.2.2.2.2.2.2.2.2.2.1 u.2.2.2.2.2.2.2.2.2.2.2.2.1 u.2.2.2.2.2.2.2.2.2.2.2.2.2.1 u.2.2.2.2.2.2.2.2.2.2.2.2.2.2.1 u.2.2.2.2.2.2.2.2.2.2.2.2.2.2.2)) 0 0 := by
  refine ct_of RX5 rfl (by decide +kernel) (Nat.le_of_ble_eq_true rfl) (fun zp ze zs zm zb zt zc A hin κ => ?_)
  unfold wp_X5_cancel at h
  refine gw_nf (lv' := [(0, .ref (qx 0)), (1, .int x1)]) (pc' := 0) (st' := []) (ce' := 0) (sl' := 0) rfl rfl rfl rfl rfl rfl ?_
  refine gw_aload_n (pc' := 1) κ dX5_cancel_0 rfl 0 rfl rfl ?_
  refine gw_iload_n (pc' := 2) κ dX5_cancel_1 rfl 1 rfl rfl ?_
  refine gb_callV (ci := 5) (qb := 0) (rest := []) κ (c_X5_isRider qx qn qp qw qt qu qd qh ql qs now x1 h) ⟨rfl, rfl, Nat.le_of_ble_eq_true rfl, Nat.le_of_ble_eq_true rfl⟩ tw_ml_X5_125 tw_im_X5_isRider tw_se_X5_isRider tw_co_X5_isRider tw_in_X5 hy_X5_isRider rfl rfl rfl rfl rfl (Nat.le_of_ble_eq_true rfl) rfl dX5_cancel_2 [0, 1] rfl (by decide) (fun _ => Nat.le_of_ble_eq_true rfl) ⟨Nat.le_of_ble_eq_true rfl, Nat.le_of_ble_eq_true rfl⟩ (fun v u hv => ?_)
  obtain ⟨r_1, rfl, h⟩ := hv
  refine gw_nf (ws' := (wfl [cX qx qn qp qw qt qu qd qh ql, cSt qn cI now.se now.la now.de now.le now.sa now.fl now.ar now.dr now.pe now.ri, cPl qp cI pln.od pln.rd pln.vn pln.pn pln.ao pln.sr pln.sp pln.wt, cHi qh qs cR his.ol his.sz, cSt (qs 0) cI (his.hs 0).se (his.hs 0).la (his.hs 0).de (his.hs 0).le (his.hs 0).sa (his.hs 0).fl (his.hs 0).ar (his.hs 0).dr (his.hs 0).pe (his.hs 0).ri, cSt (qs 1) cI (his.hs 1).se (his.hs 1).la (his.hs 1).de (his.hs 1).le (his.hs 1).sa (his.hs 1).fl (his.hs 1).ar (his.hs 1).dr (his.hs 1).pe (his.hs 1).ri, cSt (qs 2) cI (his.hs 2).se (his.hs 2).la (his.hs 2).de (his.hs 2).le (his.hs 2).sa (his.hs 2).fl (his.hs 2).ar (his.hs 2).dr (his.hs 2).pe (his.hs 2).ri, cSt (qs 3) cI (his.hs 3).se (his.hs 3).la (his.hs 3).de (his.hs 3).le (his.hs 3).sa (his.hs 3).fl (his.hs 3).ar (his.hs 3).dr (his.hs 3).pe (his.hs 3).ri, cSt (qs 4) cI (his.hs 4).se (his.hs 4).la (his.hs 4).de (his.hs 4).le (his.hs 4).sa (his.hs 4).fl (his.hs 4).ar (his.hs 4).dr (his.hs 4).pe (his.hs 4).ri, cSt (qs 5) cI (his.hs 5).se (his.hs 5).la (his.hs 5).de (his.hs 5).le (his.hs 5).sa (his.hs 5).fl (his.hs 5).ar (his.hs 5).dr (his.hs 5).pe (his.hs 5).ri])) (lv' := [(0, .ref (qx 0)), (1, .int x1)]) (st' := [.int r_1]) (pc' := 5) (ce' := 0) (sl' := 0) rfl rfl rfl rfl rfl rfl ?_
  refine gw_if_ne (pc' := 8) (tgt := 11) κ dX5_cancel_5 rfl (by decide) (fun hc_2 => ?_) (fun hc_2 => ?_)
  · have h := h.1 hc_2
    refine gw_aload_n (pc' := 12) κ dX5_cancel_11 rfl 0 rfl rfl ?_
    refine gb_get (pc' := 15) (C := RX5) (T := TX5) (N := 8) κ dX5_cancel_12 rfl inX5 0 rfl rfl rfl 1 (by decide) tw_fl_X5_19 rfl ?_
    refine gw_aload_n (pc' := 16) κ dX5_cancel_15 rfl 0 rfl rfl ?_
    refine gb_get (pc' := 19) (C := RX5) (T := TX5) (N := 8) κ dX5_cancel_16 rfl inX5 0 rfl rfl rfl 0 (by decide) tw_fl_X5_10 rfl ?_
    refine gw_iload_n (pc' := 20) κ dX5_cancel_19 rfl 1 rfl rfl ?_
    refine gb_callV (ci := 2) (qb := 2) (rest := []) κ (c_X2_fare qp qn pln now x1 h) ⟨rfl, rfl, Nat.le_of_ble_eq_true rfl, Nat.le_of_ble_eq_true rfl⟩ tw_ml_X5_128 tw_im_X2_fare tw_se_X2_fare tw_co_X2_fare tw_in_X2 hy_X2_fare rfl rfl rfl rfl rfl (Nat.le_of_ble_eq_true rfl) rfl dX5_cancel_20 [2, 1] rfl (by decide) (fun _ => Nat.le_of_ble_eq_true rfl) ⟨Nat.le_of_ble_eq_true rfl, Nat.le_of_ble_eq_true rfl⟩ (fun v u hv => ?_)
    obtain ⟨r_3, rfl, h⟩ := hv
    refine gw_nf (ws' := (wfl [cX qx qn qp qw qt qu qd qh ql, cSt qn cI now.se now.la now.de now.le now.sa now.fl now.ar now.dr now.pe now.ri, cPl qp cI pln.od pln.rd pln.vn pln.pn pln.ao pln.sr pln.sp pln.wt, cHi qh qs cR his.ol his.sz, cSt (qs 0) cI (his.hs 0).se (his.hs 0).la (his.hs 0).de (his.hs 0).le (his.hs 0).sa (his.hs 0).fl (his.hs 0).ar (his.hs 0).dr (his.hs 0).pe (his.hs 0).ri, cSt (qs 1) cI (his.hs 1).se (his.hs 1).la (his.hs 1).de (his.hs 1).le (his.hs 1).sa (his.hs 1).fl (his.hs 1).ar (his.hs 1).dr (his.hs 1).pe (his.hs 1).ri, cSt (qs 2) cI (his.hs 2).se (his.hs 2).la (his.hs 2).de (his.hs 2).le (his.hs 2).sa (his.hs 2).fl (his.hs 2).ar (his.hs 2).dr (his.hs 2).pe (his.hs 2).ri, cSt (qs 3) cI (his.hs 3).se (his.hs 3).la (his.hs 3).de (his.hs 3).le (his.hs 3).sa (his.hs 3).fl (his.hs 3).ar (his.hs 3).dr (his.hs 3).pe (his.hs 3).ri, cSt (qs 4) cI (his.hs 4).se (his.hs 4).la (his.hs 4).de (his.hs 4).le (his.hs 4).sa (his.hs 4).fl (his.hs 4).ar (his.hs 4).dr (his.hs 4).pe (his.hs 4).ri, cSt (qs 5) cI (his.hs 5).se (his.hs 5).la (his.hs 5).de (his.hs 5).le (his.hs 5).sa (his.hs 5).fl (his.hs 5).ar (his.hs 5).dr (his.hs 5).pe (his.hs 5).ri])) (lv' := [(0, .ref (qx 0)), (1, .int x1)]) (st' := [.int r_3]) (pc' := 23) (ce' := 0) (sl' := 0) rfl rfl rfl rfl rfl rfl ?_
    refine gw_istore_n (pc' := 24) κ dX5_cancel_23 rfl rfl (by decide) (lv' := [(2, .int r_3), (0, .ref (qx 0)), (1, .int x1)]) rfl ?_
    refine gw_aload_n (pc' := 25) κ dX5_cancel_24 rfl 1 rfl rfl ?_
    refine gb_get (pc' := 28) (C := RX5) (T := TX5) (N := 8) κ dX5_cancel_25 rfl inX5 0 rfl rfl rfl 6 (by decide) tw_fl_X5_46 rfl ?_
    refine gw_aload_n (pc' := 29) κ dX5_cancel_28 rfl 1 rfl rfl ?_
    refine gb_get (pc' := 32) (C := RX5) (T := TX5) (N := 8) κ dX5_cancel_29 rfl inX5 0 rfl rfl rfl 0 (by decide) tw_fl_X5_10 rfl ?_
    refine gb_callV (ci := 0) (qb := 3) (rest := []) κ (c_X0_record qh qn qs his now h) ⟨rfl, rfl, Nat.le_of_ble_eq_true rfl, Nat.le_of_ble_eq_true rfl⟩ tw_ml_X5_68 tw_im_X0_record tw_se_X0_record tw_co_X0_record tw_in_X0 hy_X0_record rfl rfl rfl rfl rfl (Nat.le_of_ble_eq_true rfl) rfl dX5_cancel_32 [3, 4, 5, 6, 7, 8, 9, 1] rfl (by decide) (fun _ => Nat.le_of_ble_eq_true rfl) ⟨Nat.le_of_ble_eq_true rfl, Nat.le_of_ble_eq_true rfl⟩ (fun v u hv => ?_)
    obtain ⟨rfl, h⟩ := hv
    obtain ⟨hs_4, ol_5, sz_6⟩ := u
    refine gw_nf (ws' := (wfl [cX qx qn qp qw qt qu qd qh ql, cSt qn cI now.se now.la now.de now.le now.sa now.fl now.ar now.dr now.pe now.ri, cPl qp cI pln.od pln.rd pln.vn pln.pn pln.ao pln.sr pln.sp pln.wt, cHi qh qs cR ol_5 sz_6, cSt (qs 0) cI (hs_4 0).se (hs_4 0).la (hs_4 0).de (hs_4 0).le (hs_4 0).sa (hs_4 0).fl (hs_4 0).ar (hs_4 0).dr (hs_4 0).pe (hs_4 0).ri, cSt (qs 1) cI (hs_4 1).se (hs_4 1).la (hs_4 1).de (hs_4 1).le (hs_4 1).sa (hs_4 1).fl (hs_4 1).ar (hs_4 1).dr (hs_4 1).pe (hs_4 1).ri, cSt (qs 2) cI (hs_4 2).se (hs_4 2).la (hs_4 2).de (hs_4 2).le (hs_4 2).sa (hs_4 2).fl (hs_4 2).ar (hs_4 2).dr (hs_4 2).pe (hs_4 2).ri, cSt (qs 3) cI (hs_4 3).se (hs_4 3).la (hs_4 3).de (hs_4 3).le (hs_4 3).sa (hs_4 3).fl (hs_4 3).ar (hs_4 3).dr (hs_4 3).pe (hs_4 3).ri, cSt (qs 4) cI (hs_4 4).se (hs_4 4).la (hs_4 4).de (hs_4 4).le (hs_4 4).sa (hs_4 4).fl (hs_4 4).ar (hs_4 4).dr (hs_4 4).pe (hs_4 4).ri, cSt (qs 5) cI (hs_4 5).se (hs_4 5).la (hs_4 5).de (hs_4 5).le (hs_4 5).sa (hs_4 5).fl (hs_4 5).ar (hs_4 5).dr (hs_4 5).pe (hs_4 5).ri])) (lv' := [(2, .int r_3), (0, .ref (qx 0)), (1, .int x1)]) (st' := []) (pc' := 35) (ce' := 0) (sl' := 0) rfl rfl rfl rfl rfl rfl ?_
    refine gw_aload_n (pc' := 36) κ dX5_cancel_35 rfl 1 rfl rfl ?_
    refine gb_get (pc' := 39) (C := RX5) (T := TX5) (N := 8) κ dX5_cancel_36 rfl inX5 0 rfl rfl rfl 0 (by decide) tw_fl_X5_10 rfl ?_
    refine gw_iload_n (pc' := 40) κ dX5_cancel_39 rfl 2 rfl rfl ?_
    refine gb_callV (ci := 3) (qb := 1) (rest := []) κ (c_X3_removeRider qn now x1 h) ⟨rfl, rfl, Nat.le_of_ble_eq_true rfl, Nat.le_of_ble_eq_true rfl⟩ tw_ml_X5_132 tw_im_X3_removeRider tw_se_X3_removeRider tw_co_X3_removeRider tw_in_X3 hy_X3_removeRider rfl rfl rfl rfl rfl (Nat.le_of_ble_eq_true rfl) rfl dX5_cancel_40 [1] rfl (by decide) (fun _ => Nat.le_of_ble_eq_true rfl) ⟨Nat.le_of_ble_eq_true rfl, Nat.le_of_ble_eq_true rfl⟩ (fun v u hv => ?_)
    obtain ⟨rfl, h⟩ := hv
    obtain ⟨fl_7, ar_8, dr_9, pe_10, ri_11⟩ := u
    refine gw_nf (ws' := (wfl [cX qx qn qp qw qt qu qd qh ql, cSt qn cI now.se now.la now.de now.le now.sa fl_7 ar_8 dr_9 pe_10 ri_11, cPl qp cI pln.od pln.rd pln.vn pln.pn pln.ao pln.sr pln.sp pln.wt, cHi qh qs cR ol_5 sz_6, cSt (qs 0) cI (hs_4 0).se (hs_4 0).la (hs_4 0).de (hs_4 0).le (hs_4 0).sa (hs_4 0).fl (hs_4 0).ar (hs_4 0).dr (hs_4 0).pe (hs_4 0).ri, cSt (qs 1) cI (hs_4 1).se (hs_4 1).la (hs_4 1).de (hs_4 1).le (hs_4 1).sa (hs_4 1).fl (hs_4 1).ar (hs_4 1).dr (hs_4 1).pe (hs_4 1).ri, cSt (qs 2) cI (hs_4 2).se (hs_4 2).la (hs_4 2).de (hs_4 2).le (hs_4 2).sa (hs_4 2).fl (hs_4 2).ar (hs_4 2).dr (hs_4 2).pe (hs_4 2).ri, cSt (qs 3) cI (hs_4 3).se (hs_4 3).la (hs_4 3).de (hs_4 3).le (hs_4 3).sa (hs_4 3).fl (hs_4 3).ar (hs_4 3).dr (hs_4 3).pe (hs_4 3).ri, cSt (qs 4) cI (hs_4 4).se (hs_4 4).la (hs_4 4).de (hs_4 4).le (hs_4 4).sa (hs_4 4).fl (hs_4 4).ar (hs_4 4).dr (hs_4 4).pe (hs_4 4).ri, cSt (qs 5) cI (hs_4 5).se (hs_4 5).la (hs_4 5).de (hs_4 5).le (hs_4 5).sa (hs_4 5).fl (hs_4 5).ar (hs_4 5).dr (hs_4 5).pe (hs_4 5).ri])) (lv' := [(2, .int r_3), (0, .ref (qx 0)), (1, .int x1)]) (st' := []) (pc' := 43) (ce' := 0) (sl' := 0) rfl rfl rfl rfl rfl rfl ?_
    refine gw_aload_n (pc' := 44) κ dX5_cancel_43 rfl 1 rfl rfl ?_
    refine gb_get (pc' := 47) (C := RX5) (T := TX5) (N := 8) κ dX5_cancel_44 rfl inX5 0 rfl rfl rfl 1 (by decide) tw_fl_X5_19 rfl ?_
    refine gw_aload_n (pc' := 48) κ dX5_cancel_47 rfl 1 rfl rfl ?_
    refine gb_get (pc' := 51) (C := RX5) (T := TX5) (N := 8) κ dX5_cancel_48 rfl inX5 0 rfl rfl rfl 0 (by decide) tw_fl_X5_10 rfl ?_
    refine gb_callV (ci := 2) (qb := 2) (rest := []) κ (c_X2_make qp qn pln (mkSt now.se now.la now.de now.le now.sa fl_7 ar_8 dr_9 pe_10 ri_11) h) ⟨rfl, rfl, Nat.le_of_ble_eq_true rfl, Nat.le_of_ble_eq_true rfl⟩ tw_ml_X5_72 tw_im_X2_make tw_se_X2_make tw_co_X2_make tw_in_X2 hy_X2_make rfl rfl rfl rfl rfl (Nat.le_of_ble_eq_true rfl) rfl dX5_cancel_51 [2, 1] rfl (by decide) (fun _ => Nat.le_of_ble_eq_true rfl) ⟨Nat.le_of_ble_eq_true rfl, Nat.le_of_ble_eq_true rfl⟩ (fun v u hv => ?_)
    obtain ⟨rfl, h⟩ := hv
    obtain ⟨od_12, rd_13, vn_14, pn_15, ao_16, sr_17, sp_18, wt_19⟩ := u
    refine gw_nf (ws' := (wfl [cX qx qn qp qw qt qu qd qh ql, cSt qn cI now.se now.la now.de now.le now.sa fl_7 ar_8 dr_9 pe_10 ri_11, cPl qp cI od_12 rd_13 vn_14 pn_15 ao_16 sr_17 sp_18 wt_19, cHi qh qs cR ol_5 sz_6, cSt (qs 0) cI (hs_4 0).se (hs_4 0).la (hs_4 0).de (hs_4 0).le (hs_4 0).sa (hs_4 0).fl (hs_4 0).ar (hs_4 0).dr (hs_4 0).pe (hs_4 0).ri, cSt (qs 1) cI (hs_4 1).se (hs_4 1).la (hs_4 1).de (hs_4 1).le (hs_4 1).sa (hs_4 1).fl (hs_4 1).ar (hs_4 1).dr (hs_4 1).pe (hs_4 1).ri, cSt (qs 2) cI (hs_4 2).se (hs_4 2).la (hs_4 2).de (hs_4 2).le (hs_4 2).sa (hs_4 2).fl (hs_4 2).ar (hs_4 2).dr (hs_4 2).pe (hs_4 2).ri, cSt (qs 3) cI (hs_4 3).se (hs_4 3).la (hs_4 3).de (hs_4 3).le (hs_4 3).sa (hs_4 3).fl (hs_4 3).ar (hs_4 3).dr (hs_4 3).pe (hs_4 3).ri, cSt (qs 4) cI (hs_4 4).se (hs_4 4).la (hs_4 4).de (hs_4 4).le (hs_4 4).sa (hs_4 4).fl (hs_4 4).ar (hs_4 4).dr (hs_4 4).pe (hs_4 4).ri, cSt (qs 5) cI (hs_4 5).se (hs_4 5).la (hs_4 5).de (hs_4 5).le (hs_4 5).sa (hs_4 5).fl (hs_4 5).ar (hs_4 5).dr (hs_4 5).pe (hs_4 5).ri])) (lv' := [(2, .int r_3), (0, .ref (qx 0)), (1, .int x1)]) (st' := []) (pc' := 54) (ce' := 0) (sl' := 0) rfl rfl rfl rfl rfl rfl ?_
    refine gw_iload_n (pc' := 55) κ dX5_cancel_54 rfl 0 rfl rfl ?_
    exact gw_iret κ dX5_cancel_55 (fl_7, ar_8, dr_9, pe_10, ri_11, od_12, rd_13, vn_14, pn_15, ao_16, sr_17, sp_18, wt_19, hs_4, ol_5, sz_6) rfl ⟨_, rfl, h⟩
  · have h := h.2 hc_2
    refine gw_bipush (pc' := 10) (v := -101) κ dX5_cancel_8 rfl (by decide) ?_
    exact gw_iret κ dX5_cancel_10 (now.fl, now.ar, now.dr, now.pe, now.ri, pln.od, pln.rd, pln.vn, pln.pn, pln.ao, pln.sr, pln.sp, pln.wt, his.hs, his.ol, his.sz) rfl ⟨_, rfl, h⟩
theorem hy_X5_rebook : g_hy yX5_rebook 2 := by decide +kernel
set_option maxHeartbeats 4000000 in
set_option maxRecDepth 100000 in
theorem c_X5_rebook {l : Launch} {D : va_G} {cI cR : ClassId}  (qx : Nat → Nat) (qn : Nat → Nat) (qp : Nat → Nat) (qw : Nat → Nat) (qt : Nat → Nat) (qu : Nat → Nat) (qd : Nat → Nat) (qh : Nat → Nat) (ql : Nat → Nat) (qs : Nat → Nat → Nat) {P : Int32 → (Nat → Int32) → (Nat → Int32) → (Nat → Int32) → (Nat → Int32) → (Nat → Int32) → (Nat → Int32) → Int32 → Int32 → Int32 → (Nat → StT) → Int32 → Int32 → Prop} (now : StT) (pln : PlT) (his : HiT) (x1 : Int32) (x2 : Int32) (h : wp_X5_rebook P now pln his x1 x2) : CT l D cI cR yX5_rebook cX5_rebook 3 (some .int) ({ frames := 6, cells := 0, slots := 0, locals := 140 } : Room) [.ref (qx 0), .int x1, .int x2] (wfl [cX qx qn qp qw qt qu qd qh ql, cSt qn cI now.se now.la now.de now.le now.sa now.fl now.ar now.dr now.pe now.ri, cPl qp cI pln.od pln.rd pln.vn pln.pn pln.ao pln.sr pln.sp pln.wt, cHi qh qs cR his.ol his.sz, cSt (qs 0) cI (his.hs 0).se (his.hs 0).la (his.hs 0).de (his.hs 0).le (his.hs 0).sa (his.hs 0).fl (his.hs 0).ar (his.hs 0).dr (his.hs 0).pe (his.hs 0).ri, cSt (qs 1) cI (his.hs 1).se (his.hs 1).la (his.hs 1).de (his.hs 1).le (his.hs 1).sa (his.hs 1).fl (his.hs 1).ar (his.hs 1).dr (his.hs 1).pe (his.hs 1).ri, cSt (qs 2) cI (his.hs 2).se (his.hs 2).la (his.hs 2).de (his.hs 2).le (his.hs 2).sa (his.hs 2).fl (his.hs 2).ar (his.hs 2).dr (his.hs 2).pe (his.hs 2).ri, cSt (qs 3) cI (his.hs 3).se (his.hs 3).la (his.hs 3).de (his.hs 3).le (his.hs 3).sa (his.hs 3).fl (his.hs 3).ar (his.hs 3).dr (his.hs 3).pe (his.hs 3).ri, cSt (qs 4) cI (his.hs 4).se (his.hs 4).la (his.hs 4).de (his.hs 4).le (his.hs 4).sa (his.hs 4).fl (his.hs 4).ar (his.hs 4).dr (his.hs 4).pe (his.hs 4).ri, cSt (qs 5) cI (his.hs 5).se (his.hs 5).la (his.hs 5).de (his.hs 5).le (his.hs 5).sa (his.hs 5).fl (his.hs 5).ar (his.hs 5).dr (his.hs 5).pe (his.hs 5).ri]) (fun u : (Nat → Int32) × (Nat → Int32) × (Nat → Int32) × (Nat → Int32) × (Nat → Int32) × (Nat → Int32) × Int32 × Int32 × Int32 × (Nat → StT) × Int32 × Int32 => (wfl [cX qx qn qp qw qt qu qd qh ql, cSt qn cI now.se now.la now.de now.le now.sa u.1 now.ar now.dr now.pe now.ri, cPl qp cI u.2.1 u.2.2.1 u.2.2.2.1 u.2.2.2.2.1 u.2.2.2.2.2.1 u.2.2.2.2.2.2.1 u.2.2.2.2.2.2.2.1 u.2.2.2.2.2.2.2.2.1, cHi qh qs cR u.2.2.2.2.2.2.2.2.2.2.1 u.2.2.2.2.2.2.2.2.2.2.2, cSt (qs 0) cI (u.2.2.2.2.2.2.2.2.2.1 0).se (u.2.2.2.2.2.2.2.2.2.1 0).la (u.2.2.2.2.2.2.2.2.2.1 0).de (u.2.2.2.2.2.2.2.2.2.1 0).le (u.2.2.2.2.2.2.2.2.2.1 0).sa (u.2.2.2.2.2.2.2.2.2.1 0).fl (u.2.2.2.2.2.2.2.2.2.1 0).ar (u.2.2.2.2.2.2.2.2.2.1 0).dr (u.2.2.2.2.2.2.2.2.2.1 0).pe (u.2.2.2.2.2.2.2.2.2.1 0).ri, cSt (qs 1) cI (u.2.2.2.2.2.2.2.2.2.1 1).se (u.2.2.2.2.2.2.2.2.2.1 1).la (u.2.2.2.2.2.2.2.2.2.1 1).de (u.2.2.2.2.2.2.2.2.2.1 1).le (u.2.2.2.2.2.2.2.2.2.1 1).sa (u.2.2.2.2.2.2.2.2.2.1 1).fl (u.2.2.2.2.2.2.2.2.2.1 1).ar (u.2.2.2.2.2.2.2.2.2.1 1).dr (u.2.2.2.2.2.2.2.2.2.1 1).pe (u.2.2.2.2.2.2.2.2.2.1 1).ri, cSt (qs 2) cI (u.2.2.2.2.2.2.2.2.2.1 2).se (u.2.2.2.2.2.2.2.2.2.1 2).la (u.2.2.2.2.2.2.2.2.2.1 2).de (u.2.2.2.2.2.2.2.2.2.1 2).le (u.2.2.2.2.2.2.2.2.2.1 2).sa (u.2.2.2.2.2.2.2.2.2.1 2).fl (u.2.2.2.2.2.2.2.2.2.1 2).ar (u.2.2.2.2.2.2.2.2.2.1 2).dr (u.2.2.2.2.2.2.2.2.2.1 2).pe (u.2.2.2.2.2.2.2.2.2.1 2).ri, cSt (qs 3) cI (u.2.2.2.2.2.2.2.2.2.1 3).se (u.2.2.2.2.2.2.2.2.2.1 3).la (u.2.2.2.2.2.2.2.2.2.1 3).de (u.2.2.2.2.2.2.2.2.2.1 3).le (u.2.2.2.2.2.2.2.2.2.1 3).sa (u.2.2.2.2.2.2.2.2.2.1 3).fl (u.2.2.2.2.2.2.2.2.2.1 3).ar (u.2.2.2.2.2.2.2.2.2.1 3).dr (u.2.2.2.2.2.2.2.2.2.1 3).pe (u.2.2.2.2.2.2.2.2.2.1 3).ri, cSt (qs 4) cI (u.2.2.2.2.2.2.2.2.2.1 4).se (u.2.2.2.2.2.2.2.2.2.1 4).la (u.2.2.2.2.2.2.2.2.2.1 4).de (u.2.2.2.2.2.2.2.2.2.1 4).le (u.2.2.2.2.2.2.2.2.2.1 4).sa (u.2.2.2.2.2.2.2.2.2.1 4).fl (u.2.2.2.2.2.2.2.2.2.1 4).ar (u.2.2.2.2.2.2.2.2.2.1 4).dr (u.2.2.2.2.2.2.2.2.2.1 4).pe (u.2.2.2.2.2.2.2.2.2.1 4).ri, cSt (qs 5) cI (u.2.2.2.2.2.2.2.2.2.1 5).se (u.2.2.2.2.2.2.2.2.2.1 5).la (u.2.2.2.2.2.2.2.2.2.1 5).de (u.2.2.2.2.2.2.2.2.2.1 5).le (u.2.2.2.2.2.2.2.2.2.1 5).sa (u.2.2.2.2.2.2.2.2.2.1 5).fl (u.2.2.2.2.2.2.2.2.2.1 5).ar (u.2.2.2.2.2.2.2.2.2.1 5).dr (u.2.2.2.2.2.2.2.2.2.1 5).pe (u.2.2.2.2.2.2.2.2.2.1 5).ri])) (pI (fun (r : Int32) (u : (Nat → Int32) × (Nat → Int32) × (Nat → Int32) × (Nat → Int32) × (Nat → Int32) × (Nat → Int32) × Int32 × Int32 × Int32 × (Nat → StT) × Int32 × Int32) => P r u.1 u.2.1 u.2.2.1 u.2.2.2.1 u.2.2.2.2.1 u.2.2.2.2.2.1 u.2.2.2.2.2.2.1 u.2.2.2.2.2.2.2.1 u.2.2.2.2.2.2.2.2.1 u.2.2.2.2.2.2.2.2.2.1 u.2.2.2.2.2.2.2.2.2.2.1 u.2.2.2.2.2.2.2.2.2.2.2)) 0 0 := by
  refine ct_of RX5 rfl (by decide +kernel) (Nat.le_of_ble_eq_true rfl) (fun zp ze zs zm zb zt zc A hin κ => ?_)
  unfold wp_X5_rebook at h
  refine gw_nf (lv' := [(0, .ref (qx 0)), (1, .int x1), (2, .int x2)]) (pc' := 0) (st' := []) (ce' := 0) (sl' := 0) rfl rfl rfl rfl rfl rfl ?_
  refine gw_aload_n (pc' := 1) κ dX5_rebook_0 rfl 0 rfl rfl ?_
  refine gw_iload_n (pc' := 2) κ dX5_rebook_1 rfl 1 rfl rfl ?_
  refine gb_callV (ci := 5) (qb := 0) (rest := []) κ (c_X5_isRider qx qn qp qw qt qu qd qh ql qs now x1 h) ⟨rfl, rfl, Nat.le_of_ble_eq_true rfl, Nat.le_of_ble_eq_true rfl⟩ tw_ml_X5_125 tw_im_X5_isRider tw_se_X5_isRider tw_co_X5_isRider tw_in_X5 hy_X5_isRider rfl rfl rfl rfl rfl (Nat.le_of_ble_eq_true rfl) rfl dX5_rebook_2 [0, 1] rfl (by decide) (fun _ => Nat.le_of_ble_eq_true rfl) ⟨Nat.le_of_ble_eq_true rfl, Nat.le_of_ble_eq_true rfl⟩ (fun v u hv => ?_)
  obtain ⟨r_1, rfl, h⟩ := hv
  refine gw_nf (ws' := (wfl [cX qx qn qp qw qt qu qd qh ql, cSt qn cI now.se now.la now.de now.le now.sa now.fl now.ar now.dr now.pe now.ri, cPl qp cI pln.od pln.rd pln.vn pln.pn pln.ao pln.sr pln.sp pln.wt, cHi qh qs cR his.ol his.sz, cSt (qs 0) cI (his.hs 0).se (his.hs 0).la (his.hs 0).de (his.hs 0).le (his.hs 0).sa (his.hs 0).fl (his.hs 0).ar (his.hs 0).dr (his.hs 0).pe (his.hs 0).ri, cSt (qs 1) cI (his.hs 1).se (his.hs 1).la (his.hs 1).de (his.hs 1).le (his.hs 1).sa (his.hs 1).fl (his.hs 1).ar (his.hs 1).dr (his.hs 1).pe (his.hs 1).ri, cSt (qs 2) cI (his.hs 2).se (his.hs 2).la (his.hs 2).de (his.hs 2).le (his.hs 2).sa (his.hs 2).fl (his.hs 2).ar (his.hs 2).dr (his.hs 2).pe (his.hs 2).ri, cSt (qs 3) cI (his.hs 3).se (his.hs 3).la (his.hs 3).de (his.hs 3).le (his.hs 3).sa (his.hs 3).fl (his.hs 3).ar (his.hs 3).dr (his.hs 3).pe (his.hs 3).ri, cSt (qs 4) cI (his.hs 4).se (his.hs 4).la (his.hs 4).de (his.hs 4).le (his.hs 4).sa (his.hs 4).fl (his.hs 4).ar (his.hs 4).dr (his.hs 4).pe (his.hs 4).ri, cSt (qs 5) cI (his.hs 5).se (his.hs 5).la (his.hs 5).de (his.hs 5).le (his.hs 5).sa (his.hs 5).fl (his.hs 5).ar (his.hs 5).dr (his.hs 5).pe (his.hs 5).ri])) (lv' := [(0, .ref (qx 0)), (1, .int x1), (2, .int x2)]) (st' := [.int r_1]) (pc' := 5) (ce' := 0) (sl' := 0) rfl rfl rfl rfl rfl rfl ?_
  refine gw_if_eq (pc' := 8) (tgt := 15) κ dX5_rebook_5 rfl (by decide) (fun hc_2 => ?_) (fun hc_2 => ?_)
  · have h := h.1 hc_2
    refine gw_bipush (pc' := 17) (v := -101) κ dX5_rebook_15 rfl (by decide) ?_
    exact gw_iret κ dX5_rebook_17 (now.fl, pln.od, pln.rd, pln.vn, pln.pn, pln.ao, pln.sr, pln.sp, pln.wt, his.hs, his.ol, his.sz) rfl ⟨_, rfl, h⟩
  · have h := h.2 hc_2
    refine gw_iload_n (pc' := 9) κ dX5_rebook_8 rfl 2 rfl rfl ?_
    refine gb_callS (rest := []) κ (c_X5_isFlight  x2 h) ⟨rfl, rfl, Nat.le_of_ble_eq_true rfl, Nat.le_of_ble_eq_true rfl⟩ tw_ml_X5_75 tw_st_X5_isFlight tw_co_X5_isFlight tw_in_X5 hy_X5_isFlight rfl (Nat.le_of_ble_eq_true rfl) rfl dX5_rebook_9 [] rfl (by decide) (fun _ => Nat.le_of_ble_eq_true rfl) ⟨Nat.le_of_ble_eq_true rfl, Nat.le_of_ble_eq_true rfl⟩ (fun v u hv => ?_)
    obtain ⟨r_3, rfl, h⟩ := hv
    refine gw_nf (ws' := (wfl [cX qx qn qp qw qt qu qd qh ql, cSt qn cI now.se now.la now.de now.le now.sa now.fl now.ar now.dr now.pe now.ri, cPl qp cI pln.od pln.rd pln.vn pln.pn pln.ao pln.sr pln.sp pln.wt, cHi qh qs cR his.ol his.sz, cSt (qs 0) cI (his.hs 0).se (his.hs 0).la (his.hs 0).de (his.hs 0).le (his.hs 0).sa (his.hs 0).fl (his.hs 0).ar (his.hs 0).dr (his.hs 0).pe (his.hs 0).ri, cSt (qs 1) cI (his.hs 1).se (his.hs 1).la (his.hs 1).de (his.hs 1).le (his.hs 1).sa (his.hs 1).fl (his.hs 1).ar (his.hs 1).dr (his.hs 1).pe (his.hs 1).ri, cSt (qs 2) cI (his.hs 2).se (his.hs 2).la (his.hs 2).de (his.hs 2).le (his.hs 2).sa (his.hs 2).fl (his.hs 2).ar (his.hs 2).dr (his.hs 2).pe (his.hs 2).ri, cSt (qs 3) cI (his.hs 3).se (his.hs 3).la (his.hs 3).de (his.hs 3).le (his.hs 3).sa (his.hs 3).fl (his.hs 3).ar (his.hs 3).dr (his.hs 3).pe (his.hs 3).ri, cSt (qs 4) cI (his.hs 4).se (his.hs 4).la (his.hs 4).de (his.hs 4).le (his.hs 4).sa (his.hs 4).fl (his.hs 4).ar (his.hs 4).dr (his.hs 4).pe (his.hs 4).ri, cSt (qs 5) cI (his.hs 5).se (his.hs 5).la (his.hs 5).de (his.hs 5).le (his.hs 5).sa (his.hs 5).fl (his.hs 5).ar (his.hs 5).dr (his.hs 5).pe (his.hs 5).ri])) (lv' := [(0, .ref (qx 0)), (1, .int x1), (2, .int x2)]) (st' := [.int r_3]) (pc' := 12) (ce' := 0) (sl' := 0) rfl rfl rfl rfl rfl rfl ?_
    refine gw_if_ne (pc' := 15) (tgt := 18) κ dX5_rebook_12 rfl (by decide) (fun hc_4 => ?_) (fun hc_4 => ?_)
    · have h := h.1 hc_4
      refine gw_aload_n (pc' := 19) κ dX5_rebook_18 rfl 0 rfl rfl ?_
      refine gb_get (pc' := 22) (C := RX5) (T := TX5) (N := 8) κ dX5_rebook_19 rfl inX5 0 rfl rfl rfl 0 (by decide) tw_fl_X5_10 rfl ?_
      refine gb_get (pc' := 25) (C := RX3) (T := TX3) (N := 10) κ dX5_rebook_22 rfl inX3 1 rfl rfl rfl 5 (by decide) tw_fl_X5_136 rfl ?_
      refine gw_iload_n (pc' := 26) κ dX5_rebook_25 rfl 1 rfl rfl ?_
      obtain ⟨hb_5, h⟩ := h
      refine gb_iald (pc' := 27) κ dX5_rebook_26 rfl 1 6 rfl rfl hb_5 ?_
      refine gw_iload_n (pc' := 28) κ dX5_rebook_27 rfl 2 rfl rfl ?_
      refine gw_icmp_ne (pc' := 31) (tgt := 34) κ dX5_rebook_28 rfl (by decide) (fun hc_6 => ?_) (fun hc_6 => ?_)
      · have h := h.1 hc_6
        refine gw_aload_n (pc' := 35) κ dX5_rebook_34 rfl 0 rfl rfl ?_
        refine gb_get (pc' := 38) (C := RX5) (T := TX5) (N := 8) κ dX5_rebook_35 rfl inX5 0 rfl rfl rfl 6 (by decide) tw_fl_X5_46 rfl ?_
        refine gw_aload_n (pc' := 39) κ dX5_rebook_38 rfl 0 rfl rfl ?_
        refine gb_get (pc' := 42) (C := RX5) (T := TX5) (N := 8) κ dX5_rebook_39 rfl inX5 0 rfl rfl rfl 0 (by decide) tw_fl_X5_10 rfl ?_
        refine gb_callV (ci := 0) (qb := 3) (rest := []) κ (c_X0_record qh qn qs his now h) ⟨rfl, rfl, Nat.le_of_ble_eq_true rfl, Nat.le_of_ble_eq_true rfl⟩ tw_ml_X5_68 tw_im_X0_record tw_se_X0_record tw_co_X0_record tw_in_X0 hy_X0_record rfl rfl rfl rfl rfl (Nat.le_of_ble_eq_true rfl) rfl dX5_rebook_42 [3, 4, 5, 6, 7, 8, 9, 1] rfl (by decide) (fun _ => Nat.le_of_ble_eq_true rfl) ⟨Nat.le_of_ble_eq_true rfl, Nat.le_of_ble_eq_true rfl⟩ (fun v u hv => ?_)
        obtain ⟨rfl, h⟩ := hv
        obtain ⟨hs_7, ol_8, sz_9⟩ := u
        refine gw_nf (ws' := (wfl [cX qx qn qp qw qt qu qd qh ql, cSt qn cI now.se now.la now.de now.le now.sa now.fl now.ar now.dr now.pe now.ri, cPl qp cI pln.od pln.rd pln.vn pln.pn pln.ao pln.sr pln.sp pln.wt, cHi qh qs cR ol_8 sz_9, cSt (qs 0) cI (hs_7 0).se (hs_7 0).la (hs_7 0).de (hs_7 0).le (hs_7 0).sa (hs_7 0).fl (hs_7 0).ar (hs_7 0).dr (hs_7 0).pe (hs_7 0).ri, cSt (qs 1) cI (hs_7 1).se (hs_7 1).la (hs_7 1).de (hs_7 1).le (hs_7 1).sa (hs_7 1).fl (hs_7 1).ar (hs_7 1).dr (hs_7 1).pe (hs_7 1).ri, cSt (qs 2) cI (hs_7 2).se (hs_7 2).la (hs_7 2).de (hs_7 2).le (hs_7 2).sa (hs_7 2).fl (hs_7 2).ar (hs_7 2).dr (hs_7 2).pe (hs_7 2).ri, cSt (qs 3) cI (hs_7 3).se (hs_7 3).la (hs_7 3).de (hs_7 3).le (hs_7 3).sa (hs_7 3).fl (hs_7 3).ar (hs_7 3).dr (hs_7 3).pe (hs_7 3).ri, cSt (qs 4) cI (hs_7 4).se (hs_7 4).la (hs_7 4).de (hs_7 4).le (hs_7 4).sa (hs_7 4).fl (hs_7 4).ar (hs_7 4).dr (hs_7 4).pe (hs_7 4).ri, cSt (qs 5) cI (hs_7 5).se (hs_7 5).la (hs_7 5).de (hs_7 5).le (hs_7 5).sa (hs_7 5).fl (hs_7 5).ar (hs_7 5).dr (hs_7 5).pe (hs_7 5).ri])) (lv' := [(0, .ref (qx 0)), (1, .int x1), (2, .int x2)]) (st' := []) (pc' := 45) (ce' := 0) (sl' := 0) rfl rfl rfl rfl rfl rfl ?_
        refine gw_aload_n (pc' := 46) κ dX5_rebook_45 rfl 0 rfl rfl ?_
        refine gb_get (pc' := 49) (C := RX5) (T := TX5) (N := 8) κ dX5_rebook_46 rfl inX5 0 rfl rfl rfl 0 (by decide) tw_fl_X5_10 rfl ?_
        refine gb_get (pc' := 52) (C := RX3) (T := TX3) (N := 10) κ dX5_rebook_49 rfl inX3 1 rfl rfl rfl 5 (by decide) tw_fl_X5_136 rfl ?_
        refine gw_iload_n (pc' := 53) κ dX5_rebook_52 rfl 1 rfl rfl ?_
        refine gw_iload_n (pc' := 54) κ dX5_rebook_53 rfl 2 rfl rfl ?_
        obtain ⟨hb_10, h⟩ := h
        refine gb_iast (pc' := 55) (bs' := [cX qx qn qp qw qt qu qd qh ql, cSt qn cI now.se now.la now.de now.le now.sa (upd now.fl x1.toNatClampNeg x2) now.ar now.dr now.pe now.ri, cPl qp cI pln.od pln.rd pln.vn pln.pn pln.ao pln.sr pln.sp pln.wt, cHi qh qs cR ol_8 sz_9, cSt (qs 0) cI (hs_7 0).se (hs_7 0).la (hs_7 0).de (hs_7 0).le (hs_7 0).sa (hs_7 0).fl (hs_7 0).ar (hs_7 0).dr (hs_7 0).pe (hs_7 0).ri, cSt (qs 1) cI (hs_7 1).se (hs_7 1).la (hs_7 1).de (hs_7 1).le (hs_7 1).sa (hs_7 1).fl (hs_7 1).ar (hs_7 1).dr (hs_7 1).pe (hs_7 1).ri, cSt (qs 2) cI (hs_7 2).se (hs_7 2).la (hs_7 2).de (hs_7 2).le (hs_7 2).sa (hs_7 2).fl (hs_7 2).ar (hs_7 2).dr (hs_7 2).pe (hs_7 2).ri, cSt (qs 3) cI (hs_7 3).se (hs_7 3).la (hs_7 3).de (hs_7 3).le (hs_7 3).sa (hs_7 3).fl (hs_7 3).ar (hs_7 3).dr (hs_7 3).pe (hs_7 3).ri, cSt (qs 4) cI (hs_7 4).se (hs_7 4).la (hs_7 4).de (hs_7 4).le (hs_7 4).sa (hs_7 4).fl (hs_7 4).ar (hs_7 4).dr (hs_7 4).pe (hs_7 4).ri, cSt (qs 5) cI (hs_7 5).se (hs_7 5).la (hs_7 5).de (hs_7 5).le (hs_7 5).sa (hs_7 5).fl (hs_7 5).ar (hs_7 5).dr (hs_7 5).pe (hs_7 5).ri]) κ dX5_rebook_54 rfl 1 6 rfl rfl hb_10 rfl ?_
        refine gw_aload_n (pc' := 56) κ dX5_rebook_55 rfl 0 rfl rfl ?_
        refine gb_get (pc' := 59) (C := RX5) (T := TX5) (N := 8) κ dX5_rebook_56 rfl inX5 0 rfl rfl rfl 1 (by decide) tw_fl_X5_19 rfl ?_
        refine gw_aload_n (pc' := 60) κ dX5_rebook_59 rfl 0 rfl rfl ?_
        refine gb_get (pc' := 63) (C := RX5) (T := TX5) (N := 8) κ dX5_rebook_60 rfl inX5 0 rfl rfl rfl 0 (by decide) tw_fl_X5_10 rfl ?_
        refine gb_callV (ci := 2) (qb := 2) (rest := []) κ (c_X2_make qp qn pln (mkSt now.se now.la now.de now.le now.sa (upd now.fl x1.toNatClampNeg x2) now.ar now.dr now.pe now.ri) h) ⟨rfl, rfl, Nat.le_of_ble_eq_true rfl, Nat.le_of_ble_eq_true rfl⟩ tw_ml_X5_72 tw_im_X2_make tw_se_X2_make tw_co_X2_make tw_in_X2 hy_X2_make rfl rfl rfl rfl rfl (Nat.le_of_ble_eq_true rfl) rfl dX5_rebook_63 [2, 1] rfl (by decide) (fun _ => Nat.le_of_ble_eq_true rfl) ⟨Nat.le_of_ble_eq_true rfl, Nat.le_of_ble_eq_true rfl⟩ (fun v u hv => ?_)
        obtain ⟨rfl, h⟩ := hv
        obtain ⟨od_11, rd_12, vn_13, pn_14, ao_15, sr_16, sp_17, wt_18⟩ := u
        refine gw_nf (ws' := (wfl [cX qx qn qp qw qt qu qd qh ql, cSt qn cI now.se now.la now.de now.le now.sa (upd now.fl x1.toNatClampNeg x2) now.ar now.dr now.pe now.ri, cPl qp cI od_11 rd_12 vn_13 pn_14 ao_15 sr_16 sp_17 wt_18, cHi qh qs cR ol_8 sz_9, cSt (qs 0) cI (hs_7 0).se (hs_7 0).la (hs_7 0).de (hs_7 0).le (hs_7 0).sa (hs_7 0).fl (hs_7 0).ar (hs_7 0).dr (hs_7 0).pe (hs_7 0).ri, cSt (qs 1) cI (hs_7 1).se (hs_7 1).la (hs_7 1).de (hs_7 1).le (hs_7 1).sa (hs_7 1).fl (hs_7 1).ar (hs_7 1).dr (hs_7 1).pe (hs_7 1).ri, cSt (qs 2) cI (hs_7 2).se (hs_7 2).la (hs_7 2).de (hs_7 2).le (hs_7 2).sa (hs_7 2).fl (hs_7 2).ar (hs_7 2).dr (hs_7 2).pe (hs_7 2).ri, cSt (qs 3) cI (hs_7 3).se (hs_7 3).la (hs_7 3).de (hs_7 3).le (hs_7 3).sa (hs_7 3).fl (hs_7 3).ar (hs_7 3).dr (hs_7 3).pe (hs_7 3).ri, cSt (qs 4) cI (hs_7 4).se (hs_7 4).la (hs_7 4).de (hs_7 4).le (hs_7 4).sa (hs_7 4).fl (hs_7 4).ar (hs_7 4).dr (hs_7 4).pe (hs_7 4).ri, cSt (qs 5) cI (hs_7 5).se (hs_7 5).la (hs_7 5).de (hs_7 5).le (hs_7 5).sa (hs_7 5).fl (hs_7 5).ar (hs_7 5).dr (hs_7 5).pe (hs_7 5).ri])) (lv' := [(0, .ref (qx 0)), (1, .int x1), (2, .int x2)]) (st' := []) (pc' := 66) (ce' := 0) (sl' := 0) rfl rfl rfl rfl rfl rfl ?_
        refine gw_aload_n (pc' := 67) κ dX5_rebook_66 rfl 0 rfl rfl ?_
        refine gb_get (pc' := 70) (C := RX5) (T := TX5) (N := 8) κ dX5_rebook_67 rfl inX5 0 rfl rfl rfl 1 (by decide) tw_fl_X5_19 rfl ?_
        refine gb_get (pc' := 73) (C := RX2) (T := TX2) (N := 8) κ dX5_rebook_70 rfl inX2 2 rfl rfl rfl 2 (by decide) tw_fl_X5_139 rfl ?_
        refine gw_iload_n (pc' := 74) κ dX5_rebook_73 rfl 1 rfl rfl ?_
        obtain ⟨hb_19, h⟩ := h
        refine gb_iald (pc' := 75) κ dX5_rebook_74 rfl 2 3 rfl rfl hb_19 ?_
        exact gw_iret κ dX5_rebook_75 ((upd now.fl x1.toNatClampNeg x2), od_11, rd_12, vn_13, pn_14, ao_15, sr_16, sp_17, wt_18, hs_7, ol_8, sz_9) rfl ⟨_, rfl, h⟩
      · have h := h.2 hc_6
        refine gw_bipush (pc' := 33) (v := -105) κ dX5_rebook_31 rfl (by decide) ?_
        exact gw_iret κ dX5_rebook_33 (now.fl, pln.od, pln.rd, pln.vn, pln.pn, pln.ao, pln.sr, pln.sp, pln.wt, his.hs, his.ol, his.sz) rfl ⟨_, rfl, h⟩
    · have h := h.2 hc_4
      refine gw_bipush (pc' := 17) (v := -101) κ dX5_rebook_15 rfl (by decide) ?_
      exact gw_iret κ dX5_rebook_17 (now.fl, pln.od, pln.rd, pln.vn, pln.pn, pln.ao, pln.sr, pln.sp, pln.wt, his.hs, his.ol, his.sz) rfl ⟨_, rfl, h⟩
theorem hy_X2_waitOf : g_hy yX2_waitOf 2 := by decide +kernel
set_option maxHeartbeats 4000000 in
set_option maxRecDepth 100000 in
theorem c_X2_waitOf {l : Launch} {D : va_G} {cI cR : ClassId}  (qa : Nat → Nat) (qb : Nat → Nat) {P : Int32 → Prop} (o0 : PlT) (o1 : StT) (x2 : Int32) (h : wp_X2_waitOf P o0 o1 x2) : CT l D cI cR yX2_waitOf cX2_waitOf 4 (some .int) ({ frames := 2, cells := 0, slots := 0, locals := 42 } : Room) [.ref (qa 0), .ref (qb 0), .int x2] (wfl [cPl qa cI o0.od o0.rd o0.vn o0.pn o0.ao o0.sr o0.sp o0.wt, cSt qb cI o1.se o1.la o1.de o1.le o1.sa o1.fl o1.ar o1.dr o1.pe o1.ri]) (fun _ : Unit => (wfl [cPl qa cI o0.od o0.rd o0.vn o0.pn o0.ao o0.sr o0.sp o0.wt, cSt qb cI o1.se o1.la o1.de o1.le o1.sa o1.fl o1.ar o1.dr o1.pe o1.ri])) (pI (fun (r : Int32) (_ : Unit) => P r)) 0 0 := by
  refine ct_of RX2 rfl (by decide +kernel) (Nat.le_of_ble_eq_true rfl) (fun zp ze zs zm zb zt zc A hin κ => ?_)
  unfold wp_X2_waitOf at h
  refine gw_nf (lv' := [(0, .ref (qa 0)), (1, .ref (qb 0)), (2, .int x2)]) (pc' := 0) (st' := []) (ce' := 0) (sl' := 0) rfl rfl rfl rfl rfl rfl ?_
  refine gw_aload_n (pc' := 1) κ dX2_waitOf_0 rfl 0 rfl rfl ?_
  refine gb_get (pc' := 4) (C := RX2) (T := TX2) (N := 8) κ dX2_waitOf_1 rfl inX2 0 rfl rfl rfl 2 (by decide) tw_fl_X2_18 rfl ?_
  refine gw_iload_n (pc' := 5) κ dX2_waitOf_4 rfl 2 rfl rfl ?_
  obtain ⟨hb_1, h⟩ := h
  refine gb_iald (pc' := 6) κ dX2_waitOf_5 rfl 0 3 rfl rfl hb_1 ?_
  refine gw_istore_n (pc' := 7) κ dX2_waitOf_6 rfl rfl (by decide) (lv' := [(3, .int (o0.vn x2.toNatClampNeg)), (0, .ref (qa 0)), (1, .ref (qb 0)), (2, .int x2)]) rfl ?_
  refine gw_iload_n (pc' := 8) κ dX2_waitOf_7 rfl 0 rfl rfl ?_
  refine gb_callSN (rest := []) κ (c_X5_isVan  (o0.vn x2.toNatClampNeg) h) ⟨rfl, rfl, Nat.le_of_ble_eq_true rfl, Nat.le_of_ble_eq_true rfl⟩ κ.2.2.2.1.2.2.2.2.2.2.2.2.1 tw_st_X5_isVan tw_co_X5_isVan tw_in_X5 hy_X5_isVan rfl (Nat.le_of_ble_eq_true rfl) rfl dX2_waitOf_8 [] rfl (by decide) (fun _ => Nat.le_of_ble_eq_true rfl) ⟨Nat.le_of_ble_eq_true rfl, Nat.le_of_ble_eq_true rfl⟩ (fun v u hv => ?_)
  obtain ⟨r_2, rfl, h⟩ := hv
  refine gw_nf (ws' := (wfl [cPl qa cI o0.od o0.rd o0.vn o0.pn o0.ao o0.sr o0.sp o0.wt, cSt qb cI o1.se o1.la o1.de o1.le o1.sa o1.fl o1.ar o1.dr o1.pe o1.ri])) (lv' := [(3, .int (o0.vn x2.toNatClampNeg)), (0, .ref (qa 0)), (1, .ref (qb 0)), (2, .int x2)]) (st' := [.int r_2]) (pc' := 11) (ce' := 0) (sl' := 0) rfl rfl rfl rfl rfl rfl ?_
  refine gw_if_eq (pc' := 14) (tgt := 30) κ dX2_waitOf_11 rfl (by decide) (fun hc_3 => ?_) (fun hc_3 => ?_)
  · have h := h.1 hc_3
    refine gw_bipush (pc' := 32) (v := -106) κ dX2_waitOf_30 rfl (by decide) ?_
    exact gw_iret κ dX2_waitOf_32 () rfl ⟨_, rfl, h⟩
  · have h := h.2 hc_3
    refine gw_aload_n (pc' := 15) κ dX2_waitOf_14 rfl 2 rfl rfl ?_
    refine gb_get (pc' := 18) (C := RX3) (T := TX3) (N := 10) κ dX2_waitOf_15 rfl inX3 1 rfl rfl rfl 3 (by decide) tw_fl_X2_71 rfl ?_
    refine gw_iload_n (pc' := 19) κ dX2_waitOf_18 rfl 0 rfl rfl ?_
    obtain ⟨hb_4, h⟩ := h
    refine gb_iald (pc' := 20) κ dX2_waitOf_19 rfl 1 4 rfl rfl hb_4 ?_
    refine gw_aload_n (pc' := 21) κ dX2_waitOf_20 rfl 1 rfl rfl ?_
    refine gb_get (pc' := 24) (C := RX2) (T := TX2) (N := 8) κ dX2_waitOf_21 rfl inX2 0 rfl rfl rfl 1 (by decide) tw_fl_X2_15 rfl ?_
    refine gw_iload_n (pc' := 25) κ dX2_waitOf_24 rfl 3 rfl rfl ?_
    obtain ⟨hb_5, h⟩ := h
    refine gb_iald (pc' := 26) κ dX2_waitOf_25 rfl 0 2 rfl rfl hb_5 ?_
    refine gw_isub (pc' := 27) κ dX2_waitOf_26 rfl  ?_
    refine gw_goto (tgt := 32) κ dX2_waitOf_27 (by decide) ?_
    exact gw_iret κ dX2_waitOf_32 () rfl ⟨_, rfl, h⟩
theorem hy_X4_placeFor : g_hy yX4_placeFor 1 := by decide +kernel
set_option maxHeartbeats 4000000 in
set_option maxRecDepth 100000 in
theorem k_X4_placeFor_2 {zp : Program} {l : Launch} {ze : Env} {zs : State} {zm : MethodId} {za : Array Value} {zb : List Frame} {zt : Method} {zc : Code} {D : va_G} {cI cR : ClassId} {A : Nat → Prop} (κ : KC zp zs zm za zt zc cX4_placeFor 3 RX4 D cI cR A (some .int)) (qa : Nat → Nat) (P : Int32 → Prop) (o0 : WyT) (x1 : Int32) : ∀ (n : Nat) (v2 : Int32), wp_X4_placeFor_2 P o0 x1 n v2 → GM zp l ze ({ frames := 0, cells := 0, slots := 0, locals := 0 } : Room) zs zm za zb zt zc D A 3 (pI (fun (r : Int32) (_ : Unit) => P r)) (fun _ : Unit => (wfl [cWy qa cI o0.ky o0.wp o0.mi o0.so])) 0 0 0 0 (wfl [cWy qa cI o0.ky o0.wp o0.mi o0.so]) [(0, .ref (qa 0)), (1, .int x1), (2, .int v2)] 2 [] := by
  intro n2
  induction n2 with
  | zero => intro v2 h; exact (show False from h).elim
  | succ n2 ih2 =>
    intro v2 h
    have h : wp_X4_placeFor_2F P o0 x1 (wp_X4_placeFor_2 P o0 x1 n2) v2 := h
    unfold wp_X4_placeFor_2F at h
    refine gw_iload_n (pc' := 3) κ dX4_placeFor_2 rfl 2 rfl rfl ?_
    refine gw_aload_n (pc' := 4) κ dX4_placeFor_3 rfl 0 rfl rfl ?_
    refine gb_get (pc' := 7) (C := RX4) (T := TX4) (N := 4) κ dX4_placeFor_4 rfl inX4 0 rfl rfl rfl 3 (by decide) tw_fl_X4_21 rfl ?_
    refine gw_icmp_ge (pc' := 10) (tgt := 26) κ dX4_placeFor_7 rfl (by decide) (fun hc_1 => ?_) (fun hc_1 => ?_)
    · have h := h.1 hc_1
      refine gw_iload_n (pc' := 27) κ dX4_placeFor_26 rfl 2 rfl rfl ?_
      exact gw_iret κ dX4_placeFor_27 () rfl ⟨_, rfl, h⟩
    · have h := h.2 hc_1
      refine gw_aload_n (pc' := 11) κ dX4_placeFor_10 rfl 0 rfl rfl ?_
      refine gb_get (pc' := 14) (C := RX4) (T := TX4) (N := 4) κ dX4_placeFor_11 rfl inX4 0 rfl rfl rfl 0 (by decide) tw_fl_X4_9 rfl ?_
      refine gw_iload_n (pc' := 15) κ dX4_placeFor_14 rfl 2 rfl rfl ?_
      obtain ⟨hb_2, h⟩ := h
      refine gb_iald (pc' := 16) κ dX4_placeFor_15 rfl 0 1 rfl rfl hb_2 ?_
      refine gw_iload_n (pc' := 17) κ dX4_placeFor_16 rfl 1 rfl rfl ?_
      refine gw_icmp_ge (pc' := 20) (tgt := 26) κ dX4_placeFor_17 rfl (by decide) (fun hc_3 => ?_) (fun hc_3 => ?_)
      · have h := h.1 hc_3
        refine gw_iload_n (pc' := 27) κ dX4_placeFor_26 rfl 2 rfl rfl ?_
        exact gw_iret κ dX4_placeFor_27 () rfl ⟨_, rfl, h⟩
      · have h := h.2 hc_3
        refine gw_iinc (pc' := 23) κ dX4_placeFor_20 rfl 2 rfl (v := (v2 + 1)) rfl (by decide) (lv' := [(2, .int (v2 + 1)), (0, .ref (qa 0)), (1, .int x1)]) rfl ?_
        refine gw_goto (tgt := 2) κ dX4_placeFor_23 (by decide) ?_
        refine gw_lv (lv' := [(0, .ref (qa 0)), (1, .int x1), (2, .int (v2 + 1))]) [1, 2, 0] rfl ?_
        exact ih2 (v2 + 1) h
set_option maxHeartbeats 4000000 in
set_option maxRecDepth 100000 in
theorem c_X4_placeFor {l : Launch} {D : va_G} {cI cR : ClassId}  (qa : Nat → Nat) {P : Int32 → Prop} (o0 : WyT) (x1 : Int32) (h : wp_X4_placeFor P o0 x1) : CT l D cI cR yX4_placeFor cX4_placeFor 3 (some .int) ({ frames := 0, cells := 0, slots := 0, locals := 0 } : Room) [.ref (qa 0), .int x1] (wfl [cWy qa cI o0.ky o0.wp o0.mi o0.so]) (fun _ : Unit => (wfl [cWy qa cI o0.ky o0.wp o0.mi o0.so])) (pI (fun (r : Int32) (_ : Unit) => P r)) 0 0 := by
  refine ct_of RX4 rfl (by decide +kernel) (Nat.le_of_ble_eq_true rfl) (fun zp ze zs zm zb zt zc A hin κ => ?_)
  unfold wp_X4_placeFor at h
  refine gw_nf (lv' := [(0, .ref (qa 0)), (1, .int x1)]) (pc' := 0) (st' := []) (ce' := 0) (sl' := 0) rfl rfl rfl rfl rfl rfl ?_
  refine gw_iconst (pc' := 1) (v := 0) κ dX4_placeFor_0 rfl (by decide) ?_
  refine gw_istore_n (pc' := 2) κ dX4_placeFor_1 rfl rfl (by decide) (lv' := [(2, .int (0 : Int32)), (0, .ref (qa 0)), (1, .int x1)]) rfl ?_
  obtain ⟨m2, h⟩ := h
  refine gw_lv (lv' := [(0, .ref (qa 0)), (1, .int x1), (2, .int (0 : Int32))]) [1, 2, 0] rfl ?_
  exact k_X4_placeFor_2 κ qa P o0 x1 m2 (0 : Int32) h
theorem hy_X4_openStop : g_hy yX4_openStop 2 := by decide +kernel
set_option maxHeartbeats 4000000 in
set_option maxRecDepth 100000 in
theorem k_X4_openStop_15 {zp : Program} {l : Launch} {ze : Env} {zs : State} {zm : MethodId} {za : Array Value} {zb : List Frame} {zt : Method} {zc : Code} {D : va_G} {cI cR : ClassId} {A : Nat → Prop} (κ : KC zp zs zm za zt zc cX4_openStop 4 RX4 D cI cR A none) (qa : Nat → Nat) (P : (Nat → Int32) → (Nat → Int32) → Int32 → Prop) (o0 : WyT) (x1 : Int32) (x2 : Int32) (so : Int32) : ∀ (n : Nat) (v3 : Int32) (ky : Nat → Int32) (wp : Nat → Int32), wp_X4_openStop_15 P o0 x1 x2 so n v3 ky wp → GM zp l ze ({ frames := 0, cells := 0, slots := 0, locals := 0 } : Room) zs zm za zb zt zc D A 4 (pV (fun (u : (Nat → Int32) × (Nat → Int32) × Int32) => P u.1 u.2.1 u.2.2)) (fun u : (Nat → Int32) × (Nat → Int32) × Int32 => (wfl [cWy qa cI u.1 u.2.1 o0.mi u.2.2])) 0 0 0 0 (wfl [cWy qa cI ky wp o0.mi so]) [(0, .ref (qa 0)), (1, .int x1), (2, .int x2), (3, .int v3)] 15 [] := by
  intro n15
  induction n15 with
  | zero => intro v3 ky wp h; exact (show False from h).elim
  | succ n15 ih15 =>
    intro v3 ky wp h
    have h : wp_X4_openStop_15F P o0 x1 x2 so (wp_X4_openStop_15 P o0 x1 x2 so n15) v3 ky wp := h
    unfold wp_X4_openStop_15F at h
    refine gw_iload_n (pc' := 16) κ dX4_openStop_15 rfl 3 rfl rfl ?_
    refine gw_iload_n (pc' := 17) κ dX4_openStop_16 rfl 1 rfl rfl ?_
    refine gw_icmp_le (pc' := 20) (tgt := 54) κ dX4_openStop_17 rfl (by decide) (fun hc_2 => ?_) (fun hc_2 => ?_)
    · have h := h.1 hc_2
      refine gw_aload_n (pc' := 55) κ dX4_openStop_54 rfl 0 rfl rfl ?_
      refine gb_get (pc' := 58) (C := RX4) (T := TX4) (N := 4) κ dX4_openStop_55 rfl inX4 0 rfl rfl rfl 0 (by decide) tw_fl_X4_9 rfl ?_
      refine gw_iload_n (pc' := 59) κ dX4_openStop_58 rfl 1 rfl rfl ?_
      refine gw_iload_n (pc' := 60) κ dX4_openStop_59 rfl 2 rfl rfl ?_
      obtain ⟨hb_3, h⟩ := h
      refine gb_iast (pc' := 61) (bs' := [cWy qa cI (upd ky x1.toNatClampNeg x2) wp o0.mi so]) κ dX4_openStop_60 rfl 0 1 rfl rfl hb_3 rfl ?_
      refine gw_aload_n (pc' := 62) κ dX4_openStop_61 rfl 0 rfl rfl ?_
      refine gb_get (pc' := 65) (C := RX4) (T := TX4) (N := 4) κ dX4_openStop_62 rfl inX4 0 rfl rfl rfl 1 (by decide) tw_fl_X4_15 rfl ?_
      refine gw_iload_n (pc' := 66) κ dX4_openStop_65 rfl 1 rfl rfl ?_
      refine gw_iconst (pc' := 67) (v := 0) κ dX4_openStop_66 rfl (by decide) ?_
      obtain ⟨hb_4, h⟩ := h
      refine gb_iast (pc' := 68) (bs' := [cWy qa cI (upd ky x1.toNatClampNeg x2) (upd wp x1.toNatClampNeg (0 : Int32)) o0.mi so]) κ dX4_openStop_67 rfl 0 2 rfl rfl hb_4 rfl ?_
      refine gw_aload_n (pc' := 69) κ dX4_openStop_68 rfl 0 rfl rfl ?_
      refine gw_dup (pc' := 70) κ dX4_openStop_69 rfl rfl ?_
      refine gb_get (pc' := 73) (C := RX4) (T := TX4) (N := 4) κ dX4_openStop_70 rfl inX4 0 rfl rfl rfl 3 (by decide) tw_fl_X4_21 rfl ?_
      refine gw_iconst (pc' := 74) (v := 1) κ dX4_openStop_73 rfl (by decide) ?_
      refine gw_iadd (pc' := 75) κ dX4_openStop_74 rfl  ?_
      refine gb_put (pc' := 78) (C := RX4) (T := TX4) (N := 4) (ty := .int) (bs' := [cWy qa cI (upd ky x1.toNatClampNeg x2) (upd wp x1.toNatClampNeg (0 : Int32)) o0.mi (so + (1 : Int32))]) κ dX4_openStop_75 rfl inX4 tyX4 tyX4_ok nmX4 0 rfl rfl rfl 3 (by decide) tw_fl_X4_21 rfl (by decide +kernel) rfl rfl (Nat.le_of_ble_eq_true rfl) rfl ?_
      exact gw_vret κ dX4_openStop_78 ((upd ky x1.toNatClampNeg x2), (upd wp x1.toNatClampNeg (0 : Int32)), (so + (1 : Int32))) rfl ⟨rfl, h⟩
    · have h := h.2 hc_2
      refine gw_aload_n (pc' := 21) κ dX4_openStop_20 rfl 0 rfl rfl ?_
      refine gb_get (pc' := 24) (C := RX4) (T := TX4) (N := 4) κ dX4_openStop_21 rfl inX4 0 rfl rfl rfl 0 (by decide) tw_fl_X4_9 rfl ?_
      refine gw_iload_n (pc' := 25) κ dX4_openStop_24 rfl 3 rfl rfl ?_
      refine gw_aload_n (pc' := 26) κ dX4_openStop_25 rfl 0 rfl rfl ?_
      refine gb_get (pc' := 29) (C := RX4) (T := TX4) (N := 4) κ dX4_openStop_26 rfl inX4 0 rfl rfl rfl 0 (by decide) tw_fl_X4_9 rfl ?_
      refine gw_iload_n (pc' := 30) κ dX4_openStop_29 rfl 3 rfl rfl ?_
      refine gw_iconst (pc' := 31) (v := 1) κ dX4_openStop_30 rfl (by decide) ?_
      refine gw_isub (pc' := 32) κ dX4_openStop_31 rfl  ?_
      obtain ⟨hb_5, h⟩ := h
      refine gb_iald (pc' := 33) κ dX4_openStop_32 rfl 0 1 rfl rfl hb_5 ?_
      obtain ⟨hb_6, h⟩ := h
      refine gb_iast (pc' := 34) (bs' := [cWy qa cI (upd ky v3.toNatClampNeg (ky (v3 - (1 : Int32)).toNatClampNeg)) wp o0.mi so]) κ dX4_openStop_33 rfl 0 1 rfl rfl hb_6 rfl ?_
      refine gw_aload_n (pc' := 35) κ dX4_openStop_34 rfl 0 rfl rfl ?_
      refine gb_get (pc' := 38) (C := RX4) (T := TX4) (N := 4) κ dX4_openStop_35 rfl inX4 0 rfl rfl rfl 1 (by decide) tw_fl_X4_15 rfl ?_
      refine gw_iload_n (pc' := 39) κ dX4_openStop_38 rfl 3 rfl rfl ?_
      refine gw_aload_n (pc' := 40) κ dX4_openStop_39 rfl 0 rfl rfl ?_
      refine gb_get (pc' := 43) (C := RX4) (T := TX4) (N := 4) κ dX4_openStop_40 rfl inX4 0 rfl rfl rfl 1 (by decide) tw_fl_X4_15 rfl ?_
      refine gw_iload_n (pc' := 44) κ dX4_openStop_43 rfl 3 rfl rfl ?_
      refine gw_iconst (pc' := 45) (v := 1) κ dX4_openStop_44 rfl (by decide) ?_
      refine gw_isub (pc' := 46) κ dX4_openStop_45 rfl  ?_
      obtain ⟨hb_7, h⟩ := h
      refine gb_iald (pc' := 47) κ dX4_openStop_46 rfl 0 2 rfl rfl hb_7 ?_
      obtain ⟨hb_8, h⟩ := h
      refine gb_iast (pc' := 48) (bs' := [cWy qa cI (upd ky v3.toNatClampNeg (ky (v3 - (1 : Int32)).toNatClampNeg)) (upd wp v3.toNatClampNeg (wp (v3 - (1 : Int32)).toNatClampNeg)) o0.mi so]) κ dX4_openStop_47 rfl 0 2 rfl rfl hb_8 rfl ?_
      refine gw_iinc (pc' := 51) κ dX4_openStop_48 rfl 3 rfl (v := (v3 + (-1))) rfl (by decide) (lv' := [(3, .int (v3 + (-1))), (0, .ref (qa 0)), (1, .int x1), (2, .int x2)]) rfl ?_
      refine gw_goto (tgt := 15) κ dX4_openStop_51 (by decide) ?_
      refine gw_lv (lv' := [(0, .ref (qa 0)), (1, .int x1), (2, .int x2), (3, .int (v3 + (-1)))]) [1, 2, 3, 0] rfl ?_
      exact ih15 (v3 + (-1)) (upd ky v3.toNatClampNeg (ky (v3 - (1 : Int32)).toNatClampNeg)) (upd wp v3.toNatClampNeg (wp (v3 - (1 : Int32)).toNatClampNeg)) h
set_option maxHeartbeats 4000000 in
set_option maxRecDepth 100000 in
theorem c_X4_openStop {l : Launch} {D : va_G} {cI cR : ClassId}  (qa : Nat → Nat) {P : (Nat → Int32) → (Nat → Int32) → Int32 → Prop} (o0 : WyT) (x1 : Int32) (x2 : Int32) (h : wp_X4_openStop P o0 x1 x2) : CT l D cI cR yX4_openStop cX4_openStop 4 none ({ frames := 0, cells := 0, slots := 0, locals := 0 } : Room) [.ref (qa 0), .int x1, .int x2] (wfl [cWy qa cI o0.ky o0.wp o0.mi o0.so]) (fun u : (Nat → Int32) × (Nat → Int32) × Int32 => (wfl [cWy qa cI u.1 u.2.1 o0.mi u.2.2])) (pV (fun (u : (Nat → Int32) × (Nat → Int32) × Int32) => P u.1 u.2.1 u.2.2)) 0 0 := by
  refine ct_of RX4 rfl (by decide +kernel) (Nat.le_of_ble_eq_true rfl) (fun zp ze zs zm zb zt zc A hin κ => ?_)
  unfold wp_X4_openStop at h
  refine gw_nf (lv' := [(0, .ref (qa 0)), (1, .int x1), (2, .int x2)]) (pc' := 0) (st' := []) (ce' := 0) (sl' := 0) rfl rfl rfl rfl rfl rfl ?_
  refine gw_aload_n (pc' := 1) κ dX4_openStop_0 rfl 0 rfl rfl ?_
  refine gb_get (pc' := 4) (C := RX4) (T := TX4) (N := 4) κ dX4_openStop_1 rfl inX4 0 rfl rfl rfl 3 (by decide) tw_fl_X4_21 rfl ?_
  refine gw_bipush (pc' := 6) (v := 24) κ dX4_openStop_4 rfl (by decide) ?_
  refine gw_icmp_lt (pc' := 9) (tgt := 10) κ dX4_openStop_6 rfl (by decide) (fun hc_1 => ?_) (fun hc_1 => ?_)
  · have h := h.1 hc_1
    refine gw_aload_n (pc' := 11) κ dX4_openStop_10 rfl 0 rfl rfl ?_
    refine gb_get (pc' := 14) (C := RX4) (T := TX4) (N := 4) κ dX4_openStop_11 rfl inX4 0 rfl rfl rfl 3 (by decide) tw_fl_X4_21 rfl ?_
    refine gw_istore_n (pc' := 15) κ dX4_openStop_14 rfl rfl (by decide) (lv' := [(3, .int o0.so), (0, .ref (qa 0)), (1, .int x1), (2, .int x2)]) rfl ?_
    obtain ⟨m15, h⟩ := h
    refine gw_lv (lv' := [(0, .ref (qa 0)), (1, .int x1), (2, .int x2), (3, .int o0.so)]) [1, 2, 3, 0] rfl ?_
    exact k_X4_openStop_15 κ qa P o0 x1 x2 o0.so m15 o0.so o0.ky o0.wp h
  · have h := h.2 hc_1
    exact gw_vret κ dX4_openStop_9 (o0.ky, o0.wp, o0.so) rfl ⟨rfl, h⟩
theorem hy_X4_letOut : g_hy yX4_letOut 2 := by decide +kernel
set_option maxHeartbeats 4000000 in
set_option maxRecDepth 100000 in
theorem k_X4_letOut_37 {zp : Program} {l : Launch} {ze : Env} {zs : State} {zm : MethodId} {za : Array Value} {zb : List Frame} {zt : Method} {zc : Code} {D : va_G} {cI cR : ClassId} {A : Nat → Prop} (κ : KC zp zs zm za zt zc cX4_letOut 4 RX4 D cI cR A none) (qa : Nat → Nat) (P : (Nat → Int32) → (Nat → Int32) → Int32 → Prop) (o0 : WyT) (x1 : Int32) (x2 : Int32) (v3 : Int32) (ky : Nat → Int32) (wp : Nat → Int32) (so : Int32) (h : wp_X4_letOut_37 P o0 x1 x2 v3 ky wp so) : GM zp l ze ({ frames := 1, cells := 0, slots := 0, locals := 23 } : Room) zs zm za zb zt zc D A 4 (pV (fun (u : (Nat → Int32) × (Nat → Int32) × Int32) => P u.1 u.2.1 u.2.2)) (fun u : (Nat → Int32) × (Nat → Int32) × Int32 => (wfl [cWy qa cI u.1 u.2.1 o0.mi u.2.2])) 0 0 0 0 (wfl [cWy qa cI ky wp o0.mi so]) [(0, .ref (qa 0)), (2, .int x2), (3, .int v3)] 37 [] := by
  unfold wp_X4_letOut_37 at h
  refine gw_aload_n (pc' := 38) κ dX4_letOut_37 rfl 0 rfl rfl ?_
  refine gb_get (pc' := 41) (C := RX4) (T := TX4) (N := 4) κ dX4_letOut_38 rfl inX4 0 rfl rfl rfl 1 (by decide) tw_fl_X4_15 rfl ?_
  refine gw_iload_n (pc' := 42) κ dX4_letOut_41 rfl 2 rfl rfl ?_
  refine gw_dup2 (pc' := 43) κ dX4_letOut_42 rfl rfl rfl ?_
  obtain ⟨hb_9, h⟩ := h
  refine gb_iald (pc' := 44) κ dX4_letOut_43 rfl 0 2 rfl rfl hb_9 ?_
  refine gw_iload_n (pc' := 45) κ dX4_letOut_44 rfl 1 rfl rfl ?_
  refine gw_iadd (pc' := 46) κ dX4_letOut_45 rfl  ?_
  obtain ⟨hb_10, h⟩ := h
  refine gb_iast (pc' := 47) (bs' := [cWy qa cI ky (upd wp v3.toNatClampNeg ((wp v3.toNatClampNeg) + x2)) o0.mi so]) κ dX4_letOut_46 rfl 0 2 rfl rfl hb_10 rfl ?_
  exact gw_vret κ dX4_letOut_47 (ky, (upd wp v3.toNatClampNeg ((wp v3.toNatClampNeg) + x2)), so) rfl ⟨rfl, h⟩
set_option maxHeartbeats 4000000 in
set_option maxRecDepth 100000 in
theorem k_X4_letOut_31 {zp : Program} {l : Launch} {ze : Env} {zs : State} {zm : MethodId} {za : Array Value} {zb : List Frame} {zt : Method} {zc : Code} {D : va_G} {cI cR : ClassId} {A : Nat → Prop} (κ : KC zp zs zm za zt zc cX4_letOut 4 RX4 D cI cR A none) (qa : Nat → Nat) (P : (Nat → Int32) → (Nat → Int32) → Int32 → Prop) (o0 : WyT) (x1 : Int32) (x2 : Int32) (v3 : Int32) (ky : Nat → Int32) (wp : Nat → Int32) (so : Int32) (h : wp_X4_letOut_31 P o0 x1 x2 v3 ky wp so) : GM zp l ze ({ frames := 1, cells := 0, slots := 0, locals := 23 } : Room) zs zm za zb zt zc D A 4 (pV (fun (u : (Nat → Int32) × (Nat → Int32) × Int32) => P u.1 u.2.1 u.2.2)) (fun u : (Nat → Int32) × (Nat → Int32) × Int32 => (wfl [cWy qa cI u.1 u.2.1 o0.mi u.2.2])) 0 0 0 0 (wfl [cWy qa cI ky wp o0.mi so]) [(0, .ref (qa 0)), (1, .int x1), (2, .int x2), (3, .int v3)] 31 [] := by
  unfold wp_X4_letOut_31 at h
  refine gw_aload_n (pc' := 32) κ dX4_letOut_31 rfl 0 rfl rfl ?_
  refine gw_iload_n (pc' := 33) κ dX4_letOut_32 rfl 3 rfl rfl ?_
  refine gw_iload_n (pc' := 34) κ dX4_letOut_33 rfl 1 rfl rfl ?_
  refine gb_callV (ci := 4) (qb := 0) (rest := []) κ (c_X4_openStop qa (mkWy ky wp o0.mi so) v3 x1 h) ⟨rfl, rfl, Nat.le_of_ble_eq_true rfl, Nat.le_of_ble_eq_true rfl⟩ tw_ml_X4_54 tw_im_X4_openStop tw_se_X4_openStop tw_co_X4_openStop tw_in_X4 hy_X4_openStop rfl rfl rfl rfl rfl (Nat.le_of_ble_eq_true rfl) rfl dX4_letOut_34 [0] rfl (by decide) (fun _ => Nat.le_of_ble_eq_true rfl) ⟨Nat.le_of_ble_eq_true rfl, Nat.le_of_ble_eq_true rfl⟩ (fun v u hv => ?_)
  obtain ⟨rfl, h⟩ := hv
  obtain ⟨ky_6, wp_7, so_8⟩ := u
  refine gw_nf (ws' := (wfl [cWy qa cI ky_6 wp_7 o0.mi so_8])) (lv' := [(0, .ref (qa 0)), (1, .int x1), (2, .int x2), (3, .int v3)]) (st' := []) (pc' := 37) (ce' := 0) (sl' := 0) rfl rfl rfl rfl rfl rfl ?_
  refine gw_lv (lv' := [(0, .ref (qa 0)), (2, .int x2), (3, .int v3)]) [0, 2, 3] rfl ?_
  exact k_X4_letOut_37 κ qa P o0 x1 x2 v3 ky_6 wp_7 so_8 h
set_option maxHeartbeats 4000000 in
set_option maxRecDepth 100000 in
theorem c_X4_letOut {l : Launch} {D : va_G} {cI cR : ClassId}  (qa : Nat → Nat) {P : (Nat → Int32) → (Nat → Int32) → Int32 → Prop} (o0 : WyT) (x1 : Int32) (x2 : Int32) (h : wp_X4_letOut P o0 x1 x2) : CT l D cI cR yX4_letOut cX4_letOut 4 none ({ frames := 1, cells := 0, slots := 0, locals := 23 } : Room) [.ref (qa 0), .int x1, .int x2] (wfl [cWy qa cI o0.ky o0.wp o0.mi o0.so]) (fun u : (Nat → Int32) × (Nat → Int32) × Int32 => (wfl [cWy qa cI u.1 u.2.1 o0.mi u.2.2])) (pV (fun (u : (Nat → Int32) × (Nat → Int32) × Int32) => P u.1 u.2.1 u.2.2)) 0 0 := by
  refine ct_of RX4 rfl (by decide +kernel) (Nat.le_of_ble_eq_true rfl) (fun zp ze zs zm zb zt zc A hin κ => ?_)
  unfold wp_X4_letOut at h
  refine gw_nf (lv' := [(0, .ref (qa 0)), (1, .int x1), (2, .int x2)]) (pc' := 0) (st' := []) (ce' := 0) (sl' := 0) rfl rfl rfl rfl rfl rfl ?_
  refine gw_aload_n (pc' := 1) κ dX4_letOut_0 rfl 0 rfl rfl ?_
  refine gw_iload_n (pc' := 2) κ dX4_letOut_1 rfl 1 rfl rfl ?_
  refine gb_callV (ci := 4) (qb := 0) (rest := []) κ (c_X4_placeFor qa o0 x1 h) ⟨rfl, rfl, Nat.le_of_ble_eq_true rfl, Nat.le_of_ble_eq_true rfl⟩ tw_ml_X4_51 tw_im_X4_placeFor tw_se_X4_placeFor tw_co_X4_placeFor tw_in_X4 hy_X4_placeFor rfl rfl rfl rfl rfl (Nat.le_of_ble_eq_true rfl) rfl dX4_letOut_2 [0] rfl (by decide) (fun _ => Nat.le_of_ble_eq_true rfl) ⟨Nat.le_of_ble_eq_true rfl, Nat.le_of_ble_eq_true rfl⟩ (fun v u hv => ?_)
  obtain ⟨r_1, rfl, h⟩ := hv
  refine gw_nf (ws' := (wfl [cWy qa cI o0.ky o0.wp o0.mi o0.so])) (lv' := [(0, .ref (qa 0)), (1, .int x1), (2, .int x2)]) (st' := [.int r_1]) (pc' := 5) (ce' := 0) (sl' := 0) rfl rfl rfl rfl rfl rfl ?_
  refine gw_istore_n (pc' := 6) κ dX4_letOut_5 rfl rfl (by decide) (lv' := [(3, .int r_1), (0, .ref (qa 0)), (1, .int x1), (2, .int x2)]) rfl ?_
  refine gw_iload_n (pc' := 7) κ dX4_letOut_6 rfl 0 rfl rfl ?_
  refine gw_bipush (pc' := 9) (v := 24) κ dX4_letOut_7 rfl (by decide) ?_
  refine gw_icmp_lt (pc' := 12) (tgt := 13) κ dX4_letOut_9 rfl (by decide) (fun hc_2 => ?_) (fun hc_2 => ?_)
  · have h := h.1 hc_2
    refine gw_iload_n (pc' := 14) κ dX4_letOut_13 rfl 0 rfl rfl ?_
    refine gw_aload_n (pc' := 15) κ dX4_letOut_14 rfl 1 rfl rfl ?_
    refine gb_get (pc' := 18) (C := RX4) (T := TX4) (N := 4) κ dX4_letOut_15 rfl inX4 0 rfl rfl rfl 3 (by decide) tw_fl_X4_21 rfl ?_
    refine gw_icmp_eq (pc' := 21) (tgt := 31) κ dX4_letOut_18 rfl (by decide) (fun hc_3 => ?_) (fun hc_3 => ?_)
    · have h := h.1 hc_3
      refine gw_lv (lv' := [(0, .ref (qa 0)), (1, .int x1), (2, .int x2), (3, .int r_1)]) [1, 2, 3, 0] rfl ?_
      exact k_X4_letOut_31 κ qa P o0 x1 x2 r_1 o0.ky o0.wp o0.so h
    · have h := h.2 hc_3
      refine gw_aload_n (pc' := 22) κ dX4_letOut_21 rfl 1 rfl rfl ?_
      refine gb_get (pc' := 25) (C := RX4) (T := TX4) (N := 4) κ dX4_letOut_22 rfl inX4 0 rfl rfl rfl 0 (by decide) tw_fl_X4_9 rfl ?_
      refine gw_iload_n (pc' := 26) κ dX4_letOut_25 rfl 0 rfl rfl ?_
      obtain ⟨hb_4, h⟩ := h
      refine gb_iald (pc' := 27) κ dX4_letOut_26 rfl 0 1 rfl rfl hb_4 ?_
      refine gw_iload_n (pc' := 28) κ dX4_letOut_27 rfl 2 rfl rfl ?_
      refine gw_icmp_eq (pc' := 31) (tgt := 37) κ dX4_letOut_28 rfl (by decide) (fun hc_5 => ?_) (fun hc_5 => ?_)
      · have h := h.1 hc_5
        refine gw_lv (lv' := [(0, .ref (qa 0)), (2, .int x2), (3, .int r_1)]) [1, 3, 0] rfl ?_
        exact k_X4_letOut_37 κ qa P o0 x1 x2 r_1 o0.ky o0.wp o0.so h
      · have h := h.2 hc_5
        refine gw_lv (lv' := [(0, .ref (qa 0)), (1, .int x1), (2, .int x2), (3, .int r_1)]) [1, 2, 3, 0] rfl ?_
        exact k_X4_letOut_31 κ qa P o0 x1 x2 r_1 o0.ky o0.wp o0.so h
  · have h := h.2 hc_2
    exact gw_vret κ dX4_letOut_12 (o0.ky, o0.wp, o0.so) rfl ⟨rfl, h⟩
theorem hy_X3_areaOfStop : g_hy yX3_areaOfStop 1 := by decide +kernel
set_option maxHeartbeats 4000000 in
set_option maxRecDepth 100000 in
theorem c_X3_areaOfStop {l : Launch} {D : va_G} {cI cR : ClassId}  {P : Int32 → Prop} (x0 : Int32) (h : wp_X3_areaOfStop P x0) : CT l D cI cR yX3_areaOfStop cX3_areaOfStop 1 (some .int) ({ frames := 0, cells := 0, slots := 0, locals := 0 } : Room) [.int x0] (wfl ([] : List va_W)) (fun _ : Unit => (wfl ([] : List va_W))) (pI (fun (r : Int32) (_ : Unit) => P r)) 0 0 := by
  refine ct_of RX3 rfl (by decide +kernel) (Nat.le_of_ble_eq_true rfl) (fun zp ze zs zm zb zt zc A hin κ => ?_)
  unfold wp_X3_areaOfStop at h
  refine gw_nf (lv' := [(0, .int x0)]) (pc' := 0) (st' := []) (ce' := 0) (sl' := 0) rfl rfl rfl rfl rfl rfl ?_
  refine gw_iload_n (pc' := 1) κ dX3_areaOfStop_0 rfl 0 rfl rfl ?_
  refine gw_bipush (pc' := 3) (v := 100) κ dX3_areaOfStop_1 rfl (by decide) ?_
  refine gw_idiv (pc' := 4) κ dX3_areaOfStop_3 rfl (by decide) ?_
  exact gw_iret κ dX3_areaOfStop_4 () rfl ⟨_, rfl, h⟩
theorem hy_X4_tellMinutes : g_hy yX4_tellMinutes 1 := by decide +kernel
set_option maxHeartbeats 4000000 in
set_option maxRecDepth 100000 in
theorem k_X4_tellMinutes_82 {zp : Program} {l : Launch} {ze : Env} {zs : State} {zm : MethodId} {za : Array Value} {zb : List Frame} {zt : Method} {zc : Code} {D : va_G} {cI cR : ClassId} {A : Nat → Prop} (κ : KC zp zs zm za zt zc cX4_tellMinutes 5 RX4 D cI cR A none) (qa : Nat → Nat) (P : (Nat → Int32) → Prop) (o0 : WyT) (x1 : Int32) (r2 : Int32 → (Nat → Int32) → Prop) (v2 : Int32) (w0 : Int32) (w1 : Int32) (w2 : Int32) (mi : Nat → Int32) (hr2 : ∀ (v2 : Int32) (mi : Nat → Int32), r2 v2 mi → GM zp l ze ({ frames := 1, cells := 0, slots := 0, locals := 20 } : Room) zs zm za zb zt zc D A 5 (pV (fun (u : (Nat → Int32)) => P u)) (fun u : (Nat → Int32) => (wfl [cWy qa cI o0.ky o0.wp u o0.so])) 0 0 0 0 (wfl [cWy qa cI o0.ky o0.wp mi o0.so]) [(0, .ref (qa 0)), (1, .int x1), (2, .int v2)] 2 []) (h : wp_X4_tellMinutes_82 P o0 x1 r2 v2 w0 w1 w2 mi) : GM zp l ze ({ frames := 1, cells := 0, slots := 0, locals := 20 } : Room) zs zm za zb zt zc D A 5 (pV (fun (u : (Nat → Int32)) => P u)) (fun u : (Nat → Int32) => (wfl [cWy qa cI o0.ky o0.wp u o0.so])) 0 0 0 0 (wfl [cWy qa cI o0.ky o0.wp mi o0.so]) [(0, .ref (qa 0)), (1, .int x1), (2, .int v2)] 82 [.int w2, .int w1, .int w0, .ref (qa 3)] := by
  unfold wp_X4_tellMinutes_82 at h
  refine gw_iadd (pc' := 83) κ dX4_tellMinutes_82 rfl  ?_
  obtain ⟨hb_10, h⟩ := h
  refine gb_iast (pc' := 84) (bs' := [cWy qa cI o0.ky o0.wp (upd mi w0.toNatClampNeg (w1 + w2)) o0.so]) κ dX4_tellMinutes_83 rfl 0 3 rfl rfl hb_10 rfl ?_
  refine gw_iinc (pc' := 87) κ dX4_tellMinutes_84 rfl 2 rfl (v := (v2 + 1)) rfl (by decide) (lv' := [(2, .int (v2 + 1)), (0, .ref (qa 0)), (1, .int x1)]) rfl ?_
  refine gw_goto (tgt := 2) κ dX4_tellMinutes_87 (by decide) ?_
  refine gw_lv (lv' := [(0, .ref (qa 0)), (1, .int x1), (2, .int (v2 + 1))]) [1, 2, 0] rfl ?_
  exact hr2 (v2 + 1) (upd mi w0.toNatClampNeg (w1 + w2)) h
set_option maxHeartbeats 4000000 in
set_option maxRecDepth 100000 in
theorem k_X4_tellMinutes_2 {zp : Program} {l : Launch} {ze : Env} {zs : State} {zm : MethodId} {za : Array Value} {zb : List Frame} {zt : Method} {zc : Code} {D : va_G} {cI cR : ClassId} {A : Nat → Prop} (κ : KC zp zs zm za zt zc cX4_tellMinutes 5 RX4 D cI cR A none) (qa : Nat → Nat) (P : (Nat → Int32) → Prop) (o0 : WyT) (x1 : Int32) : ∀ (n : Nat) (v2 : Int32) (mi : Nat → Int32), wp_X4_tellMinutes_2 P o0 x1 n v2 mi → GM zp l ze ({ frames := 1, cells := 0, slots := 0, locals := 20 } : Room) zs zm za zb zt zc D A 5 (pV (fun (u : (Nat → Int32)) => P u)) (fun u : (Nat → Int32) => (wfl [cWy qa cI o0.ky o0.wp u o0.so])) 0 0 0 0 (wfl [cWy qa cI o0.ky o0.wp mi o0.so]) [(0, .ref (qa 0)), (1, .int x1), (2, .int v2)] 2 [] := by
  intro n2
  induction n2 with
  | zero => intro v2 mi h; exact (show False from h).elim
  | succ n2 ih2 =>
    intro v2 mi h
    have h : wp_X4_tellMinutes_2F P o0 x1 (wp_X4_tellMinutes_2 P o0 x1 n2) v2 mi := h
    unfold wp_X4_tellMinutes_2F at h
    refine gw_iload_n (pc' := 3) κ dX4_tellMinutes_2 rfl 2 rfl rfl ?_
    refine gw_aload_n (pc' := 4) κ dX4_tellMinutes_3 rfl 0 rfl rfl ?_
    refine gb_get (pc' := 7) (C := RX4) (T := TX4) (N := 4) κ dX4_tellMinutes_4 rfl inX4 0 rfl rfl rfl 3 (by decide) tw_fl_X4_21 rfl ?_
    refine gw_icmp_ge (pc' := 10) (tgt := 90) κ dX4_tellMinutes_7 rfl (by decide) (fun hc_1 => ?_) (fun hc_1 => ?_)
    · have h := h.1 hc_1
      exact gw_vret κ dX4_tellMinutes_90 (mi) rfl ⟨rfl, h⟩
    · have h := h.2 hc_1
      refine gw_aload_n (pc' := 11) κ dX4_tellMinutes_10 rfl 0 rfl rfl ?_
      refine gb_get (pc' := 14) (C := RX4) (T := TX4) (N := 4) κ dX4_tellMinutes_11 rfl inX4 0 rfl rfl rfl 0 (by decide) tw_fl_X4_9 rfl ?_
      refine gw_iload_n (pc' := 15) κ dX4_tellMinutes_14 rfl 2 rfl rfl ?_
      obtain ⟨hb_2, h⟩ := h
      refine gb_iald (pc' := 16) κ dX4_tellMinutes_15 rfl 0 1 rfl rfl hb_2 ?_
      refine gb_callS (rest := []) κ (c_X3_areaOfStop  (o0.ky v2.toNatClampNeg) h) ⟨rfl, rfl, Nat.le_of_ble_eq_true rfl, Nat.le_of_ble_eq_true rfl⟩ tw_ml_X4_57 tw_st_X3_areaOfStop tw_co_X3_areaOfStop tw_in_X3 hy_X3_areaOfStop rfl (Nat.le_of_ble_eq_true rfl) rfl dX4_tellMinutes_16 [] rfl (by decide) (fun _ => Nat.le_of_ble_eq_true rfl) ⟨Nat.le_of_ble_eq_true rfl, Nat.le_of_ble_eq_true rfl⟩ (fun v u hv => ?_)
      obtain ⟨r_3, rfl, h⟩ := hv
      refine gw_nf (ws' := (wfl [cWy qa cI o0.ky o0.wp mi o0.so])) (lv' := [(0, .ref (qa 0)), (1, .int x1), (2, .int v2)]) (st' := [.int r_3]) (pc' := 19) (ce' := 0) (sl' := 0) rfl rfl rfl rfl rfl rfl ?_
      refine gw_istore_n (pc' := 20) κ dX4_tellMinutes_19 rfl rfl (by decide) (lv' := [(3, .int r_3), (0, .ref (qa 0)), (1, .int x1), (2, .int v2)]) rfl ?_
      refine gw_iload_n (pc' := 21) κ dX4_tellMinutes_20 rfl 3 rfl rfl ?_
      refine gw_if_ne (pc' := 24) (tgt := 41) κ dX4_tellMinutes_21 rfl (by decide) (fun hc_4 => ?_) (fun hc_4 => ?_)
      · have h := h.1 hc_4
        refine gw_iload_n (pc' := 42) κ dX4_tellMinutes_41 rfl 0 rfl rfl ?_
        refine gw_aload_n (pc' := 43) κ dX4_tellMinutes_42 rfl 1 rfl rfl ?_
        refine gb_get (pc' := 46) (C := RX4) (T := TX4) (N := 4) κ dX4_tellMinutes_43 rfl inX4 0 rfl rfl rfl 0 (by decide) tw_fl_X4_9 rfl ?_
        refine gw_iload_n (pc' := 47) κ dX4_tellMinutes_46 rfl 3 rfl rfl ?_
        refine gw_iconst (pc' := 48) (v := 1) κ dX4_tellMinutes_47 rfl (by decide) ?_
        refine gw_isub (pc' := 49) κ dX4_tellMinutes_48 rfl  ?_
        obtain ⟨hb_5, h⟩ := h
        refine gb_iald (pc' := 50) κ dX4_tellMinutes_49 rfl 0 1 rfl rfl hb_5 ?_
        refine gb_callS (rest := [.int r_3]) κ (c_X3_areaOfStop  (o0.ky (v2 - (1 : Int32)).toNatClampNeg) h) ⟨rfl, rfl, Nat.le_of_ble_eq_true rfl, Nat.le_of_ble_eq_true rfl⟩ tw_ml_X4_57 tw_st_X3_areaOfStop tw_co_X3_areaOfStop tw_in_X3 hy_X3_areaOfStop rfl (Nat.le_of_ble_eq_true rfl) rfl dX4_tellMinutes_50 [] rfl (by decide) (fun _ => Nat.le_of_ble_eq_true rfl) ⟨Nat.le_of_ble_eq_true rfl, Nat.le_of_ble_eq_true rfl⟩ (fun v u hv => ?_)
        obtain ⟨r_6, rfl, h⟩ := hv
        refine gw_nf (ws' := (wfl [cWy qa cI o0.ky o0.wp mi o0.so])) (lv' := [(3, .int r_3), (0, .ref (qa 0)), (1, .int x1), (2, .int v2)]) (st' := [.int r_6, .int r_3]) (pc' := 53) (ce' := 0) (sl' := 0) rfl rfl rfl rfl rfl rfl ?_
        refine gw_isub (pc' := 54) κ dX4_tellMinutes_53 rfl  ?_
        refine gw_istore (pc' := 56) κ dX4_tellMinutes_54 rfl (by decide) (lv' := [(4, .int (r_3 - r_6)), (3, .int r_3), (0, .ref (qa 0)), (1, .int x1), (2, .int v2)]) rfl ?_
        refine gw_aload_n (pc' := 57) κ dX4_tellMinutes_56 rfl 2 rfl rfl ?_
        refine gb_get (pc' := 60) (C := RX4) (T := TX4) (N := 4) κ dX4_tellMinutes_57 rfl inX4 0 rfl rfl rfl 2 (by decide) tw_fl_X4_18 rfl ?_
        refine gw_iload_n (pc' := 61) κ dX4_tellMinutes_60 rfl 4 rfl rfl ?_
        refine gw_aload_n (pc' := 62) κ dX4_tellMinutes_61 rfl 2 rfl rfl ?_
        refine gb_get (pc' := 65) (C := RX4) (T := TX4) (N := 4) κ dX4_tellMinutes_62 rfl inX4 0 rfl rfl rfl 2 (by decide) tw_fl_X4_18 rfl ?_
        refine gw_iload_n (pc' := 66) κ dX4_tellMinutes_65 rfl 4 rfl rfl ?_
        refine gw_iconst (pc' := 67) (v := 1) κ dX4_tellMinutes_66 rfl (by decide) ?_
        refine gw_isub (pc' := 68) κ dX4_tellMinutes_67 rfl  ?_
        obtain ⟨hb_7, h⟩ := h
        refine gb_iald (pc' := 69) κ dX4_tellMinutes_68 rfl 0 3 rfl rfl hb_7 ?_
        refine gw_iload (pc' := 71) κ dX4_tellMinutes_69 rfl 0 rfl ?_
        refine gw_if_le (pc' := 74) (tgt := 81) κ dX4_tellMinutes_71 rfl (by decide) (fun hc_8 => ?_) (fun hc_8 => ?_)
        · have h := h.1 hc_8
          refine gw_iconst (pc' := 82) (v := 3) κ dX4_tellMinutes_81 rfl (by decide) ?_
          refine gw_lv (lv' := [(0, .ref (qa 0)), (1, .int x1), (2, .int v2)]) [2, 3, 4] rfl ?_
          exact k_X4_tellMinutes_82 κ qa P o0 x1 (wp_X4_tellMinutes_2 P o0 x1 n2) v2 v2 (mi (v2 - (1 : Int32)).toNatClampNeg) (3 : Int32) mi ih2 h
        · have h := h.2 hc_8
          refine gw_iconst (pc' := 75) (v := 5) κ dX4_tellMinutes_74 rfl (by decide) ?_
          refine gw_iload (pc' := 77) κ dX4_tellMinutes_75 rfl 0 rfl ?_
          refine gw_imul (pc' := 78) κ dX4_tellMinutes_77 rfl  ?_
          refine gw_goto (tgt := 82) κ dX4_tellMinutes_78 (by decide) ?_
          refine gw_lv (lv' := [(0, .ref (qa 0)), (1, .int x1), (2, .int v2)]) [2, 3, 4] rfl ?_
          exact k_X4_tellMinutes_82 κ qa P o0 x1 (wp_X4_tellMinutes_2 P o0 x1 n2) v2 v2 (mi (v2 - (1 : Int32)).toNatClampNeg) ((5 : Int32) * (r_3 - r_6)) mi ih2 h
      · have h := h.2 hc_4
        refine gw_aload_n (pc' := 25) κ dX4_tellMinutes_24 rfl 1 rfl rfl ?_
        refine gb_get (pc' := 28) (C := RX4) (T := TX4) (N := 4) κ dX4_tellMinutes_25 rfl inX4 0 rfl rfl rfl 2 (by decide) tw_fl_X4_18 rfl ?_
        refine gw_iload_n (pc' := 29) κ dX4_tellMinutes_28 rfl 3 rfl rfl ?_
        refine gw_iload_n (pc' := 30) κ dX4_tellMinutes_29 rfl 2 rfl rfl ?_
        refine gw_bipush (pc' := 32) (v := 10) κ dX4_tellMinutes_30 rfl (by decide) ?_
        refine gw_iadd (pc' := 33) κ dX4_tellMinutes_32 rfl  ?_
        refine gw_iconst (pc' := 34) (v := 5) κ dX4_tellMinutes_33 rfl (by decide) ?_
        refine gw_iload_n (pc' := 35) κ dX4_tellMinutes_34 rfl 0 rfl rfl ?_
        refine gw_imul (pc' := 36) κ dX4_tellMinutes_35 rfl  ?_
        refine gw_iadd (pc' := 37) κ dX4_tellMinutes_36 rfl  ?_
        obtain ⟨hb_9, h⟩ := h
        refine gb_iast (pc' := 38) (bs' := [cWy qa cI o0.ky o0.wp (upd mi v2.toNatClampNeg ((x1 + (10 : Int32)) + ((5 : Int32) * r_3))) o0.so]) κ dX4_tellMinutes_37 rfl 0 3 rfl rfl hb_9 rfl ?_
        refine gw_goto (tgt := 84) κ dX4_tellMinutes_38 (by decide) ?_
        refine gw_iinc (pc' := 87) κ dX4_tellMinutes_84 rfl 3 rfl (v := (v2 + 1)) rfl (by decide) (lv' := [(2, .int (v2 + 1)), (3, .int r_3), (0, .ref (qa 0)), (1, .int x1)]) rfl ?_
        refine gw_goto (tgt := 2) κ dX4_tellMinutes_87 (by decide) ?_
        refine gw_lv (lv' := [(0, .ref (qa 0)), (1, .int x1), (2, .int (v2 + 1))]) [2, 3, 0] rfl ?_
        exact ih2 (v2 + 1) (upd mi v2.toNatClampNeg ((x1 + (10 : Int32)) + ((5 : Int32) * r_3))) h
set_option maxHeartbeats 4000000 in
set_option maxRecDepth 100000 in
theorem c_X4_tellMinutes {l : Launch} {D : va_G} {cI cR : ClassId}  (qa : Nat → Nat) {P : (Nat → Int32) → Prop} (o0 : WyT) (x1 : Int32) (h : wp_X4_tellMinutes P o0 x1) : CT l D cI cR yX4_tellMinutes cX4_tellMinutes 5 none ({ frames := 1, cells := 0, slots := 0, locals := 20 } : Room) [.ref (qa 0), .int x1] (wfl [cWy qa cI o0.ky o0.wp o0.mi o0.so]) (fun u : (Nat → Int32) => (wfl [cWy qa cI o0.ky o0.wp u o0.so])) (pV (fun (u : (Nat → Int32)) => P u)) 0 0 := by
  refine ct_of RX4 rfl (by decide +kernel) (Nat.le_of_ble_eq_true rfl) (fun zp ze zs zm zb zt zc A hin κ => ?_)
  unfold wp_X4_tellMinutes at h
  refine gw_nf (lv' := [(0, .ref (qa 0)), (1, .int x1)]) (pc' := 0) (st' := []) (ce' := 0) (sl' := 0) rfl rfl rfl rfl rfl rfl ?_
  refine gw_iconst (pc' := 1) (v := 0) κ dX4_tellMinutes_0 rfl (by decide) ?_
  refine gw_istore_n (pc' := 2) κ dX4_tellMinutes_1 rfl rfl (by decide) (lv' := [(2, .int (0 : Int32)), (0, .ref (qa 0)), (1, .int x1)]) rfl ?_
  obtain ⟨m2, h⟩ := h
  refine gw_lv (lv' := [(0, .ref (qa 0)), (1, .int x1), (2, .int (0 : Int32))]) [1, 2, 0] rfl ?_
  exact k_X4_tellMinutes_2 κ qa P o0 x1 m2 (0 : Int32) o0.mi h
theorem hy_X4_follow : g_hy yX4_follow 3 := by decide +kernel
set_option maxHeartbeats 4000000 in
set_option maxRecDepth 100000 in
theorem k_X4_follow_8 {zp : Program} {l : Launch} {ze : Env} {zs : State} {zm : MethodId} {za : Array Value} {zb : List Frame} {zt : Method} {zc : Code} {D : va_G} {cI cR : ClassId} {A : Nat → Prop} (κ : KC zp zs zm za zt zc cX4_follow 5 RX4 D cI cR A none) (qa : Nat → Nat) (qb : Nat → Nat) (qc : Nat → Nat) (P : (Nat → Int32) → (Nat → Int32) → (Nat → Int32) → Int32 → Prop) (o0 : WyT) (o1 : StT) (o2 : PlT) (x3 : Int32) (mi : Nat → Int32) : ∀ (n : Nat) (v4 : Int32) (ky : Nat → Int32) (wp : Nat → Int32) (so : Int32), wp_X4_follow_8 P o0 o1 o2 x3 mi n v4 ky wp so → GM zp l ze ({ frames := 2, cells := 0, slots := 0, locals := 46 } : Room) zs zm za zb zt zc D A 5 (pV (fun (u : (Nat → Int32) × (Nat → Int32) × (Nat → Int32) × Int32) => P u.1 u.2.1 u.2.2.1 u.2.2.2)) (fun u : (Nat → Int32) × (Nat → Int32) × (Nat → Int32) × Int32 => (wfl [cWy qa cI u.1 u.2.1 u.2.2.1 u.2.2.2, cSt qb cI o1.se o1.la o1.de o1.le o1.sa o1.fl o1.ar o1.dr o1.pe o1.ri, cPl qc cI o2.od o2.rd o2.vn o2.pn o2.ao o2.sr o2.sp o2.wt])) 0 0 0 0 (wfl [cWy qa cI ky wp mi so, cSt qb cI o1.se o1.la o1.de o1.le o1.sa o1.fl o1.ar o1.dr o1.pe o1.ri, cPl qc cI o2.od o2.rd o2.vn o2.pn o2.ao o2.sr o2.sp o2.wt]) [(0, .ref (qa 0)), (1, .ref (qb 0)), (2, .ref (qc 0)), (3, .int x3), (4, .int v4)] 8 [] := by
  intro n8
  induction n8 with
  | zero => intro v4 ky wp so h; exact (show False from h).elim
  | succ n8 ih8 =>
    intro v4 ky wp so h
    have h : wp_X4_follow_8F P o0 o1 o2 x3 mi (wp_X4_follow_8 P o0 o1 o2 x3 mi n8) v4 ky wp so := h
    unfold wp_X4_follow_8F at h
    refine gw_iload (pc' := 10) κ dX4_follow_8 rfl 4 rfl ?_
    refine gw_aload_n (pc' := 11) κ dX4_follow_10 rfl 1 rfl rfl ?_
    refine gb_get (pc' := 14) (C := RX3) (T := TX3) (N := 10) κ dX4_follow_11 rfl inX3 1 rfl rfl rfl 9 (by decide) tw_fl_X4_25 rfl ?_
    refine gw_icmp_ge (pc' := 17) (tgt := 51) κ dX4_follow_14 rfl (by decide) (fun hc_1 => ?_) (fun hc_1 => ?_)
    · have h := h.1 hc_1
      refine gw_aload_n (pc' := 52) κ dX4_follow_51 rfl 0 rfl rfl ?_
      refine gw_aload_n (pc' := 53) κ dX4_follow_52 rfl 1 rfl rfl ?_
      refine gb_get (pc' := 56) (C := RX3) (T := TX3) (N := 10) κ dX4_follow_53 rfl inX3 1 rfl rfl rfl 3 (by decide) tw_fl_X4_44 rfl ?_
      refine gw_iload_n (pc' := 57) κ dX4_follow_56 rfl 3 rfl rfl ?_
      obtain ⟨hb_2, h⟩ := h
      refine gb_iald (pc' := 58) κ dX4_follow_57 rfl 1 4 rfl rfl hb_2 ?_
      refine gb_callV (ci := 4) (qb := 0) (rest := []) κ (c_X4_tellMinutes qa (mkWy ky wp mi so) (o1.le x3.toNatClampNeg) h) ⟨rfl, rfl, Nat.le_of_ble_eq_true rfl, Nat.le_of_ble_eq_true rfl⟩ tw_ml_X4_47 tw_im_X4_tellMinutes tw_se_X4_tellMinutes tw_co_X4_tellMinutes tw_in_X4 hy_X4_tellMinutes rfl rfl rfl rfl rfl (Nat.le_of_ble_eq_true rfl) rfl dX4_follow_58 [0] rfl (by decide) (fun _ => Nat.le_of_ble_eq_true rfl) ⟨Nat.le_of_ble_eq_true rfl, Nat.le_of_ble_eq_true rfl⟩ (fun v mi_3 hv => ?_)
      obtain ⟨rfl, h⟩ := hv
      refine gw_nf (ws' := (wfl [cWy qa cI ky wp mi_3 so, cSt qb cI o1.se o1.la o1.de o1.le o1.sa o1.fl o1.ar o1.dr o1.pe o1.ri, cPl qc cI o2.od o2.rd o2.vn o2.pn o2.ao o2.sr o2.sp o2.wt])) (lv' := [(0, .ref (qa 0)), (1, .ref (qb 0)), (2, .ref (qc 0)), (3, .int x3), (4, .int v4)]) (st' := []) (pc' := 61) (ce' := 0) (sl' := 0) rfl rfl rfl rfl rfl rfl ?_
      exact gw_vret κ dX4_follow_61 (ky, wp, mi_3, so) rfl ⟨rfl, h⟩
    · have h := h.2 hc_1
      refine gw_aload_n (pc' := 18) κ dX4_follow_17 rfl 2 rfl rfl ?_
      refine gb_get (pc' := 21) (C := RX2) (T := TX2) (N := 8) κ dX4_follow_18 rfl inX2 2 rfl rfl rfl 2 (by decide) tw_fl_X4_30 rfl ?_
      refine gw_iload (pc' := 23) κ dX4_follow_21 rfl 4 rfl ?_
      obtain ⟨hb_4, h⟩ := h
      refine gb_iald (pc' := 24) κ dX4_follow_23 rfl 2 3 rfl rfl hb_4 ?_
      refine gw_iload_n (pc' := 25) κ dX4_follow_24 rfl 3 rfl rfl ?_
      refine gw_icmp_ne (pc' := 28) (tgt := 45) κ dX4_follow_25 rfl (by decide) (fun hc_5 => ?_) (fun hc_5 => ?_)
      · have h := h.1 hc_5
        refine gw_iinc (pc' := 48) κ dX4_follow_45 rfl 4 rfl (v := (v4 + 1)) rfl (by decide) (lv' := [(4, .int (v4 + 1)), (0, .ref (qa 0)), (1, .ref (qb 0)), (2, .ref (qc 0)), (3, .int x3)]) rfl ?_
        refine gw_goto (tgt := 8) κ dX4_follow_48 (by decide) ?_
        refine gw_lv (lv' := [(0, .ref (qa 0)), (1, .ref (qb 0)), (2, .ref (qc 0)), (3, .int x3), (4, .int (v4 + 1))]) [1, 2, 3, 4, 0] rfl ?_
        exact ih8 (v4 + 1) ky wp so h
      · have h := h.2 hc_5
        refine gw_aload_n (pc' := 29) κ dX4_follow_28 rfl 0 rfl rfl ?_
        refine gw_aload_n (pc' := 30) κ dX4_follow_29 rfl 1 rfl rfl ?_
        refine gw_iload (pc' := 32) κ dX4_follow_30 rfl 4 rfl ?_
        refine gb_callV (ci := 3) (qb := 1) (rest := [.ref (qa 0)]) κ (c_X3_stopKey qb o1 v4 h) ⟨rfl, rfl, Nat.le_of_ble_eq_true rfl, Nat.le_of_ble_eq_true rfl⟩ tw_ml_X4_35 tw_im_X3_stopKey tw_se_X3_stopKey tw_co_X3_stopKey tw_in_X3 hy_X3_stopKey rfl rfl rfl rfl rfl (Nat.le_of_ble_eq_true rfl) rfl dX4_follow_32 [1] rfl (by decide) (fun _ => Nat.le_of_ble_eq_true rfl) ⟨Nat.le_of_ble_eq_true rfl, Nat.le_of_ble_eq_true rfl⟩ (fun v u hv => ?_)
        obtain ⟨r_6, rfl, h⟩ := hv
        refine gw_nf (ws' := (wfl [cWy qa cI ky wp mi so, cSt qb cI o1.se o1.la o1.de o1.le o1.sa o1.fl o1.ar o1.dr o1.pe o1.ri, cPl qc cI o2.od o2.rd o2.vn o2.pn o2.ao o2.sr o2.sp o2.wt])) (lv' := [(0, .ref (qa 0)), (1, .ref (qb 0)), (2, .ref (qc 0)), (3, .int x3), (4, .int v4)]) (st' := [.int r_6, .ref (qa 0)]) (pc' := 35) (ce' := 0) (sl' := 0) rfl rfl rfl rfl rfl rfl ?_
        refine gw_aload_n (pc' := 36) κ dX4_follow_35 rfl 1 rfl rfl ?_
        refine gb_get (pc' := 39) (C := RX3) (T := TX3) (N := 10) κ dX4_follow_36 rfl inX3 1 rfl rfl rfl 8 (by decide) tw_fl_X4_39 rfl ?_
        refine gw_iload (pc' := 41) κ dX4_follow_39 rfl 4 rfl ?_
        obtain ⟨hb_7, h⟩ := h
        refine gb_iald (pc' := 42) κ dX4_follow_41 rfl 1 9 rfl rfl hb_7 ?_
        refine gb_callV (ci := 4) (qb := 0) (rest := []) κ (c_X4_letOut qa (mkWy ky wp mi so) r_6 (o1.pe v4.toNatClampNeg) h) ⟨rfl, rfl, Nat.le_of_ble_eq_true rfl, Nat.le_of_ble_eq_true rfl⟩ tw_ml_X4_40 tw_im_X4_letOut tw_se_X4_letOut tw_co_X4_letOut tw_in_X4 hy_X4_letOut rfl rfl rfl rfl rfl (Nat.le_of_ble_eq_true rfl) rfl dX4_follow_42 [0] rfl (by decide) (fun _ => Nat.le_of_ble_eq_true rfl) ⟨Nat.le_of_ble_eq_true rfl, Nat.le_of_ble_eq_true rfl⟩ (fun v u hv => ?_)
        obtain ⟨rfl, h⟩ := hv
        obtain ⟨ky_8, wp_9, so_10⟩ := u
        refine gw_nf (ws' := (wfl [cWy qa cI ky_8 wp_9 mi so_10, cSt qb cI o1.se o1.la o1.de o1.le o1.sa o1.fl o1.ar o1.dr o1.pe o1.ri, cPl qc cI o2.od o2.rd o2.vn o2.pn o2.ao o2.sr o2.sp o2.wt])) (lv' := [(0, .ref (qa 0)), (1, .ref (qb 0)), (2, .ref (qc 0)), (3, .int x3), (4, .int v4)]) (st' := []) (pc' := 45) (ce' := 0) (sl' := 0) rfl rfl rfl rfl rfl rfl ?_
        refine gw_iinc (pc' := 48) κ dX4_follow_45 rfl 4 rfl (v := (v4 + 1)) rfl (by decide) (lv' := [(4, .int (v4 + 1)), (0, .ref (qa 0)), (1, .ref (qb 0)), (2, .ref (qc 0)), (3, .int x3)]) rfl ?_
        refine gw_goto (tgt := 8) κ dX4_follow_48 (by decide) ?_
        refine gw_lv (lv' := [(0, .ref (qa 0)), (1, .ref (qb 0)), (2, .ref (qc 0)), (3, .int x3), (4, .int (v4 + 1))]) [1, 2, 3, 4, 0] rfl ?_
        exact ih8 (v4 + 1) ky_8 wp_9 so_10 h
set_option maxHeartbeats 4000000 in
set_option maxRecDepth 100000 in
theorem c_X4_follow {l : Launch} {D : va_G} {cI cR : ClassId}  (qa : Nat → Nat) (qb : Nat → Nat) (qc : Nat → Nat) {P : (Nat → Int32) → (Nat → Int32) → (Nat → Int32) → Int32 → Prop} (o0 : WyT) (o1 : StT) (o2 : PlT) (x3 : Int32) (h : wp_X4_follow P o0 o1 o2 x3) : CT l D cI cR yX4_follow cX4_follow 5 none ({ frames := 2, cells := 0, slots := 0, locals := 46 } : Room) [.ref (qa 0), .ref (qb 0), .ref (qc 0), .int x3] (wfl [cWy qa cI o0.ky o0.wp o0.mi o0.so, cSt qb cI o1.se o1.la o1.de o1.le o1.sa o1.fl o1.ar o1.dr o1.pe o1.ri, cPl qc cI o2.od o2.rd o2.vn o2.pn o2.ao o2.sr o2.sp o2.wt]) (fun u : (Nat → Int32) × (Nat → Int32) × (Nat → Int32) × Int32 => (wfl [cWy qa cI u.1 u.2.1 u.2.2.1 u.2.2.2, cSt qb cI o1.se o1.la o1.de o1.le o1.sa o1.fl o1.ar o1.dr o1.pe o1.ri, cPl qc cI o2.od o2.rd o2.vn o2.pn o2.ao o2.sr o2.sp o2.wt])) (pV (fun (u : (Nat → Int32) × (Nat → Int32) × (Nat → Int32) × Int32) => P u.1 u.2.1 u.2.2.1 u.2.2.2)) 0 0 := by
  refine ct_of RX4 rfl (by decide +kernel) (Nat.le_of_ble_eq_true rfl) (fun zp ze zs zm zb zt zc A hin κ => ?_)
  unfold wp_X4_follow at h
  refine gw_nf (lv' := [(0, .ref (qa 0)), (1, .ref (qb 0)), (2, .ref (qc 0)), (3, .int x3)]) (pc' := 0) (st' := []) (ce' := 0) (sl' := 0) rfl rfl rfl rfl rfl rfl ?_
  refine gw_aload_n (pc' := 1) κ dX4_follow_0 rfl 0 rfl rfl ?_
  refine gw_iconst (pc' := 2) (v := 0) κ dX4_follow_1 rfl (by decide) ?_
  refine gb_put (pc' := 5) (C := RX4) (T := TX4) (N := 4) (ty := .int) (bs' := [cWy qa cI o0.ky o0.wp o0.mi (0 : Int32), cSt qb cI o1.se o1.la o1.de o1.le o1.sa o1.fl o1.ar o1.dr o1.pe o1.ri, cPl qc cI o2.od o2.rd o2.vn o2.pn o2.ao o2.sr o2.sp o2.wt]) κ dX4_follow_2 rfl inX4 tyX4 tyX4_ok nmX4 0 rfl rfl rfl 3 (by decide) tw_fl_X4_21 rfl (by decide +kernel) rfl rfl (Nat.le_of_ble_eq_true rfl) rfl ?_
  refine gw_iconst (pc' := 6) (v := 0) κ dX4_follow_5 rfl (by decide) ?_
  refine gw_istore (pc' := 8) κ dX4_follow_6 rfl (by decide) (lv' := [(4, .int (0 : Int32)), (0, .ref (qa 0)), (1, .ref (qb 0)), (2, .ref (qc 0)), (3, .int x3)]) rfl ?_
  obtain ⟨m8, h⟩ := h
  refine gw_lv (lv' := [(0, .ref (qa 0)), (1, .ref (qb 0)), (2, .ref (qc 0)), (3, .int x3), (4, .int (0 : Int32))]) [1, 2, 3, 4, 0] rfl ?_
  exact k_X4_follow_8 κ qa qb qc P o0 o1 o2 x3 o0.mi m8 (0 : Int32) o0.ky o0.wp (0 : Int32) h
theorem hy_X4_minuteAt : g_hy yX4_minuteAt 1 := by decide +kernel
set_option maxHeartbeats 4000000 in
set_option maxRecDepth 100000 in
theorem c_X4_minuteAt {l : Launch} {D : va_G} {cI cR : ClassId}  (qa : Nat → Nat) {P : Int32 → Prop} (o0 : WyT) (x1 : Int32) (h : wp_X4_minuteAt P o0 x1) : CT l D cI cR yX4_minuteAt cX4_minuteAt 3 (some .int) ({ frames := 1, cells := 0, slots := 0, locals := 22 } : Room) [.ref (qa 0), .int x1] (wfl [cWy qa cI o0.ky o0.wp o0.mi o0.so]) (fun _ : Unit => (wfl [cWy qa cI o0.ky o0.wp o0.mi o0.so])) (pI (fun (r : Int32) (_ : Unit) => P r)) 0 0 := by
  refine ct_of RX4 rfl (by decide +kernel) (Nat.le_of_ble_eq_true rfl) (fun zp ze zs zm zb zt zc A hin κ => ?_)
  unfold wp_X4_minuteAt at h
  refine gw_nf (lv' := [(0, .ref (qa 0)), (1, .int x1)]) (pc' := 0) (st' := []) (ce' := 0) (sl' := 0) rfl rfl rfl rfl rfl rfl ?_
  refine gw_aload_n (pc' := 1) κ dX4_minuteAt_0 rfl 0 rfl rfl ?_
  refine gw_iload_n (pc' := 2) κ dX4_minuteAt_1 rfl 1 rfl rfl ?_
  refine gb_callV (ci := 4) (qb := 0) (rest := []) κ (c_X4_placeFor qa o0 x1 h) ⟨rfl, rfl, Nat.le_of_ble_eq_true rfl, Nat.le_of_ble_eq_true rfl⟩ tw_ml_X4_51 tw_im_X4_placeFor tw_se_X4_placeFor tw_co_X4_placeFor tw_in_X4 hy_X4_placeFor rfl rfl rfl rfl rfl (Nat.le_of_ble_eq_true rfl) rfl dX4_minuteAt_2 [0] rfl (by decide) (fun _ => Nat.le_of_ble_eq_true rfl) ⟨Nat.le_of_ble_eq_true rfl, Nat.le_of_ble_eq_true rfl⟩ (fun v u hv => ?_)
  obtain ⟨r_1, rfl, h⟩ := hv
  refine gw_nf (ws' := (wfl [cWy qa cI o0.ky o0.wp o0.mi o0.so])) (lv' := [(0, .ref (qa 0)), (1, .int x1)]) (st' := [.int r_1]) (pc' := 5) (ce' := 0) (sl' := 0) rfl rfl rfl rfl rfl rfl ?_
  refine gw_istore_n (pc' := 6) κ dX4_minuteAt_5 rfl rfl (by decide) (lv' := [(2, .int r_1), (0, .ref (qa 0)), (1, .int x1)]) rfl ?_
  refine gw_iload_n (pc' := 7) κ dX4_minuteAt_6 rfl 0 rfl rfl ?_
  refine gw_aload_n (pc' := 8) κ dX4_minuteAt_7 rfl 1 rfl rfl ?_
  refine gb_get (pc' := 11) (C := RX4) (T := TX4) (N := 4) κ dX4_minuteAt_8 rfl inX4 0 rfl rfl rfl 3 (by decide) tw_fl_X4_21 rfl ?_
  refine gw_icmp_ge (pc' := 14) (tgt := 23) κ dX4_minuteAt_11 rfl (by decide) (fun hc_2 => ?_) (fun hc_2 => ?_)
  · have h := h.1 hc_2
    refine gw_bipush (pc' := 25) (v := -106) κ dX4_minuteAt_23 rfl (by decide) ?_
    exact gw_iret κ dX4_minuteAt_25 () rfl ⟨_, rfl, h⟩
  · have h := h.2 hc_2
    refine gw_aload_n (pc' := 15) κ dX4_minuteAt_14 rfl 1 rfl rfl ?_
    refine gb_get (pc' := 18) (C := RX4) (T := TX4) (N := 4) κ dX4_minuteAt_15 rfl inX4 0 rfl rfl rfl 2 (by decide) tw_fl_X4_18 rfl ?_
    refine gw_iload_n (pc' := 19) κ dX4_minuteAt_18 rfl 0 rfl rfl ?_
    obtain ⟨hb_3, h⟩ := h
    refine gb_iald (pc' := 20) κ dX4_minuteAt_19 rfl 0 3 rfl rfl hb_3 ?_
    refine gw_goto (tgt := 25) κ dX4_minuteAt_20 (by decide) ?_
    exact gw_iret κ dX4_minuteAt_25 () rfl ⟨_, rfl, h⟩
theorem hy_X5_minuteAtDoor : g_hy yX5_minuteAtDoor 1 := by decide +kernel
set_option maxHeartbeats 4000000 in
set_option maxRecDepth 100000 in
theorem c_X5_minuteAtDoor {l : Launch} {D : va_G} {cI cR : ClassId}  (qx : Nat → Nat) (qn : Nat → Nat) (qp : Nat → Nat) (qw : Nat → Nat) (qt : Nat → Nat) (qu : Nat → Nat) (qd : Nat → Nat) (qh : Nat → Nat) (ql : Nat → Nat) (qs : Nat → Nat → Nat) {P : Int32 → (Nat → Int32) → (Nat → Int32) → (Nat → Int32) → Int32 → Prop} (now : StT) (pln : PlT) (way : WyT) (x1 : Int32) (h : wp_X5_minuteAtDoor P now pln way x1) : CT l D cI cR yX5_minuteAtDoor cX5_minuteAtDoor 3 (some .int) ({ frames := 3, cells := 0, slots := 0, locals := 70 } : Room) [.ref (qx 0), .int x1] (wfl [cX qx qn qp qw qt qu qd qh ql, cSt qn cI now.se now.la now.de now.le now.sa now.fl now.ar now.dr now.pe now.ri, cPl qp cI pln.od pln.rd pln.vn pln.pn pln.ao pln.sr pln.sp pln.wt, cWy qw cI way.ky way.wp way.mi way.so]) (fun u : (Nat → Int32) × (Nat → Int32) × (Nat → Int32) × Int32 => (wfl [cX qx qn qp qw qt qu qd qh ql, cSt qn cI now.se now.la now.de now.le now.sa now.fl now.ar now.dr now.pe now.ri, cPl qp cI pln.od pln.rd pln.vn pln.pn pln.ao pln.sr pln.sp pln.wt, cWy qw cI u.1 u.2.1 u.2.2.1 u.2.2.2])) (pI (fun (r : Int32) (u : (Nat → Int32) × (Nat → Int32) × (Nat → Int32) × Int32) => P r u.1 u.2.1 u.2.2.1 u.2.2.2)) 0 0 := by
  refine ct_of RX5 rfl (by decide +kernel) (Nat.le_of_ble_eq_true rfl) (fun zp ze zs zm zb zt zc A hin κ => ?_)
  unfold wp_X5_minuteAtDoor at h
  refine gw_nf (lv' := [(0, .ref (qx 0)), (1, .int x1)]) (pc' := 0) (st' := []) (ce' := 0) (sl' := 0) rfl rfl rfl rfl rfl rfl ?_
  refine gw_aload_n (pc' := 1) κ dX5_minuteAtDoor_0 rfl 0 rfl rfl ?_
  refine gb_get (pc' := 4) (C := RX5) (T := TX5) (N := 8) κ dX5_minuteAtDoor_1 rfl inX5 0 rfl rfl rfl 1 (by decide) tw_fl_X5_19 rfl ?_
  refine gb_get (pc' := 7) (C := RX2) (T := TX2) (N := 8) κ dX5_minuteAtDoor_4 rfl inX2 2 rfl rfl rfl 2 (by decide) tw_fl_X5_139 rfl ?_
  refine gw_iload_n (pc' := 8) κ dX5_minuteAtDoor_7 rfl 1 rfl rfl ?_
  obtain ⟨hb_1, h⟩ := h
  refine gb_iald (pc' := 9) κ dX5_minuteAtDoor_8 rfl 2 3 rfl rfl hb_1 ?_
  refine gw_istore_n (pc' := 10) κ dX5_minuteAtDoor_9 rfl rfl (by decide) (lv' := [(2, .int (pln.vn x1.toNatClampNeg)), (0, .ref (qx 0)), (1, .int x1)]) rfl ?_
  refine gw_iload_n (pc' := 11) κ dX5_minuteAtDoor_10 rfl 0 rfl rfl ?_
  refine gb_callS (rest := []) κ (c_X5_isVan  (pln.vn x1.toNatClampNeg) h) ⟨rfl, rfl, Nat.le_of_ble_eq_true rfl, Nat.le_of_ble_eq_true rfl⟩ tw_ml_X5_92 tw_st_X5_isVan tw_co_X5_isVan tw_in_X5 hy_X5_isVan rfl (Nat.le_of_ble_eq_true rfl) rfl dX5_minuteAtDoor_11 [] rfl (by decide) (fun _ => Nat.le_of_ble_eq_true rfl) ⟨Nat.le_of_ble_eq_true rfl, Nat.le_of_ble_eq_true rfl⟩ (fun v u hv => ?_)
  obtain ⟨r_2, rfl, h⟩ := hv
  refine gw_nf (ws' := (wfl [cX qx qn qp qw qt qu qd qh ql, cSt qn cI now.se now.la now.de now.le now.sa now.fl now.ar now.dr now.pe now.ri, cPl qp cI pln.od pln.rd pln.vn pln.pn pln.ao pln.sr pln.sp pln.wt, cWy qw cI way.ky way.wp way.mi way.so])) (lv' := [(2, .int (pln.vn x1.toNatClampNeg)), (0, .ref (qx 0)), (1, .int x1)]) (st' := [.int r_2]) (pc' := 14) (ce' := 0) (sl' := 0) rfl rfl rfl rfl rfl rfl ?_
  refine gw_if_ne (pc' := 17) (tgt := 20) κ dX5_minuteAtDoor_14 rfl (by decide) (fun hc_3 => ?_) (fun hc_3 => ?_)
  · have h := h.1 hc_3
    refine gw_aload_n (pc' := 21) κ dX5_minuteAtDoor_20 rfl 1 rfl rfl ?_
    refine gb_get (pc' := 24) (C := RX5) (T := TX5) (N := 8) κ dX5_minuteAtDoor_21 rfl inX5 0 rfl rfl rfl 2 (by decide) tw_fl_X5_26 rfl ?_
    refine gw_aload_n (pc' := 25) κ dX5_minuteAtDoor_24 rfl 1 rfl rfl ?_
    refine gb_get (pc' := 28) (C := RX5) (T := TX5) (N := 8) κ dX5_minuteAtDoor_25 rfl inX5 0 rfl rfl rfl 0 (by decide) tw_fl_X5_10 rfl ?_
    refine gw_aload_n (pc' := 29) κ dX5_minuteAtDoor_28 rfl 1 rfl rfl ?_
    refine gb_get (pc' := 32) (C := RX5) (T := TX5) (N := 8) κ dX5_minuteAtDoor_29 rfl inX5 0 rfl rfl rfl 1 (by decide) tw_fl_X5_19 rfl ?_
    refine gw_iload_n (pc' := 33) κ dX5_minuteAtDoor_32 rfl 0 rfl rfl ?_
    refine gb_callV (ci := 4) (qb := 3) (rest := []) κ (c_X4_follow qw qn qp way now pln (pln.vn x1.toNatClampNeg) h) ⟨rfl, rfl, Nat.le_of_ble_eq_true rfl, Nat.le_of_ble_eq_true rfl⟩ tw_ml_X5_163 tw_im_X4_follow tw_se_X4_follow tw_co_X4_follow tw_in_X4 hy_X4_follow rfl rfl rfl rfl rfl (Nat.le_of_ble_eq_true rfl) rfl dX5_minuteAtDoor_33 [3, 1, 2] rfl (by decide) (fun _ => Nat.le_of_ble_eq_true rfl) ⟨Nat.le_of_ble_eq_true rfl, Nat.le_of_ble_eq_true rfl⟩ (fun v u hv => ?_)
    obtain ⟨rfl, h⟩ := hv
    obtain ⟨ky_4, wp_5, mi_6, so_7⟩ := u
    refine gw_nf (ws' := (wfl [cX qx qn qp qw qt qu qd qh ql, cSt qn cI now.se now.la now.de now.le now.sa now.fl now.ar now.dr now.pe now.ri, cPl qp cI pln.od pln.rd pln.vn pln.pn pln.ao pln.sr pln.sp pln.wt, cWy qw cI ky_4 wp_5 mi_6 so_7])) (lv' := [(2, .int (pln.vn x1.toNatClampNeg)), (0, .ref (qx 0)), (1, .int x1)]) (st' := []) (pc' := 36) (ce' := 0) (sl' := 0) rfl rfl rfl rfl rfl rfl ?_
    refine gw_aload_n (pc' := 37) κ dX5_minuteAtDoor_36 rfl 1 rfl rfl ?_
    refine gb_get (pc' := 40) (C := RX5) (T := TX5) (N := 8) κ dX5_minuteAtDoor_37 rfl inX5 0 rfl rfl rfl 2 (by decide) tw_fl_X5_26 rfl ?_
    refine gw_aload_n (pc' := 41) κ dX5_minuteAtDoor_40 rfl 1 rfl rfl ?_
    refine gb_get (pc' := 44) (C := RX5) (T := TX5) (N := 8) κ dX5_minuteAtDoor_41 rfl inX5 0 rfl rfl rfl 0 (by decide) tw_fl_X5_10 rfl ?_
    refine gw_iload_n (pc' := 45) κ dX5_minuteAtDoor_44 rfl 2 rfl rfl ?_
    refine gb_callV (ci := 3) (qb := 1) (rest := [.ref (qw 0)]) κ (c_X3_stopKey qn now x1 h) ⟨rfl, rfl, Nat.le_of_ble_eq_true rfl, Nat.le_of_ble_eq_true rfl⟩ tw_ml_X5_254 tw_im_X3_stopKey tw_se_X3_stopKey tw_co_X3_stopKey tw_in_X3 hy_X3_stopKey rfl rfl rfl rfl rfl (Nat.le_of_ble_eq_true rfl) rfl dX5_minuteAtDoor_45 [1] rfl (by decide) (fun _ => Nat.le_of_ble_eq_true rfl) ⟨Nat.le_of_ble_eq_true rfl, Nat.le_of_ble_eq_true rfl⟩ (fun v u hv => ?_)
    obtain ⟨r_8, rfl, h⟩ := hv
    refine gw_nf (ws' := (wfl [cX qx qn qp qw qt qu qd qh ql, cSt qn cI now.se now.la now.de now.le now.sa now.fl now.ar now.dr now.pe now.ri, cPl qp cI pln.od pln.rd pln.vn pln.pn pln.ao pln.sr pln.sp pln.wt, cWy qw cI ky_4 wp_5 mi_6 so_7])) (lv' := [(2, .int (pln.vn x1.toNatClampNeg)), (0, .ref (qx 0)), (1, .int x1)]) (st' := [.int r_8, .ref (qw 0)]) (pc' := 48) (ce' := 0) (sl' := 0) rfl rfl rfl rfl rfl rfl ?_
    refine gb_callV (ci := 4) (qb := 3) (rest := []) κ (c_X4_minuteAt qw (mkWy ky_4 wp_5 mi_6 so_7) r_8 h) ⟨rfl, rfl, Nat.le_of_ble_eq_true rfl, Nat.le_of_ble_eq_true rfl⟩ tw_ml_X5_257 tw_im_X4_minuteAt tw_se_X4_minuteAt tw_co_X4_minuteAt tw_in_X4 hy_X4_minuteAt rfl rfl rfl rfl rfl (Nat.le_of_ble_eq_true rfl) rfl dX5_minuteAtDoor_48 [3] rfl (by decide) (fun _ => Nat.le_of_ble_eq_true rfl) ⟨Nat.le_of_ble_eq_true rfl, Nat.le_of_ble_eq_true rfl⟩ (fun v u hv => ?_)
    obtain ⟨r_9, rfl, h⟩ := hv
    refine gw_nf (ws' := (wfl [cX qx qn qp qw qt qu qd qh ql, cSt qn cI now.se now.la now.de now.le now.sa now.fl now.ar now.dr now.pe now.ri, cPl qp cI pln.od pln.rd pln.vn pln.pn pln.ao pln.sr pln.sp pln.wt, cWy qw cI ky_4 wp_5 mi_6 so_7])) (lv' := [(2, .int (pln.vn x1.toNatClampNeg)), (0, .ref (qx 0)), (1, .int x1)]) (st' := [.int r_9]) (pc' := 51) (ce' := 0) (sl' := 0) rfl rfl rfl rfl rfl rfl ?_
    exact gw_iret κ dX5_minuteAtDoor_51 (ky_4, wp_5, mi_6, so_7) rfl ⟨_, rfl, h⟩
  · have h := h.2 hc_3
    refine gw_bipush (pc' := 19) (v := -106) κ dX5_minuteAtDoor_17 rfl (by decide) ?_
    exact gw_iret κ dX5_minuteAtDoor_19 (way.ky, way.wp, way.mi, way.so) rfl ⟨_, rfl, h⟩
theorem hy_X2_othersAtStop : g_hy yX2_othersAtStop 2 := by decide +kernel
set_option maxHeartbeats 4000000 in
set_option maxRecDepth 100000 in
theorem k_X2_othersAtStop_18 {zp : Program} {l : Launch} {ze : Env} {zs : State} {zm : MethodId} {za : Array Value} {zb : List Frame} {zt : Method} {zc : Code} {D : va_G} {cI cR : ClassId} {A : Nat → Prop} (κ : KC zp zs zm za zt zc cX2_othersAtStop 5 RX2 D cI cR A (some .int)) (qa : Nat → Nat) (qb : Nat → Nat) (P : Int32 → Prop) (o0 : PlT) (o1 : StT) (x2 : Int32) : ∀ (n : Nat) (v3 : Int32) (v4 : Int32), wp_X2_othersAtStop_18 P o0 o1 x2 n v3 v4 → GM zp l ze ({ frames := 2, cells := 0, slots := 0, locals := 45 } : Room) zs zm za zb zt zc D A 5 (pI (fun (r : Int32) (_ : Unit) => P r)) (fun _ : Unit => (wfl [cPl qa cI o0.od o0.rd o0.vn o0.pn o0.ao o0.sr o0.sp o0.wt, cSt qb cI o1.se o1.la o1.de o1.le o1.sa o1.fl o1.ar o1.dr o1.pe o1.ri])) 0 0 0 0 (wfl [cPl qa cI o0.od o0.rd o0.vn o0.pn o0.ao o0.sr o0.sp o0.wt, cSt qb cI o1.se o1.la o1.de o1.le o1.sa o1.fl o1.ar o1.dr o1.pe o1.ri]) [(0, .ref (qa 0)), (1, .ref (qb 0)), (2, .int x2), (3, .int v3), (4, .int v4)] 18 [] := by
  intro n18
  induction n18 with
  | zero => intro v3 v4 h; exact (show False from h).elim
  | succ n18 ih18 =>
    intro v3 v4 h
    have h : wp_X2_othersAtStop_18F P o0 o1 x2 (wp_X2_othersAtStop_18 P o0 o1 x2 n18) v3 v4 := h
    unfold wp_X2_othersAtStop_18F at h
    refine gw_iload (pc' := 20) κ dX2_othersAtStop_18 rfl 4 rfl ?_
    refine gw_aload_n (pc' := 21) κ dX2_othersAtStop_20 rfl 1 rfl rfl ?_
    refine gb_get (pc' := 24) (C := RX3) (T := TX3) (N := 10) κ dX2_othersAtStop_21 rfl inX3 1 rfl rfl rfl 9 (by decide) tw_fl_X2_34 rfl ?_
    refine gw_icmp_ge (pc' := 27) (tgt := 54) κ dX2_othersAtStop_24 rfl (by decide) (fun hc_3 => ?_) (fun hc_3 => ?_)
    · have h := h.1 hc_3
      refine gw_iload_n (pc' := 55) κ dX2_othersAtStop_54 rfl 3 rfl rfl ?_
      exact gw_iret κ dX2_othersAtStop_55 () rfl ⟨_, rfl, h⟩
    · have h := h.2 hc_3
      refine gw_iload (pc' := 29) κ dX2_othersAtStop_27 rfl 4 rfl ?_
      refine gw_iload_n (pc' := 30) κ dX2_othersAtStop_29 rfl 2 rfl rfl ?_
      refine gw_icmp_eq (pc' := 33) (tgt := 48) κ dX2_othersAtStop_30 rfl (by decide) (fun hc_4 => ?_) (fun hc_4 => ?_)
      · have h := h.1 hc_4
        refine gw_iinc (pc' := 51) κ dX2_othersAtStop_48 rfl 4 rfl (v := (v4 + 1)) rfl (by decide) (lv' := [(4, .int (v4 + 1)), (0, .ref (qa 0)), (1, .ref (qb 0)), (2, .int x2), (3, .int v3)]) rfl ?_
        refine gw_goto (tgt := 18) κ dX2_othersAtStop_51 (by decide) ?_
        refine gw_lv (lv' := [(0, .ref (qa 0)), (1, .ref (qb 0)), (2, .int x2), (3, .int v3), (4, .int (v4 + 1))]) [1, 2, 3, 4, 0] rfl ?_
        exact ih18 v3 (v4 + 1) h
      · have h := h.2 hc_4
        refine gw_aload_n (pc' := 34) κ dX2_othersAtStop_33 rfl 0 rfl rfl ?_
        refine gw_aload_n (pc' := 35) κ dX2_othersAtStop_34 rfl 1 rfl rfl ?_
        refine gw_iload_n (pc' := 36) κ dX2_othersAtStop_35 rfl 2 rfl rfl ?_
        refine gw_iload (pc' := 38) κ dX2_othersAtStop_36 rfl 4 rfl ?_
        refine gw_iconst (pc' := 39) (v := 1) κ dX2_othersAtStop_38 rfl (by decide) ?_
        refine gb_callV (ci := 2) (qb := 0) (rest := []) κ (c_X2_shares qa qb o0 o1 x2 v4 (1 : Int32) h) ⟨rfl, rfl, Nat.le_of_ble_eq_true rfl, Nat.le_of_ble_eq_true rfl⟩ tw_ml_X2_96 tw_im_X2_shares tw_se_X2_shares tw_co_X2_shares tw_in_X2 hy_X2_shares rfl rfl rfl rfl rfl (Nat.le_of_ble_eq_true rfl) rfl dX2_othersAtStop_39 [0, 1] rfl (by decide) (fun _ => Nat.le_of_ble_eq_true rfl) ⟨Nat.le_of_ble_eq_true rfl, Nat.le_of_ble_eq_true rfl⟩ (fun v u hv => ?_)
        obtain ⟨r_5, rfl, h⟩ := hv
        refine gw_nf (ws' := (wfl [cPl qa cI o0.od o0.rd o0.vn o0.pn o0.ao o0.sr o0.sp o0.wt, cSt qb cI o1.se o1.la o1.de o1.le o1.sa o1.fl o1.ar o1.dr o1.pe o1.ri])) (lv' := [(0, .ref (qa 0)), (1, .ref (qb 0)), (2, .int x2), (3, .int v3), (4, .int v4)]) (st' := [.int r_5]) (pc' := 42) (ce' := 0) (sl' := 0) rfl rfl rfl rfl rfl rfl ?_
        refine gw_if_eq (pc' := 45) (tgt := 48) κ dX2_othersAtStop_42 rfl (by decide) (fun hc_6 => ?_) (fun hc_6 => ?_)
        · have h := h.1 hc_6
          refine gw_iinc (pc' := 51) κ dX2_othersAtStop_48 rfl 4 rfl (v := (v4 + 1)) rfl (by decide) (lv' := [(4, .int (v4 + 1)), (0, .ref (qa 0)), (1, .ref (qb 0)), (2, .int x2), (3, .int v3)]) rfl ?_
          refine gw_goto (tgt := 18) κ dX2_othersAtStop_51 (by decide) ?_
          refine gw_lv (lv' := [(0, .ref (qa 0)), (1, .ref (qb 0)), (2, .int x2), (3, .int v3), (4, .int (v4 + 1))]) [1, 2, 3, 4, 0] rfl ?_
          exact ih18 v3 (v4 + 1) h
        · have h := h.2 hc_6
          refine gw_iinc (pc' := 48) κ dX2_othersAtStop_45 rfl 3 rfl (v := (v3 + 1)) rfl (by decide) (lv' := [(3, .int (v3 + 1)), (0, .ref (qa 0)), (1, .ref (qb 0)), (2, .int x2), (4, .int v4)]) rfl ?_
          refine gw_iinc (pc' := 51) κ dX2_othersAtStop_48 rfl 4 rfl (v := (v4 + 1)) rfl (by decide) (lv' := [(4, .int (v4 + 1)), (3, .int (v3 + 1)), (0, .ref (qa 0)), (1, .ref (qb 0)), (2, .int x2)]) rfl ?_
          refine gw_goto (tgt := 18) κ dX2_othersAtStop_51 (by decide) ?_
          refine gw_lv (lv' := [(0, .ref (qa 0)), (1, .ref (qb 0)), (2, .int x2), (3, .int (v3 + 1)), (4, .int (v4 + 1))]) [2, 3, 4, 1, 0] rfl ?_
          exact ih18 (v3 + 1) (v4 + 1) h
set_option maxHeartbeats 4000000 in
set_option maxRecDepth 100000 in
theorem c_X2_othersAtStop {l : Launch} {D : va_G} {cI cR : ClassId}  (qa : Nat → Nat) (qb : Nat → Nat) {P : Int32 → Prop} (o0 : PlT) (o1 : StT) (x2 : Int32) (h : wp_X2_othersAtStop P o0 o1 x2) : CT l D cI cR yX2_othersAtStop cX2_othersAtStop 5 (some .int) ({ frames := 2, cells := 0, slots := 0, locals := 45 } : Room) [.ref (qa 0), .ref (qb 0), .int x2] (wfl [cPl qa cI o0.od o0.rd o0.vn o0.pn o0.ao o0.sr o0.sp o0.wt, cSt qb cI o1.se o1.la o1.de o1.le o1.sa o1.fl o1.ar o1.dr o1.pe o1.ri]) (fun _ : Unit => (wfl [cPl qa cI o0.od o0.rd o0.vn o0.pn o0.ao o0.sr o0.sp o0.wt, cSt qb cI o1.se o1.la o1.de o1.le o1.sa o1.fl o1.ar o1.dr o1.pe o1.ri])) (pI (fun (r : Int32) (_ : Unit) => P r)) 0 0 := by
  refine ct_of RX2 rfl (by decide +kernel) (Nat.le_of_ble_eq_true rfl) (fun zp ze zs zm zb zt zc A hin κ => ?_)
  unfold wp_X2_othersAtStop at h
  refine gw_nf (lv' := [(0, .ref (qa 0)), (1, .ref (qb 0)), (2, .int x2)]) (pc' := 0) (st' := []) (ce' := 0) (sl' := 0) rfl rfl rfl rfl rfl rfl ?_
  refine gw_aload_n (pc' := 1) κ dX2_othersAtStop_0 rfl 0 rfl rfl ?_
  refine gb_get (pc' := 4) (C := RX2) (T := TX2) (N := 8) κ dX2_othersAtStop_1 rfl inX2 0 rfl rfl rfl 2 (by decide) tw_fl_X2_18 rfl ?_
  refine gw_iload_n (pc' := 5) κ dX2_othersAtStop_4 rfl 2 rfl rfl ?_
  obtain ⟨hb_1, h⟩ := h
  refine gb_iald (pc' := 6) κ dX2_othersAtStop_5 rfl 0 3 rfl rfl hb_1 ?_
  refine gw_bipush (pc' := 8) (v := -106) κ dX2_othersAtStop_6 rfl (by decide) ?_
  refine gw_icmp_ne (pc' := 11) (tgt := 13) κ dX2_othersAtStop_8 rfl (by decide) (fun hc_2 => ?_) (fun hc_2 => ?_)
  · have h := h.1 hc_2
    refine gw_iconst (pc' := 14) (v := 0) κ dX2_othersAtStop_13 rfl (by decide) ?_
    refine gw_istore_n (pc' := 15) κ dX2_othersAtStop_14 rfl rfl (by decide) (lv' := [(3, .int (0 : Int32)), (0, .ref (qa 0)), (1, .ref (qb 0)), (2, .int x2)]) rfl ?_
    refine gw_iconst (pc' := 16) (v := 0) κ dX2_othersAtStop_15 rfl (by decide) ?_
    refine gw_istore (pc' := 18) κ dX2_othersAtStop_16 rfl (by decide) (lv' := [(4, .int (0 : Int32)), (3, .int (0 : Int32)), (0, .ref (qa 0)), (1, .ref (qb 0)), (2, .int x2)]) rfl ?_
    obtain ⟨m18, h⟩ := h
    refine gw_lv (lv' := [(0, .ref (qa 0)), (1, .ref (qb 0)), (2, .int x2), (3, .int (0 : Int32)), (4, .int (0 : Int32))]) [2, 3, 4, 1, 0] rfl ?_
    exact k_X2_othersAtStop_18 κ qa qb P o0 o1 x2 m18 (0 : Int32) (0 : Int32) h
  · have h := h.2 hc_2
    refine gw_iconst (pc' := 12) (v := 0) κ dX2_othersAtStop_11 rfl (by decide) ?_
    exact gw_iret κ dX2_othersAtStop_12 () rfl ⟨_, rfl, h⟩
theorem hy_X5_rider : g_hy yX5_rider 2 := by decide +kernel
set_option maxHeartbeats 4000000 in
set_option maxRecDepth 100000 in
theorem c_X5_rider {l : Launch} {D : va_G} {cI cR : ClassId}  (qx : Nat → Nat) (qn : Nat → Nat) (qp : Nat → Nat) (qw : Nat → Nat) (qt : Nat → Nat) (qu : Nat → Nat) (qd : Nat → Nat) (qh : Nat → Nat) (ql : Nat → Nat) (qs : Nat → Nat → Nat) {P : Int32 → (Nat → Int32) → (Nat → Int32) → (Nat → Int32) → Int32 → Prop} (now : StT) (pln : PlT) (way : WyT) (x1 : Int32) (x2 : Int32) (h : wp_X5_rider P now pln way x1 x2) : CT l D cI cR yX5_rider cX5_rider 3 (some .int) ({ frames := 4, cells := 0, slots := 0, locals := 96 } : Room) [.ref (qx 0), .int x1, .int x2] (wfl [cX qx qn qp qw qt qu qd qh ql, cSt qn cI now.se now.la now.de now.le now.sa now.fl now.ar now.dr now.pe now.ri, cPl qp cI pln.od pln.rd pln.vn pln.pn pln.ao pln.sr pln.sp pln.wt, cWy qw cI way.ky way.wp way.mi way.so]) (fun u : (Nat → Int32) × (Nat → Int32) × (Nat → Int32) × Int32 => (wfl [cX qx qn qp qw qt qu qd qh ql, cSt qn cI now.se now.la now.de now.le now.sa now.fl now.ar now.dr now.pe now.ri, cPl qp cI pln.od pln.rd pln.vn pln.pn pln.ao pln.sr pln.sp pln.wt, cWy qw cI u.1 u.2.1 u.2.2.1 u.2.2.2])) (pI (fun (r : Int32) (u : (Nat → Int32) × (Nat → Int32) × (Nat → Int32) × Int32) => P r u.1 u.2.1 u.2.2.1 u.2.2.2)) 0 0 := by
  refine ct_of RX5 rfl (by decide +kernel) (Nat.le_of_ble_eq_true rfl) (fun zp ze zs zm zb zt zc A hin κ => ?_)
  unfold wp_X5_rider at h
  refine gw_nf (lv' := [(0, .ref (qx 0)), (1, .int x1), (2, .int x2)]) (pc' := 0) (st' := []) (ce' := 0) (sl' := 0) rfl rfl rfl rfl rfl rfl ?_
  refine gw_aload_n (pc' := 1) κ dX5_rider_0 rfl 0 rfl rfl ?_
  refine gw_iload_n (pc' := 2) κ dX5_rider_1 rfl 1 rfl rfl ?_
  refine gb_callV (ci := 5) (qb := 0) (rest := []) κ (c_X5_isRider qx qn qp qw qt qu qd qh ql qs now x1 h) ⟨rfl, rfl, Nat.le_of_ble_eq_true rfl, Nat.le_of_ble_eq_true rfl⟩ tw_ml_X5_125 tw_im_X5_isRider tw_se_X5_isRider tw_co_X5_isRider tw_in_X5 hy_X5_isRider rfl rfl rfl rfl rfl (Nat.le_of_ble_eq_true rfl) rfl dX5_rider_2 [0, 1] rfl (by decide) (fun _ => Nat.le_of_ble_eq_true rfl) ⟨Nat.le_of_ble_eq_true rfl, Nat.le_of_ble_eq_true rfl⟩ (fun v u hv => ?_)
  obtain ⟨r_1, rfl, h⟩ := hv
  refine gw_nf (ws' := (wfl [cX qx qn qp qw qt qu qd qh ql, cSt qn cI now.se now.la now.de now.le now.sa now.fl now.ar now.dr now.pe now.ri, cPl qp cI pln.od pln.rd pln.vn pln.pn pln.ao pln.sr pln.sp pln.wt, cWy qw cI way.ky way.wp way.mi way.so])) (lv' := [(0, .ref (qx 0)), (1, .int x1), (2, .int x2)]) (st' := [.int r_1]) (pc' := 5) (ce' := 0) (sl' := 0) rfl rfl rfl rfl rfl rfl ?_
  refine gw_if_ne (pc' := 8) (tgt := 11) κ dX5_rider_5 rfl (by decide) (fun hc_2 => ?_) (fun hc_2 => ?_)
  · have h := h.1 hc_2
    refine gw_iload_n (pc' := 12) κ dX5_rider_11 rfl 2 rfl rfl ?_
    obtain ⟨hc_3_0, hc_3_1, hc_3_2, hc_3_3, hc_3_4, hc_3_5, hc_3_6, hc_3_7, hc_3_8, hc_3_9, hc_3d⟩ := h
    by_cases hc_3c_0 : x2 = 0
    · have h := hc_3_0 hc_3c_0
      refine gw_tableIn (tgt := 68) (off := 56) κ dX5_rider_12 (by rw [hc_3c_0]; decide) (by rw [hc_3c_0]; decide) (by rw [hc_3c_0]; decide +kernel) (by decide) ?_
      refine gw_aload_n (pc' := 69) κ dX5_rider_68 rfl 0 rfl rfl ?_
      refine gb_get (pc' := 72) (C := RX5) (T := TX5) (N := 8) κ dX5_rider_69 rfl inX5 0 rfl rfl rfl 0 (by decide) tw_fl_X5_10 rfl ?_
      refine gb_get (pc' := 75) (C := RX3) (T := TX3) (N := 10) κ dX5_rider_72 rfl inX3 1 rfl rfl rfl 5 (by decide) tw_fl_X5_136 rfl ?_
      refine gw_iload_n (pc' := 76) κ dX5_rider_75 rfl 1 rfl rfl ?_
      obtain ⟨hb_4, h⟩ := h
      refine gb_iald (pc' := 77) κ dX5_rider_76 rfl 1 6 rfl rfl hb_4 ?_
      exact gw_iret κ dX5_rider_77 (way.ky, way.wp, way.mi, way.so) rfl ⟨_, rfl, h⟩
    by_cases hc_3c_1 : x2 = 1
    · have h := hc_3_1 hc_3c_1
      refine gw_tableIn (tgt := 78) (off := 66) κ dX5_rider_12 (by rw [hc_3c_1]; decide) (by rw [hc_3c_1]; decide) (by rw [hc_3c_1]; decide +kernel) (by decide) ?_
      refine gw_aload_n (pc' := 79) κ dX5_rider_78 rfl 0 rfl rfl ?_
      refine gb_get (pc' := 82) (C := RX5) (T := TX5) (N := 8) κ dX5_rider_79 rfl inX5 0 rfl rfl rfl 0 (by decide) tw_fl_X5_10 rfl ?_
      refine gb_get (pc' := 85) (C := RX3) (T := TX3) (N := 10) κ dX5_rider_82 rfl inX3 1 rfl rfl rfl 6 (by decide) tw_fl_X5_142 rfl ?_
      refine gw_iload_n (pc' := 86) κ dX5_rider_85 rfl 1 rfl rfl ?_
      obtain ⟨hb_5, h⟩ := h
      refine gb_iald (pc' := 87) κ dX5_rider_86 rfl 1 7 rfl rfl hb_5 ?_
      exact gw_iret κ dX5_rider_87 (way.ky, way.wp, way.mi, way.so) rfl ⟨_, rfl, h⟩
    by_cases hc_3c_2 : x2 = 2
    · have h := hc_3_2 hc_3c_2
      refine gw_tableIn (tgt := 88) (off := 76) κ dX5_rider_12 (by rw [hc_3c_2]; decide) (by rw [hc_3c_2]; decide) (by rw [hc_3c_2]; decide +kernel) (by decide) ?_
      refine gw_aload_n (pc' := 89) κ dX5_rider_88 rfl 0 rfl rfl ?_
      refine gb_get (pc' := 92) (C := RX5) (T := TX5) (N := 8) κ dX5_rider_89 rfl inX5 0 rfl rfl rfl 0 (by decide) tw_fl_X5_10 rfl ?_
      refine gb_get (pc' := 95) (C := RX3) (T := TX3) (N := 10) κ dX5_rider_92 rfl inX3 1 rfl rfl rfl 7 (by decide) tw_fl_X5_145 rfl ?_
      refine gw_iload_n (pc' := 96) κ dX5_rider_95 rfl 1 rfl rfl ?_
      obtain ⟨hb_6, h⟩ := h
      refine gb_iald (pc' := 97) κ dX5_rider_96 rfl 1 8 rfl rfl hb_6 ?_
      exact gw_iret κ dX5_rider_97 (way.ky, way.wp, way.mi, way.so) rfl ⟨_, rfl, h⟩
    by_cases hc_3c_3 : x2 = 3
    · have h := hc_3_3 hc_3c_3
      refine gw_tableIn (tgt := 98) (off := 86) κ dX5_rider_12 (by rw [hc_3c_3]; decide) (by rw [hc_3c_3]; decide) (by rw [hc_3c_3]; decide +kernel) (by decide) ?_
      refine gw_aload_n (pc' := 99) κ dX5_rider_98 rfl 0 rfl rfl ?_
      refine gb_get (pc' := 102) (C := RX5) (T := TX5) (N := 8) κ dX5_rider_99 rfl inX5 0 rfl rfl rfl 0 (by decide) tw_fl_X5_10 rfl ?_
      refine gb_get (pc' := 105) (C := RX3) (T := TX3) (N := 10) κ dX5_rider_102 rfl inX3 1 rfl rfl rfl 8 (by decide) tw_fl_X5_148 rfl ?_
      refine gw_iload_n (pc' := 106) κ dX5_rider_105 rfl 1 rfl rfl ?_
      obtain ⟨hb_7, h⟩ := h
      refine gb_iald (pc' := 107) κ dX5_rider_106 rfl 1 9 rfl rfl hb_7 ?_
      exact gw_iret κ dX5_rider_107 (way.ky, way.wp, way.mi, way.so) rfl ⟨_, rfl, h⟩
    by_cases hc_3c_4 : x2 = 4
    · have h := hc_3_4 hc_3c_4
      refine gw_tableIn (tgt := 108) (off := 96) κ dX5_rider_12 (by rw [hc_3c_4]; decide) (by rw [hc_3c_4]; decide) (by rw [hc_3c_4]; decide +kernel) (by decide) ?_
      refine gw_aload_n (pc' := 109) κ dX5_rider_108 rfl 0 rfl rfl ?_
      refine gb_get (pc' := 112) (C := RX5) (T := TX5) (N := 8) κ dX5_rider_109 rfl inX5 0 rfl rfl rfl 0 (by decide) tw_fl_X5_10 rfl ?_
      refine gw_iload_n (pc' := 113) κ dX5_rider_112 rfl 1 rfl rfl ?_
      refine gb_callV (ci := 3) (qb := 1) (rest := []) κ (c_X3_riderReady qn now x1 h) ⟨rfl, rfl, Nat.le_of_ble_eq_true rfl, Nat.le_of_ble_eq_true rfl⟩ tw_ml_X5_151 tw_im_X3_riderReady tw_se_X3_riderReady tw_co_X3_riderReady tw_in_X3 hy_X3_riderReady rfl rfl rfl rfl rfl (Nat.le_of_ble_eq_true rfl) rfl dX5_rider_113 [1] rfl (by decide) (fun _ => Nat.le_of_ble_eq_true rfl) ⟨Nat.le_of_ble_eq_true rfl, Nat.le_of_ble_eq_true rfl⟩ (fun v u hv => ?_)
      obtain ⟨r_8, rfl, h⟩ := hv
      refine gw_nf (ws' := (wfl [cX qx qn qp qw qt qu qd qh ql, cSt qn cI now.se now.la now.de now.le now.sa now.fl now.ar now.dr now.pe now.ri, cPl qp cI pln.od pln.rd pln.vn pln.pn pln.ao pln.sr pln.sp pln.wt, cWy qw cI way.ky way.wp way.mi way.so])) (lv' := [(0, .ref (qx 0)), (1, .int x1), (2, .int x2)]) (st' := [.int r_8]) (pc' := 116) (ce' := 0) (sl' := 0) rfl rfl rfl rfl rfl rfl ?_
      exact gw_iret κ dX5_rider_116 (way.ky, way.wp, way.mi, way.so) rfl ⟨_, rfl, h⟩
    by_cases hc_3c_5 : x2 = 5
    · have h := hc_3_5 hc_3c_5
      refine gw_tableIn (tgt := 117) (off := 105) κ dX5_rider_12 (by rw [hc_3c_5]; decide) (by rw [hc_3c_5]; decide) (by rw [hc_3c_5]; decide +kernel) (by decide) ?_
      refine gw_aload_n (pc' := 118) κ dX5_rider_117 rfl 0 rfl rfl ?_
      refine gb_get (pc' := 121) (C := RX5) (T := TX5) (N := 8) κ dX5_rider_118 rfl inX5 0 rfl rfl rfl 1 (by decide) tw_fl_X5_19 rfl ?_
      refine gb_get (pc' := 124) (C := RX2) (T := TX2) (N := 8) κ dX5_rider_121 rfl inX2 2 rfl rfl rfl 2 (by decide) tw_fl_X5_139 rfl ?_
      refine gw_iload_n (pc' := 125) κ dX5_rider_124 rfl 1 rfl rfl ?_
      obtain ⟨hb_9, h⟩ := h
      refine gb_iald (pc' := 126) κ dX5_rider_125 rfl 2 3 rfl rfl hb_9 ?_
      exact gw_iret κ dX5_rider_126 (way.ky, way.wp, way.mi, way.so) rfl ⟨_, rfl, h⟩
    by_cases hc_3c_6 : x2 = 6
    · have h := hc_3_6 hc_3c_6
      refine gw_tableIn (tgt := 127) (off := 115) κ dX5_rider_12 (by rw [hc_3c_6]; decide) (by rw [hc_3c_6]; decide) (by rw [hc_3c_6]; decide +kernel) (by decide) ?_
      refine gw_aload_n (pc' := 128) κ dX5_rider_127 rfl 0 rfl rfl ?_
      refine gb_get (pc' := 131) (C := RX5) (T := TX5) (N := 8) κ dX5_rider_128 rfl inX5 0 rfl rfl rfl 1 (by decide) tw_fl_X5_19 rfl ?_
      refine gw_aload_n (pc' := 132) κ dX5_rider_131 rfl 0 rfl rfl ?_
      refine gb_get (pc' := 135) (C := RX5) (T := TX5) (N := 8) κ dX5_rider_132 rfl inX5 0 rfl rfl rfl 0 (by decide) tw_fl_X5_10 rfl ?_
      refine gw_iload_n (pc' := 136) κ dX5_rider_135 rfl 1 rfl rfl ?_
      refine gb_callV (ci := 2) (qb := 2) (rest := []) κ (c_X2_waitOf qp qn pln now x1 h) ⟨rfl, rfl, Nat.le_of_ble_eq_true rfl, Nat.le_of_ble_eq_true rfl⟩ tw_ml_X5_154 tw_im_X2_waitOf tw_se_X2_waitOf tw_co_X2_waitOf tw_in_X2 hy_X2_waitOf rfl rfl rfl rfl rfl (Nat.le_of_ble_eq_true rfl) rfl dX5_rider_136 [2, 1] rfl (by decide) (fun _ => Nat.le_of_ble_eq_true rfl) ⟨Nat.le_of_ble_eq_true rfl, Nat.le_of_ble_eq_true rfl⟩ (fun v u hv => ?_)
      obtain ⟨r_10, rfl, h⟩ := hv
      refine gw_nf (ws' := (wfl [cX qx qn qp qw qt qu qd qh ql, cSt qn cI now.se now.la now.de now.le now.sa now.fl now.ar now.dr now.pe now.ri, cPl qp cI pln.od pln.rd pln.vn pln.pn pln.ao pln.sr pln.sp pln.wt, cWy qw cI way.ky way.wp way.mi way.so])) (lv' := [(0, .ref (qx 0)), (1, .int x1), (2, .int x2)]) (st' := [.int r_10]) (pc' := 139) (ce' := 0) (sl' := 0) rfl rfl rfl rfl rfl rfl ?_
      exact gw_iret κ dX5_rider_139 (way.ky, way.wp, way.mi, way.so) rfl ⟨_, rfl, h⟩
    by_cases hc_3c_7 : x2 = 7
    · have h := hc_3_7 hc_3c_7
      refine gw_tableIn (tgt := 140) (off := 128) κ dX5_rider_12 (by rw [hc_3c_7]; decide) (by rw [hc_3c_7]; decide) (by rw [hc_3c_7]; decide +kernel) (by decide) ?_
      refine gw_aload_n (pc' := 141) κ dX5_rider_140 rfl 0 rfl rfl ?_
      refine gw_iload_n (pc' := 142) κ dX5_rider_141 rfl 1 rfl rfl ?_
      refine gb_callV (ci := 5) (qb := 0) (rest := []) κ (c_X5_minuteAtDoor qx qn qp qw qt qu qd qh ql qs now pln way x1 h) ⟨rfl, rfl, Nat.le_of_ble_eq_true rfl, Nat.le_of_ble_eq_true rfl⟩ tw_ml_X5_157 tw_im_X5_minuteAtDoor tw_se_X5_minuteAtDoor tw_co_X5_minuteAtDoor tw_in_X5 hy_X5_minuteAtDoor rfl rfl rfl rfl rfl (Nat.le_of_ble_eq_true rfl) rfl dX5_rider_142 [0, 1, 2, 3] rfl (by decide) (fun _ => Nat.le_of_ble_eq_true rfl) ⟨Nat.le_of_ble_eq_true rfl, Nat.le_of_ble_eq_true rfl⟩ (fun v u hv => ?_)
      obtain ⟨r_15, rfl, h⟩ := hv
      obtain ⟨ky_11, wp_12, mi_13, so_14⟩ := u
      refine gw_nf (ws' := (wfl [cX qx qn qp qw qt qu qd qh ql, cSt qn cI now.se now.la now.de now.le now.sa now.fl now.ar now.dr now.pe now.ri, cPl qp cI pln.od pln.rd pln.vn pln.pn pln.ao pln.sr pln.sp pln.wt, cWy qw cI ky_11 wp_12 mi_13 so_14])) (lv' := [(0, .ref (qx 0)), (1, .int x1), (2, .int x2)]) (st' := [.int r_15]) (pc' := 145) (ce' := 0) (sl' := 0) rfl rfl rfl rfl rfl rfl ?_
      exact gw_iret κ dX5_rider_145 (ky_11, wp_12, mi_13, so_14) rfl ⟨_, rfl, h⟩
    by_cases hc_3c_8 : x2 = 8
    · have h := hc_3_8 hc_3c_8
      refine gw_tableIn (tgt := 146) (off := 134) κ dX5_rider_12 (by rw [hc_3c_8]; decide) (by rw [hc_3c_8]; decide) (by rw [hc_3c_8]; decide +kernel) (by decide) ?_
      refine gw_aload_n (pc' := 147) κ dX5_rider_146 rfl 0 rfl rfl ?_
      refine gb_get (pc' := 150) (C := RX5) (T := TX5) (N := 8) κ dX5_rider_147 rfl inX5 0 rfl rfl rfl 1 (by decide) tw_fl_X5_19 rfl ?_
      refine gw_aload_n (pc' := 151) κ dX5_rider_150 rfl 0 rfl rfl ?_
      refine gb_get (pc' := 154) (C := RX5) (T := TX5) (N := 8) κ dX5_rider_151 rfl inX5 0 rfl rfl rfl 0 (by decide) tw_fl_X5_10 rfl ?_
      refine gw_iload_n (pc' := 155) κ dX5_rider_154 rfl 1 rfl rfl ?_
      refine gb_callV (ci := 2) (qb := 2) (rest := []) κ (c_X2_fare qp qn pln now x1 h) ⟨rfl, rfl, Nat.le_of_ble_eq_true rfl, Nat.le_of_ble_eq_true rfl⟩ tw_ml_X5_128 tw_im_X2_fare tw_se_X2_fare tw_co_X2_fare tw_in_X2 hy_X2_fare rfl rfl rfl rfl rfl (Nat.le_of_ble_eq_true rfl) rfl dX5_rider_155 [2, 1] rfl (by decide) (fun _ => Nat.le_of_ble_eq_true rfl) ⟨Nat.le_of_ble_eq_true rfl, Nat.le_of_ble_eq_true rfl⟩ (fun v u hv => ?_)
      obtain ⟨r_16, rfl, h⟩ := hv
      refine gw_nf (ws' := (wfl [cX qx qn qp qw qt qu qd qh ql, cSt qn cI now.se now.la now.de now.le now.sa now.fl now.ar now.dr now.pe now.ri, cPl qp cI pln.od pln.rd pln.vn pln.pn pln.ao pln.sr pln.sp pln.wt, cWy qw cI way.ky way.wp way.mi way.so])) (lv' := [(0, .ref (qx 0)), (1, .int x1), (2, .int x2)]) (st' := [.int r_16]) (pc' := 158) (ce' := 0) (sl' := 0) rfl rfl rfl rfl rfl rfl ?_
      exact gw_iret κ dX5_rider_158 (way.ky, way.wp, way.mi, way.so) rfl ⟨_, rfl, h⟩
    by_cases hc_3c_9 : x2 = 9
    · have h := hc_3_9 hc_3c_9
      refine gw_tableIn (tgt := 159) (off := 147) κ dX5_rider_12 (by rw [hc_3c_9]; decide) (by rw [hc_3c_9]; decide) (by rw [hc_3c_9]; decide +kernel) (by decide) ?_
      refine gw_aload_n (pc' := 160) κ dX5_rider_159 rfl 0 rfl rfl ?_
      refine gb_get (pc' := 163) (C := RX5) (T := TX5) (N := 8) κ dX5_rider_160 rfl inX5 0 rfl rfl rfl 1 (by decide) tw_fl_X5_19 rfl ?_
      refine gw_aload_n (pc' := 164) κ dX5_rider_163 rfl 0 rfl rfl ?_
      refine gb_get (pc' := 167) (C := RX5) (T := TX5) (N := 8) κ dX5_rider_164 rfl inX5 0 rfl rfl rfl 0 (by decide) tw_fl_X5_10 rfl ?_
      refine gw_iload_n (pc' := 168) κ dX5_rider_167 rfl 1 rfl rfl ?_
      refine gb_callV (ci := 2) (qb := 2) (rest := []) κ (c_X2_othersAtStop qp qn pln now x1 h) ⟨rfl, rfl, Nat.le_of_ble_eq_true rfl, Nat.le_of_ble_eq_true rfl⟩ tw_ml_X5_160 tw_im_X2_othersAtStop tw_se_X2_othersAtStop tw_co_X2_othersAtStop tw_in_X2 hy_X2_othersAtStop rfl rfl rfl rfl rfl (Nat.le_of_ble_eq_true rfl) rfl dX5_rider_168 [2, 1] rfl (by decide) (fun _ => Nat.le_of_ble_eq_true rfl) ⟨Nat.le_of_ble_eq_true rfl, Nat.le_of_ble_eq_true rfl⟩ (fun v u hv => ?_)
      obtain ⟨r_17, rfl, h⟩ := hv
      refine gw_nf (ws' := (wfl [cX qx qn qp qw qt qu qd qh ql, cSt qn cI now.se now.la now.de now.le now.sa now.fl now.ar now.dr now.pe now.ri, cPl qp cI pln.od pln.rd pln.vn pln.pn pln.ao pln.sr pln.sp pln.wt, cWy qw cI way.ky way.wp way.mi way.so])) (lv' := [(0, .ref (qx 0)), (1, .int x1), (2, .int x2)]) (st' := [.int r_17]) (pc' := 171) (ce' := 0) (sl' := 0) rfl rfl rfl rfl rfl rfl ?_
      exact gw_iret κ dX5_rider_171 (way.ky, way.wp, way.mi, way.so) rfl ⟨_, rfl, h⟩
    have h := hc_3d ⟨hc_3c_0, hc_3c_1, hc_3c_2, hc_3c_3, hc_3c_4, hc_3c_5, hc_3c_6, hc_3c_7, hc_3c_8, hc_3c_9⟩
    refine gw_tableOut (tgt := 172) κ dX5_rider_12 (sw_out2 (x := x2) (lo := 0) (hi := 9) (by decide) (fun k h1 h2 => by rcases (show k = 0 ∨ k = 1 ∨ k = 2 ∨ k = 3 ∨ k = 4 ∨ k = 5 ∨ k = 6 ∨ k = 7 ∨ k = 8 ∨ k = 9 by omega) with rfl | rfl | rfl | rfl | rfl | rfl | rfl | rfl | rfl | rfl <;> assumption)) (by decide) ?_
    refine gw_bipush (pc' := 174) (v := -102) κ dX5_rider_172 rfl (by decide) ?_
    exact gw_iret κ dX5_rider_174 (way.ky, way.wp, way.mi, way.so) rfl ⟨_, rfl, h⟩
  · have h := h.2 hc_2
    refine gw_bipush (pc' := 10) (v := -101) κ dX5_rider_8 rfl (by decide) ?_
    exact gw_iret κ dX5_rider_10 (way.ky, way.wp, way.mi, way.so) rfl ⟨_, rfl, h⟩
theorem hy_X2_ridersIn : g_hy yX2_ridersIn 2 := by decide +kernel
set_option maxHeartbeats 4000000 in
set_option maxRecDepth 100000 in
theorem k_X2_ridersIn_5 {zp : Program} {l : Launch} {ze : Env} {zs : State} {zm : MethodId} {za : Array Value} {zb : List Frame} {zt : Method} {zc : Code} {D : va_G} {cI cR : ClassId} {A : Nat → Prop} (κ : KC zp zs zm za zt zc cX2_ridersIn 5 RX2 D cI cR A (some .int)) (qa : Nat → Nat) (qb : Nat → Nat) (P : Int32 → Prop) (o0 : PlT) (o1 : StT) (x2 : Int32) : ∀ (n : Nat) (v3 : Int32) (v4 : Int32), wp_X2_ridersIn_5 P o0 o1 x2 n v3 v4 → GM zp l ze ({ frames := 0, cells := 0, slots := 0, locals := 0 } : Room) zs zm za zb zt zc D A 5 (pI (fun (r : Int32) (_ : Unit) => P r)) (fun _ : Unit => (wfl [cPl qa cI o0.od o0.rd o0.vn o0.pn o0.ao o0.sr o0.sp o0.wt, cSt qb cI o1.se o1.la o1.de o1.le o1.sa o1.fl o1.ar o1.dr o1.pe o1.ri])) 0 0 0 0 (wfl [cPl qa cI o0.od o0.rd o0.vn o0.pn o0.ao o0.sr o0.sp o0.wt, cSt qb cI o1.se o1.la o1.de o1.le o1.sa o1.fl o1.ar o1.dr o1.pe o1.ri]) [(0, .ref (qa 0)), (1, .ref (qb 0)), (2, .int x2), (3, .int v3), (4, .int v4)] 5 [] := by
  intro n5
  induction n5 with
  | zero => intro v3 v4 h; exact (show False from h).elim
  | succ n5 ih5 =>
    intro v3 v4 h
    have h : wp_X2_ridersIn_5F P o0 o1 x2 (wp_X2_ridersIn_5 P o0 o1 x2 n5) v3 v4 := h
    unfold wp_X2_ridersIn_5F at h
    refine gw_iload (pc' := 7) κ dX2_ridersIn_5 rfl 4 rfl ?_
    refine gw_aload_n (pc' := 8) κ dX2_ridersIn_7 rfl 1 rfl rfl ?_
    refine gb_get (pc' := 11) (C := RX3) (T := TX3) (N := 10) κ dX2_ridersIn_8 rfl inX3 1 rfl rfl rfl 9 (by decide) tw_fl_X2_34 rfl ?_
    refine gw_icmp_ge (pc' := 14) (tgt := 38) κ dX2_ridersIn_11 rfl (by decide) (fun hc_1 => ?_) (fun hc_1 => ?_)
    · have h := h.1 hc_1
      refine gw_iload_n (pc' := 39) κ dX2_ridersIn_38 rfl 3 rfl rfl ?_
      exact gw_iret κ dX2_ridersIn_39 () rfl ⟨_, rfl, h⟩
    · have h := h.2 hc_1
      refine gw_aload_n (pc' := 15) κ dX2_ridersIn_14 rfl 0 rfl rfl ?_
      refine gb_get (pc' := 18) (C := RX2) (T := TX2) (N := 8) κ dX2_ridersIn_15 rfl inX2 0 rfl rfl rfl 2 (by decide) tw_fl_X2_18 rfl ?_
      refine gw_iload (pc' := 20) κ dX2_ridersIn_18 rfl 4 rfl ?_
      obtain ⟨hb_2, h⟩ := h
      refine gb_iald (pc' := 21) κ dX2_ridersIn_20 rfl 0 3 rfl rfl hb_2 ?_
      refine gw_iload_n (pc' := 22) κ dX2_ridersIn_21 rfl 2 rfl rfl ?_
      refine gw_icmp_ne (pc' := 25) (tgt := 32) κ dX2_ridersIn_22 rfl (by decide) (fun hc_3 => ?_) (fun hc_3 => ?_)
      · have h := h.1 hc_3
        refine gw_iinc (pc' := 35) κ dX2_ridersIn_32 rfl 4 rfl (v := (v4 + 1)) rfl (by decide) (lv' := [(4, .int (v4 + 1)), (0, .ref (qa 0)), (1, .ref (qb 0)), (2, .int x2), (3, .int v3)]) rfl ?_
        refine gw_goto (tgt := 5) κ dX2_ridersIn_35 (by decide) ?_
        refine gw_lv (lv' := [(0, .ref (qa 0)), (1, .ref (qb 0)), (2, .int x2), (3, .int v3), (4, .int (v4 + 1))]) [1, 2, 3, 4, 0] rfl ?_
        exact ih5 v3 (v4 + 1) h
      · have h := h.2 hc_3
        refine gw_iload_n (pc' := 26) κ dX2_ridersIn_25 rfl 3 rfl rfl ?_
        refine gw_iconst (pc' := 27) (v := 1) κ dX2_ridersIn_26 rfl (by decide) ?_
        refine gw_iload (pc' := 29) κ dX2_ridersIn_27 rfl 4 rfl ?_
        refine gw_ishl (pc' := 30) κ dX2_ridersIn_29 rfl  ?_
        refine gw_ior (pc' := 31) κ dX2_ridersIn_30 rfl  ?_
        refine gw_istore_n (pc' := 32) κ dX2_ridersIn_31 rfl rfl (by decide) (lv' := [(3, .int (v3 ||| ((1 : Int32) <<< (v4 &&& 31)))), (0, .ref (qa 0)), (1, .ref (qb 0)), (2, .int x2), (4, .int v4)]) rfl ?_
        refine gw_iinc (pc' := 35) κ dX2_ridersIn_32 rfl 4 rfl (v := (v4 + 1)) rfl (by decide) (lv' := [(4, .int (v4 + 1)), (3, .int (v3 ||| ((1 : Int32) <<< (v4 &&& 31)))), (0, .ref (qa 0)), (1, .ref (qb 0)), (2, .int x2)]) rfl ?_
        refine gw_goto (tgt := 5) κ dX2_ridersIn_35 (by decide) ?_
        refine gw_lv (lv' := [(0, .ref (qa 0)), (1, .ref (qb 0)), (2, .int x2), (3, .int (v3 ||| ((1 : Int32) <<< (v4 &&& 31)))), (4, .int (v4 + 1))]) [2, 3, 4, 1, 0] rfl ?_
        exact ih5 (v3 ||| ((1 : Int32) <<< (v4 &&& 31))) (v4 + 1) h
set_option maxHeartbeats 4000000 in
set_option maxRecDepth 100000 in
theorem c_X2_ridersIn {l : Launch} {D : va_G} {cI cR : ClassId}  (qa : Nat → Nat) (qb : Nat → Nat) {P : Int32 → Prop} (o0 : PlT) (o1 : StT) (x2 : Int32) (h : wp_X2_ridersIn P o0 o1 x2) : CT l D cI cR yX2_ridersIn cX2_ridersIn 5 (some .int) ({ frames := 0, cells := 0, slots := 0, locals := 0 } : Room) [.ref (qa 0), .ref (qb 0), .int x2] (wfl [cPl qa cI o0.od o0.rd o0.vn o0.pn o0.ao o0.sr o0.sp o0.wt, cSt qb cI o1.se o1.la o1.de o1.le o1.sa o1.fl o1.ar o1.dr o1.pe o1.ri]) (fun _ : Unit => (wfl [cPl qa cI o0.od o0.rd o0.vn o0.pn o0.ao o0.sr o0.sp o0.wt, cSt qb cI o1.se o1.la o1.de o1.le o1.sa o1.fl o1.ar o1.dr o1.pe o1.ri])) (pI (fun (r : Int32) (_ : Unit) => P r)) 0 0 := by
  refine ct_of RX2 rfl (by decide +kernel) (Nat.le_of_ble_eq_true rfl) (fun zp ze zs zm zb zt zc A hin κ => ?_)
  unfold wp_X2_ridersIn at h
  refine gw_nf (lv' := [(0, .ref (qa 0)), (1, .ref (qb 0)), (2, .int x2)]) (pc' := 0) (st' := []) (ce' := 0) (sl' := 0) rfl rfl rfl rfl rfl rfl ?_
  refine gw_iconst (pc' := 1) (v := 0) κ dX2_ridersIn_0 rfl (by decide) ?_
  refine gw_istore_n (pc' := 2) κ dX2_ridersIn_1 rfl rfl (by decide) (lv' := [(3, .int (0 : Int32)), (0, .ref (qa 0)), (1, .ref (qb 0)), (2, .int x2)]) rfl ?_
  refine gw_iconst (pc' := 3) (v := 0) κ dX2_ridersIn_2 rfl (by decide) ?_
  refine gw_istore (pc' := 5) κ dX2_ridersIn_3 rfl (by decide) (lv' := [(4, .int (0 : Int32)), (3, .int (0 : Int32)), (0, .ref (qa 0)), (1, .ref (qb 0)), (2, .int x2)]) rfl ?_
  obtain ⟨m5, h⟩ := h
  refine gw_lv (lv' := [(0, .ref (qa 0)), (1, .ref (qb 0)), (2, .int x2), (3, .int (0 : Int32)), (4, .int (0 : Int32))]) [2, 3, 4, 1, 0] rfl ?_
  exact k_X2_ridersIn_5 κ qa qb P o0 o1 x2 m5 (0 : Int32) (0 : Int32) h
theorem hy_X4_lastMinute : g_hy yX4_lastMinute 0 := by decide +kernel
set_option maxHeartbeats 4000000 in
set_option maxRecDepth 100000 in
theorem c_X4_lastMinute {l : Launch} {D : va_G} {cI cR : ClassId}  (qa : Nat → Nat) {P : Int32 → Prop} (o0 : WyT) (h : wp_X4_lastMinute P o0) : CT l D cI cR yX4_lastMinute cX4_lastMinute 1 (some .int) ({ frames := 0, cells := 0, slots := 0, locals := 0 } : Room) [.ref (qa 0)] (wfl [cWy qa cI o0.ky o0.wp o0.mi o0.so]) (fun _ : Unit => (wfl [cWy qa cI o0.ky o0.wp o0.mi o0.so])) (pI (fun (r : Int32) (_ : Unit) => P r)) 0 0 := by
  refine ct_of RX4 rfl (by decide +kernel) (Nat.le_of_ble_eq_true rfl) (fun zp ze zs zm zb zt zc A hin κ => ?_)
  unfold wp_X4_lastMinute at h
  refine gw_nf (lv' := [(0, .ref (qa 0))]) (pc' := 0) (st' := []) (ce' := 0) (sl' := 0) rfl rfl rfl rfl rfl rfl ?_
  refine gw_aload_n (pc' := 1) κ dX4_lastMinute_0 rfl 0 rfl rfl ?_
  refine gb_get (pc' := 4) (C := RX4) (T := TX4) (N := 4) κ dX4_lastMinute_1 rfl inX4 0 rfl rfl rfl 3 (by decide) tw_fl_X4_21 rfl ?_
  refine gw_if_le (pc' := 7) (tgt := 21) κ dX4_lastMinute_4 rfl (by decide) (fun hc_1 => ?_) (fun hc_1 => ?_)
  · have h := h.1 hc_1
    refine gw_bipush (pc' := 23) (v := -106) κ dX4_lastMinute_21 rfl (by decide) ?_
    exact gw_iret κ dX4_lastMinute_23 () rfl ⟨_, rfl, h⟩
  · have h := h.2 hc_1
    refine gw_aload_n (pc' := 8) κ dX4_lastMinute_7 rfl 0 rfl rfl ?_
    refine gb_get (pc' := 11) (C := RX4) (T := TX4) (N := 4) κ dX4_lastMinute_8 rfl inX4 0 rfl rfl rfl 2 (by decide) tw_fl_X4_18 rfl ?_
    refine gw_aload_n (pc' := 12) κ dX4_lastMinute_11 rfl 0 rfl rfl ?_
    refine gb_get (pc' := 15) (C := RX4) (T := TX4) (N := 4) κ dX4_lastMinute_12 rfl inX4 0 rfl rfl rfl 3 (by decide) tw_fl_X4_21 rfl ?_
    refine gw_iconst (pc' := 16) (v := 1) κ dX4_lastMinute_15 rfl (by decide) ?_
    refine gw_isub (pc' := 17) κ dX4_lastMinute_16 rfl  ?_
    obtain ⟨hb_2, h⟩ := h
    refine gb_iald (pc' := 18) κ dX4_lastMinute_17 rfl 0 3 rfl rfl hb_2 ?_
    refine gw_goto (tgt := 23) κ dX4_lastMinute_18 (by decide) ?_
    exact gw_iret κ dX4_lastMinute_23 () rfl ⟨_, rfl, h⟩
theorem hy_X2_faresOf : g_hy yX2_faresOf 2 := by decide +kernel
set_option maxHeartbeats 4000000 in
set_option maxRecDepth 100000 in
theorem k_X2_faresOf_5 {zp : Program} {l : Launch} {ze : Env} {zs : State} {zm : MethodId} {za : Array Value} {zb : List Frame} {zt : Method} {zc : Code} {D : va_G} {cI cR : ClassId} {A : Nat → Prop} (κ : KC zp zs zm za zt zc cX2_faresOf 5 RX2 D cI cR A (some .int)) (qa : Nat → Nat) (qb : Nat → Nat) (P : Int32 → Prop) (o0 : PlT) (o1 : StT) (x2 : Int32) : ∀ (n : Nat) (v3 : Int32) (v4 : Int32), wp_X2_faresOf_5 P o0 o1 x2 n v3 v4 → GM zp l ze ({ frames := 4, cells := 0, slots := 0, locals := 96 } : Room) zs zm za zb zt zc D A 5 (pI (fun (r : Int32) (_ : Unit) => P r)) (fun _ : Unit => (wfl [cPl qa cI o0.od o0.rd o0.vn o0.pn o0.ao o0.sr o0.sp o0.wt, cSt qb cI o1.se o1.la o1.de o1.le o1.sa o1.fl o1.ar o1.dr o1.pe o1.ri])) 0 0 0 0 (wfl [cPl qa cI o0.od o0.rd o0.vn o0.pn o0.ao o0.sr o0.sp o0.wt, cSt qb cI o1.se o1.la o1.de o1.le o1.sa o1.fl o1.ar o1.dr o1.pe o1.ri]) [(0, .ref (qa 0)), (1, .ref (qb 0)), (2, .int x2), (3, .int v3), (4, .int v4)] 5 [] := by
  intro n5
  induction n5 with
  | zero => intro v3 v4 h; exact (show False from h).elim
  | succ n5 ih5 =>
    intro v3 v4 h
    have h : wp_X2_faresOf_5F P o0 o1 x2 (wp_X2_faresOf_5 P o0 o1 x2 n5) v3 v4 := h
    unfold wp_X2_faresOf_5F at h
    refine gw_iload (pc' := 7) κ dX2_faresOf_5 rfl 4 rfl ?_
    refine gw_aload_n (pc' := 8) κ dX2_faresOf_7 rfl 1 rfl rfl ?_
    refine gb_get (pc' := 11) (C := RX3) (T := TX3) (N := 10) κ dX2_faresOf_8 rfl inX3 1 rfl rfl rfl 9 (by decide) tw_fl_X2_34 rfl ?_
    refine gw_icmp_ge (pc' := 14) (tgt := 41) κ dX2_faresOf_11 rfl (by decide) (fun hc_1 => ?_) (fun hc_1 => ?_)
    · have h := h.1 hc_1
      refine gw_iload_n (pc' := 42) κ dX2_faresOf_41 rfl 3 rfl rfl ?_
      exact gw_iret κ dX2_faresOf_42 () rfl ⟨_, rfl, h⟩
    · have h := h.2 hc_1
      refine gw_aload_n (pc' := 15) κ dX2_faresOf_14 rfl 0 rfl rfl ?_
      refine gb_get (pc' := 18) (C := RX2) (T := TX2) (N := 8) κ dX2_faresOf_15 rfl inX2 0 rfl rfl rfl 2 (by decide) tw_fl_X2_18 rfl ?_
      refine gw_iload (pc' := 20) κ dX2_faresOf_18 rfl 4 rfl ?_
      obtain ⟨hb_2, h⟩ := h
      refine gb_iald (pc' := 21) κ dX2_faresOf_20 rfl 0 3 rfl rfl hb_2 ?_
      refine gw_iload_n (pc' := 22) κ dX2_faresOf_21 rfl 2 rfl rfl ?_
      refine gw_icmp_ne (pc' := 25) (tgt := 35) κ dX2_faresOf_22 rfl (by decide) (fun hc_3 => ?_) (fun hc_3 => ?_)
      · have h := h.1 hc_3
        refine gw_iinc (pc' := 38) κ dX2_faresOf_35 rfl 4 rfl (v := (v4 + 1)) rfl (by decide) (lv' := [(4, .int (v4 + 1)), (0, .ref (qa 0)), (1, .ref (qb 0)), (2, .int x2), (3, .int v3)]) rfl ?_
        refine gw_goto (tgt := 5) κ dX2_faresOf_38 (by decide) ?_
        refine gw_lv (lv' := [(0, .ref (qa 0)), (1, .ref (qb 0)), (2, .int x2), (3, .int v3), (4, .int (v4 + 1))]) [1, 2, 3, 4, 0] rfl ?_
        exact ih5 v3 (v4 + 1) h
      · have h := h.2 hc_3
        refine gw_iload_n (pc' := 26) κ dX2_faresOf_25 rfl 3 rfl rfl ?_
        refine gw_aload_n (pc' := 27) κ dX2_faresOf_26 rfl 0 rfl rfl ?_
        refine gw_aload_n (pc' := 28) κ dX2_faresOf_27 rfl 1 rfl rfl ?_
        refine gw_iload (pc' := 30) κ dX2_faresOf_28 rfl 4 rfl ?_
        refine gb_callV (ci := 2) (qb := 0) (rest := [.int v3]) κ (c_X2_fare qa qb o0 o1 v4 h) ⟨rfl, rfl, Nat.le_of_ble_eq_true rfl, Nat.le_of_ble_eq_true rfl⟩ tw_ml_X2_100 tw_im_X2_fare tw_se_X2_fare tw_co_X2_fare tw_in_X2 hy_X2_fare rfl rfl rfl rfl rfl (Nat.le_of_ble_eq_true rfl) rfl dX2_faresOf_30 [0, 1] rfl (by decide) (fun _ => Nat.le_of_ble_eq_true rfl) ⟨Nat.le_of_ble_eq_true rfl, Nat.le_of_ble_eq_true rfl⟩ (fun v u hv => ?_)
        obtain ⟨r_4, rfl, h⟩ := hv
        refine gw_nf (ws' := (wfl [cPl qa cI o0.od o0.rd o0.vn o0.pn o0.ao o0.sr o0.sp o0.wt, cSt qb cI o1.se o1.la o1.de o1.le o1.sa o1.fl o1.ar o1.dr o1.pe o1.ri])) (lv' := [(0, .ref (qa 0)), (1, .ref (qb 0)), (2, .int x2), (3, .int v3), (4, .int v4)]) (st' := [.int r_4, .int v3]) (pc' := 33) (ce' := 0) (sl' := 0) rfl rfl rfl rfl rfl rfl ?_
        refine gw_iadd (pc' := 34) κ dX2_faresOf_33 rfl  ?_
        refine gw_istore_n (pc' := 35) κ dX2_faresOf_34 rfl rfl (by decide) (lv' := [(3, .int (v3 + r_4)), (0, .ref (qa 0)), (1, .ref (qb 0)), (2, .int x2), (4, .int v4)]) rfl ?_
        refine gw_iinc (pc' := 38) κ dX2_faresOf_35 rfl 4 rfl (v := (v4 + 1)) rfl (by decide) (lv' := [(4, .int (v4 + 1)), (3, .int (v3 + r_4)), (0, .ref (qa 0)), (1, .ref (qb 0)), (2, .int x2)]) rfl ?_
        refine gw_goto (tgt := 5) κ dX2_faresOf_38 (by decide) ?_
        refine gw_lv (lv' := [(0, .ref (qa 0)), (1, .ref (qb 0)), (2, .int x2), (3, .int (v3 + r_4)), (4, .int (v4 + 1))]) [2, 3, 4, 1, 0] rfl ?_
        exact ih5 (v3 + r_4) (v4 + 1) h
set_option maxHeartbeats 4000000 in
set_option maxRecDepth 100000 in
theorem c_X2_faresOf {l : Launch} {D : va_G} {cI cR : ClassId}  (qa : Nat → Nat) (qb : Nat → Nat) {P : Int32 → Prop} (o0 : PlT) (o1 : StT) (x2 : Int32) (h : wp_X2_faresOf P o0 o1 x2) : CT l D cI cR yX2_faresOf cX2_faresOf 5 (some .int) ({ frames := 4, cells := 0, slots := 0, locals := 96 } : Room) [.ref (qa 0), .ref (qb 0), .int x2] (wfl [cPl qa cI o0.od o0.rd o0.vn o0.pn o0.ao o0.sr o0.sp o0.wt, cSt qb cI o1.se o1.la o1.de o1.le o1.sa o1.fl o1.ar o1.dr o1.pe o1.ri]) (fun _ : Unit => (wfl [cPl qa cI o0.od o0.rd o0.vn o0.pn o0.ao o0.sr o0.sp o0.wt, cSt qb cI o1.se o1.la o1.de o1.le o1.sa o1.fl o1.ar o1.dr o1.pe o1.ri])) (pI (fun (r : Int32) (_ : Unit) => P r)) 0 0 := by
  refine ct_of RX2 rfl (by decide +kernel) (Nat.le_of_ble_eq_true rfl) (fun zp ze zs zm zb zt zc A hin κ => ?_)
  unfold wp_X2_faresOf at h
  refine gw_nf (lv' := [(0, .ref (qa 0)), (1, .ref (qb 0)), (2, .int x2)]) (pc' := 0) (st' := []) (ce' := 0) (sl' := 0) rfl rfl rfl rfl rfl rfl ?_
  refine gw_iconst (pc' := 1) (v := 0) κ dX2_faresOf_0 rfl (by decide) ?_
  refine gw_istore_n (pc' := 2) κ dX2_faresOf_1 rfl rfl (by decide) (lv' := [(3, .int (0 : Int32)), (0, .ref (qa 0)), (1, .ref (qb 0)), (2, .int x2)]) rfl ?_
  refine gw_iconst (pc' := 3) (v := 0) κ dX2_faresOf_2 rfl (by decide) ?_
  refine gw_istore (pc' := 5) κ dX2_faresOf_3 rfl (by decide) (lv' := [(4, .int (0 : Int32)), (3, .int (0 : Int32)), (0, .ref (qa 0)), (1, .ref (qb 0)), (2, .int x2)]) rfl ?_
  obtain ⟨m5, h⟩ := h
  refine gw_lv (lv' := [(0, .ref (qa 0)), (1, .ref (qb 0)), (2, .int x2), (3, .int (0 : Int32)), (4, .int (0 : Int32))]) [2, 3, 4, 1, 0] rfl ?_
  exact k_X2_faresOf_5 κ qa qb P o0 o1 x2 m5 (0 : Int32) (0 : Int32) h
theorem hy_X5_vanOf : g_hy yX5_vanOf 2 := by decide +kernel
set_option maxHeartbeats 4000000 in
set_option maxRecDepth 100000 in
theorem c_X5_vanOf {l : Launch} {D : va_G} {cI cR : ClassId}  (qx : Nat → Nat) (qn : Nat → Nat) (qp : Nat → Nat) (qw : Nat → Nat) (qt : Nat → Nat) (qu : Nat → Nat) (qd : Nat → Nat) (qh : Nat → Nat) (ql : Nat → Nat) (qs : Nat → Nat → Nat) {P : Int32 → (Nat → Int32) → (Nat → Int32) → (Nat → Int32) → Int32 → Prop} (now : StT) (pln : PlT) (way : WyT) (x1 : Int32) (x2 : Int32) (h : wp_X5_vanOf P now pln way x1 x2) : CT l D cI cR yX5_vanOf cX5_vanOf 3 (some .int) ({ frames := 5, cells := 0, slots := 0, locals := 120 } : Room) [.ref (qx 0), .int x1, .int x2] (wfl [cX qx qn qp qw qt qu qd qh ql, cSt qn cI now.se now.la now.de now.le now.sa now.fl now.ar now.dr now.pe now.ri, cPl qp cI pln.od pln.rd pln.vn pln.pn pln.ao pln.sr pln.sp pln.wt, cWy qw cI way.ky way.wp way.mi way.so]) (fun u : (Nat → Int32) × (Nat → Int32) × (Nat → Int32) × Int32 => (wfl [cX qx qn qp qw qt qu qd qh ql, cSt qn cI now.se now.la now.de now.le now.sa now.fl now.ar now.dr now.pe now.ri, cPl qp cI pln.od pln.rd pln.vn pln.pn pln.ao pln.sr pln.sp pln.wt, cWy qw cI u.1 u.2.1 u.2.2.1 u.2.2.2])) (pI (fun (r : Int32) (u : (Nat → Int32) × (Nat → Int32) × (Nat → Int32) × Int32) => P r u.1 u.2.1 u.2.2.1 u.2.2.2)) 0 0 := by
  refine ct_of RX5 rfl (by decide +kernel) (Nat.le_of_ble_eq_true rfl) (fun zp ze zs zm zb zt zc A hin κ => ?_)
  unfold wp_X5_vanOf at h
  refine gw_nf (lv' := [(0, .ref (qx 0)), (1, .int x1), (2, .int x2)]) (pc' := 0) (st' := []) (ce' := 0) (sl' := 0) rfl rfl rfl rfl rfl rfl ?_
  refine gw_iload_n (pc' := 1) κ dX5_vanOf_0 rfl 1 rfl rfl ?_
  refine gb_callS (rest := []) κ (c_X5_isVan  x1 h) ⟨rfl, rfl, Nat.le_of_ble_eq_true rfl, Nat.le_of_ble_eq_true rfl⟩ tw_ml_X5_92 tw_st_X5_isVan tw_co_X5_isVan tw_in_X5 hy_X5_isVan rfl (Nat.le_of_ble_eq_true rfl) rfl dX5_vanOf_1 [] rfl (by decide) (fun _ => Nat.le_of_ble_eq_true rfl) ⟨Nat.le_of_ble_eq_true rfl, Nat.le_of_ble_eq_true rfl⟩ (fun v u hv => ?_)
  obtain ⟨r_1, rfl, h⟩ := hv
  refine gw_nf (ws' := (wfl [cX qx qn qp qw qt qu qd qh ql, cSt qn cI now.se now.la now.de now.le now.sa now.fl now.ar now.dr now.pe now.ri, cPl qp cI pln.od pln.rd pln.vn pln.pn pln.ao pln.sr pln.sp pln.wt, cWy qw cI way.ky way.wp way.mi way.so])) (lv' := [(0, .ref (qx 0)), (1, .int x1), (2, .int x2)]) (st' := [.int r_1]) (pc' := 4) (ce' := 0) (sl' := 0) rfl rfl rfl rfl rfl rfl ?_
  refine gw_if_ne (pc' := 7) (tgt := 10) κ dX5_vanOf_4 rfl (by decide) (fun hc_2 => ?_) (fun hc_2 => ?_)
  · have h := h.1 hc_2
    refine gw_aload_n (pc' := 11) κ dX5_vanOf_10 rfl 0 rfl rfl ?_
    refine gb_get (pc' := 14) (C := RX5) (T := TX5) (N := 8) κ dX5_vanOf_11 rfl inX5 0 rfl rfl rfl 2 (by decide) tw_fl_X5_26 rfl ?_
    refine gw_aload_n (pc' := 15) κ dX5_vanOf_14 rfl 0 rfl rfl ?_
    refine gb_get (pc' := 18) (C := RX5) (T := TX5) (N := 8) κ dX5_vanOf_15 rfl inX5 0 rfl rfl rfl 0 (by decide) tw_fl_X5_10 rfl ?_
    refine gw_aload_n (pc' := 19) κ dX5_vanOf_18 rfl 0 rfl rfl ?_
    refine gb_get (pc' := 22) (C := RX5) (T := TX5) (N := 8) κ dX5_vanOf_19 rfl inX5 0 rfl rfl rfl 1 (by decide) tw_fl_X5_19 rfl ?_
    refine gw_iload_n (pc' := 23) κ dX5_vanOf_22 rfl 1 rfl rfl ?_
    refine gb_callV (ci := 4) (qb := 3) (rest := []) κ (c_X4_follow qw qn qp way now pln x1 h) ⟨rfl, rfl, Nat.le_of_ble_eq_true rfl, Nat.le_of_ble_eq_true rfl⟩ tw_ml_X5_163 tw_im_X4_follow tw_se_X4_follow tw_co_X4_follow tw_in_X4 hy_X4_follow rfl rfl rfl rfl rfl (Nat.le_of_ble_eq_true rfl) rfl dX5_vanOf_23 [3, 1, 2] rfl (by decide) (fun _ => Nat.le_of_ble_eq_true rfl) ⟨Nat.le_of_ble_eq_true rfl, Nat.le_of_ble_eq_true rfl⟩ (fun v u hv => ?_)
    obtain ⟨rfl, h⟩ := hv
    obtain ⟨ky_3, wp_4, mi_5, so_6⟩ := u
    refine gw_nf (ws' := (wfl [cX qx qn qp qw qt qu qd qh ql, cSt qn cI now.se now.la now.de now.le now.sa now.fl now.ar now.dr now.pe now.ri, cPl qp cI pln.od pln.rd pln.vn pln.pn pln.ao pln.sr pln.sp pln.wt, cWy qw cI ky_3 wp_4 mi_5 so_6])) (lv' := [(0, .ref (qx 0)), (1, .int x1), (2, .int x2)]) (st' := []) (pc' := 26) (ce' := 0) (sl' := 0) rfl rfl rfl rfl rfl rfl ?_
    refine gw_iload_n (pc' := 27) κ dX5_vanOf_26 rfl 2 rfl rfl ?_
    obtain ⟨hc_7_0, hc_7_1, hc_7_2, hc_7_3, hc_7_4, hc_7_5, hc_7_6, hc_7_7, hc_7d⟩ := h
    by_cases hc_7c_0 : x2 = 0
    · have h := hc_7_0 hc_7c_0
      refine gw_tableIn (tgt := 72) (off := 45) κ dX5_vanOf_27 (by rw [hc_7c_0]; decide) (by rw [hc_7c_0]; decide) (by rw [hc_7c_0]; decide +kernel) (by decide) ?_
      refine gw_aload_n (pc' := 73) κ dX5_vanOf_72 rfl 0 rfl rfl ?_
      refine gb_get (pc' := 76) (C := RX5) (T := TX5) (N := 8) κ dX5_vanOf_73 rfl inX5 0 rfl rfl rfl 0 (by decide) tw_fl_X5_10 rfl ?_
      refine gb_get (pc' := 79) (C := RX3) (T := TX3) (N := 10) κ dX5_vanOf_76 rfl inX3 1 rfl rfl rfl 3 (by decide) tw_fl_X5_95 rfl ?_
      refine gw_iload_n (pc' := 80) κ dX5_vanOf_79 rfl 1 rfl rfl ?_
      obtain ⟨hb_8, h⟩ := h
      refine gb_iald (pc' := 81) κ dX5_vanOf_80 rfl 1 4 rfl rfl hb_8 ?_
      exact gw_iret κ dX5_vanOf_81 (ky_3, wp_4, mi_5, so_6) rfl ⟨_, rfl, h⟩
    by_cases hc_7c_1 : x2 = 1
    · have h := hc_7_1 hc_7c_1
      refine gw_tableIn (tgt := 82) (off := 55) κ dX5_vanOf_27 (by rw [hc_7c_1]; decide) (by rw [hc_7c_1]; decide) (by rw [hc_7c_1]; decide +kernel) (by decide) ?_
      refine gw_aload_n (pc' := 83) κ dX5_vanOf_82 rfl 0 rfl rfl ?_
      refine gb_get (pc' := 86) (C := RX5) (T := TX5) (N := 8) κ dX5_vanOf_83 rfl inX5 0 rfl rfl rfl 0 (by decide) tw_fl_X5_10 rfl ?_
      refine gb_get (pc' := 89) (C := RX3) (T := TX3) (N := 10) κ dX5_vanOf_86 rfl inX3 1 rfl rfl rfl 4 (by decide) tw_fl_X5_98 rfl ?_
      refine gw_iload_n (pc' := 90) κ dX5_vanOf_89 rfl 1 rfl rfl ?_
      obtain ⟨hb_9, h⟩ := h
      refine gb_iald (pc' := 91) κ dX5_vanOf_90 rfl 1 5 rfl rfl hb_9 ?_
      exact gw_iret κ dX5_vanOf_91 (ky_3, wp_4, mi_5, so_6) rfl ⟨_, rfl, h⟩
    by_cases hc_7c_2 : x2 = 2
    · have h := hc_7_2 hc_7c_2
      refine gw_tableIn (tgt := 92) (off := 65) κ dX5_vanOf_27 (by rw [hc_7c_2]; decide) (by rw [hc_7c_2]; decide) (by rw [hc_7c_2]; decide +kernel) (by decide) ?_
      refine gw_aload_n (pc' := 93) κ dX5_vanOf_92 rfl 0 rfl rfl ?_
      refine gb_get (pc' := 96) (C := RX5) (T := TX5) (N := 8) κ dX5_vanOf_93 rfl inX5 0 rfl rfl rfl 1 (by decide) tw_fl_X5_19 rfl ?_
      refine gb_get (pc' := 99) (C := RX2) (T := TX2) (N := 8) κ dX5_vanOf_96 rfl inX2 2 rfl rfl rfl 3 (by decide) tw_fl_X5_167 rfl ?_
      refine gw_iload_n (pc' := 100) κ dX5_vanOf_99 rfl 1 rfl rfl ?_
      obtain ⟨hb_10, h⟩ := h
      refine gb_iald (pc' := 101) κ dX5_vanOf_100 rfl 2 4 rfl rfl hb_10 ?_
      exact gw_iret κ dX5_vanOf_101 (ky_3, wp_4, mi_5, so_6) rfl ⟨_, rfl, h⟩
    by_cases hc_7c_3 : x2 = 3
    · have h := hc_7_3 hc_7c_3
      refine gw_tableIn (tgt := 102) (off := 75) κ dX5_vanOf_27 (by rw [hc_7c_3]; decide) (by rw [hc_7c_3]; decide) (by rw [hc_7c_3]; decide +kernel) (by decide) ?_
      refine gw_aload_n (pc' := 103) κ dX5_vanOf_102 rfl 0 rfl rfl ?_
      refine gb_get (pc' := 106) (C := RX5) (T := TX5) (N := 8) κ dX5_vanOf_103 rfl inX5 0 rfl rfl rfl 1 (by decide) tw_fl_X5_19 rfl ?_
      refine gw_aload_n (pc' := 107) κ dX5_vanOf_106 rfl 0 rfl rfl ?_
      refine gb_get (pc' := 110) (C := RX5) (T := TX5) (N := 8) κ dX5_vanOf_107 rfl inX5 0 rfl rfl rfl 0 (by decide) tw_fl_X5_10 rfl ?_
      refine gw_iload_n (pc' := 111) κ dX5_vanOf_110 rfl 1 rfl rfl ?_
      refine gb_callV (ci := 2) (qb := 2) (rest := []) κ (c_X2_ridersIn qp qn pln now x1 h) ⟨rfl, rfl, Nat.le_of_ble_eq_true rfl, Nat.le_of_ble_eq_true rfl⟩ tw_ml_X5_170 tw_im_X2_ridersIn tw_se_X2_ridersIn tw_co_X2_ridersIn tw_in_X2 hy_X2_ridersIn rfl rfl rfl rfl rfl (Nat.le_of_ble_eq_true rfl) rfl dX5_vanOf_111 [2, 1] rfl (by decide) (fun _ => Nat.le_of_ble_eq_true rfl) ⟨Nat.le_of_ble_eq_true rfl, Nat.le_of_ble_eq_true rfl⟩ (fun v u hv => ?_)
      obtain ⟨r_11, rfl, h⟩ := hv
      refine gw_nf (ws' := (wfl [cX qx qn qp qw qt qu qd qh ql, cSt qn cI now.se now.la now.de now.le now.sa now.fl now.ar now.dr now.pe now.ri, cPl qp cI pln.od pln.rd pln.vn pln.pn pln.ao pln.sr pln.sp pln.wt, cWy qw cI ky_3 wp_4 mi_5 so_6])) (lv' := [(0, .ref (qx 0)), (1, .int x1), (2, .int x2)]) (st' := [.int r_11]) (pc' := 114) (ce' := 0) (sl' := 0) rfl rfl rfl rfl rfl rfl ?_
      exact gw_iret κ dX5_vanOf_114 (ky_3, wp_4, mi_5, so_6) rfl ⟨_, rfl, h⟩
    by_cases hc_7c_4 : x2 = 4
    · have h := hc_7_4 hc_7c_4
      refine gw_tableIn (tgt := 115) (off := 88) κ dX5_vanOf_27 (by rw [hc_7c_4]; decide) (by rw [hc_7c_4]; decide) (by rw [hc_7c_4]; decide +kernel) (by decide) ?_
      refine gw_aload_n (pc' := 116) κ dX5_vanOf_115 rfl 0 rfl rfl ?_
      refine gb_get (pc' := 119) (C := RX5) (T := TX5) (N := 8) κ dX5_vanOf_116 rfl inX5 0 rfl rfl rfl 1 (by decide) tw_fl_X5_19 rfl ?_
      refine gb_get (pc' := 122) (C := RX2) (T := TX2) (N := 8) κ dX5_vanOf_119 rfl inX2 2 rfl rfl rfl 4 (by decide) tw_fl_X5_173 rfl ?_
      refine gw_iload_n (pc' := 123) κ dX5_vanOf_122 rfl 1 rfl rfl ?_
      obtain ⟨hb_12, h⟩ := h
      refine gb_iald (pc' := 124) κ dX5_vanOf_123 rfl 2 5 rfl rfl hb_12 ?_
      exact gw_iret κ dX5_vanOf_124 (ky_3, wp_4, mi_5, so_6) rfl ⟨_, rfl, h⟩
    by_cases hc_7c_5 : x2 = 5
    · have h := hc_7_5 hc_7c_5
      refine gw_tableIn (tgt := 125) (off := 98) κ dX5_vanOf_27 (by rw [hc_7c_5]; decide) (by rw [hc_7c_5]; decide) (by rw [hc_7c_5]; decide +kernel) (by decide) ?_
      refine gw_aload_n (pc' := 126) κ dX5_vanOf_125 rfl 0 rfl rfl ?_
      refine gb_get (pc' := 129) (C := RX5) (T := TX5) (N := 8) κ dX5_vanOf_126 rfl inX5 0 rfl rfl rfl 2 (by decide) tw_fl_X5_26 rfl ?_
      refine gb_get (pc' := 132) (C := RX4) (T := TX4) (N := 4) κ dX5_vanOf_129 rfl inX4 3 rfl rfl rfl 3 (by decide) tw_fl_X5_176 rfl ?_
      exact gw_iret κ dX5_vanOf_132 (ky_3, wp_4, mi_5, so_6) rfl ⟨_, rfl, h⟩
    by_cases hc_7c_6 : x2 = 6
    · have h := hc_7_6 hc_7c_6
      refine gw_tableIn (tgt := 133) (off := 106) κ dX5_vanOf_27 (by rw [hc_7c_6]; decide) (by rw [hc_7c_6]; decide) (by rw [hc_7c_6]; decide +kernel) (by decide) ?_
      refine gw_aload_n (pc' := 134) κ dX5_vanOf_133 rfl 0 rfl rfl ?_
      refine gb_get (pc' := 137) (C := RX5) (T := TX5) (N := 8) κ dX5_vanOf_134 rfl inX5 0 rfl rfl rfl 2 (by decide) tw_fl_X5_26 rfl ?_
      refine gb_callV (ci := 4) (qb := 3) (rest := []) κ (c_X4_lastMinute qw (mkWy ky_3 wp_4 mi_5 so_6) h) ⟨rfl, rfl, Nat.le_of_ble_eq_true rfl, Nat.le_of_ble_eq_true rfl⟩ tw_ml_X5_179 tw_im_X4_lastMinute tw_se_X4_lastMinute tw_co_X4_lastMinute tw_in_X4 hy_X4_lastMinute rfl rfl rfl rfl rfl (Nat.le_of_ble_eq_true rfl) rfl dX5_vanOf_137 [3] rfl (by decide) (fun _ => Nat.le_of_ble_eq_true rfl) ⟨Nat.le_of_ble_eq_true rfl, Nat.le_of_ble_eq_true rfl⟩ (fun v u hv => ?_)
      obtain ⟨r_13, rfl, h⟩ := hv
      refine gw_nf (ws' := (wfl [cX qx qn qp qw qt qu qd qh ql, cSt qn cI now.se now.la now.de now.le now.sa now.fl now.ar now.dr now.pe now.ri, cPl qp cI pln.od pln.rd pln.vn pln.pn pln.ao pln.sr pln.sp pln.wt, cWy qw cI ky_3 wp_4 mi_5 so_6])) (lv' := [(0, .ref (qx 0)), (1, .int x1), (2, .int x2)]) (st' := [.int r_13]) (pc' := 140) (ce' := 0) (sl' := 0) rfl rfl rfl rfl rfl rfl ?_
      exact gw_iret κ dX5_vanOf_140 (ky_3, wp_4, mi_5, so_6) rfl ⟨_, rfl, h⟩
    by_cases hc_7c_7 : x2 = 7
    · have h := hc_7_7 hc_7c_7
      refine gw_tableIn (tgt := 141) (off := 114) κ dX5_vanOf_27 (by rw [hc_7c_7]; decide) (by rw [hc_7c_7]; decide) (by rw [hc_7c_7]; decide +kernel) (by decide) ?_
      refine gw_aload_n (pc' := 142) κ dX5_vanOf_141 rfl 0 rfl rfl ?_
      refine gb_get (pc' := 145) (C := RX5) (T := TX5) (N := 8) κ dX5_vanOf_142 rfl inX5 0 rfl rfl rfl 1 (by decide) tw_fl_X5_19 rfl ?_
      refine gw_aload_n (pc' := 146) κ dX5_vanOf_145 rfl 0 rfl rfl ?_
      refine gb_get (pc' := 149) (C := RX5) (T := TX5) (N := 8) κ dX5_vanOf_146 rfl inX5 0 rfl rfl rfl 0 (by decide) tw_fl_X5_10 rfl ?_
      refine gw_iload_n (pc' := 150) κ dX5_vanOf_149 rfl 1 rfl rfl ?_
      refine gb_callV (ci := 2) (qb := 2) (rest := []) κ (c_X2_faresOf qp qn pln now x1 h) ⟨rfl, rfl, Nat.le_of_ble_eq_true rfl, Nat.le_of_ble_eq_true rfl⟩ tw_ml_X5_182 tw_im_X2_faresOf tw_se_X2_faresOf tw_co_X2_faresOf tw_in_X2 hy_X2_faresOf rfl rfl rfl rfl rfl (Nat.le_of_ble_eq_true rfl) rfl dX5_vanOf_150 [2, 1] rfl (by decide) (fun _ => Nat.le_of_ble_eq_true rfl) ⟨Nat.le_of_ble_eq_true rfl, Nat.le_of_ble_eq_true rfl⟩ (fun v u hv => ?_)
      obtain ⟨r_14, rfl, h⟩ := hv
      refine gw_nf (ws' := (wfl [cX qx qn qp qw qt qu qd qh ql, cSt qn cI now.se now.la now.de now.le now.sa now.fl now.ar now.dr now.pe now.ri, cPl qp cI pln.od pln.rd pln.vn pln.pn pln.ao pln.sr pln.sp pln.wt, cWy qw cI ky_3 wp_4 mi_5 so_6])) (lv' := [(0, .ref (qx 0)), (1, .int x1), (2, .int x2)]) (st' := [.int r_14]) (pc' := 153) (ce' := 0) (sl' := 0) rfl rfl rfl rfl rfl rfl ?_
      exact gw_iret κ dX5_vanOf_153 (ky_3, wp_4, mi_5, so_6) rfl ⟨_, rfl, h⟩
    have h := hc_7d ⟨hc_7c_0, hc_7c_1, hc_7c_2, hc_7c_3, hc_7c_4, hc_7c_5, hc_7c_6, hc_7c_7⟩
    refine gw_tableOut (tgt := 154) κ dX5_vanOf_27 (sw_out2 (x := x2) (lo := 0) (hi := 7) (by decide) (fun k h1 h2 => by rcases (show k = 0 ∨ k = 1 ∨ k = 2 ∨ k = 3 ∨ k = 4 ∨ k = 5 ∨ k = 6 ∨ k = 7 by omega) with rfl | rfl | rfl | rfl | rfl | rfl | rfl | rfl <;> assumption)) (by decide) ?_
    refine gw_bipush (pc' := 156) (v := -102) κ dX5_vanOf_154 rfl (by decide) ?_
    exact gw_iret κ dX5_vanOf_156 (ky_3, wp_4, mi_5, so_6) rfl ⟨_, rfl, h⟩
  · have h := h.2 hc_2
    refine gw_bipush (pc' := 9) (v := -101) κ dX5_vanOf_7 rfl (by decide) ?_
    exact gw_iret κ dX5_vanOf_9 (way.ky, way.wp, way.mi, way.so) rfl ⟨_, rfl, h⟩
theorem hy_X2_peopleOfFlight : g_hy yX2_peopleOfFlight 3 := by decide +kernel
set_option maxHeartbeats 4000000 in
set_option maxRecDepth 100000 in
theorem k_X2_peopleOfFlight_36 {zp : Program} {l : Launch} {ze : Env} {zs : State} {zm : MethodId} {za : Array Value} {zb : List Frame} {zt : Method} {zc : Code} {D : va_G} {cI cR : ClassId} {A : Nat → Prop} (κ : KC zp zs zm za zt zc cX2_peopleOfFlight 7 RX2 D cI cR A (some .int)) (qa : Nat → Nat) (qb : Nat → Nat) (P : Int32 → Prop) (o0 : PlT) (o1 : StT) (x2 : Int32) (x3 : Int32) (r6 : Int32 → Int32 → Prop) (v4 : Int32) (v5 : Int32) (w0 : Int32) (hr6 : ∀ (v4 : Int32) (v5 : Int32), r6 v4 v5 → GM zp l ze ({ frames := 0, cells := 0, slots := 0, locals := 0 } : Room) zs zm za zb zt zc D A 7 (pI (fun (r : Int32) (_ : Unit) => P r)) (fun _ : Unit => (wfl [cPl qa cI o0.od o0.rd o0.vn o0.pn o0.ao o0.sr o0.sp o0.wt, cSt qb cI o1.se o1.la o1.de o1.le o1.sa o1.fl o1.ar o1.dr o1.pe o1.ri])) 0 0 0 0 (wfl [cPl qa cI o0.od o0.rd o0.vn o0.pn o0.ao o0.sr o0.sp o0.wt, cSt qb cI o1.se o1.la o1.de o1.le o1.sa o1.fl o1.ar o1.dr o1.pe o1.ri]) [(0, .ref (qa 0)), (1, .ref (qb 0)), (2, .int x2), (3, .int x3), (4, .int v4), (5, .int v5)] 6 []) (h : wp_X2_peopleOfFlight_36 P o0 o1 x2 x3 r6 v4 v5 w0) : GM zp l ze ({ frames := 0, cells := 0, slots := 0, locals := 0 } : Room) zs zm za zb zt zc D A 7 (pI (fun (r : Int32) (_ : Unit) => P r)) (fun _ : Unit => (wfl [cPl qa cI o0.od o0.rd o0.vn o0.pn o0.ao o0.sr o0.sp o0.wt, cSt qb cI o1.se o1.la o1.de o1.le o1.sa o1.fl o1.ar o1.dr o1.pe o1.ri])) 0 0 0 0 (wfl [cPl qa cI o0.od o0.rd o0.vn o0.pn o0.ao o0.sr o0.sp o0.wt, cSt qb cI o1.se o1.la o1.de o1.le o1.sa o1.fl o1.ar o1.dr o1.pe o1.ri]) [(0, .ref (qa 0)), (1, .ref (qb 0)), (2, .int x2), (3, .int x3), (4, .int v4), (5, .int v5)] 36 [.int w0] := by
  unfold wp_X2_peopleOfFlight_36 at h
  refine gw_istore (pc' := 38) κ dX2_peopleOfFlight_36 rfl (by decide) (lv' := [(6, .int w0), (0, .ref (qa 0)), (1, .ref (qb 0)), (2, .int x2), (3, .int x3), (4, .int v4), (5, .int v5)]) rfl ?_
  refine gw_iload (pc' := 40) κ dX2_peopleOfFlight_38 rfl 0 rfl ?_
  refine gw_if_eq (pc' := 43) (tgt := 66) κ dX2_peopleOfFlight_40 rfl (by decide) (fun hc_5 => ?_) (fun hc_5 => ?_)
  · have h := h.1 hc_5
    refine gw_iinc (pc' := 69) κ dX2_peopleOfFlight_66 rfl 6 rfl (v := (v5 + 1)) rfl (by decide) (lv' := [(5, .int (v5 + 1)), (6, .int w0), (0, .ref (qa 0)), (1, .ref (qb 0)), (2, .int x2), (3, .int x3), (4, .int v4)]) rfl ?_
    refine gw_goto (tgt := 6) κ dX2_peopleOfFlight_69 (by decide) ?_
    refine gw_lv (lv' := [(0, .ref (qa 0)), (1, .ref (qb 0)), (2, .int x2), (3, .int x3), (4, .int v4), (5, .int (v5 + 1))]) [2, 3, 4, 5, 6, 0] rfl ?_
    exact hr6 v4 (v5 + 1) h
  · have h := h.2 hc_5
    refine gw_aload_n (pc' := 44) κ dX2_peopleOfFlight_43 rfl 2 rfl rfl ?_
    refine gb_get (pc' := 47) (C := RX3) (T := TX3) (N := 10) κ dX2_peopleOfFlight_44 rfl inX3 1 rfl rfl rfl 5 (by decide) tw_fl_X2_93 rfl ?_
    refine gw_iload (pc' := 49) κ dX2_peopleOfFlight_47 rfl 6 rfl ?_
    obtain ⟨hb_6, h⟩ := h
    refine gb_iald (pc' := 50) κ dX2_peopleOfFlight_49 rfl 1 6 rfl rfl hb_6 ?_
    refine gw_iload_n (pc' := 51) κ dX2_peopleOfFlight_50 rfl 3 rfl rfl ?_
    refine gw_icmp_ne (pc' := 54) (tgt := 66) κ dX2_peopleOfFlight_51 rfl (by decide) (fun hc_7 => ?_) (fun hc_7 => ?_)
    · have h := h.1 hc_7
      refine gw_iinc (pc' := 69) κ dX2_peopleOfFlight_66 rfl 6 rfl (v := (v5 + 1)) rfl (by decide) (lv' := [(5, .int (v5 + 1)), (6, .int w0), (0, .ref (qa 0)), (1, .ref (qb 0)), (2, .int x2), (3, .int x3), (4, .int v4)]) rfl ?_
      refine gw_goto (tgt := 6) κ dX2_peopleOfFlight_69 (by decide) ?_
      refine gw_lv (lv' := [(0, .ref (qa 0)), (1, .ref (qb 0)), (2, .int x2), (3, .int x3), (4, .int v4), (5, .int (v5 + 1))]) [2, 3, 4, 5, 6, 0] rfl ?_
      exact hr6 v4 (v5 + 1) h
    · have h := h.2 hc_7
      refine gw_iload (pc' := 56) κ dX2_peopleOfFlight_54 rfl 5 rfl ?_
      refine gw_aload_n (pc' := 57) κ dX2_peopleOfFlight_56 rfl 2 rfl rfl ?_
      refine gb_get (pc' := 60) (C := RX3) (T := TX3) (N := 10) κ dX2_peopleOfFlight_57 rfl inX3 1 rfl rfl rfl 8 (by decide) tw_fl_X2_57 rfl ?_
      refine gw_iload (pc' := 62) κ dX2_peopleOfFlight_60 rfl 6 rfl ?_
      obtain ⟨hb_8, h⟩ := h
      refine gb_iald (pc' := 63) κ dX2_peopleOfFlight_62 rfl 1 9 rfl rfl hb_8 ?_
      refine gw_iadd (pc' := 64) κ dX2_peopleOfFlight_63 rfl  ?_
      refine gw_istore (pc' := 66) κ dX2_peopleOfFlight_64 rfl (by decide) (lv' := [(4, .int (v4 + (o1.pe v5.toNatClampNeg))), (6, .int w0), (0, .ref (qa 0)), (1, .ref (qb 0)), (2, .int x2), (3, .int x3), (5, .int v5)]) rfl ?_
      refine gw_iinc (pc' := 69) κ dX2_peopleOfFlight_66 rfl 6 rfl (v := (v5 + 1)) rfl (by decide) (lv' := [(5, .int (v5 + 1)), (4, .int (v4 + (o1.pe v5.toNatClampNeg))), (6, .int w0), (0, .ref (qa 0)), (1, .ref (qb 0)), (2, .int x2), (3, .int x3)]) rfl ?_
      refine gw_goto (tgt := 6) κ dX2_peopleOfFlight_69 (by decide) ?_
      refine gw_lv (lv' := [(0, .ref (qa 0)), (1, .ref (qb 0)), (2, .int x2), (3, .int x3), (4, .int (v4 + (o1.pe v5.toNatClampNeg))), (5, .int (v5 + 1))]) [3, 4, 5, 6, 1, 0] rfl ?_
      exact hr6 (v4 + (o1.pe v5.toNatClampNeg)) (v5 + 1) h
set_option maxHeartbeats 4000000 in
set_option maxRecDepth 100000 in
theorem k_X2_peopleOfFlight_6 {zp : Program} {l : Launch} {ze : Env} {zs : State} {zm : MethodId} {za : Array Value} {zb : List Frame} {zt : Method} {zc : Code} {D : va_G} {cI cR : ClassId} {A : Nat → Prop} (κ : KC zp zs zm za zt zc cX2_peopleOfFlight 7 RX2 D cI cR A (some .int)) (qa : Nat → Nat) (qb : Nat → Nat) (P : Int32 → Prop) (o0 : PlT) (o1 : StT) (x2 : Int32) (x3 : Int32) : ∀ (n : Nat) (v4 : Int32) (v5 : Int32), wp_X2_peopleOfFlight_6 P o0 o1 x2 x3 n v4 v5 → GM zp l ze ({ frames := 0, cells := 0, slots := 0, locals := 0 } : Room) zs zm za zb zt zc D A 7 (pI (fun (r : Int32) (_ : Unit) => P r)) (fun _ : Unit => (wfl [cPl qa cI o0.od o0.rd o0.vn o0.pn o0.ao o0.sr o0.sp o0.wt, cSt qb cI o1.se o1.la o1.de o1.le o1.sa o1.fl o1.ar o1.dr o1.pe o1.ri])) 0 0 0 0 (wfl [cPl qa cI o0.od o0.rd o0.vn o0.pn o0.ao o0.sr o0.sp o0.wt, cSt qb cI o1.se o1.la o1.de o1.le o1.sa o1.fl o1.ar o1.dr o1.pe o1.ri]) [(0, .ref (qa 0)), (1, .ref (qb 0)), (2, .int x2), (3, .int x3), (4, .int v4), (5, .int v5)] 6 [] := by
  intro n6
  induction n6 with
  | zero => intro v4 v5 h; exact (show False from h).elim
  | succ n6 ih6 =>
    intro v4 v5 h
    have h : wp_X2_peopleOfFlight_6F P o0 o1 x2 x3 (wp_X2_peopleOfFlight_6 P o0 o1 x2 x3 n6) v4 v5 := h
    unfold wp_X2_peopleOfFlight_6F at h
    refine gw_iload (pc' := 8) κ dX2_peopleOfFlight_6 rfl 5 rfl ?_
    refine gw_aload_n (pc' := 9) κ dX2_peopleOfFlight_8 rfl 1 rfl rfl ?_
    refine gb_get (pc' := 12) (C := RX3) (T := TX3) (N := 10) κ dX2_peopleOfFlight_9 rfl inX3 1 rfl rfl rfl 9 (by decide) tw_fl_X2_34 rfl ?_
    refine gw_icmp_ge (pc' := 15) (tgt := 72) κ dX2_peopleOfFlight_12 rfl (by decide) (fun hc_1 => ?_) (fun hc_1 => ?_)
    · have h := h.1 hc_1
      refine gw_iload (pc' := 74) κ dX2_peopleOfFlight_72 rfl 4 rfl ?_
      exact gw_iret κ dX2_peopleOfFlight_74 () rfl ⟨_, rfl, h⟩
    · have h := h.2 hc_1
      refine gw_iload_n (pc' := 16) κ dX2_peopleOfFlight_15 rfl 3 rfl rfl ?_
      refine gw_if_eq (pc' := 19) (tgt := 31) κ dX2_peopleOfFlight_16 rfl (by decide) (fun hc_2 => ?_) (fun hc_2 => ?_)
      · have h := h.1 hc_2
        refine gw_iconst (pc' := 32) (v := 1) κ dX2_peopleOfFlight_31 rfl (by decide) ?_
        refine gw_goto (tgt := 36) κ dX2_peopleOfFlight_32 (by decide) ?_
        refine gw_lv (lv' := [(0, .ref (qa 0)), (1, .ref (qb 0)), (2, .int x2), (3, .int x3), (4, .int v4), (5, .int v5)]) [0, 1, 2, 3, 4, 5] rfl ?_
        exact k_X2_peopleOfFlight_36 κ qa qb P o0 o1 x2 x3 (wp_X2_peopleOfFlight_6 P o0 o1 x2 x3 n6) v4 v5 (1 : Int32) ih6 h
      · have h := h.2 hc_2
        refine gw_aload_n (pc' := 20) κ dX2_peopleOfFlight_19 rfl 0 rfl rfl ?_
        refine gb_get (pc' := 23) (C := RX2) (T := TX2) (N := 8) κ dX2_peopleOfFlight_20 rfl inX2 0 rfl rfl rfl 2 (by decide) tw_fl_X2_18 rfl ?_
        refine gw_iload (pc' := 25) κ dX2_peopleOfFlight_23 rfl 5 rfl ?_
        obtain ⟨hb_3, h⟩ := h
        refine gb_iald (pc' := 26) κ dX2_peopleOfFlight_25 rfl 0 3 rfl rfl hb_3 ?_
        refine gw_bipush (pc' := 28) (v := -106) κ dX2_peopleOfFlight_26 rfl (by decide) ?_
        refine gw_icmp_ne (pc' := 31) (tgt := 35) κ dX2_peopleOfFlight_28 rfl (by decide) (fun hc_4 => ?_) (fun hc_4 => ?_)
        · have h := h.1 hc_4
          refine gw_iconst (pc' := 36) (v := 0) κ dX2_peopleOfFlight_35 rfl (by decide) ?_
          refine gw_lv (lv' := [(0, .ref (qa 0)), (1, .ref (qb 0)), (2, .int x2), (3, .int x3), (4, .int v4), (5, .int v5)]) [0, 1, 2, 3, 4, 5] rfl ?_
          exact k_X2_peopleOfFlight_36 κ qa qb P o0 o1 x2 x3 (wp_X2_peopleOfFlight_6 P o0 o1 x2 x3 n6) v4 v5 (0 : Int32) ih6 h
        · have h := h.2 hc_4
          refine gw_iconst (pc' := 32) (v := 1) κ dX2_peopleOfFlight_31 rfl (by decide) ?_
          refine gw_goto (tgt := 36) κ dX2_peopleOfFlight_32 (by decide) ?_
          refine gw_lv (lv' := [(0, .ref (qa 0)), (1, .ref (qb 0)), (2, .int x2), (3, .int x3), (4, .int v4), (5, .int v5)]) [0, 1, 2, 3, 4, 5] rfl ?_
          exact k_X2_peopleOfFlight_36 κ qa qb P o0 o1 x2 x3 (wp_X2_peopleOfFlight_6 P o0 o1 x2 x3 n6) v4 v5 (1 : Int32) ih6 h
set_option maxHeartbeats 4000000 in
set_option maxRecDepth 100000 in
theorem c_X2_peopleOfFlight {l : Launch} {D : va_G} {cI cR : ClassId}  (qa : Nat → Nat) (qb : Nat → Nat) {P : Int32 → Prop} (o0 : PlT) (o1 : StT) (x2 : Int32) (x3 : Int32) (h : wp_X2_peopleOfFlight P o0 o1 x2 x3) : CT l D cI cR yX2_peopleOfFlight cX2_peopleOfFlight 7 (some .int) ({ frames := 0, cells := 0, slots := 0, locals := 0 } : Room) [.ref (qa 0), .ref (qb 0), .int x2, .int x3] (wfl [cPl qa cI o0.od o0.rd o0.vn o0.pn o0.ao o0.sr o0.sp o0.wt, cSt qb cI o1.se o1.la o1.de o1.le o1.sa o1.fl o1.ar o1.dr o1.pe o1.ri]) (fun _ : Unit => (wfl [cPl qa cI o0.od o0.rd o0.vn o0.pn o0.ao o0.sr o0.sp o0.wt, cSt qb cI o1.se o1.la o1.de o1.le o1.sa o1.fl o1.ar o1.dr o1.pe o1.ri])) (pI (fun (r : Int32) (_ : Unit) => P r)) 0 0 := by
  refine ct_of RX2 rfl (by decide +kernel) (Nat.le_of_ble_eq_true rfl) (fun zp ze zs zm zb zt zc A hin κ => ?_)
  unfold wp_X2_peopleOfFlight at h
  refine gw_nf (lv' := [(0, .ref (qa 0)), (1, .ref (qb 0)), (2, .int x2), (3, .int x3)]) (pc' := 0) (st' := []) (ce' := 0) (sl' := 0) rfl rfl rfl rfl rfl rfl ?_
  refine gw_iconst (pc' := 1) (v := 0) κ dX2_peopleOfFlight_0 rfl (by decide) ?_
  refine gw_istore (pc' := 3) κ dX2_peopleOfFlight_1 rfl (by decide) (lv' := [(4, .int (0 : Int32)), (0, .ref (qa 0)), (1, .ref (qb 0)), (2, .int x2), (3, .int x3)]) rfl ?_
  refine gw_iconst (pc' := 4) (v := 0) κ dX2_peopleOfFlight_3 rfl (by decide) ?_
  refine gw_istore (pc' := 6) κ dX2_peopleOfFlight_4 rfl (by decide) (lv' := [(5, .int (0 : Int32)), (4, .int (0 : Int32)), (0, .ref (qa 0)), (1, .ref (qb 0)), (2, .int x2), (3, .int x3)]) rfl ?_
  obtain ⟨m6, h⟩ := h
  refine gw_lv (lv' := [(0, .ref (qa 0)), (1, .ref (qb 0)), (2, .int x2), (3, .int x3), (4, .int (0 : Int32)), (5, .int (0 : Int32))]) [2, 3, 4, 5, 1, 0] rfl ?_
  exact k_X2_peopleOfFlight_6 κ qa qb P o0 o1 x2 x3 m6 (0 : Int32) (0 : Int32) h
