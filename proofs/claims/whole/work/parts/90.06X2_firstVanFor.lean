theorem hy_X2_firstVanFor : g_hy yX2_firstVanFor 2 := by decide +kernel
set_option maxHeartbeats 4000000 in
set_option maxRecDepth 100000 in
theorem k_X2_firstVanFor_39 {zp : Program} {l : Launch} {ze : Env} {zs : State} {zm : MethodId} {za : Array Value} {zb : List Frame} {zt : Method} {zc : Code} {D : va_G} {cI cR : ClassId} {A : Nat → Prop} (κ : KC zp zs zm za zt zc cX2_firstVanFor 7 RX2 D cI cR A (some .int)) (qa : Nat → Nat) (qb : Nat → Nat) (P : Int32 → Prop) (o0 : PlT) (o1 : StT) (x2 : Int32) (r9 : Int32 → Int32 → Int32 → Prop) (v3 : Int32) (v4 : Int32) (v5 : Int32) (w0 : Int32) (hr9 : ∀ (v3 : Int32) (v4 : Int32) (v5 : Int32), r9 v3 v4 v5 → GM zp l ze ({ frames := 2, cells := 0, slots := 0, locals := 47 } : Room) zs zm za zb zt zc D A 7 (pI (fun (r : Int32) (_ : Unit) => P r)) (fun _ : Unit => (fl [cPl qa cI o0.od o0.rd o0.vn o0.pn o0.ao o0.sr o0.sp o0.wt, cSt qb cI o1.se o1.la o1.de o1.le o1.sa o1.fl o1.ar o1.dr o1.pe o1.ri])) 0 0 0 0 (fl [cPl qa cI o0.od o0.rd o0.vn o0.pn o0.ao o0.sr o0.sp o0.wt, cSt qb cI o1.se o1.la o1.de o1.le o1.sa o1.fl o1.ar o1.dr o1.pe o1.ri]) [(0, .ref (qa 0)), (1, .ref (qb 0)), (2, .int x2), (3, .int v3), (4, .int v4), (5, .int v5)] 9 []) (h : wp_X2_firstVanFor_39 P o0 o1 x2 r9 v3 v4 v5 w0) : GM zp l ze ({ frames := 2, cells := 0, slots := 0, locals := 47 } : Room) zs zm za zb zt zc D A 7 (pI (fun (r : Int32) (_ : Unit) => P r)) (fun _ : Unit => (fl [cPl qa cI o0.od o0.rd o0.vn o0.pn o0.ao o0.sr o0.sp o0.wt, cSt qb cI o1.se o1.la o1.de o1.le o1.sa o1.fl o1.ar o1.dr o1.pe o1.ri])) 0 0 0 0 (fl [cPl qa cI o0.od o0.rd o0.vn o0.pn o0.ao o0.sr o0.sp o0.wt, cSt qb cI o1.se o1.la o1.de o1.le o1.sa o1.fl o1.ar o1.dr o1.pe o1.ri]) [(0, .ref (qa 0)), (1, .ref (qb 0)), (2, .int x2), (3, .int v3), (4, .int v4), (5, .int v5)] 39 [.int w0] := by
  unfold wp_X2_firstVanFor_39 at h
  refine gw_istore (pc' := 41) κ dX2_firstVanFor_39 rfl (by decide) (lv' := [(6, .int w0), (0, .ref (qa 0)), (1, .ref (qb 0)), (2, .int x2), (3, .int v3), (4, .int v4), (5, .int v5)]) rfl ?_
  refine gw_iload (pc' := 43) κ dX2_firstVanFor_41 rfl 0 rfl ?_
  refine gw_if_eq (pc' := 46) (tgt := 69) κ dX2_firstVanFor_43 rfl (by decide) (fun hc_5 => ?_) (fun hc_5 => ?_)
  · have h := h.1 hc_5
    refine gw_iinc (pc' := 72) κ dX2_firstVanFor_69 rfl 6 rfl (v := (v5 + 1)) rfl (by decide) (lv' := [(5, .int (v5 + 1)), (6, .int w0), (0, .ref (qa 0)), (1, .ref (qb 0)), (2, .int x2), (3, .int v3), (4, .int v4)]) rfl ?_
    refine gw_goto (tgt := 9) κ dX2_firstVanFor_72 (by decide) ?_
    refine gw_lv (lv' := [(0, .ref (qa 0)), (1, .ref (qb 0)), (2, .int x2), (3, .int v3), (4, .int v4), (5, .int (v5 + 1))]) [2, 3, 4, 5, 6, 0] rfl ?_
    exact hr9 v3 v4 (v5 + 1) h
  · have h := h.2 hc_5
    refine gw_aload_n (pc' := 47) κ dX2_firstVanFor_46 rfl 1 rfl rfl ?_
    refine gw_aload_n (pc' := 48) κ dX2_firstVanFor_47 rfl 2 rfl rfl ?_
    refine gw_iload (pc' := 50) κ dX2_firstVanFor_48 rfl 6 rfl ?_
    refine gw_iload_n (pc' := 51) κ dX2_firstVanFor_50 rfl 3 rfl rfl ?_
    refine gb_callV (ci := 2) (qb := 0) (rest := []) κ (c_X2_takes qa qb o0 o1 v5 x2 h) ⟨rfl, rfl, Nat.le_of_ble_eq_true rfl, Nat.le_of_ble_eq_true rfl⟩ tw_ml_X2_74 tw_im_X2_takes tw_se_X2_takes tw_co_X2_takes tw_in_X2 hy_X2_takes rfl rfl rfl rfl rfl (Nat.le_of_ble_eq_true rfl) rfl dX2_firstVanFor_51 [0, 1] rfl (by decide) (fun _ => Nat.le_of_ble_eq_true rfl) ⟨Nat.le_of_ble_eq_true rfl, Nat.le_of_ble_eq_true rfl⟩ (fun v u hv => ?_)
    obtain ⟨r_6, rfl, h⟩ := hv
    refine gw_nf (ws' := (fl [cPl qa cI o0.od o0.rd o0.vn o0.pn o0.ao o0.sr o0.sp o0.wt, cSt qb cI o1.se o1.la o1.de o1.le o1.sa o1.fl o1.ar o1.dr o1.pe o1.ri])) (lv' := [(6, .int w0), (0, .ref (qa 0)), (1, .ref (qb 0)), (2, .int x2), (3, .int v3), (4, .int v4), (5, .int v5)]) (st' := [.int r_6]) (pc' := 54) (ce' := 0) (sl' := 0) rfl rfl rfl rfl rfl rfl ?_
    refine gw_if_eq (pc' := 57) (tgt := 69) κ dX2_firstVanFor_54 rfl (by decide) (fun hc_7 => ?_) (fun hc_7 => ?_)
    · have h := h.1 hc_7
      refine gw_iinc (pc' := 72) κ dX2_firstVanFor_69 rfl 6 rfl (v := (v5 + 1)) rfl (by decide) (lv' := [(5, .int (v5 + 1)), (6, .int w0), (0, .ref (qa 0)), (1, .ref (qb 0)), (2, .int x2), (3, .int v3), (4, .int v4)]) rfl ?_
      refine gw_goto (tgt := 9) κ dX2_firstVanFor_72 (by decide) ?_
      refine gw_lv (lv' := [(0, .ref (qa 0)), (1, .ref (qb 0)), (2, .int x2), (3, .int v3), (4, .int v4), (5, .int (v5 + 1))]) [2, 3, 4, 5, 6, 0] rfl ?_
      exact hr9 v3 v4 (v5 + 1) h
    · have h := h.2 hc_7
      refine gw_iload (pc' := 59) κ dX2_firstVanFor_57 rfl 6 rfl ?_
      refine gw_istore_n (pc' := 60) κ dX2_firstVanFor_59 rfl rfl (by decide) (lv' := [(3, .int v5), (6, .int w0), (0, .ref (qa 0)), (1, .ref (qb 0)), (2, .int x2), (4, .int v4), (5, .int v5)]) rfl ?_
      refine gw_aload_n (pc' := 61) κ dX2_firstVanFor_60 rfl 3 rfl rfl ?_
      refine gb_get (pc' := 64) (C := RX3) (T := TX3) (N := 10) κ dX2_firstVanFor_61 rfl inX3 1 rfl rfl rfl 3 (by decide) tw_fl_X2_71 rfl ?_
      refine gw_iload (pc' := 66) κ dX2_firstVanFor_64 rfl 6 rfl ?_
      obtain ⟨hb_8, h⟩ := h
      refine gb_iald (pc' := 67) κ dX2_firstVanFor_66 rfl 1 4 rfl rfl hb_8 ?_
      refine gw_istore (pc' := 69) κ dX2_firstVanFor_67 rfl (by decide) (lv' := [(4, .int (o1.le v5.toNatClampNeg)), (3, .int v5), (6, .int w0), (0, .ref (qa 0)), (1, .ref (qb 0)), (2, .int x2), (5, .int v5)]) rfl ?_
      refine gw_iinc (pc' := 72) κ dX2_firstVanFor_69 rfl 6 rfl (v := (v5 + 1)) rfl (by decide) (lv' := [(5, .int (v5 + 1)), (4, .int (o1.le v5.toNatClampNeg)), (3, .int v5), (6, .int w0), (0, .ref (qa 0)), (1, .ref (qb 0)), (2, .int x2)]) rfl ?_
      refine gw_goto (tgt := 9) κ dX2_firstVanFor_72 (by decide) ?_
      refine gw_lv (lv' := [(0, .ref (qa 0)), (1, .ref (qb 0)), (2, .int x2), (3, .int v5), (4, .int (o1.le v5.toNatClampNeg)), (5, .int (v5 + 1))]) [4, 5, 6, 2, 1, 0] rfl ?_
      exact hr9 v5 (o1.le v5.toNatClampNeg) (v5 + 1) h
set_option maxHeartbeats 4000000 in
set_option maxRecDepth 100000 in
theorem k_X2_firstVanFor_9 {zp : Program} {l : Launch} {ze : Env} {zs : State} {zm : MethodId} {za : Array Value} {zb : List Frame} {zt : Method} {zc : Code} {D : va_G} {cI cR : ClassId} {A : Nat → Prop} (κ : KC zp zs zm za zt zc cX2_firstVanFor 7 RX2 D cI cR A (some .int)) (qa : Nat → Nat) (qb : Nat → Nat) (P : Int32 → Prop) (o0 : PlT) (o1 : StT) (x2 : Int32) : ∀ (n : Nat) (v3 : Int32) (v4 : Int32) (v5 : Int32), wp_X2_firstVanFor_9 P o0 o1 x2 n v3 v4 v5 → GM zp l ze ({ frames := 2, cells := 0, slots := 0, locals := 47 } : Room) zs zm za zb zt zc D A 7 (pI (fun (r : Int32) (_ : Unit) => P r)) (fun _ : Unit => (fl [cPl qa cI o0.od o0.rd o0.vn o0.pn o0.ao o0.sr o0.sp o0.wt, cSt qb cI o1.se o1.la o1.de o1.le o1.sa o1.fl o1.ar o1.dr o1.pe o1.ri])) 0 0 0 0 (fl [cPl qa cI o0.od o0.rd o0.vn o0.pn o0.ao o0.sr o0.sp o0.wt, cSt qb cI o1.se o1.la o1.de o1.le o1.sa o1.fl o1.ar o1.dr o1.pe o1.ri]) [(0, .ref (qa 0)), (1, .ref (qb 0)), (2, .int x2), (3, .int v3), (4, .int v4), (5, .int v5)] 9 [] := by
  intro n9
  induction n9 with
  | zero => intro v3 v4 v5 h; exact (show False from h).elim
  | succ n9 ih9 =>
    intro v3 v4 v5 h
    have h : wp_X2_firstVanFor_9F P o0 o1 x2 (wp_X2_firstVanFor_9 P o0 o1 x2 n9) v3 v4 v5 := h
    unfold wp_X2_firstVanFor_9F at h
    refine gw_iload (pc' := 11) κ dX2_firstVanFor_9 rfl 5 rfl ?_
    refine gw_bipush (pc' := 13) (v := 8) κ dX2_firstVanFor_11 rfl (by decide) ?_
    refine gw_icmp_ge (pc' := 16) (tgt := 75) κ dX2_firstVanFor_13 rfl (by decide) (fun hc_1 => ?_) (fun hc_1 => ?_)
    · have h := h.1 hc_1
      refine gw_iload_n (pc' := 76) κ dX2_firstVanFor_75 rfl 3 rfl rfl ?_
      exact gw_iret κ dX2_firstVanFor_76 () rfl ⟨_, rfl, h⟩
    · have h := h.2 hc_1
      refine gw_iload_n (pc' := 17) κ dX2_firstVanFor_16 rfl 3 rfl rfl ?_
      refine gw_bipush (pc' := 19) (v := -106) κ dX2_firstVanFor_17 rfl (by decide) ?_
      refine gw_icmp_eq (pc' := 22) (tgt := 34) κ dX2_firstVanFor_19 rfl (by decide) (fun hc_2 => ?_) (fun hc_2 => ?_)
      · have h := h.1 hc_2
        refine gw_iconst (pc' := 35) (v := 1) κ dX2_firstVanFor_34 rfl (by decide) ?_
        refine gw_goto (tgt := 39) κ dX2_firstVanFor_35 (by decide) ?_
        refine gw_lv (lv' := [(0, .ref (qa 0)), (1, .ref (qb 0)), (2, .int x2), (3, .int v3), (4, .int v4), (5, .int v5)]) [0, 1, 2, 3, 4, 5] rfl ?_
        exact k_X2_firstVanFor_39 κ qa qb P o0 o1 x2 (wp_X2_firstVanFor_9 P o0 o1 x2 n9) v3 v4 v5 (1 : Int32) ih9 h
      · have h := h.2 hc_2
        refine gw_aload_n (pc' := 23) κ dX2_firstVanFor_22 rfl 1 rfl rfl ?_
        refine gb_get (pc' := 26) (C := RX3) (T := TX3) (N := 10) κ dX2_firstVanFor_23 rfl inX3 1 rfl rfl rfl 3 (by decide) tw_fl_X2_71 rfl ?_
        refine gw_iload (pc' := 28) κ dX2_firstVanFor_26 rfl 5 rfl ?_
        obtain ⟨hb_3, h⟩ := h
        refine gb_iald (pc' := 29) κ dX2_firstVanFor_28 rfl 1 4 rfl rfl hb_3 ?_
        refine gw_iload (pc' := 31) κ dX2_firstVanFor_29 rfl 4 rfl ?_
        refine gw_icmp_ge (pc' := 34) (tgt := 38) κ dX2_firstVanFor_31 rfl (by decide) (fun hc_4 => ?_) (fun hc_4 => ?_)
        · have h := h.1 hc_4
          refine gw_iconst (pc' := 39) (v := 0) κ dX2_firstVanFor_38 rfl (by decide) ?_
          refine gw_lv (lv' := [(0, .ref (qa 0)), (1, .ref (qb 0)), (2, .int x2), (3, .int v3), (4, .int v4), (5, .int v5)]) [0, 1, 2, 3, 4, 5] rfl ?_
          exact k_X2_firstVanFor_39 κ qa qb P o0 o1 x2 (wp_X2_firstVanFor_9 P o0 o1 x2 n9) v3 v4 v5 (0 : Int32) ih9 h
        · have h := h.2 hc_4
          refine gw_iconst (pc' := 35) (v := 1) κ dX2_firstVanFor_34 rfl (by decide) ?_
          refine gw_goto (tgt := 39) κ dX2_firstVanFor_35 (by decide) ?_
          refine gw_lv (lv' := [(0, .ref (qa 0)), (1, .ref (qb 0)), (2, .int x2), (3, .int v3), (4, .int v4), (5, .int v5)]) [0, 1, 2, 3, 4, 5] rfl ?_
          exact k_X2_firstVanFor_39 κ qa qb P o0 o1 x2 (wp_X2_firstVanFor_9 P o0 o1 x2 n9) v3 v4 v5 (1 : Int32) ih9 h
set_option maxHeartbeats 4000000 in
set_option maxRecDepth 100000 in
theorem c_X2_firstVanFor {l : Launch} {D : va_G} {cI cR : ClassId}  (qa : Nat → Nat) (qb : Nat → Nat) {P : Int32 → Prop} (o0 : PlT) (o1 : StT) (x2 : Int32) (h : wp_X2_firstVanFor P o0 o1 x2) : CT l D cI cR yX2_firstVanFor cX2_firstVanFor 7 (some .int) ({ frames := 2, cells := 0, slots := 0, locals := 47 } : Room) [.ref (qa 0), .ref (qb 0), .int x2] (fl [cPl qa cI o0.od o0.rd o0.vn o0.pn o0.ao o0.sr o0.sp o0.wt, cSt qb cI o1.se o1.la o1.de o1.le o1.sa o1.fl o1.ar o1.dr o1.pe o1.ri]) (fun _ : Unit => (fl [cPl qa cI o0.od o0.rd o0.vn o0.pn o0.ao o0.sr o0.sp o0.wt, cSt qb cI o1.se o1.la o1.de o1.le o1.sa o1.fl o1.ar o1.dr o1.pe o1.ri])) (pI (fun (r : Int32) (_ : Unit) => P r)) 0 0 := by
  refine ct_of RX2 rfl (by decide +kernel) (Nat.le_of_ble_eq_true rfl) (fun zp ze zs zm zb zt zc A hin κ => ?_)
  unfold wp_X2_firstVanFor at h
  refine gw_nf (lv' := [(0, .ref (qa 0)), (1, .ref (qb 0)), (2, .int x2)]) (pc' := 0) (st' := []) (ce' := 0) (sl' := 0) rfl rfl rfl rfl rfl rfl ?_
  refine gw_bipush (pc' := 2) (v := -106) κ dX2_firstVanFor_0 rfl (by decide) ?_
  refine gw_istore_n (pc' := 3) κ dX2_firstVanFor_2 rfl rfl (by decide) (lv' := [(3, .int (-106 : Int32)), (0, .ref (qa 0)), (1, .ref (qb 0)), (2, .int x2)]) rfl ?_
  refine gw_iconst (pc' := 4) (v := 0) κ dX2_firstVanFor_3 rfl (by decide) ?_
  refine gw_istore (pc' := 6) κ dX2_firstVanFor_4 rfl (by decide) (lv' := [(4, .int (0 : Int32)), (3, .int (-106 : Int32)), (0, .ref (qa 0)), (1, .ref (qb 0)), (2, .int x2)]) rfl ?_
  refine gw_iconst (pc' := 7) (v := 0) κ dX2_firstVanFor_6 rfl (by decide) ?_
  refine gw_istore (pc' := 9) κ dX2_firstVanFor_7 rfl (by decide) (lv' := [(5, .int (0 : Int32)), (4, .int (0 : Int32)), (3, .int (-106 : Int32)), (0, .ref (qa 0)), (1, .ref (qb 0)), (2, .int x2)]) rfl ?_
  obtain ⟨m9, h⟩ := h
  refine gw_lv (lv' := [(0, .ref (qa 0)), (1, .ref (qb 0)), (2, .int x2), (3, .int (-106 : Int32)), (4, .int (0 : Int32)), (5, .int (0 : Int32))]) [3, 4, 5, 2, 1, 0] rfl ?_
  exact k_X2_firstVanFor_9 κ qa qb P o0 o1 x2 m9 (-106 : Int32) (0 : Int32) (0 : Int32) h
