theorem hy_X2_lineUp : g_hy yX2_lineUp 1 := by decide +kernel
set_option maxHeartbeats 4000000 in
set_option maxRecDepth 100000 in
theorem k_X2_lineUp_69 {zp : Program} {l : Launch} {ze : Env} {zs : State} {zm : MethodId} {za : Array Value} {zb : List Frame} {zt : Method} {zc : Code} {D : va_G} {cI cR : ClassId} {A : Nat → Prop} (κ : KC zp zs zm za zt zc cX2_lineUp 4 RX2 D cI cR A none) (qa : Nat → Nat) (qb : Nat → Nat) (P : (Nat → Int32) → (Nat → Int32) → Prop) (o0 : PlT) (o1 : StT) (r2 : Int32 → (Nat → Int32) → (Nat → Int32) → Prop) (v2 : Int32) (v3 : Int32) (od : Nat → Int32) (rd : Nat → Int32) (hr2 : ∀ (v2 : Int32) (od : Nat → Int32) (rd : Nat → Int32), r2 v2 od rd → GM zp l ze ({ frames := 2, cells := 0, slots := 0, locals := 42 } : Room) zs zm za zb zt zc D A 4 (pV (fun (u : (Nat → Int32) × (Nat → Int32)) => P u.1 u.2)) (fun u : (Nat → Int32) × (Nat → Int32) => (fl [cPl qa cI u.1 u.2 o0.vn o0.pn o0.ao o0.sr o0.sp o0.wt, cSt qb cI o1.se o1.la o1.de o1.le o1.sa o1.fl o1.ar o1.dr o1.pe o1.ri])) 0 0 0 0 (fl [cPl qa cI od rd o0.vn o0.pn o0.ao o0.sr o0.sp o0.wt, cSt qb cI o1.se o1.la o1.de o1.le o1.sa o1.fl o1.ar o1.dr o1.pe o1.ri]) [(0, .ref (qa 0)), (1, .ref (qb 0)), (2, .int v2)] 2 []) (h : wp_X2_lineUp_69 P o0 o1 r2 v2 v3 od rd) : GM zp l ze ({ frames := 2, cells := 0, slots := 0, locals := 42 } : Room) zs zm za zb zt zc D A 4 (pV (fun (u : (Nat → Int32) × (Nat → Int32)) => P u.1 u.2)) (fun u : (Nat → Int32) × (Nat → Int32) => (fl [cPl qa cI u.1 u.2 o0.vn o0.pn o0.ao o0.sr o0.sp o0.wt, cSt qb cI o1.se o1.la o1.de o1.le o1.sa o1.fl o1.ar o1.dr o1.pe o1.ri])) 0 0 0 0 (fl [cPl qa cI od rd o0.vn o0.pn o0.ao o0.sr o0.sp o0.wt, cSt qb cI o1.se o1.la o1.de o1.le o1.sa o1.fl o1.ar o1.dr o1.pe o1.ri]) [(0, .ref (qa 0)), (1, .ref (qb 0)), (2, .int v2), (3, .int v3)] 69 [] := by
  unfold wp_X2_lineUp_69 at h
  refine gw_aload_n (pc' := 70) κ dX2_lineUp_69 rfl 0 rfl rfl ?_
  refine gb_get (pc' := 73) (C := RX2) (T := TX2) (N := 8) κ dX2_lineUp_70 rfl inX2 0 rfl rfl rfl 0 (by decide) tw_fl_X2_9 rfl ?_
  refine gw_iload_n (pc' := 74) κ dX2_lineUp_73 rfl 3 rfl rfl ?_
  refine gw_iload_n (pc' := 75) κ dX2_lineUp_74 rfl 2 rfl rfl ?_
  obtain ⟨hb_11, h⟩ := h
  refine gb_iast (pc' := 76) (bs' := [cPl qa cI (upd od v3.toNatClampNeg v2) rd o0.vn o0.pn o0.ao o0.sr o0.sp o0.wt, cSt qb cI o1.se o1.la o1.de o1.le o1.sa o1.fl o1.ar o1.dr o1.pe o1.ri]) κ dX2_lineUp_75 rfl 0 1 rfl rfl hb_11 rfl ?_
  refine gw_iinc (pc' := 79) κ dX2_lineUp_76 rfl 2 rfl (v := (v2 + 1)) rfl (by decide) (lv' := [(2, .int (v2 + 1)), (0, .ref (qa 0)), (1, .ref (qb 0)), (3, .int v3)]) rfl ?_
  refine gw_goto (tgt := 2) κ dX2_lineUp_79 (by decide) ?_
  refine gw_lv (lv' := [(0, .ref (qa 0)), (1, .ref (qb 0)), (2, .int (v2 + 1))]) [1, 2, 0] rfl ?_
  exact hr2 (v2 + 1) (upd od v3.toNatClampNeg v2) rd h
set_option maxHeartbeats 4000000 in
set_option maxRecDepth 100000 in
theorem k_X2_lineUp_23 {zp : Program} {l : Launch} {ze : Env} {zs : State} {zm : MethodId} {za : Array Value} {zb : List Frame} {zt : Method} {zc : Code} {D : va_G} {cI cR : ClassId} {A : Nat → Prop} (κ : KC zp zs zm za zt zc cX2_lineUp 4 RX2 D cI cR A none) (qa : Nat → Nat) (qb : Nat → Nat) (P : (Nat → Int32) → (Nat → Int32) → Prop) (o0 : PlT) (o1 : StT) (r2 : Int32 → (Nat → Int32) → (Nat → Int32) → Prop) (v2 : Int32) (rd : Nat → Int32) (hr2 : ∀ (v2 : Int32) (od : Nat → Int32) (rd : Nat → Int32), r2 v2 od rd → GM zp l ze ({ frames := 2, cells := 0, slots := 0, locals := 42 } : Room) zs zm za zb zt zc D A 4 (pV (fun (u : (Nat → Int32) × (Nat → Int32)) => P u.1 u.2)) (fun u : (Nat → Int32) × (Nat → Int32) => (fl [cPl qa cI u.1 u.2 o0.vn o0.pn o0.ao o0.sr o0.sp o0.wt, cSt qb cI o1.se o1.la o1.de o1.le o1.sa o1.fl o1.ar o1.dr o1.pe o1.ri])) 0 0 0 0 (fl [cPl qa cI od rd o0.vn o0.pn o0.ao o0.sr o0.sp o0.wt, cSt qb cI o1.se o1.la o1.de o1.le o1.sa o1.fl o1.ar o1.dr o1.pe o1.ri]) [(0, .ref (qa 0)), (1, .ref (qb 0)), (2, .int v2)] 2 []) : ∀ (n : Nat) (v3 : Int32) (od : Nat → Int32), wp_X2_lineUp_23 P o0 o1 r2 v2 rd n v3 od → GM zp l ze ({ frames := 2, cells := 0, slots := 0, locals := 42 } : Room) zs zm za zb zt zc D A 4 (pV (fun (u : (Nat → Int32) × (Nat → Int32)) => P u.1 u.2)) (fun u : (Nat → Int32) × (Nat → Int32) => (fl [cPl qa cI u.1 u.2 o0.vn o0.pn o0.ao o0.sr o0.sp o0.wt, cSt qb cI o1.se o1.la o1.de o1.le o1.sa o1.fl o1.ar o1.dr o1.pe o1.ri])) 0 0 0 0 (fl [cPl qa cI od rd o0.vn o0.pn o0.ao o0.sr o0.sp o0.wt, cSt qb cI o1.se o1.la o1.de o1.le o1.sa o1.fl o1.ar o1.dr o1.pe o1.ri]) [(0, .ref (qa 0)), (1, .ref (qb 0)), (2, .int v2), (3, .int v3)] 23 [] := by
  intro n23
  induction n23 with
  | zero => intro v3 od h; exact (show False from h).elim
  | succ n23 ih23 =>
    intro v3 od h
    have h : wp_X2_lineUp_23F P o0 o1 r2 v2 rd (wp_X2_lineUp_23 P o0 o1 r2 v2 rd n23) v3 od := h
    unfold wp_X2_lineUp_23F at h
    refine gw_iload_n (pc' := 24) κ dX2_lineUp_23 rfl 3 rfl rfl ?_
    refine gw_if_le (pc' := 27) (tgt := 69) κ dX2_lineUp_24 rfl (by decide) (fun hc_4 => ?_) (fun hc_4 => ?_)
    · have h := h.1 hc_4
      refine gw_lv (lv' := [(0, .ref (qa 0)), (1, .ref (qb 0)), (2, .int v2), (3, .int v3)]) [0, 1, 2, 3] rfl ?_
      exact k_X2_lineUp_69 κ qa qb P o0 o1 r2 v2 v3 od rd hr2 h
    · have h := h.2 hc_4
      refine gw_aload_n (pc' := 28) κ dX2_lineUp_27 rfl 0 rfl rfl ?_
      refine gb_get (pc' := 31) (C := RX2) (T := TX2) (N := 8) κ dX2_lineUp_28 rfl inX2 0 rfl rfl rfl 1 (by decide) tw_fl_X2_15 rfl ?_
      refine gw_aload_n (pc' := 32) κ dX2_lineUp_31 rfl 0 rfl rfl ?_
      refine gb_get (pc' := 35) (C := RX2) (T := TX2) (N := 8) κ dX2_lineUp_32 rfl inX2 0 rfl rfl rfl 0 (by decide) tw_fl_X2_9 rfl ?_
      refine gw_iload_n (pc' := 36) κ dX2_lineUp_35 rfl 3 rfl rfl ?_
      refine gw_iconst (pc' := 37) (v := 1) κ dX2_lineUp_36 rfl (by decide) ?_
      refine gw_isub (pc' := 38) κ dX2_lineUp_37 rfl  ?_
      obtain ⟨hb_5, h⟩ := h
      refine gb_iald (pc' := 39) κ dX2_lineUp_38 rfl 0 1 rfl rfl hb_5 ?_
      obtain ⟨hb_6, h⟩ := h
      refine gb_iald (pc' := 40) κ dX2_lineUp_39 rfl 0 2 rfl rfl hb_6 ?_
      refine gw_aload_n (pc' := 41) κ dX2_lineUp_40 rfl 0 rfl rfl ?_
      refine gb_get (pc' := 44) (C := RX2) (T := TX2) (N := 8) κ dX2_lineUp_41 rfl inX2 0 rfl rfl rfl 1 (by decide) tw_fl_X2_15 rfl ?_
      refine gw_iload_n (pc' := 45) κ dX2_lineUp_44 rfl 2 rfl rfl ?_
      obtain ⟨hb_7, h⟩ := h
      refine gb_iald (pc' := 46) κ dX2_lineUp_45 rfl 0 2 rfl rfl hb_7 ?_
      refine gw_icmp_le (pc' := 49) (tgt := 69) κ dX2_lineUp_46 rfl (by decide) (fun hc_8 => ?_) (fun hc_8 => ?_)
      · have h := h.1 hc_8
        refine gw_lv (lv' := [(0, .ref (qa 0)), (1, .ref (qb 0)), (2, .int v2), (3, .int v3)]) [0, 1, 2, 3] rfl ?_
        exact k_X2_lineUp_69 κ qa qb P o0 o1 r2 v2 v3 od rd hr2 h
      · have h := h.2 hc_8
        refine gw_aload_n (pc' := 50) κ dX2_lineUp_49 rfl 0 rfl rfl ?_
        refine gb_get (pc' := 53) (C := RX2) (T := TX2) (N := 8) κ dX2_lineUp_50 rfl inX2 0 rfl rfl rfl 0 (by decide) tw_fl_X2_9 rfl ?_
        refine gw_iload_n (pc' := 54) κ dX2_lineUp_53 rfl 3 rfl rfl ?_
        refine gw_aload_n (pc' := 55) κ dX2_lineUp_54 rfl 0 rfl rfl ?_
        refine gb_get (pc' := 58) (C := RX2) (T := TX2) (N := 8) κ dX2_lineUp_55 rfl inX2 0 rfl rfl rfl 0 (by decide) tw_fl_X2_9 rfl ?_
        refine gw_iload_n (pc' := 59) κ dX2_lineUp_58 rfl 3 rfl rfl ?_
        refine gw_iconst (pc' := 60) (v := 1) κ dX2_lineUp_59 rfl (by decide) ?_
        refine gw_isub (pc' := 61) κ dX2_lineUp_60 rfl  ?_
        obtain ⟨hb_9, h⟩ := h
        refine gb_iald (pc' := 62) κ dX2_lineUp_61 rfl 0 1 rfl rfl hb_9 ?_
        obtain ⟨hb_10, h⟩ := h
        refine gb_iast (pc' := 63) (bs' := [cPl qa cI (upd od v3.toNatClampNeg (od (v3 - (1 : Int32)).toNatClampNeg)) rd o0.vn o0.pn o0.ao o0.sr o0.sp o0.wt, cSt qb cI o1.se o1.la o1.de o1.le o1.sa o1.fl o1.ar o1.dr o1.pe o1.ri]) κ dX2_lineUp_62 rfl 0 1 rfl rfl hb_10 rfl ?_
        refine gw_iinc (pc' := 66) κ dX2_lineUp_63 rfl 3 rfl (v := (v3 + (-1))) rfl (by decide) (lv' := [(3, .int (v3 + (-1))), (0, .ref (qa 0)), (1, .ref (qb 0)), (2, .int v2)]) rfl ?_
        refine gw_goto (tgt := 23) κ dX2_lineUp_66 (by decide) ?_
        refine gw_lv (lv' := [(0, .ref (qa 0)), (1, .ref (qb 0)), (2, .int v2), (3, .int (v3 + (-1)))]) [1, 2, 3, 0] rfl ?_
        exact ih23 (v3 + (-1)) (upd od v3.toNatClampNeg (od (v3 - (1 : Int32)).toNatClampNeg)) h
set_option maxHeartbeats 4000000 in
set_option maxRecDepth 100000 in
theorem k_X2_lineUp_2 {zp : Program} {l : Launch} {ze : Env} {zs : State} {zm : MethodId} {za : Array Value} {zb : List Frame} {zt : Method} {zc : Code} {D : va_G} {cI cR : ClassId} {A : Nat → Prop} (κ : KC zp zs zm za zt zc cX2_lineUp 4 RX2 D cI cR A none) (qa : Nat → Nat) (qb : Nat → Nat) (P : (Nat → Int32) → (Nat → Int32) → Prop) (o0 : PlT) (o1 : StT) : ∀ (n : Nat) (v2 : Int32) (od : Nat → Int32) (rd : Nat → Int32), wp_X2_lineUp_2 P o0 o1 n v2 od rd → GM zp l ze ({ frames := 2, cells := 0, slots := 0, locals := 42 } : Room) zs zm za zb zt zc D A 4 (pV (fun (u : (Nat → Int32) × (Nat → Int32)) => P u.1 u.2)) (fun u : (Nat → Int32) × (Nat → Int32) => (fl [cPl qa cI u.1 u.2 o0.vn o0.pn o0.ao o0.sr o0.sp o0.wt, cSt qb cI o1.se o1.la o1.de o1.le o1.sa o1.fl o1.ar o1.dr o1.pe o1.ri])) 0 0 0 0 (fl [cPl qa cI od rd o0.vn o0.pn o0.ao o0.sr o0.sp o0.wt, cSt qb cI o1.se o1.la o1.de o1.le o1.sa o1.fl o1.ar o1.dr o1.pe o1.ri]) [(0, .ref (qa 0)), (1, .ref (qb 0)), (2, .int v2)] 2 [] := by
  intro n2
  induction n2 with
  | zero => intro v2 od rd h; exact (show False from h).elim
  | succ n2 ih2 =>
    intro v2 od rd h
    have h : wp_X2_lineUp_2F P o0 o1 (wp_X2_lineUp_2 P o0 o1 n2) v2 od rd := h
    unfold wp_X2_lineUp_2F at h
    refine gw_iload_n (pc' := 3) κ dX2_lineUp_2 rfl 2 rfl rfl ?_
    refine gw_aload_n (pc' := 4) κ dX2_lineUp_3 rfl 1 rfl rfl ?_
    refine gb_get (pc' := 7) (C := RX3) (T := TX3) (N := 10) κ dX2_lineUp_4 rfl inX3 1 rfl rfl rfl 9 (by decide) tw_fl_X2_34 rfl ?_
    refine gw_icmp_ge (pc' := 10) (tgt := 82) κ dX2_lineUp_7 rfl (by decide) (fun hc_1 => ?_) (fun hc_1 => ?_)
    · have h := h.1 hc_1
      exact gw_vret κ dX2_lineUp_82 (od, rd) rfl ⟨rfl, h⟩
    · have h := h.2 hc_1
      refine gw_aload_n (pc' := 11) κ dX2_lineUp_10 rfl 0 rfl rfl ?_
      refine gb_get (pc' := 14) (C := RX2) (T := TX2) (N := 8) κ dX2_lineUp_11 rfl inX2 0 rfl rfl rfl 1 (by decide) tw_fl_X2_15 rfl ?_
      refine gw_iload_n (pc' := 15) κ dX2_lineUp_14 rfl 2 rfl rfl ?_
      refine gw_aload_n (pc' := 16) κ dX2_lineUp_15 rfl 1 rfl rfl ?_
      refine gw_iload_n (pc' := 17) κ dX2_lineUp_16 rfl 2 rfl rfl ?_
      refine gb_callV (ci := 3) (qb := 1) (rest := [.int v2, .ref (qa 2)]) κ (c_X3_riderReady qb o1 v2 h) ⟨rfl, rfl, Nat.le_of_ble_eq_true rfl, Nat.le_of_ble_eq_true rfl⟩ tw_ml_X2_40 tw_im_X3_riderReady tw_se_X3_riderReady tw_co_X3_riderReady tw_in_X3 hy_X3_riderReady rfl rfl rfl rfl rfl (Nat.le_of_ble_eq_true rfl) rfl dX2_lineUp_17 [1] rfl (by decide) (fun _ => Nat.le_of_ble_eq_true rfl) ⟨Nat.le_of_ble_eq_true rfl, Nat.le_of_ble_eq_true rfl⟩ (fun v u hv => ?_)
      obtain ⟨r_2, rfl, h⟩ := hv
      refine gw_nf (ws' := (fl [cPl qa cI od rd o0.vn o0.pn o0.ao o0.sr o0.sp o0.wt, cSt qb cI o1.se o1.la o1.de o1.le o1.sa o1.fl o1.ar o1.dr o1.pe o1.ri])) (lv' := [(0, .ref (qa 0)), (1, .ref (qb 0)), (2, .int v2)]) (st' := [.int r_2, .int v2, .ref (qa 2)]) (pc' := 20) (ce' := 0) (sl' := 0) rfl rfl rfl rfl rfl rfl ?_
      obtain ⟨hb_3, h⟩ := h
      refine gb_iast (pc' := 21) (bs' := [cPl qa cI od (upd rd v2.toNatClampNeg r_2) o0.vn o0.pn o0.ao o0.sr o0.sp o0.wt, cSt qb cI o1.se o1.la o1.de o1.le o1.sa o1.fl o1.ar o1.dr o1.pe o1.ri]) κ dX2_lineUp_20 rfl 0 2 rfl rfl hb_3 rfl ?_
      refine gw_iload_n (pc' := 22) κ dX2_lineUp_21 rfl 2 rfl rfl ?_
      refine gw_istore_n (pc' := 23) κ dX2_lineUp_22 rfl rfl (by decide) (lv' := [(3, .int v2), (0, .ref (qa 0)), (1, .ref (qb 0)), (2, .int v2)]) rfl ?_
      obtain ⟨m23, h⟩ := h
      refine gw_lv (lv' := [(0, .ref (qa 0)), (1, .ref (qb 0)), (2, .int v2), (3, .int v2)]) [1, 2, 3, 0] rfl ?_
      exact k_X2_lineUp_23 κ qa qb P o0 o1 (wp_X2_lineUp_2 P o0 o1 n2) v2 (upd rd v2.toNatClampNeg r_2) ih2 m23 v2 od h
set_option maxHeartbeats 4000000 in
set_option maxRecDepth 100000 in
theorem c_X2_lineUp {l : Launch} {D : va_G} {cI cR : ClassId}  (qa : Nat → Nat) (qb : Nat → Nat) {P : (Nat → Int32) → (Nat → Int32) → Prop} (o0 : PlT) (o1 : StT) (h : wp_X2_lineUp P o0 o1) : CT l D cI cR yX2_lineUp cX2_lineUp 4 none ({ frames := 2, cells := 0, slots := 0, locals := 42 } : Room) [.ref (qa 0), .ref (qb 0)] (fl [cPl qa cI o0.od o0.rd o0.vn o0.pn o0.ao o0.sr o0.sp o0.wt, cSt qb cI o1.se o1.la o1.de o1.le o1.sa o1.fl o1.ar o1.dr o1.pe o1.ri]) (fun u : (Nat → Int32) × (Nat → Int32) => (fl [cPl qa cI u.1 u.2 o0.vn o0.pn o0.ao o0.sr o0.sp o0.wt, cSt qb cI o1.se o1.la o1.de o1.le o1.sa o1.fl o1.ar o1.dr o1.pe o1.ri])) (pV (fun (u : (Nat → Int32) × (Nat → Int32)) => P u.1 u.2)) 0 0 := by
  refine ct_of RX2 rfl (by decide +kernel) (Nat.le_of_ble_eq_true rfl) (fun zp ze zs zm zb zt zc A hin κ => ?_)
  unfold wp_X2_lineUp at h
  refine gw_nf (lv' := [(0, .ref (qa 0)), (1, .ref (qb 0))]) (pc' := 0) (st' := []) (ce' := 0) (sl' := 0) rfl rfl rfl rfl rfl rfl ?_
  refine gw_iconst (pc' := 1) (v := 0) κ dX2_lineUp_0 rfl (by decide) ?_
  refine gw_istore_n (pc' := 2) κ dX2_lineUp_1 rfl rfl (by decide) (lv' := [(2, .int (0 : Int32)), (0, .ref (qa 0)), (1, .ref (qb 0))]) rfl ?_
  obtain ⟨m2, h⟩ := h
  refine gw_lv (lv' := [(0, .ref (qa 0)), (1, .ref (qb 0)), (2, .int (0 : Int32))]) [1, 2, 0] rfl ?_
  exact k_X2_lineUp_2 κ qa qb P o0 o1 m2 (0 : Int32) o0.od o0.rd h
