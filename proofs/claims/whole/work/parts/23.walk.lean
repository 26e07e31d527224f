theorem hy_X5_fullest : g_hy yX5_fullest 0 := by decide +kernel
set_option maxHeartbeats 4000000 in
set_option maxRecDepth 100000 in
theorem k_X5_fullest_7 {zp : Program} {l : Launch} {ze : Env} {zs : State} {zm : MethodId} {za : Array Value} {zb : List Frame} {zt : Method} {zc : Code} {D : va_G} {cI cR : ClassId} {A : Nat → Prop} (κ : KC zp zs zm za zt zc cX5_fullest 4 RX5 D cI cR A (some .int)) (qx : Nat → Nat) (qn : Nat → Nat) (qp : Nat → Nat) (qw : Nat → Nat) (qt : Nat → Nat) (qu : Nat → Nat) (qd : Nat → Nat) (qh : Nat → Nat) (ql : Nat → Nat) (qs : Nat → Nat → Nat) (P : Int32 → Prop) (pln : PlT) : ∀ (n : Nat) (v1 : Int32) (v2 : Int32) (v3 : Int32), wp_X5_fullest_7 P pln n v1 v2 v3 → GM zp l ze ({ frames := 0, cells := 0, slots := 0, locals := 0 } : Room) zs zm za zb zt zc D A 4 (pI (fun (r : Int32) (_ : Unit) => P r)) (fun _ : Unit => (wfl [cX qx qn qp qw qt qu qd qh ql, cPl qp cI pln.od pln.rd pln.vn pln.pn pln.ao pln.sr pln.sp pln.wt])) 0 0 0 0 (wfl [cX qx qn qp qw qt qu qd qh ql, cPl qp cI pln.od pln.rd pln.vn pln.pn pln.ao pln.sr pln.sp pln.wt]) [(0, .ref (qx 0)), (1, .int v1), (2, .int v2), (3, .int v3)] 7 [] := by
  intro n7
  induction n7 with
  | zero => intro v1 v2 v3 h; exact (show False from h).elim
  | succ n7 ih7 =>
    intro v1 v2 v3 h
    have h : wp_X5_fullest_7F P pln (wp_X5_fullest_7 P pln n7) v1 v2 v3 := h
    unfold wp_X5_fullest_7F at h
    refine gw_iload_n (pc' := 8) κ dX5_fullest_7 rfl 3 rfl rfl ?_
    refine gw_bipush (pc' := 10) (v := 8) κ dX5_fullest_8 rfl (by decide) ?_
    refine gw_icmp_ge (pc' := 13) (tgt := 44) κ dX5_fullest_10 rfl (by decide) (fun hc_1 => ?_) (fun hc_1 => ?_)
    · have h := h.1 hc_1
      refine gw_iload_n (pc' := 45) κ dX5_fullest_44 rfl 1 rfl rfl ?_
      exact gw_iret κ dX5_fullest_45 () rfl ⟨_, rfl, h⟩
    · have h := h.2 hc_1
      refine gw_aload_n (pc' := 14) κ dX5_fullest_13 rfl 0 rfl rfl ?_
      refine gb_get (pc' := 17) (C := RX5) (T := TX5) (N := 8) κ dX5_fullest_14 rfl inX5 0 rfl rfl rfl 1 (by decide) tw_fl_X5_19 rfl ?_
      refine gb_get (pc' := 20) (C := RX2) (T := TX2) (N := 8) κ dX5_fullest_17 rfl inX2 1 rfl rfl rfl 3 (by decide) tw_fl_X5_167 rfl ?_
      refine gw_iload_n (pc' := 21) κ dX5_fullest_20 rfl 3 rfl rfl ?_
      obtain ⟨hb_2, h⟩ := h
      refine gb_iald (pc' := 22) κ dX5_fullest_21 rfl 1 4 rfl rfl hb_2 ?_
      refine gw_iload_n (pc' := 23) κ dX5_fullest_22 rfl 2 rfl rfl ?_
      refine gw_icmp_le (pc' := 26) (tgt := 38) κ dX5_fullest_23 rfl (by decide) (fun hc_3 => ?_) (fun hc_3 => ?_)
      · have h := h.1 hc_3
        refine gw_iinc (pc' := 41) κ dX5_fullest_38 rfl 3 rfl (v := (v3 + 1)) rfl (by decide) (lv' := [(3, .int (v3 + 1)), (0, .ref (qx 0)), (1, .int v1), (2, .int v2)]) rfl ?_
        refine gw_goto (tgt := 7) κ dX5_fullest_41 (by decide) ?_
        refine gw_lv (lv' := [(0, .ref (qx 0)), (1, .int v1), (2, .int v2), (3, .int (v3 + 1))]) [1, 2, 3, 0] rfl ?_
        exact ih7 v1 v2 (v3 + 1) h
      · have h := h.2 hc_3
        refine gw_iload_n (pc' := 27) κ dX5_fullest_26 rfl 3 rfl rfl ?_
        refine gw_istore_n (pc' := 28) κ dX5_fullest_27 rfl rfl (by decide) (lv' := [(1, .int v3), (0, .ref (qx 0)), (2, .int v2), (3, .int v3)]) rfl ?_
        refine gw_aload_n (pc' := 29) κ dX5_fullest_28 rfl 1 rfl rfl ?_
        refine gb_get (pc' := 32) (C := RX5) (T := TX5) (N := 8) κ dX5_fullest_29 rfl inX5 0 rfl rfl rfl 1 (by decide) tw_fl_X5_19 rfl ?_
        refine gb_get (pc' := 35) (C := RX2) (T := TX2) (N := 8) κ dX5_fullest_32 rfl inX2 1 rfl rfl rfl 3 (by decide) tw_fl_X5_167 rfl ?_
        refine gw_iload_n (pc' := 36) κ dX5_fullest_35 rfl 3 rfl rfl ?_
        obtain ⟨hb_4, h⟩ := h
        refine gb_iald (pc' := 37) κ dX5_fullest_36 rfl 1 4 rfl rfl hb_4 ?_
        refine gw_istore_n (pc' := 38) κ dX5_fullest_37 rfl rfl (by decide) (lv' := [(2, .int (pln.pn v3.toNatClampNeg)), (1, .int v3), (0, .ref (qx 0)), (3, .int v3)]) rfl ?_
        refine gw_iinc (pc' := 41) κ dX5_fullest_38 rfl 3 rfl (v := (v3 + 1)) rfl (by decide) (lv' := [(3, .int (v3 + 1)), (2, .int (pln.pn v3.toNatClampNeg)), (1, .int v3), (0, .ref (qx 0))]) rfl ?_
        refine gw_goto (tgt := 7) κ dX5_fullest_41 (by decide) ?_
        refine gw_lv (lv' := [(0, .ref (qx 0)), (1, .int v3), (2, .int (pln.pn v3.toNatClampNeg)), (3, .int (v3 + 1))]) [3, 2, 1, 0] rfl ?_
        exact ih7 v3 (pln.pn v3.toNatClampNeg) (v3 + 1) h
set_option maxHeartbeats 4000000 in
set_option maxRecDepth 100000 in
theorem c_X5_fullest {l : Launch} {D : va_G} {cI cR : ClassId}  (qx : Nat → Nat) (qn : Nat → Nat) (qp : Nat → Nat) (qw : Nat → Nat) (qt : Nat → Nat) (qu : Nat → Nat) (qd : Nat → Nat) (qh : Nat → Nat) (ql : Nat → Nat) (qs : Nat → Nat → Nat) {P : Int32 → Prop} (pln : PlT) (h : wp_X5_fullest P pln) : CT l D cI cR yX5_fullest cX5_fullest 4 (some .int) ({ frames := 0, cells := 0, slots := 0, locals := 0 } : Room) [.ref (qx 0)] (wfl [cX qx qn qp qw qt qu qd qh ql, cPl qp cI pln.od pln.rd pln.vn pln.pn pln.ao pln.sr pln.sp pln.wt]) (fun _ : Unit => (wfl [cX qx qn qp qw qt qu qd qh ql, cPl qp cI pln.od pln.rd pln.vn pln.pn pln.ao pln.sr pln.sp pln.wt])) (pI (fun (r : Int32) (_ : Unit) => P r)) 0 0 := by
  refine ct_of RX5 rfl (by decide +kernel) (Nat.le_of_ble_eq_true rfl) (fun zp ze zs zm zb zt zc A hin κ => ?_)
  unfold wp_X5_fullest at h
  refine gw_nf (lv' := [(0, .ref (qx 0))]) (pc' := 0) (st' := []) (ce' := 0) (sl' := 0) rfl rfl rfl rfl rfl rfl ?_
  refine gw_bipush (pc' := 2) (v := -106) κ dX5_fullest_0 rfl (by decide) ?_
  refine gw_istore_n (pc' := 3) κ dX5_fullest_2 rfl rfl (by decide) (lv' := [(1, .int (-106 : Int32)), (0, .ref (qx 0))]) rfl ?_
  refine gw_iconst (pc' := 4) (v := 0) κ dX5_fullest_3 rfl (by decide) ?_
  refine gw_istore_n (pc' := 5) κ dX5_fullest_4 rfl rfl (by decide) (lv' := [(2, .int (0 : Int32)), (1, .int (-106 : Int32)), (0, .ref (qx 0))]) rfl ?_
  refine gw_iconst (pc' := 6) (v := 0) κ dX5_fullest_5 rfl (by decide) ?_
  refine gw_istore_n (pc' := 7) κ dX5_fullest_6 rfl rfl (by decide) (lv' := [(3, .int (0 : Int32)), (2, .int (0 : Int32)), (1, .int (-106 : Int32)), (0, .ref (qx 0))]) rfl ?_
  obtain ⟨m7, h⟩ := h
  refine gw_lv (lv' := [(0, .ref (qx 0)), (1, .int (-106 : Int32)), (2, .int (0 : Int32)), (3, .int (0 : Int32))]) [3, 2, 1, 0] rfl ?_
  exact k_X5_fullest_7 κ qx qn qp qw qt qu qd qh ql qs P pln m7 (-106 : Int32) (0 : Int32) (0 : Int32) h
theorem hy_X1_charactersIn : g_hy yX1_charactersIn 1 := by decide +kernel
set_option maxHeartbeats 4000000 in
set_option maxRecDepth 100000 in
theorem k_X1_charactersIn_4 {zp : Program} {l : Launch} {ze : Env} {zs : State} {zm : MethodId} {za : Array Value} {zb : List Frame} {zt : Method} {zc : Code} {D : va_G} {cI cR : ClassId} {A : Nat → Prop} (κ : KC zp zs zm za zt zc cX1_charactersIn 5 RX1 D cI cR A (some .int)) (P : Int32 → Prop) (x0 : Int64) : ∀ (n : Nat) (v2 : Int32) (v3 : Int64), wp_X1_charactersIn_4 P x0 n v2 v3 → GM zp l ze ({ frames := 1, cells := 0, slots := 0, locals := 22 } : Room) zs zm za zb zt zc D A 5 (pI (fun (r : Int32) (_ : Unit) => P r)) (fun _ : Unit => (wfl ([] : List va_W))) 0 0 0 0 (wfl ([] : List va_W)) [(2, .int v2), (3, .long v3)] 4 [] := by
  intro n4
  induction n4 with
  | zero => intro v2 v3 h; exact (show False from h).elim
  | succ n4 ih4 =>
    intro v2 v3 h
    have h : wp_X1_charactersIn_4F P x0 (wp_X1_charactersIn_4 P x0 n4) v2 v3 := h
    unfold wp_X1_charactersIn_4F at h
    refine gw_lload_n (pc' := 5) κ dX1_charactersIn_4 rfl 1 rfl rfl ?_
    refine gw_lconst (pc' := 6) (v := 0) κ dX1_charactersIn_5 rfl (by decide) ?_
    refine gw_lcmp (pc' := 7) κ dX1_charactersIn_6 rfl  ?_
    refine gw_if_eq (pc' := 10) (tgt := 45) κ dX1_charactersIn_7 rfl (by decide) (fun hc_1 => ?_) (fun hc_1 => ?_)
    · have h := h.1 hc_1
      refine gw_iload_n (pc' := 46) κ dX1_charactersIn_45 rfl 0 rfl rfl ?_
      exact gw_iret κ dX1_charactersIn_46 () rfl ⟨_, rfl, h⟩
    · have h := h.2 hc_1
      refine gw_iload_n (pc' := 11) κ dX1_charactersIn_10 rfl 0 rfl rfl ?_
      refine gw_bipush (pc' := 13) (v := 8) κ dX1_charactersIn_11 rfl (by decide) ?_
      refine gw_icmp_ge (pc' := 16) (tgt := 45) κ dX1_charactersIn_13 rfl (by decide) (fun hc_2 => ?_) (fun hc_2 => ?_)
      · have h := h.1 hc_2
        refine gw_iload_n (pc' := 46) κ dX1_charactersIn_45 rfl 0 rfl rfl ?_
        exact gw_iret κ dX1_charactersIn_46 () rfl ⟨_, rfl, h⟩
      · have h := h.2 hc_2
        refine gw_lload_n (pc' := 17) κ dX1_charactersIn_16 rfl 1 rfl rfl ?_
        refine gw_ldc2 (pc' := 20) κ dX1_charactersIn_17 rfl tw_cL_X1_15 ?_
        refine gw_land (pc' := 21) κ dX1_charactersIn_20 rfl  ?_
        refine gw_l2i (pc' := 22) κ dX1_charactersIn_21 rfl  ?_
        refine gw_bipush (pc' := 24) (v := 33) κ dX1_charactersIn_22 rfl (by decide) ?_
        refine gw_bipush (pc' := 26) (v := 126) κ dX1_charactersIn_24 rfl (by decide) ?_
        refine gb_callSN (rest := []) κ (c_X5_isIn  (((v3 &&& (255 : Int64))).toInt32) (33 : Int32) (126 : Int32) h) ⟨rfl, rfl, Nat.le_of_ble_eq_true rfl, Nat.le_of_ble_eq_true rfl⟩ κ.2.2.2.1.2.2.2.2.2.2.2.2.2.1 tw_st_X5_isIn tw_co_X5_isIn tw_in_X5 hy_X5_isIn rfl (Nat.le_of_ble_eq_true rfl) rfl dX1_charactersIn_26 [] rfl (by decide) (fun _ => Nat.le_of_ble_eq_true rfl) ⟨Nat.le_of_ble_eq_true rfl, Nat.le_of_ble_eq_true rfl⟩ (fun v u hv => ?_)
        obtain ⟨r_3, rfl, h⟩ := hv
        refine gw_nf (ws' := (wfl ([] : List va_W))) (lv' := [(2, .int v2), (3, .long v3)]) (st' := [.int r_3]) (pc' := 29) (ce' := 0) (sl' := 0) rfl rfl rfl rfl rfl rfl ?_
        refine gw_if_ne (pc' := 32) (tgt := 34) κ dX1_charactersIn_29 rfl (by decide) (fun hc_4 => ?_) (fun hc_4 => ?_)
        · have h := h.1 hc_4
          refine gw_lload_n (pc' := 35) κ dX1_charactersIn_34 rfl 1 rfl rfl ?_
          refine gw_bipush (pc' := 37) (v := 8) κ dX1_charactersIn_35 rfl (by decide) ?_
          refine gw_lushr (pc' := 38) κ dX1_charactersIn_37 rfl  ?_
          refine gw_topl (fun y_5 hy_5 => ?_)
          have h := h y_5 hy_5
          refine gw_lstore_n (pc' := 39) κ dX1_charactersIn_38 rfl rfl (by decide) (lv' := [(3, .long y_5), (2, .int v2)]) rfl ?_
          refine gw_iinc (pc' := 42) κ dX1_charactersIn_39 rfl 1 rfl (v := (v2 + 1)) rfl (by decide) (lv' := [(2, .int (v2 + 1)), (3, .long y_5)]) rfl ?_
          refine gw_goto (tgt := 4) κ dX1_charactersIn_42 (by decide) ?_
          refine gw_lv (lv' := [(2, .int (v2 + 1)), (3, .long y_5)]) [0, 1] rfl ?_
          exact ih4 (v2 + 1) y_5 h
        · have h := h.2 hc_4
          refine gw_iconst (pc' := 33) (v := 0) κ dX1_charactersIn_32 rfl (by decide) ?_
          exact gw_iret κ dX1_charactersIn_33 () rfl ⟨_, rfl, h⟩
set_option maxHeartbeats 4000000 in
set_option maxRecDepth 100000 in
theorem c_X1_charactersIn {l : Launch} {D : va_G} {cI cR : ClassId}  {P : Int32 → Prop} (x0 : Int64) (h : wp_X1_charactersIn P x0) : CT l D cI cR yX1_charactersIn cX1_charactersIn 5 (some .int) ({ frames := 1, cells := 0, slots := 0, locals := 22 } : Room) [.long x0] (wfl ([] : List va_W)) (fun _ : Unit => (wfl ([] : List va_W))) (pI (fun (r : Int32) (_ : Unit) => P r)) 0 0 := by
  refine ct_of RX1 rfl (by decide +kernel) (Nat.le_of_ble_eq_true rfl) (fun zp ze zs zm zb zt zc A hin κ => ?_)
  unfold wp_X1_charactersIn at h
  refine gw_nf (lv' := [(0, .long x0)]) (pc' := 0) (st' := []) (ce' := 0) (sl' := 0) rfl rfl rfl rfl rfl rfl ?_
  refine gw_iconst (pc' := 1) (v := 0) κ dX1_charactersIn_0 rfl (by decide) ?_
  refine gw_istore_n (pc' := 2) κ dX1_charactersIn_1 rfl rfl (by decide) (lv' := [(2, .int (0 : Int32)), (0, .long x0)]) rfl ?_
  refine gw_lload_n (pc' := 3) κ dX1_charactersIn_2 rfl 1 rfl rfl ?_
  refine gw_lstore_n (pc' := 4) κ dX1_charactersIn_3 rfl rfl (by decide) (lv' := [(3, .long x0), (2, .int (0 : Int32)), (0, .long x0)]) rfl ?_
  obtain ⟨m4, h⟩ := h
  refine gw_lv (lv' := [(2, .int (0 : Int32)), (3, .long x0)]) [1, 0] rfl ?_
  exact k_X1_charactersIn_4 κ P x0 m4 (0 : Int32) x0 h
theorem hy_X1_append : g_hy yX1_append 2 := by decide +kernel
set_option maxHeartbeats 4000000 in
set_option maxRecDepth 100000 in
theorem k_X1_append_29 {zp : Program} {l : Launch} {ze : Env} {zs : State} {zm : MethodId} {za : Array Value} {zb : List Frame} {zt : Method} {zc : Code} {D : va_G} {cI cR : ClassId} {A : Nat → Prop} (κ : KC zp zs zm za zt zc cX1_append 7 RX1 D cI cR A none) (qa : Nat → Nat) (P : (Nat → Int32) → Int32 → Prop) (o0 : PdT) (x1 : Int64) (x3 : Int32) (ln : Int32) : ∀ (n : Nat) (v4 : Int64) (v6 : Int32) (co : Nat → Int32), wp_X1_append_29 P o0 x1 x3 ln n v4 v6 co → GM zp l ze ({ frames := 0, cells := 0, slots := 0, locals := 0 } : Room) zs zm za zb zt zc D A 7 (pV (fun (u : (Nat → Int32) × Int32) => P u.1 u.2)) (fun u : (Nat → Int32) × Int32 => (wfl [cPd qa cI u.1 u.2])) 0 0 0 0 (wfl [cPd qa cI co ln]) [(0, .ref (qa 0)), (3, .int x3), (4, .long v4), (6, .int v6)] 29 [] := by
  intro n29
  induction n29 with
  | zero => intro v4 v6 co h; exact (show False from h).elim
  | succ n29 ih29 =>
    intro v4 v6 co h
    have h : wp_X1_append_29F P o0 x1 x3 ln (wp_X1_append_29 P o0 x1 x3 ln n29) v4 v6 co := h
    unfold wp_X1_append_29F at h
    refine gw_iload (pc' := 31) κ dX1_append_29 rfl 3 rfl ?_
    refine gw_aload_n (pc' := 32) κ dX1_append_31 rfl 0 rfl rfl ?_
    refine gb_get (pc' := 35) (C := RX1) (T := TX1) (N := 2) κ dX1_append_32 rfl inX1 0 rfl rfl rfl 1 (by decide) tw_fl_X1_21 rfl ?_
    refine gw_icmp_lt (pc' := 38) (tgt := 65) κ dX1_append_35 rfl (by decide) (fun hc_3 => ?_) (fun hc_3 => ?_)
    · have h := h.1 hc_3
      refine gw_aload_n (pc' := 66) κ dX1_append_65 rfl 0 rfl rfl ?_
      refine gw_dup (pc' := 67) κ dX1_append_66 rfl rfl ?_
      refine gb_get (pc' := 70) (C := RX1) (T := TX1) (N := 2) κ dX1_append_67 rfl inX1 0 rfl rfl rfl 1 (by decide) tw_fl_X1_21 rfl ?_
      refine gw_iload_n (pc' := 71) κ dX1_append_70 rfl 1 rfl rfl ?_
      refine gw_iadd (pc' := 72) κ dX1_append_71 rfl  ?_
      refine gb_put (pc' := 75) (C := RX1) (T := TX1) (N := 2) (ty := .int) (bs' := [cPd qa cI co (ln + x3)]) κ dX1_append_72 rfl inX1 tyX1 tyX1_ok nmX1 0 rfl rfl rfl 1 (by decide) tw_fl_X1_21 rfl (by decide +kernel) rfl rfl (Nat.le_of_ble_eq_true rfl) rfl ?_
      exact gw_vret κ dX1_append_75 (co, (ln + x3)) rfl ⟨rfl, h⟩
    · have h := h.2 hc_3
      refine gw_aload_n (pc' := 39) κ dX1_append_38 rfl 0 rfl rfl ?_
      refine gb_get (pc' := 42) (C := RX1) (T := TX1) (N := 2) κ dX1_append_39 rfl inX1 0 rfl rfl rfl 0 (by decide) tw_fl_X1_9 rfl ?_
      refine gw_iload (pc' := 44) κ dX1_append_42 rfl 3 rfl ?_
      refine gw_lload (pc' := 46) κ dX1_append_44 rfl 2 rfl ?_
      refine gw_ldc2 (pc' := 49) κ dX1_append_46 rfl tw_cL_X1_15 ?_
      refine gw_land (pc' := 50) κ dX1_append_49 rfl  ?_
      refine gw_l2i (pc' := 51) κ dX1_append_50 rfl  ?_
      obtain ⟨hb_4, h⟩ := h
      refine gb_iast (pc' := 52) (bs' := [cPd qa cI (upd co v6.toNatClampNeg (((v4 &&& (255 : Int64))).toInt32)) ln]) κ dX1_append_51 rfl 0 1 rfl rfl hb_4 rfl ?_
      refine gw_lload (pc' := 54) κ dX1_append_52 rfl 2 rfl ?_
      refine gw_bipush (pc' := 56) (v := 8) κ dX1_append_54 rfl (by decide) ?_
      refine gw_lushr (pc' := 57) κ dX1_append_56 rfl  ?_
      refine gw_topl (fun y_5 hy_5 => ?_)
      have h := h y_5 hy_5
      refine gw_lstore (pc' := 59) κ dX1_append_57 rfl (by decide) (lv' := [(4, .long y_5), (0, .ref (qa 0)), (3, .int x3), (6, .int v6)]) rfl ?_
      refine gw_iinc (pc' := 62) κ dX1_append_59 rfl 3 rfl (v := (v6 + (-1))) rfl (by decide) (lv' := [(6, .int (v6 + (-1))), (4, .long y_5), (0, .ref (qa 0)), (3, .int x3)]) rfl ?_
      refine gw_goto (tgt := 29) κ dX1_append_62 (by decide) ?_
      refine gw_lv (lv' := [(0, .ref (qa 0)), (3, .int x3), (4, .long y_5), (6, .int (v6 + (-1)))]) [2, 3, 1, 0] rfl ?_
      exact ih29 y_5 (v6 + (-1)) (upd co v6.toNatClampNeg (((v4 &&& (255 : Int64))).toInt32)) h
set_option maxHeartbeats 4000000 in
set_option maxRecDepth 100000 in
theorem c_X1_append {l : Launch} {D : va_G} {cI cR : ClassId}  (qa : Nat → Nat) {P : (Nat → Int32) → Int32 → Prop} (o0 : PdT) (x1 : Int64) (x3 : Int32) (h : wp_X1_append P o0 x1 x3) : CT l D cI cR yX1_append cX1_append 7 none ({ frames := 0, cells := 0, slots := 0, locals := 0 } : Room) [.ref (qa 0), .long x1, .int x3] (wfl [cPd qa cI o0.co o0.ln]) (fun u : (Nat → Int32) × Int32 => (wfl [cPd qa cI u.1 u.2])) (pV (fun (u : (Nat → Int32) × Int32) => P u.1 u.2)) 0 0 := by
  refine ct_of RX1 rfl (by decide +kernel) (Nat.le_of_ble_eq_true rfl) (fun zp ze zs zm zb zt zc A hin κ => ?_)
  unfold wp_X1_append at h
  refine gw_nf (lv' := [(0, .ref (qa 0)), (1, .long x1), (3, .int x3)]) (pc' := 0) (st' := []) (ce' := 0) (sl' := 0) rfl rfl rfl rfl rfl rfl ?_
  refine gw_iload_n (pc' := 1) κ dX1_append_0 rfl 2 rfl rfl ?_
  refine gw_if_lt (pc' := 4) (tgt := 15) κ dX1_append_1 rfl (by decide) (fun hc_1 => ?_) (fun hc_1 => ?_)
  · have h := h.1 hc_1
    exact gw_vret κ dX1_append_15 (o0.co, o0.ln) rfl ⟨rfl, h⟩
  · have h := h.2 hc_1
    refine gw_aload_n (pc' := 5) κ dX1_append_4 rfl 0 rfl rfl ?_
    refine gb_get (pc' := 8) (C := RX1) (T := TX1) (N := 2) κ dX1_append_5 rfl inX1 0 rfl rfl rfl 1 (by decide) tw_fl_X1_21 rfl ?_
    refine gw_iload_n (pc' := 9) κ dX1_append_8 rfl 2 rfl rfl ?_
    refine gw_iadd (pc' := 10) κ dX1_append_9 rfl  ?_
    refine gw_bipush (pc' := 12) (v := 60) κ dX1_append_10 rfl (by decide) ?_
    refine gw_icmp_le (pc' := 15) (tgt := 16) κ dX1_append_12 rfl (by decide) (fun hc_2 => ?_) (fun hc_2 => ?_)
    · have h := h.1 hc_2
      refine gw_lload_n (pc' := 17) κ dX1_append_16 rfl 1 rfl rfl ?_
      refine gw_lstore (pc' := 19) κ dX1_append_17 rfl (by decide) (lv' := [(4, .long x1), (0, .ref (qa 0)), (1, .long x1), (3, .int x3)]) rfl ?_
      refine gw_aload_n (pc' := 20) κ dX1_append_19 rfl 1 rfl rfl ?_
      refine gb_get (pc' := 23) (C := RX1) (T := TX1) (N := 2) κ dX1_append_20 rfl inX1 0 rfl rfl rfl 1 (by decide) tw_fl_X1_21 rfl ?_
      refine gw_iload_n (pc' := 24) κ dX1_append_23 rfl 3 rfl rfl ?_
      refine gw_iadd (pc' := 25) κ dX1_append_24 rfl  ?_
      refine gw_iconst (pc' := 26) (v := 1) κ dX1_append_25 rfl (by decide) ?_
      refine gw_isub (pc' := 27) κ dX1_append_26 rfl  ?_
      refine gw_istore (pc' := 29) κ dX1_append_27 rfl (by decide) (lv' := [(6, .int ((o0.ln + x3) - (1 : Int32))), (4, .long x1), (0, .ref (qa 0)), (1, .long x1), (3, .int x3)]) rfl ?_
      obtain ⟨m29, h⟩ := h
      refine gw_lv (lv' := [(0, .ref (qa 0)), (3, .int x3), (4, .long x1), (6, .int ((o0.ln + x3) - (1 : Int32)))]) [2, 4, 1, 0] rfl ?_
      exact k_X1_append_29 κ qa P o0 x1 x3 o0.ln m29 x1 ((o0.ln + x3) - (1 : Int32)) o0.co h
    · have h := h.2 hc_2
      exact gw_vret κ dX1_append_15 (o0.co, o0.ln) rfl ⟨rfl, h⟩
theorem hy_X5_put : g_hy yX5_put 1 := by decide +kernel
set_option maxHeartbeats 4000000 in
set_option maxRecDepth 100000 in
theorem c_X5_put {l : Launch} {D : va_G} {cI cR : ClassId}  (qx : Nat → Nat) (qn : Nat → Nat) (qp : Nat → Nat) (qw : Nat → Nat) (qt : Nat → Nat) (qu : Nat → Nat) (qd : Nat → Nat) (qh : Nat → Nat) (ql : Nat → Nat) (qs : Nat → Nat → Nat) {P : Int32 → (Nat → Int32) → Int32 → Prop} (pad : PdT) (x1 : Int64) (h : wp_X5_put P pad x1) : CT l D cI cR yX5_put cX5_put 4 (some .int) ({ frames := 2, cells := 0, slots := 0, locals := 46 } : Room) [.ref (qx 0), .long x1] (wfl [cX qx qn qp qw qt qu qd qh ql, cPd qd cI pad.co pad.ln]) (fun u : (Nat → Int32) × Int32 => (wfl [cX qx qn qp qw qt qu qd qh ql, cPd qd cI u.1 u.2])) (pI (fun (r : Int32) (u : (Nat → Int32) × Int32) => P r u.1 u.2)) 0 0 := by
  refine ct_of RX5 rfl (by decide +kernel) (Nat.le_of_ble_eq_true rfl) (fun zp ze zs zm zb zt zc A hin κ => ?_)
  unfold wp_X5_put at h
  refine gw_nf (lv' := [(0, .ref (qx 0)), (1, .long x1)]) (pc' := 0) (st' := []) (ce' := 0) (sl' := 0) rfl rfl rfl rfl rfl rfl ?_
  refine gw_lload_n (pc' := 1) κ dX5_put_0 rfl 1 rfl rfl ?_
  refine gb_callS (rest := []) κ (c_X1_charactersIn  x1 h) ⟨rfl, rfl, Nat.le_of_ble_eq_true rfl, Nat.le_of_ble_eq_true rfl⟩ tw_ml_X5_240 tw_st_X1_charactersIn tw_co_X1_charactersIn tw_in_X1 hy_X1_charactersIn rfl (Nat.le_of_ble_eq_true rfl) rfl dX5_put_1 [] rfl (by decide) (fun _ => Nat.le_of_ble_eq_true rfl) ⟨Nat.le_of_ble_eq_true rfl, Nat.le_of_ble_eq_true rfl⟩ (fun v u hv => ?_)
  obtain ⟨r_1, rfl, h⟩ := hv
  refine gw_nf (ws' := (wfl [cX qx qn qp qw qt qu qd qh ql, cPd qd cI pad.co pad.ln])) (lv' := [(0, .ref (qx 0)), (1, .long x1)]) (st' := [.int r_1]) (pc' := 4) (ce' := 0) (sl' := 0) rfl rfl rfl rfl rfl rfl ?_
  refine gw_istore_n (pc' := 5) κ dX5_put_4 rfl rfl (by decide) (lv' := [(3, .int r_1), (0, .ref (qx 0)), (1, .long x1)]) rfl ?_
  refine gw_iload_n (pc' := 6) κ dX5_put_5 rfl 0 rfl rfl ?_
  refine gw_if_ne (pc' := 9) (tgt := 12) κ dX5_put_6 rfl (by decide) (fun hc_2 => ?_) (fun hc_2 => ?_)
  · have h := h.1 hc_2
    refine gw_aload_n (pc' := 13) κ dX5_put_12 rfl 1 rfl rfl ?_
    refine gb_get (pc' := 16) (C := RX5) (T := TX5) (N := 8) κ dX5_put_13 rfl inX5 0 rfl rfl rfl 5 (by decide) tw_fl_X5_39 rfl ?_
    refine gb_get (pc' := 19) (C := RX1) (T := TX1) (N := 2) κ dX5_put_16 rfl inX1 1 rfl rfl rfl 1 (by decide) tw_fl_X5_122 rfl ?_
    refine gw_iload_n (pc' := 20) κ dX5_put_19 rfl 0 rfl rfl ?_
    refine gw_iadd (pc' := 21) κ dX5_put_20 rfl  ?_
    refine gw_bipush (pc' := 23) (v := 60) κ dX5_put_21 rfl (by decide) ?_
    refine gw_icmp_le (pc' := 26) (tgt := 29) κ dX5_put_23 rfl (by decide) (fun hc_3 => ?_) (fun hc_3 => ?_)
    · have h := h.1 hc_3
      refine gw_aload_n (pc' := 30) κ dX5_put_29 rfl 1 rfl rfl ?_
      refine gb_get (pc' := 33) (C := RX5) (T := TX5) (N := 8) κ dX5_put_30 rfl inX5 0 rfl rfl rfl 5 (by decide) tw_fl_X5_39 rfl ?_
      refine gw_lload_n (pc' := 34) κ dX5_put_33 rfl 2 rfl rfl ?_
      refine gw_iload_n (pc' := 35) κ dX5_put_34 rfl 0 rfl rfl ?_
      refine gb_callV (ci := 1) (qb := 1) (rest := []) κ (c_X1_append qd pad x1 r_1 h) ⟨rfl, rfl, Nat.le_of_ble_eq_true rfl, Nat.le_of_ble_eq_true rfl⟩ tw_ml_X5_244 tw_im_X1_append tw_se_X1_append tw_co_X1_append tw_in_X1 hy_X1_append rfl rfl rfl rfl rfl (Nat.le_of_ble_eq_true rfl) rfl dX5_put_35 [1] rfl (by decide) (fun _ => Nat.le_of_ble_eq_true rfl) ⟨Nat.le_of_ble_eq_true rfl, Nat.le_of_ble_eq_true rfl⟩ (fun v u hv => ?_)
      obtain ⟨rfl, h⟩ := hv
      obtain ⟨co_4, ln_5⟩ := u
      refine gw_nf (ws' := (wfl [cX qx qn qp qw qt qu qd qh ql, cPd qd cI co_4 ln_5])) (lv' := [(3, .int r_1), (0, .ref (qx 0)), (1, .long x1)]) (st' := []) (pc' := 38) (ce' := 0) (sl' := 0) rfl rfl rfl rfl rfl rfl ?_
      refine gw_aload_n (pc' := 39) κ dX5_put_38 rfl 1 rfl rfl ?_
      refine gb_get (pc' := 42) (C := RX5) (T := TX5) (N := 8) κ dX5_put_39 rfl inX5 0 rfl rfl rfl 5 (by decide) tw_fl_X5_39 rfl ?_
      refine gb_get (pc' := 45) (C := RX1) (T := TX1) (N := 2) κ dX5_put_42 rfl inX1 1 rfl rfl rfl 1 (by decide) tw_fl_X5_122 rfl ?_
      exact gw_iret κ dX5_put_45 (co_4, ln_5) rfl ⟨_, rfl, h⟩
    · have h := h.2 hc_3
      refine gw_bipush (pc' := 28) (v := -104) κ dX5_put_26 rfl (by decide) ?_
      exact gw_iret κ dX5_put_28 (pad.co, pad.ln) rfl ⟨_, rfl, h⟩
  · have h := h.2 hc_2
    refine gw_bipush (pc' := 11) (v := -102) κ dX5_put_9 rfl (by decide) ?_
    exact gw_iret κ dX5_put_11 (pad.co, pad.ln) rfl ⟨_, rfl, h⟩
theorem hy_X5_wipe : g_hy yX5_wipe 0 := by decide +kernel
set_option maxHeartbeats 4000000 in
set_option maxRecDepth 100000 in
theorem c_X5_wipe {l : Launch} {D : va_G} {cI cR : ClassId}  (qx : Nat → Nat) (qn : Nat → Nat) (qp : Nat → Nat) (qw : Nat → Nat) (qt : Nat → Nat) (qu : Nat → Nat) (qd : Nat → Nat) (qh : Nat → Nat) (ql : Nat → Nat) (qs : Nat → Nat → Nat) {P : Int32 → Int32 → Prop} (pad : PdT) (h : wp_X5_wipe P pad) : CT l D cI cR yX5_wipe cX5_wipe 2 (some .int) ({ frames := 0, cells := 0, slots := 0, locals := 0 } : Room) [.ref (qx 0)] (wfl [cX qx qn qp qw qt qu qd qh ql, cPd qd cI pad.co pad.ln]) (fun u : Int32 => (wfl [cX qx qn qp qw qt qu qd qh ql, cPd qd cI pad.co u])) (pI (fun (r : Int32) (u : Int32) => P r u)) 0 0 := by
  refine ct_of RX5 rfl (by decide +kernel) (Nat.le_of_ble_eq_true rfl) (fun zp ze zs zm zb zt zc A hin κ => ?_)
  unfold wp_X5_wipe at h
  refine gw_nf (lv' := [(0, .ref (qx 0))]) (pc' := 0) (st' := []) (ce' := 0) (sl' := 0) rfl rfl rfl rfl rfl rfl ?_
  refine gw_aload_n (pc' := 1) κ dX5_wipe_0 rfl 0 rfl rfl ?_
  refine gb_get (pc' := 4) (C := RX5) (T := TX5) (N := 8) κ dX5_wipe_1 rfl inX5 0 rfl rfl rfl 5 (by decide) tw_fl_X5_39 rfl ?_
  refine gb_get (pc' := 7) (C := RX1) (T := TX1) (N := 2) κ dX5_wipe_4 rfl inX1 1 rfl rfl rfl 1 (by decide) tw_fl_X5_122 rfl ?_
  refine gw_istore_n (pc' := 8) κ dX5_wipe_7 rfl rfl (by decide) (lv' := [(1, .int pad.ln), (0, .ref (qx 0))]) rfl ?_
  refine gw_aload_n (pc' := 9) κ dX5_wipe_8 rfl 1 rfl rfl ?_
  refine gb_get (pc' := 12) (C := RX5) (T := TX5) (N := 8) κ dX5_wipe_9 rfl inX5 0 rfl rfl rfl 5 (by decide) tw_fl_X5_39 rfl ?_
  refine gw_iconst (pc' := 13) (v := 0) κ dX5_wipe_12 rfl (by decide) ?_
  refine gb_put (pc' := 16) (C := RX1) (T := TX1) (N := 2) (ty := .int) (bs' := [cX qx qn qp qw qt qu qd qh ql, cPd qd cI pad.co (0 : Int32)]) κ dX5_wipe_13 rfl inX1 tyX1 tyX1_ok nmX1 1 rfl rfl rfl 1 (by decide) tw_fl_X5_122 rfl (by decide +kernel) rfl rfl (Nat.le_of_ble_eq_true rfl) rfl ?_
  refine gw_iload_n (pc' := 17) κ dX5_wipe_16 rfl 0 rfl rfl ?_
  exact gw_iret κ dX5_wipe_17 ((0 : Int32)) rfl ⟨_, rfl, h⟩
theorem hy_X5_fault : g_hy yX5_fault 0 := by decide +kernel
set_option maxHeartbeats 4000000 in
set_option maxRecDepth 100000 in
theorem c_X5_fault {l : Launch} {D : va_G} {cI cR : ClassId}  (qx : Nat → Nat) (qn : Nat → Nat) (qp : Nat → Nat) (qw : Nat → Nat) (qt : Nat → Nat) (qu : Nat → Nat) (qd : Nat → Nat) (qh : Nat → Nat) (ql : Nat → Nat) (qs : Nat → Nat → Nat) {P : Int32 → Prop} (pad : PdT) (h : wp_X5_fault P pad) : CT l D cI cR yX5_fault cX5_fault 1 (some .int) ({ frames := 5, cells := 0, slots := 0, locals := 105 } : Room) [.ref (qx 0)] (wfl [cX qx qn qp qw qt qu qd qh ql, cPd qd cI pad.co pad.ln]) (fun _ : Unit => (wfl [cX qx qn qp qw qt qu qd qh ql, cPd qd cI pad.co pad.ln])) (pI (fun (r : Int32) (_ : Unit) => P r)) 0 0 := by
  refine ct_of RX5 rfl (by decide +kernel) (Nat.le_of_ble_eq_true rfl) (fun zp ze zs zm zb zt zc A hin κ => ?_)
  unfold wp_X5_fault at h
  refine gw_nf (lv' := [(0, .ref (qx 0))]) (pc' := 0) (st' := []) (ce' := 0) (sl' := 0) rfl rfl rfl rfl rfl rfl ?_
  refine gw_aload_n (pc' := 1) κ dX5_fault_0 rfl 0 rfl rfl ?_
  refine gb_get (pc' := 4) (C := RX5) (T := TX5) (N := 8) κ dX5_fault_1 rfl inX5 0 rfl rfl rfl 5 (by decide) tw_fl_X5_39 rfl ?_
  refine gb_callV (ci := 1) (qb := 1) (rest := []) κ (c_X1_firstFault qd pad h) ⟨rfl, rfl, Nat.le_of_ble_eq_true rfl, Nat.le_of_ble_eq_true rfl⟩ tw_ml_X5_112 tw_im_X1_firstFault tw_se_X1_firstFault tw_co_X1_firstFault tw_in_X1 hy_X1_firstFault rfl rfl rfl rfl rfl (Nat.le_of_ble_eq_true rfl) rfl dX5_fault_4 [1] rfl (by decide) (fun _ => Nat.le_of_ble_eq_true rfl) ⟨Nat.le_of_ble_eq_true rfl, Nat.le_of_ble_eq_true rfl⟩ (fun v u hv => ?_)
  obtain ⟨r_1, rfl, h⟩ := hv
  refine gw_nf (ws' := (wfl [cX qx qn qp qw qt qu qd qh ql, cPd qd cI pad.co pad.ln])) (lv' := [(0, .ref (qx 0))]) (st' := [.int r_1]) (pc' := 7) (ce' := 0) (sl' := 0) rfl rfl rfl rfl rfl rfl ?_
  exact gw_iret κ dX5_fault_7 () rfl ⟨_, rfl, h⟩
theorem hy_X0_takeBack : g_hy yX0_takeBack 1 := by decide +kernel
set_option maxHeartbeats 4000000 in
set_option maxRecDepth 100000 in
theorem c_X0_takeBack {l : Launch} {D : va_G} {cI cR : ClassId}  (qa : Nat → Nat) (qb : Nat → Nat) (qas : Nat → Nat → Nat) {P : Int32 → (Nat → Int32) → (Nat → Int32) → (Nat → Int32) → (Nat → Int32) → (Nat → Int32) → (Nat → Int32) → (Nat → Int32) → (Nat → Int32) → (Nat → Int32) → Int32 → Prop} (o0 : HiT) (o1 : StT) (h : wp_X0_takeBack P o0 o1) : CT l D cI cR yX0_takeBack cX0_takeBack 2 none ({ frames := 2, cells := 0, slots := 0, locals := 61 } : Room) [.ref (qa 0), .ref (qb 0)] (wfl [cHi qa qas cR o0.ol o0.sz, cSt (qas 0) cI (o0.hs 0).se (o0.hs 0).la (o0.hs 0).de (o0.hs 0).le (o0.hs 0).sa (o0.hs 0).fl (o0.hs 0).ar (o0.hs 0).dr (o0.hs 0).pe (o0.hs 0).ri, cSt (qas 1) cI (o0.hs 1).se (o0.hs 1).la (o0.hs 1).de (o0.hs 1).le (o0.hs 1).sa (o0.hs 1).fl (o0.hs 1).ar (o0.hs 1).dr (o0.hs 1).pe (o0.hs 1).ri, cSt (qas 2) cI (o0.hs 2).se (o0.hs 2).la (o0.hs 2).de (o0.hs 2).le (o0.hs 2).sa (o0.hs 2).fl (o0.hs 2).ar (o0.hs 2).dr (o0.hs 2).pe (o0.hs 2).ri, cSt (qas 3) cI (o0.hs 3).se (o0.hs 3).la (o0.hs 3).de (o0.hs 3).le (o0.hs 3).sa (o0.hs 3).fl (o0.hs 3).ar (o0.hs 3).dr (o0.hs 3).pe (o0.hs 3).ri, cSt (qas 4) cI (o0.hs 4).se (o0.hs 4).la (o0.hs 4).de (o0.hs 4).le (o0.hs 4).sa (o0.hs 4).fl (o0.hs 4).ar (o0.hs 4).dr (o0.hs 4).pe (o0.hs 4).ri, cSt (qas 5) cI (o0.hs 5).se (o0.hs 5).la (o0.hs 5).de (o0.hs 5).le (o0.hs 5).sa (o0.hs 5).fl (o0.hs 5).ar (o0.hs 5).dr (o0.hs 5).pe (o0.hs 5).ri, cSt qb cI o1.se o1.la o1.de o1.le o1.sa o1.fl o1.ar o1.dr o1.pe o1.ri]) (fun u : Int32 × (Nat → Int32) × (Nat → Int32) × (Nat → Int32) × (Nat → Int32) × (Nat → Int32) × (Nat → Int32) × (Nat → Int32) × (Nat → Int32) × (Nat → Int32) × Int32 => (wfl [cHi qa qas cR o0.ol u.1, cSt (qas 0) cI (o0.hs 0).se (o0.hs 0).la (o0.hs 0).de (o0.hs 0).le (o0.hs 0).sa (o0.hs 0).fl (o0.hs 0).ar (o0.hs 0).dr (o0.hs 0).pe (o0.hs 0).ri, cSt (qas 1) cI (o0.hs 1).se (o0.hs 1).la (o0.hs 1).de (o0.hs 1).le (o0.hs 1).sa (o0.hs 1).fl (o0.hs 1).ar (o0.hs 1).dr (o0.hs 1).pe (o0.hs 1).ri, cSt (qas 2) cI (o0.hs 2).se (o0.hs 2).la (o0.hs 2).de (o0.hs 2).le (o0.hs 2).sa (o0.hs 2).fl (o0.hs 2).ar (o0.hs 2).dr (o0.hs 2).pe (o0.hs 2).ri, cSt (qas 3) cI (o0.hs 3).se (o0.hs 3).la (o0.hs 3).de (o0.hs 3).le (o0.hs 3).sa (o0.hs 3).fl (o0.hs 3).ar (o0.hs 3).dr (o0.hs 3).pe (o0.hs 3).ri, cSt (qas 4) cI (o0.hs 4).se (o0.hs 4).la (o0.hs 4).de (o0.hs 4).le (o0.hs 4).sa (o0.hs 4).fl (o0.hs 4).ar (o0.hs 4).dr (o0.hs 4).pe (o0.hs 4).ri, cSt (qas 5) cI (o0.hs 5).se (o0.hs 5).la (o0.hs 5).de (o0.hs 5).le (o0.hs 5).sa (o0.hs 5).fl (o0.hs 5).ar (o0.hs 5).dr (o0.hs 5).pe (o0.hs 5).ri, cSt qb cI u.2.1 u.2.2.1 u.2.2.2.1 u.2.2.2.2.1 u.2.2.2.2.2.1 u.2.2.2.2.2.2.1 u.2.2.2.2.2.2.2.1 u.2.2.2.2.2.2.2.2.1 u.2.2.2.2.2.2.2.2.2.1 u.2.2.2.2.2.2.2.2.2.2])) (pV (fun (u : Int32 × (Nat → Int32) × (Nat → Int32) × (Nat → Int32) × (Nat → Int32) × (Nat → Int32) × (Nat → Int32) × (Nat → Int32) × (Nat → Int32) × (Nat → Int32) × Int32) => P u.1 u.2.1 u.2.2.1 u.2.2.2.1 u.2.2.2.2.1 u.2.2.2.2.2.1 u.2.2.2.2.2.2.1 u.2.2.2.2.2.2.2.1 u.2.2.2.2.2.2.2.2.1 u.2.2.2.2.2.2.2.2.2.1 u.2.2.2.2.2.2.2.2.2.2)) 0 0 := by
  refine ct_of RX0 rfl (by decide +kernel) (Nat.le_of_ble_eq_true rfl) (fun zp ze zs zm zb zt zc A hin κ => ?_)
  unfold wp_X0_takeBack at h
  refine gw_nf (lv' := [(0, .ref (qa 0)), (1, .ref (qb 0))]) (pc' := 0) (st' := []) (ce' := 0) (sl' := 0) rfl rfl rfl rfl rfl rfl ?_
  refine gw_aload_n (pc' := 1) κ dX0_takeBack_0 rfl 0 rfl rfl ?_
  refine gb_get (pc' := 4) (C := RX0) (T := TX0) (N := 3) κ dX0_takeBack_1 rfl inX0 0 rfl rfl rfl 2 (by decide) tw_fl_X0_18 rfl ?_
  refine gw_if_gt (pc' := 7) (tgt := 8) κ dX0_takeBack_4 rfl (by decide) (fun hc_1 => ?_) (fun hc_1 => ?_)
  · have h := h.1 hc_1
    refine gw_aload_n (pc' := 9) κ dX0_takeBack_8 rfl 0 rfl rfl ?_
    refine gw_dup (pc' := 10) κ dX0_takeBack_9 rfl rfl ?_
    refine gb_get (pc' := 13) (C := RX0) (T := TX0) (N := 3) κ dX0_takeBack_10 rfl inX0 0 rfl rfl rfl 2 (by decide) tw_fl_X0_18 rfl ?_
    refine gw_iconst (pc' := 14) (v := 1) κ dX0_takeBack_13 rfl (by decide) ?_
    refine gw_isub (pc' := 15) κ dX0_takeBack_14 rfl  ?_
    refine gb_put (pc' := 18) (C := RX0) (T := TX0) (N := 3) (ty := .int) (bs' := [cHi qa qas cR o0.ol (o0.sz - (1 : Int32)), cSt (qas 0) cI (o0.hs 0).se (o0.hs 0).la (o0.hs 0).de (o0.hs 0).le (o0.hs 0).sa (o0.hs 0).fl (o0.hs 0).ar (o0.hs 0).dr (o0.hs 0).pe (o0.hs 0).ri, cSt (qas 1) cI (o0.hs 1).se (o0.hs 1).la (o0.hs 1).de (o0.hs 1).le (o0.hs 1).sa (o0.hs 1).fl (o0.hs 1).ar (o0.hs 1).dr (o0.hs 1).pe (o0.hs 1).ri, cSt (qas 2) cI (o0.hs 2).se (o0.hs 2).la (o0.hs 2).de (o0.hs 2).le (o0.hs 2).sa (o0.hs 2).fl (o0.hs 2).ar (o0.hs 2).dr (o0.hs 2).pe (o0.hs 2).ri, cSt (qas 3) cI (o0.hs 3).se (o0.hs 3).la (o0.hs 3).de (o0.hs 3).le (o0.hs 3).sa (o0.hs 3).fl (o0.hs 3).ar (o0.hs 3).dr (o0.hs 3).pe (o0.hs 3).ri, cSt (qas 4) cI (o0.hs 4).se (o0.hs 4).la (o0.hs 4).de (o0.hs 4).le (o0.hs 4).sa (o0.hs 4).fl (o0.hs 4).ar (o0.hs 4).dr (o0.hs 4).pe (o0.hs 4).ri, cSt (qas 5) cI (o0.hs 5).se (o0.hs 5).la (o0.hs 5).de (o0.hs 5).le (o0.hs 5).sa (o0.hs 5).fl (o0.hs 5).ar (o0.hs 5).dr (o0.hs 5).pe (o0.hs 5).ri, cSt qb cI o1.se o1.la o1.de o1.le o1.sa o1.fl o1.ar o1.dr o1.pe o1.ri]) κ dX0_takeBack_15 rfl inX0 tyX0 tyX0_ok nmX0 0 rfl rfl rfl 2 (by decide) tw_fl_X0_18 rfl (by decide +kernel) rfl rfl (Nat.le_of_ble_eq_true rfl) rfl ?_
    refine gw_aload_n (pc' := 19) κ dX0_takeBack_18 rfl 1 rfl rfl ?_
    refine gw_aload_n (pc' := 20) κ dX0_takeBack_19 rfl 0 rfl rfl ?_
    refine gb_get (pc' := 23) (C := RX0) (T := TX0) (N := 3) κ dX0_takeBack_20 rfl inX0 0 rfl rfl rfl 0 (by decide) tw_fl_X0_11 rfl ?_
    refine gw_aload_n (pc' := 24) κ dX0_takeBack_23 rfl 0 rfl rfl ?_
    refine gb_get (pc' := 27) (C := RX0) (T := TX0) (N := 3) κ dX0_takeBack_24 rfl inX0 0 rfl rfl rfl 1 (by decide) tw_fl_X0_22 rfl ?_
    refine gw_aload_n (pc' := 28) κ dX0_takeBack_27 rfl 0 rfl rfl ?_
    refine gb_get (pc' := 31) (C := RX0) (T := TX0) (N := 3) κ dX0_takeBack_28 rfl inX0 0 rfl rfl rfl 2 (by decide) tw_fl_X0_18 rfl ?_
    refine gw_iadd (pc' := 32) κ dX0_takeBack_31 rfl  ?_
    refine gw_bipush (pc' := 34) (v := 6) κ dX0_takeBack_32 rfl (by decide) ?_
    refine gw_irem (pc' := 35) κ dX0_takeBack_34 rfl (by decide) ?_
    obtain ⟨hb_2, h⟩ := h
    obtain ⟨j_4, j_4l, hj_3⟩ := vp_in_of hb_2 (by decide)
    have h := h j_4 j_4l hj_3
    rcases (show j_4 = 0 ∨ j_4 = 1 ∨ j_4 = 2 ∨ j_4 = 3 ∨ j_4 = 4 ∨ j_4 = 5 from by omega) with rfl | rfl | rfl | rfl | rfl | rfl
    · refine gb_aald (pc' := 36) κ dX0_takeBack_35 rfl 0 1 rfl rfl hb_2 (v := .ref (qas 0 0)) (by rw [hj_3, nI_clamp (by decide)]; rfl) ?_
      refine gb_callV (ci := 3) (qb := 7) (rest := []) κ (c_X3_copyFrom qb (qas 0) o1 (o0.hs 0) h) ⟨rfl, rfl, Nat.le_of_ble_eq_true rfl, Nat.le_of_ble_eq_true rfl⟩ tw_ml_X0_25 tw_im_X3_copyFrom tw_se_X3_copyFrom tw_co_X3_copyFrom tw_in_X3 hy_X3_copyFrom rfl rfl rfl rfl rfl (Nat.le_of_ble_eq_true rfl) rfl dX0_takeBack_36 [7, 1] rfl (by decide) (fun _ => Nat.le_of_ble_eq_true rfl) ⟨Nat.le_of_ble_eq_true rfl, Nat.le_of_ble_eq_true rfl⟩ (fun v u hv => ?_)
      obtain ⟨rfl, h⟩ := hv
      obtain ⟨se_25, la_26, de_27, le_28, sa_29, fl_30, ar_31, dr_32, pe_33, ri_34⟩ := u
      refine gw_nf (ws' := (wfl [cHi qa qas cR o0.ol (o0.sz - (1 : Int32)), cSt (qas 0) cI (o0.hs 0).se (o0.hs 0).la (o0.hs 0).de (o0.hs 0).le (o0.hs 0).sa (o0.hs 0).fl (o0.hs 0).ar (o0.hs 0).dr (o0.hs 0).pe (o0.hs 0).ri, cSt (qas 1) cI (o0.hs 1).se (o0.hs 1).la (o0.hs 1).de (o0.hs 1).le (o0.hs 1).sa (o0.hs 1).fl (o0.hs 1).ar (o0.hs 1).dr (o0.hs 1).pe (o0.hs 1).ri, cSt (qas 2) cI (o0.hs 2).se (o0.hs 2).la (o0.hs 2).de (o0.hs 2).le (o0.hs 2).sa (o0.hs 2).fl (o0.hs 2).ar (o0.hs 2).dr (o0.hs 2).pe (o0.hs 2).ri, cSt (qas 3) cI (o0.hs 3).se (o0.hs 3).la (o0.hs 3).de (o0.hs 3).le (o0.hs 3).sa (o0.hs 3).fl (o0.hs 3).ar (o0.hs 3).dr (o0.hs 3).pe (o0.hs 3).ri, cSt (qas 4) cI (o0.hs 4).se (o0.hs 4).la (o0.hs 4).de (o0.hs 4).le (o0.hs 4).sa (o0.hs 4).fl (o0.hs 4).ar (o0.hs 4).dr (o0.hs 4).pe (o0.hs 4).ri, cSt (qas 5) cI (o0.hs 5).se (o0.hs 5).la (o0.hs 5).de (o0.hs 5).le (o0.hs 5).sa (o0.hs 5).fl (o0.hs 5).ar (o0.hs 5).dr (o0.hs 5).pe (o0.hs 5).ri, cSt qb cI se_25 la_26 de_27 le_28 sa_29 fl_30 ar_31 dr_32 pe_33 ri_34])) (lv' := [(0, .ref (qa 0)), (1, .ref (qb 0))]) (st' := []) (pc' := 39) (ce' := 0) (sl' := 0) rfl rfl rfl rfl rfl rfl ?_
      exact gw_vret κ dX0_takeBack_39 ((o0.sz - (1 : Int32)), se_25, la_26, de_27, le_28, sa_29, fl_30, ar_31, dr_32, pe_33, ri_34) rfl ⟨rfl, h⟩
    · refine gb_aald (pc' := 36) κ dX0_takeBack_35 rfl 0 1 rfl rfl hb_2 (v := .ref (qas 1 0)) (by rw [hj_3, nI_clamp (by decide)]; rfl) ?_
      refine gb_callV (ci := 3) (qb := 7) (rest := []) κ (c_X3_copyFrom qb (qas 1) o1 (o0.hs 1) h) ⟨rfl, rfl, Nat.le_of_ble_eq_true rfl, Nat.le_of_ble_eq_true rfl⟩ tw_ml_X0_25 tw_im_X3_copyFrom tw_se_X3_copyFrom tw_co_X3_copyFrom tw_in_X3 hy_X3_copyFrom rfl rfl rfl rfl rfl (Nat.le_of_ble_eq_true rfl) rfl dX0_takeBack_36 [7, 2] rfl (by decide) (fun _ => Nat.le_of_ble_eq_true rfl) ⟨Nat.le_of_ble_eq_true rfl, Nat.le_of_ble_eq_true rfl⟩ (fun v u hv => ?_)
      obtain ⟨rfl, h⟩ := hv
      obtain ⟨se_35, la_36, de_37, le_38, sa_39, fl_40, ar_41, dr_42, pe_43, ri_44⟩ := u
      refine gw_nf (ws' := (wfl [cHi qa qas cR o0.ol (o0.sz - (1 : Int32)), cSt (qas 0) cI (o0.hs 0).se (o0.hs 0).la (o0.hs 0).de (o0.hs 0).le (o0.hs 0).sa (o0.hs 0).fl (o0.hs 0).ar (o0.hs 0).dr (o0.hs 0).pe (o0.hs 0).ri, cSt (qas 1) cI (o0.hs 1).se (o0.hs 1).la (o0.hs 1).de (o0.hs 1).le (o0.hs 1).sa (o0.hs 1).fl (o0.hs 1).ar (o0.hs 1).dr (o0.hs 1).pe (o0.hs 1).ri, cSt (qas 2) cI (o0.hs 2).se (o0.hs 2).la (o0.hs 2).de (o0.hs 2).le (o0.hs 2).sa (o0.hs 2).fl (o0.hs 2).ar (o0.hs 2).dr (o0.hs 2).pe (o0.hs 2).ri, cSt (qas 3) cI (o0.hs 3).se (o0.hs 3).la (o0.hs 3).de (o0.hs 3).le (o0.hs 3).sa (o0.hs 3).fl (o0.hs 3).ar (o0.hs 3).dr (o0.hs 3).pe (o0.hs 3).ri, cSt (qas 4) cI (o0.hs 4).se (o0.hs 4).la (o0.hs 4).de (o0.hs 4).le (o0.hs 4).sa (o0.hs 4).fl (o0.hs 4).ar (o0.hs 4).dr (o0.hs 4).pe (o0.hs 4).ri, cSt (qas 5) cI (o0.hs 5).se (o0.hs 5).la (o0.hs 5).de (o0.hs 5).le (o0.hs 5).sa (o0.hs 5).fl (o0.hs 5).ar (o0.hs 5).dr (o0.hs 5).pe (o0.hs 5).ri, cSt qb cI se_35 la_36 de_37 le_38 sa_39 fl_40 ar_41 dr_42 pe_43 ri_44])) (lv' := [(0, .ref (qa 0)), (1, .ref (qb 0))]) (st' := []) (pc' := 39) (ce' := 0) (sl' := 0) rfl rfl rfl rfl rfl rfl ?_
      exact gw_vret κ dX0_takeBack_39 ((o0.sz - (1 : Int32)), se_35, la_36, de_37, le_38, sa_39, fl_40, ar_41, dr_42, pe_43, ri_44) rfl ⟨rfl, h⟩
    · refine gb_aald (pc' := 36) κ dX0_takeBack_35 rfl 0 1 rfl rfl hb_2 (v := .ref (qas 2 0)) (by rw [hj_3, nI_clamp (by decide)]; rfl) ?_
      refine gb_callV (ci := 3) (qb := 7) (rest := []) κ (c_X3_copyFrom qb (qas 2) o1 (o0.hs 2) h) ⟨rfl, rfl, Nat.le_of_ble_eq_true rfl, Nat.le_of_ble_eq_true rfl⟩ tw_ml_X0_25 tw_im_X3_copyFrom tw_se_X3_copyFrom tw_co_X3_copyFrom tw_in_X3 hy_X3_copyFrom rfl rfl rfl rfl rfl (Nat.le_of_ble_eq_true rfl) rfl dX0_takeBack_36 [7, 3] rfl (by decide) (fun _ => Nat.le_of_ble_eq_true rfl) ⟨Nat.le_of_ble_eq_true rfl, Nat.le_of_ble_eq_true rfl⟩ (fun v u hv => ?_)
      obtain ⟨rfl, h⟩ := hv
      obtain ⟨se_45, la_46, de_47, le_48, sa_49, fl_50, ar_51, dr_52, pe_53, ri_54⟩ := u
      refine gw_nf (ws' := (wfl [cHi qa qas cR o0.ol (o0.sz - (1 : Int32)), cSt (qas 0) cI (o0.hs 0).se (o0.hs 0).la (o0.hs 0).de (o0.hs 0).le (o0.hs 0).sa (o0.hs 0).fl (o0.hs 0).ar (o0.hs 0).dr (o0.hs 0).pe (o0.hs 0).ri, cSt (qas 1) cI (o0.hs 1).se (o0.hs 1).la (o0.hs 1).de (o0.hs 1).le (o0.hs 1).sa (o0.hs 1).fl (o0.hs 1).ar (o0.hs 1).dr (o0.hs 1).pe (o0.hs 1).ri, cSt (qas 2) cI (o0.hs 2).se (o0.hs 2).la (o0.hs 2).de (o0.hs 2).le (o0.hs 2).sa (o0.hs 2).fl (o0.hs 2).ar (o0.hs 2).dr (o0.hs 2).pe (o0.hs 2).ri, cSt (qas 3) cI (o0.hs 3).se (o0.hs 3).la (o0.hs 3).de (o0.hs 3).le (o0.hs 3).sa (o0.hs 3).fl (o0.hs 3).ar (o0.hs 3).dr (o0.hs 3).pe (o0.hs 3).ri, cSt (qas 4) cI (o0.hs 4).se (o0.hs 4).la (o0.hs 4).de (o0.hs 4).le (o0.hs 4).sa (o0.hs 4).fl (o0.hs 4).ar (o0.hs 4).dr (o0.hs 4).pe (o0.hs 4).ri, cSt (qas 5) cI (o0.hs 5).se (o0.hs 5).la (o0.hs 5).de (o0.hs 5).le (o0.hs 5).sa (o0.hs 5).fl (o0.hs 5).ar (o0.hs 5).dr (o0.hs 5).pe (o0.hs 5).ri, cSt qb cI se_45 la_46 de_47 le_48 sa_49 fl_50 ar_51 dr_52 pe_53 ri_54])) (lv' := [(0, .ref (qa 0)), (1, .ref (qb 0))]) (st' := []) (pc' := 39) (ce' := 0) (sl' := 0) rfl rfl rfl rfl rfl rfl ?_
      exact gw_vret κ dX0_takeBack_39 ((o0.sz - (1 : Int32)), se_45, la_46, de_47, le_48, sa_49, fl_50, ar_51, dr_52, pe_53, ri_54) rfl ⟨rfl, h⟩
    · refine gb_aald (pc' := 36) κ dX0_takeBack_35 rfl 0 1 rfl rfl hb_2 (v := .ref (qas 3 0)) (by rw [hj_3, nI_clamp (by decide)]; rfl) ?_
      refine gb_callV (ci := 3) (qb := 7) (rest := []) κ (c_X3_copyFrom qb (qas 3) o1 (o0.hs 3) h) ⟨rfl, rfl, Nat.le_of_ble_eq_true rfl, Nat.le_of_ble_eq_true rfl⟩ tw_ml_X0_25 tw_im_X3_copyFrom tw_se_X3_copyFrom tw_co_X3_copyFrom tw_in_X3 hy_X3_copyFrom rfl rfl rfl rfl rfl (Nat.le_of_ble_eq_true rfl) rfl dX0_takeBack_36 [7, 4] rfl (by decide) (fun _ => Nat.le_of_ble_eq_true rfl) ⟨Nat.le_of_ble_eq_true rfl, Nat.le_of_ble_eq_true rfl⟩ (fun v u hv => ?_)
      obtain ⟨rfl, h⟩ := hv
      obtain ⟨se_55, la_56, de_57, le_58, sa_59, fl_60, ar_61, dr_62, pe_63, ri_64⟩ := u
      refine gw_nf (ws' := (wfl [cHi qa qas cR o0.ol (o0.sz - (1 : Int32)), cSt (qas 0) cI (o0.hs 0).se (o0.hs 0).la (o0.hs 0).de (o0.hs 0).le (o0.hs 0).sa (o0.hs 0).fl (o0.hs 0).ar (o0.hs 0).dr (o0.hs 0).pe (o0.hs 0).ri, cSt (qas 1) cI (o0.hs 1).se (o0.hs 1).la (o0.hs 1).de (o0.hs 1).le (o0.hs 1).sa (o0.hs 1).fl (o0.hs 1).ar (o0.hs 1).dr (o0.hs 1).pe (o0.hs 1).ri, cSt (qas 2) cI (o0.hs 2).se (o0.hs 2).la (o0.hs 2).de (o0.hs 2).le (o0.hs 2).sa (o0.hs 2).fl (o0.hs 2).ar (o0.hs 2).dr (o0.hs 2).pe (o0.hs 2).ri, cSt (qas 3) cI (o0.hs 3).se (o0.hs 3).la (o0.hs 3).de (o0.hs 3).le (o0.hs 3).sa (o0.hs 3).fl (o0.hs 3).ar (o0.hs 3).dr (o0.hs 3).pe (o0.hs 3).ri, cSt (qas 4) cI (o0.hs 4).se (o0.hs 4).la (o0.hs 4).de (o0.hs 4).le (o0.hs 4).sa (o0.hs 4).fl (o0.hs 4).ar (o0.hs 4).dr (o0.hs 4).pe (o0.hs 4).ri, cSt (qas 5) cI (o0.hs 5).se (o0.hs 5).la (o0.hs 5).de (o0.hs 5).le (o0.hs 5).sa (o0.hs 5).fl (o0.hs 5).ar (o0.hs 5).dr (o0.hs 5).pe (o0.hs 5).ri, cSt qb cI se_55 la_56 de_57 le_58 sa_59 fl_60 ar_61 dr_62 pe_63 ri_64])) (lv' := [(0, .ref (qa 0)), (1, .ref (qb 0))]) (st' := []) (pc' := 39) (ce' := 0) (sl' := 0) rfl rfl rfl rfl rfl rfl ?_
      exact gw_vret κ dX0_takeBack_39 ((o0.sz - (1 : Int32)), se_55, la_56, de_57, le_58, sa_59, fl_60, ar_61, dr_62, pe_63, ri_64) rfl ⟨rfl, h⟩
    · refine gb_aald (pc' := 36) κ dX0_takeBack_35 rfl 0 1 rfl rfl hb_2 (v := .ref (qas 4 0)) (by rw [hj_3, nI_clamp (by decide)]; rfl) ?_
      refine gb_callV (ci := 3) (qb := 7) (rest := []) κ (c_X3_copyFrom qb (qas 4) o1 (o0.hs 4) h) ⟨rfl, rfl, Nat.le_of_ble_eq_true rfl, Nat.le_of_ble_eq_true rfl⟩ tw_ml_X0_25 tw_im_X3_copyFrom tw_se_X3_copyFrom tw_co_X3_copyFrom tw_in_X3 hy_X3_copyFrom rfl rfl rfl rfl rfl (Nat.le_of_ble_eq_true rfl) rfl dX0_takeBack_36 [7, 5] rfl (by decide) (fun _ => Nat.le_of_ble_eq_true rfl) ⟨Nat.le_of_ble_eq_true rfl, Nat.le_of_ble_eq_true rfl⟩ (fun v u hv => ?_)
      obtain ⟨rfl, h⟩ := hv
      obtain ⟨se_65, la_66, de_67, le_68, sa_69, fl_70, ar_71, dr_72, pe_73, ri_74⟩ := u
      refine gw_nf (ws' := (wfl [cHi qa qas cR o0.ol (o0.sz - (1 : Int32)), cSt (qas 0) cI (o0.hs 0).se (o0.hs 0).la (o0.hs 0).de (o0.hs 0).le (o0.hs 0).sa (o0.hs 0).fl (o0.hs 0).ar (o0.hs 0).dr (o0.hs 0).pe (o0.hs 0).ri, cSt (qas 1) cI (o0.hs 1).se (o0.hs 1).la (o0.hs 1).de (o0.hs 1).le (o0.hs 1).sa (o0.hs 1).fl (o0.hs 1).ar (o0.hs 1).dr (o0.hs 1).pe (o0.hs 1).ri, cSt (qas 2) cI (o0.hs 2).se (o0.hs 2).la (o0.hs 2).de (o0.hs 2).le (o0.hs 2).sa (o0.hs 2).fl (o0.hs 2).ar (o0.hs 2).dr (o0.hs 2).pe (o0.hs 2).ri, cSt (qas 3) cI (o0.hs 3).se (o0.hs 3).la (o0.hs 3).de (o0.hs 3).le (o0.hs 3).sa (o0.hs 3).fl (o0.hs 3).ar (o0.hs 3).dr (o0.hs 3).pe (o0.hs 3).ri, cSt (qas 4) cI (o0.hs 4).se (o0.hs 4).la (o0.hs 4).de (o0.hs 4).le (o0.hs 4).sa (o0.hs 4).fl (o0.hs 4).ar (o0.hs 4).dr (o0.hs 4).pe (o0.hs 4).ri, cSt (qas 5) cI (o0.hs 5).se (o0.hs 5).la (o0.hs 5).de (o0.hs 5).le (o0.hs 5).sa (o0.hs 5).fl (o0.hs 5).ar (o0.hs 5).dr (o0.hs 5).pe (o0.hs 5).ri, cSt qb cI se_65 la_66 de_67 le_68 sa_69 fl_70 ar_71 dr_72 pe_73 ri_74])) (lv' := [(0, .ref (qa 0)), (1, .ref (qb 0))]) (st' := []) (pc' := 39) (ce' := 0) (sl' := 0) rfl rfl rfl rfl rfl rfl ?_
      exact gw_vret κ dX0_takeBack_39 ((o0.sz - (1 : Int32)), se_65, la_66, de_67, le_68, sa_69, fl_70, ar_71, dr_72, pe_73, ri_74) rfl ⟨rfl, h⟩
    · refine gb_aald (pc' := 36) κ dX0_takeBack_35 rfl 0 1 rfl rfl hb_2 (v := .ref (qas 5 0)) (by rw [hj_3, nI_clamp (by decide)]; rfl) ?_
      refine gb_callV (ci := 3) (qb := 7) (rest := []) κ (c_X3_copyFrom qb (qas 5) o1 (o0.hs 5) h) ⟨rfl, rfl, Nat.le_of_ble_eq_true rfl, Nat.le_of_ble_eq_true rfl⟩ tw_ml_X0_25 tw_im_X3_copyFrom tw_se_X3_copyFrom tw_co_X3_copyFrom tw_in_X3 hy_X3_copyFrom rfl rfl rfl rfl rfl (Nat.le_of_ble_eq_true rfl) rfl dX0_takeBack_36 [7, 6] rfl (by decide) (fun _ => Nat.le_of_ble_eq_true rfl) ⟨Nat.le_of_ble_eq_true rfl, Nat.le_of_ble_eq_true rfl⟩ (fun v u hv => ?_)
      obtain ⟨rfl, h⟩ := hv
      obtain ⟨se_75, la_76, de_77, le_78, sa_79, fl_80, ar_81, dr_82, pe_83, ri_84⟩ := u
      refine gw_nf (ws' := (wfl [cHi qa qas cR o0.ol (o0.sz - (1 : Int32)), cSt (qas 0) cI (o0.hs 0).se (o0.hs 0).la (o0.hs 0).de (o0.hs 0).le (o0.hs 0).sa (o0.hs 0).fl (o0.hs 0).ar (o0.hs 0).dr (o0.hs 0).pe (o0.hs 0).ri, cSt (qas 1) cI (o0.hs 1).se (o0.hs 1).la (o0.hs 1).de (o0.hs 1).le (o0.hs 1).sa (o0.hs 1).fl (o0.hs 1).ar (o0.hs 1).dr (o0.hs 1).pe (o0.hs 1).ri, cSt (qas 2) cI (o0.hs 2).se (o0.hs 2).la (o0.hs 2).de (o0.hs 2).le (o0.hs 2).sa (o0.hs 2).fl (o0.hs 2).ar (o0.hs 2).dr (o0.hs 2).pe (o0.hs 2).ri, cSt (qas 3) cI (o0.hs 3).se (o0.hs 3).la (o0.hs 3).de (o0.hs 3).le (o0.hs 3).sa (o0.hs 3).fl (o0.hs 3).ar (o0.hs 3).dr (o0.hs 3).pe (o0.hs 3).ri, cSt (qas 4) cI (o0.hs 4).se (o0.hs 4).la (o0.hs 4).de (o0.hs 4).le (o0.hs 4).sa (o0.hs 4).fl (o0.hs 4).ar (o0.hs 4).dr (o0.hs 4).pe (o0.hs 4).ri, cSt (qas 5) cI (o0.hs 5).se (o0.hs 5).la (o0.hs 5).de (o0.hs 5).le (o0.hs 5).sa (o0.hs 5).fl (o0.hs 5).ar (o0.hs 5).dr (o0.hs 5).pe (o0.hs 5).ri, cSt qb cI se_75 la_76 de_77 le_78 sa_79 fl_80 ar_81 dr_82 pe_83 ri_84])) (lv' := [(0, .ref (qa 0)), (1, .ref (qb 0))]) (st' := []) (pc' := 39) (ce' := 0) (sl' := 0) rfl rfl rfl rfl rfl rfl ?_
      exact gw_vret κ dX0_takeBack_39 ((o0.sz - (1 : Int32)), se_75, la_76, de_77, le_78, sa_79, fl_80, ar_81, dr_82, pe_83, ri_84) rfl ⟨rfl, h⟩
  · have h := h.2 hc_1
    exact gw_vret κ dX0_takeBack_7 (o0.sz, o1.se, o1.la, o1.de, o1.le, o1.sa, o1.fl, o1.ar, o1.dr, o1.pe, o1.ri) rfl ⟨rfl, h⟩
theorem hy_X5_undo : g_hy yX5_undo 0 := by decide +kernel
set_option maxHeartbeats 4000000 in
set_option maxRecDepth 100000 in
theorem c_X5_undo {l : Launch} {D : va_G} {cI cR : ClassId}  (qx : Nat → Nat) (qn : Nat → Nat) (qp : Nat → Nat) (qw : Nat → Nat) (qt : Nat → Nat) (qu : Nat → Nat) (qd : Nat → Nat) (qh : Nat → Nat) (ql : Nat → Nat) (qs : Nat → Nat → Nat) {P : Int32 → (Nat → Int32) → (Nat → Int32) → (Nat → Int32) → (Nat → Int32) → (Nat → Int32) → (Nat → Int32) → (Nat → Int32) → (Nat → Int32) → (Nat → Int32) → Int32 → (Nat → Int32) → (Nat → Int32) → (Nat → Int32) → (Nat → Int32) → (Nat → Int32) → Int32 → Int32 → Int32 → Int32 → Prop} (now : StT) (pln : PlT) (his : HiT) (h : wp_X5_undo P now pln his) : CT l D cI cR yX5_undo cX5_undo 1 (some .int) ({ frames := 6, cells := 0, slots := 0, locals := 140 } : Room) [.ref (qx 0)] (wfl [cX qx qn qp qw qt qu qd qh ql, cSt qn cI now.se now.la now.de now.le now.sa now.fl now.ar now.dr now.pe now.ri, cPl qp cI pln.od pln.rd pln.vn pln.pn pln.ao pln.sr pln.sp pln.wt, cHi qh qs cR his.ol his.sz, cSt (qs 0) cI (his.hs 0).se (his.hs 0).la (his.hs 0).de (his.hs 0).le (his.hs 0).sa (his.hs 0).fl (his.hs 0).ar (his.hs 0).dr (his.hs 0).pe (his.hs 0).ri, cSt (qs 1) cI (his.hs 1).se (his.hs 1).la (his.hs 1).de (his.hs 1).le (his.hs 1).sa (his.hs 1).fl (his.hs 1).ar (his.hs 1).dr (his.hs 1).pe (his.hs 1).ri, cSt (qs 2) cI (his.hs 2).se (his.hs 2).la (his.hs 2).de (his.hs 2).le (his.hs 2).sa (his.hs 2).fl (his.hs 2).ar (his.hs 2).dr (his.hs 2).pe (his.hs 2).ri, cSt (qs 3) cI (his.hs 3).se (his.hs 3).la (his.hs 3).de (his.hs 3).le (his.hs 3).sa (his.hs 3).fl (his.hs 3).ar (his.hs 3).dr (his.hs 3).pe (his.hs 3).ri, cSt (qs 4) cI (his.hs 4).se (his.hs 4).la (his.hs 4).de (his.hs 4).le (his.hs 4).sa (his.hs 4).fl (his.hs 4).ar (his.hs 4).dr (his.hs 4).pe (his.hs 4).ri, cSt (qs 5) cI (his.hs 5).se (his.hs 5).la (his.hs 5).de (his.hs 5).le (his.hs 5).sa (his.hs 5).fl (his.hs 5).ar (his.hs 5).dr (his.hs 5).pe (his.hs 5).ri]) (fun u : (Nat → Int32) × (Nat → Int32) × (Nat → Int32) × (Nat → Int32) × (Nat → Int32) × (Nat → Int32) × (Nat → Int32) × (Nat → Int32) × (Nat → Int32) × Int32 × (Nat → Int32) × (Nat → Int32) × (Nat → Int32) × (Nat → Int32) × (Nat → Int32) × Int32 × Int32 × Int32 × Int32 => (wfl [cX qx qn qp qw qt qu qd qh ql, cSt qn cI u.1 u.2.1 u.2.2.1 u.2.2.2.1 u.2.2.2.2.1 u.2.2.2.2.2.1 u.2.2.2.2.2.2.1 u.2.2.2.2.2.2.2.1 u.2.2.2.2.2.2.2.2.1 u.2.2.2.2.2.2.2.2.2.1, cPl qp cI u.2.2.2.2.2.2.2.2.2.2.1 u.2.2.2.2.2.2.2.2.2.2.2.1 u.2.2.2.2.2.2.2.2.2.2.2.2.1 u.2.2.2.2.2.2.2.2.2.2.2.2.2.1 u.2.2.2.2.2.2.2.2.2.2.2.2.2.2.1 u.2.2.2.2.2.2.2.2.2.2.2.2.2.2.2.1 u.2.2.2.2.2.2.2.2.2.2.2.2.2.2.2.2.1 u.2.2.2.2.2.2.2.2.2.2.2.2.2.2.2.2.2.1, cHi qh qs cR his.ol u.2.2.2.2.2.2.2.2.2.2.2.2.2.2.2.2.2.2, cSt (qs 0) cI (his.hs 0).se (his.hs 0).la (his.hs 0).de (his.hs 0).le (his.hs 0).sa (his.hs 0).fl (his.hs 0).ar (his.hs 0).dr (his.hs 0).pe (his.hs 0).ri, cSt (qs 1) cI (his.hs 1).se (his.hs 1).la (his.hs 1).de (his.hs 1).le (his.hs 1).sa (his.hs 1).fl (his.hs 1).ar (his.hs 1).dr (his.hs 1).pe (his.hs 1).ri, cSt (qs 2) cI (his.hs 2).se (his.hs 2).la (his.hs 2).de (his.hs 2).le (his.hs 2).sa (his.hs 2).fl (his.hs 2).ar (his.hs 2).dr (his.hs 2).pe (his.hs 2).ri, cSt (qs 3) cI (his.hs 3).se (his.hs 3).la (his.hs 3).de (his.hs 3).le (his.hs 3).sa (his.hs 3).fl (his.hs 3).ar (his.hs 3).dr (his.hs 3).pe (his.hs 3).ri, cSt (qs 4) cI (his.hs 4).se (his.hs 4).la (his.hs 4).de (his.hs 4).le (his.hs 4).sa (his.hs 4).fl (his.hs 4).ar (his.hs 4).dr (his.hs 4).pe (his.hs 4).ri, cSt (qs 5) cI (his.hs 5).se (his.hs 5).la (his.hs 5).de (his.hs 5).le (his.hs 5).sa (his.hs 5).fl (his.hs 5).ar (his.hs 5).dr (his.hs 5).pe (his.hs 5).ri])) (pI (fun (r : Int32) (u : (Nat → Int32) × (Nat → Int32) × (Nat → Int32) × (Nat → Int32) × (Nat → Int32) × (Nat → Int32) × (Nat → Int32) × (Nat → Int32) × (Nat → Int32) × Int32 × (Nat → Int32) × (Nat → Int32) × (Nat → Int32) × (Nat → Int32) × (Nat → Int32) × Int32 × Int32 × Int32 × Int32) => P r u.1 u.2.1 u.2.2.1 u.2.2.2.1 u.2.2.2.2.1 u.2.2.2.2.2.1 u.2.2.2.2.2.2.1 u.2.2.2.2.2.2.2.1 u.2.2.2.2.2.2.2.2.1 u.2.2.2.2.2.2.2.2.2.1 u.2.2.2.2.2.2.2.2.2.2.1 u.2.2.2.2.2.2.2.2.2.2.2.1 u.2.2.2.2.2.2.2.2.2.2.2.2.1 u.2.2.2.2.2.2.2.2.2.2.2.2.2.1 u.2.2.2.2.2.2.2.2.2.2.2.2.2.2.1 u.2.2.2.2.2.2.2.2.2.2.2.2.2.2.2.1 u.2.2.2.2.2.2.2.2.2.2.2.2.2.2.2.2.1 u.2.2.2.2.2.2.2.2.2.2.2.2.2.2.2.2.2.1 u.2.2.2.2.2.2.2.2.2.2.2.2.2.2.2.2.2.2)) 0 0 := by
  refine ct_of RX5 rfl (by decide +kernel) (Nat.le_of_ble_eq_true rfl) (fun zp ze zs zm zb zt zc A hin κ => ?_)
  unfold wp_X5_undo at h
  refine gw_nf (lv' := [(0, .ref (qx 0))]) (pc' := 0) (st' := []) (ce' := 0) (sl' := 0) rfl rfl rfl rfl rfl rfl ?_
  refine gw_aload_n (pc' := 1) κ dX5_undo_0 rfl 0 rfl rfl ?_
  refine gb_get (pc' := 4) (C := RX5) (T := TX5) (N := 8) κ dX5_undo_1 rfl inX5 0 rfl rfl rfl 6 (by decide) tw_fl_X5_46 rfl ?_
  refine gb_get (pc' := 7) (C := RX0) (T := TX0) (N := 3) κ dX5_undo_4 rfl inX0 3 rfl rfl rfl 2 (by decide) tw_fl_X5_224 rfl ?_
  refine gw_if_ne (pc' := 10) (tgt := 13) κ dX5_undo_7 rfl (by decide) (fun hc_1 => ?_) (fun hc_1 => ?_)
  · have h := h.1 hc_1
    refine gw_aload_n (pc' := 14) κ dX5_undo_13 rfl 0 rfl rfl ?_
    refine gb_get (pc' := 17) (C := RX5) (T := TX5) (N := 8) κ dX5_undo_14 rfl inX5 0 rfl rfl rfl 6 (by decide) tw_fl_X5_46 rfl ?_
    refine gw_aload_n (pc' := 18) κ dX5_undo_17 rfl 0 rfl rfl ?_
    refine gb_get (pc' := 21) (C := RX5) (T := TX5) (N := 8) κ dX5_undo_18 rfl inX5 0 rfl rfl rfl 0 (by decide) tw_fl_X5_10 rfl ?_
    refine gb_callV (ci := 0) (qb := 3) (rest := []) κ (c_X0_takeBack qh qn qs his now h) ⟨rfl, rfl, Nat.le_of_ble_eq_true rfl, Nat.le_of_ble_eq_true rfl⟩ tw_ml_X5_248 tw_im_X0_takeBack tw_se_X0_takeBack tw_co_X0_takeBack tw_in_X0 hy_X0_takeBack rfl rfl rfl rfl rfl (Nat.le_of_ble_eq_true rfl) rfl dX5_undo_21 [3, 4, 5, 6, 7, 8, 9, 1] rfl (by decide) (fun _ => Nat.le_of_ble_eq_true rfl) ⟨Nat.le_of_ble_eq_true rfl, Nat.le_of_ble_eq_true rfl⟩ (fun v u hv => ?_)
    obtain ⟨rfl, h⟩ := hv
    obtain ⟨sz_2, se_3, la_4, de_5, le_6, sa_7, fl_8, ar_9, dr_10, pe_11, ri_12⟩ := u
    refine gw_nf (ws' := (wfl [cX qx qn qp qw qt qu qd qh ql, cSt qn cI se_3 la_4 de_5 le_6 sa_7 fl_8 ar_9 dr_10 pe_11 ri_12, cPl qp cI pln.od pln.rd pln.vn pln.pn pln.ao pln.sr pln.sp pln.wt, cHi qh qs cR his.ol sz_2, cSt (qs 0) cI (his.hs 0).se (his.hs 0).la (his.hs 0).de (his.hs 0).le (his.hs 0).sa (his.hs 0).fl (his.hs 0).ar (his.hs 0).dr (his.hs 0).pe (his.hs 0).ri, cSt (qs 1) cI (his.hs 1).se (his.hs 1).la (his.hs 1).de (his.hs 1).le (his.hs 1).sa (his.hs 1).fl (his.hs 1).ar (his.hs 1).dr (his.hs 1).pe (his.hs 1).ri, cSt (qs 2) cI (his.hs 2).se (his.hs 2).la (his.hs 2).de (his.hs 2).le (his.hs 2).sa (his.hs 2).fl (his.hs 2).ar (his.hs 2).dr (his.hs 2).pe (his.hs 2).ri, cSt (qs 3) cI (his.hs 3).se (his.hs 3).la (his.hs 3).de (his.hs 3).le (his.hs 3).sa (his.hs 3).fl (his.hs 3).ar (his.hs 3).dr (his.hs 3).pe (his.hs 3).ri, cSt (qs 4) cI (his.hs 4).se (his.hs 4).la (his.hs 4).de (his.hs 4).le (his.hs 4).sa (his.hs 4).fl (his.hs 4).ar (his.hs 4).dr (his.hs 4).pe (his.hs 4).ri, cSt (qs 5) cI (his.hs 5).se (his.hs 5).la (his.hs 5).de (his.hs 5).le (his.hs 5).sa (his.hs 5).fl (his.hs 5).ar (his.hs 5).dr (his.hs 5).pe (his.hs 5).ri])) (lv' := [(0, .ref (qx 0))]) (st' := []) (pc' := 24) (ce' := 0) (sl' := 0) rfl rfl rfl rfl rfl rfl ?_
    refine gw_aload_n (pc' := 25) κ dX5_undo_24 rfl 0 rfl rfl ?_
    refine gb_get (pc' := 28) (C := RX5) (T := TX5) (N := 8) κ dX5_undo_25 rfl inX5 0 rfl rfl rfl 1 (by decide) tw_fl_X5_19 rfl ?_
    refine gw_aload_n (pc' := 29) κ dX5_undo_28 rfl 0 rfl rfl ?_
    refine gb_get (pc' := 32) (C := RX5) (T := TX5) (N := 8) κ dX5_undo_29 rfl inX5 0 rfl rfl rfl 0 (by decide) tw_fl_X5_10 rfl ?_
    refine gb_callV (ci := 2) (qb := 2) (rest := []) κ (c_X2_make qp qn pln (mkSt se_3 la_4 de_5 le_6 sa_7 fl_8 ar_9 dr_10 pe_11 ri_12) h) ⟨rfl, rfl, Nat.le_of_ble_eq_true rfl, Nat.le_of_ble_eq_true rfl⟩ tw_ml_X5_72 tw_im_X2_make tw_se_X2_make tw_co_X2_make tw_in_X2 hy_X2_make rfl rfl rfl rfl rfl (Nat.le_of_ble_eq_true rfl) rfl dX5_undo_32 [2, 1] rfl (by decide) (fun _ => Nat.le_of_ble_eq_true rfl) ⟨Nat.le_of_ble_eq_true rfl, Nat.le_of_ble_eq_true rfl⟩ (fun v u hv => ?_)
    obtain ⟨rfl, h⟩ := hv
    obtain ⟨od_13, rd_14, vn_15, pn_16, ao_17, sr_18, sp_19, wt_20⟩ := u
    refine gw_nf (ws' := (wfl [cX qx qn qp qw qt qu qd qh ql, cSt qn cI se_3 la_4 de_5 le_6 sa_7 fl_8 ar_9 dr_10 pe_11 ri_12, cPl qp cI od_13 rd_14 vn_15 pn_16 ao_17 sr_18 sp_19 wt_20, cHi qh qs cR his.ol sz_2, cSt (qs 0) cI (his.hs 0).se (his.hs 0).la (his.hs 0).de (his.hs 0).le (his.hs 0).sa (his.hs 0).fl (his.hs 0).ar (his.hs 0).dr (his.hs 0).pe (his.hs 0).ri, cSt (qs 1) cI (his.hs 1).se (his.hs 1).la (his.hs 1).de (his.hs 1).le (his.hs 1).sa (his.hs 1).fl (his.hs 1).ar (his.hs 1).dr (his.hs 1).pe (his.hs 1).ri, cSt (qs 2) cI (his.hs 2).se (his.hs 2).la (his.hs 2).de (his.hs 2).le (his.hs 2).sa (his.hs 2).fl (his.hs 2).ar (his.hs 2).dr (his.hs 2).pe (his.hs 2).ri, cSt (qs 3) cI (his.hs 3).se (his.hs 3).la (his.hs 3).de (his.hs 3).le (his.hs 3).sa (his.hs 3).fl (his.hs 3).ar (his.hs 3).dr (his.hs 3).pe (his.hs 3).ri, cSt (qs 4) cI (his.hs 4).se (his.hs 4).la (his.hs 4).de (his.hs 4).le (his.hs 4).sa (his.hs 4).fl (his.hs 4).ar (his.hs 4).dr (his.hs 4).pe (his.hs 4).ri, cSt (qs 5) cI (his.hs 5).se (his.hs 5).la (his.hs 5).de (his.hs 5).le (his.hs 5).sa (his.hs 5).fl (his.hs 5).ar (his.hs 5).dr (his.hs 5).pe (his.hs 5).ri])) (lv' := [(0, .ref (qx 0))]) (st' := []) (pc' := 35) (ce' := 0) (sl' := 0) rfl rfl rfl rfl rfl rfl ?_
    refine gw_aload_n (pc' := 36) κ dX5_undo_35 rfl 0 rfl rfl ?_
    refine gb_get (pc' := 39) (C := RX5) (T := TX5) (N := 8) κ dX5_undo_36 rfl inX5 0 rfl rfl rfl 6 (by decide) tw_fl_X5_46 rfl ?_
    refine gb_get (pc' := 42) (C := RX0) (T := TX0) (N := 3) κ dX5_undo_39 rfl inX0 3 rfl rfl rfl 2 (by decide) tw_fl_X5_224 rfl ?_
    exact gw_iret κ dX5_undo_42 (se_3, la_4, de_5, le_6, sa_7, fl_8, ar_9, dr_10, pe_11, ri_12, od_13, rd_14, vn_15, pn_16, ao_17, sr_18, sp_19, wt_20, sz_2) rfl ⟨_, rfl, h⟩
  · have h := h.2 hc_1
    refine gw_bipush (pc' := 12) (v := -105) κ dX5_undo_10 rfl (by decide) ?_
    exact gw_iret κ dX5_undo_12 (now.se, now.la, now.de, now.le, now.sa, now.fl, now.ar, now.dr, now.pe, now.ri, pln.od, pln.rd, pln.vn, pln.pn, pln.ao, pln.sr, pln.sp, pln.wt, his.sz) rfl ⟨_, rfl, h⟩
theorem hy_X5_isSlot : g_hy yX5_isSlot 1 := by decide +kernel
set_option maxHeartbeats 4000000 in
set_option maxRecDepth 100000 in
theorem c_X5_isSlot {l : Launch} {D : va_G} {cI cR : ClassId}  {P : Int32 → Prop} (x0 : Int32) (h : wp_X5_isSlot P x0) : CT l D cI cR yX5_isSlot cX5_isSlot 1 (some .boolean) ({ frames := 1, cells := 0, slots := 0, locals := 22 } : Room) [.int x0] (wfl ([] : List va_W)) (fun _ : Unit => (wfl ([] : List va_W))) (pI (fun (r : Int32) (_ : Unit) => P r)) 0 0 := by
  refine ct_of RX5 rfl (by decide +kernel) (Nat.le_of_ble_eq_true rfl) (fun zp ze zs zm zb zt zc A hin κ => ?_)
  unfold wp_X5_isSlot at h
  refine gw_nf (lv' := [(0, .int x0)]) (pc' := 0) (st' := []) (ce' := 0) (sl' := 0) rfl rfl rfl rfl rfl rfl ?_
  refine gw_iload_n (pc' := 1) κ dX5_isSlot_0 rfl 0 rfl rfl ?_
  refine gw_iconst (pc' := 2) (v := 0) κ dX5_isSlot_1 rfl (by decide) ?_
  refine gw_iconst (pc' := 3) (v := 1) κ dX5_isSlot_2 rfl (by decide) ?_
  refine gb_callS (rest := []) κ (c_X5_isIn  x0 (0 : Int32) (1 : Int32) h) ⟨rfl, rfl, Nat.le_of_ble_eq_true rfl, Nat.le_of_ble_eq_true rfl⟩ tw_ml_X5_54 tw_st_X5_isIn tw_co_X5_isIn tw_in_X5 hy_X5_isIn rfl (Nat.le_of_ble_eq_true rfl) rfl dX5_isSlot_3 [] rfl (by decide) (fun _ => Nat.le_of_ble_eq_true rfl) ⟨Nat.le_of_ble_eq_true rfl, Nat.le_of_ble_eq_true rfl⟩ (fun v u hv => ?_)
  obtain ⟨r_1, rfl, h⟩ := hv
  refine gw_nf (ws' := (wfl ([] : List va_W))) (lv' := [(0, .int x0)]) (st' := [.int r_1]) (pc' := 6) (ce' := 0) (sl' := 0) rfl rfl rfl rfl rfl rfl ?_
  obtain ⟨hb9, h⟩ := h
  exact gw_zret κ dX5_isSlot_6 () rfl hb9 ⟨_, rfl, h⟩
theorem hy_X6_within : g_hy yX6_within 3 := by decide +kernel
set_option maxHeartbeats 4000000 in
set_option maxRecDepth 100000 in
theorem c_X6_within {l : Launch} {D : va_G} {cI cR : ClassId}  {P : Int32 → Prop} (x0 : Int32) (x1 : Int32) (x2 : Int32) (h : wp_X6_within P x0 x1 x2) : CT l D cI cR yX6_within cX6_within 3 (some .boolean) ({ frames := 0, cells := 0, slots := 0, locals := 0 } : Room) [.int x0, .int x1, .int x2] (wfl ([] : List va_W)) (fun _ : Unit => (wfl ([] : List va_W))) (pI (fun (r : Int32) (_ : Unit) => P r)) 0 0 := by
  refine ct_of RX6 rfl (by decide +kernel) (Nat.le_of_ble_eq_true rfl) (fun zp ze zs zm zb zt zc A hin κ => ?_)
  unfold wp_X6_within at h
  refine gw_nf (lv' := [(0, .int x0), (1, .int x1), (2, .int x2)]) (pc' := 0) (st' := []) (ce' := 0) (sl' := 0) rfl rfl rfl rfl rfl rfl ?_
  refine gw_iload_n (pc' := 1) κ dX6_within_0 rfl 0 rfl rfl ?_
  refine gw_iload_n (pc' := 2) κ dX6_within_1 rfl 1 rfl rfl ?_
  refine gw_icmp_lt (pc' := 5) (tgt := 14) κ dX6_within_2 rfl (by decide) (fun hc_1 => ?_) (fun hc_1 => ?_)
  · have h := h.1 hc_1
    refine gw_iconst (pc' := 15) (v := 0) κ dX6_within_14 rfl (by decide) ?_
    exact gw_zret κ dX6_within_15 () rfl rfl ⟨_, rfl, h⟩
  · have h := h.2 hc_1
    refine gw_iload_n (pc' := 6) κ dX6_within_5 rfl 0 rfl rfl ?_
    refine gw_iload_n (pc' := 7) κ dX6_within_6 rfl 2 rfl rfl ?_
    refine gw_icmp_gt (pc' := 10) (tgt := 14) κ dX6_within_7 rfl (by decide) (fun hc_2 => ?_) (fun hc_2 => ?_)
    · have h := h.1 hc_2
      refine gw_iconst (pc' := 15) (v := 0) κ dX6_within_14 rfl (by decide) ?_
      exact gw_zret κ dX6_within_15 () rfl rfl ⟨_, rfl, h⟩
    · have h := h.2 hc_2
      refine gw_iconst (pc' := 11) (v := 1) κ dX6_within_10 rfl (by decide) ?_
      refine gw_goto (tgt := 15) κ dX6_within_11 (by decide) ?_
      exact gw_zret κ dX6_within_15 () rfl rfl ⟨_, rfl, h⟩
theorem hy_X6_isFlight : g_hy yX6_isFlight 1 := by decide +kernel
set_option maxHeartbeats 4000000 in
set_option maxRecDepth 100000 in
theorem c_X6_isFlight {l : Launch} {D : va_G} {cI cR : ClassId}  {P : Int32 → Prop} (x0 : Int32) (h : wp_X6_isFlight P x0) : CT l D cI cR yX6_isFlight cX6_isFlight 1 (some .boolean) ({ frames := 1, cells := 0, slots := 0, locals := 22 } : Room) [.int x0] (wfl ([] : List va_W)) (fun _ : Unit => (wfl ([] : List va_W))) (pI (fun (r : Int32) (_ : Unit) => P r)) 0 0 := by
  refine ct_of RX6 rfl (by decide +kernel) (Nat.le_of_ble_eq_true rfl) (fun zp ze zs zm zb zt zc A hin κ => ?_)
  unfold wp_X6_isFlight at h
  refine gw_nf (lv' := [(0, .int x0)]) (pc' := 0) (st' := []) (ce' := 0) (sl' := 0) rfl rfl rfl rfl rfl rfl ?_
  refine gw_iload_n (pc' := 1) κ dX6_isFlight_0 rfl 0 rfl rfl ?_
  refine gw_iconst (pc' := 2) (v := 0) κ dX6_isFlight_1 rfl (by decide) ?_
  refine gw_iconst (pc' := 3) (v := 5) κ dX6_isFlight_2 rfl (by decide) ?_
  refine gb_callS (rest := []) κ (c_X6_within  x0 (0 : Int32) (5 : Int32) h) ⟨rfl, rfl, Nat.le_of_ble_eq_true rfl, Nat.le_of_ble_eq_true rfl⟩ tw_ml_X6_46 tw_st_X6_within tw_co_X6_within tw_in_X6 hy_X6_within rfl (Nat.le_of_ble_eq_true rfl) rfl dX6_isFlight_3 [] rfl (by decide) (fun _ => Nat.le_of_ble_eq_true rfl) ⟨Nat.le_of_ble_eq_true rfl, Nat.le_of_ble_eq_true rfl⟩ (fun v u hv => ?_)
  obtain ⟨r_1, rfl, h⟩ := hv
  refine gw_nf (ws' := (wfl ([] : List va_W))) (lv' := [(0, .int x0)]) (st' := [.int r_1]) (pc' := 6) (ce' := 0) (sl' := 0) rfl rfl rfl rfl rfl rfl ?_
  obtain ⟨hb9, h⟩ := h
  exact gw_zret κ dX6_isFlight_6 () rfl hb9 ⟨_, rfl, h⟩
theorem hy_X6_isVan : g_hy yX6_isVan 1 := by decide +kernel
set_option maxHeartbeats 4000000 in
set_option maxRecDepth 100000 in
theorem c_X6_isVan {l : Launch} {D : va_G} {cI cR : ClassId}  {P : Int32 → Prop} (x0 : Int32) (h : wp_X6_isVan P x0) : CT l D cI cR yX6_isVan cX6_isVan 1 (some .boolean) ({ frames := 1, cells := 0, slots := 0, locals := 22 } : Room) [.int x0] (wfl ([] : List va_W)) (fun _ : Unit => (wfl ([] : List va_W))) (pI (fun (r : Int32) (_ : Unit) => P r)) 0 0 := by
  refine ct_of RX6 rfl (by decide +kernel) (Nat.le_of_ble_eq_true rfl) (fun zp ze zs zm zb zt zc A hin κ => ?_)
  unfold wp_X6_isVan at h
  refine gw_nf (lv' := [(0, .int x0)]) (pc' := 0) (st' := []) (ce' := 0) (sl' := 0) rfl rfl rfl rfl rfl rfl ?_
  refine gw_iload_n (pc' := 1) κ dX6_isVan_0 rfl 0 rfl rfl ?_
  refine gw_iconst (pc' := 2) (v := 0) κ dX6_isVan_1 rfl (by decide) ?_
  refine gw_bipush (pc' := 4) (v := 7) κ dX6_isVan_2 rfl (by decide) ?_
  refine gb_callS (rest := []) κ (c_X6_within  x0 (0 : Int32) (7 : Int32) h) ⟨rfl, rfl, Nat.le_of_ble_eq_true rfl, Nat.le_of_ble_eq_true rfl⟩ tw_ml_X6_46 tw_st_X6_within tw_co_X6_within tw_in_X6 hy_X6_within rfl (Nat.le_of_ble_eq_true rfl) rfl dX6_isVan_4 [] rfl (by decide) (fun _ => Nat.le_of_ble_eq_true rfl) ⟨Nat.le_of_ble_eq_true rfl, Nat.le_of_ble_eq_true rfl⟩ (fun v u hv => ?_)
  obtain ⟨r_1, rfl, h⟩ := hv
  refine gw_nf (ws' := (wfl ([] : List va_W))) (lv' := [(0, .int x0)]) (st' := [.int r_1]) (pc' := 7) (ce' := 0) (sl' := 0) rfl rfl rfl rfl rfl rfl ?_
  obtain ⟨hb9, h⟩ := h
  exact gw_zret κ dX6_isVan_7 () rfl hb9 ⟨_, rfl, h⟩
theorem hy_X6_isRider : g_hy yX6_isRider 1 := by decide +kernel
set_option maxHeartbeats 4000000 in
set_option maxRecDepth 100000 in
theorem c_X6_isRider {l : Launch} {D : va_G} {cI cR : ClassId}  (qa : Nat → Nat) {P : Int32 → Prop} (Mst : Nat → Int32) (Mhi : Nat → Int32) (Mhn : Int32) (Msl : Nat → Int32) (Msv : Nat → Int32) (Mpd : Nat → Int32) (Mln : Int32) (Mat : Int32) (Mit : Nat → Int32) (Mvf : Nat → Int32) (Mdn : Nat → Int32) (Mlf : Nat → Int32) (Mar : Nat → Int32) (Msa : Nat → Int32) (Msm : Nat → Int32) (Mso : Int32) (x1 : Int32) (h : wp_X6_isRider P Mst x1) : CT l D cI cR yX6_isRider cX6_isRider 2 (some .boolean) ({ frames := 1, cells := 0, slots := 0, locals := 22 } : Room) [.ref (qa 0), .int x1] (wfl [cM qa cI Mst Mhi Mhn Msl Msv Mpd Mln Mat Mit Mvf Mdn Mlf Mar Msa Msm Mso]) (fun _ : Unit => (wfl [cM qa cI Mst Mhi Mhn Msl Msv Mpd Mln Mat Mit Mvf Mdn Mlf Mar Msa Msm Mso])) (pI (fun (r : Int32) (_ : Unit) => P r)) 0 0 := by
  refine ct_of RX6 rfl (by decide +kernel) (Nat.le_of_ble_eq_true rfl) (fun zp ze zs zm zb zt zc A hin κ => ?_)
  unfold wp_X6_isRider at h
  refine gw_nf (lv' := [(0, .ref (qa 0)), (1, .int x1)]) (pc' := 0) (st' := []) (ce' := 0) (sl' := 0) rfl rfl rfl rfl rfl rfl ?_
  refine gw_iload_n (pc' := 1) κ dX6_isRider_0 rfl 1 rfl rfl ?_
  refine gw_iconst (pc' := 2) (v := 0) κ dX6_isRider_1 rfl (by decide) ?_
  refine gw_aload_n (pc' := 3) κ dX6_isRider_2 rfl 0 rfl rfl ?_
  refine gb_get (pc' := 6) (C := RX6) (T := TX6) (N := 16) κ dX6_isRider_3 rfl inX6 0 rfl rfl rfl 0 (by decide) tw_fl_X6_7 rfl ?_
  refine gw_bipush (pc' := 8) (v := 33) κ dX6_isRider_6 rfl (by decide) ?_
  refine gb_iald (pc' := 9) κ dX6_isRider_8 rfl 0 1 rfl rfl (by unfold vp_in; decide) ?_
  refine gw_iconst (pc' := 10) (v := 1) κ dX6_isRider_9 rfl (by decide) ?_
  refine gw_isub (pc' := 11) κ dX6_isRider_10 rfl  ?_
  refine gb_callS (rest := []) κ (c_X6_within  x1 (0 : Int32) ((Mst (33 : Int32).toNatClampNeg) - (1 : Int32)) h) ⟨rfl, rfl, Nat.le_of_ble_eq_true rfl, Nat.le_of_ble_eq_true rfl⟩ tw_ml_X6_46 tw_st_X6_within tw_co_X6_within tw_in_X6 hy_X6_within rfl (Nat.le_of_ble_eq_true rfl) rfl dX6_isRider_11 [] rfl (by decide) (fun _ => Nat.le_of_ble_eq_true rfl) ⟨Nat.le_of_ble_eq_true rfl, Nat.le_of_ble_eq_true rfl⟩ (fun v u hv => ?_)
  obtain ⟨r_2, rfl, h⟩ := hv
  refine gw_nf (ws' := (wfl [cM qa cI Mst Mhi Mhn Msl Msv Mpd Mln Mat Mit Mvf Mdn Mlf Mar Msa Msm Mso])) (lv' := [(0, .ref (qa 0)), (1, .int x1)]) (st' := [.int r_2]) (pc' := 14) (ce' := 0) (sl' := 0) rfl rfl rfl rfl rfl rfl ?_
  obtain ⟨hb9, h⟩ := h
  exact gw_zret κ dX6_isRider_14 () rfl hb9 ⟨_, rfl, h⟩
theorem hy_X6_of : g_hy yX6_of 2 := by decide +kernel
set_option maxHeartbeats 4000000 in
set_option maxRecDepth 100000 in
theorem c_X6_of {l : Launch} {D : va_G} {cI cR : ClassId}  (qa : Nat → Nat) {P : Int32 → Prop} (Mst : Nat → Int32) (Mhi : Nat → Int32) (Mhn : Int32) (Msl : Nat → Int32) (Msv : Nat → Int32) (Mpd : Nat → Int32) (Mln : Int32) (Mat : Int32) (Mit : Nat → Int32) (Mvf : Nat → Int32) (Mdn : Nat → Int32) (Mlf : Nat → Int32) (Mar : Nat → Int32) (Msa : Nat → Int32) (Msm : Nat → Int32) (Mso : Int32) (x1 : Int32) (x2 : Int32) (h : wp_X6_of P Mst x1 x2) : CT l D cI cR yX6_of cX6_of 3 (some .int) ({ frames := 0, cells := 0, slots := 0, locals := 0 } : Room) [.ref (qa 0), .int x1, .int x2] (wfl [cM qa cI Mst Mhi Mhn Msl Msv Mpd Mln Mat Mit Mvf Mdn Mlf Mar Msa Msm Mso]) (fun _ : Unit => (wfl [cM qa cI Mst Mhi Mhn Msl Msv Mpd Mln Mat Mit Mvf Mdn Mlf Mar Msa Msm Mso])) (pI (fun (r : Int32) (_ : Unit) => P r)) 0 0 := by
  refine ct_of RX6 rfl (by decide +kernel) (Nat.le_of_ble_eq_true rfl) (fun zp ze zs zm zb zt zc A hin κ => ?_)
  unfold wp_X6_of at h
  refine gw_nf (lv' := [(0, .ref (qa 0)), (1, .int x1), (2, .int x2)]) (pc' := 0) (st' := []) (ce' := 0) (sl' := 0) rfl rfl rfl rfl rfl rfl ?_
  refine gw_aload_n (pc' := 1) κ dX6_of_0 rfl 0 rfl rfl ?_
  refine gb_get (pc' := 4) (C := RX6) (T := TX6) (N := 16) κ dX6_of_1 rfl inX6 0 rfl rfl rfl 0 (by decide) tw_fl_X6_7 rfl ?_
  refine gw_bipush (pc' := 6) (v := 34) κ dX6_of_4 rfl (by decide) ?_
  refine gw_iconst (pc' := 7) (v := 4) κ dX6_of_6 rfl (by decide) ?_
  refine gw_iload_n (pc' := 8) κ dX6_of_7 rfl 1 rfl rfl ?_
  refine gw_imul (pc' := 9) κ dX6_of_8 rfl  ?_
  refine gw_iadd (pc' := 10) κ dX6_of_9 rfl  ?_
  refine gw_iload_n (pc' := 11) κ dX6_of_10 rfl 2 rfl rfl ?_
  refine gw_iadd (pc' := 12) κ dX6_of_11 rfl  ?_
  obtain ⟨hb_1, h⟩ := h
  refine gb_iald (pc' := 13) κ dX6_of_12 rfl 0 1 rfl rfl hb_1 ?_
  exact gw_iret κ dX6_of_13 () rfl ⟨_, rfl, h⟩
theorem hy_X6_record : g_hy yX6_record 0 := by decide +kernel
set_option maxHeartbeats 4000000 in
set_option maxRecDepth 100000 in
theorem k_X6_record_52 {zp : Program} {l : Launch} {ze : Env} {zs : State} {zm : MethodId} {za : Array Value} {zb : List Frame} {zt : Method} {zc : Code} {D : va_G} {cI cR : ClassId} {A : Nat → Prop} (κ : KC zp zs zm za zt zc cX6_record 2 RX6 D cI cR A none) (qa : Nat → Nat) (P : (Nat → Int32) → Int32 → Prop) (Mst : Nat → Int32) (Msl : Nat → Int32) (Msv : Nat → Int32) (Mpd : Nat → Int32) (Mln : Int32) (Mat : Int32) (Mit : Nat → Int32) (Mvf : Nat → Int32) (Mdn : Nat → Int32) (Mlf : Nat → Int32) (Mar : Nat → Int32) (Msa : Nat → Int32) (Msm : Nat → Int32) (Mso : Int32) (Mhn : Int32) : ∀ (n : Nat) (v1 : Int32) (Mhi : Nat → Int32), wp_X6_record_52 P Mst Mhn n v1 Mhi → GM zp l ze ({ frames := 0, cells := 0, slots := 0, locals := 0 } : Room) zs zm za zb zt zc D A 2 (pV (fun (u : (Nat → Int32) × Int32) => P u.1 u.2)) (fun u : (Nat → Int32) × Int32 => (wfl [cM qa cI Mst u.1 u.2 Msl Msv Mpd Mln Mat Mit Mvf Mdn Mlf Mar Msa Msm Mso])) 0 0 0 0 (wfl [cM qa cI Mst Mhi Mhn Msl Msv Mpd Mln Mat Mit Mvf Mdn Mlf Mar Msa Msm Mso]) [(0, .ref (qa 0)), (1, .int v1)] 52 [] := by
  intro n52
  induction n52 with
  | zero => intro v1 Mhi h; exact (show False from h).elim
  | succ n52 ih52 =>
    intro v1 Mhi h
    have h : wp_X6_record_52F P Mst Mhn (wp_X6_record_52 P Mst Mhn n52) v1 Mhi := h
    unfold wp_X6_record_52F at h
    refine gw_iload_n (pc' := 53) κ dX6_record_52 rfl 1 rfl rfl ?_
    refine gw_sipush (pc' := 56) (v := 130) κ dX6_record_53 rfl (by decide) ?_
    refine gw_icmp_ge (pc' := 59) (tgt := 86) κ dX6_record_56 rfl (by decide) (fun hc_2 => ?_) (fun hc_2 => ?_)
    · have h := h.1 hc_2
      refine gw_aload_n (pc' := 87) κ dX6_record_86 rfl 0 rfl rfl ?_
      refine gw_dup (pc' := 88) κ dX6_record_87 rfl rfl ?_
      refine gb_get (pc' := 91) (C := RX6) (T := TX6) (N := 16) κ dX6_record_88 rfl inX6 0 rfl rfl rfl 2 (by decide) tw_fl_X6_50 rfl ?_
      refine gw_iconst (pc' := 92) (v := 1) κ dX6_record_91 rfl (by decide) ?_
      refine gw_iadd (pc' := 93) κ dX6_record_92 rfl  ?_
      refine gb_put (pc' := 96) (C := RX6) (T := TX6) (N := 16) (ty := .int) (bs' := [cM qa cI Mst Mhi (Mhn + (1 : Int32)) Msl Msv Mpd Mln Mat Mit Mvf Mdn Mlf Mar Msa Msm Mso]) κ dX6_record_93 rfl inX6 tyX6 tyX6_ok nmX6 0 rfl rfl rfl 2 (by decide) tw_fl_X6_50 rfl (by decide +kernel) rfl rfl (Nat.le_of_ble_eq_true rfl) rfl ?_
      exact gw_vret κ dX6_record_96 (Mhi, (Mhn + (1 : Int32))) rfl ⟨rfl, h⟩
    · have h := h.2 hc_2
      refine gw_aload_n (pc' := 60) κ dX6_record_59 rfl 0 rfl rfl ?_
      refine gb_get (pc' := 63) (C := RX6) (T := TX6) (N := 16) κ dX6_record_60 rfl inX6 0 rfl rfl rfl 1 (by decide) tw_fl_X6_13 rfl ?_
      refine gw_aload_n (pc' := 64) κ dX6_record_63 rfl 0 rfl rfl ?_
      refine gb_get (pc' := 67) (C := RX6) (T := TX6) (N := 16) κ dX6_record_64 rfl inX6 0 rfl rfl rfl 2 (by decide) tw_fl_X6_50 rfl ?_
      refine gw_sipush (pc' := 70) (v := 130) κ dX6_record_67 rfl (by decide) ?_
      refine gw_imul (pc' := 71) κ dX6_record_70 rfl  ?_
      refine gw_iload_n (pc' := 72) κ dX6_record_71 rfl 1 rfl rfl ?_
      refine gw_iadd (pc' := 73) κ dX6_record_72 rfl  ?_
      refine gw_aload_n (pc' := 74) κ dX6_record_73 rfl 0 rfl rfl ?_
      refine gb_get (pc' := 77) (C := RX6) (T := TX6) (N := 16) κ dX6_record_74 rfl inX6 0 rfl rfl rfl 0 (by decide) tw_fl_X6_7 rfl ?_
      refine gw_iload_n (pc' := 78) κ dX6_record_77 rfl 1 rfl rfl ?_
      obtain ⟨hb_3, h⟩ := h
      refine gb_iald (pc' := 79) κ dX6_record_78 rfl 0 1 rfl rfl hb_3 ?_
      obtain ⟨hb_4, h⟩ := h
      refine gb_iast (pc' := 80) (bs' := [cM qa cI Mst (upd Mhi ((Mhn * (130 : Int32)) + v1).toNatClampNeg (Mst v1.toNatClampNeg)) Mhn Msl Msv Mpd Mln Mat Mit Mvf Mdn Mlf Mar Msa Msm Mso]) κ dX6_record_79 rfl 0 2 rfl rfl hb_4 rfl ?_
      refine gw_iinc (pc' := 83) κ dX6_record_80 rfl 1 rfl (v := (v1 + 1)) rfl (by decide) (lv' := [(1, .int (v1 + 1)), (0, .ref (qa 0))]) rfl ?_
      refine gw_goto (tgt := 52) κ dX6_record_83 (by decide) ?_
      refine gw_lv (lv' := [(0, .ref (qa 0)), (1, .int (v1 + 1))]) [1, 0] rfl ?_
      exact ih52 (v1 + 1) (upd Mhi ((Mhn * (130 : Int32)) + v1).toNatClampNeg (Mst v1.toNatClampNeg)) h
set_option maxHeartbeats 4000000 in
set_option maxRecDepth 100000 in
theorem k_X6_record_11 {zp : Program} {l : Launch} {ze : Env} {zs : State} {zm : MethodId} {za : Array Value} {zb : List Frame} {zt : Method} {zc : Code} {D : va_G} {cI cR : ClassId} {A : Nat → Prop} (κ : KC zp zs zm za zt zc cX6_record 2 RX6 D cI cR A none) (qa : Nat → Nat) (P : (Nat → Int32) → Int32 → Prop) (Mst : Nat → Int32) (Msl : Nat → Int32) (Msv : Nat → Int32) (Mpd : Nat → Int32) (Mln : Int32) (Mat : Int32) (Mit : Nat → Int32) (Mvf : Nat → Int32) (Mdn : Nat → Int32) (Mlf : Nat → Int32) (Mar : Nat → Int32) (Msa : Nat → Int32) (Msm : Nat → Int32) (Mso : Int32) (Mhn : Int32) : ∀ (n : Nat) (v1 : Int32) (Mhi : Nat → Int32), wp_X6_record_11 P Mst Mhn n v1 Mhi → GM zp l ze ({ frames := 0, cells := 0, slots := 0, locals := 0 } : Room) zs zm za zb zt zc D A 2 (pV (fun (u : (Nat → Int32) × Int32) => P u.1 u.2)) (fun u : (Nat → Int32) × Int32 => (wfl [cM qa cI Mst u.1 u.2 Msl Msv Mpd Mln Mat Mit Mvf Mdn Mlf Mar Msa Msm Mso])) 0 0 0 0 (wfl [cM qa cI Mst Mhi Mhn Msl Msv Mpd Mln Mat Mit Mvf Mdn Mlf Mar Msa Msm Mso]) [(0, .ref (qa 0)), (1, .int v1)] 11 [] := by
  intro n11
  induction n11 with
  | zero => intro v1 Mhi h; exact (show False from h).elim
  | succ n11 ih11 =>
    intro v1 Mhi h
    have h : wp_X6_record_11F P Mst Mhn (wp_X6_record_11 P Mst Mhn n11) v1 Mhi := h
    unfold wp_X6_record_11F at h
    refine gw_iload_n (pc' := 12) κ dX6_record_11 rfl 1 rfl rfl ?_
    refine gw_sipush (pc' := 15) (v := 650) κ dX6_record_12 rfl (by decide) ?_
    refine gw_icmp_ge (pc' := 18) (tgt := 40) κ dX6_record_15 rfl (by decide) (fun hc_5 => ?_) (fun hc_5 => ?_)
    · have h := h.1 hc_5
      refine gw_aload_n (pc' := 41) κ dX6_record_40 rfl 0 rfl rfl ?_
      refine gw_dup (pc' := 42) κ dX6_record_41 rfl rfl ?_
      refine gb_get (pc' := 45) (C := RX6) (T := TX6) (N := 16) κ dX6_record_42 rfl inX6 0 rfl rfl rfl 2 (by decide) tw_fl_X6_50 rfl ?_
      refine gw_iconst (pc' := 46) (v := 1) κ dX6_record_45 rfl (by decide) ?_
      refine gw_isub (pc' := 47) κ dX6_record_46 rfl  ?_
      refine gb_put (pc' := 50) (C := RX6) (T := TX6) (N := 16) (ty := .int) (bs' := [cM qa cI Mst Mhi (Mhn - (1 : Int32)) Msl Msv Mpd Mln Mat Mit Mvf Mdn Mlf Mar Msa Msm Mso]) κ dX6_record_47 rfl inX6 tyX6 tyX6_ok nmX6 0 rfl rfl rfl 2 (by decide) tw_fl_X6_50 rfl (by decide +kernel) rfl rfl (Nat.le_of_ble_eq_true rfl) rfl ?_
      refine gw_iconst (pc' := 51) (v := 0) κ dX6_record_50 rfl (by decide) ?_
      refine gw_istore_n (pc' := 52) κ dX6_record_51 rfl rfl (by decide) (lv' := [(1, .int (0 : Int32)), (0, .ref (qa 0))]) rfl ?_
      obtain ⟨m52, h⟩ := h
      refine gw_lv (lv' := [(0, .ref (qa 0)), (1, .int (0 : Int32))]) [1, 0] rfl ?_
      exact k_X6_record_52 κ qa P Mst Msl Msv Mpd Mln Mat Mit Mvf Mdn Mlf Mar Msa Msm Mso (Mhn - (1 : Int32)) m52 (0 : Int32) Mhi h
    · have h := h.2 hc_5
      refine gw_aload_n (pc' := 19) κ dX6_record_18 rfl 0 rfl rfl ?_
      refine gb_get (pc' := 22) (C := RX6) (T := TX6) (N := 16) κ dX6_record_19 rfl inX6 0 rfl rfl rfl 1 (by decide) tw_fl_X6_13 rfl ?_
      refine gw_iload_n (pc' := 23) κ dX6_record_22 rfl 1 rfl rfl ?_
      refine gw_aload_n (pc' := 24) κ dX6_record_23 rfl 0 rfl rfl ?_
      refine gb_get (pc' := 27) (C := RX6) (T := TX6) (N := 16) κ dX6_record_24 rfl inX6 0 rfl rfl rfl 1 (by decide) tw_fl_X6_13 rfl ?_
      refine gw_iload_n (pc' := 28) κ dX6_record_27 rfl 1 rfl rfl ?_
      refine gw_sipush (pc' := 31) (v := 130) κ dX6_record_28 rfl (by decide) ?_
      refine gw_iadd (pc' := 32) κ dX6_record_31 rfl  ?_
      obtain ⟨hb_6, h⟩ := h
      refine gb_iald (pc' := 33) κ dX6_record_32 rfl 0 2 rfl rfl hb_6 ?_
      obtain ⟨hb_7, h⟩ := h
      refine gb_iast (pc' := 34) (bs' := [cM qa cI Mst (upd Mhi v1.toNatClampNeg (Mhi (v1 + (130 : Int32)).toNatClampNeg)) Mhn Msl Msv Mpd Mln Mat Mit Mvf Mdn Mlf Mar Msa Msm Mso]) κ dX6_record_33 rfl 0 2 rfl rfl hb_7 rfl ?_
      refine gw_iinc (pc' := 37) κ dX6_record_34 rfl 1 rfl (v := (v1 + 1)) rfl (by decide) (lv' := [(1, .int (v1 + 1)), (0, .ref (qa 0))]) rfl ?_
      refine gw_goto (tgt := 11) κ dX6_record_37 (by decide) ?_
      refine gw_lv (lv' := [(0, .ref (qa 0)), (1, .int (v1 + 1))]) [1, 0] rfl ?_
      exact ih11 (v1 + 1) (upd Mhi v1.toNatClampNeg (Mhi (v1 + (130 : Int32)).toNatClampNeg)) h
set_option maxHeartbeats 4000000 in
set_option maxRecDepth 100000 in
theorem c_X6_record {l : Launch} {D : va_G} {cI cR : ClassId}  (qa : Nat → Nat) {P : (Nat → Int32) → Int32 → Prop} (Mst : Nat → Int32) (Mhi : Nat → Int32) (Mhn : Int32) (Msl : Nat → Int32) (Msv : Nat → Int32) (Mpd : Nat → Int32) (Mln : Int32) (Mat : Int32) (Mit : Nat → Int32) (Mvf : Nat → Int32) (Mdn : Nat → Int32) (Mlf : Nat → Int32) (Mar : Nat → Int32) (Msa : Nat → Int32) (Msm : Nat → Int32) (Mso : Int32) (h : wp_X6_record P Mst Mhi Mhn) : CT l D cI cR yX6_record cX6_record 2 none ({ frames := 0, cells := 0, slots := 0, locals := 0 } : Room) [.ref (qa 0)] (wfl [cM qa cI Mst Mhi Mhn Msl Msv Mpd Mln Mat Mit Mvf Mdn Mlf Mar Msa Msm Mso]) (fun u : (Nat → Int32) × Int32 => (wfl [cM qa cI Mst u.1 u.2 Msl Msv Mpd Mln Mat Mit Mvf Mdn Mlf Mar Msa Msm Mso])) (pV (fun (u : (Nat → Int32) × Int32) => P u.1 u.2)) 0 0 := by
  refine ct_of RX6 rfl (by decide +kernel) (Nat.le_of_ble_eq_true rfl) (fun zp ze zs zm zb zt zc A hin κ => ?_)
  unfold wp_X6_record at h
  refine gw_nf (lv' := [(0, .ref (qa 0))]) (pc' := 0) (st' := []) (ce' := 0) (sl' := 0) rfl rfl rfl rfl rfl rfl ?_
  refine gw_aload_n (pc' := 1) κ dX6_record_0 rfl 0 rfl rfl ?_
  refine gb_get (pc' := 4) (C := RX6) (T := TX6) (N := 16) κ dX6_record_1 rfl inX6 0 rfl rfl rfl 2 (by decide) tw_fl_X6_50 rfl ?_
  refine gw_bipush (pc' := 6) (v := 6) κ dX6_record_4 rfl (by decide) ?_
  refine gw_icmp_ne (pc' := 9) (tgt := 50) κ dX6_record_6 rfl (by decide) (fun hc_1 => ?_) (fun hc_1 => ?_)
  · have h := h.1 hc_1
    refine gw_iconst (pc' := 51) (v := 0) κ dX6_record_50 rfl (by decide) ?_
    refine gw_istore_n (pc' := 52) κ dX6_record_51 rfl rfl (by decide) (lv' := [(1, .int (0 : Int32)), (0, .ref (qa 0))]) rfl ?_
    obtain ⟨m52, h⟩ := h
    refine gw_lv (lv' := [(0, .ref (qa 0)), (1, .int (0 : Int32))]) [1, 0] rfl ?_
    exact k_X6_record_52 κ qa P Mst Msl Msv Mpd Mln Mat Mit Mvf Mdn Mlf Mar Msa Msm Mso Mhn m52 (0 : Int32) Mhi h
  · have h := h.2 hc_1
    refine gw_iconst (pc' := 10) (v := 0) κ dX6_record_9 rfl (by decide) ?_
    refine gw_istore_n (pc' := 11) κ dX6_record_10 rfl rfl (by decide) (lv' := [(1, .int (0 : Int32)), (0, .ref (qa 0))]) rfl ?_
    obtain ⟨m11, h⟩ := h
    refine gw_lv (lv' := [(0, .ref (qa 0)), (1, .int (0 : Int32))]) [1, 0] rfl ?_
    exact k_X6_record_11 κ qa P Mst Msl Msv Mpd Mln Mat Mit Mvf Mdn Mlf Mar Msa Msm Mso Mhn m11 (0 : Int32) Mhi h
theorem hy_X6_undo : g_hy yX6_undo 0 := by decide +kernel
set_option maxHeartbeats 4000000 in
set_option maxRecDepth 100000 in
theorem k_X6_undo_22 {zp : Program} {l : Launch} {ze : Env} {zs : State} {zm : MethodId} {za : Array Value} {zb : List Frame} {zt : Method} {zc : Code} {D : va_G} {cI cR : ClassId} {A : Nat → Prop} (κ : KC zp zs zm za zt zc cX6_undo 2 RX6 D cI cR A (some .int)) (qa : Nat → Nat) (P : Int32 → (Nat → Int32) → Int32 → Prop) (Mhi : Nat → Int32) (Msl : Nat → Int32) (Msv : Nat → Int32) (Mpd : Nat → Int32) (Mln : Int32) (Mat : Int32) (Mit : Nat → Int32) (Mvf : Nat → Int32) (Mdn : Nat → Int32) (Mlf : Nat → Int32) (Mar : Nat → Int32) (Msa : Nat → Int32) (Msm : Nat → Int32) (Mso : Int32) (Mhn : Int32) : ∀ (n : Nat) (v1 : Int32) (Mst : Nat → Int32), wp_X6_undo_22 P Mhi Mhn n v1 Mst → GM zp l ze ({ frames := 0, cells := 0, slots := 0, locals := 0 } : Room) zs zm za zb zt zc D A 2 (pI (fun (r : Int32) (u : (Nat → Int32) × Int32) => P r u.1 u.2)) (fun u : (Nat → Int32) × Int32 => (wfl [cM qa cI u.1 Mhi u.2 Msl Msv Mpd Mln Mat Mit Mvf Mdn Mlf Mar Msa Msm Mso])) 0 0 0 0 (wfl [cM qa cI Mst Mhi Mhn Msl Msv Mpd Mln Mat Mit Mvf Mdn Mlf Mar Msa Msm Mso]) [(0, .ref (qa 0)), (1, .int v1)] 22 [] := by
  intro n22
  induction n22 with
  | zero => intro v1 Mst h; exact (show False from h).elim
  | succ n22 ih22 =>
    intro v1 Mst h
    have h : wp_X6_undo_22F P Mhi Mhn (wp_X6_undo_22 P Mhi Mhn n22) v1 Mst := h
    unfold wp_X6_undo_22F at h
    refine gw_iload_n (pc' := 23) κ dX6_undo_22 rfl 1 rfl rfl ?_
    refine gw_sipush (pc' := 26) (v := 130) κ dX6_undo_23 rfl (by decide) ?_
    refine gw_icmp_ge (pc' := 29) (tgt := 56) κ dX6_undo_26 rfl (by decide) (fun hc_2 => ?_) (fun hc_2 => ?_)
    · have h := h.1 hc_2
      refine gw_aload_n (pc' := 57) κ dX6_undo_56 rfl 0 rfl rfl ?_
      refine gb_get (pc' := 60) (C := RX6) (T := TX6) (N := 16) κ dX6_undo_57 rfl inX6 0 rfl rfl rfl 2 (by decide) tw_fl_X6_50 rfl ?_
      exact gw_iret κ dX6_undo_60 (Mst, Mhn) rfl ⟨_, rfl, h⟩
    · have h := h.2 hc_2
      refine gw_aload_n (pc' := 30) κ dX6_undo_29 rfl 0 rfl rfl ?_
      refine gb_get (pc' := 33) (C := RX6) (T := TX6) (N := 16) κ dX6_undo_30 rfl inX6 0 rfl rfl rfl 0 (by decide) tw_fl_X6_7 rfl ?_
      refine gw_iload_n (pc' := 34) κ dX6_undo_33 rfl 1 rfl rfl ?_
      refine gw_aload_n (pc' := 35) κ dX6_undo_34 rfl 0 rfl rfl ?_
      refine gb_get (pc' := 38) (C := RX6) (T := TX6) (N := 16) κ dX6_undo_35 rfl inX6 0 rfl rfl rfl 1 (by decide) tw_fl_X6_13 rfl ?_
      refine gw_aload_n (pc' := 39) κ dX6_undo_38 rfl 0 rfl rfl ?_
      refine gb_get (pc' := 42) (C := RX6) (T := TX6) (N := 16) κ dX6_undo_39 rfl inX6 0 rfl rfl rfl 2 (by decide) tw_fl_X6_50 rfl ?_
      refine gw_sipush (pc' := 45) (v := 130) κ dX6_undo_42 rfl (by decide) ?_
      refine gw_imul (pc' := 46) κ dX6_undo_45 rfl  ?_
      refine gw_iload_n (pc' := 47) κ dX6_undo_46 rfl 1 rfl rfl ?_
      refine gw_iadd (pc' := 48) κ dX6_undo_47 rfl  ?_
      obtain ⟨hb_3, h⟩ := h
      refine gb_iald (pc' := 49) κ dX6_undo_48 rfl 0 2 rfl rfl hb_3 ?_
      obtain ⟨hb_4, h⟩ := h
      refine gb_iast (pc' := 50) (bs' := [cM qa cI (upd Mst v1.toNatClampNeg (Mhi ((Mhn * (130 : Int32)) + v1).toNatClampNeg)) Mhi Mhn Msl Msv Mpd Mln Mat Mit Mvf Mdn Mlf Mar Msa Msm Mso]) κ dX6_undo_49 rfl 0 1 rfl rfl hb_4 rfl ?_
      refine gw_iinc (pc' := 53) κ dX6_undo_50 rfl 1 rfl (v := (v1 + 1)) rfl (by decide) (lv' := [(1, .int (v1 + 1)), (0, .ref (qa 0))]) rfl ?_
      refine gw_goto (tgt := 22) κ dX6_undo_53 (by decide) ?_
      refine gw_lv (lv' := [(0, .ref (qa 0)), (1, .int (v1 + 1))]) [1, 0] rfl ?_
      exact ih22 (v1 + 1) (upd Mst v1.toNatClampNeg (Mhi ((Mhn * (130 : Int32)) + v1).toNatClampNeg)) h
set_option maxHeartbeats 4000000 in
set_option maxRecDepth 100000 in
theorem c_X6_undo {l : Launch} {D : va_G} {cI cR : ClassId}  (qa : Nat → Nat) {P : Int32 → (Nat → Int32) → Int32 → Prop} (Mst : Nat → Int32) (Mhi : Nat → Int32) (Mhn : Int32) (Msl : Nat → Int32) (Msv : Nat → Int32) (Mpd : Nat → Int32) (Mln : Int32) (Mat : Int32) (Mit : Nat → Int32) (Mvf : Nat → Int32) (Mdn : Nat → Int32) (Mlf : Nat → Int32) (Mar : Nat → Int32) (Msa : Nat → Int32) (Msm : Nat → Int32) (Mso : Int32) (h : wp_X6_undo P Mst Mhi Mhn) : CT l D cI cR yX6_undo cX6_undo 2 (some .int) ({ frames := 0, cells := 0, slots := 0, locals := 0 } : Room) [.ref (qa 0)] (wfl [cM qa cI Mst Mhi Mhn Msl Msv Mpd Mln Mat Mit Mvf Mdn Mlf Mar Msa Msm Mso]) (fun u : (Nat → Int32) × Int32 => (wfl [cM qa cI u.1 Mhi u.2 Msl Msv Mpd Mln Mat Mit Mvf Mdn Mlf Mar Msa Msm Mso])) (pI (fun (r : Int32) (u : (Nat → Int32) × Int32) => P r u.1 u.2)) 0 0 := by
  refine ct_of RX6 rfl (by decide +kernel) (Nat.le_of_ble_eq_true rfl) (fun zp ze zs zm zb zt zc A hin κ => ?_)
  unfold wp_X6_undo at h
  refine gw_nf (lv' := [(0, .ref (qa 0))]) (pc' := 0) (st' := []) (ce' := 0) (sl' := 0) rfl rfl rfl rfl rfl rfl ?_
  refine gw_aload_n (pc' := 1) κ dX6_undo_0 rfl 0 rfl rfl ?_
  refine gb_get (pc' := 4) (C := RX6) (T := TX6) (N := 16) κ dX6_undo_1 rfl inX6 0 rfl rfl rfl 2 (by decide) tw_fl_X6_50 rfl ?_
  refine gw_if_ne (pc' := 7) (tgt := 10) κ dX6_undo_4 rfl (by decide) (fun hc_1 => ?_) (fun hc_1 => ?_)
  · have h := h.1 hc_1
    refine gw_aload_n (pc' := 11) κ dX6_undo_10 rfl 0 rfl rfl ?_
    refine gw_dup (pc' := 12) κ dX6_undo_11 rfl rfl ?_
    refine gb_get (pc' := 15) (C := RX6) (T := TX6) (N := 16) κ dX6_undo_12 rfl inX6 0 rfl rfl rfl 2 (by decide) tw_fl_X6_50 rfl ?_
    refine gw_iconst (pc' := 16) (v := 1) κ dX6_undo_15 rfl (by decide) ?_
    refine gw_isub (pc' := 17) κ dX6_undo_16 rfl  ?_
    refine gb_put (pc' := 20) (C := RX6) (T := TX6) (N := 16) (ty := .int) (bs' := [cM qa cI Mst Mhi (Mhn - (1 : Int32)) Msl Msv Mpd Mln Mat Mit Mvf Mdn Mlf Mar Msa Msm Mso]) κ dX6_undo_17 rfl inX6 tyX6 tyX6_ok nmX6 0 rfl rfl rfl 2 (by decide) tw_fl_X6_50 rfl (by decide +kernel) rfl rfl (Nat.le_of_ble_eq_true rfl) rfl ?_
    refine gw_iconst (pc' := 21) (v := 0) κ dX6_undo_20 rfl (by decide) ?_
    refine gw_istore_n (pc' := 22) κ dX6_undo_21 rfl rfl (by decide) (lv' := [(1, .int (0 : Int32)), (0, .ref (qa 0))]) rfl ?_
    obtain ⟨m22, h⟩ := h
    refine gw_lv (lv' := [(0, .ref (qa 0)), (1, .int (0 : Int32))]) [1, 0] rfl ?_
    exact k_X6_undo_22 κ qa P Mhi Msl Msv Mpd Mln Mat Mit Mvf Mdn Mlf Mar Msa Msm Mso (Mhn - (1 : Int32)) m22 (0 : Int32) Mst h
  · have h := h.2 hc_1
    refine gw_bipush (pc' := 9) (v := -105) κ dX6_undo_7 rfl (by decide) ?_
    exact gw_iret κ dX6_undo_9 (Mst, Mhn) rfl ⟨_, rfl, h⟩
theorem hy_X6_save : g_hy yX6_save 1 := by decide +kernel
set_option maxHeartbeats 4000000 in
set_option maxRecDepth 100000 in
theorem k_X6_save_14 {zp : Program} {l : Launch} {ze : Env} {zs : State} {zm : MethodId} {za : Array Value} {zb : List Frame} {zt : Method} {zc : Code} {D : va_G} {cI cR : ClassId} {A : Nat → Prop} (κ : KC zp zs zm za zt zc cX6_save 3 RX6 D cI cR A (some .int)) (qa : Nat → Nat) (P : Int32 → (Nat → Int32) → (Nat → Int32) → Prop) (Mst : Nat → Int32) (Mhi : Nat → Int32) (Mhn : Int32) (Mpd : Nat → Int32) (Mln : Int32) (Mat : Int32) (Mit : Nat → Int32) (Mvf : Nat → Int32) (Mdn : Nat → Int32) (Mlf : Nat → Int32) (Mar : Nat → Int32) (Msa : Nat → Int32) (Msm : Nat → Int32) (Mso : Int32) (x1 : Int32) (Msv : Nat → Int32) : ∀ (n : Nat) (v2 : Int32) (Msl : Nat → Int32), wp_X6_save_14 P Mst x1 Msv n v2 Msl → GM zp l ze ({ frames := 1, cells := 0, slots := 0, locals := 22 } : Room) zs zm za zb zt zc D A 3 (pI (fun (r : Int32) (u : (Nat → Int32) × (Nat → Int32)) => P r u.1 u.2)) (fun u : (Nat → Int32) × (Nat → Int32) => (wfl [cM qa cI Mst Mhi Mhn u.1 u.2 Mpd Mln Mat Mit Mvf Mdn Mlf Mar Msa Msm Mso])) 0 0 0 0 (wfl [cM qa cI Mst Mhi Mhn Msl Msv Mpd Mln Mat Mit Mvf Mdn Mlf Mar Msa Msm Mso]) [(0, .ref (qa 0)), (1, .int x1), (2, .int v2)] 14 [] := by
  intro n14
  induction n14 with
  | zero => intro v2 Msl h; exact (show False from h).elim
  | succ n14 ih14 =>
    intro v2 Msl h
    have h : wp_X6_save_14F P Mst x1 Msv (wp_X6_save_14 P Mst x1 Msv n14) v2 Msl := h
    unfold wp_X6_save_14F at h
    refine gw_iload_n (pc' := 15) κ dX6_save_14 rfl 2 rfl rfl ?_
    refine gw_sipush (pc' := 18) (v := 130) κ dX6_save_15 rfl (by decide) ?_
    refine gw_icmp_ge (pc' := 21) (tgt := 45) κ dX6_save_18 rfl (by decide) (fun hc_3 => ?_) (fun hc_3 => ?_)
    · have h := h.1 hc_3
      refine gw_aload_n (pc' := 46) κ dX6_save_45 rfl 0 rfl rfl ?_
      refine gb_get (pc' := 49) (C := RX6) (T := TX6) (N := 16) κ dX6_save_46 rfl inX6 0 rfl rfl rfl 4 (by decide) tw_fl_X6_19 rfl ?_
      refine gw_iload_n (pc' := 50) κ dX6_save_49 rfl 1 rfl rfl ?_
      refine gw_iconst (pc' := 51) (v := 1) κ dX6_save_50 rfl (by decide) ?_
      obtain ⟨hb_4, h⟩ := h
      refine gb_iast (pc' := 52) (bs' := [cM qa cI Mst Mhi Mhn Msl (upd Msv x1.toNatClampNeg (1 : Int32)) Mpd Mln Mat Mit Mvf Mdn Mlf Mar Msa Msm Mso]) κ dX6_save_51 rfl 0 4 rfl rfl hb_4 rfl ?_
      refine gw_aload_n (pc' := 53) κ dX6_save_52 rfl 0 rfl rfl ?_
      refine gb_get (pc' := 56) (C := RX6) (T := TX6) (N := 16) κ dX6_save_53 rfl inX6 0 rfl rfl rfl 0 (by decide) tw_fl_X6_7 rfl ?_
      refine gw_bipush (pc' := 58) (v := 33) κ dX6_save_56 rfl (by decide) ?_
      refine gb_iald (pc' := 59) κ dX6_save_58 rfl 0 1 rfl rfl (by unfold vp_in; decide) ?_
      exact gw_iret κ dX6_save_59 (Msl, (upd Msv x1.toNatClampNeg (1 : Int32))) rfl ⟨_, rfl, h⟩
    · have h := h.2 hc_3
      refine gw_aload_n (pc' := 22) κ dX6_save_21 rfl 0 rfl rfl ?_
      refine gb_get (pc' := 25) (C := RX6) (T := TX6) (N := 16) κ dX6_save_22 rfl inX6 0 rfl rfl rfl 3 (by decide) tw_fl_X6_16 rfl ?_
      refine gw_sipush (pc' := 28) (v := 130) κ dX6_save_25 rfl (by decide) ?_
      refine gw_iload_n (pc' := 29) κ dX6_save_28 rfl 1 rfl rfl ?_
      refine gw_imul (pc' := 30) κ dX6_save_29 rfl  ?_
      refine gw_iload_n (pc' := 31) κ dX6_save_30 rfl 2 rfl rfl ?_
      refine gw_iadd (pc' := 32) κ dX6_save_31 rfl  ?_
      refine gw_aload_n (pc' := 33) κ dX6_save_32 rfl 0 rfl rfl ?_
      refine gb_get (pc' := 36) (C := RX6) (T := TX6) (N := 16) κ dX6_save_33 rfl inX6 0 rfl rfl rfl 0 (by decide) tw_fl_X6_7 rfl ?_
      refine gw_iload_n (pc' := 37) κ dX6_save_36 rfl 2 rfl rfl ?_
      obtain ⟨hb_6, h⟩ := h
      refine gb_iald (pc' := 38) κ dX6_save_37 rfl 0 1 rfl rfl hb_6 ?_
      obtain ⟨hb_7, h⟩ := h
      refine gb_iast (pc' := 39) (bs' := [cM qa cI Mst Mhi Mhn (upd Msl (((130 : Int32) * x1) + v2).toNatClampNeg (Mst v2.toNatClampNeg)) Msv Mpd Mln Mat Mit Mvf Mdn Mlf Mar Msa Msm Mso]) κ dX6_save_38 rfl 0 3 rfl rfl hb_7 rfl ?_
      refine gw_iinc (pc' := 42) κ dX6_save_39 rfl 2 rfl (v := (v2 + 1)) rfl (by decide) (lv' := [(2, .int (v2 + 1)), (0, .ref (qa 0)), (1, .int x1)]) rfl ?_
      refine gw_goto (tgt := 14) κ dX6_save_42 (by decide) ?_
      refine gw_lv (lv' := [(0, .ref (qa 0)), (1, .int x1), (2, .int (v2 + 1))]) [1, 2, 0] rfl ?_
      exact ih14 (v2 + 1) (upd Msl (((130 : Int32) * x1) + v2).toNatClampNeg (Mst v2.toNatClampNeg)) h
set_option maxHeartbeats 4000000 in
set_option maxRecDepth 100000 in
theorem c_X6_save {l : Launch} {D : va_G} {cI cR : ClassId}  (qa : Nat → Nat) {P : Int32 → (Nat → Int32) → (Nat → Int32) → Prop} (Mst : Nat → Int32) (Mhi : Nat → Int32) (Mhn : Int32) (Msl : Nat → Int32) (Msv : Nat → Int32) (Mpd : Nat → Int32) (Mln : Int32) (Mat : Int32) (Mit : Nat → Int32) (Mvf : Nat → Int32) (Mdn : Nat → Int32) (Mlf : Nat → Int32) (Mar : Nat → Int32) (Msa : Nat → Int32) (Msm : Nat → Int32) (Mso : Int32) (x1 : Int32) (h : wp_X6_save P Mst Msl Msv x1) : CT l D cI cR yX6_save cX6_save 3 (some .int) ({ frames := 1, cells := 0, slots := 0, locals := 22 } : Room) [.ref (qa 0), .int x1] (wfl [cM qa cI Mst Mhi Mhn Msl Msv Mpd Mln Mat Mit Mvf Mdn Mlf Mar Msa Msm Mso]) (fun u : (Nat → Int32) × (Nat → Int32) => (wfl [cM qa cI Mst Mhi Mhn u.1 u.2 Mpd Mln Mat Mit Mvf Mdn Mlf Mar Msa Msm Mso])) (pI (fun (r : Int32) (u : (Nat → Int32) × (Nat → Int32)) => P r u.1 u.2)) 0 0 := by
  refine ct_of RX6 rfl (by decide +kernel) (Nat.le_of_ble_eq_true rfl) (fun zp ze zs zm zb zt zc A hin κ => ?_)
  unfold wp_X6_save at h
  refine gw_nf (lv' := [(0, .ref (qa 0)), (1, .int x1)]) (pc' := 0) (st' := []) (ce' := 0) (sl' := 0) rfl rfl rfl rfl rfl rfl ?_
  refine gw_iload_n (pc' := 1) κ dX6_save_0 rfl 1 rfl rfl ?_
  refine gw_iconst (pc' := 2) (v := 0) κ dX6_save_1 rfl (by decide) ?_
  refine gw_iconst (pc' := 3) (v := 1) κ dX6_save_2 rfl (by decide) ?_
  refine gb_callS (rest := []) κ (c_X6_within  x1 (0 : Int32) (1 : Int32) h) ⟨rfl, rfl, Nat.le_of_ble_eq_true rfl, Nat.le_of_ble_eq_true rfl⟩ tw_ml_X6_46 tw_st_X6_within tw_co_X6_within tw_in_X6 hy_X6_within rfl (Nat.le_of_ble_eq_true rfl) rfl dX6_save_3 [] rfl (by decide) (fun _ => Nat.le_of_ble_eq_true rfl) ⟨Nat.le_of_ble_eq_true rfl, Nat.le_of_ble_eq_true rfl⟩ (fun v u hv => ?_)
  obtain ⟨r_1, rfl, h⟩ := hv
  refine gw_nf (ws' := (wfl [cM qa cI Mst Mhi Mhn Msl Msv Mpd Mln Mat Mit Mvf Mdn Mlf Mar Msa Msm Mso])) (lv' := [(0, .ref (qa 0)), (1, .int x1)]) (st' := [.int r_1]) (pc' := 6) (ce' := 0) (sl' := 0) rfl rfl rfl rfl rfl rfl ?_
  refine gw_if_ne (pc' := 9) (tgt := 12) κ dX6_save_6 rfl (by decide) (fun hc_2 => ?_) (fun hc_2 => ?_)
  · have h := h.1 hc_2
    refine gw_iconst (pc' := 13) (v := 0) κ dX6_save_12 rfl (by decide) ?_
    refine gw_istore_n (pc' := 14) κ dX6_save_13 rfl rfl (by decide) (lv' := [(2, .int (0 : Int32)), (0, .ref (qa 0)), (1, .int x1)]) rfl ?_
    obtain ⟨m14, h⟩ := h
    refine gw_lv (lv' := [(0, .ref (qa 0)), (1, .int x1), (2, .int (0 : Int32))]) [1, 2, 0] rfl ?_
    exact k_X6_save_14 κ qa P Mst Mhi Mhn Mpd Mln Mat Mit Mvf Mdn Mlf Mar Msa Msm Mso x1 Msv m14 (0 : Int32) Msl h
  · have h := h.2 hc_2
    refine gw_bipush (pc' := 11) (v := -102) κ dX6_save_9 rfl (by decide) ?_
    exact gw_iret κ dX6_save_11 (Msl, Msv) rfl ⟨_, rfl, h⟩
theorem hy_X6_restore : g_hy yX6_restore 1 := by decide +kernel
set_option maxHeartbeats 4000000 in
set_option maxRecDepth 100000 in
theorem k_X6_restore_30 {zp : Program} {l : Launch} {ze : Env} {zs : State} {zm : MethodId} {za : Array Value} {zb : List Frame} {zt : Method} {zc : Code} {D : va_G} {cI cR : ClassId} {A : Nat → Prop} (κ : KC zp zs zm za zt zc cX6_restore 3 RX6 D cI cR A (some .int)) (qa : Nat → Nat) (P : Int32 → (Nat → Int32) → (Nat → Int32) → Int32 → Prop) (Msl : Nat → Int32) (Msv : Nat → Int32) (Mpd : Nat → Int32) (Mln : Int32) (Mat : Int32) (Mit : Nat → Int32) (Mvf : Nat → Int32) (Mdn : Nat → Int32) (Mlf : Nat → Int32) (Mar : Nat → Int32) (Msa : Nat → Int32) (Msm : Nat → Int32) (Mso : Int32) (x1 : Int32) (Mhi : Nat → Int32) (Mhn : Int32) : ∀ (n : Nat) (v2 : Int32) (Mst : Nat → Int32), wp_X6_restore_30 P Msl Msv x1 Mhi Mhn n v2 Mst → GM zp l ze ({ frames := 1, cells := 0, slots := 0, locals := 22 } : Room) zs zm za zb zt zc D A 3 (pI (fun (r : Int32) (u : (Nat → Int32) × (Nat → Int32) × Int32) => P r u.1 u.2.1 u.2.2)) (fun u : (Nat → Int32) × (Nat → Int32) × Int32 => (wfl [cM qa cI u.1 u.2.1 u.2.2 Msl Msv Mpd Mln Mat Mit Mvf Mdn Mlf Mar Msa Msm Mso])) 0 0 0 0 (wfl [cM qa cI Mst Mhi Mhn Msl Msv Mpd Mln Mat Mit Mvf Mdn Mlf Mar Msa Msm Mso]) [(0, .ref (qa 0)), (1, .int x1), (2, .int v2)] 30 [] := by
  intro n30
  induction n30 with
  | zero => intro v2 Mst h; exact (show False from h).elim
  | succ n30 ih30 =>
    intro v2 Mst h
    have h : wp_X6_restore_30F P Msl Msv x1 Mhi Mhn (wp_X6_restore_30 P Msl Msv x1 Mhi Mhn n30) v2 Mst := h
    unfold wp_X6_restore_30F at h
    refine gw_iload_n (pc' := 31) κ dX6_restore_30 rfl 2 rfl rfl ?_
    refine gw_sipush (pc' := 34) (v := 130) κ dX6_restore_31 rfl (by decide) ?_
    refine gw_icmp_ge (pc' := 37) (tgt := 61) κ dX6_restore_34 rfl (by decide) (fun hc_7 => ?_) (fun hc_7 => ?_)
    · have h := h.1 hc_7
      refine gw_aload_n (pc' := 62) κ dX6_restore_61 rfl 0 rfl rfl ?_
      refine gb_get (pc' := 65) (C := RX6) (T := TX6) (N := 16) κ dX6_restore_62 rfl inX6 0 rfl rfl rfl 0 (by decide) tw_fl_X6_7 rfl ?_
      refine gw_bipush (pc' := 67) (v := 33) κ dX6_restore_65 rfl (by decide) ?_
      refine gb_iald (pc' := 68) κ dX6_restore_67 rfl 0 1 rfl rfl (by unfold vp_in; decide) ?_
      exact gw_iret κ dX6_restore_68 (Mst, Mhi, Mhn) rfl ⟨_, rfl, h⟩
    · have h := h.2 hc_7
      refine gw_aload_n (pc' := 38) κ dX6_restore_37 rfl 0 rfl rfl ?_
      refine gb_get (pc' := 41) (C := RX6) (T := TX6) (N := 16) κ dX6_restore_38 rfl inX6 0 rfl rfl rfl 0 (by decide) tw_fl_X6_7 rfl ?_
      refine gw_iload_n (pc' := 42) κ dX6_restore_41 rfl 2 rfl rfl ?_
      refine gw_aload_n (pc' := 43) κ dX6_restore_42 rfl 0 rfl rfl ?_
      refine gb_get (pc' := 46) (C := RX6) (T := TX6) (N := 16) κ dX6_restore_43 rfl inX6 0 rfl rfl rfl 3 (by decide) tw_fl_X6_16 rfl ?_
      refine gw_sipush (pc' := 49) (v := 130) κ dX6_restore_46 rfl (by decide) ?_
      refine gw_iload_n (pc' := 50) κ dX6_restore_49 rfl 1 rfl rfl ?_
      refine gw_imul (pc' := 51) κ dX6_restore_50 rfl  ?_
      refine gw_iload_n (pc' := 52) κ dX6_restore_51 rfl 2 rfl rfl ?_
      refine gw_iadd (pc' := 53) κ dX6_restore_52 rfl  ?_
      obtain ⟨hb_9, h⟩ := h
      refine gb_iald (pc' := 54) κ dX6_restore_53 rfl 0 3 rfl rfl hb_9 ?_
      obtain ⟨hb_10, h⟩ := h
      refine gb_iast (pc' := 55) (bs' := [cM qa cI (upd Mst v2.toNatClampNeg (Msl (((130 : Int32) * x1) + v2).toNatClampNeg)) Mhi Mhn Msl Msv Mpd Mln Mat Mit Mvf Mdn Mlf Mar Msa Msm Mso]) κ dX6_restore_54 rfl 0 1 rfl rfl hb_10 rfl ?_
      refine gw_iinc (pc' := 58) κ dX6_restore_55 rfl 2 rfl (v := (v2 + 1)) rfl (by decide) (lv' := [(2, .int (v2 + 1)), (0, .ref (qa 0)), (1, .int x1)]) rfl ?_
      refine gw_goto (tgt := 30) κ dX6_restore_58 (by decide) ?_
      refine gw_lv (lv' := [(0, .ref (qa 0)), (1, .int x1), (2, .int (v2 + 1))]) [1, 2, 0] rfl ?_
      exact ih30 (v2 + 1) (upd Mst v2.toNatClampNeg (Msl (((130 : Int32) * x1) + v2).toNatClampNeg)) h
set_option maxHeartbeats 4000000 in
set_option maxRecDepth 100000 in
theorem c_X6_restore {l : Launch} {D : va_G} {cI cR : ClassId}  (qa : Nat → Nat) {P : Int32 → (Nat → Int32) → (Nat → Int32) → Int32 → Prop} (Mst : Nat → Int32) (Mhi : Nat → Int32) (Mhn : Int32) (Msl : Nat → Int32) (Msv : Nat → Int32) (Mpd : Nat → Int32) (Mln : Int32) (Mat : Int32) (Mit : Nat → Int32) (Mvf : Nat → Int32) (Mdn : Nat → Int32) (Mlf : Nat → Int32) (Mar : Nat → Int32) (Msa : Nat → Int32) (Msm : Nat → Int32) (Mso : Int32) (x1 : Int32) (h : wp_X6_restore P Mst Mhi Mhn Msl Msv x1) : CT l D cI cR yX6_restore cX6_restore 3 (some .int) ({ frames := 1, cells := 0, slots := 0, locals := 22 } : Room) [.ref (qa 0), .int x1] (wfl [cM qa cI Mst Mhi Mhn Msl Msv Mpd Mln Mat Mit Mvf Mdn Mlf Mar Msa Msm Mso]) (fun u : (Nat → Int32) × (Nat → Int32) × Int32 => (wfl [cM qa cI u.1 u.2.1 u.2.2 Msl Msv Mpd Mln Mat Mit Mvf Mdn Mlf Mar Msa Msm Mso])) (pI (fun (r : Int32) (u : (Nat → Int32) × (Nat → Int32) × Int32) => P r u.1 u.2.1 u.2.2)) 0 0 := by
  refine ct_of RX6 rfl (by decide +kernel) (Nat.le_of_ble_eq_true rfl) (fun zp ze zs zm zb zt zc A hin κ => ?_)
  unfold wp_X6_restore at h
  refine gw_nf (lv' := [(0, .ref (qa 0)), (1, .int x1)]) (pc' := 0) (st' := []) (ce' := 0) (sl' := 0) rfl rfl rfl rfl rfl rfl ?_
  refine gw_iload_n (pc' := 1) κ dX6_restore_0 rfl 1 rfl rfl ?_
  refine gw_iconst (pc' := 2) (v := 0) κ dX6_restore_1 rfl (by decide) ?_
  refine gw_iconst (pc' := 3) (v := 1) κ dX6_restore_2 rfl (by decide) ?_
  refine gb_callS (rest := []) κ (c_X6_within  x1 (0 : Int32) (1 : Int32) h) ⟨rfl, rfl, Nat.le_of_ble_eq_true rfl, Nat.le_of_ble_eq_true rfl⟩ tw_ml_X6_46 tw_st_X6_within tw_co_X6_within tw_in_X6 hy_X6_within rfl (Nat.le_of_ble_eq_true rfl) rfl dX6_restore_3 [] rfl (by decide) (fun _ => Nat.le_of_ble_eq_true rfl) ⟨Nat.le_of_ble_eq_true rfl, Nat.le_of_ble_eq_true rfl⟩ (fun v u hv => ?_)
  obtain ⟨r_1, rfl, h⟩ := hv
  refine gw_nf (ws' := (wfl [cM qa cI Mst Mhi Mhn Msl Msv Mpd Mln Mat Mit Mvf Mdn Mlf Mar Msa Msm Mso])) (lv' := [(0, .ref (qa 0)), (1, .int x1)]) (st' := [.int r_1]) (pc' := 6) (ce' := 0) (sl' := 0) rfl rfl rfl rfl rfl rfl ?_
  refine gw_if_ne (pc' := 9) (tgt := 12) κ dX6_restore_6 rfl (by decide) (fun hc_2 => ?_) (fun hc_2 => ?_)
  · have h := h.1 hc_2
    refine gw_aload_n (pc' := 13) κ dX6_restore_12 rfl 0 rfl rfl ?_
    refine gb_get (pc' := 16) (C := RX6) (T := TX6) (N := 16) κ dX6_restore_13 rfl inX6 0 rfl rfl rfl 4 (by decide) tw_fl_X6_19 rfl ?_
    refine gw_iload_n (pc' := 17) κ dX6_restore_16 rfl 1 rfl rfl ?_
    obtain ⟨hb_3, h⟩ := h
    refine gb_iald (pc' := 18) κ dX6_restore_17 rfl 0 4 rfl rfl hb_3 ?_
    refine gw_if_ne (pc' := 21) (tgt := 24) κ dX6_restore_18 rfl (by decide) (fun hc_4 => ?_) (fun hc_4 => ?_)
    · have h := h.1 hc_4
      refine gw_aload_n (pc' := 25) κ dX6_restore_24 rfl 0 rfl rfl ?_
      refine gb_callV (ci := 6) (qb := 0) (rest := []) κ (c_X6_record qa Mst Mhi Mhn Msl Msv Mpd Mln Mat Mit Mvf Mdn Mlf Mar Msa Msm Mso h) ⟨rfl, rfl, Nat.le_of_ble_eq_true rfl, Nat.le_of_ble_eq_true rfl⟩ tw_ml_X6_54 tw_im_X6_record tw_se_X6_record tw_co_X6_record tw_in_X6 hy_X6_record rfl rfl rfl rfl rfl (Nat.le_of_ble_eq_true rfl) rfl dX6_restore_25 [0] rfl (by decide) (fun _ => Nat.le_of_ble_eq_true rfl) ⟨Nat.le_of_ble_eq_true rfl, Nat.le_of_ble_eq_true rfl⟩ (fun v u hv => ?_)
      obtain ⟨rfl, h⟩ := hv
      obtain ⟨Mhi_5, Mhn_6⟩ := u
      refine gw_nf (ws' := (wfl [cM qa cI Mst Mhi_5 Mhn_6 Msl Msv Mpd Mln Mat Mit Mvf Mdn Mlf Mar Msa Msm Mso])) (lv' := [(0, .ref (qa 0)), (1, .int x1)]) (st' := []) (pc' := 28) (ce' := 0) (sl' := 0) rfl rfl rfl rfl rfl rfl ?_
      refine gw_iconst (pc' := 29) (v := 0) κ dX6_restore_28 rfl (by decide) ?_
      refine gw_istore_n (pc' := 30) κ dX6_restore_29 rfl rfl (by decide) (lv' := [(2, .int (0 : Int32)), (0, .ref (qa 0)), (1, .int x1)]) rfl ?_
      obtain ⟨m30, h⟩ := h
      refine gw_lv (lv' := [(0, .ref (qa 0)), (1, .int x1), (2, .int (0 : Int32))]) [1, 2, 0] rfl ?_
      exact k_X6_restore_30 κ qa P Msl Msv Mpd Mln Mat Mit Mvf Mdn Mlf Mar Msa Msm Mso x1 Mhi_5 Mhn_6 m30 (0 : Int32) Mst h
    · have h := h.2 hc_4
      refine gw_bipush (pc' := 23) (v := -105) κ dX6_restore_21 rfl (by decide) ?_
      exact gw_iret κ dX6_restore_23 (Mst, Mhi, Mhn) rfl ⟨_, rfl, h⟩
  · have h := h.2 hc_2
    refine gw_bipush (pc' := 11) (v := -102) κ dX6_restore_9 rfl (by decide) ?_
    exact gw_iret κ dX6_restore_11 (Mst, Mhi, Mhn) rfl ⟨_, rfl, h⟩
theorem hy_X6_readyOf : g_hy yX6_readyOf 1 := by decide +kernel
set_option maxHeartbeats 4000000 in
set_option maxRecDepth 100000 in
theorem c_X6_readyOf {l : Launch} {D : va_G} {cI cR : ClassId}  (qa : Nat → Nat) {P : Int32 → Prop} (Mst : Nat → Int32) (Mhi : Nat → Int32) (Mhn : Int32) (Msl : Nat → Int32) (Msv : Nat → Int32) (Mpd : Nat → Int32) (Mln : Int32) (Mat : Int32) (Mit : Nat → Int32) (Mvf : Nat → Int32) (Mdn : Nat → Int32) (Mlf : Nat → Int32) (Mar : Nat → Int32) (Msa : Nat → Int32) (Msm : Nat → Int32) (Mso : Int32) (x1 : Int32) (h : wp_X6_readyOf P Mst x1) : CT l D cI cR yX6_readyOf cX6_readyOf 2 (some .int) ({ frames := 0, cells := 0, slots := 0, locals := 0 } : Room) [.ref (qa 0), .int x1] (wfl [cM qa cI Mst Mhi Mhn Msl Msv Mpd Mln Mat Mit Mvf Mdn Mlf Mar Msa Msm Mso]) (fun _ : Unit => (wfl [cM qa cI Mst Mhi Mhn Msl Msv Mpd Mln Mat Mit Mvf Mdn Mlf Mar Msa Msm Mso])) (pI (fun (r : Int32) (_ : Unit) => P r)) 0 0 := by
  refine ct_of RX6 rfl (by decide +kernel) (Nat.le_of_ble_eq_true rfl) (fun zp ze zs zm zb zt zc A hin κ => ?_)
  unfold wp_X6_readyOf at h
  refine gw_nf (lv' := [(0, .ref (qa 0)), (1, .int x1)]) (pc' := 0) (st' := []) (ce' := 0) (sl' := 0) rfl rfl rfl rfl rfl rfl ?_
  refine gw_aload_n (pc' := 1) κ dX6_readyOf_0 rfl 0 rfl rfl ?_
  refine gb_get (pc' := 4) (C := RX6) (T := TX6) (N := 16) κ dX6_readyOf_1 rfl inX6 0 rfl rfl rfl 0 (by decide) tw_fl_X6_7 rfl ?_
  refine gw_iconst (pc' := 5) (v := 5) κ dX6_readyOf_4 rfl (by decide) ?_
  refine gw_iload_n (pc' := 6) κ dX6_readyOf_5 rfl 1 rfl rfl ?_
  refine gw_iadd (pc' := 7) κ dX6_readyOf_6 rfl  ?_
  obtain ⟨hb_1, h⟩ := h
  refine gb_iald (pc' := 8) κ dX6_readyOf_7 rfl 0 1 rfl rfl hb_1 ?_
  refine gw_aload_n (pc' := 9) κ dX6_readyOf_8 rfl 0 rfl rfl ?_
  refine gb_get (pc' := 12) (C := RX6) (T := TX6) (N := 16) κ dX6_readyOf_9 rfl inX6 0 rfl rfl rfl 0 (by decide) tw_fl_X6_7 rfl ?_
  refine gw_bipush (pc' := 14) (v := 11) κ dX6_readyOf_12 rfl (by decide) ?_
  refine gw_iload_n (pc' := 15) κ dX6_readyOf_14 rfl 1 rfl rfl ?_
  refine gw_iadd (pc' := 16) κ dX6_readyOf_15 rfl  ?_
  obtain ⟨hb_2, h⟩ := h
  refine gb_iald (pc' := 17) κ dX6_readyOf_16 rfl 0 1 rfl rfl hb_2 ?_
  refine gw_iadd (pc' := 18) κ dX6_readyOf_17 rfl  ?_
  refine gw_aload_n (pc' := 19) κ dX6_readyOf_18 rfl 0 rfl rfl ?_
  refine gb_get (pc' := 22) (C := RX6) (T := TX6) (N := 16) κ dX6_readyOf_19 rfl inX6 0 rfl rfl rfl 0 (by decide) tw_fl_X6_7 rfl ?_
  refine gw_iconst (pc' := 23) (v := 0) κ dX6_readyOf_22 rfl (by decide) ?_
  refine gb_iald (pc' := 24) κ dX6_readyOf_23 rfl 0 1 rfl rfl (by unfold vp_in; decide) ?_
  refine gw_iadd (pc' := 25) κ dX6_readyOf_24 rfl  ?_
  exact gw_iret κ dX6_readyOf_25 () rfl ⟨_, rfl, h⟩
theorem hy_X6_ready : g_hy yX6_ready 1 := by decide +kernel
set_option maxHeartbeats 4000000 in
set_option maxRecDepth 100000 in
theorem c_X6_ready {l : Launch} {D : va_G} {cI cR : ClassId}  (qa : Nat → Nat) {P : Int32 → Prop} (Mst : Nat → Int32) (Mhi : Nat → Int32) (Mhn : Int32) (Msl : Nat → Int32) (Msv : Nat → Int32) (Mpd : Nat → Int32) (Mln : Int32) (Mat : Int32) (Mit : Nat → Int32) (Mvf : Nat → Int32) (Mdn : Nat → Int32) (Mlf : Nat → Int32) (Mar : Nat → Int32) (Msa : Nat → Int32) (Msm : Nat → Int32) (Mso : Int32) (x1 : Int32) (h : wp_X6_ready P Mst x1) : CT l D cI cR yX6_ready cX6_ready 2 (some .int) ({ frames := 1, cells := 0, slots := 0, locals := 22 } : Room) [.ref (qa 0), .int x1] (wfl [cM qa cI Mst Mhi Mhn Msl Msv Mpd Mln Mat Mit Mvf Mdn Mlf Mar Msa Msm Mso]) (fun _ : Unit => (wfl [cM qa cI Mst Mhi Mhn Msl Msv Mpd Mln Mat Mit Mvf Mdn Mlf Mar Msa Msm Mso])) (pI (fun (r : Int32) (_ : Unit) => P r)) 0 0 := by
  refine ct_of RX6 rfl (by decide +kernel) (Nat.le_of_ble_eq_true rfl) (fun zp ze zs zm zb zt zc A hin κ => ?_)
  unfold wp_X6_ready at h
  refine gw_nf (lv' := [(0, .ref (qa 0)), (1, .int x1)]) (pc' := 0) (st' := []) (ce' := 0) (sl' := 0) rfl rfl rfl rfl rfl rfl ?_
  refine gw_aload_n (pc' := 1) κ dX6_ready_0 rfl 0 rfl rfl ?_
  refine gw_aload_n (pc' := 2) κ dX6_ready_1 rfl 0 rfl rfl ?_
  refine gw_iload_n (pc' := 3) κ dX6_ready_2 rfl 1 rfl rfl ?_
  refine gw_iconst (pc' := 4) (v := 0) κ dX6_ready_3 rfl (by decide) ?_
  refine gb_callV (ci := 6) (qb := 0) (rest := [.ref (qa 0)]) κ (c_X6_of qa Mst Mhi Mhn Msl Msv Mpd Mln Mat Mit Mvf Mdn Mlf Mar Msa Msm Mso x1 (0 : Int32) h) ⟨rfl, rfl, Nat.le_of_ble_eq_true rfl, Nat.le_of_ble_eq_true rfl⟩ tw_ml_X6_57 tw_im_X6_of tw_se_X6_of tw_co_X6_of tw_in_X6 hy_X6_of rfl rfl rfl rfl rfl (Nat.le_of_ble_eq_true rfl) rfl dX6_ready_4 [0] rfl (by decide) (fun _ => Nat.le_of_ble_eq_true rfl) ⟨Nat.le_of_ble_eq_true rfl, Nat.le_of_ble_eq_true rfl⟩ (fun v u hv => ?_)
  obtain ⟨r_1, rfl, h⟩ := hv
  refine gw_nf (ws' := (wfl [cM qa cI Mst Mhi Mhn Msl Msv Mpd Mln Mat Mit Mvf Mdn Mlf Mar Msa Msm Mso])) (lv' := [(0, .ref (qa 0)), (1, .int x1)]) (st' := [.int r_1, .ref (qa 0)]) (pc' := 7) (ce' := 0) (sl' := 0) rfl rfl rfl rfl rfl rfl ?_
  refine gb_callV (ci := 6) (qb := 0) (rest := []) κ (c_X6_readyOf qa Mst Mhi Mhn Msl Msv Mpd Mln Mat Mit Mvf Mdn Mlf Mar Msa Msm Mso r_1 h) ⟨rfl, rfl, Nat.le_of_ble_eq_true rfl, Nat.le_of_ble_eq_true rfl⟩ tw_ml_X6_61 tw_im_X6_readyOf tw_se_X6_readyOf tw_co_X6_readyOf tw_in_X6 hy_X6_readyOf rfl rfl rfl rfl rfl (Nat.le_of_ble_eq_true rfl) rfl dX6_ready_7 [0] rfl (by decide) (fun _ => Nat.le_of_ble_eq_true rfl) ⟨Nat.le_of_ble_eq_true rfl, Nat.le_of_ble_eq_true rfl⟩ (fun v u hv => ?_)
  obtain ⟨r_2, rfl, h⟩ := hv
  refine gw_nf (ws' := (wfl [cM qa cI Mst Mhi Mhn Msl Msv Mpd Mln Mat Mit Mvf Mdn Mlf Mar Msa Msm Mso])) (lv' := [(0, .ref (qa 0)), (1, .int x1)]) (st' := [.int r_2]) (pc' := 10) (ce' := 0) (sl' := 0) rfl rfl rfl rfl rfl rfl ?_
  exact gw_iret κ dX6_ready_10 () rfl ⟨_, rfl, h⟩
theorem hy_X6_ones : g_hy yX6_ones 1 := by decide +kernel
set_option maxHeartbeats 4000000 in
set_option maxRecDepth 100000 in
theorem k_X6_ones_4 {zp : Program} {l : Launch} {ze : Env} {zs : State} {zm : MethodId} {za : Array Value} {zb : List Frame} {zt : Method} {zc : Code} {D : va_G} {cI cR : ClassId} {A : Nat → Prop} (κ : KC zp zs zm za zt zc cX6_ones 3 RX6 D cI cR A (some .int)) (P : Int32 → Prop) (x0 : Int32) : ∀ (n : Nat) (v1 : Int32) (v2 : Int32), wp_X6_ones_4 P x0 n v1 v2 → GM zp l ze ({ frames := 0, cells := 0, slots := 0, locals := 0 } : Room) zs zm za zb zt zc D A 3 (pI (fun (r : Int32) (_ : Unit) => P r)) (fun _ : Unit => (wfl ([] : List va_W))) 0 0 0 0 (wfl ([] : List va_W)) [(0, .int x0), (1, .int v1), (2, .int v2)] 4 [] := by
  intro n4
  induction n4 with
  | zero => intro v1 v2 h; exact (show False from h).elim
  | succ n4 ih4 =>
    intro v1 v2 h
    have h : wp_X6_ones_4F P x0 (wp_X6_ones_4 P x0 n4) v1 v2 := h
    unfold wp_X6_ones_4F at h
    refine gw_iload_n (pc' := 5) κ dX6_ones_4 rfl 2 rfl rfl ?_
    refine gw_bipush (pc' := 7) (v := 6) κ dX6_ones_5 rfl (by decide) ?_
    refine gw_icmp_ge (pc' := 10) (tgt := 24) κ dX6_ones_7 rfl (by decide) (fun hc_1 => ?_) (fun hc_1 => ?_)
    · have h := h.1 hc_1
      refine gw_iload_n (pc' := 25) κ dX6_ones_24 rfl 1 rfl rfl ?_
      exact gw_iret κ dX6_ones_25 () rfl ⟨_, rfl, h⟩
    · have h := h.2 hc_1
      refine gw_iload_n (pc' := 11) κ dX6_ones_10 rfl 1 rfl rfl ?_
      refine gw_iload_n (pc' := 12) κ dX6_ones_11 rfl 0 rfl rfl ?_
      refine gw_iload_n (pc' := 13) κ dX6_ones_12 rfl 2 rfl rfl ?_
      refine gw_ishr (pc' := 14) κ dX6_ones_13 rfl  ?_
      refine gw_iconst (pc' := 15) (v := 1) κ dX6_ones_14 rfl (by decide) ?_
      refine gw_iand (pc' := 16) κ dX6_ones_15 rfl  ?_
      refine gw_iadd (pc' := 17) κ dX6_ones_16 rfl  ?_
      refine gw_istore_n (pc' := 18) κ dX6_ones_17 rfl rfl (by decide) (lv' := [(1, .int (v1 + ((x0 >>> (v2 &&& 31)) &&& (1 : Int32)))), (0, .int x0), (2, .int v2)]) rfl ?_
      refine gw_iinc (pc' := 21) κ dX6_ones_18 rfl 2 rfl (v := (v2 + 1)) rfl (by decide) (lv' := [(2, .int (v2 + 1)), (1, .int (v1 + ((x0 >>> (v2 &&& 31)) &&& (1 : Int32)))), (0, .int x0)]) rfl ?_
      refine gw_goto (tgt := 4) κ dX6_ones_21 (by decide) ?_
      refine gw_lv (lv' := [(0, .int x0), (1, .int (v1 + ((x0 >>> (v2 &&& 31)) &&& (1 : Int32)))), (2, .int (v2 + 1))]) [2, 1, 0] rfl ?_
      exact ih4 (v1 + ((x0 >>> (v2 &&& 31)) &&& (1 : Int32))) (v2 + 1) h
set_option maxHeartbeats 4000000 in
set_option maxRecDepth 100000 in
theorem c_X6_ones {l : Launch} {D : va_G} {cI cR : ClassId}  {P : Int32 → Prop} (x0 : Int32) (h : wp_X6_ones P x0) : CT l D cI cR yX6_ones cX6_ones 3 (some .int) ({ frames := 0, cells := 0, slots := 0, locals := 0 } : Room) [.int x0] (wfl ([] : List va_W)) (fun _ : Unit => (wfl ([] : List va_W))) (pI (fun (r : Int32) (_ : Unit) => P r)) 0 0 := by
  refine ct_of RX6 rfl (by decide +kernel) (Nat.le_of_ble_eq_true rfl) (fun zp ze zs zm zb zt zc A hin κ => ?_)
  unfold wp_X6_ones at h
  refine gw_nf (lv' := [(0, .int x0)]) (pc' := 0) (st' := []) (ce' := 0) (sl' := 0) rfl rfl rfl rfl rfl rfl ?_
  refine gw_iconst (pc' := 1) (v := 0) κ dX6_ones_0 rfl (by decide) ?_
  refine gw_istore_n (pc' := 2) κ dX6_ones_1 rfl rfl (by decide) (lv' := [(1, .int (0 : Int32)), (0, .int x0)]) rfl ?_
  refine gw_iconst (pc' := 3) (v := 0) κ dX6_ones_2 rfl (by decide) ?_
  refine gw_istore_n (pc' := 4) κ dX6_ones_3 rfl rfl (by decide) (lv' := [(2, .int (0 : Int32)), (1, .int (0 : Int32)), (0, .int x0)]) rfl ?_
  obtain ⟨m4, h⟩ := h
  refine gw_lv (lv' := [(0, .int x0), (1, .int (0 : Int32)), (2, .int (0 : Int32))]) [2, 1, 0] rfl ?_
  exact k_X6_ones_4 κ P x0 m4 (0 : Int32) (0 : Int32) h
theorem hy_X6_canTake : g_hy yX6_canTake 2 := by decide +kernel
set_option maxHeartbeats 4000000 in
set_option maxRecDepth 100000 in
theorem c_X6_canTake {l : Launch} {D : va_G} {cI cR : ClassId}  (qa : Nat → Nat) {P : Int32 → Prop} (Mst : Nat → Int32) (Mhi : Nat → Int32) (Mhn : Int32) (Msl : Nat → Int32) (Msv : Nat → Int32) (Mpd : Nat → Int32) (Mln : Int32) (Mat : Int32) (Mit : Nat → Int32) (Mvf : Nat → Int32) (Mdn : Nat → Int32) (Mlf : Nat → Int32) (Mar : Nat → Int32) (Msa : Nat → Int32) (Msm : Nat → Int32) (Mso : Int32) (x1 : Int32) (x2 : Int32) (h : wp_X6_canTake P Mst Mlf Mar x1 x2) : CT l D cI cR yX6_canTake cX6_canTake 5 (some .boolean) ({ frames := 2, cells := 0, slots := 0, locals := 43 } : Room) [.ref (qa 0), .int x1, .int x2] (wfl [cM qa cI Mst Mhi Mhn Msl Msv Mpd Mln Mat Mit Mvf Mdn Mlf Mar Msa Msm Mso]) (fun _ : Unit => (wfl [cM qa cI Mst Mhi Mhn Msl Msv Mpd Mln Mat Mit Mvf Mdn Mlf Mar Msa Msm Mso])) (pI (fun (r : Int32) (_ : Unit) => P r)) 0 0 := by
  refine ct_of RX6 rfl (by decide +kernel) (Nat.le_of_ble_eq_true rfl) (fun zp ze zs zm zb zt zc A hin κ => ?_)
  unfold wp_X6_canTake at h
  refine gw_nf (lv' := [(0, .ref (qa 0)), (1, .int x1), (2, .int x2)]) (pc' := 0) (st' := []) (ce' := 0) (sl' := 0) rfl rfl rfl rfl rfl rfl ?_
  refine gw_aload_n (pc' := 1) κ dX6_canTake_0 rfl 0 rfl rfl ?_
  refine gb_get (pc' := 4) (C := RX6) (T := TX6) (N := 16) κ dX6_canTake_1 rfl inX6 0 rfl rfl rfl 0 (by decide) tw_fl_X6_7 rfl ?_
  refine gw_bipush (pc' := 6) (v := 17) κ dX6_canTake_4 rfl (by decide) ?_
  refine gw_iload_n (pc' := 7) κ dX6_canTake_6 rfl 1 rfl rfl ?_
  refine gw_iadd (pc' := 8) κ dX6_canTake_7 rfl  ?_
  obtain ⟨hb_1, h⟩ := h
  refine gb_iald (pc' := 9) κ dX6_canTake_8 rfl 0 1 rfl rfl hb_1 ?_
  refine gw_aload_n (pc' := 10) κ dX6_canTake_9 rfl 0 rfl rfl ?_
  refine gw_iload_n (pc' := 11) κ dX6_canTake_10 rfl 2 rfl rfl ?_
  refine gb_callV (ci := 6) (qb := 0) (rest := [.int (Mst ((17 : Int32) + x1).toNatClampNeg)]) κ (c_X6_ready qa Mst Mhi Mhn Msl Msv Mpd Mln Mat Mit Mvf Mdn Mlf Mar Msa Msm Mso x2 h) ⟨rfl, rfl, Nat.le_of_ble_eq_true rfl, Nat.le_of_ble_eq_true rfl⟩ tw_ml_X6_65 tw_im_X6_ready tw_se_X6_ready tw_co_X6_ready tw_in_X6 hy_X6_ready rfl rfl rfl rfl rfl (Nat.le_of_ble_eq_true rfl) rfl dX6_canTake_11 [0] rfl (by decide) (fun _ => Nat.le_of_ble_eq_true rfl) ⟨Nat.le_of_ble_eq_true rfl, Nat.le_of_ble_eq_true rfl⟩ (fun v u hv => ?_)
  obtain ⟨r_2, rfl, h⟩ := hv
  refine gw_nf (ws' := (wfl [cM qa cI Mst Mhi Mhn Msl Msv Mpd Mln Mat Mit Mvf Mdn Mlf Mar Msa Msm Mso])) (lv' := [(0, .ref (qa 0)), (1, .int x1), (2, .int x2)]) (st' := [.int r_2, .int (Mst ((17 : Int32) + x1).toNatClampNeg)]) (pc' := 14) (ce' := 0) (sl' := 0) rfl rfl rfl rfl rfl rfl ?_
  refine gw_isub (pc' := 15) κ dX6_canTake_14 rfl  ?_
  refine gw_istore_n (pc' := 16) κ dX6_canTake_15 rfl rfl (by decide) (lv' := [(3, .int ((Mst ((17 : Int32) + x1).toNatClampNeg) - r_2)), (0, .ref (qa 0)), (1, .int x1), (2, .int x2)]) rfl ?_
  refine gw_aload_n (pc' := 17) κ dX6_canTake_16 rfl 1 rfl rfl ?_
  refine gb_get (pc' := 20) (C := RX6) (T := TX6) (N := 16) κ dX6_canTake_17 rfl inX6 0 rfl rfl rfl 12 (by decide) tw_fl_X6_37 rfl ?_
  refine gw_iload_n (pc' := 21) κ dX6_canTake_20 rfl 2 rfl rfl ?_
  obtain ⟨hb_3, h⟩ := h
  refine gb_iald (pc' := 22) κ dX6_canTake_21 rfl 0 10 rfl rfl hb_3 ?_
  refine gw_iconst (pc' := 23) (v := 1) κ dX6_canTake_22 rfl (by decide) ?_
  refine gw_aload_n (pc' := 24) κ dX6_canTake_23 rfl 1 rfl rfl ?_
  refine gw_iload_n (pc' := 25) κ dX6_canTake_24 rfl 3 rfl rfl ?_
  refine gw_iconst (pc' := 26) (v := 1) κ dX6_canTake_25 rfl (by decide) ?_
  refine gb_callV (ci := 6) (qb := 0) (rest := [.int (1 : Int32), .int (Mar x1.toNatClampNeg)]) κ (c_X6_of qa Mst Mhi Mhn Msl Msv Mpd Mln Mat Mit Mvf Mdn Mlf Mar Msa Msm Mso x2 (1 : Int32) h) ⟨rfl, rfl, Nat.le_of_ble_eq_true rfl, Nat.le_of_ble_eq_true rfl⟩ tw_ml_X6_57 tw_im_X6_of tw_se_X6_of tw_co_X6_of tw_in_X6 hy_X6_of rfl rfl rfl rfl rfl (Nat.le_of_ble_eq_true rfl) rfl dX6_canTake_26 [0] rfl (by decide) (fun _ => Nat.le_of_ble_eq_true rfl) ⟨Nat.le_of_ble_eq_true rfl, Nat.le_of_ble_eq_true rfl⟩ (fun v u hv => ?_)
  obtain ⟨r_4, rfl, h⟩ := hv
  refine gw_nf (ws' := (wfl [cM qa cI Mst Mhi Mhn Msl Msv Mpd Mln Mat Mit Mvf Mdn Mlf Mar Msa Msm Mso])) (lv' := [(3, .int ((Mst ((17 : Int32) + x1).toNatClampNeg) - r_2)), (0, .ref (qa 0)), (1, .int x1), (2, .int x2)]) (st' := [.int r_4, .int (1 : Int32), .int (Mar x1.toNatClampNeg)]) (pc' := 29) (ce' := 0) (sl' := 0) rfl rfl rfl rfl rfl rfl ?_
  refine gw_ishl (pc' := 30) κ dX6_canTake_29 rfl  ?_
  refine gw_ior (pc' := 31) κ dX6_canTake_30 rfl  ?_
  refine gw_top (fun y_5 hy_5 => ?_)
  have h := h y_5 hy_5
  refine gw_istore (pc' := 33) κ dX6_canTake_31 rfl (by decide) (lv' := [(4, .int y_5), (3, .int ((Mst ((17 : Int32) + x1).toNatClampNeg) - r_2)), (0, .ref (qa 0)), (1, .int x1), (2, .int x2)]) rfl ?_
  refine gw_iload_n (pc' := 34) κ dX6_canTake_33 rfl 1 rfl rfl ?_
  refine gw_iconst (pc' := 35) (v := 0) κ dX6_canTake_34 rfl (by decide) ?_
  refine gw_aload_n (pc' := 36) κ dX6_canTake_35 rfl 2 rfl rfl ?_
  refine gb_get (pc' := 39) (C := RX6) (T := TX6) (N := 16) κ dX6_canTake_36 rfl inX6 0 rfl rfl rfl 0 (by decide) tw_fl_X6_7 rfl ?_
  refine gw_iconst (pc' := 40) (v := 1) κ dX6_canTake_39 rfl (by decide) ?_
  refine gb_iald (pc' := 41) κ dX6_canTake_40 rfl 0 1 rfl rfl (by unfold vp_in; decide) ?_
  refine gb_callS (rest := []) κ (c_X6_within  ((Mst ((17 : Int32) + x1).toNatClampNeg) - r_2) (0 : Int32) (Mst (1 : Int32).toNatClampNeg) h) ⟨rfl, rfl, Nat.le_of_ble_eq_true rfl, Nat.le_of_ble_eq_true rfl⟩ tw_ml_X6_46 tw_st_X6_within tw_co_X6_within tw_in_X6 hy_X6_within rfl (Nat.le_of_ble_eq_true rfl) rfl dX6_canTake_41 [] rfl (by decide) (fun _ => Nat.le_of_ble_eq_true rfl) ⟨Nat.le_of_ble_eq_true rfl, Nat.le_of_ble_eq_true rfl⟩ (fun v u hv => ?_)
  obtain ⟨r_7, rfl, h⟩ := hv
  refine gw_nf (ws' := (wfl [cM qa cI Mst Mhi Mhn Msl Msv Mpd Mln Mat Mit Mvf Mdn Mlf Mar Msa Msm Mso])) (lv' := [(4, .int y_5), (3, .int ((Mst ((17 : Int32) + x1).toNatClampNeg) - r_2)), (0, .ref (qa 0)), (1, .int x1), (2, .int x2)]) (st' := [.int r_7]) (pc' := 44) (ce' := 0) (sl' := 0) rfl rfl rfl rfl rfl rfl ?_
  refine gw_if_eq (pc' := 47) (tgt := 80) κ dX6_canTake_44 rfl (by decide) (fun hc_8 => ?_) (fun hc_8 => ?_)
  · have h := h.1 hc_8
    refine gw_iconst (pc' := 81) (v := 0) κ dX6_canTake_80 rfl (by decide) ?_
    exact gw_zret κ dX6_canTake_81 () rfl rfl ⟨_, rfl, h⟩
  · have h := h.2 hc_8
    refine gw_aload_n (pc' := 48) κ dX6_canTake_47 rfl 2 rfl rfl ?_
    refine gb_get (pc' := 51) (C := RX6) (T := TX6) (N := 16) κ dX6_canTake_48 rfl inX6 0 rfl rfl rfl 11 (by decide) tw_fl_X6_34 rfl ?_
    refine gw_iload_n (pc' := 52) κ dX6_canTake_51 rfl 3 rfl rfl ?_
    obtain ⟨hb_9, h⟩ := h
    refine gb_iald (pc' := 53) κ dX6_canTake_52 rfl 0 9 rfl rfl hb_9 ?_
    refine gw_aload_n (pc' := 54) κ dX6_canTake_53 rfl 2 rfl rfl ?_
    refine gw_iload_n (pc' := 55) κ dX6_canTake_54 rfl 4 rfl rfl ?_
    refine gw_iconst (pc' := 56) (v := 3) κ dX6_canTake_55 rfl (by decide) ?_
    refine gb_callV (ci := 6) (qb := 0) (rest := [.int (Mlf x1.toNatClampNeg)]) κ (c_X6_of qa Mst Mhi Mhn Msl Msv Mpd Mln Mat Mit Mvf Mdn Mlf Mar Msa Msm Mso x2 (3 : Int32) h) ⟨rfl, rfl, Nat.le_of_ble_eq_true rfl, Nat.le_of_ble_eq_true rfl⟩ tw_ml_X6_57 tw_im_X6_of tw_se_X6_of tw_co_X6_of tw_in_X6 hy_X6_of rfl rfl rfl rfl rfl (Nat.le_of_ble_eq_true rfl) rfl dX6_canTake_56 [0] rfl (by decide) (fun _ => Nat.le_of_ble_eq_true rfl) ⟨Nat.le_of_ble_eq_true rfl, Nat.le_of_ble_eq_true rfl⟩ (fun v u hv => ?_)
    obtain ⟨r_10, rfl, h⟩ := hv
    refine gw_nf (ws' := (wfl [cM qa cI Mst Mhi Mhn Msl Msv Mpd Mln Mat Mit Mvf Mdn Mlf Mar Msa Msm Mso])) (lv' := [(4, .int y_5), (3, .int ((Mst ((17 : Int32) + x1).toNatClampNeg) - r_2)), (0, .ref (qa 0)), (1, .int x1), (2, .int x2)]) (st' := [.int r_10, .int (Mlf x1.toNatClampNeg)]) (pc' := 59) (ce' := 0) (sl' := 0) rfl rfl rfl rfl rfl rfl ?_
    refine gw_icmp_lt (pc' := 62) (tgt := 80) κ dX6_canTake_59 rfl (by decide) (fun hc_11 => ?_) (fun hc_11 => ?_)
    · have h := h.1 hc_11
      refine gw_iconst (pc' := 81) (v := 0) κ dX6_canTake_80 rfl (by decide) ?_
      exact gw_zret κ dX6_canTake_81 () rfl rfl ⟨_, rfl, h⟩
    · have h := h.2 hc_11
      refine gw_iload (pc' := 64) κ dX6_canTake_62 rfl 0 rfl ?_
      refine gb_callS (rest := []) κ (c_X6_ones  y_5 h) ⟨rfl, rfl, Nat.le_of_ble_eq_true rfl, Nat.le_of_ble_eq_true rfl⟩ tw_ml_X6_68 tw_st_X6_ones tw_co_X6_ones tw_in_X6 hy_X6_ones rfl (Nat.le_of_ble_eq_true rfl) rfl dX6_canTake_64 [] rfl (by decide) (fun _ => Nat.le_of_ble_eq_true rfl) ⟨Nat.le_of_ble_eq_true rfl, Nat.le_of_ble_eq_true rfl⟩ (fun v u hv => ?_)
      obtain ⟨r_12, rfl, h⟩ := hv
      refine gw_nf (ws' := (wfl [cM qa cI Mst Mhi Mhn Msl Msv Mpd Mln Mat Mit Mvf Mdn Mlf Mar Msa Msm Mso])) (lv' := [(4, .int y_5), (3, .int ((Mst ((17 : Int32) + x1).toNatClampNeg) - r_2)), (0, .ref (qa 0)), (1, .int x1), (2, .int x2)]) (st' := [.int r_12]) (pc' := 67) (ce' := 0) (sl' := 0) rfl rfl rfl rfl rfl rfl ?_
      refine gw_aload_n (pc' := 68) κ dX6_canTake_67 rfl 2 rfl rfl ?_
      refine gb_get (pc' := 71) (C := RX6) (T := TX6) (N := 16) κ dX6_canTake_68 rfl inX6 0 rfl rfl rfl 0 (by decide) tw_fl_X6_7 rfl ?_
      refine gw_iconst (pc' := 72) (v := 2) κ dX6_canTake_71 rfl (by decide) ?_
      refine gb_iald (pc' := 73) κ dX6_canTake_72 rfl 0 1 rfl rfl (by unfold vp_in; decide) ?_
      refine gw_icmp_gt (pc' := 76) (tgt := 80) κ dX6_canTake_73 rfl (by decide) (fun hc_14 => ?_) (fun hc_14 => ?_)
      · have h := h.1 hc_14
        refine gw_iconst (pc' := 81) (v := 0) κ dX6_canTake_80 rfl (by decide) ?_
        exact gw_zret κ dX6_canTake_81 () rfl rfl ⟨_, rfl, h⟩
      · have h := h.2 hc_14
        refine gw_iconst (pc' := 77) (v := 1) κ dX6_canTake_76 rfl (by decide) ?_
        refine gw_goto (tgt := 81) κ dX6_canTake_77 (by decide) ?_
        exact gw_zret κ dX6_canTake_81 () rfl rfl ⟨_, rfl, h⟩
theorem hy_X6_nextRider : g_hy yX6_nextRider 0 := by decide +kernel
set_option maxHeartbeats 4000000 in
set_option maxRecDepth 100000 in
theorem k_X6_nextRider_5 {zp : Program} {l : Launch} {ze : Env} {zs : State} {zm : MethodId} {za : Array Value} {zb : List Frame} {zt : Method} {zc : Code} {D : va_G} {cI cR : ClassId} {A : Nat → Prop} (κ : KC zp zs zm za zt zc cX6_nextRider 3 RX6 D cI cR A (some .int)) (qa : Nat → Nat) (P : Int32 → Prop) (Mst : Nat → Int32) (Mhi : Nat → Int32) (Mhn : Int32) (Msl : Nat → Int32) (Msv : Nat → Int32) (Mpd : Nat → Int32) (Mln : Int32) (Mat : Int32) (Mit : Nat → Int32) (Mvf : Nat → Int32) (Mdn : Nat → Int32) (Mlf : Nat → Int32) (Mar : Nat → Int32) (Msa : Nat → Int32) (Msm : Nat → Int32) (Mso : Int32) : ∀ (n : Nat) (v1 : Int32) (v2 : Int32), wp_X6_nextRider_5 P Mst Mdn n v1 v2 → GM zp l ze ({ frames := 2, cells := 0, slots := 0, locals := 43 } : Room) zs zm za zb zt zc D A 3 (pI (fun (r : Int32) (_ : Unit) => P r)) (fun _ : Unit => (wfl [cM qa cI Mst Mhi Mhn Msl Msv Mpd Mln Mat Mit Mvf Mdn Mlf Mar Msa Msm Mso])) 0 0 0 0 (wfl [cM qa cI Mst Mhi Mhn Msl Msv Mpd Mln Mat Mit Mvf Mdn Mlf Mar Msa Msm Mso]) [(0, .ref (qa 0)), (1, .int v1), (2, .int v2)] 5 [] := by
  intro n5
  induction n5 with
  | zero => intro v1 v2 h; exact (show False from h).elim
  | succ n5 ih5 =>
    intro v1 v2 h
    have h : wp_X6_nextRider_5F P Mst Mdn (wp_X6_nextRider_5 P Mst Mdn n5) v1 v2 := h
    unfold wp_X6_nextRider_5F at h
    refine gw_iload_n (pc' := 6) κ dX6_nextRider_5 rfl 2 rfl rfl ?_
    refine gw_aload_n (pc' := 7) κ dX6_nextRider_6 rfl 0 rfl rfl ?_
    refine gb_get (pc' := 10) (C := RX6) (T := TX6) (N := 16) κ dX6_nextRider_7 rfl inX6 0 rfl rfl rfl 0 (by decide) tw_fl_X6_7 rfl ?_
    refine gw_bipush (pc' := 12) (v := 33) κ dX6_nextRider_10 rfl (by decide) ?_
    refine gb_iald (pc' := 13) κ dX6_nextRider_12 rfl 0 1 rfl rfl (by unfold vp_in; decide) ?_
    refine gw_icmp_ge (pc' := 16) (tgt := 52) κ dX6_nextRider_13 rfl (by decide) (fun hc_2 => ?_) (fun hc_2 => ?_)
    · have h := h.1 hc_2
      refine gw_iload_n (pc' := 53) κ dX6_nextRider_52 rfl 1 rfl rfl ?_
      exact gw_iret κ dX6_nextRider_53 () rfl ⟨_, rfl, h⟩
    · have h := h.2 hc_2
      refine gw_aload_n (pc' := 17) κ dX6_nextRider_16 rfl 0 rfl rfl ?_
      refine gb_get (pc' := 20) (C := RX6) (T := TX6) (N := 16) κ dX6_nextRider_17 rfl inX6 0 rfl rfl rfl 10 (by decide) tw_fl_X6_31 rfl ?_
      refine gw_iload_n (pc' := 21) κ dX6_nextRider_20 rfl 2 rfl rfl ?_
      obtain ⟨hb_3, h⟩ := h
      refine gb_iald (pc' := 22) κ dX6_nextRider_21 rfl 0 8 rfl rfl hb_3 ?_
      refine gw_if_ne (pc' := 25) (tgt := 46) κ dX6_nextRider_22 rfl (by decide) (fun hc_4 => ?_) (fun hc_4 => ?_)
      · have h := h.1 hc_4
        refine gw_iinc (pc' := 49) κ dX6_nextRider_46 rfl 2 rfl (v := (v2 + 1)) rfl (by decide) (lv' := [(2, .int (v2 + 1)), (0, .ref (qa 0)), (1, .int v1)]) rfl ?_
        refine gw_goto (tgt := 5) κ dX6_nextRider_49 (by decide) ?_
        refine gw_lv (lv' := [(0, .ref (qa 0)), (1, .int v1), (2, .int (v2 + 1))]) [1, 2, 0] rfl ?_
        exact ih5 v1 (v2 + 1) h
      · have h := h.2 hc_4
        refine gw_iload_n (pc' := 26) κ dX6_nextRider_25 rfl 1 rfl rfl ?_
        refine gw_bipush (pc' := 28) (v := -106) κ dX6_nextRider_26 rfl (by decide) ?_
        refine gw_icmp_eq (pc' := 31) (tgt := 44) κ dX6_nextRider_28 rfl (by decide) (fun hc_5 => ?_) (fun hc_5 => ?_)
        · have h := h.1 hc_5
          refine gw_iload_n (pc' := 45) κ dX6_nextRider_44 rfl 2 rfl rfl ?_
          refine gw_istore_n (pc' := 46) κ dX6_nextRider_45 rfl rfl (by decide) (lv' := [(1, .int v2), (0, .ref (qa 0)), (2, .int v2)]) rfl ?_
          refine gw_iinc (pc' := 49) κ dX6_nextRider_46 rfl 2 rfl (v := (v2 + 1)) rfl (by decide) (lv' := [(2, .int (v2 + 1)), (1, .int v2), (0, .ref (qa 0))]) rfl ?_
          refine gw_goto (tgt := 5) κ dX6_nextRider_49 (by decide) ?_
          refine gw_lv (lv' := [(0, .ref (qa 0)), (1, .int v2), (2, .int (v2 + 1))]) [2, 1, 0] rfl ?_
          exact ih5 v2 (v2 + 1) h
        · have h := h.2 hc_5
          refine gw_aload_n (pc' := 32) κ dX6_nextRider_31 rfl 0 rfl rfl ?_
          refine gw_iload_n (pc' := 33) κ dX6_nextRider_32 rfl 2 rfl rfl ?_
          refine gb_callV (ci := 6) (qb := 0) (rest := []) κ (c_X6_ready qa Mst Mhi Mhn Msl Msv Mpd Mln Mat Mit Mvf Mdn Mlf Mar Msa Msm Mso v2 h) ⟨rfl, rfl, Nat.le_of_ble_eq_true rfl, Nat.le_of_ble_eq_true rfl⟩ tw_ml_X6_65 tw_im_X6_ready tw_se_X6_ready tw_co_X6_ready tw_in_X6 hy_X6_ready rfl rfl rfl rfl rfl (Nat.le_of_ble_eq_true rfl) rfl dX6_nextRider_33 [0] rfl (by decide) (fun _ => Nat.le_of_ble_eq_true rfl) ⟨Nat.le_of_ble_eq_true rfl, Nat.le_of_ble_eq_true rfl⟩ (fun v u hv => ?_)
          obtain ⟨r_6, rfl, h⟩ := hv
          refine gw_nf (ws' := (wfl [cM qa cI Mst Mhi Mhn Msl Msv Mpd Mln Mat Mit Mvf Mdn Mlf Mar Msa Msm Mso])) (lv' := [(0, .ref (qa 0)), (1, .int v1), (2, .int v2)]) (st' := [.int r_6]) (pc' := 36) (ce' := 0) (sl' := 0) rfl rfl rfl rfl rfl rfl ?_
          refine gw_aload_n (pc' := 37) κ dX6_nextRider_36 rfl 0 rfl rfl ?_
          refine gw_iload_n (pc' := 38) κ dX6_nextRider_37 rfl 1 rfl rfl ?_
          refine gb_callV (ci := 6) (qb := 0) (rest := [.int r_6]) κ (c_X6_ready qa Mst Mhi Mhn Msl Msv Mpd Mln Mat Mit Mvf Mdn Mlf Mar Msa Msm Mso v1 h) ⟨rfl, rfl, Nat.le_of_ble_eq_true rfl, Nat.le_of_ble_eq_true rfl⟩ tw_ml_X6_65 tw_im_X6_ready tw_se_X6_ready tw_co_X6_ready tw_in_X6 hy_X6_ready rfl rfl rfl rfl rfl (Nat.le_of_ble_eq_true rfl) rfl dX6_nextRider_38 [0] rfl (by decide) (fun _ => Nat.le_of_ble_eq_true rfl) ⟨Nat.le_of_ble_eq_true rfl, Nat.le_of_ble_eq_true rfl⟩ (fun v u hv => ?_)
          obtain ⟨r_7, rfl, h⟩ := hv
          refine gw_nf (ws' := (wfl [cM qa cI Mst Mhi Mhn Msl Msv Mpd Mln Mat Mit Mvf Mdn Mlf Mar Msa Msm Mso])) (lv' := [(0, .ref (qa 0)), (1, .int v1), (2, .int v2)]) (st' := [.int r_7, .int r_6]) (pc' := 41) (ce' := 0) (sl' := 0) rfl rfl rfl rfl rfl rfl ?_
          refine gw_icmp_ge (pc' := 44) (tgt := 46) κ dX6_nextRider_41 rfl (by decide) (fun hc_8 => ?_) (fun hc_8 => ?_)
          · have h := h.1 hc_8
            refine gw_iinc (pc' := 49) κ dX6_nextRider_46 rfl 2 rfl (v := (v2 + 1)) rfl (by decide) (lv' := [(2, .int (v2 + 1)), (0, .ref (qa 0)), (1, .int v1)]) rfl ?_
            refine gw_goto (tgt := 5) κ dX6_nextRider_49 (by decide) ?_
            refine gw_lv (lv' := [(0, .ref (qa 0)), (1, .int v1), (2, .int (v2 + 1))]) [1, 2, 0] rfl ?_
            exact ih5 v1 (v2 + 1) h
          · have h := h.2 hc_8
            refine gw_iload_n (pc' := 45) κ dX6_nextRider_44 rfl 2 rfl rfl ?_
            refine gw_istore_n (pc' := 46) κ dX6_nextRider_45 rfl rfl (by decide) (lv' := [(1, .int v2), (0, .ref (qa 0)), (2, .int v2)]) rfl ?_
            refine gw_iinc (pc' := 49) κ dX6_nextRider_46 rfl 2 rfl (v := (v2 + 1)) rfl (by decide) (lv' := [(2, .int (v2 + 1)), (1, .int v2), (0, .ref (qa 0))]) rfl ?_
            refine gw_goto (tgt := 5) κ dX6_nextRider_49 (by decide) ?_
            refine gw_lv (lv' := [(0, .ref (qa 0)), (1, .int v2), (2, .int (v2 + 1))]) [2, 1, 0] rfl ?_
            exact ih5 v2 (v2 + 1) h
set_option maxHeartbeats 4000000 in
set_option maxRecDepth 100000 in
theorem c_X6_nextRider {l : Launch} {D : va_G} {cI cR : ClassId}  (qa : Nat → Nat) {P : Int32 → Prop} (Mst : Nat → Int32) (Mhi : Nat → Int32) (Mhn : Int32) (Msl : Nat → Int32) (Msv : Nat → Int32) (Mpd : Nat → Int32) (Mln : Int32) (Mat : Int32) (Mit : Nat → Int32) (Mvf : Nat → Int32) (Mdn : Nat → Int32) (Mlf : Nat → Int32) (Mar : Nat → Int32) (Msa : Nat → Int32) (Msm : Nat → Int32) (Mso : Int32) (h : wp_X6_nextRider P Mst Mdn) : CT l D cI cR yX6_nextRider cX6_nextRider 3 (some .int) ({ frames := 2, cells := 0, slots := 0, locals := 43 } : Room) [.ref (qa 0)] (wfl [cM qa cI Mst Mhi Mhn Msl Msv Mpd Mln Mat Mit Mvf Mdn Mlf Mar Msa Msm Mso]) (fun _ : Unit => (wfl [cM qa cI Mst Mhi Mhn Msl Msv Mpd Mln Mat Mit Mvf Mdn Mlf Mar Msa Msm Mso])) (pI (fun (r : Int32) (_ : Unit) => P r)) 0 0 := by
  refine ct_of RX6 rfl (by decide +kernel) (Nat.le_of_ble_eq_true rfl) (fun zp ze zs zm zb zt zc A hin κ => ?_)
  unfold wp_X6_nextRider at h
  refine gw_nf (lv' := [(0, .ref (qa 0))]) (pc' := 0) (st' := []) (ce' := 0) (sl' := 0) rfl rfl rfl rfl rfl rfl ?_
  refine gw_bipush (pc' := 2) (v := -106) κ dX6_nextRider_0 rfl (by decide) ?_
  refine gw_istore_n (pc' := 3) κ dX6_nextRider_2 rfl rfl (by decide) (lv' := [(1, .int (-106 : Int32)), (0, .ref (qa 0))]) rfl ?_
  refine gw_iconst (pc' := 4) (v := 0) κ dX6_nextRider_3 rfl (by decide) ?_
  refine gw_istore_n (pc' := 5) κ dX6_nextRider_4 rfl rfl (by decide) (lv' := [(2, .int (0 : Int32)), (1, .int (-106 : Int32)), (0, .ref (qa 0))]) rfl ?_
  obtain ⟨m5, h⟩ := h
  refine gw_lv (lv' := [(0, .ref (qa 0)), (1, .int (-106 : Int32)), (2, .int (0 : Int32))]) [2, 1, 0] rfl ?_
  exact k_X6_nextRider_5 κ qa P Mst Mhi Mhn Msl Msv Mpd Mln Mat Mit Mvf Mdn Mlf Mar Msa Msm Mso m5 (-106 : Int32) (0 : Int32) h
theorem hy_X6_firstVan : g_hy yX6_firstVan 1 := by decide +kernel
set_option maxHeartbeats 4000000 in
set_option maxRecDepth 100000 in
theorem k_X6_firstVan_5 {zp : Program} {l : Launch} {ze : Env} {zs : State} {zm : MethodId} {za : Array Value} {zb : List Frame} {zt : Method} {zc : Code} {D : va_G} {cI cR : ClassId} {A : Nat → Prop} (κ : KC zp zs zm za zt zc cX6_firstVan 4 RX6 D cI cR A (some .int)) (qa : Nat → Nat) (P : Int32 → Prop) (Mst : Nat → Int32) (Mhi : Nat → Int32) (Mhn : Int32) (Msl : Nat → Int32) (Msv : Nat → Int32) (Mpd : Nat → Int32) (Mln : Int32) (Mat : Int32) (Mit : Nat → Int32) (Mvf : Nat → Int32) (Mdn : Nat → Int32) (Mlf : Nat → Int32) (Mar : Nat → Int32) (Msa : Nat → Int32) (Msm : Nat → Int32) (Mso : Int32) (x1 : Int32) : ∀ (n : Nat) (v2 : Int32) (v3 : Int32), wp_X6_firstVan_5 P Mst Mlf Mar x1 n v2 v3 → GM zp l ze ({ frames := 3, cells := 0, slots := 0, locals := 67 } : Room) zs zm za zb zt zc D A 4 (pI (fun (r : Int32) (_ : Unit) => P r)) (fun _ : Unit => (wfl [cM qa cI Mst Mhi Mhn Msl Msv Mpd Mln Mat Mit Mvf Mdn Mlf Mar Msa Msm Mso])) 0 0 0 0 (wfl [cM qa cI Mst Mhi Mhn Msl Msv Mpd Mln Mat Mit Mvf Mdn Mlf Mar Msa Msm Mso]) [(0, .ref (qa 0)), (1, .int x1), (2, .int v2), (3, .int v3)] 5 [] := by
  intro n5
  induction n5 with
  | zero => intro v2 v3 h; exact (show False from h).elim
  | succ n5 ih5 =>
    intro v2 v3 h
    have h : wp_X6_firstVan_5F P Mst Mlf Mar x1 (wp_X6_firstVan_5 P Mst Mlf Mar x1 n5) v2 v3 := h
    unfold wp_X6_firstVan_5F at h
    refine gw_iload_n (pc' := 6) κ dX6_firstVan_5 rfl 3 rfl rfl ?_
    refine gw_bipush (pc' := 8) (v := 8) κ dX6_firstVan_6 rfl (by decide) ?_
    refine gw_icmp_ge (pc' := 11) (tgt := 55) κ dX6_firstVan_8 rfl (by decide) (fun hc_1 => ?_) (fun hc_1 => ?_)
    · have h := h.1 hc_1
      refine gw_iload_n (pc' := 56) κ dX6_firstVan_55 rfl 2 rfl rfl ?_
      exact gw_iret κ dX6_firstVan_56 () rfl ⟨_, rfl, h⟩
    · have h := h.2 hc_1
      refine gw_aload_n (pc' := 12) κ dX6_firstVan_11 rfl 0 rfl rfl ?_
      refine gw_iload_n (pc' := 13) κ dX6_firstVan_12 rfl 3 rfl rfl ?_
      refine gw_iload_n (pc' := 14) κ dX6_firstVan_13 rfl 1 rfl rfl ?_
      refine gb_callV (ci := 6) (qb := 0) (rest := []) κ (c_X6_canTake qa Mst Mhi Mhn Msl Msv Mpd Mln Mat Mit Mvf Mdn Mlf Mar Msa Msm Mso v3 x1 h) ⟨rfl, rfl, Nat.le_of_ble_eq_true rfl, Nat.le_of_ble_eq_true rfl⟩ tw_ml_X6_71 tw_im_X6_canTake tw_se_X6_canTake tw_co_X6_canTake tw_in_X6 hy_X6_canTake rfl rfl rfl rfl rfl (Nat.le_of_ble_eq_true rfl) rfl dX6_firstVan_14 [0] rfl (by decide) (fun _ => Nat.le_of_ble_eq_true rfl) ⟨Nat.le_of_ble_eq_true rfl, Nat.le_of_ble_eq_true rfl⟩ (fun v u hv => ?_)
      obtain ⟨r_2, rfl, h⟩ := hv
      refine gw_nf (ws' := (wfl [cM qa cI Mst Mhi Mhn Msl Msv Mpd Mln Mat Mit Mvf Mdn Mlf Mar Msa Msm Mso])) (lv' := [(0, .ref (qa 0)), (1, .int x1), (2, .int v2), (3, .int v3)]) (st' := [.int r_2]) (pc' := 17) (ce' := 0) (sl' := 0) rfl rfl rfl rfl rfl rfl ?_
      refine gw_if_eq (pc' := 20) (tgt := 49) κ dX6_firstVan_17 rfl (by decide) (fun hc_3 => ?_) (fun hc_3 => ?_)
      · have h := h.1 hc_3
        refine gw_iinc (pc' := 52) κ dX6_firstVan_49 rfl 3 rfl (v := (v3 + 1)) rfl (by decide) (lv' := [(3, .int (v3 + 1)), (0, .ref (qa 0)), (1, .int x1), (2, .int v2)]) rfl ?_
        refine gw_goto (tgt := 5) κ dX6_firstVan_52 (by decide) ?_
        refine gw_lv (lv' := [(0, .ref (qa 0)), (1, .int x1), (2, .int v2), (3, .int (v3 + 1))]) [1, 2, 3, 0] rfl ?_
        exact ih5 v2 (v3 + 1) h
      · have h := h.2 hc_3
        refine gw_iload_n (pc' := 21) κ dX6_firstVan_20 rfl 2 rfl rfl ?_
        refine gw_bipush (pc' := 23) (v := -106) κ dX6_firstVan_21 rfl (by decide) ?_
        refine gw_icmp_eq (pc' := 26) (tgt := 47) κ dX6_firstVan_23 rfl (by decide) (fun hc_4 => ?_) (fun hc_4 => ?_)
        · have h := h.1 hc_4
          refine gw_iload_n (pc' := 48) κ dX6_firstVan_47 rfl 3 rfl rfl ?_
          refine gw_istore_n (pc' := 49) κ dX6_firstVan_48 rfl rfl (by decide) (lv' := [(2, .int v3), (0, .ref (qa 0)), (1, .int x1), (3, .int v3)]) rfl ?_
          refine gw_iinc (pc' := 52) κ dX6_firstVan_49 rfl 3 rfl (v := (v3 + 1)) rfl (by decide) (lv' := [(3, .int (v3 + 1)), (2, .int v3), (0, .ref (qa 0)), (1, .int x1)]) rfl ?_
          refine gw_goto (tgt := 5) κ dX6_firstVan_52 (by decide) ?_
          refine gw_lv (lv' := [(0, .ref (qa 0)), (1, .int x1), (2, .int v3), (3, .int (v3 + 1))]) [2, 3, 1, 0] rfl ?_
          exact ih5 v3 (v3 + 1) h
        · have h := h.2 hc_4
          refine gw_aload_n (pc' := 27) κ dX6_firstVan_26 rfl 0 rfl rfl ?_
          refine gb_get (pc' := 30) (C := RX6) (T := TX6) (N := 16) κ dX6_firstVan_27 rfl inX6 0 rfl rfl rfl 0 (by decide) tw_fl_X6_7 rfl ?_
          refine gw_bipush (pc' := 32) (v := 17) κ dX6_firstVan_30 rfl (by decide) ?_
          refine gw_iload_n (pc' := 33) κ dX6_firstVan_32 rfl 3 rfl rfl ?_
          refine gw_iadd (pc' := 34) κ dX6_firstVan_33 rfl  ?_
          obtain ⟨hb_5, h⟩ := h
          refine gb_iald (pc' := 35) κ dX6_firstVan_34 rfl 0 1 rfl rfl hb_5 ?_
          refine gw_aload_n (pc' := 36) κ dX6_firstVan_35 rfl 0 rfl rfl ?_
          refine gb_get (pc' := 39) (C := RX6) (T := TX6) (N := 16) κ dX6_firstVan_36 rfl inX6 0 rfl rfl rfl 0 (by decide) tw_fl_X6_7 rfl ?_
          refine gw_bipush (pc' := 41) (v := 17) κ dX6_firstVan_39 rfl (by decide) ?_
          refine gw_iload_n (pc' := 42) κ dX6_firstVan_41 rfl 2 rfl rfl ?_
          refine gw_iadd (pc' := 43) κ dX6_firstVan_42 rfl  ?_
          obtain ⟨hb_6, h⟩ := h
          refine gb_iald (pc' := 44) κ dX6_firstVan_43 rfl 0 1 rfl rfl hb_6 ?_
          refine gw_icmp_ge (pc' := 47) (tgt := 49) κ dX6_firstVan_44 rfl (by decide) (fun hc_7 => ?_) (fun hc_7 => ?_)
          · have h := h.1 hc_7
            refine gw_iinc (pc' := 52) κ dX6_firstVan_49 rfl 3 rfl (v := (v3 + 1)) rfl (by decide) (lv' := [(3, .int (v3 + 1)), (0, .ref (qa 0)), (1, .int x1), (2, .int v2)]) rfl ?_
            refine gw_goto (tgt := 5) κ dX6_firstVan_52 (by decide) ?_
            refine gw_lv (lv' := [(0, .ref (qa 0)), (1, .int x1), (2, .int v2), (3, .int (v3 + 1))]) [1, 2, 3, 0] rfl ?_
            exact ih5 v2 (v3 + 1) h
          · have h := h.2 hc_7
            refine gw_iload_n (pc' := 48) κ dX6_firstVan_47 rfl 3 rfl rfl ?_
            refine gw_istore_n (pc' := 49) κ dX6_firstVan_48 rfl rfl (by decide) (lv' := [(2, .int v3), (0, .ref (qa 0)), (1, .int x1), (3, .int v3)]) rfl ?_
            refine gw_iinc (pc' := 52) κ dX6_firstVan_49 rfl 3 rfl (v := (v3 + 1)) rfl (by decide) (lv' := [(3, .int (v3 + 1)), (2, .int v3), (0, .ref (qa 0)), (1, .int x1)]) rfl ?_
            refine gw_goto (tgt := 5) κ dX6_firstVan_52 (by decide) ?_
            refine gw_lv (lv' := [(0, .ref (qa 0)), (1, .int x1), (2, .int v3), (3, .int (v3 + 1))]) [2, 3, 1, 0] rfl ?_
            exact ih5 v3 (v3 + 1) h
set_option maxHeartbeats 4000000 in
set_option maxRecDepth 100000 in
theorem c_X6_firstVan {l : Launch} {D : va_G} {cI cR : ClassId}  (qa : Nat → Nat) {P : Int32 → Prop} (Mst : Nat → Int32) (Mhi : Nat → Int32) (Mhn : Int32) (Msl : Nat → Int32) (Msv : Nat → Int32) (Mpd : Nat → Int32) (Mln : Int32) (Mat : Int32) (Mit : Nat → Int32) (Mvf : Nat → Int32) (Mdn : Nat → Int32) (Mlf : Nat → Int32) (Mar : Nat → Int32) (Msa : Nat → Int32) (Msm : Nat → Int32) (Mso : Int32) (x1 : Int32) (h : wp_X6_firstVan P Mst Mlf Mar x1) : CT l D cI cR yX6_firstVan cX6_firstVan 4 (some .int) ({ frames := 3, cells := 0, slots := 0, locals := 67 } : Room) [.ref (qa 0), .int x1] (wfl [cM qa cI Mst Mhi Mhn Msl Msv Mpd Mln Mat Mit Mvf Mdn Mlf Mar Msa Msm Mso]) (fun _ : Unit => (wfl [cM qa cI Mst Mhi Mhn Msl Msv Mpd Mln Mat Mit Mvf Mdn Mlf Mar Msa Msm Mso])) (pI (fun (r : Int32) (_ : Unit) => P r)) 0 0 := by
  refine ct_of RX6 rfl (by decide +kernel) (Nat.le_of_ble_eq_true rfl) (fun zp ze zs zm zb zt zc A hin κ => ?_)
  unfold wp_X6_firstVan at h
  refine gw_nf (lv' := [(0, .ref (qa 0)), (1, .int x1)]) (pc' := 0) (st' := []) (ce' := 0) (sl' := 0) rfl rfl rfl rfl rfl rfl ?_
  refine gw_bipush (pc' := 2) (v := -106) κ dX6_firstVan_0 rfl (by decide) ?_
  refine gw_istore_n (pc' := 3) κ dX6_firstVan_2 rfl rfl (by decide) (lv' := [(2, .int (-106 : Int32)), (0, .ref (qa 0)), (1, .int x1)]) rfl ?_
  refine gw_iconst (pc' := 4) (v := 0) κ dX6_firstVan_3 rfl (by decide) ?_
  refine gw_istore_n (pc' := 5) κ dX6_firstVan_4 rfl rfl (by decide) (lv' := [(3, .int (0 : Int32)), (2, .int (-106 : Int32)), (0, .ref (qa 0)), (1, .int x1)]) rfl ?_
  obtain ⟨m5, h⟩ := h
  refine gw_lv (lv' := [(0, .ref (qa 0)), (1, .int x1), (2, .int (-106 : Int32)), (3, .int (0 : Int32))]) [2, 3, 1, 0] rfl ?_
  exact k_X6_firstVan_5 κ qa P Mst Mhi Mhn Msl Msv Mpd Mln Mat Mit Mvf Mdn Mlf Mar Msa Msm Mso x1 m5 (-106 : Int32) (0 : Int32) h
theorem hy_X6_lay : g_hy yX6_lay 0 := by decide +kernel
set_option maxHeartbeats 4000000 in
set_option maxRecDepth 100000 in
theorem k_X6_lay_59 {zp : Program} {l : Launch} {ze : Env} {zs : State} {zm : MethodId} {za : Array Value} {zb : List Frame} {zt : Method} {zc : Code} {D : va_G} {cI cR : ClassId} {A : Nat → Prop} (κ : KC zp zs zm za zt zc cX6_lay 4 RX6 D cI cR A none) (qa : Nat → Nat) (P : (Nat → Int32) → (Nat → Int32) → (Nat → Int32) → (Nat → Int32) → Prop) (Mst : Nat → Int32) (Mhi : Nat → Int32) (Mhn : Int32) (Msl : Nat → Int32) (Msv : Nat → Int32) (Mpd : Nat → Int32) (Mln : Int32) (Mat : Int32) (Mit : Nat → Int32) (Msa : Nat → Int32) (Msm : Nat → Int32) (Mso : Int32) : ∀ (n : Nat) (v1 : Int32) (Mvf : Nat → Int32) (Mdn : Nat → Int32) (Mlf : Nat → Int32) (Mar : Nat → Int32), wp_X6_lay_59 P Mst n v1 Mvf Mdn Mlf Mar → GM zp l ze ({ frames := 4, cells := 0, slots := 0, locals := 90 } : Room) zs zm za zb zt zc D A 4 (pV (fun (u : (Nat → Int32) × (Nat → Int32) × (Nat → Int32) × (Nat → Int32)) => P u.1 u.2.1 u.2.2.1 u.2.2.2)) (fun u : (Nat → Int32) × (Nat → Int32) × (Nat → Int32) × (Nat → Int32) => (wfl [cM qa cI Mst Mhi Mhn Msl Msv Mpd Mln Mat Mit u.1 u.2.1 u.2.2.1 u.2.2.2 Msa Msm Mso])) 0 0 0 0 (wfl [cM qa cI Mst Mhi Mhn Msl Msv Mpd Mln Mat Mit Mvf Mdn Mlf Mar Msa Msm Mso]) [(0, .ref (qa 0)), (1, .int v1)] 59 [] := by
  intro n59
  induction n59 with
  | zero => intro v1 Mvf Mdn Mlf Mar h; exact (show False from h).elim
  | succ n59 ih59 =>
    intro v1 Mvf Mdn Mlf Mar h
    have h : wp_X6_lay_59F P Mst (wp_X6_lay_59 P Mst n59) v1 Mvf Mdn Mlf Mar := h
    unfold wp_X6_lay_59F at h
    refine gw_iload_n (pc' := 60) κ dX6_lay_59 rfl 1 rfl rfl ?_
    refine gw_aload_n (pc' := 61) κ dX6_lay_60 rfl 0 rfl rfl ?_
    refine gb_get (pc' := 64) (C := RX6) (T := TX6) (N := 16) κ dX6_lay_61 rfl inX6 0 rfl rfl rfl 0 (by decide) tw_fl_X6_7 rfl ?_
    refine gw_bipush (pc' := 66) (v := 33) κ dX6_lay_64 rfl (by decide) ?_
    refine gb_iald (pc' := 67) κ dX6_lay_66 rfl 0 1 rfl rfl (by unfold vp_in; decide) ?_
    refine gw_icmp_ge (pc' := 70) (tgt := 139) κ dX6_lay_67 rfl (by decide) (fun hc_8 => ?_) (fun hc_8 => ?_)
    · have h := h.1 hc_8
      exact gw_vret κ dX6_lay_139 (Mvf, Mdn, Mlf, Mar) rfl ⟨rfl, h⟩
    · have h := h.2 hc_8
      refine gw_aload_n (pc' := 71) κ dX6_lay_70 rfl 0 rfl rfl ?_
      refine gb_callV (ci := 6) (qb := 0) (rest := []) κ (c_X6_nextRider qa Mst Mhi Mhn Msl Msv Mpd Mln Mat Mit Mvf Mdn Mlf Mar Msa Msm Mso h) ⟨rfl, rfl, Nat.le_of_ble_eq_true rfl, Nat.le_of_ble_eq_true rfl⟩ tw_ml_X6_75 tw_im_X6_nextRider tw_se_X6_nextRider tw_co_X6_nextRider tw_in_X6 hy_X6_nextRider rfl rfl rfl rfl rfl (Nat.le_of_ble_eq_true rfl) rfl dX6_lay_71 [0] rfl (by decide) (fun _ => Nat.le_of_ble_eq_true rfl) ⟨Nat.le_of_ble_eq_true rfl, Nat.le_of_ble_eq_true rfl⟩ (fun v u hv => ?_)
      obtain ⟨r_9, rfl, h⟩ := hv
      refine gw_nf (ws' := (wfl [cM qa cI Mst Mhi Mhn Msl Msv Mpd Mln Mat Mit Mvf Mdn Mlf Mar Msa Msm Mso])) (lv' := [(0, .ref (qa 0)), (1, .int v1)]) (st' := [.int r_9]) (pc' := 74) (ce' := 0) (sl' := 0) rfl rfl rfl rfl rfl rfl ?_
      refine gw_istore_n (pc' := 75) κ dX6_lay_74 rfl rfl (by decide) (lv' := [(2, .int r_9), (0, .ref (qa 0)), (1, .int v1)]) rfl ?_
      refine gw_aload_n (pc' := 76) κ dX6_lay_75 rfl 1 rfl rfl ?_
      refine gw_iload_n (pc' := 77) κ dX6_lay_76 rfl 0 rfl rfl ?_
      refine gb_callV (ci := 6) (qb := 0) (rest := []) κ (c_X6_firstVan qa Mst Mhi Mhn Msl Msv Mpd Mln Mat Mit Mvf Mdn Mlf Mar Msa Msm Mso r_9 h) ⟨rfl, rfl, Nat.le_of_ble_eq_true rfl, Nat.le_of_ble_eq_true rfl⟩ tw_ml_X6_79 tw_im_X6_firstVan tw_se_X6_firstVan tw_co_X6_firstVan tw_in_X6 hy_X6_firstVan rfl rfl rfl rfl rfl (Nat.le_of_ble_eq_true rfl) rfl dX6_lay_77 [0] rfl (by decide) (fun _ => Nat.le_of_ble_eq_true rfl) ⟨Nat.le_of_ble_eq_true rfl, Nat.le_of_ble_eq_true rfl⟩ (fun v u hv => ?_)
      obtain ⟨r_10, rfl, h⟩ := hv
      refine gw_nf (ws' := (wfl [cM qa cI Mst Mhi Mhn Msl Msv Mpd Mln Mat Mit Mvf Mdn Mlf Mar Msa Msm Mso])) (lv' := [(2, .int r_9), (0, .ref (qa 0)), (1, .int v1)]) (st' := [.int r_10]) (pc' := 80) (ce' := 0) (sl' := 0) rfl rfl rfl rfl rfl rfl ?_
      refine gw_istore_n (pc' := 81) κ dX6_lay_80 rfl rfl (by decide) (lv' := [(3, .int r_10), (2, .int r_9), (0, .ref (qa 0)), (1, .int v1)]) rfl ?_
      refine gw_aload_n (pc' := 82) κ dX6_lay_81 rfl 2 rfl rfl ?_
      refine gb_get (pc' := 85) (C := RX6) (T := TX6) (N := 16) κ dX6_lay_82 rfl inX6 0 rfl rfl rfl 10 (by decide) tw_fl_X6_31 rfl ?_
      refine gw_iload_n (pc' := 86) κ dX6_lay_85 rfl 1 rfl rfl ?_
      refine gw_iconst (pc' := 87) (v := 1) κ dX6_lay_86 rfl (by decide) ?_
      obtain ⟨hb_11, h⟩ := h
      refine gb_iast (pc' := 88) (bs' := [cM qa cI Mst Mhi Mhn Msl Msv Mpd Mln Mat Mit Mvf (upd Mdn r_9.toNatClampNeg (1 : Int32)) Mlf Mar Msa Msm Mso]) κ dX6_lay_87 rfl 0 8 rfl rfl hb_11 rfl ?_
      refine gw_aload_n (pc' := 89) κ dX6_lay_88 rfl 2 rfl rfl ?_
      refine gb_get (pc' := 92) (C := RX6) (T := TX6) (N := 16) κ dX6_lay_89 rfl inX6 0 rfl rfl rfl 9 (by decide) tw_fl_X6_28 rfl ?_
      refine gw_iload_n (pc' := 93) κ dX6_lay_92 rfl 1 rfl rfl ?_
      refine gw_iload_n (pc' := 94) κ dX6_lay_93 rfl 0 rfl rfl ?_
      obtain ⟨hb_12, h⟩ := h
      refine gb_iast (pc' := 95) (bs' := [cM qa cI Mst Mhi Mhn Msl Msv Mpd Mln Mat Mit (upd Mvf r_9.toNatClampNeg r_10) (upd Mdn r_9.toNatClampNeg (1 : Int32)) Mlf Mar Msa Msm Mso]) κ dX6_lay_94 rfl 0 7 rfl rfl hb_12 rfl ?_
      refine gw_iload_n (pc' := 96) κ dX6_lay_95 rfl 0 rfl rfl ?_
      refine gw_bipush (pc' := 98) (v := -106) κ dX6_lay_96 rfl (by decide) ?_
      refine gw_icmp_eq (pc' := 101) (tgt := 133) κ dX6_lay_98 rfl (by decide) (fun hc_13 => ?_) (fun hc_13 => ?_)
      · have h := h.1 hc_13
        refine gw_iinc (pc' := 136) κ dX6_lay_133 rfl 3 rfl (v := (v1 + 1)) rfl (by decide) (lv' := [(1, .int (v1 + 1)), (3, .int r_10), (2, .int r_9), (0, .ref (qa 0))]) rfl ?_
        refine gw_goto (tgt := 59) κ dX6_lay_136 (by decide) ?_
        refine gw_lv (lv' := [(0, .ref (qa 0)), (1, .int (v1 + 1))]) [3, 0] rfl ?_
        exact ih59 (v1 + 1) (upd Mvf r_9.toNatClampNeg r_10) (upd Mdn r_9.toNatClampNeg (1 : Int32)) Mlf Mar h
      · have h := h.2 hc_13
        refine gw_aload_n (pc' := 102) κ dX6_lay_101 rfl 2 rfl rfl ?_
        refine gb_get (pc' := 105) (C := RX6) (T := TX6) (N := 16) κ dX6_lay_102 rfl inX6 0 rfl rfl rfl 11 (by decide) tw_fl_X6_34 rfl ?_
        refine gw_iload_n (pc' := 106) κ dX6_lay_105 rfl 0 rfl rfl ?_
        refine gw_dup2 (pc' := 107) κ dX6_lay_106 rfl rfl rfl ?_
        obtain ⟨hb_14, h⟩ := h
        refine gb_iald (pc' := 108) κ dX6_lay_107 rfl 0 9 rfl rfl hb_14 ?_
        refine gw_aload_n (pc' := 109) κ dX6_lay_108 rfl 2 rfl rfl ?_
        refine gw_iload_n (pc' := 110) κ dX6_lay_109 rfl 1 rfl rfl ?_
        refine gw_iconst (pc' := 111) (v := 3) κ dX6_lay_110 rfl (by decide) ?_
        refine gb_callV (ci := 6) (qb := 0) (rest := [.int (Mlf r_10.toNatClampNeg), .int r_10, .ref (qa 9)]) κ (c_X6_of qa Mst Mhi Mhn Msl Msv Mpd Mln Mat Mit (upd Mvf r_9.toNatClampNeg r_10) (upd Mdn r_9.toNatClampNeg (1 : Int32)) Mlf Mar Msa Msm Mso r_9 (3 : Int32) h) ⟨rfl, rfl, Nat.le_of_ble_eq_true rfl, Nat.le_of_ble_eq_true rfl⟩ tw_ml_X6_57 tw_im_X6_of tw_se_X6_of tw_co_X6_of tw_in_X6 hy_X6_of rfl rfl rfl rfl rfl (Nat.le_of_ble_eq_true rfl) rfl dX6_lay_111 [0] rfl (by decide) (fun _ => Nat.le_of_ble_eq_true rfl) ⟨Nat.le_of_ble_eq_true rfl, Nat.le_of_ble_eq_true rfl⟩ (fun v u hv => ?_)
        obtain ⟨r_15, rfl, h⟩ := hv
        refine gw_nf (ws' := (wfl [cM qa cI Mst Mhi Mhn Msl Msv Mpd Mln Mat Mit (upd Mvf r_9.toNatClampNeg r_10) (upd Mdn r_9.toNatClampNeg (1 : Int32)) Mlf Mar Msa Msm Mso])) (lv' := [(3, .int r_10), (2, .int r_9), (0, .ref (qa 0)), (1, .int v1)]) (st' := [.int r_15, .int (Mlf r_10.toNatClampNeg), .int r_10, .ref (qa 9)]) (pc' := 114) (ce' := 0) (sl' := 0) rfl rfl rfl rfl rfl rfl ?_
        refine gw_isub (pc' := 115) κ dX6_lay_114 rfl  ?_
        obtain ⟨hb_16, h⟩ := h
        refine gb_iast (pc' := 116) (bs' := [cM qa cI Mst Mhi Mhn Msl Msv Mpd Mln Mat Mit (upd Mvf r_9.toNatClampNeg r_10) (upd Mdn r_9.toNatClampNeg (1 : Int32)) (upd Mlf r_10.toNatClampNeg ((Mlf r_10.toNatClampNeg) - r_15)) Mar Msa Msm Mso]) κ dX6_lay_115 rfl 0 9 rfl rfl hb_16 rfl ?_
        refine gw_aload_n (pc' := 117) κ dX6_lay_116 rfl 2 rfl rfl ?_
        refine gb_get (pc' := 120) (C := RX6) (T := TX6) (N := 16) κ dX6_lay_117 rfl inX6 0 rfl rfl rfl 12 (by decide) tw_fl_X6_37 rfl ?_
        refine gw_iload_n (pc' := 121) κ dX6_lay_120 rfl 0 rfl rfl ?_
        refine gw_dup2 (pc' := 122) κ dX6_lay_121 rfl rfl rfl ?_
        obtain ⟨hb_17, h⟩ := h
        refine gb_iald (pc' := 123) κ dX6_lay_122 rfl 0 10 rfl rfl hb_17 ?_
        refine gw_iconst (pc' := 124) (v := 1) κ dX6_lay_123 rfl (by decide) ?_
        refine gw_aload_n (pc' := 125) κ dX6_lay_124 rfl 2 rfl rfl ?_
        refine gw_iload_n (pc' := 126) κ dX6_lay_125 rfl 1 rfl rfl ?_
        refine gw_iconst (pc' := 127) (v := 1) κ dX6_lay_126 rfl (by decide) ?_
        refine gb_callV (ci := 6) (qb := 0) (rest := [.int (1 : Int32), .int (Mar r_10.toNatClampNeg), .int r_10, .ref (qa 10)]) κ (c_X6_of qa Mst Mhi Mhn Msl Msv Mpd Mln Mat Mit (upd Mvf r_9.toNatClampNeg r_10) (upd Mdn r_9.toNatClampNeg (1 : Int32)) (upd Mlf r_10.toNatClampNeg ((Mlf r_10.toNatClampNeg) - r_15)) Mar Msa Msm Mso r_9 (1 : Int32) h) ⟨rfl, rfl, Nat.le_of_ble_eq_true rfl, Nat.le_of_ble_eq_true rfl⟩ tw_ml_X6_57 tw_im_X6_of tw_se_X6_of tw_co_X6_of tw_in_X6 hy_X6_of rfl rfl rfl rfl rfl (Nat.le_of_ble_eq_true rfl) rfl dX6_lay_127 [0] rfl (by decide) (fun _ => Nat.le_of_ble_eq_true rfl) ⟨Nat.le_of_ble_eq_true rfl, Nat.le_of_ble_eq_true rfl⟩ (fun v u hv => ?_)
        obtain ⟨r_18, rfl, h⟩ := hv
        refine gw_nf (ws' := (wfl [cM qa cI Mst Mhi Mhn Msl Msv Mpd Mln Mat Mit (upd Mvf r_9.toNatClampNeg r_10) (upd Mdn r_9.toNatClampNeg (1 : Int32)) (upd Mlf r_10.toNatClampNeg ((Mlf r_10.toNatClampNeg) - r_15)) Mar Msa Msm Mso])) (lv' := [(3, .int r_10), (2, .int r_9), (0, .ref (qa 0)), (1, .int v1)]) (st' := [.int r_18, .int (1 : Int32), .int (Mar r_10.toNatClampNeg), .int r_10, .ref (qa 10)]) (pc' := 130) (ce' := 0) (sl' := 0) rfl rfl rfl rfl rfl rfl ?_
        refine gw_ishl (pc' := 131) κ dX6_lay_130 rfl  ?_
        refine gw_ior (pc' := 132) κ dX6_lay_131 rfl  ?_
        obtain ⟨hb_19, h⟩ := h
        refine gb_iast (pc' := 133) (bs' := [cM qa cI Mst Mhi Mhn Msl Msv Mpd Mln Mat Mit (upd Mvf r_9.toNatClampNeg r_10) (upd Mdn r_9.toNatClampNeg (1 : Int32)) (upd Mlf r_10.toNatClampNeg ((Mlf r_10.toNatClampNeg) - r_15)) (upd Mar r_10.toNatClampNeg ((Mar r_10.toNatClampNeg) ||| ((1 : Int32) <<< (r_18 &&& 31)))) Msa Msm Mso]) κ dX6_lay_132 rfl 0 10 rfl rfl hb_19 rfl ?_
        refine gw_iinc (pc' := 136) κ dX6_lay_133 rfl 3 rfl (v := (v1 + 1)) rfl (by decide) (lv' := [(1, .int (v1 + 1)), (3, .int r_10), (2, .int r_9), (0, .ref (qa 0))]) rfl ?_
        refine gw_goto (tgt := 59) κ dX6_lay_136 (by decide) ?_
        refine gw_lv (lv' := [(0, .ref (qa 0)), (1, .int (v1 + 1))]) [3, 0] rfl ?_
        exact ih59 (v1 + 1) (upd Mvf r_9.toNatClampNeg r_10) (upd Mdn r_9.toNatClampNeg (1 : Int32)) (upd Mlf r_10.toNatClampNeg ((Mlf r_10.toNatClampNeg) - r_15)) (upd Mar r_10.toNatClampNeg ((Mar r_10.toNatClampNeg) ||| ((1 : Int32) <<< (r_18 &&& 31)))) h
set_option maxHeartbeats 4000000 in
set_option maxRecDepth 100000 in
theorem k_X6_lay_38 {zp : Program} {l : Launch} {ze : Env} {zs : State} {zm : MethodId} {za : Array Value} {zb : List Frame} {zt : Method} {zc : Code} {D : va_G} {cI cR : ClassId} {A : Nat → Prop} (κ : KC zp zs zm za zt zc cX6_lay 4 RX6 D cI cR A none) (qa : Nat → Nat) (P : (Nat → Int32) → (Nat → Int32) → (Nat → Int32) → (Nat → Int32) → Prop) (Mst : Nat → Int32) (Mhi : Nat → Int32) (Mhn : Int32) (Msl : Nat → Int32) (Msv : Nat → Int32) (Mpd : Nat → Int32) (Mln : Int32) (Mat : Int32) (Mit : Nat → Int32) (Msa : Nat → Int32) (Msm : Nat → Int32) (Mso : Int32) (Mvf : Nat → Int32) (Mlf : Nat → Int32) (Mar : Nat → Int32) : ∀ (n : Nat) (v1 : Int32) (Mdn : Nat → Int32), wp_X6_lay_38 P Mst Mvf Mlf Mar n v1 Mdn → GM zp l ze ({ frames := 4, cells := 0, slots := 0, locals := 90 } : Room) zs zm za zb zt zc D A 4 (pV (fun (u : (Nat → Int32) × (Nat → Int32) × (Nat → Int32) × (Nat → Int32)) => P u.1 u.2.1 u.2.2.1 u.2.2.2)) (fun u : (Nat → Int32) × (Nat → Int32) × (Nat → Int32) × (Nat → Int32) => (wfl [cM qa cI Mst Mhi Mhn Msl Msv Mpd Mln Mat Mit u.1 u.2.1 u.2.2.1 u.2.2.2 Msa Msm Mso])) 0 0 0 0 (wfl [cM qa cI Mst Mhi Mhn Msl Msv Mpd Mln Mat Mit Mvf Mdn Mlf Mar Msa Msm Mso]) [(0, .ref (qa 0)), (1, .int v1)] 38 [] := by
  intro n38
  induction n38 with
  | zero => intro v1 Mdn h; exact (show False from h).elim
  | succ n38 ih38 =>
    intro v1 Mdn h
    have h : wp_X6_lay_38F P Mst Mvf Mlf Mar (wp_X6_lay_38 P Mst Mvf Mlf Mar n38) v1 Mdn := h
    unfold wp_X6_lay_38F at h
    refine gw_iload_n (pc' := 39) κ dX6_lay_38 rfl 1 rfl rfl ?_
    refine gw_bipush (pc' := 41) (v := 24) κ dX6_lay_39 rfl (by decide) ?_
    refine gw_icmp_ge (pc' := 44) (tgt := 57) κ dX6_lay_41 rfl (by decide) (fun hc_5 => ?_) (fun hc_5 => ?_)
    · have h := h.1 hc_5
      refine gw_iconst (pc' := 58) (v := 0) κ dX6_lay_57 rfl (by decide) ?_
      refine gw_istore_n (pc' := 59) κ dX6_lay_58 rfl rfl (by decide) (lv' := [(1, .int (0 : Int32)), (0, .ref (qa 0))]) rfl ?_
      obtain ⟨m59, h⟩ := h
      refine gw_lv (lv' := [(0, .ref (qa 0)), (1, .int (0 : Int32))]) [1, 0] rfl ?_
      exact k_X6_lay_59 κ qa P Mst Mhi Mhn Msl Msv Mpd Mln Mat Mit Msa Msm Mso m59 (0 : Int32) Mvf Mdn Mlf Mar h
    · have h := h.2 hc_5
      refine gw_aload_n (pc' := 45) κ dX6_lay_44 rfl 0 rfl rfl ?_
      refine gb_get (pc' := 48) (C := RX6) (T := TX6) (N := 16) κ dX6_lay_45 rfl inX6 0 rfl rfl rfl 10 (by decide) tw_fl_X6_31 rfl ?_
      refine gw_iload_n (pc' := 49) κ dX6_lay_48 rfl 1 rfl rfl ?_
      refine gw_iconst (pc' := 50) (v := 0) κ dX6_lay_49 rfl (by decide) ?_
      obtain ⟨hb_6, h⟩ := h
      refine gb_iast (pc' := 51) (bs' := [cM qa cI Mst Mhi Mhn Msl Msv Mpd Mln Mat Mit Mvf (upd Mdn v1.toNatClampNeg (0 : Int32)) Mlf Mar Msa Msm Mso]) κ dX6_lay_50 rfl 0 8 rfl rfl hb_6 rfl ?_
      refine gw_iinc (pc' := 54) κ dX6_lay_51 rfl 1 rfl (v := (v1 + 1)) rfl (by decide) (lv' := [(1, .int (v1 + 1)), (0, .ref (qa 0))]) rfl ?_
      refine gw_goto (tgt := 38) κ dX6_lay_54 (by decide) ?_
      refine gw_lv (lv' := [(0, .ref (qa 0)), (1, .int (v1 + 1))]) [1, 0] rfl ?_
      exact ih38 (v1 + 1) (upd Mdn v1.toNatClampNeg (0 : Int32)) h
set_option maxHeartbeats 4000000 in
set_option maxRecDepth 100000 in
theorem k_X6_lay_2 {zp : Program} {l : Launch} {ze : Env} {zs : State} {zm : MethodId} {za : Array Value} {zb : List Frame} {zt : Method} {zc : Code} {D : va_G} {cI cR : ClassId} {A : Nat → Prop} (κ : KC zp zs zm za zt zc cX6_lay 4 RX6 D cI cR A none) (qa : Nat → Nat) (P : (Nat → Int32) → (Nat → Int32) → (Nat → Int32) → (Nat → Int32) → Prop) (Mst : Nat → Int32) (Mhi : Nat → Int32) (Mhn : Int32) (Msl : Nat → Int32) (Msv : Nat → Int32) (Mpd : Nat → Int32) (Mln : Int32) (Mat : Int32) (Mit : Nat → Int32) (Msa : Nat → Int32) (Msm : Nat → Int32) (Mso : Int32) (Mvf : Nat → Int32) (Mdn : Nat → Int32) : ∀ (n : Nat) (v1 : Int32) (Mlf : Nat → Int32) (Mar : Nat → Int32), wp_X6_lay_2 P Mst Mvf Mdn n v1 Mlf Mar → GM zp l ze ({ frames := 4, cells := 0, slots := 0, locals := 90 } : Room) zs zm za zb zt zc D A 4 (pV (fun (u : (Nat → Int32) × (Nat → Int32) × (Nat → Int32) × (Nat → Int32)) => P u.1 u.2.1 u.2.2.1 u.2.2.2)) (fun u : (Nat → Int32) × (Nat → Int32) × (Nat → Int32) × (Nat → Int32) => (wfl [cM qa cI Mst Mhi Mhn Msl Msv Mpd Mln Mat Mit u.1 u.2.1 u.2.2.1 u.2.2.2 Msa Msm Mso])) 0 0 0 0 (wfl [cM qa cI Mst Mhi Mhn Msl Msv Mpd Mln Mat Mit Mvf Mdn Mlf Mar Msa Msm Mso]) [(0, .ref (qa 0)), (1, .int v1)] 2 [] := by
  intro n2
  induction n2 with
  | zero => intro v1 Mlf Mar h; exact (show False from h).elim
  | succ n2 ih2 =>
    intro v1 Mlf Mar h
    have h : wp_X6_lay_2F P Mst Mvf Mdn (wp_X6_lay_2 P Mst Mvf Mdn n2) v1 Mlf Mar := h
    unfold wp_X6_lay_2F at h
    refine gw_iload_n (pc' := 3) κ dX6_lay_2 rfl 1 rfl rfl ?_
    refine gw_bipush (pc' := 5) (v := 8) κ dX6_lay_3 rfl (by decide) ?_
    refine gw_icmp_ge (pc' := 8) (tgt := 36) κ dX6_lay_5 rfl (by decide) (fun hc_1 => ?_) (fun hc_1 => ?_)
    · have h := h.1 hc_1
      refine gw_iconst (pc' := 37) (v := 0) κ dX6_lay_36 rfl (by decide) ?_
      refine gw_istore_n (pc' := 38) κ dX6_lay_37 rfl rfl (by decide) (lv' := [(1, .int (0 : Int32)), (0, .ref (qa 0))]) rfl ?_
      obtain ⟨m38, h⟩ := h
      refine gw_lv (lv' := [(0, .ref (qa 0)), (1, .int (0 : Int32))]) [1, 0] rfl ?_
      exact k_X6_lay_38 κ qa P Mst Mhi Mhn Msl Msv Mpd Mln Mat Mit Msa Msm Mso Mvf Mlf Mar m38 (0 : Int32) Mdn h
    · have h := h.2 hc_1
      refine gw_aload_n (pc' := 9) κ dX6_lay_8 rfl 0 rfl rfl ?_
      refine gb_get (pc' := 12) (C := RX6) (T := TX6) (N := 16) κ dX6_lay_9 rfl inX6 0 rfl rfl rfl 11 (by decide) tw_fl_X6_34 rfl ?_
      refine gw_iload_n (pc' := 13) κ dX6_lay_12 rfl 1 rfl rfl ?_
      refine gw_aload_n (pc' := 14) κ dX6_lay_13 rfl 0 rfl rfl ?_
      refine gb_get (pc' := 17) (C := RX6) (T := TX6) (N := 16) κ dX6_lay_14 rfl inX6 0 rfl rfl rfl 0 (by decide) tw_fl_X6_7 rfl ?_
      refine gw_bipush (pc' := 19) (v := 25) κ dX6_lay_17 rfl (by decide) ?_
      refine gw_iload_n (pc' := 20) κ dX6_lay_19 rfl 1 rfl rfl ?_
      refine gw_iadd (pc' := 21) κ dX6_lay_20 rfl  ?_
      obtain ⟨hb_2, h⟩ := h
      refine gb_iald (pc' := 22) κ dX6_lay_21 rfl 0 1 rfl rfl hb_2 ?_
      obtain ⟨hb_3, h⟩ := h
      refine gb_iast (pc' := 23) (bs' := [cM qa cI Mst Mhi Mhn Msl Msv Mpd Mln Mat Mit Mvf Mdn (upd Mlf v1.toNatClampNeg (Mst ((25 : Int32) + v1).toNatClampNeg)) Mar Msa Msm Mso]) κ dX6_lay_22 rfl 0 9 rfl rfl hb_3 rfl ?_
      refine gw_aload_n (pc' := 24) κ dX6_lay_23 rfl 0 rfl rfl ?_
      refine gb_get (pc' := 27) (C := RX6) (T := TX6) (N := 16) κ dX6_lay_24 rfl inX6 0 rfl rfl rfl 12 (by decide) tw_fl_X6_37 rfl ?_
      refine gw_iload_n (pc' := 28) κ dX6_lay_27 rfl 1 rfl rfl ?_
      refine gw_iconst (pc' := 29) (v := 0) κ dX6_lay_28 rfl (by decide) ?_
      obtain ⟨hb_4, h⟩ := h
      refine gb_iast (pc' := 30) (bs' := [cM qa cI Mst Mhi Mhn Msl Msv Mpd Mln Mat Mit Mvf Mdn (upd Mlf v1.toNatClampNeg (Mst ((25 : Int32) + v1).toNatClampNeg)) (upd Mar v1.toNatClampNeg (0 : Int32)) Msa Msm Mso]) κ dX6_lay_29 rfl 0 10 rfl rfl hb_4 rfl ?_
      refine gw_iinc (pc' := 33) κ dX6_lay_30 rfl 1 rfl (v := (v1 + 1)) rfl (by decide) (lv' := [(1, .int (v1 + 1)), (0, .ref (qa 0))]) rfl ?_
      refine gw_goto (tgt := 2) κ dX6_lay_33 (by decide) ?_
      refine gw_lv (lv' := [(0, .ref (qa 0)), (1, .int (v1 + 1))]) [1, 0] rfl ?_
      exact ih2 (v1 + 1) (upd Mlf v1.toNatClampNeg (Mst ((25 : Int32) + v1).toNatClampNeg)) (upd Mar v1.toNatClampNeg (0 : Int32)) h
set_option maxHeartbeats 4000000 in
set_option maxRecDepth 100000 in
theorem c_X6_lay {l : Launch} {D : va_G} {cI cR : ClassId}  (qa : Nat → Nat) {P : (Nat → Int32) → (Nat → Int32) → (Nat → Int32) → (Nat → Int32) → Prop} (Mst : Nat → Int32) (Mhi : Nat → Int32) (Mhn : Int32) (Msl : Nat → Int32) (Msv : Nat → Int32) (Mpd : Nat → Int32) (Mln : Int32) (Mat : Int32) (Mit : Nat → Int32) (Mvf : Nat → Int32) (Mdn : Nat → Int32) (Mlf : Nat → Int32) (Mar : Nat → Int32) (Msa : Nat → Int32) (Msm : Nat → Int32) (Mso : Int32) (h : wp_X6_lay P Mst Mvf Mdn Mlf Mar) : CT l D cI cR yX6_lay cX6_lay 4 none ({ frames := 4, cells := 0, slots := 0, locals := 90 } : Room) [.ref (qa 0)] (wfl [cM qa cI Mst Mhi Mhn Msl Msv Mpd Mln Mat Mit Mvf Mdn Mlf Mar Msa Msm Mso]) (fun u : (Nat → Int32) × (Nat → Int32) × (Nat → Int32) × (Nat → Int32) => (wfl [cM qa cI Mst Mhi Mhn Msl Msv Mpd Mln Mat Mit u.1 u.2.1 u.2.2.1 u.2.2.2 Msa Msm Mso])) (pV (fun (u : (Nat → Int32) × (Nat → Int32) × (Nat → Int32) × (Nat → Int32)) => P u.1 u.2.1 u.2.2.1 u.2.2.2)) 0 0 := by
  refine ct_of RX6 rfl (by decide +kernel) (Nat.le_of_ble_eq_true rfl) (fun zp ze zs zm zb zt zc A hin κ => ?_)
  unfold wp_X6_lay at h
  refine gw_nf (lv' := [(0, .ref (qa 0))]) (pc' := 0) (st' := []) (ce' := 0) (sl' := 0) rfl rfl rfl rfl rfl rfl ?_
  refine gw_iconst (pc' := 1) (v := 0) κ dX6_lay_0 rfl (by decide) ?_
  refine gw_istore_n (pc' := 2) κ dX6_lay_1 rfl rfl (by decide) (lv' := [(1, .int (0 : Int32)), (0, .ref (qa 0))]) rfl ?_
  obtain ⟨m2, h⟩ := h
  refine gw_lv (lv' := [(0, .ref (qa 0)), (1, .int (0 : Int32))]) [1, 0] rfl ?_
  exact k_X6_lay_2 κ qa P Mst Mhi Mhn Msl Msv Mpd Mln Mat Mit Msa Msm Mso Mvf Mdn m2 (0 : Int32) Mlf Mar h
theorem hy_X6_keyOf : g_hy yX6_keyOf 1 := by decide +kernel
set_option maxHeartbeats 4000000 in
set_option maxRecDepth 100000 in
theorem c_X6_keyOf {l : Launch} {D : va_G} {cI cR : ClassId}  (qa : Nat → Nat) {P : Int32 → Prop} (Mst : Nat → Int32) (Mhi : Nat → Int32) (Mhn : Int32) (Msl : Nat → Int32) (Msv : Nat → Int32) (Mpd : Nat → Int32) (Mln : Int32) (Mat : Int32) (Mit : Nat → Int32) (Mvf : Nat → Int32) (Mdn : Nat → Int32) (Mlf : Nat → Int32) (Mar : Nat → Int32) (Msa : Nat → Int32) (Msm : Nat → Int32) (Mso : Int32) (x1 : Int32) (h : wp_X6_keyOf P Mst x1) : CT l D cI cR yX6_keyOf cX6_keyOf 2 (some .int) ({ frames := 1, cells := 0, slots := 0, locals := 22 } : Room) [.ref (qa 0), .int x1] (wfl [cM qa cI Mst Mhi Mhn Msl Msv Mpd Mln Mat Mit Mvf Mdn Mlf Mar Msa Msm Mso]) (fun _ : Unit => (wfl [cM qa cI Mst Mhi Mhn Msl Msv Mpd Mln Mat Mit Mvf Mdn Mlf Mar Msa Msm Mso])) (pI (fun (r : Int32) (_ : Unit) => P r)) 0 0 := by
  refine ct_of RX6 rfl (by decide +kernel) (Nat.le_of_ble_eq_true rfl) (fun zp ze zs zm zb zt zc A hin κ => ?_)
  unfold wp_X6_keyOf at h
  refine gw_nf (lv' := [(0, .ref (qa 0)), (1, .int x1)]) (pc' := 0) (st' := []) (ce' := 0) (sl' := 0) rfl rfl rfl rfl rfl rfl ?_
  refine gw_bipush (pc' := 2) (v := 100) κ dX6_keyOf_0 rfl (by decide) ?_
  refine gw_aload_n (pc' := 3) κ dX6_keyOf_2 rfl 0 rfl rfl ?_
  refine gw_iload_n (pc' := 4) κ dX6_keyOf_3 rfl 1 rfl rfl ?_
  refine gw_iconst (pc' := 5) (v := 1) κ dX6_keyOf_4 rfl (by decide) ?_
  refine gb_callV (ci := 6) (qb := 0) (rest := [.int (100 : Int32)]) κ (c_X6_of qa Mst Mhi Mhn Msl Msv Mpd Mln Mat Mit Mvf Mdn Mlf Mar Msa Msm Mso x1 (1 : Int32) h) ⟨rfl, rfl, Nat.le_of_ble_eq_true rfl, Nat.le_of_ble_eq_true rfl⟩ tw_ml_X6_57 tw_im_X6_of tw_se_X6_of tw_co_X6_of tw_in_X6 hy_X6_of rfl rfl rfl rfl rfl (Nat.le_of_ble_eq_true rfl) rfl dX6_keyOf_5 [0] rfl (by decide) (fun _ => Nat.le_of_ble_eq_true rfl) ⟨Nat.le_of_ble_eq_true rfl, Nat.le_of_ble_eq_true rfl⟩ (fun v u hv => ?_)
  obtain ⟨r_1, rfl, h⟩ := hv
  refine gw_nf (ws' := (wfl [cM qa cI Mst Mhi Mhn Msl Msv Mpd Mln Mat Mit Mvf Mdn Mlf Mar Msa Msm Mso])) (lv' := [(0, .ref (qa 0)), (1, .int x1)]) (st' := [.int r_1, .int (100 : Int32)]) (pc' := 8) (ce' := 0) (sl' := 0) rfl rfl rfl rfl rfl rfl ?_
  refine gw_imul (pc' := 9) κ dX6_keyOf_8 rfl  ?_
  refine gw_aload_n (pc' := 10) κ dX6_keyOf_9 rfl 0 rfl rfl ?_
  refine gw_iload_n (pc' := 11) κ dX6_keyOf_10 rfl 1 rfl rfl ?_
  refine gw_iconst (pc' := 12) (v := 2) κ dX6_keyOf_11 rfl (by decide) ?_
  refine gb_callV (ci := 6) (qb := 0) (rest := [.int ((100 : Int32) * r_1)]) κ (c_X6_of qa Mst Mhi Mhn Msl Msv Mpd Mln Mat Mit Mvf Mdn Mlf Mar Msa Msm Mso x1 (2 : Int32) h) ⟨rfl, rfl, Nat.le_of_ble_eq_true rfl, Nat.le_of_ble_eq_true rfl⟩ tw_ml_X6_57 tw_im_X6_of tw_se_X6_of tw_co_X6_of tw_in_X6 hy_X6_of rfl rfl rfl rfl rfl (Nat.le_of_ble_eq_true rfl) rfl dX6_keyOf_12 [0] rfl (by decide) (fun _ => Nat.le_of_ble_eq_true rfl) ⟨Nat.le_of_ble_eq_true rfl, Nat.le_of_ble_eq_true rfl⟩ (fun v u hv => ?_)
  obtain ⟨r_2, rfl, h⟩ := hv
  refine gw_nf (ws' := (wfl [cM qa cI Mst Mhi Mhn Msl Msv Mpd Mln Mat Mit Mvf Mdn Mlf Mar Msa Msm Mso])) (lv' := [(0, .ref (qa 0)), (1, .int x1)]) (st' := [.int r_2, .int ((100 : Int32) * r_1)]) (pc' := 15) (ce' := 0) (sl' := 0) rfl rfl rfl rfl rfl rfl ?_
  refine gw_iadd (pc' := 16) κ dX6_keyOf_15 rfl  ?_
  exact gw_iret κ dX6_keyOf_16 () rfl ⟨_, rfl, h⟩
