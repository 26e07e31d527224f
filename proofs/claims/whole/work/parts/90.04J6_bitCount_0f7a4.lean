theorem hy_J6_bitCount_0f7a4 : g_hy yJ6_bitCount_0f7a4 1 := by decide +kernel
set_option maxHeartbeats 4000000 in
set_option maxRecDepth 100000 in
theorem c_J6_bitCount_0f7a4 {l : Launch} {D : va_G} {cI cR : ClassId}  {P : Int32 → Prop} (x0 : Int32) (h : wp_J6_bitCount_0f7a4 P x0) : CT l D cI cR yJ6_bitCount_0f7a4 cJ6_bitCount_0f7a4 1 (some .int) ({ frames := 0, cells := 0, slots := 0, locals := 0 } : Room) [.int x0] (fl ([] : List va_W)) (fun _ : Unit => (fl ([] : List va_W))) (pI (fun (r : Int32) (_ : Unit) => P r)) 0 0 := by
  refine ct_of RJ6 rfl (by decide +kernel) (Nat.le_of_ble_eq_true rfl) (fun zp ze zs zm zb zt zc A hin κ => ?_)
  unfold wp_J6_bitCount_0f7a4 at h
  refine gw_nf (lv' := [(0, .int x0)]) (pc' := 0) (st' := []) (ce' := 0) (sl' := 0) rfl rfl rfl rfl rfl rfl ?_
  refine gw_iload_n (pc' := 1) κ dJ6_bitCount_0f7a4_0 rfl 0 rfl rfl ?_
  refine gw_iload_n (pc' := 2) κ dJ6_bitCount_0f7a4_1 rfl 0 rfl rfl ?_
  refine gw_iconst (pc' := 3) (v := 1) κ dJ6_bitCount_0f7a4_2 rfl (by decide) ?_
  refine gw_iushr (pc' := 4) κ dJ6_bitCount_0f7a4_3 rfl  ?_
  refine gw_ldcw (pc' := 7) κ dJ6_bitCount_0f7a4_4 rfl tw_ct_J6_265 ?_
  refine gw_iand (pc' := 8) κ dJ6_bitCount_0f7a4_7 rfl  ?_
  refine gw_isub (pc' := 9) κ dJ6_bitCount_0f7a4_8 rfl  ?_
  refine gw_top (fun y_1 hy_1 => ?_)
  have h := h y_1 hy_1
  refine gw_istore_n (pc' := 10) κ dJ6_bitCount_0f7a4_9 rfl rfl (by decide) (lv' := [(0, .int y_1)]) rfl ?_
  refine gw_iload_n (pc' := 11) κ dJ6_bitCount_0f7a4_10 rfl 0 rfl rfl ?_
  refine gw_ldcw (pc' := 14) κ dJ6_bitCount_0f7a4_11 rfl tw_ct_J6_266 ?_
  refine gw_iand (pc' := 15) κ dJ6_bitCount_0f7a4_14 rfl  ?_
  refine gw_iload_n (pc' := 16) κ dJ6_bitCount_0f7a4_15 rfl 0 rfl rfl ?_
  refine gw_iconst (pc' := 17) (v := 2) κ dJ6_bitCount_0f7a4_16 rfl (by decide) ?_
  refine gw_iushr (pc' := 18) κ dJ6_bitCount_0f7a4_17 rfl  ?_
  refine gw_ldcw (pc' := 21) κ dJ6_bitCount_0f7a4_18 rfl tw_ct_J6_266 ?_
  refine gw_iand (pc' := 22) κ dJ6_bitCount_0f7a4_21 rfl  ?_
  refine gw_iadd (pc' := 23) κ dJ6_bitCount_0f7a4_22 rfl  ?_
  refine gw_top (fun y_2 hy_2 => ?_)
  have h := h y_2 hy_2
  refine gw_istore_n (pc' := 24) κ dJ6_bitCount_0f7a4_23 rfl rfl (by decide) (lv' := [(0, .int y_2)]) rfl ?_
  refine gw_iload_n (pc' := 25) κ dJ6_bitCount_0f7a4_24 rfl 0 rfl rfl ?_
  refine gw_iload_n (pc' := 26) κ dJ6_bitCount_0f7a4_25 rfl 0 rfl rfl ?_
  refine gw_iconst (pc' := 27) (v := 4) κ dJ6_bitCount_0f7a4_26 rfl (by decide) ?_
  refine gw_iushr (pc' := 28) κ dJ6_bitCount_0f7a4_27 rfl  ?_
  refine gw_iadd (pc' := 29) κ dJ6_bitCount_0f7a4_28 rfl  ?_
  refine gw_ldcw (pc' := 32) κ dJ6_bitCount_0f7a4_29 rfl tw_ct_J6_267 ?_
  refine gw_iand (pc' := 33) κ dJ6_bitCount_0f7a4_32 rfl  ?_
  refine gw_top (fun y_3 hy_3 => ?_)
  have h := h y_3 hy_3
  refine gw_istore_n (pc' := 34) κ dJ6_bitCount_0f7a4_33 rfl rfl (by decide) (lv' := [(0, .int y_3)]) rfl ?_
  refine gw_iload_n (pc' := 35) κ dJ6_bitCount_0f7a4_34 rfl 0 rfl rfl ?_
  refine gw_iload_n (pc' := 36) κ dJ6_bitCount_0f7a4_35 rfl 0 rfl rfl ?_
  refine gw_bipush (pc' := 38) (v := 8) κ dJ6_bitCount_0f7a4_36 rfl (by decide) ?_
  refine gw_iushr (pc' := 39) κ dJ6_bitCount_0f7a4_38 rfl  ?_
  refine gw_iadd (pc' := 40) κ dJ6_bitCount_0f7a4_39 rfl  ?_
  refine gw_top (fun y_4 hy_4 => ?_)
  have h := h y_4 hy_4
  refine gw_istore_n (pc' := 41) κ dJ6_bitCount_0f7a4_40 rfl rfl (by decide) (lv' := [(0, .int y_4)]) rfl ?_
  refine gw_iload_n (pc' := 42) κ dJ6_bitCount_0f7a4_41 rfl 0 rfl rfl ?_
  refine gw_iload_n (pc' := 43) κ dJ6_bitCount_0f7a4_42 rfl 0 rfl rfl ?_
  refine gw_bipush (pc' := 45) (v := 16) κ dJ6_bitCount_0f7a4_43 rfl (by decide) ?_
  refine gw_iushr (pc' := 46) κ dJ6_bitCount_0f7a4_45 rfl  ?_
  refine gw_iadd (pc' := 47) κ dJ6_bitCount_0f7a4_46 rfl  ?_
  refine gw_top (fun y_5 hy_5 => ?_)
  have h := h y_5 hy_5
  refine gw_istore_n (pc' := 48) κ dJ6_bitCount_0f7a4_47 rfl rfl (by decide) (lv' := [(0, .int y_5)]) rfl ?_
  refine gw_iload_n (pc' := 49) κ dJ6_bitCount_0f7a4_48 rfl 0 rfl rfl ?_
  refine gw_bipush (pc' := 51) (v := 63) κ dJ6_bitCount_0f7a4_49 rfl (by decide) ?_
  refine gw_iand (pc' := 52) κ dJ6_bitCount_0f7a4_51 rfl  ?_
  exact gw_iret κ dJ6_bitCount_0f7a4_52 () rfl ⟨_, rfl, h⟩
