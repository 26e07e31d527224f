theorem hy_L_stopsAhead : g_hy yL_stopsAhead 5 := by decide +kernel
set_option maxHeartbeats 4000000 in
set_option maxRecDepth 100000 in
theorem k_L_stopsAhead_56 {zp : Program} {l : Launch} {ze : Env} {zs : State} {zm : MethodId} {za : Array Value} {zb : List Frame} {zt : Method} {zc : Code} {D : va_G} {cI cR : ClassId} {A : Nat → Prop} (κ : KC zp zs zm za zt zc cL_stopsAhead 10 RL D cI cR A (some .int)) (jq : Nat → Nat) (jr : Nat → Nat) (jw : Nat → Nat) (P : Int32 → Prop) (lq : Nat → Int32) (lr : Nat → Int32) (lw : Nat → Int32) (x0 : Int32) (x1 : Int32) (r6 : Int32 → Int32 → Prop) (v5 : Int32) (v6 : Int32) (v7 : Int32) (hr6 : ∀ (v5 : Int32) (v6 : Int32), r6 v5 v6 → GM zp l ze ({ frames := 2, cells := 0, slots := 0, locals := 40 } : Room) zs zm za zb zt zc D A 10 (pI (fun (r : Int32) (_ : Unit) => P r)) (fun _ : Unit => (wfl [cA34 jq cI lq, cA24 jr cI lr, cA24 jw cI lw])) 0 0 0 0 (wfl [cA34 jq cI lq, cA24 jr cI lr, cA24 jw cI lw]) [(0, .int x0), (1, .int x1), (2, .ref (jq 0)), (3, .ref (jr 0)), (4, .ref (jw 0)), (5, .int v5), (6, .int v6)] 6 []) : ∀ (n : Nat) (v8 : Int32) (v9 : Int32), wp_L_stopsAhead_56 P lq lr lw x0 x1 r6 v5 v6 v7 n v8 v9 → GM zp l ze ({ frames := 2, cells := 0, slots := 0, locals := 40 } : Room) zs zm za zb zt zc D A 10 (pI (fun (r : Int32) (_ : Unit) => P r)) (fun _ : Unit => (wfl [cA34 jq cI lq, cA24 jr cI lr, cA24 jw cI lw])) 0 0 0 0 (wfl [cA34 jq cI lq, cA24 jr cI lr, cA24 jw cI lw]) [(0, .int x0), (1, .int x1), (2, .ref (jq 0)), (3, .ref (jr 0)), (4, .ref (jw 0)), (5, .int v5), (6, .int v6), (7, .int v7), (8, .int v8), (9, .int v9)] 56 [] := by
  intro n56
  induction n56 with
  | zero => intro v8 v9 h; exact (show False from h).elim
  | succ n56 ih56 =>
    intro v8 v9 h
    have h : wp_L_stopsAhead_56F P lq lr lw x0 x1 r6 v5 v6 v7 (wp_L_stopsAhead_56 P lq lr lw x0 x1 r6 v5 v6 v7 n56) v8 v9 := h
    unfold wp_L_stopsAhead_56F at h
    refine gw_iload (pc' := 58) κ dL_stopsAhead_56 rfl 9 rfl ?_
    refine gw_iload (pc' := 60) κ dL_stopsAhead_58 rfl 6 rfl ?_
    refine gw_icmp_ge (pc' := 63) (tgt := 105) κ dL_stopsAhead_60 rfl (by decide) (fun hc_10 => ?_) (fun hc_10 => ?_)
    · have h := h.1 hc_10
      refine gw_iload (pc' := 107) κ dL_stopsAhead_105 rfl 5 rfl ?_
      refine gw_iload (pc' := 109) κ dL_stopsAhead_107 rfl 8 rfl ?_
      refine gw_if_eq (pc' := 112) (tgt := 116) κ dL_stopsAhead_109 rfl (by decide) (fun hc_11 => ?_) (fun hc_11 => ?_)
      · have h := h.1 hc_11
        refine gw_iconst (pc' := 117) (v := 0) κ dL_stopsAhead_116 rfl (by decide) ?_
        refine gw_iadd (pc' := 118) κ dL_stopsAhead_117 rfl  ?_
        refine gw_istore (pc' := 120) κ dL_stopsAhead_118 rfl (by decide) (lv' := [(5, .int (v5 + (0 : Int32))), (0, .int x0), (1, .int x1), (2, .ref (jq 0)), (3, .ref (jr 0)), (4, .ref (jw 0)), (6, .int v6), (7, .int v7), (8, .int v8), (9, .int v9)]) rfl ?_
        refine gw_iinc (pc' := 123) κ dL_stopsAhead_120 rfl 6 rfl (v := (v6 + 1)) rfl (by decide) (lv' := [(6, .int (v6 + 1)), (5, .int (v5 + (0 : Int32))), (0, .int x0), (1, .int x1), (2, .ref (jq 0)), (3, .ref (jr 0)), (4, .ref (jw 0)), (7, .int v7), (8, .int v8), (9, .int v9)]) rfl ?_
        refine gw_goto (tgt := 6) κ dL_stopsAhead_123 (by decide) ?_
        refine gw_lv (lv' := [(0, .int x0), (1, .int x1), (2, .ref (jq 0)), (3, .ref (jr 0)), (4, .ref (jw 0)), (5, .int (v5 + (0 : Int32))), (6, .int (v6 + 1))]) [2, 3, 4, 5, 6, 1, 0] rfl ?_
        exact hr6 (v5 + (0 : Int32)) (v6 + 1) h
      · have h := h.2 hc_11
        refine gw_iconst (pc' := 113) (v := 1) κ dL_stopsAhead_112 rfl (by decide) ?_
        refine gw_goto (tgt := 117) κ dL_stopsAhead_113 (by decide) ?_
        refine gw_iadd (pc' := 118) κ dL_stopsAhead_117 rfl  ?_
        refine gw_istore (pc' := 120) κ dL_stopsAhead_118 rfl (by decide) (lv' := [(5, .int (v5 + (1 : Int32))), (0, .int x0), (1, .int x1), (2, .ref (jq 0)), (3, .ref (jr 0)), (4, .ref (jw 0)), (6, .int v6), (7, .int v7), (8, .int v8), (9, .int v9)]) rfl ?_
        refine gw_iinc (pc' := 123) κ dL_stopsAhead_120 rfl 6 rfl (v := (v6 + 1)) rfl (by decide) (lv' := [(6, .int (v6 + 1)), (5, .int (v5 + (1 : Int32))), (0, .int x0), (1, .int x1), (2, .ref (jq 0)), (3, .ref (jr 0)), (4, .ref (jw 0)), (7, .int v7), (8, .int v8), (9, .int v9)]) rfl ?_
        refine gw_goto (tgt := 6) κ dL_stopsAhead_123 (by decide) ?_
        refine gw_lv (lv' := [(0, .int x0), (1, .int x1), (2, .ref (jq 0)), (3, .ref (jr 0)), (4, .ref (jw 0)), (5, .int (v5 + (1 : Int32))), (6, .int (v6 + 1))]) [2, 3, 4, 5, 6, 1, 0] rfl ?_
        exact hr6 (v5 + (1 : Int32)) (v6 + 1) h
    · have h := h.2 hc_10
      refine gw_iload (pc' := 65) κ dL_stopsAhead_63 rfl 8 rfl ?_
      refine gw_if_eq (pc' := 68) (tgt := 96) κ dL_stopsAhead_65 rfl (by decide) (fun hc_12 => ?_) (fun hc_12 => ?_)
      · have h := h.1 hc_12
        refine gw_iconst (pc' := 97) (v := 0) κ dL_stopsAhead_96 rfl (by decide) ?_
        refine gw_istore (pc' := 99) κ dL_stopsAhead_97 rfl (by decide) (lv' := [(8, .int (0 : Int32)), (0, .int x0), (1, .int x1), (2, .ref (jq 0)), (3, .ref (jr 0)), (4, .ref (jw 0)), (5, .int v5), (6, .int v6), (7, .int v7), (9, .int v9)]) rfl ?_
        refine gw_iinc (pc' := 102) κ dL_stopsAhead_99 rfl 9 rfl (v := (v9 + 1)) rfl (by decide) (lv' := [(9, .int (v9 + 1)), (8, .int (0 : Int32)), (0, .int x0), (1, .int x1), (2, .ref (jq 0)), (3, .ref (jr 0)), (4, .ref (jw 0)), (5, .int v5), (6, .int v6), (7, .int v7)]) rfl ?_
        refine gw_goto (tgt := 56) κ dL_stopsAhead_102 (by decide) ?_
        refine gw_lv (lv' := [(0, .int x0), (1, .int x1), (2, .ref (jq 0)), (3, .ref (jr 0)), (4, .ref (jw 0)), (5, .int v5), (6, .int v6), (7, .int v7), (8, .int (0 : Int32)), (9, .int (v9 + 1))]) [2, 3, 4, 5, 6, 7, 8, 9, 1, 0] rfl ?_
        exact ih56 (0 : Int32) (v9 + 1) h
      · have h := h.2 hc_12
        refine gw_aload (pc' := 70) κ dL_stopsAhead_68 rfl 4 rfl ?_
        refine gw_iload (pc' := 72) κ dL_stopsAhead_70 rfl 9 rfl ?_
        obtain ⟨hb_13, h⟩ := h
        refine gb_iald (pc' := 73) κ dL_stopsAhead_72 rfl 2 0 rfl rfl hb_13 ?_
        refine gw_iload_n (pc' := 74) κ dL_stopsAhead_73 rfl 0 rfl rfl ?_
        refine gw_icmp_ne (pc' := 77) (tgt := 92) κ dL_stopsAhead_74 rfl (by decide) (fun hc_14 => ?_) (fun hc_14 => ?_)
        · have h := h.1 hc_14
          refine gw_iconst (pc' := 93) (v := 1) κ dL_stopsAhead_92 rfl (by decide) ?_
          refine gw_goto (tgt := 97) κ dL_stopsAhead_93 (by decide) ?_
          refine gw_istore (pc' := 99) κ dL_stopsAhead_97 rfl (by decide) (lv' := [(8, .int (1 : Int32)), (0, .int x0), (1, .int x1), (2, .ref (jq 0)), (3, .ref (jr 0)), (4, .ref (jw 0)), (5, .int v5), (6, .int v6), (7, .int v7), (9, .int v9)]) rfl ?_
          refine gw_iinc (pc' := 102) κ dL_stopsAhead_99 rfl 9 rfl (v := (v9 + 1)) rfl (by decide) (lv' := [(9, .int (v9 + 1)), (8, .int (1 : Int32)), (0, .int x0), (1, .int x1), (2, .ref (jq 0)), (3, .ref (jr 0)), (4, .ref (jw 0)), (5, .int v5), (6, .int v6), (7, .int v7)]) rfl ?_
          refine gw_goto (tgt := 56) κ dL_stopsAhead_102 (by decide) ?_
          refine gw_lv (lv' := [(0, .int x0), (1, .int x1), (2, .ref (jq 0)), (3, .ref (jr 0)), (4, .ref (jw 0)), (5, .int v5), (6, .int v6), (7, .int v7), (8, .int (1 : Int32)), (9, .int (v9 + 1))]) [2, 3, 4, 5, 6, 7, 8, 9, 1, 0] rfl ?_
          exact ih56 (1 : Int32) (v9 + 1) h
        · have h := h.2 hc_14
          refine gw_aload_n (pc' := 78) κ dL_stopsAhead_77 rfl 3 rfl rfl ?_
          refine gw_iload (pc' := 80) κ dL_stopsAhead_78 rfl 9 rfl ?_
          obtain ⟨hb_15, h⟩ := h
          refine gb_iald (pc' := 81) κ dL_stopsAhead_80 rfl 1 0 rfl rfl hb_15 ?_
          refine gw_iconst (pc' := 82) (v := 3) κ dL_stopsAhead_81 rfl (by decide) ?_
          refine gw_ishr (pc' := 83) κ dL_stopsAhead_82 rfl  ?_
          refine gw_sipush (pc' := 86) (v := 1023) κ dL_stopsAhead_83 rfl (by decide) ?_
          refine gw_iand (pc' := 87) κ dL_stopsAhead_86 rfl  ?_
          refine gw_iload (pc' := 89) κ dL_stopsAhead_87 rfl 7 rfl ?_
          refine gw_icmp_eq (pc' := 92) (tgt := 96) κ dL_stopsAhead_89 rfl (by decide) (fun hc_16 => ?_) (fun hc_16 => ?_)
          · have h := h.1 hc_16
            refine gw_iconst (pc' := 97) (v := 0) κ dL_stopsAhead_96 rfl (by decide) ?_
            refine gw_istore (pc' := 99) κ dL_stopsAhead_97 rfl (by decide) (lv' := [(8, .int (0 : Int32)), (0, .int x0), (1, .int x1), (2, .ref (jq 0)), (3, .ref (jr 0)), (4, .ref (jw 0)), (5, .int v5), (6, .int v6), (7, .int v7), (9, .int v9)]) rfl ?_
            refine gw_iinc (pc' := 102) κ dL_stopsAhead_99 rfl 9 rfl (v := (v9 + 1)) rfl (by decide) (lv' := [(9, .int (v9 + 1)), (8, .int (0 : Int32)), (0, .int x0), (1, .int x1), (2, .ref (jq 0)), (3, .ref (jr 0)), (4, .ref (jw 0)), (5, .int v5), (6, .int v6), (7, .int v7)]) rfl ?_
            refine gw_goto (tgt := 56) κ dL_stopsAhead_102 (by decide) ?_
            refine gw_lv (lv' := [(0, .int x0), (1, .int x1), (2, .ref (jq 0)), (3, .ref (jr 0)), (4, .ref (jw 0)), (5, .int v5), (6, .int v6), (7, .int v7), (8, .int (0 : Int32)), (9, .int (v9 + 1))]) [2, 3, 4, 5, 6, 7, 8, 9, 1, 0] rfl ?_
            exact ih56 (0 : Int32) (v9 + 1) h
          · have h := h.2 hc_16
            refine gw_iconst (pc' := 93) (v := 1) κ dL_stopsAhead_92 rfl (by decide) ?_
            refine gw_goto (tgt := 97) κ dL_stopsAhead_93 (by decide) ?_
            refine gw_istore (pc' := 99) κ dL_stopsAhead_97 rfl (by decide) (lv' := [(8, .int (1 : Int32)), (0, .int x0), (1, .int x1), (2, .ref (jq 0)), (3, .ref (jr 0)), (4, .ref (jw 0)), (5, .int v5), (6, .int v6), (7, .int v7), (9, .int v9)]) rfl ?_
            refine gw_iinc (pc' := 102) κ dL_stopsAhead_99 rfl 9 rfl (v := (v9 + 1)) rfl (by decide) (lv' := [(9, .int (v9 + 1)), (8, .int (1 : Int32)), (0, .int x0), (1, .int x1), (2, .ref (jq 0)), (3, .ref (jr 0)), (4, .ref (jw 0)), (5, .int v5), (6, .int v6), (7, .int v7)]) rfl ?_
            refine gw_goto (tgt := 56) κ dL_stopsAhead_102 (by decide) ?_
            refine gw_lv (lv' := [(0, .int x0), (1, .int x1), (2, .ref (jq 0)), (3, .ref (jr 0)), (4, .ref (jw 0)), (5, .int v5), (6, .int v6), (7, .int v7), (8, .int (1 : Int32)), (9, .int (v9 + 1))]) [2, 3, 4, 5, 6, 7, 8, 9, 1, 0] rfl ?_
            exact ih56 (1 : Int32) (v9 + 1) h
set_option maxHeartbeats 4000000 in
set_option maxRecDepth 100000 in
theorem k_L_stopsAhead_6 {zp : Program} {l : Launch} {ze : Env} {zs : State} {zm : MethodId} {za : Array Value} {zb : List Frame} {zt : Method} {zc : Code} {D : va_G} {cI cR : ClassId} {A : Nat → Prop} (κ : KC zp zs zm za zt zc cL_stopsAhead 10 RL D cI cR A (some .int)) (jq : Nat → Nat) (jr : Nat → Nat) (jw : Nat → Nat) (P : Int32 → Prop) (lq : Nat → Int32) (lr : Nat → Int32) (lw : Nat → Int32) (x0 : Int32) (x1 : Int32) : ∀ (n : Nat) (v5 : Int32) (v6 : Int32), wp_L_stopsAhead_6 P lq lr lw x0 x1 n v5 v6 → GM zp l ze ({ frames := 2, cells := 0, slots := 0, locals := 40 } : Room) zs zm za zb zt zc D A 10 (pI (fun (r : Int32) (_ : Unit) => P r)) (fun _ : Unit => (wfl [cA34 jq cI lq, cA24 jr cI lr, cA24 jw cI lw])) 0 0 0 0 (wfl [cA34 jq cI lq, cA24 jr cI lr, cA24 jw cI lw]) [(0, .int x0), (1, .int x1), (2, .ref (jq 0)), (3, .ref (jr 0)), (4, .ref (jw 0)), (5, .int v5), (6, .int v6)] 6 [] := by
  intro n6
  induction n6 with
  | zero => intro v5 v6 h; exact (show False from h).elim
  | succ n6 ih6 =>
    intro v5 v6 h
    have h : wp_L_stopsAhead_6F P lq lr lw x0 x1 (wp_L_stopsAhead_6 P lq lr lw x0 x1 n6) v5 v6 := h
    unfold wp_L_stopsAhead_6F at h
    refine gw_iload (pc' := 8) κ dL_stopsAhead_6 rfl 6 rfl ?_
    refine gw_aload_n (pc' := 9) κ dL_stopsAhead_8 rfl 2 rfl rfl ?_
    refine gw_iconst (pc' := 10) (v := 5) κ dL_stopsAhead_9 rfl (by decide) ?_
    refine gb_iald (pc' := 11) κ dL_stopsAhead_10 rfl 0 0 rfl rfl (by unfold vp_in; decide) ?_
    refine gw_icmp_ge (pc' := 14) (tgt := 126) κ dL_stopsAhead_11 rfl (by decide) (fun hc_2 => ?_) (fun hc_2 => ?_)
    · have h := h.1 hc_2
      refine gw_iload (pc' := 128) κ dL_stopsAhead_126 rfl 5 rfl ?_
      exact gw_iret κ dL_stopsAhead_128 () rfl ⟨_, rfl, h⟩
    · have h := h.2 hc_2
      refine gw_aload_n (pc' := 15) κ dL_stopsAhead_14 rfl 3 rfl rfl ?_
      refine gw_iload (pc' := 17) κ dL_stopsAhead_15 rfl 6 rfl ?_
      obtain ⟨hb_3, h⟩ := h
      refine gb_iald (pc' := 18) κ dL_stopsAhead_17 rfl 1 0 rfl rfl hb_3 ?_
      refine gw_iconst (pc' := 19) (v := 3) κ dL_stopsAhead_18 rfl (by decide) ?_
      refine gw_ishr (pc' := 20) κ dL_stopsAhead_19 rfl  ?_
      refine gw_sipush (pc' := 23) (v := 1023) κ dL_stopsAhead_20 rfl (by decide) ?_
      refine gw_iand (pc' := 24) κ dL_stopsAhead_23 rfl  ?_
      refine gw_top (fun y_4 hy_4 => ?_)
      have h := h y_4 hy_4
      refine gw_istore (pc' := 26) κ dL_stopsAhead_24 rfl (by decide) (lv' := [(7, .int y_4), (0, .int x0), (1, .int x1), (2, .ref (jq 0)), (3, .ref (jr 0)), (4, .ref (jw 0)), (5, .int v5), (6, .int v6)]) rfl ?_
      refine gw_aload (pc' := 28) κ dL_stopsAhead_26 rfl 5 rfl ?_
      refine gw_iload (pc' := 30) κ dL_stopsAhead_28 rfl 7 rfl ?_
      obtain ⟨hb_5, h⟩ := h
      refine gb_iald (pc' := 31) κ dL_stopsAhead_30 rfl 2 0 rfl rfl hb_5 ?_
      refine gw_iload_n (pc' := 32) κ dL_stopsAhead_31 rfl 1 rfl rfl ?_
      refine gw_icmp_ne (pc' := 35) (tgt := 50) κ dL_stopsAhead_32 rfl (by decide) (fun hc_6 => ?_) (fun hc_6 => ?_)
      · have h := h.1 hc_6
        refine gw_iconst (pc' := 51) (v := 0) κ dL_stopsAhead_50 rfl (by decide) ?_
        refine gw_istore (pc' := 53) κ dL_stopsAhead_51 rfl (by decide) (lv' := [(8, .int (0 : Int32)), (7, .int y_4), (0, .int x0), (1, .int x1), (2, .ref (jq 0)), (3, .ref (jr 0)), (4, .ref (jw 0)), (5, .int v5), (6, .int v6)]) rfl ?_
        refine gw_iconst (pc' := 54) (v := 0) κ dL_stopsAhead_53 rfl (by decide) ?_
        refine gw_istore (pc' := 56) κ dL_stopsAhead_54 rfl (by decide) (lv' := [(9, .int (0 : Int32)), (8, .int (0 : Int32)), (7, .int y_4), (0, .int x0), (1, .int x1), (2, .ref (jq 0)), (3, .ref (jr 0)), (4, .ref (jw 0)), (5, .int v5), (6, .int v6)]) rfl ?_
        obtain ⟨m56, h⟩ := h
        refine gw_lv (lv' := [(0, .int x0), (1, .int x1), (2, .ref (jq 0)), (3, .ref (jr 0)), (4, .ref (jw 0)), (5, .int v5), (6, .int v6), (7, .int y_4), (8, .int (0 : Int32)), (9, .int (0 : Int32))]) [3, 4, 5, 6, 7, 8, 9, 2, 1, 0] rfl ?_
        exact k_L_stopsAhead_56 κ jq jr jw P lq lr lw x0 x1 (wp_L_stopsAhead_6 P lq lr lw x0 x1 n6) v5 v6 y_4 ih6 m56 (0 : Int32) (0 : Int32) h
      · have h := h.2 hc_6
        refine gw_aload_n (pc' := 36) κ dL_stopsAhead_35 rfl 4 rfl rfl ?_
        refine gw_iload (pc' := 38) κ dL_stopsAhead_36 rfl 7 rfl ?_
        obtain ⟨hb_7, h⟩ := h
        refine gb_iald (pc' := 39) κ dL_stopsAhead_38 rfl 1 0 rfl rfl hb_7 ?_
        refine gb_callS (rest := []) κ (c_L_keyOf  (lr v6.toNatClampNeg) h) ⟨rfl, rfl, Nat.le_of_ble_eq_true rfl, Nat.le_of_ble_eq_true rfl⟩ tw_ml_L_29 tw_st_L_keyOf tw_co_L_keyOf tw_in_L hy_L_keyOf rfl (Nat.le_of_ble_eq_true rfl) rfl dL_stopsAhead_39 [] rfl (by decide) (fun _ => Nat.le_of_ble_eq_true rfl) ⟨Nat.le_of_ble_eq_true rfl, Nat.le_of_ble_eq_true rfl⟩ (fun v u hv => ?_)
        obtain ⟨r_8, rfl, h⟩ := hv
        refine gw_nf (ws' := (wfl [cA34 jq cI lq, cA24 jr cI lr, cA24 jw cI lw])) (lv' := [(7, .int y_4), (0, .int x0), (1, .int x1), (2, .ref (jq 0)), (3, .ref (jr 0)), (4, .ref (jw 0)), (5, .int v5), (6, .int v6)]) (st' := [.int r_8]) (pc' := 42) (ce' := 0) (sl' := 0) rfl rfl rfl rfl rfl rfl ?_
        refine gw_iload_n (pc' := 43) κ dL_stopsAhead_42 rfl 2 rfl rfl ?_
        refine gw_icmp_ge (pc' := 46) (tgt := 50) κ dL_stopsAhead_43 rfl (by decide) (fun hc_9 => ?_) (fun hc_9 => ?_)
        · have h := h.1 hc_9
          refine gw_iconst (pc' := 51) (v := 0) κ dL_stopsAhead_50 rfl (by decide) ?_
          refine gw_istore (pc' := 53) κ dL_stopsAhead_51 rfl (by decide) (lv' := [(8, .int (0 : Int32)), (7, .int y_4), (0, .int x0), (1, .int x1), (2, .ref (jq 0)), (3, .ref (jr 0)), (4, .ref (jw 0)), (5, .int v5), (6, .int v6)]) rfl ?_
          refine gw_iconst (pc' := 54) (v := 0) κ dL_stopsAhead_53 rfl (by decide) ?_
          refine gw_istore (pc' := 56) κ dL_stopsAhead_54 rfl (by decide) (lv' := [(9, .int (0 : Int32)), (8, .int (0 : Int32)), (7, .int y_4), (0, .int x0), (1, .int x1), (2, .ref (jq 0)), (3, .ref (jr 0)), (4, .ref (jw 0)), (5, .int v5), (6, .int v6)]) rfl ?_
          obtain ⟨m56, h⟩ := h
          refine gw_lv (lv' := [(0, .int x0), (1, .int x1), (2, .ref (jq 0)), (3, .ref (jr 0)), (4, .ref (jw 0)), (5, .int v5), (6, .int v6), (7, .int y_4), (8, .int (0 : Int32)), (9, .int (0 : Int32))]) [3, 4, 5, 6, 7, 8, 9, 2, 1, 0] rfl ?_
          exact k_L_stopsAhead_56 κ jq jr jw P lq lr lw x0 x1 (wp_L_stopsAhead_6 P lq lr lw x0 x1 n6) v5 v6 y_4 ih6 m56 (0 : Int32) (0 : Int32) h
        · have h := h.2 hc_9
          refine gw_iconst (pc' := 47) (v := 1) κ dL_stopsAhead_46 rfl (by decide) ?_
          refine gw_goto (tgt := 51) κ dL_stopsAhead_47 (by decide) ?_
          refine gw_istore (pc' := 53) κ dL_stopsAhead_51 rfl (by decide) (lv' := [(8, .int (1 : Int32)), (7, .int y_4), (0, .int x0), (1, .int x1), (2, .ref (jq 0)), (3, .ref (jr 0)), (4, .ref (jw 0)), (5, .int v5), (6, .int v6)]) rfl ?_
          refine gw_iconst (pc' := 54) (v := 0) κ dL_stopsAhead_53 rfl (by decide) ?_
          refine gw_istore (pc' := 56) κ dL_stopsAhead_54 rfl (by decide) (lv' := [(9, .int (0 : Int32)), (8, .int (1 : Int32)), (7, .int y_4), (0, .int x0), (1, .int x1), (2, .ref (jq 0)), (3, .ref (jr 0)), (4, .ref (jw 0)), (5, .int v5), (6, .int v6)]) rfl ?_
          obtain ⟨m56, h⟩ := h
          refine gw_lv (lv' := [(0, .int x0), (1, .int x1), (2, .ref (jq 0)), (3, .ref (jr 0)), (4, .ref (jw 0)), (5, .int v5), (6, .int v6), (7, .int y_4), (8, .int (1 : Int32)), (9, .int (0 : Int32))]) [3, 4, 5, 6, 7, 8, 9, 2, 1, 0] rfl ?_
          exact k_L_stopsAhead_56 κ jq jr jw P lq lr lw x0 x1 (wp_L_stopsAhead_6 P lq lr lw x0 x1 n6) v5 v6 y_4 ih6 m56 (1 : Int32) (0 : Int32) h
set_option maxHeartbeats 4000000 in
set_option maxRecDepth 100000 in
theorem c_L_stopsAhead {l : Launch} {D : va_G} {cI cR : ClassId}  (jq : Nat → Nat) (jr : Nat → Nat) (jw : Nat → Nat) {P : Int32 → Prop} (lq : Nat → Int32) (lr : Nat → Int32) (lw : Nat → Int32) (x0 : Int32) (x1 : Int32) (h : wp_L_stopsAhead P lq lr lw x0 x1) : CT l D cI cR yL_stopsAhead cL_stopsAhead 10 (some .int) ({ frames := 2, cells := 0, slots := 0, locals := 40 } : Room) [.int x0, .int x1, .ref (jq 0), .ref (jr 0), .ref (jw 0)] (wfl [cA34 jq cI lq, cA24 jr cI lr, cA24 jw cI lw]) (fun _ : Unit => (wfl [cA34 jq cI lq, cA24 jr cI lr, cA24 jw cI lw])) (pI (fun (r : Int32) (_ : Unit) => P r)) 0 0 := by
  refine ct_of RL rfl (by decide +kernel) (Nat.le_of_ble_eq_true rfl) (fun zp ze zs zm zb zt zc A hin κ => ?_)
  unfold wp_L_stopsAhead at h
  refine gw_nf (lv' := [(0, .int x0), (1, .int x1), (2, .ref (jq 0)), (3, .ref (jr 0)), (4, .ref (jw 0))]) (pc' := 0) (st' := []) (ce' := 0) (sl' := 0) rfl rfl rfl rfl rfl rfl ?_
  refine gw_iconst (pc' := 1) (v := 0) κ dL_stopsAhead_0 rfl (by decide) ?_
  refine gw_istore (pc' := 3) κ dL_stopsAhead_1 rfl (by decide) (lv' := [(5, .int (0 : Int32)), (0, .int x0), (1, .int x1), (2, .ref (jq 0)), (3, .ref (jr 0)), (4, .ref (jw 0))]) rfl ?_
  refine gw_iconst (pc' := 4) (v := 0) κ dL_stopsAhead_3 rfl (by decide) ?_
  refine gw_istore (pc' := 6) κ dL_stopsAhead_4 rfl (by decide) (lv' := [(6, .int (0 : Int32)), (5, .int (0 : Int32)), (0, .int x0), (1, .int x1), (2, .ref (jq 0)), (3, .ref (jr 0)), (4, .ref (jw 0))]) rfl ?_
  obtain ⟨m6, h⟩ := h
  refine gw_lv (lv' := [(0, .int x0), (1, .int x1), (2, .ref (jq 0)), (3, .ref (jr 0)), (4, .ref (jw 0)), (5, .int (0 : Int32)), (6, .int (0 : Int32))]) [2, 3, 4, 5, 6, 1, 0] rfl ?_
  exact k_L_stopsAhead_6 κ jq jr jw P lq lr lw x0 x1 m6 (0 : Int32) (0 : Int32) h
theorem hy_L_minuteAt : g_hy yL_minuteAt 5 := by decide +kernel
set_option maxHeartbeats 4000000 in
set_option maxRecDepth 100000 in
theorem k_L_minuteAt_6 {zp : Program} {l : Launch} {ze : Env} {zs : State} {zm : MethodId} {za : Array Value} {zb : List Frame} {zt : Method} {zc : Code} {D : va_G} {cI cR : ClassId} {A : Nat → Prop} (κ : KC zp zs zm za zt zc cL_minuteAt 7 RL D cI cR A (some .int)) (jq : Nat → Nat) (jr : Nat → Nat) (jw : Nat → Nat) (P : Int32 → Prop) (lq : Nat → Int32) (lr : Nat → Int32) (lw : Nat → Int32) (x0 : Int32) (x1 : Int32) : ∀ (n : Nat) (v5 : Int32) (v6 : Int32), wp_L_minuteAt_6 P lq lr lw x0 x1 n v5 v6 → GM zp l ze ({ frames := 3, cells := 0, slots := 0, locals := 69 } : Room) zs zm za zb zt zc D A 7 (pI (fun (r : Int32) (_ : Unit) => P r)) (fun _ : Unit => (wfl [cA34 jq cI lq, cA24 jr cI lr, cA24 jw cI lw])) 0 0 0 0 (wfl [cA34 jq cI lq, cA24 jr cI lr, cA24 jw cI lw]) [(0, .int x0), (1, .int x1), (2, .ref (jq 0)), (3, .ref (jr 0)), (4, .ref (jw 0)), (5, .int v5), (6, .int v6)] 6 [] := by
  intro n6
  induction n6 with
  | zero => intro v5 v6 h; exact (show False from h).elim
  | succ n6 ih6 =>
    intro v5 v6 h
    have h : wp_L_minuteAt_6F P lq lr lw x0 x1 (wp_L_minuteAt_6 P lq lr lw x0 x1 n6) v5 v6 := h
    unfold wp_L_minuteAt_6F at h
    refine gw_iload (pc' := 8) κ dL_minuteAt_6 rfl 6 rfl ?_
    refine gw_aload_n (pc' := 9) κ dL_minuteAt_8 rfl 2 rfl rfl ?_
    refine gw_iconst (pc' := 10) (v := 5) κ dL_minuteAt_9 rfl (by decide) ?_
    refine gb_iald (pc' := 11) κ dL_minuteAt_10 rfl 0 0 rfl rfl (by unfold vp_in; decide) ?_
    refine gw_icmp_ge (pc' := 14) (tgt := 58) κ dL_minuteAt_11 rfl (by decide) (fun hc_2 => ?_) (fun hc_2 => ?_)
    · have h := h.1 hc_2
      refine gw_iload_n (pc' := 59) κ dL_minuteAt_58 rfl 0 rfl rfl ?_
      refine gw_iload_n (pc' := 60) κ dL_minuteAt_59 rfl 1 rfl rfl ?_
      refine gw_aload_n (pc' := 61) κ dL_minuteAt_60 rfl 2 rfl rfl ?_
      refine gw_aload_n (pc' := 62) κ dL_minuteAt_61 rfl 3 rfl rfl ?_
      refine gw_aload (pc' := 64) κ dL_minuteAt_62 rfl 4 rfl ?_
      refine gb_callS (rest := []) κ (c_L_stopsAhead jq jr jw lq lr lw x0 x1 h) ⟨rfl, rfl, Nat.le_of_ble_eq_true rfl, Nat.le_of_ble_eq_true rfl⟩ tw_ml_L_35 tw_st_L_stopsAhead tw_co_L_stopsAhead tw_in_L hy_L_stopsAhead rfl (Nat.le_of_ble_eq_true rfl) rfl dL_minuteAt_64 [0, 1, 2] rfl (by decide) (fun _ => Nat.le_of_ble_eq_true rfl) ⟨Nat.le_of_ble_eq_true rfl, Nat.le_of_ble_eq_true rfl⟩ (fun v u hv => ?_)
      obtain ⟨r_3, rfl, h⟩ := hv
      refine gw_nf (ws' := (wfl [cA34 jq cI lq, cA24 jr cI lr, cA24 jw cI lw])) (lv' := [(0, .int x0), (1, .int x1), (2, .ref (jq 0)), (3, .ref (jr 0)), (4, .ref (jw 0)), (5, .int v5), (6, .int v6)]) (st' := [.int r_3]) (pc' := 67) (ce' := 0) (sl' := 0) rfl rfl rfl rfl rfl rfl ?_
      refine gw_iconst (pc' := 68) (v := 1) κ dL_minuteAt_67 rfl (by decide) ?_
      refine gw_iadd (pc' := 69) κ dL_minuteAt_68 rfl  ?_
      refine gw_istore (pc' := 71) κ dL_minuteAt_69 rfl (by decide) (lv' := [(6, .int (r_3 + (1 : Int32))), (0, .int x0), (1, .int x1), (2, .ref (jq 0)), (3, .ref (jr 0)), (4, .ref (jw 0)), (5, .int v5)]) rfl ?_
      refine gw_aload_n (pc' := 72) κ dL_minuteAt_71 rfl 3 rfl rfl ?_
      refine gw_bipush (pc' := 74) (v := 18) κ dL_minuteAt_72 rfl (by decide) ?_
      refine gw_iload_n (pc' := 75) κ dL_minuteAt_74 rfl 1 rfl rfl ?_
      refine gw_iadd (pc' := 76) κ dL_minuteAt_75 rfl  ?_
      obtain ⟨hb_4, h⟩ := h
      refine gb_iald (pc' := 77) κ dL_minuteAt_76 rfl 0 0 rfl rfl hb_4 ?_
      refine gw_bipush (pc' := 79) (v := 10) κ dL_minuteAt_77 rfl (by decide) ?_
      refine gw_iadd (pc' := 80) κ dL_minuteAt_79 rfl  ?_
      refine gw_iconst (pc' := 81) (v := 5) κ dL_minuteAt_80 rfl (by decide) ?_
      refine gw_iload_n (pc' := 82) κ dL_minuteAt_81 rfl 2 rfl rfl ?_
      refine gw_bipush (pc' := 84) (v := 100) κ dL_minuteAt_82 rfl (by decide) ?_
      refine gw_idiv (pc' := 85) κ dL_minuteAt_84 rfl (by decide) ?_
      refine gw_imul (pc' := 86) κ dL_minuteAt_85 rfl  ?_
      refine gw_iadd (pc' := 87) κ dL_minuteAt_86 rfl  ?_
      refine gw_iconst (pc' := 88) (v := 3) κ dL_minuteAt_87 rfl (by decide) ?_
      refine gw_iload (pc' := 90) κ dL_minuteAt_88 rfl 0 rfl ?_
      refine gw_iload (pc' := 92) κ dL_minuteAt_90 rfl 6 rfl ?_
      refine gb_callS (rest := [.int (r_3 + (1 : Int32)), .int (3 : Int32), .int (((lq ((18 : Int32) + x0).toNatClampNeg) + (10 : Int32)) + ((5 : Int32) * (x1 / (100 : Int32))))]) κ (c_L_ones  v5 h) ⟨rfl, rfl, Nat.le_of_ble_eq_true rfl, Nat.le_of_ble_eq_true rfl⟩ tw_ml_L_26 tw_st_L_ones tw_co_L_ones tw_in_L hy_L_ones rfl (Nat.le_of_ble_eq_true rfl) rfl dL_minuteAt_92 [] rfl (by decide) (fun _ => Nat.le_of_ble_eq_true rfl) ⟨Nat.le_of_ble_eq_true rfl, Nat.le_of_ble_eq_true rfl⟩ (fun v u hv => ?_)
      obtain ⟨r_5, rfl, h⟩ := hv
      refine gw_nf (ws' := (wfl [cA34 jq cI lq, cA24 jr cI lr, cA24 jw cI lw])) (lv' := [(6, .int (r_3 + (1 : Int32))), (0, .int x0), (1, .int x1), (2, .ref (jq 0)), (3, .ref (jr 0)), (4, .ref (jw 0)), (5, .int v5)]) (st' := [.int r_5, .int (r_3 + (1 : Int32)), .int (3 : Int32), .int (((lq ((18 : Int32) + x0).toNatClampNeg) + (10 : Int32)) + ((5 : Int32) * (x1 / (100 : Int32))))]) (pc' := 95) (ce' := 0) (sl' := 0) rfl rfl rfl rfl rfl rfl ?_
      refine gw_isub (pc' := 96) κ dL_minuteAt_95 rfl  ?_
      refine gw_imul (pc' := 97) κ dL_minuteAt_96 rfl  ?_
      refine gw_iadd (pc' := 98) κ dL_minuteAt_97 rfl  ?_
      exact gw_iret κ dL_minuteAt_98 () rfl ⟨_, rfl, h⟩
    · have h := h.2 hc_2
      refine gw_iload (pc' := 16) κ dL_minuteAt_14 rfl 5 rfl ?_
      refine gw_aload (pc' := 18) κ dL_minuteAt_16 rfl 4 rfl ?_
      refine gw_iload (pc' := 20) κ dL_minuteAt_18 rfl 6 rfl ?_
      obtain ⟨hb_6, h⟩ := h
      refine gb_iald (pc' := 21) κ dL_minuteAt_20 rfl 2 0 rfl rfl hb_6 ?_
      refine gw_iload_n (pc' := 22) κ dL_minuteAt_21 rfl 0 rfl rfl ?_
      refine gw_icmp_ne (pc' := 25) (tgt := 48) κ dL_minuteAt_22 rfl (by decide) (fun hc_7 => ?_) (fun hc_7 => ?_)
      · have h := h.1 hc_7
        refine gw_iconst (pc' := 49) (v := 0) κ dL_minuteAt_48 rfl (by decide) ?_
        refine gw_ior (pc' := 50) κ dL_minuteAt_49 rfl  ?_
        refine gw_istore (pc' := 52) κ dL_minuteAt_50 rfl (by decide) (lv' := [(5, .int (v5 ||| (0 : Int32))), (0, .int x0), (1, .int x1), (2, .ref (jq 0)), (3, .ref (jr 0)), (4, .ref (jw 0)), (6, .int v6)]) rfl ?_
        refine gw_iinc (pc' := 55) κ dL_minuteAt_52 rfl 6 rfl (v := (v6 + 1)) rfl (by decide) (lv' := [(6, .int (v6 + 1)), (5, .int (v5 ||| (0 : Int32))), (0, .int x0), (1, .int x1), (2, .ref (jq 0)), (3, .ref (jr 0)), (4, .ref (jw 0))]) rfl ?_
        refine gw_goto (tgt := 6) κ dL_minuteAt_55 (by decide) ?_
        refine gw_lv (lv' := [(0, .int x0), (1, .int x1), (2, .ref (jq 0)), (3, .ref (jr 0)), (4, .ref (jw 0)), (5, .int (v5 ||| (0 : Int32))), (6, .int (v6 + 1))]) [2, 3, 4, 5, 6, 1, 0] rfl ?_
        exact ih6 (v5 ||| (0 : Int32)) (v6 + 1) h
      · have h := h.2 hc_7
        refine gw_aload_n (pc' := 26) κ dL_minuteAt_25 rfl 3 rfl rfl ?_
        refine gw_iload (pc' := 28) κ dL_minuteAt_26 rfl 6 rfl ?_
        obtain ⟨hb_8, h⟩ := h
        refine gb_iald (pc' := 29) κ dL_minuteAt_28 rfl 1 0 rfl rfl hb_8 ?_
        refine gb_callS (rest := [.int v5]) κ (c_L_keyOf  (lr v6.toNatClampNeg) h) ⟨rfl, rfl, Nat.le_of_ble_eq_true rfl, Nat.le_of_ble_eq_true rfl⟩ tw_ml_L_29 tw_st_L_keyOf tw_co_L_keyOf tw_in_L hy_L_keyOf rfl (Nat.le_of_ble_eq_true rfl) rfl dL_minuteAt_29 [] rfl (by decide) (fun _ => Nat.le_of_ble_eq_true rfl) ⟨Nat.le_of_ble_eq_true rfl, Nat.le_of_ble_eq_true rfl⟩ (fun v u hv => ?_)
        obtain ⟨r_9, rfl, h⟩ := hv
        refine gw_nf (ws' := (wfl [cA34 jq cI lq, cA24 jr cI lr, cA24 jw cI lw])) (lv' := [(0, .int x0), (1, .int x1), (2, .ref (jq 0)), (3, .ref (jr 0)), (4, .ref (jw 0)), (5, .int v5), (6, .int v6)]) (st' := [.int r_9, .int v5]) (pc' := 32) (ce' := 0) (sl' := 0) rfl rfl rfl rfl rfl rfl ?_
        refine gw_iload_n (pc' := 33) κ dL_minuteAt_32 rfl 1 rfl rfl ?_
        refine gw_icmp_gt (pc' := 36) (tgt := 48) κ dL_minuteAt_33 rfl (by decide) (fun hc_10 => ?_) (fun hc_10 => ?_)
        · have h := h.1 hc_10
          refine gw_iconst (pc' := 49) (v := 0) κ dL_minuteAt_48 rfl (by decide) ?_
          refine gw_ior (pc' := 50) κ dL_minuteAt_49 rfl  ?_
          refine gw_istore (pc' := 52) κ dL_minuteAt_50 rfl (by decide) (lv' := [(5, .int (v5 ||| (0 : Int32))), (0, .int x0), (1, .int x1), (2, .ref (jq 0)), (3, .ref (jr 0)), (4, .ref (jw 0)), (6, .int v6)]) rfl ?_
          refine gw_iinc (pc' := 55) κ dL_minuteAt_52 rfl 6 rfl (v := (v6 + 1)) rfl (by decide) (lv' := [(6, .int (v6 + 1)), (5, .int (v5 ||| (0 : Int32))), (0, .int x0), (1, .int x1), (2, .ref (jq 0)), (3, .ref (jr 0)), (4, .ref (jw 0))]) rfl ?_
          refine gw_goto (tgt := 6) κ dL_minuteAt_55 (by decide) ?_
          refine gw_lv (lv' := [(0, .int x0), (1, .int x1), (2, .ref (jq 0)), (3, .ref (jr 0)), (4, .ref (jw 0)), (5, .int (v5 ||| (0 : Int32))), (6, .int (v6 + 1))]) [2, 3, 4, 5, 6, 1, 0] rfl ?_
          exact ih6 (v5 ||| (0 : Int32)) (v6 + 1) h
        · have h := h.2 hc_10
          refine gw_iconst (pc' := 37) (v := 1) κ dL_minuteAt_36 rfl (by decide) ?_
          refine gw_aload_n (pc' := 38) κ dL_minuteAt_37 rfl 3 rfl rfl ?_
          refine gw_iload (pc' := 40) κ dL_minuteAt_38 rfl 6 rfl ?_
          obtain ⟨hb_11, h⟩ := h
          refine gb_iald (pc' := 41) κ dL_minuteAt_40 rfl 1 0 rfl rfl hb_11 ?_
          refine gb_callS (rest := [.int (1 : Int32), .int v5]) κ (c_L_areaOf  (lr v6.toNatClampNeg) h) ⟨rfl, rfl, Nat.le_of_ble_eq_true rfl, Nat.le_of_ble_eq_true rfl⟩ tw_ml_L_23 tw_st_L_areaOf tw_co_L_areaOf tw_in_L hy_L_areaOf rfl (Nat.le_of_ble_eq_true rfl) rfl dL_minuteAt_41 [] rfl (by decide) (fun _ => Nat.le_of_ble_eq_true rfl) ⟨Nat.le_of_ble_eq_true rfl, Nat.le_of_ble_eq_true rfl⟩ (fun v u hv => ?_)
          obtain ⟨r_12, rfl, h⟩ := hv
          refine gw_nf (ws' := (wfl [cA34 jq cI lq, cA24 jr cI lr, cA24 jw cI lw])) (lv' := [(0, .int x0), (1, .int x1), (2, .ref (jq 0)), (3, .ref (jr 0)), (4, .ref (jw 0)), (5, .int v5), (6, .int v6)]) (st' := [.int r_12, .int (1 : Int32), .int v5]) (pc' := 44) (ce' := 0) (sl' := 0) rfl rfl rfl rfl rfl rfl ?_
          refine gw_ishl (pc' := 45) κ dL_minuteAt_44 rfl  ?_
          refine gw_goto (tgt := 49) κ dL_minuteAt_45 (by decide) ?_
          refine gw_ior (pc' := 50) κ dL_minuteAt_49 rfl  ?_
          refine gw_istore (pc' := 52) κ dL_minuteAt_50 rfl (by decide) (lv' := [(5, .int (v5 ||| ((1 : Int32) <<< (r_12 &&& 31)))), (0, .int x0), (1, .int x1), (2, .ref (jq 0)), (3, .ref (jr 0)), (4, .ref (jw 0)), (6, .int v6)]) rfl ?_
          refine gw_iinc (pc' := 55) κ dL_minuteAt_52 rfl 6 rfl (v := (v6 + 1)) rfl (by decide) (lv' := [(6, .int (v6 + 1)), (5, .int (v5 ||| ((1 : Int32) <<< (r_12 &&& 31)))), (0, .int x0), (1, .int x1), (2, .ref (jq 0)), (3, .ref (jr 0)), (4, .ref (jw 0))]) rfl ?_
          refine gw_goto (tgt := 6) κ dL_minuteAt_55 (by decide) ?_
          refine gw_lv (lv' := [(0, .int x0), (1, .int x1), (2, .ref (jq 0)), (3, .ref (jr 0)), (4, .ref (jw 0)), (5, .int (v5 ||| ((1 : Int32) <<< (r_12 &&& 31)))), (6, .int (v6 + 1))]) [2, 3, 4, 5, 6, 1, 0] rfl ?_
          exact ih6 (v5 ||| ((1 : Int32) <<< (r_12 &&& 31))) (v6 + 1) h
set_option maxHeartbeats 4000000 in
set_option maxRecDepth 100000 in
theorem c_L_minuteAt {l : Launch} {D : va_G} {cI cR : ClassId}  (jq : Nat → Nat) (jr : Nat → Nat) (jw : Nat → Nat) {P : Int32 → Prop} (lq : Nat → Int32) (lr : Nat → Int32) (lw : Nat → Int32) (x0 : Int32) (x1 : Int32) (h : wp_L_minuteAt P lq lr lw x0 x1) : CT l D cI cR yL_minuteAt cL_minuteAt 7 (some .int) ({ frames := 3, cells := 0, slots := 0, locals := 69 } : Room) [.int x0, .int x1, .ref (jq 0), .ref (jr 0), .ref (jw 0)] (wfl [cA34 jq cI lq, cA24 jr cI lr, cA24 jw cI lw]) (fun _ : Unit => (wfl [cA34 jq cI lq, cA24 jr cI lr, cA24 jw cI lw])) (pI (fun (r : Int32) (_ : Unit) => P r)) 0 0 := by
  refine ct_of RL rfl (by decide +kernel) (Nat.le_of_ble_eq_true rfl) (fun zp ze zs zm zb zt zc A hin κ => ?_)
  unfold wp_L_minuteAt at h
  refine gw_nf (lv' := [(0, .int x0), (1, .int x1), (2, .ref (jq 0)), (3, .ref (jr 0)), (4, .ref (jw 0))]) (pc' := 0) (st' := []) (ce' := 0) (sl' := 0) rfl rfl rfl rfl rfl rfl ?_
  refine gw_iconst (pc' := 1) (v := 0) κ dL_minuteAt_0 rfl (by decide) ?_
  refine gw_istore (pc' := 3) κ dL_minuteAt_1 rfl (by decide) (lv' := [(5, .int (0 : Int32)), (0, .int x0), (1, .int x1), (2, .ref (jq 0)), (3, .ref (jr 0)), (4, .ref (jw 0))]) rfl ?_
  refine gw_iconst (pc' := 4) (v := 0) κ dL_minuteAt_3 rfl (by decide) ?_
  refine gw_istore (pc' := 6) κ dL_minuteAt_4 rfl (by decide) (lv' := [(6, .int (0 : Int32)), (5, .int (0 : Int32)), (0, .int x0), (1, .int x1), (2, .ref (jq 0)), (3, .ref (jr 0)), (4, .ref (jw 0))]) rfl ?_
  obtain ⟨m6, h⟩ := h
  refine gw_lv (lv' := [(0, .int x0), (1, .int x1), (2, .ref (jq 0)), (3, .ref (jr 0)), (4, .ref (jw 0)), (5, .int (0 : Int32)), (6, .int (0 : Int32))]) [2, 3, 4, 5, 6, 1, 0] rfl ?_
  exact k_L_minuteAt_6 κ jq jr jw P lq lr lw x0 x1 m6 (0 : Int32) (0 : Int32) h
theorem hy_L_part : g_hy yL_part 6 := by decide +kernel
set_option maxHeartbeats 4000000 in
set_option maxRecDepth 100000 in
theorem k_L_part_53 {zp : Program} {l : Launch} {ze : Env} {zs : State} {zm : MethodId} {za : Array Value} {zb : List Frame} {zt : Method} {zc : Code} {D : va_G} {cI cR : ClassId} {A : Nat → Prop} (κ : KC zp zs zm za zt zc cL_part 11 RL D cI cR A (some .int)) (jq : Nat → Nat) (jr : Nat → Nat) (jw : Nat → Nat) (P : Int32 → Prop) (lq : Nat → Int32) (lr : Nat → Int32) (lw : Nat → Int32) (x0 : Int32) (x1 : Int32) (x2 : Int32) (r6 : Int32 → Int32 → Prop) (v6 : Int32) (v7 : Int32) (w0 : Int32) (hr6 : ∀ (v6 : Int32) (v7 : Int32), r6 v6 v7 → GM zp l ze ({ frames := 2, cells := 0, slots := 0, locals := 40 } : Room) zs zm za zb zt zc D A 11 (pI (fun (r : Int32) (_ : Unit) => P r)) (fun _ : Unit => (wfl [cA34 jq cI lq, cA24 jr cI lr, cA24 jw cI lw])) 0 0 0 0 (wfl [cA34 jq cI lq, cA24 jr cI lr, cA24 jw cI lw]) [(0, .int x0), (1, .int x1), (2, .int x2), (3, .ref (jq 0)), (4, .ref (jr 0)), (5, .ref (jw 0)), (6, .int v6), (7, .int v7)] 6 []) (h : wp_L_part_53 P lq lr lw x0 x1 x2 r6 v6 v7 w0) : GM zp l ze ({ frames := 2, cells := 0, slots := 0, locals := 40 } : Room) zs zm za zb zt zc D A 11 (pI (fun (r : Int32) (_ : Unit) => P r)) (fun _ : Unit => (wfl [cA34 jq cI lq, cA24 jr cI lr, cA24 jw cI lw])) 0 0 0 0 (wfl [cA34 jq cI lq, cA24 jr cI lr, cA24 jw cI lw]) [(0, .int x0), (1, .int x1), (2, .int x2), (3, .ref (jq 0)), (4, .ref (jr 0)), (5, .ref (jw 0)), (6, .int v6), (7, .int v7)] 53 [.int w0] := by
  unfold wp_L_part_53 at h
  refine gw_istore (pc' := 55) κ dL_part_53 rfl (by decide) (lv' := [(8, .int w0), (0, .int x0), (1, .int x1), (2, .int x2), (3, .ref (jq 0)), (4, .ref (jr 0)), (5, .ref (jw 0)), (6, .int v6), (7, .int v7)]) rfl ?_
  refine gw_iload (pc' := 57) κ dL_part_55 rfl 7 rfl ?_
  refine gw_iload (pc' := 59) κ dL_part_57 rfl 0 rfl ?_
  refine gw_if_eq (pc' := 62) (tgt := 73) κ dL_part_59 rfl (by decide) (fun hc_27 => ?_) (fun hc_27 => ?_)
  · have h := h.1 hc_27
    refine gw_iconst (pc' := 74) (v := 0) κ dL_part_73 rfl (by decide) ?_
    refine gw_iadd (pc' := 75) κ dL_part_74 rfl  ?_
    refine gw_istore (pc' := 77) κ dL_part_75 rfl (by decide) (lv' := [(6, .int (v6 + (0 : Int32))), (8, .int w0), (0, .int x0), (1, .int x1), (2, .int x2), (3, .ref (jq 0)), (4, .ref (jr 0)), (5, .ref (jw 0)), (7, .int v7)]) rfl ?_
    refine gw_iinc (pc' := 80) κ dL_part_77 rfl 8 rfl (v := (v7 + 1)) rfl (by decide) (lv' := [(7, .int (v7 + 1)), (6, .int (v6 + (0 : Int32))), (8, .int w0), (0, .int x0), (1, .int x1), (2, .int x2), (3, .ref (jq 0)), (4, .ref (jr 0)), (5, .ref (jw 0))]) rfl ?_
    refine gw_goto (tgt := 6) κ dL_part_80 (by decide) ?_
    refine gw_lv (lv' := [(0, .int x0), (1, .int x1), (2, .int x2), (3, .ref (jq 0)), (4, .ref (jr 0)), (5, .ref (jw 0)), (6, .int (v6 + (0 : Int32))), (7, .int (v7 + 1))]) [3, 4, 5, 6, 7, 8, 1, 0] rfl ?_
    exact hr6 (v6 + (0 : Int32)) (v7 + 1) h
  · have h := h.2 hc_27
    refine gw_aload (pc' := 64) κ dL_part_62 rfl 5 rfl ?_
    refine gw_iload (pc' := 66) κ dL_part_64 rfl 8 rfl ?_
    obtain ⟨hb_28, h⟩ := h
    refine gb_iald (pc' := 67) κ dL_part_66 rfl 1 0 rfl rfl hb_28 ?_
    refine gb_callS (rest := [.int v6]) κ (c_L_people  (lr v7.toNatClampNeg) h) ⟨rfl, rfl, Nat.le_of_ble_eq_true rfl, Nat.le_of_ble_eq_true rfl⟩ tw_ml_L_20 tw_st_L_people tw_co_L_people tw_in_L hy_L_people rfl (Nat.le_of_ble_eq_true rfl) rfl dL_part_67 [] rfl (by decide) (fun _ => Nat.le_of_ble_eq_true rfl) ⟨Nat.le_of_ble_eq_true rfl, Nat.le_of_ble_eq_true rfl⟩ (fun v u hv => ?_)
    obtain ⟨r_29, rfl, h⟩ := hv
    refine gw_nf (ws' := (wfl [cA34 jq cI lq, cA24 jr cI lr, cA24 jw cI lw])) (lv' := [(8, .int w0), (0, .int x0), (1, .int x1), (2, .int x2), (3, .ref (jq 0)), (4, .ref (jr 0)), (5, .ref (jw 0)), (6, .int v6), (7, .int v7)]) (st' := [.int r_29, .int v6]) (pc' := 70) (ce' := 0) (sl' := 0) rfl rfl rfl rfl rfl rfl ?_
    refine gw_goto (tgt := 74) κ dL_part_70 (by decide) ?_
    refine gw_iadd (pc' := 75) κ dL_part_74 rfl  ?_
    refine gw_istore (pc' := 77) κ dL_part_75 rfl (by decide) (lv' := [(6, .int (v6 + r_29)), (8, .int w0), (0, .int x0), (1, .int x1), (2, .int x2), (3, .ref (jq 0)), (4, .ref (jr 0)), (5, .ref (jw 0)), (7, .int v7)]) rfl ?_
    refine gw_iinc (pc' := 80) κ dL_part_77 rfl 8 rfl (v := (v7 + 1)) rfl (by decide) (lv' := [(7, .int (v7 + 1)), (6, .int (v6 + r_29)), (8, .int w0), (0, .int x0), (1, .int x1), (2, .int x2), (3, .ref (jq 0)), (4, .ref (jr 0)), (5, .ref (jw 0))]) rfl ?_
    refine gw_goto (tgt := 6) κ dL_part_80 (by decide) ?_
    refine gw_lv (lv' := [(0, .int x0), (1, .int x1), (2, .int x2), (3, .ref (jq 0)), (4, .ref (jr 0)), (5, .ref (jw 0)), (6, .int (v6 + r_29)), (7, .int (v7 + 1))]) [3, 4, 5, 6, 7, 8, 1, 0] rfl ?_
    exact hr6 (v6 + r_29) (v7 + 1) h
set_option maxHeartbeats 4000000 in
set_option maxRecDepth 100000 in
theorem k_L_part_165 {zp : Program} {l : Launch} {ze : Env} {zs : State} {zm : MethodId} {za : Array Value} {zb : List Frame} {zt : Method} {zc : Code} {D : va_G} {cI cR : ClassId} {A : Nat → Prop} (κ : KC zp zs zm za zt zc cL_part 11 RL D cI cR A (some .int)) (jq : Nat → Nat) (jr : Nat → Nat) (jw : Nat → Nat) (P : Int32 → Prop) (lq : Nat → Int32) (lr : Nat → Int32) (lw : Nat → Int32) (x0 : Int32) (x1 : Int32) (x2 : Int32) (r92 : Int32 → Int32 → Int32 → Prop) (v6 : Int32) (v8 : Int32) (v9 : Int32) (v10 : Int32) (w0 : Int32) (w1 : Int32) (hr92 : ∀ (v7 : Int32) (v8 : Int32) (v9 : Int32), r92 v7 v8 v9 → GM zp l ze ({ frames := 2, cells := 0, slots := 0, locals := 40 } : Room) zs zm za zb zt zc D A 11 (pI (fun (r : Int32) (_ : Unit) => P r)) (fun _ : Unit => (wfl [cA34 jq cI lq, cA24 jr cI lr, cA24 jw cI lw])) 0 0 0 0 (wfl [cA34 jq cI lq, cA24 jr cI lr, cA24 jw cI lw]) [(0, .int x0), (1, .int x1), (2, .int x2), (3, .ref (jq 0)), (4, .ref (jr 0)), (5, .ref (jw 0)), (6, .int v6), (7, .int v7), (8, .int v8), (9, .int v9)] 92 []) (h : wp_L_part_165 P lq lr lw x0 x1 x2 r92 v6 v8 v9 v10 w0 w1) : GM zp l ze ({ frames := 2, cells := 0, slots := 0, locals := 40 } : Room) zs zm za zb zt zc D A 11 (pI (fun (r : Int32) (_ : Unit) => P r)) (fun _ : Unit => (wfl [cA34 jq cI lq, cA24 jr cI lr, cA24 jw cI lw])) 0 0 0 0 (wfl [cA34 jq cI lq, cA24 jr cI lr, cA24 jw cI lw]) [(0, .int x0), (1, .int x1), (2, .int x2), (3, .ref (jq 0)), (4, .ref (jr 0)), (5, .ref (jw 0)), (6, .int v6), (8, .int v8), (9, .int v9), (10, .int v10)] 165 [.int w1, .int w0] := by
  unfold wp_L_part_165 at h
  refine gw_isub (pc' := 166) κ dL_part_165 rfl  ?_
  refine gw_istore (pc' := 168) κ dL_part_166 rfl (by decide) (lv' := [(7, .int (w0 - w1)), (0, .int x0), (1, .int x1), (2, .int x2), (3, .ref (jq 0)), (4, .ref (jr 0)), (5, .ref (jw 0)), (6, .int v6), (8, .int v8), (9, .int v9), (10, .int v10)]) rfl ?_
  refine gw_iload (pc' := 170) κ dL_part_168 rfl 8 rfl ?_
  refine gw_iload (pc' := 172) κ dL_part_170 rfl 10 rfl ?_
  refine gw_if_eq (pc' := 175) (tgt := 185) κ dL_part_172 rfl (by decide) (fun hc_34 => ?_) (fun hc_34 => ?_)
  · have h := h.1 hc_34
    refine gw_iconst (pc' := 186) (v := 0) κ dL_part_185 rfl (by decide) ?_
    refine gw_iadd (pc' := 187) κ dL_part_186 rfl  ?_
    refine gw_istore (pc' := 189) κ dL_part_187 rfl (by decide) (lv' := [(8, .int (v8 + (0 : Int32))), (7, .int (w0 - w1)), (0, .int x0), (1, .int x1), (2, .int x2), (3, .ref (jq 0)), (4, .ref (jr 0)), (5, .ref (jw 0)), (6, .int v6), (9, .int v9), (10, .int v10)]) rfl ?_
    refine gw_iinc (pc' := 192) κ dL_part_189 rfl 9 rfl (v := (v9 + 1)) rfl (by decide) (lv' := [(9, .int (v9 + 1)), (8, .int (v8 + (0 : Int32))), (7, .int (w0 - w1)), (0, .int x0), (1, .int x1), (2, .int x2), (3, .ref (jq 0)), (4, .ref (jr 0)), (5, .ref (jw 0)), (6, .int v6), (10, .int v10)]) rfl ?_
    refine gw_goto (tgt := 92) κ dL_part_192 (by decide) ?_
    refine gw_lv (lv' := [(0, .int x0), (1, .int x1), (2, .int x2), (3, .ref (jq 0)), (4, .ref (jr 0)), (5, .ref (jw 0)), (6, .int v6), (7, .int (w0 - w1)), (8, .int (v8 + (0 : Int32))), (9, .int (v9 + 1))]) [3, 4, 5, 6, 7, 8, 9, 2, 1, 0] rfl ?_
    exact hr92 (w0 - w1) (v8 + (0 : Int32)) (v9 + 1) h
  · have h := h.2 hc_34
    refine gw_iload (pc' := 177) κ dL_part_175 rfl 9 rfl ?_
    refine gw_iload_n (pc' := 178) κ dL_part_177 rfl 1 rfl rfl ?_
    refine gw_icmp_ge (pc' := 181) (tgt := 185) κ dL_part_178 rfl (by decide) (fun hc_35 => ?_) (fun hc_35 => ?_)
    · have h := h.1 hc_35
      refine gw_iconst (pc' := 186) (v := 0) κ dL_part_185 rfl (by decide) ?_
      refine gw_iadd (pc' := 187) κ dL_part_186 rfl  ?_
      refine gw_istore (pc' := 189) κ dL_part_187 rfl (by decide) (lv' := [(8, .int (v8 + (0 : Int32))), (7, .int (w0 - w1)), (0, .int x0), (1, .int x1), (2, .int x2), (3, .ref (jq 0)), (4, .ref (jr 0)), (5, .ref (jw 0)), (6, .int v6), (9, .int v9), (10, .int v10)]) rfl ?_
      refine gw_iinc (pc' := 192) κ dL_part_189 rfl 9 rfl (v := (v9 + 1)) rfl (by decide) (lv' := [(9, .int (v9 + 1)), (8, .int (v8 + (0 : Int32))), (7, .int (w0 - w1)), (0, .int x0), (1, .int x1), (2, .int x2), (3, .ref (jq 0)), (4, .ref (jr 0)), (5, .ref (jw 0)), (6, .int v6), (10, .int v10)]) rfl ?_
      refine gw_goto (tgt := 92) κ dL_part_192 (by decide) ?_
      refine gw_lv (lv' := [(0, .int x0), (1, .int x1), (2, .int x2), (3, .ref (jq 0)), (4, .ref (jr 0)), (5, .ref (jw 0)), (6, .int v6), (7, .int (w0 - w1)), (8, .int (v8 + (0 : Int32))), (9, .int (v9 + 1))]) [3, 4, 5, 6, 7, 8, 9, 2, 1, 0] rfl ?_
      exact hr92 (w0 - w1) (v8 + (0 : Int32)) (v9 + 1) h
    · have h := h.2 hc_35
      refine gw_iconst (pc' := 182) (v := 1) κ dL_part_181 rfl (by decide) ?_
      refine gw_goto (tgt := 186) κ dL_part_182 (by decide) ?_
      refine gw_iadd (pc' := 187) κ dL_part_186 rfl  ?_
      refine gw_istore (pc' := 189) κ dL_part_187 rfl (by decide) (lv' := [(8, .int (v8 + (1 : Int32))), (7, .int (w0 - w1)), (0, .int x0), (1, .int x1), (2, .int x2), (3, .ref (jq 0)), (4, .ref (jr 0)), (5, .ref (jw 0)), (6, .int v6), (9, .int v9), (10, .int v10)]) rfl ?_
      refine gw_iinc (pc' := 192) κ dL_part_189 rfl 9 rfl (v := (v9 + 1)) rfl (by decide) (lv' := [(9, .int (v9 + 1)), (8, .int (v8 + (1 : Int32))), (7, .int (w0 - w1)), (0, .int x0), (1, .int x1), (2, .int x2), (3, .ref (jq 0)), (4, .ref (jr 0)), (5, .ref (jw 0)), (6, .int v6), (10, .int v10)]) rfl ?_
      refine gw_goto (tgt := 92) κ dL_part_192 (by decide) ?_
      refine gw_lv (lv' := [(0, .int x0), (1, .int x1), (2, .int x2), (3, .ref (jq 0)), (4, .ref (jr 0)), (5, .ref (jw 0)), (6, .int v6), (7, .int (w0 - w1)), (8, .int (v8 + (1 : Int32))), (9, .int (v9 + 1))]) [3, 4, 5, 6, 7, 8, 9, 2, 1, 0] rfl ?_
      exact hr92 (w0 - w1) (v8 + (1 : Int32)) (v9 + 1) h
set_option maxHeartbeats 4000000 in
set_option maxRecDepth 100000 in
theorem k_L_part_139 {zp : Program} {l : Launch} {ze : Env} {zs : State} {zm : MethodId} {za : Array Value} {zb : List Frame} {zt : Method} {zc : Code} {D : va_G} {cI cR : ClassId} {A : Nat → Prop} (κ : KC zp zs zm za zt zc cL_part 11 RL D cI cR A (some .int)) (jq : Nat → Nat) (jr : Nat → Nat) (jw : Nat → Nat) (P : Int32 → Prop) (lq : Nat → Int32) (lr : Nat → Int32) (lw : Nat → Int32) (x0 : Int32) (x1 : Int32) (x2 : Int32) (r92 : Int32 → Int32 → Int32 → Prop) (v6 : Int32) (v7 : Int32) (v8 : Int32) (v9 : Int32) (w0 : Int32) (hr92 : ∀ (v7 : Int32) (v8 : Int32) (v9 : Int32), r92 v7 v8 v9 → GM zp l ze ({ frames := 2, cells := 0, slots := 0, locals := 40 } : Room) zs zm za zb zt zc D A 11 (pI (fun (r : Int32) (_ : Unit) => P r)) (fun _ : Unit => (wfl [cA34 jq cI lq, cA24 jr cI lr, cA24 jw cI lw])) 0 0 0 0 (wfl [cA34 jq cI lq, cA24 jr cI lr, cA24 jw cI lw]) [(0, .int x0), (1, .int x1), (2, .int x2), (3, .ref (jq 0)), (4, .ref (jr 0)), (5, .ref (jw 0)), (6, .int v6), (7, .int v7), (8, .int v8), (9, .int v9)] 92 []) (h : wp_L_part_139 P lq lr lw x0 x1 x2 r92 v6 v7 v8 v9 w0) : GM zp l ze ({ frames := 2, cells := 0, slots := 0, locals := 40 } : Room) zs zm za zb zt zc D A 11 (pI (fun (r : Int32) (_ : Unit) => P r)) (fun _ : Unit => (wfl [cA34 jq cI lq, cA24 jr cI lr, cA24 jw cI lw])) 0 0 0 0 (wfl [cA34 jq cI lq, cA24 jr cI lr, cA24 jw cI lw]) [(0, .int x0), (1, .int x1), (2, .int x2), (3, .ref (jq 0)), (4, .ref (jr 0)), (5, .ref (jw 0)), (6, .int v6), (7, .int v7), (8, .int v8), (9, .int v9)] 139 [.int w0] := by
  unfold wp_L_part_139 at h
  refine gw_istore (pc' := 141) κ dL_part_139 rfl (by decide) (lv' := [(10, .int w0), (0, .int x0), (1, .int x1), (2, .int x2), (3, .ref (jq 0)), (4, .ref (jr 0)), (5, .ref (jw 0)), (6, .int v6), (7, .int v7), (8, .int v8), (9, .int v9)]) rfl ?_
  refine gw_iload (pc' := 143) κ dL_part_141 rfl 8 rfl ?_
  refine gw_iload (pc' := 145) κ dL_part_143 rfl 0 rfl ?_
  refine gw_if_eq (pc' := 148) (tgt := 164) κ dL_part_145 rfl (by decide) (fun hc_30 => ?_) (fun hc_30 => ?_)
  · have h := h.1 hc_30
    refine gw_iconst (pc' := 165) (v := 0) κ dL_part_164 rfl (by decide) ?_
    refine gw_lv (lv' := [(0, .int x0), (1, .int x1), (2, .int x2), (3, .ref (jq 0)), (4, .ref (jr 0)), (5, .ref (jw 0)), (6, .int v6), (8, .int v8), (9, .int v9), (10, .int w0)]) [1, 2, 3, 4, 5, 6, 7, 9, 10, 0] rfl ?_
    exact k_L_part_165 κ jq jr jw P lq lr lw x0 x1 x2 r92 v6 v8 v9 w0 v7 (0 : Int32) hr92 h
  · have h := h.2 hc_30
    refine gw_iload_n (pc' := 149) κ dL_part_148 rfl 2 rfl rfl ?_
    refine gw_aload (pc' := 151) κ dL_part_149 rfl 5 rfl ?_
    refine gw_iload (pc' := 153) κ dL_part_151 rfl 10 rfl ?_
    obtain ⟨hb_31, h⟩ := h
    refine gb_iald (pc' := 154) κ dL_part_153 rfl 1 0 rfl rfl hb_31 ?_
    refine gb_callS (rest := [.int x1, .int v7]) κ (c_L_people  (lr v9.toNatClampNeg) h) ⟨rfl, rfl, Nat.le_of_ble_eq_true rfl, Nat.le_of_ble_eq_true rfl⟩ tw_ml_L_20 tw_st_L_people tw_co_L_people tw_in_L hy_L_people rfl (Nat.le_of_ble_eq_true rfl) rfl dL_part_154 [] rfl (by decide) (fun _ => Nat.le_of_ble_eq_true rfl) ⟨Nat.le_of_ble_eq_true rfl, Nat.le_of_ble_eq_true rfl⟩ (fun v u hv => ?_)
    obtain ⟨r_32, rfl, h⟩ := hv
    refine gw_nf (ws' := (wfl [cA34 jq cI lq, cA24 jr cI lr, cA24 jw cI lw])) (lv' := [(10, .int w0), (0, .int x0), (1, .int x1), (2, .int x2), (3, .ref (jq 0)), (4, .ref (jr 0)), (5, .ref (jw 0)), (6, .int v6), (7, .int v7), (8, .int v8), (9, .int v9)]) (st' := [.int r_32, .int x1, .int v7]) (pc' := 157) (ce' := 0) (sl' := 0) rfl rfl rfl rfl rfl rfl ?_
    refine gw_imul (pc' := 158) κ dL_part_157 rfl  ?_
    refine gw_iload (pc' := 160) κ dL_part_158 rfl 7 rfl ?_
    obtain ⟨hb_33, h⟩ := h
    refine gw_idiv (pc' := 161) κ dL_part_160 rfl hb_33 ?_
    refine gw_goto (tgt := 165) κ dL_part_161 (by decide) ?_
    refine gw_lv (lv' := [(0, .int x0), (1, .int x1), (2, .int x2), (3, .ref (jq 0)), (4, .ref (jr 0)), (5, .ref (jw 0)), (6, .int v6), (8, .int v8), (9, .int v9), (10, .int w0)]) [1, 2, 3, 4, 5, 6, 7, 9, 10, 0] rfl ?_
    exact k_L_part_165 κ jq jr jw P lq lr lw x0 x1 x2 r92 v6 v8 v9 w0 v7 ((x1 * r_32) / v6) hr92 h
set_option maxHeartbeats 4000000 in
set_option maxRecDepth 100000 in
theorem k_L_part_92 {zp : Program} {l : Launch} {ze : Env} {zs : State} {zm : MethodId} {za : Array Value} {zb : List Frame} {zt : Method} {zc : Code} {D : va_G} {cI cR : ClassId} {A : Nat → Prop} (κ : KC zp zs zm za zt zc cL_part 11 RL D cI cR A (some .int)) (jq : Nat → Nat) (jr : Nat → Nat) (jw : Nat → Nat) (P : Int32 → Prop) (lq : Nat → Int32) (lr : Nat → Int32) (lw : Nat → Int32) (x0 : Int32) (x1 : Int32) (x2 : Int32) (v6 : Int32) : ∀ (n : Nat) (v7 : Int32) (v8 : Int32) (v9 : Int32), wp_L_part_92 P lq lr lw x0 x1 x2 v6 n v7 v8 v9 → GM zp l ze ({ frames := 2, cells := 0, slots := 0, locals := 40 } : Room) zs zm za zb zt zc D A 11 (pI (fun (r : Int32) (_ : Unit) => P r)) (fun _ : Unit => (wfl [cA34 jq cI lq, cA24 jr cI lr, cA24 jw cI lw])) 0 0 0 0 (wfl [cA34 jq cI lq, cA24 jr cI lr, cA24 jw cI lw]) [(0, .int x0), (1, .int x1), (2, .int x2), (3, .ref (jq 0)), (4, .ref (jr 0)), (5, .ref (jw 0)), (6, .int v6), (7, .int v7), (8, .int v8), (9, .int v9)] 92 [] := by
  intro n92
  induction n92 with
  | zero => intro v7 v8 v9 h; exact (show False from h).elim
  | succ n92 ih92 =>
    intro v7 v8 v9 h
    have h : wp_L_part_92F P lq lr lw x0 x1 x2 v6 (wp_L_part_92 P lq lr lw x0 x1 x2 v6 n92) v7 v8 v9 := h
    unfold wp_L_part_92F at h
    refine gw_iload (pc' := 94) κ dL_part_92 rfl 9 rfl ?_
    refine gw_aload_n (pc' := 95) κ dL_part_94 rfl 3 rfl rfl ?_
    refine gw_iconst (pc' := 96) (v := 5) κ dL_part_95 rfl (by decide) ?_
    refine gb_iald (pc' := 97) κ dL_part_96 rfl 0 0 rfl rfl (by unfold vp_in; decide) ?_
    refine gw_icmp_ge (pc' := 100) (tgt := 195) κ dL_part_97 rfl (by decide) (fun hc_13 => ?_) (fun hc_13 => ?_)
    · have h := h.1 hc_13
      refine gw_iload_n (pc' := 196) κ dL_part_195 rfl 1 rfl rfl ?_
      refine gw_aload (pc' := 198) κ dL_part_196 rfl 4 rfl ?_
      refine gw_iload_n (pc' := 199) κ dL_part_198 rfl 0 rfl rfl ?_
      obtain ⟨hb_14, h⟩ := h
      refine gb_iald (pc' := 200) κ dL_part_199 rfl 1 0 rfl rfl hb_14 ?_
      refine gb_callS (rest := [.int x1]) κ (c_L_people  (lr x0.toNatClampNeg) h) ⟨rfl, rfl, Nat.le_of_ble_eq_true rfl, Nat.le_of_ble_eq_true rfl⟩ tw_ml_L_20 tw_st_L_people tw_co_L_people tw_in_L hy_L_people rfl (Nat.le_of_ble_eq_true rfl) rfl dL_part_200 [] rfl (by decide) (fun _ => Nat.le_of_ble_eq_true rfl) ⟨Nat.le_of_ble_eq_true rfl, Nat.le_of_ble_eq_true rfl⟩ (fun v u hv => ?_)
      obtain ⟨r_15, rfl, h⟩ := hv
      refine gw_nf (ws' := (wfl [cA34 jq cI lq, cA24 jr cI lr, cA24 jw cI lw])) (lv' := [(0, .int x0), (1, .int x1), (2, .int x2), (3, .ref (jq 0)), (4, .ref (jr 0)), (5, .ref (jw 0)), (6, .int v6), (7, .int v7), (8, .int v8), (9, .int v9)]) (st' := [.int r_15, .int x1]) (pc' := 203) (ce' := 0) (sl' := 0) rfl rfl rfl rfl rfl rfl ?_
      refine gw_imul (pc' := 204) κ dL_part_203 rfl  ?_
      refine gw_iload (pc' := 206) κ dL_part_204 rfl 6 rfl ?_
      obtain ⟨hb_16, h⟩ := h
      refine gw_idiv (pc' := 207) κ dL_part_206 rfl hb_16 ?_
      refine gw_iload (pc' := 209) κ dL_part_207 rfl 8 rfl ?_
      refine gw_iload (pc' := 211) κ dL_part_209 rfl 7 rfl ?_
      refine gw_icmp_ge (pc' := 214) (tgt := 218) κ dL_part_211 rfl (by decide) (fun hc_17 => ?_) (fun hc_17 => ?_)
      · have h := h.1 hc_17
        refine gw_iconst (pc' := 219) (v := 0) κ dL_part_218 rfl (by decide) ?_
        refine gw_iadd (pc' := 220) κ dL_part_219 rfl  ?_
        exact gw_iret κ dL_part_220 () rfl ⟨_, rfl, h⟩
      · have h := h.2 hc_17
        refine gw_iconst (pc' := 215) (v := 1) κ dL_part_214 rfl (by decide) ?_
        refine gw_goto (tgt := 219) κ dL_part_215 (by decide) ?_
        refine gw_iadd (pc' := 220) κ dL_part_219 rfl  ?_
        exact gw_iret κ dL_part_220 () rfl ⟨_, rfl, h⟩
    · have h := h.2 hc_13
      refine gw_aload (pc' := 102) κ dL_part_100 rfl 5 rfl ?_
      refine gw_iload (pc' := 104) κ dL_part_102 rfl 9 rfl ?_
      obtain ⟨hb_18, h⟩ := h
      refine gb_iald (pc' := 105) κ dL_part_104 rfl 2 0 rfl rfl hb_18 ?_
      refine gw_aload (pc' := 107) κ dL_part_105 rfl 5 rfl ?_
      refine gw_iload_n (pc' := 108) κ dL_part_107 rfl 0 rfl rfl ?_
      obtain ⟨hb_19, h⟩ := h
      refine gb_iald (pc' := 109) κ dL_part_108 rfl 2 0 rfl rfl hb_19 ?_
      refine gw_icmp_ne (pc' := 112) (tgt := 138) κ dL_part_109 rfl (by decide) (fun hc_20 => ?_) (fun hc_20 => ?_)
      · have h := h.1 hc_20
        refine gw_iconst (pc' := 139) (v := 0) κ dL_part_138 rfl (by decide) ?_
        refine gw_lv (lv' := [(0, .int x0), (1, .int x1), (2, .int x2), (3, .ref (jq 0)), (4, .ref (jr 0)), (5, .ref (jw 0)), (6, .int v6), (7, .int v7), (8, .int v8), (9, .int v9)]) [0, 1, 2, 3, 4, 5, 6, 7, 8, 9] rfl ?_
        exact k_L_part_139 κ jq jr jw P lq lr lw x0 x1 x2 (wp_L_part_92 P lq lr lw x0 x1 x2 v6 n92) v6 v7 v8 v9 (0 : Int32) ih92 h
      · have h := h.2 hc_20
        refine gw_iload_n (pc' := 113) κ dL_part_112 rfl 2 rfl rfl ?_
        refine gw_if_eq (pc' := 116) (tgt := 134) κ dL_part_113 rfl (by decide) (fun hc_21 => ?_) (fun hc_21 => ?_)
        · have h := h.1 hc_21
          refine gw_iconst (pc' := 135) (v := 1) κ dL_part_134 rfl (by decide) ?_
          refine gw_goto (tgt := 139) κ dL_part_135 (by decide) ?_
          refine gw_lv (lv' := [(0, .int x0), (1, .int x1), (2, .int x2), (3, .ref (jq 0)), (4, .ref (jr 0)), (5, .ref (jw 0)), (6, .int v6), (7, .int v7), (8, .int v8), (9, .int v9)]) [0, 1, 2, 3, 4, 5, 6, 7, 8, 9] rfl ?_
          exact k_L_part_139 κ jq jr jw P lq lr lw x0 x1 x2 (wp_L_part_92 P lq lr lw x0 x1 x2 v6 n92) v6 v7 v8 v9 (1 : Int32) ih92 h
        · have h := h.2 hc_21
          refine gw_aload (pc' := 118) κ dL_part_116 rfl 4 rfl ?_
          refine gw_iload (pc' := 120) κ dL_part_118 rfl 9 rfl ?_
          obtain ⟨hb_22, h⟩ := h
          refine gb_iald (pc' := 121) κ dL_part_120 rfl 1 0 rfl rfl hb_22 ?_
          refine gb_callS (rest := []) κ (c_L_keyOf  (lr v9.toNatClampNeg) h) ⟨rfl, rfl, Nat.le_of_ble_eq_true rfl, Nat.le_of_ble_eq_true rfl⟩ tw_ml_L_29 tw_st_L_keyOf tw_co_L_keyOf tw_in_L hy_L_keyOf rfl (Nat.le_of_ble_eq_true rfl) rfl dL_part_121 [] rfl (by decide) (fun _ => Nat.le_of_ble_eq_true rfl) ⟨Nat.le_of_ble_eq_true rfl, Nat.le_of_ble_eq_true rfl⟩ (fun v u hv => ?_)
          obtain ⟨r_23, rfl, h⟩ := hv
          refine gw_nf (ws' := (wfl [cA34 jq cI lq, cA24 jr cI lr, cA24 jw cI lw])) (lv' := [(0, .int x0), (1, .int x1), (2, .int x2), (3, .ref (jq 0)), (4, .ref (jr 0)), (5, .ref (jw 0)), (6, .int v6), (7, .int v7), (8, .int v8), (9, .int v9)]) (st' := [.int r_23]) (pc' := 124) (ce' := 0) (sl' := 0) rfl rfl rfl rfl rfl rfl ?_
          refine gw_aload (pc' := 126) κ dL_part_124 rfl 4 rfl ?_
          refine gw_iload_n (pc' := 127) κ dL_part_126 rfl 0 rfl rfl ?_
          obtain ⟨hb_24, h⟩ := h
          refine gb_iald (pc' := 128) κ dL_part_127 rfl 1 0 rfl rfl hb_24 ?_
          refine gb_callS (rest := [.int r_23]) κ (c_L_keyOf  (lr x0.toNatClampNeg) h) ⟨rfl, rfl, Nat.le_of_ble_eq_true rfl, Nat.le_of_ble_eq_true rfl⟩ tw_ml_L_29 tw_st_L_keyOf tw_co_L_keyOf tw_in_L hy_L_keyOf rfl (Nat.le_of_ble_eq_true rfl) rfl dL_part_128 [] rfl (by decide) (fun _ => Nat.le_of_ble_eq_true rfl) ⟨Nat.le_of_ble_eq_true rfl, Nat.le_of_ble_eq_true rfl⟩ (fun v u hv => ?_)
          obtain ⟨r_25, rfl, h⟩ := hv
          refine gw_nf (ws' := (wfl [cA34 jq cI lq, cA24 jr cI lr, cA24 jw cI lw])) (lv' := [(0, .int x0), (1, .int x1), (2, .int x2), (3, .ref (jq 0)), (4, .ref (jr 0)), (5, .ref (jw 0)), (6, .int v6), (7, .int v7), (8, .int v8), (9, .int v9)]) (st' := [.int r_25, .int r_23]) (pc' := 131) (ce' := 0) (sl' := 0) rfl rfl rfl rfl rfl rfl ?_
          refine gw_icmp_ne (pc' := 134) (tgt := 138) κ dL_part_131 rfl (by decide) (fun hc_26 => ?_) (fun hc_26 => ?_)
          · have h := h.1 hc_26
            refine gw_iconst (pc' := 139) (v := 0) κ dL_part_138 rfl (by decide) ?_
            refine gw_lv (lv' := [(0, .int x0), (1, .int x1), (2, .int x2), (3, .ref (jq 0)), (4, .ref (jr 0)), (5, .ref (jw 0)), (6, .int v6), (7, .int v7), (8, .int v8), (9, .int v9)]) [0, 1, 2, 3, 4, 5, 6, 7, 8, 9] rfl ?_
            exact k_L_part_139 κ jq jr jw P lq lr lw x0 x1 x2 (wp_L_part_92 P lq lr lw x0 x1 x2 v6 n92) v6 v7 v8 v9 (0 : Int32) ih92 h
          · have h := h.2 hc_26
            refine gw_iconst (pc' := 135) (v := 1) κ dL_part_134 rfl (by decide) ?_
            refine gw_goto (tgt := 139) κ dL_part_135 (by decide) ?_
            refine gw_lv (lv' := [(0, .int x0), (1, .int x1), (2, .int x2), (3, .ref (jq 0)), (4, .ref (jr 0)), (5, .ref (jw 0)), (6, .int v6), (7, .int v7), (8, .int v8), (9, .int v9)]) [0, 1, 2, 3, 4, 5, 6, 7, 8, 9] rfl ?_
            exact k_L_part_139 κ jq jr jw P lq lr lw x0 x1 x2 (wp_L_part_92 P lq lr lw x0 x1 x2 v6 n92) v6 v7 v8 v9 (1 : Int32) ih92 h
set_option maxHeartbeats 4000000 in
set_option maxRecDepth 100000 in
theorem k_L_part_6 {zp : Program} {l : Launch} {ze : Env} {zs : State} {zm : MethodId} {za : Array Value} {zb : List Frame} {zt : Method} {zc : Code} {D : va_G} {cI cR : ClassId} {A : Nat → Prop} (κ : KC zp zs zm za zt zc cL_part 11 RL D cI cR A (some .int)) (jq : Nat → Nat) (jr : Nat → Nat) (jw : Nat → Nat) (P : Int32 → Prop) (lq : Nat → Int32) (lr : Nat → Int32) (lw : Nat → Int32) (x0 : Int32) (x1 : Int32) (x2 : Int32) : ∀ (n : Nat) (v6 : Int32) (v7 : Int32), wp_L_part_6 P lq lr lw x0 x1 x2 n v6 v7 → GM zp l ze ({ frames := 2, cells := 0, slots := 0, locals := 40 } : Room) zs zm za zb zt zc D A 11 (pI (fun (r : Int32) (_ : Unit) => P r)) (fun _ : Unit => (wfl [cA34 jq cI lq, cA24 jr cI lr, cA24 jw cI lw])) 0 0 0 0 (wfl [cA34 jq cI lq, cA24 jr cI lr, cA24 jw cI lw]) [(0, .int x0), (1, .int x1), (2, .int x2), (3, .ref (jq 0)), (4, .ref (jr 0)), (5, .ref (jw 0)), (6, .int v6), (7, .int v7)] 6 [] := by
  intro n6
  induction n6 with
  | zero => intro v6 v7 h; exact (show False from h).elim
  | succ n6 ih6 =>
    intro v6 v7 h
    have h : wp_L_part_6F P lq lr lw x0 x1 x2 (wp_L_part_6 P lq lr lw x0 x1 x2 n6) v6 v7 := h
    unfold wp_L_part_6F at h
    refine gw_iload (pc' := 8) κ dL_part_6 rfl 7 rfl ?_
    refine gw_aload_n (pc' := 9) κ dL_part_8 rfl 3 rfl rfl ?_
    refine gw_iconst (pc' := 10) (v := 5) κ dL_part_9 rfl (by decide) ?_
    refine gb_iald (pc' := 11) κ dL_part_10 rfl 0 0 rfl rfl (by unfold vp_in; decide) ?_
    refine gw_icmp_ge (pc' := 14) (tgt := 83) κ dL_part_11 rfl (by decide) (fun hc_2 => ?_) (fun hc_2 => ?_)
    · have h := h.1 hc_2
      refine gw_iload_n (pc' := 84) κ dL_part_83 rfl 1 rfl rfl ?_
      refine gw_istore (pc' := 86) κ dL_part_84 rfl (by decide) (lv' := [(7, .int x1), (0, .int x0), (1, .int x1), (2, .int x2), (3, .ref (jq 0)), (4, .ref (jr 0)), (5, .ref (jw 0)), (6, .int v6)]) rfl ?_
      refine gw_iconst (pc' := 87) (v := 0) κ dL_part_86 rfl (by decide) ?_
      refine gw_istore (pc' := 89) κ dL_part_87 rfl (by decide) (lv' := [(8, .int (0 : Int32)), (7, .int x1), (0, .int x0), (1, .int x1), (2, .int x2), (3, .ref (jq 0)), (4, .ref (jr 0)), (5, .ref (jw 0)), (6, .int v6)]) rfl ?_
      refine gw_iconst (pc' := 90) (v := 0) κ dL_part_89 rfl (by decide) ?_
      refine gw_istore (pc' := 92) κ dL_part_90 rfl (by decide) (lv' := [(9, .int (0 : Int32)), (8, .int (0 : Int32)), (7, .int x1), (0, .int x0), (1, .int x1), (2, .int x2), (3, .ref (jq 0)), (4, .ref (jr 0)), (5, .ref (jw 0)), (6, .int v6)]) rfl ?_
      obtain ⟨m92, h⟩ := h
      refine gw_lv (lv' := [(0, .int x0), (1, .int x1), (2, .int x2), (3, .ref (jq 0)), (4, .ref (jr 0)), (5, .ref (jw 0)), (6, .int v6), (7, .int x1), (8, .int (0 : Int32)), (9, .int (0 : Int32))]) [3, 4, 5, 6, 7, 8, 9, 2, 1, 0] rfl ?_
      exact k_L_part_92 κ jq jr jw P lq lr lw x0 x1 x2 v6 m92 x1 (0 : Int32) (0 : Int32) h
    · have h := h.2 hc_2
      refine gw_aload (pc' := 16) κ dL_part_14 rfl 5 rfl ?_
      refine gw_iload (pc' := 18) κ dL_part_16 rfl 7 rfl ?_
      obtain ⟨hb_3, h⟩ := h
      refine gb_iald (pc' := 19) κ dL_part_18 rfl 2 0 rfl rfl hb_3 ?_
      refine gw_aload (pc' := 21) κ dL_part_19 rfl 5 rfl ?_
      refine gw_iload_n (pc' := 22) κ dL_part_21 rfl 0 rfl rfl ?_
      obtain ⟨hb_4, h⟩ := h
      refine gb_iald (pc' := 23) κ dL_part_22 rfl 2 0 rfl rfl hb_4 ?_
      refine gw_icmp_ne (pc' := 26) (tgt := 52) κ dL_part_23 rfl (by decide) (fun hc_5 => ?_) (fun hc_5 => ?_)
      · have h := h.1 hc_5
        refine gw_iconst (pc' := 53) (v := 0) κ dL_part_52 rfl (by decide) ?_
        refine gw_lv (lv' := [(0, .int x0), (1, .int x1), (2, .int x2), (3, .ref (jq 0)), (4, .ref (jr 0)), (5, .ref (jw 0)), (6, .int v6), (7, .int v7)]) [0, 1, 2, 3, 4, 5, 6, 7] rfl ?_
        exact k_L_part_53 κ jq jr jw P lq lr lw x0 x1 x2 (wp_L_part_6 P lq lr lw x0 x1 x2 n6) v6 v7 (0 : Int32) ih6 h
      · have h := h.2 hc_5
        refine gw_iload_n (pc' := 27) κ dL_part_26 rfl 2 rfl rfl ?_
        refine gw_if_eq (pc' := 30) (tgt := 48) κ dL_part_27 rfl (by decide) (fun hc_6 => ?_) (fun hc_6 => ?_)
        · have h := h.1 hc_6
          refine gw_iconst (pc' := 49) (v := 1) κ dL_part_48 rfl (by decide) ?_
          refine gw_goto (tgt := 53) κ dL_part_49 (by decide) ?_
          refine gw_lv (lv' := [(0, .int x0), (1, .int x1), (2, .int x2), (3, .ref (jq 0)), (4, .ref (jr 0)), (5, .ref (jw 0)), (6, .int v6), (7, .int v7)]) [0, 1, 2, 3, 4, 5, 6, 7] rfl ?_
          exact k_L_part_53 κ jq jr jw P lq lr lw x0 x1 x2 (wp_L_part_6 P lq lr lw x0 x1 x2 n6) v6 v7 (1 : Int32) ih6 h
        · have h := h.2 hc_6
          refine gw_aload (pc' := 32) κ dL_part_30 rfl 4 rfl ?_
          refine gw_iload (pc' := 34) κ dL_part_32 rfl 7 rfl ?_
          obtain ⟨hb_7, h⟩ := h
          refine gb_iald (pc' := 35) κ dL_part_34 rfl 1 0 rfl rfl hb_7 ?_
          refine gb_callS (rest := []) κ (c_L_keyOf  (lr v7.toNatClampNeg) h) ⟨rfl, rfl, Nat.le_of_ble_eq_true rfl, Nat.le_of_ble_eq_true rfl⟩ tw_ml_L_29 tw_st_L_keyOf tw_co_L_keyOf tw_in_L hy_L_keyOf rfl (Nat.le_of_ble_eq_true rfl) rfl dL_part_35 [] rfl (by decide) (fun _ => Nat.le_of_ble_eq_true rfl) ⟨Nat.le_of_ble_eq_true rfl, Nat.le_of_ble_eq_true rfl⟩ (fun v u hv => ?_)
          obtain ⟨r_8, rfl, h⟩ := hv
          refine gw_nf (ws' := (wfl [cA34 jq cI lq, cA24 jr cI lr, cA24 jw cI lw])) (lv' := [(0, .int x0), (1, .int x1), (2, .int x2), (3, .ref (jq 0)), (4, .ref (jr 0)), (5, .ref (jw 0)), (6, .int v6), (7, .int v7)]) (st' := [.int r_8]) (pc' := 38) (ce' := 0) (sl' := 0) rfl rfl rfl rfl rfl rfl ?_
          refine gw_aload (pc' := 40) κ dL_part_38 rfl 4 rfl ?_
          refine gw_iload_n (pc' := 41) κ dL_part_40 rfl 0 rfl rfl ?_
          obtain ⟨hb_9, h⟩ := h
          refine gb_iald (pc' := 42) κ dL_part_41 rfl 1 0 rfl rfl hb_9 ?_
          refine gb_callS (rest := [.int r_8]) κ (c_L_keyOf  (lr x0.toNatClampNeg) h) ⟨rfl, rfl, Nat.le_of_ble_eq_true rfl, Nat.le_of_ble_eq_true rfl⟩ tw_ml_L_29 tw_st_L_keyOf tw_co_L_keyOf tw_in_L hy_L_keyOf rfl (Nat.le_of_ble_eq_true rfl) rfl dL_part_42 [] rfl (by decide) (fun _ => Nat.le_of_ble_eq_true rfl) ⟨Nat.le_of_ble_eq_true rfl, Nat.le_of_ble_eq_true rfl⟩ (fun v u hv => ?_)
          obtain ⟨r_10, rfl, h⟩ := hv
          refine gw_nf (ws' := (wfl [cA34 jq cI lq, cA24 jr cI lr, cA24 jw cI lw])) (lv' := [(0, .int x0), (1, .int x1), (2, .int x2), (3, .ref (jq 0)), (4, .ref (jr 0)), (5, .ref (jw 0)), (6, .int v6), (7, .int v7)]) (st' := [.int r_10, .int r_8]) (pc' := 45) (ce' := 0) (sl' := 0) rfl rfl rfl rfl rfl rfl ?_
          refine gw_icmp_ne (pc' := 48) (tgt := 52) κ dL_part_45 rfl (by decide) (fun hc_11 => ?_) (fun hc_11 => ?_)
          · have h := h.1 hc_11
            refine gw_iconst (pc' := 53) (v := 0) κ dL_part_52 rfl (by decide) ?_
            refine gw_lv (lv' := [(0, .int x0), (1, .int x1), (2, .int x2), (3, .ref (jq 0)), (4, .ref (jr 0)), (5, .ref (jw 0)), (6, .int v6), (7, .int v7)]) [0, 1, 2, 3, 4, 5, 6, 7] rfl ?_
            exact k_L_part_53 κ jq jr jw P lq lr lw x0 x1 x2 (wp_L_part_6 P lq lr lw x0 x1 x2 n6) v6 v7 (0 : Int32) ih6 h
          · have h := h.2 hc_11
            refine gw_iconst (pc' := 49) (v := 1) κ dL_part_48 rfl (by decide) ?_
            refine gw_goto (tgt := 53) κ dL_part_49 (by decide) ?_
            refine gw_lv (lv' := [(0, .int x0), (1, .int x1), (2, .int x2), (3, .ref (jq 0)), (4, .ref (jr 0)), (5, .ref (jw 0)), (6, .int v6), (7, .int v7)]) [0, 1, 2, 3, 4, 5, 6, 7] rfl ?_
            exact k_L_part_53 κ jq jr jw P lq lr lw x0 x1 x2 (wp_L_part_6 P lq lr lw x0 x1 x2 n6) v6 v7 (1 : Int32) ih6 h
set_option maxHeartbeats 4000000 in
set_option maxRecDepth 100000 in
theorem c_L_part {l : Launch} {D : va_G} {cI cR : ClassId}  (jq : Nat → Nat) (jr : Nat → Nat) (jw : Nat → Nat) {P : Int32 → Prop} (lq : Nat → Int32) (lr : Nat → Int32) (lw : Nat → Int32) (x0 : Int32) (x1 : Int32) (x2 : Int32) (h : wp_L_part P lq lr lw x0 x1 x2) : CT l D cI cR yL_part cL_part 11 (some .int) ({ frames := 2, cells := 0, slots := 0, locals := 40 } : Room) [.int x0, .int x1, .int x2, .ref (jq 0), .ref (jr 0), .ref (jw 0)] (wfl [cA34 jq cI lq, cA24 jr cI lr, cA24 jw cI lw]) (fun _ : Unit => (wfl [cA34 jq cI lq, cA24 jr cI lr, cA24 jw cI lw])) (pI (fun (r : Int32) (_ : Unit) => P r)) 0 0 := by
  refine ct_of RL rfl (by decide +kernel) (Nat.le_of_ble_eq_true rfl) (fun zp ze zs zm zb zt zc A hin κ => ?_)
  unfold wp_L_part at h
  refine gw_nf (lv' := [(0, .int x0), (1, .int x1), (2, .int x2), (3, .ref (jq 0)), (4, .ref (jr 0)), (5, .ref (jw 0))]) (pc' := 0) (st' := []) (ce' := 0) (sl' := 0) rfl rfl rfl rfl rfl rfl ?_
  refine gw_iconst (pc' := 1) (v := 0) κ dL_part_0 rfl (by decide) ?_
  refine gw_istore (pc' := 3) κ dL_part_1 rfl (by decide) (lv' := [(6, .int (0 : Int32)), (0, .int x0), (1, .int x1), (2, .int x2), (3, .ref (jq 0)), (4, .ref (jr 0)), (5, .ref (jw 0))]) rfl ?_
  refine gw_iconst (pc' := 4) (v := 0) κ dL_part_3 rfl (by decide) ?_
  refine gw_istore (pc' := 6) κ dL_part_4 rfl (by decide) (lv' := [(7, .int (0 : Int32)), (6, .int (0 : Int32)), (0, .int x0), (1, .int x1), (2, .int x2), (3, .ref (jq 0)), (4, .ref (jr 0)), (5, .ref (jw 0))]) rfl ?_
  obtain ⟨m6, h⟩ := h
  refine gw_lv (lv' := [(0, .int x0), (1, .int x1), (2, .int x2), (3, .ref (jq 0)), (4, .ref (jr 0)), (5, .ref (jw 0)), (6, .int (0 : Int32)), (7, .int (0 : Int32))]) [2, 3, 4, 5, 6, 7, 1, 0] rfl ?_
  exact k_L_part_6 κ jq jr jw P lq lr lw x0 x1 x2 m6 (0 : Int32) (0 : Int32) h
theorem hy_L_isRider : g_hy yL_isRider 5 := by decide +kernel
set_option maxHeartbeats 4000000 in
set_option maxRecDepth 100000 in
theorem k_L_isRider_176 {zp : Program} {l : Launch} {ze : Env} {zs : State} {zm : MethodId} {za : Array Value} {zb : List Frame} {zt : Method} {zc : Code} {D : va_G} {cI cR : ClassId} {A : Nat → Prop} (κ : KC zp zs zm za zt zc cL_isRider 10 RL D cI cR A (some .boolean)) (qx : Nat → Nat) (qn : Nat → Nat) (qp : Nat → Nat) (qw : Nat → Nat) (qt : Nat → Nat) (qu : Nat → Nat) (qd : Nat → Nat) (qh : Nat → Nat) (ql : Nat → Nat) (jq : Nat → Nat) (jr : Nat → Nat) (jw : Nat → Nat) (qs : Nat → Nat → Nat) (P : Int32 → (Nat → Int32) → (Nat → Int32) → (Nat → Int32) → Int32 → Prop) (now : StT) (pln : PlT) (way : WyT) (lq : Nat → Int32) (lr : Nat → Int32) (lw : Nat → Int32) (x1 : Int32) (v5 : Int32) (v6 : Int32) (v7 : Int32) (way_ky : Nat → Int32) (way_wp : Nat → Int32) (way_mi : Nat → Int32) (way_so : Int32) : ∀ (n : Nat) (v8 : Int32) (v9 : Int32), wp_L_isRider_176 P now pln way lq lr lw x1 v5 v6 v7 way_ky way_wp way_mi way_so n v8 v9 → GM zp l ze ({ frames := 5, cells := 0, slots := 0, locals := 118 } : Room) zs zm za zb zt zc D A 10 (pI (fun (r : Int32) (u : (Nat → Int32) × (Nat → Int32) × (Nat → Int32) × Int32) => P r u.1 u.2.1 u.2.2.1 u.2.2.2)) (fun u : (Nat → Int32) × (Nat → Int32) × (Nat → Int32) × Int32 => (wfl [cX qx qn qp qw qt qu qd qh ql, cSt qn cI now.se now.la now.de now.le now.sa now.fl now.ar now.dr now.pe now.ri, cPl qp cI pln.od pln.rd pln.vn pln.pn pln.ao pln.sr pln.sp pln.wt, cWy qw cI u.1 u.2.1 u.2.2.1 u.2.2.2, cA34 jq cI lq, cA24 jr cI lr, cA24 jw cI lw])) 0 0 0 0 (wfl [cX qx qn qp qw qt qu qd qh ql, cSt qn cI now.se now.la now.de now.le now.sa now.fl now.ar now.dr now.pe now.ri, cPl qp cI pln.od pln.rd pln.vn pln.pn pln.ao pln.sr pln.sp pln.wt, cWy qw cI way_ky way_wp way_mi way_so, cA34 jq cI lq, cA24 jr cI lr, cA24 jw cI lw]) [(0, .ref (qx 0)), (1, .int x1), (2, .ref (jq 0)), (3, .ref (jr 0)), (4, .ref (jw 0)), (5, .int v5), (6, .int v6), (7, .int v7), (8, .int v8), (9, .int v9)] 176 [] := by
  intro n176
  induction n176 with
  | zero => intro v8 v9 h; exact (show False from h).elim
  | succ n176 ih176 =>
    intro v8 v9 h
    have h : wp_L_isRider_176F P now pln way lq lr lw x1 v5 v6 v7 way_ky way_wp way_mi way_so (wp_L_isRider_176 P now pln way lq lr lw x1 v5 v6 v7 way_ky way_wp way_mi way_so n176) v8 v9 := h
    unfold wp_L_isRider_176F at h
    refine gw_iload (pc' := 178) κ dL_isRider_176 rfl 9 rfl ?_
    refine gw_aload_n (pc' := 179) κ dL_isRider_178 rfl 2 rfl rfl ?_
    refine gw_iconst (pc' := 180) (v := 5) κ dL_isRider_179 rfl (by decide) ?_
    refine gb_iald (pc' := 181) κ dL_isRider_180 rfl 4 0 rfl rfl (by unfold vp_in; decide) ?_
    refine gw_icmp_ge (pc' := 184) (tgt := 225) κ dL_isRider_181 rfl (by decide) (fun hc_72 => ?_) (fun hc_72 => ?_)
    · have h := h.1 hc_72
      refine gw_iload (pc' := 227) κ dL_isRider_225 rfl 7 rfl ?_
      refine gw_if_eq (pc' := 230) (tgt := 329) κ dL_isRider_227 rfl (by decide) (fun hc_73 => ?_) (fun hc_73 => ?_)
      · have h := h.1 hc_73
        refine gw_iconst (pc' := 330) (v := 0) κ dL_isRider_329 rfl (by decide) ?_
        exact gw_zret κ dL_isRider_330 (way_ky, way_wp, way_mi, way_so) rfl rfl ⟨_, rfl, h⟩
      · have h := h.2 hc_73
        refine gw_aload_n (pc' := 231) κ dL_isRider_230 rfl 0 rfl rfl ?_
        refine gw_iload_n (pc' := 232) κ dL_isRider_231 rfl 1 rfl rfl ?_
        refine gw_bipush (pc' := 234) (v := 6) κ dL_isRider_232 rfl (by decide) ?_
        refine gb_callV (ci := 5) (qb := 0) (rest := []) κ (c_X5_rider qx qn qp qw qt qu qd qh ql qs now pln (mkWy way_ky way_wp way_mi way_so) x1 (6 : Int32) h) ⟨rfl, rfl, Nat.le_of_ble_eq_true rfl, Nat.le_of_ble_eq_true rfl⟩ tw_ml_L_39 tw_im_X5_rider tw_se_X5_rider tw_co_X5_rider tw_in_X5 hy_X5_rider rfl rfl rfl rfl rfl (Nat.le_of_ble_eq_true rfl) rfl dL_isRider_234 [0, 1, 2, 3] rfl (by decide) (fun _ => Nat.le_of_ble_eq_true rfl) ⟨Nat.le_of_ble_eq_true rfl, Nat.le_of_ble_eq_true rfl⟩ (fun v u hv => ?_)
        obtain ⟨r_78, rfl, h⟩ := hv
        obtain ⟨ky_74, wp_75, mi_76, so_77⟩ := u
        refine gw_nf (ws' := (wfl [cX qx qn qp qw qt qu qd qh ql, cSt qn cI now.se now.la now.de now.le now.sa now.fl now.ar now.dr now.pe now.ri, cPl qp cI pln.od pln.rd pln.vn pln.pn pln.ao pln.sr pln.sp pln.wt, cWy qw cI ky_74 wp_75 mi_76 so_77, cA34 jq cI lq, cA24 jr cI lr, cA24 jw cI lw])) (lv' := [(0, .ref (qx 0)), (1, .int x1), (2, .ref (jq 0)), (3, .ref (jr 0)), (4, .ref (jw 0)), (5, .int v5), (6, .int v6), (7, .int v7), (8, .int v8), (9, .int v9)]) (st' := [.int r_78]) (pc' := 237) (ce' := 0) (sl' := 0) rfl rfl rfl rfl rfl rfl ?_
        refine gw_aload_n (pc' := 238) κ dL_isRider_237 rfl 2 rfl rfl ?_
        refine gw_bipush (pc' := 240) (v := 18) κ dL_isRider_238 rfl (by decide) ?_
        refine gw_iload (pc' := 242) κ dL_isRider_240 rfl 6 rfl ?_
        refine gw_iadd (pc' := 243) κ dL_isRider_242 rfl  ?_
        obtain ⟨hb_79, h⟩ := h
        refine gb_iald (pc' := 244) κ dL_isRider_243 rfl 4 0 rfl rfl hb_79 ?_
        refine gw_iload (pc' := 246) κ dL_isRider_244 rfl 5 rfl ?_
        refine gw_aload_n (pc' := 247) κ dL_isRider_246 rfl 2 rfl rfl ?_
        refine gb_callS (rest := [.int (lq ((18 : Int32) + v6).toNatClampNeg), .int r_78]) κ (c_L_ready jq lq v5 h) ⟨rfl, rfl, Nat.le_of_ble_eq_true rfl, Nat.le_of_ble_eq_true rfl⟩ tw_ml_L_16 tw_st_L_ready tw_co_L_ready tw_in_L hy_L_ready rfl (Nat.le_of_ble_eq_true rfl) rfl dL_isRider_247 [4] rfl (by decide) (fun _ => Nat.le_of_ble_eq_true rfl) ⟨Nat.le_of_ble_eq_true rfl, Nat.le_of_ble_eq_true rfl⟩ (fun v u hv => ?_)
        obtain ⟨r_80, rfl, h⟩ := hv
        refine gw_nf (ws' := (wfl [cX qx qn qp qw qt qu qd qh ql, cSt qn cI now.se now.la now.de now.le now.sa now.fl now.ar now.dr now.pe now.ri, cPl qp cI pln.od pln.rd pln.vn pln.pn pln.ao pln.sr pln.sp pln.wt, cWy qw cI ky_74 wp_75 mi_76 so_77, cA34 jq cI lq, cA24 jr cI lr, cA24 jw cI lw])) (lv' := [(0, .ref (qx 0)), (1, .int x1), (2, .ref (jq 0)), (3, .ref (jr 0)), (4, .ref (jw 0)), (5, .int v5), (6, .int v6), (7, .int v7), (8, .int v8), (9, .int v9)]) (st' := [.int r_80, .int (lq ((18 : Int32) + v6).toNatClampNeg), .int r_78]) (pc' := 250) (ce' := 0) (sl' := 0) rfl rfl rfl rfl rfl rfl ?_
        refine gw_isub (pc' := 251) κ dL_isRider_250 rfl  ?_
        refine gw_icmp_ne (pc' := 254) (tgt := 329) κ dL_isRider_251 rfl (by decide) (fun hc_81 => ?_) (fun hc_81 => ?_)
        · have h := h.1 hc_81
          refine gw_iconst (pc' := 330) (v := 0) κ dL_isRider_329 rfl (by decide) ?_
          exact gw_zret κ dL_isRider_330 (ky_74, wp_75, mi_76, so_77) rfl rfl ⟨_, rfl, h⟩
        · have h := h.2 hc_81
          refine gw_aload_n (pc' := 255) κ dL_isRider_254 rfl 0 rfl rfl ?_
          refine gw_iload_n (pc' := 256) κ dL_isRider_255 rfl 1 rfl rfl ?_
          refine gw_bipush (pc' := 258) (v := 7) κ dL_isRider_256 rfl (by decide) ?_
          refine gb_callV (ci := 5) (qb := 0) (rest := []) κ (c_X5_rider qx qn qp qw qt qu qd qh ql qs now pln (mkWy ky_74 wp_75 mi_76 so_77) x1 (7 : Int32) h) ⟨rfl, rfl, Nat.le_of_ble_eq_true rfl, Nat.le_of_ble_eq_true rfl⟩ tw_ml_L_39 tw_im_X5_rider tw_se_X5_rider tw_co_X5_rider tw_in_X5 hy_X5_rider rfl rfl rfl rfl rfl (Nat.le_of_ble_eq_true rfl) rfl dL_isRider_258 [0, 1, 2, 3] rfl (by decide) (fun _ => Nat.le_of_ble_eq_true rfl) ⟨Nat.le_of_ble_eq_true rfl, Nat.le_of_ble_eq_true rfl⟩ (fun v u hv => ?_)
          obtain ⟨r_86, rfl, h⟩ := hv
          obtain ⟨ky_82, wp_83, mi_84, so_85⟩ := u
          refine gw_nf (ws' := (wfl [cX qx qn qp qw qt qu qd qh ql, cSt qn cI now.se now.la now.de now.le now.sa now.fl now.ar now.dr now.pe now.ri, cPl qp cI pln.od pln.rd pln.vn pln.pn pln.ao pln.sr pln.sp pln.wt, cWy qw cI ky_82 wp_83 mi_84 so_85, cA34 jq cI lq, cA24 jr cI lr, cA24 jw cI lw])) (lv' := [(0, .ref (qx 0)), (1, .int x1), (2, .ref (jq 0)), (3, .ref (jr 0)), (4, .ref (jw 0)), (5, .int v5), (6, .int v6), (7, .int v7), (8, .int v8), (9, .int v9)]) (st' := [.int r_86]) (pc' := 261) (ce' := 0) (sl' := 0) rfl rfl rfl rfl rfl rfl ?_
          refine gw_iload (pc' := 263) κ dL_isRider_261 rfl 6 rfl ?_
          refine gw_iload (pc' := 265) κ dL_isRider_263 rfl 5 rfl ?_
          refine gb_callS (rest := [.int v6, .int r_86]) κ (c_L_keyOf  v5 h) ⟨rfl, rfl, Nat.le_of_ble_eq_true rfl, Nat.le_of_ble_eq_true rfl⟩ tw_ml_L_29 tw_st_L_keyOf tw_co_L_keyOf tw_in_L hy_L_keyOf rfl (Nat.le_of_ble_eq_true rfl) rfl dL_isRider_265 [] rfl (by decide) (fun _ => Nat.le_of_ble_eq_true rfl) ⟨Nat.le_of_ble_eq_true rfl, Nat.le_of_ble_eq_true rfl⟩ (fun v u hv => ?_)
          obtain ⟨r_87, rfl, h⟩ := hv
          refine gw_nf (ws' := (wfl [cX qx qn qp qw qt qu qd qh ql, cSt qn cI now.se now.la now.de now.le now.sa now.fl now.ar now.dr now.pe now.ri, cPl qp cI pln.od pln.rd pln.vn pln.pn pln.ao pln.sr pln.sp pln.wt, cWy qw cI ky_82 wp_83 mi_84 so_85, cA34 jq cI lq, cA24 jr cI lr, cA24 jw cI lw])) (lv' := [(0, .ref (qx 0)), (1, .int x1), (2, .ref (jq 0)), (3, .ref (jr 0)), (4, .ref (jw 0)), (5, .int v5), (6, .int v6), (7, .int v7), (8, .int v8), (9, .int v9)]) (st' := [.int r_87, .int v6, .int r_86]) (pc' := 268) (ce' := 0) (sl' := 0) rfl rfl rfl rfl rfl rfl ?_
          refine gw_aload_n (pc' := 269) κ dL_isRider_268 rfl 2 rfl rfl ?_
          refine gw_aload_n (pc' := 270) κ dL_isRider_269 rfl 3 rfl rfl ?_
          refine gw_aload (pc' := 272) κ dL_isRider_270 rfl 4 rfl ?_
          refine gb_callS (rest := [.int r_86]) κ (c_L_minuteAt jq jr jw lq lr lw v6 r_87 h) ⟨rfl, rfl, Nat.le_of_ble_eq_true rfl, Nat.le_of_ble_eq_true rfl⟩ tw_ml_L_45 tw_st_L_minuteAt tw_co_L_minuteAt tw_in_L hy_L_minuteAt rfl (Nat.le_of_ble_eq_true rfl) rfl dL_isRider_272 [4, 5, 6] rfl (by decide) (fun _ => Nat.le_of_ble_eq_true rfl) ⟨Nat.le_of_ble_eq_true rfl, Nat.le_of_ble_eq_true rfl⟩ (fun v u hv => ?_)
          obtain ⟨r_88, rfl, h⟩ := hv
          refine gw_nf (ws' := (wfl [cX qx qn qp qw qt qu qd qh ql, cSt qn cI now.se now.la now.de now.le now.sa now.fl now.ar now.dr now.pe now.ri, cPl qp cI pln.od pln.rd pln.vn pln.pn pln.ao pln.sr pln.sp pln.wt, cWy qw cI ky_82 wp_83 mi_84 so_85, cA34 jq cI lq, cA24 jr cI lr, cA24 jw cI lw])) (lv' := [(0, .ref (qx 0)), (1, .int x1), (2, .ref (jq 0)), (3, .ref (jr 0)), (4, .ref (jw 0)), (5, .int v5), (6, .int v6), (7, .int v7), (8, .int v8), (9, .int v9)]) (st' := [.int r_88, .int r_86]) (pc' := 275) (ce' := 0) (sl' := 0) rfl rfl rfl rfl rfl rfl ?_
          refine gw_icmp_ne (pc' := 278) (tgt := 329) κ dL_isRider_275 rfl (by decide) (fun hc_89 => ?_) (fun hc_89 => ?_)
          · have h := h.1 hc_89
            refine gw_iconst (pc' := 330) (v := 0) κ dL_isRider_329 rfl (by decide) ?_
            exact gw_zret κ dL_isRider_330 (ky_82, wp_83, mi_84, so_85) rfl rfl ⟨_, rfl, h⟩
          · have h := h.2 hc_89
            refine gw_aload_n (pc' := 279) κ dL_isRider_278 rfl 0 rfl rfl ?_
            refine gw_iload_n (pc' := 280) κ dL_isRider_279 rfl 1 rfl rfl ?_
            refine gw_bipush (pc' := 282) (v := 8) κ dL_isRider_280 rfl (by decide) ?_
            refine gb_callV (ci := 5) (qb := 0) (rest := []) κ (c_X5_rider qx qn qp qw qt qu qd qh ql qs now pln (mkWy ky_82 wp_83 mi_84 so_85) x1 (8 : Int32) h) ⟨rfl, rfl, Nat.le_of_ble_eq_true rfl, Nat.le_of_ble_eq_true rfl⟩ tw_ml_L_39 tw_im_X5_rider tw_se_X5_rider tw_co_X5_rider tw_in_X5 hy_X5_rider rfl rfl rfl rfl rfl (Nat.le_of_ble_eq_true rfl) rfl dL_isRider_282 [0, 1, 2, 3] rfl (by decide) (fun _ => Nat.le_of_ble_eq_true rfl) ⟨Nat.le_of_ble_eq_true rfl, Nat.le_of_ble_eq_true rfl⟩ (fun v u hv => ?_)
            obtain ⟨r_94, rfl, h⟩ := hv
            obtain ⟨ky_90, wp_91, mi_92, so_93⟩ := u
            refine gw_nf (ws' := (wfl [cX qx qn qp qw qt qu qd qh ql, cSt qn cI now.se now.la now.de now.le now.sa now.fl now.ar now.dr now.pe now.ri, cPl qp cI pln.od pln.rd pln.vn pln.pn pln.ao pln.sr pln.sp pln.wt, cWy qw cI ky_90 wp_91 mi_92 so_93, cA34 jq cI lq, cA24 jr cI lr, cA24 jw cI lw])) (lv' := [(0, .ref (qx 0)), (1, .int x1), (2, .ref (jq 0)), (3, .ref (jr 0)), (4, .ref (jw 0)), (5, .int v5), (6, .int v6), (7, .int v7), (8, .int v8), (9, .int v9)]) (st' := [.int r_94]) (pc' := 285) (ce' := 0) (sl' := 0) rfl rfl rfl rfl rfl rfl ?_
            refine gw_iload_n (pc' := 286) κ dL_isRider_285 rfl 1 rfl rfl ?_
            refine gw_aload_n (pc' := 287) κ dL_isRider_286 rfl 2 rfl rfl ?_
            refine gw_iconst (pc' := 288) (v := 3) κ dL_isRider_287 rfl (by decide) ?_
            refine gb_iald (pc' := 289) κ dL_isRider_288 rfl 4 0 rfl rfl (by unfold vp_in; decide) ?_
            refine gw_iconst (pc' := 290) (v := 0) κ dL_isRider_289 rfl (by decide) ?_
            refine gw_aload_n (pc' := 291) κ dL_isRider_290 rfl 2 rfl rfl ?_
            refine gw_aload_n (pc' := 292) κ dL_isRider_291 rfl 3 rfl rfl ?_
            refine gw_aload (pc' := 294) κ dL_isRider_292 rfl 4 rfl ?_
            refine gb_callS (rest := [.int r_94]) κ (c_L_part jq jr jw lq lr lw x1 (lq (3 : Int32).toNatClampNeg) (0 : Int32) h) ⟨rfl, rfl, Nat.le_of_ble_eq_true rfl, Nat.le_of_ble_eq_true rfl⟩ tw_ml_L_48 tw_st_L_part tw_co_L_part tw_in_L hy_L_part rfl (Nat.le_of_ble_eq_true rfl) rfl dL_isRider_294 [4, 5, 6] rfl (by decide) (fun _ => Nat.le_of_ble_eq_true rfl) ⟨Nat.le_of_ble_eq_true rfl, Nat.le_of_ble_eq_true rfl⟩ (fun v u hv => ?_)
            obtain ⟨r_96, rfl, h⟩ := hv
            refine gw_nf (ws' := (wfl [cX qx qn qp qw qt qu qd qh ql, cSt qn cI now.se now.la now.de now.le now.sa now.fl now.ar now.dr now.pe now.ri, cPl qp cI pln.od pln.rd pln.vn pln.pn pln.ao pln.sr pln.sp pln.wt, cWy qw cI ky_90 wp_91 mi_92 so_93, cA34 jq cI lq, cA24 jr cI lr, cA24 jw cI lw])) (lv' := [(0, .ref (qx 0)), (1, .int x1), (2, .ref (jq 0)), (3, .ref (jr 0)), (4, .ref (jw 0)), (5, .int v5), (6, .int v6), (7, .int v7), (8, .int v8), (9, .int v9)]) (st' := [.int r_96, .int r_94]) (pc' := 297) (ce' := 0) (sl' := 0) rfl rfl rfl rfl rfl rfl ?_
            refine gw_iload_n (pc' := 298) κ dL_isRider_297 rfl 1 rfl rfl ?_
            refine gw_aload_n (pc' := 299) κ dL_isRider_298 rfl 2 rfl rfl ?_
            refine gw_iconst (pc' := 300) (v := 4) κ dL_isRider_299 rfl (by decide) ?_
            refine gb_iald (pc' := 301) κ dL_isRider_300 rfl 4 0 rfl rfl (by unfold vp_in; decide) ?_
            refine gw_iconst (pc' := 302) (v := 1) κ dL_isRider_301 rfl (by decide) ?_
            refine gw_aload_n (pc' := 303) κ dL_isRider_302 rfl 2 rfl rfl ?_
            refine gw_aload_n (pc' := 304) κ dL_isRider_303 rfl 3 rfl rfl ?_
            refine gw_aload (pc' := 306) κ dL_isRider_304 rfl 4 rfl ?_
            refine gb_callS (rest := [.int r_96, .int r_94]) κ (c_L_part jq jr jw lq lr lw x1 (lq (4 : Int32).toNatClampNeg) (1 : Int32) h) ⟨rfl, rfl, Nat.le_of_ble_eq_true rfl, Nat.le_of_ble_eq_true rfl⟩ tw_ml_L_48 tw_st_L_part tw_co_L_part tw_in_L hy_L_part rfl (Nat.le_of_ble_eq_true rfl) rfl dL_isRider_306 [4, 5, 6] rfl (by decide) (fun _ => Nat.le_of_ble_eq_true rfl) ⟨Nat.le_of_ble_eq_true rfl, Nat.le_of_ble_eq_true rfl⟩ (fun v u hv => ?_)
            obtain ⟨r_98, rfl, h⟩ := hv
            refine gw_nf (ws' := (wfl [cX qx qn qp qw qt qu qd qh ql, cSt qn cI now.se now.la now.de now.le now.sa now.fl now.ar now.dr now.pe now.ri, cPl qp cI pln.od pln.rd pln.vn pln.pn pln.ao pln.sr pln.sp pln.wt, cWy qw cI ky_90 wp_91 mi_92 so_93, cA34 jq cI lq, cA24 jr cI lr, cA24 jw cI lw])) (lv' := [(0, .ref (qx 0)), (1, .int x1), (2, .ref (jq 0)), (3, .ref (jr 0)), (4, .ref (jw 0)), (5, .int v5), (6, .int v6), (7, .int v7), (8, .int v8), (9, .int v9)]) (st' := [.int r_98, .int r_96, .int r_94]) (pc' := 309) (ce' := 0) (sl' := 0) rfl rfl rfl rfl rfl rfl ?_
            refine gw_iadd (pc' := 310) κ dL_isRider_309 rfl  ?_
            refine gw_icmp_ne (pc' := 313) (tgt := 329) κ dL_isRider_310 rfl (by decide) (fun hc_99 => ?_) (fun hc_99 => ?_)
            · have h := h.1 hc_99
              refine gw_iconst (pc' := 330) (v := 0) κ dL_isRider_329 rfl (by decide) ?_
              exact gw_zret κ dL_isRider_330 (ky_90, wp_91, mi_92, so_93) rfl rfl ⟨_, rfl, h⟩
            · have h := h.2 hc_99
              refine gw_aload_n (pc' := 314) κ dL_isRider_313 rfl 0 rfl rfl ?_
              refine gw_iload_n (pc' := 315) κ dL_isRider_314 rfl 1 rfl rfl ?_
              refine gw_bipush (pc' := 317) (v := 9) κ dL_isRider_315 rfl (by decide) ?_
              refine gb_callV (ci := 5) (qb := 0) (rest := []) κ (c_X5_rider qx qn qp qw qt qu qd qh ql qs now pln (mkWy ky_90 wp_91 mi_92 so_93) x1 (9 : Int32) h) ⟨rfl, rfl, Nat.le_of_ble_eq_true rfl, Nat.le_of_ble_eq_true rfl⟩ tw_ml_L_39 tw_im_X5_rider tw_se_X5_rider tw_co_X5_rider tw_in_X5 hy_X5_rider rfl rfl rfl rfl rfl (Nat.le_of_ble_eq_true rfl) rfl dL_isRider_317 [0, 1, 2, 3] rfl (by decide) (fun _ => Nat.le_of_ble_eq_true rfl) ⟨Nat.le_of_ble_eq_true rfl, Nat.le_of_ble_eq_true rfl⟩ (fun v u hv => ?_)
              obtain ⟨r_104, rfl, h⟩ := hv
              obtain ⟨ky_100, wp_101, mi_102, so_103⟩ := u
              refine gw_nf (ws' := (wfl [cX qx qn qp qw qt qu qd qh ql, cSt qn cI now.se now.la now.de now.le now.sa now.fl now.ar now.dr now.pe now.ri, cPl qp cI pln.od pln.rd pln.vn pln.pn pln.ao pln.sr pln.sp pln.wt, cWy qw cI ky_100 wp_101 mi_102 so_103, cA34 jq cI lq, cA24 jr cI lr, cA24 jw cI lw])) (lv' := [(0, .ref (qx 0)), (1, .int x1), (2, .ref (jq 0)), (3, .ref (jr 0)), (4, .ref (jw 0)), (5, .int v5), (6, .int v6), (7, .int v7), (8, .int v8), (9, .int v9)]) (st' := [.int r_104]) (pc' := 320) (ce' := 0) (sl' := 0) rfl rfl rfl rfl rfl rfl ?_
              refine gw_iload (pc' := 322) κ dL_isRider_320 rfl 8 rfl ?_
              refine gw_icmp_ne (pc' := 325) (tgt := 329) κ dL_isRider_322 rfl (by decide) (fun hc_105 => ?_) (fun hc_105 => ?_)
              · have h := h.1 hc_105
                refine gw_iconst (pc' := 330) (v := 0) κ dL_isRider_329 rfl (by decide) ?_
                exact gw_zret κ dL_isRider_330 (ky_100, wp_101, mi_102, so_103) rfl rfl ⟨_, rfl, h⟩
              · have h := h.2 hc_105
                refine gw_iconst (pc' := 326) (v := 1) κ dL_isRider_325 rfl (by decide) ?_
                refine gw_goto (tgt := 330) κ dL_isRider_326 (by decide) ?_
                exact gw_zret κ dL_isRider_330 (ky_100, wp_101, mi_102, so_103) rfl rfl ⟨_, rfl, h⟩
    · have h := h.2 hc_72
      refine gw_iload (pc' := 186) κ dL_isRider_184 rfl 8 rfl ?_
      refine gw_aload (pc' := 188) κ dL_isRider_186 rfl 4 rfl ?_
      refine gw_iload (pc' := 190) κ dL_isRider_188 rfl 9 rfl ?_
      obtain ⟨hb_106, h⟩ := h
      refine gb_iald (pc' := 191) κ dL_isRider_190 rfl 6 0 rfl rfl hb_106 ?_
      refine gw_iload (pc' := 193) κ dL_isRider_191 rfl 6 rfl ?_
      refine gw_icmp_ne (pc' := 196) (tgt := 215) κ dL_isRider_193 rfl (by decide) (fun hc_107 => ?_) (fun hc_107 => ?_)
      · have h := h.1 hc_107
        refine gw_iconst (pc' := 216) (v := 0) κ dL_isRider_215 rfl (by decide) ?_
        refine gw_iadd (pc' := 217) κ dL_isRider_216 rfl  ?_
        refine gw_istore (pc' := 219) κ dL_isRider_217 rfl (by decide) (lv' := [(8, .int (v8 + (0 : Int32))), (0, .ref (qx 0)), (1, .int x1), (2, .ref (jq 0)), (3, .ref (jr 0)), (4, .ref (jw 0)), (5, .int v5), (6, .int v6), (7, .int v7), (9, .int v9)]) rfl ?_
        refine gw_iinc (pc' := 222) κ dL_isRider_219 rfl 9 rfl (v := (v9 + 1)) rfl (by decide) (lv' := [(9, .int (v9 + 1)), (8, .int (v8 + (0 : Int32))), (0, .ref (qx 0)), (1, .int x1), (2, .ref (jq 0)), (3, .ref (jr 0)), (4, .ref (jw 0)), (5, .int v5), (6, .int v6), (7, .int v7)]) rfl ?_
        refine gw_goto (tgt := 176) κ dL_isRider_222 (by decide) ?_
        refine gw_lv (lv' := [(0, .ref (qx 0)), (1, .int x1), (2, .ref (jq 0)), (3, .ref (jr 0)), (4, .ref (jw 0)), (5, .int v5), (6, .int v6), (7, .int v7), (8, .int (v8 + (0 : Int32))), (9, .int (v9 + 1))]) [2, 3, 4, 5, 6, 7, 8, 9, 1, 0] rfl ?_
        exact ih176 (v8 + (0 : Int32)) (v9 + 1) h
      · have h := h.2 hc_107
        refine gw_aload_n (pc' := 197) κ dL_isRider_196 rfl 3 rfl rfl ?_
        refine gw_iload (pc' := 199) κ dL_isRider_197 rfl 9 rfl ?_
        obtain ⟨hb_108, h⟩ := h
        refine gb_iald (pc' := 200) κ dL_isRider_199 rfl 5 0 rfl rfl hb_108 ?_
        refine gb_callS (rest := [.int v8]) κ (c_L_keyOf  (lr v9.toNatClampNeg) h) ⟨rfl, rfl, Nat.le_of_ble_eq_true rfl, Nat.le_of_ble_eq_true rfl⟩ tw_ml_L_29 tw_st_L_keyOf tw_co_L_keyOf tw_in_L hy_L_keyOf rfl (Nat.le_of_ble_eq_true rfl) rfl dL_isRider_200 [] rfl (by decide) (fun _ => Nat.le_of_ble_eq_true rfl) ⟨Nat.le_of_ble_eq_true rfl, Nat.le_of_ble_eq_true rfl⟩ (fun v u hv => ?_)
        obtain ⟨r_109, rfl, h⟩ := hv
        refine gw_nf (ws' := (wfl [cX qx qn qp qw qt qu qd qh ql, cSt qn cI now.se now.la now.de now.le now.sa now.fl now.ar now.dr now.pe now.ri, cPl qp cI pln.od pln.rd pln.vn pln.pn pln.ao pln.sr pln.sp pln.wt, cWy qw cI way_ky way_wp way_mi way_so, cA34 jq cI lq, cA24 jr cI lr, cA24 jw cI lw])) (lv' := [(0, .ref (qx 0)), (1, .int x1), (2, .ref (jq 0)), (3, .ref (jr 0)), (4, .ref (jw 0)), (5, .int v5), (6, .int v6), (7, .int v7), (8, .int v8), (9, .int v9)]) (st' := [.int r_109, .int v8]) (pc' := 203) (ce' := 0) (sl' := 0) rfl rfl rfl rfl rfl rfl ?_
        refine gw_iload (pc' := 205) κ dL_isRider_203 rfl 5 rfl ?_
        refine gb_callS (rest := [.int r_109, .int v8]) κ (c_L_keyOf  v5 h) ⟨rfl, rfl, Nat.le_of_ble_eq_true rfl, Nat.le_of_ble_eq_true rfl⟩ tw_ml_L_29 tw_st_L_keyOf tw_co_L_keyOf tw_in_L hy_L_keyOf rfl (Nat.le_of_ble_eq_true rfl) rfl dL_isRider_205 [] rfl (by decide) (fun _ => Nat.le_of_ble_eq_true rfl) ⟨Nat.le_of_ble_eq_true rfl, Nat.le_of_ble_eq_true rfl⟩ (fun v u hv => ?_)
        obtain ⟨r_110, rfl, h⟩ := hv
        refine gw_nf (ws' := (wfl [cX qx qn qp qw qt qu qd qh ql, cSt qn cI now.se now.la now.de now.le now.sa now.fl now.ar now.dr now.pe now.ri, cPl qp cI pln.od pln.rd pln.vn pln.pn pln.ao pln.sr pln.sp pln.wt, cWy qw cI way_ky way_wp way_mi way_so, cA34 jq cI lq, cA24 jr cI lr, cA24 jw cI lw])) (lv' := [(0, .ref (qx 0)), (1, .int x1), (2, .ref (jq 0)), (3, .ref (jr 0)), (4, .ref (jw 0)), (5, .int v5), (6, .int v6), (7, .int v7), (8, .int v8), (9, .int v9)]) (st' := [.int r_110, .int r_109, .int v8]) (pc' := 208) (ce' := 0) (sl' := 0) rfl rfl rfl rfl rfl rfl ?_
        refine gw_icmp_ne (pc' := 211) (tgt := 215) κ dL_isRider_208 rfl (by decide) (fun hc_111 => ?_) (fun hc_111 => ?_)
        · have h := h.1 hc_111
          refine gw_iconst (pc' := 216) (v := 0) κ dL_isRider_215 rfl (by decide) ?_
          refine gw_iadd (pc' := 217) κ dL_isRider_216 rfl  ?_
          refine gw_istore (pc' := 219) κ dL_isRider_217 rfl (by decide) (lv' := [(8, .int (v8 + (0 : Int32))), (0, .ref (qx 0)), (1, .int x1), (2, .ref (jq 0)), (3, .ref (jr 0)), (4, .ref (jw 0)), (5, .int v5), (6, .int v6), (7, .int v7), (9, .int v9)]) rfl ?_
          refine gw_iinc (pc' := 222) κ dL_isRider_219 rfl 9 rfl (v := (v9 + 1)) rfl (by decide) (lv' := [(9, .int (v9 + 1)), (8, .int (v8 + (0 : Int32))), (0, .ref (qx 0)), (1, .int x1), (2, .ref (jq 0)), (3, .ref (jr 0)), (4, .ref (jw 0)), (5, .int v5), (6, .int v6), (7, .int v7)]) rfl ?_
          refine gw_goto (tgt := 176) κ dL_isRider_222 (by decide) ?_
          refine gw_lv (lv' := [(0, .ref (qx 0)), (1, .int x1), (2, .ref (jq 0)), (3, .ref (jr 0)), (4, .ref (jw 0)), (5, .int v5), (6, .int v6), (7, .int v7), (8, .int (v8 + (0 : Int32))), (9, .int (v9 + 1))]) [2, 3, 4, 5, 6, 7, 8, 9, 1, 0] rfl ?_
          exact ih176 (v8 + (0 : Int32)) (v9 + 1) h
        · have h := h.2 hc_111
          refine gw_iconst (pc' := 212) (v := 1) κ dL_isRider_211 rfl (by decide) ?_
          refine gw_goto (tgt := 216) κ dL_isRider_212 (by decide) ?_
          refine gw_iadd (pc' := 217) κ dL_isRider_216 rfl  ?_
          refine gw_istore (pc' := 219) κ dL_isRider_217 rfl (by decide) (lv' := [(8, .int (v8 + (1 : Int32))), (0, .ref (qx 0)), (1, .int x1), (2, .ref (jq 0)), (3, .ref (jr 0)), (4, .ref (jw 0)), (5, .int v5), (6, .int v6), (7, .int v7), (9, .int v9)]) rfl ?_
          refine gw_iinc (pc' := 222) κ dL_isRider_219 rfl 9 rfl (v := (v9 + 1)) rfl (by decide) (lv' := [(9, .int (v9 + 1)), (8, .int (v8 + (1 : Int32))), (0, .ref (qx 0)), (1, .int x1), (2, .ref (jq 0)), (3, .ref (jr 0)), (4, .ref (jw 0)), (5, .int v5), (6, .int v6), (7, .int v7)]) rfl ?_
          refine gw_goto (tgt := 176) κ dL_isRider_222 (by decide) ?_
          refine gw_lv (lv' := [(0, .ref (qx 0)), (1, .int x1), (2, .ref (jq 0)), (3, .ref (jr 0)), (4, .ref (jw 0)), (5, .int v5), (6, .int v6), (7, .int v7), (8, .int (v8 + (1 : Int32))), (9, .int (v9 + 1))]) [2, 3, 4, 5, 6, 7, 8, 9, 1, 0] rfl ?_
          exact ih176 (v8 + (1 : Int32)) (v9 + 1) h
set_option maxHeartbeats 4000000 in
set_option maxRecDepth 100000 in
theorem k_L_isRider_108 {zp : Program} {l : Launch} {ze : Env} {zs : State} {zm : MethodId} {za : Array Value} {zb : List Frame} {zt : Method} {zc : Code} {D : va_G} {cI cR : ClassId} {A : Nat → Prop} (κ : KC zp zs zm za zt zc cL_isRider 10 RL D cI cR A (some .boolean)) (qx : Nat → Nat) (qn : Nat → Nat) (qp : Nat → Nat) (qw : Nat → Nat) (qt : Nat → Nat) (qu : Nat → Nat) (qd : Nat → Nat) (qh : Nat → Nat) (ql : Nat → Nat) (jq : Nat → Nat) (jr : Nat → Nat) (jw : Nat → Nat) (qs : Nat → Nat → Nat) (P : Int32 → (Nat → Int32) → (Nat → Int32) → (Nat → Int32) → Int32 → Prop) (now : StT) (pln : PlT) (way : WyT) (lq : Nat → Int32) (lr : Nat → Int32) (lw : Nat → Int32) (x1 : Int32) (v5 : Int32) (v6 : Int32) (w0 : Int32) (way_ky : Nat → Int32) (way_wp : Nat → Int32) (way_mi : Nat → Int32) (way_so : Int32) (h : wp_L_isRider_108 P now pln way lq lr lw x1 v5 v6 w0 way_ky way_wp way_mi way_so) : GM zp l ze ({ frames := 5, cells := 0, slots := 0, locals := 118 } : Room) zs zm za zb zt zc D A 10 (pI (fun (r : Int32) (u : (Nat → Int32) × (Nat → Int32) × (Nat → Int32) × Int32) => P r u.1 u.2.1 u.2.2.1 u.2.2.2)) (fun u : (Nat → Int32) × (Nat → Int32) × (Nat → Int32) × Int32 => (wfl [cX qx qn qp qw qt qu qd qh ql, cSt qn cI now.se now.la now.de now.le now.sa now.fl now.ar now.dr now.pe now.ri, cPl qp cI pln.od pln.rd pln.vn pln.pn pln.ao pln.sr pln.sp pln.wt, cWy qw cI u.1 u.2.1 u.2.2.1 u.2.2.2, cA34 jq cI lq, cA24 jr cI lr, cA24 jw cI lw])) 0 0 0 0 (wfl [cX qx qn qp qw qt qu qd qh ql, cSt qn cI now.se now.la now.de now.le now.sa now.fl now.ar now.dr now.pe now.ri, cPl qp cI pln.od pln.rd pln.vn pln.pn pln.ao pln.sr pln.sp pln.wt, cWy qw cI way_ky way_wp way_mi way_so, cA34 jq cI lq, cA24 jr cI lr, cA24 jw cI lw]) [(0, .ref (qx 0)), (1, .int x1), (2, .ref (jq 0)), (3, .ref (jr 0)), (4, .ref (jw 0)), (5, .int v5), (6, .int v6)] 108 [.int w0] := by
  unfold wp_L_isRider_108 at h
  refine gw_istore (pc' := 110) κ dL_isRider_108 rfl (by decide) (lv' := [(7, .int w0), (0, .ref (qx 0)), (1, .int x1), (2, .ref (jq 0)), (3, .ref (jr 0)), (4, .ref (jw 0)), (5, .int v5), (6, .int v6)]) rfl ?_
  refine gw_iload (pc' := 112) κ dL_isRider_110 rfl 7 rfl ?_
  refine gw_if_ge (pc' := 115) (tgt := 170) κ dL_isRider_112 rfl (by decide) (fun hc_44 => ?_) (fun hc_44 => ?_)
  · have h := h.1 hc_44
    refine gw_iconst (pc' := 171) (v := -1) κ dL_isRider_170 rfl (by decide) ?_
    refine gw_istore (pc' := 173) κ dL_isRider_171 rfl (by decide) (lv' := [(8, .int (-1 : Int32)), (7, .int w0), (0, .ref (qx 0)), (1, .int x1), (2, .ref (jq 0)), (3, .ref (jr 0)), (4, .ref (jw 0)), (5, .int v5), (6, .int v6)]) rfl ?_
    refine gw_iconst (pc' := 174) (v := 0) κ dL_isRider_173 rfl (by decide) ?_
    refine gw_istore (pc' := 176) κ dL_isRider_174 rfl (by decide) (lv' := [(9, .int (0 : Int32)), (8, .int (-1 : Int32)), (7, .int w0), (0, .ref (qx 0)), (1, .int x1), (2, .ref (jq 0)), (3, .ref (jr 0)), (4, .ref (jw 0)), (5, .int v5), (6, .int v6)]) rfl ?_
    obtain ⟨m176, h⟩ := h
    refine gw_lv (lv' := [(0, .ref (qx 0)), (1, .int x1), (2, .ref (jq 0)), (3, .ref (jr 0)), (4, .ref (jw 0)), (5, .int v5), (6, .int v6), (7, .int w0), (8, .int (-1 : Int32)), (9, .int (0 : Int32))]) [3, 4, 5, 6, 7, 8, 9, 2, 1, 0] rfl ?_
    exact k_L_isRider_176 κ qx qn qp qw qt qu qd qh ql jq jr jw qs P now pln way lq lr lw x1 v5 v6 w0 way_ky way_wp way_mi way_so m176 (-1 : Int32) (0 : Int32) h
  · have h := h.2 hc_44
    refine gw_iload (pc' := 117) κ dL_isRider_115 rfl 0 rfl ?_
    refine gw_if_eq (pc' := 120) (tgt := 168) κ dL_isRider_117 rfl (by decide) (fun hc_45 => ?_) (fun hc_45 => ?_)
    · have h := h.1 hc_45
      refine gw_iconst (pc' := 169) (v := 0) κ dL_isRider_168 rfl (by decide) ?_
      exact gw_zret κ dL_isRider_169 (way_ky, way_wp, way_mi, way_so) rfl rfl ⟨_, rfl, h⟩
    · have h := h.2 hc_45
      refine gw_aload_n (pc' := 121) κ dL_isRider_120 rfl 1 rfl rfl ?_
      refine gw_iload_n (pc' := 122) κ dL_isRider_121 rfl 2 rfl rfl ?_
      refine gw_bipush (pc' := 124) (v := 6) κ dL_isRider_122 rfl (by decide) ?_
      refine gb_callV (ci := 5) (qb := 0) (rest := []) κ (c_X5_rider qx qn qp qw qt qu qd qh ql qs now pln (mkWy way_ky way_wp way_mi way_so) x1 (6 : Int32) h) ⟨rfl, rfl, Nat.le_of_ble_eq_true rfl, Nat.le_of_ble_eq_true rfl⟩ tw_ml_L_39 tw_im_X5_rider tw_se_X5_rider tw_co_X5_rider tw_in_X5 hy_X5_rider rfl rfl rfl rfl rfl (Nat.le_of_ble_eq_true rfl) rfl dL_isRider_124 [0, 1, 2, 3] rfl (by decide) (fun _ => Nat.le_of_ble_eq_true rfl) ⟨Nat.le_of_ble_eq_true rfl, Nat.le_of_ble_eq_true rfl⟩ (fun v u hv => ?_)
      obtain ⟨r_50, rfl, h⟩ := hv
      obtain ⟨ky_46, wp_47, mi_48, so_49⟩ := u
      refine gw_nf (ws' := (wfl [cX qx qn qp qw qt qu qd qh ql, cSt qn cI now.se now.la now.de now.le now.sa now.fl now.ar now.dr now.pe now.ri, cPl qp cI pln.od pln.rd pln.vn pln.pn pln.ao pln.sr pln.sp pln.wt, cWy qw cI ky_46 wp_47 mi_48 so_49, cA34 jq cI lq, cA24 jr cI lr, cA24 jw cI lw])) (lv' := [(7, .int w0), (0, .ref (qx 0)), (1, .int x1), (2, .ref (jq 0)), (3, .ref (jr 0)), (4, .ref (jw 0)), (5, .int v5), (6, .int v6)]) (st' := [.int r_50]) (pc' := 127) (ce' := 0) (sl' := 0) rfl rfl rfl rfl rfl rfl ?_
      refine gw_bipush (pc' := 129) (v := -106) κ dL_isRider_127 rfl (by decide) ?_
      refine gw_icmp_ne (pc' := 132) (tgt := 168) κ dL_isRider_129 rfl (by decide) (fun hc_51 => ?_) (fun hc_51 => ?_)
      · have h := h.1 hc_51
        refine gw_iconst (pc' := 169) (v := 0) κ dL_isRider_168 rfl (by decide) ?_
        exact gw_zret κ dL_isRider_169 (ky_46, wp_47, mi_48, so_49) rfl rfl ⟨_, rfl, h⟩
      · have h := h.2 hc_51
        refine gw_aload_n (pc' := 133) κ dL_isRider_132 rfl 1 rfl rfl ?_
        refine gw_iload_n (pc' := 134) κ dL_isRider_133 rfl 2 rfl rfl ?_
        refine gw_bipush (pc' := 136) (v := 7) κ dL_isRider_134 rfl (by decide) ?_
        refine gb_callV (ci := 5) (qb := 0) (rest := []) κ (c_X5_rider qx qn qp qw qt qu qd qh ql qs now pln (mkWy ky_46 wp_47 mi_48 so_49) x1 (7 : Int32) h) ⟨rfl, rfl, Nat.le_of_ble_eq_true rfl, Nat.le_of_ble_eq_true rfl⟩ tw_ml_L_39 tw_im_X5_rider tw_se_X5_rider tw_co_X5_rider tw_in_X5 hy_X5_rider rfl rfl rfl rfl rfl (Nat.le_of_ble_eq_true rfl) rfl dL_isRider_136 [0, 1, 2, 3] rfl (by decide) (fun _ => Nat.le_of_ble_eq_true rfl) ⟨Nat.le_of_ble_eq_true rfl, Nat.le_of_ble_eq_true rfl⟩ (fun v u hv => ?_)
        obtain ⟨r_56, rfl, h⟩ := hv
        obtain ⟨ky_52, wp_53, mi_54, so_55⟩ := u
        refine gw_nf (ws' := (wfl [cX qx qn qp qw qt qu qd qh ql, cSt qn cI now.se now.la now.de now.le now.sa now.fl now.ar now.dr now.pe now.ri, cPl qp cI pln.od pln.rd pln.vn pln.pn pln.ao pln.sr pln.sp pln.wt, cWy qw cI ky_52 wp_53 mi_54 so_55, cA34 jq cI lq, cA24 jr cI lr, cA24 jw cI lw])) (lv' := [(7, .int w0), (0, .ref (qx 0)), (1, .int x1), (2, .ref (jq 0)), (3, .ref (jr 0)), (4, .ref (jw 0)), (5, .int v5), (6, .int v6)]) (st' := [.int r_56]) (pc' := 139) (ce' := 0) (sl' := 0) rfl rfl rfl rfl rfl rfl ?_
        refine gw_bipush (pc' := 141) (v := -106) κ dL_isRider_139 rfl (by decide) ?_
        refine gw_icmp_ne (pc' := 144) (tgt := 168) κ dL_isRider_141 rfl (by decide) (fun hc_57 => ?_) (fun hc_57 => ?_)
        · have h := h.1 hc_57
          refine gw_iconst (pc' := 169) (v := 0) κ dL_isRider_168 rfl (by decide) ?_
          exact gw_zret κ dL_isRider_169 (ky_52, wp_53, mi_54, so_55) rfl rfl ⟨_, rfl, h⟩
        · have h := h.2 hc_57
          refine gw_aload_n (pc' := 145) κ dL_isRider_144 rfl 1 rfl rfl ?_
          refine gw_iload_n (pc' := 146) κ dL_isRider_145 rfl 2 rfl rfl ?_
          refine gw_bipush (pc' := 148) (v := 8) κ dL_isRider_146 rfl (by decide) ?_
          refine gb_callV (ci := 5) (qb := 0) (rest := []) κ (c_X5_rider qx qn qp qw qt qu qd qh ql qs now pln (mkWy ky_52 wp_53 mi_54 so_55) x1 (8 : Int32) h) ⟨rfl, rfl, Nat.le_of_ble_eq_true rfl, Nat.le_of_ble_eq_true rfl⟩ tw_ml_L_39 tw_im_X5_rider tw_se_X5_rider tw_co_X5_rider tw_in_X5 hy_X5_rider rfl rfl rfl rfl rfl (Nat.le_of_ble_eq_true rfl) rfl dL_isRider_148 [0, 1, 2, 3] rfl (by decide) (fun _ => Nat.le_of_ble_eq_true rfl) ⟨Nat.le_of_ble_eq_true rfl, Nat.le_of_ble_eq_true rfl⟩ (fun v u hv => ?_)
          obtain ⟨r_62, rfl, h⟩ := hv
          obtain ⟨ky_58, wp_59, mi_60, so_61⟩ := u
          refine gw_nf (ws' := (wfl [cX qx qn qp qw qt qu qd qh ql, cSt qn cI now.se now.la now.de now.le now.sa now.fl now.ar now.dr now.pe now.ri, cPl qp cI pln.od pln.rd pln.vn pln.pn pln.ao pln.sr pln.sp pln.wt, cWy qw cI ky_58 wp_59 mi_60 so_61, cA34 jq cI lq, cA24 jr cI lr, cA24 jw cI lw])) (lv' := [(7, .int w0), (0, .ref (qx 0)), (1, .int x1), (2, .ref (jq 0)), (3, .ref (jr 0)), (4, .ref (jw 0)), (5, .int v5), (6, .int v6)]) (st' := [.int r_62]) (pc' := 151) (ce' := 0) (sl' := 0) rfl rfl rfl rfl rfl rfl ?_
          refine gw_if_ne (pc' := 154) (tgt := 168) κ dL_isRider_151 rfl (by decide) (fun hc_63 => ?_) (fun hc_63 => ?_)
          · have h := h.1 hc_63
            refine gw_iconst (pc' := 169) (v := 0) κ dL_isRider_168 rfl (by decide) ?_
            exact gw_zret κ dL_isRider_169 (ky_58, wp_59, mi_60, so_61) rfl rfl ⟨_, rfl, h⟩
          · have h := h.2 hc_63
            refine gw_aload_n (pc' := 155) κ dL_isRider_154 rfl 1 rfl rfl ?_
            refine gw_iload_n (pc' := 156) κ dL_isRider_155 rfl 2 rfl rfl ?_
            refine gw_bipush (pc' := 158) (v := 9) κ dL_isRider_156 rfl (by decide) ?_
            refine gb_callV (ci := 5) (qb := 0) (rest := []) κ (c_X5_rider qx qn qp qw qt qu qd qh ql qs now pln (mkWy ky_58 wp_59 mi_60 so_61) x1 (9 : Int32) h) ⟨rfl, rfl, Nat.le_of_ble_eq_true rfl, Nat.le_of_ble_eq_true rfl⟩ tw_ml_L_39 tw_im_X5_rider tw_se_X5_rider tw_co_X5_rider tw_in_X5 hy_X5_rider rfl rfl rfl rfl rfl (Nat.le_of_ble_eq_true rfl) rfl dL_isRider_158 [0, 1, 2, 3] rfl (by decide) (fun _ => Nat.le_of_ble_eq_true rfl) ⟨Nat.le_of_ble_eq_true rfl, Nat.le_of_ble_eq_true rfl⟩ (fun v u hv => ?_)
            obtain ⟨r_68, rfl, h⟩ := hv
            obtain ⟨ky_64, wp_65, mi_66, so_67⟩ := u
            refine gw_nf (ws' := (wfl [cX qx qn qp qw qt qu qd qh ql, cSt qn cI now.se now.la now.de now.le now.sa now.fl now.ar now.dr now.pe now.ri, cPl qp cI pln.od pln.rd pln.vn pln.pn pln.ao pln.sr pln.sp pln.wt, cWy qw cI ky_64 wp_65 mi_66 so_67, cA34 jq cI lq, cA24 jr cI lr, cA24 jw cI lw])) (lv' := [(7, .int w0), (0, .ref (qx 0)), (1, .int x1), (2, .ref (jq 0)), (3, .ref (jr 0)), (4, .ref (jw 0)), (5, .int v5), (6, .int v6)]) (st' := [.int r_68]) (pc' := 161) (ce' := 0) (sl' := 0) rfl rfl rfl rfl rfl rfl ?_
            refine gw_if_ne (pc' := 164) (tgt := 168) κ dL_isRider_161 rfl (by decide) (fun hc_69 => ?_) (fun hc_69 => ?_)
            · have h := h.1 hc_69
              refine gw_iconst (pc' := 169) (v := 0) κ dL_isRider_168 rfl (by decide) ?_
              exact gw_zret κ dL_isRider_169 (ky_64, wp_65, mi_66, so_67) rfl rfl ⟨_, rfl, h⟩
            · have h := h.2 hc_69
              refine gw_iconst (pc' := 165) (v := 1) κ dL_isRider_164 rfl (by decide) ?_
              refine gw_goto (tgt := 169) κ dL_isRider_165 (by decide) ?_
              exact gw_zret κ dL_isRider_169 (ky_64, wp_65, mi_66, so_67) rfl rfl ⟨_, rfl, h⟩
set_option maxHeartbeats 4000000 in
set_option maxRecDepth 100000 in
theorem k_L_isRider_100 {zp : Program} {l : Launch} {ze : Env} {zs : State} {zm : MethodId} {za : Array Value} {zb : List Frame} {zt : Method} {zc : Code} {D : va_G} {cI cR : ClassId} {A : Nat → Prop} (κ : KC zp zs zm za zt zc cL_isRider 10 RL D cI cR A (some .boolean)) (qx : Nat → Nat) (qn : Nat → Nat) (qp : Nat → Nat) (qw : Nat → Nat) (qt : Nat → Nat) (qu : Nat → Nat) (qd : Nat → Nat) (qh : Nat → Nat) (ql : Nat → Nat) (jq : Nat → Nat) (jr : Nat → Nat) (jw : Nat → Nat) (qs : Nat → Nat → Nat) (P : Int32 → (Nat → Int32) → (Nat → Int32) → (Nat → Int32) → Int32 → Prop) (now : StT) (pln : PlT) (way : WyT) (lq : Nat → Int32) (lr : Nat → Int32) (lw : Nat → Int32) (x1 : Int32) (v5 : Int32) (v6 : Int32) (w0 : Int32) (w1 : Int32) (way_ky : Nat → Int32) (way_wp : Nat → Int32) (way_mi : Nat → Int32) (way_so : Int32) (h : wp_L_isRider_100 P now pln way lq lr lw x1 v5 v6 w0 w1 way_ky way_wp way_mi way_so) : GM zp l ze ({ frames := 5, cells := 0, slots := 0, locals := 118 } : Room) zs zm za zb zt zc D A 10 (pI (fun (r : Int32) (u : (Nat → Int32) × (Nat → Int32) × (Nat → Int32) × Int32) => P r u.1 u.2.1 u.2.2.1 u.2.2.2)) (fun u : (Nat → Int32) × (Nat → Int32) × (Nat → Int32) × Int32 => (wfl [cX qx qn qp qw qt qu qd qh ql, cSt qn cI now.se now.la now.de now.le now.sa now.fl now.ar now.dr now.pe now.ri, cPl qp cI pln.od pln.rd pln.vn pln.pn pln.ao pln.sr pln.sp pln.wt, cWy qw cI u.1 u.2.1 u.2.2.1 u.2.2.2, cA34 jq cI lq, cA24 jr cI lr, cA24 jw cI lw])) 0 0 0 0 (wfl [cX qx qn qp qw qt qu qd qh ql, cSt qn cI now.se now.la now.de now.le now.sa now.fl now.ar now.dr now.pe now.ri, cPl qp cI pln.od pln.rd pln.vn pln.pn pln.ao pln.sr pln.sp pln.wt, cWy qw cI way_ky way_wp way_mi way_so, cA34 jq cI lq, cA24 jr cI lr, cA24 jw cI lw]) [(0, .ref (qx 0)), (1, .int x1), (2, .ref (jq 0)), (3, .ref (jr 0)), (4, .ref (jw 0)), (5, .int v5), (6, .int v6)] 100 [.int w1, .int w0] := by
  unfold wp_L_isRider_100 at h
  refine gw_icmp_ne (pc' := 103) (tgt := 107) κ dL_isRider_100 rfl (by decide) (fun hc_70 => ?_) (fun hc_70 => ?_)
  · have h := h.1 hc_70
    refine gw_iconst (pc' := 108) (v := 0) κ dL_isRider_107 rfl (by decide) ?_
    refine gw_lv (lv' := [(0, .ref (qx 0)), (1, .int x1), (2, .ref (jq 0)), (3, .ref (jr 0)), (4, .ref (jw 0)), (5, .int v5), (6, .int v6)]) [0, 1, 2, 3, 4, 5, 6] rfl ?_
    exact k_L_isRider_108 κ qx qn qp qw qt qu qd qh ql jq jr jw qs P now pln way lq lr lw x1 v5 v6 (0 : Int32) way_ky way_wp way_mi way_so h
  · have h := h.2 hc_70
    refine gw_iconst (pc' := 104) (v := 1) κ dL_isRider_103 rfl (by decide) ?_
    refine gw_goto (tgt := 108) κ dL_isRider_104 (by decide) ?_
    refine gw_lv (lv' := [(0, .ref (qx 0)), (1, .int x1), (2, .ref (jq 0)), (3, .ref (jr 0)), (4, .ref (jw 0)), (5, .int v5), (6, .int v6)]) [0, 1, 2, 3, 4, 5, 6] rfl ?_
    exact k_L_isRider_108 κ qx qn qp qw qt qu qd qh ql jq jr jw qs P now pln way lq lr lw x1 v5 v6 (1 : Int32) way_ky way_wp way_mi way_so h
set_option maxHeartbeats 4000000 in
set_option maxRecDepth 100000 in
theorem c_L_isRider {l : Launch} {D : va_G} {cI cR : ClassId}  (qx : Nat → Nat) (qn : Nat → Nat) (qp : Nat → Nat) (qw : Nat → Nat) (qt : Nat → Nat) (qu : Nat → Nat) (qd : Nat → Nat) (qh : Nat → Nat) (ql : Nat → Nat) (jq : Nat → Nat) (jr : Nat → Nat) (jw : Nat → Nat) (qs : Nat → Nat → Nat) {P : Int32 → (Nat → Int32) → (Nat → Int32) → (Nat → Int32) → Int32 → Prop} (now : StT) (pln : PlT) (way : WyT) (lq : Nat → Int32) (lr : Nat → Int32) (lw : Nat → Int32) (x1 : Int32) (h : wp_L_isRider P now pln way lq lr lw x1) : CT l D cI cR yL_isRider cL_isRider 10 (some .boolean) ({ frames := 5, cells := 0, slots := 0, locals := 118 } : Room) [.ref (qx 0), .int x1, .ref (jq 0), .ref (jr 0), .ref (jw 0)] (wfl [cX qx qn qp qw qt qu qd qh ql, cSt qn cI now.se now.la now.de now.le now.sa now.fl now.ar now.dr now.pe now.ri, cPl qp cI pln.od pln.rd pln.vn pln.pn pln.ao pln.sr pln.sp pln.wt, cWy qw cI way.ky way.wp way.mi way.so, cA34 jq cI lq, cA24 jr cI lr, cA24 jw cI lw]) (fun u : (Nat → Int32) × (Nat → Int32) × (Nat → Int32) × Int32 => (wfl [cX qx qn qp qw qt qu qd qh ql, cSt qn cI now.se now.la now.de now.le now.sa now.fl now.ar now.dr now.pe now.ri, cPl qp cI pln.od pln.rd pln.vn pln.pn pln.ao pln.sr pln.sp pln.wt, cWy qw cI u.1 u.2.1 u.2.2.1 u.2.2.2, cA34 jq cI lq, cA24 jr cI lr, cA24 jw cI lw])) (pI (fun (r : Int32) (u : (Nat → Int32) × (Nat → Int32) × (Nat → Int32) × Int32) => P r u.1 u.2.1 u.2.2.1 u.2.2.2)) 0 0 := by
  refine ct_of RL rfl (by decide +kernel) (Nat.le_of_ble_eq_true rfl) (fun zp ze zs zm zb zt zc A hin κ => ?_)
  unfold wp_L_isRider at h
  refine gw_nf (lv' := [(0, .ref (qx 0)), (1, .int x1), (2, .ref (jq 0)), (3, .ref (jr 0)), (4, .ref (jw 0))]) (pc' := 0) (st' := []) (ce' := 0) (sl' := 0) rfl rfl rfl rfl rfl rfl ?_
  refine gw_aload_n (pc' := 1) κ dL_isRider_0 rfl 3 rfl rfl ?_
  refine gw_iload_n (pc' := 2) κ dL_isRider_1 rfl 1 rfl rfl ?_
  obtain ⟨hb_1, h⟩ := h
  refine gb_iald (pc' := 3) κ dL_isRider_2 rfl 5 0 rfl rfl hb_1 ?_
  refine gw_istore (pc' := 5) κ dL_isRider_3 rfl (by decide) (lv' := [(5, .int (lr x1.toNatClampNeg)), (0, .ref (qx 0)), (1, .int x1), (2, .ref (jq 0)), (3, .ref (jr 0)), (4, .ref (jw 0))]) rfl ?_
  refine gw_aload (pc' := 7) κ dL_isRider_5 rfl 5 rfl ?_
  refine gw_iload_n (pc' := 8) κ dL_isRider_7 rfl 2 rfl rfl ?_
  obtain ⟨hb_2, h⟩ := h
  refine gb_iald (pc' := 9) κ dL_isRider_8 rfl 6 0 rfl rfl hb_2 ?_
  refine gw_istore (pc' := 11) κ dL_isRider_9 rfl (by decide) (lv' := [(6, .int (lw x1.toNatClampNeg)), (5, .int (lr x1.toNatClampNeg)), (0, .ref (qx 0)), (1, .int x1), (2, .ref (jq 0)), (3, .ref (jr 0)), (4, .ref (jw 0))]) rfl ?_
  refine gw_aload_n (pc' := 12) κ dL_isRider_11 rfl 2 rfl rfl ?_
  refine gw_iload_n (pc' := 13) κ dL_isRider_12 rfl 3 rfl rfl ?_
  refine gw_iconst (pc' := 14) (v := 0) κ dL_isRider_13 rfl (by decide) ?_
  refine gb_callV (ci := 5) (qb := 0) (rest := []) κ (c_X5_rider qx qn qp qw qt qu qd qh ql qs now pln way x1 (0 : Int32) h) ⟨rfl, rfl, Nat.le_of_ble_eq_true rfl, Nat.le_of_ble_eq_true rfl⟩ tw_ml_L_39 tw_im_X5_rider tw_se_X5_rider tw_co_X5_rider tw_in_X5 hy_X5_rider rfl rfl rfl rfl rfl (Nat.le_of_ble_eq_true rfl) rfl dL_isRider_14 [0, 1, 2, 3] rfl (by decide) (fun _ => Nat.le_of_ble_eq_true rfl) ⟨Nat.le_of_ble_eq_true rfl, Nat.le_of_ble_eq_true rfl⟩ (fun v u hv => ?_)
  obtain ⟨r_7, rfl, h⟩ := hv
  obtain ⟨ky_3, wp_4, mi_5, so_6⟩ := u
  refine gw_nf (ws' := (wfl [cX qx qn qp qw qt qu qd qh ql, cSt qn cI now.se now.la now.de now.le now.sa now.fl now.ar now.dr now.pe now.ri, cPl qp cI pln.od pln.rd pln.vn pln.pn pln.ao pln.sr pln.sp pln.wt, cWy qw cI ky_3 wp_4 mi_5 so_6, cA34 jq cI lq, cA24 jr cI lr, cA24 jw cI lw])) (lv' := [(6, .int (lw x1.toNatClampNeg)), (5, .int (lr x1.toNatClampNeg)), (0, .ref (qx 0)), (1, .int x1), (2, .ref (jq 0)), (3, .ref (jr 0)), (4, .ref (jw 0))]) (st' := [.int r_7]) (pc' := 17) (ce' := 0) (sl' := 0) rfl rfl rfl rfl rfl rfl ?_
  refine gw_iload (pc' := 19) κ dL_isRider_17 rfl 1 rfl ?_
  refine gb_callS (rest := [.int r_7]) κ (c_L_flightOf  (lr x1.toNatClampNeg) h) ⟨rfl, rfl, Nat.le_of_ble_eq_true rfl, Nat.le_of_ble_eq_true rfl⟩ tw_ml_L_10 tw_st_L_flightOf tw_co_L_flightOf tw_in_L hy_L_flightOf rfl (Nat.le_of_ble_eq_true rfl) rfl dL_isRider_19 [] rfl (by decide) (fun _ => Nat.le_of_ble_eq_true rfl) ⟨Nat.le_of_ble_eq_true rfl, Nat.le_of_ble_eq_true rfl⟩ (fun v u hv => ?_)
  obtain ⟨r_8, rfl, h⟩ := hv
  refine gw_nf (ws' := (wfl [cX qx qn qp qw qt qu qd qh ql, cSt qn cI now.se now.la now.de now.le now.sa now.fl now.ar now.dr now.pe now.ri, cPl qp cI pln.od pln.rd pln.vn pln.pn pln.ao pln.sr pln.sp pln.wt, cWy qw cI ky_3 wp_4 mi_5 so_6, cA34 jq cI lq, cA24 jr cI lr, cA24 jw cI lw])) (lv' := [(6, .int (lw x1.toNatClampNeg)), (5, .int (lr x1.toNatClampNeg)), (0, .ref (qx 0)), (1, .int x1), (2, .ref (jq 0)), (3, .ref (jr 0)), (4, .ref (jw 0))]) (st' := [.int r_8, .int r_7]) (pc' := 22) (ce' := 0) (sl' := 0) rfl rfl rfl rfl rfl rfl ?_
  refine gw_icmp_ne (pc' := 25) (tgt := 107) κ dL_isRider_22 rfl (by decide) (fun hc_9 => ?_) (fun hc_9 => ?_)
  · have h := h.1 hc_9
    refine gw_iconst (pc' := 108) (v := 0) κ dL_isRider_107 rfl (by decide) ?_
    refine gw_lv (lv' := [(0, .ref (qx 0)), (1, .int x1), (2, .ref (jq 0)), (3, .ref (jr 0)), (4, .ref (jw 0)), (5, .int (lr x1.toNatClampNeg)), (6, .int (lw x1.toNatClampNeg))]) [2, 3, 4, 5, 6, 1, 0] rfl ?_
    exact k_L_isRider_108 κ qx qn qp qw qt qu qd qh ql jq jr jw qs P now pln way lq lr lw x1 (lr x1.toNatClampNeg) (lw x1.toNatClampNeg) (0 : Int32) ky_3 wp_4 mi_5 so_6 h
  · have h := h.2 hc_9
    refine gw_aload_n (pc' := 26) κ dL_isRider_25 rfl 2 rfl rfl ?_
    refine gw_iload_n (pc' := 27) κ dL_isRider_26 rfl 3 rfl rfl ?_
    refine gw_iconst (pc' := 28) (v := 1) κ dL_isRider_27 rfl (by decide) ?_
    refine gb_callV (ci := 5) (qb := 0) (rest := []) κ (c_X5_rider qx qn qp qw qt qu qd qh ql qs now pln (mkWy ky_3 wp_4 mi_5 so_6) x1 (1 : Int32) h) ⟨rfl, rfl, Nat.le_of_ble_eq_true rfl, Nat.le_of_ble_eq_true rfl⟩ tw_ml_L_39 tw_im_X5_rider tw_se_X5_rider tw_co_X5_rider tw_in_X5 hy_X5_rider rfl rfl rfl rfl rfl (Nat.le_of_ble_eq_true rfl) rfl dL_isRider_28 [0, 1, 2, 3] rfl (by decide) (fun _ => Nat.le_of_ble_eq_true rfl) ⟨Nat.le_of_ble_eq_true rfl, Nat.le_of_ble_eq_true rfl⟩ (fun v u hv => ?_)
    obtain ⟨r_14, rfl, h⟩ := hv
    obtain ⟨ky_10, wp_11, mi_12, so_13⟩ := u
    refine gw_nf (ws' := (wfl [cX qx qn qp qw qt qu qd qh ql, cSt qn cI now.se now.la now.de now.le now.sa now.fl now.ar now.dr now.pe now.ri, cPl qp cI pln.od pln.rd pln.vn pln.pn pln.ao pln.sr pln.sp pln.wt, cWy qw cI ky_10 wp_11 mi_12 so_13, cA34 jq cI lq, cA24 jr cI lr, cA24 jw cI lw])) (lv' := [(6, .int (lw x1.toNatClampNeg)), (5, .int (lr x1.toNatClampNeg)), (0, .ref (qx 0)), (1, .int x1), (2, .ref (jq 0)), (3, .ref (jr 0)), (4, .ref (jw 0))]) (st' := [.int r_14]) (pc' := 31) (ce' := 0) (sl' := 0) rfl rfl rfl rfl rfl rfl ?_
    refine gw_iload (pc' := 33) κ dL_isRider_31 rfl 1 rfl ?_
    refine gb_callS (rest := [.int r_14]) κ (c_L_areaOf  (lr x1.toNatClampNeg) h) ⟨rfl, rfl, Nat.le_of_ble_eq_true rfl, Nat.le_of_ble_eq_true rfl⟩ tw_ml_L_23 tw_st_L_areaOf tw_co_L_areaOf tw_in_L hy_L_areaOf rfl (Nat.le_of_ble_eq_true rfl) rfl dL_isRider_33 [] rfl (by decide) (fun _ => Nat.le_of_ble_eq_true rfl) ⟨Nat.le_of_ble_eq_true rfl, Nat.le_of_ble_eq_true rfl⟩ (fun v u hv => ?_)
    obtain ⟨r_15, rfl, h⟩ := hv
    refine gw_nf (ws' := (wfl [cX qx qn qp qw qt qu qd qh ql, cSt qn cI now.se now.la now.de now.le now.sa now.fl now.ar now.dr now.pe now.ri, cPl qp cI pln.od pln.rd pln.vn pln.pn pln.ao pln.sr pln.sp pln.wt, cWy qw cI ky_10 wp_11 mi_12 so_13, cA34 jq cI lq, cA24 jr cI lr, cA24 jw cI lw])) (lv' := [(6, .int (lw x1.toNatClampNeg)), (5, .int (lr x1.toNatClampNeg)), (0, .ref (qx 0)), (1, .int x1), (2, .ref (jq 0)), (3, .ref (jr 0)), (4, .ref (jw 0))]) (st' := [.int r_15, .int r_14]) (pc' := 36) (ce' := 0) (sl' := 0) rfl rfl rfl rfl rfl rfl ?_
    refine gw_icmp_ne (pc' := 39) (tgt := 107) κ dL_isRider_36 rfl (by decide) (fun hc_16 => ?_) (fun hc_16 => ?_)
    · have h := h.1 hc_16
      refine gw_iconst (pc' := 108) (v := 0) κ dL_isRider_107 rfl (by decide) ?_
      refine gw_lv (lv' := [(0, .ref (qx 0)), (1, .int x1), (2, .ref (jq 0)), (3, .ref (jr 0)), (4, .ref (jw 0)), (5, .int (lr x1.toNatClampNeg)), (6, .int (lw x1.toNatClampNeg))]) [2, 3, 4, 5, 6, 1, 0] rfl ?_
      exact k_L_isRider_108 κ qx qn qp qw qt qu qd qh ql jq jr jw qs P now pln way lq lr lw x1 (lr x1.toNatClampNeg) (lw x1.toNatClampNeg) (0 : Int32) ky_10 wp_11 mi_12 so_13 h
    · have h := h.2 hc_16
      refine gw_aload_n (pc' := 40) κ dL_isRider_39 rfl 2 rfl rfl ?_
      refine gw_iload_n (pc' := 41) κ dL_isRider_40 rfl 3 rfl rfl ?_
      refine gw_iconst (pc' := 42) (v := 2) κ dL_isRider_41 rfl (by decide) ?_
      refine gb_callV (ci := 5) (qb := 0) (rest := []) κ (c_X5_rider qx qn qp qw qt qu qd qh ql qs now pln (mkWy ky_10 wp_11 mi_12 so_13) x1 (2 : Int32) h) ⟨rfl, rfl, Nat.le_of_ble_eq_true rfl, Nat.le_of_ble_eq_true rfl⟩ tw_ml_L_39 tw_im_X5_rider tw_se_X5_rider tw_co_X5_rider tw_in_X5 hy_X5_rider rfl rfl rfl rfl rfl (Nat.le_of_ble_eq_true rfl) rfl dL_isRider_42 [0, 1, 2, 3] rfl (by decide) (fun _ => Nat.le_of_ble_eq_true rfl) ⟨Nat.le_of_ble_eq_true rfl, Nat.le_of_ble_eq_true rfl⟩ (fun v u hv => ?_)
      obtain ⟨r_21, rfl, h⟩ := hv
      obtain ⟨ky_17, wp_18, mi_19, so_20⟩ := u
      refine gw_nf (ws' := (wfl [cX qx qn qp qw qt qu qd qh ql, cSt qn cI now.se now.la now.de now.le now.sa now.fl now.ar now.dr now.pe now.ri, cPl qp cI pln.od pln.rd pln.vn pln.pn pln.ao pln.sr pln.sp pln.wt, cWy qw cI ky_17 wp_18 mi_19 so_20, cA34 jq cI lq, cA24 jr cI lr, cA24 jw cI lw])) (lv' := [(6, .int (lw x1.toNatClampNeg)), (5, .int (lr x1.toNatClampNeg)), (0, .ref (qx 0)), (1, .int x1), (2, .ref (jq 0)), (3, .ref (jr 0)), (4, .ref (jw 0))]) (st' := [.int r_21]) (pc' := 45) (ce' := 0) (sl' := 0) rfl rfl rfl rfl rfl rfl ?_
      refine gw_iload (pc' := 47) κ dL_isRider_45 rfl 1 rfl ?_
      refine gb_callS (rest := [.int r_21]) κ (c_L_doorOf  (lr x1.toNatClampNeg) h) ⟨rfl, rfl, Nat.le_of_ble_eq_true rfl, Nat.le_of_ble_eq_true rfl⟩ tw_ml_L_32 tw_st_L_doorOf tw_co_L_doorOf tw_in_L hy_L_doorOf rfl (Nat.le_of_ble_eq_true rfl) rfl dL_isRider_47 [] rfl (by decide) (fun _ => Nat.le_of_ble_eq_true rfl) ⟨Nat.le_of_ble_eq_true rfl, Nat.le_of_ble_eq_true rfl⟩ (fun v u hv => ?_)
      obtain ⟨r_22, rfl, h⟩ := hv
      refine gw_nf (ws' := (wfl [cX qx qn qp qw qt qu qd qh ql, cSt qn cI now.se now.la now.de now.le now.sa now.fl now.ar now.dr now.pe now.ri, cPl qp cI pln.od pln.rd pln.vn pln.pn pln.ao pln.sr pln.sp pln.wt, cWy qw cI ky_17 wp_18 mi_19 so_20, cA34 jq cI lq, cA24 jr cI lr, cA24 jw cI lw])) (lv' := [(6, .int (lw x1.toNatClampNeg)), (5, .int (lr x1.toNatClampNeg)), (0, .ref (qx 0)), (1, .int x1), (2, .ref (jq 0)), (3, .ref (jr 0)), (4, .ref (jw 0))]) (st' := [.int r_22, .int r_21]) (pc' := 50) (ce' := 0) (sl' := 0) rfl rfl rfl rfl rfl rfl ?_
      refine gw_icmp_ne (pc' := 53) (tgt := 107) κ dL_isRider_50 rfl (by decide) (fun hc_23 => ?_) (fun hc_23 => ?_)
      · have h := h.1 hc_23
        refine gw_iconst (pc' := 108) (v := 0) κ dL_isRider_107 rfl (by decide) ?_
        refine gw_lv (lv' := [(0, .ref (qx 0)), (1, .int x1), (2, .ref (jq 0)), (3, .ref (jr 0)), (4, .ref (jw 0)), (5, .int (lr x1.toNatClampNeg)), (6, .int (lw x1.toNatClampNeg))]) [2, 3, 4, 5, 6, 1, 0] rfl ?_
        exact k_L_isRider_108 κ qx qn qp qw qt qu qd qh ql jq jr jw qs P now pln way lq lr lw x1 (lr x1.toNatClampNeg) (lw x1.toNatClampNeg) (0 : Int32) ky_17 wp_18 mi_19 so_20 h
      · have h := h.2 hc_23
        refine gw_aload_n (pc' := 54) κ dL_isRider_53 rfl 2 rfl rfl ?_
        refine gw_iload_n (pc' := 55) κ dL_isRider_54 rfl 3 rfl rfl ?_
        refine gw_iconst (pc' := 56) (v := 3) κ dL_isRider_55 rfl (by decide) ?_
        refine gb_callV (ci := 5) (qb := 0) (rest := []) κ (c_X5_rider qx qn qp qw qt qu qd qh ql qs now pln (mkWy ky_17 wp_18 mi_19 so_20) x1 (3 : Int32) h) ⟨rfl, rfl, Nat.le_of_ble_eq_true rfl, Nat.le_of_ble_eq_true rfl⟩ tw_ml_L_39 tw_im_X5_rider tw_se_X5_rider tw_co_X5_rider tw_in_X5 hy_X5_rider rfl rfl rfl rfl rfl (Nat.le_of_ble_eq_true rfl) rfl dL_isRider_56 [0, 1, 2, 3] rfl (by decide) (fun _ => Nat.le_of_ble_eq_true rfl) ⟨Nat.le_of_ble_eq_true rfl, Nat.le_of_ble_eq_true rfl⟩ (fun v u hv => ?_)
        obtain ⟨r_28, rfl, h⟩ := hv
        obtain ⟨ky_24, wp_25, mi_26, so_27⟩ := u
        refine gw_nf (ws' := (wfl [cX qx qn qp qw qt qu qd qh ql, cSt qn cI now.se now.la now.de now.le now.sa now.fl now.ar now.dr now.pe now.ri, cPl qp cI pln.od pln.rd pln.vn pln.pn pln.ao pln.sr pln.sp pln.wt, cWy qw cI ky_24 wp_25 mi_26 so_27, cA34 jq cI lq, cA24 jr cI lr, cA24 jw cI lw])) (lv' := [(6, .int (lw x1.toNatClampNeg)), (5, .int (lr x1.toNatClampNeg)), (0, .ref (qx 0)), (1, .int x1), (2, .ref (jq 0)), (3, .ref (jr 0)), (4, .ref (jw 0))]) (st' := [.int r_28]) (pc' := 59) (ce' := 0) (sl' := 0) rfl rfl rfl rfl rfl rfl ?_
        refine gw_iload (pc' := 61) κ dL_isRider_59 rfl 1 rfl ?_
        refine gb_callS (rest := [.int r_28]) κ (c_L_people  (lr x1.toNatClampNeg) h) ⟨rfl, rfl, Nat.le_of_ble_eq_true rfl, Nat.le_of_ble_eq_true rfl⟩ tw_ml_L_20 tw_st_L_people tw_co_L_people tw_in_L hy_L_people rfl (Nat.le_of_ble_eq_true rfl) rfl dL_isRider_61 [] rfl (by decide) (fun _ => Nat.le_of_ble_eq_true rfl) ⟨Nat.le_of_ble_eq_true rfl, Nat.le_of_ble_eq_true rfl⟩ (fun v u hv => ?_)
        obtain ⟨r_29, rfl, h⟩ := hv
        refine gw_nf (ws' := (wfl [cX qx qn qp qw qt qu qd qh ql, cSt qn cI now.se now.la now.de now.le now.sa now.fl now.ar now.dr now.pe now.ri, cPl qp cI pln.od pln.rd pln.vn pln.pn pln.ao pln.sr pln.sp pln.wt, cWy qw cI ky_24 wp_25 mi_26 so_27, cA34 jq cI lq, cA24 jr cI lr, cA24 jw cI lw])) (lv' := [(6, .int (lw x1.toNatClampNeg)), (5, .int (lr x1.toNatClampNeg)), (0, .ref (qx 0)), (1, .int x1), (2, .ref (jq 0)), (3, .ref (jr 0)), (4, .ref (jw 0))]) (st' := [.int r_29, .int r_28]) (pc' := 64) (ce' := 0) (sl' := 0) rfl rfl rfl rfl rfl rfl ?_
        refine gw_icmp_ne (pc' := 67) (tgt := 107) κ dL_isRider_64 rfl (by decide) (fun hc_30 => ?_) (fun hc_30 => ?_)
        · have h := h.1 hc_30
          refine gw_iconst (pc' := 108) (v := 0) κ dL_isRider_107 rfl (by decide) ?_
          refine gw_lv (lv' := [(0, .ref (qx 0)), (1, .int x1), (2, .ref (jq 0)), (3, .ref (jr 0)), (4, .ref (jw 0)), (5, .int (lr x1.toNatClampNeg)), (6, .int (lw x1.toNatClampNeg))]) [2, 3, 4, 5, 6, 1, 0] rfl ?_
          exact k_L_isRider_108 κ qx qn qp qw qt qu qd qh ql jq jr jw qs P now pln way lq lr lw x1 (lr x1.toNatClampNeg) (lw x1.toNatClampNeg) (0 : Int32) ky_24 wp_25 mi_26 so_27 h
        · have h := h.2 hc_30
          refine gw_aload_n (pc' := 68) κ dL_isRider_67 rfl 2 rfl rfl ?_
          refine gw_iload_n (pc' := 69) κ dL_isRider_68 rfl 3 rfl rfl ?_
          refine gw_iconst (pc' := 70) (v := 4) κ dL_isRider_69 rfl (by decide) ?_
          refine gb_callV (ci := 5) (qb := 0) (rest := []) κ (c_X5_rider qx qn qp qw qt qu qd qh ql qs now pln (mkWy ky_24 wp_25 mi_26 so_27) x1 (4 : Int32) h) ⟨rfl, rfl, Nat.le_of_ble_eq_true rfl, Nat.le_of_ble_eq_true rfl⟩ tw_ml_L_39 tw_im_X5_rider tw_se_X5_rider tw_co_X5_rider tw_in_X5 hy_X5_rider rfl rfl rfl rfl rfl (Nat.le_of_ble_eq_true rfl) rfl dL_isRider_70 [0, 1, 2, 3] rfl (by decide) (fun _ => Nat.le_of_ble_eq_true rfl) ⟨Nat.le_of_ble_eq_true rfl, Nat.le_of_ble_eq_true rfl⟩ (fun v u hv => ?_)
          obtain ⟨r_35, rfl, h⟩ := hv
          obtain ⟨ky_31, wp_32, mi_33, so_34⟩ := u
          refine gw_nf (ws' := (wfl [cX qx qn qp qw qt qu qd qh ql, cSt qn cI now.se now.la now.de now.le now.sa now.fl now.ar now.dr now.pe now.ri, cPl qp cI pln.od pln.rd pln.vn pln.pn pln.ao pln.sr pln.sp pln.wt, cWy qw cI ky_31 wp_32 mi_33 so_34, cA34 jq cI lq, cA24 jr cI lr, cA24 jw cI lw])) (lv' := [(6, .int (lw x1.toNatClampNeg)), (5, .int (lr x1.toNatClampNeg)), (0, .ref (qx 0)), (1, .int x1), (2, .ref (jq 0)), (3, .ref (jr 0)), (4, .ref (jw 0))]) (st' := [.int r_35]) (pc' := 73) (ce' := 0) (sl' := 0) rfl rfl rfl rfl rfl rfl ?_
          refine gw_iload (pc' := 75) κ dL_isRider_73 rfl 1 rfl ?_
          refine gw_aload_n (pc' := 76) κ dL_isRider_75 rfl 4 rfl rfl ?_
          refine gb_callS (rest := [.int r_35]) κ (c_L_ready jq lq (lr x1.toNatClampNeg) h) ⟨rfl, rfl, Nat.le_of_ble_eq_true rfl, Nat.le_of_ble_eq_true rfl⟩ tw_ml_L_16 tw_st_L_ready tw_co_L_ready tw_in_L hy_L_ready rfl (Nat.le_of_ble_eq_true rfl) rfl dL_isRider_76 [4] rfl (by decide) (fun _ => Nat.le_of_ble_eq_true rfl) ⟨Nat.le_of_ble_eq_true rfl, Nat.le_of_ble_eq_true rfl⟩ (fun v u hv => ?_)
          obtain ⟨r_36, rfl, h⟩ := hv
          refine gw_nf (ws' := (wfl [cX qx qn qp qw qt qu qd qh ql, cSt qn cI now.se now.la now.de now.le now.sa now.fl now.ar now.dr now.pe now.ri, cPl qp cI pln.od pln.rd pln.vn pln.pn pln.ao pln.sr pln.sp pln.wt, cWy qw cI ky_31 wp_32 mi_33 so_34, cA34 jq cI lq, cA24 jr cI lr, cA24 jw cI lw])) (lv' := [(6, .int (lw x1.toNatClampNeg)), (5, .int (lr x1.toNatClampNeg)), (0, .ref (qx 0)), (1, .int x1), (2, .ref (jq 0)), (3, .ref (jr 0)), (4, .ref (jw 0))]) (st' := [.int r_36, .int r_35]) (pc' := 79) (ce' := 0) (sl' := 0) rfl rfl rfl rfl rfl rfl ?_
          refine gw_icmp_ne (pc' := 82) (tgt := 107) κ dL_isRider_79 rfl (by decide) (fun hc_37 => ?_) (fun hc_37 => ?_)
          · have h := h.1 hc_37
            refine gw_iconst (pc' := 108) (v := 0) κ dL_isRider_107 rfl (by decide) ?_
            refine gw_lv (lv' := [(0, .ref (qx 0)), (1, .int x1), (2, .ref (jq 0)), (3, .ref (jr 0)), (4, .ref (jw 0)), (5, .int (lr x1.toNatClampNeg)), (6, .int (lw x1.toNatClampNeg))]) [2, 3, 4, 5, 6, 1, 0] rfl ?_
            exact k_L_isRider_108 κ qx qn qp qw qt qu qd qh ql jq jr jw qs P now pln way lq lr lw x1 (lr x1.toNatClampNeg) (lw x1.toNatClampNeg) (0 : Int32) ky_31 wp_32 mi_33 so_34 h
          · have h := h.2 hc_37
            refine gw_aload_n (pc' := 83) κ dL_isRider_82 rfl 2 rfl rfl ?_
            refine gw_iload_n (pc' := 84) κ dL_isRider_83 rfl 3 rfl rfl ?_
            refine gw_iconst (pc' := 85) (v := 5) κ dL_isRider_84 rfl (by decide) ?_
            refine gb_callV (ci := 5) (qb := 0) (rest := []) κ (c_X5_rider qx qn qp qw qt qu qd qh ql qs now pln (mkWy ky_31 wp_32 mi_33 so_34) x1 (5 : Int32) h) ⟨rfl, rfl, Nat.le_of_ble_eq_true rfl, Nat.le_of_ble_eq_true rfl⟩ tw_ml_L_39 tw_im_X5_rider tw_se_X5_rider tw_co_X5_rider tw_in_X5 hy_X5_rider rfl rfl rfl rfl rfl (Nat.le_of_ble_eq_true rfl) rfl dL_isRider_85 [0, 1, 2, 3] rfl (by decide) (fun _ => Nat.le_of_ble_eq_true rfl) ⟨Nat.le_of_ble_eq_true rfl, Nat.le_of_ble_eq_true rfl⟩ (fun v u hv => ?_)
            obtain ⟨r_42, rfl, h⟩ := hv
            obtain ⟨ky_38, wp_39, mi_40, so_41⟩ := u
            refine gw_nf (ws' := (wfl [cX qx qn qp qw qt qu qd qh ql, cSt qn cI now.se now.la now.de now.le now.sa now.fl now.ar now.dr now.pe now.ri, cPl qp cI pln.od pln.rd pln.vn pln.pn pln.ao pln.sr pln.sp pln.wt, cWy qw cI ky_38 wp_39 mi_40 so_41, cA34 jq cI lq, cA24 jr cI lr, cA24 jw cI lw])) (lv' := [(6, .int (lw x1.toNatClampNeg)), (5, .int (lr x1.toNatClampNeg)), (0, .ref (qx 0)), (1, .int x1), (2, .ref (jq 0)), (3, .ref (jr 0)), (4, .ref (jw 0))]) (st' := [.int r_42]) (pc' := 88) (ce' := 0) (sl' := 0) rfl rfl rfl rfl rfl rfl ?_
            refine gw_iload (pc' := 90) κ dL_isRider_88 rfl 0 rfl ?_
            refine gw_if_ge (pc' := 93) (tgt := 98) κ dL_isRider_90 rfl (by decide) (fun hc_43 => ?_) (fun hc_43 => ?_)
            · have h := h.1 hc_43
              refine gw_iload (pc' := 100) κ dL_isRider_98 rfl 0 rfl ?_
              refine gw_lv (lv' := [(0, .ref (qx 0)), (1, .int x1), (2, .ref (jq 0)), (3, .ref (jr 0)), (4, .ref (jw 0)), (5, .int (lr x1.toNatClampNeg)), (6, .int (lw x1.toNatClampNeg))]) [2, 3, 4, 5, 6, 1, 0] rfl ?_
              exact k_L_isRider_100 κ qx qn qp qw qt qu qd qh ql jq jr jw qs P now pln way lq lr lw x1 (lr x1.toNatClampNeg) (lw x1.toNatClampNeg) r_42 (lw x1.toNatClampNeg) ky_38 wp_39 mi_40 so_41 h
            · have h := h.2 hc_43
              refine gw_bipush (pc' := 95) (v := -106) κ dL_isRider_93 rfl (by decide) ?_
              refine gw_goto (tgt := 100) κ dL_isRider_95 (by decide) ?_
              refine gw_lv (lv' := [(0, .ref (qx 0)), (1, .int x1), (2, .ref (jq 0)), (3, .ref (jr 0)), (4, .ref (jw 0)), (5, .int (lr x1.toNatClampNeg)), (6, .int (lw x1.toNatClampNeg))]) [2, 3, 4, 5, 6, 1, 0] rfl ?_
              exact k_L_isRider_100 κ qx qn qp qw qt qu qd qh ql jq jr jw qs P now pln way lq lr lw x1 (lr x1.toNatClampNeg) (lw x1.toNatClampNeg) r_42 (-106 : Int32) ky_38 wp_39 mi_40 so_41 h
theorem hy_L_isVan : g_hy yL_isVan 7 := by decide +kernel
set_option maxHeartbeats 4000000 in
set_option maxRecDepth 100000 in
theorem k_L_isVan_94 {zp : Program} {l : Launch} {ze : Env} {zs : State} {zm : MethodId} {za : Array Value} {zb : List Frame} {zt : Method} {zc : Code} {D : va_G} {cI cR : ClassId} {A : Nat → Prop} (κ : KC zp zs zm za zt zc cL_isVan 13 RL D cI cR A (some .boolean)) (qx : Nat → Nat) (qn : Nat → Nat) (qp : Nat → Nat) (qw : Nat → Nat) (qt : Nat → Nat) (qu : Nat → Nat) (qd : Nat → Nat) (qh : Nat → Nat) (ql : Nat → Nat) (jq : Nat → Nat) (jr : Nat → Nat) (jw : Nat → Nat) (jg : Nat → Nat) (qs : Nat → Nat → Nat) (P : Int32 → (Nat → Int32) → (Nat → Int32) → (Nat → Int32) → Int32 → Prop) (now : StT) (pln : PlT) (way : WyT) (lq : Nat → Int32) (lr : Nat → Int32) (lw : Nat → Int32) (lg : Nat → Int32) (x1 : Int32) (x2 : Int32) (r29 : Int32 → Int32 → Int32 → Int32 → Prop) (v7 : Int32) (v9 : Int32) (v10 : Int32) (v11 : Int32) (v12 : Int32) (w0 : Int32) (way_ky : Nat → Int32) (way_wp : Nat → Int32) (way_mi : Nat → Int32) (way_so : Int32) (hr29 : ∀ (v7 : Int32) (v8 : Int32) (v9 : Int32) (v12 : Int32), r29 v7 v8 v9 v12 → GM zp l ze ({ frames := 6, cells := 0, slots := 0, locals := 142 } : Room) zs zm za zb zt zc D A 13 (pI (fun (r : Int32) (u : (Nat → Int32) × (Nat → Int32) × (Nat → Int32) × Int32) => P r u.1 u.2.1 u.2.2.1 u.2.2.2)) (fun u : (Nat → Int32) × (Nat → Int32) × (Nat → Int32) × Int32 => (wfl [cX qx qn qp qw qt qu qd qh ql, cSt qn cI now.se now.la now.de now.le now.sa now.fl now.ar now.dr now.pe now.ri, cPl qp cI pln.od pln.rd pln.vn pln.pn pln.ao pln.sr pln.sp pln.wt, cWy qw cI u.1 u.2.1 u.2.2.1 u.2.2.2, cA34 jq cI lq, cA24 jr cI lr, cA24 jw cI lw, cA16 jg cI lg])) 0 0 0 0 (wfl [cX qx qn qp qw qt qu qd qh ql, cSt qn cI now.se now.la now.de now.le now.sa now.fl now.ar now.dr now.pe now.ri, cPl qp cI pln.od pln.rd pln.vn pln.pn pln.ao pln.sr pln.sp pln.wt, cWy qw cI way_ky way_wp way_mi way_so, cA34 jq cI lq, cA24 jr cI lr, cA24 jw cI lw, cA16 jg cI lg]) [(0, .ref (qx 0)), (1, .int x1), (2, .int x2), (3, .ref (jq 0)), (4, .ref (jr 0)), (5, .ref (jw 0)), (6, .ref (jg 0)), (7, .int v7), (8, .int v8), (9, .int v9), (10, .int v10), (11, .int v11), (12, .int v12)] 29 []) (h : wp_L_isVan_94 P now pln way lq lr lw lg x1 x2 r29 v7 v9 v10 v11 v12 w0 way_ky way_wp way_mi way_so) : GM zp l ze ({ frames := 6, cells := 0, slots := 0, locals := 142 } : Room) zs zm za zb zt zc D A 13 (pI (fun (r : Int32) (u : (Nat → Int32) × (Nat → Int32) × (Nat → Int32) × Int32) => P r u.1 u.2.1 u.2.2.1 u.2.2.2)) (fun u : (Nat → Int32) × (Nat → Int32) × (Nat → Int32) × Int32 => (wfl [cX qx qn qp qw qt qu qd qh ql, cSt qn cI now.se now.la now.de now.le now.sa now.fl now.ar now.dr now.pe now.ri, cPl qp cI pln.od pln.rd pln.vn pln.pn pln.ao pln.sr pln.sp pln.wt, cWy qw cI u.1 u.2.1 u.2.2.1 u.2.2.2, cA34 jq cI lq, cA24 jr cI lr, cA24 jw cI lw, cA16 jg cI lg])) 0 0 0 0 (wfl [cX qx qn qp qw qt qu qd qh ql, cSt qn cI now.se now.la now.de now.le now.sa now.fl now.ar now.dr now.pe now.ri, cPl qp cI pln.od pln.rd pln.vn pln.pn pln.ao pln.sr pln.sp pln.wt, cWy qw cI way_ky way_wp way_mi way_so, cA34 jq cI lq, cA24 jr cI lr, cA24 jw cI lw, cA16 jg cI lg]) [(0, .ref (qx 0)), (1, .int x1), (2, .int x2), (3, .ref (jq 0)), (4, .ref (jr 0)), (5, .ref (jw 0)), (6, .ref (jg 0)), (7, .int v7), (9, .int v9), (10, .int v10), (11, .int v11), (12, .int v12)] 94 [.int w0] := by
  unfold wp_L_isVan_94 at h
  refine gw_istore (pc' := 96) κ dL_isVan_94 rfl (by decide) (lv' := [(8, .int w0), (0, .ref (qx 0)), (1, .int x1), (2, .int x2), (3, .ref (jq 0)), (4, .ref (jr 0)), (5, .ref (jw 0)), (6, .ref (jg 0)), (7, .int v7), (9, .int v9), (10, .int v10), (11, .int v11), (12, .int v12)]) rfl ?_
  refine gw_aload (pc' := 98) κ dL_isVan_96 rfl 6 rfl ?_
  refine gw_iload (pc' := 100) κ dL_isVan_98 rfl 12 rfl ?_
  obtain ⟨hb_118, h⟩ := h
  refine gb_iald (pc' := 101) κ dL_isVan_100 rfl 6 0 rfl rfl hb_118 ?_
  refine gw_iload_n (pc' := 102) κ dL_isVan_101 rfl 2 rfl rfl ?_
  refine gw_icmp_ne (pc' := 105) (tgt := 137) κ dL_isVan_102 rfl (by decide) (fun hc_119 => ?_) (fun hc_119 => ?_)
  · have h := h.1 hc_119
    refine gw_iload (pc' := 139) κ dL_isVan_137 rfl 9 rfl ?_
    refine gw_istore (pc' := 141) κ dL_isVan_139 rfl (by decide) (lv' := [(9, .int v9), (8, .int w0), (0, .ref (qx 0)), (1, .int x1), (2, .int x2), (3, .ref (jq 0)), (4, .ref (jr 0)), (5, .ref (jw 0)), (6, .ref (jg 0)), (7, .int v7), (10, .int v10), (11, .int v11), (12, .int v12)]) rfl ?_
    refine gw_iinc (pc' := 144) κ dL_isVan_141 rfl 12 rfl (v := (v12 + 1)) rfl (by decide) (lv' := [(12, .int (v12 + 1)), (9, .int v9), (8, .int w0), (0, .ref (qx 0)), (1, .int x1), (2, .int x2), (3, .ref (jq 0)), (4, .ref (jr 0)), (5, .ref (jw 0)), (6, .ref (jg 0)), (7, .int v7), (10, .int v10), (11, .int v11)]) rfl ?_
    refine gw_goto (tgt := 29) κ dL_isVan_144 (by decide) ?_
    refine gw_lv (lv' := [(0, .ref (qx 0)), (1, .int x1), (2, .int x2), (3, .ref (jq 0)), (4, .ref (jr 0)), (5, .ref (jw 0)), (6, .ref (jg 0)), (7, .int v7), (8, .int w0), (9, .int v9), (10, .int v10), (11, .int v11), (12, .int (v12 + 1))]) [3, 4, 5, 6, 7, 8, 9, 10, 2, 1, 11, 12, 0] rfl ?_
    exact hr29 v7 w0 v9 (v12 + 1) h
  · have h := h.2 hc_119
    refine gw_iload_n (pc' := 106) κ dL_isVan_105 rfl 2 rfl rfl ?_
    refine gw_aload (pc' := 108) κ dL_isVan_106 rfl 5 rfl ?_
    refine gw_iload (pc' := 110) κ dL_isVan_108 rfl 12 rfl ?_
    obtain ⟨hb_120, h⟩ := h
    refine gb_iald (pc' := 111) κ dL_isVan_110 rfl 5 0 rfl rfl hb_120 ?_
    refine gb_callS (rest := [.int x1]) κ (c_L_keyOf  (lr v12.toNatClampNeg) h) ⟨rfl, rfl, Nat.le_of_ble_eq_true rfl, Nat.le_of_ble_eq_true rfl⟩ tw_ml_L_29 tw_st_L_keyOf tw_co_L_keyOf tw_in_L hy_L_keyOf rfl (Nat.le_of_ble_eq_true rfl) rfl dL_isVan_111 [] rfl (by decide) (fun _ => Nat.le_of_ble_eq_true rfl) ⟨Nat.le_of_ble_eq_true rfl, Nat.le_of_ble_eq_true rfl⟩ (fun v u hv => ?_)
    obtain ⟨r_121, rfl, h⟩ := hv
    refine gw_nf (ws' := (wfl [cX qx qn qp qw qt qu qd qh ql, cSt qn cI now.se now.la now.de now.le now.sa now.fl now.ar now.dr now.pe now.ri, cPl qp cI pln.od pln.rd pln.vn pln.pn pln.ao pln.sr pln.sp pln.wt, cWy qw cI way_ky way_wp way_mi way_so, cA34 jq cI lq, cA24 jr cI lr, cA24 jw cI lw, cA16 jg cI lg])) (lv' := [(8, .int w0), (0, .ref (qx 0)), (1, .int x1), (2, .int x2), (3, .ref (jq 0)), (4, .ref (jr 0)), (5, .ref (jw 0)), (6, .ref (jg 0)), (7, .int v7), (9, .int v9), (10, .int v10), (11, .int v11), (12, .int v12)]) (st' := [.int r_121, .int x1]) (pc' := 114) (ce' := 0) (sl' := 0) rfl rfl rfl rfl rfl rfl ?_
    refine gw_aload_n (pc' := 115) κ dL_isVan_114 rfl 4 rfl rfl ?_
    refine gw_aload (pc' := 117) κ dL_isVan_115 rfl 5 rfl ?_
    refine gw_aload (pc' := 119) κ dL_isVan_117 rfl 6 rfl ?_
    refine gb_callS (rest := []) κ (c_L_stopsAhead jq jr jw lq lr lw x1 r_121 h) ⟨rfl, rfl, Nat.le_of_ble_eq_true rfl, Nat.le_of_ble_eq_true rfl⟩ tw_ml_L_35 tw_st_L_stopsAhead tw_co_L_stopsAhead tw_in_L hy_L_stopsAhead rfl (Nat.le_of_ble_eq_true rfl) rfl dL_isVan_119 [4, 5, 6] rfl (by decide) (fun _ => Nat.le_of_ble_eq_true rfl) ⟨Nat.le_of_ble_eq_true rfl, Nat.le_of_ble_eq_true rfl⟩ (fun v u hv => ?_)
    obtain ⟨r_122, rfl, h⟩ := hv
    refine gw_nf (ws' := (wfl [cX qx qn qp qw qt qu qd qh ql, cSt qn cI now.se now.la now.de now.le now.sa now.fl now.ar now.dr now.pe now.ri, cPl qp cI pln.od pln.rd pln.vn pln.pn pln.ao pln.sr pln.sp pln.wt, cWy qw cI way_ky way_wp way_mi way_so, cA34 jq cI lq, cA24 jr cI lr, cA24 jw cI lw, cA16 jg cI lg])) (lv' := [(8, .int w0), (0, .ref (qx 0)), (1, .int x1), (2, .int x2), (3, .ref (jq 0)), (4, .ref (jr 0)), (5, .ref (jw 0)), (6, .ref (jg 0)), (7, .int v7), (9, .int v9), (10, .int v10), (11, .int v11), (12, .int v12)]) (st' := [.int r_122]) (pc' := 122) (ce' := 0) (sl' := 0) rfl rfl rfl rfl rfl rfl ?_
    refine gw_iload_n (pc' := 123) κ dL_isVan_122 rfl 3 rfl rfl ?_
    refine gw_icmp_ne (pc' := 126) (tgt := 137) κ dL_isVan_123 rfl (by decide) (fun hc_123 => ?_) (fun hc_123 => ?_)
    · have h := h.1 hc_123
      refine gw_iload (pc' := 139) κ dL_isVan_137 rfl 9 rfl ?_
      refine gw_istore (pc' := 141) κ dL_isVan_139 rfl (by decide) (lv' := [(9, .int v9), (8, .int w0), (0, .ref (qx 0)), (1, .int x1), (2, .int x2), (3, .ref (jq 0)), (4, .ref (jr 0)), (5, .ref (jw 0)), (6, .ref (jg 0)), (7, .int v7), (10, .int v10), (11, .int v11), (12, .int v12)]) rfl ?_
      refine gw_iinc (pc' := 144) κ dL_isVan_141 rfl 12 rfl (v := (v12 + 1)) rfl (by decide) (lv' := [(12, .int (v12 + 1)), (9, .int v9), (8, .int w0), (0, .ref (qx 0)), (1, .int x1), (2, .int x2), (3, .ref (jq 0)), (4, .ref (jr 0)), (5, .ref (jw 0)), (6, .ref (jg 0)), (7, .int v7), (10, .int v10), (11, .int v11)]) rfl ?_
      refine gw_goto (tgt := 29) κ dL_isVan_144 (by decide) ?_
      refine gw_lv (lv' := [(0, .ref (qx 0)), (1, .int x1), (2, .int x2), (3, .ref (jq 0)), (4, .ref (jr 0)), (5, .ref (jw 0)), (6, .ref (jg 0)), (7, .int v7), (8, .int w0), (9, .int v9), (10, .int v10), (11, .int v11), (12, .int (v12 + 1))]) [3, 4, 5, 6, 7, 8, 9, 10, 2, 1, 11, 12, 0] rfl ?_
      exact hr29 v7 w0 v9 (v12 + 1) h
    · have h := h.2 hc_123
      refine gw_aload (pc' := 128) κ dL_isVan_126 rfl 5 rfl ?_
      refine gw_iload (pc' := 130) κ dL_isVan_128 rfl 12 rfl ?_
      obtain ⟨hb_124, h⟩ := h
      refine gb_iald (pc' := 131) κ dL_isVan_130 rfl 5 0 rfl rfl hb_124 ?_
      refine gb_callS (rest := []) κ (c_L_keyOf  (lr v12.toNatClampNeg) h) ⟨rfl, rfl, Nat.le_of_ble_eq_true rfl, Nat.le_of_ble_eq_true rfl⟩ tw_ml_L_29 tw_st_L_keyOf tw_co_L_keyOf tw_in_L hy_L_keyOf rfl (Nat.le_of_ble_eq_true rfl) rfl dL_isVan_131 [] rfl (by decide) (fun _ => Nat.le_of_ble_eq_true rfl) ⟨Nat.le_of_ble_eq_true rfl, Nat.le_of_ble_eq_true rfl⟩ (fun v u hv => ?_)
      obtain ⟨r_125, rfl, h⟩ := hv
      refine gw_nf (ws' := (wfl [cX qx qn qp qw qt qu qd qh ql, cSt qn cI now.se now.la now.de now.le now.sa now.fl now.ar now.dr now.pe now.ri, cPl qp cI pln.od pln.rd pln.vn pln.pn pln.ao pln.sr pln.sp pln.wt, cWy qw cI way_ky way_wp way_mi way_so, cA34 jq cI lq, cA24 jr cI lr, cA24 jw cI lw, cA16 jg cI lg])) (lv' := [(8, .int w0), (0, .ref (qx 0)), (1, .int x1), (2, .int x2), (3, .ref (jq 0)), (4, .ref (jr 0)), (5, .ref (jw 0)), (6, .ref (jg 0)), (7, .int v7), (9, .int v9), (10, .int v10), (11, .int v11), (12, .int v12)]) (st' := [.int r_125]) (pc' := 134) (ce' := 0) (sl' := 0) rfl rfl rfl rfl rfl rfl ?_
      refine gw_goto (tgt := 139) κ dL_isVan_134 (by decide) ?_
      refine gw_istore (pc' := 141) κ dL_isVan_139 rfl (by decide) (lv' := [(9, .int r_125), (8, .int w0), (0, .ref (qx 0)), (1, .int x1), (2, .int x2), (3, .ref (jq 0)), (4, .ref (jr 0)), (5, .ref (jw 0)), (6, .ref (jg 0)), (7, .int v7), (10, .int v10), (11, .int v11), (12, .int v12)]) rfl ?_
      refine gw_iinc (pc' := 144) κ dL_isVan_141 rfl 12 rfl (v := (v12 + 1)) rfl (by decide) (lv' := [(12, .int (v12 + 1)), (9, .int r_125), (8, .int w0), (0, .ref (qx 0)), (1, .int x1), (2, .int x2), (3, .ref (jq 0)), (4, .ref (jr 0)), (5, .ref (jw 0)), (6, .ref (jg 0)), (7, .int v7), (10, .int v10), (11, .int v11)]) rfl ?_
      refine gw_goto (tgt := 29) κ dL_isVan_144 (by decide) ?_
      refine gw_lv (lv' := [(0, .ref (qx 0)), (1, .int x1), (2, .int x2), (3, .ref (jq 0)), (4, .ref (jr 0)), (5, .ref (jw 0)), (6, .ref (jg 0)), (7, .int v7), (8, .int w0), (9, .int r_125), (10, .int v10), (11, .int v11), (12, .int (v12 + 1))]) [3, 4, 5, 6, 7, 8, 9, 10, 2, 1, 11, 12, 0] rfl ?_
      exact hr29 v7 w0 r_125 (v12 + 1) h
set_option maxHeartbeats 4000000 in
set_option maxRecDepth 100000 in
theorem k_L_isVan_56 {zp : Program} {l : Launch} {ze : Env} {zs : State} {zm : MethodId} {za : Array Value} {zb : List Frame} {zt : Method} {zc : Code} {D : va_G} {cI cR : ClassId} {A : Nat → Prop} (κ : KC zp zs zm za zt zc cL_isVan 13 RL D cI cR A (some .boolean)) (qx : Nat → Nat) (qn : Nat → Nat) (qp : Nat → Nat) (qw : Nat → Nat) (qt : Nat → Nat) (qu : Nat → Nat) (qd : Nat → Nat) (qh : Nat → Nat) (ql : Nat → Nat) (jq : Nat → Nat) (jr : Nat → Nat) (jw : Nat → Nat) (jg : Nat → Nat) (qs : Nat → Nat → Nat) (P : Int32 → (Nat → Int32) → (Nat → Int32) → (Nat → Int32) → Int32 → Prop) (now : StT) (pln : PlT) (way : WyT) (lq : Nat → Int32) (lr : Nat → Int32) (lw : Nat → Int32) (lg : Nat → Int32) (x1 : Int32) (x2 : Int32) (r29 : Int32 → Int32 → Int32 → Int32 → Prop) (v8 : Int32) (v9 : Int32) (v10 : Int32) (v11 : Int32) (v12 : Int32) (w0 : Int32) (w1 : Int32) (way_ky : Nat → Int32) (way_wp : Nat → Int32) (way_mi : Nat → Int32) (way_so : Int32) (hr29 : ∀ (v7 : Int32) (v8 : Int32) (v9 : Int32) (v12 : Int32), r29 v7 v8 v9 v12 → GM zp l ze ({ frames := 6, cells := 0, slots := 0, locals := 142 } : Room) zs zm za zb zt zc D A 13 (pI (fun (r : Int32) (u : (Nat → Int32) × (Nat → Int32) × (Nat → Int32) × Int32) => P r u.1 u.2.1 u.2.2.1 u.2.2.2)) (fun u : (Nat → Int32) × (Nat → Int32) × (Nat → Int32) × Int32 => (wfl [cX qx qn qp qw qt qu qd qh ql, cSt qn cI now.se now.la now.de now.le now.sa now.fl now.ar now.dr now.pe now.ri, cPl qp cI pln.od pln.rd pln.vn pln.pn pln.ao pln.sr pln.sp pln.wt, cWy qw cI u.1 u.2.1 u.2.2.1 u.2.2.2, cA34 jq cI lq, cA24 jr cI lr, cA24 jw cI lw, cA16 jg cI lg])) 0 0 0 0 (wfl [cX qx qn qp qw qt qu qd qh ql, cSt qn cI now.se now.la now.de now.le now.sa now.fl now.ar now.dr now.pe now.ri, cPl qp cI pln.od pln.rd pln.vn pln.pn pln.ao pln.sr pln.sp pln.wt, cWy qw cI way_ky way_wp way_mi way_so, cA34 jq cI lq, cA24 jr cI lr, cA24 jw cI lw, cA16 jg cI lg]) [(0, .ref (qx 0)), (1, .int x1), (2, .int x2), (3, .ref (jq 0)), (4, .ref (jr 0)), (5, .ref (jw 0)), (6, .ref (jg 0)), (7, .int v7), (8, .int v8), (9, .int v9), (10, .int v10), (11, .int v11), (12, .int v12)] 29 []) (h : wp_L_isVan_56 P now pln way lq lr lw lg x1 x2 r29 v8 v9 v10 v11 v12 w0 w1 way_ky way_wp way_mi way_so) : GM zp l ze ({ frames := 6, cells := 0, slots := 0, locals := 142 } : Room) zs zm za zb zt zc D A 13 (pI (fun (r : Int32) (u : (Nat → Int32) × (Nat → Int32) × (Nat → Int32) × Int32) => P r u.1 u.2.1 u.2.2.1 u.2.2.2)) (fun u : (Nat → Int32) × (Nat → Int32) × (Nat → Int32) × Int32 => (wfl [cX qx qn qp qw qt qu qd qh ql, cSt qn cI now.se now.la now.de now.le now.sa now.fl now.ar now.dr now.pe now.ri, cPl qp cI pln.od pln.rd pln.vn pln.pn pln.ao pln.sr pln.sp pln.wt, cWy qw cI u.1 u.2.1 u.2.2.1 u.2.2.2, cA34 jq cI lq, cA24 jr cI lr, cA24 jw cI lw, cA16 jg cI lg])) 0 0 0 0 (wfl [cX qx qn qp qw qt qu qd qh ql, cSt qn cI now.se now.la now.de now.le now.sa now.fl now.ar now.dr now.pe now.ri, cPl qp cI pln.od pln.rd pln.vn pln.pn pln.ao pln.sr pln.sp pln.wt, cWy qw cI way_ky way_wp way_mi way_so, cA34 jq cI lq, cA24 jr cI lr, cA24 jw cI lw, cA16 jg cI lg]) [(0, .ref (qx 0)), (1, .int x1), (2, .int x2), (3, .ref (jq 0)), (4, .ref (jr 0)), (5, .ref (jw 0)), (6, .ref (jg 0)), (8, .int v8), (9, .int v9), (10, .int v10), (11, .int v11), (12, .int v12)] 56 [.int w1, .int w0] := by
  unfold wp_L_isVan_56 at h
  refine gw_ior (pc' := 57) κ dL_isVan_56 rfl  ?_
  refine gw_istore (pc' := 59) κ dL_isVan_57 rfl (by decide) (lv' := [(7, .int (w0 ||| w1)), (0, .ref (qx 0)), (1, .int x1), (2, .int x2), (3, .ref (jq 0)), (4, .ref (jr 0)), (5, .ref (jw 0)), (6, .ref (jg 0)), (8, .int v8), (9, .int v9), (10, .int v10), (11, .int v11), (12, .int v12)]) rfl ?_
  refine gw_aload (pc' := 61) κ dL_isVan_59 rfl 6 rfl ?_
  refine gw_iload (pc' := 63) κ dL_isVan_61 rfl 12 rfl ?_
  obtain ⟨hb_62, h⟩ := h
  refine gb_iald (pc' := 64) κ dL_isVan_63 rfl 6 0 rfl rfl hb_62 ?_
  refine gw_iload_n (pc' := 65) κ dL_isVan_64 rfl 2 rfl rfl ?_
  refine gw_icmp_ne (pc' := 68) (tgt := 92) κ dL_isVan_65 rfl (by decide) (fun hc_63 => ?_) (fun hc_63 => ?_)
  · have h := h.1 hc_63
    refine gw_iload (pc' := 94) κ dL_isVan_92 rfl 8 rfl ?_
    refine gw_lv (lv' := [(0, .ref (qx 0)), (1, .int x1), (2, .int x2), (3, .ref (jq 0)), (4, .ref (jr 0)), (5, .ref (jw 0)), (6, .ref (jg 0)), (7, .int (w0 ||| w1)), (9, .int v9), (10, .int v10), (11, .int v11), (12, .int v12)]) [1, 2, 3, 4, 5, 6, 7, 0, 9, 10, 11, 12] rfl ?_
    exact k_L_isVan_94 κ qx qn qp qw qt qu qd qh ql jq jr jw jg qs P now pln way lq lr lw lg x1 x2 r29 (w0 ||| w1) v9 v10 v11 v12 v8 way_ky way_wp way_mi way_so hr29 h
  · have h := h.2 hc_63
    refine gw_aload (pc' := 70) κ dL_isVan_68 rfl 5 rfl ?_
    refine gw_iload (pc' := 72) κ dL_isVan_70 rfl 12 rfl ?_
    obtain ⟨hb_64, h⟩ := h
    refine gb_iald (pc' := 73) κ dL_isVan_72 rfl 5 0 rfl rfl hb_64 ?_
    refine gb_callS (rest := []) κ (c_L_keyOf  (lr v12.toNatClampNeg) h) ⟨rfl, rfl, Nat.le_of_ble_eq_true rfl, Nat.le_of_ble_eq_true rfl⟩ tw_ml_L_29 tw_st_L_keyOf tw_co_L_keyOf tw_in_L hy_L_keyOf rfl (Nat.le_of_ble_eq_true rfl) rfl dL_isVan_73 [] rfl (by decide) (fun _ => Nat.le_of_ble_eq_true rfl) ⟨Nat.le_of_ble_eq_true rfl, Nat.le_of_ble_eq_true rfl⟩ (fun v u hv => ?_)
    obtain ⟨r_65, rfl, h⟩ := hv
    refine gw_nf (ws' := (wfl [cX qx qn qp qw qt qu qd qh ql, cSt qn cI now.se now.la now.de now.le now.sa now.fl now.ar now.dr now.pe now.ri, cPl qp cI pln.od pln.rd pln.vn pln.pn pln.ao pln.sr pln.sp pln.wt, cWy qw cI way_ky way_wp way_mi way_so, cA34 jq cI lq, cA24 jr cI lr, cA24 jw cI lw, cA16 jg cI lg])) (lv' := [(7, .int (w0 ||| w1)), (0, .ref (qx 0)), (1, .int x1), (2, .int x2), (3, .ref (jq 0)), (4, .ref (jr 0)), (5, .ref (jw 0)), (6, .ref (jg 0)), (8, .int v8), (9, .int v9), (10, .int v10), (11, .int v11), (12, .int v12)]) (st' := [.int r_65]) (pc' := 76) (ce' := 0) (sl' := 0) rfl rfl rfl rfl rfl rfl ?_
    refine gw_iload (pc' := 78) κ dL_isVan_76 rfl 8 rfl ?_
    refine gw_icmp_le (pc' := 81) (tgt := 92) κ dL_isVan_78 rfl (by decide) (fun hc_66 => ?_) (fun hc_66 => ?_)
    · have h := h.1 hc_66
      refine gw_iload (pc' := 94) κ dL_isVan_92 rfl 8 rfl ?_
      refine gw_lv (lv' := [(0, .ref (qx 0)), (1, .int x1), (2, .int x2), (3, .ref (jq 0)), (4, .ref (jr 0)), (5, .ref (jw 0)), (6, .ref (jg 0)), (7, .int (w0 ||| w1)), (9, .int v9), (10, .int v10), (11, .int v11), (12, .int v12)]) [1, 2, 3, 4, 5, 6, 7, 0, 9, 10, 11, 12] rfl ?_
      exact k_L_isVan_94 κ qx qn qp qw qt qu qd qh ql jq jr jw jg qs P now pln way lq lr lw lg x1 x2 r29 (w0 ||| w1) v9 v10 v11 v12 v8 way_ky way_wp way_mi way_so hr29 h
    · have h := h.2 hc_66
      refine gw_aload (pc' := 83) κ dL_isVan_81 rfl 5 rfl ?_
      refine gw_iload (pc' := 85) κ dL_isVan_83 rfl 12 rfl ?_
      obtain ⟨hb_67, h⟩ := h
      refine gb_iald (pc' := 86) κ dL_isVan_85 rfl 5 0 rfl rfl hb_67 ?_
      refine gb_callS (rest := []) κ (c_L_keyOf  (lr v12.toNatClampNeg) h) ⟨rfl, rfl, Nat.le_of_ble_eq_true rfl, Nat.le_of_ble_eq_true rfl⟩ tw_ml_L_29 tw_st_L_keyOf tw_co_L_keyOf tw_in_L hy_L_keyOf rfl (Nat.le_of_ble_eq_true rfl) rfl dL_isVan_86 [] rfl (by decide) (fun _ => Nat.le_of_ble_eq_true rfl) ⟨Nat.le_of_ble_eq_true rfl, Nat.le_of_ble_eq_true rfl⟩ (fun v u hv => ?_)
      obtain ⟨r_68, rfl, h⟩ := hv
      refine gw_nf (ws' := (wfl [cX qx qn qp qw qt qu qd qh ql, cSt qn cI now.se now.la now.de now.le now.sa now.fl now.ar now.dr now.pe now.ri, cPl qp cI pln.od pln.rd pln.vn pln.pn pln.ao pln.sr pln.sp pln.wt, cWy qw cI way_ky way_wp way_mi way_so, cA34 jq cI lq, cA24 jr cI lr, cA24 jw cI lw, cA16 jg cI lg])) (lv' := [(7, .int (w0 ||| w1)), (0, .ref (qx 0)), (1, .int x1), (2, .int x2), (3, .ref (jq 0)), (4, .ref (jr 0)), (5, .ref (jw 0)), (6, .ref (jg 0)), (8, .int v8), (9, .int v9), (10, .int v10), (11, .int v11), (12, .int v12)]) (st' := [.int r_68]) (pc' := 89) (ce' := 0) (sl' := 0) rfl rfl rfl rfl rfl rfl ?_
      refine gw_goto (tgt := 94) κ dL_isVan_89 (by decide) ?_
      refine gw_lv (lv' := [(0, .ref (qx 0)), (1, .int x1), (2, .int x2), (3, .ref (jq 0)), (4, .ref (jr 0)), (5, .ref (jw 0)), (6, .ref (jg 0)), (7, .int (w0 ||| w1)), (9, .int v9), (10, .int v10), (11, .int v11), (12, .int v12)]) [1, 2, 3, 4, 5, 6, 7, 0, 9, 10, 11, 12] rfl ?_
      exact k_L_isVan_94 κ qx qn qp qw qt qu qd qh ql jq jr jw jg qs P now pln way lq lr lw lg x1 x2 r29 (w0 ||| w1) v9 v10 v11 v12 r_68 way_ky way_wp way_mi way_so hr29 h
set_option maxHeartbeats 4000000 in
set_option maxRecDepth 100000 in
theorem k_L_isVan_349 {zp : Program} {l : Launch} {ze : Env} {zs : State} {zm : MethodId} {za : Array Value} {zb : List Frame} {zt : Method} {zc : Code} {D : va_G} {cI cR : ClassId} {A : Nat → Prop} (κ : KC zp zs zm za zt zc cL_isVan 13 RL D cI cR A (some .boolean)) (qx : Nat → Nat) (qn : Nat → Nat) (qp : Nat → Nat) (qw : Nat → Nat) (qt : Nat → Nat) (qu : Nat → Nat) (qd : Nat → Nat) (qh : Nat → Nat) (ql : Nat → Nat) (jq : Nat → Nat) (jr : Nat → Nat) (jw : Nat → Nat) (jg : Nat → Nat) (qs : Nat → Nat → Nat) (P : Int32 → (Nat → Int32) → (Nat → Int32) → (Nat → Int32) → Int32 → Prop) (now : StT) (pln : PlT) (way : WyT) (lq : Nat → Int32) (lr : Nat → Int32) (lw : Nat → Int32) (lg : Nat → Int32) (x1 : Int32) (x2 : Int32) (v9 : Int32) (v10 : Int32) (v11 : Int32) (w0 : Int32) (way_ky : Nat → Int32) (way_wp : Nat → Int32) (way_mi : Nat → Int32) (way_so : Int32) (h : wp_L_isVan_349 P now pln way lq lr lw lg x1 x2 v9 v10 v11 w0 way_ky way_wp way_mi way_so) : GM zp l ze ({ frames := 6, cells := 0, slots := 0, locals := 142 } : Room) zs zm za zb zt zc D A 13 (pI (fun (r : Int32) (u : (Nat → Int32) × (Nat → Int32) × (Nat → Int32) × Int32) => P r u.1 u.2.1 u.2.2.1 u.2.2.2)) (fun u : (Nat → Int32) × (Nat → Int32) × (Nat → Int32) × Int32 => (wfl [cX qx qn qp qw qt qu qd qh ql, cSt qn cI now.se now.la now.de now.le now.sa now.fl now.ar now.dr now.pe now.ri, cPl qp cI pln.od pln.rd pln.vn pln.pn pln.ao pln.sr pln.sp pln.wt, cWy qw cI u.1 u.2.1 u.2.2.1 u.2.2.2, cA34 jq cI lq, cA24 jr cI lr, cA24 jw cI lw, cA16 jg cI lg])) 0 0 0 0 (wfl [cX qx qn qp qw qt qu qd qh ql, cSt qn cI now.se now.la now.de now.le now.sa now.fl now.ar now.dr now.pe now.ri, cPl qp cI pln.od pln.rd pln.vn pln.pn pln.ao pln.sr pln.sp pln.wt, cWy qw cI way_ky way_wp way_mi way_so, cA34 jq cI lq, cA24 jr cI lr, cA24 jw cI lw, cA16 jg cI lg]) [(0, .ref (qx 0)), (1, .int x1), (2, .int x2), (3, .ref (jq 0)), (4, .ref (jr 0)), (5, .ref (jw 0)), (9, .int v9), (10, .int v10), (11, .int v11)] 349 [.int w0] := by
  unfold wp_L_isVan_349 at h
  refine gw_istore (pc' := 351) κ dL_isVan_349 rfl (by decide) (lv' := [(12, .int w0), (0, .ref (qx 0)), (1, .int x1), (2, .int x2), (3, .ref (jq 0)), (4, .ref (jr 0)), (5, .ref (jw 0)), (9, .int v9), (10, .int v10), (11, .int v11)]) rfl ?_
  refine gw_iload_n (pc' := 352) κ dL_isVan_351 rfl 3 rfl rfl ?_
  refine gw_iload (pc' := 354) κ dL_isVan_352 rfl 8 rfl ?_
  refine gw_icmp_lt (pc' := 357) (tgt := 380) κ dL_isVan_354 rfl (by decide) (fun hc_69 => ?_) (fun hc_69 => ?_)
  · have h := h.1 hc_69
    refine gw_iload (pc' := 382) κ dL_isVan_380 rfl 0 rfl ?_
    refine gw_if_eq (pc' := 385) (tgt := 464) κ dL_isVan_382 rfl (by decide) (fun hc_70 => ?_) (fun hc_70 => ?_)
    · have h := h.1 hc_70
      refine gw_iconst (pc' := 465) (v := 0) κ dL_isVan_464 rfl (by decide) ?_
      exact gw_zret κ dL_isVan_465 (way_ky, way_wp, way_mi, way_so) rfl rfl ⟨_, rfl, h⟩
    · have h := h.2 hc_70
      refine gw_aload_n (pc' := 386) κ dL_isVan_385 rfl 1 rfl rfl ?_
      refine gw_iload_n (pc' := 387) κ dL_isVan_386 rfl 2 rfl rfl ?_
      refine gw_iload_n (pc' := 388) κ dL_isVan_387 rfl 3 rfl rfl ?_
      refine gw_iconst (pc' := 389) (v := 0) κ dL_isVan_388 rfl (by decide) ?_
      refine gb_callV (ci := 5) (qb := 0) (rest := []) κ (c_X5_stop qx qn qp qw qt qu qd qh ql qs now pln (mkWy way_ky way_wp way_mi way_so) x1 x2 (0 : Int32) h) ⟨rfl, rfl, Nat.le_of_ble_eq_true rfl, Nat.le_of_ble_eq_true rfl⟩ tw_ml_L_55 tw_im_X5_stop tw_se_X5_stop tw_co_X5_stop tw_in_X5 hy_X5_stop rfl rfl rfl rfl rfl (Nat.le_of_ble_eq_true rfl) rfl dL_isVan_389 [0, 1, 2, 3] rfl (by decide) (fun _ => Nat.le_of_ble_eq_true rfl) ⟨Nat.le_of_ble_eq_true rfl, Nat.le_of_ble_eq_true rfl⟩ (fun v u hv => ?_)
      obtain ⟨r_75, rfl, h⟩ := hv
      obtain ⟨ky_71, wp_72, mi_73, so_74⟩ := u
      refine gw_nf (ws' := (wfl [cX qx qn qp qw qt qu qd qh ql, cSt qn cI now.se now.la now.de now.le now.sa now.fl now.ar now.dr now.pe now.ri, cPl qp cI pln.od pln.rd pln.vn pln.pn pln.ao pln.sr pln.sp pln.wt, cWy qw cI ky_71 wp_72 mi_73 so_74, cA34 jq cI lq, cA24 jr cI lr, cA24 jw cI lw, cA16 jg cI lg])) (lv' := [(12, .int w0), (0, .ref (qx 0)), (1, .int x1), (2, .int x2), (3, .ref (jq 0)), (4, .ref (jr 0)), (5, .ref (jw 0)), (9, .int v9), (10, .int v10), (11, .int v11)]) (st' := [.int r_75]) (pc' := 392) (ce' := 0) (sl' := 0) rfl rfl rfl rfl rfl rfl ?_
      refine gw_iload (pc' := 394) κ dL_isVan_392 rfl 7 rfl ?_
      refine gw_bipush (pc' := 396) (v := 100) κ dL_isVan_394 rfl (by decide) ?_
      refine gw_idiv (pc' := 397) κ dL_isVan_396 rfl (by decide) ?_
      refine gw_icmp_ne (pc' := 400) (tgt := 464) κ dL_isVan_397 rfl (by decide) (fun hc_76 => ?_) (fun hc_76 => ?_)
      · have h := h.1 hc_76
        refine gw_iconst (pc' := 465) (v := 0) κ dL_isVan_464 rfl (by decide) ?_
        exact gw_zret κ dL_isVan_465 (ky_71, wp_72, mi_73, so_74) rfl rfl ⟨_, rfl, h⟩
      · have h := h.2 hc_76
        refine gw_aload_n (pc' := 401) κ dL_isVan_400 rfl 1 rfl rfl ?_
        refine gw_iload_n (pc' := 402) κ dL_isVan_401 rfl 2 rfl rfl ?_
        refine gw_iload_n (pc' := 403) κ dL_isVan_402 rfl 3 rfl rfl ?_
        refine gw_iconst (pc' := 404) (v := 1) κ dL_isVan_403 rfl (by decide) ?_
        refine gb_callV (ci := 5) (qb := 0) (rest := []) κ (c_X5_stop qx qn qp qw qt qu qd qh ql qs now pln (mkWy ky_71 wp_72 mi_73 so_74) x1 x2 (1 : Int32) h) ⟨rfl, rfl, Nat.le_of_ble_eq_true rfl, Nat.le_of_ble_eq_true rfl⟩ tw_ml_L_55 tw_im_X5_stop tw_se_X5_stop tw_co_X5_stop tw_in_X5 hy_X5_stop rfl rfl rfl rfl rfl (Nat.le_of_ble_eq_true rfl) rfl dL_isVan_404 [0, 1, 2, 3] rfl (by decide) (fun _ => Nat.le_of_ble_eq_true rfl) ⟨Nat.le_of_ble_eq_true rfl, Nat.le_of_ble_eq_true rfl⟩ (fun v u hv => ?_)
        obtain ⟨r_81, rfl, h⟩ := hv
        obtain ⟨ky_77, wp_78, mi_79, so_80⟩ := u
        refine gw_nf (ws' := (wfl [cX qx qn qp qw qt qu qd qh ql, cSt qn cI now.se now.la now.de now.le now.sa now.fl now.ar now.dr now.pe now.ri, cPl qp cI pln.od pln.rd pln.vn pln.pn pln.ao pln.sr pln.sp pln.wt, cWy qw cI ky_77 wp_78 mi_79 so_80, cA34 jq cI lq, cA24 jr cI lr, cA24 jw cI lw, cA16 jg cI lg])) (lv' := [(12, .int w0), (0, .ref (qx 0)), (1, .int x1), (2, .int x2), (3, .ref (jq 0)), (4, .ref (jr 0)), (5, .ref (jw 0)), (9, .int v9), (10, .int v10), (11, .int v11)]) (st' := [.int r_81]) (pc' := 407) (ce' := 0) (sl' := 0) rfl rfl rfl rfl rfl rfl ?_
        refine gw_iload (pc' := 409) κ dL_isVan_407 rfl 7 rfl ?_
        refine gw_bipush (pc' := 411) (v := 100) κ dL_isVan_409 rfl (by decide) ?_
        refine gw_irem (pc' := 412) κ dL_isVan_411 rfl (by decide) ?_
        refine gw_icmp_ne (pc' := 415) (tgt := 464) κ dL_isVan_412 rfl (by decide) (fun hc_82 => ?_) (fun hc_82 => ?_)
        · have h := h.1 hc_82
          refine gw_iconst (pc' := 465) (v := 0) κ dL_isVan_464 rfl (by decide) ?_
          exact gw_zret κ dL_isVan_465 (ky_77, wp_78, mi_79, so_80) rfl rfl ⟨_, rfl, h⟩
        · have h := h.2 hc_82
          refine gw_aload_n (pc' := 416) κ dL_isVan_415 rfl 1 rfl rfl ?_
          refine gw_iload_n (pc' := 417) κ dL_isVan_416 rfl 2 rfl rfl ?_
          refine gw_iload_n (pc' := 418) κ dL_isVan_417 rfl 3 rfl rfl ?_
          refine gw_iconst (pc' := 419) (v := 2) κ dL_isVan_418 rfl (by decide) ?_
          refine gb_callV (ci := 5) (qb := 0) (rest := []) κ (c_X5_stop qx qn qp qw qt qu qd qh ql qs now pln (mkWy ky_77 wp_78 mi_79 so_80) x1 x2 (2 : Int32) h) ⟨rfl, rfl, Nat.le_of_ble_eq_true rfl, Nat.le_of_ble_eq_true rfl⟩ tw_ml_L_55 tw_im_X5_stop tw_se_X5_stop tw_co_X5_stop tw_in_X5 hy_X5_stop rfl rfl rfl rfl rfl (Nat.le_of_ble_eq_true rfl) rfl dL_isVan_419 [0, 1, 2, 3] rfl (by decide) (fun _ => Nat.le_of_ble_eq_true rfl) ⟨Nat.le_of_ble_eq_true rfl, Nat.le_of_ble_eq_true rfl⟩ (fun v u hv => ?_)
          obtain ⟨r_87, rfl, h⟩ := hv
          obtain ⟨ky_83, wp_84, mi_85, so_86⟩ := u
          refine gw_nf (ws' := (wfl [cX qx qn qp qw qt qu qd qh ql, cSt qn cI now.se now.la now.de now.le now.sa now.fl now.ar now.dr now.pe now.ri, cPl qp cI pln.od pln.rd pln.vn pln.pn pln.ao pln.sr pln.sp pln.wt, cWy qw cI ky_83 wp_84 mi_85 so_86, cA34 jq cI lq, cA24 jr cI lr, cA24 jw cI lw, cA16 jg cI lg])) (lv' := [(12, .int w0), (0, .ref (qx 0)), (1, .int x1), (2, .int x2), (3, .ref (jq 0)), (4, .ref (jr 0)), (5, .ref (jw 0)), (9, .int v9), (10, .int v10), (11, .int v11)]) (st' := [.int r_87]) (pc' := 422) (ce' := 0) (sl' := 0) rfl rfl rfl rfl rfl rfl ?_
          refine gw_iload_n (pc' := 423) κ dL_isVan_422 rfl 2 rfl rfl ?_
          refine gw_iload (pc' := 425) κ dL_isVan_423 rfl 7 rfl ?_
          refine gw_aload_n (pc' := 426) κ dL_isVan_425 rfl 4 rfl rfl ?_
          refine gw_aload (pc' := 428) κ dL_isVan_426 rfl 5 rfl ?_
          refine gw_aload (pc' := 430) κ dL_isVan_428 rfl 6 rfl ?_
          refine gb_callS (rest := [.int r_87]) κ (c_L_minuteAt jq jr jw lq lr lw x1 v9 h) ⟨rfl, rfl, Nat.le_of_ble_eq_true rfl, Nat.le_of_ble_eq_true rfl⟩ tw_ml_L_45 tw_st_L_minuteAt tw_co_L_minuteAt tw_in_L hy_L_minuteAt rfl (Nat.le_of_ble_eq_true rfl) rfl dL_isVan_430 [4, 5, 6] rfl (by decide) (fun _ => Nat.le_of_ble_eq_true rfl) ⟨Nat.le_of_ble_eq_true rfl, Nat.le_of_ble_eq_true rfl⟩ (fun v u hv => ?_)
          obtain ⟨r_88, rfl, h⟩ := hv
          refine gw_nf (ws' := (wfl [cX qx qn qp qw qt qu qd qh ql, cSt qn cI now.se now.la now.de now.le now.sa now.fl now.ar now.dr now.pe now.ri, cPl qp cI pln.od pln.rd pln.vn pln.pn pln.ao pln.sr pln.sp pln.wt, cWy qw cI ky_83 wp_84 mi_85 so_86, cA34 jq cI lq, cA24 jr cI lr, cA24 jw cI lw, cA16 jg cI lg])) (lv' := [(12, .int w0), (0, .ref (qx 0)), (1, .int x1), (2, .int x2), (3, .ref (jq 0)), (4, .ref (jr 0)), (5, .ref (jw 0)), (9, .int v9), (10, .int v10), (11, .int v11)]) (st' := [.int r_88, .int r_87]) (pc' := 433) (ce' := 0) (sl' := 0) rfl rfl rfl rfl rfl rfl ?_
          refine gw_icmp_ne (pc' := 436) (tgt := 464) κ dL_isVan_433 rfl (by decide) (fun hc_89 => ?_) (fun hc_89 => ?_)
          · have h := h.1 hc_89
            refine gw_iconst (pc' := 465) (v := 0) κ dL_isVan_464 rfl (by decide) ?_
            exact gw_zret κ dL_isVan_465 (ky_83, wp_84, mi_85, so_86) rfl rfl ⟨_, rfl, h⟩
          · have h := h.2 hc_89
            refine gw_aload_n (pc' := 437) κ dL_isVan_436 rfl 1 rfl rfl ?_
            refine gw_iload_n (pc' := 438) κ dL_isVan_437 rfl 2 rfl rfl ?_
            refine gw_iload_n (pc' := 439) κ dL_isVan_438 rfl 3 rfl rfl ?_
            refine gw_iconst (pc' := 440) (v := 3) κ dL_isVan_439 rfl (by decide) ?_
            refine gb_callV (ci := 5) (qb := 0) (rest := []) κ (c_X5_stop qx qn qp qw qt qu qd qh ql qs now pln (mkWy ky_83 wp_84 mi_85 so_86) x1 x2 (3 : Int32) h) ⟨rfl, rfl, Nat.le_of_ble_eq_true rfl, Nat.le_of_ble_eq_true rfl⟩ tw_ml_L_55 tw_im_X5_stop tw_se_X5_stop tw_co_X5_stop tw_in_X5 hy_X5_stop rfl rfl rfl rfl rfl (Nat.le_of_ble_eq_true rfl) rfl dL_isVan_440 [0, 1, 2, 3] rfl (by decide) (fun _ => Nat.le_of_ble_eq_true rfl) ⟨Nat.le_of_ble_eq_true rfl, Nat.le_of_ble_eq_true rfl⟩ (fun v u hv => ?_)
            obtain ⟨r_94, rfl, h⟩ := hv
            obtain ⟨ky_90, wp_91, mi_92, so_93⟩ := u
            refine gw_nf (ws' := (wfl [cX qx qn qp qw qt qu qd qh ql, cSt qn cI now.se now.la now.de now.le now.sa now.fl now.ar now.dr now.pe now.ri, cPl qp cI pln.od pln.rd pln.vn pln.pn pln.ao pln.sr pln.sp pln.wt, cWy qw cI ky_90 wp_91 mi_92 so_93, cA34 jq cI lq, cA24 jr cI lr, cA24 jw cI lw, cA16 jg cI lg])) (lv' := [(12, .int w0), (0, .ref (qx 0)), (1, .int x1), (2, .int x2), (3, .ref (jq 0)), (4, .ref (jr 0)), (5, .ref (jw 0)), (9, .int v9), (10, .int v10), (11, .int v11)]) (st' := [.int r_94]) (pc' := 443) (ce' := 0) (sl' := 0) rfl rfl rfl rfl rfl rfl ?_
            refine gw_iload (pc' := 445) κ dL_isVan_443 rfl 9 rfl ?_
            refine gw_icmp_ne (pc' := 448) (tgt := 464) κ dL_isVan_445 rfl (by decide) (fun hc_95 => ?_) (fun hc_95 => ?_)
            · have h := h.1 hc_95
              refine gw_iconst (pc' := 465) (v := 0) κ dL_isVan_464 rfl (by decide) ?_
              exact gw_zret κ dL_isVan_465 (ky_90, wp_91, mi_92, so_93) rfl rfl ⟨_, rfl, h⟩
            · have h := h.2 hc_95
              refine gw_aload_n (pc' := 449) κ dL_isVan_448 rfl 1 rfl rfl ?_
              refine gw_iload_n (pc' := 450) κ dL_isVan_449 rfl 2 rfl rfl ?_
              refine gw_iload_n (pc' := 451) κ dL_isVan_450 rfl 3 rfl rfl ?_
              refine gw_iconst (pc' := 452) (v := 4) κ dL_isVan_451 rfl (by decide) ?_
              refine gb_callV (ci := 5) (qb := 0) (rest := []) κ (c_X5_stop qx qn qp qw qt qu qd qh ql qs now pln (mkWy ky_90 wp_91 mi_92 so_93) x1 x2 (4 : Int32) h) ⟨rfl, rfl, Nat.le_of_ble_eq_true rfl, Nat.le_of_ble_eq_true rfl⟩ tw_ml_L_55 tw_im_X5_stop tw_se_X5_stop tw_co_X5_stop tw_in_X5 hy_X5_stop rfl rfl rfl rfl rfl (Nat.le_of_ble_eq_true rfl) rfl dL_isVan_452 [0, 1, 2, 3] rfl (by decide) (fun _ => Nat.le_of_ble_eq_true rfl) ⟨Nat.le_of_ble_eq_true rfl, Nat.le_of_ble_eq_true rfl⟩ (fun v u hv => ?_)
              obtain ⟨r_100, rfl, h⟩ := hv
              obtain ⟨ky_96, wp_97, mi_98, so_99⟩ := u
              refine gw_nf (ws' := (wfl [cX qx qn qp qw qt qu qd qh ql, cSt qn cI now.se now.la now.de now.le now.sa now.fl now.ar now.dr now.pe now.ri, cPl qp cI pln.od pln.rd pln.vn pln.pn pln.ao pln.sr pln.sp pln.wt, cWy qw cI ky_96 wp_97 mi_98 so_99, cA34 jq cI lq, cA24 jr cI lr, cA24 jw cI lw, cA16 jg cI lg])) (lv' := [(12, .int w0), (0, .ref (qx 0)), (1, .int x1), (2, .int x2), (3, .ref (jq 0)), (4, .ref (jr 0)), (5, .ref (jw 0)), (9, .int v9), (10, .int v10), (11, .int v11)]) (st' := [.int r_100]) (pc' := 455) (ce' := 0) (sl' := 0) rfl rfl rfl rfl rfl rfl ?_
              refine gw_bipush (pc' := 457) (v := -102) κ dL_isVan_455 rfl (by decide) ?_
              refine gw_icmp_ne (pc' := 460) (tgt := 464) κ dL_isVan_457 rfl (by decide) (fun hc_101 => ?_) (fun hc_101 => ?_)
              · have h := h.1 hc_101
                refine gw_iconst (pc' := 465) (v := 0) κ dL_isVan_464 rfl (by decide) ?_
                exact gw_zret κ dL_isVan_465 (ky_96, wp_97, mi_98, so_99) rfl rfl ⟨_, rfl, h⟩
              · have h := h.2 hc_101
                refine gw_iconst (pc' := 461) (v := 1) κ dL_isVan_460 rfl (by decide) ?_
                refine gw_goto (tgt := 465) κ dL_isVan_461 (by decide) ?_
                exact gw_zret κ dL_isVan_465 (ky_96, wp_97, mi_98, so_99) rfl rfl ⟨_, rfl, h⟩
  · have h := h.2 hc_69
    refine gw_iload (pc' := 359) κ dL_isVan_357 rfl 0 rfl ?_
    refine gw_if_eq (pc' := 362) (tgt := 378) κ dL_isVan_359 rfl (by decide) (fun hc_102 => ?_) (fun hc_102 => ?_)
    · have h := h.1 hc_102
      refine gw_iconst (pc' := 379) (v := 0) κ dL_isVan_378 rfl (by decide) ?_
      exact gw_zret κ dL_isVan_379 (way_ky, way_wp, way_mi, way_so) rfl rfl ⟨_, rfl, h⟩
    · have h := h.2 hc_102
      refine gw_aload_n (pc' := 363) κ dL_isVan_362 rfl 1 rfl rfl ?_
      refine gw_iload_n (pc' := 364) κ dL_isVan_363 rfl 2 rfl rfl ?_
      refine gw_iload_n (pc' := 365) κ dL_isVan_364 rfl 3 rfl rfl ?_
      refine gw_iconst (pc' := 366) (v := 0) κ dL_isVan_365 rfl (by decide) ?_
      refine gb_callV (ci := 5) (qb := 0) (rest := []) κ (c_X5_stop qx qn qp qw qt qu qd qh ql qs now pln (mkWy way_ky way_wp way_mi way_so) x1 x2 (0 : Int32) h) ⟨rfl, rfl, Nat.le_of_ble_eq_true rfl, Nat.le_of_ble_eq_true rfl⟩ tw_ml_L_55 tw_im_X5_stop tw_se_X5_stop tw_co_X5_stop tw_in_X5 hy_X5_stop rfl rfl rfl rfl rfl (Nat.le_of_ble_eq_true rfl) rfl dL_isVan_366 [0, 1, 2, 3] rfl (by decide) (fun _ => Nat.le_of_ble_eq_true rfl) ⟨Nat.le_of_ble_eq_true rfl, Nat.le_of_ble_eq_true rfl⟩ (fun v u hv => ?_)
      obtain ⟨r_107, rfl, h⟩ := hv
      obtain ⟨ky_103, wp_104, mi_105, so_106⟩ := u
      refine gw_nf (ws' := (wfl [cX qx qn qp qw qt qu qd qh ql, cSt qn cI now.se now.la now.de now.le now.sa now.fl now.ar now.dr now.pe now.ri, cPl qp cI pln.od pln.rd pln.vn pln.pn pln.ao pln.sr pln.sp pln.wt, cWy qw cI ky_103 wp_104 mi_105 so_106, cA34 jq cI lq, cA24 jr cI lr, cA24 jw cI lw, cA16 jg cI lg])) (lv' := [(12, .int w0), (0, .ref (qx 0)), (1, .int x1), (2, .int x2), (3, .ref (jq 0)), (4, .ref (jr 0)), (5, .ref (jw 0)), (9, .int v9), (10, .int v10), (11, .int v11)]) (st' := [.int r_107]) (pc' := 369) (ce' := 0) (sl' := 0) rfl rfl rfl rfl rfl rfl ?_
      refine gw_bipush (pc' := 371) (v := -101) κ dL_isVan_369 rfl (by decide) ?_
      refine gw_icmp_ne (pc' := 374) (tgt := 378) κ dL_isVan_371 rfl (by decide) (fun hc_108 => ?_) (fun hc_108 => ?_)
      · have h := h.1 hc_108
        refine gw_iconst (pc' := 379) (v := 0) κ dL_isVan_378 rfl (by decide) ?_
        exact gw_zret κ dL_isVan_379 (ky_103, wp_104, mi_105, so_106) rfl rfl ⟨_, rfl, h⟩
      · have h := h.2 hc_108
        refine gw_iconst (pc' := 375) (v := 1) κ dL_isVan_374 rfl (by decide) ?_
        refine gw_goto (tgt := 379) κ dL_isVan_375 (by decide) ?_
        exact gw_zret κ dL_isVan_379 (ky_103, wp_104, mi_105, so_106) rfl rfl ⟨_, rfl, h⟩
set_option maxHeartbeats 4000000 in
set_option maxRecDepth 100000 in
theorem k_L_isVan_341 {zp : Program} {l : Launch} {ze : Env} {zs : State} {zm : MethodId} {za : Array Value} {zb : List Frame} {zt : Method} {zc : Code} {D : va_G} {cI cR : ClassId} {A : Nat → Prop} (κ : KC zp zs zm za zt zc cL_isVan 13 RL D cI cR A (some .boolean)) (qx : Nat → Nat) (qn : Nat → Nat) (qp : Nat → Nat) (qw : Nat → Nat) (qt : Nat → Nat) (qu : Nat → Nat) (qd : Nat → Nat) (qh : Nat → Nat) (ql : Nat → Nat) (jq : Nat → Nat) (jr : Nat → Nat) (jw : Nat → Nat) (jg : Nat → Nat) (qs : Nat → Nat → Nat) (P : Int32 → (Nat → Int32) → (Nat → Int32) → (Nat → Int32) → Int32 → Prop) (now : StT) (pln : PlT) (way : WyT) (lq : Nat → Int32) (lr : Nat → Int32) (lw : Nat → Int32) (lg : Nat → Int32) (x1 : Int32) (x2 : Int32) (v9 : Int32) (v10 : Int32) (v11 : Int32) (w0 : Int32) (w1 : Int32) (way_ky : Nat → Int32) (way_wp : Nat → Int32) (way_mi : Nat → Int32) (way_so : Int32) (h : wp_L_isVan_341 P now pln way lq lr lw lg x1 x2 v9 v10 v11 w0 w1 way_ky way_wp way_mi way_so) : GM zp l ze ({ frames := 6, cells := 0, slots := 0, locals := 142 } : Room) zs zm za zb zt zc D A 13 (pI (fun (r : Int32) (u : (Nat → Int32) × (Nat → Int32) × (Nat → Int32) × Int32) => P r u.1 u.2.1 u.2.2.1 u.2.2.2)) (fun u : (Nat → Int32) × (Nat → Int32) × (Nat → Int32) × Int32 => (wfl [cX qx qn qp qw qt qu qd qh ql, cSt qn cI now.se now.la now.de now.le now.sa now.fl now.ar now.dr now.pe now.ri, cPl qp cI pln.od pln.rd pln.vn pln.pn pln.ao pln.sr pln.sp pln.wt, cWy qw cI u.1 u.2.1 u.2.2.1 u.2.2.2, cA34 jq cI lq, cA24 jr cI lr, cA24 jw cI lw, cA16 jg cI lg])) 0 0 0 0 (wfl [cX qx qn qp qw qt qu qd qh ql, cSt qn cI now.se now.la now.de now.le now.sa now.fl now.ar now.dr now.pe now.ri, cPl qp cI pln.od pln.rd pln.vn pln.pn pln.ao pln.sr pln.sp pln.wt, cWy qw cI way_ky way_wp way_mi way_so, cA34 jq cI lq, cA24 jr cI lr, cA24 jw cI lw, cA16 jg cI lg]) [(0, .ref (qx 0)), (1, .int x1), (2, .int x2), (3, .ref (jq 0)), (4, .ref (jr 0)), (5, .ref (jw 0)), (9, .int v9), (10, .int v10), (11, .int v11)] 341 [.int w1, .int w0] := by
  unfold wp_L_isVan_341 at h
  refine gw_icmp_ne (pc' := 344) (tgt := 348) κ dL_isVan_341 rfl (by decide) (fun hc_126 => ?_) (fun hc_126 => ?_)
  · have h := h.1 hc_126
    refine gw_iconst (pc' := 349) (v := 0) κ dL_isVan_348 rfl (by decide) ?_
    refine gw_lv (lv' := [(0, .ref (qx 0)), (1, .int x1), (2, .int x2), (3, .ref (jq 0)), (4, .ref (jr 0)), (5, .ref (jw 0)), (9, .int v9), (10, .int v10), (11, .int v11)]) [0, 1, 2, 3, 4, 5, 6, 7, 8] rfl ?_
    exact k_L_isVan_349 κ qx qn qp qw qt qu qd qh ql jq jr jw jg qs P now pln way lq lr lw lg x1 x2 v9 v10 v11 (0 : Int32) way_ky way_wp way_mi way_so h
  · have h := h.2 hc_126
    refine gw_iconst (pc' := 345) (v := 1) κ dL_isVan_344 rfl (by decide) ?_
    refine gw_goto (tgt := 349) κ dL_isVan_345 (by decide) ?_
    refine gw_lv (lv' := [(0, .ref (qx 0)), (1, .int x1), (2, .int x2), (3, .ref (jq 0)), (4, .ref (jr 0)), (5, .ref (jw 0)), (9, .int v9), (10, .int v10), (11, .int v11)]) [0, 1, 2, 3, 4, 5, 6, 7, 8] rfl ?_
    exact k_L_isVan_349 κ qx qn qp qw qt qu qd qh ql jq jr jw jg qs P now pln way lq lr lw lg x1 x2 v9 v10 v11 (1 : Int32) way_ky way_wp way_mi way_so h
set_option maxHeartbeats 4000000 in
set_option maxRecDepth 100000 in
theorem k_L_isVan_312 {zp : Program} {l : Launch} {ze : Env} {zs : State} {zm : MethodId} {za : Array Value} {zb : List Frame} {zt : Method} {zc : Code} {D : va_G} {cI cR : ClassId} {A : Nat → Prop} (κ : KC zp zs zm za zt zc cL_isVan 13 RL D cI cR A (some .boolean)) (qx : Nat → Nat) (qn : Nat → Nat) (qp : Nat → Nat) (qw : Nat → Nat) (qt : Nat → Nat) (qu : Nat → Nat) (qd : Nat → Nat) (qh : Nat → Nat) (ql : Nat → Nat) (jq : Nat → Nat) (jr : Nat → Nat) (jw : Nat → Nat) (jg : Nat → Nat) (qs : Nat → Nat → Nat) (P : Int32 → (Nat → Int32) → (Nat → Int32) → (Nat → Int32) → Int32 → Prop) (now : StT) (pln : PlT) (way : WyT) (lq : Nat → Int32) (lr : Nat → Int32) (lw : Nat → Int32) (lg : Nat → Int32) (x1 : Int32) (x2 : Int32) (v9 : Int32) (v10 : Int32) (v11 : Int32) (w0 : Int32) (w1 : Int32) (way_ky : Nat → Int32) (way_wp : Nat → Int32) (way_mi : Nat → Int32) (way_so : Int32) (h : wp_L_isVan_312 P now pln way lq lr lw lg x1 x2 v9 v10 v11 w0 w1 way_ky way_wp way_mi way_so) : GM zp l ze ({ frames := 6, cells := 0, slots := 0, locals := 142 } : Room) zs zm za zb zt zc D A 13 (pI (fun (r : Int32) (u : (Nat → Int32) × (Nat → Int32) × (Nat → Int32) × Int32) => P r u.1 u.2.1 u.2.2.1 u.2.2.2)) (fun u : (Nat → Int32) × (Nat → Int32) × (Nat → Int32) × Int32 => (wfl [cX qx qn qp qw qt qu qd qh ql, cSt qn cI now.se now.la now.de now.le now.sa now.fl now.ar now.dr now.pe now.ri, cPl qp cI pln.od pln.rd pln.vn pln.pn pln.ao pln.sr pln.sp pln.wt, cWy qw cI u.1 u.2.1 u.2.2.1 u.2.2.2, cA34 jq cI lq, cA24 jr cI lr, cA24 jw cI lw, cA16 jg cI lg])) 0 0 0 0 (wfl [cX qx qn qp qw qt qu qd qh ql, cSt qn cI now.se now.la now.de now.le now.sa now.fl now.ar now.dr now.pe now.ri, cPl qp cI pln.od pln.rd pln.vn pln.pn pln.ao pln.sr pln.sp pln.wt, cWy qw cI way_ky way_wp way_mi way_so, cA34 jq cI lq, cA24 jr cI lr, cA24 jw cI lw, cA16 jg cI lg]) [(0, .ref (qx 0)), (1, .int x1), (2, .int x2), (3, .ref (jq 0)), (4, .ref (jr 0)), (5, .ref (jw 0)), (9, .int v9), (10, .int v10), (11, .int v11)] 312 [.int w1, .int w0] := by
  unfold wp_L_isVan_312 at h
  refine gw_icmp_ne (pc' := 315) (tgt := 348) κ dL_isVan_312 rfl (by decide) (fun hc_109 => ?_) (fun hc_109 => ?_)
  · have h := h.1 hc_109
    refine gw_iconst (pc' := 349) (v := 0) κ dL_isVan_348 rfl (by decide) ?_
    refine gw_lv (lv' := [(0, .ref (qx 0)), (1, .int x1), (2, .int x2), (3, .ref (jq 0)), (4, .ref (jr 0)), (5, .ref (jw 0)), (9, .int v9), (10, .int v10), (11, .int v11)]) [0, 1, 2, 3, 4, 5, 6, 7, 8] rfl ?_
    exact k_L_isVan_349 κ qx qn qp qw qt qu qd qh ql jq jr jw jg qs P now pln way lq lr lw lg x1 x2 v9 v10 v11 (0 : Int32) way_ky way_wp way_mi way_so h
  · have h := h.2 hc_109
    refine gw_aload_n (pc' := 316) κ dL_isVan_315 rfl 0 rfl rfl ?_
    refine gw_iload_n (pc' := 317) κ dL_isVan_316 rfl 1 rfl rfl ?_
    refine gw_bipush (pc' := 319) (v := 7) κ dL_isVan_317 rfl (by decide) ?_
    refine gb_callV (ci := 5) (qb := 0) (rest := []) κ (c_X5_vanOf qx qn qp qw qt qu qd qh ql qs now pln (mkWy way_ky way_wp way_mi way_so) x1 (7 : Int32) h) ⟨rfl, rfl, Nat.le_of_ble_eq_true rfl, Nat.le_of_ble_eq_true rfl⟩ tw_ml_L_52 tw_im_X5_vanOf tw_se_X5_vanOf tw_co_X5_vanOf tw_in_X5 hy_X5_vanOf rfl rfl rfl rfl rfl (Nat.le_of_ble_eq_true rfl) rfl dL_isVan_319 [0, 1, 2, 3] rfl (by decide) (fun _ => Nat.le_of_ble_eq_true rfl) ⟨Nat.le_of_ble_eq_true rfl, Nat.le_of_ble_eq_true rfl⟩ (fun v u hv => ?_)
    obtain ⟨r_114, rfl, h⟩ := hv
    obtain ⟨ky_110, wp_111, mi_112, so_113⟩ := u
    refine gw_nf (ws' := (wfl [cX qx qn qp qw qt qu qd qh ql, cSt qn cI now.se now.la now.de now.le now.sa now.fl now.ar now.dr now.pe now.ri, cPl qp cI pln.od pln.rd pln.vn pln.pn pln.ao pln.sr pln.sp pln.wt, cWy qw cI ky_110 wp_111 mi_112 so_113, cA34 jq cI lq, cA24 jr cI lr, cA24 jw cI lw, cA16 jg cI lg])) (lv' := [(0, .ref (qx 0)), (1, .int x1), (2, .int x2), (3, .ref (jq 0)), (4, .ref (jr 0)), (5, .ref (jw 0)), (9, .int v9), (10, .int v10), (11, .int v11)]) (st' := [.int r_114]) (pc' := 322) (ce' := 0) (sl' := 0) rfl rfl rfl rfl rfl rfl ?_
    refine gw_iload (pc' := 324) κ dL_isVan_322 rfl 7 rfl ?_
    refine gw_if_ne (pc' := 327) (tgt := 331) κ dL_isVan_324 rfl (by decide) (fun hc_115 => ?_) (fun hc_115 => ?_)
    · have h := h.1 hc_115
      refine gw_aload_n (pc' := 332) κ dL_isVan_331 rfl 3 rfl rfl ?_
      refine gw_iconst (pc' := 333) (v := 3) κ dL_isVan_332 rfl (by decide) ?_
      refine gb_iald (pc' := 334) κ dL_isVan_333 rfl 4 0 rfl rfl (by unfold vp_in; decide) ?_
      refine gw_aload_n (pc' := 335) κ dL_isVan_334 rfl 3 rfl rfl ?_
      refine gw_iconst (pc' := 336) (v := 4) κ dL_isVan_335 rfl (by decide) ?_
      refine gb_iald (pc' := 337) κ dL_isVan_336 rfl 4 0 rfl rfl (by unfold vp_in; decide) ?_
      refine gw_iload (pc' := 339) κ dL_isVan_337 rfl 7 rfl ?_
      refine gw_imul (pc' := 340) κ dL_isVan_339 rfl  ?_
      refine gw_iadd (pc' := 341) κ dL_isVan_340 rfl  ?_
      refine gw_lv (lv' := [(0, .ref (qx 0)), (1, .int x1), (2, .int x2), (3, .ref (jq 0)), (4, .ref (jr 0)), (5, .ref (jw 0)), (9, .int v9), (10, .int v10), (11, .int v11)]) [0, 1, 2, 3, 4, 5, 6, 7, 8] rfl ?_
      exact k_L_isVan_341 κ qx qn qp qw qt qu qd qh ql jq jr jw jg qs P now pln way lq lr lw lg x1 x2 v9 v10 v11 r_114 ((lq (3 : Int32).toNatClampNeg) + ((lq (4 : Int32).toNatClampNeg) * v10)) ky_110 wp_111 mi_112 so_113 h
    · have h := h.2 hc_115
      refine gw_iconst (pc' := 328) (v := 0) κ dL_isVan_327 rfl (by decide) ?_
      refine gw_goto (tgt := 341) κ dL_isVan_328 (by decide) ?_
      refine gw_lv (lv' := [(0, .ref (qx 0)), (1, .int x1), (2, .int x2), (3, .ref (jq 0)), (4, .ref (jr 0)), (5, .ref (jw 0)), (9, .int v9), (10, .int v10), (11, .int v11)]) [0, 1, 2, 3, 4, 5, 6, 7, 8] rfl ?_
      exact k_L_isVan_341 κ qx qn qp qw qt qu qd qh ql jq jr jw jg qs P now pln way lq lr lw lg x1 x2 v9 v10 v11 r_114 (0 : Int32) ky_110 wp_111 mi_112 so_113 h
set_option maxHeartbeats 4000000 in
set_option maxRecDepth 100000 in
theorem k_L_isVan_150 {zp : Program} {l : Launch} {ze : Env} {zs : State} {zm : MethodId} {za : Array Value} {zb : List Frame} {zt : Method} {zc : Code} {D : va_G} {cI cR : ClassId} {A : Nat → Prop} (κ : KC zp zs zm za zt zc cL_isVan 13 RL D cI cR A (some .boolean)) (qx : Nat → Nat) (qn : Nat → Nat) (qp : Nat → Nat) (qw : Nat → Nat) (qt : Nat → Nat) (qu : Nat → Nat) (qd : Nat → Nat) (qh : Nat → Nat) (ql : Nat → Nat) (jq : Nat → Nat) (jr : Nat → Nat) (jw : Nat → Nat) (jg : Nat → Nat) (qs : Nat → Nat → Nat) (P : Int32 → (Nat → Int32) → (Nat → Int32) → (Nat → Int32) → Int32 → Prop) (now : StT) (pln : PlT) (way : WyT) (lq : Nat → Int32) (lr : Nat → Int32) (lw : Nat → Int32) (lg : Nat → Int32) (x1 : Int32) (x2 : Int32) (v7 : Int32) (v8 : Int32) (v9 : Int32) (v10 : Int32) (way_ky : Nat → Int32) (way_wp : Nat → Int32) (way_mi : Nat → Int32) (way_so : Int32) : ∀ (n : Nat) (v11 : Int32) (v12 : Int32), wp_L_isVan_150 P now pln way lq lr lw lg x1 x2 v7 v8 v9 v10 way_ky way_wp way_mi way_so n v11 v12 → GM zp l ze ({ frames := 6, cells := 0, slots := 0, locals := 142 } : Room) zs zm za zb zt zc D A 13 (pI (fun (r : Int32) (u : (Nat → Int32) × (Nat → Int32) × (Nat → Int32) × Int32) => P r u.1 u.2.1 u.2.2.1 u.2.2.2)) (fun u : (Nat → Int32) × (Nat → Int32) × (Nat → Int32) × Int32 => (wfl [cX qx qn qp qw qt qu qd qh ql, cSt qn cI now.se now.la now.de now.le now.sa now.fl now.ar now.dr now.pe now.ri, cPl qp cI pln.od pln.rd pln.vn pln.pn pln.ao pln.sr pln.sp pln.wt, cWy qw cI u.1 u.2.1 u.2.2.1 u.2.2.2, cA34 jq cI lq, cA24 jr cI lr, cA24 jw cI lw, cA16 jg cI lg])) 0 0 0 0 (wfl [cX qx qn qp qw qt qu qd qh ql, cSt qn cI now.se now.la now.de now.le now.sa now.fl now.ar now.dr now.pe now.ri, cPl qp cI pln.od pln.rd pln.vn pln.pn pln.ao pln.sr pln.sp pln.wt, cWy qw cI way_ky way_wp way_mi way_so, cA34 jq cI lq, cA24 jr cI lr, cA24 jw cI lw, cA16 jg cI lg]) [(0, .ref (qx 0)), (1, .int x1), (2, .int x2), (3, .ref (jq 0)), (4, .ref (jr 0)), (5, .ref (jw 0)), (6, .ref (jg 0)), (7, .int v7), (8, .int v8), (9, .int v9), (10, .int v10), (11, .int v11), (12, .int v12)] 150 [] := by
  intro n150
  induction n150 with
  | zero => intro v11 v12 h; exact (show False from h).elim
  | succ n150 ih150 =>
    intro v11 v12 h
    have h : wp_L_isVan_150F P now pln way lq lr lw lg x1 x2 v7 v8 v9 v10 way_ky way_wp way_mi way_so (wp_L_isVan_150 P now pln way lq lr lw lg x1 x2 v7 v8 v9 v10 way_ky way_wp way_mi way_so n150) v11 v12 := h
    unfold wp_L_isVan_150F at h
    refine gw_iload (pc' := 152) κ dL_isVan_150 rfl 12 rfl ?_
    refine gw_aload_n (pc' := 153) κ dL_isVan_152 rfl 3 rfl rfl ?_
    refine gw_iconst (pc' := 154) (v := 5) κ dL_isVan_153 rfl (by decide) ?_
    refine gb_iald (pc' := 155) κ dL_isVan_154 rfl 4 0 rfl rfl (by unfold vp_in; decide) ?_
    refine gw_icmp_ge (pc' := 158) (tgt := 203) κ dL_isVan_155 rfl (by decide) (fun hc_7 => ?_) (fun hc_7 => ?_)
    · have h := h.1 hc_7
      refine gw_aload_n (pc' := 204) κ dL_isVan_203 rfl 0 rfl rfl ?_
      refine gw_iload_n (pc' := 205) κ dL_isVan_204 rfl 1 rfl rfl ?_
      refine gw_iconst (pc' := 206) (v := 0) κ dL_isVan_205 rfl (by decide) ?_
      refine gb_callV (ci := 5) (qb := 0) (rest := []) κ (c_X5_vanOf qx qn qp qw qt qu qd qh ql qs now pln (mkWy way_ky way_wp way_mi way_so) x1 (0 : Int32) h) ⟨rfl, rfl, Nat.le_of_ble_eq_true rfl, Nat.le_of_ble_eq_true rfl⟩ tw_ml_L_52 tw_im_X5_vanOf tw_se_X5_vanOf tw_co_X5_vanOf tw_in_X5 hy_X5_vanOf rfl rfl rfl rfl rfl (Nat.le_of_ble_eq_true rfl) rfl dL_isVan_206 [0, 1, 2, 3] rfl (by decide) (fun _ => Nat.le_of_ble_eq_true rfl) ⟨Nat.le_of_ble_eq_true rfl, Nat.le_of_ble_eq_true rfl⟩ (fun v u hv => ?_)
      obtain ⟨r_12, rfl, h⟩ := hv
      obtain ⟨ky_8, wp_9, mi_10, so_11⟩ := u
      refine gw_nf (ws' := (wfl [cX qx qn qp qw qt qu qd qh ql, cSt qn cI now.se now.la now.de now.le now.sa now.fl now.ar now.dr now.pe now.ri, cPl qp cI pln.od pln.rd pln.vn pln.pn pln.ao pln.sr pln.sp pln.wt, cWy qw cI ky_8 wp_9 mi_10 so_11, cA34 jq cI lq, cA24 jr cI lr, cA24 jw cI lw, cA16 jg cI lg])) (lv' := [(0, .ref (qx 0)), (1, .int x1), (2, .int x2), (3, .ref (jq 0)), (4, .ref (jr 0)), (5, .ref (jw 0)), (6, .ref (jg 0)), (7, .int v7), (8, .int v8), (9, .int v9), (10, .int v10), (11, .int v11), (12, .int v12)]) (st' := [.int r_12]) (pc' := 209) (ce' := 0) (sl' := 0) rfl rfl rfl rfl rfl rfl ?_
      refine gw_aload_n (pc' := 210) κ dL_isVan_209 rfl 3 rfl rfl ?_
      refine gw_bipush (pc' := 212) (v := 18) κ dL_isVan_210 rfl (by decide) ?_
      refine gw_iload_n (pc' := 213) κ dL_isVan_212 rfl 1 rfl rfl ?_
      refine gw_iadd (pc' := 214) κ dL_isVan_213 rfl  ?_
      obtain ⟨hb_13, h⟩ := h
      refine gb_iald (pc' := 215) κ dL_isVan_214 rfl 4 0 rfl rfl hb_13 ?_
      refine gw_icmp_ne (pc' := 218) (tgt := 348) κ dL_isVan_215 rfl (by decide) (fun hc_14 => ?_) (fun hc_14 => ?_)
      · have h := h.1 hc_14
        refine gw_iconst (pc' := 349) (v := 0) κ dL_isVan_348 rfl (by decide) ?_
        refine gw_lv (lv' := [(0, .ref (qx 0)), (1, .int x1), (2, .int x2), (3, .ref (jq 0)), (4, .ref (jr 0)), (5, .ref (jw 0)), (9, .int v9), (10, .int v10), (11, .int v11)]) [0, 1, 2, 3, 4, 5, 9, 10, 11] rfl ?_
        exact k_L_isVan_349 κ qx qn qp qw qt qu qd qh ql jq jr jw jg qs P now pln way lq lr lw lg x1 x2 v9 v10 v11 (0 : Int32) ky_8 wp_9 mi_10 so_11 h
      · have h := h.2 hc_14
        refine gw_aload_n (pc' := 219) κ dL_isVan_218 rfl 0 rfl rfl ?_
        refine gw_iload_n (pc' := 220) κ dL_isVan_219 rfl 1 rfl rfl ?_
        refine gw_iconst (pc' := 221) (v := 1) κ dL_isVan_220 rfl (by decide) ?_
        refine gb_callV (ci := 5) (qb := 0) (rest := []) κ (c_X5_vanOf qx qn qp qw qt qu qd qh ql qs now pln (mkWy ky_8 wp_9 mi_10 so_11) x1 (1 : Int32) h) ⟨rfl, rfl, Nat.le_of_ble_eq_true rfl, Nat.le_of_ble_eq_true rfl⟩ tw_ml_L_52 tw_im_X5_vanOf tw_se_X5_vanOf tw_co_X5_vanOf tw_in_X5 hy_X5_vanOf rfl rfl rfl rfl rfl (Nat.le_of_ble_eq_true rfl) rfl dL_isVan_221 [0, 1, 2, 3] rfl (by decide) (fun _ => Nat.le_of_ble_eq_true rfl) ⟨Nat.le_of_ble_eq_true rfl, Nat.le_of_ble_eq_true rfl⟩ (fun v u hv => ?_)
        obtain ⟨r_19, rfl, h⟩ := hv
        obtain ⟨ky_15, wp_16, mi_17, so_18⟩ := u
        refine gw_nf (ws' := (wfl [cX qx qn qp qw qt qu qd qh ql, cSt qn cI now.se now.la now.de now.le now.sa now.fl now.ar now.dr now.pe now.ri, cPl qp cI pln.od pln.rd pln.vn pln.pn pln.ao pln.sr pln.sp pln.wt, cWy qw cI ky_15 wp_16 mi_17 so_18, cA34 jq cI lq, cA24 jr cI lr, cA24 jw cI lw, cA16 jg cI lg])) (lv' := [(0, .ref (qx 0)), (1, .int x1), (2, .int x2), (3, .ref (jq 0)), (4, .ref (jr 0)), (5, .ref (jw 0)), (6, .ref (jg 0)), (7, .int v7), (8, .int v8), (9, .int v9), (10, .int v10), (11, .int v11), (12, .int v12)]) (st' := [.int r_19]) (pc' := 224) (ce' := 0) (sl' := 0) rfl rfl rfl rfl rfl rfl ?_
        refine gw_aload_n (pc' := 225) κ dL_isVan_224 rfl 3 rfl rfl ?_
        refine gw_bipush (pc' := 227) (v := 26) κ dL_isVan_225 rfl (by decide) ?_
        refine gw_iload_n (pc' := 228) κ dL_isVan_227 rfl 1 rfl rfl ?_
        refine gw_iadd (pc' := 229) κ dL_isVan_228 rfl  ?_
        obtain ⟨hb_20, h⟩ := h
        refine gb_iald (pc' := 230) κ dL_isVan_229 rfl 4 0 rfl rfl hb_20 ?_
        refine gw_icmp_ne (pc' := 233) (tgt := 348) κ dL_isVan_230 rfl (by decide) (fun hc_21 => ?_) (fun hc_21 => ?_)
        · have h := h.1 hc_21
          refine gw_iconst (pc' := 349) (v := 0) κ dL_isVan_348 rfl (by decide) ?_
          refine gw_lv (lv' := [(0, .ref (qx 0)), (1, .int x1), (2, .int x2), (3, .ref (jq 0)), (4, .ref (jr 0)), (5, .ref (jw 0)), (9, .int v9), (10, .int v10), (11, .int v11)]) [0, 1, 2, 3, 4, 5, 9, 10, 11] rfl ?_
          exact k_L_isVan_349 κ qx qn qp qw qt qu qd qh ql jq jr jw jg qs P now pln way lq lr lw lg x1 x2 v9 v10 v11 (0 : Int32) ky_15 wp_16 mi_17 so_18 h
        · have h := h.2 hc_21
          refine gw_aload_n (pc' := 234) κ dL_isVan_233 rfl 0 rfl rfl ?_
          refine gw_iload_n (pc' := 235) κ dL_isVan_234 rfl 1 rfl rfl ?_
          refine gw_iconst (pc' := 236) (v := 2) κ dL_isVan_235 rfl (by decide) ?_
          refine gb_callV (ci := 5) (qb := 0) (rest := []) κ (c_X5_vanOf qx qn qp qw qt qu qd qh ql qs now pln (mkWy ky_15 wp_16 mi_17 so_18) x1 (2 : Int32) h) ⟨rfl, rfl, Nat.le_of_ble_eq_true rfl, Nat.le_of_ble_eq_true rfl⟩ tw_ml_L_52 tw_im_X5_vanOf tw_se_X5_vanOf tw_co_X5_vanOf tw_in_X5 hy_X5_vanOf rfl rfl rfl rfl rfl (Nat.le_of_ble_eq_true rfl) rfl dL_isVan_236 [0, 1, 2, 3] rfl (by decide) (fun _ => Nat.le_of_ble_eq_true rfl) ⟨Nat.le_of_ble_eq_true rfl, Nat.le_of_ble_eq_true rfl⟩ (fun v u hv => ?_)
          obtain ⟨r_26, rfl, h⟩ := hv
          obtain ⟨ky_22, wp_23, mi_24, so_25⟩ := u
          refine gw_nf (ws' := (wfl [cX qx qn qp qw qt qu qd qh ql, cSt qn cI now.se now.la now.de now.le now.sa now.fl now.ar now.dr now.pe now.ri, cPl qp cI pln.od pln.rd pln.vn pln.pn pln.ao pln.sr pln.sp pln.wt, cWy qw cI ky_22 wp_23 mi_24 so_25, cA34 jq cI lq, cA24 jr cI lr, cA24 jw cI lw, cA16 jg cI lg])) (lv' := [(0, .ref (qx 0)), (1, .int x1), (2, .int x2), (3, .ref (jq 0)), (4, .ref (jr 0)), (5, .ref (jw 0)), (6, .ref (jg 0)), (7, .int v7), (8, .int v8), (9, .int v9), (10, .int v10), (11, .int v11), (12, .int v12)]) (st' := [.int r_26]) (pc' := 239) (ce' := 0) (sl' := 0) rfl rfl rfl rfl rfl rfl ?_
          refine gw_aload (pc' := 241) κ dL_isVan_239 rfl 6 rfl ?_
          refine gw_iload_n (pc' := 242) κ dL_isVan_241 rfl 1 rfl rfl ?_
          obtain ⟨hb_27, h⟩ := h
          refine gb_iald (pc' := 243) κ dL_isVan_242 rfl 7 0 rfl rfl hb_27 ?_
          refine gw_icmp_ne (pc' := 246) (tgt := 348) κ dL_isVan_243 rfl (by decide) (fun hc_28 => ?_) (fun hc_28 => ?_)
          · have h := h.1 hc_28
            refine gw_iconst (pc' := 349) (v := 0) κ dL_isVan_348 rfl (by decide) ?_
            refine gw_lv (lv' := [(0, .ref (qx 0)), (1, .int x1), (2, .int x2), (3, .ref (jq 0)), (4, .ref (jr 0)), (5, .ref (jw 0)), (9, .int v9), (10, .int v10), (11, .int v11)]) [0, 1, 2, 3, 4, 5, 9, 10, 11] rfl ?_
            exact k_L_isVan_349 κ qx qn qp qw qt qu qd qh ql jq jr jw jg qs P now pln way lq lr lw lg x1 x2 v9 v10 v11 (0 : Int32) ky_22 wp_23 mi_24 so_25 h
          · have h := h.2 hc_28
            refine gw_aload_n (pc' := 247) κ dL_isVan_246 rfl 0 rfl rfl ?_
            refine gw_iload_n (pc' := 248) κ dL_isVan_247 rfl 1 rfl rfl ?_
            refine gw_iconst (pc' := 249) (v := 3) κ dL_isVan_248 rfl (by decide) ?_
            refine gb_callV (ci := 5) (qb := 0) (rest := []) κ (c_X5_vanOf qx qn qp qw qt qu qd qh ql qs now pln (mkWy ky_22 wp_23 mi_24 so_25) x1 (3 : Int32) h) ⟨rfl, rfl, Nat.le_of_ble_eq_true rfl, Nat.le_of_ble_eq_true rfl⟩ tw_ml_L_52 tw_im_X5_vanOf tw_se_X5_vanOf tw_co_X5_vanOf tw_in_X5 hy_X5_vanOf rfl rfl rfl rfl rfl (Nat.le_of_ble_eq_true rfl) rfl dL_isVan_249 [0, 1, 2, 3] rfl (by decide) (fun _ => Nat.le_of_ble_eq_true rfl) ⟨Nat.le_of_ble_eq_true rfl, Nat.le_of_ble_eq_true rfl⟩ (fun v u hv => ?_)
            obtain ⟨r_33, rfl, h⟩ := hv
            obtain ⟨ky_29, wp_30, mi_31, so_32⟩ := u
            refine gw_nf (ws' := (wfl [cX qx qn qp qw qt qu qd qh ql, cSt qn cI now.se now.la now.de now.le now.sa now.fl now.ar now.dr now.pe now.ri, cPl qp cI pln.od pln.rd pln.vn pln.pn pln.ao pln.sr pln.sp pln.wt, cWy qw cI ky_29 wp_30 mi_31 so_32, cA34 jq cI lq, cA24 jr cI lr, cA24 jw cI lw, cA16 jg cI lg])) (lv' := [(0, .ref (qx 0)), (1, .int x1), (2, .int x2), (3, .ref (jq 0)), (4, .ref (jr 0)), (5, .ref (jw 0)), (6, .ref (jg 0)), (7, .int v7), (8, .int v8), (9, .int v9), (10, .int v10), (11, .int v11), (12, .int v12)]) (st' := [.int r_33]) (pc' := 252) (ce' := 0) (sl' := 0) rfl rfl rfl rfl rfl rfl ?_
            refine gw_iload (pc' := 254) κ dL_isVan_252 rfl 7 rfl ?_
            refine gw_icmp_ne (pc' := 257) (tgt := 348) κ dL_isVan_254 rfl (by decide) (fun hc_34 => ?_) (fun hc_34 => ?_)
            · have h := h.1 hc_34
              refine gw_iconst (pc' := 349) (v := 0) κ dL_isVan_348 rfl (by decide) ?_
              refine gw_lv (lv' := [(0, .ref (qx 0)), (1, .int x1), (2, .int x2), (3, .ref (jq 0)), (4, .ref (jr 0)), (5, .ref (jw 0)), (9, .int v9), (10, .int v10), (11, .int v11)]) [0, 1, 2, 3, 4, 5, 9, 10, 11] rfl ?_
              exact k_L_isVan_349 κ qx qn qp qw qt qu qd qh ql jq jr jw jg qs P now pln way lq lr lw lg x1 x2 v9 v10 v11 (0 : Int32) ky_29 wp_30 mi_31 so_32 h
            · have h := h.2 hc_34
              refine gw_aload_n (pc' := 258) κ dL_isVan_257 rfl 0 rfl rfl ?_
              refine gw_iload_n (pc' := 259) κ dL_isVan_258 rfl 1 rfl rfl ?_
              refine gw_iconst (pc' := 260) (v := 4) κ dL_isVan_259 rfl (by decide) ?_
              refine gb_callV (ci := 5) (qb := 0) (rest := []) κ (c_X5_vanOf qx qn qp qw qt qu qd qh ql qs now pln (mkWy ky_29 wp_30 mi_31 so_32) x1 (4 : Int32) h) ⟨rfl, rfl, Nat.le_of_ble_eq_true rfl, Nat.le_of_ble_eq_true rfl⟩ tw_ml_L_52 tw_im_X5_vanOf tw_se_X5_vanOf tw_co_X5_vanOf tw_in_X5 hy_X5_vanOf rfl rfl rfl rfl rfl (Nat.le_of_ble_eq_true rfl) rfl dL_isVan_260 [0, 1, 2, 3] rfl (by decide) (fun _ => Nat.le_of_ble_eq_true rfl) ⟨Nat.le_of_ble_eq_true rfl, Nat.le_of_ble_eq_true rfl⟩ (fun v u hv => ?_)
              obtain ⟨r_39, rfl, h⟩ := hv
              obtain ⟨ky_35, wp_36, mi_37, so_38⟩ := u
              refine gw_nf (ws' := (wfl [cX qx qn qp qw qt qu qd qh ql, cSt qn cI now.se now.la now.de now.le now.sa now.fl now.ar now.dr now.pe now.ri, cPl qp cI pln.od pln.rd pln.vn pln.pn pln.ao pln.sr pln.sp pln.wt, cWy qw cI ky_35 wp_36 mi_37 so_38, cA34 jq cI lq, cA24 jr cI lr, cA24 jw cI lw, cA16 jg cI lg])) (lv' := [(0, .ref (qx 0)), (1, .int x1), (2, .int x2), (3, .ref (jq 0)), (4, .ref (jr 0)), (5, .ref (jw 0)), (6, .ref (jg 0)), (7, .int v7), (8, .int v8), (9, .int v9), (10, .int v10), (11, .int v11), (12, .int v12)]) (st' := [.int r_39]) (pc' := 263) (ce' := 0) (sl' := 0) rfl rfl rfl rfl rfl rfl ?_
              refine gw_aload (pc' := 265) κ dL_isVan_263 rfl 6 rfl ?_
              refine gw_bipush (pc' := 267) (v := 8) κ dL_isVan_265 rfl (by decide) ?_
              refine gw_iload_n (pc' := 268) κ dL_isVan_267 rfl 1 rfl rfl ?_
              refine gw_iadd (pc' := 269) κ dL_isVan_268 rfl  ?_
              obtain ⟨hb_40, h⟩ := h
              refine gb_iald (pc' := 270) κ dL_isVan_269 rfl 7 0 rfl rfl hb_40 ?_
              refine gw_icmp_ne (pc' := 273) (tgt := 348) κ dL_isVan_270 rfl (by decide) (fun hc_41 => ?_) (fun hc_41 => ?_)
              · have h := h.1 hc_41
                refine gw_iconst (pc' := 349) (v := 0) κ dL_isVan_348 rfl (by decide) ?_
                refine gw_lv (lv' := [(0, .ref (qx 0)), (1, .int x1), (2, .int x2), (3, .ref (jq 0)), (4, .ref (jr 0)), (5, .ref (jw 0)), (9, .int v9), (10, .int v10), (11, .int v11)]) [0, 1, 2, 3, 4, 5, 9, 10, 11] rfl ?_
                exact k_L_isVan_349 κ qx qn qp qw qt qu qd qh ql jq jr jw jg qs P now pln way lq lr lw lg x1 x2 v9 v10 v11 (0 : Int32) ky_35 wp_36 mi_37 so_38 h
              · have h := h.2 hc_41
                refine gw_aload_n (pc' := 274) κ dL_isVan_273 rfl 0 rfl rfl ?_
                refine gw_iload_n (pc' := 275) κ dL_isVan_274 rfl 1 rfl rfl ?_
                refine gw_iconst (pc' := 276) (v := 5) κ dL_isVan_275 rfl (by decide) ?_
                refine gb_callV (ci := 5) (qb := 0) (rest := []) κ (c_X5_vanOf qx qn qp qw qt qu qd qh ql qs now pln (mkWy ky_35 wp_36 mi_37 so_38) x1 (5 : Int32) h) ⟨rfl, rfl, Nat.le_of_ble_eq_true rfl, Nat.le_of_ble_eq_true rfl⟩ tw_ml_L_52 tw_im_X5_vanOf tw_se_X5_vanOf tw_co_X5_vanOf tw_in_X5 hy_X5_vanOf rfl rfl rfl rfl rfl (Nat.le_of_ble_eq_true rfl) rfl dL_isVan_276 [0, 1, 2, 3] rfl (by decide) (fun _ => Nat.le_of_ble_eq_true rfl) ⟨Nat.le_of_ble_eq_true rfl, Nat.le_of_ble_eq_true rfl⟩ (fun v u hv => ?_)
                obtain ⟨r_46, rfl, h⟩ := hv
                obtain ⟨ky_42, wp_43, mi_44, so_45⟩ := u
                refine gw_nf (ws' := (wfl [cX qx qn qp qw qt qu qd qh ql, cSt qn cI now.se now.la now.de now.le now.sa now.fl now.ar now.dr now.pe now.ri, cPl qp cI pln.od pln.rd pln.vn pln.pn pln.ao pln.sr pln.sp pln.wt, cWy qw cI ky_42 wp_43 mi_44 so_45, cA34 jq cI lq, cA24 jr cI lr, cA24 jw cI lw, cA16 jg cI lg])) (lv' := [(0, .ref (qx 0)), (1, .int x1), (2, .int x2), (3, .ref (jq 0)), (4, .ref (jr 0)), (5, .ref (jw 0)), (6, .ref (jg 0)), (7, .int v7), (8, .int v8), (9, .int v9), (10, .int v10), (11, .int v11), (12, .int v12)]) (st' := [.int r_46]) (pc' := 279) (ce' := 0) (sl' := 0) rfl rfl rfl rfl rfl rfl ?_
                refine gw_iload (pc' := 281) κ dL_isVan_279 rfl 10 rfl ?_
                refine gw_icmp_ne (pc' := 284) (tgt := 348) κ dL_isVan_281 rfl (by decide) (fun hc_47 => ?_) (fun hc_47 => ?_)
                · have h := h.1 hc_47
                  refine gw_iconst (pc' := 349) (v := 0) κ dL_isVan_348 rfl (by decide) ?_
                  refine gw_lv (lv' := [(0, .ref (qx 0)), (1, .int x1), (2, .int x2), (3, .ref (jq 0)), (4, .ref (jr 0)), (5, .ref (jw 0)), (9, .int v9), (10, .int v10), (11, .int v11)]) [0, 1, 2, 3, 4, 5, 9, 10, 11] rfl ?_
                  exact k_L_isVan_349 κ qx qn qp qw qt qu qd qh ql jq jr jw jg qs P now pln way lq lr lw lg x1 x2 v9 v10 v11 (0 : Int32) ky_42 wp_43 mi_44 so_45 h
                · have h := h.2 hc_47
                  refine gw_aload_n (pc' := 285) κ dL_isVan_284 rfl 0 rfl rfl ?_
                  refine gw_iload_n (pc' := 286) κ dL_isVan_285 rfl 1 rfl rfl ?_
                  refine gw_bipush (pc' := 288) (v := 6) κ dL_isVan_286 rfl (by decide) ?_
                  refine gb_callV (ci := 5) (qb := 0) (rest := []) κ (c_X5_vanOf qx qn qp qw qt qu qd qh ql qs now pln (mkWy ky_42 wp_43 mi_44 so_45) x1 (6 : Int32) h) ⟨rfl, rfl, Nat.le_of_ble_eq_true rfl, Nat.le_of_ble_eq_true rfl⟩ tw_ml_L_52 tw_im_X5_vanOf tw_se_X5_vanOf tw_co_X5_vanOf tw_in_X5 hy_X5_vanOf rfl rfl rfl rfl rfl (Nat.le_of_ble_eq_true rfl) rfl dL_isVan_288 [0, 1, 2, 3] rfl (by decide) (fun _ => Nat.le_of_ble_eq_true rfl) ⟨Nat.le_of_ble_eq_true rfl, Nat.le_of_ble_eq_true rfl⟩ (fun v u hv => ?_)
                  obtain ⟨r_52, rfl, h⟩ := hv
                  obtain ⟨ky_48, wp_49, mi_50, so_51⟩ := u
                  refine gw_nf (ws' := (wfl [cX qx qn qp qw qt qu qd qh ql, cSt qn cI now.se now.la now.de now.le now.sa now.fl now.ar now.dr now.pe now.ri, cPl qp cI pln.od pln.rd pln.vn pln.pn pln.ao pln.sr pln.sp pln.wt, cWy qw cI ky_48 wp_49 mi_50 so_51, cA34 jq cI lq, cA24 jr cI lr, cA24 jw cI lw, cA16 jg cI lg])) (lv' := [(0, .ref (qx 0)), (1, .int x1), (2, .int x2), (3, .ref (jq 0)), (4, .ref (jr 0)), (5, .ref (jw 0)), (6, .ref (jg 0)), (7, .int v7), (8, .int v8), (9, .int v9), (10, .int v10), (11, .int v11), (12, .int v12)]) (st' := [.int r_52]) (pc' := 291) (ce' := 0) (sl' := 0) rfl rfl rfl rfl rfl rfl ?_
                  refine gw_iload (pc' := 293) κ dL_isVan_291 rfl 10 rfl ?_
                  refine gw_if_ne (pc' := 296) (tgt := 301) κ dL_isVan_293 rfl (by decide) (fun hc_53 => ?_) (fun hc_53 => ?_)
                  · have h := h.1 hc_53
                    refine gw_iload_n (pc' := 302) κ dL_isVan_301 rfl 1 rfl rfl ?_
                    refine gw_iload (pc' := 304) κ dL_isVan_302 rfl 8 rfl ?_
                    refine gw_aload_n (pc' := 305) κ dL_isVan_304 rfl 3 rfl rfl ?_
                    refine gw_aload (pc' := 307) κ dL_isVan_305 rfl 4 rfl ?_
                    refine gw_aload (pc' := 309) κ dL_isVan_307 rfl 5 rfl ?_
                    refine gb_callS (rest := [.int r_52]) κ (c_L_minuteAt jq jr jw lq lr lw x1 v8 h) ⟨rfl, rfl, Nat.le_of_ble_eq_true rfl, Nat.le_of_ble_eq_true rfl⟩ tw_ml_L_45 tw_st_L_minuteAt tw_co_L_minuteAt tw_in_L hy_L_minuteAt rfl (Nat.le_of_ble_eq_true rfl) rfl dL_isVan_309 [4, 5, 6] rfl (by decide) (fun _ => Nat.le_of_ble_eq_true rfl) ⟨Nat.le_of_ble_eq_true rfl, Nat.le_of_ble_eq_true rfl⟩ (fun v u hv => ?_)
                    obtain ⟨r_54, rfl, h⟩ := hv
                    refine gw_nf (ws' := (wfl [cX qx qn qp qw qt qu qd qh ql, cSt qn cI now.se now.la now.de now.le now.sa now.fl now.ar now.dr now.pe now.ri, cPl qp cI pln.od pln.rd pln.vn pln.pn pln.ao pln.sr pln.sp pln.wt, cWy qw cI ky_48 wp_49 mi_50 so_51, cA34 jq cI lq, cA24 jr cI lr, cA24 jw cI lw, cA16 jg cI lg])) (lv' := [(0, .ref (qx 0)), (1, .int x1), (2, .int x2), (3, .ref (jq 0)), (4, .ref (jr 0)), (5, .ref (jw 0)), (6, .ref (jg 0)), (7, .int v7), (8, .int v8), (9, .int v9), (10, .int v10), (11, .int v11), (12, .int v12)]) (st' := [.int r_54, .int r_52]) (pc' := 312) (ce' := 0) (sl' := 0) rfl rfl rfl rfl rfl rfl ?_
                    refine gw_lv (lv' := [(0, .ref (qx 0)), (1, .int x1), (2, .int x2), (3, .ref (jq 0)), (4, .ref (jr 0)), (5, .ref (jw 0)), (9, .int v9), (10, .int v10), (11, .int v11)]) [0, 1, 2, 3, 4, 5, 9, 10, 11] rfl ?_
                    exact k_L_isVan_312 κ qx qn qp qw qt qu qd qh ql jq jr jw jg qs P now pln way lq lr lw lg x1 x2 v9 v10 v11 r_52 r_54 ky_48 wp_49 mi_50 so_51 h
                  · have h := h.2 hc_53
                    refine gw_bipush (pc' := 298) (v := -106) κ dL_isVan_296 rfl (by decide) ?_
                    refine gw_goto (tgt := 312) κ dL_isVan_298 (by decide) ?_
                    refine gw_lv (lv' := [(0, .ref (qx 0)), (1, .int x1), (2, .int x2), (3, .ref (jq 0)), (4, .ref (jr 0)), (5, .ref (jw 0)), (9, .int v9), (10, .int v10), (11, .int v11)]) [0, 1, 2, 3, 4, 5, 9, 10, 11] rfl ?_
                    exact k_L_isVan_312 κ qx qn qp qw qt qu qd qh ql jq jr jw jg qs P now pln way lq lr lw lg x1 x2 v9 v10 v11 r_52 (-106 : Int32) ky_48 wp_49 mi_50 so_51 h
    · have h := h.2 hc_7
      refine gw_iload (pc' := 160) κ dL_isVan_158 rfl 11 rfl ?_
      refine gw_aload (pc' := 162) κ dL_isVan_160 rfl 5 rfl ?_
      refine gw_iload (pc' := 164) κ dL_isVan_162 rfl 12 rfl ?_
      obtain ⟨hb_55, h⟩ := h
      refine gb_iald (pc' := 165) κ dL_isVan_164 rfl 6 0 rfl rfl hb_55 ?_
      refine gw_iload_n (pc' := 166) κ dL_isVan_165 rfl 1 rfl rfl ?_
      refine gw_icmp_ne (pc' := 169) (tgt := 193) κ dL_isVan_166 rfl (by decide) (fun hc_56 => ?_) (fun hc_56 => ?_)
      · have h := h.1 hc_56
        refine gw_iconst (pc' := 194) (v := 0) κ dL_isVan_193 rfl (by decide) ?_
        refine gw_iadd (pc' := 195) κ dL_isVan_194 rfl  ?_
        refine gw_istore (pc' := 197) κ dL_isVan_195 rfl (by decide) (lv' := [(11, .int (v11 + (0 : Int32))), (0, .ref (qx 0)), (1, .int x1), (2, .int x2), (3, .ref (jq 0)), (4, .ref (jr 0)), (5, .ref (jw 0)), (6, .ref (jg 0)), (7, .int v7), (8, .int v8), (9, .int v9), (10, .int v10), (12, .int v12)]) rfl ?_
        refine gw_iinc (pc' := 200) κ dL_isVan_197 rfl 12 rfl (v := (v12 + 1)) rfl (by decide) (lv' := [(12, .int (v12 + 1)), (11, .int (v11 + (0 : Int32))), (0, .ref (qx 0)), (1, .int x1), (2, .int x2), (3, .ref (jq 0)), (4, .ref (jr 0)), (5, .ref (jw 0)), (6, .ref (jg 0)), (7, .int v7), (8, .int v8), (9, .int v9), (10, .int v10)]) rfl ?_
        refine gw_goto (tgt := 150) κ dL_isVan_200 (by decide) ?_
        refine gw_lv (lv' := [(0, .ref (qx 0)), (1, .int x1), (2, .int x2), (3, .ref (jq 0)), (4, .ref (jr 0)), (5, .ref (jw 0)), (6, .ref (jg 0)), (7, .int v7), (8, .int v8), (9, .int v9), (10, .int v10), (11, .int (v11 + (0 : Int32))), (12, .int (v12 + 1))]) [2, 3, 4, 5, 6, 7, 8, 9, 10, 11, 12, 1, 0] rfl ?_
        exact ih150 (v11 + (0 : Int32)) (v12 + 1) h
      · have h := h.2 hc_56
        refine gw_aload (pc' := 171) κ dL_isVan_169 rfl 4 rfl ?_
        refine gw_iload (pc' := 173) κ dL_isVan_171 rfl 12 rfl ?_
        obtain ⟨hb_57, h⟩ := h
        refine gb_iald (pc' := 174) κ dL_isVan_173 rfl 5 0 rfl rfl hb_57 ?_
        refine gb_callS (rest := [.int v11]) κ (c_L_keyOf  (lr v12.toNatClampNeg) h) ⟨rfl, rfl, Nat.le_of_ble_eq_true rfl, Nat.le_of_ble_eq_true rfl⟩ tw_ml_L_29 tw_st_L_keyOf tw_co_L_keyOf tw_in_L hy_L_keyOf rfl (Nat.le_of_ble_eq_true rfl) rfl dL_isVan_174 [] rfl (by decide) (fun _ => Nat.le_of_ble_eq_true rfl) ⟨Nat.le_of_ble_eq_true rfl, Nat.le_of_ble_eq_true rfl⟩ (fun v u hv => ?_)
        obtain ⟨r_58, rfl, h⟩ := hv
        refine gw_nf (ws' := (wfl [cX qx qn qp qw qt qu qd qh ql, cSt qn cI now.se now.la now.de now.le now.sa now.fl now.ar now.dr now.pe now.ri, cPl qp cI pln.od pln.rd pln.vn pln.pn pln.ao pln.sr pln.sp pln.wt, cWy qw cI way_ky way_wp way_mi way_so, cA34 jq cI lq, cA24 jr cI lr, cA24 jw cI lw, cA16 jg cI lg])) (lv' := [(0, .ref (qx 0)), (1, .int x1), (2, .int x2), (3, .ref (jq 0)), (4, .ref (jr 0)), (5, .ref (jw 0)), (6, .ref (jg 0)), (7, .int v7), (8, .int v8), (9, .int v9), (10, .int v10), (11, .int v11), (12, .int v12)]) (st' := [.int r_58, .int v11]) (pc' := 177) (ce' := 0) (sl' := 0) rfl rfl rfl rfl rfl rfl ?_
        refine gw_iload (pc' := 179) κ dL_isVan_177 rfl 9 rfl ?_
        refine gw_icmp_ne (pc' := 182) (tgt := 193) κ dL_isVan_179 rfl (by decide) (fun hc_59 => ?_) (fun hc_59 => ?_)
        · have h := h.1 hc_59
          refine gw_iconst (pc' := 194) (v := 0) κ dL_isVan_193 rfl (by decide) ?_
          refine gw_iadd (pc' := 195) κ dL_isVan_194 rfl  ?_
          refine gw_istore (pc' := 197) κ dL_isVan_195 rfl (by decide) (lv' := [(11, .int (v11 + (0 : Int32))), (0, .ref (qx 0)), (1, .int x1), (2, .int x2), (3, .ref (jq 0)), (4, .ref (jr 0)), (5, .ref (jw 0)), (6, .ref (jg 0)), (7, .int v7), (8, .int v8), (9, .int v9), (10, .int v10), (12, .int v12)]) rfl ?_
          refine gw_iinc (pc' := 200) κ dL_isVan_197 rfl 12 rfl (v := (v12 + 1)) rfl (by decide) (lv' := [(12, .int (v12 + 1)), (11, .int (v11 + (0 : Int32))), (0, .ref (qx 0)), (1, .int x1), (2, .int x2), (3, .ref (jq 0)), (4, .ref (jr 0)), (5, .ref (jw 0)), (6, .ref (jg 0)), (7, .int v7), (8, .int v8), (9, .int v9), (10, .int v10)]) rfl ?_
          refine gw_goto (tgt := 150) κ dL_isVan_200 (by decide) ?_
          refine gw_lv (lv' := [(0, .ref (qx 0)), (1, .int x1), (2, .int x2), (3, .ref (jq 0)), (4, .ref (jr 0)), (5, .ref (jw 0)), (6, .ref (jg 0)), (7, .int v7), (8, .int v8), (9, .int v9), (10, .int v10), (11, .int (v11 + (0 : Int32))), (12, .int (v12 + 1))]) [2, 3, 4, 5, 6, 7, 8, 9, 10, 11, 12, 1, 0] rfl ?_
          exact ih150 (v11 + (0 : Int32)) (v12 + 1) h
        · have h := h.2 hc_59
          refine gw_aload (pc' := 184) κ dL_isVan_182 rfl 4 rfl ?_
          refine gw_iload (pc' := 186) κ dL_isVan_184 rfl 12 rfl ?_
          obtain ⟨hb_60, h⟩ := h
          refine gb_iald (pc' := 187) κ dL_isVan_186 rfl 5 0 rfl rfl hb_60 ?_
          refine gb_callS (rest := [.int v11]) κ (c_L_people  (lr v12.toNatClampNeg) h) ⟨rfl, rfl, Nat.le_of_ble_eq_true rfl, Nat.le_of_ble_eq_true rfl⟩ tw_ml_L_20 tw_st_L_people tw_co_L_people tw_in_L hy_L_people rfl (Nat.le_of_ble_eq_true rfl) rfl dL_isVan_187 [] rfl (by decide) (fun _ => Nat.le_of_ble_eq_true rfl) ⟨Nat.le_of_ble_eq_true rfl, Nat.le_of_ble_eq_true rfl⟩ (fun v u hv => ?_)
          obtain ⟨r_61, rfl, h⟩ := hv
          refine gw_nf (ws' := (wfl [cX qx qn qp qw qt qu qd qh ql, cSt qn cI now.se now.la now.de now.le now.sa now.fl now.ar now.dr now.pe now.ri, cPl qp cI pln.od pln.rd pln.vn pln.pn pln.ao pln.sr pln.sp pln.wt, cWy qw cI way_ky way_wp way_mi way_so, cA34 jq cI lq, cA24 jr cI lr, cA24 jw cI lw, cA16 jg cI lg])) (lv' := [(0, .ref (qx 0)), (1, .int x1), (2, .int x2), (3, .ref (jq 0)), (4, .ref (jr 0)), (5, .ref (jw 0)), (6, .ref (jg 0)), (7, .int v7), (8, .int v8), (9, .int v9), (10, .int v10), (11, .int v11), (12, .int v12)]) (st' := [.int r_61, .int v11]) (pc' := 190) (ce' := 0) (sl' := 0) rfl rfl rfl rfl rfl rfl ?_
          refine gw_goto (tgt := 194) κ dL_isVan_190 (by decide) ?_
          refine gw_iadd (pc' := 195) κ dL_isVan_194 rfl  ?_
          refine gw_istore (pc' := 197) κ dL_isVan_195 rfl (by decide) (lv' := [(11, .int (v11 + r_61)), (0, .ref (qx 0)), (1, .int x1), (2, .int x2), (3, .ref (jq 0)), (4, .ref (jr 0)), (5, .ref (jw 0)), (6, .ref (jg 0)), (7, .int v7), (8, .int v8), (9, .int v9), (10, .int v10), (12, .int v12)]) rfl ?_
          refine gw_iinc (pc' := 200) κ dL_isVan_197 rfl 12 rfl (v := (v12 + 1)) rfl (by decide) (lv' := [(12, .int (v12 + 1)), (11, .int (v11 + r_61)), (0, .ref (qx 0)), (1, .int x1), (2, .int x2), (3, .ref (jq 0)), (4, .ref (jr 0)), (5, .ref (jw 0)), (6, .ref (jg 0)), (7, .int v7), (8, .int v8), (9, .int v9), (10, .int v10)]) rfl ?_
          refine gw_goto (tgt := 150) κ dL_isVan_200 (by decide) ?_
          refine gw_lv (lv' := [(0, .ref (qx 0)), (1, .int x1), (2, .int x2), (3, .ref (jq 0)), (4, .ref (jr 0)), (5, .ref (jw 0)), (6, .ref (jg 0)), (7, .int v7), (8, .int v8), (9, .int v9), (10, .int v10), (11, .int (v11 + r_61)), (12, .int (v12 + 1))]) [2, 3, 4, 5, 6, 7, 8, 9, 10, 11, 12, 1, 0] rfl ?_
          exact ih150 (v11 + r_61) (v12 + 1) h
set_option maxHeartbeats 4000000 in
set_option maxRecDepth 100000 in
theorem k_L_isVan_29 {zp : Program} {l : Launch} {ze : Env} {zs : State} {zm : MethodId} {za : Array Value} {zb : List Frame} {zt : Method} {zc : Code} {D : va_G} {cI cR : ClassId} {A : Nat → Prop} (κ : KC zp zs zm za zt zc cL_isVan 13 RL D cI cR A (some .boolean)) (qx : Nat → Nat) (qn : Nat → Nat) (qp : Nat → Nat) (qw : Nat → Nat) (qt : Nat → Nat) (qu : Nat → Nat) (qd : Nat → Nat) (qh : Nat → Nat) (ql : Nat → Nat) (jq : Nat → Nat) (jr : Nat → Nat) (jw : Nat → Nat) (jg : Nat → Nat) (qs : Nat → Nat → Nat) (P : Int32 → (Nat → Int32) → (Nat → Int32) → (Nat → Int32) → Int32 → Prop) (now : StT) (pln : PlT) (way : WyT) (lq : Nat → Int32) (lr : Nat → Int32) (lw : Nat → Int32) (lg : Nat → Int32) (x1 : Int32) (x2 : Int32) (v10 : Int32) (v11 : Int32) (way_ky : Nat → Int32) (way_wp : Nat → Int32) (way_mi : Nat → Int32) (way_so : Int32) : ∀ (n : Nat) (v7 : Int32) (v8 : Int32) (v9 : Int32) (v12 : Int32), wp_L_isVan_29 P now pln way lq lr lw lg x1 x2 v10 v11 way_ky way_wp way_mi way_so n v7 v8 v9 v12 → GM zp l ze ({ frames := 6, cells := 0, slots := 0, locals := 142 } : Room) zs zm za zb zt zc D A 13 (pI (fun (r : Int32) (u : (Nat → Int32) × (Nat → Int32) × (Nat → Int32) × Int32) => P r u.1 u.2.1 u.2.2.1 u.2.2.2)) (fun u : (Nat → Int32) × (Nat → Int32) × (Nat → Int32) × Int32 => (wfl [cX qx qn qp qw qt qu qd qh ql, cSt qn cI now.se now.la now.de now.le now.sa now.fl now.ar now.dr now.pe now.ri, cPl qp cI pln.od pln.rd pln.vn pln.pn pln.ao pln.sr pln.sp pln.wt, cWy qw cI u.1 u.2.1 u.2.2.1 u.2.2.2, cA34 jq cI lq, cA24 jr cI lr, cA24 jw cI lw, cA16 jg cI lg])) 0 0 0 0 (wfl [cX qx qn qp qw qt qu qd qh ql, cSt qn cI now.se now.la now.de now.le now.sa now.fl now.ar now.dr now.pe now.ri, cPl qp cI pln.od pln.rd pln.vn pln.pn pln.ao pln.sr pln.sp pln.wt, cWy qw cI way_ky way_wp way_mi way_so, cA34 jq cI lq, cA24 jr cI lr, cA24 jw cI lw, cA16 jg cI lg]) [(0, .ref (qx 0)), (1, .int x1), (2, .int x2), (3, .ref (jq 0)), (4, .ref (jr 0)), (5, .ref (jw 0)), (6, .ref (jg 0)), (7, .int v7), (8, .int v8), (9, .int v9), (10, .int v10), (11, .int v11), (12, .int v12)] 29 [] := by
  intro n29
  induction n29 with
  | zero => intro v7 v8 v9 v12 h; exact (show False from h).elim
  | succ n29 ih29 =>
    intro v7 v8 v9 v12 h
    have h : wp_L_isVan_29F P now pln way lq lr lw lg x1 x2 v10 v11 way_ky way_wp way_mi way_so (wp_L_isVan_29 P now pln way lq lr lw lg x1 x2 v10 v11 way_ky way_wp way_mi way_so n29) v7 v8 v9 v12 := h
    unfold wp_L_isVan_29F at h
    refine gw_iload (pc' := 31) κ dL_isVan_29 rfl 12 rfl ?_
    refine gw_aload_n (pc' := 32) κ dL_isVan_31 rfl 3 rfl rfl ?_
    refine gw_iconst (pc' := 33) (v := 5) κ dL_isVan_32 rfl (by decide) ?_
    refine gb_iald (pc' := 34) κ dL_isVan_33 rfl 4 0 rfl rfl (by unfold vp_in; decide) ?_
    refine gw_icmp_ge (pc' := 37) (tgt := 147) κ dL_isVan_34 rfl (by decide) (fun hc_3 => ?_) (fun hc_3 => ?_)
    · have h := h.1 hc_3
      refine gw_iconst (pc' := 148) (v := 0) κ dL_isVan_147 rfl (by decide) ?_
      refine gw_istore (pc' := 150) κ dL_isVan_148 rfl (by decide) (lv' := [(12, .int (0 : Int32)), (0, .ref (qx 0)), (1, .int x1), (2, .int x2), (3, .ref (jq 0)), (4, .ref (jr 0)), (5, .ref (jw 0)), (6, .ref (jg 0)), (7, .int v7), (8, .int v8), (9, .int v9), (10, .int v10), (11, .int v11)]) rfl ?_
      obtain ⟨m150, h⟩ := h
      refine gw_lv (lv' := [(0, .ref (qx 0)), (1, .int x1), (2, .int x2), (3, .ref (jq 0)), (4, .ref (jr 0)), (5, .ref (jw 0)), (6, .ref (jg 0)), (7, .int v7), (8, .int v8), (9, .int v9), (10, .int v10), (11, .int v11), (12, .int (0 : Int32))]) [1, 2, 3, 4, 5, 6, 7, 8, 9, 10, 11, 12, 0] rfl ?_
      exact k_L_isVan_150 κ qx qn qp qw qt qu qd qh ql jq jr jw jg qs P now pln way lq lr lw lg x1 x2 v7 v8 v9 v10 way_ky way_wp way_mi way_so m150 v11 (0 : Int32) h
    · have h := h.2 hc_3
      refine gw_iload (pc' := 39) κ dL_isVan_37 rfl 7 rfl ?_
      refine gw_aload (pc' := 41) κ dL_isVan_39 rfl 5 rfl ?_
      refine gw_iload (pc' := 43) κ dL_isVan_41 rfl 12 rfl ?_
      obtain ⟨hb_4, h⟩ := h
      refine gb_iald (pc' := 44) κ dL_isVan_43 rfl 6 0 rfl rfl hb_4 ?_
      refine gw_iload_n (pc' := 45) κ dL_isVan_44 rfl 1 rfl rfl ?_
      refine gw_icmp_ne (pc' := 48) (tgt := 55) κ dL_isVan_45 rfl (by decide) (fun hc_5 => ?_) (fun hc_5 => ?_)
      · have h := h.1 hc_5
        refine gw_iconst (pc' := 56) (v := 0) κ dL_isVan_55 rfl (by decide) ?_
        refine gw_lv (lv' := [(0, .ref (qx 0)), (1, .int x1), (2, .int x2), (3, .ref (jq 0)), (4, .ref (jr 0)), (5, .ref (jw 0)), (6, .ref (jg 0)), (8, .int v8), (9, .int v9), (10, .int v10), (11, .int v11), (12, .int v12)]) [0, 1, 2, 3, 4, 5, 6, 8, 9, 10, 11, 12] rfl ?_
        exact k_L_isVan_56 κ qx qn qp qw qt qu qd qh ql jq jr jw jg qs P now pln way lq lr lw lg x1 x2 (wp_L_isVan_29 P now pln way lq lr lw lg x1 x2 v10 v11 way_ky way_wp way_mi way_so n29) v8 v9 v10 v11 v12 v7 (0 : Int32) way_ky way_wp way_mi way_so ih29 h
      · have h := h.2 hc_5
        refine gw_iconst (pc' := 49) (v := 1) κ dL_isVan_48 rfl (by decide) ?_
        refine gw_iload (pc' := 51) κ dL_isVan_49 rfl 12 rfl ?_
        refine gw_ishl (pc' := 52) κ dL_isVan_51 rfl  ?_
        refine gw_goto (tgt := 56) κ dL_isVan_52 (by decide) ?_
        refine gw_lv (lv' := [(0, .ref (qx 0)), (1, .int x1), (2, .int x2), (3, .ref (jq 0)), (4, .ref (jr 0)), (5, .ref (jw 0)), (6, .ref (jg 0)), (8, .int v8), (9, .int v9), (10, .int v10), (11, .int v11), (12, .int v12)]) [0, 1, 2, 3, 4, 5, 6, 8, 9, 10, 11, 12] rfl ?_
        exact k_L_isVan_56 κ qx qn qp qw qt qu qd qh ql jq jr jw jg qs P now pln way lq lr lw lg x1 x2 (wp_L_isVan_29 P now pln way lq lr lw lg x1 x2 v10 v11 way_ky way_wp way_mi way_so n29) v8 v9 v10 v11 v12 v7 ((1 : Int32) <<< (v12 &&& 31)) way_ky way_wp way_mi way_so ih29 h
set_option maxHeartbeats 4000000 in
set_option maxRecDepth 100000 in
theorem c_L_isVan {l : Launch} {D : va_G} {cI cR : ClassId}  (qx : Nat → Nat) (qn : Nat → Nat) (qp : Nat → Nat) (qw : Nat → Nat) (qt : Nat → Nat) (qu : Nat → Nat) (qd : Nat → Nat) (qh : Nat → Nat) (ql : Nat → Nat) (jq : Nat → Nat) (jr : Nat → Nat) (jw : Nat → Nat) (jg : Nat → Nat) (qs : Nat → Nat → Nat) {P : Int32 → (Nat → Int32) → (Nat → Int32) → (Nat → Int32) → Int32 → Prop} (now : StT) (pln : PlT) (way : WyT) (lq : Nat → Int32) (lr : Nat → Int32) (lw : Nat → Int32) (lg : Nat → Int32) (x1 : Int32) (x2 : Int32) (h : wp_L_isVan P now pln way lq lr lw lg x1 x2) : CT l D cI cR yL_isVan cL_isVan 13 (some .boolean) ({ frames := 6, cells := 0, slots := 0, locals := 142 } : Room) [.ref (qx 0), .int x1, .int x2, .ref (jq 0), .ref (jr 0), .ref (jw 0), .ref (jg 0)] (wfl [cX qx qn qp qw qt qu qd qh ql, cSt qn cI now.se now.la now.de now.le now.sa now.fl now.ar now.dr now.pe now.ri, cPl qp cI pln.od pln.rd pln.vn pln.pn pln.ao pln.sr pln.sp pln.wt, cWy qw cI way.ky way.wp way.mi way.so, cA34 jq cI lq, cA24 jr cI lr, cA24 jw cI lw, cA16 jg cI lg]) (fun u : (Nat → Int32) × (Nat → Int32) × (Nat → Int32) × Int32 => (wfl [cX qx qn qp qw qt qu qd qh ql, cSt qn cI now.se now.la now.de now.le now.sa now.fl now.ar now.dr now.pe now.ri, cPl qp cI pln.od pln.rd pln.vn pln.pn pln.ao pln.sr pln.sp pln.wt, cWy qw cI u.1 u.2.1 u.2.2.1 u.2.2.2, cA34 jq cI lq, cA24 jr cI lr, cA24 jw cI lw, cA16 jg cI lg])) (pI (fun (r : Int32) (u : (Nat → Int32) × (Nat → Int32) × (Nat → Int32) × Int32) => P r u.1 u.2.1 u.2.2.1 u.2.2.2)) 0 0 := by
  refine ct_of RL rfl (by decide +kernel) (Nat.le_of_ble_eq_true rfl) (fun zp ze zs zm zb zt zc A hin κ => ?_)
  unfold wp_L_isVan at h
  refine gw_nf (lv' := [(0, .ref (qx 0)), (1, .int x1), (2, .int x2), (3, .ref (jq 0)), (4, .ref (jr 0)), (5, .ref (jw 0)), (6, .ref (jg 0))]) (pc' := 0) (st' := []) (ce' := 0) (sl' := 0) rfl rfl rfl rfl rfl rfl ?_
  refine gw_iconst (pc' := 1) (v := 0) κ dL_isVan_0 rfl (by decide) ?_
  refine gw_istore (pc' := 3) κ dL_isVan_1 rfl (by decide) (lv' := [(7, .int (0 : Int32)), (0, .ref (qx 0)), (1, .int x1), (2, .int x2), (3, .ref (jq 0)), (4, .ref (jr 0)), (5, .ref (jw 0)), (6, .ref (jg 0))]) rfl ?_
  refine gw_iconst (pc' := 4) (v := -1) κ dL_isVan_3 rfl (by decide) ?_
  refine gw_istore (pc' := 6) κ dL_isVan_4 rfl (by decide) (lv' := [(8, .int (-1 : Int32)), (7, .int (0 : Int32)), (0, .ref (qx 0)), (1, .int x1), (2, .int x2), (3, .ref (jq 0)), (4, .ref (jr 0)), (5, .ref (jw 0)), (6, .ref (jg 0))]) rfl ?_
  refine gw_iconst (pc' := 7) (v := -1) κ dL_isVan_6 rfl (by decide) ?_
  refine gw_istore (pc' := 9) κ dL_isVan_7 rfl (by decide) (lv' := [(9, .int (-1 : Int32)), (8, .int (-1 : Int32)), (7, .int (0 : Int32)), (0, .ref (qx 0)), (1, .int x1), (2, .int x2), (3, .ref (jq 0)), (4, .ref (jr 0)), (5, .ref (jw 0)), (6, .ref (jg 0))]) rfl ?_
  refine gw_iload_n (pc' := 10) κ dL_isVan_9 rfl 4 rfl rfl ?_
  refine gw_sipush (pc' := 13) (v := 1000) κ dL_isVan_10 rfl (by decide) ?_
  refine gw_aload_n (pc' := 14) κ dL_isVan_13 rfl 6 rfl rfl ?_
  refine gw_aload (pc' := 16) κ dL_isVan_14 rfl 7 rfl ?_
  refine gw_aload (pc' := 18) κ dL_isVan_16 rfl 8 rfl ?_
  refine gb_callS (rest := []) κ (c_L_stopsAhead jq jr jw lq lr lw x1 (1000 : Int32) h) ⟨rfl, rfl, Nat.le_of_ble_eq_true rfl, Nat.le_of_ble_eq_true rfl⟩ tw_ml_L_35 tw_st_L_stopsAhead tw_co_L_stopsAhead tw_in_L hy_L_stopsAhead rfl (Nat.le_of_ble_eq_true rfl) rfl dL_isVan_18 [4, 5, 6] rfl (by decide) (fun _ => Nat.le_of_ble_eq_true rfl) ⟨Nat.le_of_ble_eq_true rfl, Nat.le_of_ble_eq_true rfl⟩ (fun v u hv => ?_)
  obtain ⟨r_1, rfl, h⟩ := hv
  refine gw_nf (ws' := (wfl [cX qx qn qp qw qt qu qd qh ql, cSt qn cI now.se now.la now.de now.le now.sa now.fl now.ar now.dr now.pe now.ri, cPl qp cI pln.od pln.rd pln.vn pln.pn pln.ao pln.sr pln.sp pln.wt, cWy qw cI way.ky way.wp way.mi way.so, cA34 jq cI lq, cA24 jr cI lr, cA24 jw cI lw, cA16 jg cI lg])) (lv' := [(9, .int (-1 : Int32)), (8, .int (-1 : Int32)), (7, .int (0 : Int32)), (0, .ref (qx 0)), (1, .int x1), (2, .int x2), (3, .ref (jq 0)), (4, .ref (jr 0)), (5, .ref (jw 0)), (6, .ref (jg 0))]) (st' := [.int r_1]) (pc' := 21) (ce' := 0) (sl' := 0) rfl rfl rfl rfl rfl rfl ?_
  refine gw_istore (pc' := 23) κ dL_isVan_21 rfl (by decide) (lv' := [(10, .int r_1), (9, .int (-1 : Int32)), (8, .int (-1 : Int32)), (7, .int (0 : Int32)), (0, .ref (qx 0)), (1, .int x1), (2, .int x2), (3, .ref (jq 0)), (4, .ref (jr 0)), (5, .ref (jw 0)), (6, .ref (jg 0))]) rfl ?_
  refine gw_iconst (pc' := 24) (v := 0) κ dL_isVan_23 rfl (by decide) ?_
  refine gw_istore (pc' := 26) κ dL_isVan_24 rfl (by decide) (lv' := [(11, .int (0 : Int32)), (10, .int r_1), (9, .int (-1 : Int32)), (8, .int (-1 : Int32)), (7, .int (0 : Int32)), (0, .ref (qx 0)), (1, .int x1), (2, .int x2), (3, .ref (jq 0)), (4, .ref (jr 0)), (5, .ref (jw 0)), (6, .ref (jg 0))]) rfl ?_
  refine gw_iconst (pc' := 27) (v := 0) κ dL_isVan_26 rfl (by decide) ?_
  refine gw_istore (pc' := 29) κ dL_isVan_27 rfl (by decide) (lv' := [(12, .int (0 : Int32)), (11, .int (0 : Int32)), (10, .int r_1), (9, .int (-1 : Int32)), (8, .int (-1 : Int32)), (7, .int (0 : Int32)), (0, .ref (qx 0)), (1, .int x1), (2, .int x2), (3, .ref (jq 0)), (4, .ref (jr 0)), (5, .ref (jw 0)), (6, .ref (jg 0))]) rfl ?_
  obtain ⟨m29, h⟩ := h
  refine gw_lv (lv' := [(0, .ref (qx 0)), (1, .int x1), (2, .int x2), (3, .ref (jq 0)), (4, .ref (jr 0)), (5, .ref (jw 0)), (6, .ref (jg 0)), (7, .int (0 : Int32)), (8, .int (-1 : Int32)), (9, .int (-1 : Int32)), (10, .int r_1), (11, .int (0 : Int32)), (12, .int (0 : Int32))]) [6, 7, 8, 9, 10, 11, 12, 5, 4, 3, 2, 1, 0] rfl ?_
  exact k_L_isVan_29 κ qx qn qp qw qt qu qd qh ql jq jr jw jg qs P now pln way lq lr lw lg x1 x2 r_1 (0 : Int32) way.ky way.wp way.mi way.so m29 (0 : Int32) (-1 : Int32) (-1 : Int32) (0 : Int32) h
