theorem hy_X6_mostDelay : g_hy yX6_mostDelay 1 := by decide +kernel
set_option maxHeartbeats 4000000 in
set_option maxRecDepth 100000 in
theorem k_X6_mostDelay_36 {zp : Program} {l : Launch} {ze : Env} {zs : State} {zm : MethodId} {za : Array Value} {zb : List Frame} {zt : Method} {zc : Code} {D : va_G} {cI cR : ClassId} {A : Nat → Prop} (κ : KC zp zs zm za zt zc cX6_mostDelay 6 RX6 D cI cR A (some .int)) (qa : Nat → Nat) (P : Int32 → (Nat → Int32) → (Nat → Int32) → (Nat → Int32) → (Nat → Int32) → (Nat → Int32) → Prop) (Mhi : Nat → Int32) (Mhn : Int32) (Msl : Nat → Int32) (Msv : Nat → Int32) (Mpd : Nat → Int32) (Mln : Int32) (Mat : Int32) (Mit : Nat → Int32) (Msa : Nat → Int32) (Msm : Nat → Int32) (Mso : Int32) (x1 : Int32) (v2 : Int32) (v3 : Int32) : ∀ (n : Nat) (v4 : Int32) (v5 : Int32) (Mst : Nat → Int32) (Mvf : Nat → Int32) (Mdn : Nat → Int32) (Mlf : Nat → Int32) (Mar : Nat → Int32), wp_X6_mostDelay_36 P x1 v2 v3 n v4 v5 Mst Mvf Mdn Mlf Mar → GM zp l ze ({ frames := 5, cells := 0, slots := 0, locals := 113 } : Room) zs zm za zb zt zc D A 6 (pI (fun (r : Int32) (u : (Nat → Int32) × (Nat → Int32) × (Nat → Int32) × (Nat → Int32) × (Nat → Int32)) => P r u.1 u.2.1 u.2.2.1 u.2.2.2.1 u.2.2.2.2)) (fun u : (Nat → Int32) × (Nat → Int32) × (Nat → Int32) × (Nat → Int32) × (Nat → Int32) => (wfl [cM qa cI u.1 Mhi Mhn Msl Msv Mpd Mln Mat Mit u.2.1 u.2.2.1 u.2.2.2.1 u.2.2.2.2 Msa Msm Mso])) 0 0 0 0 (wfl [cM qa cI Mst Mhi Mhn Msl Msv Mpd Mln Mat Mit Mvf Mdn Mlf Mar Msa Msm Mso]) [(0, .ref (qa 0)), (1, .int x1), (2, .int v2), (3, .int v3), (4, .int v4), (5, .int v5)] 36 [] := by
  intro n36
  induction n36 with
  | zero => intro v4 v5 Mst Mvf Mdn Mlf Mar h; exact (show False from h).elim
  | succ n36 ih36 =>
    intro v4 v5 Mst Mvf Mdn Mlf Mar h
    have h : wp_X6_mostDelay_36F P x1 v2 v3 (wp_X6_mostDelay_36 P x1 v2 v3 n36) v4 v5 Mst Mvf Mdn Mlf Mar := h
    unfold wp_X6_mostDelay_36F at h
    refine gw_iload (pc' := 38) κ dX6_mostDelay_36 rfl 5 rfl ?_
    refine gw_sipush (pc' := 41) (v := 300) κ dX6_mostDelay_38 rfl (by decide) ?_
    refine gw_icmp_gt (pc' := 44) (tgt := 89) κ dX6_mostDelay_41 rfl (by decide) (fun hc_9 => ?_) (fun hc_9 => ?_)
    · have h := h.1 hc_9
      refine gw_aload_n (pc' := 90) κ dX6_mostDelay_89 rfl 0 rfl rfl ?_
      refine gb_get (pc' := 93) (C := RX6) (T := TX6) (N := 16) κ dX6_mostDelay_90 rfl inX6 0 rfl rfl rfl 0 (by decide) tw_fl_X6_7 rfl ?_
      refine gw_bipush (pc' := 95) (v := 11) κ dX6_mostDelay_93 rfl (by decide) ?_
      refine gw_iload_n (pc' := 96) κ dX6_mostDelay_95 rfl 1 rfl rfl ?_
      refine gw_iadd (pc' := 97) κ dX6_mostDelay_96 rfl  ?_
      refine gw_iload_n (pc' := 98) κ dX6_mostDelay_97 rfl 3 rfl rfl ?_
      obtain ⟨hb_10, h⟩ := h
      refine gb_iast (pc' := 99) (bs' := [cM qa cI (upd Mst ((11 : Int32) + x1).toNatClampNeg v3) Mhi Mhn Msl Msv Mpd Mln Mat Mit Mvf Mdn Mlf Mar Msa Msm Mso]) κ dX6_mostDelay_98 rfl 0 1 rfl rfl hb_10 rfl ?_
      refine gw_iload (pc' := 101) κ dX6_mostDelay_99 rfl 4 rfl ?_
      exact gw_iret κ dX6_mostDelay_101 ((upd Mst ((11 : Int32) + x1).toNatClampNeg v3), Mvf, Mdn, Mlf, Mar) rfl ⟨_, rfl, h⟩
    · have h := h.2 hc_9
      refine gw_aload_n (pc' := 45) κ dX6_mostDelay_44 rfl 0 rfl rfl ?_
      refine gb_get (pc' := 48) (C := RX6) (T := TX6) (N := 16) κ dX6_mostDelay_45 rfl inX6 0 rfl rfl rfl 0 (by decide) tw_fl_X6_7 rfl ?_
      refine gw_bipush (pc' := 50) (v := 11) κ dX6_mostDelay_48 rfl (by decide) ?_
      refine gw_iload_n (pc' := 51) κ dX6_mostDelay_50 rfl 1 rfl rfl ?_
      refine gw_iadd (pc' := 52) κ dX6_mostDelay_51 rfl  ?_
      refine gw_iload (pc' := 54) κ dX6_mostDelay_52 rfl 5 rfl ?_
      obtain ⟨hb_11, h⟩ := h
      refine gb_iast (pc' := 55) (bs' := [cM qa cI (upd Mst ((11 : Int32) + x1).toNatClampNeg v5) Mhi Mhn Msl Msv Mpd Mln Mat Mit Mvf Mdn Mlf Mar Msa Msm Mso]) κ dX6_mostDelay_54 rfl 0 1 rfl rfl hb_11 rfl ?_
      refine gw_aload_n (pc' := 56) κ dX6_mostDelay_55 rfl 0 rfl rfl ?_
      refine gb_callV (ci := 6) (qb := 0) (rest := []) κ (c_X6_lay qa (upd Mst ((11 : Int32) + x1).toNatClampNeg v5) Mhi Mhn Msl Msv Mpd Mln Mat Mit Mvf Mdn Mlf Mar Msa Msm Mso h) ⟨rfl, rfl, Nat.le_of_ble_eq_true rfl, Nat.le_of_ble_eq_true rfl⟩ tw_ml_X6_113 tw_im_X6_lay tw_se_X6_lay tw_co_X6_lay tw_in_X6 hy_X6_lay rfl rfl rfl rfl rfl (Nat.le_of_ble_eq_true rfl) rfl dX6_mostDelay_56 [0] rfl (by decide) (fun _ => Nat.le_of_ble_eq_true rfl) ⟨Nat.le_of_ble_eq_true rfl, Nat.le_of_ble_eq_true rfl⟩ (fun v u hv => ?_)
      obtain ⟨rfl, h⟩ := hv
      obtain ⟨Mvf_12, Mdn_13, Mlf_14, Mar_15⟩ := u
      refine gw_nf (ws' := (wfl [cM qa cI (upd Mst ((11 : Int32) + x1).toNatClampNeg v5) Mhi Mhn Msl Msv Mpd Mln Mat Mit Mvf_12 Mdn_13 Mlf_14 Mar_15 Msa Msm Mso])) (lv' := [(0, .ref (qa 0)), (1, .int x1), (2, .int v2), (3, .int v3), (4, .int v4), (5, .int v5)]) (st' := []) (pc' := 59) (ce' := 0) (sl' := 0) rfl rfl rfl rfl rfl rfl ?_
      refine gw_iload (pc' := 61) κ dX6_mostDelay_59 rfl 5 rfl ?_
      refine gw_iload (pc' := 63) κ dX6_mostDelay_61 rfl 4 rfl ?_
      refine gw_icmp_le (pc' := 66) (tgt := 79) κ dX6_mostDelay_63 rfl (by decide) (fun hc_16 => ?_) (fun hc_16 => ?_)
      · have h := h.1 hc_16
        refine gw_iload (pc' := 81) κ dX6_mostDelay_79 rfl 4 rfl ?_
        refine gw_istore (pc' := 83) κ dX6_mostDelay_81 rfl (by decide) (lv' := [(4, .int v4), (0, .ref (qa 0)), (1, .int x1), (2, .int v2), (3, .int v3), (5, .int v5)]) rfl ?_
        refine gw_iinc (pc' := 86) κ dX6_mostDelay_83 rfl 5 rfl (v := (v5 + 1)) rfl (by decide) (lv' := [(5, .int (v5 + 1)), (4, .int v4), (0, .ref (qa 0)), (1, .int x1), (2, .int v2), (3, .int v3)]) rfl ?_
        refine gw_goto (tgt := 36) κ dX6_mostDelay_86 (by decide) ?_
        refine gw_lv (lv' := [(0, .ref (qa 0)), (1, .int x1), (2, .int v2), (3, .int v3), (4, .int v4), (5, .int (v5 + 1))]) [2, 3, 4, 5, 1, 0] rfl ?_
        exact ih36 v4 (v5 + 1) (upd Mst ((11 : Int32) + x1).toNatClampNeg v5) Mvf_12 Mdn_13 Mlf_14 Mar_15 h
      · have h := h.2 hc_16
        refine gw_aload_n (pc' := 67) κ dX6_mostDelay_66 rfl 0 rfl rfl ?_
        refine gb_callV (ci := 6) (qb := 0) (rest := []) κ (c_X6_strandedPeople qa (upd Mst ((11 : Int32) + x1).toNatClampNeg v5) Mhi Mhn Msl Msv Mpd Mln Mat Mit Mvf_12 Mdn_13 Mlf_14 Mar_15 Msa Msm Mso h) ⟨rfl, rfl, Nat.le_of_ble_eq_true rfl, Nat.le_of_ble_eq_true rfl⟩ tw_ml_X6_116 tw_im_X6_strandedPeople tw_se_X6_strandedPeople tw_co_X6_strandedPeople tw_in_X6 hy_X6_strandedPeople rfl rfl rfl rfl rfl (Nat.le_of_ble_eq_true rfl) rfl dX6_mostDelay_67 [0] rfl (by decide) (fun _ => Nat.le_of_ble_eq_true rfl) ⟨Nat.le_of_ble_eq_true rfl, Nat.le_of_ble_eq_true rfl⟩ (fun v u hv => ?_)
        obtain ⟨r_17, rfl, h⟩ := hv
        refine gw_nf (ws' := (wfl [cM qa cI (upd Mst ((11 : Int32) + x1).toNatClampNeg v5) Mhi Mhn Msl Msv Mpd Mln Mat Mit Mvf_12 Mdn_13 Mlf_14 Mar_15 Msa Msm Mso])) (lv' := [(0, .ref (qa 0)), (1, .int x1), (2, .int v2), (3, .int v3), (4, .int v4), (5, .int v5)]) (st' := [.int r_17]) (pc' := 70) (ce' := 0) (sl' := 0) rfl rfl rfl rfl rfl rfl ?_
        refine gw_iload_n (pc' := 71) κ dX6_mostDelay_70 rfl 2 rfl rfl ?_
        refine gw_icmp_gt (pc' := 74) (tgt := 79) κ dX6_mostDelay_71 rfl (by decide) (fun hc_18 => ?_) (fun hc_18 => ?_)
        · have h := h.1 hc_18
          refine gw_iload (pc' := 81) κ dX6_mostDelay_79 rfl 4 rfl ?_
          refine gw_istore (pc' := 83) κ dX6_mostDelay_81 rfl (by decide) (lv' := [(4, .int v4), (0, .ref (qa 0)), (1, .int x1), (2, .int v2), (3, .int v3), (5, .int v5)]) rfl ?_
          refine gw_iinc (pc' := 86) κ dX6_mostDelay_83 rfl 5 rfl (v := (v5 + 1)) rfl (by decide) (lv' := [(5, .int (v5 + 1)), (4, .int v4), (0, .ref (qa 0)), (1, .int x1), (2, .int v2), (3, .int v3)]) rfl ?_
          refine gw_goto (tgt := 36) κ dX6_mostDelay_86 (by decide) ?_
          refine gw_lv (lv' := [(0, .ref (qa 0)), (1, .int x1), (2, .int v2), (3, .int v3), (4, .int v4), (5, .int (v5 + 1))]) [2, 3, 4, 5, 1, 0] rfl ?_
          exact ih36 v4 (v5 + 1) (upd Mst ((11 : Int32) + x1).toNatClampNeg v5) Mvf_12 Mdn_13 Mlf_14 Mar_15 h
        · have h := h.2 hc_18
          refine gw_iload (pc' := 76) κ dX6_mostDelay_74 rfl 5 rfl ?_
          refine gw_goto (tgt := 81) κ dX6_mostDelay_76 (by decide) ?_
          refine gw_istore (pc' := 83) κ dX6_mostDelay_81 rfl (by decide) (lv' := [(4, .int v5), (0, .ref (qa 0)), (1, .int x1), (2, .int v2), (3, .int v3), (5, .int v5)]) rfl ?_
          refine gw_iinc (pc' := 86) κ dX6_mostDelay_83 rfl 5 rfl (v := (v5 + 1)) rfl (by decide) (lv' := [(5, .int (v5 + 1)), (4, .int v5), (0, .ref (qa 0)), (1, .int x1), (2, .int v2), (3, .int v3)]) rfl ?_
          refine gw_goto (tgt := 36) κ dX6_mostDelay_86 (by decide) ?_
          refine gw_lv (lv' := [(0, .ref (qa 0)), (1, .int x1), (2, .int v2), (3, .int v3), (4, .int v5), (5, .int (v5 + 1))]) [2, 3, 4, 5, 1, 0] rfl ?_
          exact ih36 v5 (v5 + 1) (upd Mst ((11 : Int32) + x1).toNatClampNeg v5) Mvf_12 Mdn_13 Mlf_14 Mar_15 h
set_option maxHeartbeats 4000000 in
set_option maxRecDepth 100000 in
theorem c_X6_mostDelay {l : Launch} {D : va_G} {cI cR : ClassId}  (qa : Nat → Nat) {P : Int32 → (Nat → Int32) → (Nat → Int32) → (Nat → Int32) → (Nat → Int32) → (Nat → Int32) → Prop} (Mst : Nat → Int32) (Mhi : Nat → Int32) (Mhn : Int32) (Msl : Nat → Int32) (Msv : Nat → Int32) (Mpd : Nat → Int32) (Mln : Int32) (Mat : Int32) (Mit : Nat → Int32) (Mvf : Nat → Int32) (Mdn : Nat → Int32) (Mlf : Nat → Int32) (Mar : Nat → Int32) (Msa : Nat → Int32) (Msm : Nat → Int32) (Mso : Int32) (x1 : Int32) (h : wp_X6_mostDelay P Mst Mvf Mdn Mlf Mar x1) : CT l D cI cR yX6_mostDelay cX6_mostDelay 6 (some .int) ({ frames := 5, cells := 0, slots := 0, locals := 113 } : Room) [.ref (qa 0), .int x1] (wfl [cM qa cI Mst Mhi Mhn Msl Msv Mpd Mln Mat Mit Mvf Mdn Mlf Mar Msa Msm Mso]) (fun u : (Nat → Int32) × (Nat → Int32) × (Nat → Int32) × (Nat → Int32) × (Nat → Int32) => (wfl [cM qa cI u.1 Mhi Mhn Msl Msv Mpd Mln Mat Mit u.2.1 u.2.2.1 u.2.2.2.1 u.2.2.2.2 Msa Msm Mso])) (pI (fun (r : Int32) (u : (Nat → Int32) × (Nat → Int32) × (Nat → Int32) × (Nat → Int32) × (Nat → Int32)) => P r u.1 u.2.1 u.2.2.1 u.2.2.2.1 u.2.2.2.2)) 0 0 := by
  refine ct_of RX6 rfl (by decide +kernel) (Nat.le_of_ble_eq_true rfl) (fun zp ze zs zm zb zt zc A hin κ => ?_)
  unfold wp_X6_mostDelay at h
  refine gw_nf (lv' := [(0, .ref (qa 0)), (1, .int x1)]) (pc' := 0) (st' := []) (ce' := 0) (sl' := 0) rfl rfl rfl rfl rfl rfl ?_
  refine gw_iload_n (pc' := 1) κ dX6_mostDelay_0 rfl 1 rfl rfl ?_
  refine gb_callS (rest := []) κ (c_X6_isFlight  x1 h) ⟨rfl, rfl, Nat.le_of_ble_eq_true rfl, Nat.le_of_ble_eq_true rfl⟩ tw_ml_X6_106 tw_st_X6_isFlight tw_co_X6_isFlight tw_in_X6 hy_X6_isFlight rfl (Nat.le_of_ble_eq_true rfl) rfl dX6_mostDelay_1 [] rfl (by decide) (fun _ => Nat.le_of_ble_eq_true rfl) ⟨Nat.le_of_ble_eq_true rfl, Nat.le_of_ble_eq_true rfl⟩ (fun v u hv => ?_)
  obtain ⟨r_1, rfl, h⟩ := hv
  refine gw_nf (ws' := (wfl [cM qa cI Mst Mhi Mhn Msl Msv Mpd Mln Mat Mit Mvf Mdn Mlf Mar Msa Msm Mso])) (lv' := [(0, .ref (qa 0)), (1, .int x1)]) (st' := [.int r_1]) (pc' := 4) (ce' := 0) (sl' := 0) rfl rfl rfl rfl rfl rfl ?_
  refine gw_if_ne (pc' := 7) (tgt := 10) κ dX6_mostDelay_4 rfl (by decide) (fun hc_2 => ?_) (fun hc_2 => ?_)
  · have h := h.1 hc_2
    refine gw_aload_n (pc' := 11) κ dX6_mostDelay_10 rfl 0 rfl rfl ?_
    refine gb_callV (ci := 6) (qb := 0) (rest := []) κ (c_X6_lay qa Mst Mhi Mhn Msl Msv Mpd Mln Mat Mit Mvf Mdn Mlf Mar Msa Msm Mso h) ⟨rfl, rfl, Nat.le_of_ble_eq_true rfl, Nat.le_of_ble_eq_true rfl⟩ tw_ml_X6_113 tw_im_X6_lay tw_se_X6_lay tw_co_X6_lay tw_in_X6 hy_X6_lay rfl rfl rfl rfl rfl (Nat.le_of_ble_eq_true rfl) rfl dX6_mostDelay_11 [0] rfl (by decide) (fun _ => Nat.le_of_ble_eq_true rfl) ⟨Nat.le_of_ble_eq_true rfl, Nat.le_of_ble_eq_true rfl⟩ (fun v u hv => ?_)
    obtain ⟨rfl, h⟩ := hv
    obtain ⟨Mvf_3, Mdn_4, Mlf_5, Mar_6⟩ := u
    refine gw_nf (ws' := (wfl [cM qa cI Mst Mhi Mhn Msl Msv Mpd Mln Mat Mit Mvf_3 Mdn_4 Mlf_5 Mar_6 Msa Msm Mso])) (lv' := [(0, .ref (qa 0)), (1, .int x1)]) (st' := []) (pc' := 14) (ce' := 0) (sl' := 0) rfl rfl rfl rfl rfl rfl ?_
    refine gw_aload_n (pc' := 15) κ dX6_mostDelay_14 rfl 0 rfl rfl ?_
    refine gb_callV (ci := 6) (qb := 0) (rest := []) κ (c_X6_strandedPeople qa Mst Mhi Mhn Msl Msv Mpd Mln Mat Mit Mvf_3 Mdn_4 Mlf_5 Mar_6 Msa Msm Mso h) ⟨rfl, rfl, Nat.le_of_ble_eq_true rfl, Nat.le_of_ble_eq_true rfl⟩ tw_ml_X6_116 tw_im_X6_strandedPeople tw_se_X6_strandedPeople tw_co_X6_strandedPeople tw_in_X6 hy_X6_strandedPeople rfl rfl rfl rfl rfl (Nat.le_of_ble_eq_true rfl) rfl dX6_mostDelay_15 [0] rfl (by decide) (fun _ => Nat.le_of_ble_eq_true rfl) ⟨Nat.le_of_ble_eq_true rfl, Nat.le_of_ble_eq_true rfl⟩ (fun v u hv => ?_)
    obtain ⟨r_7, rfl, h⟩ := hv
    refine gw_nf (ws' := (wfl [cM qa cI Mst Mhi Mhn Msl Msv Mpd Mln Mat Mit Mvf_3 Mdn_4 Mlf_5 Mar_6 Msa Msm Mso])) (lv' := [(0, .ref (qa 0)), (1, .int x1)]) (st' := [.int r_7]) (pc' := 18) (ce' := 0) (sl' := 0) rfl rfl rfl rfl rfl rfl ?_
    refine gw_istore_n (pc' := 19) κ dX6_mostDelay_18 rfl rfl (by decide) (lv' := [(2, .int r_7), (0, .ref (qa 0)), (1, .int x1)]) rfl ?_
    refine gw_aload_n (pc' := 20) κ dX6_mostDelay_19 rfl 1 rfl rfl ?_
    refine gb_get (pc' := 23) (C := RX6) (T := TX6) (N := 16) κ dX6_mostDelay_20 rfl inX6 0 rfl rfl rfl 0 (by decide) tw_fl_X6_7 rfl ?_
    refine gw_bipush (pc' := 25) (v := 11) κ dX6_mostDelay_23 rfl (by decide) ?_
    refine gw_iload_n (pc' := 26) κ dX6_mostDelay_25 rfl 2 rfl rfl ?_
    refine gw_iadd (pc' := 27) κ dX6_mostDelay_26 rfl  ?_
    obtain ⟨hb_8, h⟩ := h
    refine gb_iald (pc' := 28) κ dX6_mostDelay_27 rfl 0 1 rfl rfl hb_8 ?_
    refine gw_istore_n (pc' := 29) κ dX6_mostDelay_28 rfl rfl (by decide) (lv' := [(3, .int (Mst ((11 : Int32) + x1).toNatClampNeg)), (2, .int r_7), (0, .ref (qa 0)), (1, .int x1)]) rfl ?_
    refine gw_iload_n (pc' := 30) κ dX6_mostDelay_29 rfl 0 rfl rfl ?_
    refine gw_istore (pc' := 32) κ dX6_mostDelay_30 rfl (by decide) (lv' := [(4, .int (Mst ((11 : Int32) + x1).toNatClampNeg)), (3, .int (Mst ((11 : Int32) + x1).toNatClampNeg)), (2, .int r_7), (0, .ref (qa 0)), (1, .int x1)]) rfl ?_
    refine gw_bipush (pc' := 34) (v := -30) κ dX6_mostDelay_32 rfl (by decide) ?_
    refine gw_istore (pc' := 36) κ dX6_mostDelay_34 rfl (by decide) (lv' := [(5, .int (-30 : Int32)), (4, .int (Mst ((11 : Int32) + x1).toNatClampNeg)), (3, .int (Mst ((11 : Int32) + x1).toNatClampNeg)), (2, .int r_7), (0, .ref (qa 0)), (1, .int x1)]) rfl ?_
    obtain ⟨m36, h⟩ := h
    refine gw_lv (lv' := [(0, .ref (qa 0)), (1, .int x1), (2, .int r_7), (3, .int (Mst ((11 : Int32) + x1).toNatClampNeg)), (4, .int (Mst ((11 : Int32) + x1).toNatClampNeg)), (5, .int (-30 : Int32))]) [4, 5, 3, 2, 1, 0] rfl ?_
    exact k_X6_mostDelay_36 κ qa P Mhi Mhn Msl Msv Mpd Mln Mat Mit Msa Msm Mso x1 r_7 (Mst ((11 : Int32) + x1).toNatClampNeg) m36 (Mst ((11 : Int32) + x1).toNatClampNeg) (-30 : Int32) Mst Mvf_3 Mdn_4 Mlf_5 Mar_6 h
  · have h := h.2 hc_2
    refine gw_bipush (pc' := 9) (v := -101) κ dX6_mostDelay_7 rfl (by decide) ?_
    exact gw_iret κ dX6_mostDelay_9 (Mst, Mvf, Mdn, Mlf, Mar) rfl ⟨_, rfl, h⟩
theorem hy_X6_bestMinute : g_hy yX6_bestMinute 1 := by decide +kernel
set_option maxHeartbeats 4000000 in
set_option maxRecDepth 100000 in
theorem k_X6_bestMinute_31 {zp : Program} {l : Launch} {ze : Env} {zs : State} {zm : MethodId} {za : Array Value} {zb : List Frame} {zt : Method} {zc : Code} {D : va_G} {cI cR : ClassId} {A : Nat → Prop} (κ : KC zp zs zm za zt zc cX6_bestMinute 9 RX6 D cI cR A (some .int)) (qa : Nat → Nat) (P : Int32 → (Nat → Int32) → (Nat → Int32) → (Nat → Int32) → (Nat → Int32) → (Nat → Int32) → Prop) (Mhi : Nat → Int32) (Mhn : Int32) (Msl : Nat → Int32) (Msv : Nat → Int32) (Mpd : Nat → Int32) (Mln : Int32) (Mat : Int32) (Mit : Nat → Int32) (Msa : Nat → Int32) (Msm : Nat → Int32) (Mso : Int32) (x1 : Int32) (v2 : Int32) : ∀ (n : Nat) (v3 : Int32) (v4 : Int32) (v5 : Int32) (v6 : Int32) (Mst : Nat → Int32) (Mvf : Nat → Int32) (Mdn : Nat → Int32) (Mlf : Nat → Int32) (Mar : Nat → Int32), wp_X6_bestMinute_31 P x1 v2 n v3 v4 v5 v6 Mst Mvf Mdn Mlf Mar → GM zp l ze ({ frames := 5, cells := 0, slots := 0, locals := 113 } : Room) zs zm za zb zt zc D A 9 (pI (fun (r : Int32) (u : (Nat → Int32) × (Nat → Int32) × (Nat → Int32) × (Nat → Int32) × (Nat → Int32)) => P r u.1 u.2.1 u.2.2.1 u.2.2.2.1 u.2.2.2.2)) (fun u : (Nat → Int32) × (Nat → Int32) × (Nat → Int32) × (Nat → Int32) × (Nat → Int32) => (wfl [cM qa cI u.1 Mhi Mhn Msl Msv Mpd Mln Mat Mit u.2.1 u.2.2.1 u.2.2.2.1 u.2.2.2.2 Msa Msm Mso])) 0 0 0 0 (wfl [cM qa cI Mst Mhi Mhn Msl Msv Mpd Mln Mat Mit Mvf Mdn Mlf Mar Msa Msm Mso]) [(0, .ref (qa 0)), (1, .int x1), (2, .int v2), (3, .int v3), (4, .int v4), (5, .int v5), (6, .int v6)] 31 [] := by
  intro n31
  induction n31 with
  | zero => intro v3 v4 v5 v6 Mst Mvf Mdn Mlf Mar h; exact (show False from h).elim
  | succ n31 ih31 =>
    intro v3 v4 v5 v6 Mst Mvf Mdn Mlf Mar h
    have h : wp_X6_bestMinute_31F P x1 v2 (wp_X6_bestMinute_31 P x1 v2 n31) v3 v4 v5 v6 Mst Mvf Mdn Mlf Mar := h
    unfold wp_X6_bestMinute_31F at h
    refine gw_iload (pc' := 33) κ dX6_bestMinute_31 rfl 6 rfl ?_
    refine gw_sipush (pc' := 36) (v := 1500) κ dX6_bestMinute_33 rfl (by decide) ?_
    refine gw_icmp_gt (pc' := 39) (tgt := 109) κ dX6_bestMinute_36 rfl (by decide) (fun hc_4 => ?_) (fun hc_4 => ?_)
    · have h := h.1 hc_4
      refine gw_aload_n (pc' := 110) κ dX6_bestMinute_109 rfl 0 rfl rfl ?_
      refine gb_get (pc' := 113) (C := RX6) (T := TX6) (N := 16) κ dX6_bestMinute_110 rfl inX6 0 rfl rfl rfl 0 (by decide) tw_fl_X6_7 rfl ?_
      refine gw_bipush (pc' := 115) (v := 17) κ dX6_bestMinute_113 rfl (by decide) ?_
      refine gw_iload_n (pc' := 116) κ dX6_bestMinute_115 rfl 1 rfl rfl ?_
      refine gw_iadd (pc' := 117) κ dX6_bestMinute_116 rfl  ?_
      refine gw_iload_n (pc' := 118) κ dX6_bestMinute_117 rfl 2 rfl rfl ?_
      obtain ⟨hb_5, h⟩ := h
      refine gb_iast (pc' := 119) (bs' := [cM qa cI (upd Mst ((17 : Int32) + x1).toNatClampNeg v2) Mhi Mhn Msl Msv Mpd Mln Mat Mit Mvf Mdn Mlf Mar Msa Msm Mso]) κ dX6_bestMinute_118 rfl 0 1 rfl rfl hb_5 rfl ?_
      refine gw_iload_n (pc' := 120) κ dX6_bestMinute_119 rfl 3 rfl rfl ?_
      exact gw_iret κ dX6_bestMinute_120 ((upd Mst ((17 : Int32) + x1).toNatClampNeg v2), Mvf, Mdn, Mlf, Mar) rfl ⟨_, rfl, h⟩
    · have h := h.2 hc_4
      refine gw_aload_n (pc' := 40) κ dX6_bestMinute_39 rfl 0 rfl rfl ?_
      refine gb_get (pc' := 43) (C := RX6) (T := TX6) (N := 16) κ dX6_bestMinute_40 rfl inX6 0 rfl rfl rfl 0 (by decide) tw_fl_X6_7 rfl ?_
      refine gw_bipush (pc' := 45) (v := 17) κ dX6_bestMinute_43 rfl (by decide) ?_
      refine gw_iload_n (pc' := 46) κ dX6_bestMinute_45 rfl 1 rfl rfl ?_
      refine gw_iadd (pc' := 47) κ dX6_bestMinute_46 rfl  ?_
      refine gw_iload (pc' := 49) κ dX6_bestMinute_47 rfl 6 rfl ?_
      obtain ⟨hb_6, h⟩ := h
      refine gb_iast (pc' := 50) (bs' := [cM qa cI (upd Mst ((17 : Int32) + x1).toNatClampNeg v6) Mhi Mhn Msl Msv Mpd Mln Mat Mit Mvf Mdn Mlf Mar Msa Msm Mso]) κ dX6_bestMinute_49 rfl 0 1 rfl rfl hb_6 rfl ?_
      refine gw_aload_n (pc' := 51) κ dX6_bestMinute_50 rfl 0 rfl rfl ?_
      refine gb_callV (ci := 6) (qb := 0) (rest := []) κ (c_X6_lay qa (upd Mst ((17 : Int32) + x1).toNatClampNeg v6) Mhi Mhn Msl Msv Mpd Mln Mat Mit Mvf Mdn Mlf Mar Msa Msm Mso h) ⟨rfl, rfl, Nat.le_of_ble_eq_true rfl, Nat.le_of_ble_eq_true rfl⟩ tw_ml_X6_113 tw_im_X6_lay tw_se_X6_lay tw_co_X6_lay tw_in_X6 hy_X6_lay rfl rfl rfl rfl rfl (Nat.le_of_ble_eq_true rfl) rfl dX6_bestMinute_51 [0] rfl (by decide) (fun _ => Nat.le_of_ble_eq_true rfl) ⟨Nat.le_of_ble_eq_true rfl, Nat.le_of_ble_eq_true rfl⟩ (fun v u hv => ?_)
      obtain ⟨rfl, h⟩ := hv
      obtain ⟨Mvf_7, Mdn_8, Mlf_9, Mar_10⟩ := u
      refine gw_nf (ws' := (wfl [cM qa cI (upd Mst ((17 : Int32) + x1).toNatClampNeg v6) Mhi Mhn Msl Msv Mpd Mln Mat Mit Mvf_7 Mdn_8 Mlf_9 Mar_10 Msa Msm Mso])) (lv' := [(0, .ref (qa 0)), (1, .int x1), (2, .int v2), (3, .int v3), (4, .int v4), (5, .int v5), (6, .int v6)]) (st' := []) (pc' := 54) (ce' := 0) (sl' := 0) rfl rfl rfl rfl rfl rfl ?_
      refine gw_aload_n (pc' := 55) κ dX6_bestMinute_54 rfl 0 rfl rfl ?_
      refine gb_callV (ci := 6) (qb := 0) (rest := []) κ (c_X6_strandedPeople qa (upd Mst ((17 : Int32) + x1).toNatClampNeg v6) Mhi Mhn Msl Msv Mpd Mln Mat Mit Mvf_7 Mdn_8 Mlf_9 Mar_10 Msa Msm Mso h) ⟨rfl, rfl, Nat.le_of_ble_eq_true rfl, Nat.le_of_ble_eq_true rfl⟩ tw_ml_X6_116 tw_im_X6_strandedPeople tw_se_X6_strandedPeople tw_co_X6_strandedPeople tw_in_X6 hy_X6_strandedPeople rfl rfl rfl rfl rfl (Nat.le_of_ble_eq_true rfl) rfl dX6_bestMinute_55 [0] rfl (by decide) (fun _ => Nat.le_of_ble_eq_true rfl) ⟨Nat.le_of_ble_eq_true rfl, Nat.le_of_ble_eq_true rfl⟩ (fun v u hv => ?_)
      obtain ⟨r_11, rfl, h⟩ := hv
      refine gw_nf (ws' := (wfl [cM qa cI (upd Mst ((17 : Int32) + x1).toNatClampNeg v6) Mhi Mhn Msl Msv Mpd Mln Mat Mit Mvf_7 Mdn_8 Mlf_9 Mar_10 Msa Msm Mso])) (lv' := [(0, .ref (qa 0)), (1, .int x1), (2, .int v2), (3, .int v3), (4, .int v4), (5, .int v5), (6, .int v6)]) (st' := [.int r_11]) (pc' := 58) (ce' := 0) (sl' := 0) rfl rfl rfl rfl rfl rfl ?_
      refine gw_istore (pc' := 60) κ dX6_bestMinute_58 rfl (by decide) (lv' := [(7, .int r_11), (0, .ref (qa 0)), (1, .int x1), (2, .int v2), (3, .int v3), (4, .int v4), (5, .int v5), (6, .int v6)]) rfl ?_
      refine gw_aload_n (pc' := 61) κ dX6_bestMinute_60 rfl 1 rfl rfl ?_
      refine gb_callV (ci := 6) (qb := 0) (rest := []) κ (c_X6_waiting qa (upd Mst ((17 : Int32) + x1).toNatClampNeg v6) Mhi Mhn Msl Msv Mpd Mln Mat Mit Mvf_7 Mdn_8 Mlf_9 Mar_10 Msa Msm Mso h) ⟨rfl, rfl, Nat.le_of_ble_eq_true rfl, Nat.le_of_ble_eq_true rfl⟩ tw_ml_X6_160 tw_im_X6_waiting tw_se_X6_waiting tw_co_X6_waiting tw_in_X6 hy_X6_waiting rfl rfl rfl rfl rfl (Nat.le_of_ble_eq_true rfl) rfl dX6_bestMinute_61 [0] rfl (by decide) (fun _ => Nat.le_of_ble_eq_true rfl) ⟨Nat.le_of_ble_eq_true rfl, Nat.le_of_ble_eq_true rfl⟩ (fun v u hv => ?_)
      obtain ⟨r_12, rfl, h⟩ := hv
      refine gw_nf (ws' := (wfl [cM qa cI (upd Mst ((17 : Int32) + x1).toNatClampNeg v6) Mhi Mhn Msl Msv Mpd Mln Mat Mit Mvf_7 Mdn_8 Mlf_9 Mar_10 Msa Msm Mso])) (lv' := [(7, .int r_11), (0, .ref (qa 0)), (1, .int x1), (2, .int v2), (3, .int v3), (4, .int v4), (5, .int v5), (6, .int v6)]) (st' := [.int r_12]) (pc' := 64) (ce' := 0) (sl' := 0) rfl rfl rfl rfl rfl rfl ?_
      refine gw_istore (pc' := 66) κ dX6_bestMinute_64 rfl (by decide) (lv' := [(8, .int r_12), (7, .int r_11), (0, .ref (qa 0)), (1, .int x1), (2, .int v2), (3, .int v3), (4, .int v4), (5, .int v5), (6, .int v6)]) rfl ?_
      refine gw_iload (pc' := 68) κ dX6_bestMinute_66 rfl 8 rfl ?_
      refine gw_if_eq (pc' := 71) (tgt := 92) κ dX6_bestMinute_68 rfl (by decide) (fun hc_13 => ?_) (fun hc_13 => ?_)
      · have h := h.1 hc_13
        refine gw_iload (pc' := 94) κ dX6_bestMinute_92 rfl 8 rfl ?_
        refine gw_istore_n (pc' := 95) κ dX6_bestMinute_94 rfl rfl (by decide) (lv' := [(3, .int v6), (8, .int r_12), (7, .int r_11), (0, .ref (qa 0)), (1, .int x1), (2, .int v2), (4, .int v4), (5, .int v5), (6, .int v6)]) rfl ?_
        refine gw_iload (pc' := 97) κ dX6_bestMinute_95 rfl 2 rfl ?_
        refine gw_istore (pc' := 99) κ dX6_bestMinute_97 rfl (by decide) (lv' := [(4, .int r_11), (3, .int v6), (8, .int r_12), (7, .int r_11), (0, .ref (qa 0)), (1, .int x1), (2, .int v2), (5, .int v5), (6, .int v6)]) rfl ?_
        refine gw_iload (pc' := 101) κ dX6_bestMinute_99 rfl 2 rfl ?_
        refine gw_istore (pc' := 103) κ dX6_bestMinute_101 rfl (by decide) (lv' := [(5, .int r_12), (4, .int r_11), (3, .int v6), (8, .int r_12), (7, .int r_11), (0, .ref (qa 0)), (1, .int x1), (2, .int v2), (6, .int v6)]) rfl ?_
        refine gw_iinc (pc' := 106) κ dX6_bestMinute_103 rfl 8 rfl (v := (v6 + 5)) rfl (by decide) (lv' := [(6, .int (v6 + 5)), (5, .int r_12), (4, .int r_11), (3, .int v6), (8, .int r_12), (7, .int r_11), (0, .ref (qa 0)), (1, .int x1), (2, .int v2)]) rfl ?_
        refine gw_goto (tgt := 31) κ dX6_bestMinute_106 (by decide) ?_
        refine gw_lv (lv' := [(0, .ref (qa 0)), (1, .int x1), (2, .int v2), (3, .int v6), (4, .int r_11), (5, .int r_12), (6, .int (v6 + 5))]) [6, 7, 8, 3, 2, 1, 0] rfl ?_
        exact ih31 v6 r_11 r_12 (v6 + 5) (upd Mst ((17 : Int32) + x1).toNatClampNeg v6) Mvf_7 Mdn_8 Mlf_9 Mar_10 h
      · have h := h.2 hc_13
        refine gw_iload (pc' := 73) κ dX6_bestMinute_71 rfl 1 rfl ?_
        refine gw_iload (pc' := 75) κ dX6_bestMinute_73 rfl 6 rfl ?_
        refine gw_icmp_lt (pc' := 78) (tgt := 92) κ dX6_bestMinute_75 rfl (by decide) (fun hc_14 => ?_) (fun hc_14 => ?_)
        · have h := h.1 hc_14
          refine gw_iload (pc' := 94) κ dX6_bestMinute_92 rfl 8 rfl ?_
          refine gw_istore_n (pc' := 95) κ dX6_bestMinute_94 rfl rfl (by decide) (lv' := [(3, .int v6), (8, .int r_12), (7, .int r_11), (0, .ref (qa 0)), (1, .int x1), (2, .int v2), (4, .int v4), (5, .int v5), (6, .int v6)]) rfl ?_
          refine gw_iload (pc' := 97) κ dX6_bestMinute_95 rfl 2 rfl ?_
          refine gw_istore (pc' := 99) κ dX6_bestMinute_97 rfl (by decide) (lv' := [(4, .int r_11), (3, .int v6), (8, .int r_12), (7, .int r_11), (0, .ref (qa 0)), (1, .int x1), (2, .int v2), (5, .int v5), (6, .int v6)]) rfl ?_
          refine gw_iload (pc' := 101) κ dX6_bestMinute_99 rfl 2 rfl ?_
          refine gw_istore (pc' := 103) κ dX6_bestMinute_101 rfl (by decide) (lv' := [(5, .int r_12), (4, .int r_11), (3, .int v6), (8, .int r_12), (7, .int r_11), (0, .ref (qa 0)), (1, .int x1), (2, .int v2), (6, .int v6)]) rfl ?_
          refine gw_iinc (pc' := 106) κ dX6_bestMinute_103 rfl 8 rfl (v := (v6 + 5)) rfl (by decide) (lv' := [(6, .int (v6 + 5)), (5, .int r_12), (4, .int r_11), (3, .int v6), (8, .int r_12), (7, .int r_11), (0, .ref (qa 0)), (1, .int x1), (2, .int v2)]) rfl ?_
          refine gw_goto (tgt := 31) κ dX6_bestMinute_106 (by decide) ?_
          refine gw_lv (lv' := [(0, .ref (qa 0)), (1, .int x1), (2, .int v2), (3, .int v6), (4, .int r_11), (5, .int r_12), (6, .int (v6 + 5))]) [6, 7, 8, 3, 2, 1, 0] rfl ?_
          exact ih31 v6 r_11 r_12 (v6 + 5) (upd Mst ((17 : Int32) + x1).toNatClampNeg v6) Mvf_7 Mdn_8 Mlf_9 Mar_10 h
        · have h := h.2 hc_14
          refine gw_iload (pc' := 80) κ dX6_bestMinute_78 rfl 1 rfl ?_
          refine gw_iload (pc' := 82) κ dX6_bestMinute_80 rfl 6 rfl ?_
          refine gw_icmp_ne (pc' := 85) (tgt := 103) κ dX6_bestMinute_82 rfl (by decide) (fun hc_15 => ?_) (fun hc_15 => ?_)
          · have h := h.1 hc_15
            refine gw_iinc (pc' := 106) κ dX6_bestMinute_103 rfl 8 rfl (v := (v6 + 5)) rfl (by decide) (lv' := [(6, .int (v6 + 5)), (8, .int r_12), (7, .int r_11), (0, .ref (qa 0)), (1, .int x1), (2, .int v2), (3, .int v3), (4, .int v4), (5, .int v5)]) rfl ?_
            refine gw_goto (tgt := 31) κ dX6_bestMinute_106 (by decide) ?_
            refine gw_lv (lv' := [(0, .ref (qa 0)), (1, .int x1), (2, .int v2), (3, .int v3), (4, .int v4), (5, .int v5), (6, .int (v6 + 5))]) [3, 4, 5, 6, 7, 8, 0] rfl ?_
            exact ih31 v3 v4 v5 (v6 + 5) (upd Mst ((17 : Int32) + x1).toNatClampNeg v6) Mvf_7 Mdn_8 Mlf_9 Mar_10 h
          · have h := h.2 hc_15
            refine gw_iload (pc' := 87) κ dX6_bestMinute_85 rfl 0 rfl ?_
            refine gw_iload (pc' := 89) κ dX6_bestMinute_87 rfl 7 rfl ?_
            refine gw_icmp_ge (pc' := 92) (tgt := 103) κ dX6_bestMinute_89 rfl (by decide) (fun hc_16 => ?_) (fun hc_16 => ?_)
            · have h := h.1 hc_16
              refine gw_iinc (pc' := 106) κ dX6_bestMinute_103 rfl 8 rfl (v := (v6 + 5)) rfl (by decide) (lv' := [(6, .int (v6 + 5)), (8, .int r_12), (7, .int r_11), (0, .ref (qa 0)), (1, .int x1), (2, .int v2), (3, .int v3), (4, .int v4), (5, .int v5)]) rfl ?_
              refine gw_goto (tgt := 31) κ dX6_bestMinute_106 (by decide) ?_
              refine gw_lv (lv' := [(0, .ref (qa 0)), (1, .int x1), (2, .int v2), (3, .int v3), (4, .int v4), (5, .int v5), (6, .int (v6 + 5))]) [3, 4, 5, 6, 7, 8, 0] rfl ?_
              exact ih31 v3 v4 v5 (v6 + 5) (upd Mst ((17 : Int32) + x1).toNatClampNeg v6) Mvf_7 Mdn_8 Mlf_9 Mar_10 h
            · have h := h.2 hc_16
              refine gw_iload (pc' := 94) κ dX6_bestMinute_92 rfl 8 rfl ?_
              refine gw_istore_n (pc' := 95) κ dX6_bestMinute_94 rfl rfl (by decide) (lv' := [(3, .int v6), (8, .int r_12), (7, .int r_11), (0, .ref (qa 0)), (1, .int x1), (2, .int v2), (4, .int v4), (5, .int v5), (6, .int v6)]) rfl ?_
              refine gw_iload (pc' := 97) κ dX6_bestMinute_95 rfl 2 rfl ?_
              refine gw_istore (pc' := 99) κ dX6_bestMinute_97 rfl (by decide) (lv' := [(4, .int r_11), (3, .int v6), (8, .int r_12), (7, .int r_11), (0, .ref (qa 0)), (1, .int x1), (2, .int v2), (5, .int v5), (6, .int v6)]) rfl ?_
              refine gw_iload (pc' := 101) κ dX6_bestMinute_99 rfl 2 rfl ?_
              refine gw_istore (pc' := 103) κ dX6_bestMinute_101 rfl (by decide) (lv' := [(5, .int r_12), (4, .int r_11), (3, .int v6), (8, .int r_12), (7, .int r_11), (0, .ref (qa 0)), (1, .int x1), (2, .int v2), (6, .int v6)]) rfl ?_
              refine gw_iinc (pc' := 106) κ dX6_bestMinute_103 rfl 8 rfl (v := (v6 + 5)) rfl (by decide) (lv' := [(6, .int (v6 + 5)), (5, .int r_12), (4, .int r_11), (3, .int v6), (8, .int r_12), (7, .int r_11), (0, .ref (qa 0)), (1, .int x1), (2, .int v2)]) rfl ?_
              refine gw_goto (tgt := 31) κ dX6_bestMinute_106 (by decide) ?_
              refine gw_lv (lv' := [(0, .ref (qa 0)), (1, .int x1), (2, .int v2), (3, .int v6), (4, .int r_11), (5, .int r_12), (6, .int (v6 + 5))]) [6, 7, 8, 3, 2, 1, 0] rfl ?_
              exact ih31 v6 r_11 r_12 (v6 + 5) (upd Mst ((17 : Int32) + x1).toNatClampNeg v6) Mvf_7 Mdn_8 Mlf_9 Mar_10 h
set_option maxHeartbeats 4000000 in
set_option maxRecDepth 100000 in
theorem c_X6_bestMinute {l : Launch} {D : va_G} {cI cR : ClassId}  (qa : Nat → Nat) {P : Int32 → (Nat → Int32) → (Nat → Int32) → (Nat → Int32) → (Nat → Int32) → (Nat → Int32) → Prop} (Mst : Nat → Int32) (Mhi : Nat → Int32) (Mhn : Int32) (Msl : Nat → Int32) (Msv : Nat → Int32) (Mpd : Nat → Int32) (Mln : Int32) (Mat : Int32) (Mit : Nat → Int32) (Mvf : Nat → Int32) (Mdn : Nat → Int32) (Mlf : Nat → Int32) (Mar : Nat → Int32) (Msa : Nat → Int32) (Msm : Nat → Int32) (Mso : Int32) (x1 : Int32) (h : wp_X6_bestMinute P Mst Mvf Mdn Mlf Mar x1) : CT l D cI cR yX6_bestMinute cX6_bestMinute 9 (some .int) ({ frames := 5, cells := 0, slots := 0, locals := 113 } : Room) [.ref (qa 0), .int x1] (wfl [cM qa cI Mst Mhi Mhn Msl Msv Mpd Mln Mat Mit Mvf Mdn Mlf Mar Msa Msm Mso]) (fun u : (Nat → Int32) × (Nat → Int32) × (Nat → Int32) × (Nat → Int32) × (Nat → Int32) => (wfl [cM qa cI u.1 Mhi Mhn Msl Msv Mpd Mln Mat Mit u.2.1 u.2.2.1 u.2.2.2.1 u.2.2.2.2 Msa Msm Mso])) (pI (fun (r : Int32) (u : (Nat → Int32) × (Nat → Int32) × (Nat → Int32) × (Nat → Int32) × (Nat → Int32)) => P r u.1 u.2.1 u.2.2.1 u.2.2.2.1 u.2.2.2.2)) 0 0 := by
  refine ct_of RX6 rfl (by decide +kernel) (Nat.le_of_ble_eq_true rfl) (fun zp ze zs zm zb zt zc A hin κ => ?_)
  unfold wp_X6_bestMinute at h
  refine gw_nf (lv' := [(0, .ref (qa 0)), (1, .int x1)]) (pc' := 0) (st' := []) (ce' := 0) (sl' := 0) rfl rfl rfl rfl rfl rfl ?_
  refine gw_iload_n (pc' := 1) κ dX6_bestMinute_0 rfl 1 rfl rfl ?_
  refine gb_callS (rest := []) κ (c_X6_isVan  x1 h) ⟨rfl, rfl, Nat.le_of_ble_eq_true rfl, Nat.le_of_ble_eq_true rfl⟩ tw_ml_X6_110 tw_st_X6_isVan tw_co_X6_isVan tw_in_X6 hy_X6_isVan rfl (Nat.le_of_ble_eq_true rfl) rfl dX6_bestMinute_1 [] rfl (by decide) (fun _ => Nat.le_of_ble_eq_true rfl) ⟨Nat.le_of_ble_eq_true rfl, Nat.le_of_ble_eq_true rfl⟩ (fun v u hv => ?_)
  obtain ⟨r_1, rfl, h⟩ := hv
  refine gw_nf (ws' := (wfl [cM qa cI Mst Mhi Mhn Msl Msv Mpd Mln Mat Mit Mvf Mdn Mlf Mar Msa Msm Mso])) (lv' := [(0, .ref (qa 0)), (1, .int x1)]) (st' := [.int r_1]) (pc' := 4) (ce' := 0) (sl' := 0) rfl rfl rfl rfl rfl rfl ?_
  refine gw_if_ne (pc' := 7) (tgt := 10) κ dX6_bestMinute_4 rfl (by decide) (fun hc_2 => ?_) (fun hc_2 => ?_)
  · have h := h.1 hc_2
    refine gw_aload_n (pc' := 11) κ dX6_bestMinute_10 rfl 0 rfl rfl ?_
    refine gb_get (pc' := 14) (C := RX6) (T := TX6) (N := 16) κ dX6_bestMinute_11 rfl inX6 0 rfl rfl rfl 0 (by decide) tw_fl_X6_7 rfl ?_
    refine gw_bipush (pc' := 16) (v := 17) κ dX6_bestMinute_14 rfl (by decide) ?_
    refine gw_iload_n (pc' := 17) κ dX6_bestMinute_16 rfl 1 rfl rfl ?_
    refine gw_iadd (pc' := 18) κ dX6_bestMinute_17 rfl  ?_
    obtain ⟨hb_3, h⟩ := h
    refine gb_iald (pc' := 19) κ dX6_bestMinute_18 rfl 0 1 rfl rfl hb_3 ?_
    refine gw_istore_n (pc' := 20) κ dX6_bestMinute_19 rfl rfl (by decide) (lv' := [(2, .int (Mst ((17 : Int32) + x1).toNatClampNeg)), (0, .ref (qa 0)), (1, .int x1)]) rfl ?_
    refine gw_iconst (pc' := 21) (v := 0) κ dX6_bestMinute_20 rfl (by decide) ?_
    refine gw_istore_n (pc' := 22) κ dX6_bestMinute_21 rfl rfl (by decide) (lv' := [(3, .int (0 : Int32)), (2, .int (Mst ((17 : Int32) + x1).toNatClampNeg)), (0, .ref (qa 0)), (1, .int x1)]) rfl ?_
    refine gw_iconst (pc' := 23) (v := 0) κ dX6_bestMinute_22 rfl (by decide) ?_
    refine gw_istore (pc' := 25) κ dX6_bestMinute_23 rfl (by decide) (lv' := [(4, .int (0 : Int32)), (3, .int (0 : Int32)), (2, .int (Mst ((17 : Int32) + x1).toNatClampNeg)), (0, .ref (qa 0)), (1, .int x1)]) rfl ?_
    refine gw_iconst (pc' := 26) (v := 0) κ dX6_bestMinute_25 rfl (by decide) ?_
    refine gw_istore (pc' := 28) κ dX6_bestMinute_26 rfl (by decide) (lv' := [(5, .int (0 : Int32)), (4, .int (0 : Int32)), (3, .int (0 : Int32)), (2, .int (Mst ((17 : Int32) + x1).toNatClampNeg)), (0, .ref (qa 0)), (1, .int x1)]) rfl ?_
    refine gw_iconst (pc' := 29) (v := 0) κ dX6_bestMinute_28 rfl (by decide) ?_
    refine gw_istore (pc' := 31) κ dX6_bestMinute_29 rfl (by decide) (lv' := [(6, .int (0 : Int32)), (5, .int (0 : Int32)), (4, .int (0 : Int32)), (3, .int (0 : Int32)), (2, .int (Mst ((17 : Int32) + x1).toNatClampNeg)), (0, .ref (qa 0)), (1, .int x1)]) rfl ?_
    obtain ⟨m31, h⟩ := h
    refine gw_lv (lv' := [(0, .ref (qa 0)), (1, .int x1), (2, .int (Mst ((17 : Int32) + x1).toNatClampNeg)), (3, .int (0 : Int32)), (4, .int (0 : Int32)), (5, .int (0 : Int32)), (6, .int (0 : Int32))]) [5, 6, 4, 3, 2, 1, 0] rfl ?_
    exact k_X6_bestMinute_31 κ qa P Mhi Mhn Msl Msv Mpd Mln Mat Mit Msa Msm Mso x1 (Mst ((17 : Int32) + x1).toNatClampNeg) m31 (0 : Int32) (0 : Int32) (0 : Int32) (0 : Int32) Mst Mvf Mdn Mlf Mar h
  · have h := h.2 hc_2
    refine gw_bipush (pc' := 9) (v := -101) κ dX6_bestMinute_7 rfl (by decide) ?_
    exact gw_iret κ dX6_bestMinute_9 (Mst, Mvf, Mdn, Mlf, Mar) rfl ⟨_, rfl, h⟩
theorem hy_X6_fullest : g_hy yX6_fullest 0 := by decide +kernel
set_option maxHeartbeats 4000000 in
set_option maxRecDepth 100000 in
theorem k_X6_fullest_47 {zp : Program} {l : Launch} {ze : Env} {zs : State} {zm : MethodId} {za : Array Value} {zb : List Frame} {zt : Method} {zc : Code} {D : va_G} {cI cR : ClassId} {A : Nat → Prop} (κ : KC zp zs zm za zt zc cX6_fullest 4 RX6 D cI cR A (some .int)) (qa : Nat → Nat) (P : Int32 → (Nat → Int32) → (Nat → Int32) → (Nat → Int32) → (Nat → Int32) → Prop) (Mst : Nat → Int32) (Mhi : Nat → Int32) (Mhn : Int32) (Msl : Nat → Int32) (Msv : Nat → Int32) (Mpd : Nat → Int32) (Mln : Int32) (Mat : Int32) (Mit : Nat → Int32) (Msa : Nat → Int32) (Msm : Nat → Int32) (Mso : Int32) (r9 : Int32 → Int32 → Prop) (v1 : Int32) (v2 : Int32) (w0 : Int32) (Mvf : Nat → Int32) (Mdn : Nat → Int32) (Mlf : Nat → Int32) (Mar : Nat → Int32) (hr9 : ∀ (v1 : Int32) (v2 : Int32), r9 v1 v2 → GM zp l ze ({ frames := 5, cells := 0, slots := 0, locals := 113 } : Room) zs zm za zb zt zc D A 4 (pI (fun (r : Int32) (u : (Nat → Int32) × (Nat → Int32) × (Nat → Int32) × (Nat → Int32)) => P r u.1 u.2.1 u.2.2.1 u.2.2.2)) (fun u : (Nat → Int32) × (Nat → Int32) × (Nat → Int32) × (Nat → Int32) => (wfl [cM qa cI Mst Mhi Mhn Msl Msv Mpd Mln Mat Mit u.1 u.2.1 u.2.2.1 u.2.2.2 Msa Msm Mso])) 0 0 0 0 (wfl [cM qa cI Mst Mhi Mhn Msl Msv Mpd Mln Mat Mit Mvf Mdn Mlf Mar Msa Msm Mso]) [(0, .ref (qa 0)), (1, .int v1), (2, .int v2)] 9 []) (h : wp_X6_fullest_47 P Mst r9 v1 v2 w0 Mvf Mdn Mlf Mar) : GM zp l ze ({ frames := 5, cells := 0, slots := 0, locals := 113 } : Room) zs zm za zb zt zc D A 4 (pI (fun (r : Int32) (u : (Nat → Int32) × (Nat → Int32) × (Nat → Int32) × (Nat → Int32)) => P r u.1 u.2.1 u.2.2.1 u.2.2.2)) (fun u : (Nat → Int32) × (Nat → Int32) × (Nat → Int32) × (Nat → Int32) => (wfl [cM qa cI Mst Mhi Mhn Msl Msv Mpd Mln Mat Mit u.1 u.2.1 u.2.2.1 u.2.2.2 Msa Msm Mso])) 0 0 0 0 (wfl [cM qa cI Mst Mhi Mhn Msl Msv Mpd Mln Mat Mit Mvf Mdn Mlf Mar Msa Msm Mso]) [(0, .ref (qa 0)), (1, .int v1), (2, .int v2)] 47 [.int w0] := by
  unfold wp_X6_fullest_47 at h
  refine gw_istore_n (pc' := 48) κ dX6_fullest_47 rfl rfl (by decide) (lv' := [(3, .int w0), (0, .ref (qa 0)), (1, .int v1), (2, .int v2)]) rfl ?_
  refine gw_iload_n (pc' := 49) κ dX6_fullest_48 rfl 0 rfl rfl ?_
  refine gw_if_eq (pc' := 52) (tgt := 56) κ dX6_fullest_49 rfl (by decide) (fun hc_12 => ?_) (fun hc_12 => ?_)
  · have h := h.1 hc_12
    refine gw_iload_n (pc' := 57) κ dX6_fullest_56 rfl 2 rfl rfl ?_
    refine gw_istore_n (pc' := 58) κ dX6_fullest_57 rfl rfl (by decide) (lv' := [(1, .int v1), (3, .int w0), (0, .ref (qa 0)), (2, .int v2)]) rfl ?_
    refine gw_iinc (pc' := 61) κ dX6_fullest_58 rfl 3 rfl (v := (v2 + 1)) rfl (by decide) (lv' := [(2, .int (v2 + 1)), (1, .int v1), (3, .int w0), (0, .ref (qa 0))]) rfl ?_
    refine gw_goto (tgt := 9) κ dX6_fullest_61 (by decide) ?_
    refine gw_lv (lv' := [(0, .ref (qa 0)), (1, .int v1), (2, .int (v2 + 1))]) [3, 1, 0] rfl ?_
    exact hr9 v1 (v2 + 1) h
  · have h := h.2 hc_12
    refine gw_iload_n (pc' := 53) κ dX6_fullest_52 rfl 3 rfl rfl ?_
    refine gw_goto (tgt := 57) κ dX6_fullest_53 (by decide) ?_
    refine gw_istore_n (pc' := 58) κ dX6_fullest_57 rfl rfl (by decide) (lv' := [(1, .int v2), (3, .int w0), (0, .ref (qa 0)), (2, .int v2)]) rfl ?_
    refine gw_iinc (pc' := 61) κ dX6_fullest_58 rfl 3 rfl (v := (v2 + 1)) rfl (by decide) (lv' := [(2, .int (v2 + 1)), (1, .int v2), (3, .int w0), (0, .ref (qa 0))]) rfl ?_
    refine gw_goto (tgt := 9) κ dX6_fullest_61 (by decide) ?_
    refine gw_lv (lv' := [(0, .ref (qa 0)), (1, .int v2), (2, .int (v2 + 1))]) [3, 1, 0] rfl ?_
    exact hr9 v2 (v2 + 1) h
set_option maxHeartbeats 4000000 in
set_option maxRecDepth 100000 in
theorem k_X6_fullest_9 {zp : Program} {l : Launch} {ze : Env} {zs : State} {zm : MethodId} {za : Array Value} {zb : List Frame} {zt : Method} {zc : Code} {D : va_G} {cI cR : ClassId} {A : Nat → Prop} (κ : KC zp zs zm za zt zc cX6_fullest 4 RX6 D cI cR A (some .int)) (qa : Nat → Nat) (P : Int32 → (Nat → Int32) → (Nat → Int32) → (Nat → Int32) → (Nat → Int32) → Prop) (Mst : Nat → Int32) (Mhi : Nat → Int32) (Mhn : Int32) (Msl : Nat → Int32) (Msv : Nat → Int32) (Mpd : Nat → Int32) (Mln : Int32) (Mat : Int32) (Mit : Nat → Int32) (Msa : Nat → Int32) (Msm : Nat → Int32) (Mso : Int32) (Mvf : Nat → Int32) (Mdn : Nat → Int32) (Mlf : Nat → Int32) (Mar : Nat → Int32) : ∀ (n : Nat) (v1 : Int32) (v2 : Int32), wp_X6_fullest_9 P Mst Mvf Mdn Mlf Mar n v1 v2 → GM zp l ze ({ frames := 5, cells := 0, slots := 0, locals := 113 } : Room) zs zm za zb zt zc D A 4 (pI (fun (r : Int32) (u : (Nat → Int32) × (Nat → Int32) × (Nat → Int32) × (Nat → Int32)) => P r u.1 u.2.1 u.2.2.1 u.2.2.2)) (fun u : (Nat → Int32) × (Nat → Int32) × (Nat → Int32) × (Nat → Int32) => (wfl [cM qa cI Mst Mhi Mhn Msl Msv Mpd Mln Mat Mit u.1 u.2.1 u.2.2.1 u.2.2.2 Msa Msm Mso])) 0 0 0 0 (wfl [cM qa cI Mst Mhi Mhn Msl Msv Mpd Mln Mat Mit Mvf Mdn Mlf Mar Msa Msm Mso]) [(0, .ref (qa 0)), (1, .int v1), (2, .int v2)] 9 [] := by
  intro n9
  induction n9 with
  | zero => intro v1 v2 h; exact (show False from h).elim
  | succ n9 ih9 =>
    intro v1 v2 h
    have h : wp_X6_fullest_9F P Mst Mvf Mdn Mlf Mar (wp_X6_fullest_9 P Mst Mvf Mdn Mlf Mar n9) v1 v2 := h
    unfold wp_X6_fullest_9F at h
    refine gw_iload_n (pc' := 10) κ dX6_fullest_9 rfl 2 rfl rfl ?_
    refine gw_bipush (pc' := 12) (v := 8) κ dX6_fullest_10 rfl (by decide) ?_
    refine gw_icmp_ge (pc' := 15) (tgt := 64) κ dX6_fullest_12 rfl (by decide) (fun hc_5 => ?_) (fun hc_5 => ?_)
    · have h := h.1 hc_5
      refine gw_iload_n (pc' := 65) κ dX6_fullest_64 rfl 1 rfl rfl ?_
      exact gw_iret κ dX6_fullest_65 (Mvf, Mdn, Mlf, Mar) rfl ⟨_, rfl, h⟩
    · have h := h.2 hc_5
      refine gw_aload_n (pc' := 16) κ dX6_fullest_15 rfl 0 rfl rfl ?_
      refine gw_iload_n (pc' := 17) κ dX6_fullest_16 rfl 2 rfl rfl ?_
      refine gb_callV (ci := 6) (qb := 0) (rest := []) κ (c_X6_peopleIn qa Mst Mhi Mhn Msl Msv Mpd Mln Mat Mit Mvf Mdn Mlf Mar Msa Msm Mso v2 h) ⟨rfl, rfl, Nat.le_of_ble_eq_true rfl, Nat.le_of_ble_eq_true rfl⟩ tw_ml_X6_138 tw_im_X6_peopleIn tw_se_X6_peopleIn tw_co_X6_peopleIn tw_in_X6 hy_X6_peopleIn rfl rfl rfl rfl rfl (Nat.le_of_ble_eq_true rfl) rfl dX6_fullest_17 [0] rfl (by decide) (fun _ => Nat.le_of_ble_eq_true rfl) ⟨Nat.le_of_ble_eq_true rfl, Nat.le_of_ble_eq_true rfl⟩ (fun v u hv => ?_)
      obtain ⟨r_6, rfl, h⟩ := hv
      refine gw_nf (ws' := (wfl [cM qa cI Mst Mhi Mhn Msl Msv Mpd Mln Mat Mit Mvf Mdn Mlf Mar Msa Msm Mso])) (lv' := [(0, .ref (qa 0)), (1, .int v1), (2, .int v2)]) (st' := [.int r_6]) (pc' := 20) (ce' := 0) (sl' := 0) rfl rfl rfl rfl rfl rfl ?_
      refine gw_if_le (pc' := 23) (tgt := 46) κ dX6_fullest_20 rfl (by decide) (fun hc_7 => ?_) (fun hc_7 => ?_)
      · have h := h.1 hc_7
        refine gw_iconst (pc' := 47) (v := 0) κ dX6_fullest_46 rfl (by decide) ?_
        refine gw_lv (lv' := [(0, .ref (qa 0)), (1, .int v1), (2, .int v2)]) [0, 1, 2] rfl ?_
        exact k_X6_fullest_47 κ qa P Mst Mhi Mhn Msl Msv Mpd Mln Mat Mit Msa Msm Mso (wp_X6_fullest_9 P Mst Mvf Mdn Mlf Mar n9) v1 v2 (0 : Int32) Mvf Mdn Mlf Mar ih9 h
      · have h := h.2 hc_7
        refine gw_iload_n (pc' := 24) κ dX6_fullest_23 rfl 1 rfl rfl ?_
        refine gw_bipush (pc' := 26) (v := -106) κ dX6_fullest_24 rfl (by decide) ?_
        refine gw_icmp_eq (pc' := 29) (tgt := 42) κ dX6_fullest_26 rfl (by decide) (fun hc_8 => ?_) (fun hc_8 => ?_)
        · have h := h.1 hc_8
          refine gw_iconst (pc' := 43) (v := 1) κ dX6_fullest_42 rfl (by decide) ?_
          refine gw_goto (tgt := 47) κ dX6_fullest_43 (by decide) ?_
          refine gw_lv (lv' := [(0, .ref (qa 0)), (1, .int v1), (2, .int v2)]) [0, 1, 2] rfl ?_
          exact k_X6_fullest_47 κ qa P Mst Mhi Mhn Msl Msv Mpd Mln Mat Mit Msa Msm Mso (wp_X6_fullest_9 P Mst Mvf Mdn Mlf Mar n9) v1 v2 (1 : Int32) Mvf Mdn Mlf Mar ih9 h
        · have h := h.2 hc_8
          refine gw_aload_n (pc' := 30) κ dX6_fullest_29 rfl 0 rfl rfl ?_
          refine gw_iload_n (pc' := 31) κ dX6_fullest_30 rfl 2 rfl rfl ?_
          refine gb_callV (ci := 6) (qb := 0) (rest := []) κ (c_X6_peopleIn qa Mst Mhi Mhn Msl Msv Mpd Mln Mat Mit Mvf Mdn Mlf Mar Msa Msm Mso v2 h) ⟨rfl, rfl, Nat.le_of_ble_eq_true rfl, Nat.le_of_ble_eq_true rfl⟩ tw_ml_X6_138 tw_im_X6_peopleIn tw_se_X6_peopleIn tw_co_X6_peopleIn tw_in_X6 hy_X6_peopleIn rfl rfl rfl rfl rfl (Nat.le_of_ble_eq_true rfl) rfl dX6_fullest_31 [0] rfl (by decide) (fun _ => Nat.le_of_ble_eq_true rfl) ⟨Nat.le_of_ble_eq_true rfl, Nat.le_of_ble_eq_true rfl⟩ (fun v u hv => ?_)
          obtain ⟨r_9, rfl, h⟩ := hv
          refine gw_nf (ws' := (wfl [cM qa cI Mst Mhi Mhn Msl Msv Mpd Mln Mat Mit Mvf Mdn Mlf Mar Msa Msm Mso])) (lv' := [(0, .ref (qa 0)), (1, .int v1), (2, .int v2)]) (st' := [.int r_9]) (pc' := 34) (ce' := 0) (sl' := 0) rfl rfl rfl rfl rfl rfl ?_
          refine gw_aload_n (pc' := 35) κ dX6_fullest_34 rfl 0 rfl rfl ?_
          refine gw_iload_n (pc' := 36) κ dX6_fullest_35 rfl 1 rfl rfl ?_
          refine gb_callV (ci := 6) (qb := 0) (rest := [.int r_9]) κ (c_X6_peopleIn qa Mst Mhi Mhn Msl Msv Mpd Mln Mat Mit Mvf Mdn Mlf Mar Msa Msm Mso v1 h) ⟨rfl, rfl, Nat.le_of_ble_eq_true rfl, Nat.le_of_ble_eq_true rfl⟩ tw_ml_X6_138 tw_im_X6_peopleIn tw_se_X6_peopleIn tw_co_X6_peopleIn tw_in_X6 hy_X6_peopleIn rfl rfl rfl rfl rfl (Nat.le_of_ble_eq_true rfl) rfl dX6_fullest_36 [0] rfl (by decide) (fun _ => Nat.le_of_ble_eq_true rfl) ⟨Nat.le_of_ble_eq_true rfl, Nat.le_of_ble_eq_true rfl⟩ (fun v u hv => ?_)
          obtain ⟨r_10, rfl, h⟩ := hv
          refine gw_nf (ws' := (wfl [cM qa cI Mst Mhi Mhn Msl Msv Mpd Mln Mat Mit Mvf Mdn Mlf Mar Msa Msm Mso])) (lv' := [(0, .ref (qa 0)), (1, .int v1), (2, .int v2)]) (st' := [.int r_10, .int r_9]) (pc' := 39) (ce' := 0) (sl' := 0) rfl rfl rfl rfl rfl rfl ?_
          refine gw_icmp_le (pc' := 42) (tgt := 46) κ dX6_fullest_39 rfl (by decide) (fun hc_11 => ?_) (fun hc_11 => ?_)
          · have h := h.1 hc_11
            refine gw_iconst (pc' := 47) (v := 0) κ dX6_fullest_46 rfl (by decide) ?_
            refine gw_lv (lv' := [(0, .ref (qa 0)), (1, .int v1), (2, .int v2)]) [0, 1, 2] rfl ?_
            exact k_X6_fullest_47 κ qa P Mst Mhi Mhn Msl Msv Mpd Mln Mat Mit Msa Msm Mso (wp_X6_fullest_9 P Mst Mvf Mdn Mlf Mar n9) v1 v2 (0 : Int32) Mvf Mdn Mlf Mar ih9 h
          · have h := h.2 hc_11
            refine gw_iconst (pc' := 43) (v := 1) κ dX6_fullest_42 rfl (by decide) ?_
            refine gw_goto (tgt := 47) κ dX6_fullest_43 (by decide) ?_
            refine gw_lv (lv' := [(0, .ref (qa 0)), (1, .int v1), (2, .int v2)]) [0, 1, 2] rfl ?_
            exact k_X6_fullest_47 κ qa P Mst Mhi Mhn Msl Msv Mpd Mln Mat Mit Msa Msm Mso (wp_X6_fullest_9 P Mst Mvf Mdn Mlf Mar n9) v1 v2 (1 : Int32) Mvf Mdn Mlf Mar ih9 h
set_option maxHeartbeats 4000000 in
set_option maxRecDepth 100000 in
theorem c_X6_fullest {l : Launch} {D : va_G} {cI cR : ClassId}  (qa : Nat → Nat) {P : Int32 → (Nat → Int32) → (Nat → Int32) → (Nat → Int32) → (Nat → Int32) → Prop} (Mst : Nat → Int32) (Mhi : Nat → Int32) (Mhn : Int32) (Msl : Nat → Int32) (Msv : Nat → Int32) (Mpd : Nat → Int32) (Mln : Int32) (Mat : Int32) (Mit : Nat → Int32) (Mvf : Nat → Int32) (Mdn : Nat → Int32) (Mlf : Nat → Int32) (Mar : Nat → Int32) (Msa : Nat → Int32) (Msm : Nat → Int32) (Mso : Int32) (h : wp_X6_fullest P Mst Mvf Mdn Mlf Mar) : CT l D cI cR yX6_fullest cX6_fullest 4 (some .int) ({ frames := 5, cells := 0, slots := 0, locals := 113 } : Room) [.ref (qa 0)] (wfl [cM qa cI Mst Mhi Mhn Msl Msv Mpd Mln Mat Mit Mvf Mdn Mlf Mar Msa Msm Mso]) (fun u : (Nat → Int32) × (Nat → Int32) × (Nat → Int32) × (Nat → Int32) => (wfl [cM qa cI Mst Mhi Mhn Msl Msv Mpd Mln Mat Mit u.1 u.2.1 u.2.2.1 u.2.2.2 Msa Msm Mso])) (pI (fun (r : Int32) (u : (Nat → Int32) × (Nat → Int32) × (Nat → Int32) × (Nat → Int32)) => P r u.1 u.2.1 u.2.2.1 u.2.2.2)) 0 0 := by
  refine ct_of RX6 rfl (by decide +kernel) (Nat.le_of_ble_eq_true rfl) (fun zp ze zs zm zb zt zc A hin κ => ?_)
  unfold wp_X6_fullest at h
  refine gw_nf (lv' := [(0, .ref (qa 0))]) (pc' := 0) (st' := []) (ce' := 0) (sl' := 0) rfl rfl rfl rfl rfl rfl ?_
  refine gw_aload_n (pc' := 1) κ dX6_fullest_0 rfl 0 rfl rfl ?_
  refine gb_callV (ci := 6) (qb := 0) (rest := []) κ (c_X6_lay qa Mst Mhi Mhn Msl Msv Mpd Mln Mat Mit Mvf Mdn Mlf Mar Msa Msm Mso h) ⟨rfl, rfl, Nat.le_of_ble_eq_true rfl, Nat.le_of_ble_eq_true rfl⟩ tw_ml_X6_113 tw_im_X6_lay tw_se_X6_lay tw_co_X6_lay tw_in_X6 hy_X6_lay rfl rfl rfl rfl rfl (Nat.le_of_ble_eq_true rfl) rfl dX6_fullest_1 [0] rfl (by decide) (fun _ => Nat.le_of_ble_eq_true rfl) ⟨Nat.le_of_ble_eq_true rfl, Nat.le_of_ble_eq_true rfl⟩ (fun v u hv => ?_)
  obtain ⟨rfl, h⟩ := hv
  obtain ⟨Mvf_1, Mdn_2, Mlf_3, Mar_4⟩ := u
  refine gw_nf (ws' := (wfl [cM qa cI Mst Mhi Mhn Msl Msv Mpd Mln Mat Mit Mvf_1 Mdn_2 Mlf_3 Mar_4 Msa Msm Mso])) (lv' := [(0, .ref (qa 0))]) (st' := []) (pc' := 4) (ce' := 0) (sl' := 0) rfl rfl rfl rfl rfl rfl ?_
  refine gw_bipush (pc' := 6) (v := -106) κ dX6_fullest_4 rfl (by decide) ?_
  refine gw_istore_n (pc' := 7) κ dX6_fullest_6 rfl rfl (by decide) (lv' := [(1, .int (-106 : Int32)), (0, .ref (qa 0))]) rfl ?_
  refine gw_iconst (pc' := 8) (v := 0) κ dX6_fullest_7 rfl (by decide) ?_
  refine gw_istore_n (pc' := 9) κ dX6_fullest_8 rfl rfl (by decide) (lv' := [(2, .int (0 : Int32)), (1, .int (-106 : Int32)), (0, .ref (qa 0))]) rfl ?_
  obtain ⟨m9, h⟩ := h
  refine gw_lv (lv' := [(0, .ref (qa 0)), (1, .int (-106 : Int32)), (2, .int (0 : Int32))]) [2, 1, 0] rfl ?_
  exact k_X6_fullest_9 κ qa P Mst Mhi Mhn Msl Msv Mpd Mln Mat Mit Msa Msm Mso Mvf_1 Mdn_2 Mlf_3 Mar_4 m9 (-106 : Int32) (0 : Int32) h
theorem hy_X6_codeAt : g_hy yX6_codeAt 2 := by decide +kernel
set_option maxHeartbeats 4000000 in
set_option maxRecDepth 100000 in
theorem c_X6_codeAt {l : Launch} {D : va_G} {cI cR : ClassId}  {P : Int32 → Prop} (x0 : Int64) (x2 : Int32) (h : wp_X6_codeAt P x0 x2) : CT l D cI cR yX6_codeAt cX6_codeAt 3 (some .int) ({ frames := 0, cells := 0, slots := 0, locals := 0 } : Room) [.long x0, .int x2] (wfl ([] : List va_W)) (fun _ : Unit => (wfl ([] : List va_W))) (pI (fun (r : Int32) (_ : Unit) => P r)) 0 0 := by
  refine ct_of RX6 rfl (by decide +kernel) (Nat.le_of_ble_eq_true rfl) (fun zp ze zs zm zb zt zc A hin κ => ?_)
  unfold wp_X6_codeAt at h
  refine gw_nf (lv' := [(0, .long x0), (2, .int x2)]) (pc' := 0) (st' := []) (ce' := 0) (sl' := 0) rfl rfl rfl rfl rfl rfl ?_
  refine gw_lload_n (pc' := 1) κ dX6_codeAt_0 rfl 0 rfl rfl ?_
  refine gw_bipush (pc' := 3) (v := 8) κ dX6_codeAt_1 rfl (by decide) ?_
  refine gw_iload_n (pc' := 4) κ dX6_codeAt_3 rfl 1 rfl rfl ?_
  refine gw_imul (pc' := 5) κ dX6_codeAt_4 rfl  ?_
  refine gw_lushr (pc' := 6) κ dX6_codeAt_5 rfl  ?_
  refine gw_ldc2 (pc' := 9) κ dX6_codeAt_6 rfl tw_cL_X6_178 ?_
  refine gw_land (pc' := 10) κ dX6_codeAt_9 rfl  ?_
  refine gw_l2i (pc' := 11) κ dX6_codeAt_10 rfl  ?_
  exact gw_iret κ dX6_codeAt_11 () rfl ⟨_, rfl, h⟩
theorem hy_X6_charactersIn : g_hy yX6_charactersIn 1 := by decide +kernel
set_option maxHeartbeats 4000000 in
set_option maxRecDepth 100000 in
theorem k_X6_charactersIn_48 {zp : Program} {l : Launch} {ze : Env} {zs : State} {zm : MethodId} {za : Array Value} {zb : List Frame} {zt : Method} {zc : Code} {D : va_G} {cI cR : ClassId} {A : Nat → Prop} (κ : KC zp zs zm za zt zc cX6_charactersIn 5 RX6 D cI cR A (some .int)) (P : Int32 → Prop) (x0 : Int64) (v2 : Int32) : ∀ (n : Nat) (v3 : Int32) (v4 : Int32), wp_X6_charactersIn_48 P x0 v2 n v3 v4 → GM zp l ze ({ frames := 1, cells := 0, slots := 0, locals := 22 } : Room) zs zm za zb zt zc D A 5 (pI (fun (r : Int32) (_ : Unit) => P r)) (fun _ : Unit => (wfl ([] : List va_W))) 0 0 0 0 (wfl ([] : List va_W)) [(0, .long x0), (2, .int v2), (3, .int v3), (4, .int v4)] 48 [] := by
  intro n48
  induction n48 with
  | zero => intro v3 v4 h; exact (show False from h).elim
  | succ n48 ih48 =>
    intro v3 v4 h
    have h : wp_X6_charactersIn_48F P x0 v2 (wp_X6_charactersIn_48 P x0 v2 n48) v3 v4 := h
    unfold wp_X6_charactersIn_48F at h
    refine gw_iload (pc' := 50) κ dX6_charactersIn_48 rfl 3 rfl ?_
    refine gw_iload_n (pc' := 51) κ dX6_charactersIn_50 rfl 1 rfl rfl ?_
    refine gw_icmp_ge (pc' := 54) (tgt := 86) κ dX6_charactersIn_51 rfl (by decide) (fun hc_6 => ?_) (fun hc_6 => ?_)
    · have h := h.1 hc_6
      refine gw_iload_n (pc' := 87) κ dX6_charactersIn_86 rfl 2 rfl rfl ?_
      refine gw_if_eq (pc' := 90) (tgt := 94) κ dX6_charactersIn_87 rfl (by decide) (fun hc_7 => ?_) (fun hc_7 => ?_)
      · have h := h.1 hc_7
        refine gw_iconst (pc' := 95) (v := 0) κ dX6_charactersIn_94 rfl (by decide) ?_
        exact gw_iret κ dX6_charactersIn_95 () rfl ⟨_, rfl, h⟩
      · have h := h.2 hc_7
        refine gw_iload_n (pc' := 91) κ dX6_charactersIn_90 rfl 1 rfl rfl ?_
        refine gw_goto (tgt := 95) κ dX6_charactersIn_91 (by decide) ?_
        exact gw_iret κ dX6_charactersIn_95 () rfl ⟨_, rfl, h⟩
    · have h := h.2 hc_6
      refine gw_iload_n (pc' := 55) κ dX6_charactersIn_54 rfl 2 rfl rfl ?_
      refine gw_if_eq (pc' := 58) (tgt := 78) κ dX6_charactersIn_55 rfl (by decide) (fun hc_8 => ?_) (fun hc_8 => ?_)
      · have h := h.1 hc_8
        refine gw_iconst (pc' := 79) (v := 0) κ dX6_charactersIn_78 rfl (by decide) ?_
        refine gw_istore_n (pc' := 80) κ dX6_charactersIn_79 rfl rfl (by decide) (lv' := [(3, .int (0 : Int32)), (0, .long x0), (2, .int v2), (4, .int v4)]) rfl ?_
        refine gw_iinc (pc' := 83) κ dX6_charactersIn_80 rfl 3 rfl (v := (v4 + 1)) rfl (by decide) (lv' := [(4, .int (v4 + 1)), (3, .int (0 : Int32)), (0, .long x0), (2, .int v2)]) rfl ?_
        refine gw_goto (tgt := 48) κ dX6_charactersIn_83 (by decide) ?_
        refine gw_lv (lv' := [(0, .long x0), (2, .int v2), (3, .int (0 : Int32)), (4, .int (v4 + 1))]) [2, 3, 1, 0] rfl ?_
        exact ih48 (0 : Int32) (v4 + 1) h
      · have h := h.2 hc_8
        refine gw_lload_n (pc' := 59) κ dX6_charactersIn_58 rfl 0 rfl rfl ?_
        refine gw_iload (pc' := 61) κ dX6_charactersIn_59 rfl 3 rfl ?_
        refine gb_callS (rest := []) κ (c_X6_codeAt  x0 v4 h) ⟨rfl, rfl, Nat.le_of_ble_eq_true rfl, Nat.le_of_ble_eq_true rfl⟩ tw_ml_X6_180 tw_st_X6_codeAt tw_co_X6_codeAt tw_in_X6 hy_X6_codeAt rfl (Nat.le_of_ble_eq_true rfl) rfl dX6_charactersIn_61 [] rfl (by decide) (fun _ => Nat.le_of_ble_eq_true rfl) ⟨Nat.le_of_ble_eq_true rfl, Nat.le_of_ble_eq_true rfl⟩ (fun v u hv => ?_)
        obtain ⟨r_9, rfl, h⟩ := hv
        refine gw_nf (ws' := (wfl ([] : List va_W))) (lv' := [(0, .long x0), (2, .int v2), (3, .int v3), (4, .int v4)]) (st' := [.int r_9]) (pc' := 64) (ce' := 0) (sl' := 0) rfl rfl rfl rfl rfl rfl ?_
        refine gw_bipush (pc' := 66) (v := 33) κ dX6_charactersIn_64 rfl (by decide) ?_
        refine gw_bipush (pc' := 68) (v := 126) κ dX6_charactersIn_66 rfl (by decide) ?_
        refine gb_callS (rest := []) κ (c_X6_within  r_9 (33 : Int32) (126 : Int32) h) ⟨rfl, rfl, Nat.le_of_ble_eq_true rfl, Nat.le_of_ble_eq_true rfl⟩ tw_ml_X6_46 tw_st_X6_within tw_co_X6_within tw_in_X6 hy_X6_within rfl (Nat.le_of_ble_eq_true rfl) rfl dX6_charactersIn_68 [] rfl (by decide) (fun _ => Nat.le_of_ble_eq_true rfl) ⟨Nat.le_of_ble_eq_true rfl, Nat.le_of_ble_eq_true rfl⟩ (fun v u hv => ?_)
        obtain ⟨r_10, rfl, h⟩ := hv
        refine gw_nf (ws' := (wfl ([] : List va_W))) (lv' := [(0, .long x0), (2, .int v2), (3, .int v3), (4, .int v4)]) (st' := [.int r_10]) (pc' := 71) (ce' := 0) (sl' := 0) rfl rfl rfl rfl rfl rfl ?_
        refine gw_if_eq (pc' := 74) (tgt := 78) κ dX6_charactersIn_71 rfl (by decide) (fun hc_11 => ?_) (fun hc_11 => ?_)
        · have h := h.1 hc_11
          refine gw_iconst (pc' := 79) (v := 0) κ dX6_charactersIn_78 rfl (by decide) ?_
          refine gw_istore_n (pc' := 80) κ dX6_charactersIn_79 rfl rfl (by decide) (lv' := [(3, .int (0 : Int32)), (0, .long x0), (2, .int v2), (4, .int v4)]) rfl ?_
          refine gw_iinc (pc' := 83) κ dX6_charactersIn_80 rfl 3 rfl (v := (v4 + 1)) rfl (by decide) (lv' := [(4, .int (v4 + 1)), (3, .int (0 : Int32)), (0, .long x0), (2, .int v2)]) rfl ?_
          refine gw_goto (tgt := 48) κ dX6_charactersIn_83 (by decide) ?_
          refine gw_lv (lv' := [(0, .long x0), (2, .int v2), (3, .int (0 : Int32)), (4, .int (v4 + 1))]) [2, 3, 1, 0] rfl ?_
          exact ih48 (0 : Int32) (v4 + 1) h
        · have h := h.2 hc_11
          refine gw_iconst (pc' := 75) (v := 1) κ dX6_charactersIn_74 rfl (by decide) ?_
          refine gw_goto (tgt := 79) κ dX6_charactersIn_75 (by decide) ?_
          refine gw_istore_n (pc' := 80) κ dX6_charactersIn_79 rfl rfl (by decide) (lv' := [(3, .int (1 : Int32)), (0, .long x0), (2, .int v2), (4, .int v4)]) rfl ?_
          refine gw_iinc (pc' := 83) κ dX6_charactersIn_80 rfl 3 rfl (v := (v4 + 1)) rfl (by decide) (lv' := [(4, .int (v4 + 1)), (3, .int (1 : Int32)), (0, .long x0), (2, .int v2)]) rfl ?_
          refine gw_goto (tgt := 48) κ dX6_charactersIn_83 (by decide) ?_
          refine gw_lv (lv' := [(0, .long x0), (2, .int v2), (3, .int (1 : Int32)), (4, .int (v4 + 1))]) [2, 3, 1, 0] rfl ?_
          exact ih48 (1 : Int32) (v4 + 1) h
set_option maxHeartbeats 4000000 in
set_option maxRecDepth 100000 in
theorem k_X6_charactersIn_22 {zp : Program} {l : Launch} {ze : Env} {zs : State} {zm : MethodId} {za : Array Value} {zb : List Frame} {zt : Method} {zc : Code} {D : va_G} {cI cR : ClassId} {A : Nat → Prop} (κ : KC zp zs zm za zt zc cX6_charactersIn 5 RX6 D cI cR A (some .int)) (P : Int32 → Prop) (x0 : Int64) (v2 : Int32) (h : wp_X6_charactersIn_22 P x0 v2) : GM zp l ze ({ frames := 1, cells := 0, slots := 0, locals := 22 } : Room) zs zm za zb zt zc D A 5 (pI (fun (r : Int32) (_ : Unit) => P r)) (fun _ : Unit => (wfl ([] : List va_W))) 0 0 0 0 (wfl ([] : List va_W)) [(0, .long x0), (2, .int v2)] 22 [] := by
  unfold wp_X6_charactersIn_22 at h
  refine gw_iload_n (pc' := 23) κ dX6_charactersIn_22 rfl 1 rfl rfl ?_
  refine gw_bipush (pc' := 25) (v := 8) κ dX6_charactersIn_23 rfl (by decide) ?_
  refine gw_icmp_eq (pc' := 28) (tgt := 39) κ dX6_charactersIn_25 rfl (by decide) (fun hc_4 => ?_) (fun hc_4 => ?_)
  · have h := h.1 hc_4
    refine gw_iconst (pc' := 40) (v := 1) κ dX6_charactersIn_39 rfl (by decide) ?_
    refine gw_goto (tgt := 44) κ dX6_charactersIn_40 (by decide) ?_
    refine gw_istore_n (pc' := 45) κ dX6_charactersIn_44 rfl rfl (by decide) (lv' := [(3, .int (1 : Int32)), (0, .long x0), (2, .int v2)]) rfl ?_
    refine gw_iconst (pc' := 46) (v := 0) κ dX6_charactersIn_45 rfl (by decide) ?_
    refine gw_istore (pc' := 48) κ dX6_charactersIn_46 rfl (by decide) (lv' := [(4, .int (0 : Int32)), (3, .int (1 : Int32)), (0, .long x0), (2, .int v2)]) rfl ?_
    obtain ⟨m48, h⟩ := h
    refine gw_lv (lv' := [(0, .long x0), (2, .int v2), (3, .int (1 : Int32)), (4, .int (0 : Int32))]) [2, 3, 1, 0] rfl ?_
    exact k_X6_charactersIn_48 κ P x0 v2 m48 (1 : Int32) (0 : Int32) h
  · have h := h.2 hc_4
    refine gw_lload_n (pc' := 29) κ dX6_charactersIn_28 rfl 0 rfl rfl ?_
    refine gw_bipush (pc' := 31) (v := 8) κ dX6_charactersIn_29 rfl (by decide) ?_
    refine gw_iload_n (pc' := 32) κ dX6_charactersIn_31 rfl 1 rfl rfl ?_
    refine gw_imul (pc' := 33) κ dX6_charactersIn_32 rfl  ?_
    refine gw_lushr (pc' := 34) κ dX6_charactersIn_33 rfl  ?_
    refine gw_lconst (pc' := 35) (v := 0) κ dX6_charactersIn_34 rfl (by decide) ?_
    refine gw_lcmp (pc' := 36) κ dX6_charactersIn_35 rfl  ?_
    refine gw_if_ne (pc' := 39) (tgt := 43) κ dX6_charactersIn_36 rfl (by decide) (fun hc_5 => ?_) (fun hc_5 => ?_)
    · have h := h.1 hc_5
      refine gw_iconst (pc' := 44) (v := 0) κ dX6_charactersIn_43 rfl (by decide) ?_
      refine gw_istore_n (pc' := 45) κ dX6_charactersIn_44 rfl rfl (by decide) (lv' := [(3, .int (0 : Int32)), (0, .long x0), (2, .int v2)]) rfl ?_
      refine gw_iconst (pc' := 46) (v := 0) κ dX6_charactersIn_45 rfl (by decide) ?_
      refine gw_istore (pc' := 48) κ dX6_charactersIn_46 rfl (by decide) (lv' := [(4, .int (0 : Int32)), (3, .int (0 : Int32)), (0, .long x0), (2, .int v2)]) rfl ?_
      obtain ⟨m48, h⟩ := h
      refine gw_lv (lv' := [(0, .long x0), (2, .int v2), (3, .int (0 : Int32)), (4, .int (0 : Int32))]) [2, 3, 1, 0] rfl ?_
      exact k_X6_charactersIn_48 κ P x0 v2 m48 (0 : Int32) (0 : Int32) h
    · have h := h.2 hc_5
      refine gw_iconst (pc' := 40) (v := 1) κ dX6_charactersIn_39 rfl (by decide) ?_
      refine gw_goto (tgt := 44) κ dX6_charactersIn_40 (by decide) ?_
      refine gw_istore_n (pc' := 45) κ dX6_charactersIn_44 rfl rfl (by decide) (lv' := [(3, .int (1 : Int32)), (0, .long x0), (2, .int v2)]) rfl ?_
      refine gw_iconst (pc' := 46) (v := 0) κ dX6_charactersIn_45 rfl (by decide) ?_
      refine gw_istore (pc' := 48) κ dX6_charactersIn_46 rfl (by decide) (lv' := [(4, .int (0 : Int32)), (3, .int (1 : Int32)), (0, .long x0), (2, .int v2)]) rfl ?_
      obtain ⟨m48, h⟩ := h
      refine gw_lv (lv' := [(0, .long x0), (2, .int v2), (3, .int (1 : Int32)), (4, .int (0 : Int32))]) [2, 3, 1, 0] rfl ?_
      exact k_X6_charactersIn_48 κ P x0 v2 m48 (1 : Int32) (0 : Int32) h
set_option maxHeartbeats 4000000 in
set_option maxRecDepth 100000 in
theorem k_X6_charactersIn_2 {zp : Program} {l : Launch} {ze : Env} {zs : State} {zm : MethodId} {za : Array Value} {zb : List Frame} {zt : Method} {zc : Code} {D : va_G} {cI cR : ClassId} {A : Nat → Prop} (κ : KC zp zs zm za zt zc cX6_charactersIn 5 RX6 D cI cR A (some .int)) (P : Int32 → Prop) (x0 : Int64) : ∀ (n : Nat) (v2 : Int32), wp_X6_charactersIn_2 P x0 n v2 → GM zp l ze ({ frames := 1, cells := 0, slots := 0, locals := 22 } : Room) zs zm za zb zt zc D A 5 (pI (fun (r : Int32) (_ : Unit) => P r)) (fun _ : Unit => (wfl ([] : List va_W))) 0 0 0 0 (wfl ([] : List va_W)) [(0, .long x0), (2, .int v2)] 2 [] := by
  intro n2
  induction n2 with
  | zero => intro v2 h; exact (show False from h).elim
  | succ n2 ih2 =>
    intro v2 h
    have h : wp_X6_charactersIn_2F P x0 (wp_X6_charactersIn_2 P x0 n2) v2 := h
    unfold wp_X6_charactersIn_2F at h
    refine gw_iload_n (pc' := 3) κ dX6_charactersIn_2 rfl 1 rfl rfl ?_
    refine gw_bipush (pc' := 5) (v := 8) κ dX6_charactersIn_3 rfl (by decide) ?_
    refine gw_icmp_ge (pc' := 8) (tgt := 22) κ dX6_charactersIn_5 rfl (by decide) (fun hc_1 => ?_) (fun hc_1 => ?_)
    · have h := h.1 hc_1
      refine gw_lv (lv' := [(0, .long x0), (2, .int v2)]) [0, 1] rfl ?_
      exact k_X6_charactersIn_22 κ P x0 v2 h
    · have h := h.2 hc_1
      refine gw_lload_n (pc' := 9) κ dX6_charactersIn_8 rfl 0 rfl rfl ?_
      refine gw_iload_n (pc' := 10) κ dX6_charactersIn_9 rfl 1 rfl rfl ?_
      refine gb_callS (rest := []) κ (c_X6_codeAt  x0 v2 h) ⟨rfl, rfl, Nat.le_of_ble_eq_true rfl, Nat.le_of_ble_eq_true rfl⟩ tw_ml_X6_180 tw_st_X6_codeAt tw_co_X6_codeAt tw_in_X6 hy_X6_codeAt rfl (Nat.le_of_ble_eq_true rfl) rfl dX6_charactersIn_10 [] rfl (by decide) (fun _ => Nat.le_of_ble_eq_true rfl) ⟨Nat.le_of_ble_eq_true rfl, Nat.le_of_ble_eq_true rfl⟩ (fun v u hv => ?_)
      obtain ⟨r_2, rfl, h⟩ := hv
      refine gw_nf (ws' := (wfl ([] : List va_W))) (lv' := [(0, .long x0), (2, .int v2)]) (st' := [.int r_2]) (pc' := 13) (ce' := 0) (sl' := 0) rfl rfl rfl rfl rfl rfl ?_
      refine gw_if_eq (pc' := 16) (tgt := 22) κ dX6_charactersIn_13 rfl (by decide) (fun hc_3 => ?_) (fun hc_3 => ?_)
      · have h := h.1 hc_3
        refine gw_lv (lv' := [(0, .long x0), (2, .int v2)]) [0, 1] rfl ?_
        exact k_X6_charactersIn_22 κ P x0 v2 h
      · have h := h.2 hc_3
        refine gw_iinc (pc' := 19) κ dX6_charactersIn_16 rfl 1 rfl (v := (v2 + 1)) rfl (by decide) (lv' := [(2, .int (v2 + 1)), (0, .long x0)]) rfl ?_
        refine gw_goto (tgt := 2) κ dX6_charactersIn_19 (by decide) ?_
        refine gw_lv (lv' := [(0, .long x0), (2, .int (v2 + 1))]) [1, 0] rfl ?_
        exact ih2 (v2 + 1) h
set_option maxHeartbeats 4000000 in
set_option maxRecDepth 100000 in
theorem c_X6_charactersIn {l : Launch} {D : va_G} {cI cR : ClassId}  {P : Int32 → Prop} (x0 : Int64) (h : wp_X6_charactersIn P x0) : CT l D cI cR yX6_charactersIn cX6_charactersIn 5 (some .int) ({ frames := 1, cells := 0, slots := 0, locals := 22 } : Room) [.long x0] (wfl ([] : List va_W)) (fun _ : Unit => (wfl ([] : List va_W))) (pI (fun (r : Int32) (_ : Unit) => P r)) 0 0 := by
  refine ct_of RX6 rfl (by decide +kernel) (Nat.le_of_ble_eq_true rfl) (fun zp ze zs zm zb zt zc A hin κ => ?_)
  unfold wp_X6_charactersIn at h
  refine gw_nf (lv' := [(0, .long x0)]) (pc' := 0) (st' := []) (ce' := 0) (sl' := 0) rfl rfl rfl rfl rfl rfl ?_
  refine gw_iconst (pc' := 1) (v := 0) κ dX6_charactersIn_0 rfl (by decide) ?_
  refine gw_istore_n (pc' := 2) κ dX6_charactersIn_1 rfl rfl (by decide) (lv' := [(2, .int (0 : Int32)), (0, .long x0)]) rfl ?_
  obtain ⟨m2, h⟩ := h
  refine gw_lv (lv' := [(0, .long x0), (2, .int (0 : Int32))]) [1, 0] rfl ?_
  exact k_X6_charactersIn_2 κ P x0 m2 (0 : Int32) h
theorem hy_X6_put : g_hy yX6_put 1 := by decide +kernel
set_option maxHeartbeats 4000000 in
set_option maxRecDepth 100000 in
theorem k_X6_put_31 {zp : Program} {l : Launch} {ze : Env} {zs : State} {zm : MethodId} {za : Array Value} {zb : List Frame} {zt : Method} {zc : Code} {D : va_G} {cI cR : ClassId} {A : Nat → Prop} (κ : KC zp zs zm za zt zc cX6_put 5 RX6 D cI cR A (some .int)) (qa : Nat → Nat) (P : Int32 → (Nat → Int32) → Int32 → Prop) (Mst : Nat → Int32) (Mhi : Nat → Int32) (Mhn : Int32) (Msl : Nat → Int32) (Msv : Nat → Int32) (Mat : Int32) (Mit : Nat → Int32) (Mvf : Nat → Int32) (Mdn : Nat → Int32) (Mlf : Nat → Int32) (Mar : Nat → Int32) (Msa : Nat → Int32) (Msm : Nat → Int32) (Mso : Int32) (x1 : Int64) : ∀ (n : Nat) (v4 : Int32) (Mpd : Nat → Int32) (Mln : Int32), wp_X6_put_31 P x1 n v4 Mpd Mln → GM zp l ze ({ frames := 2, cells := 0, slots := 0, locals := 46 } : Room) zs zm za zb zt zc D A 5 (pI (fun (r : Int32) (u : (Nat → Int32) × Int32) => P r u.1 u.2)) (fun u : (Nat → Int32) × Int32 => (wfl [cM qa cI Mst Mhi Mhn Msl Msv u.1 u.2 Mat Mit Mvf Mdn Mlf Mar Msa Msm Mso])) 0 0 0 0 (wfl [cM qa cI Mst Mhi Mhn Msl Msv Mpd Mln Mat Mit Mvf Mdn Mlf Mar Msa Msm Mso]) [(0, .ref (qa 0)), (1, .long x1), (4, .int v4)] 31 [] := by
  intro n31
  induction n31 with
  | zero => intro v4 Mpd Mln h; exact (show False from h).elim
  | succ n31 ih31 =>
    intro v4 Mpd Mln h
    have h : wp_X6_put_31F P x1 (wp_X6_put_31 P x1 n31) v4 Mpd Mln := h
    unfold wp_X6_put_31F at h
    refine gw_iload (pc' := 33) κ dX6_put_31 rfl 2 rfl ?_
    refine gw_if_lt (pc' := 36) (tgt := 67) κ dX6_put_33 rfl (by decide) (fun hc_4 => ?_) (fun hc_4 => ?_)
    · have h := h.1 hc_4
      refine gw_aload_n (pc' := 68) κ dX6_put_67 rfl 0 rfl rfl ?_
      refine gb_get (pc' := 71) (C := RX6) (T := TX6) (N := 16) κ dX6_put_68 rfl inX6 0 rfl rfl rfl 6 (by decide) tw_fl_X6_175 rfl ?_
      exact gw_iret κ dX6_put_71 (Mpd, Mln) rfl ⟨_, rfl, h⟩
    · have h := h.2 hc_4
      refine gw_aload_n (pc' := 37) κ dX6_put_36 rfl 0 rfl rfl ?_
      refine gb_get (pc' := 40) (C := RX6) (T := TX6) (N := 16) κ dX6_put_37 rfl inX6 0 rfl rfl rfl 5 (by decide) tw_fl_X6_22 rfl ?_
      refine gw_aload_n (pc' := 41) κ dX6_put_40 rfl 0 rfl rfl ?_
      refine gb_get (pc' := 44) (C := RX6) (T := TX6) (N := 16) κ dX6_put_41 rfl inX6 0 rfl rfl rfl 6 (by decide) tw_fl_X6_175 rfl ?_
      refine gw_lload_n (pc' := 45) κ dX6_put_44 rfl 1 rfl rfl ?_
      refine gw_iload (pc' := 47) κ dX6_put_45 rfl 2 rfl ?_
      refine gb_callS (rest := [.int Mln, .ref (qa 5)]) κ (c_X6_codeAt  x1 v4 h) ⟨rfl, rfl, Nat.le_of_ble_eq_true rfl, Nat.le_of_ble_eq_true rfl⟩ tw_ml_X6_180 tw_st_X6_codeAt tw_co_X6_codeAt tw_in_X6 hy_X6_codeAt rfl (Nat.le_of_ble_eq_true rfl) rfl dX6_put_47 [] rfl (by decide) (fun _ => Nat.le_of_ble_eq_true rfl) ⟨Nat.le_of_ble_eq_true rfl, Nat.le_of_ble_eq_true rfl⟩ (fun v u hv => ?_)
      obtain ⟨r_5, rfl, h⟩ := hv
      refine gw_nf (ws' := (wfl [cM qa cI Mst Mhi Mhn Msl Msv Mpd Mln Mat Mit Mvf Mdn Mlf Mar Msa Msm Mso])) (lv' := [(0, .ref (qa 0)), (1, .long x1), (4, .int v4)]) (st' := [.int r_5, .int Mln, .ref (qa 5)]) (pc' := 50) (ce' := 0) (sl' := 0) rfl rfl rfl rfl rfl rfl ?_
      obtain ⟨hb_6, h⟩ := h
      refine gb_iast (pc' := 51) (bs' := [cM qa cI Mst Mhi Mhn Msl Msv (upd Mpd Mln.toNatClampNeg r_5) Mln Mat Mit Mvf Mdn Mlf Mar Msa Msm Mso]) κ dX6_put_50 rfl 0 5 rfl rfl hb_6 rfl ?_
      refine gw_aload_n (pc' := 52) κ dX6_put_51 rfl 0 rfl rfl ?_
      refine gw_dup (pc' := 53) κ dX6_put_52 rfl rfl ?_
      refine gb_get (pc' := 56) (C := RX6) (T := TX6) (N := 16) κ dX6_put_53 rfl inX6 0 rfl rfl rfl 6 (by decide) tw_fl_X6_175 rfl ?_
      refine gw_iconst (pc' := 57) (v := 1) κ dX6_put_56 rfl (by decide) ?_
      refine gw_iadd (pc' := 58) κ dX6_put_57 rfl  ?_
      refine gb_put (pc' := 61) (C := RX6) (T := TX6) (N := 16) (ty := .int) (bs' := [cM qa cI Mst Mhi Mhn Msl Msv (upd Mpd Mln.toNatClampNeg r_5) (Mln + (1 : Int32)) Mat Mit Mvf Mdn Mlf Mar Msa Msm Mso]) κ dX6_put_58 rfl inX6 tyX6 tyX6_ok nmX6 0 rfl rfl rfl 6 (by decide) tw_fl_X6_175 rfl (by decide +kernel) rfl rfl (Nat.le_of_ble_eq_true rfl) rfl ?_
      refine gw_iinc (pc' := 64) κ dX6_put_61 rfl 2 rfl (v := (v4 + (-1))) rfl (by decide) (lv' := [(4, .int (v4 + (-1))), (0, .ref (qa 0)), (1, .long x1)]) rfl ?_
      refine gw_goto (tgt := 31) κ dX6_put_64 (by decide) ?_
      refine gw_lv (lv' := [(0, .ref (qa 0)), (1, .long x1), (4, .int (v4 + (-1)))]) [1, 2, 0] rfl ?_
      exact ih31 (v4 + (-1)) (upd Mpd Mln.toNatClampNeg r_5) (Mln + (1 : Int32)) h
set_option maxHeartbeats 4000000 in
set_option maxRecDepth 100000 in
theorem c_X6_put {l : Launch} {D : va_G} {cI cR : ClassId}  (qa : Nat → Nat) {P : Int32 → (Nat → Int32) → Int32 → Prop} (Mst : Nat → Int32) (Mhi : Nat → Int32) (Mhn : Int32) (Msl : Nat → Int32) (Msv : Nat → Int32) (Mpd : Nat → Int32) (Mln : Int32) (Mat : Int32) (Mit : Nat → Int32) (Mvf : Nat → Int32) (Mdn : Nat → Int32) (Mlf : Nat → Int32) (Mar : Nat → Int32) (Msa : Nat → Int32) (Msm : Nat → Int32) (Mso : Int32) (x1 : Int64) (h : wp_X6_put P Mpd Mln x1) : CT l D cI cR yX6_put cX6_put 5 (some .int) ({ frames := 2, cells := 0, slots := 0, locals := 46 } : Room) [.ref (qa 0), .long x1] (wfl [cM qa cI Mst Mhi Mhn Msl Msv Mpd Mln Mat Mit Mvf Mdn Mlf Mar Msa Msm Mso]) (fun u : (Nat → Int32) × Int32 => (wfl [cM qa cI Mst Mhi Mhn Msl Msv u.1 u.2 Mat Mit Mvf Mdn Mlf Mar Msa Msm Mso])) (pI (fun (r : Int32) (u : (Nat → Int32) × Int32) => P r u.1 u.2)) 0 0 := by
  refine ct_of RX6 rfl (by decide +kernel) (Nat.le_of_ble_eq_true rfl) (fun zp ze zs zm zb zt zc A hin κ => ?_)
  unfold wp_X6_put at h
  refine gw_nf (lv' := [(0, .ref (qa 0)), (1, .long x1)]) (pc' := 0) (st' := []) (ce' := 0) (sl' := 0) rfl rfl rfl rfl rfl rfl ?_
  refine gw_lload_n (pc' := 1) κ dX6_put_0 rfl 1 rfl rfl ?_
  refine gb_callS (rest := []) κ (c_X6_charactersIn  x1 h) ⟨rfl, rfl, Nat.le_of_ble_eq_true rfl, Nat.le_of_ble_eq_true rfl⟩ tw_ml_X6_184 tw_st_X6_charactersIn tw_co_X6_charactersIn tw_in_X6 hy_X6_charactersIn rfl (Nat.le_of_ble_eq_true rfl) rfl dX6_put_1 [] rfl (by decide) (fun _ => Nat.le_of_ble_eq_true rfl) ⟨Nat.le_of_ble_eq_true rfl, Nat.le_of_ble_eq_true rfl⟩ (fun v u hv => ?_)
  obtain ⟨r_1, rfl, h⟩ := hv
  refine gw_nf (ws' := (wfl [cM qa cI Mst Mhi Mhn Msl Msv Mpd Mln Mat Mit Mvf Mdn Mlf Mar Msa Msm Mso])) (lv' := [(0, .ref (qa 0)), (1, .long x1)]) (st' := [.int r_1]) (pc' := 4) (ce' := 0) (sl' := 0) rfl rfl rfl rfl rfl rfl ?_
  refine gw_istore_n (pc' := 5) κ dX6_put_4 rfl rfl (by decide) (lv' := [(3, .int r_1), (0, .ref (qa 0)), (1, .long x1)]) rfl ?_
  refine gw_iload_n (pc' := 6) κ dX6_put_5 rfl 0 rfl rfl ?_
  refine gw_if_ne (pc' := 9) (tgt := 12) κ dX6_put_6 rfl (by decide) (fun hc_2 => ?_) (fun hc_2 => ?_)
  · have h := h.1 hc_2
    refine gw_aload_n (pc' := 13) κ dX6_put_12 rfl 1 rfl rfl ?_
    refine gb_get (pc' := 16) (C := RX6) (T := TX6) (N := 16) κ dX6_put_13 rfl inX6 0 rfl rfl rfl 6 (by decide) tw_fl_X6_175 rfl ?_
    refine gw_iload_n (pc' := 17) κ dX6_put_16 rfl 0 rfl rfl ?_
    refine gw_iadd (pc' := 18) κ dX6_put_17 rfl  ?_
    refine gw_bipush (pc' := 20) (v := 60) κ dX6_put_18 rfl (by decide) ?_
    refine gw_icmp_le (pc' := 23) (tgt := 26) κ dX6_put_20 rfl (by decide) (fun hc_3 => ?_) (fun hc_3 => ?_)
    · have h := h.1 hc_3
      refine gw_iload_n (pc' := 27) κ dX6_put_26 rfl 0 rfl rfl ?_
      refine gw_iconst (pc' := 28) (v := 1) κ dX6_put_27 rfl (by decide) ?_
      refine gw_isub (pc' := 29) κ dX6_put_28 rfl  ?_
      refine gw_istore (pc' := 31) κ dX6_put_29 rfl (by decide) (lv' := [(4, .int (r_1 - (1 : Int32))), (3, .int r_1), (0, .ref (qa 0)), (1, .long x1)]) rfl ?_
      obtain ⟨m31, h⟩ := h
      refine gw_lv (lv' := [(0, .ref (qa 0)), (1, .long x1), (4, .int (r_1 - (1 : Int32)))]) [2, 3, 0] rfl ?_
      exact k_X6_put_31 κ qa P Mst Mhi Mhn Msl Msv Mat Mit Mvf Mdn Mlf Mar Msa Msm Mso x1 m31 (r_1 - (1 : Int32)) Mpd Mln h
    · have h := h.2 hc_3
      refine gw_bipush (pc' := 25) (v := -104) κ dX6_put_23 rfl (by decide) ?_
      exact gw_iret κ dX6_put_25 (Mpd, Mln) rfl ⟨_, rfl, h⟩
  · have h := h.2 hc_2
    refine gw_bipush (pc' := 11) (v := -102) κ dX6_put_9 rfl (by decide) ?_
    exact gw_iret κ dX6_put_11 (Mpd, Mln) rfl ⟨_, rfl, h⟩
theorem hy_X6_wipe : g_hy yX6_wipe 0 := by decide +kernel
set_option maxHeartbeats 4000000 in
set_option maxRecDepth 100000 in
theorem c_X6_wipe {l : Launch} {D : va_G} {cI cR : ClassId}  (qa : Nat → Nat) {P : Int32 → Int32 → Prop} (Mst : Nat → Int32) (Mhi : Nat → Int32) (Mhn : Int32) (Msl : Nat → Int32) (Msv : Nat → Int32) (Mpd : Nat → Int32) (Mln : Int32) (Mat : Int32) (Mit : Nat → Int32) (Mvf : Nat → Int32) (Mdn : Nat → Int32) (Mlf : Nat → Int32) (Mar : Nat → Int32) (Msa : Nat → Int32) (Msm : Nat → Int32) (Mso : Int32) (h : wp_X6_wipe P Mln) : CT l D cI cR yX6_wipe cX6_wipe 2 (some .int) ({ frames := 0, cells := 0, slots := 0, locals := 0 } : Room) [.ref (qa 0)] (wfl [cM qa cI Mst Mhi Mhn Msl Msv Mpd Mln Mat Mit Mvf Mdn Mlf Mar Msa Msm Mso]) (fun u : Int32 => (wfl [cM qa cI Mst Mhi Mhn Msl Msv Mpd u Mat Mit Mvf Mdn Mlf Mar Msa Msm Mso])) (pI (fun (r : Int32) (u : Int32) => P r u)) 0 0 := by
  refine ct_of RX6 rfl (by decide +kernel) (Nat.le_of_ble_eq_true rfl) (fun zp ze zs zm zb zt zc A hin κ => ?_)
  unfold wp_X6_wipe at h
  refine gw_nf (lv' := [(0, .ref (qa 0))]) (pc' := 0) (st' := []) (ce' := 0) (sl' := 0) rfl rfl rfl rfl rfl rfl ?_
  refine gw_aload_n (pc' := 1) κ dX6_wipe_0 rfl 0 rfl rfl ?_
  refine gb_get (pc' := 4) (C := RX6) (T := TX6) (N := 16) κ dX6_wipe_1 rfl inX6 0 rfl rfl rfl 6 (by decide) tw_fl_X6_175 rfl ?_
  refine gw_istore_n (pc' := 5) κ dX6_wipe_4 rfl rfl (by decide) (lv' := [(1, .int Mln), (0, .ref (qa 0))]) rfl ?_
  refine gw_aload_n (pc' := 6) κ dX6_wipe_5 rfl 1 rfl rfl ?_
  refine gw_iconst (pc' := 7) (v := 0) κ dX6_wipe_6 rfl (by decide) ?_
  refine gb_put (pc' := 10) (C := RX6) (T := TX6) (N := 16) (ty := .int) (bs' := [cM qa cI Mst Mhi Mhn Msl Msv Mpd (0 : Int32) Mat Mit Mvf Mdn Mlf Mar Msa Msm Mso]) κ dX6_wipe_7 rfl inX6 tyX6 tyX6_ok nmX6 0 rfl rfl rfl 6 (by decide) tw_fl_X6_175 rfl (by decide +kernel) rfl rfl (Nat.le_of_ble_eq_true rfl) rfl ?_
  refine gw_iload_n (pc' := 11) κ dX6_wipe_10 rfl 0 rfl rfl ?_
  exact gw_iret κ dX6_wipe_11 ((0 : Int32)) rfl ⟨_, rfl, h⟩
theorem hy_X6_next : g_hy yX6_next 0 := by decide +kernel
set_option maxHeartbeats 4000000 in
set_option maxRecDepth 100000 in
theorem c_X6_next {l : Launch} {D : va_G} {cI cR : ClassId}  (qa : Nat → Nat) {P : Int32 → Prop} (Mst : Nat → Int32) (Mhi : Nat → Int32) (Mhn : Int32) (Msl : Nat → Int32) (Msv : Nat → Int32) (Mpd : Nat → Int32) (Mln : Int32) (Mat : Int32) (Mit : Nat → Int32) (Mvf : Nat → Int32) (Mdn : Nat → Int32) (Mlf : Nat → Int32) (Mar : Nat → Int32) (Msa : Nat → Int32) (Msm : Nat → Int32) (Mso : Int32) (h : wp_X6_next P Mpd Mln Mat) : CT l D cI cR yX6_next cX6_next 1 (some .int) ({ frames := 0, cells := 0, slots := 0, locals := 0 } : Room) [.ref (qa 0)] (wfl [cM qa cI Mst Mhi Mhn Msl Msv Mpd Mln Mat Mit Mvf Mdn Mlf Mar Msa Msm Mso]) (fun _ : Unit => (wfl [cM qa cI Mst Mhi Mhn Msl Msv Mpd Mln Mat Mit Mvf Mdn Mlf Mar Msa Msm Mso])) (pI (fun (r : Int32) (_ : Unit) => P r)) 0 0 := by
  refine ct_of RX6 rfl (by decide +kernel) (Nat.le_of_ble_eq_true rfl) (fun zp ze zs zm zb zt zc A hin κ => ?_)
  unfold wp_X6_next at h
  refine gw_nf (lv' := [(0, .ref (qa 0))]) (pc' := 0) (st' := []) (ce' := 0) (sl' := 0) rfl rfl rfl rfl rfl rfl ?_
  refine gw_aload_n (pc' := 1) κ dX6_next_0 rfl 0 rfl rfl ?_
  refine gb_get (pc' := 4) (C := RX6) (T := TX6) (N := 16) κ dX6_next_1 rfl inX6 0 rfl rfl rfl 7 (by decide) tw_fl_X6_188 rfl ?_
  refine gw_aload_n (pc' := 5) κ dX6_next_4 rfl 0 rfl rfl ?_
  refine gb_get (pc' := 8) (C := RX6) (T := TX6) (N := 16) κ dX6_next_5 rfl inX6 0 rfl rfl rfl 6 (by decide) tw_fl_X6_175 rfl ?_
  refine gw_icmp_ge (pc' := 11) (tgt := 23) κ dX6_next_8 rfl (by decide) (fun hc_1 => ?_) (fun hc_1 => ?_)
  · have h := h.1 hc_1
    refine gw_iconst (pc' := 24) (v := 0) κ dX6_next_23 rfl (by decide) ?_
    exact gw_iret κ dX6_next_24 () rfl ⟨_, rfl, h⟩
  · have h := h.2 hc_1
    refine gw_aload_n (pc' := 12) κ dX6_next_11 rfl 0 rfl rfl ?_
    refine gb_get (pc' := 15) (C := RX6) (T := TX6) (N := 16) κ dX6_next_12 rfl inX6 0 rfl rfl rfl 5 (by decide) tw_fl_X6_22 rfl ?_
    refine gw_aload_n (pc' := 16) κ dX6_next_15 rfl 0 rfl rfl ?_
    refine gb_get (pc' := 19) (C := RX6) (T := TX6) (N := 16) κ dX6_next_16 rfl inX6 0 rfl rfl rfl 7 (by decide) tw_fl_X6_188 rfl ?_
    obtain ⟨hb_2, h⟩ := h
    refine gb_iald (pc' := 20) κ dX6_next_19 rfl 0 5 rfl rfl hb_2 ?_
    refine gw_goto (tgt := 24) κ dX6_next_20 (by decide) ?_
    exact gw_iret κ dX6_next_24 () rfl ⟨_, rfl, h⟩
theorem hy_X6_readsSign : g_hy yX6_readsSign 3 := by decide +kernel
set_option maxHeartbeats 4000000 in
set_option maxRecDepth 100000 in
theorem k_X6_readsSign_36 {zp : Program} {l : Launch} {ze : Env} {zs : State} {zm : MethodId} {za : Array Value} {zb : List Frame} {zt : Method} {zc : Code} {D : va_G} {cI cR : ClassId} {A : Nat → Prop} (κ : KC zp zs zm za zt zc cX6_readsSign 5 RX6 D cI cR A (some .boolean)) (qa : Nat → Nat) (P : Int32 → Int32 → (Nat → Int32) → Prop) (Mst : Nat → Int32) (Mhi : Nat → Int32) (Mhn : Int32) (Msl : Nat → Int32) (Msv : Nat → Int32) (Mpd : Nat → Int32) (Mln : Int32) (Mvf : Nat → Int32) (Mdn : Nat → Int32) (Mlf : Nat → Int32) (Mar : Nat → Int32) (Msa : Nat → Int32) (Msm : Nat → Int32) (Mso : Int32) (x1 : Int32) (x2 : Int32) (x3 : Int32) (v4 : Int32) (w0 : Int32) (w1 : Int32) (Mat : Int32) (Mit : Nat → Int32) (h : wp_X6_readsSign_36 P Mpd Mln x1 x2 x3 v4 w0 w1 Mat Mit) : GM zp l ze ({ frames := 1, cells := 0, slots := 0, locals := 22 } : Room) zs zm za zb zt zc D A 5 (pI (fun (r : Int32) (u : Int32 × (Nat → Int32)) => P r u.1 u.2)) (fun u : Int32 × (Nat → Int32) => (wfl [cM qa cI Mst Mhi Mhn Msl Msv Mpd Mln u.1 u.2 Mvf Mdn Mlf Mar Msa Msm Mso])) 0 0 0 0 (wfl [cM qa cI Mst Mhi Mhn Msl Msv Mpd Mln Mat Mit Mvf Mdn Mlf Mar Msa Msm Mso]) [(0, .ref (qa 0)), (4, .int v4)] 36 [.int w1, .int w0, .ref (qa 6)] := by
  unfold wp_X6_readsSign_36 at h
  obtain ⟨hb_6, h⟩ := h
  refine gb_iast (pc' := 37) (bs' := [cM qa cI Mst Mhi Mhn Msl Msv Mpd Mln Mat (upd Mit w0.toNatClampNeg w1) Mvf Mdn Mlf Mar Msa Msm Mso]) κ dX6_readsSign_36 rfl 0 6 rfl rfl hb_6 rfl ?_
  refine gw_aload_n (pc' := 38) κ dX6_readsSign_37 rfl 0 rfl rfl ?_
  refine gw_dup (pc' := 39) κ dX6_readsSign_38 rfl rfl ?_
  refine gb_get (pc' := 42) (C := RX6) (T := TX6) (N := 16) κ dX6_readsSign_39 rfl inX6 0 rfl rfl rfl 7 (by decide) tw_fl_X6_188 rfl ?_
  refine gw_iload (pc' := 44) κ dX6_readsSign_42 rfl 1 rfl ?_
  refine gw_if_eq (pc' := 47) (tgt := 51) κ dX6_readsSign_44 rfl (by decide) (fun hc_7 => ?_) (fun hc_7 => ?_)
  · have h := h.1 hc_7
    refine gw_iconst (pc' := 52) (v := 0) κ dX6_readsSign_51 rfl (by decide) ?_
    refine gw_iadd (pc' := 53) κ dX6_readsSign_52 rfl  ?_
    refine gb_put (pc' := 56) (C := RX6) (T := TX6) (N := 16) (ty := .int) (bs' := [cM qa cI Mst Mhi Mhn Msl Msv Mpd Mln (Mat + (0 : Int32)) (upd Mit w0.toNatClampNeg w1) Mvf Mdn Mlf Mar Msa Msm Mso]) κ dX6_readsSign_53 rfl inX6 tyX6 tyX6_ok nmX6 0 rfl rfl rfl 7 (by decide) tw_fl_X6_188 rfl (by decide +kernel) rfl rfl (Nat.le_of_ble_eq_true rfl) rfl ?_
    refine gw_iload (pc' := 58) κ dX6_readsSign_56 rfl 1 rfl ?_
    obtain ⟨hb9, h⟩ := h
    exact gw_zret κ dX6_readsSign_58 ((Mat + (0 : Int32)), (upd Mit w0.toNatClampNeg w1)) rfl hb9 ⟨_, rfl, h⟩
  · have h := h.2 hc_7
    refine gw_iconst (pc' := 48) (v := 1) κ dX6_readsSign_47 rfl (by decide) ?_
    refine gw_goto (tgt := 52) κ dX6_readsSign_48 (by decide) ?_
    refine gw_iadd (pc' := 53) κ dX6_readsSign_52 rfl  ?_
    refine gb_put (pc' := 56) (C := RX6) (T := TX6) (N := 16) (ty := .int) (bs' := [cM qa cI Mst Mhi Mhn Msl Msv Mpd Mln (Mat + (1 : Int32)) (upd Mit w0.toNatClampNeg w1) Mvf Mdn Mlf Mar Msa Msm Mso]) κ dX6_readsSign_53 rfl inX6 tyX6 tyX6_ok nmX6 0 rfl rfl rfl 7 (by decide) tw_fl_X6_188 rfl (by decide +kernel) rfl rfl (Nat.le_of_ble_eq_true rfl) rfl ?_
    refine gw_iload (pc' := 58) κ dX6_readsSign_56 rfl 1 rfl ?_
    obtain ⟨hb9, h⟩ := h
    exact gw_zret κ dX6_readsSign_58 ((Mat + (1 : Int32)), (upd Mit w0.toNatClampNeg w1)) rfl hb9 ⟨_, rfl, h⟩
set_option maxHeartbeats 4000000 in
set_option maxRecDepth 100000 in
theorem c_X6_readsSign {l : Launch} {D : va_G} {cI cR : ClassId}  (qa : Nat → Nat) {P : Int32 → Int32 → (Nat → Int32) → Prop} (Mst : Nat → Int32) (Mhi : Nat → Int32) (Mhn : Int32) (Msl : Nat → Int32) (Msv : Nat → Int32) (Mpd : Nat → Int32) (Mln : Int32) (Mat : Int32) (Mit : Nat → Int32) (Mvf : Nat → Int32) (Mdn : Nat → Int32) (Mlf : Nat → Int32) (Mar : Nat → Int32) (Msa : Nat → Int32) (Msm : Nat → Int32) (Mso : Int32) (x1 : Int32) (x2 : Int32) (x3 : Int32) (h : wp_X6_readsSign P Mpd Mln Mat Mit x1 x2 x3) : CT l D cI cR yX6_readsSign cX6_readsSign 5 (some .boolean) ({ frames := 1, cells := 0, slots := 0, locals := 22 } : Room) [.ref (qa 0), .int x1, .int x2, .int x3] (wfl [cM qa cI Mst Mhi Mhn Msl Msv Mpd Mln Mat Mit Mvf Mdn Mlf Mar Msa Msm Mso]) (fun u : Int32 × (Nat → Int32) => (wfl [cM qa cI Mst Mhi Mhn Msl Msv Mpd Mln u.1 u.2 Mvf Mdn Mlf Mar Msa Msm Mso])) (pI (fun (r : Int32) (u : Int32 × (Nat → Int32)) => P r u.1 u.2)) 0 0 := by
  refine ct_of RX6 rfl (by decide +kernel) (Nat.le_of_ble_eq_true rfl) (fun zp ze zs zm zb zt zc A hin κ => ?_)
  unfold wp_X6_readsSign at h
  refine gw_nf (lv' := [(0, .ref (qa 0)), (1, .int x1), (2, .int x2), (3, .int x3)]) (pc' := 0) (st' := []) (ce' := 0) (sl' := 0) rfl rfl rfl rfl rfl rfl ?_
  refine gw_aload_n (pc' := 1) κ dX6_readsSign_0 rfl 0 rfl rfl ?_
  refine gb_callV (ci := 6) (qb := 0) (rest := []) κ (c_X6_next qa Mst Mhi Mhn Msl Msv Mpd Mln Mat Mit Mvf Mdn Mlf Mar Msa Msm Mso h) ⟨rfl, rfl, Nat.le_of_ble_eq_true rfl, Nat.le_of_ble_eq_true rfl⟩ tw_ml_X6_191 tw_im_X6_next tw_se_X6_next tw_co_X6_next tw_in_X6 hy_X6_next rfl rfl rfl rfl rfl (Nat.le_of_ble_eq_true rfl) rfl dX6_readsSign_1 [0] rfl (by decide) (fun _ => Nat.le_of_ble_eq_true rfl) ⟨Nat.le_of_ble_eq_true rfl, Nat.le_of_ble_eq_true rfl⟩ (fun v u hv => ?_)
  obtain ⟨r_1, rfl, h⟩ := hv
  refine gw_nf (ws' := (wfl [cM qa cI Mst Mhi Mhn Msl Msv Mpd Mln Mat Mit Mvf Mdn Mlf Mar Msa Msm Mso])) (lv' := [(0, .ref (qa 0)), (1, .int x1), (2, .int x2), (3, .int x3)]) (st' := [.int r_1]) (pc' := 4) (ce' := 0) (sl' := 0) rfl rfl rfl rfl rfl rfl ?_
  refine gw_iload_n (pc' := 5) κ dX6_readsSign_4 rfl 2 rfl rfl ?_
  refine gw_iload_n (pc' := 6) κ dX6_readsSign_5 rfl 3 rfl rfl ?_
  refine gb_callS (rest := []) κ (c_X6_within  r_1 x2 x3 h) ⟨rfl, rfl, Nat.le_of_ble_eq_true rfl, Nat.le_of_ble_eq_true rfl⟩ tw_ml_X6_46 tw_st_X6_within tw_co_X6_within tw_in_X6 hy_X6_within rfl (Nat.le_of_ble_eq_true rfl) rfl dX6_readsSign_6 [] rfl (by decide) (fun _ => Nat.le_of_ble_eq_true rfl) ⟨Nat.le_of_ble_eq_true rfl, Nat.le_of_ble_eq_true rfl⟩ (fun v u hv => ?_)
  obtain ⟨r_2, rfl, h⟩ := hv
  refine gw_nf (ws' := (wfl [cM qa cI Mst Mhi Mhn Msl Msv Mpd Mln Mat Mit Mvf Mdn Mlf Mar Msa Msm Mso])) (lv' := [(0, .ref (qa 0)), (1, .int x1), (2, .int x2), (3, .int x3)]) (st' := [.int r_2]) (pc' := 9) (ce' := 0) (sl' := 0) rfl rfl rfl rfl rfl rfl ?_
  refine gw_istore (pc' := 11) κ dX6_readsSign_9 rfl (by decide) (lv' := [(4, .int r_2), (0, .ref (qa 0)), (1, .int x1), (2, .int x2), (3, .int x3)]) rfl ?_
  refine gw_aload_n (pc' := 12) κ dX6_readsSign_11 rfl 1 rfl rfl ?_
  refine gb_get (pc' := 15) (C := RX6) (T := TX6) (N := 16) κ dX6_readsSign_12 rfl inX6 0 rfl rfl rfl 8 (by decide) tw_fl_X6_25 rfl ?_
  refine gw_iload_n (pc' := 16) κ dX6_readsSign_15 rfl 2 rfl rfl ?_
  refine gw_iload (pc' := 18) κ dX6_readsSign_16 rfl 0 rfl ?_
  refine gw_if_eq (pc' := 21) (tgt := 30) κ dX6_readsSign_18 rfl (by decide) (fun hc_3 => ?_) (fun hc_3 => ?_)
  · have h := h.1 hc_3
    refine gw_aload_n (pc' := 31) κ dX6_readsSign_30 rfl 1 rfl rfl ?_
    refine gb_get (pc' := 34) (C := RX6) (T := TX6) (N := 16) κ dX6_readsSign_31 rfl inX6 0 rfl rfl rfl 8 (by decide) tw_fl_X6_25 rfl ?_
    refine gw_iload_n (pc' := 35) κ dX6_readsSign_34 rfl 2 rfl rfl ?_
    obtain ⟨hb_4, h⟩ := h
    refine gb_iald (pc' := 36) κ dX6_readsSign_35 rfl 0 6 rfl rfl hb_4 ?_
    refine gw_lv (lv' := [(0, .ref (qa 0)), (4, .int r_2)]) [1, 0] rfl ?_
    exact k_X6_readsSign_36 κ qa P Mst Mhi Mhn Msl Msv Mpd Mln Mvf Mdn Mlf Mar Msa Msm Mso x1 x2 x3 r_2 x1 (Mit x1.toNatClampNeg) Mat Mit h
  · have h := h.2 hc_3
    refine gw_aload_n (pc' := 22) κ dX6_readsSign_21 rfl 1 rfl rfl ?_
    refine gb_callV (ci := 6) (qb := 0) (rest := [.int x1, .ref (qa 6)]) κ (c_X6_next qa Mst Mhi Mhn Msl Msv Mpd Mln Mat Mit Mvf Mdn Mlf Mar Msa Msm Mso h) ⟨rfl, rfl, Nat.le_of_ble_eq_true rfl, Nat.le_of_ble_eq_true rfl⟩ tw_ml_X6_191 tw_im_X6_next tw_se_X6_next tw_co_X6_next tw_in_X6 hy_X6_next rfl rfl rfl rfl rfl (Nat.le_of_ble_eq_true rfl) rfl dX6_readsSign_22 [0] rfl (by decide) (fun _ => Nat.le_of_ble_eq_true rfl) ⟨Nat.le_of_ble_eq_true rfl, Nat.le_of_ble_eq_true rfl⟩ (fun v u hv => ?_)
    obtain ⟨r_5, rfl, h⟩ := hv
    refine gw_nf (ws' := (wfl [cM qa cI Mst Mhi Mhn Msl Msv Mpd Mln Mat Mit Mvf Mdn Mlf Mar Msa Msm Mso])) (lv' := [(4, .int r_2), (0, .ref (qa 0)), (1, .int x1), (2, .int x2), (3, .int x3)]) (st' := [.int r_5, .int x1, .ref (qa 6)]) (pc' := 25) (ce' := 0) (sl' := 0) rfl rfl rfl rfl rfl rfl ?_
    refine gw_iload_n (pc' := 26) κ dX6_readsSign_25 rfl 3 rfl rfl ?_
    refine gw_isub (pc' := 27) κ dX6_readsSign_26 rfl  ?_
    refine gw_goto (tgt := 36) κ dX6_readsSign_27 (by decide) ?_
    refine gw_lv (lv' := [(0, .ref (qa 0)), (4, .int r_2)]) [1, 0] rfl ?_
    exact k_X6_readsSign_36 κ qa P Mst Mhi Mhn Msl Msv Mpd Mln Mvf Mdn Mlf Mar Msa Msm Mso x1 x2 x3 r_2 x1 (r_5 - x2) Mat Mit h
theorem hy_X6_readsRider : g_hy yX6_readsRider 0 := by decide +kernel
set_option maxHeartbeats 4000000 in
set_option maxRecDepth 100000 in
theorem k_X6_readsRider_94 {zp : Program} {l : Launch} {ze : Env} {zs : State} {zm : MethodId} {za : Array Value} {zb : List Frame} {zt : Method} {zc : Code} {D : va_G} {cI cR : ClassId} {A : Nat → Prop} (κ : KC zp zs zm za zt zc cX6_readsRider 2 RX6 D cI cR A (some .boolean)) (qa : Nat → Nat) (P : Int32 → Int32 → (Nat → Int32) → Prop) (Mst : Nat → Int32) (Mhi : Nat → Int32) (Mhn : Int32) (Msl : Nat → Int32) (Msv : Nat → Int32) (Mpd : Nat → Int32) (Mln : Int32) (Mvf : Nat → Int32) (Mdn : Nat → Int32) (Mlf : Nat → Int32) (Mar : Nat → Int32) (Msa : Nat → Int32) (Msm : Nat → Int32) (Mso : Int32) (Mat : Int32) (Mit : Nat → Int32) (h : wp_X6_readsRider_94 P Mpd Mln Mat Mit) : GM zp l ze ({ frames := 2, cells := 0, slots := 0, locals := 46 } : Room) zs zm za zb zt zc D A 2 (pI (fun (r : Int32) (u : Int32 × (Nat → Int32)) => P r u.1 u.2)) (fun u : Int32 × (Nat → Int32) => (wfl [cM qa cI Mst Mhi Mhn Msl Msv Mpd Mln u.1 u.2 Mvf Mdn Mlf Mar Msa Msm Mso])) 0 0 0 0 (wfl [cM qa cI Mst Mhi Mhn Msl Msv Mpd Mln Mat Mit Mvf Mdn Mlf Mar Msa Msm Mso]) [(0, .ref (qa 0))] 94 [] := by
  unfold wp_X6_readsRider_94 at h
  refine gw_aload_n (pc' := 95) κ dX6_readsRider_94 rfl 0 rfl rfl ?_
  refine gb_get (pc' := 98) (C := RX6) (T := TX6) (N := 16) κ dX6_readsRider_95 rfl inX6 0 rfl rfl rfl 8 (by decide) tw_fl_X6_25 rfl ?_
  refine gw_iconst (pc' := 99) (v := 3) κ dX6_readsRider_98 rfl (by decide) ?_
  refine gw_iconst (pc' := 100) (v := 1) κ dX6_readsRider_99 rfl (by decide) ?_
  refine gb_iast (pc' := 101) (bs' := [cM qa cI Mst Mhi Mhn Msl Msv Mpd Mln Mat (upd Mit (3 : Int32).toNatClampNeg (1 : Int32)) Mvf Mdn Mlf Mar Msa Msm Mso]) κ dX6_readsRider_100 rfl 0 6 rfl rfl (by unfold vp_in; decide) rfl ?_
  refine gw_aload_n (pc' := 102) κ dX6_readsRider_101 rfl 0 rfl rfl ?_
  refine gb_callV (ci := 6) (qb := 0) (rest := []) κ (c_X6_next qa Mst Mhi Mhn Msl Msv Mpd Mln Mat (upd Mit (3 : Int32).toNatClampNeg (1 : Int32)) Mvf Mdn Mlf Mar Msa Msm Mso h) ⟨rfl, rfl, Nat.le_of_ble_eq_true rfl, Nat.le_of_ble_eq_true rfl⟩ tw_ml_X6_191 tw_im_X6_next tw_se_X6_next tw_co_X6_next tw_in_X6 hy_X6_next rfl rfl rfl rfl rfl (Nat.le_of_ble_eq_true rfl) rfl dX6_readsRider_102 [0] rfl (by decide) (fun _ => Nat.le_of_ble_eq_true rfl) ⟨Nat.le_of_ble_eq_true rfl, Nat.le_of_ble_eq_true rfl⟩ (fun v u hv => ?_)
  obtain ⟨r_22, rfl, h⟩ := hv
  refine gw_nf (ws' := (wfl [cM qa cI Mst Mhi Mhn Msl Msv Mpd Mln Mat (upd Mit (3 : Int32).toNatClampNeg (1 : Int32)) Mvf Mdn Mlf Mar Msa Msm Mso])) (lv' := [(0, .ref (qa 0))]) (st' := [.int r_22]) (pc' := 105) (ce' := 0) (sl' := 0) rfl rfl rfl rfl rfl rfl ?_
  refine gw_bipush (pc' := 107) (v := 120) κ dX6_readsRider_105 rfl (by decide) ?_
  refine gw_icmp_eq (pc' := 110) (tgt := 112) κ dX6_readsRider_107 rfl (by decide) (fun hc_23 => ?_) (fun hc_23 => ?_)
  · have h := h.1 hc_23
    refine gw_aload_n (pc' := 113) κ dX6_readsRider_112 rfl 0 rfl rfl ?_
    refine gw_dup (pc' := 114) κ dX6_readsRider_113 rfl rfl ?_
    refine gb_get (pc' := 117) (C := RX6) (T := TX6) (N := 16) κ dX6_readsRider_114 rfl inX6 0 rfl rfl rfl 7 (by decide) tw_fl_X6_188 rfl ?_
    refine gw_iconst (pc' := 118) (v := 1) κ dX6_readsRider_117 rfl (by decide) ?_
    refine gw_iadd (pc' := 119) κ dX6_readsRider_118 rfl  ?_
    refine gb_put (pc' := 122) (C := RX6) (T := TX6) (N := 16) (ty := .int) (bs' := [cM qa cI Mst Mhi Mhn Msl Msv Mpd Mln (Mat + (1 : Int32)) (upd Mit (3 : Int32).toNatClampNeg (1 : Int32)) Mvf Mdn Mlf Mar Msa Msm Mso]) κ dX6_readsRider_119 rfl inX6 tyX6 tyX6_ok nmX6 0 rfl rfl rfl 7 (by decide) tw_fl_X6_188 rfl (by decide +kernel) rfl rfl (Nat.le_of_ble_eq_true rfl) rfl ?_
    refine gw_aload_n (pc' := 123) κ dX6_readsRider_122 rfl 0 rfl rfl ?_
    refine gw_iconst (pc' := 124) (v := 3) κ dX6_readsRider_123 rfl (by decide) ?_
    refine gw_bipush (pc' := 126) (v := 49) κ dX6_readsRider_124 rfl (by decide) ?_
    refine gw_bipush (pc' := 128) (v := 52) κ dX6_readsRider_126 rfl (by decide) ?_
    refine gb_callV (ci := 6) (qb := 0) (rest := []) κ (c_X6_readsSign qa Mst Mhi Mhn Msl Msv Mpd Mln (Mat + (1 : Int32)) (upd Mit (3 : Int32).toNatClampNeg (1 : Int32)) Mvf Mdn Mlf Mar Msa Msm Mso (3 : Int32) (49 : Int32) (52 : Int32) h) ⟨rfl, rfl, Nat.le_of_ble_eq_true rfl, Nat.le_of_ble_eq_true rfl⟩ tw_ml_X6_194 tw_im_X6_readsSign tw_se_X6_readsSign tw_co_X6_readsSign tw_in_X6 hy_X6_readsSign rfl rfl rfl rfl rfl (Nat.le_of_ble_eq_true rfl) rfl dX6_readsRider_128 [0] rfl (by decide) (fun _ => Nat.le_of_ble_eq_true rfl) ⟨Nat.le_of_ble_eq_true rfl, Nat.le_of_ble_eq_true rfl⟩ (fun v u hv => ?_)
    obtain ⟨r_26, rfl, h⟩ := hv
    obtain ⟨Mat_24, Mit_25⟩ := u
    refine gw_nf (ws' := (wfl [cM qa cI Mst Mhi Mhn Msl Msv Mpd Mln Mat_24 Mit_25 Mvf Mdn Mlf Mar Msa Msm Mso])) (lv' := [(0, .ref (qa 0))]) (st' := [.int r_26]) (pc' := 131) (ce' := 0) (sl' := 0) rfl rfl rfl rfl rfl rfl ?_
    refine gw_istore_n (pc' := 132) κ dX6_readsRider_131 rfl rfl (by decide) (lv' := [(1, .int r_26), (0, .ref (qa 0))]) rfl ?_
    refine gw_aload_n (pc' := 133) κ dX6_readsRider_132 rfl 1 rfl rfl ?_
    refine gb_get (pc' := 136) (C := RX6) (T := TX6) (N := 16) κ dX6_readsRider_133 rfl inX6 0 rfl rfl rfl 8 (by decide) tw_fl_X6_25 rfl ?_
    refine gw_iconst (pc' := 137) (v := 3) κ dX6_readsRider_136 rfl (by decide) ?_
    refine gw_dup2 (pc' := 138) κ dX6_readsRider_137 rfl rfl rfl ?_
    refine gb_iald (pc' := 139) κ dX6_readsRider_138 rfl 0 6 rfl rfl (by unfold vp_in; decide) ?_
    refine gw_iconst (pc' := 140) (v := 1) κ dX6_readsRider_139 rfl (by decide) ?_
    refine gw_iadd (pc' := 141) κ dX6_readsRider_140 rfl  ?_
    refine gb_iast (pc' := 142) (bs' := [cM qa cI Mst Mhi Mhn Msl Msv Mpd Mln Mat_24 (upd Mit_25 (3 : Int32).toNatClampNeg ((Mit_25 (3 : Int32).toNatClampNeg) + (1 : Int32))) Mvf Mdn Mlf Mar Msa Msm Mso]) κ dX6_readsRider_141 rfl 0 6 rfl rfl (by unfold vp_in; decide) rfl ?_
    refine gw_iload_n (pc' := 143) κ dX6_readsRider_142 rfl 0 rfl rfl ?_
    obtain ⟨hb9, h⟩ := h
    exact gw_zret κ dX6_readsRider_143 (Mat_24, (upd Mit_25 (3 : Int32).toNatClampNeg ((Mit_25 (3 : Int32).toNatClampNeg) + (1 : Int32)))) rfl hb9 ⟨_, rfl, h⟩
  · have h := h.2 hc_23
    refine gw_iconst (pc' := 111) (v := 1) κ dX6_readsRider_110 rfl (by decide) ?_
    exact gw_zret κ dX6_readsRider_111 (Mat, (upd Mit (3 : Int32).toNatClampNeg (1 : Int32))) rfl rfl ⟨_, rfl, h⟩
set_option maxHeartbeats 4000000 in
set_option maxRecDepth 100000 in
theorem c_X6_readsRider {l : Launch} {D : va_G} {cI cR : ClassId}  (qa : Nat → Nat) {P : Int32 → Int32 → (Nat → Int32) → Prop} (Mst : Nat → Int32) (Mhi : Nat → Int32) (Mhn : Int32) (Msl : Nat → Int32) (Msv : Nat → Int32) (Mpd : Nat → Int32) (Mln : Int32) (Mat : Int32) (Mit : Nat → Int32) (Mvf : Nat → Int32) (Mdn : Nat → Int32) (Mlf : Nat → Int32) (Mar : Nat → Int32) (Msa : Nat → Int32) (Msm : Nat → Int32) (Mso : Int32) (h : wp_X6_readsRider P Mpd Mln Mat Mit) : CT l D cI cR yX6_readsRider cX6_readsRider 2 (some .boolean) ({ frames := 2, cells := 0, slots := 0, locals := 46 } : Room) [.ref (qa 0)] (wfl [cM qa cI Mst Mhi Mhn Msl Msv Mpd Mln Mat Mit Mvf Mdn Mlf Mar Msa Msm Mso]) (fun u : Int32 × (Nat → Int32) => (wfl [cM qa cI Mst Mhi Mhn Msl Msv Mpd Mln u.1 u.2 Mvf Mdn Mlf Mar Msa Msm Mso])) (pI (fun (r : Int32) (u : Int32 × (Nat → Int32)) => P r u.1 u.2)) 0 0 := by
  refine ct_of RX6 rfl (by decide +kernel) (Nat.le_of_ble_eq_true rfl) (fun zp ze zs zm zb zt zc A hin κ => ?_)
  unfold wp_X6_readsRider at h
  refine gw_nf (lv' := [(0, .ref (qa 0))]) (pc' := 0) (st' := []) (ce' := 0) (sl' := 0) rfl rfl rfl rfl rfl rfl ?_
  refine gw_aload_n (pc' := 1) κ dX6_readsRider_0 rfl 0 rfl rfl ?_
  refine gw_iconst (pc' := 2) (v := 0) κ dX6_readsRider_1 rfl (by decide) ?_
  refine gw_bipush (pc' := 4) (v := 48) κ dX6_readsRider_2 rfl (by decide) ?_
  refine gw_bipush (pc' := 6) (v := 53) κ dX6_readsRider_4 rfl (by decide) ?_
  refine gb_callV (ci := 6) (qb := 0) (rest := []) κ (c_X6_readsSign qa Mst Mhi Mhn Msl Msv Mpd Mln Mat Mit Mvf Mdn Mlf Mar Msa Msm Mso (0 : Int32) (48 : Int32) (53 : Int32) h) ⟨rfl, rfl, Nat.le_of_ble_eq_true rfl, Nat.le_of_ble_eq_true rfl⟩ tw_ml_X6_194 tw_im_X6_readsSign tw_se_X6_readsSign tw_co_X6_readsSign tw_in_X6 hy_X6_readsSign rfl rfl rfl rfl rfl (Nat.le_of_ble_eq_true rfl) rfl dX6_readsRider_6 [0] rfl (by decide) (fun _ => Nat.le_of_ble_eq_true rfl) ⟨Nat.le_of_ble_eq_true rfl, Nat.le_of_ble_eq_true rfl⟩ (fun v u hv => ?_)
  obtain ⟨r_3, rfl, h⟩ := hv
  obtain ⟨Mat_1, Mit_2⟩ := u
  refine gw_nf (ws' := (wfl [cM qa cI Mst Mhi Mhn Msl Msv Mpd Mln Mat_1 Mit_2 Mvf Mdn Mlf Mar Msa Msm Mso])) (lv' := [(0, .ref (qa 0))]) (st' := [.int r_3]) (pc' := 9) (ce' := 0) (sl' := 0) rfl rfl rfl rfl rfl rfl ?_
  refine gw_if_eq (pc' := 12) (tgt := 36) κ dX6_readsRider_9 rfl (by decide) (fun hc_4 => ?_) (fun hc_4 => ?_)
  · have h := h.1 hc_4
    refine gw_iconst (pc' := 37) (v := 0) κ dX6_readsRider_36 rfl (by decide) ?_
    exact gw_zret κ dX6_readsRider_37 (Mat_1, Mit_2) rfl rfl ⟨_, rfl, h⟩
  · have h := h.2 hc_4
    refine gw_aload_n (pc' := 13) κ dX6_readsRider_12 rfl 0 rfl rfl ?_
    refine gw_iconst (pc' := 14) (v := 1) κ dX6_readsRider_13 rfl (by decide) ?_
    refine gw_bipush (pc' := 16) (v := 97) κ dX6_readsRider_14 rfl (by decide) ?_
    refine gw_bipush (pc' := 18) (v := 102) κ dX6_readsRider_16 rfl (by decide) ?_
    refine gb_callV (ci := 6) (qb := 0) (rest := []) κ (c_X6_readsSign qa Mst Mhi Mhn Msl Msv Mpd Mln Mat_1 Mit_2 Mvf Mdn Mlf Mar Msa Msm Mso (1 : Int32) (97 : Int32) (102 : Int32) h) ⟨rfl, rfl, Nat.le_of_ble_eq_true rfl, Nat.le_of_ble_eq_true rfl⟩ tw_ml_X6_194 tw_im_X6_readsSign tw_se_X6_readsSign tw_co_X6_readsSign tw_in_X6 hy_X6_readsSign rfl rfl rfl rfl rfl (Nat.le_of_ble_eq_true rfl) rfl dX6_readsRider_18 [0] rfl (by decide) (fun _ => Nat.le_of_ble_eq_true rfl) ⟨Nat.le_of_ble_eq_true rfl, Nat.le_of_ble_eq_true rfl⟩ (fun v u hv => ?_)
    obtain ⟨r_7, rfl, h⟩ := hv
    obtain ⟨Mat_5, Mit_6⟩ := u
    refine gw_nf (ws' := (wfl [cM qa cI Mst Mhi Mhn Msl Msv Mpd Mln Mat_5 Mit_6 Mvf Mdn Mlf Mar Msa Msm Mso])) (lv' := [(0, .ref (qa 0))]) (st' := [.int r_7]) (pc' := 21) (ce' := 0) (sl' := 0) rfl rfl rfl rfl rfl rfl ?_
    refine gw_if_eq (pc' := 24) (tgt := 36) κ dX6_readsRider_21 rfl (by decide) (fun hc_8 => ?_) (fun hc_8 => ?_)
    · have h := h.1 hc_8
      refine gw_iconst (pc' := 37) (v := 0) κ dX6_readsRider_36 rfl (by decide) ?_
      exact gw_zret κ dX6_readsRider_37 (Mat_5, Mit_6) rfl rfl ⟨_, rfl, h⟩
    · have h := h.2 hc_8
      refine gw_aload_n (pc' := 25) κ dX6_readsRider_24 rfl 0 rfl rfl ?_
      refine gw_iconst (pc' := 26) (v := 2) κ dX6_readsRider_25 rfl (by decide) ?_
      refine gw_bipush (pc' := 28) (v := 48) κ dX6_readsRider_26 rfl (by decide) ?_
      refine gw_bipush (pc' := 30) (v := 57) κ dX6_readsRider_28 rfl (by decide) ?_
      refine gb_callV (ci := 6) (qb := 0) (rest := []) κ (c_X6_readsSign qa Mst Mhi Mhn Msl Msv Mpd Mln Mat_5 Mit_6 Mvf Mdn Mlf Mar Msa Msm Mso (2 : Int32) (48 : Int32) (57 : Int32) h) ⟨rfl, rfl, Nat.le_of_ble_eq_true rfl, Nat.le_of_ble_eq_true rfl⟩ tw_ml_X6_194 tw_im_X6_readsSign tw_se_X6_readsSign tw_co_X6_readsSign tw_in_X6 hy_X6_readsSign rfl rfl rfl rfl rfl (Nat.le_of_ble_eq_true rfl) rfl dX6_readsRider_30 [0] rfl (by decide) (fun _ => Nat.le_of_ble_eq_true rfl) ⟨Nat.le_of_ble_eq_true rfl, Nat.le_of_ble_eq_true rfl⟩ (fun v u hv => ?_)
      obtain ⟨r_11, rfl, h⟩ := hv
      obtain ⟨Mat_9, Mit_10⟩ := u
      refine gw_nf (ws' := (wfl [cM qa cI Mst Mhi Mhn Msl Msv Mpd Mln Mat_9 Mit_10 Mvf Mdn Mlf Mar Msa Msm Mso])) (lv' := [(0, .ref (qa 0))]) (st' := [.int r_11]) (pc' := 33) (ce' := 0) (sl' := 0) rfl rfl rfl rfl rfl rfl ?_
      refine gw_if_ne (pc' := 36) (tgt := 38) κ dX6_readsRider_33 rfl (by decide) (fun hc_12 => ?_) (fun hc_12 => ?_)
      · have h := h.1 hc_12
        refine gw_aload_n (pc' := 39) κ dX6_readsRider_38 rfl 0 rfl rfl ?_
        refine gb_get (pc' := 42) (C := RX6) (T := TX6) (N := 16) κ dX6_readsRider_39 rfl inX6 0 rfl rfl rfl 8 (by decide) tw_fl_X6_25 rfl ?_
        refine gw_iconst (pc' := 43) (v := 2) κ dX6_readsRider_42 rfl (by decide) ?_
        refine gb_iald (pc' := 44) κ dX6_readsRider_43 rfl 0 6 rfl rfl (by unfold vp_in; decide) ?_
        refine gw_if_le (pc' := 47) (tgt := 94) κ dX6_readsRider_44 rfl (by decide) (fun hc_14 => ?_) (fun hc_14 => ?_)
        · have h := h.1 hc_14
          refine gw_lv (lv' := [(0, .ref (qa 0))]) [0] rfl ?_
          exact k_X6_readsRider_94 κ qa P Mst Mhi Mhn Msl Msv Mpd Mln Mvf Mdn Mlf Mar Msa Msm Mso Mat_9 Mit_10 h
        · have h := h.2 hc_14
          refine gw_aload_n (pc' := 48) κ dX6_readsRider_47 rfl 0 rfl rfl ?_
          refine gb_callV (ci := 6) (qb := 0) (rest := []) κ (c_X6_next qa Mst Mhi Mhn Msl Msv Mpd Mln Mat_9 Mit_10 Mvf Mdn Mlf Mar Msa Msm Mso h) ⟨rfl, rfl, Nat.le_of_ble_eq_true rfl, Nat.le_of_ble_eq_true rfl⟩ tw_ml_X6_191 tw_im_X6_next tw_se_X6_next tw_co_X6_next tw_in_X6 hy_X6_next rfl rfl rfl rfl rfl (Nat.le_of_ble_eq_true rfl) rfl dX6_readsRider_48 [0] rfl (by decide) (fun _ => Nat.le_of_ble_eq_true rfl) ⟨Nat.le_of_ble_eq_true rfl, Nat.le_of_ble_eq_true rfl⟩ (fun v u hv => ?_)
          obtain ⟨r_15, rfl, h⟩ := hv
          refine gw_nf (ws' := (wfl [cM qa cI Mst Mhi Mhn Msl Msv Mpd Mln Mat_9 Mit_10 Mvf Mdn Mlf Mar Msa Msm Mso])) (lv' := [(0, .ref (qa 0))]) (st' := [.int r_15]) (pc' := 51) (ce' := 0) (sl' := 0) rfl rfl rfl rfl rfl rfl ?_
          refine gw_bipush (pc' := 53) (v := 48) κ dX6_readsRider_51 rfl (by decide) ?_
          refine gw_bipush (pc' := 55) (v := 57) κ dX6_readsRider_53 rfl (by decide) ?_
          refine gb_callS (rest := []) κ (c_X6_within  r_15 (48 : Int32) (57 : Int32) h) ⟨rfl, rfl, Nat.le_of_ble_eq_true rfl, Nat.le_of_ble_eq_true rfl⟩ tw_ml_X6_46 tw_st_X6_within tw_co_X6_within tw_in_X6 hy_X6_within rfl (Nat.le_of_ble_eq_true rfl) rfl dX6_readsRider_55 [] rfl (by decide) (fun _ => Nat.le_of_ble_eq_true rfl) ⟨Nat.le_of_ble_eq_true rfl, Nat.le_of_ble_eq_true rfl⟩ (fun v u hv => ?_)
          obtain ⟨r_16, rfl, h⟩ := hv
          refine gw_nf (ws' := (wfl [cM qa cI Mst Mhi Mhn Msl Msv Mpd Mln Mat_9 Mit_10 Mvf Mdn Mlf Mar Msa Msm Mso])) (lv' := [(0, .ref (qa 0))]) (st' := [.int r_16]) (pc' := 58) (ce' := 0) (sl' := 0) rfl rfl rfl rfl rfl rfl ?_
          refine gw_if_eq (pc' := 61) (tgt := 94) κ dX6_readsRider_58 rfl (by decide) (fun hc_17 => ?_) (fun hc_17 => ?_)
          · have h := h.1 hc_17
            refine gw_lv (lv' := [(0, .ref (qa 0))]) [0] rfl ?_
            exact k_X6_readsRider_94 κ qa P Mst Mhi Mhn Msl Msv Mpd Mln Mvf Mdn Mlf Mar Msa Msm Mso Mat_9 Mit_10 h
          · have h := h.2 hc_17
            refine gw_aload_n (pc' := 62) κ dX6_readsRider_61 rfl 0 rfl rfl ?_
            refine gb_get (pc' := 65) (C := RX6) (T := TX6) (N := 16) κ dX6_readsRider_62 rfl inX6 0 rfl rfl rfl 8 (by decide) tw_fl_X6_25 rfl ?_
            refine gw_iconst (pc' := 66) (v := 2) κ dX6_readsRider_65 rfl (by decide) ?_
            refine gw_bipush (pc' := 68) (v := 10) κ dX6_readsRider_66 rfl (by decide) ?_
            refine gw_aload_n (pc' := 69) κ dX6_readsRider_68 rfl 0 rfl rfl ?_
            refine gb_get (pc' := 72) (C := RX6) (T := TX6) (N := 16) κ dX6_readsRider_69 rfl inX6 0 rfl rfl rfl 8 (by decide) tw_fl_X6_25 rfl ?_
            refine gw_iconst (pc' := 73) (v := 2) κ dX6_readsRider_72 rfl (by decide) ?_
            refine gb_iald (pc' := 74) κ dX6_readsRider_73 rfl 0 6 rfl rfl (by unfold vp_in; decide) ?_
            refine gw_imul (pc' := 75) κ dX6_readsRider_74 rfl  ?_
            refine gw_aload_n (pc' := 76) κ dX6_readsRider_75 rfl 0 rfl rfl ?_
            refine gb_callV (ci := 6) (qb := 0) (rest := [.int ((10 : Int32) * (Mit_10 (2 : Int32).toNatClampNeg)), .int (2 : Int32), .ref (qa 6)]) κ (c_X6_next qa Mst Mhi Mhn Msl Msv Mpd Mln Mat_9 Mit_10 Mvf Mdn Mlf Mar Msa Msm Mso h) ⟨rfl, rfl, Nat.le_of_ble_eq_true rfl, Nat.le_of_ble_eq_true rfl⟩ tw_ml_X6_191 tw_im_X6_next tw_se_X6_next tw_co_X6_next tw_in_X6 hy_X6_next rfl rfl rfl rfl rfl (Nat.le_of_ble_eq_true rfl) rfl dX6_readsRider_76 [0] rfl (by decide) (fun _ => Nat.le_of_ble_eq_true rfl) ⟨Nat.le_of_ble_eq_true rfl, Nat.le_of_ble_eq_true rfl⟩ (fun v u hv => ?_)
            obtain ⟨r_19, rfl, h⟩ := hv
            refine gw_nf (ws' := (wfl [cM qa cI Mst Mhi Mhn Msl Msv Mpd Mln Mat_9 Mit_10 Mvf Mdn Mlf Mar Msa Msm Mso])) (lv' := [(0, .ref (qa 0))]) (st' := [.int r_19, .int ((10 : Int32) * (Mit_10 (2 : Int32).toNatClampNeg)), .int (2 : Int32), .ref (qa 6)]) (pc' := 79) (ce' := 0) (sl' := 0) rfl rfl rfl rfl rfl rfl ?_
            refine gw_iadd (pc' := 80) κ dX6_readsRider_79 rfl  ?_
            refine gw_bipush (pc' := 82) (v := 48) κ dX6_readsRider_80 rfl (by decide) ?_
            refine gw_isub (pc' := 83) κ dX6_readsRider_82 rfl  ?_
            refine gb_iast (pc' := 84) (bs' := [cM qa cI Mst Mhi Mhn Msl Msv Mpd Mln Mat_9 (upd Mit_10 (2 : Int32).toNatClampNeg ((((10 : Int32) * (Mit_10 (2 : Int32).toNatClampNeg)) + r_19) - (48 : Int32))) Mvf Mdn Mlf Mar Msa Msm Mso]) κ dX6_readsRider_83 rfl 0 6 rfl rfl (by unfold vp_in; decide) rfl ?_
            refine gw_aload_n (pc' := 85) κ dX6_readsRider_84 rfl 0 rfl rfl ?_
            refine gw_dup (pc' := 86) κ dX6_readsRider_85 rfl rfl ?_
            refine gb_get (pc' := 89) (C := RX6) (T := TX6) (N := 16) κ dX6_readsRider_86 rfl inX6 0 rfl rfl rfl 7 (by decide) tw_fl_X6_188 rfl ?_
            refine gw_iconst (pc' := 90) (v := 1) κ dX6_readsRider_89 rfl (by decide) ?_
            refine gw_iadd (pc' := 91) κ dX6_readsRider_90 rfl  ?_
            refine gb_put (pc' := 94) (C := RX6) (T := TX6) (N := 16) (ty := .int) (bs' := [cM qa cI Mst Mhi Mhn Msl Msv Mpd Mln (Mat_9 + (1 : Int32)) (upd Mit_10 (2 : Int32).toNatClampNeg ((((10 : Int32) * (Mit_10 (2 : Int32).toNatClampNeg)) + r_19) - (48 : Int32))) Mvf Mdn Mlf Mar Msa Msm Mso]) κ dX6_readsRider_91 rfl inX6 tyX6 tyX6_ok nmX6 0 rfl rfl rfl 7 (by decide) tw_fl_X6_188 rfl (by decide +kernel) rfl rfl (Nat.le_of_ble_eq_true rfl) rfl ?_
            refine gw_lv (lv' := [(0, .ref (qa 0))]) [0] rfl ?_
            exact k_X6_readsRider_94 κ qa P Mst Mhi Mhn Msl Msv Mpd Mln Mvf Mdn Mlf Mar Msa Msm Mso (Mat_9 + (1 : Int32)) (upd Mit_10 (2 : Int32).toNatClampNeg ((((10 : Int32) * (Mit_10 (2 : Int32).toNatClampNeg)) + r_19) - (48 : Int32))) h
      · have h := h.2 hc_12
        refine gw_iconst (pc' := 37) (v := 0) κ dX6_readsRider_36 rfl (by decide) ?_
        exact gw_zret κ dX6_readsRider_37 (Mat_9, Mit_10) rfl rfl ⟨_, rfl, h⟩
theorem hy_X6_findFault : g_hy yX6_findFault 0 := by decide +kernel
set_option maxHeartbeats 4000000 in
set_option maxRecDepth 100000 in
theorem k_X6_findFault_5 {zp : Program} {l : Launch} {ze : Env} {zs : State} {zm : MethodId} {za : Array Value} {zb : List Frame} {zt : Method} {zc : Code} {D : va_G} {cI cR : ClassId} {A : Nat → Prop} (κ : KC zp zs zm za zt zc cX6_findFault 1 RX6 D cI cR A (some .int)) (qa : Nat → Nat) (P : Int32 → Int32 → (Nat → Int32) → Prop) (Mst : Nat → Int32) (Mhi : Nat → Int32) (Mhn : Int32) (Msl : Nat → Int32) (Msv : Nat → Int32) (Mpd : Nat → Int32) (Mln : Int32) (Mvf : Nat → Int32) (Mdn : Nat → Int32) (Mlf : Nat → Int32) (Mar : Nat → Int32) (Msa : Nat → Int32) (Msm : Nat → Int32) (Mso : Int32) : ∀ (n : Nat) (Mat : Int32) (Mit : Nat → Int32), wp_X6_findFault_5 P Mpd Mln n Mat Mit → GM zp l ze ({ frames := 3, cells := 0, slots := 0, locals := 67 } : Room) zs zm za zb zt zc D A 1 (pI (fun (r : Int32) (u : Int32 × (Nat → Int32)) => P r u.1 u.2)) (fun u : Int32 × (Nat → Int32) => (wfl [cM qa cI Mst Mhi Mhn Msl Msv Mpd Mln u.1 u.2 Mvf Mdn Mlf Mar Msa Msm Mso])) 0 0 0 0 (wfl [cM qa cI Mst Mhi Mhn Msl Msv Mpd Mln Mat Mit Mvf Mdn Mlf Mar Msa Msm Mso]) [(0, .ref (qa 0))] 5 [] := by
  intro n5
  induction n5 with
  | zero => intro Mat Mit h; exact (show False from h).elim
  | succ n5 ih5 =>
    intro Mat Mit h
    have h : wp_X6_findFault_5F P Mpd Mln (wp_X6_findFault_5 P Mpd Mln n5) Mat Mit := h
    unfold wp_X6_findFault_5F at h
    refine gw_aload_n (pc' := 6) κ dX6_findFault_5 rfl 0 rfl rfl ?_
    refine gb_callV (ci := 6) (qb := 0) (rest := []) κ (c_X6_readsRider qa Mst Mhi Mhn Msl Msv Mpd Mln Mat Mit Mvf Mdn Mlf Mar Msa Msm Mso h) ⟨rfl, rfl, Nat.le_of_ble_eq_true rfl, Nat.le_of_ble_eq_true rfl⟩ tw_ml_X6_197 tw_im_X6_readsRider tw_se_X6_readsRider tw_co_X6_readsRider tw_in_X6 hy_X6_readsRider rfl rfl rfl rfl rfl (Nat.le_of_ble_eq_true rfl) rfl dX6_findFault_6 [0] rfl (by decide) (fun _ => Nat.le_of_ble_eq_true rfl) ⟨Nat.le_of_ble_eq_true rfl, Nat.le_of_ble_eq_true rfl⟩ (fun v u hv => ?_)
    obtain ⟨r_3, rfl, h⟩ := hv
    obtain ⟨Mat_1, Mit_2⟩ := u
    refine gw_nf (ws' := (wfl [cM qa cI Mst Mhi Mhn Msl Msv Mpd Mln Mat_1 Mit_2 Mvf Mdn Mlf Mar Msa Msm Mso])) (lv' := [(0, .ref (qa 0))]) (st' := [.int r_3]) (pc' := 9) (ce' := 0) (sl' := 0) rfl rfl rfl rfl rfl rfl ?_
    refine gw_if_eq (pc' := 12) (tgt := 53) κ dX6_findFault_9 rfl (by decide) (fun hc_4 => ?_) (fun hc_4 => ?_)
    · have h := h.1 hc_4
      refine gw_aload_n (pc' := 54) κ dX6_findFault_53 rfl 0 rfl rfl ?_
      refine gb_get (pc' := 57) (C := RX6) (T := TX6) (N := 16) κ dX6_findFault_54 rfl inX6 0 rfl rfl rfl 7 (by decide) tw_fl_X6_188 rfl ?_
      exact gw_iret κ dX6_findFault_57 (Mat_1, Mit_2) rfl ⟨_, rfl, h⟩
    · have h := h.2 hc_4
      refine gw_aload_n (pc' := 13) κ dX6_findFault_12 rfl 0 rfl rfl ?_
      refine gb_get (pc' := 16) (C := RX6) (T := TX6) (N := 16) κ dX6_findFault_13 rfl inX6 0 rfl rfl rfl 7 (by decide) tw_fl_X6_188 rfl ?_
      refine gw_aload_n (pc' := 17) κ dX6_findFault_16 rfl 0 rfl rfl ?_
      refine gb_get (pc' := 20) (C := RX6) (T := TX6) (N := 16) κ dX6_findFault_17 rfl inX6 0 rfl rfl rfl 6 (by decide) tw_fl_X6_175 rfl ?_
      refine gw_icmp_ne (pc' := 23) (tgt := 26) κ dX6_findFault_20 rfl (by decide) (fun hc_5 => ?_) (fun hc_5 => ?_)
      · have h := h.1 hc_5
        refine gw_aload_n (pc' := 27) κ dX6_findFault_26 rfl 0 rfl rfl ?_
        refine gb_callV (ci := 6) (qb := 0) (rest := []) κ (c_X6_next qa Mst Mhi Mhn Msl Msv Mpd Mln Mat_1 Mit_2 Mvf Mdn Mlf Mar Msa Msm Mso h) ⟨rfl, rfl, Nat.le_of_ble_eq_true rfl, Nat.le_of_ble_eq_true rfl⟩ tw_ml_X6_191 tw_im_X6_next tw_se_X6_next tw_co_X6_next tw_in_X6 hy_X6_next rfl rfl rfl rfl rfl (Nat.le_of_ble_eq_true rfl) rfl dX6_findFault_27 [0] rfl (by decide) (fun _ => Nat.le_of_ble_eq_true rfl) ⟨Nat.le_of_ble_eq_true rfl, Nat.le_of_ble_eq_true rfl⟩ (fun v u hv => ?_)
        obtain ⟨r_6, rfl, h⟩ := hv
        refine gw_nf (ws' := (wfl [cM qa cI Mst Mhi Mhn Msl Msv Mpd Mln Mat_1 Mit_2 Mvf Mdn Mlf Mar Msa Msm Mso])) (lv' := [(0, .ref (qa 0))]) (st' := [.int r_6]) (pc' := 30) (ce' := 0) (sl' := 0) rfl rfl rfl rfl rfl rfl ?_
        refine gw_bipush (pc' := 32) (v := 44) κ dX6_findFault_30 rfl (by decide) ?_
        refine gw_icmp_eq (pc' := 35) (tgt := 40) κ dX6_findFault_32 rfl (by decide) (fun hc_7 => ?_) (fun hc_7 => ?_)
        · have h := h.1 hc_7
          refine gw_aload_n (pc' := 41) κ dX6_findFault_40 rfl 0 rfl rfl ?_
          refine gw_dup (pc' := 42) κ dX6_findFault_41 rfl rfl ?_
          refine gb_get (pc' := 45) (C := RX6) (T := TX6) (N := 16) κ dX6_findFault_42 rfl inX6 0 rfl rfl rfl 7 (by decide) tw_fl_X6_188 rfl ?_
          refine gw_iconst (pc' := 46) (v := 1) κ dX6_findFault_45 rfl (by decide) ?_
          refine gw_iadd (pc' := 47) κ dX6_findFault_46 rfl  ?_
          refine gb_put (pc' := 50) (C := RX6) (T := TX6) (N := 16) (ty := .int) (bs' := [cM qa cI Mst Mhi Mhn Msl Msv Mpd Mln (Mat_1 + (1 : Int32)) Mit_2 Mvf Mdn Mlf Mar Msa Msm Mso]) κ dX6_findFault_47 rfl inX6 tyX6 tyX6_ok nmX6 0 rfl rfl rfl 7 (by decide) tw_fl_X6_188 rfl (by decide +kernel) rfl rfl (Nat.le_of_ble_eq_true rfl) rfl ?_
          refine gw_goto (tgt := 5) κ dX6_findFault_50 (by decide) ?_
          refine gw_lv (lv' := [(0, .ref (qa 0))]) [0] rfl ?_
          exact ih5 (Mat_1 + (1 : Int32)) Mit_2 h
        · have h := h.2 hc_7
          refine gw_aload_n (pc' := 36) κ dX6_findFault_35 rfl 0 rfl rfl ?_
          refine gb_get (pc' := 39) (C := RX6) (T := TX6) (N := 16) κ dX6_findFault_36 rfl inX6 0 rfl rfl rfl 7 (by decide) tw_fl_X6_188 rfl ?_
          exact gw_iret κ dX6_findFault_39 (Mat_1, Mit_2) rfl ⟨_, rfl, h⟩
      · have h := h.2 hc_5
        refine gw_bipush (pc' := 25) (v := -106) κ dX6_findFault_23 rfl (by decide) ?_
        exact gw_iret κ dX6_findFault_25 (Mat_1, Mit_2) rfl ⟨_, rfl, h⟩
set_option maxHeartbeats 4000000 in
set_option maxRecDepth 100000 in
theorem c_X6_findFault {l : Launch} {D : va_G} {cI cR : ClassId}  (qa : Nat → Nat) {P : Int32 → Int32 → (Nat → Int32) → Prop} (Mst : Nat → Int32) (Mhi : Nat → Int32) (Mhn : Int32) (Msl : Nat → Int32) (Msv : Nat → Int32) (Mpd : Nat → Int32) (Mln : Int32) (Mat : Int32) (Mit : Nat → Int32) (Mvf : Nat → Int32) (Mdn : Nat → Int32) (Mlf : Nat → Int32) (Mar : Nat → Int32) (Msa : Nat → Int32) (Msm : Nat → Int32) (Mso : Int32) (h : wp_X6_findFault P Mpd Mln Mat Mit) : CT l D cI cR yX6_findFault cX6_findFault 1 (some .int) ({ frames := 3, cells := 0, slots := 0, locals := 67 } : Room) [.ref (qa 0)] (wfl [cM qa cI Mst Mhi Mhn Msl Msv Mpd Mln Mat Mit Mvf Mdn Mlf Mar Msa Msm Mso]) (fun u : Int32 × (Nat → Int32) => (wfl [cM qa cI Mst Mhi Mhn Msl Msv Mpd Mln u.1 u.2 Mvf Mdn Mlf Mar Msa Msm Mso])) (pI (fun (r : Int32) (u : Int32 × (Nat → Int32)) => P r u.1 u.2)) 0 0 := by
  refine ct_of RX6 rfl (by decide +kernel) (Nat.le_of_ble_eq_true rfl) (fun zp ze zs zm zb zt zc A hin κ => ?_)
  unfold wp_X6_findFault at h
  refine gw_nf (lv' := [(0, .ref (qa 0))]) (pc' := 0) (st' := []) (ce' := 0) (sl' := 0) rfl rfl rfl rfl rfl rfl ?_
  refine gw_aload_n (pc' := 1) κ dX6_findFault_0 rfl 0 rfl rfl ?_
  refine gw_iconst (pc' := 2) (v := 0) κ dX6_findFault_1 rfl (by decide) ?_
  refine gb_put (pc' := 5) (C := RX6) (T := TX6) (N := 16) (ty := .int) (bs' := [cM qa cI Mst Mhi Mhn Msl Msv Mpd Mln (0 : Int32) Mit Mvf Mdn Mlf Mar Msa Msm Mso]) κ dX6_findFault_2 rfl inX6 tyX6 tyX6_ok nmX6 0 rfl rfl rfl 7 (by decide) tw_fl_X6_188 rfl (by decide +kernel) rfl rfl (Nat.le_of_ble_eq_true rfl) rfl ?_
  obtain ⟨m5, h⟩ := h
  refine gw_lv (lv' := [(0, .ref (qa 0))]) [0] rfl ?_
  exact k_X6_findFault_5 κ qa P Mst Mhi Mhn Msl Msv Mpd Mln Mvf Mdn Mlf Mar Msa Msm Mso m5 (0 : Int32) Mit h
theorem hy_X6_ridersOfPad : g_hy yX6_ridersOfPad 0 := by decide +kernel
set_option maxHeartbeats 4000000 in
set_option maxRecDepth 100000 in
theorem k_X6_ridersOfPad_4 {zp : Program} {l : Launch} {ze : Env} {zs : State} {zm : MethodId} {za : Array Value} {zb : List Frame} {zt : Method} {zc : Code} {D : va_G} {cI cR : ClassId} {A : Nat → Prop} (κ : KC zp zs zm za zt zc cX6_ridersOfPad 3 RX6 D cI cR A (some .int)) (qa : Nat → Nat) (P : Int32 → Prop) (Mst : Nat → Int32) (Mhi : Nat → Int32) (Mhn : Int32) (Msl : Nat → Int32) (Msv : Nat → Int32) (Mpd : Nat → Int32) (Mln : Int32) (Mat : Int32) (Mit : Nat → Int32) (Mvf : Nat → Int32) (Mdn : Nat → Int32) (Mlf : Nat → Int32) (Mar : Nat → Int32) (Msa : Nat → Int32) (Msm : Nat → Int32) (Mso : Int32) : ∀ (n : Nat) (v1 : Int32) (v2 : Int32), wp_X6_ridersOfPad_4 P Mpd Mln n v1 v2 → GM zp l ze ({ frames := 0, cells := 0, slots := 0, locals := 0 } : Room) zs zm za zb zt zc D A 3 (pI (fun (r : Int32) (_ : Unit) => P r)) (fun _ : Unit => (wfl [cM qa cI Mst Mhi Mhn Msl Msv Mpd Mln Mat Mit Mvf Mdn Mlf Mar Msa Msm Mso])) 0 0 0 0 (wfl [cM qa cI Mst Mhi Mhn Msl Msv Mpd Mln Mat Mit Mvf Mdn Mlf Mar Msa Msm Mso]) [(0, .ref (qa 0)), (1, .int v1), (2, .int v2)] 4 [] := by
  intro n4
  induction n4 with
  | zero => intro v1 v2 h; exact (show False from h).elim
  | succ n4 ih4 =>
    intro v1 v2 h
    have h : wp_X6_ridersOfPad_4F P Mpd Mln (wp_X6_ridersOfPad_4 P Mpd Mln n4) v1 v2 := h
    unfold wp_X6_ridersOfPad_4F at h
    refine gw_iload_n (pc' := 5) κ dX6_ridersOfPad_4 rfl 2 rfl rfl ?_
    refine gw_aload_n (pc' := 6) κ dX6_ridersOfPad_5 rfl 0 rfl rfl ?_
    refine gb_get (pc' := 9) (C := RX6) (T := TX6) (N := 16) κ dX6_ridersOfPad_6 rfl inX6 0 rfl rfl rfl 6 (by decide) tw_fl_X6_175 rfl ?_
    refine gw_icmp_ge (pc' := 12) (tgt := 37) κ dX6_ridersOfPad_9 rfl (by decide) (fun hc_1 => ?_) (fun hc_1 => ?_)
    · have h := h.1 hc_1
      refine gw_iload_n (pc' := 38) κ dX6_ridersOfPad_37 rfl 1 rfl rfl ?_
      exact gw_iret κ dX6_ridersOfPad_38 () rfl ⟨_, rfl, h⟩
    · have h := h.2 hc_1
      refine gw_iload_n (pc' := 13) κ dX6_ridersOfPad_12 rfl 1 rfl rfl ?_
      refine gw_aload_n (pc' := 14) κ dX6_ridersOfPad_13 rfl 0 rfl rfl ?_
      refine gb_get (pc' := 17) (C := RX6) (T := TX6) (N := 16) κ dX6_ridersOfPad_14 rfl inX6 0 rfl rfl rfl 5 (by decide) tw_fl_X6_22 rfl ?_
      refine gw_iload_n (pc' := 18) κ dX6_ridersOfPad_17 rfl 2 rfl rfl ?_
      obtain ⟨hb_2, h⟩ := h
      refine gb_iald (pc' := 19) κ dX6_ridersOfPad_18 rfl 0 5 rfl rfl hb_2 ?_
      refine gw_bipush (pc' := 21) (v := 44) κ dX6_ridersOfPad_19 rfl (by decide) ?_
      refine gw_icmp_ne (pc' := 24) (tgt := 28) κ dX6_ridersOfPad_21 rfl (by decide) (fun hc_3 => ?_) (fun hc_3 => ?_)
      · have h := h.1 hc_3
        refine gw_iconst (pc' := 29) (v := 0) κ dX6_ridersOfPad_28 rfl (by decide) ?_
        refine gw_iadd (pc' := 30) κ dX6_ridersOfPad_29 rfl  ?_
        refine gw_istore_n (pc' := 31) κ dX6_ridersOfPad_30 rfl rfl (by decide) (lv' := [(1, .int (v1 + (0 : Int32))), (0, .ref (qa 0)), (2, .int v2)]) rfl ?_
        refine gw_iinc (pc' := 34) κ dX6_ridersOfPad_31 rfl 2 rfl (v := (v2 + 1)) rfl (by decide) (lv' := [(2, .int (v2 + 1)), (1, .int (v1 + (0 : Int32))), (0, .ref (qa 0))]) rfl ?_
        refine gw_goto (tgt := 4) κ dX6_ridersOfPad_34 (by decide) ?_
        refine gw_lv (lv' := [(0, .ref (qa 0)), (1, .int (v1 + (0 : Int32))), (2, .int (v2 + 1))]) [2, 1, 0] rfl ?_
        exact ih4 (v1 + (0 : Int32)) (v2 + 1) h
      · have h := h.2 hc_3
        refine gw_iconst (pc' := 25) (v := 1) κ dX6_ridersOfPad_24 rfl (by decide) ?_
        refine gw_goto (tgt := 29) κ dX6_ridersOfPad_25 (by decide) ?_
        refine gw_iadd (pc' := 30) κ dX6_ridersOfPad_29 rfl  ?_
        refine gw_istore_n (pc' := 31) κ dX6_ridersOfPad_30 rfl rfl (by decide) (lv' := [(1, .int (v1 + (1 : Int32))), (0, .ref (qa 0)), (2, .int v2)]) rfl ?_
        refine gw_iinc (pc' := 34) κ dX6_ridersOfPad_31 rfl 2 rfl (v := (v2 + 1)) rfl (by decide) (lv' := [(2, .int (v2 + 1)), (1, .int (v1 + (1 : Int32))), (0, .ref (qa 0))]) rfl ?_
        refine gw_goto (tgt := 4) κ dX6_ridersOfPad_34 (by decide) ?_
        refine gw_lv (lv' := [(0, .ref (qa 0)), (1, .int (v1 + (1 : Int32))), (2, .int (v2 + 1))]) [2, 1, 0] rfl ?_
        exact ih4 (v1 + (1 : Int32)) (v2 + 1) h
set_option maxHeartbeats 4000000 in
set_option maxRecDepth 100000 in
theorem c_X6_ridersOfPad {l : Launch} {D : va_G} {cI cR : ClassId}  (qa : Nat → Nat) {P : Int32 → Prop} (Mst : Nat → Int32) (Mhi : Nat → Int32) (Mhn : Int32) (Msl : Nat → Int32) (Msv : Nat → Int32) (Mpd : Nat → Int32) (Mln : Int32) (Mat : Int32) (Mit : Nat → Int32) (Mvf : Nat → Int32) (Mdn : Nat → Int32) (Mlf : Nat → Int32) (Mar : Nat → Int32) (Msa : Nat → Int32) (Msm : Nat → Int32) (Mso : Int32) (h : wp_X6_ridersOfPad P Mpd Mln) : CT l D cI cR yX6_ridersOfPad cX6_ridersOfPad 3 (some .int) ({ frames := 0, cells := 0, slots := 0, locals := 0 } : Room) [.ref (qa 0)] (wfl [cM qa cI Mst Mhi Mhn Msl Msv Mpd Mln Mat Mit Mvf Mdn Mlf Mar Msa Msm Mso]) (fun _ : Unit => (wfl [cM qa cI Mst Mhi Mhn Msl Msv Mpd Mln Mat Mit Mvf Mdn Mlf Mar Msa Msm Mso])) (pI (fun (r : Int32) (_ : Unit) => P r)) 0 0 := by
  refine ct_of RX6 rfl (by decide +kernel) (Nat.le_of_ble_eq_true rfl) (fun zp ze zs zm zb zt zc A hin κ => ?_)
  unfold wp_X6_ridersOfPad at h
  refine gw_nf (lv' := [(0, .ref (qa 0))]) (pc' := 0) (st' := []) (ce' := 0) (sl' := 0) rfl rfl rfl rfl rfl rfl ?_
  refine gw_iconst (pc' := 1) (v := 1) κ dX6_ridersOfPad_0 rfl (by decide) ?_
  refine gw_istore_n (pc' := 2) κ dX6_ridersOfPad_1 rfl rfl (by decide) (lv' := [(1, .int (1 : Int32)), (0, .ref (qa 0))]) rfl ?_
  refine gw_iconst (pc' := 3) (v := 0) κ dX6_ridersOfPad_2 rfl (by decide) ?_
  refine gw_istore_n (pc' := 4) κ dX6_ridersOfPad_3 rfl rfl (by decide) (lv' := [(2, .int (0 : Int32)), (1, .int (1 : Int32)), (0, .ref (qa 0))]) rfl ?_
  obtain ⟨m4, h⟩ := h
  refine gw_lv (lv' := [(0, .ref (qa 0)), (1, .int (1 : Int32)), (2, .int (0 : Int32))]) [2, 1, 0] rfl ?_
  exact k_X6_ridersOfPad_4 κ qa P Mst Mhi Mhn Msl Msv Mpd Mln Mat Mit Mvf Mdn Mlf Mar Msa Msm Mso m4 (1 : Int32) (0 : Int32) h
theorem hy_X6_read : g_hy yX6_read 0 := by decide +kernel
set_option maxHeartbeats 4000000 in
set_option maxRecDepth 100000 in
theorem k_X6_read_100 {zp : Program} {l : Launch} {ze : Env} {zs : State} {zm : MethodId} {za : Array Value} {zb : List Frame} {zt : Method} {zc : Code} {D : va_G} {cI cR : ClassId} {A : Nat → Prop} (κ : KC zp zs zm za zt zc cX6_read 1 RX6 D cI cR A (some .int)) (qa : Nat → Nat) (P : Int32 → (Nat → Int32) → (Nat → Int32) → Int32 → Int32 → Int32 → (Nat → Int32) → Prop) (Msl : Nat → Int32) (Msv : Nat → Int32) (Mpd : Nat → Int32) (Mvf : Nat → Int32) (Mdn : Nat → Int32) (Mlf : Nat → Int32) (Mar : Nat → Int32) (Msa : Nat → Int32) (Msm : Nat → Int32) (Mso : Int32) (Mst : Nat → Int32) (Mhi : Nat → Int32) (Mhn : Int32) (Mln : Int32) (Mat : Int32) (Mit : Nat → Int32) (h : wp_X6_read_100 P Mpd Mst Mhi Mhn Mln Mat Mit) : GM zp l ze ({ frames := 4, cells := 0, slots := 0, locals := 87 } : Room) zs zm za zb zt zc D A 1 (pI (fun (r : Int32) (u : (Nat → Int32) × (Nat → Int32) × Int32 × Int32 × Int32 × (Nat → Int32)) => P r u.1 u.2.1 u.2.2.1 u.2.2.2.1 u.2.2.2.2.1 u.2.2.2.2.2)) (fun u : (Nat → Int32) × (Nat → Int32) × Int32 × Int32 × Int32 × (Nat → Int32) => (wfl [cM qa cI u.1 u.2.1 u.2.2.1 Msl Msv Mpd u.2.2.2.1 u.2.2.2.2.1 u.2.2.2.2.2 Mvf Mdn Mlf Mar Msa Msm Mso])) 0 0 0 0 (wfl [cM qa cI Mst Mhi Mhn Msl Msv Mpd Mln Mat Mit Mvf Mdn Mlf Mar Msa Msm Mso]) [(0, .ref (qa 0))] 100 [] := by
  unfold wp_X6_read_100 at h
  refine gw_aload_n (pc' := 101) κ dX6_read_100 rfl 0 rfl rfl ?_
  refine gw_iconst (pc' := 102) (v := 0) κ dX6_read_101 rfl (by decide) ?_
  refine gb_put (pc' := 105) (C := RX6) (T := TX6) (N := 16) (ty := .int) (bs' := [cM qa cI Mst Mhi Mhn Msl Msv Mpd (0 : Int32) Mat Mit Mvf Mdn Mlf Mar Msa Msm Mso]) κ dX6_read_102 rfl inX6 tyX6 tyX6_ok nmX6 0 rfl rfl rfl 6 (by decide) tw_fl_X6_175 rfl (by decide +kernel) rfl rfl (Nat.le_of_ble_eq_true rfl) rfl ?_
  refine gw_aload_n (pc' := 106) κ dX6_read_105 rfl 0 rfl rfl ?_
  refine gb_get (pc' := 109) (C := RX6) (T := TX6) (N := 16) κ dX6_read_106 rfl inX6 0 rfl rfl rfl 0 (by decide) tw_fl_X6_7 rfl ?_
  refine gw_bipush (pc' := 111) (v := 33) κ dX6_read_109 rfl (by decide) ?_
  refine gb_iald (pc' := 112) κ dX6_read_111 rfl 0 1 rfl rfl (by unfold vp_in; decide) ?_
  exact gw_iret κ dX6_read_112 (Mst, Mhi, Mhn, (0 : Int32), Mat, Mit) rfl ⟨_, rfl, h⟩
set_option maxHeartbeats 4000000 in
set_option maxRecDepth 100000 in
theorem k_X6_read_41 {zp : Program} {l : Launch} {ze : Env} {zs : State} {zm : MethodId} {za : Array Value} {zb : List Frame} {zt : Method} {zc : Code} {D : va_G} {cI cR : ClassId} {A : Nat → Prop} (κ : KC zp zs zm za zt zc cX6_read 1 RX6 D cI cR A (some .int)) (qa : Nat → Nat) (P : Int32 → (Nat → Int32) → (Nat → Int32) → Int32 → Int32 → Int32 → (Nat → Int32) → Prop) (Msl : Nat → Int32) (Msv : Nat → Int32) (Mpd : Nat → Int32) (Mvf : Nat → Int32) (Mdn : Nat → Int32) (Mlf : Nat → Int32) (Mar : Nat → Int32) (Msa : Nat → Int32) (Msm : Nat → Int32) (Mso : Int32) (Mhi : Nat → Int32) (Mhn : Int32) (Mln : Int32) : ∀ (n : Nat) (Mst : Nat → Int32) (Mat : Int32) (Mit : Nat → Int32), wp_X6_read_41 P Mpd Mhi Mhn Mln n Mst Mat Mit → GM zp l ze ({ frames := 4, cells := 0, slots := 0, locals := 87 } : Room) zs zm za zb zt zc D A 1 (pI (fun (r : Int32) (u : (Nat → Int32) × (Nat → Int32) × Int32 × Int32 × Int32 × (Nat → Int32)) => P r u.1 u.2.1 u.2.2.1 u.2.2.2.1 u.2.2.2.2.1 u.2.2.2.2.2)) (fun u : (Nat → Int32) × (Nat → Int32) × Int32 × Int32 × Int32 × (Nat → Int32) => (wfl [cM qa cI u.1 u.2.1 u.2.2.1 Msl Msv Mpd u.2.2.2.1 u.2.2.2.2.1 u.2.2.2.2.2 Mvf Mdn Mlf Mar Msa Msm Mso])) 0 0 0 0 (wfl [cM qa cI Mst Mhi Mhn Msl Msv Mpd Mln Mat Mit Mvf Mdn Mlf Mar Msa Msm Mso]) [(0, .ref (qa 0))] 41 [] := by
  intro n41
  induction n41 with
  | zero => intro Mst Mat Mit h; exact (show False from h).elim
  | succ n41 ih41 =>
    intro Mst Mat Mit h
    have h : wp_X6_read_41F P Mpd Mhi Mhn Mln (wp_X6_read_41 P Mpd Mhi Mhn Mln n41) Mst Mat Mit := h
    unfold wp_X6_read_41F at h
    refine gw_aload_n (pc' := 42) κ dX6_read_41 rfl 0 rfl rfl ?_
    refine gb_get (pc' := 45) (C := RX6) (T := TX6) (N := 16) κ dX6_read_42 rfl inX6 0 rfl rfl rfl 7 (by decide) tw_fl_X6_188 rfl ?_
    refine gw_aload_n (pc' := 46) κ dX6_read_45 rfl 0 rfl rfl ?_
    refine gb_get (pc' := 49) (C := RX6) (T := TX6) (N := 16) κ dX6_read_46 rfl inX6 0 rfl rfl rfl 6 (by decide) tw_fl_X6_175 rfl ?_
    refine gw_icmp_ge (pc' := 52) (tgt := 100) κ dX6_read_49 rfl (by decide) (fun hc_10 => ?_) (fun hc_10 => ?_)
    · have h := h.1 hc_10
      refine gw_lv (lv' := [(0, .ref (qa 0))]) [0] rfl ?_
      exact k_X6_read_100 κ qa P Msl Msv Mpd Mvf Mdn Mlf Mar Msa Msm Mso Mst Mhi Mhn Mln Mat Mit h
    · have h := h.2 hc_10
      refine gw_aload_n (pc' := 53) κ dX6_read_52 rfl 0 rfl rfl ?_
      refine gb_callV (ci := 6) (qb := 0) (rest := []) κ (c_X6_readsRider qa Mst Mhi Mhn Msl Msv Mpd Mln Mat Mit Mvf Mdn Mlf Mar Msa Msm Mso h) ⟨rfl, rfl, Nat.le_of_ble_eq_true rfl, Nat.le_of_ble_eq_true rfl⟩ tw_ml_X6_197 tw_im_X6_readsRider tw_se_X6_readsRider tw_co_X6_readsRider tw_in_X6 hy_X6_readsRider rfl rfl rfl rfl rfl (Nat.le_of_ble_eq_true rfl) rfl dX6_read_53 [0] rfl (by decide) (fun _ => Nat.le_of_ble_eq_true rfl) ⟨Nat.le_of_ble_eq_true rfl, Nat.le_of_ble_eq_true rfl⟩ (fun v u hv => ?_)
      obtain ⟨r_13, rfl, h⟩ := hv
      obtain ⟨Mat_11, Mit_12⟩ := u
      refine gw_nf (ws' := (wfl [cM qa cI Mst Mhi Mhn Msl Msv Mpd Mln Mat_11 Mit_12 Mvf Mdn Mlf Mar Msa Msm Mso])) (lv' := [(0, .ref (qa 0))]) (st' := [.int r_13]) (pc' := 56) (ce' := 0) (sl' := 0) rfl rfl rfl rfl rfl rfl ?_
      refine gw_if_eq (pc' := 59) (tgt := 100) κ dX6_read_56 rfl (by decide) (fun hc_14 => ?_) (fun hc_14 => ?_)
      · have h := h.1 hc_14
        refine gw_lv (lv' := [(0, .ref (qa 0))]) [0] rfl ?_
        exact k_X6_read_100 κ qa P Msl Msv Mpd Mvf Mdn Mlf Mar Msa Msm Mso Mst Mhi Mhn Mln Mat_11 Mit_12 h
      · have h := h.2 hc_14
        refine gw_aload_n (pc' := 60) κ dX6_read_59 rfl 0 rfl rfl ?_
        refine gw_aload_n (pc' := 61) κ dX6_read_60 rfl 0 rfl rfl ?_
        refine gb_get (pc' := 64) (C := RX6) (T := TX6) (N := 16) κ dX6_read_61 rfl inX6 0 rfl rfl rfl 8 (by decide) tw_fl_X6_25 rfl ?_
        refine gw_iconst (pc' := 65) (v := 0) κ dX6_read_64 rfl (by decide) ?_
        refine gb_iald (pc' := 66) κ dX6_read_65 rfl 0 6 rfl rfl (by unfold vp_in; decide) ?_
        refine gw_aload_n (pc' := 67) κ dX6_read_66 rfl 0 rfl rfl ?_
        refine gb_get (pc' := 70) (C := RX6) (T := TX6) (N := 16) κ dX6_read_67 rfl inX6 0 rfl rfl rfl 8 (by decide) tw_fl_X6_25 rfl ?_
        refine gw_iconst (pc' := 71) (v := 1) κ dX6_read_70 rfl (by decide) ?_
        refine gb_iald (pc' := 72) κ dX6_read_71 rfl 0 6 rfl rfl (by unfold vp_in; decide) ?_
        refine gw_aload_n (pc' := 73) κ dX6_read_72 rfl 0 rfl rfl ?_
        refine gb_get (pc' := 76) (C := RX6) (T := TX6) (N := 16) κ dX6_read_73 rfl inX6 0 rfl rfl rfl 8 (by decide) tw_fl_X6_25 rfl ?_
        refine gw_iconst (pc' := 77) (v := 2) κ dX6_read_76 rfl (by decide) ?_
        refine gb_iald (pc' := 78) κ dX6_read_77 rfl 0 6 rfl rfl (by unfold vp_in; decide) ?_
        refine gw_aload_n (pc' := 79) κ dX6_read_78 rfl 0 rfl rfl ?_
        refine gb_get (pc' := 82) (C := RX6) (T := TX6) (N := 16) κ dX6_read_79 rfl inX6 0 rfl rfl rfl 8 (by decide) tw_fl_X6_25 rfl ?_
        refine gw_iconst (pc' := 83) (v := 3) κ dX6_read_82 rfl (by decide) ?_
        refine gb_iald (pc' := 84) κ dX6_read_83 rfl 0 6 rfl rfl (by unfold vp_in; decide) ?_
        refine gb_callV (ci := 6) (qb := 0) (rest := []) κ (c_X6_add qa Mst Mhi Mhn Msl Msv Mpd Mln Mat_11 Mit_12 Mvf Mdn Mlf Mar Msa Msm Mso (Mit_12 (0 : Int32).toNatClampNeg) (Mit_12 (1 : Int32).toNatClampNeg) (Mit_12 (2 : Int32).toNatClampNeg) (Mit_12 (3 : Int32).toNatClampNeg) h) ⟨rfl, rfl, Nat.le_of_ble_eq_true rfl, Nat.le_of_ble_eq_true rfl⟩ tw_ml_X6_119 tw_im_X6_add tw_se_X6_add tw_co_X6_add tw_in_X6 hy_X6_add rfl rfl rfl rfl rfl (Nat.le_of_ble_eq_true rfl) rfl dX6_read_84 [0] rfl (by decide) (fun _ => Nat.le_of_ble_eq_true rfl) ⟨Nat.le_of_ble_eq_true rfl, Nat.le_of_ble_eq_true rfl⟩ (fun v Mst_19 hv => ?_)
        obtain ⟨rfl, h⟩ := hv
        refine gw_nf (ws' := (wfl [cM qa cI Mst_19 Mhi Mhn Msl Msv Mpd Mln Mat_11 Mit_12 Mvf Mdn Mlf Mar Msa Msm Mso])) (lv' := [(0, .ref (qa 0))]) (st' := []) (pc' := 87) (ce' := 0) (sl' := 0) rfl rfl rfl rfl rfl rfl ?_
        refine gw_aload_n (pc' := 88) κ dX6_read_87 rfl 0 rfl rfl ?_
        refine gw_dup (pc' := 89) κ dX6_read_88 rfl rfl ?_
        refine gb_get (pc' := 92) (C := RX6) (T := TX6) (N := 16) κ dX6_read_89 rfl inX6 0 rfl rfl rfl 7 (by decide) tw_fl_X6_188 rfl ?_
        refine gw_iconst (pc' := 93) (v := 1) κ dX6_read_92 rfl (by decide) ?_
        refine gw_iadd (pc' := 94) κ dX6_read_93 rfl  ?_
        refine gb_put (pc' := 97) (C := RX6) (T := TX6) (N := 16) (ty := .int) (bs' := [cM qa cI Mst_19 Mhi Mhn Msl Msv Mpd Mln (Mat_11 + (1 : Int32)) Mit_12 Mvf Mdn Mlf Mar Msa Msm Mso]) κ dX6_read_94 rfl inX6 tyX6 tyX6_ok nmX6 0 rfl rfl rfl 7 (by decide) tw_fl_X6_188 rfl (by decide +kernel) rfl rfl (Nat.le_of_ble_eq_true rfl) rfl ?_
        refine gw_goto (tgt := 41) κ dX6_read_97 (by decide) ?_
        refine gw_lv (lv' := [(0, .ref (qa 0))]) [0] rfl ?_
        exact ih41 Mst_19 (Mat_11 + (1 : Int32)) Mit_12 h
set_option maxHeartbeats 4000000 in
set_option maxRecDepth 100000 in
theorem c_X6_read {l : Launch} {D : va_G} {cI cR : ClassId}  (qa : Nat → Nat) {P : Int32 → (Nat → Int32) → (Nat → Int32) → Int32 → Int32 → Int32 → (Nat → Int32) → Prop} (Mst : Nat → Int32) (Mhi : Nat → Int32) (Mhn : Int32) (Msl : Nat → Int32) (Msv : Nat → Int32) (Mpd : Nat → Int32) (Mln : Int32) (Mat : Int32) (Mit : Nat → Int32) (Mvf : Nat → Int32) (Mdn : Nat → Int32) (Mlf : Nat → Int32) (Mar : Nat → Int32) (Msa : Nat → Int32) (Msm : Nat → Int32) (Mso : Int32) (h : wp_X6_read P Mst Mhi Mhn Mpd Mln Mat Mit) : CT l D cI cR yX6_read cX6_read 1 (some .int) ({ frames := 4, cells := 0, slots := 0, locals := 87 } : Room) [.ref (qa 0)] (wfl [cM qa cI Mst Mhi Mhn Msl Msv Mpd Mln Mat Mit Mvf Mdn Mlf Mar Msa Msm Mso]) (fun u : (Nat → Int32) × (Nat → Int32) × Int32 × Int32 × Int32 × (Nat → Int32) => (wfl [cM qa cI u.1 u.2.1 u.2.2.1 Msl Msv Mpd u.2.2.2.1 u.2.2.2.2.1 u.2.2.2.2.2 Mvf Mdn Mlf Mar Msa Msm Mso])) (pI (fun (r : Int32) (u : (Nat → Int32) × (Nat → Int32) × Int32 × Int32 × Int32 × (Nat → Int32)) => P r u.1 u.2.1 u.2.2.1 u.2.2.2.1 u.2.2.2.2.1 u.2.2.2.2.2)) 0 0 := by
  refine ct_of RX6 rfl (by decide +kernel) (Nat.le_of_ble_eq_true rfl) (fun zp ze zs zm zb zt zc A hin κ => ?_)
  unfold wp_X6_read at h
  refine gw_nf (lv' := [(0, .ref (qa 0))]) (pc' := 0) (st' := []) (ce' := 0) (sl' := 0) rfl rfl rfl rfl rfl rfl ?_
  refine gw_aload_n (pc' := 1) κ dX6_read_0 rfl 0 rfl rfl ?_
  refine gb_callV (ci := 6) (qb := 0) (rest := []) κ (c_X6_findFault qa Mst Mhi Mhn Msl Msv Mpd Mln Mat Mit Mvf Mdn Mlf Mar Msa Msm Mso h) ⟨rfl, rfl, Nat.le_of_ble_eq_true rfl, Nat.le_of_ble_eq_true rfl⟩ tw_ml_X6_201 tw_im_X6_findFault tw_se_X6_findFault tw_co_X6_findFault tw_in_X6 hy_X6_findFault rfl rfl rfl rfl rfl (Nat.le_of_ble_eq_true rfl) rfl dX6_read_1 [0] rfl (by decide) (fun _ => Nat.le_of_ble_eq_true rfl) ⟨Nat.le_of_ble_eq_true rfl, Nat.le_of_ble_eq_true rfl⟩ (fun v u hv => ?_)
  obtain ⟨r_3, rfl, h⟩ := hv
  obtain ⟨Mat_1, Mit_2⟩ := u
  refine gw_nf (ws' := (wfl [cM qa cI Mst Mhi Mhn Msl Msv Mpd Mln Mat_1 Mit_2 Mvf Mdn Mlf Mar Msa Msm Mso])) (lv' := [(0, .ref (qa 0))]) (st' := [.int r_3]) (pc' := 4) (ce' := 0) (sl' := 0) rfl rfl rfl rfl rfl rfl ?_
  refine gw_bipush (pc' := 6) (v := -106) κ dX6_read_4 rfl (by decide) ?_
  refine gw_icmp_eq (pc' := 9) (tgt := 12) κ dX6_read_6 rfl (by decide) (fun hc_4 => ?_) (fun hc_4 => ?_)
  · have h := h.1 hc_4
    refine gw_aload_n (pc' := 13) κ dX6_read_12 rfl 0 rfl rfl ?_
    refine gb_get (pc' := 16) (C := RX6) (T := TX6) (N := 16) κ dX6_read_13 rfl inX6 0 rfl rfl rfl 0 (by decide) tw_fl_X6_7 rfl ?_
    refine gw_bipush (pc' := 18) (v := 33) κ dX6_read_16 rfl (by decide) ?_
    refine gb_iald (pc' := 19) κ dX6_read_18 rfl 0 1 rfl rfl (by unfold vp_in; decide) ?_
    refine gw_aload_n (pc' := 20) κ dX6_read_19 rfl 0 rfl rfl ?_
    refine gb_callV (ci := 6) (qb := 0) (rest := [.int (Mst (33 : Int32).toNatClampNeg)]) κ (c_X6_ridersOfPad qa Mst Mhi Mhn Msl Msv Mpd Mln Mat_1 Mit_2 Mvf Mdn Mlf Mar Msa Msm Mso h) ⟨rfl, rfl, Nat.le_of_ble_eq_true rfl, Nat.le_of_ble_eq_true rfl⟩ tw_ml_X6_204 tw_im_X6_ridersOfPad tw_se_X6_ridersOfPad tw_co_X6_ridersOfPad tw_in_X6 hy_X6_ridersOfPad rfl rfl rfl rfl rfl (Nat.le_of_ble_eq_true rfl) rfl dX6_read_20 [0] rfl (by decide) (fun _ => Nat.le_of_ble_eq_true rfl) ⟨Nat.le_of_ble_eq_true rfl, Nat.le_of_ble_eq_true rfl⟩ (fun v u hv => ?_)
    obtain ⟨r_6, rfl, h⟩ := hv
    refine gw_nf (ws' := (wfl [cM qa cI Mst Mhi Mhn Msl Msv Mpd Mln Mat_1 Mit_2 Mvf Mdn Mlf Mar Msa Msm Mso])) (lv' := [(0, .ref (qa 0))]) (st' := [.int r_6, .int (Mst (33 : Int32).toNatClampNeg)]) (pc' := 23) (ce' := 0) (sl' := 0) rfl rfl rfl rfl rfl rfl ?_
    refine gw_iadd (pc' := 24) κ dX6_read_23 rfl  ?_
    refine gw_bipush (pc' := 26) (v := 24) κ dX6_read_24 rfl (by decide) ?_
    refine gw_icmp_le (pc' := 29) (tgt := 32) κ dX6_read_26 rfl (by decide) (fun hc_7 => ?_) (fun hc_7 => ?_)
    · have h := h.1 hc_7
      refine gw_aload_n (pc' := 33) κ dX6_read_32 rfl 0 rfl rfl ?_
      refine gb_callV (ci := 6) (qb := 0) (rest := []) κ (c_X6_record qa Mst Mhi Mhn Msl Msv Mpd Mln Mat_1 Mit_2 Mvf Mdn Mlf Mar Msa Msm Mso h) ⟨rfl, rfl, Nat.le_of_ble_eq_true rfl, Nat.le_of_ble_eq_true rfl⟩ tw_ml_X6_54 tw_im_X6_record tw_se_X6_record tw_co_X6_record tw_in_X6 hy_X6_record rfl rfl rfl rfl rfl (Nat.le_of_ble_eq_true rfl) rfl dX6_read_33 [0] rfl (by decide) (fun _ => Nat.le_of_ble_eq_true rfl) ⟨Nat.le_of_ble_eq_true rfl, Nat.le_of_ble_eq_true rfl⟩ (fun v u hv => ?_)
      obtain ⟨rfl, h⟩ := hv
      obtain ⟨Mhi_8, Mhn_9⟩ := u
      refine gw_nf (ws' := (wfl [cM qa cI Mst Mhi_8 Mhn_9 Msl Msv Mpd Mln Mat_1 Mit_2 Mvf Mdn Mlf Mar Msa Msm Mso])) (lv' := [(0, .ref (qa 0))]) (st' := []) (pc' := 36) (ce' := 0) (sl' := 0) rfl rfl rfl rfl rfl rfl ?_
      refine gw_aload_n (pc' := 37) κ dX6_read_36 rfl 0 rfl rfl ?_
      refine gw_iconst (pc' := 38) (v := 0) κ dX6_read_37 rfl (by decide) ?_
      refine gb_put (pc' := 41) (C := RX6) (T := TX6) (N := 16) (ty := .int) (bs' := [cM qa cI Mst Mhi_8 Mhn_9 Msl Msv Mpd Mln (0 : Int32) Mit_2 Mvf Mdn Mlf Mar Msa Msm Mso]) κ dX6_read_38 rfl inX6 tyX6 tyX6_ok nmX6 0 rfl rfl rfl 7 (by decide) tw_fl_X6_188 rfl (by decide +kernel) rfl rfl (Nat.le_of_ble_eq_true rfl) rfl ?_
      obtain ⟨m41, h⟩ := h
      refine gw_lv (lv' := [(0, .ref (qa 0))]) [0] rfl ?_
      exact k_X6_read_41 κ qa P Msl Msv Mpd Mvf Mdn Mlf Mar Msa Msm Mso Mhi_8 Mhn_9 Mln m41 Mst (0 : Int32) Mit_2 h
    · have h := h.2 hc_7
      refine gw_bipush (pc' := 31) (v := -104) κ dX6_read_29 rfl (by decide) ?_
      exact gw_iret κ dX6_read_31 (Mst, Mhi, Mhn, Mln, Mat_1, Mit_2) rfl ⟨_, rfl, h⟩
  · have h := h.2 hc_4
    refine gw_bipush (pc' := 11) (v := -103) κ dX6_read_9 rfl (by decide) ?_
    exact gw_iret κ dX6_read_11 (Mst, Mhi, Mhn, Mln, Mat_1, Mit_2) rfl ⟨_, rfl, h⟩
theorem hy_X6_fault : g_hy yX6_fault 0 := by decide +kernel
set_option maxHeartbeats 4000000 in
set_option maxRecDepth 100000 in
theorem c_X6_fault {l : Launch} {D : va_G} {cI cR : ClassId}  (qa : Nat → Nat) {P : Int32 → Int32 → (Nat → Int32) → Prop} (Mst : Nat → Int32) (Mhi : Nat → Int32) (Mhn : Int32) (Msl : Nat → Int32) (Msv : Nat → Int32) (Mpd : Nat → Int32) (Mln : Int32) (Mat : Int32) (Mit : Nat → Int32) (Mvf : Nat → Int32) (Mdn : Nat → Int32) (Mlf : Nat → Int32) (Mar : Nat → Int32) (Msa : Nat → Int32) (Msm : Nat → Int32) (Mso : Int32) (h : wp_X6_fault P Mpd Mln Mat Mit) : CT l D cI cR yX6_fault cX6_fault 1 (some .int) ({ frames := 4, cells := 0, slots := 0, locals := 87 } : Room) [.ref (qa 0)] (wfl [cM qa cI Mst Mhi Mhn Msl Msv Mpd Mln Mat Mit Mvf Mdn Mlf Mar Msa Msm Mso]) (fun u : Int32 × (Nat → Int32) => (wfl [cM qa cI Mst Mhi Mhn Msl Msv Mpd Mln u.1 u.2 Mvf Mdn Mlf Mar Msa Msm Mso])) (pI (fun (r : Int32) (u : Int32 × (Nat → Int32)) => P r u.1 u.2)) 0 0 := by
  refine ct_of RX6 rfl (by decide +kernel) (Nat.le_of_ble_eq_true rfl) (fun zp ze zs zm zb zt zc A hin κ => ?_)
  unfold wp_X6_fault at h
  refine gw_nf (lv' := [(0, .ref (qa 0))]) (pc' := 0) (st' := []) (ce' := 0) (sl' := 0) rfl rfl rfl rfl rfl rfl ?_
  refine gw_aload_n (pc' := 1) κ dX6_fault_0 rfl 0 rfl rfl ?_
  refine gb_callV (ci := 6) (qb := 0) (rest := []) κ (c_X6_findFault qa Mst Mhi Mhn Msl Msv Mpd Mln Mat Mit Mvf Mdn Mlf Mar Msa Msm Mso h) ⟨rfl, rfl, Nat.le_of_ble_eq_true rfl, Nat.le_of_ble_eq_true rfl⟩ tw_ml_X6_201 tw_im_X6_findFault tw_se_X6_findFault tw_co_X6_findFault tw_in_X6 hy_X6_findFault rfl rfl rfl rfl rfl (Nat.le_of_ble_eq_true rfl) rfl dX6_fault_1 [0] rfl (by decide) (fun _ => Nat.le_of_ble_eq_true rfl) ⟨Nat.le_of_ble_eq_true rfl, Nat.le_of_ble_eq_true rfl⟩ (fun v u hv => ?_)
  obtain ⟨r_3, rfl, h⟩ := hv
  obtain ⟨Mat_1, Mit_2⟩ := u
  refine gw_nf (ws' := (wfl [cM qa cI Mst Mhi Mhn Msl Msv Mpd Mln Mat_1 Mit_2 Mvf Mdn Mlf Mar Msa Msm Mso])) (lv' := [(0, .ref (qa 0))]) (st' := [.int r_3]) (pc' := 4) (ce' := 0) (sl' := 0) rfl rfl rfl rfl rfl rfl ?_
  exact gw_iret κ dX6_fault_4 (Mat_1, Mit_2) rfl ⟨_, rfl, h⟩
