theorem hy_X6_tellsDriven : g_hy yX6_tellsDriven 2 := by decide +kernel
set_option maxHeartbeats 4000000 in
set_option maxRecDepth 100000 in
theorem c_X6_tellsDriven {l : Launch} {D : va_G} {cI cR : ClassId}  (qa : Nat → Nat) {P : Int32 → (Nat → Int32) → (Nat → Int32) → Int32 → Prop} (Mst : Nat → Int32) (Mhi : Nat → Int32) (Mhn : Int32) (Msl : Nat → Int32) (Msv : Nat → Int32) (Mpd : Nat → Int32) (Mln : Int32) (Mat : Int32) (Mit : Nat → Int32) (Mvf : Nat → Int32) (Mdn : Nat → Int32) (Mlf : Nat → Int32) (Mar : Nat → Int32) (Msa : Nat → Int32) (Msm : Nat → Int32) (Mso : Int32) (x1 : Int32) (x2 : Int32) (h : wp_X6_tellsDriven P Mst Mvf Msa Msm Mso x1 x2) : CT l D cI cR yX6_tellsDriven cX6_tellsDriven 4 (some .int) ({ frames := 4, cells := 0, slots := 0, locals := 92 } : Room) [.ref (qa 0), .int x1, .int x2] (wfl [cM qa cI Mst Mhi Mhn Msl Msv Mpd Mln Mat Mit Mvf Mdn Mlf Mar Msa Msm Mso]) (fun u : (Nat → Int32) × (Nat → Int32) × Int32 => (wfl [cM qa cI Mst Mhi Mhn Msl Msv Mpd Mln Mat Mit Mvf Mdn Mlf Mar u.1 u.2.1 u.2.2])) (pI (fun (r : Int32) (u : (Nat → Int32) × (Nat → Int32) × Int32) => P r u.1 u.2.1 u.2.2)) 0 0 := by
  refine ct_of RX6 rfl (by decide +kernel) (Nat.le_of_ble_eq_true rfl) (fun zp ze zs zm zb zt zc A hin κ => ?_)
  unfold wp_X6_tellsDriven at h
  refine gw_nf (lv' := [(0, .ref (qa 0)), (1, .int x1), (2, .int x2)]) (pc' := 0) (st' := []) (ce' := 0) (sl' := 0) rfl rfl rfl rfl rfl rfl ?_
  refine gw_aload_n (pc' := 1) κ dX6_tellsDriven_0 rfl 0 rfl rfl ?_
  refine gb_get (pc' := 4) (C := RX6) (T := TX6) (N := 16) κ dX6_tellsDriven_1 rfl inX6 0 rfl rfl rfl 9 (by decide) tw_fl_X6_28 rfl ?_
  refine gw_iload_n (pc' := 5) κ dX6_tellsDriven_4 rfl 1 rfl rfl ?_
  obtain ⟨hb_1, h⟩ := h
  refine gb_iald (pc' := 6) κ dX6_tellsDriven_5 rfl 0 7 rfl rfl hb_1 ?_
  refine gw_istore_n (pc' := 7) κ dX6_tellsDriven_6 rfl rfl (by decide) (lv' := [(3, .int (Mvf x1.toNatClampNeg)), (0, .ref (qa 0)), (1, .int x1), (2, .int x2)]) rfl ?_
  refine gw_iload_n (pc' := 8) κ dX6_tellsDriven_7 rfl 3 rfl rfl ?_
  refine gw_bipush (pc' := 10) (v := 6) κ dX6_tellsDriven_8 rfl (by decide) ?_
  refine gw_icmp_ne (pc' := 13) (tgt := 31) κ dX6_tellsDriven_10 rfl (by decide) (fun hc_2 => ?_) (fun hc_2 => ?_)
  · have h := h.1 hc_2
    refine gw_iload_n (pc' := 32) κ dX6_tellsDriven_31 rfl 3 rfl rfl ?_
    refine gw_bipush (pc' := 34) (v := 7) κ dX6_tellsDriven_32 rfl (by decide) ?_
    refine gw_icmp_ne (pc' := 37) (tgt := 50) κ dX6_tellsDriven_34 rfl (by decide) (fun hc_3 => ?_) (fun hc_3 => ?_)
    · have h := h.1 hc_3
      refine gw_aload_n (pc' := 51) κ dX6_tellsDriven_50 rfl 1 rfl rfl ?_
      refine gw_iload_n (pc' := 52) κ dX6_tellsDriven_51 rfl 2 rfl rfl ?_
      refine gb_callV (ci := 6) (qb := 0) (rest := []) κ (c_X6_sharing qa Mst Mhi Mhn Msl Msv Mpd Mln Mat Mit Mvf Mdn Mlf Mar Msa Msm Mso x1 h) ⟨rfl, rfl, Nat.le_of_ble_eq_true rfl, Nat.le_of_ble_eq_true rfl⟩ tw_ml_X6_132 tw_im_X6_sharing tw_se_X6_sharing tw_co_X6_sharing tw_in_X6 hy_X6_sharing rfl rfl rfl rfl rfl (Nat.le_of_ble_eq_true rfl) rfl dX6_tellsDriven_52 [0] rfl (by decide) (fun _ => Nat.le_of_ble_eq_true rfl) ⟨Nat.le_of_ble_eq_true rfl, Nat.le_of_ble_eq_true rfl⟩ (fun v u hv => ?_)
      obtain ⟨r_4, rfl, h⟩ := hv
      refine gw_nf (ws' := (wfl [cM qa cI Mst Mhi Mhn Msl Msv Mpd Mln Mat Mit Mvf Mdn Mlf Mar Msa Msm Mso])) (lv' := [(3, .int (Mvf x1.toNatClampNeg)), (0, .ref (qa 0)), (1, .int x1), (2, .int x2)]) (st' := [.int r_4]) (pc' := 55) (ce' := 0) (sl' := 0) rfl rfl rfl rfl rfl rfl ?_
      exact gw_iret κ dX6_tellsDriven_55 (Msa, Msm, Mso) rfl ⟨_, rfl, h⟩
    · have h := h.2 hc_3
      refine gw_aload_n (pc' := 38) κ dX6_tellsDriven_37 rfl 1 rfl rfl ?_
      refine gw_iload_n (pc' := 39) κ dX6_tellsDriven_38 rfl 0 rfl rfl ?_
      refine gw_aload_n (pc' := 40) κ dX6_tellsDriven_39 rfl 1 rfl rfl ?_
      refine gw_iload_n (pc' := 41) κ dX6_tellsDriven_40 rfl 2 rfl rfl ?_
      refine gb_callV (ci := 6) (qb := 0) (rest := [.int (Mvf x1.toNatClampNeg), .ref (qa 0)]) κ (c_X6_keyOf qa Mst Mhi Mhn Msl Msv Mpd Mln Mat Mit Mvf Mdn Mlf Mar Msa Msm Mso x1 h) ⟨rfl, rfl, Nat.le_of_ble_eq_true rfl, Nat.le_of_ble_eq_true rfl⟩ tw_ml_X6_85 tw_im_X6_keyOf tw_se_X6_keyOf tw_co_X6_keyOf tw_in_X6 hy_X6_keyOf rfl rfl rfl rfl rfl (Nat.le_of_ble_eq_true rfl) rfl dX6_tellsDriven_41 [0] rfl (by decide) (fun _ => Nat.le_of_ble_eq_true rfl) ⟨Nat.le_of_ble_eq_true rfl, Nat.le_of_ble_eq_true rfl⟩ (fun v u hv => ?_)
      obtain ⟨r_5, rfl, h⟩ := hv
      refine gw_nf (ws' := (wfl [cM qa cI Mst Mhi Mhn Msl Msv Mpd Mln Mat Mit Mvf Mdn Mlf Mar Msa Msm Mso])) (lv' := [(3, .int (Mvf x1.toNatClampNeg)), (0, .ref (qa 0)), (1, .int x1), (2, .int x2)]) (st' := [.int r_5, .int (Mvf x1.toNatClampNeg), .ref (qa 0)]) (pc' := 44) (ce' := 0) (sl' := 0) rfl rfl rfl rfl rfl rfl ?_
      refine gb_callV (ci := 6) (qb := 0) (rest := []) κ (c_X6_minuteAt qa Mst Mhi Mhn Msl Msv Mpd Mln Mat Mit Mvf Mdn Mlf Mar Msa Msm Mso (Mvf x1.toNatClampNeg) r_5 h) ⟨rfl, rfl, Nat.le_of_ble_eq_true rfl, Nat.le_of_ble_eq_true rfl⟩ tw_ml_X6_129 tw_im_X6_minuteAt tw_se_X6_minuteAt tw_co_X6_minuteAt tw_in_X6 hy_X6_minuteAt rfl rfl rfl rfl rfl (Nat.le_of_ble_eq_true rfl) rfl dX6_tellsDriven_44 [0] rfl (by decide) (fun _ => Nat.le_of_ble_eq_true rfl) ⟨Nat.le_of_ble_eq_true rfl, Nat.le_of_ble_eq_true rfl⟩ (fun v u hv => ?_)
      obtain ⟨r_9, rfl, h⟩ := hv
      obtain ⟨Msa_6, Msm_7, Mso_8⟩ := u
      refine gw_nf (ws' := (wfl [cM qa cI Mst Mhi Mhn Msl Msv Mpd Mln Mat Mit Mvf Mdn Mlf Mar Msa_6 Msm_7 Mso_8])) (lv' := [(3, .int (Mvf x1.toNatClampNeg)), (0, .ref (qa 0)), (1, .int x1), (2, .int x2)]) (st' := [.int r_9]) (pc' := 47) (ce' := 0) (sl' := 0) rfl rfl rfl rfl rfl rfl ?_
      refine gw_goto (tgt := 55) κ dX6_tellsDriven_47 (by decide) ?_
      exact gw_iret κ dX6_tellsDriven_55 (Msa_6, Msm_7, Mso_8) rfl ⟨_, rfl, h⟩
  · have h := h.2 hc_2
    refine gw_aload_n (pc' := 14) κ dX6_tellsDriven_13 rfl 1 rfl rfl ?_
    refine gb_get (pc' := 17) (C := RX6) (T := TX6) (N := 16) κ dX6_tellsDriven_14 rfl inX6 0 rfl rfl rfl 0 (by decide) tw_fl_X6_7 rfl ?_
    refine gw_bipush (pc' := 19) (v := 17) κ dX6_tellsDriven_17 rfl (by decide) ?_
    refine gw_iload_n (pc' := 20) κ dX6_tellsDriven_19 rfl 0 rfl rfl ?_
    refine gw_iadd (pc' := 21) κ dX6_tellsDriven_20 rfl  ?_
    obtain ⟨hb_10, h⟩ := h
    refine gb_iald (pc' := 22) κ dX6_tellsDriven_21 rfl 0 1 rfl rfl hb_10 ?_
    refine gw_aload_n (pc' := 23) κ dX6_tellsDriven_22 rfl 1 rfl rfl ?_
    refine gw_iload_n (pc' := 24) κ dX6_tellsDriven_23 rfl 2 rfl rfl ?_
    refine gb_callV (ci := 6) (qb := 0) (rest := [.int (Mst ((17 : Int32) + (Mvf x1.toNatClampNeg)).toNatClampNeg)]) κ (c_X6_ready qa Mst Mhi Mhn Msl Msv Mpd Mln Mat Mit Mvf Mdn Mlf Mar Msa Msm Mso x1 h) ⟨rfl, rfl, Nat.le_of_ble_eq_true rfl, Nat.le_of_ble_eq_true rfl⟩ tw_ml_X6_65 tw_im_X6_ready tw_se_X6_ready tw_co_X6_ready tw_in_X6 hy_X6_ready rfl rfl rfl rfl rfl (Nat.le_of_ble_eq_true rfl) rfl dX6_tellsDriven_24 [0] rfl (by decide) (fun _ => Nat.le_of_ble_eq_true rfl) ⟨Nat.le_of_ble_eq_true rfl, Nat.le_of_ble_eq_true rfl⟩ (fun v u hv => ?_)
    obtain ⟨r_11, rfl, h⟩ := hv
    refine gw_nf (ws' := (wfl [cM qa cI Mst Mhi Mhn Msl Msv Mpd Mln Mat Mit Mvf Mdn Mlf Mar Msa Msm Mso])) (lv' := [(3, .int (Mvf x1.toNatClampNeg)), (0, .ref (qa 0)), (1, .int x1), (2, .int x2)]) (st' := [.int r_11, .int (Mst ((17 : Int32) + (Mvf x1.toNatClampNeg)).toNatClampNeg)]) (pc' := 27) (ce' := 0) (sl' := 0) rfl rfl rfl rfl rfl rfl ?_
    refine gw_isub (pc' := 28) κ dX6_tellsDriven_27 rfl  ?_
    refine gw_goto (tgt := 55) κ dX6_tellsDriven_28 (by decide) ?_
    exact gw_iret κ dX6_tellsDriven_55 (Msa, Msm, Mso) rfl ⟨_, rfl, h⟩
theorem hy_X6_rider : g_hy yX6_rider 2 := by decide +kernel
set_option maxHeartbeats 4000000 in
set_option maxRecDepth 100000 in
theorem k_X6_rider_31 {zp : Program} {l : Launch} {ze : Env} {zs : State} {zm : MethodId} {za : Array Value} {zb : List Frame} {zt : Method} {zc : Code} {D : va_G} {cI cR : ClassId} {A : Nat → Prop} (κ : KC zp zs zm za zt zc cX6_rider 4 RX6 D cI cR A (some .int)) (qa : Nat → Nat) (P : Int32 → (Nat → Int32) → (Nat → Int32) → (Nat → Int32) → (Nat → Int32) → (Nat → Int32) → (Nat → Int32) → Int32 → Prop) (Mst : Nat → Int32) (Mhi : Nat → Int32) (Mhn : Int32) (Msl : Nat → Int32) (Msv : Nat → Int32) (Mpd : Nat → Int32) (Mln : Int32) (Mat : Int32) (Mit : Nat → Int32) (x1 : Int32) (x2 : Int32) (w0 : Int32) (Mvf : Nat → Int32) (Mdn : Nat → Int32) (Mlf : Nat → Int32) (Mar : Nat → Int32) (Msa : Nat → Int32) (Msm : Nat → Int32) (Mso : Int32) (h : wp_X6_rider_31 P Mst x1 x2 w0 Mvf Mdn Mlf Mar Msa Msm Mso) : GM zp l ze ({ frames := 5, cells := 0, slots := 0, locals := 115 } : Room) zs zm za zb zt zc D A 4 (pI (fun (r : Int32) (u : (Nat → Int32) × (Nat → Int32) × (Nat → Int32) × (Nat → Int32) × (Nat → Int32) × (Nat → Int32) × Int32) => P r u.1 u.2.1 u.2.2.1 u.2.2.2.1 u.2.2.2.2.1 u.2.2.2.2.2.1 u.2.2.2.2.2.2)) (fun u : (Nat → Int32) × (Nat → Int32) × (Nat → Int32) × (Nat → Int32) × (Nat → Int32) × (Nat → Int32) × Int32 => (wfl [cM qa cI Mst Mhi Mhn Msl Msv Mpd Mln Mat Mit u.1 u.2.1 u.2.2.1 u.2.2.2.1 u.2.2.2.2.1 u.2.2.2.2.2.1 u.2.2.2.2.2.2])) 0 0 0 0 (wfl [cM qa cI Mst Mhi Mhn Msl Msv Mpd Mln Mat Mit Mvf Mdn Mlf Mar Msa Msm Mso]) [(0, .ref (qa 0)), (1, .int x1), (2, .int x2)] 31 [.int w0] := by
  unfold wp_X6_rider_31 at h
  refine gw_istore_n (pc' := 32) κ dX6_rider_31 rfl rfl (by decide) (lv' := [(3, .int w0), (0, .ref (qa 0)), (1, .int x1), (2, .int x2)]) rfl ?_
  refine gw_iload_n (pc' := 33) κ dX6_rider_32 rfl 3 rfl rfl ?_
  obtain ⟨hc_9_0, hc_9_1, hc_9_2, hc_9_3, hc_9_4, hc_9_5, hc_9_6, hc_9_7, hc_9_8, hc_9_9, hc_9d⟩ := h
  by_cases hc_9c_0 : x2 = 0
  · have h := hc_9_0 hc_9c_0
    refine gw_tableIn (tgt := 88) (off := 55) κ dX6_rider_33 (by rw [hc_9c_0]; decide) (by rw [hc_9c_0]; decide) (by rw [hc_9c_0]; decide +kernel) (by decide) ?_
    refine gw_aload_n (pc' := 89) κ dX6_rider_88 rfl 1 rfl rfl ?_
    refine gw_iload_n (pc' := 90) κ dX6_rider_89 rfl 2 rfl rfl ?_
    refine gw_iload_n (pc' := 91) κ dX6_rider_90 rfl 3 rfl rfl ?_
    refine gb_callV (ci := 6) (qb := 0) (rest := []) κ (c_X6_of qa Mst Mhi Mhn Msl Msv Mpd Mln Mat Mit Mvf Mdn Mlf Mar Msa Msm Mso x1 x2 h) ⟨rfl, rfl, Nat.le_of_ble_eq_true rfl, Nat.le_of_ble_eq_true rfl⟩ tw_ml_X6_57 tw_im_X6_of tw_se_X6_of tw_co_X6_of tw_in_X6 hy_X6_of rfl rfl rfl rfl rfl (Nat.le_of_ble_eq_true rfl) rfl dX6_rider_91 [0] rfl (by decide) (fun _ => Nat.le_of_ble_eq_true rfl) ⟨Nat.le_of_ble_eq_true rfl, Nat.le_of_ble_eq_true rfl⟩ (fun v u hv => ?_)
    obtain ⟨r_10, rfl, h⟩ := hv
    refine gw_nf (ws' := (wfl [cM qa cI Mst Mhi Mhn Msl Msv Mpd Mln Mat Mit Mvf Mdn Mlf Mar Msa Msm Mso])) (lv' := [(3, .int w0), (0, .ref (qa 0)), (1, .int x1), (2, .int x2)]) (st' := [.int r_10]) (pc' := 94) (ce' := 0) (sl' := 0) rfl rfl rfl rfl rfl rfl ?_
    exact gw_iret κ dX6_rider_94 (Mvf, Mdn, Mlf, Mar, Msa, Msm, Mso) rfl ⟨_, rfl, h⟩
  by_cases hc_9c_1 : x2 = 1
  · have h := hc_9_1 hc_9c_1
    refine gw_tableIn (tgt := 88) (off := 55) κ dX6_rider_33 (by rw [hc_9c_1]; decide) (by rw [hc_9c_1]; decide) (by rw [hc_9c_1]; decide +kernel) (by decide) ?_
    refine gw_aload_n (pc' := 89) κ dX6_rider_88 rfl 1 rfl rfl ?_
    refine gw_iload_n (pc' := 90) κ dX6_rider_89 rfl 2 rfl rfl ?_
    refine gw_iload_n (pc' := 91) κ dX6_rider_90 rfl 3 rfl rfl ?_
    refine gb_callV (ci := 6) (qb := 0) (rest := []) κ (c_X6_of qa Mst Mhi Mhn Msl Msv Mpd Mln Mat Mit Mvf Mdn Mlf Mar Msa Msm Mso x1 x2 h) ⟨rfl, rfl, Nat.le_of_ble_eq_true rfl, Nat.le_of_ble_eq_true rfl⟩ tw_ml_X6_57 tw_im_X6_of tw_se_X6_of tw_co_X6_of tw_in_X6 hy_X6_of rfl rfl rfl rfl rfl (Nat.le_of_ble_eq_true rfl) rfl dX6_rider_91 [0] rfl (by decide) (fun _ => Nat.le_of_ble_eq_true rfl) ⟨Nat.le_of_ble_eq_true rfl, Nat.le_of_ble_eq_true rfl⟩ (fun v u hv => ?_)
    obtain ⟨r_11, rfl, h⟩ := hv
    refine gw_nf (ws' := (wfl [cM qa cI Mst Mhi Mhn Msl Msv Mpd Mln Mat Mit Mvf Mdn Mlf Mar Msa Msm Mso])) (lv' := [(3, .int w0), (0, .ref (qa 0)), (1, .int x1), (2, .int x2)]) (st' := [.int r_11]) (pc' := 94) (ce' := 0) (sl' := 0) rfl rfl rfl rfl rfl rfl ?_
    exact gw_iret κ dX6_rider_94 (Mvf, Mdn, Mlf, Mar, Msa, Msm, Mso) rfl ⟨_, rfl, h⟩
  by_cases hc_9c_2 : x2 = 2
  · have h := hc_9_2 hc_9c_2
    refine gw_tableIn (tgt := 88) (off := 55) κ dX6_rider_33 (by rw [hc_9c_2]; decide) (by rw [hc_9c_2]; decide) (by rw [hc_9c_2]; decide +kernel) (by decide) ?_
    refine gw_aload_n (pc' := 89) κ dX6_rider_88 rfl 1 rfl rfl ?_
    refine gw_iload_n (pc' := 90) κ dX6_rider_89 rfl 2 rfl rfl ?_
    refine gw_iload_n (pc' := 91) κ dX6_rider_90 rfl 3 rfl rfl ?_
    refine gb_callV (ci := 6) (qb := 0) (rest := []) κ (c_X6_of qa Mst Mhi Mhn Msl Msv Mpd Mln Mat Mit Mvf Mdn Mlf Mar Msa Msm Mso x1 x2 h) ⟨rfl, rfl, Nat.le_of_ble_eq_true rfl, Nat.le_of_ble_eq_true rfl⟩ tw_ml_X6_57 tw_im_X6_of tw_se_X6_of tw_co_X6_of tw_in_X6 hy_X6_of rfl rfl rfl rfl rfl (Nat.le_of_ble_eq_true rfl) rfl dX6_rider_91 [0] rfl (by decide) (fun _ => Nat.le_of_ble_eq_true rfl) ⟨Nat.le_of_ble_eq_true rfl, Nat.le_of_ble_eq_true rfl⟩ (fun v u hv => ?_)
    obtain ⟨r_12, rfl, h⟩ := hv
    refine gw_nf (ws' := (wfl [cM qa cI Mst Mhi Mhn Msl Msv Mpd Mln Mat Mit Mvf Mdn Mlf Mar Msa Msm Mso])) (lv' := [(3, .int w0), (0, .ref (qa 0)), (1, .int x1), (2, .int x2)]) (st' := [.int r_12]) (pc' := 94) (ce' := 0) (sl' := 0) rfl rfl rfl rfl rfl rfl ?_
    exact gw_iret κ dX6_rider_94 (Mvf, Mdn, Mlf, Mar, Msa, Msm, Mso) rfl ⟨_, rfl, h⟩
  by_cases hc_9c_3 : x2 = 3
  · have h := hc_9_3 hc_9c_3
    refine gw_tableIn (tgt := 88) (off := 55) κ dX6_rider_33 (by rw [hc_9c_3]; decide) (by rw [hc_9c_3]; decide) (by rw [hc_9c_3]; decide +kernel) (by decide) ?_
    refine gw_aload_n (pc' := 89) κ dX6_rider_88 rfl 1 rfl rfl ?_
    refine gw_iload_n (pc' := 90) κ dX6_rider_89 rfl 2 rfl rfl ?_
    refine gw_iload_n (pc' := 91) κ dX6_rider_90 rfl 3 rfl rfl ?_
    refine gb_callV (ci := 6) (qb := 0) (rest := []) κ (c_X6_of qa Mst Mhi Mhn Msl Msv Mpd Mln Mat Mit Mvf Mdn Mlf Mar Msa Msm Mso x1 x2 h) ⟨rfl, rfl, Nat.le_of_ble_eq_true rfl, Nat.le_of_ble_eq_true rfl⟩ tw_ml_X6_57 tw_im_X6_of tw_se_X6_of tw_co_X6_of tw_in_X6 hy_X6_of rfl rfl rfl rfl rfl (Nat.le_of_ble_eq_true rfl) rfl dX6_rider_91 [0] rfl (by decide) (fun _ => Nat.le_of_ble_eq_true rfl) ⟨Nat.le_of_ble_eq_true rfl, Nat.le_of_ble_eq_true rfl⟩ (fun v u hv => ?_)
    obtain ⟨r_13, rfl, h⟩ := hv
    refine gw_nf (ws' := (wfl [cM qa cI Mst Mhi Mhn Msl Msv Mpd Mln Mat Mit Mvf Mdn Mlf Mar Msa Msm Mso])) (lv' := [(3, .int w0), (0, .ref (qa 0)), (1, .int x1), (2, .int x2)]) (st' := [.int r_13]) (pc' := 94) (ce' := 0) (sl' := 0) rfl rfl rfl rfl rfl rfl ?_
    exact gw_iret κ dX6_rider_94 (Mvf, Mdn, Mlf, Mar, Msa, Msm, Mso) rfl ⟨_, rfl, h⟩
  by_cases hc_9c_4 : x2 = 4
  · have h := hc_9_4 hc_9c_4
    refine gw_tableIn (tgt := 95) (off := 62) κ dX6_rider_33 (by rw [hc_9c_4]; decide) (by rw [hc_9c_4]; decide) (by rw [hc_9c_4]; decide +kernel) (by decide) ?_
    refine gw_aload_n (pc' := 96) κ dX6_rider_95 rfl 1 rfl rfl ?_
    refine gw_iload_n (pc' := 97) κ dX6_rider_96 rfl 2 rfl rfl ?_
    refine gb_callV (ci := 6) (qb := 0) (rest := []) κ (c_X6_ready qa Mst Mhi Mhn Msl Msv Mpd Mln Mat Mit Mvf Mdn Mlf Mar Msa Msm Mso x1 h) ⟨rfl, rfl, Nat.le_of_ble_eq_true rfl, Nat.le_of_ble_eq_true rfl⟩ tw_ml_X6_65 tw_im_X6_ready tw_se_X6_ready tw_co_X6_ready tw_in_X6 hy_X6_ready rfl rfl rfl rfl rfl (Nat.le_of_ble_eq_true rfl) rfl dX6_rider_97 [0] rfl (by decide) (fun _ => Nat.le_of_ble_eq_true rfl) ⟨Nat.le_of_ble_eq_true rfl, Nat.le_of_ble_eq_true rfl⟩ (fun v u hv => ?_)
    obtain ⟨r_14, rfl, h⟩ := hv
    refine gw_nf (ws' := (wfl [cM qa cI Mst Mhi Mhn Msl Msv Mpd Mln Mat Mit Mvf Mdn Mlf Mar Msa Msm Mso])) (lv' := [(3, .int w0), (0, .ref (qa 0)), (1, .int x1), (2, .int x2)]) (st' := [.int r_14]) (pc' := 100) (ce' := 0) (sl' := 0) rfl rfl rfl rfl rfl rfl ?_
    exact gw_iret κ dX6_rider_100 (Mvf, Mdn, Mlf, Mar, Msa, Msm, Mso) rfl ⟨_, rfl, h⟩
  by_cases hc_9c_5 : x2 = 5
  · have h := hc_9_5 hc_9c_5
    refine gw_tableIn (tgt := 101) (off := 68) κ dX6_rider_33 (by rw [hc_9c_5]; decide) (by rw [hc_9c_5]; decide) (by rw [hc_9c_5]; decide +kernel) (by decide) ?_
    refine gw_aload_n (pc' := 102) κ dX6_rider_101 rfl 1 rfl rfl ?_
    refine gb_get (pc' := 105) (C := RX6) (T := TX6) (N := 16) κ dX6_rider_102 rfl inX6 0 rfl rfl rfl 9 (by decide) tw_fl_X6_28 rfl ?_
    refine gw_iload_n (pc' := 106) κ dX6_rider_105 rfl 2 rfl rfl ?_
    obtain ⟨hb_15, h⟩ := h
    refine gb_iald (pc' := 107) κ dX6_rider_106 rfl 0 7 rfl rfl hb_15 ?_
    exact gw_iret κ dX6_rider_107 (Mvf, Mdn, Mlf, Mar, Msa, Msm, Mso) rfl ⟨_, rfl, h⟩
  by_cases hc_9c_6 : x2 = 6
  · have h := hc_9_6 hc_9c_6
    refine gw_tableIn (tgt := 108) (off := 75) κ dX6_rider_33 (by rw [hc_9c_6]; decide) (by rw [hc_9c_6]; decide) (by rw [hc_9c_6]; decide +kernel) (by decide) ?_
    refine gw_iload_n (pc' := 109) κ dX6_rider_108 rfl 0 rfl rfl ?_
    refine gw_if_eq (pc' := 112) (tgt := 117) κ dX6_rider_109 rfl (by decide) (fun hc_16 => ?_) (fun hc_16 => ?_)
    · have h := h.1 hc_16
      refine gw_aload_n (pc' := 118) κ dX6_rider_117 rfl 1 rfl rfl ?_
      refine gw_iload_n (pc' := 119) κ dX6_rider_118 rfl 2 rfl rfl ?_
      refine gw_iload_n (pc' := 120) κ dX6_rider_119 rfl 3 rfl rfl ?_
      refine gb_callV (ci := 6) (qb := 0) (rest := []) κ (c_X6_tellsDriven qa Mst Mhi Mhn Msl Msv Mpd Mln Mat Mit Mvf Mdn Mlf Mar Msa Msm Mso x1 x2 h) ⟨rfl, rfl, Nat.le_of_ble_eq_true rfl, Nat.le_of_ble_eq_true rfl⟩ tw_ml_X6_135 tw_im_X6_tellsDriven tw_se_X6_tellsDriven tw_co_X6_tellsDriven tw_in_X6 hy_X6_tellsDriven rfl rfl rfl rfl rfl (Nat.le_of_ble_eq_true rfl) rfl dX6_rider_120 [0] rfl (by decide) (fun _ => Nat.le_of_ble_eq_true rfl) ⟨Nat.le_of_ble_eq_true rfl, Nat.le_of_ble_eq_true rfl⟩ (fun v u hv => ?_)
      obtain ⟨r_20, rfl, h⟩ := hv
      obtain ⟨Msa_17, Msm_18, Mso_19⟩ := u
      refine gw_nf (ws' := (wfl [cM qa cI Mst Mhi Mhn Msl Msv Mpd Mln Mat Mit Mvf Mdn Mlf Mar Msa_17 Msm_18 Mso_19])) (lv' := [(3, .int w0), (0, .ref (qa 0)), (1, .int x1), (2, .int x2)]) (st' := [.int r_20]) (pc' := 123) (ce' := 0) (sl' := 0) rfl rfl rfl rfl rfl rfl ?_
      exact gw_iret κ dX6_rider_123 (Mvf, Mdn, Mlf, Mar, Msa_17, Msm_18, Mso_19) rfl ⟨_, rfl, h⟩
    · have h := h.2 hc_16
      refine gw_bipush (pc' := 114) (v := -106) κ dX6_rider_112 rfl (by decide) ?_
      refine gw_goto (tgt := 123) κ dX6_rider_114 (by decide) ?_
      exact gw_iret κ dX6_rider_123 (Mvf, Mdn, Mlf, Mar, Msa, Msm, Mso) rfl ⟨_, rfl, h⟩
  by_cases hc_9c_7 : x2 = 7
  · have h := hc_9_7 hc_9c_7
    refine gw_tableIn (tgt := 108) (off := 75) κ dX6_rider_33 (by rw [hc_9c_7]; decide) (by rw [hc_9c_7]; decide) (by rw [hc_9c_7]; decide +kernel) (by decide) ?_
    refine gw_iload_n (pc' := 109) κ dX6_rider_108 rfl 0 rfl rfl ?_
    refine gw_if_eq (pc' := 112) (tgt := 117) κ dX6_rider_109 rfl (by decide) (fun hc_21 => ?_) (fun hc_21 => ?_)
    · have h := h.1 hc_21
      refine gw_aload_n (pc' := 118) κ dX6_rider_117 rfl 1 rfl rfl ?_
      refine gw_iload_n (pc' := 119) κ dX6_rider_118 rfl 2 rfl rfl ?_
      refine gw_iload_n (pc' := 120) κ dX6_rider_119 rfl 3 rfl rfl ?_
      refine gb_callV (ci := 6) (qb := 0) (rest := []) κ (c_X6_tellsDriven qa Mst Mhi Mhn Msl Msv Mpd Mln Mat Mit Mvf Mdn Mlf Mar Msa Msm Mso x1 x2 h) ⟨rfl, rfl, Nat.le_of_ble_eq_true rfl, Nat.le_of_ble_eq_true rfl⟩ tw_ml_X6_135 tw_im_X6_tellsDriven tw_se_X6_tellsDriven tw_co_X6_tellsDriven tw_in_X6 hy_X6_tellsDriven rfl rfl rfl rfl rfl (Nat.le_of_ble_eq_true rfl) rfl dX6_rider_120 [0] rfl (by decide) (fun _ => Nat.le_of_ble_eq_true rfl) ⟨Nat.le_of_ble_eq_true rfl, Nat.le_of_ble_eq_true rfl⟩ (fun v u hv => ?_)
      obtain ⟨r_25, rfl, h⟩ := hv
      obtain ⟨Msa_22, Msm_23, Mso_24⟩ := u
      refine gw_nf (ws' := (wfl [cM qa cI Mst Mhi Mhn Msl Msv Mpd Mln Mat Mit Mvf Mdn Mlf Mar Msa_22 Msm_23 Mso_24])) (lv' := [(3, .int w0), (0, .ref (qa 0)), (1, .int x1), (2, .int x2)]) (st' := [.int r_25]) (pc' := 123) (ce' := 0) (sl' := 0) rfl rfl rfl rfl rfl rfl ?_
      exact gw_iret κ dX6_rider_123 (Mvf, Mdn, Mlf, Mar, Msa_22, Msm_23, Mso_24) rfl ⟨_, rfl, h⟩
    · have h := h.2 hc_21
      refine gw_bipush (pc' := 114) (v := -106) κ dX6_rider_112 rfl (by decide) ?_
      refine gw_goto (tgt := 123) κ dX6_rider_114 (by decide) ?_
      exact gw_iret κ dX6_rider_123 (Mvf, Mdn, Mlf, Mar, Msa, Msm, Mso) rfl ⟨_, rfl, h⟩
  by_cases hc_9c_8 : x2 = 8
  · have h := hc_9_8 hc_9c_8
    refine gw_tableIn (tgt := 124) (off := 91) κ dX6_rider_33 (by rw [hc_9c_8]; decide) (by rw [hc_9c_8]; decide) (by rw [hc_9c_8]; decide +kernel) (by decide) ?_
    refine gw_aload_n (pc' := 125) κ dX6_rider_124 rfl 1 rfl rfl ?_
    refine gw_iload_n (pc' := 126) κ dX6_rider_125 rfl 2 rfl rfl ?_
    refine gb_callV (ci := 6) (qb := 0) (rest := []) κ (c_X6_fare qa Mst Mhi Mhn Msl Msv Mpd Mln Mat Mit Mvf Mdn Mlf Mar Msa Msm Mso x1 h) ⟨rfl, rfl, Nat.le_of_ble_eq_true rfl, Nat.le_of_ble_eq_true rfl⟩ tw_ml_X6_126 tw_im_X6_fare tw_se_X6_fare tw_co_X6_fare tw_in_X6 hy_X6_fare rfl rfl rfl rfl rfl (Nat.le_of_ble_eq_true rfl) rfl dX6_rider_126 [0] rfl (by decide) (fun _ => Nat.le_of_ble_eq_true rfl) ⟨Nat.le_of_ble_eq_true rfl, Nat.le_of_ble_eq_true rfl⟩ (fun v u hv => ?_)
    obtain ⟨r_26, rfl, h⟩ := hv
    refine gw_nf (ws' := (wfl [cM qa cI Mst Mhi Mhn Msl Msv Mpd Mln Mat Mit Mvf Mdn Mlf Mar Msa Msm Mso])) (lv' := [(3, .int w0), (0, .ref (qa 0)), (1, .int x1), (2, .int x2)]) (st' := [.int r_26]) (pc' := 129) (ce' := 0) (sl' := 0) rfl rfl rfl rfl rfl rfl ?_
    exact gw_iret κ dX6_rider_129 (Mvf, Mdn, Mlf, Mar, Msa, Msm, Mso) rfl ⟨_, rfl, h⟩
  by_cases hc_9c_9 : x2 = 9
  · have h := hc_9_9 hc_9c_9
    refine gw_tableIn (tgt := 130) (off := 97) κ dX6_rider_33 (by rw [hc_9c_9]; decide) (by rw [hc_9c_9]; decide) (by rw [hc_9c_9]; decide +kernel) (by decide) ?_
    refine gw_iload_n (pc' := 131) κ dX6_rider_130 rfl 0 rfl rfl ?_
    refine gw_if_eq (pc' := 134) (tgt := 138) κ dX6_rider_131 rfl (by decide) (fun hc_27 => ?_) (fun hc_27 => ?_)
    · have h := h.1 hc_27
      refine gw_aload_n (pc' := 139) κ dX6_rider_138 rfl 1 rfl rfl ?_
      refine gw_iload_n (pc' := 140) κ dX6_rider_139 rfl 2 rfl rfl ?_
      refine gw_iload_n (pc' := 141) κ dX6_rider_140 rfl 3 rfl rfl ?_
      refine gb_callV (ci := 6) (qb := 0) (rest := []) κ (c_X6_tellsDriven qa Mst Mhi Mhn Msl Msv Mpd Mln Mat Mit Mvf Mdn Mlf Mar Msa Msm Mso x1 x2 h) ⟨rfl, rfl, Nat.le_of_ble_eq_true rfl, Nat.le_of_ble_eq_true rfl⟩ tw_ml_X6_135 tw_im_X6_tellsDriven tw_se_X6_tellsDriven tw_co_X6_tellsDriven tw_in_X6 hy_X6_tellsDriven rfl rfl rfl rfl rfl (Nat.le_of_ble_eq_true rfl) rfl dX6_rider_141 [0] rfl (by decide) (fun _ => Nat.le_of_ble_eq_true rfl) ⟨Nat.le_of_ble_eq_true rfl, Nat.le_of_ble_eq_true rfl⟩ (fun v u hv => ?_)
      obtain ⟨r_31, rfl, h⟩ := hv
      obtain ⟨Msa_28, Msm_29, Mso_30⟩ := u
      refine gw_nf (ws' := (wfl [cM qa cI Mst Mhi Mhn Msl Msv Mpd Mln Mat Mit Mvf Mdn Mlf Mar Msa_28 Msm_29 Mso_30])) (lv' := [(3, .int w0), (0, .ref (qa 0)), (1, .int x1), (2, .int x2)]) (st' := [.int r_31]) (pc' := 144) (ce' := 0) (sl' := 0) rfl rfl rfl rfl rfl rfl ?_
      exact gw_iret κ dX6_rider_144 (Mvf, Mdn, Mlf, Mar, Msa_28, Msm_29, Mso_30) rfl ⟨_, rfl, h⟩
    · have h := h.2 hc_27
      refine gw_iconst (pc' := 135) (v := 0) κ dX6_rider_134 rfl (by decide) ?_
      refine gw_goto (tgt := 144) κ dX6_rider_135 (by decide) ?_
      exact gw_iret κ dX6_rider_144 (Mvf, Mdn, Mlf, Mar, Msa, Msm, Mso) rfl ⟨_, rfl, h⟩
  have h := hc_9d ⟨hc_9c_0, hc_9c_1, hc_9c_2, hc_9c_3, hc_9c_4, hc_9c_5, hc_9c_6, hc_9c_7, hc_9c_8, hc_9c_9⟩
  refine gw_tableOut (tgt := 145) κ dX6_rider_33 (sw_out2 (x := x2) (lo := 0) (hi := 9) (by decide) (fun k h1 h2 => by rcases (show k = 0 ∨ k = 1 ∨ k = 2 ∨ k = 3 ∨ k = 4 ∨ k = 5 ∨ k = 6 ∨ k = 7 ∨ k = 8 ∨ k = 9 by omega) with rfl | rfl | rfl | rfl | rfl | rfl | rfl | rfl | rfl | rfl <;> assumption)) (by decide) ?_
  refine gw_bipush (pc' := 147) (v := -102) κ dX6_rider_145 rfl (by decide) ?_
  exact gw_iret κ dX6_rider_147 (Mvf, Mdn, Mlf, Mar, Msa, Msm, Mso) rfl ⟨_, rfl, h⟩
set_option maxHeartbeats 4000000 in
set_option maxRecDepth 100000 in
theorem c_X6_rider {l : Launch} {D : va_G} {cI cR : ClassId}  (qa : Nat → Nat) {P : Int32 → (Nat → Int32) → (Nat → Int32) → (Nat → Int32) → (Nat → Int32) → (Nat → Int32) → (Nat → Int32) → Int32 → Prop} (Mst : Nat → Int32) (Mhi : Nat → Int32) (Mhn : Int32) (Msl : Nat → Int32) (Msv : Nat → Int32) (Mpd : Nat → Int32) (Mln : Int32) (Mat : Int32) (Mit : Nat → Int32) (Mvf : Nat → Int32) (Mdn : Nat → Int32) (Mlf : Nat → Int32) (Mar : Nat → Int32) (Msa : Nat → Int32) (Msm : Nat → Int32) (Mso : Int32) (x1 : Int32) (x2 : Int32) (h : wp_X6_rider P Mst Mvf Mdn Mlf Mar Msa Msm Mso x1 x2) : CT l D cI cR yX6_rider cX6_rider 4 (some .int) ({ frames := 5, cells := 0, slots := 0, locals := 115 } : Room) [.ref (qa 0), .int x1, .int x2] (wfl [cM qa cI Mst Mhi Mhn Msl Msv Mpd Mln Mat Mit Mvf Mdn Mlf Mar Msa Msm Mso]) (fun u : (Nat → Int32) × (Nat → Int32) × (Nat → Int32) × (Nat → Int32) × (Nat → Int32) × (Nat → Int32) × Int32 => (wfl [cM qa cI Mst Mhi Mhn Msl Msv Mpd Mln Mat Mit u.1 u.2.1 u.2.2.1 u.2.2.2.1 u.2.2.2.2.1 u.2.2.2.2.2.1 u.2.2.2.2.2.2])) (pI (fun (r : Int32) (u : (Nat → Int32) × (Nat → Int32) × (Nat → Int32) × (Nat → Int32) × (Nat → Int32) × (Nat → Int32) × Int32) => P r u.1 u.2.1 u.2.2.1 u.2.2.2.1 u.2.2.2.2.1 u.2.2.2.2.2.1 u.2.2.2.2.2.2)) 0 0 := by
  refine ct_of RX6 rfl (by decide +kernel) (Nat.le_of_ble_eq_true rfl) (fun zp ze zs zm zb zt zc A hin κ => ?_)
  unfold wp_X6_rider at h
  refine gw_nf (lv' := [(0, .ref (qa 0)), (1, .int x1), (2, .int x2)]) (pc' := 0) (st' := []) (ce' := 0) (sl' := 0) rfl rfl rfl rfl rfl rfl ?_
  refine gw_aload_n (pc' := 1) κ dX6_rider_0 rfl 0 rfl rfl ?_
  refine gw_iload_n (pc' := 2) κ dX6_rider_1 rfl 1 rfl rfl ?_
  refine gb_callV (ci := 6) (qb := 0) (rest := []) κ (c_X6_isRider qa Mst Mhi Mhn Msl Msv Mpd Mln Mat Mit Mvf Mdn Mlf Mar Msa Msm Mso x1 h) ⟨rfl, rfl, Nat.le_of_ble_eq_true rfl, Nat.le_of_ble_eq_true rfl⟩ tw_ml_X6_123 tw_im_X6_isRider tw_se_X6_isRider tw_co_X6_isRider tw_in_X6 hy_X6_isRider rfl rfl rfl rfl rfl (Nat.le_of_ble_eq_true rfl) rfl dX6_rider_2 [0] rfl (by decide) (fun _ => Nat.le_of_ble_eq_true rfl) ⟨Nat.le_of_ble_eq_true rfl, Nat.le_of_ble_eq_true rfl⟩ (fun v u hv => ?_)
  obtain ⟨r_1, rfl, h⟩ := hv
  refine gw_nf (ws' := (wfl [cM qa cI Mst Mhi Mhn Msl Msv Mpd Mln Mat Mit Mvf Mdn Mlf Mar Msa Msm Mso])) (lv' := [(0, .ref (qa 0)), (1, .int x1), (2, .int x2)]) (st' := [.int r_1]) (pc' := 5) (ce' := 0) (sl' := 0) rfl rfl rfl rfl rfl rfl ?_
  refine gw_if_ne (pc' := 8) (tgt := 11) κ dX6_rider_5 rfl (by decide) (fun hc_2 => ?_) (fun hc_2 => ?_)
  · have h := h.1 hc_2
    refine gw_aload_n (pc' := 12) κ dX6_rider_11 rfl 0 rfl rfl ?_
    refine gb_callV (ci := 6) (qb := 0) (rest := []) κ (c_X6_lay qa Mst Mhi Mhn Msl Msv Mpd Mln Mat Mit Mvf Mdn Mlf Mar Msa Msm Mso h) ⟨rfl, rfl, Nat.le_of_ble_eq_true rfl, Nat.le_of_ble_eq_true rfl⟩ tw_ml_X6_113 tw_im_X6_lay tw_se_X6_lay tw_co_X6_lay tw_in_X6 hy_X6_lay rfl rfl rfl rfl rfl (Nat.le_of_ble_eq_true rfl) rfl dX6_rider_12 [0] rfl (by decide) (fun _ => Nat.le_of_ble_eq_true rfl) ⟨Nat.le_of_ble_eq_true rfl, Nat.le_of_ble_eq_true rfl⟩ (fun v u hv => ?_)
    obtain ⟨rfl, h⟩ := hv
    obtain ⟨Mvf_3, Mdn_4, Mlf_5, Mar_6⟩ := u
    refine gw_nf (ws' := (wfl [cM qa cI Mst Mhi Mhn Msl Msv Mpd Mln Mat Mit Mvf_3 Mdn_4 Mlf_5 Mar_6 Msa Msm Mso])) (lv' := [(0, .ref (qa 0)), (1, .int x1), (2, .int x2)]) (st' := []) (pc' := 15) (ce' := 0) (sl' := 0) rfl rfl rfl rfl rfl rfl ?_
    refine gw_aload_n (pc' := 16) κ dX6_rider_15 rfl 0 rfl rfl ?_
    refine gb_get (pc' := 19) (C := RX6) (T := TX6) (N := 16) κ dX6_rider_16 rfl inX6 0 rfl rfl rfl 9 (by decide) tw_fl_X6_28 rfl ?_
    refine gw_iload_n (pc' := 20) κ dX6_rider_19 rfl 1 rfl rfl ?_
    obtain ⟨hb_7, h⟩ := h
    refine gb_iald (pc' := 21) κ dX6_rider_20 rfl 0 7 rfl rfl hb_7 ?_
    refine gw_bipush (pc' := 23) (v := -106) κ dX6_rider_21 rfl (by decide) ?_
    refine gw_icmp_ne (pc' := 26) (tgt := 30) κ dX6_rider_23 rfl (by decide) (fun hc_8 => ?_) (fun hc_8 => ?_)
    · have h := h.1 hc_8
      refine gw_iconst (pc' := 31) (v := 0) κ dX6_rider_30 rfl (by decide) ?_
      refine gw_lv (lv' := [(0, .ref (qa 0)), (1, .int x1), (2, .int x2)]) [0, 1, 2] rfl ?_
      exact k_X6_rider_31 κ qa P Mst Mhi Mhn Msl Msv Mpd Mln Mat Mit x1 x2 (0 : Int32) Mvf_3 Mdn_4 Mlf_5 Mar_6 Msa Msm Mso h
    · have h := h.2 hc_8
      refine gw_iconst (pc' := 27) (v := 1) κ dX6_rider_26 rfl (by decide) ?_
      refine gw_goto (tgt := 31) κ dX6_rider_27 (by decide) ?_
      refine gw_lv (lv' := [(0, .ref (qa 0)), (1, .int x1), (2, .int x2)]) [0, 1, 2] rfl ?_
      exact k_X6_rider_31 κ qa P Mst Mhi Mhn Msl Msv Mpd Mln Mat Mit x1 x2 (1 : Int32) Mvf_3 Mdn_4 Mlf_5 Mar_6 Msa Msm Mso h
  · have h := h.2 hc_2
    refine gw_bipush (pc' := 10) (v := -101) κ dX6_rider_8 rfl (by decide) ?_
    exact gw_iret κ dX6_rider_10 (Mvf, Mdn, Mlf, Mar, Msa, Msm, Mso) rfl ⟨_, rfl, h⟩
theorem hy_X6_peopleIn : g_hy yX6_peopleIn 1 := by decide +kernel
set_option maxHeartbeats 4000000 in
set_option maxRecDepth 100000 in
theorem c_X6_peopleIn {l : Launch} {D : va_G} {cI cR : ClassId}  (qa : Nat → Nat) {P : Int32 → Prop} (Mst : Nat → Int32) (Mhi : Nat → Int32) (Mhn : Int32) (Msl : Nat → Int32) (Msv : Nat → Int32) (Mpd : Nat → Int32) (Mln : Int32) (Mat : Int32) (Mit : Nat → Int32) (Mvf : Nat → Int32) (Mdn : Nat → Int32) (Mlf : Nat → Int32) (Mar : Nat → Int32) (Msa : Nat → Int32) (Msm : Nat → Int32) (Mso : Int32) (x1 : Int32) (h : wp_X6_peopleIn P Mst Mlf x1) : CT l D cI cR yX6_peopleIn cX6_peopleIn 2 (some .int) ({ frames := 0, cells := 0, slots := 0, locals := 0 } : Room) [.ref (qa 0), .int x1] (wfl [cM qa cI Mst Mhi Mhn Msl Msv Mpd Mln Mat Mit Mvf Mdn Mlf Mar Msa Msm Mso]) (fun _ : Unit => (wfl [cM qa cI Mst Mhi Mhn Msl Msv Mpd Mln Mat Mit Mvf Mdn Mlf Mar Msa Msm Mso])) (pI (fun (r : Int32) (_ : Unit) => P r)) 0 0 := by
  refine ct_of RX6 rfl (by decide +kernel) (Nat.le_of_ble_eq_true rfl) (fun zp ze zs zm zb zt zc A hin κ => ?_)
  unfold wp_X6_peopleIn at h
  refine gw_nf (lv' := [(0, .ref (qa 0)), (1, .int x1)]) (pc' := 0) (st' := []) (ce' := 0) (sl' := 0) rfl rfl rfl rfl rfl rfl ?_
  refine gw_aload_n (pc' := 1) κ dX6_peopleIn_0 rfl 0 rfl rfl ?_
  refine gb_get (pc' := 4) (C := RX6) (T := TX6) (N := 16) κ dX6_peopleIn_1 rfl inX6 0 rfl rfl rfl 0 (by decide) tw_fl_X6_7 rfl ?_
  refine gw_bipush (pc' := 6) (v := 25) κ dX6_peopleIn_4 rfl (by decide) ?_
  refine gw_iload_n (pc' := 7) κ dX6_peopleIn_6 rfl 1 rfl rfl ?_
  refine gw_iadd (pc' := 8) κ dX6_peopleIn_7 rfl  ?_
  obtain ⟨hb_1, h⟩ := h
  refine gb_iald (pc' := 9) κ dX6_peopleIn_8 rfl 0 1 rfl rfl hb_1 ?_
  refine gw_aload_n (pc' := 10) κ dX6_peopleIn_9 rfl 0 rfl rfl ?_
  refine gb_get (pc' := 13) (C := RX6) (T := TX6) (N := 16) κ dX6_peopleIn_10 rfl inX6 0 rfl rfl rfl 11 (by decide) tw_fl_X6_34 rfl ?_
  refine gw_iload_n (pc' := 14) κ dX6_peopleIn_13 rfl 1 rfl rfl ?_
  obtain ⟨hb_2, h⟩ := h
  refine gb_iald (pc' := 15) κ dX6_peopleIn_14 rfl 0 9 rfl rfl hb_2 ?_
  refine gw_isub (pc' := 16) κ dX6_peopleIn_15 rfl  ?_
  exact gw_iret κ dX6_peopleIn_16 () rfl ⟨_, rfl, h⟩
theorem hy_X6_ridersIn : g_hy yX6_ridersIn 1 := by decide +kernel
set_option maxHeartbeats 4000000 in
set_option maxRecDepth 100000 in
theorem k_X6_ridersIn_4 {zp : Program} {l : Launch} {ze : Env} {zs : State} {zm : MethodId} {za : Array Value} {zb : List Frame} {zt : Method} {zc : Code} {D : va_G} {cI cR : ClassId} {A : Nat → Prop} (κ : KC zp zs zm za zt zc cX6_ridersIn 4 RX6 D cI cR A (some .int)) (qa : Nat → Nat) (P : Int32 → Prop) (Mst : Nat → Int32) (Mhi : Nat → Int32) (Mhn : Int32) (Msl : Nat → Int32) (Msv : Nat → Int32) (Mpd : Nat → Int32) (Mln : Int32) (Mat : Int32) (Mit : Nat → Int32) (Mvf : Nat → Int32) (Mdn : Nat → Int32) (Mlf : Nat → Int32) (Mar : Nat → Int32) (Msa : Nat → Int32) (Msm : Nat → Int32) (Mso : Int32) (x1 : Int32) : ∀ (n : Nat) (v2 : Int32) (v3 : Int32), wp_X6_ridersIn_4 P Mst Mvf x1 n v2 v3 → GM zp l ze ({ frames := 0, cells := 0, slots := 0, locals := 0 } : Room) zs zm za zb zt zc D A 4 (pI (fun (r : Int32) (_ : Unit) => P r)) (fun _ : Unit => (wfl [cM qa cI Mst Mhi Mhn Msl Msv Mpd Mln Mat Mit Mvf Mdn Mlf Mar Msa Msm Mso])) 0 0 0 0 (wfl [cM qa cI Mst Mhi Mhn Msl Msv Mpd Mln Mat Mit Mvf Mdn Mlf Mar Msa Msm Mso]) [(0, .ref (qa 0)), (1, .int x1), (2, .int v2), (3, .int v3)] 4 [] := by
  intro n4
  induction n4 with
  | zero => intro v2 v3 h; exact (show False from h).elim
  | succ n4 ih4 =>
    intro v2 v3 h
    have h : wp_X6_ridersIn_4F P Mst Mvf x1 (wp_X6_ridersIn_4 P Mst Mvf x1 n4) v2 v3 := h
    unfold wp_X6_ridersIn_4F at h
    refine gw_iload_n (pc' := 5) κ dX6_ridersIn_4 rfl 3 rfl rfl ?_
    refine gw_aload_n (pc' := 6) κ dX6_ridersIn_5 rfl 0 rfl rfl ?_
    refine gb_get (pc' := 9) (C := RX6) (T := TX6) (N := 16) κ dX6_ridersIn_6 rfl inX6 0 rfl rfl rfl 0 (by decide) tw_fl_X6_7 rfl ?_
    refine gw_bipush (pc' := 11) (v := 33) κ dX6_ridersIn_9 rfl (by decide) ?_
    refine gb_iald (pc' := 12) κ dX6_ridersIn_11 rfl 0 1 rfl rfl (by unfold vp_in; decide) ?_
    refine gw_icmp_ge (pc' := 15) (tgt := 41) κ dX6_ridersIn_12 rfl (by decide) (fun hc_2 => ?_) (fun hc_2 => ?_)
    · have h := h.1 hc_2
      refine gw_iload_n (pc' := 42) κ dX6_ridersIn_41 rfl 2 rfl rfl ?_
      exact gw_iret κ dX6_ridersIn_42 () rfl ⟨_, rfl, h⟩
    · have h := h.2 hc_2
      refine gw_iload_n (pc' := 16) κ dX6_ridersIn_15 rfl 2 rfl rfl ?_
      refine gw_aload_n (pc' := 17) κ dX6_ridersIn_16 rfl 0 rfl rfl ?_
      refine gb_get (pc' := 20) (C := RX6) (T := TX6) (N := 16) κ dX6_ridersIn_17 rfl inX6 0 rfl rfl rfl 9 (by decide) tw_fl_X6_28 rfl ?_
      refine gw_iload_n (pc' := 21) κ dX6_ridersIn_20 rfl 3 rfl rfl ?_
      obtain ⟨hb_3, h⟩ := h
      refine gb_iald (pc' := 22) κ dX6_ridersIn_21 rfl 0 7 rfl rfl hb_3 ?_
      refine gw_iload_n (pc' := 23) κ dX6_ridersIn_22 rfl 1 rfl rfl ?_
      refine gw_icmp_ne (pc' := 26) (tgt := 32) κ dX6_ridersIn_23 rfl (by decide) (fun hc_4 => ?_) (fun hc_4 => ?_)
      · have h := h.1 hc_4
        refine gw_iconst (pc' := 33) (v := 0) κ dX6_ridersIn_32 rfl (by decide) ?_
        refine gw_ior (pc' := 34) κ dX6_ridersIn_33 rfl  ?_
        refine gw_istore_n (pc' := 35) κ dX6_ridersIn_34 rfl rfl (by decide) (lv' := [(2, .int (v2 ||| (0 : Int32))), (0, .ref (qa 0)), (1, .int x1), (3, .int v3)]) rfl ?_
        refine gw_iinc (pc' := 38) κ dX6_ridersIn_35 rfl 3 rfl (v := (v3 + 1)) rfl (by decide) (lv' := [(3, .int (v3 + 1)), (2, .int (v2 ||| (0 : Int32))), (0, .ref (qa 0)), (1, .int x1)]) rfl ?_
        refine gw_goto (tgt := 4) κ dX6_ridersIn_38 (by decide) ?_
        refine gw_lv (lv' := [(0, .ref (qa 0)), (1, .int x1), (2, .int (v2 ||| (0 : Int32))), (3, .int (v3 + 1))]) [2, 3, 1, 0] rfl ?_
        exact ih4 (v2 ||| (0 : Int32)) (v3 + 1) h
      · have h := h.2 hc_4
        refine gw_iconst (pc' := 27) (v := 1) κ dX6_ridersIn_26 rfl (by decide) ?_
        refine gw_iload_n (pc' := 28) κ dX6_ridersIn_27 rfl 3 rfl rfl ?_
        refine gw_ishl (pc' := 29) κ dX6_ridersIn_28 rfl  ?_
        refine gw_goto (tgt := 33) κ dX6_ridersIn_29 (by decide) ?_
        refine gw_ior (pc' := 34) κ dX6_ridersIn_33 rfl  ?_
        refine gw_istore_n (pc' := 35) κ dX6_ridersIn_34 rfl rfl (by decide) (lv' := [(2, .int (v2 ||| ((1 : Int32) <<< (v3 &&& 31)))), (0, .ref (qa 0)), (1, .int x1), (3, .int v3)]) rfl ?_
        refine gw_iinc (pc' := 38) κ dX6_ridersIn_35 rfl 3 rfl (v := (v3 + 1)) rfl (by decide) (lv' := [(3, .int (v3 + 1)), (2, .int (v2 ||| ((1 : Int32) <<< (v3 &&& 31)))), (0, .ref (qa 0)), (1, .int x1)]) rfl ?_
        refine gw_goto (tgt := 4) κ dX6_ridersIn_38 (by decide) ?_
        refine gw_lv (lv' := [(0, .ref (qa 0)), (1, .int x1), (2, .int (v2 ||| ((1 : Int32) <<< (v3 &&& 31)))), (3, .int (v3 + 1))]) [2, 3, 1, 0] rfl ?_
        exact ih4 (v2 ||| ((1 : Int32) <<< (v3 &&& 31))) (v3 + 1) h
set_option maxHeartbeats 4000000 in
set_option maxRecDepth 100000 in
theorem c_X6_ridersIn {l : Launch} {D : va_G} {cI cR : ClassId}  (qa : Nat → Nat) {P : Int32 → Prop} (Mst : Nat → Int32) (Mhi : Nat → Int32) (Mhn : Int32) (Msl : Nat → Int32) (Msv : Nat → Int32) (Mpd : Nat → Int32) (Mln : Int32) (Mat : Int32) (Mit : Nat → Int32) (Mvf : Nat → Int32) (Mdn : Nat → Int32) (Mlf : Nat → Int32) (Mar : Nat → Int32) (Msa : Nat → Int32) (Msm : Nat → Int32) (Mso : Int32) (x1 : Int32) (h : wp_X6_ridersIn P Mst Mvf x1) : CT l D cI cR yX6_ridersIn cX6_ridersIn 4 (some .int) ({ frames := 0, cells := 0, slots := 0, locals := 0 } : Room) [.ref (qa 0), .int x1] (wfl [cM qa cI Mst Mhi Mhn Msl Msv Mpd Mln Mat Mit Mvf Mdn Mlf Mar Msa Msm Mso]) (fun _ : Unit => (wfl [cM qa cI Mst Mhi Mhn Msl Msv Mpd Mln Mat Mit Mvf Mdn Mlf Mar Msa Msm Mso])) (pI (fun (r : Int32) (_ : Unit) => P r)) 0 0 := by
  refine ct_of RX6 rfl (by decide +kernel) (Nat.le_of_ble_eq_true rfl) (fun zp ze zs zm zb zt zc A hin κ => ?_)
  unfold wp_X6_ridersIn at h
  refine gw_nf (lv' := [(0, .ref (qa 0)), (1, .int x1)]) (pc' := 0) (st' := []) (ce' := 0) (sl' := 0) rfl rfl rfl rfl rfl rfl ?_
  refine gw_iconst (pc' := 1) (v := 0) κ dX6_ridersIn_0 rfl (by decide) ?_
  refine gw_istore_n (pc' := 2) κ dX6_ridersIn_1 rfl rfl (by decide) (lv' := [(2, .int (0 : Int32)), (0, .ref (qa 0)), (1, .int x1)]) rfl ?_
  refine gw_iconst (pc' := 3) (v := 0) κ dX6_ridersIn_2 rfl (by decide) ?_
  refine gw_istore_n (pc' := 4) κ dX6_ridersIn_3 rfl rfl (by decide) (lv' := [(3, .int (0 : Int32)), (2, .int (0 : Int32)), (0, .ref (qa 0)), (1, .int x1)]) rfl ?_
  obtain ⟨m4, h⟩ := h
  refine gw_lv (lv' := [(0, .ref (qa 0)), (1, .int x1), (2, .int (0 : Int32)), (3, .int (0 : Int32))]) [2, 3, 1, 0] rfl ?_
  exact k_X6_ridersIn_4 κ qa P Mst Mhi Mhn Msl Msv Mpd Mln Mat Mit Mvf Mdn Mlf Mar Msa Msm Mso x1 m4 (0 : Int32) (0 : Int32) h
theorem hy_X6_faresIn : g_hy yX6_faresIn 1 := by decide +kernel
set_option maxHeartbeats 4000000 in
set_option maxRecDepth 100000 in
theorem k_X6_faresIn_4 {zp : Program} {l : Launch} {ze : Env} {zs : State} {zm : MethodId} {za : Array Value} {zb : List Frame} {zt : Method} {zc : Code} {D : va_G} {cI cR : ClassId} {A : Nat → Prop} (κ : KC zp zs zm za zt zc cX6_faresIn 4 RX6 D cI cR A (some .int)) (qa : Nat → Nat) (P : Int32 → Prop) (Mst : Nat → Int32) (Mhi : Nat → Int32) (Mhn : Int32) (Msl : Nat → Int32) (Msv : Nat → Int32) (Mpd : Nat → Int32) (Mln : Int32) (Mat : Int32) (Mit : Nat → Int32) (Mvf : Nat → Int32) (Mdn : Nat → Int32) (Mlf : Nat → Int32) (Mar : Nat → Int32) (Msa : Nat → Int32) (Msm : Nat → Int32) (Mso : Int32) (x1 : Int32) : ∀ (n : Nat) (v2 : Int32) (v3 : Int32), wp_X6_faresIn_4 P Mst Mvf x1 n v2 v3 → GM zp l ze ({ frames := 5, cells := 0, slots := 0, locals := 115 } : Room) zs zm za zb zt zc D A 4 (pI (fun (r : Int32) (_ : Unit) => P r)) (fun _ : Unit => (wfl [cM qa cI Mst Mhi Mhn Msl Msv Mpd Mln Mat Mit Mvf Mdn Mlf Mar Msa Msm Mso])) 0 0 0 0 (wfl [cM qa cI Mst Mhi Mhn Msl Msv Mpd Mln Mat Mit Mvf Mdn Mlf Mar Msa Msm Mso]) [(0, .ref (qa 0)), (1, .int x1), (2, .int v2), (3, .int v3)] 4 [] := by
  intro n4
  induction n4 with
  | zero => intro v2 v3 h; exact (show False from h).elim
  | succ n4 ih4 =>
    intro v2 v3 h
    have h : wp_X6_faresIn_4F P Mst Mvf x1 (wp_X6_faresIn_4 P Mst Mvf x1 n4) v2 v3 := h
    unfold wp_X6_faresIn_4F at h
    refine gw_iload_n (pc' := 5) κ dX6_faresIn_4 rfl 3 rfl rfl ?_
    refine gw_aload_n (pc' := 6) κ dX6_faresIn_5 rfl 0 rfl rfl ?_
    refine gb_get (pc' := 9) (C := RX6) (T := TX6) (N := 16) κ dX6_faresIn_6 rfl inX6 0 rfl rfl rfl 0 (by decide) tw_fl_X6_7 rfl ?_
    refine gw_bipush (pc' := 11) (v := 33) κ dX6_faresIn_9 rfl (by decide) ?_
    refine gb_iald (pc' := 12) κ dX6_faresIn_11 rfl 0 1 rfl rfl (by unfold vp_in; decide) ?_
    refine gw_icmp_ge (pc' := 15) (tgt := 43) κ dX6_faresIn_12 rfl (by decide) (fun hc_2 => ?_) (fun hc_2 => ?_)
    · have h := h.1 hc_2
      refine gw_iload_n (pc' := 44) κ dX6_faresIn_43 rfl 2 rfl rfl ?_
      exact gw_iret κ dX6_faresIn_44 () rfl ⟨_, rfl, h⟩
    · have h := h.2 hc_2
      refine gw_iload_n (pc' := 16) κ dX6_faresIn_15 rfl 2 rfl rfl ?_
      refine gw_aload_n (pc' := 17) κ dX6_faresIn_16 rfl 0 rfl rfl ?_
      refine gb_get (pc' := 20) (C := RX6) (T := TX6) (N := 16) κ dX6_faresIn_17 rfl inX6 0 rfl rfl rfl 9 (by decide) tw_fl_X6_28 rfl ?_
      refine gw_iload_n (pc' := 21) κ dX6_faresIn_20 rfl 3 rfl rfl ?_
      obtain ⟨hb_3, h⟩ := h
      refine gb_iald (pc' := 22) κ dX6_faresIn_21 rfl 0 7 rfl rfl hb_3 ?_
      refine gw_iload_n (pc' := 23) κ dX6_faresIn_22 rfl 1 rfl rfl ?_
      refine gw_icmp_ne (pc' := 26) (tgt := 34) κ dX6_faresIn_23 rfl (by decide) (fun hc_4 => ?_) (fun hc_4 => ?_)
      · have h := h.1 hc_4
        refine gw_iconst (pc' := 35) (v := 0) κ dX6_faresIn_34 rfl (by decide) ?_
        refine gw_iadd (pc' := 36) κ dX6_faresIn_35 rfl  ?_
        refine gw_istore_n (pc' := 37) κ dX6_faresIn_36 rfl rfl (by decide) (lv' := [(2, .int (v2 + (0 : Int32))), (0, .ref (qa 0)), (1, .int x1), (3, .int v3)]) rfl ?_
        refine gw_iinc (pc' := 40) κ dX6_faresIn_37 rfl 3 rfl (v := (v3 + 1)) rfl (by decide) (lv' := [(3, .int (v3 + 1)), (2, .int (v2 + (0 : Int32))), (0, .ref (qa 0)), (1, .int x1)]) rfl ?_
        refine gw_goto (tgt := 4) κ dX6_faresIn_40 (by decide) ?_
        refine gw_lv (lv' := [(0, .ref (qa 0)), (1, .int x1), (2, .int (v2 + (0 : Int32))), (3, .int (v3 + 1))]) [2, 3, 1, 0] rfl ?_
        exact ih4 (v2 + (0 : Int32)) (v3 + 1) h
      · have h := h.2 hc_4
        refine gw_aload_n (pc' := 27) κ dX6_faresIn_26 rfl 0 rfl rfl ?_
        refine gw_iload_n (pc' := 28) κ dX6_faresIn_27 rfl 3 rfl rfl ?_
        refine gb_callV (ci := 6) (qb := 0) (rest := [.int v2]) κ (c_X6_fare qa Mst Mhi Mhn Msl Msv Mpd Mln Mat Mit Mvf Mdn Mlf Mar Msa Msm Mso v3 h) ⟨rfl, rfl, Nat.le_of_ble_eq_true rfl, Nat.le_of_ble_eq_true rfl⟩ tw_ml_X6_126 tw_im_X6_fare tw_se_X6_fare tw_co_X6_fare tw_in_X6 hy_X6_fare rfl rfl rfl rfl rfl (Nat.le_of_ble_eq_true rfl) rfl dX6_faresIn_28 [0] rfl (by decide) (fun _ => Nat.le_of_ble_eq_true rfl) ⟨Nat.le_of_ble_eq_true rfl, Nat.le_of_ble_eq_true rfl⟩ (fun v u hv => ?_)
        obtain ⟨r_5, rfl, h⟩ := hv
        refine gw_nf (ws' := (wfl [cM qa cI Mst Mhi Mhn Msl Msv Mpd Mln Mat Mit Mvf Mdn Mlf Mar Msa Msm Mso])) (lv' := [(0, .ref (qa 0)), (1, .int x1), (2, .int v2), (3, .int v3)]) (st' := [.int r_5, .int v2]) (pc' := 31) (ce' := 0) (sl' := 0) rfl rfl rfl rfl rfl rfl ?_
        refine gw_goto (tgt := 35) κ dX6_faresIn_31 (by decide) ?_
        refine gw_iadd (pc' := 36) κ dX6_faresIn_35 rfl  ?_
        refine gw_istore_n (pc' := 37) κ dX6_faresIn_36 rfl rfl (by decide) (lv' := [(2, .int (v2 + r_5)), (0, .ref (qa 0)), (1, .int x1), (3, .int v3)]) rfl ?_
        refine gw_iinc (pc' := 40) κ dX6_faresIn_37 rfl 3 rfl (v := (v3 + 1)) rfl (by decide) (lv' := [(3, .int (v3 + 1)), (2, .int (v2 + r_5)), (0, .ref (qa 0)), (1, .int x1)]) rfl ?_
        refine gw_goto (tgt := 4) κ dX6_faresIn_40 (by decide) ?_
        refine gw_lv (lv' := [(0, .ref (qa 0)), (1, .int x1), (2, .int (v2 + r_5)), (3, .int (v3 + 1))]) [2, 3, 1, 0] rfl ?_
        exact ih4 (v2 + r_5) (v3 + 1) h
set_option maxHeartbeats 4000000 in
set_option maxRecDepth 100000 in
theorem c_X6_faresIn {l : Launch} {D : va_G} {cI cR : ClassId}  (qa : Nat → Nat) {P : Int32 → Prop} (Mst : Nat → Int32) (Mhi : Nat → Int32) (Mhn : Int32) (Msl : Nat → Int32) (Msv : Nat → Int32) (Mpd : Nat → Int32) (Mln : Int32) (Mat : Int32) (Mit : Nat → Int32) (Mvf : Nat → Int32) (Mdn : Nat → Int32) (Mlf : Nat → Int32) (Mar : Nat → Int32) (Msa : Nat → Int32) (Msm : Nat → Int32) (Mso : Int32) (x1 : Int32) (h : wp_X6_faresIn P Mst Mvf x1) : CT l D cI cR yX6_faresIn cX6_faresIn 4 (some .int) ({ frames := 5, cells := 0, slots := 0, locals := 115 } : Room) [.ref (qa 0), .int x1] (wfl [cM qa cI Mst Mhi Mhn Msl Msv Mpd Mln Mat Mit Mvf Mdn Mlf Mar Msa Msm Mso]) (fun _ : Unit => (wfl [cM qa cI Mst Mhi Mhn Msl Msv Mpd Mln Mat Mit Mvf Mdn Mlf Mar Msa Msm Mso])) (pI (fun (r : Int32) (_ : Unit) => P r)) 0 0 := by
  refine ct_of RX6 rfl (by decide +kernel) (Nat.le_of_ble_eq_true rfl) (fun zp ze zs zm zb zt zc A hin κ => ?_)
  unfold wp_X6_faresIn at h
  refine gw_nf (lv' := [(0, .ref (qa 0)), (1, .int x1)]) (pc' := 0) (st' := []) (ce' := 0) (sl' := 0) rfl rfl rfl rfl rfl rfl ?_
  refine gw_iconst (pc' := 1) (v := 0) κ dX6_faresIn_0 rfl (by decide) ?_
  refine gw_istore_n (pc' := 2) κ dX6_faresIn_1 rfl rfl (by decide) (lv' := [(2, .int (0 : Int32)), (0, .ref (qa 0)), (1, .int x1)]) rfl ?_
  refine gw_iconst (pc' := 3) (v := 0) κ dX6_faresIn_2 rfl (by decide) ?_
  refine gw_istore_n (pc' := 4) κ dX6_faresIn_3 rfl rfl (by decide) (lv' := [(3, .int (0 : Int32)), (2, .int (0 : Int32)), (0, .ref (qa 0)), (1, .int x1)]) rfl ?_
  obtain ⟨m4, h⟩ := h
  refine gw_lv (lv' := [(0, .ref (qa 0)), (1, .int x1), (2, .int (0 : Int32)), (3, .int (0 : Int32))]) [2, 3, 1, 0] rfl ?_
  exact k_X6_faresIn_4 κ qa P Mst Mhi Mhn Msl Msv Mpd Mln Mat Mit Mvf Mdn Mlf Mar Msa Msm Mso x1 m4 (0 : Int32) (0 : Int32) h
theorem hy_X6_vanOf : g_hy yX6_vanOf 2 := by decide +kernel
set_option maxHeartbeats 4000000 in
set_option maxRecDepth 100000 in
theorem c_X6_vanOf {l : Launch} {D : va_G} {cI cR : ClassId}  (qa : Nat → Nat) {P : Int32 → (Nat → Int32) → (Nat → Int32) → (Nat → Int32) → (Nat → Int32) → (Nat → Int32) → (Nat → Int32) → Int32 → Prop} (Mst : Nat → Int32) (Mhi : Nat → Int32) (Mhn : Int32) (Msl : Nat → Int32) (Msv : Nat → Int32) (Mpd : Nat → Int32) (Mln : Int32) (Mat : Int32) (Mit : Nat → Int32) (Mvf : Nat → Int32) (Mdn : Nat → Int32) (Mlf : Nat → Int32) (Mar : Nat → Int32) (Msa : Nat → Int32) (Msm : Nat → Int32) (Mso : Int32) (x1 : Int32) (x2 : Int32) (h : wp_X6_vanOf P Mst Mvf Mdn Mlf Mar Msa Msm Mso x1 x2) : CT l D cI cR yX6_vanOf cX6_vanOf 3 (some .int) ({ frames := 6, cells := 0, slots := 0, locals := 138 } : Room) [.ref (qa 0), .int x1, .int x2] (wfl [cM qa cI Mst Mhi Mhn Msl Msv Mpd Mln Mat Mit Mvf Mdn Mlf Mar Msa Msm Mso]) (fun u : (Nat → Int32) × (Nat → Int32) × (Nat → Int32) × (Nat → Int32) × (Nat → Int32) × (Nat → Int32) × Int32 => (wfl [cM qa cI Mst Mhi Mhn Msl Msv Mpd Mln Mat Mit u.1 u.2.1 u.2.2.1 u.2.2.2.1 u.2.2.2.2.1 u.2.2.2.2.2.1 u.2.2.2.2.2.2])) (pI (fun (r : Int32) (u : (Nat → Int32) × (Nat → Int32) × (Nat → Int32) × (Nat → Int32) × (Nat → Int32) × (Nat → Int32) × Int32) => P r u.1 u.2.1 u.2.2.1 u.2.2.2.1 u.2.2.2.2.1 u.2.2.2.2.2.1 u.2.2.2.2.2.2)) 0 0 := by
  refine ct_of RX6 rfl (by decide +kernel) (Nat.le_of_ble_eq_true rfl) (fun zp ze zs zm zb zt zc A hin κ => ?_)
  unfold wp_X6_vanOf at h
  refine gw_nf (lv' := [(0, .ref (qa 0)), (1, .int x1), (2, .int x2)]) (pc' := 0) (st' := []) (ce' := 0) (sl' := 0) rfl rfl rfl rfl rfl rfl ?_
  refine gw_iload_n (pc' := 1) κ dX6_vanOf_0 rfl 1 rfl rfl ?_
  refine gb_callS (rest := []) κ (c_X6_isVan  x1 h) ⟨rfl, rfl, Nat.le_of_ble_eq_true rfl, Nat.le_of_ble_eq_true rfl⟩ tw_ml_X6_110 tw_st_X6_isVan tw_co_X6_isVan tw_in_X6 hy_X6_isVan rfl (Nat.le_of_ble_eq_true rfl) rfl dX6_vanOf_1 [] rfl (by decide) (fun _ => Nat.le_of_ble_eq_true rfl) ⟨Nat.le_of_ble_eq_true rfl, Nat.le_of_ble_eq_true rfl⟩ (fun v u hv => ?_)
  obtain ⟨r_1, rfl, h⟩ := hv
  refine gw_nf (ws' := (wfl [cM qa cI Mst Mhi Mhn Msl Msv Mpd Mln Mat Mit Mvf Mdn Mlf Mar Msa Msm Mso])) (lv' := [(0, .ref (qa 0)), (1, .int x1), (2, .int x2)]) (st' := [.int r_1]) (pc' := 4) (ce' := 0) (sl' := 0) rfl rfl rfl rfl rfl rfl ?_
  refine gw_if_ne (pc' := 7) (tgt := 10) κ dX6_vanOf_4 rfl (by decide) (fun hc_2 => ?_) (fun hc_2 => ?_)
  · have h := h.1 hc_2
    refine gw_aload_n (pc' := 11) κ dX6_vanOf_10 rfl 0 rfl rfl ?_
    refine gb_callV (ci := 6) (qb := 0) (rest := []) κ (c_X6_lay qa Mst Mhi Mhn Msl Msv Mpd Mln Mat Mit Mvf Mdn Mlf Mar Msa Msm Mso h) ⟨rfl, rfl, Nat.le_of_ble_eq_true rfl, Nat.le_of_ble_eq_true rfl⟩ tw_ml_X6_113 tw_im_X6_lay tw_se_X6_lay tw_co_X6_lay tw_in_X6 hy_X6_lay rfl rfl rfl rfl rfl (Nat.le_of_ble_eq_true rfl) rfl dX6_vanOf_11 [0] rfl (by decide) (fun _ => Nat.le_of_ble_eq_true rfl) ⟨Nat.le_of_ble_eq_true rfl, Nat.le_of_ble_eq_true rfl⟩ (fun v u hv => ?_)
    obtain ⟨rfl, h⟩ := hv
    obtain ⟨Mvf_3, Mdn_4, Mlf_5, Mar_6⟩ := u
    refine gw_nf (ws' := (wfl [cM qa cI Mst Mhi Mhn Msl Msv Mpd Mln Mat Mit Mvf_3 Mdn_4 Mlf_5 Mar_6 Msa Msm Mso])) (lv' := [(0, .ref (qa 0)), (1, .int x1), (2, .int x2)]) (st' := []) (pc' := 14) (ce' := 0) (sl' := 0) rfl rfl rfl rfl rfl rfl ?_
    refine gw_aload_n (pc' := 15) κ dX6_vanOf_14 rfl 0 rfl rfl ?_
    refine gw_iload_n (pc' := 16) κ dX6_vanOf_15 rfl 1 rfl rfl ?_
    refine gb_callV (ci := 6) (qb := 0) (rest := []) κ (c_X6_layStops qa Mst Mhi Mhn Msl Msv Mpd Mln Mat Mit Mvf_3 Mdn_4 Mlf_5 Mar_6 Msa Msm Mso x1 h) ⟨rfl, rfl, Nat.le_of_ble_eq_true rfl, Nat.le_of_ble_eq_true rfl⟩ tw_ml_X6_88 tw_im_X6_layStops tw_se_X6_layStops tw_co_X6_layStops tw_in_X6 hy_X6_layStops rfl rfl rfl rfl rfl (Nat.le_of_ble_eq_true rfl) rfl dX6_vanOf_16 [0] rfl (by decide) (fun _ => Nat.le_of_ble_eq_true rfl) ⟨Nat.le_of_ble_eq_true rfl, Nat.le_of_ble_eq_true rfl⟩ (fun v u hv => ?_)
    obtain ⟨rfl, h⟩ := hv
    obtain ⟨Msa_7, Msm_8, Mso_9⟩ := u
    refine gw_nf (ws' := (wfl [cM qa cI Mst Mhi Mhn Msl Msv Mpd Mln Mat Mit Mvf_3 Mdn_4 Mlf_5 Mar_6 Msa_7 Msm_8 Mso_9])) (lv' := [(0, .ref (qa 0)), (1, .int x1), (2, .int x2)]) (st' := []) (pc' := 19) (ce' := 0) (sl' := 0) rfl rfl rfl rfl rfl rfl ?_
    refine gw_iload_n (pc' := 20) κ dX6_vanOf_19 rfl 2 rfl rfl ?_
    obtain ⟨hc_10_0, hc_10_1, hc_10_2, hc_10_3, hc_10_4, hc_10_5, hc_10_6, hc_10_7, hc_10d⟩ := h
    by_cases hc_10c_0 : x2 = 0
    · have h := hc_10_0 hc_10c_0
      refine gw_tableIn (tgt := 68) (off := 48) κ dX6_vanOf_20 (by rw [hc_10c_0]; decide) (by rw [hc_10c_0]; decide) (by rw [hc_10c_0]; decide +kernel) (by decide) ?_
      refine gw_aload_n (pc' := 69) κ dX6_vanOf_68 rfl 0 rfl rfl ?_
      refine gb_get (pc' := 72) (C := RX6) (T := TX6) (N := 16) κ dX6_vanOf_69 rfl inX6 0 rfl rfl rfl 0 (by decide) tw_fl_X6_7 rfl ?_
      refine gw_bipush (pc' := 74) (v := 17) κ dX6_vanOf_72 rfl (by decide) ?_
      refine gw_iload_n (pc' := 75) κ dX6_vanOf_74 rfl 1 rfl rfl ?_
      refine gw_iadd (pc' := 76) κ dX6_vanOf_75 rfl  ?_
      obtain ⟨hb_11, h⟩ := h
      refine gb_iald (pc' := 77) κ dX6_vanOf_76 rfl 0 1 rfl rfl hb_11 ?_
      exact gw_iret κ dX6_vanOf_77 (Mvf_3, Mdn_4, Mlf_5, Mar_6, Msa_7, Msm_8, Mso_9) rfl ⟨_, rfl, h⟩
    by_cases hc_10c_1 : x2 = 1
    · have h := hc_10_1 hc_10c_1
      refine gw_tableIn (tgt := 78) (off := 58) κ dX6_vanOf_20 (by rw [hc_10c_1]; decide) (by rw [hc_10c_1]; decide) (by rw [hc_10c_1]; decide +kernel) (by decide) ?_
      refine gw_aload_n (pc' := 79) κ dX6_vanOf_78 rfl 0 rfl rfl ?_
      refine gb_get (pc' := 82) (C := RX6) (T := TX6) (N := 16) κ dX6_vanOf_79 rfl inX6 0 rfl rfl rfl 0 (by decide) tw_fl_X6_7 rfl ?_
      refine gw_bipush (pc' := 84) (v := 25) κ dX6_vanOf_82 rfl (by decide) ?_
      refine gw_iload_n (pc' := 85) κ dX6_vanOf_84 rfl 1 rfl rfl ?_
      refine gw_iadd (pc' := 86) κ dX6_vanOf_85 rfl  ?_
      obtain ⟨hb_12, h⟩ := h
      refine gb_iald (pc' := 87) κ dX6_vanOf_86 rfl 0 1 rfl rfl hb_12 ?_
      exact gw_iret κ dX6_vanOf_87 (Mvf_3, Mdn_4, Mlf_5, Mar_6, Msa_7, Msm_8, Mso_9) rfl ⟨_, rfl, h⟩
    by_cases hc_10c_2 : x2 = 2
    · have h := hc_10_2 hc_10c_2
      refine gw_tableIn (tgt := 88) (off := 68) κ dX6_vanOf_20 (by rw [hc_10c_2]; decide) (by rw [hc_10c_2]; decide) (by rw [hc_10c_2]; decide +kernel) (by decide) ?_
      refine gw_aload_n (pc' := 89) κ dX6_vanOf_88 rfl 0 rfl rfl ?_
      refine gw_iload_n (pc' := 90) κ dX6_vanOf_89 rfl 1 rfl rfl ?_
      refine gb_callV (ci := 6) (qb := 0) (rest := []) κ (c_X6_peopleIn qa Mst Mhi Mhn Msl Msv Mpd Mln Mat Mit Mvf_3 Mdn_4 Mlf_5 Mar_6 Msa_7 Msm_8 Mso_9 x1 h) ⟨rfl, rfl, Nat.le_of_ble_eq_true rfl, Nat.le_of_ble_eq_true rfl⟩ tw_ml_X6_138 tw_im_X6_peopleIn tw_se_X6_peopleIn tw_co_X6_peopleIn tw_in_X6 hy_X6_peopleIn rfl rfl rfl rfl rfl (Nat.le_of_ble_eq_true rfl) rfl dX6_vanOf_90 [0] rfl (by decide) (fun _ => Nat.le_of_ble_eq_true rfl) ⟨Nat.le_of_ble_eq_true rfl, Nat.le_of_ble_eq_true rfl⟩ (fun v u hv => ?_)
      obtain ⟨r_13, rfl, h⟩ := hv
      refine gw_nf (ws' := (wfl [cM qa cI Mst Mhi Mhn Msl Msv Mpd Mln Mat Mit Mvf_3 Mdn_4 Mlf_5 Mar_6 Msa_7 Msm_8 Mso_9])) (lv' := [(0, .ref (qa 0)), (1, .int x1), (2, .int x2)]) (st' := [.int r_13]) (pc' := 93) (ce' := 0) (sl' := 0) rfl rfl rfl rfl rfl rfl ?_
      exact gw_iret κ dX6_vanOf_93 (Mvf_3, Mdn_4, Mlf_5, Mar_6, Msa_7, Msm_8, Mso_9) rfl ⟨_, rfl, h⟩
    by_cases hc_10c_3 : x2 = 3
    · have h := hc_10_3 hc_10c_3
      refine gw_tableIn (tgt := 94) (off := 74) κ dX6_vanOf_20 (by rw [hc_10c_3]; decide) (by rw [hc_10c_3]; decide) (by rw [hc_10c_3]; decide +kernel) (by decide) ?_
      refine gw_aload_n (pc' := 95) κ dX6_vanOf_94 rfl 0 rfl rfl ?_
      refine gw_iload_n (pc' := 96) κ dX6_vanOf_95 rfl 1 rfl rfl ?_
      refine gb_callV (ci := 6) (qb := 0) (rest := []) κ (c_X6_ridersIn qa Mst Mhi Mhn Msl Msv Mpd Mln Mat Mit Mvf_3 Mdn_4 Mlf_5 Mar_6 Msa_7 Msm_8 Mso_9 x1 h) ⟨rfl, rfl, Nat.le_of_ble_eq_true rfl, Nat.le_of_ble_eq_true rfl⟩ tw_ml_X6_141 tw_im_X6_ridersIn tw_se_X6_ridersIn tw_co_X6_ridersIn tw_in_X6 hy_X6_ridersIn rfl rfl rfl rfl rfl (Nat.le_of_ble_eq_true rfl) rfl dX6_vanOf_96 [0] rfl (by decide) (fun _ => Nat.le_of_ble_eq_true rfl) ⟨Nat.le_of_ble_eq_true rfl, Nat.le_of_ble_eq_true rfl⟩ (fun v u hv => ?_)
      obtain ⟨r_14, rfl, h⟩ := hv
      refine gw_nf (ws' := (wfl [cM qa cI Mst Mhi Mhn Msl Msv Mpd Mln Mat Mit Mvf_3 Mdn_4 Mlf_5 Mar_6 Msa_7 Msm_8 Mso_9])) (lv' := [(0, .ref (qa 0)), (1, .int x1), (2, .int x2)]) (st' := [.int r_14]) (pc' := 99) (ce' := 0) (sl' := 0) rfl rfl rfl rfl rfl rfl ?_
      exact gw_iret κ dX6_vanOf_99 (Mvf_3, Mdn_4, Mlf_5, Mar_6, Msa_7, Msm_8, Mso_9) rfl ⟨_, rfl, h⟩
    by_cases hc_10c_4 : x2 = 4
    · have h := hc_10_4 hc_10c_4
      refine gw_tableIn (tgt := 100) (off := 80) κ dX6_vanOf_20 (by rw [hc_10c_4]; decide) (by rw [hc_10c_4]; decide) (by rw [hc_10c_4]; decide +kernel) (by decide) ?_
      refine gw_aload_n (pc' := 101) κ dX6_vanOf_100 rfl 0 rfl rfl ?_
      refine gb_get (pc' := 104) (C := RX6) (T := TX6) (N := 16) κ dX6_vanOf_101 rfl inX6 0 rfl rfl rfl 12 (by decide) tw_fl_X6_37 rfl ?_
      refine gw_iload_n (pc' := 105) κ dX6_vanOf_104 rfl 1 rfl rfl ?_
      obtain ⟨hb_15, h⟩ := h
      refine gb_iald (pc' := 106) κ dX6_vanOf_105 rfl 0 10 rfl rfl hb_15 ?_
      exact gw_iret κ dX6_vanOf_106 (Mvf_3, Mdn_4, Mlf_5, Mar_6, Msa_7, Msm_8, Mso_9) rfl ⟨_, rfl, h⟩
    by_cases hc_10c_5 : x2 = 5
    · have h := hc_10_5 hc_10c_5
      refine gw_tableIn (tgt := 107) (off := 87) κ dX6_vanOf_20 (by rw [hc_10c_5]; decide) (by rw [hc_10c_5]; decide) (by rw [hc_10c_5]; decide +kernel) (by decide) ?_
      refine gw_aload_n (pc' := 108) κ dX6_vanOf_107 rfl 0 rfl rfl ?_
      refine gb_get (pc' := 111) (C := RX6) (T := TX6) (N := 16) κ dX6_vanOf_108 rfl inX6 0 rfl rfl rfl 15 (by decide) tw_fl_X6_82 rfl ?_
      exact gw_iret κ dX6_vanOf_111 (Mvf_3, Mdn_4, Mlf_5, Mar_6, Msa_7, Msm_8, Mso_9) rfl ⟨_, rfl, h⟩
    by_cases hc_10c_6 : x2 = 6
    · have h := hc_10_6 hc_10c_6
      refine gw_tableIn (tgt := 112) (off := 92) κ dX6_vanOf_20 (by rw [hc_10c_6]; decide) (by rw [hc_10c_6]; decide) (by rw [hc_10c_6]; decide +kernel) (by decide) ?_
      refine gw_aload_n (pc' := 113) κ dX6_vanOf_112 rfl 0 rfl rfl ?_
      refine gb_get (pc' := 116) (C := RX6) (T := TX6) (N := 16) κ dX6_vanOf_113 rfl inX6 0 rfl rfl rfl 15 (by decide) tw_fl_X6_82 rfl ?_
      refine gw_if_ne (pc' := 119) (tgt := 124) κ dX6_vanOf_116 rfl (by decide) (fun hc_16 => ?_) (fun hc_16 => ?_)
      · have h := h.1 hc_16
        refine gw_aload_n (pc' := 125) κ dX6_vanOf_124 rfl 0 rfl rfl ?_
        refine gb_get (pc' := 128) (C := RX6) (T := TX6) (N := 16) κ dX6_vanOf_125 rfl inX6 0 rfl rfl rfl 14 (by decide) tw_fl_X6_43 rfl ?_
        refine gw_aload_n (pc' := 129) κ dX6_vanOf_128 rfl 0 rfl rfl ?_
        refine gb_get (pc' := 132) (C := RX6) (T := TX6) (N := 16) κ dX6_vanOf_129 rfl inX6 0 rfl rfl rfl 15 (by decide) tw_fl_X6_82 rfl ?_
        refine gw_iconst (pc' := 133) (v := 1) κ dX6_vanOf_132 rfl (by decide) ?_
        refine gw_isub (pc' := 134) κ dX6_vanOf_133 rfl  ?_
        obtain ⟨hb_17, h⟩ := h
        refine gb_iald (pc' := 135) κ dX6_vanOf_134 rfl 0 12 rfl rfl hb_17 ?_
        exact gw_iret κ dX6_vanOf_135 (Mvf_3, Mdn_4, Mlf_5, Mar_6, Msa_7, Msm_8, Mso_9) rfl ⟨_, rfl, h⟩
      · have h := h.2 hc_16
        refine gw_bipush (pc' := 121) (v := -106) κ dX6_vanOf_119 rfl (by decide) ?_
        refine gw_goto (tgt := 135) κ dX6_vanOf_121 (by decide) ?_
        exact gw_iret κ dX6_vanOf_135 (Mvf_3, Mdn_4, Mlf_5, Mar_6, Msa_7, Msm_8, Mso_9) rfl ⟨_, rfl, h⟩
    by_cases hc_10c_7 : x2 = 7
    · have h := hc_10_7 hc_10c_7
      refine gw_tableIn (tgt := 136) (off := 116) κ dX6_vanOf_20 (by rw [hc_10c_7]; decide) (by rw [hc_10c_7]; decide) (by rw [hc_10c_7]; decide +kernel) (by decide) ?_
      refine gw_aload_n (pc' := 137) κ dX6_vanOf_136 rfl 0 rfl rfl ?_
      refine gw_iload_n (pc' := 138) κ dX6_vanOf_137 rfl 1 rfl rfl ?_
      refine gb_callV (ci := 6) (qb := 0) (rest := []) κ (c_X6_faresIn qa Mst Mhi Mhn Msl Msv Mpd Mln Mat Mit Mvf_3 Mdn_4 Mlf_5 Mar_6 Msa_7 Msm_8 Mso_9 x1 h) ⟨rfl, rfl, Nat.le_of_ble_eq_true rfl, Nat.le_of_ble_eq_true rfl⟩ tw_ml_X6_144 tw_im_X6_faresIn tw_se_X6_faresIn tw_co_X6_faresIn tw_in_X6 hy_X6_faresIn rfl rfl rfl rfl rfl (Nat.le_of_ble_eq_true rfl) rfl dX6_vanOf_138 [0] rfl (by decide) (fun _ => Nat.le_of_ble_eq_true rfl) ⟨Nat.le_of_ble_eq_true rfl, Nat.le_of_ble_eq_true rfl⟩ (fun v u hv => ?_)
      obtain ⟨r_18, rfl, h⟩ := hv
      refine gw_nf (ws' := (wfl [cM qa cI Mst Mhi Mhn Msl Msv Mpd Mln Mat Mit Mvf_3 Mdn_4 Mlf_5 Mar_6 Msa_7 Msm_8 Mso_9])) (lv' := [(0, .ref (qa 0)), (1, .int x1), (2, .int x2)]) (st' := [.int r_18]) (pc' := 141) (ce' := 0) (sl' := 0) rfl rfl rfl rfl rfl rfl ?_
      exact gw_iret κ dX6_vanOf_141 (Mvf_3, Mdn_4, Mlf_5, Mar_6, Msa_7, Msm_8, Mso_9) rfl ⟨_, rfl, h⟩
    have h := hc_10d ⟨hc_10c_0, hc_10c_1, hc_10c_2, hc_10c_3, hc_10c_4, hc_10c_5, hc_10c_6, hc_10c_7⟩
    refine gw_tableOut (tgt := 142) κ dX6_vanOf_20 (sw_out2 (x := x2) (lo := 0) (hi := 7) (by decide) (fun k h1 h2 => by rcases (show k = 0 ∨ k = 1 ∨ k = 2 ∨ k = 3 ∨ k = 4 ∨ k = 5 ∨ k = 6 ∨ k = 7 by omega) with rfl | rfl | rfl | rfl | rfl | rfl | rfl | rfl <;> assumption)) (by decide) ?_
    refine gw_bipush (pc' := 144) (v := -102) κ dX6_vanOf_142 rfl (by decide) ?_
    exact gw_iret κ dX6_vanOf_144 (Mvf_3, Mdn_4, Mlf_5, Mar_6, Msa_7, Msm_8, Mso_9) rfl ⟨_, rfl, h⟩
  · have h := h.2 hc_2
    refine gw_bipush (pc' := 9) (v := -101) κ dX6_vanOf_7 rfl (by decide) ?_
    exact gw_iret κ dX6_vanOf_9 (Mvf, Mdn, Mlf, Mar, Msa, Msm, Mso) rfl ⟨_, rfl, h⟩
theorem hy_X6_peopleOf : g_hy yX6_peopleOf 2 := by decide +kernel
set_option maxHeartbeats 4000000 in
set_option maxRecDepth 100000 in
theorem k_X6_peopleOf_49 {zp : Program} {l : Launch} {ze : Env} {zs : State} {zm : MethodId} {za : Array Value} {zb : List Frame} {zt : Method} {zc : Code} {D : va_G} {cI cR : ClassId} {A : Nat → Prop} (κ : KC zp zs zm za zt zc cX6_peopleOf 6 RX6 D cI cR A (some .int)) (qa : Nat → Nat) (P : Int32 → Prop) (Mst : Nat → Int32) (Mhi : Nat → Int32) (Mhn : Int32) (Msl : Nat → Int32) (Msv : Nat → Int32) (Mpd : Nat → Int32) (Mln : Int32) (Mat : Int32) (Mit : Nat → Int32) (Mvf : Nat → Int32) (Mdn : Nat → Int32) (Mlf : Nat → Int32) (Mar : Nat → Int32) (Msa : Nat → Int32) (Msm : Nat → Int32) (Mso : Int32) (x1 : Int32) (x2 : Int32) (r5 : Int32 → Int32 → Prop) (v3 : Int32) (v4 : Int32) (w0 : Int32) (hr5 : ∀ (v3 : Int32) (v4 : Int32), r5 v3 v4 → GM zp l ze ({ frames := 1, cells := 0, slots := 0, locals := 22 } : Room) zs zm za zb zt zc D A 6 (pI (fun (r : Int32) (_ : Unit) => P r)) (fun _ : Unit => (wfl [cM qa cI Mst Mhi Mhn Msl Msv Mpd Mln Mat Mit Mvf Mdn Mlf Mar Msa Msm Mso])) 0 0 0 0 (wfl [cM qa cI Mst Mhi Mhn Msl Msv Mpd Mln Mat Mit Mvf Mdn Mlf Mar Msa Msm Mso]) [(0, .ref (qa 0)), (1, .int x1), (2, .int x2), (3, .int v3), (4, .int v4)] 5 []) (h : wp_X6_peopleOf_49 P Mst Mvf x1 x2 r5 v3 v4 w0) : GM zp l ze ({ frames := 1, cells := 0, slots := 0, locals := 22 } : Room) zs zm za zb zt zc D A 6 (pI (fun (r : Int32) (_ : Unit) => P r)) (fun _ : Unit => (wfl [cM qa cI Mst Mhi Mhn Msl Msv Mpd Mln Mat Mit Mvf Mdn Mlf Mar Msa Msm Mso])) 0 0 0 0 (wfl [cM qa cI Mst Mhi Mhn Msl Msv Mpd Mln Mat Mit Mvf Mdn Mlf Mar Msa Msm Mso]) [(0, .ref (qa 0)), (1, .int x1), (2, .int x2), (3, .int v3), (4, .int v4)] 49 [.int w0] := by
  unfold wp_X6_peopleOf_49 at h
  refine gw_istore (pc' := 51) κ dX6_peopleOf_49 rfl (by decide) (lv' := [(5, .int w0), (0, .ref (qa 0)), (1, .int x1), (2, .int x2), (3, .int v3), (4, .int v4)]) rfl ?_
  refine gw_iload_n (pc' := 52) κ dX6_peopleOf_51 rfl 4 rfl rfl ?_
  refine gw_iload (pc' := 54) κ dX6_peopleOf_52 rfl 0 rfl ?_
  refine gw_if_eq (pc' := 57) (tgt := 67) κ dX6_peopleOf_54 rfl (by decide) (fun hc_8 => ?_) (fun hc_8 => ?_)
  · have h := h.1 hc_8
    refine gw_iconst (pc' := 68) (v := 0) κ dX6_peopleOf_67 rfl (by decide) ?_
    refine gw_iadd (pc' := 69) κ dX6_peopleOf_68 rfl  ?_
    refine gw_istore_n (pc' := 70) κ dX6_peopleOf_69 rfl rfl (by decide) (lv' := [(3, .int (v3 + (0 : Int32))), (5, .int w0), (0, .ref (qa 0)), (1, .int x1), (2, .int x2), (4, .int v4)]) rfl ?_
    refine gw_iinc (pc' := 73) κ dX6_peopleOf_70 rfl 5 rfl (v := (v4 + 1)) rfl (by decide) (lv' := [(4, .int (v4 + 1)), (3, .int (v3 + (0 : Int32))), (5, .int w0), (0, .ref (qa 0)), (1, .int x1), (2, .int x2)]) rfl ?_
    refine gw_goto (tgt := 5) κ dX6_peopleOf_73 (by decide) ?_
    refine gw_lv (lv' := [(0, .ref (qa 0)), (1, .int x1), (2, .int x2), (3, .int (v3 + (0 : Int32))), (4, .int (v4 + 1))]) [3, 4, 5, 1, 0] rfl ?_
    exact hr5 (v3 + (0 : Int32)) (v4 + 1) h
  · have h := h.2 hc_8
    refine gw_aload_n (pc' := 58) κ dX6_peopleOf_57 rfl 1 rfl rfl ?_
    refine gw_iload (pc' := 60) κ dX6_peopleOf_58 rfl 5 rfl ?_
    refine gw_iconst (pc' := 61) (v := 3) κ dX6_peopleOf_60 rfl (by decide) ?_
    refine gb_callV (ci := 6) (qb := 0) (rest := [.int v3]) κ (c_X6_of qa Mst Mhi Mhn Msl Msv Mpd Mln Mat Mit Mvf Mdn Mlf Mar Msa Msm Mso v4 (3 : Int32) h) ⟨rfl, rfl, Nat.le_of_ble_eq_true rfl, Nat.le_of_ble_eq_true rfl⟩ tw_ml_X6_57 tw_im_X6_of tw_se_X6_of tw_co_X6_of tw_in_X6 hy_X6_of rfl rfl rfl rfl rfl (Nat.le_of_ble_eq_true rfl) rfl dX6_peopleOf_61 [0] rfl (by decide) (fun _ => Nat.le_of_ble_eq_true rfl) ⟨Nat.le_of_ble_eq_true rfl, Nat.le_of_ble_eq_true rfl⟩ (fun v u hv => ?_)
    obtain ⟨r_9, rfl, h⟩ := hv
    refine gw_nf (ws' := (wfl [cM qa cI Mst Mhi Mhn Msl Msv Mpd Mln Mat Mit Mvf Mdn Mlf Mar Msa Msm Mso])) (lv' := [(5, .int w0), (0, .ref (qa 0)), (1, .int x1), (2, .int x2), (3, .int v3), (4, .int v4)]) (st' := [.int r_9, .int v3]) (pc' := 64) (ce' := 0) (sl' := 0) rfl rfl rfl rfl rfl rfl ?_
    refine gw_goto (tgt := 68) κ dX6_peopleOf_64 (by decide) ?_
    refine gw_iadd (pc' := 69) κ dX6_peopleOf_68 rfl  ?_
    refine gw_istore_n (pc' := 70) κ dX6_peopleOf_69 rfl rfl (by decide) (lv' := [(3, .int (v3 + r_9)), (5, .int w0), (0, .ref (qa 0)), (1, .int x1), (2, .int x2), (4, .int v4)]) rfl ?_
    refine gw_iinc (pc' := 73) κ dX6_peopleOf_70 rfl 5 rfl (v := (v4 + 1)) rfl (by decide) (lv' := [(4, .int (v4 + 1)), (3, .int (v3 + r_9)), (5, .int w0), (0, .ref (qa 0)), (1, .int x1), (2, .int x2)]) rfl ?_
    refine gw_goto (tgt := 5) κ dX6_peopleOf_73 (by decide) ?_
    refine gw_lv (lv' := [(0, .ref (qa 0)), (1, .int x1), (2, .int x2), (3, .int (v3 + r_9)), (4, .int (v4 + 1))]) [3, 4, 5, 1, 0] rfl ?_
    exact hr5 (v3 + r_9) (v4 + 1) h
set_option maxHeartbeats 4000000 in
set_option maxRecDepth 100000 in
theorem k_X6_peopleOf_5 {zp : Program} {l : Launch} {ze : Env} {zs : State} {zm : MethodId} {za : Array Value} {zb : List Frame} {zt : Method} {zc : Code} {D : va_G} {cI cR : ClassId} {A : Nat → Prop} (κ : KC zp zs zm za zt zc cX6_peopleOf 6 RX6 D cI cR A (some .int)) (qa : Nat → Nat) (P : Int32 → Prop) (Mst : Nat → Int32) (Mhi : Nat → Int32) (Mhn : Int32) (Msl : Nat → Int32) (Msv : Nat → Int32) (Mpd : Nat → Int32) (Mln : Int32) (Mat : Int32) (Mit : Nat → Int32) (Mvf : Nat → Int32) (Mdn : Nat → Int32) (Mlf : Nat → Int32) (Mar : Nat → Int32) (Msa : Nat → Int32) (Msm : Nat → Int32) (Mso : Int32) (x1 : Int32) (x2 : Int32) : ∀ (n : Nat) (v3 : Int32) (v4 : Int32), wp_X6_peopleOf_5 P Mst Mvf x1 x2 n v3 v4 → GM zp l ze ({ frames := 1, cells := 0, slots := 0, locals := 22 } : Room) zs zm za zb zt zc D A 6 (pI (fun (r : Int32) (_ : Unit) => P r)) (fun _ : Unit => (wfl [cM qa cI Mst Mhi Mhn Msl Msv Mpd Mln Mat Mit Mvf Mdn Mlf Mar Msa Msm Mso])) 0 0 0 0 (wfl [cM qa cI Mst Mhi Mhn Msl Msv Mpd Mln Mat Mit Mvf Mdn Mlf Mar Msa Msm Mso]) [(0, .ref (qa 0)), (1, .int x1), (2, .int x2), (3, .int v3), (4, .int v4)] 5 [] := by
  intro n5
  induction n5 with
  | zero => intro v3 v4 h; exact (show False from h).elim
  | succ n5 ih5 =>
    intro v3 v4 h
    have h : wp_X6_peopleOf_5F P Mst Mvf x1 x2 (wp_X6_peopleOf_5 P Mst Mvf x1 x2 n5) v3 v4 := h
    unfold wp_X6_peopleOf_5F at h
    refine gw_iload (pc' := 7) κ dX6_peopleOf_5 rfl 4 rfl ?_
    refine gw_aload_n (pc' := 8) κ dX6_peopleOf_7 rfl 0 rfl rfl ?_
    refine gb_get (pc' := 11) (C := RX6) (T := TX6) (N := 16) κ dX6_peopleOf_8 rfl inX6 0 rfl rfl rfl 0 (by decide) tw_fl_X6_7 rfl ?_
    refine gw_bipush (pc' := 13) (v := 33) κ dX6_peopleOf_11 rfl (by decide) ?_
    refine gb_iald (pc' := 14) κ dX6_peopleOf_13 rfl 0 1 rfl rfl (by unfold vp_in; decide) ?_
    refine gw_icmp_ge (pc' := 17) (tgt := 76) κ dX6_peopleOf_14 rfl (by decide) (fun hc_2 => ?_) (fun hc_2 => ?_)
    · have h := h.1 hc_2
      refine gw_iload_n (pc' := 77) κ dX6_peopleOf_76 rfl 3 rfl rfl ?_
      exact gw_iret κ dX6_peopleOf_77 () rfl ⟨_, rfl, h⟩
    · have h := h.2 hc_2
      refine gw_aload_n (pc' := 18) κ dX6_peopleOf_17 rfl 0 rfl rfl ?_
      refine gw_iload (pc' := 20) κ dX6_peopleOf_18 rfl 4 rfl ?_
      refine gw_iconst (pc' := 21) (v := 0) κ dX6_peopleOf_20 rfl (by decide) ?_
      refine gb_callV (ci := 6) (qb := 0) (rest := []) κ (c_X6_of qa Mst Mhi Mhn Msl Msv Mpd Mln Mat Mit Mvf Mdn Mlf Mar Msa Msm Mso v4 (0 : Int32) h) ⟨rfl, rfl, Nat.le_of_ble_eq_true rfl, Nat.le_of_ble_eq_true rfl⟩ tw_ml_X6_57 tw_im_X6_of tw_se_X6_of tw_co_X6_of tw_in_X6 hy_X6_of rfl rfl rfl rfl rfl (Nat.le_of_ble_eq_true rfl) rfl dX6_peopleOf_21 [0] rfl (by decide) (fun _ => Nat.le_of_ble_eq_true rfl) ⟨Nat.le_of_ble_eq_true rfl, Nat.le_of_ble_eq_true rfl⟩ (fun v u hv => ?_)
      obtain ⟨r_3, rfl, h⟩ := hv
      refine gw_nf (ws' := (wfl [cM qa cI Mst Mhi Mhn Msl Msv Mpd Mln Mat Mit Mvf Mdn Mlf Mar Msa Msm Mso])) (lv' := [(0, .ref (qa 0)), (1, .int x1), (2, .int x2), (3, .int v3), (4, .int v4)]) (st' := [.int r_3]) (pc' := 24) (ce' := 0) (sl' := 0) rfl rfl rfl rfl rfl rfl ?_
      refine gw_iload_n (pc' := 25) κ dX6_peopleOf_24 rfl 1 rfl rfl ?_
      refine gw_icmp_ne (pc' := 28) (tgt := 48) κ dX6_peopleOf_25 rfl (by decide) (fun hc_4 => ?_) (fun hc_4 => ?_)
      · have h := h.1 hc_4
        refine gw_iconst (pc' := 49) (v := 0) κ dX6_peopleOf_48 rfl (by decide) ?_
        refine gw_lv (lv' := [(0, .ref (qa 0)), (1, .int x1), (2, .int x2), (3, .int v3), (4, .int v4)]) [0, 1, 2, 3, 4] rfl ?_
        exact k_X6_peopleOf_49 κ qa P Mst Mhi Mhn Msl Msv Mpd Mln Mat Mit Mvf Mdn Mlf Mar Msa Msm Mso x1 x2 (wp_X6_peopleOf_5 P Mst Mvf x1 x2 n5) v3 v4 (0 : Int32) ih5 h
      · have h := h.2 hc_4
        refine gw_iload_n (pc' := 29) κ dX6_peopleOf_28 rfl 2 rfl rfl ?_
        refine gw_if_eq (pc' := 32) (tgt := 44) κ dX6_peopleOf_29 rfl (by decide) (fun hc_5 => ?_) (fun hc_5 => ?_)
        · have h := h.1 hc_5
          refine gw_iconst (pc' := 45) (v := 1) κ dX6_peopleOf_44 rfl (by decide) ?_
          refine gw_goto (tgt := 49) κ dX6_peopleOf_45 (by decide) ?_
          refine gw_lv (lv' := [(0, .ref (qa 0)), (1, .int x1), (2, .int x2), (3, .int v3), (4, .int v4)]) [0, 1, 2, 3, 4] rfl ?_
          exact k_X6_peopleOf_49 κ qa P Mst Mhi Mhn Msl Msv Mpd Mln Mat Mit Mvf Mdn Mlf Mar Msa Msm Mso x1 x2 (wp_X6_peopleOf_5 P Mst Mvf x1 x2 n5) v3 v4 (1 : Int32) ih5 h
        · have h := h.2 hc_5
          refine gw_aload_n (pc' := 33) κ dX6_peopleOf_32 rfl 0 rfl rfl ?_
          refine gb_get (pc' := 36) (C := RX6) (T := TX6) (N := 16) κ dX6_peopleOf_33 rfl inX6 0 rfl rfl rfl 9 (by decide) tw_fl_X6_28 rfl ?_
          refine gw_iload (pc' := 38) κ dX6_peopleOf_36 rfl 4 rfl ?_
          obtain ⟨hb_6, h⟩ := h
          refine gb_iald (pc' := 39) κ dX6_peopleOf_38 rfl 0 7 rfl rfl hb_6 ?_
          refine gw_bipush (pc' := 41) (v := -106) κ dX6_peopleOf_39 rfl (by decide) ?_
          refine gw_icmp_ne (pc' := 44) (tgt := 48) κ dX6_peopleOf_41 rfl (by decide) (fun hc_7 => ?_) (fun hc_7 => ?_)
          · have h := h.1 hc_7
            refine gw_iconst (pc' := 49) (v := 0) κ dX6_peopleOf_48 rfl (by decide) ?_
            refine gw_lv (lv' := [(0, .ref (qa 0)), (1, .int x1), (2, .int x2), (3, .int v3), (4, .int v4)]) [0, 1, 2, 3, 4] rfl ?_
            exact k_X6_peopleOf_49 κ qa P Mst Mhi Mhn Msl Msv Mpd Mln Mat Mit Mvf Mdn Mlf Mar Msa Msm Mso x1 x2 (wp_X6_peopleOf_5 P Mst Mvf x1 x2 n5) v3 v4 (0 : Int32) ih5 h
          · have h := h.2 hc_7
            refine gw_iconst (pc' := 45) (v := 1) κ dX6_peopleOf_44 rfl (by decide) ?_
            refine gw_goto (tgt := 49) κ dX6_peopleOf_45 (by decide) ?_
            refine gw_lv (lv' := [(0, .ref (qa 0)), (1, .int x1), (2, .int x2), (3, .int v3), (4, .int v4)]) [0, 1, 2, 3, 4] rfl ?_
            exact k_X6_peopleOf_49 κ qa P Mst Mhi Mhn Msl Msv Mpd Mln Mat Mit Mvf Mdn Mlf Mar Msa Msm Mso x1 x2 (wp_X6_peopleOf_5 P Mst Mvf x1 x2 n5) v3 v4 (1 : Int32) ih5 h
set_option maxHeartbeats 4000000 in
set_option maxRecDepth 100000 in
theorem c_X6_peopleOf {l : Launch} {D : va_G} {cI cR : ClassId}  (qa : Nat → Nat) {P : Int32 → Prop} (Mst : Nat → Int32) (Mhi : Nat → Int32) (Mhn : Int32) (Msl : Nat → Int32) (Msv : Nat → Int32) (Mpd : Nat → Int32) (Mln : Int32) (Mat : Int32) (Mit : Nat → Int32) (Mvf : Nat → Int32) (Mdn : Nat → Int32) (Mlf : Nat → Int32) (Mar : Nat → Int32) (Msa : Nat → Int32) (Msm : Nat → Int32) (Mso : Int32) (x1 : Int32) (x2 : Int32) (h : wp_X6_peopleOf P Mst Mvf x1 x2) : CT l D cI cR yX6_peopleOf cX6_peopleOf 6 (some .int) ({ frames := 1, cells := 0, slots := 0, locals := 22 } : Room) [.ref (qa 0), .int x1, .int x2] (wfl [cM qa cI Mst Mhi Mhn Msl Msv Mpd Mln Mat Mit Mvf Mdn Mlf Mar Msa Msm Mso]) (fun _ : Unit => (wfl [cM qa cI Mst Mhi Mhn Msl Msv Mpd Mln Mat Mit Mvf Mdn Mlf Mar Msa Msm Mso])) (pI (fun (r : Int32) (_ : Unit) => P r)) 0 0 := by
  refine ct_of RX6 rfl (by decide +kernel) (Nat.le_of_ble_eq_true rfl) (fun zp ze zs zm zb zt zc A hin κ => ?_)
  unfold wp_X6_peopleOf at h
  refine gw_nf (lv' := [(0, .ref (qa 0)), (1, .int x1), (2, .int x2)]) (pc' := 0) (st' := []) (ce' := 0) (sl' := 0) rfl rfl rfl rfl rfl rfl ?_
  refine gw_iconst (pc' := 1) (v := 0) κ dX6_peopleOf_0 rfl (by decide) ?_
  refine gw_istore_n (pc' := 2) κ dX6_peopleOf_1 rfl rfl (by decide) (lv' := [(3, .int (0 : Int32)), (0, .ref (qa 0)), (1, .int x1), (2, .int x2)]) rfl ?_
  refine gw_iconst (pc' := 3) (v := 0) κ dX6_peopleOf_2 rfl (by decide) ?_
  refine gw_istore (pc' := 5) κ dX6_peopleOf_3 rfl (by decide) (lv' := [(4, .int (0 : Int32)), (3, .int (0 : Int32)), (0, .ref (qa 0)), (1, .int x1), (2, .int x2)]) rfl ?_
  obtain ⟨m5, h⟩ := h
  refine gw_lv (lv' := [(0, .ref (qa 0)), (1, .int x1), (2, .int x2), (3, .int (0 : Int32)), (4, .int (0 : Int32))]) [2, 3, 4, 1, 0] rfl ?_
  exact k_X6_peopleOf_5 κ qa P Mst Mhi Mhn Msl Msv Mpd Mln Mat Mit Mvf Mdn Mlf Mar Msa Msm Mso x1 x2 m5 (0 : Int32) (0 : Int32) h
theorem hy_X6_flight : g_hy yX6_flight 2 := by decide +kernel
set_option maxHeartbeats 4000000 in
set_option maxRecDepth 100000 in
theorem c_X6_flight {l : Launch} {D : va_G} {cI cR : ClassId}  (qa : Nat → Nat) {P : Int32 → (Nat → Int32) → (Nat → Int32) → (Nat → Int32) → (Nat → Int32) → Prop} (Mst : Nat → Int32) (Mhi : Nat → Int32) (Mhn : Int32) (Msl : Nat → Int32) (Msv : Nat → Int32) (Mpd : Nat → Int32) (Mln : Int32) (Mat : Int32) (Mit : Nat → Int32) (Mvf : Nat → Int32) (Mdn : Nat → Int32) (Mlf : Nat → Int32) (Mar : Nat → Int32) (Msa : Nat → Int32) (Msm : Nat → Int32) (Mso : Int32) (x1 : Int32) (x2 : Int32) (h : wp_X6_flight P Mst Mvf Mdn Mlf Mar x1 x2) : CT l D cI cR yX6_flight cX6_flight 3 (some .int) ({ frames := 5, cells := 0, slots := 0, locals := 113 } : Room) [.ref (qa 0), .int x1, .int x2] (wfl [cM qa cI Mst Mhi Mhn Msl Msv Mpd Mln Mat Mit Mvf Mdn Mlf Mar Msa Msm Mso]) (fun u : (Nat → Int32) × (Nat → Int32) × (Nat → Int32) × (Nat → Int32) => (wfl [cM qa cI Mst Mhi Mhn Msl Msv Mpd Mln Mat Mit u.1 u.2.1 u.2.2.1 u.2.2.2 Msa Msm Mso])) (pI (fun (r : Int32) (u : (Nat → Int32) × (Nat → Int32) × (Nat → Int32) × (Nat → Int32)) => P r u.1 u.2.1 u.2.2.1 u.2.2.2)) 0 0 := by
  refine ct_of RX6 rfl (by decide +kernel) (Nat.le_of_ble_eq_true rfl) (fun zp ze zs zm zb zt zc A hin κ => ?_)
  unfold wp_X6_flight at h
  refine gw_nf (lv' := [(0, .ref (qa 0)), (1, .int x1), (2, .int x2)]) (pc' := 0) (st' := []) (ce' := 0) (sl' := 0) rfl rfl rfl rfl rfl rfl ?_
  refine gw_iload_n (pc' := 1) κ dX6_flight_0 rfl 1 rfl rfl ?_
  refine gb_callS (rest := []) κ (c_X6_isFlight  x1 h) ⟨rfl, rfl, Nat.le_of_ble_eq_true rfl, Nat.le_of_ble_eq_true rfl⟩ tw_ml_X6_106 tw_st_X6_isFlight tw_co_X6_isFlight tw_in_X6 hy_X6_isFlight rfl (Nat.le_of_ble_eq_true rfl) rfl dX6_flight_1 [] rfl (by decide) (fun _ => Nat.le_of_ble_eq_true rfl) ⟨Nat.le_of_ble_eq_true rfl, Nat.le_of_ble_eq_true rfl⟩ (fun v u hv => ?_)
  obtain ⟨r_1, rfl, h⟩ := hv
  refine gw_nf (ws' := (wfl [cM qa cI Mst Mhi Mhn Msl Msv Mpd Mln Mat Mit Mvf Mdn Mlf Mar Msa Msm Mso])) (lv' := [(0, .ref (qa 0)), (1, .int x1), (2, .int x2)]) (st' := [.int r_1]) (pc' := 4) (ce' := 0) (sl' := 0) rfl rfl rfl rfl rfl rfl ?_
  refine gw_if_ne (pc' := 7) (tgt := 10) κ dX6_flight_4 rfl (by decide) (fun hc_2 => ?_) (fun hc_2 => ?_)
  · have h := h.1 hc_2
    refine gw_aload_n (pc' := 11) κ dX6_flight_10 rfl 0 rfl rfl ?_
    refine gb_callV (ci := 6) (qb := 0) (rest := []) κ (c_X6_lay qa Mst Mhi Mhn Msl Msv Mpd Mln Mat Mit Mvf Mdn Mlf Mar Msa Msm Mso h) ⟨rfl, rfl, Nat.le_of_ble_eq_true rfl, Nat.le_of_ble_eq_true rfl⟩ tw_ml_X6_113 tw_im_X6_lay tw_se_X6_lay tw_co_X6_lay tw_in_X6 hy_X6_lay rfl rfl rfl rfl rfl (Nat.le_of_ble_eq_true rfl) rfl dX6_flight_11 [0] rfl (by decide) (fun _ => Nat.le_of_ble_eq_true rfl) ⟨Nat.le_of_ble_eq_true rfl, Nat.le_of_ble_eq_true rfl⟩ (fun v u hv => ?_)
    obtain ⟨rfl, h⟩ := hv
    obtain ⟨Mvf_3, Mdn_4, Mlf_5, Mar_6⟩ := u
    refine gw_nf (ws' := (wfl [cM qa cI Mst Mhi Mhn Msl Msv Mpd Mln Mat Mit Mvf_3 Mdn_4 Mlf_5 Mar_6 Msa Msm Mso])) (lv' := [(0, .ref (qa 0)), (1, .int x1), (2, .int x2)]) (st' := []) (pc' := 14) (ce' := 0) (sl' := 0) rfl rfl rfl rfl rfl rfl ?_
    refine gw_iload_n (pc' := 15) κ dX6_flight_14 rfl 2 rfl rfl ?_
    obtain ⟨hc_7_0, hc_7_1, hc_7_2, hc_7_3, hc_7_4, hc_7d⟩ := h
    by_cases hc_7c_0 : x2 = 0
    · have h := hc_7_0 hc_7c_0
      refine gw_tableIn (tgt := 48) (off := 33) κ dX6_flight_15 (by rw [hc_7c_0]; decide) (by rw [hc_7c_0]; decide) (by rw [hc_7c_0]; decide +kernel) (by decide) ?_
      refine gw_aload_n (pc' := 49) κ dX6_flight_48 rfl 0 rfl rfl ?_
      refine gb_get (pc' := 52) (C := RX6) (T := TX6) (N := 16) κ dX6_flight_49 rfl inX6 0 rfl rfl rfl 0 (by decide) tw_fl_X6_7 rfl ?_
      refine gw_iconst (pc' := 53) (v := 5) κ dX6_flight_52 rfl (by decide) ?_
      refine gw_iload_n (pc' := 54) κ dX6_flight_53 rfl 1 rfl rfl ?_
      refine gw_iadd (pc' := 55) κ dX6_flight_54 rfl  ?_
      obtain ⟨hb_8, h⟩ := h
      refine gb_iald (pc' := 56) κ dX6_flight_55 rfl 0 1 rfl rfl hb_8 ?_
      exact gw_iret κ dX6_flight_56 (Mvf_3, Mdn_4, Mlf_5, Mar_6) rfl ⟨_, rfl, h⟩
    by_cases hc_7c_1 : x2 = 1
    · have h := hc_7_1 hc_7c_1
      refine gw_tableIn (tgt := 57) (off := 42) κ dX6_flight_15 (by rw [hc_7c_1]; decide) (by rw [hc_7c_1]; decide) (by rw [hc_7c_1]; decide +kernel) (by decide) ?_
      refine gw_aload_n (pc' := 58) κ dX6_flight_57 rfl 0 rfl rfl ?_
      refine gb_get (pc' := 61) (C := RX6) (T := TX6) (N := 16) κ dX6_flight_58 rfl inX6 0 rfl rfl rfl 0 (by decide) tw_fl_X6_7 rfl ?_
      refine gw_bipush (pc' := 63) (v := 11) κ dX6_flight_61 rfl (by decide) ?_
      refine gw_iload_n (pc' := 64) κ dX6_flight_63 rfl 1 rfl rfl ?_
      refine gw_iadd (pc' := 65) κ dX6_flight_64 rfl  ?_
      obtain ⟨hb_9, h⟩ := h
      refine gb_iald (pc' := 66) κ dX6_flight_65 rfl 0 1 rfl rfl hb_9 ?_
      exact gw_iret κ dX6_flight_66 (Mvf_3, Mdn_4, Mlf_5, Mar_6) rfl ⟨_, rfl, h⟩
    by_cases hc_7c_2 : x2 = 2
    · have h := hc_7_2 hc_7c_2
      refine gw_tableIn (tgt := 67) (off := 52) κ dX6_flight_15 (by rw [hc_7c_2]; decide) (by rw [hc_7c_2]; decide) (by rw [hc_7c_2]; decide +kernel) (by decide) ?_
      refine gw_aload_n (pc' := 68) κ dX6_flight_67 rfl 0 rfl rfl ?_
      refine gw_iload_n (pc' := 69) κ dX6_flight_68 rfl 1 rfl rfl ?_
      refine gb_callV (ci := 6) (qb := 0) (rest := []) κ (c_X6_readyOf qa Mst Mhi Mhn Msl Msv Mpd Mln Mat Mit Mvf_3 Mdn_4 Mlf_5 Mar_6 Msa Msm Mso x1 h) ⟨rfl, rfl, Nat.le_of_ble_eq_true rfl, Nat.le_of_ble_eq_true rfl⟩ tw_ml_X6_61 tw_im_X6_readyOf tw_se_X6_readyOf tw_co_X6_readyOf tw_in_X6 hy_X6_readyOf rfl rfl rfl rfl rfl (Nat.le_of_ble_eq_true rfl) rfl dX6_flight_69 [0] rfl (by decide) (fun _ => Nat.le_of_ble_eq_true rfl) ⟨Nat.le_of_ble_eq_true rfl, Nat.le_of_ble_eq_true rfl⟩ (fun v u hv => ?_)
      obtain ⟨r_10, rfl, h⟩ := hv
      refine gw_nf (ws' := (wfl [cM qa cI Mst Mhi Mhn Msl Msv Mpd Mln Mat Mit Mvf_3 Mdn_4 Mlf_5 Mar_6 Msa Msm Mso])) (lv' := [(0, .ref (qa 0)), (1, .int x1), (2, .int x2)]) (st' := [.int r_10]) (pc' := 72) (ce' := 0) (sl' := 0) rfl rfl rfl rfl rfl rfl ?_
      exact gw_iret κ dX6_flight_72 (Mvf_3, Mdn_4, Mlf_5, Mar_6) rfl ⟨_, rfl, h⟩
    by_cases hc_7c_3 : x2 = 3
    · have h := hc_7_3 hc_7c_3
      refine gw_tableIn (tgt := 73) (off := 58) κ dX6_flight_15 (by rw [hc_7c_3]; decide) (by rw [hc_7c_3]; decide) (by rw [hc_7c_3]; decide +kernel) (by decide) ?_
      refine gw_aload_n (pc' := 74) κ dX6_flight_73 rfl 0 rfl rfl ?_
      refine gw_iload_n (pc' := 75) κ dX6_flight_74 rfl 1 rfl rfl ?_
      refine gw_iconst (pc' := 76) (v := 0) κ dX6_flight_75 rfl (by decide) ?_
      refine gb_callV (ci := 6) (qb := 0) (rest := []) κ (c_X6_peopleOf qa Mst Mhi Mhn Msl Msv Mpd Mln Mat Mit Mvf_3 Mdn_4 Mlf_5 Mar_6 Msa Msm Mso x1 (0 : Int32) h) ⟨rfl, rfl, Nat.le_of_ble_eq_true rfl, Nat.le_of_ble_eq_true rfl⟩ tw_ml_X6_147 tw_im_X6_peopleOf tw_se_X6_peopleOf tw_co_X6_peopleOf tw_in_X6 hy_X6_peopleOf rfl rfl rfl rfl rfl (Nat.le_of_ble_eq_true rfl) rfl dX6_flight_76 [0] rfl (by decide) (fun _ => Nat.le_of_ble_eq_true rfl) ⟨Nat.le_of_ble_eq_true rfl, Nat.le_of_ble_eq_true rfl⟩ (fun v u hv => ?_)
      obtain ⟨r_11, rfl, h⟩ := hv
      refine gw_nf (ws' := (wfl [cM qa cI Mst Mhi Mhn Msl Msv Mpd Mln Mat Mit Mvf_3 Mdn_4 Mlf_5 Mar_6 Msa Msm Mso])) (lv' := [(0, .ref (qa 0)), (1, .int x1), (2, .int x2)]) (st' := [.int r_11]) (pc' := 79) (ce' := 0) (sl' := 0) rfl rfl rfl rfl rfl rfl ?_
      exact gw_iret κ dX6_flight_79 (Mvf_3, Mdn_4, Mlf_5, Mar_6) rfl ⟨_, rfl, h⟩
    by_cases hc_7c_4 : x2 = 4
    · have h := hc_7_4 hc_7c_4
      refine gw_tableIn (tgt := 80) (off := 65) κ dX6_flight_15 (by rw [hc_7c_4]; decide) (by rw [hc_7c_4]; decide) (by rw [hc_7c_4]; decide +kernel) (by decide) ?_
      refine gw_aload_n (pc' := 81) κ dX6_flight_80 rfl 0 rfl rfl ?_
      refine gw_iload_n (pc' := 82) κ dX6_flight_81 rfl 1 rfl rfl ?_
      refine gw_iconst (pc' := 83) (v := 1) κ dX6_flight_82 rfl (by decide) ?_
      refine gb_callV (ci := 6) (qb := 0) (rest := []) κ (c_X6_peopleOf qa Mst Mhi Mhn Msl Msv Mpd Mln Mat Mit Mvf_3 Mdn_4 Mlf_5 Mar_6 Msa Msm Mso x1 (1 : Int32) h) ⟨rfl, rfl, Nat.le_of_ble_eq_true rfl, Nat.le_of_ble_eq_true rfl⟩ tw_ml_X6_147 tw_im_X6_peopleOf tw_se_X6_peopleOf tw_co_X6_peopleOf tw_in_X6 hy_X6_peopleOf rfl rfl rfl rfl rfl (Nat.le_of_ble_eq_true rfl) rfl dX6_flight_83 [0] rfl (by decide) (fun _ => Nat.le_of_ble_eq_true rfl) ⟨Nat.le_of_ble_eq_true rfl, Nat.le_of_ble_eq_true rfl⟩ (fun v u hv => ?_)
      obtain ⟨r_12, rfl, h⟩ := hv
      refine gw_nf (ws' := (wfl [cM qa cI Mst Mhi Mhn Msl Msv Mpd Mln Mat Mit Mvf_3 Mdn_4 Mlf_5 Mar_6 Msa Msm Mso])) (lv' := [(0, .ref (qa 0)), (1, .int x1), (2, .int x2)]) (st' := [.int r_12]) (pc' := 86) (ce' := 0) (sl' := 0) rfl rfl rfl rfl rfl rfl ?_
      exact gw_iret κ dX6_flight_86 (Mvf_3, Mdn_4, Mlf_5, Mar_6) rfl ⟨_, rfl, h⟩
    have h := hc_7d ⟨hc_7c_0, hc_7c_1, hc_7c_2, hc_7c_3, hc_7c_4⟩
    refine gw_tableOut (tgt := 87) κ dX6_flight_15 (sw_out2 (x := x2) (lo := 0) (hi := 4) (by decide) (fun k h1 h2 => by rcases (show k = 0 ∨ k = 1 ∨ k = 2 ∨ k = 3 ∨ k = 4 by omega) with rfl | rfl | rfl | rfl | rfl <;> assumption)) (by decide) ?_
    refine gw_bipush (pc' := 89) (v := -102) κ dX6_flight_87 rfl (by decide) ?_
    exact gw_iret κ dX6_flight_89 (Mvf_3, Mdn_4, Mlf_5, Mar_6) rfl ⟨_, rfl, h⟩
  · have h := h.2 hc_2
    refine gw_bipush (pc' := 9) (v := -101) κ dX6_flight_7 rfl (by decide) ?_
    exact gw_iret κ dX6_flight_9 (Mvf, Mdn, Mlf, Mar) rfl ⟨_, rfl, h⟩
theorem hy_X6_gettingOut : g_hy yX6_gettingOut 2 := by decide +kernel
set_option maxHeartbeats 4000000 in
set_option maxRecDepth 100000 in
theorem k_X6_gettingOut_5 {zp : Program} {l : Launch} {ze : Env} {zs : State} {zm : MethodId} {za : Array Value} {zb : List Frame} {zt : Method} {zc : Code} {D : va_G} {cI cR : ClassId} {A : Nat → Prop} (κ : KC zp zs zm za zt zc cX6_gettingOut 5 RX6 D cI cR A (some .int)) (qa : Nat → Nat) (P : Int32 → Prop) (Mst : Nat → Int32) (Mhi : Nat → Int32) (Mhn : Int32) (Msl : Nat → Int32) (Msv : Nat → Int32) (Mpd : Nat → Int32) (Mln : Int32) (Mat : Int32) (Mit : Nat → Int32) (Mvf : Nat → Int32) (Mdn : Nat → Int32) (Mlf : Nat → Int32) (Mar : Nat → Int32) (Msa : Nat → Int32) (Msm : Nat → Int32) (Mso : Int32) (x1 : Int32) (x2 : Int32) : ∀ (n : Nat) (v3 : Int32) (v4 : Int32), wp_X6_gettingOut_5 P Mst Mvf x1 x2 n v3 v4 → GM zp l ze ({ frames := 2, cells := 0, slots := 0, locals := 43 } : Room) zs zm za zb zt zc D A 5 (pI (fun (r : Int32) (_ : Unit) => P r)) (fun _ : Unit => (wfl [cM qa cI Mst Mhi Mhn Msl Msv Mpd Mln Mat Mit Mvf Mdn Mlf Mar Msa Msm Mso])) 0 0 0 0 (wfl [cM qa cI Mst Mhi Mhn Msl Msv Mpd Mln Mat Mit Mvf Mdn Mlf Mar Msa Msm Mso]) [(0, .ref (qa 0)), (1, .int x1), (2, .int x2), (3, .int v3), (4, .int v4)] 5 [] := by
  intro n5
  induction n5 with
  | zero => intro v3 v4 h; exact (show False from h).elim
  | succ n5 ih5 =>
    intro v3 v4 h
    have h : wp_X6_gettingOut_5F P Mst Mvf x1 x2 (wp_X6_gettingOut_5 P Mst Mvf x1 x2 n5) v3 v4 := h
    unfold wp_X6_gettingOut_5F at h
    refine gw_iload (pc' := 7) κ dX6_gettingOut_5 rfl 4 rfl ?_
    refine gw_aload_n (pc' := 8) κ dX6_gettingOut_7 rfl 0 rfl rfl ?_
    refine gb_get (pc' := 11) (C := RX6) (T := TX6) (N := 16) κ dX6_gettingOut_8 rfl inX6 0 rfl rfl rfl 0 (by decide) tw_fl_X6_7 rfl ?_
    refine gw_bipush (pc' := 13) (v := 33) κ dX6_gettingOut_11 rfl (by decide) ?_
    refine gb_iald (pc' := 14) κ dX6_gettingOut_13 rfl 0 1 rfl rfl (by unfold vp_in; decide) ?_
    refine gw_icmp_ge (pc' := 17) (tgt := 58) κ dX6_gettingOut_14 rfl (by decide) (fun hc_2 => ?_) (fun hc_2 => ?_)
    · have h := h.1 hc_2
      refine gw_iload_n (pc' := 59) κ dX6_gettingOut_58 rfl 3 rfl rfl ?_
      exact gw_iret κ dX6_gettingOut_59 () rfl ⟨_, rfl, h⟩
    · have h := h.2 hc_2
      refine gw_iload_n (pc' := 18) κ dX6_gettingOut_17 rfl 3 rfl rfl ?_
      refine gw_aload_n (pc' := 19) κ dX6_gettingOut_18 rfl 0 rfl rfl ?_
      refine gb_get (pc' := 22) (C := RX6) (T := TX6) (N := 16) κ dX6_gettingOut_19 rfl inX6 0 rfl rfl rfl 9 (by decide) tw_fl_X6_28 rfl ?_
      refine gw_iload (pc' := 24) κ dX6_gettingOut_22 rfl 4 rfl ?_
      obtain ⟨hb_3, h⟩ := h
      refine gb_iald (pc' := 25) κ dX6_gettingOut_24 rfl 0 7 rfl rfl hb_3 ?_
      refine gw_iload_n (pc' := 26) κ dX6_gettingOut_25 rfl 1 rfl rfl ?_
      refine gw_icmp_ne (pc' := 29) (tgt := 49) κ dX6_gettingOut_26 rfl (by decide) (fun hc_4 => ?_) (fun hc_4 => ?_)
      · have h := h.1 hc_4
        refine gw_iconst (pc' := 50) (v := 0) κ dX6_gettingOut_49 rfl (by decide) ?_
        refine gw_iadd (pc' := 51) κ dX6_gettingOut_50 rfl  ?_
        refine gw_istore_n (pc' := 52) κ dX6_gettingOut_51 rfl rfl (by decide) (lv' := [(3, .int (v3 + (0 : Int32))), (0, .ref (qa 0)), (1, .int x1), (2, .int x2), (4, .int v4)]) rfl ?_
        refine gw_iinc (pc' := 55) κ dX6_gettingOut_52 rfl 4 rfl (v := (v4 + 1)) rfl (by decide) (lv' := [(4, .int (v4 + 1)), (3, .int (v3 + (0 : Int32))), (0, .ref (qa 0)), (1, .int x1), (2, .int x2)]) rfl ?_
        refine gw_goto (tgt := 5) κ dX6_gettingOut_55 (by decide) ?_
        refine gw_lv (lv' := [(0, .ref (qa 0)), (1, .int x1), (2, .int x2), (3, .int (v3 + (0 : Int32))), (4, .int (v4 + 1))]) [2, 3, 4, 1, 0] rfl ?_
        exact ih5 (v3 + (0 : Int32)) (v4 + 1) h
      · have h := h.2 hc_4
        refine gw_aload_n (pc' := 30) κ dX6_gettingOut_29 rfl 0 rfl rfl ?_
        refine gw_iload (pc' := 32) κ dX6_gettingOut_30 rfl 4 rfl ?_
        refine gb_callV (ci := 6) (qb := 0) (rest := [.int v3]) κ (c_X6_keyOf qa Mst Mhi Mhn Msl Msv Mpd Mln Mat Mit Mvf Mdn Mlf Mar Msa Msm Mso v4 h) ⟨rfl, rfl, Nat.le_of_ble_eq_true rfl, Nat.le_of_ble_eq_true rfl⟩ tw_ml_X6_85 tw_im_X6_keyOf tw_se_X6_keyOf tw_co_X6_keyOf tw_in_X6 hy_X6_keyOf rfl rfl rfl rfl rfl (Nat.le_of_ble_eq_true rfl) rfl dX6_gettingOut_32 [0] rfl (by decide) (fun _ => Nat.le_of_ble_eq_true rfl) ⟨Nat.le_of_ble_eq_true rfl, Nat.le_of_ble_eq_true rfl⟩ (fun v u hv => ?_)
        obtain ⟨r_5, rfl, h⟩ := hv
        refine gw_nf (ws' := (wfl [cM qa cI Mst Mhi Mhn Msl Msv Mpd Mln Mat Mit Mvf Mdn Mlf Mar Msa Msm Mso])) (lv' := [(0, .ref (qa 0)), (1, .int x1), (2, .int x2), (3, .int v3), (4, .int v4)]) (st' := [.int r_5, .int v3]) (pc' := 35) (ce' := 0) (sl' := 0) rfl rfl rfl rfl rfl rfl ?_
        refine gw_iload_n (pc' := 36) κ dX6_gettingOut_35 rfl 2 rfl rfl ?_
        refine gw_icmp_ne (pc' := 39) (tgt := 49) κ dX6_gettingOut_36 rfl (by decide) (fun hc_6 => ?_) (fun hc_6 => ?_)
        · have h := h.1 hc_6
          refine gw_iconst (pc' := 50) (v := 0) κ dX6_gettingOut_49 rfl (by decide) ?_
          refine gw_iadd (pc' := 51) κ dX6_gettingOut_50 rfl  ?_
          refine gw_istore_n (pc' := 52) κ dX6_gettingOut_51 rfl rfl (by decide) (lv' := [(3, .int (v3 + (0 : Int32))), (0, .ref (qa 0)), (1, .int x1), (2, .int x2), (4, .int v4)]) rfl ?_
          refine gw_iinc (pc' := 55) κ dX6_gettingOut_52 rfl 4 rfl (v := (v4 + 1)) rfl (by decide) (lv' := [(4, .int (v4 + 1)), (3, .int (v3 + (0 : Int32))), (0, .ref (qa 0)), (1, .int x1), (2, .int x2)]) rfl ?_
          refine gw_goto (tgt := 5) κ dX6_gettingOut_55 (by decide) ?_
          refine gw_lv (lv' := [(0, .ref (qa 0)), (1, .int x1), (2, .int x2), (3, .int (v3 + (0 : Int32))), (4, .int (v4 + 1))]) [2, 3, 4, 1, 0] rfl ?_
          exact ih5 (v3 + (0 : Int32)) (v4 + 1) h
        · have h := h.2 hc_6
          refine gw_aload_n (pc' := 40) κ dX6_gettingOut_39 rfl 0 rfl rfl ?_
          refine gw_iload (pc' := 42) κ dX6_gettingOut_40 rfl 4 rfl ?_
          refine gw_iconst (pc' := 43) (v := 3) κ dX6_gettingOut_42 rfl (by decide) ?_
          refine gb_callV (ci := 6) (qb := 0) (rest := [.int v3]) κ (c_X6_of qa Mst Mhi Mhn Msl Msv Mpd Mln Mat Mit Mvf Mdn Mlf Mar Msa Msm Mso v4 (3 : Int32) h) ⟨rfl, rfl, Nat.le_of_ble_eq_true rfl, Nat.le_of_ble_eq_true rfl⟩ tw_ml_X6_57 tw_im_X6_of tw_se_X6_of tw_co_X6_of tw_in_X6 hy_X6_of rfl rfl rfl rfl rfl (Nat.le_of_ble_eq_true rfl) rfl dX6_gettingOut_43 [0] rfl (by decide) (fun _ => Nat.le_of_ble_eq_true rfl) ⟨Nat.le_of_ble_eq_true rfl, Nat.le_of_ble_eq_true rfl⟩ (fun v u hv => ?_)
          obtain ⟨r_7, rfl, h⟩ := hv
          refine gw_nf (ws' := (wfl [cM qa cI Mst Mhi Mhn Msl Msv Mpd Mln Mat Mit Mvf Mdn Mlf Mar Msa Msm Mso])) (lv' := [(0, .ref (qa 0)), (1, .int x1), (2, .int x2), (3, .int v3), (4, .int v4)]) (st' := [.int r_7, .int v3]) (pc' := 46) (ce' := 0) (sl' := 0) rfl rfl rfl rfl rfl rfl ?_
          refine gw_goto (tgt := 50) κ dX6_gettingOut_46 (by decide) ?_
          refine gw_iadd (pc' := 51) κ dX6_gettingOut_50 rfl  ?_
          refine gw_istore_n (pc' := 52) κ dX6_gettingOut_51 rfl rfl (by decide) (lv' := [(3, .int (v3 + r_7)), (0, .ref (qa 0)), (1, .int x1), (2, .int x2), (4, .int v4)]) rfl ?_
          refine gw_iinc (pc' := 55) κ dX6_gettingOut_52 rfl 4 rfl (v := (v4 + 1)) rfl (by decide) (lv' := [(4, .int (v4 + 1)), (3, .int (v3 + r_7)), (0, .ref (qa 0)), (1, .int x1), (2, .int x2)]) rfl ?_
          refine gw_goto (tgt := 5) κ dX6_gettingOut_55 (by decide) ?_
          refine gw_lv (lv' := [(0, .ref (qa 0)), (1, .int x1), (2, .int x2), (3, .int (v3 + r_7)), (4, .int (v4 + 1))]) [2, 3, 4, 1, 0] rfl ?_
          exact ih5 (v3 + r_7) (v4 + 1) h
set_option maxHeartbeats 4000000 in
set_option maxRecDepth 100000 in
theorem c_X6_gettingOut {l : Launch} {D : va_G} {cI cR : ClassId}  (qa : Nat → Nat) {P : Int32 → Prop} (Mst : Nat → Int32) (Mhi : Nat → Int32) (Mhn : Int32) (Msl : Nat → Int32) (Msv : Nat → Int32) (Mpd : Nat → Int32) (Mln : Int32) (Mat : Int32) (Mit : Nat → Int32) (Mvf : Nat → Int32) (Mdn : Nat → Int32) (Mlf : Nat → Int32) (Mar : Nat → Int32) (Msa : Nat → Int32) (Msm : Nat → Int32) (Mso : Int32) (x1 : Int32) (x2 : Int32) (h : wp_X6_gettingOut P Mst Mvf x1 x2) : CT l D cI cR yX6_gettingOut cX6_gettingOut 5 (some .int) ({ frames := 2, cells := 0, slots := 0, locals := 43 } : Room) [.ref (qa 0), .int x1, .int x2] (wfl [cM qa cI Mst Mhi Mhn Msl Msv Mpd Mln Mat Mit Mvf Mdn Mlf Mar Msa Msm Mso]) (fun _ : Unit => (wfl [cM qa cI Mst Mhi Mhn Msl Msv Mpd Mln Mat Mit Mvf Mdn Mlf Mar Msa Msm Mso])) (pI (fun (r : Int32) (_ : Unit) => P r)) 0 0 := by
  refine ct_of RX6 rfl (by decide +kernel) (Nat.le_of_ble_eq_true rfl) (fun zp ze zs zm zb zt zc A hin κ => ?_)
  unfold wp_X6_gettingOut at h
  refine gw_nf (lv' := [(0, .ref (qa 0)), (1, .int x1), (2, .int x2)]) (pc' := 0) (st' := []) (ce' := 0) (sl' := 0) rfl rfl rfl rfl rfl rfl ?_
  refine gw_iconst (pc' := 1) (v := 0) κ dX6_gettingOut_0 rfl (by decide) ?_
  refine gw_istore_n (pc' := 2) κ dX6_gettingOut_1 rfl rfl (by decide) (lv' := [(3, .int (0 : Int32)), (0, .ref (qa 0)), (1, .int x1), (2, .int x2)]) rfl ?_
  refine gw_iconst (pc' := 3) (v := 0) κ dX6_gettingOut_2 rfl (by decide) ?_
  refine gw_istore (pc' := 5) κ dX6_gettingOut_3 rfl (by decide) (lv' := [(4, .int (0 : Int32)), (3, .int (0 : Int32)), (0, .ref (qa 0)), (1, .int x1), (2, .int x2)]) rfl ?_
  obtain ⟨m5, h⟩ := h
  refine gw_lv (lv' := [(0, .ref (qa 0)), (1, .int x1), (2, .int x2), (3, .int (0 : Int32)), (4, .int (0 : Int32))]) [2, 3, 4, 1, 0] rfl ?_
  exact k_X6_gettingOut_5 κ qa P Mst Mhi Mhn Msl Msv Mpd Mln Mat Mit Mvf Mdn Mlf Mar Msa Msm Mso x1 x2 m5 (0 : Int32) (0 : Int32) h
theorem hy_X6_stop : g_hy yX6_stop 3 := by decide +kernel
set_option maxHeartbeats 4000000 in
set_option maxRecDepth 100000 in
theorem c_X6_stop {l : Launch} {D : va_G} {cI cR : ClassId}  (qa : Nat → Nat) {P : Int32 → (Nat → Int32) → (Nat → Int32) → (Nat → Int32) → (Nat → Int32) → (Nat → Int32) → (Nat → Int32) → Int32 → Prop} (Mst : Nat → Int32) (Mhi : Nat → Int32) (Mhn : Int32) (Msl : Nat → Int32) (Msv : Nat → Int32) (Mpd : Nat → Int32) (Mln : Int32) (Mat : Int32) (Mit : Nat → Int32) (Mvf : Nat → Int32) (Mdn : Nat → Int32) (Mlf : Nat → Int32) (Mar : Nat → Int32) (Msa : Nat → Int32) (Msm : Nat → Int32) (Mso : Int32) (x1 : Int32) (x2 : Int32) (x3 : Int32) (h : wp_X6_stop P Mst Mvf Mdn Mlf Mar Msa Msm Mso x1 x2 x3) : CT l D cI cR yX6_stop cX6_stop 4 (some .int) ({ frames := 5, cells := 0, slots := 0, locals := 113 } : Room) [.ref (qa 0), .int x1, .int x2, .int x3] (wfl [cM qa cI Mst Mhi Mhn Msl Msv Mpd Mln Mat Mit Mvf Mdn Mlf Mar Msa Msm Mso]) (fun u : (Nat → Int32) × (Nat → Int32) × (Nat → Int32) × (Nat → Int32) × (Nat → Int32) × (Nat → Int32) × Int32 => (wfl [cM qa cI Mst Mhi Mhn Msl Msv Mpd Mln Mat Mit u.1 u.2.1 u.2.2.1 u.2.2.2.1 u.2.2.2.2.1 u.2.2.2.2.2.1 u.2.2.2.2.2.2])) (pI (fun (r : Int32) (u : (Nat → Int32) × (Nat → Int32) × (Nat → Int32) × (Nat → Int32) × (Nat → Int32) × (Nat → Int32) × Int32) => P r u.1 u.2.1 u.2.2.1 u.2.2.2.1 u.2.2.2.2.1 u.2.2.2.2.2.1 u.2.2.2.2.2.2)) 0 0 := by
  refine ct_of RX6 rfl (by decide +kernel) (Nat.le_of_ble_eq_true rfl) (fun zp ze zs zm zb zt zc A hin κ => ?_)
  unfold wp_X6_stop at h
  refine gw_nf (lv' := [(0, .ref (qa 0)), (1, .int x1), (2, .int x2), (3, .int x3)]) (pc' := 0) (st' := []) (ce' := 0) (sl' := 0) rfl rfl rfl rfl rfl rfl ?_
  refine gw_iload_n (pc' := 1) κ dX6_stop_0 rfl 1 rfl rfl ?_
  refine gb_callS (rest := []) κ (c_X6_isVan  x1 h) ⟨rfl, rfl, Nat.le_of_ble_eq_true rfl, Nat.le_of_ble_eq_true rfl⟩ tw_ml_X6_110 tw_st_X6_isVan tw_co_X6_isVan tw_in_X6 hy_X6_isVan rfl (Nat.le_of_ble_eq_true rfl) rfl dX6_stop_1 [] rfl (by decide) (fun _ => Nat.le_of_ble_eq_true rfl) ⟨Nat.le_of_ble_eq_true rfl, Nat.le_of_ble_eq_true rfl⟩ (fun v u hv => ?_)
  obtain ⟨r_1, rfl, h⟩ := hv
  refine gw_nf (ws' := (wfl [cM qa cI Mst Mhi Mhn Msl Msv Mpd Mln Mat Mit Mvf Mdn Mlf Mar Msa Msm Mso])) (lv' := [(0, .ref (qa 0)), (1, .int x1), (2, .int x2), (3, .int x3)]) (st' := [.int r_1]) (pc' := 4) (ce' := 0) (sl' := 0) rfl rfl rfl rfl rfl rfl ?_
  refine gw_if_ne (pc' := 7) (tgt := 10) κ dX6_stop_4 rfl (by decide) (fun hc_2 => ?_) (fun hc_2 => ?_)
  · have h := h.1 hc_2
    refine gw_aload_n (pc' := 11) κ dX6_stop_10 rfl 0 rfl rfl ?_
    refine gb_callV (ci := 6) (qb := 0) (rest := []) κ (c_X6_lay qa Mst Mhi Mhn Msl Msv Mpd Mln Mat Mit Mvf Mdn Mlf Mar Msa Msm Mso h) ⟨rfl, rfl, Nat.le_of_ble_eq_true rfl, Nat.le_of_ble_eq_true rfl⟩ tw_ml_X6_113 tw_im_X6_lay tw_se_X6_lay tw_co_X6_lay tw_in_X6 hy_X6_lay rfl rfl rfl rfl rfl (Nat.le_of_ble_eq_true rfl) rfl dX6_stop_11 [0] rfl (by decide) (fun _ => Nat.le_of_ble_eq_true rfl) ⟨Nat.le_of_ble_eq_true rfl, Nat.le_of_ble_eq_true rfl⟩ (fun v u hv => ?_)
    obtain ⟨rfl, h⟩ := hv
    obtain ⟨Mvf_3, Mdn_4, Mlf_5, Mar_6⟩ := u
    refine gw_nf (ws' := (wfl [cM qa cI Mst Mhi Mhn Msl Msv Mpd Mln Mat Mit Mvf_3 Mdn_4 Mlf_5 Mar_6 Msa Msm Mso])) (lv' := [(0, .ref (qa 0)), (1, .int x1), (2, .int x2), (3, .int x3)]) (st' := []) (pc' := 14) (ce' := 0) (sl' := 0) rfl rfl rfl rfl rfl rfl ?_
    refine gw_aload_n (pc' := 15) κ dX6_stop_14 rfl 0 rfl rfl ?_
    refine gw_iload_n (pc' := 16) κ dX6_stop_15 rfl 1 rfl rfl ?_
    refine gb_callV (ci := 6) (qb := 0) (rest := []) κ (c_X6_layStops qa Mst Mhi Mhn Msl Msv Mpd Mln Mat Mit Mvf_3 Mdn_4 Mlf_5 Mar_6 Msa Msm Mso x1 h) ⟨rfl, rfl, Nat.le_of_ble_eq_true rfl, Nat.le_of_ble_eq_true rfl⟩ tw_ml_X6_88 tw_im_X6_layStops tw_se_X6_layStops tw_co_X6_layStops tw_in_X6 hy_X6_layStops rfl rfl rfl rfl rfl (Nat.le_of_ble_eq_true rfl) rfl dX6_stop_16 [0] rfl (by decide) (fun _ => Nat.le_of_ble_eq_true rfl) ⟨Nat.le_of_ble_eq_true rfl, Nat.le_of_ble_eq_true rfl⟩ (fun v u hv => ?_)
    obtain ⟨rfl, h⟩ := hv
    obtain ⟨Msa_7, Msm_8, Mso_9⟩ := u
    refine gw_nf (ws' := (wfl [cM qa cI Mst Mhi Mhn Msl Msv Mpd Mln Mat Mit Mvf_3 Mdn_4 Mlf_5 Mar_6 Msa_7 Msm_8 Mso_9])) (lv' := [(0, .ref (qa 0)), (1, .int x1), (2, .int x2), (3, .int x3)]) (st' := []) (pc' := 19) (ce' := 0) (sl' := 0) rfl rfl rfl rfl rfl rfl ?_
    refine gw_iload_n (pc' := 20) κ dX6_stop_19 rfl 2 rfl rfl ?_
    refine gw_iconst (pc' := 21) (v := 0) κ dX6_stop_20 rfl (by decide) ?_
    refine gw_aload_n (pc' := 22) κ dX6_stop_21 rfl 0 rfl rfl ?_
    refine gb_get (pc' := 25) (C := RX6) (T := TX6) (N := 16) κ dX6_stop_22 rfl inX6 0 rfl rfl rfl 15 (by decide) tw_fl_X6_82 rfl ?_
    refine gw_iconst (pc' := 26) (v := 1) κ dX6_stop_25 rfl (by decide) ?_
    refine gw_isub (pc' := 27) κ dX6_stop_26 rfl  ?_
    refine gb_callS (rest := []) κ (c_X6_within  x2 (0 : Int32) (Mso_9 - (1 : Int32)) h) ⟨rfl, rfl, Nat.le_of_ble_eq_true rfl, Nat.le_of_ble_eq_true rfl⟩ tw_ml_X6_46 tw_st_X6_within tw_co_X6_within tw_in_X6 hy_X6_within rfl (Nat.le_of_ble_eq_true rfl) rfl dX6_stop_27 [] rfl (by decide) (fun _ => Nat.le_of_ble_eq_true rfl) ⟨Nat.le_of_ble_eq_true rfl, Nat.le_of_ble_eq_true rfl⟩ (fun v u hv => ?_)
    obtain ⟨r_10, rfl, h⟩ := hv
    refine gw_nf (ws' := (wfl [cM qa cI Mst Mhi Mhn Msl Msv Mpd Mln Mat Mit Mvf_3 Mdn_4 Mlf_5 Mar_6 Msa_7 Msm_8 Mso_9])) (lv' := [(0, .ref (qa 0)), (1, .int x1), (2, .int x2), (3, .int x3)]) (st' := [.int r_10]) (pc' := 30) (ce' := 0) (sl' := 0) rfl rfl rfl rfl rfl rfl ?_
    refine gw_if_ne (pc' := 33) (tgt := 36) κ dX6_stop_30 rfl (by decide) (fun hc_11 => ?_) (fun hc_11 => ?_)
    · have h := h.1 hc_11
      refine gw_iload_n (pc' := 37) κ dX6_stop_36 rfl 3 rfl rfl ?_
      obtain ⟨hc_12_0, hc_12_1, hc_12_2, hc_12_3, hc_12d⟩ := h
      by_cases hc_12c_0 : x3 = 0
      · have h := hc_12_0 hc_12c_0
        refine gw_tableIn (tgt := 68) (off := 31) κ dX6_stop_37 (by rw [hc_12c_0]; decide) (by rw [hc_12c_0]; decide) (by rw [hc_12c_0]; decide +kernel) (by decide) ?_
        refine gw_aload_n (pc' := 69) κ dX6_stop_68 rfl 0 rfl rfl ?_
        refine gb_get (pc' := 72) (C := RX6) (T := TX6) (N := 16) κ dX6_stop_69 rfl inX6 0 rfl rfl rfl 13 (by decide) tw_fl_X6_40 rfl ?_
        refine gw_iload_n (pc' := 73) κ dX6_stop_72 rfl 2 rfl rfl ?_
        obtain ⟨hb_13, h⟩ := h
        refine gb_iald (pc' := 74) κ dX6_stop_73 rfl 0 11 rfl rfl hb_13 ?_
        refine gw_bipush (pc' := 76) (v := 100) κ dX6_stop_74 rfl (by decide) ?_
        refine gw_idiv (pc' := 77) κ dX6_stop_76 rfl (by decide) ?_
        exact gw_iret κ dX6_stop_77 (Mvf_3, Mdn_4, Mlf_5, Mar_6, Msa_7, Msm_8, Mso_9) rfl ⟨_, rfl, h⟩
      by_cases hc_12c_1 : x3 = 1
      · have h := hc_12_1 hc_12c_1
        refine gw_tableIn (tgt := 78) (off := 41) κ dX6_stop_37 (by rw [hc_12c_1]; decide) (by rw [hc_12c_1]; decide) (by rw [hc_12c_1]; decide +kernel) (by decide) ?_
        refine gw_aload_n (pc' := 79) κ dX6_stop_78 rfl 0 rfl rfl ?_
        refine gb_get (pc' := 82) (C := RX6) (T := TX6) (N := 16) κ dX6_stop_79 rfl inX6 0 rfl rfl rfl 13 (by decide) tw_fl_X6_40 rfl ?_
        refine gw_iload_n (pc' := 83) κ dX6_stop_82 rfl 2 rfl rfl ?_
        obtain ⟨hb_14, h⟩ := h
        refine gb_iald (pc' := 84) κ dX6_stop_83 rfl 0 11 rfl rfl hb_14 ?_
        refine gw_bipush (pc' := 86) (v := 100) κ dX6_stop_84 rfl (by decide) ?_
        refine gw_irem (pc' := 87) κ dX6_stop_86 rfl (by decide) ?_
        exact gw_iret κ dX6_stop_87 (Mvf_3, Mdn_4, Mlf_5, Mar_6, Msa_7, Msm_8, Mso_9) rfl ⟨_, rfl, h⟩
      by_cases hc_12c_2 : x3 = 2
      · have h := hc_12_2 hc_12c_2
        refine gw_tableIn (tgt := 88) (off := 51) κ dX6_stop_37 (by rw [hc_12c_2]; decide) (by rw [hc_12c_2]; decide) (by rw [hc_12c_2]; decide +kernel) (by decide) ?_
        refine gw_aload_n (pc' := 89) κ dX6_stop_88 rfl 0 rfl rfl ?_
        refine gb_get (pc' := 92) (C := RX6) (T := TX6) (N := 16) κ dX6_stop_89 rfl inX6 0 rfl rfl rfl 14 (by decide) tw_fl_X6_43 rfl ?_
        refine gw_iload_n (pc' := 93) κ dX6_stop_92 rfl 2 rfl rfl ?_
        obtain ⟨hb_15, h⟩ := h
        refine gb_iald (pc' := 94) κ dX6_stop_93 rfl 0 12 rfl rfl hb_15 ?_
        exact gw_iret κ dX6_stop_94 (Mvf_3, Mdn_4, Mlf_5, Mar_6, Msa_7, Msm_8, Mso_9) rfl ⟨_, rfl, h⟩
      by_cases hc_12c_3 : x3 = 3
      · have h := hc_12_3 hc_12c_3
        refine gw_tableIn (tgt := 95) (off := 58) κ dX6_stop_37 (by rw [hc_12c_3]; decide) (by rw [hc_12c_3]; decide) (by rw [hc_12c_3]; decide +kernel) (by decide) ?_
        refine gw_aload_n (pc' := 96) κ dX6_stop_95 rfl 0 rfl rfl ?_
        refine gw_iload_n (pc' := 97) κ dX6_stop_96 rfl 1 rfl rfl ?_
        refine gw_aload_n (pc' := 98) κ dX6_stop_97 rfl 0 rfl rfl ?_
        refine gb_get (pc' := 101) (C := RX6) (T := TX6) (N := 16) κ dX6_stop_98 rfl inX6 0 rfl rfl rfl 13 (by decide) tw_fl_X6_40 rfl ?_
        refine gw_iload_n (pc' := 102) κ dX6_stop_101 rfl 2 rfl rfl ?_
        obtain ⟨hb_16, h⟩ := h
        refine gb_iald (pc' := 103) κ dX6_stop_102 rfl 0 11 rfl rfl hb_16 ?_
        refine gb_callV (ci := 6) (qb := 0) (rest := []) κ (c_X6_gettingOut qa Mst Mhi Mhn Msl Msv Mpd Mln Mat Mit Mvf_3 Mdn_4 Mlf_5 Mar_6 Msa_7 Msm_8 Mso_9 x1 (Msa_7 x2.toNatClampNeg) h) ⟨rfl, rfl, Nat.le_of_ble_eq_true rfl, Nat.le_of_ble_eq_true rfl⟩ tw_ml_X6_151 tw_im_X6_gettingOut tw_se_X6_gettingOut tw_co_X6_gettingOut tw_in_X6 hy_X6_gettingOut rfl rfl rfl rfl rfl (Nat.le_of_ble_eq_true rfl) rfl dX6_stop_103 [0] rfl (by decide) (fun _ => Nat.le_of_ble_eq_true rfl) ⟨Nat.le_of_ble_eq_true rfl, Nat.le_of_ble_eq_true rfl⟩ (fun v u hv => ?_)
        obtain ⟨r_17, rfl, h⟩ := hv
        refine gw_nf (ws' := (wfl [cM qa cI Mst Mhi Mhn Msl Msv Mpd Mln Mat Mit Mvf_3 Mdn_4 Mlf_5 Mar_6 Msa_7 Msm_8 Mso_9])) (lv' := [(0, .ref (qa 0)), (1, .int x1), (2, .int x2), (3, .int x3)]) (st' := [.int r_17]) (pc' := 106) (ce' := 0) (sl' := 0) rfl rfl rfl rfl rfl rfl ?_
        exact gw_iret κ dX6_stop_106 (Mvf_3, Mdn_4, Mlf_5, Mar_6, Msa_7, Msm_8, Mso_9) rfl ⟨_, rfl, h⟩
      have h := hc_12d ⟨hc_12c_0, hc_12c_1, hc_12c_2, hc_12c_3⟩
      refine gw_tableOut (tgt := 107) κ dX6_stop_37 (sw_out2 (x := x3) (lo := 0) (hi := 3) (by decide) (fun k h1 h2 => by rcases (show k = 0 ∨ k = 1 ∨ k = 2 ∨ k = 3 by omega) with rfl | rfl | rfl | rfl <;> assumption)) (by decide) ?_
      refine gw_bipush (pc' := 109) (v := -102) κ dX6_stop_107 rfl (by decide) ?_
      exact gw_iret κ dX6_stop_109 (Mvf_3, Mdn_4, Mlf_5, Mar_6, Msa_7, Msm_8, Mso_9) rfl ⟨_, rfl, h⟩
    · have h := h.2 hc_11
      refine gw_bipush (pc' := 35) (v := -101) κ dX6_stop_33 rfl (by decide) ?_
      exact gw_iret κ dX6_stop_35 (Mvf_3, Mdn_4, Mlf_5, Mar_6, Msa_7, Msm_8, Mso_9) rfl ⟨_, rfl, h⟩
  · have h := h.2 hc_2
    refine gw_bipush (pc' := 9) (v := -101) κ dX6_stop_7 rfl (by decide) ?_
    exact gw_iret κ dX6_stop_9 (Mvf, Mdn, Mlf, Mar, Msa, Msm, Mso) rfl ⟨_, rfl, h⟩
theorem hy_X6_allPeople : g_hy yX6_allPeople 0 := by decide +kernel
set_option maxHeartbeats 4000000 in
set_option maxRecDepth 100000 in
theorem k_X6_allPeople_4 {zp : Program} {l : Launch} {ze : Env} {zs : State} {zm : MethodId} {za : Array Value} {zb : List Frame} {zt : Method} {zc : Code} {D : va_G} {cI cR : ClassId} {A : Nat → Prop} (κ : KC zp zs zm za zt zc cX6_allPeople 3 RX6 D cI cR A (some .int)) (qa : Nat → Nat) (P : Int32 → Prop) (Mst : Nat → Int32) (Mhi : Nat → Int32) (Mhn : Int32) (Msl : Nat → Int32) (Msv : Nat → Int32) (Mpd : Nat → Int32) (Mln : Int32) (Mat : Int32) (Mit : Nat → Int32) (Mvf : Nat → Int32) (Mdn : Nat → Int32) (Mlf : Nat → Int32) (Mar : Nat → Int32) (Msa : Nat → Int32) (Msm : Nat → Int32) (Mso : Int32) : ∀ (n : Nat) (v1 : Int32) (v2 : Int32), wp_X6_allPeople_4 P Mst Mvf n v1 v2 → GM zp l ze ({ frames := 2, cells := 0, slots := 0, locals := 47 } : Room) zs zm za zb zt zc D A 3 (pI (fun (r : Int32) (_ : Unit) => P r)) (fun _ : Unit => (wfl [cM qa cI Mst Mhi Mhn Msl Msv Mpd Mln Mat Mit Mvf Mdn Mlf Mar Msa Msm Mso])) 0 0 0 0 (wfl [cM qa cI Mst Mhi Mhn Msl Msv Mpd Mln Mat Mit Mvf Mdn Mlf Mar Msa Msm Mso]) [(0, .ref (qa 0)), (1, .int v1), (2, .int v2)] 4 [] := by
  intro n4
  induction n4 with
  | zero => intro v1 v2 h; exact (show False from h).elim
  | succ n4 ih4 =>
    intro v1 v2 h
    have h : wp_X6_allPeople_4F P Mst Mvf (wp_X6_allPeople_4 P Mst Mvf n4) v1 v2 := h
    unfold wp_X6_allPeople_4F at h
    refine gw_iload_n (pc' := 5) κ dX6_allPeople_4 rfl 2 rfl rfl ?_
    refine gw_bipush (pc' := 7) (v := 6) κ dX6_allPeople_5 rfl (by decide) ?_
    refine gw_icmp_ge (pc' := 10) (tgt := 25) κ dX6_allPeople_7 rfl (by decide) (fun hc_1 => ?_) (fun hc_1 => ?_)
    · have h := h.1 hc_1
      refine gw_iload_n (pc' := 26) κ dX6_allPeople_25 rfl 1 rfl rfl ?_
      exact gw_iret κ dX6_allPeople_26 () rfl ⟨_, rfl, h⟩
    · have h := h.2 hc_1
      refine gw_iload_n (pc' := 11) κ dX6_allPeople_10 rfl 1 rfl rfl ?_
      refine gw_aload_n (pc' := 12) κ dX6_allPeople_11 rfl 0 rfl rfl ?_
      refine gw_iload_n (pc' := 13) κ dX6_allPeople_12 rfl 2 rfl rfl ?_
      refine gw_iconst (pc' := 14) (v := 0) κ dX6_allPeople_13 rfl (by decide) ?_
      refine gb_callV (ci := 6) (qb := 0) (rest := [.int v1]) κ (c_X6_peopleOf qa Mst Mhi Mhn Msl Msv Mpd Mln Mat Mit Mvf Mdn Mlf Mar Msa Msm Mso v2 (0 : Int32) h) ⟨rfl, rfl, Nat.le_of_ble_eq_true rfl, Nat.le_of_ble_eq_true rfl⟩ tw_ml_X6_147 tw_im_X6_peopleOf tw_se_X6_peopleOf tw_co_X6_peopleOf tw_in_X6 hy_X6_peopleOf rfl rfl rfl rfl rfl (Nat.le_of_ble_eq_true rfl) rfl dX6_allPeople_14 [0] rfl (by decide) (fun _ => Nat.le_of_ble_eq_true rfl) ⟨Nat.le_of_ble_eq_true rfl, Nat.le_of_ble_eq_true rfl⟩ (fun v u hv => ?_)
      obtain ⟨r_2, rfl, h⟩ := hv
      refine gw_nf (ws' := (wfl [cM qa cI Mst Mhi Mhn Msl Msv Mpd Mln Mat Mit Mvf Mdn Mlf Mar Msa Msm Mso])) (lv' := [(0, .ref (qa 0)), (1, .int v1), (2, .int v2)]) (st' := [.int r_2, .int v1]) (pc' := 17) (ce' := 0) (sl' := 0) rfl rfl rfl rfl rfl rfl ?_
      refine gw_iadd (pc' := 18) κ dX6_allPeople_17 rfl  ?_
      refine gw_istore_n (pc' := 19) κ dX6_allPeople_18 rfl rfl (by decide) (lv' := [(1, .int (v1 + r_2)), (0, .ref (qa 0)), (2, .int v2)]) rfl ?_
      refine gw_iinc (pc' := 22) κ dX6_allPeople_19 rfl 2 rfl (v := (v2 + 1)) rfl (by decide) (lv' := [(2, .int (v2 + 1)), (1, .int (v1 + r_2)), (0, .ref (qa 0))]) rfl ?_
      refine gw_goto (tgt := 4) κ dX6_allPeople_22 (by decide) ?_
      refine gw_lv (lv' := [(0, .ref (qa 0)), (1, .int (v1 + r_2)), (2, .int (v2 + 1))]) [2, 1, 0] rfl ?_
      exact ih4 (v1 + r_2) (v2 + 1) h
set_option maxHeartbeats 4000000 in
set_option maxRecDepth 100000 in
theorem c_X6_allPeople {l : Launch} {D : va_G} {cI cR : ClassId}  (qa : Nat → Nat) {P : Int32 → Prop} (Mst : Nat → Int32) (Mhi : Nat → Int32) (Mhn : Int32) (Msl : Nat → Int32) (Msv : Nat → Int32) (Mpd : Nat → Int32) (Mln : Int32) (Mat : Int32) (Mit : Nat → Int32) (Mvf : Nat → Int32) (Mdn : Nat → Int32) (Mlf : Nat → Int32) (Mar : Nat → Int32) (Msa : Nat → Int32) (Msm : Nat → Int32) (Mso : Int32) (h : wp_X6_allPeople P Mst Mvf) : CT l D cI cR yX6_allPeople cX6_allPeople 3 (some .int) ({ frames := 2, cells := 0, slots := 0, locals := 47 } : Room) [.ref (qa 0)] (wfl [cM qa cI Mst Mhi Mhn Msl Msv Mpd Mln Mat Mit Mvf Mdn Mlf Mar Msa Msm Mso]) (fun _ : Unit => (wfl [cM qa cI Mst Mhi Mhn Msl Msv Mpd Mln Mat Mit Mvf Mdn Mlf Mar Msa Msm Mso])) (pI (fun (r : Int32) (_ : Unit) => P r)) 0 0 := by
  refine ct_of RX6 rfl (by decide +kernel) (Nat.le_of_ble_eq_true rfl) (fun zp ze zs zm zb zt zc A hin κ => ?_)
  unfold wp_X6_allPeople at h
  refine gw_nf (lv' := [(0, .ref (qa 0))]) (pc' := 0) (st' := []) (ce' := 0) (sl' := 0) rfl rfl rfl rfl rfl rfl ?_
  refine gw_iconst (pc' := 1) (v := 0) κ dX6_allPeople_0 rfl (by decide) ?_
  refine gw_istore_n (pc' := 2) κ dX6_allPeople_1 rfl rfl (by decide) (lv' := [(1, .int (0 : Int32)), (0, .ref (qa 0))]) rfl ?_
  refine gw_iconst (pc' := 3) (v := 0) κ dX6_allPeople_2 rfl (by decide) ?_
  refine gw_istore_n (pc' := 4) κ dX6_allPeople_3 rfl rfl (by decide) (lv' := [(2, .int (0 : Int32)), (1, .int (0 : Int32)), (0, .ref (qa 0))]) rfl ?_
  obtain ⟨m4, h⟩ := h
  refine gw_lv (lv' := [(0, .ref (qa 0)), (1, .int (0 : Int32)), (2, .int (0 : Int32))]) [2, 1, 0] rfl ?_
  exact k_X6_allPeople_4 κ qa P Mst Mhi Mhn Msl Msv Mpd Mln Mat Mit Mvf Mdn Mlf Mar Msa Msm Mso m4 (0 : Int32) (0 : Int32) h
theorem hy_X6_strandedRiders : g_hy yX6_strandedRiders 0 := by decide +kernel
set_option maxHeartbeats 4000000 in
set_option maxRecDepth 100000 in
theorem k_X6_strandedRiders_4 {zp : Program} {l : Launch} {ze : Env} {zs : State} {zm : MethodId} {za : Array Value} {zb : List Frame} {zt : Method} {zc : Code} {D : va_G} {cI cR : ClassId} {A : Nat → Prop} (κ : KC zp zs zm za zt zc cX6_strandedRiders 3 RX6 D cI cR A (some .int)) (qa : Nat → Nat) (P : Int32 → Prop) (Mst : Nat → Int32) (Mhi : Nat → Int32) (Mhn : Int32) (Msl : Nat → Int32) (Msv : Nat → Int32) (Mpd : Nat → Int32) (Mln : Int32) (Mat : Int32) (Mit : Nat → Int32) (Mvf : Nat → Int32) (Mdn : Nat → Int32) (Mlf : Nat → Int32) (Mar : Nat → Int32) (Msa : Nat → Int32) (Msm : Nat → Int32) (Mso : Int32) : ∀ (n : Nat) (v1 : Int32) (v2 : Int32), wp_X6_strandedRiders_4 P Mst Mvf n v1 v2 → GM zp l ze ({ frames := 0, cells := 0, slots := 0, locals := 0 } : Room) zs zm za zb zt zc D A 3 (pI (fun (r : Int32) (_ : Unit) => P r)) (fun _ : Unit => (wfl [cM qa cI Mst Mhi Mhn Msl Msv Mpd Mln Mat Mit Mvf Mdn Mlf Mar Msa Msm Mso])) 0 0 0 0 (wfl [cM qa cI Mst Mhi Mhn Msl Msv Mpd Mln Mat Mit Mvf Mdn Mlf Mar Msa Msm Mso]) [(0, .ref (qa 0)), (1, .int v1), (2, .int v2)] 4 [] := by
  intro n4
  induction n4 with
  | zero => intro v1 v2 h; exact (show False from h).elim
  | succ n4 ih4 =>
    intro v1 v2 h
    have h : wp_X6_strandedRiders_4F P Mst Mvf (wp_X6_strandedRiders_4 P Mst Mvf n4) v1 v2 := h
    unfold wp_X6_strandedRiders_4F at h
    refine gw_iload_n (pc' := 5) κ dX6_strandedRiders_4 rfl 2 rfl rfl ?_
    refine gw_aload_n (pc' := 6) κ dX6_strandedRiders_5 rfl 0 rfl rfl ?_
    refine gb_get (pc' := 9) (C := RX6) (T := TX6) (N := 16) κ dX6_strandedRiders_6 rfl inX6 0 rfl rfl rfl 0 (by decide) tw_fl_X6_7 rfl ?_
    refine gw_bipush (pc' := 11) (v := 33) κ dX6_strandedRiders_9 rfl (by decide) ?_
    refine gb_iald (pc' := 12) κ dX6_strandedRiders_11 rfl 0 1 rfl rfl (by unfold vp_in; decide) ?_
    refine gw_icmp_ge (pc' := 15) (tgt := 40) κ dX6_strandedRiders_12 rfl (by decide) (fun hc_2 => ?_) (fun hc_2 => ?_)
    · have h := h.1 hc_2
      refine gw_iload_n (pc' := 41) κ dX6_strandedRiders_40 rfl 1 rfl rfl ?_
      exact gw_iret κ dX6_strandedRiders_41 () rfl ⟨_, rfl, h⟩
    · have h := h.2 hc_2
      refine gw_iload_n (pc' := 16) κ dX6_strandedRiders_15 rfl 1 rfl rfl ?_
      refine gw_aload_n (pc' := 17) κ dX6_strandedRiders_16 rfl 0 rfl rfl ?_
      refine gb_get (pc' := 20) (C := RX6) (T := TX6) (N := 16) κ dX6_strandedRiders_17 rfl inX6 0 rfl rfl rfl 9 (by decide) tw_fl_X6_28 rfl ?_
      refine gw_iload_n (pc' := 21) κ dX6_strandedRiders_20 rfl 2 rfl rfl ?_
      obtain ⟨hb_3, h⟩ := h
      refine gb_iald (pc' := 22) κ dX6_strandedRiders_21 rfl 0 7 rfl rfl hb_3 ?_
      refine gw_bipush (pc' := 24) (v := -106) κ dX6_strandedRiders_22 rfl (by decide) ?_
      refine gw_icmp_ne (pc' := 27) (tgt := 31) κ dX6_strandedRiders_24 rfl (by decide) (fun hc_4 => ?_) (fun hc_4 => ?_)
      · have h := h.1 hc_4
        refine gw_iconst (pc' := 32) (v := 0) κ dX6_strandedRiders_31 rfl (by decide) ?_
        refine gw_iadd (pc' := 33) κ dX6_strandedRiders_32 rfl  ?_
        refine gw_istore_n (pc' := 34) κ dX6_strandedRiders_33 rfl rfl (by decide) (lv' := [(1, .int (v1 + (0 : Int32))), (0, .ref (qa 0)), (2, .int v2)]) rfl ?_
        refine gw_iinc (pc' := 37) κ dX6_strandedRiders_34 rfl 2 rfl (v := (v2 + 1)) rfl (by decide) (lv' := [(2, .int (v2 + 1)), (1, .int (v1 + (0 : Int32))), (0, .ref (qa 0))]) rfl ?_
        refine gw_goto (tgt := 4) κ dX6_strandedRiders_37 (by decide) ?_
        refine gw_lv (lv' := [(0, .ref (qa 0)), (1, .int (v1 + (0 : Int32))), (2, .int (v2 + 1))]) [2, 1, 0] rfl ?_
        exact ih4 (v1 + (0 : Int32)) (v2 + 1) h
      · have h := h.2 hc_4
        refine gw_iconst (pc' := 28) (v := 1) κ dX6_strandedRiders_27 rfl (by decide) ?_
        refine gw_goto (tgt := 32) κ dX6_strandedRiders_28 (by decide) ?_
        refine gw_iadd (pc' := 33) κ dX6_strandedRiders_32 rfl  ?_
        refine gw_istore_n (pc' := 34) κ dX6_strandedRiders_33 rfl rfl (by decide) (lv' := [(1, .int (v1 + (1 : Int32))), (0, .ref (qa 0)), (2, .int v2)]) rfl ?_
        refine gw_iinc (pc' := 37) κ dX6_strandedRiders_34 rfl 2 rfl (v := (v2 + 1)) rfl (by decide) (lv' := [(2, .int (v2 + 1)), (1, .int (v1 + (1 : Int32))), (0, .ref (qa 0))]) rfl ?_
        refine gw_goto (tgt := 4) κ dX6_strandedRiders_37 (by decide) ?_
        refine gw_lv (lv' := [(0, .ref (qa 0)), (1, .int (v1 + (1 : Int32))), (2, .int (v2 + 1))]) [2, 1, 0] rfl ?_
        exact ih4 (v1 + (1 : Int32)) (v2 + 1) h
set_option maxHeartbeats 4000000 in
set_option maxRecDepth 100000 in
theorem c_X6_strandedRiders {l : Launch} {D : va_G} {cI cR : ClassId}  (qa : Nat → Nat) {P : Int32 → Prop} (Mst : Nat → Int32) (Mhi : Nat → Int32) (Mhn : Int32) (Msl : Nat → Int32) (Msv : Nat → Int32) (Mpd : Nat → Int32) (Mln : Int32) (Mat : Int32) (Mit : Nat → Int32) (Mvf : Nat → Int32) (Mdn : Nat → Int32) (Mlf : Nat → Int32) (Mar : Nat → Int32) (Msa : Nat → Int32) (Msm : Nat → Int32) (Mso : Int32) (h : wp_X6_strandedRiders P Mst Mvf) : CT l D cI cR yX6_strandedRiders cX6_strandedRiders 3 (some .int) ({ frames := 0, cells := 0, slots := 0, locals := 0 } : Room) [.ref (qa 0)] (wfl [cM qa cI Mst Mhi Mhn Msl Msv Mpd Mln Mat Mit Mvf Mdn Mlf Mar Msa Msm Mso]) (fun _ : Unit => (wfl [cM qa cI Mst Mhi Mhn Msl Msv Mpd Mln Mat Mit Mvf Mdn Mlf Mar Msa Msm Mso])) (pI (fun (r : Int32) (_ : Unit) => P r)) 0 0 := by
  refine ct_of RX6 rfl (by decide +kernel) (Nat.le_of_ble_eq_true rfl) (fun zp ze zs zm zb zt zc A hin κ => ?_)
  unfold wp_X6_strandedRiders at h
  refine gw_nf (lv' := [(0, .ref (qa 0))]) (pc' := 0) (st' := []) (ce' := 0) (sl' := 0) rfl rfl rfl rfl rfl rfl ?_
  refine gw_iconst (pc' := 1) (v := 0) κ dX6_strandedRiders_0 rfl (by decide) ?_
  refine gw_istore_n (pc' := 2) κ dX6_strandedRiders_1 rfl rfl (by decide) (lv' := [(1, .int (0 : Int32)), (0, .ref (qa 0))]) rfl ?_
  refine gw_iconst (pc' := 3) (v := 0) κ dX6_strandedRiders_2 rfl (by decide) ?_
  refine gw_istore_n (pc' := 4) κ dX6_strandedRiders_3 rfl rfl (by decide) (lv' := [(2, .int (0 : Int32)), (1, .int (0 : Int32)), (0, .ref (qa 0))]) rfl ?_
  obtain ⟨m4, h⟩ := h
  refine gw_lv (lv' := [(0, .ref (qa 0)), (1, .int (0 : Int32)), (2, .int (0 : Int32))]) [2, 1, 0] rfl ?_
  exact k_X6_strandedRiders_4 κ qa P Mst Mhi Mhn Msl Msv Mpd Mln Mat Mit Mvf Mdn Mlf Mar Msa Msm Mso m4 (0 : Int32) (0 : Int32) h
theorem hy_X6_allFares : g_hy yX6_allFares 0 := by decide +kernel
set_option maxHeartbeats 4000000 in
set_option maxRecDepth 100000 in
theorem k_X6_allFares_4 {zp : Program} {l : Launch} {ze : Env} {zs : State} {zm : MethodId} {za : Array Value} {zb : List Frame} {zt : Method} {zc : Code} {D : va_G} {cI cR : ClassId} {A : Nat → Prop} (κ : KC zp zs zm za zt zc cX6_allFares 3 RX6 D cI cR A (some .int)) (qa : Nat → Nat) (P : Int32 → Prop) (Mst : Nat → Int32) (Mhi : Nat → Int32) (Mhn : Int32) (Msl : Nat → Int32) (Msv : Nat → Int32) (Mpd : Nat → Int32) (Mln : Int32) (Mat : Int32) (Mit : Nat → Int32) (Mvf : Nat → Int32) (Mdn : Nat → Int32) (Mlf : Nat → Int32) (Mar : Nat → Int32) (Msa : Nat → Int32) (Msm : Nat → Int32) (Mso : Int32) : ∀ (n : Nat) (v1 : Int32) (v2 : Int32), wp_X6_allFares_4 P Mst Mvf n v1 v2 → GM zp l ze ({ frames := 5, cells := 0, slots := 0, locals := 115 } : Room) zs zm za zb zt zc D A 3 (pI (fun (r : Int32) (_ : Unit) => P r)) (fun _ : Unit => (wfl [cM qa cI Mst Mhi Mhn Msl Msv Mpd Mln Mat Mit Mvf Mdn Mlf Mar Msa Msm Mso])) 0 0 0 0 (wfl [cM qa cI Mst Mhi Mhn Msl Msv Mpd Mln Mat Mit Mvf Mdn Mlf Mar Msa Msm Mso]) [(0, .ref (qa 0)), (1, .int v1), (2, .int v2)] 4 [] := by
  intro n4
  induction n4 with
  | zero => intro v1 v2 h; exact (show False from h).elim
  | succ n4 ih4 =>
    intro v1 v2 h
    have h : wp_X6_allFares_4F P Mst Mvf (wp_X6_allFares_4 P Mst Mvf n4) v1 v2 := h
    unfold wp_X6_allFares_4F at h
    refine gw_iload_n (pc' := 5) κ dX6_allFares_4 rfl 2 rfl rfl ?_
    refine gw_aload_n (pc' := 6) κ dX6_allFares_5 rfl 0 rfl rfl ?_
    refine gb_get (pc' := 9) (C := RX6) (T := TX6) (N := 16) κ dX6_allFares_6 rfl inX6 0 rfl rfl rfl 0 (by decide) tw_fl_X6_7 rfl ?_
    refine gw_bipush (pc' := 11) (v := 33) κ dX6_allFares_9 rfl (by decide) ?_
    refine gb_iald (pc' := 12) κ dX6_allFares_11 rfl 0 1 rfl rfl (by unfold vp_in; decide) ?_
    refine gw_icmp_ge (pc' := 15) (tgt := 29) κ dX6_allFares_12 rfl (by decide) (fun hc_2 => ?_) (fun hc_2 => ?_)
    · have h := h.1 hc_2
      refine gw_iload_n (pc' := 30) κ dX6_allFares_29 rfl 1 rfl rfl ?_
      exact gw_iret κ dX6_allFares_30 () rfl ⟨_, rfl, h⟩
    · have h := h.2 hc_2
      refine gw_iload_n (pc' := 16) κ dX6_allFares_15 rfl 1 rfl rfl ?_
      refine gw_aload_n (pc' := 17) κ dX6_allFares_16 rfl 0 rfl rfl ?_
      refine gw_iload_n (pc' := 18) κ dX6_allFares_17 rfl 2 rfl rfl ?_
      refine gb_callV (ci := 6) (qb := 0) (rest := [.int v1]) κ (c_X6_fare qa Mst Mhi Mhn Msl Msv Mpd Mln Mat Mit Mvf Mdn Mlf Mar Msa Msm Mso v2 h) ⟨rfl, rfl, Nat.le_of_ble_eq_true rfl, Nat.le_of_ble_eq_true rfl⟩ tw_ml_X6_126 tw_im_X6_fare tw_se_X6_fare tw_co_X6_fare tw_in_X6 hy_X6_fare rfl rfl rfl rfl rfl (Nat.le_of_ble_eq_true rfl) rfl dX6_allFares_18 [0] rfl (by decide) (fun _ => Nat.le_of_ble_eq_true rfl) ⟨Nat.le_of_ble_eq_true rfl, Nat.le_of_ble_eq_true rfl⟩ (fun v u hv => ?_)
      obtain ⟨r_3, rfl, h⟩ := hv
      refine gw_nf (ws' := (wfl [cM qa cI Mst Mhi Mhn Msl Msv Mpd Mln Mat Mit Mvf Mdn Mlf Mar Msa Msm Mso])) (lv' := [(0, .ref (qa 0)), (1, .int v1), (2, .int v2)]) (st' := [.int r_3, .int v1]) (pc' := 21) (ce' := 0) (sl' := 0) rfl rfl rfl rfl rfl rfl ?_
      refine gw_iadd (pc' := 22) κ dX6_allFares_21 rfl  ?_
      refine gw_istore_n (pc' := 23) κ dX6_allFares_22 rfl rfl (by decide) (lv' := [(1, .int (v1 + r_3)), (0, .ref (qa 0)), (2, .int v2)]) rfl ?_
      refine gw_iinc (pc' := 26) κ dX6_allFares_23 rfl 2 rfl (v := (v2 + 1)) rfl (by decide) (lv' := [(2, .int (v2 + 1)), (1, .int (v1 + r_3)), (0, .ref (qa 0))]) rfl ?_
      refine gw_goto (tgt := 4) κ dX6_allFares_26 (by decide) ?_
      refine gw_lv (lv' := [(0, .ref (qa 0)), (1, .int (v1 + r_3)), (2, .int (v2 + 1))]) [2, 1, 0] rfl ?_
      exact ih4 (v1 + r_3) (v2 + 1) h
set_option maxHeartbeats 4000000 in
set_option maxRecDepth 100000 in
theorem c_X6_allFares {l : Launch} {D : va_G} {cI cR : ClassId}  (qa : Nat → Nat) {P : Int32 → Prop} (Mst : Nat → Int32) (Mhi : Nat → Int32) (Mhn : Int32) (Msl : Nat → Int32) (Msv : Nat → Int32) (Mpd : Nat → Int32) (Mln : Int32) (Mat : Int32) (Mit : Nat → Int32) (Mvf : Nat → Int32) (Mdn : Nat → Int32) (Mlf : Nat → Int32) (Mar : Nat → Int32) (Msa : Nat → Int32) (Msm : Nat → Int32) (Mso : Int32) (h : wp_X6_allFares P Mst Mvf) : CT l D cI cR yX6_allFares cX6_allFares 3 (some .int) ({ frames := 5, cells := 0, slots := 0, locals := 115 } : Room) [.ref (qa 0)] (wfl [cM qa cI Mst Mhi Mhn Msl Msv Mpd Mln Mat Mit Mvf Mdn Mlf Mar Msa Msm Mso]) (fun _ : Unit => (wfl [cM qa cI Mst Mhi Mhn Msl Msv Mpd Mln Mat Mit Mvf Mdn Mlf Mar Msa Msm Mso])) (pI (fun (r : Int32) (_ : Unit) => P r)) 0 0 := by
  refine ct_of RX6 rfl (by decide +kernel) (Nat.le_of_ble_eq_true rfl) (fun zp ze zs zm zb zt zc A hin κ => ?_)
  unfold wp_X6_allFares at h
  refine gw_nf (lv' := [(0, .ref (qa 0))]) (pc' := 0) (st' := []) (ce' := 0) (sl' := 0) rfl rfl rfl rfl rfl rfl ?_
  refine gw_iconst (pc' := 1) (v := 0) κ dX6_allFares_0 rfl (by decide) ?_
  refine gw_istore_n (pc' := 2) κ dX6_allFares_1 rfl rfl (by decide) (lv' := [(1, .int (0 : Int32)), (0, .ref (qa 0))]) rfl ?_
  refine gw_iconst (pc' := 3) (v := 0) κ dX6_allFares_2 rfl (by decide) ?_
  refine gw_istore_n (pc' := 4) κ dX6_allFares_3 rfl rfl (by decide) (lv' := [(2, .int (0 : Int32)), (1, .int (0 : Int32)), (0, .ref (qa 0))]) rfl ?_
  obtain ⟨m4, h⟩ := h
  refine gw_lv (lv' := [(0, .ref (qa 0)), (1, .int (0 : Int32)), (2, .int (0 : Int32))]) [2, 1, 0] rfl ?_
  exact k_X6_allFares_4 κ qa P Mst Mhi Mhn Msl Msv Mpd Mln Mat Mit Mvf Mdn Mlf Mar Msa Msm Mso m4 (0 : Int32) (0 : Int32) h
theorem hy_X6_usedVans : g_hy yX6_usedVans 0 := by decide +kernel
set_option maxHeartbeats 4000000 in
set_option maxRecDepth 100000 in
theorem k_X6_usedVans_4 {zp : Program} {l : Launch} {ze : Env} {zs : State} {zm : MethodId} {za : Array Value} {zb : List Frame} {zt : Method} {zc : Code} {D : va_G} {cI cR : ClassId} {A : Nat → Prop} (κ : KC zp zs zm za zt zc cX6_usedVans 3 RX6 D cI cR A (some .int)) (qa : Nat → Nat) (P : Int32 → Prop) (Mst : Nat → Int32) (Mhi : Nat → Int32) (Mhn : Int32) (Msl : Nat → Int32) (Msv : Nat → Int32) (Mpd : Nat → Int32) (Mln : Int32) (Mat : Int32) (Mit : Nat → Int32) (Mvf : Nat → Int32) (Mdn : Nat → Int32) (Mlf : Nat → Int32) (Mar : Nat → Int32) (Msa : Nat → Int32) (Msm : Nat → Int32) (Mso : Int32) : ∀ (n : Nat) (v1 : Int32) (v2 : Int32), wp_X6_usedVans_4 P Mar n v1 v2 → GM zp l ze ({ frames := 0, cells := 0, slots := 0, locals := 0 } : Room) zs zm za zb zt zc D A 3 (pI (fun (r : Int32) (_ : Unit) => P r)) (fun _ : Unit => (wfl [cM qa cI Mst Mhi Mhn Msl Msv Mpd Mln Mat Mit Mvf Mdn Mlf Mar Msa Msm Mso])) 0 0 0 0 (wfl [cM qa cI Mst Mhi Mhn Msl Msv Mpd Mln Mat Mit Mvf Mdn Mlf Mar Msa Msm Mso]) [(0, .ref (qa 0)), (1, .int v1), (2, .int v2)] 4 [] := by
  intro n4
  induction n4 with
  | zero => intro v1 v2 h; exact (show False from h).elim
  | succ n4 ih4 =>
    intro v1 v2 h
    have h : wp_X6_usedVans_4F P Mar (wp_X6_usedVans_4 P Mar n4) v1 v2 := h
    unfold wp_X6_usedVans_4F at h
    refine gw_iload_n (pc' := 5) κ dX6_usedVans_4 rfl 2 rfl rfl ?_
    refine gw_bipush (pc' := 7) (v := 8) κ dX6_usedVans_5 rfl (by decide) ?_
    refine gw_icmp_ge (pc' := 10) (tgt := 33) κ dX6_usedVans_7 rfl (by decide) (fun hc_1 => ?_) (fun hc_1 => ?_)
    · have h := h.1 hc_1
      refine gw_iload_n (pc' := 34) κ dX6_usedVans_33 rfl 1 rfl rfl ?_
      exact gw_iret κ dX6_usedVans_34 () rfl ⟨_, rfl, h⟩
    · have h := h.2 hc_1
      refine gw_iload_n (pc' := 11) κ dX6_usedVans_10 rfl 1 rfl rfl ?_
      refine gw_aload_n (pc' := 12) κ dX6_usedVans_11 rfl 0 rfl rfl ?_
      refine gb_get (pc' := 15) (C := RX6) (T := TX6) (N := 16) κ dX6_usedVans_12 rfl inX6 0 rfl rfl rfl 12 (by decide) tw_fl_X6_37 rfl ?_
      refine gw_iload_n (pc' := 16) κ dX6_usedVans_15 rfl 2 rfl rfl ?_
      obtain ⟨hb_2, h⟩ := h
      refine gb_iald (pc' := 17) κ dX6_usedVans_16 rfl 0 10 rfl rfl hb_2 ?_
      refine gw_if_eq (pc' := 20) (tgt := 24) κ dX6_usedVans_17 rfl (by decide) (fun hc_3 => ?_) (fun hc_3 => ?_)
      · have h := h.1 hc_3
        refine gw_iconst (pc' := 25) (v := 0) κ dX6_usedVans_24 rfl (by decide) ?_
        refine gw_iadd (pc' := 26) κ dX6_usedVans_25 rfl  ?_
        refine gw_istore_n (pc' := 27) κ dX6_usedVans_26 rfl rfl (by decide) (lv' := [(1, .int (v1 + (0 : Int32))), (0, .ref (qa 0)), (2, .int v2)]) rfl ?_
        refine gw_iinc (pc' := 30) κ dX6_usedVans_27 rfl 2 rfl (v := (v2 + 1)) rfl (by decide) (lv' := [(2, .int (v2 + 1)), (1, .int (v1 + (0 : Int32))), (0, .ref (qa 0))]) rfl ?_
        refine gw_goto (tgt := 4) κ dX6_usedVans_30 (by decide) ?_
        refine gw_lv (lv' := [(0, .ref (qa 0)), (1, .int (v1 + (0 : Int32))), (2, .int (v2 + 1))]) [2, 1, 0] rfl ?_
        exact ih4 (v1 + (0 : Int32)) (v2 + 1) h
      · have h := h.2 hc_3
        refine gw_iconst (pc' := 21) (v := 1) κ dX6_usedVans_20 rfl (by decide) ?_
        refine gw_goto (tgt := 25) κ dX6_usedVans_21 (by decide) ?_
        refine gw_iadd (pc' := 26) κ dX6_usedVans_25 rfl  ?_
        refine gw_istore_n (pc' := 27) κ dX6_usedVans_26 rfl rfl (by decide) (lv' := [(1, .int (v1 + (1 : Int32))), (0, .ref (qa 0)), (2, .int v2)]) rfl ?_
        refine gw_iinc (pc' := 30) κ dX6_usedVans_27 rfl 2 rfl (v := (v2 + 1)) rfl (by decide) (lv' := [(2, .int (v2 + 1)), (1, .int (v1 + (1 : Int32))), (0, .ref (qa 0))]) rfl ?_
        refine gw_goto (tgt := 4) κ dX6_usedVans_30 (by decide) ?_
        refine gw_lv (lv' := [(0, .ref (qa 0)), (1, .int (v1 + (1 : Int32))), (2, .int (v2 + 1))]) [2, 1, 0] rfl ?_
        exact ih4 (v1 + (1 : Int32)) (v2 + 1) h
set_option maxHeartbeats 4000000 in
set_option maxRecDepth 100000 in
theorem c_X6_usedVans {l : Launch} {D : va_G} {cI cR : ClassId}  (qa : Nat → Nat) {P : Int32 → Prop} (Mst : Nat → Int32) (Mhi : Nat → Int32) (Mhn : Int32) (Msl : Nat → Int32) (Msv : Nat → Int32) (Mpd : Nat → Int32) (Mln : Int32) (Mat : Int32) (Mit : Nat → Int32) (Mvf : Nat → Int32) (Mdn : Nat → Int32) (Mlf : Nat → Int32) (Mar : Nat → Int32) (Msa : Nat → Int32) (Msm : Nat → Int32) (Mso : Int32) (h : wp_X6_usedVans P Mar) : CT l D cI cR yX6_usedVans cX6_usedVans 3 (some .int) ({ frames := 0, cells := 0, slots := 0, locals := 0 } : Room) [.ref (qa 0)] (wfl [cM qa cI Mst Mhi Mhn Msl Msv Mpd Mln Mat Mit Mvf Mdn Mlf Mar Msa Msm Mso]) (fun _ : Unit => (wfl [cM qa cI Mst Mhi Mhn Msl Msv Mpd Mln Mat Mit Mvf Mdn Mlf Mar Msa Msm Mso])) (pI (fun (r : Int32) (_ : Unit) => P r)) 0 0 := by
  refine ct_of RX6 rfl (by decide +kernel) (Nat.le_of_ble_eq_true rfl) (fun zp ze zs zm zb zt zc A hin κ => ?_)
  unfold wp_X6_usedVans at h
  refine gw_nf (lv' := [(0, .ref (qa 0))]) (pc' := 0) (st' := []) (ce' := 0) (sl' := 0) rfl rfl rfl rfl rfl rfl ?_
  refine gw_iconst (pc' := 1) (v := 0) κ dX6_usedVans_0 rfl (by decide) ?_
  refine gw_istore_n (pc' := 2) κ dX6_usedVans_1 rfl rfl (by decide) (lv' := [(1, .int (0 : Int32)), (0, .ref (qa 0))]) rfl ?_
  refine gw_iconst (pc' := 3) (v := 0) κ dX6_usedVans_2 rfl (by decide) ?_
  refine gw_istore_n (pc' := 4) κ dX6_usedVans_3 rfl rfl (by decide) (lv' := [(2, .int (0 : Int32)), (1, .int (0 : Int32)), (0, .ref (qa 0))]) rfl ?_
  obtain ⟨m4, h⟩ := h
  refine gw_lv (lv' := [(0, .ref (qa 0)), (1, .int (0 : Int32)), (2, .int (0 : Int32))]) [2, 1, 0] rfl ?_
  exact k_X6_usedVans_4 κ qa P Mst Mhi Mhn Msl Msv Mpd Mln Mat Mit Mvf Mdn Mlf Mar Msa Msm Mso m4 (0 : Int32) (0 : Int32) h
theorem hy_X6_allStops : g_hy yX6_allStops 0 := by decide +kernel
set_option maxHeartbeats 4000000 in
set_option maxRecDepth 100000 in
theorem k_X6_allStops_4 {zp : Program} {l : Launch} {ze : Env} {zs : State} {zm : MethodId} {za : Array Value} {zb : List Frame} {zt : Method} {zc : Code} {D : va_G} {cI cR : ClassId} {A : Nat → Prop} (κ : KC zp zs zm za zt zc cX6_allStops 3 RX6 D cI cR A (some .int)) (qa : Nat → Nat) (P : Int32 → (Nat → Int32) → (Nat → Int32) → Int32 → Prop) (Mst : Nat → Int32) (Mhi : Nat → Int32) (Mhn : Int32) (Msl : Nat → Int32) (Msv : Nat → Int32) (Mpd : Nat → Int32) (Mln : Int32) (Mat : Int32) (Mit : Nat → Int32) (Mvf : Nat → Int32) (Mdn : Nat → Int32) (Mlf : Nat → Int32) (Mar : Nat → Int32) : ∀ (n : Nat) (v1 : Int32) (v2 : Int32) (Msa : Nat → Int32) (Msm : Nat → Int32) (Mso : Int32), wp_X6_allStops_4 P Mst Mvf n v1 v2 Msa Msm Mso → GM zp l ze ({ frames := 3, cells := 0, slots := 0, locals := 69 } : Room) zs zm za zb zt zc D A 3 (pI (fun (r : Int32) (u : (Nat → Int32) × (Nat → Int32) × Int32) => P r u.1 u.2.1 u.2.2)) (fun u : (Nat → Int32) × (Nat → Int32) × Int32 => (wfl [cM qa cI Mst Mhi Mhn Msl Msv Mpd Mln Mat Mit Mvf Mdn Mlf Mar u.1 u.2.1 u.2.2])) 0 0 0 0 (wfl [cM qa cI Mst Mhi Mhn Msl Msv Mpd Mln Mat Mit Mvf Mdn Mlf Mar Msa Msm Mso]) [(0, .ref (qa 0)), (1, .int v1), (2, .int v2)] 4 [] := by
  intro n4
  induction n4 with
  | zero => intro v1 v2 Msa Msm Mso h; exact (show False from h).elim
  | succ n4 ih4 =>
    intro v1 v2 Msa Msm Mso h
    have h : wp_X6_allStops_4F P Mst Mvf (wp_X6_allStops_4 P Mst Mvf n4) v1 v2 Msa Msm Mso := h
    unfold wp_X6_allStops_4F at h
    refine gw_iload_n (pc' := 5) κ dX6_allStops_4 rfl 2 rfl rfl ?_
    refine gw_bipush (pc' := 7) (v := 8) κ dX6_allStops_5 rfl (by decide) ?_
    refine gw_icmp_ge (pc' := 10) (tgt := 28) κ dX6_allStops_7 rfl (by decide) (fun hc_1 => ?_) (fun hc_1 => ?_)
    · have h := h.1 hc_1
      refine gw_iload_n (pc' := 29) κ dX6_allStops_28 rfl 1 rfl rfl ?_
      exact gw_iret κ dX6_allStops_29 (Msa, Msm, Mso) rfl ⟨_, rfl, h⟩
    · have h := h.2 hc_1
      refine gw_aload_n (pc' := 11) κ dX6_allStops_10 rfl 0 rfl rfl ?_
      refine gw_iload_n (pc' := 12) κ dX6_allStops_11 rfl 2 rfl rfl ?_
      refine gb_callV (ci := 6) (qb := 0) (rest := []) κ (c_X6_layStops qa Mst Mhi Mhn Msl Msv Mpd Mln Mat Mit Mvf Mdn Mlf Mar Msa Msm Mso v2 h) ⟨rfl, rfl, Nat.le_of_ble_eq_true rfl, Nat.le_of_ble_eq_true rfl⟩ tw_ml_X6_88 tw_im_X6_layStops tw_se_X6_layStops tw_co_X6_layStops tw_in_X6 hy_X6_layStops rfl rfl rfl rfl rfl (Nat.le_of_ble_eq_true rfl) rfl dX6_allStops_12 [0] rfl (by decide) (fun _ => Nat.le_of_ble_eq_true rfl) ⟨Nat.le_of_ble_eq_true rfl, Nat.le_of_ble_eq_true rfl⟩ (fun v u hv => ?_)
      obtain ⟨rfl, h⟩ := hv
      obtain ⟨Msa_2, Msm_3, Mso_4⟩ := u
      refine gw_nf (ws' := (wfl [cM qa cI Mst Mhi Mhn Msl Msv Mpd Mln Mat Mit Mvf Mdn Mlf Mar Msa_2 Msm_3 Mso_4])) (lv' := [(0, .ref (qa 0)), (1, .int v1), (2, .int v2)]) (st' := []) (pc' := 15) (ce' := 0) (sl' := 0) rfl rfl rfl rfl rfl rfl ?_
      refine gw_iload_n (pc' := 16) κ dX6_allStops_15 rfl 1 rfl rfl ?_
      refine gw_aload_n (pc' := 17) κ dX6_allStops_16 rfl 0 rfl rfl ?_
      refine gb_get (pc' := 20) (C := RX6) (T := TX6) (N := 16) κ dX6_allStops_17 rfl inX6 0 rfl rfl rfl 15 (by decide) tw_fl_X6_82 rfl ?_
      refine gw_iadd (pc' := 21) κ dX6_allStops_20 rfl  ?_
      refine gw_istore_n (pc' := 22) κ dX6_allStops_21 rfl rfl (by decide) (lv' := [(1, .int (v1 + Mso_4)), (0, .ref (qa 0)), (2, .int v2)]) rfl ?_
      refine gw_iinc (pc' := 25) κ dX6_allStops_22 rfl 2 rfl (v := (v2 + 1)) rfl (by decide) (lv' := [(2, .int (v2 + 1)), (1, .int (v1 + Mso_4)), (0, .ref (qa 0))]) rfl ?_
      refine gw_goto (tgt := 4) κ dX6_allStops_25 (by decide) ?_
      refine gw_lv (lv' := [(0, .ref (qa 0)), (1, .int (v1 + Mso_4)), (2, .int (v2 + 1))]) [2, 1, 0] rfl ?_
      exact ih4 (v1 + Mso_4) (v2 + 1) Msa_2 Msm_3 Mso_4 h
set_option maxHeartbeats 4000000 in
set_option maxRecDepth 100000 in
theorem c_X6_allStops {l : Launch} {D : va_G} {cI cR : ClassId}  (qa : Nat → Nat) {P : Int32 → (Nat → Int32) → (Nat → Int32) → Int32 → Prop} (Mst : Nat → Int32) (Mhi : Nat → Int32) (Mhn : Int32) (Msl : Nat → Int32) (Msv : Nat → Int32) (Mpd : Nat → Int32) (Mln : Int32) (Mat : Int32) (Mit : Nat → Int32) (Mvf : Nat → Int32) (Mdn : Nat → Int32) (Mlf : Nat → Int32) (Mar : Nat → Int32) (Msa : Nat → Int32) (Msm : Nat → Int32) (Mso : Int32) (h : wp_X6_allStops P Mst Mvf Msa Msm Mso) : CT l D cI cR yX6_allStops cX6_allStops 3 (some .int) ({ frames := 3, cells := 0, slots := 0, locals := 69 } : Room) [.ref (qa 0)] (wfl [cM qa cI Mst Mhi Mhn Msl Msv Mpd Mln Mat Mit Mvf Mdn Mlf Mar Msa Msm Mso]) (fun u : (Nat → Int32) × (Nat → Int32) × Int32 => (wfl [cM qa cI Mst Mhi Mhn Msl Msv Mpd Mln Mat Mit Mvf Mdn Mlf Mar u.1 u.2.1 u.2.2])) (pI (fun (r : Int32) (u : (Nat → Int32) × (Nat → Int32) × Int32) => P r u.1 u.2.1 u.2.2)) 0 0 := by
  refine ct_of RX6 rfl (by decide +kernel) (Nat.le_of_ble_eq_true rfl) (fun zp ze zs zm zb zt zc A hin κ => ?_)
  unfold wp_X6_allStops at h
  refine gw_nf (lv' := [(0, .ref (qa 0))]) (pc' := 0) (st' := []) (ce' := 0) (sl' := 0) rfl rfl rfl rfl rfl rfl ?_
  refine gw_iconst (pc' := 1) (v := 0) κ dX6_allStops_0 rfl (by decide) ?_
  refine gw_istore_n (pc' := 2) κ dX6_allStops_1 rfl rfl (by decide) (lv' := [(1, .int (0 : Int32)), (0, .ref (qa 0))]) rfl ?_
  refine gw_iconst (pc' := 3) (v := 0) κ dX6_allStops_2 rfl (by decide) ?_
  refine gw_istore_n (pc' := 4) κ dX6_allStops_3 rfl rfl (by decide) (lv' := [(2, .int (0 : Int32)), (1, .int (0 : Int32)), (0, .ref (qa 0))]) rfl ?_
  obtain ⟨m4, h⟩ := h
  refine gw_lv (lv' := [(0, .ref (qa 0)), (1, .int (0 : Int32)), (2, .int (0 : Int32))]) [2, 1, 0] rfl ?_
  exact k_X6_allStops_4 κ qa P Mst Mhi Mhn Msl Msv Mpd Mln Mat Mit Mvf Mdn Mlf Mar m4 (0 : Int32) (0 : Int32) Msa Msm Mso h
theorem hy_X6_count : g_hy yX6_count 1 := by decide +kernel
set_option maxHeartbeats 4000000 in
set_option maxRecDepth 100000 in
theorem c_X6_count {l : Launch} {D : va_G} {cI cR : ClassId}  (qa : Nat → Nat) {P : Int32 → (Nat → Int32) → (Nat → Int32) → (Nat → Int32) → (Nat → Int32) → (Nat → Int32) → (Nat → Int32) → Int32 → Prop} (Mst : Nat → Int32) (Mhi : Nat → Int32) (Mhn : Int32) (Msl : Nat → Int32) (Msv : Nat → Int32) (Mpd : Nat → Int32) (Mln : Int32) (Mat : Int32) (Mit : Nat → Int32) (Mvf : Nat → Int32) (Mdn : Nat → Int32) (Mlf : Nat → Int32) (Mar : Nat → Int32) (Msa : Nat → Int32) (Msm : Nat → Int32) (Mso : Int32) (x1 : Int32) (h : wp_X6_count P Mst Mhn Mln Mvf Mdn Mlf Mar Msa Msm Mso x1) : CT l D cI cR yX6_count cX6_count 2 (some .int) ({ frames := 6, cells := 0, slots := 0, locals := 137 } : Room) [.ref (qa 0), .int x1] (wfl [cM qa cI Mst Mhi Mhn Msl Msv Mpd Mln Mat Mit Mvf Mdn Mlf Mar Msa Msm Mso]) (fun u : (Nat → Int32) × (Nat → Int32) × (Nat → Int32) × (Nat → Int32) × (Nat → Int32) × (Nat → Int32) × Int32 => (wfl [cM qa cI Mst Mhi Mhn Msl Msv Mpd Mln Mat Mit u.1 u.2.1 u.2.2.1 u.2.2.2.1 u.2.2.2.2.1 u.2.2.2.2.2.1 u.2.2.2.2.2.2])) (pI (fun (r : Int32) (u : (Nat → Int32) × (Nat → Int32) × (Nat → Int32) × (Nat → Int32) × (Nat → Int32) × (Nat → Int32) × Int32) => P r u.1 u.2.1 u.2.2.1 u.2.2.2.1 u.2.2.2.2.1 u.2.2.2.2.2.1 u.2.2.2.2.2.2)) 0 0 := by
  refine ct_of RX6 rfl (by decide +kernel) (Nat.le_of_ble_eq_true rfl) (fun zp ze zs zm zb zt zc A hin κ => ?_)
  unfold wp_X6_count at h
  refine gw_nf (lv' := [(0, .ref (qa 0)), (1, .int x1)]) (pc' := 0) (st' := []) (ce' := 0) (sl' := 0) rfl rfl rfl rfl rfl rfl ?_
  refine gw_iload_n (pc' := 1) κ dX6_count_0 rfl 1 rfl rfl ?_
  refine gw_iconst (pc' := 2) (v := 0) κ dX6_count_1 rfl (by decide) ?_
  refine gw_iconst (pc' := 3) (v := 4) κ dX6_count_2 rfl (by decide) ?_
  refine gb_callS (rest := []) κ (c_X6_within  x1 (0 : Int32) (4 : Int32) h) ⟨rfl, rfl, Nat.le_of_ble_eq_true rfl, Nat.le_of_ble_eq_true rfl⟩ tw_ml_X6_46 tw_st_X6_within tw_co_X6_within tw_in_X6 hy_X6_within rfl (Nat.le_of_ble_eq_true rfl) rfl dX6_count_3 [] rfl (by decide) (fun _ => Nat.le_of_ble_eq_true rfl) ⟨Nat.le_of_ble_eq_true rfl, Nat.le_of_ble_eq_true rfl⟩ (fun v u hv => ?_)
  obtain ⟨r_1, rfl, h⟩ := hv
  refine gw_nf (ws' := (wfl [cM qa cI Mst Mhi Mhn Msl Msv Mpd Mln Mat Mit Mvf Mdn Mlf Mar Msa Msm Mso])) (lv' := [(0, .ref (qa 0)), (1, .int x1)]) (st' := [.int r_1]) (pc' := 6) (ce' := 0) (sl' := 0) rfl rfl rfl rfl rfl rfl ?_
  refine gw_if_eq (pc' := 9) (tgt := 16) κ dX6_count_6 rfl (by decide) (fun hc_2 => ?_) (fun hc_2 => ?_)
  · have h := h.1 hc_2
    refine gw_aload_n (pc' := 17) κ dX6_count_16 rfl 0 rfl rfl ?_
    refine gb_callV (ci := 6) (qb := 0) (rest := []) κ (c_X6_lay qa Mst Mhi Mhn Msl Msv Mpd Mln Mat Mit Mvf Mdn Mlf Mar Msa Msm Mso h) ⟨rfl, rfl, Nat.le_of_ble_eq_true rfl, Nat.le_of_ble_eq_true rfl⟩ tw_ml_X6_113 tw_im_X6_lay tw_se_X6_lay tw_co_X6_lay tw_in_X6 hy_X6_lay rfl rfl rfl rfl rfl (Nat.le_of_ble_eq_true rfl) rfl dX6_count_17 [0] rfl (by decide) (fun _ => Nat.le_of_ble_eq_true rfl) ⟨Nat.le_of_ble_eq_true rfl, Nat.le_of_ble_eq_true rfl⟩ (fun v u hv => ?_)
    obtain ⟨rfl, h⟩ := hv
    obtain ⟨Mvf_3, Mdn_4, Mlf_5, Mar_6⟩ := u
    refine gw_nf (ws' := (wfl [cM qa cI Mst Mhi Mhn Msl Msv Mpd Mln Mat Mit Mvf_3 Mdn_4 Mlf_5 Mar_6 Msa Msm Mso])) (lv' := [(0, .ref (qa 0)), (1, .int x1)]) (st' := []) (pc' := 20) (ce' := 0) (sl' := 0) rfl rfl rfl rfl rfl rfl ?_
    refine gw_iload_n (pc' := 21) κ dX6_count_20 rfl 1 rfl rfl ?_
    obtain ⟨hc_7_5, hc_7_6, hc_7_7, hc_7_8, hc_7_9, hc_7_10, hc_7_11, hc_7_12, hc_7_13, hc_7_14, hc_7_15, hc_7d⟩ := h
    by_cases hc_7c_5 : x1 = 5
    · have h := hc_7_5 hc_7c_5
      refine gw_tableIn (tgt := 80) (off := 59) κ dX6_count_21 (by rw [hc_7c_5]; decide) (by rw [hc_7c_5]; decide) (by rw [hc_7c_5]; decide +kernel) (by decide) ?_
      refine gw_aload_n (pc' := 81) κ dX6_count_80 rfl 0 rfl rfl ?_
      refine gb_get (pc' := 84) (C := RX6) (T := TX6) (N := 16) κ dX6_count_81 rfl inX6 0 rfl rfl rfl 0 (by decide) tw_fl_X6_7 rfl ?_
      refine gw_bipush (pc' := 86) (v := 33) κ dX6_count_84 rfl (by decide) ?_
      refine gb_iald (pc' := 87) κ dX6_count_86 rfl 0 1 rfl rfl (by unfold vp_in; decide) ?_
      exact gw_iret κ dX6_count_87 (Mvf_3, Mdn_4, Mlf_5, Mar_6, Msa, Msm, Mso) rfl ⟨_, rfl, h⟩
    by_cases hc_7c_6 : x1 = 6
    · have h := hc_7_6 hc_7c_6
      refine gw_tableIn (tgt := 88) (off := 67) κ dX6_count_21 (by rw [hc_7c_6]; decide) (by rw [hc_7c_6]; decide) (by rw [hc_7c_6]; decide +kernel) (by decide) ?_
      refine gw_aload_n (pc' := 89) κ dX6_count_88 rfl 0 rfl rfl ?_
      refine gb_callV (ci := 6) (qb := 0) (rest := []) κ (c_X6_allPeople qa Mst Mhi Mhn Msl Msv Mpd Mln Mat Mit Mvf_3 Mdn_4 Mlf_5 Mar_6 Msa Msm Mso h) ⟨rfl, rfl, Nat.le_of_ble_eq_true rfl, Nat.le_of_ble_eq_true rfl⟩ tw_ml_X6_154 tw_im_X6_allPeople tw_se_X6_allPeople tw_co_X6_allPeople tw_in_X6 hy_X6_allPeople rfl rfl rfl rfl rfl (Nat.le_of_ble_eq_true rfl) rfl dX6_count_89 [0] rfl (by decide) (fun _ => Nat.le_of_ble_eq_true rfl) ⟨Nat.le_of_ble_eq_true rfl, Nat.le_of_ble_eq_true rfl⟩ (fun v u hv => ?_)
      obtain ⟨r_9, rfl, h⟩ := hv
      refine gw_nf (ws' := (wfl [cM qa cI Mst Mhi Mhn Msl Msv Mpd Mln Mat Mit Mvf_3 Mdn_4 Mlf_5 Mar_6 Msa Msm Mso])) (lv' := [(0, .ref (qa 0)), (1, .int x1)]) (st' := [.int r_9]) (pc' := 92) (ce' := 0) (sl' := 0) rfl rfl rfl rfl rfl rfl ?_
      exact gw_iret κ dX6_count_92 (Mvf_3, Mdn_4, Mlf_5, Mar_6, Msa, Msm, Mso) rfl ⟨_, rfl, h⟩
    by_cases hc_7c_7 : x1 = 7
    · have h := hc_7_7 hc_7c_7
      refine gw_tableIn (tgt := 93) (off := 72) κ dX6_count_21 (by rw [hc_7c_7]; decide) (by rw [hc_7c_7]; decide) (by rw [hc_7c_7]; decide +kernel) (by decide) ?_
      refine gw_aload_n (pc' := 94) κ dX6_count_93 rfl 0 rfl rfl ?_
      refine gb_callV (ci := 6) (qb := 0) (rest := []) κ (c_X6_strandedRiders qa Mst Mhi Mhn Msl Msv Mpd Mln Mat Mit Mvf_3 Mdn_4 Mlf_5 Mar_6 Msa Msm Mso h) ⟨rfl, rfl, Nat.le_of_ble_eq_true rfl, Nat.le_of_ble_eq_true rfl⟩ tw_ml_X6_157 tw_im_X6_strandedRiders tw_se_X6_strandedRiders tw_co_X6_strandedRiders tw_in_X6 hy_X6_strandedRiders rfl rfl rfl rfl rfl (Nat.le_of_ble_eq_true rfl) rfl dX6_count_94 [0] rfl (by decide) (fun _ => Nat.le_of_ble_eq_true rfl) ⟨Nat.le_of_ble_eq_true rfl, Nat.le_of_ble_eq_true rfl⟩ (fun v u hv => ?_)
      obtain ⟨r_10, rfl, h⟩ := hv
      refine gw_nf (ws' := (wfl [cM qa cI Mst Mhi Mhn Msl Msv Mpd Mln Mat Mit Mvf_3 Mdn_4 Mlf_5 Mar_6 Msa Msm Mso])) (lv' := [(0, .ref (qa 0)), (1, .int x1)]) (st' := [.int r_10]) (pc' := 97) (ce' := 0) (sl' := 0) rfl rfl rfl rfl rfl rfl ?_
      exact gw_iret κ dX6_count_97 (Mvf_3, Mdn_4, Mlf_5, Mar_6, Msa, Msm, Mso) rfl ⟨_, rfl, h⟩
    by_cases hc_7c_8 : x1 = 8
    · have h := hc_7_8 hc_7c_8
      refine gw_tableIn (tgt := 98) (off := 77) κ dX6_count_21 (by rw [hc_7c_8]; decide) (by rw [hc_7c_8]; decide) (by rw [hc_7c_8]; decide +kernel) (by decide) ?_
      refine gw_aload_n (pc' := 99) κ dX6_count_98 rfl 0 rfl rfl ?_
      refine gb_callV (ci := 6) (qb := 0) (rest := []) κ (c_X6_strandedPeople qa Mst Mhi Mhn Msl Msv Mpd Mln Mat Mit Mvf_3 Mdn_4 Mlf_5 Mar_6 Msa Msm Mso h) ⟨rfl, rfl, Nat.le_of_ble_eq_true rfl, Nat.le_of_ble_eq_true rfl⟩ tw_ml_X6_116 tw_im_X6_strandedPeople tw_se_X6_strandedPeople tw_co_X6_strandedPeople tw_in_X6 hy_X6_strandedPeople rfl rfl rfl rfl rfl (Nat.le_of_ble_eq_true rfl) rfl dX6_count_99 [0] rfl (by decide) (fun _ => Nat.le_of_ble_eq_true rfl) ⟨Nat.le_of_ble_eq_true rfl, Nat.le_of_ble_eq_true rfl⟩ (fun v u hv => ?_)
      obtain ⟨r_11, rfl, h⟩ := hv
      refine gw_nf (ws' := (wfl [cM qa cI Mst Mhi Mhn Msl Msv Mpd Mln Mat Mit Mvf_3 Mdn_4 Mlf_5 Mar_6 Msa Msm Mso])) (lv' := [(0, .ref (qa 0)), (1, .int x1)]) (st' := [.int r_11]) (pc' := 102) (ce' := 0) (sl' := 0) rfl rfl rfl rfl rfl rfl ?_
      exact gw_iret κ dX6_count_102 (Mvf_3, Mdn_4, Mlf_5, Mar_6, Msa, Msm, Mso) rfl ⟨_, rfl, h⟩
    by_cases hc_7c_9 : x1 = 9
    · have h := hc_7_9 hc_7c_9
      refine gw_tableIn (tgt := 103) (off := 82) κ dX6_count_21 (by rw [hc_7c_9]; decide) (by rw [hc_7c_9]; decide) (by rw [hc_7c_9]; decide +kernel) (by decide) ?_
      refine gw_aload_n (pc' := 104) κ dX6_count_103 rfl 0 rfl rfl ?_
      refine gb_callV (ci := 6) (qb := 0) (rest := []) κ (c_X6_waiting qa Mst Mhi Mhn Msl Msv Mpd Mln Mat Mit Mvf_3 Mdn_4 Mlf_5 Mar_6 Msa Msm Mso h) ⟨rfl, rfl, Nat.le_of_ble_eq_true rfl, Nat.le_of_ble_eq_true rfl⟩ tw_ml_X6_160 tw_im_X6_waiting tw_se_X6_waiting tw_co_X6_waiting tw_in_X6 hy_X6_waiting rfl rfl rfl rfl rfl (Nat.le_of_ble_eq_true rfl) rfl dX6_count_104 [0] rfl (by decide) (fun _ => Nat.le_of_ble_eq_true rfl) ⟨Nat.le_of_ble_eq_true rfl, Nat.le_of_ble_eq_true rfl⟩ (fun v u hv => ?_)
      obtain ⟨r_12, rfl, h⟩ := hv
      refine gw_nf (ws' := (wfl [cM qa cI Mst Mhi Mhn Msl Msv Mpd Mln Mat Mit Mvf_3 Mdn_4 Mlf_5 Mar_6 Msa Msm Mso])) (lv' := [(0, .ref (qa 0)), (1, .int x1)]) (st' := [.int r_12]) (pc' := 107) (ce' := 0) (sl' := 0) rfl rfl rfl rfl rfl rfl ?_
      exact gw_iret κ dX6_count_107 (Mvf_3, Mdn_4, Mlf_5, Mar_6, Msa, Msm, Mso) rfl ⟨_, rfl, h⟩
    by_cases hc_7c_10 : x1 = 10
    · have h := hc_7_10 hc_7c_10
      refine gw_tableIn (tgt := 108) (off := 87) κ dX6_count_21 (by rw [hc_7c_10]; decide) (by rw [hc_7c_10]; decide) (by rw [hc_7c_10]; decide +kernel) (by decide) ?_
      refine gw_aload_n (pc' := 109) κ dX6_count_108 rfl 0 rfl rfl ?_
      refine gb_callV (ci := 6) (qb := 0) (rest := []) κ (c_X6_allFares qa Mst Mhi Mhn Msl Msv Mpd Mln Mat Mit Mvf_3 Mdn_4 Mlf_5 Mar_6 Msa Msm Mso h) ⟨rfl, rfl, Nat.le_of_ble_eq_true rfl, Nat.le_of_ble_eq_true rfl⟩ tw_ml_X6_163 tw_im_X6_allFares tw_se_X6_allFares tw_co_X6_allFares tw_in_X6 hy_X6_allFares rfl rfl rfl rfl rfl (Nat.le_of_ble_eq_true rfl) rfl dX6_count_109 [0] rfl (by decide) (fun _ => Nat.le_of_ble_eq_true rfl) ⟨Nat.le_of_ble_eq_true rfl, Nat.le_of_ble_eq_true rfl⟩ (fun v u hv => ?_)
      obtain ⟨r_13, rfl, h⟩ := hv
      refine gw_nf (ws' := (wfl [cM qa cI Mst Mhi Mhn Msl Msv Mpd Mln Mat Mit Mvf_3 Mdn_4 Mlf_5 Mar_6 Msa Msm Mso])) (lv' := [(0, .ref (qa 0)), (1, .int x1)]) (st' := [.int r_13]) (pc' := 112) (ce' := 0) (sl' := 0) rfl rfl rfl rfl rfl rfl ?_
      exact gw_iret κ dX6_count_112 (Mvf_3, Mdn_4, Mlf_5, Mar_6, Msa, Msm, Mso) rfl ⟨_, rfl, h⟩
    by_cases hc_7c_11 : x1 = 11
    · have h := hc_7_11 hc_7c_11
      refine gw_tableIn (tgt := 113) (off := 92) κ dX6_count_21 (by rw [hc_7c_11]; decide) (by rw [hc_7c_11]; decide) (by rw [hc_7c_11]; decide +kernel) (by decide) ?_
      refine gw_aload_n (pc' := 114) κ dX6_count_113 rfl 0 rfl rfl ?_
      refine gb_callV (ci := 6) (qb := 0) (rest := []) κ (c_X6_usedVans qa Mst Mhi Mhn Msl Msv Mpd Mln Mat Mit Mvf_3 Mdn_4 Mlf_5 Mar_6 Msa Msm Mso h) ⟨rfl, rfl, Nat.le_of_ble_eq_true rfl, Nat.le_of_ble_eq_true rfl⟩ tw_ml_X6_166 tw_im_X6_usedVans tw_se_X6_usedVans tw_co_X6_usedVans tw_in_X6 hy_X6_usedVans rfl rfl rfl rfl rfl (Nat.le_of_ble_eq_true rfl) rfl dX6_count_114 [0] rfl (by decide) (fun _ => Nat.le_of_ble_eq_true rfl) ⟨Nat.le_of_ble_eq_true rfl, Nat.le_of_ble_eq_true rfl⟩ (fun v u hv => ?_)
      obtain ⟨r_14, rfl, h⟩ := hv
      refine gw_nf (ws' := (wfl [cM qa cI Mst Mhi Mhn Msl Msv Mpd Mln Mat Mit Mvf_3 Mdn_4 Mlf_5 Mar_6 Msa Msm Mso])) (lv' := [(0, .ref (qa 0)), (1, .int x1)]) (st' := [.int r_14]) (pc' := 117) (ce' := 0) (sl' := 0) rfl rfl rfl rfl rfl rfl ?_
      exact gw_iret κ dX6_count_117 (Mvf_3, Mdn_4, Mlf_5, Mar_6, Msa, Msm, Mso) rfl ⟨_, rfl, h⟩
    by_cases hc_7c_12 : x1 = 12
    · have h := hc_7_12 hc_7c_12
      refine gw_tableIn (tgt := 118) (off := 97) κ dX6_count_21 (by rw [hc_7c_12]; decide) (by rw [hc_7c_12]; decide) (by rw [hc_7c_12]; decide +kernel) (by decide) ?_
      refine gw_aload_n (pc' := 119) κ dX6_count_118 rfl 0 rfl rfl ?_
      refine gb_callV (ci := 6) (qb := 0) (rest := []) κ (c_X6_allStops qa Mst Mhi Mhn Msl Msv Mpd Mln Mat Mit Mvf_3 Mdn_4 Mlf_5 Mar_6 Msa Msm Mso h) ⟨rfl, rfl, Nat.le_of_ble_eq_true rfl, Nat.le_of_ble_eq_true rfl⟩ tw_ml_X6_169 tw_im_X6_allStops tw_se_X6_allStops tw_co_X6_allStops tw_in_X6 hy_X6_allStops rfl rfl rfl rfl rfl (Nat.le_of_ble_eq_true rfl) rfl dX6_count_119 [0] rfl (by decide) (fun _ => Nat.le_of_ble_eq_true rfl) ⟨Nat.le_of_ble_eq_true rfl, Nat.le_of_ble_eq_true rfl⟩ (fun v u hv => ?_)
      obtain ⟨r_18, rfl, h⟩ := hv
      obtain ⟨Msa_15, Msm_16, Mso_17⟩ := u
      refine gw_nf (ws' := (wfl [cM qa cI Mst Mhi Mhn Msl Msv Mpd Mln Mat Mit Mvf_3 Mdn_4 Mlf_5 Mar_6 Msa_15 Msm_16 Mso_17])) (lv' := [(0, .ref (qa 0)), (1, .int x1)]) (st' := [.int r_18]) (pc' := 122) (ce' := 0) (sl' := 0) rfl rfl rfl rfl rfl rfl ?_
      exact gw_iret κ dX6_count_122 (Mvf_3, Mdn_4, Mlf_5, Mar_6, Msa_15, Msm_16, Mso_17) rfl ⟨_, rfl, h⟩
    by_cases hc_7c_13 : x1 = 13
    · have h := hc_7_13 hc_7c_13
      refine gw_tableIn (tgt := 123) (off := 102) κ dX6_count_21 (by rw [hc_7c_13]; decide) (by rw [hc_7c_13]; decide) (by rw [hc_7c_13]; decide +kernel) (by decide) ?_
      refine gw_aload_n (pc' := 124) κ dX6_count_123 rfl 0 rfl rfl ?_
      refine gb_callV (ci := 6) (qb := 0) (rest := []) κ (c_X6_lastMinute qa Mst Mhi Mhn Msl Msv Mpd Mln Mat Mit Mvf_3 Mdn_4 Mlf_5 Mar_6 Msa Msm Mso h) ⟨rfl, rfl, Nat.le_of_ble_eq_true rfl, Nat.le_of_ble_eq_true rfl⟩ tw_ml_X6_172 tw_im_X6_lastMinute tw_se_X6_lastMinute tw_co_X6_lastMinute tw_in_X6 hy_X6_lastMinute rfl rfl rfl rfl rfl (Nat.le_of_ble_eq_true rfl) rfl dX6_count_124 [0] rfl (by decide) (fun _ => Nat.le_of_ble_eq_true rfl) ⟨Nat.le_of_ble_eq_true rfl, Nat.le_of_ble_eq_true rfl⟩ (fun v u hv => ?_)
      obtain ⟨r_22, rfl, h⟩ := hv
      obtain ⟨Msa_19, Msm_20, Mso_21⟩ := u
      refine gw_nf (ws' := (wfl [cM qa cI Mst Mhi Mhn Msl Msv Mpd Mln Mat Mit Mvf_3 Mdn_4 Mlf_5 Mar_6 Msa_19 Msm_20 Mso_21])) (lv' := [(0, .ref (qa 0)), (1, .int x1)]) (st' := [.int r_22]) (pc' := 127) (ce' := 0) (sl' := 0) rfl rfl rfl rfl rfl rfl ?_
      exact gw_iret κ dX6_count_127 (Mvf_3, Mdn_4, Mlf_5, Mar_6, Msa_19, Msm_20, Mso_21) rfl ⟨_, rfl, h⟩
    by_cases hc_7c_14 : x1 = 14
    · have h := hc_7_14 hc_7c_14
      refine gw_tableIn (tgt := 128) (off := 107) κ dX6_count_21 (by rw [hc_7c_14]; decide) (by rw [hc_7c_14]; decide) (by rw [hc_7c_14]; decide +kernel) (by decide) ?_
      refine gw_aload_n (pc' := 129) κ dX6_count_128 rfl 0 rfl rfl ?_
      refine gb_get (pc' := 132) (C := RX6) (T := TX6) (N := 16) κ dX6_count_129 rfl inX6 0 rfl rfl rfl 6 (by decide) tw_fl_X6_175 rfl ?_
      exact gw_iret κ dX6_count_132 (Mvf_3, Mdn_4, Mlf_5, Mar_6, Msa, Msm, Mso) rfl ⟨_, rfl, h⟩
    by_cases hc_7c_15 : x1 = 15
    · have h := hc_7_15 hc_7c_15
      refine gw_tableIn (tgt := 133) (off := 112) κ dX6_count_21 (by rw [hc_7c_15]; decide) (by rw [hc_7c_15]; decide) (by rw [hc_7c_15]; decide +kernel) (by decide) ?_
      refine gw_aload_n (pc' := 134) κ dX6_count_133 rfl 0 rfl rfl ?_
      refine gb_get (pc' := 137) (C := RX6) (T := TX6) (N := 16) κ dX6_count_134 rfl inX6 0 rfl rfl rfl 2 (by decide) tw_fl_X6_50 rfl ?_
      exact gw_iret κ dX6_count_137 (Mvf_3, Mdn_4, Mlf_5, Mar_6, Msa, Msm, Mso) rfl ⟨_, rfl, h⟩
    have h := hc_7d ⟨hc_7c_5, hc_7c_6, hc_7c_7, hc_7c_8, hc_7c_9, hc_7c_10, hc_7c_11, hc_7c_12, hc_7c_13, hc_7c_14, hc_7c_15⟩
    refine gw_tableOut (tgt := 138) κ dX6_count_21 (sw_out2 (x := x1) (lo := 5) (hi := 15) (by decide) (fun k h1 h2 => by rcases (show k = 5 ∨ k = 6 ∨ k = 7 ∨ k = 8 ∨ k = 9 ∨ k = 10 ∨ k = 11 ∨ k = 12 ∨ k = 13 ∨ k = 14 ∨ k = 15 by omega) with rfl | rfl | rfl | rfl | rfl | rfl | rfl | rfl | rfl | rfl | rfl <;> assumption)) (by decide) ?_
    refine gw_bipush (pc' := 140) (v := -102) κ dX6_count_138 rfl (by decide) ?_
    exact gw_iret κ dX6_count_140 (Mvf_3, Mdn_4, Mlf_5, Mar_6, Msa, Msm, Mso) rfl ⟨_, rfl, h⟩
  · have h := h.2 hc_2
    refine gw_aload_n (pc' := 10) κ dX6_count_9 rfl 0 rfl rfl ?_
    refine gb_get (pc' := 13) (C := RX6) (T := TX6) (N := 16) κ dX6_count_10 rfl inX6 0 rfl rfl rfl 0 (by decide) tw_fl_X6_7 rfl ?_
    refine gw_iload_n (pc' := 14) κ dX6_count_13 rfl 1 rfl rfl ?_
    obtain ⟨hb_23, h⟩ := h
    refine gb_iald (pc' := 15) κ dX6_count_14 rfl 0 1 rfl rfl hb_23 ?_
    exact gw_iret κ dX6_count_15 (Mvf, Mdn, Mlf, Mar, Msa, Msm, Mso) rfl ⟨_, rfl, h⟩
theorem hy_X6_kerb : g_hy yX6_kerb 1 := by decide +kernel
set_option maxHeartbeats 4000000 in
set_option maxRecDepth 100000 in
theorem k_X6_kerb_95 {zp : Program} {l : Launch} {ze : Env} {zs : State} {zm : MethodId} {za : Array Value} {zb : List Frame} {zt : Method} {zc : Code} {D : va_G} {cI cR : ClassId} {A : Nat → Prop} (κ : KC zp zs zm za zt zc cX6_kerb 7 RX6 D cI cR A (some .int)) (qa : Nat → Nat) (P : Int32 → (Nat → Int32) → (Nat → Int32) → (Nat → Int32) → (Nat → Int32) → Prop) (Mst : Nat → Int32) (Mhi : Nat → Int32) (Mhn : Int32) (Msl : Nat → Int32) (Msv : Nat → Int32) (Mpd : Nat → Int32) (Mln : Int32) (Mat : Int32) (Mit : Nat → Int32) (Msa : Nat → Int32) (Msm : Nat → Int32) (Mso : Int32) (x1 : Int32) (r22 : Int32 → Int32 → Prop) (v2 : Int32) (v3 : Int32) (w0 : Int32) (Mvf : Nat → Int32) (Mdn : Nat → Int32) (Mlf : Nat → Int32) (Mar : Nat → Int32) (hr22 : ∀ (v2 : Int32) (v3 : Int32), r22 v2 v3 → GM zp l ze ({ frames := 5, cells := 0, slots := 0, locals := 113 } : Room) zs zm za zb zt zc D A 7 (pI (fun (r : Int32) (u : (Nat → Int32) × (Nat → Int32) × (Nat → Int32) × (Nat → Int32)) => P r u.1 u.2.1 u.2.2.1 u.2.2.2)) (fun u : (Nat → Int32) × (Nat → Int32) × (Nat → Int32) × (Nat → Int32) => (wfl [cM qa cI Mst Mhi Mhn Msl Msv Mpd Mln Mat Mit u.1 u.2.1 u.2.2.1 u.2.2.2 Msa Msm Mso])) 0 0 0 0 (wfl [cM qa cI Mst Mhi Mhn Msl Msv Mpd Mln Mat Mit Mvf Mdn Mlf Mar Msa Msm Mso]) [(0, .ref (qa 0)), (1, .int x1), (2, .int v2), (3, .int v3)] 22 []) (h : wp_X6_kerb_95 P Mst x1 r22 v2 v3 w0 Mvf Mdn Mlf Mar) : GM zp l ze ({ frames := 5, cells := 0, slots := 0, locals := 113 } : Room) zs zm za zb zt zc D A 7 (pI (fun (r : Int32) (u : (Nat → Int32) × (Nat → Int32) × (Nat → Int32) × (Nat → Int32)) => P r u.1 u.2.1 u.2.2.1 u.2.2.2)) (fun u : (Nat → Int32) × (Nat → Int32) × (Nat → Int32) × (Nat → Int32) => (wfl [cM qa cI Mst Mhi Mhn Msl Msv Mpd Mln Mat Mit u.1 u.2.1 u.2.2.1 u.2.2.2 Msa Msm Mso])) 0 0 0 0 (wfl [cM qa cI Mst Mhi Mhn Msl Msv Mpd Mln Mat Mit Mvf Mdn Mlf Mar Msa Msm Mso]) [(0, .ref (qa 0)), (1, .int x1), (2, .int v2), (3, .int v3)] 95 [.int w0] := by
  unfold wp_X6_kerb_95 at h
  refine gw_istore (pc' := 97) κ dX6_kerb_95 rfl (by decide) (lv' := [(6, .int w0), (0, .ref (qa 0)), (1, .int x1), (2, .int v2), (3, .int v3)]) rfl ?_
  refine gw_iload_n (pc' := 98) κ dX6_kerb_97 rfl 3 rfl rfl ?_
  refine gw_iload (pc' := 100) κ dX6_kerb_98 rfl 0 rfl ?_
  refine gw_if_eq (pc' := 103) (tgt := 112) κ dX6_kerb_100 rfl (by decide) (fun hc_17 => ?_) (fun hc_17 => ?_)
  · have h := h.1 hc_17
    refine gw_iconst (pc' := 113) (v := 0) κ dX6_kerb_112 rfl (by decide) ?_
    refine gw_iadd (pc' := 114) κ dX6_kerb_113 rfl  ?_
    refine gw_istore_n (pc' := 115) κ dX6_kerb_114 rfl rfl (by decide) (lv' := [(2, .int (v2 + (0 : Int32))), (6, .int w0), (0, .ref (qa 0)), (1, .int x1), (3, .int v3)]) rfl ?_
    refine gw_iinc (pc' := 118) κ dX6_kerb_115 rfl 4 rfl (v := (v3 + 1)) rfl (by decide) (lv' := [(3, .int (v3 + 1)), (2, .int (v2 + (0 : Int32))), (6, .int w0), (0, .ref (qa 0)), (1, .int x1)]) rfl ?_
    refine gw_goto (tgt := 22) κ dX6_kerb_118 (by decide) ?_
    refine gw_lv (lv' := [(0, .ref (qa 0)), (1, .int x1), (2, .int (v2 + (0 : Int32))), (3, .int (v3 + 1))]) [3, 4, 1, 0] rfl ?_
    exact hr22 (v2 + (0 : Int32)) (v3 + 1) h
  · have h := h.2 hc_17
    refine gw_aload_n (pc' := 104) κ dX6_kerb_103 rfl 1 rfl rfl ?_
    refine gw_iload_n (pc' := 105) κ dX6_kerb_104 rfl 4 rfl rfl ?_
    refine gw_iconst (pc' := 106) (v := 3) κ dX6_kerb_105 rfl (by decide) ?_
    refine gb_callV (ci := 6) (qb := 0) (rest := [.int v2]) κ (c_X6_of qa Mst Mhi Mhn Msl Msv Mpd Mln Mat Mit Mvf Mdn Mlf Mar Msa Msm Mso v3 (3 : Int32) h) ⟨rfl, rfl, Nat.le_of_ble_eq_true rfl, Nat.le_of_ble_eq_true rfl⟩ tw_ml_X6_57 tw_im_X6_of tw_se_X6_of tw_co_X6_of tw_in_X6 hy_X6_of rfl rfl rfl rfl rfl (Nat.le_of_ble_eq_true rfl) rfl dX6_kerb_106 [0] rfl (by decide) (fun _ => Nat.le_of_ble_eq_true rfl) ⟨Nat.le_of_ble_eq_true rfl, Nat.le_of_ble_eq_true rfl⟩ (fun v u hv => ?_)
    obtain ⟨r_18, rfl, h⟩ := hv
    refine gw_nf (ws' := (wfl [cM qa cI Mst Mhi Mhn Msl Msv Mpd Mln Mat Mit Mvf Mdn Mlf Mar Msa Msm Mso])) (lv' := [(6, .int w0), (0, .ref (qa 0)), (1, .int x1), (2, .int v2), (3, .int v3)]) (st' := [.int r_18, .int v2]) (pc' := 109) (ce' := 0) (sl' := 0) rfl rfl rfl rfl rfl rfl ?_
    refine gw_goto (tgt := 113) κ dX6_kerb_109 (by decide) ?_
    refine gw_iadd (pc' := 114) κ dX6_kerb_113 rfl  ?_
    refine gw_istore_n (pc' := 115) κ dX6_kerb_114 rfl rfl (by decide) (lv' := [(2, .int (v2 + r_18)), (6, .int w0), (0, .ref (qa 0)), (1, .int x1), (3, .int v3)]) rfl ?_
    refine gw_iinc (pc' := 118) κ dX6_kerb_115 rfl 4 rfl (v := (v3 + 1)) rfl (by decide) (lv' := [(3, .int (v3 + 1)), (2, .int (v2 + r_18)), (6, .int w0), (0, .ref (qa 0)), (1, .int x1)]) rfl ?_
    refine gw_goto (tgt := 22) κ dX6_kerb_118 (by decide) ?_
    refine gw_lv (lv' := [(0, .ref (qa 0)), (1, .int x1), (2, .int (v2 + r_18)), (3, .int (v3 + 1))]) [3, 4, 1, 0] rfl ?_
    exact hr22 (v2 + r_18) (v3 + 1) h
set_option maxHeartbeats 4000000 in
set_option maxRecDepth 100000 in
theorem k_X6_kerb_22 {zp : Program} {l : Launch} {ze : Env} {zs : State} {zm : MethodId} {za : Array Value} {zb : List Frame} {zt : Method} {zc : Code} {D : va_G} {cI cR : ClassId} {A : Nat → Prop} (κ : KC zp zs zm za zt zc cX6_kerb 7 RX6 D cI cR A (some .int)) (qa : Nat → Nat) (P : Int32 → (Nat → Int32) → (Nat → Int32) → (Nat → Int32) → (Nat → Int32) → Prop) (Mst : Nat → Int32) (Mhi : Nat → Int32) (Mhn : Int32) (Msl : Nat → Int32) (Msv : Nat → Int32) (Mpd : Nat → Int32) (Mln : Int32) (Mat : Int32) (Mit : Nat → Int32) (Msa : Nat → Int32) (Msm : Nat → Int32) (Mso : Int32) (x1 : Int32) (Mvf : Nat → Int32) (Mdn : Nat → Int32) (Mlf : Nat → Int32) (Mar : Nat → Int32) : ∀ (n : Nat) (v2 : Int32) (v3 : Int32), wp_X6_kerb_22 P Mst x1 Mvf Mdn Mlf Mar n v2 v3 → GM zp l ze ({ frames := 5, cells := 0, slots := 0, locals := 113 } : Room) zs zm za zb zt zc D A 7 (pI (fun (r : Int32) (u : (Nat → Int32) × (Nat → Int32) × (Nat → Int32) × (Nat → Int32)) => P r u.1 u.2.1 u.2.2.1 u.2.2.2)) (fun u : (Nat → Int32) × (Nat → Int32) × (Nat → Int32) × (Nat → Int32) => (wfl [cM qa cI Mst Mhi Mhn Msl Msv Mpd Mln Mat Mit u.1 u.2.1 u.2.2.1 u.2.2.2 Msa Msm Mso])) 0 0 0 0 (wfl [cM qa cI Mst Mhi Mhn Msl Msv Mpd Mln Mat Mit Mvf Mdn Mlf Mar Msa Msm Mso]) [(0, .ref (qa 0)), (1, .int x1), (2, .int v2), (3, .int v3)] 22 [] := by
  intro n22
  induction n22 with
  | zero => intro v2 v3 h; exact (show False from h).elim
  | succ n22 ih22 =>
    intro v2 v3 h
    have h : wp_X6_kerb_22F P Mst x1 Mvf Mdn Mlf Mar (wp_X6_kerb_22 P Mst x1 Mvf Mdn Mlf Mar n22) v2 v3 := h
    unfold wp_X6_kerb_22F at h
    refine gw_iload_n (pc' := 23) κ dX6_kerb_22 rfl 3 rfl rfl ?_
    refine gw_aload_n (pc' := 24) κ dX6_kerb_23 rfl 0 rfl rfl ?_
    refine gb_get (pc' := 27) (C := RX6) (T := TX6) (N := 16) κ dX6_kerb_24 rfl inX6 0 rfl rfl rfl 0 (by decide) tw_fl_X6_7 rfl ?_
    refine gw_bipush (pc' := 29) (v := 33) κ dX6_kerb_27 rfl (by decide) ?_
    refine gb_iald (pc' := 30) κ dX6_kerb_29 rfl 0 1 rfl rfl (by unfold vp_in; decide) ?_
    refine gw_icmp_ge (pc' := 33) (tgt := 121) κ dX6_kerb_30 rfl (by decide) (fun hc_8 => ?_) (fun hc_8 => ?_)
    · have h := h.1 hc_8
      refine gw_iload_n (pc' := 122) κ dX6_kerb_121 rfl 2 rfl rfl ?_
      exact gw_iret κ dX6_kerb_122 (Mvf, Mdn, Mlf, Mar) rfl ⟨_, rfl, h⟩
    · have h := h.2 hc_8
      refine gw_iload_n (pc' := 34) κ dX6_kerb_33 rfl 1 rfl rfl ?_
      refine gw_aload_n (pc' := 35) κ dX6_kerb_34 rfl 0 rfl rfl ?_
      refine gw_iload_n (pc' := 36) κ dX6_kerb_35 rfl 3 rfl rfl ?_
      refine gb_callV (ci := 6) (qb := 0) (rest := [.int x1]) κ (c_X6_ready qa Mst Mhi Mhn Msl Msv Mpd Mln Mat Mit Mvf Mdn Mlf Mar Msa Msm Mso v3 h) ⟨rfl, rfl, Nat.le_of_ble_eq_true rfl, Nat.le_of_ble_eq_true rfl⟩ tw_ml_X6_65 tw_im_X6_ready tw_se_X6_ready tw_co_X6_ready tw_in_X6 hy_X6_ready rfl rfl rfl rfl rfl (Nat.le_of_ble_eq_true rfl) rfl dX6_kerb_36 [0] rfl (by decide) (fun _ => Nat.le_of_ble_eq_true rfl) ⟨Nat.le_of_ble_eq_true rfl, Nat.le_of_ble_eq_true rfl⟩ (fun v u hv => ?_)
      obtain ⟨r_9, rfl, h⟩ := hv
      refine gw_nf (ws' := (wfl [cM qa cI Mst Mhi Mhn Msl Msv Mpd Mln Mat Mit Mvf Mdn Mlf Mar Msa Msm Mso])) (lv' := [(0, .ref (qa 0)), (1, .int x1), (2, .int v2), (3, .int v3)]) (st' := [.int r_9, .int x1]) (pc' := 39) (ce' := 0) (sl' := 0) rfl rfl rfl rfl rfl rfl ?_
      refine gw_isub (pc' := 40) κ dX6_kerb_39 rfl  ?_
      refine gw_istore (pc' := 42) κ dX6_kerb_40 rfl (by decide) (lv' := [(4, .int (x1 - r_9)), (0, .ref (qa 0)), (1, .int x1), (2, .int v2), (3, .int v3)]) rfl ?_
      refine gw_aload_n (pc' := 43) κ dX6_kerb_42 rfl 1 rfl rfl ?_
      refine gb_get (pc' := 46) (C := RX6) (T := TX6) (N := 16) κ dX6_kerb_43 rfl inX6 0 rfl rfl rfl 9 (by decide) tw_fl_X6_28 rfl ?_
      refine gw_iload_n (pc' := 47) κ dX6_kerb_46 rfl 4 rfl rfl ?_
      obtain ⟨hb_10, h⟩ := h
      refine gb_iald (pc' := 48) κ dX6_kerb_47 rfl 0 7 rfl rfl hb_10 ?_
      refine gw_istore (pc' := 50) κ dX6_kerb_48 rfl (by decide) (lv' := [(5, .int (Mvf v3.toNatClampNeg)), (4, .int (x1 - r_9)), (0, .ref (qa 0)), (1, .int x1), (2, .int v2), (3, .int v3)]) rfl ?_
      refine gw_iload (pc' := 52) κ dX6_kerb_50 rfl 1 rfl ?_
      refine gw_if_lt (pc' := 55) (tgt := 94) κ dX6_kerb_52 rfl (by decide) (fun hc_11 => ?_) (fun hc_11 => ?_)
      · have h := h.1 hc_11
        refine gw_iconst (pc' := 95) (v := 0) κ dX6_kerb_94 rfl (by decide) ?_
        refine gw_lv (lv' := [(0, .ref (qa 0)), (1, .int x1), (2, .int v2), (3, .int v3)]) [2, 3, 4, 5] rfl ?_
        exact k_X6_kerb_95 κ qa P Mst Mhi Mhn Msl Msv Mpd Mln Mat Mit Msa Msm Mso x1 (wp_X6_kerb_22 P Mst x1 Mvf Mdn Mlf Mar n22) v2 v3 (0 : Int32) Mvf Mdn Mlf Mar ih22 h
      · have h := h.2 hc_11
        refine gw_iload (pc' := 57) κ dX6_kerb_55 rfl 0 rfl ?_
        refine gw_bipush (pc' := 59) (v := -106) κ dX6_kerb_57 rfl (by decide) ?_
        refine gw_icmp_ne (pc' := 62) (tgt := 76) κ dX6_kerb_59 rfl (by decide) (fun hc_12 => ?_) (fun hc_12 => ?_)
        · have h := h.1 hc_12
          refine gw_aload_n (pc' := 77) κ dX6_kerb_76 rfl 2 rfl rfl ?_
          refine gb_get (pc' := 80) (C := RX6) (T := TX6) (N := 16) κ dX6_kerb_77 rfl inX6 0 rfl rfl rfl 0 (by decide) tw_fl_X6_7 rfl ?_
          refine gw_bipush (pc' := 82) (v := 17) κ dX6_kerb_80 rfl (by decide) ?_
          refine gw_iload (pc' := 84) κ dX6_kerb_82 rfl 0 rfl ?_
          refine gw_iadd (pc' := 85) κ dX6_kerb_84 rfl  ?_
          obtain ⟨hb_13, h⟩ := h
          refine gb_iald (pc' := 86) κ dX6_kerb_85 rfl 0 1 rfl rfl hb_13 ?_
          refine gw_iload_n (pc' := 87) κ dX6_kerb_86 rfl 3 rfl rfl ?_
          refine gw_icmp_le (pc' := 90) (tgt := 94) κ dX6_kerb_87 rfl (by decide) (fun hc_14 => ?_) (fun hc_14 => ?_)
          · have h := h.1 hc_14
            refine gw_iconst (pc' := 95) (v := 0) κ dX6_kerb_94 rfl (by decide) ?_
            refine gw_lv (lv' := [(0, .ref (qa 0)), (1, .int x1), (2, .int v2), (3, .int v3)]) [2, 3, 4, 5] rfl ?_
            exact k_X6_kerb_95 κ qa P Mst Mhi Mhn Msl Msv Mpd Mln Mat Mit Msa Msm Mso x1 (wp_X6_kerb_22 P Mst x1 Mvf Mdn Mlf Mar n22) v2 v3 (0 : Int32) Mvf Mdn Mlf Mar ih22 h
          · have h := h.2 hc_14
            refine gw_iconst (pc' := 91) (v := 1) κ dX6_kerb_90 rfl (by decide) ?_
            refine gw_goto (tgt := 95) κ dX6_kerb_91 (by decide) ?_
            refine gw_lv (lv' := [(0, .ref (qa 0)), (1, .int x1), (2, .int v2), (3, .int v3)]) [2, 3, 4, 5] rfl ?_
            exact k_X6_kerb_95 κ qa P Mst Mhi Mhn Msl Msv Mpd Mln Mat Mit Msa Msm Mso x1 (wp_X6_kerb_22 P Mst x1 Mvf Mdn Mlf Mar n22) v2 v3 (1 : Int32) Mvf Mdn Mlf Mar ih22 h
        · have h := h.2 hc_12
          refine gw_iload (pc' := 64) κ dX6_kerb_62 rfl 1 rfl ?_
          refine gw_aload_n (pc' := 65) κ dX6_kerb_64 rfl 2 rfl rfl ?_
          refine gb_get (pc' := 68) (C := RX6) (T := TX6) (N := 16) κ dX6_kerb_65 rfl inX6 0 rfl rfl rfl 0 (by decide) tw_fl_X6_7 rfl ?_
          refine gw_iconst (pc' := 69) (v := 1) κ dX6_kerb_68 rfl (by decide) ?_
          refine gb_iald (pc' := 70) κ dX6_kerb_69 rfl 0 1 rfl rfl (by unfold vp_in; decide) ?_
          refine gw_icmp_gt (pc' := 73) (tgt := 94) κ dX6_kerb_70 rfl (by decide) (fun hc_16 => ?_) (fun hc_16 => ?_)
          · have h := h.1 hc_16
            refine gw_iconst (pc' := 95) (v := 0) κ dX6_kerb_94 rfl (by decide) ?_
            refine gw_lv (lv' := [(0, .ref (qa 0)), (1, .int x1), (2, .int v2), (3, .int v3)]) [2, 3, 4, 5] rfl ?_
            exact k_X6_kerb_95 κ qa P Mst Mhi Mhn Msl Msv Mpd Mln Mat Mit Msa Msm Mso x1 (wp_X6_kerb_22 P Mst x1 Mvf Mdn Mlf Mar n22) v2 v3 (0 : Int32) Mvf Mdn Mlf Mar ih22 h
          · have h := h.2 hc_16
            refine gw_goto (tgt := 90) κ dX6_kerb_73 (by decide) ?_
            refine gw_iconst (pc' := 91) (v := 1) κ dX6_kerb_90 rfl (by decide) ?_
            refine gw_goto (tgt := 95) κ dX6_kerb_91 (by decide) ?_
            refine gw_lv (lv' := [(0, .ref (qa 0)), (1, .int x1), (2, .int v2), (3, .int v3)]) [2, 3, 4, 5] rfl ?_
            exact k_X6_kerb_95 κ qa P Mst Mhi Mhn Msl Msv Mpd Mln Mat Mit Msa Msm Mso x1 (wp_X6_kerb_22 P Mst x1 Mvf Mdn Mlf Mar n22) v2 v3 (1 : Int32) Mvf Mdn Mlf Mar ih22 h
set_option maxHeartbeats 4000000 in
set_option maxRecDepth 100000 in
theorem c_X6_kerb {l : Launch} {D : va_G} {cI cR : ClassId}  (qa : Nat → Nat) {P : Int32 → (Nat → Int32) → (Nat → Int32) → (Nat → Int32) → (Nat → Int32) → Prop} (Mst : Nat → Int32) (Mhi : Nat → Int32) (Mhn : Int32) (Msl : Nat → Int32) (Msv : Nat → Int32) (Mpd : Nat → Int32) (Mln : Int32) (Mat : Int32) (Mit : Nat → Int32) (Mvf : Nat → Int32) (Mdn : Nat → Int32) (Mlf : Nat → Int32) (Mar : Nat → Int32) (Msa : Nat → Int32) (Msm : Nat → Int32) (Mso : Int32) (x1 : Int32) (h : wp_X6_kerb P Mst Mvf Mdn Mlf Mar x1) : CT l D cI cR yX6_kerb cX6_kerb 7 (some .int) ({ frames := 5, cells := 0, slots := 0, locals := 113 } : Room) [.ref (qa 0), .int x1] (wfl [cM qa cI Mst Mhi Mhn Msl Msv Mpd Mln Mat Mit Mvf Mdn Mlf Mar Msa Msm Mso]) (fun u : (Nat → Int32) × (Nat → Int32) × (Nat → Int32) × (Nat → Int32) => (wfl [cM qa cI Mst Mhi Mhn Msl Msv Mpd Mln Mat Mit u.1 u.2.1 u.2.2.1 u.2.2.2 Msa Msm Mso])) (pI (fun (r : Int32) (u : (Nat → Int32) × (Nat → Int32) × (Nat → Int32) × (Nat → Int32)) => P r u.1 u.2.1 u.2.2.1 u.2.2.2)) 0 0 := by
  refine ct_of RX6 rfl (by decide +kernel) (Nat.le_of_ble_eq_true rfl) (fun zp ze zs zm zb zt zc A hin κ => ?_)
  unfold wp_X6_kerb at h
  refine gw_nf (lv' := [(0, .ref (qa 0)), (1, .int x1)]) (pc' := 0) (st' := []) (ce' := 0) (sl' := 0) rfl rfl rfl rfl rfl rfl ?_
  refine gw_iload_n (pc' := 1) κ dX6_kerb_0 rfl 1 rfl rfl ?_
  refine gw_iconst (pc' := 2) (v := 0) κ dX6_kerb_1 rfl (by decide) ?_
  refine gw_sipush (pc' := 5) (v := 3000) κ dX6_kerb_2 rfl (by decide) ?_
  refine gb_callS (rest := []) κ (c_X6_within  x1 (0 : Int32) (3000 : Int32) h) ⟨rfl, rfl, Nat.le_of_ble_eq_true rfl, Nat.le_of_ble_eq_true rfl⟩ tw_ml_X6_46 tw_st_X6_within tw_co_X6_within tw_in_X6 hy_X6_within rfl (Nat.le_of_ble_eq_true rfl) rfl dX6_kerb_5 [] rfl (by decide) (fun _ => Nat.le_of_ble_eq_true rfl) ⟨Nat.le_of_ble_eq_true rfl, Nat.le_of_ble_eq_true rfl⟩ (fun v u hv => ?_)
  obtain ⟨r_1, rfl, h⟩ := hv
  refine gw_nf (ws' := (wfl [cM qa cI Mst Mhi Mhn Msl Msv Mpd Mln Mat Mit Mvf Mdn Mlf Mar Msa Msm Mso])) (lv' := [(0, .ref (qa 0)), (1, .int x1)]) (st' := [.int r_1]) (pc' := 8) (ce' := 0) (sl' := 0) rfl rfl rfl rfl rfl rfl ?_
  refine gw_if_ne (pc' := 11) (tgt := 14) κ dX6_kerb_8 rfl (by decide) (fun hc_2 => ?_) (fun hc_2 => ?_)
  · have h := h.1 hc_2
    refine gw_aload_n (pc' := 15) κ dX6_kerb_14 rfl 0 rfl rfl ?_
    refine gb_callV (ci := 6) (qb := 0) (rest := []) κ (c_X6_lay qa Mst Mhi Mhn Msl Msv Mpd Mln Mat Mit Mvf Mdn Mlf Mar Msa Msm Mso h) ⟨rfl, rfl, Nat.le_of_ble_eq_true rfl, Nat.le_of_ble_eq_true rfl⟩ tw_ml_X6_113 tw_im_X6_lay tw_se_X6_lay tw_co_X6_lay tw_in_X6 hy_X6_lay rfl rfl rfl rfl rfl (Nat.le_of_ble_eq_true rfl) rfl dX6_kerb_15 [0] rfl (by decide) (fun _ => Nat.le_of_ble_eq_true rfl) ⟨Nat.le_of_ble_eq_true rfl, Nat.le_of_ble_eq_true rfl⟩ (fun v u hv => ?_)
    obtain ⟨rfl, h⟩ := hv
    obtain ⟨Mvf_3, Mdn_4, Mlf_5, Mar_6⟩ := u
    refine gw_nf (ws' := (wfl [cM qa cI Mst Mhi Mhn Msl Msv Mpd Mln Mat Mit Mvf_3 Mdn_4 Mlf_5 Mar_6 Msa Msm Mso])) (lv' := [(0, .ref (qa 0)), (1, .int x1)]) (st' := []) (pc' := 18) (ce' := 0) (sl' := 0) rfl rfl rfl rfl rfl rfl ?_
    refine gw_iconst (pc' := 19) (v := 0) κ dX6_kerb_18 rfl (by decide) ?_
    refine gw_istore_n (pc' := 20) κ dX6_kerb_19 rfl rfl (by decide) (lv' := [(2, .int (0 : Int32)), (0, .ref (qa 0)), (1, .int x1)]) rfl ?_
    refine gw_iconst (pc' := 21) (v := 0) κ dX6_kerb_20 rfl (by decide) ?_
    refine gw_istore_n (pc' := 22) κ dX6_kerb_21 rfl rfl (by decide) (lv' := [(3, .int (0 : Int32)), (2, .int (0 : Int32)), (0, .ref (qa 0)), (1, .int x1)]) rfl ?_
    obtain ⟨m22, h⟩ := h
    refine gw_lv (lv' := [(0, .ref (qa 0)), (1, .int x1), (2, .int (0 : Int32)), (3, .int (0 : Int32))]) [2, 3, 1, 0] rfl ?_
    exact k_X6_kerb_22 κ qa P Mst Mhi Mhn Msl Msv Mpd Mln Mat Mit Msa Msm Mso x1 Mvf_3 Mdn_4 Mlf_5 Mar_6 m22 (0 : Int32) (0 : Int32) h
  · have h := h.2 hc_2
    refine gw_bipush (pc' := 13) (v := -102) κ dX6_kerb_11 rfl (by decide) ?_
    exact gw_iret κ dX6_kerb_13 (Mvf, Mdn, Mlf, Mar) rfl ⟨_, rfl, h⟩
theorem hy_X6_ifDelayed : g_hy yX6_ifDelayed 3 := by decide +kernel
set_option maxHeartbeats 4000000 in
set_option maxRecDepth 100000 in
theorem k_X6_ifDelayed_86 {zp : Program} {l : Launch} {ze : Env} {zs : State} {zm : MethodId} {za : Array Value} {zb : List Frame} {zt : Method} {zc : Code} {D : va_G} {cI cR : ClassId} {A : Nat → Prop} (κ : KC zp zs zm za zt zc cX6_ifDelayed 6 RX6 D cI cR A (some .int)) (qa : Nat → Nat) (P : Int32 → (Nat → Int32) → (Nat → Int32) → (Nat → Int32) → (Nat → Int32) → (Nat → Int32) → (Nat → Int32) → (Nat → Int32) → Int32 → Prop) (Mhi : Nat → Int32) (Mhn : Int32) (Msl : Nat → Int32) (Msv : Nat → Int32) (Mpd : Nat → Int32) (Mln : Int32) (Mat : Int32) (Mit : Nat → Int32) (x1 : Int32) (x2 : Int32) (x3 : Int32) (v4 : Int32) (w0 : Int32) (Mst : Nat → Int32) (Mvf : Nat → Int32) (Mdn : Nat → Int32) (Mlf : Nat → Int32) (Mar : Nat → Int32) (Msa : Nat → Int32) (Msm : Nat → Int32) (Mso : Int32) (h : wp_X6_ifDelayed_86 P x1 x2 x3 v4 w0 Mst Mvf Mdn Mlf Mar Msa Msm Mso) : GM zp l ze ({ frames := 5, cells := 0, slots := 0, locals := 113 } : Room) zs zm za zb zt zc D A 6 (pI (fun (r : Int32) (u : (Nat → Int32) × (Nat → Int32) × (Nat → Int32) × (Nat → Int32) × (Nat → Int32) × (Nat → Int32) × (Nat → Int32) × Int32) => P r u.1 u.2.1 u.2.2.1 u.2.2.2.1 u.2.2.2.2.1 u.2.2.2.2.2.1 u.2.2.2.2.2.2.1 u.2.2.2.2.2.2.2)) (fun u : (Nat → Int32) × (Nat → Int32) × (Nat → Int32) × (Nat → Int32) × (Nat → Int32) × (Nat → Int32) × (Nat → Int32) × Int32 => (wfl [cM qa cI u.1 Mhi Mhn Msl Msv Mpd Mln Mat Mit u.2.1 u.2.2.1 u.2.2.2.1 u.2.2.2.2.1 u.2.2.2.2.2.1 u.2.2.2.2.2.2.1 u.2.2.2.2.2.2.2])) 0 0 0 0 (wfl [cM qa cI Mst Mhi Mhn Msl Msv Mpd Mln Mat Mit Mvf Mdn Mlf Mar Msa Msm Mso]) [(0, .ref (qa 0)), (1, .int x1), (4, .int v4)] 86 [.int w0] := by
  unfold wp_X6_ifDelayed_86 at h
  refine gw_istore (pc' := 88) κ dX6_ifDelayed_86 rfl (by decide) (lv' := [(5, .int w0), (0, .ref (qa 0)), (1, .int x1), (4, .int v4)]) rfl ?_
  refine gw_aload_n (pc' := 89) κ dX6_ifDelayed_88 rfl 1 rfl rfl ?_
  refine gb_get (pc' := 92) (C := RX6) (T := TX6) (N := 16) κ dX6_ifDelayed_89 rfl inX6 0 rfl rfl rfl 0 (by decide) tw_fl_X6_7 rfl ?_
  refine gw_bipush (pc' := 94) (v := 11) κ dX6_ifDelayed_92 rfl (by decide) ?_
  refine gw_iload_n (pc' := 95) κ dX6_ifDelayed_94 rfl 2 rfl rfl ?_
  refine gw_iadd (pc' := 96) κ dX6_ifDelayed_95 rfl  ?_
  refine gw_iload (pc' := 98) κ dX6_ifDelayed_96 rfl 3 rfl ?_
  obtain ⟨hb_21, h⟩ := h
  refine gb_iast (pc' := 99) (bs' := [cM qa cI (upd Mst ((11 : Int32) + x1).toNatClampNeg v4) Mhi Mhn Msl Msv Mpd Mln Mat Mit Mvf Mdn Mlf Mar Msa Msm Mso]) κ dX6_ifDelayed_98 rfl 0 1 rfl rfl hb_21 rfl ?_
  refine gw_iload (pc' := 101) κ dX6_ifDelayed_99 rfl 0 rfl ?_
  exact gw_iret κ dX6_ifDelayed_101 ((upd Mst ((11 : Int32) + x1).toNatClampNeg v4), Mvf, Mdn, Mlf, Mar, Msa, Msm, Mso) rfl ⟨_, rfl, h⟩
set_option maxHeartbeats 4000000 in
set_option maxRecDepth 100000 in
theorem c_X6_ifDelayed {l : Launch} {D : va_G} {cI cR : ClassId}  (qa : Nat → Nat) {P : Int32 → (Nat → Int32) → (Nat → Int32) → (Nat → Int32) → (Nat → Int32) → (Nat → Int32) → (Nat → Int32) → (Nat → Int32) → Int32 → Prop} (Mst : Nat → Int32) (Mhi : Nat → Int32) (Mhn : Int32) (Msl : Nat → Int32) (Msv : Nat → Int32) (Mpd : Nat → Int32) (Mln : Int32) (Mat : Int32) (Mit : Nat → Int32) (Mvf : Nat → Int32) (Mdn : Nat → Int32) (Mlf : Nat → Int32) (Mar : Nat → Int32) (Msa : Nat → Int32) (Msm : Nat → Int32) (Mso : Int32) (x1 : Int32) (x2 : Int32) (x3 : Int32) (h : wp_X6_ifDelayed P Mst Mvf Mdn Mlf Mar Msa Msm Mso x1 x2 x3) : CT l D cI cR yX6_ifDelayed cX6_ifDelayed 6 (some .int) ({ frames := 5, cells := 0, slots := 0, locals := 113 } : Room) [.ref (qa 0), .int x1, .int x2, .int x3] (wfl [cM qa cI Mst Mhi Mhn Msl Msv Mpd Mln Mat Mit Mvf Mdn Mlf Mar Msa Msm Mso]) (fun u : (Nat → Int32) × (Nat → Int32) × (Nat → Int32) × (Nat → Int32) × (Nat → Int32) × (Nat → Int32) × (Nat → Int32) × Int32 => (wfl [cM qa cI u.1 Mhi Mhn Msl Msv Mpd Mln Mat Mit u.2.1 u.2.2.1 u.2.2.2.1 u.2.2.2.2.1 u.2.2.2.2.2.1 u.2.2.2.2.2.2.1 u.2.2.2.2.2.2.2])) (pI (fun (r : Int32) (u : (Nat → Int32) × (Nat → Int32) × (Nat → Int32) × (Nat → Int32) × (Nat → Int32) × (Nat → Int32) × (Nat → Int32) × Int32) => P r u.1 u.2.1 u.2.2.1 u.2.2.2.1 u.2.2.2.2.1 u.2.2.2.2.2.1 u.2.2.2.2.2.2.1 u.2.2.2.2.2.2.2)) 0 0 := by
  refine ct_of RX6 rfl (by decide +kernel) (Nat.le_of_ble_eq_true rfl) (fun zp ze zs zm zb zt zc A hin κ => ?_)
  unfold wp_X6_ifDelayed at h
  refine gw_nf (lv' := [(0, .ref (qa 0)), (1, .int x1), (2, .int x2), (3, .int x3)]) (pc' := 0) (st' := []) (ce' := 0) (sl' := 0) rfl rfl rfl rfl rfl rfl ?_
  refine gw_iload_n (pc' := 1) κ dX6_ifDelayed_0 rfl 1 rfl rfl ?_
  refine gb_callS (rest := []) κ (c_X6_isFlight  x1 h) ⟨rfl, rfl, Nat.le_of_ble_eq_true rfl, Nat.le_of_ble_eq_true rfl⟩ tw_ml_X6_106 tw_st_X6_isFlight tw_co_X6_isFlight tw_in_X6 hy_X6_isFlight rfl (Nat.le_of_ble_eq_true rfl) rfl dX6_ifDelayed_1 [] rfl (by decide) (fun _ => Nat.le_of_ble_eq_true rfl) ⟨Nat.le_of_ble_eq_true rfl, Nat.le_of_ble_eq_true rfl⟩ (fun v u hv => ?_)
  obtain ⟨r_1, rfl, h⟩ := hv
  refine gw_nf (ws' := (wfl [cM qa cI Mst Mhi Mhn Msl Msv Mpd Mln Mat Mit Mvf Mdn Mlf Mar Msa Msm Mso])) (lv' := [(0, .ref (qa 0)), (1, .int x1), (2, .int x2), (3, .int x3)]) (st' := [.int r_1]) (pc' := 4) (ce' := 0) (sl' := 0) rfl rfl rfl rfl rfl rfl ?_
  refine gw_if_ne (pc' := 7) (tgt := 10) κ dX6_ifDelayed_4 rfl (by decide) (fun hc_2 => ?_) (fun hc_2 => ?_)
  · have h := h.1 hc_2
    refine gw_iload_n (pc' := 11) κ dX6_ifDelayed_10 rfl 2 rfl rfl ?_
    refine gw_bipush (pc' := 13) (v := -30) κ dX6_ifDelayed_11 rfl (by decide) ?_
    refine gw_sipush (pc' := 16) (v := 300) κ dX6_ifDelayed_13 rfl (by decide) ?_
    refine gb_callS (rest := []) κ (c_X6_within  x2 (-30 : Int32) (300 : Int32) h) ⟨rfl, rfl, Nat.le_of_ble_eq_true rfl, Nat.le_of_ble_eq_true rfl⟩ tw_ml_X6_46 tw_st_X6_within tw_co_X6_within tw_in_X6 hy_X6_within rfl (Nat.le_of_ble_eq_true rfl) rfl dX6_ifDelayed_16 [] rfl (by decide) (fun _ => Nat.le_of_ble_eq_true rfl) ⟨Nat.le_of_ble_eq_true rfl, Nat.le_of_ble_eq_true rfl⟩ (fun v u hv => ?_)
    obtain ⟨r_3, rfl, h⟩ := hv
    refine gw_nf (ws' := (wfl [cM qa cI Mst Mhi Mhn Msl Msv Mpd Mln Mat Mit Mvf Mdn Mlf Mar Msa Msm Mso])) (lv' := [(0, .ref (qa 0)), (1, .int x1), (2, .int x2), (3, .int x3)]) (st' := [.int r_3]) (pc' := 19) (ce' := 0) (sl' := 0) rfl rfl rfl rfl rfl rfl ?_
    refine gw_if_eq (pc' := 22) (tgt := 31) κ dX6_ifDelayed_19 rfl (by decide) (fun hc_4 => ?_) (fun hc_4 => ?_)
    · have h := h.1 hc_4
      refine gw_bipush (pc' := 33) (v := -102) κ dX6_ifDelayed_31 rfl (by decide) ?_
      exact gw_iret κ dX6_ifDelayed_33 (Mst, Mvf, Mdn, Mlf, Mar, Msa, Msm, Mso) rfl ⟨_, rfl, h⟩
    · have h := h.2 hc_4
      refine gw_iload_n (pc' := 23) κ dX6_ifDelayed_22 rfl 3 rfl rfl ?_
      refine gw_iconst (pc' := 24) (v := 0) κ dX6_ifDelayed_23 rfl (by decide) ?_
      refine gw_iconst (pc' := 25) (v := 2) κ dX6_ifDelayed_24 rfl (by decide) ?_
      refine gb_callS (rest := []) κ (c_X6_within  x3 (0 : Int32) (2 : Int32) h) ⟨rfl, rfl, Nat.le_of_ble_eq_true rfl, Nat.le_of_ble_eq_true rfl⟩ tw_ml_X6_46 tw_st_X6_within tw_co_X6_within tw_in_X6 hy_X6_within rfl (Nat.le_of_ble_eq_true rfl) rfl dX6_ifDelayed_25 [] rfl (by decide) (fun _ => Nat.le_of_ble_eq_true rfl) ⟨Nat.le_of_ble_eq_true rfl, Nat.le_of_ble_eq_true rfl⟩ (fun v u hv => ?_)
      obtain ⟨r_5, rfl, h⟩ := hv
      refine gw_nf (ws' := (wfl [cM qa cI Mst Mhi Mhn Msl Msv Mpd Mln Mat Mit Mvf Mdn Mlf Mar Msa Msm Mso])) (lv' := [(0, .ref (qa 0)), (1, .int x1), (2, .int x2), (3, .int x3)]) (st' := [.int r_5]) (pc' := 28) (ce' := 0) (sl' := 0) rfl rfl rfl rfl rfl rfl ?_
      refine gw_if_ne (pc' := 31) (tgt := 34) κ dX6_ifDelayed_28 rfl (by decide) (fun hc_6 => ?_) (fun hc_6 => ?_)
      · have h := h.1 hc_6
        refine gw_aload_n (pc' := 35) κ dX6_ifDelayed_34 rfl 0 rfl rfl ?_
        refine gb_get (pc' := 38) (C := RX6) (T := TX6) (N := 16) κ dX6_ifDelayed_35 rfl inX6 0 rfl rfl rfl 0 (by decide) tw_fl_X6_7 rfl ?_
        refine gw_bipush (pc' := 40) (v := 11) κ dX6_ifDelayed_38 rfl (by decide) ?_
        refine gw_iload_n (pc' := 41) κ dX6_ifDelayed_40 rfl 1 rfl rfl ?_
        refine gw_iadd (pc' := 42) κ dX6_ifDelayed_41 rfl  ?_
        obtain ⟨hb_7, h⟩ := h
        refine gb_iald (pc' := 43) κ dX6_ifDelayed_42 rfl 0 1 rfl rfl hb_7 ?_
        refine gw_istore (pc' := 45) κ dX6_ifDelayed_43 rfl (by decide) (lv' := [(4, .int (Mst ((11 : Int32) + x1).toNatClampNeg)), (0, .ref (qa 0)), (1, .int x1), (2, .int x2), (3, .int x3)]) rfl ?_
        refine gw_aload_n (pc' := 46) κ dX6_ifDelayed_45 rfl 1 rfl rfl ?_
        refine gb_get (pc' := 49) (C := RX6) (T := TX6) (N := 16) κ dX6_ifDelayed_46 rfl inX6 0 rfl rfl rfl 0 (by decide) tw_fl_X6_7 rfl ?_
        refine gw_bipush (pc' := 51) (v := 11) κ dX6_ifDelayed_49 rfl (by decide) ?_
        refine gw_iload_n (pc' := 52) κ dX6_ifDelayed_51 rfl 2 rfl rfl ?_
        refine gw_iadd (pc' := 53) κ dX6_ifDelayed_52 rfl  ?_
        refine gw_iload_n (pc' := 54) κ dX6_ifDelayed_53 rfl 3 rfl rfl ?_
        obtain ⟨hb_8, h⟩ := h
        refine gb_iast (pc' := 55) (bs' := [cM qa cI (upd Mst ((11 : Int32) + x1).toNatClampNeg x2) Mhi Mhn Msl Msv Mpd Mln Mat Mit Mvf Mdn Mlf Mar Msa Msm Mso]) κ dX6_ifDelayed_54 rfl 0 1 rfl rfl hb_8 rfl ?_
        refine gw_aload_n (pc' := 56) κ dX6_ifDelayed_55 rfl 1 rfl rfl ?_
        refine gb_callV (ci := 6) (qb := 0) (rest := []) κ (c_X6_lay qa (upd Mst ((11 : Int32) + x1).toNatClampNeg x2) Mhi Mhn Msl Msv Mpd Mln Mat Mit Mvf Mdn Mlf Mar Msa Msm Mso h) ⟨rfl, rfl, Nat.le_of_ble_eq_true rfl, Nat.le_of_ble_eq_true rfl⟩ tw_ml_X6_113 tw_im_X6_lay tw_se_X6_lay tw_co_X6_lay tw_in_X6 hy_X6_lay rfl rfl rfl rfl rfl (Nat.le_of_ble_eq_true rfl) rfl dX6_ifDelayed_56 [0] rfl (by decide) (fun _ => Nat.le_of_ble_eq_true rfl) ⟨Nat.le_of_ble_eq_true rfl, Nat.le_of_ble_eq_true rfl⟩ (fun v u hv => ?_)
        obtain ⟨rfl, h⟩ := hv
        obtain ⟨Mvf_9, Mdn_10, Mlf_11, Mar_12⟩ := u
        refine gw_nf (ws' := (wfl [cM qa cI (upd Mst ((11 : Int32) + x1).toNatClampNeg x2) Mhi Mhn Msl Msv Mpd Mln Mat Mit Mvf_9 Mdn_10 Mlf_11 Mar_12 Msa Msm Mso])) (lv' := [(4, .int (Mst ((11 : Int32) + x1).toNatClampNeg)), (0, .ref (qa 0)), (1, .int x1), (2, .int x2), (3, .int x3)]) (st' := []) (pc' := 59) (ce' := 0) (sl' := 0) rfl rfl rfl rfl rfl rfl ?_
        refine gw_iload_n (pc' := 60) κ dX6_ifDelayed_59 rfl 4 rfl rfl ?_
        refine gw_if_ne (pc' := 63) (tgt := 70) κ dX6_ifDelayed_60 rfl (by decide) (fun hc_13 => ?_) (fun hc_13 => ?_)
        · have h := h.1 hc_13
          refine gw_iload_n (pc' := 71) κ dX6_ifDelayed_70 rfl 4 rfl rfl ?_
          refine gw_iconst (pc' := 72) (v := 1) κ dX6_ifDelayed_71 rfl (by decide) ?_
          refine gw_icmp_ne (pc' := 75) (tgt := 82) κ dX6_ifDelayed_72 rfl (by decide) (fun hc_14 => ?_) (fun hc_14 => ?_)
          · have h := h.1 hc_14
            refine gw_aload_n (pc' := 83) κ dX6_ifDelayed_82 rfl 1 rfl rfl ?_
            refine gb_callV (ci := 6) (qb := 0) (rest := []) κ (c_X6_lastMinute qa (upd Mst ((11 : Int32) + x1).toNatClampNeg x2) Mhi Mhn Msl Msv Mpd Mln Mat Mit Mvf_9 Mdn_10 Mlf_11 Mar_12 Msa Msm Mso h) ⟨rfl, rfl, Nat.le_of_ble_eq_true rfl, Nat.le_of_ble_eq_true rfl⟩ tw_ml_X6_172 tw_im_X6_lastMinute tw_se_X6_lastMinute tw_co_X6_lastMinute tw_in_X6 hy_X6_lastMinute rfl rfl rfl rfl rfl (Nat.le_of_ble_eq_true rfl) rfl dX6_ifDelayed_83 [0] rfl (by decide) (fun _ => Nat.le_of_ble_eq_true rfl) ⟨Nat.le_of_ble_eq_true rfl, Nat.le_of_ble_eq_true rfl⟩ (fun v u hv => ?_)
            obtain ⟨r_18, rfl, h⟩ := hv
            obtain ⟨Msa_15, Msm_16, Mso_17⟩ := u
            refine gw_nf (ws' := (wfl [cM qa cI (upd Mst ((11 : Int32) + x1).toNatClampNeg x2) Mhi Mhn Msl Msv Mpd Mln Mat Mit Mvf_9 Mdn_10 Mlf_11 Mar_12 Msa_15 Msm_16 Mso_17])) (lv' := [(4, .int (Mst ((11 : Int32) + x1).toNatClampNeg)), (0, .ref (qa 0)), (1, .int x1), (2, .int x2), (3, .int x3)]) (st' := [.int r_18]) (pc' := 86) (ce' := 0) (sl' := 0) rfl rfl rfl rfl rfl rfl ?_
            refine gw_lv (lv' := [(0, .ref (qa 0)), (1, .int x1), (4, .int (Mst ((11 : Int32) + x1).toNatClampNeg))]) [1, 2, 0] rfl ?_
            exact k_X6_ifDelayed_86 κ qa P Mhi Mhn Msl Msv Mpd Mln Mat Mit x1 x2 x3 (Mst ((11 : Int32) + x1).toNatClampNeg) r_18 (upd Mst ((11 : Int32) + x1).toNatClampNeg x2) Mvf_9 Mdn_10 Mlf_11 Mar_12 Msa_15 Msm_16 Mso_17 h
          · have h := h.2 hc_14
            refine gw_aload_n (pc' := 76) κ dX6_ifDelayed_75 rfl 1 rfl rfl ?_
            refine gb_callV (ci := 6) (qb := 0) (rest := []) κ (c_X6_waiting qa (upd Mst ((11 : Int32) + x1).toNatClampNeg x2) Mhi Mhn Msl Msv Mpd Mln Mat Mit Mvf_9 Mdn_10 Mlf_11 Mar_12 Msa Msm Mso h) ⟨rfl, rfl, Nat.le_of_ble_eq_true rfl, Nat.le_of_ble_eq_true rfl⟩ tw_ml_X6_160 tw_im_X6_waiting tw_se_X6_waiting tw_co_X6_waiting tw_in_X6 hy_X6_waiting rfl rfl rfl rfl rfl (Nat.le_of_ble_eq_true rfl) rfl dX6_ifDelayed_76 [0] rfl (by decide) (fun _ => Nat.le_of_ble_eq_true rfl) ⟨Nat.le_of_ble_eq_true rfl, Nat.le_of_ble_eq_true rfl⟩ (fun v u hv => ?_)
            obtain ⟨r_19, rfl, h⟩ := hv
            refine gw_nf (ws' := (wfl [cM qa cI (upd Mst ((11 : Int32) + x1).toNatClampNeg x2) Mhi Mhn Msl Msv Mpd Mln Mat Mit Mvf_9 Mdn_10 Mlf_11 Mar_12 Msa Msm Mso])) (lv' := [(4, .int (Mst ((11 : Int32) + x1).toNatClampNeg)), (0, .ref (qa 0)), (1, .int x1), (2, .int x2), (3, .int x3)]) (st' := [.int r_19]) (pc' := 79) (ce' := 0) (sl' := 0) rfl rfl rfl rfl rfl rfl ?_
            refine gw_goto (tgt := 86) κ dX6_ifDelayed_79 (by decide) ?_
            refine gw_lv (lv' := [(0, .ref (qa 0)), (1, .int x1), (4, .int (Mst ((11 : Int32) + x1).toNatClampNeg))]) [1, 2, 0] rfl ?_
            exact k_X6_ifDelayed_86 κ qa P Mhi Mhn Msl Msv Mpd Mln Mat Mit x1 x2 x3 (Mst ((11 : Int32) + x1).toNatClampNeg) r_19 (upd Mst ((11 : Int32) + x1).toNatClampNeg x2) Mvf_9 Mdn_10 Mlf_11 Mar_12 Msa Msm Mso h
        · have h := h.2 hc_13
          refine gw_aload_n (pc' := 64) κ dX6_ifDelayed_63 rfl 1 rfl rfl ?_
          refine gb_callV (ci := 6) (qb := 0) (rest := []) κ (c_X6_strandedPeople qa (upd Mst ((11 : Int32) + x1).toNatClampNeg x2) Mhi Mhn Msl Msv Mpd Mln Mat Mit Mvf_9 Mdn_10 Mlf_11 Mar_12 Msa Msm Mso h) ⟨rfl, rfl, Nat.le_of_ble_eq_true rfl, Nat.le_of_ble_eq_true rfl⟩ tw_ml_X6_116 tw_im_X6_strandedPeople tw_se_X6_strandedPeople tw_co_X6_strandedPeople tw_in_X6 hy_X6_strandedPeople rfl rfl rfl rfl rfl (Nat.le_of_ble_eq_true rfl) rfl dX6_ifDelayed_64 [0] rfl (by decide) (fun _ => Nat.le_of_ble_eq_true rfl) ⟨Nat.le_of_ble_eq_true rfl, Nat.le_of_ble_eq_true rfl⟩ (fun v u hv => ?_)
          obtain ⟨r_20, rfl, h⟩ := hv
          refine gw_nf (ws' := (wfl [cM qa cI (upd Mst ((11 : Int32) + x1).toNatClampNeg x2) Mhi Mhn Msl Msv Mpd Mln Mat Mit Mvf_9 Mdn_10 Mlf_11 Mar_12 Msa Msm Mso])) (lv' := [(4, .int (Mst ((11 : Int32) + x1).toNatClampNeg)), (0, .ref (qa 0)), (1, .int x1), (2, .int x2), (3, .int x3)]) (st' := [.int r_20]) (pc' := 67) (ce' := 0) (sl' := 0) rfl rfl rfl rfl rfl rfl ?_
          refine gw_goto (tgt := 86) κ dX6_ifDelayed_67 (by decide) ?_
          refine gw_lv (lv' := [(0, .ref (qa 0)), (1, .int x1), (4, .int (Mst ((11 : Int32) + x1).toNatClampNeg))]) [1, 2, 0] rfl ?_
          exact k_X6_ifDelayed_86 κ qa P Mhi Mhn Msl Msv Mpd Mln Mat Mit x1 x2 x3 (Mst ((11 : Int32) + x1).toNatClampNeg) r_20 (upd Mst ((11 : Int32) + x1).toNatClampNeg x2) Mvf_9 Mdn_10 Mlf_11 Mar_12 Msa Msm Mso h
      · have h := h.2 hc_6
        refine gw_bipush (pc' := 33) (v := -102) κ dX6_ifDelayed_31 rfl (by decide) ?_
        exact gw_iret κ dX6_ifDelayed_33 (Mst, Mvf, Mdn, Mlf, Mar, Msa, Msm, Mso) rfl ⟨_, rfl, h⟩
  · have h := h.2 hc_2
    refine gw_bipush (pc' := 9) (v := -101) κ dX6_ifDelayed_7 rfl (by decide) ?_
    exact gw_iret κ dX6_ifDelayed_9 (Mst, Mvf, Mdn, Mlf, Mar, Msa, Msm, Mso) rfl ⟨_, rfl, h⟩
