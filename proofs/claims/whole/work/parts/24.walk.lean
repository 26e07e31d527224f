theorem hy_X6_layStops : g_hy yX6_layStops 1 := by decide +kernel
set_option maxHeartbeats 4000000 in
set_option maxRecDepth 100000 in
theorem k_X6_layStops_70 {zp : Program} {l : Launch} {ze : Env} {zs : State} {zm : MethodId} {za : Array Value} {zb : List Frame} {zt : Method} {zc : Code} {D : va_G} {cI cR : ClassId} {A : Nat → Prop} (κ : KC zp zs zm za zt zc cX6_layStops 7 RX6 D cI cR A none) (qa : Nat → Nat) (P : (Nat → Int32) → (Nat → Int32) → Int32 → Prop) (Mst : Nat → Int32) (Mhi : Nat → Int32) (Mhn : Int32) (Msl : Nat → Int32) (Msv : Nat → Int32) (Mpd : Nat → Int32) (Mln : Int32) (Mat : Int32) (Mit : Nat → Int32) (Mvf : Nat → Int32) (Mdn : Nat → Int32) (Mlf : Nat → Int32) (Mar : Nat → Int32) (x1 : Int32) (r9 : Int32 → Int32 → (Nat → Int32) → (Nat → Int32) → Int32 → Prop) (r21 : Int32 → Int32 → Prop) (v2 : Int32) (v4 : Int32) (v5 : Int32) (w0 : Int32) (Msa : Nat → Int32) (Msm : Nat → Int32) (Mso : Int32) (hr9 : ∀ (v2 : Int32) (v3 : Int32) (Msa : Nat → Int32) (Msm : Nat → Int32) (Mso : Int32), r9 v2 v3 Msa Msm Mso → GM zp l ze ({ frames := 2, cells := 0, slots := 0, locals := 43 } : Room) zs zm za zb zt zc D A 7 (pV (fun (u : (Nat → Int32) × (Nat → Int32) × Int32) => P u.1 u.2.1 u.2.2)) (fun u : (Nat → Int32) × (Nat → Int32) × Int32 => (wfl [cM qa cI Mst Mhi Mhn Msl Msv Mpd Mln Mat Mit Mvf Mdn Mlf Mar u.1 u.2.1 u.2.2])) 0 0 0 0 (wfl [cM qa cI Mst Mhi Mhn Msl Msv Mpd Mln Mat Mit Mvf Mdn Mlf Mar Msa Msm Mso]) [(0, .ref (qa 0)), (1, .int x1), (2, .int v2), (3, .int v3)] 9 []) (hr21 : ∀ (v4 : Int32) (v5 : Int32), r21 v4 v5 → GM zp l ze ({ frames := 2, cells := 0, slots := 0, locals := 43 } : Room) zs zm za zb zt zc D A 7 (pV (fun (u : (Nat → Int32) × (Nat → Int32) × Int32) => P u.1 u.2.1 u.2.2)) (fun u : (Nat → Int32) × (Nat → Int32) × Int32 => (wfl [cM qa cI Mst Mhi Mhn Msl Msv Mpd Mln Mat Mit Mvf Mdn Mlf Mar u.1 u.2.1 u.2.2])) 0 0 0 0 (wfl [cM qa cI Mst Mhi Mhn Msl Msv Mpd Mln Mat Mit Mvf Mdn Mlf Mar Msa Msm Mso]) [(0, .ref (qa 0)), (1, .int x1), (2, .int v2), (4, .int v4), (5, .int v5)] 21 []) (h : wp_X6_layStops_70 P Mst Mvf x1 r9 r21 v2 v4 v5 w0 Msa Msm Mso) : GM zp l ze ({ frames := 2, cells := 0, slots := 0, locals := 43 } : Room) zs zm za zb zt zc D A 7 (pV (fun (u : (Nat → Int32) × (Nat → Int32) × Int32) => P u.1 u.2.1 u.2.2)) (fun u : (Nat → Int32) × (Nat → Int32) × Int32 => (wfl [cM qa cI Mst Mhi Mhn Msl Msv Mpd Mln Mat Mit Mvf Mdn Mlf Mar u.1 u.2.1 u.2.2])) 0 0 0 0 (wfl [cM qa cI Mst Mhi Mhn Msl Msv Mpd Mln Mat Mit Mvf Mdn Mlf Mar Msa Msm Mso]) [(0, .ref (qa 0)), (1, .int x1), (2, .int v2), (4, .int v4), (5, .int v5)] 70 [.int w0] := by
  unfold wp_X6_layStops_70 at h
  refine gw_istore (pc' := 72) κ dX6_layStops_70 rfl (by decide) (lv' := [(6, .int w0), (0, .ref (qa 0)), (1, .int x1), (2, .int v2), (4, .int v4), (5, .int v5)]) rfl ?_
  refine gw_iload (pc' := 74) κ dX6_layStops_72 rfl 0 rfl ?_
  refine gw_if_eq (pc' := 77) (tgt := 86) κ dX6_layStops_74 rfl (by decide) (fun hc_14 => ?_) (fun hc_14 => ?_)
  · have h := h.1 hc_14
    refine gw_iload (pc' := 88) κ dX6_layStops_86 rfl 4 rfl ?_
    refine gw_istore (pc' := 90) κ dX6_layStops_88 rfl (by decide) (lv' := [(4, .int v4), (6, .int w0), (0, .ref (qa 0)), (1, .int x1), (2, .int v2), (5, .int v5)]) rfl ?_
    refine gw_iinc (pc' := 93) κ dX6_layStops_90 rfl 5 rfl (v := (v5 + 1)) rfl (by decide) (lv' := [(5, .int (v5 + 1)), (4, .int v4), (6, .int w0), (0, .ref (qa 0)), (1, .int x1), (2, .int v2)]) rfl ?_
    refine gw_goto (tgt := 21) κ dX6_layStops_93 (by decide) ?_
    refine gw_lv (lv' := [(0, .ref (qa 0)), (1, .int x1), (2, .int v2), (4, .int v4), (5, .int (v5 + 1))]) [3, 4, 5, 1, 0] rfl ?_
    exact hr21 v4 (v5 + 1) h
  · have h := h.2 hc_14
    refine gw_aload_n (pc' := 78) κ dX6_layStops_77 rfl 1 rfl rfl ?_
    refine gw_iload (pc' := 80) κ dX6_layStops_78 rfl 5 rfl ?_
    refine gb_callV (ci := 6) (qb := 0) (rest := []) κ (c_X6_keyOf qa Mst Mhi Mhn Msl Msv Mpd Mln Mat Mit Mvf Mdn Mlf Mar Msa Msm Mso v5 h) ⟨rfl, rfl, Nat.le_of_ble_eq_true rfl, Nat.le_of_ble_eq_true rfl⟩ tw_ml_X6_85 tw_im_X6_keyOf tw_se_X6_keyOf tw_co_X6_keyOf tw_in_X6 hy_X6_keyOf rfl rfl rfl rfl rfl (Nat.le_of_ble_eq_true rfl) rfl dX6_layStops_80 [0] rfl (by decide) (fun _ => Nat.le_of_ble_eq_true rfl) ⟨Nat.le_of_ble_eq_true rfl, Nat.le_of_ble_eq_true rfl⟩ (fun v u hv => ?_)
    obtain ⟨r_15, rfl, h⟩ := hv
    refine gw_nf (ws' := (wfl [cM qa cI Mst Mhi Mhn Msl Msv Mpd Mln Mat Mit Mvf Mdn Mlf Mar Msa Msm Mso])) (lv' := [(6, .int w0), (0, .ref (qa 0)), (1, .int x1), (2, .int v2), (4, .int v4), (5, .int v5)]) (st' := [.int r_15]) (pc' := 83) (ce' := 0) (sl' := 0) rfl rfl rfl rfl rfl rfl ?_
    refine gw_goto (tgt := 88) κ dX6_layStops_83 (by decide) ?_
    refine gw_istore (pc' := 90) κ dX6_layStops_88 rfl (by decide) (lv' := [(4, .int r_15), (6, .int w0), (0, .ref (qa 0)), (1, .int x1), (2, .int v2), (5, .int v5)]) rfl ?_
    refine gw_iinc (pc' := 93) κ dX6_layStops_90 rfl 5 rfl (v := (v5 + 1)) rfl (by decide) (lv' := [(5, .int (v5 + 1)), (4, .int r_15), (6, .int w0), (0, .ref (qa 0)), (1, .int x1), (2, .int v2)]) rfl ?_
    refine gw_goto (tgt := 21) κ dX6_layStops_93 (by decide) ?_
    refine gw_lv (lv' := [(0, .ref (qa 0)), (1, .int x1), (2, .int v2), (4, .int r_15), (5, .int (v5 + 1))]) [3, 4, 5, 1, 0] rfl ?_
    exact hr21 r_15 (v5 + 1) h
set_option maxHeartbeats 4000000 in
set_option maxRecDepth 100000 in
theorem k_X6_layStops_215 {zp : Program} {l : Launch} {ze : Env} {zs : State} {zm : MethodId} {za : Array Value} {zb : List Frame} {zt : Method} {zc : Code} {D : va_G} {cI cR : ClassId} {A : Nat → Prop} (κ : KC zp zs zm za zt zc cX6_layStops 7 RX6 D cI cR A none) (qa : Nat → Nat) (P : (Nat → Int32) → (Nat → Int32) → Int32 → Prop) (Mst : Nat → Int32) (Mhi : Nat → Int32) (Mhn : Int32) (Msl : Nat → Int32) (Msv : Nat → Int32) (Mpd : Nat → Int32) (Mln : Int32) (Mat : Int32) (Mit : Nat → Int32) (Mvf : Nat → Int32) (Mdn : Nat → Int32) (Mlf : Nat → Int32) (Mar : Nat → Int32) (x1 : Int32) (r9 : Int32 → Int32 → (Nat → Int32) → (Nat → Int32) → Int32 → Prop) (v3 : Int32) (v4 : Int32) (w0 : Int32) (w1 : Int32) (w2 : Int32) (Msa : Nat → Int32) (Msm : Nat → Int32) (Mso : Int32) (hr9 : ∀ (v2 : Int32) (v3 : Int32) (Msa : Nat → Int32) (Msm : Nat → Int32) (Mso : Int32), r9 v2 v3 Msa Msm Mso → GM zp l ze ({ frames := 2, cells := 0, slots := 0, locals := 43 } : Room) zs zm za zb zt zc D A 7 (pV (fun (u : (Nat → Int32) × (Nat → Int32) × Int32) => P u.1 u.2.1 u.2.2)) (fun u : (Nat → Int32) × (Nat → Int32) × Int32 => (wfl [cM qa cI Mst Mhi Mhn Msl Msv Mpd Mln Mat Mit Mvf Mdn Mlf Mar u.1 u.2.1 u.2.2])) 0 0 0 0 (wfl [cM qa cI Mst Mhi Mhn Msl Msv Mpd Mln Mat Mit Mvf Mdn Mlf Mar Msa Msm Mso]) [(0, .ref (qa 0)), (1, .int x1), (2, .int v2), (3, .int v3)] 9 []) (h : wp_X6_layStops_215 P Mst Mvf x1 r9 v3 v4 w0 w1 w2 Msa Msm Mso) : GM zp l ze ({ frames := 2, cells := 0, slots := 0, locals := 43 } : Room) zs zm za zb zt zc D A 7 (pV (fun (u : (Nat → Int32) × (Nat → Int32) × Int32) => P u.1 u.2.1 u.2.2)) (fun u : (Nat → Int32) × (Nat → Int32) × Int32 => (wfl [cM qa cI Mst Mhi Mhn Msl Msv Mpd Mln Mat Mit Mvf Mdn Mlf Mar u.1 u.2.1 u.2.2])) 0 0 0 0 (wfl [cM qa cI Mst Mhi Mhn Msl Msv Mpd Mln Mat Mit Mvf Mdn Mlf Mar Msa Msm Mso]) [(0, .ref (qa 0)), (1, .int x1), (3, .int v3), (4, .int v4)] 215 [.int w2, .int w1, .int w0, .ref (qa 12)] := by
  unfold wp_X6_layStops_215 at h
  refine gw_iadd (pc' := 216) κ dX6_layStops_215 rfl  ?_
  obtain ⟨hb_20, h⟩ := h
  refine gb_iast (pc' := 217) (bs' := [cM qa cI Mst Mhi Mhn Msl Msv Mpd Mln Mat Mit Mvf Mdn Mlf Mar Msa (upd Msm w0.toNatClampNeg (w1 + w2)) Mso]) κ dX6_layStops_216 rfl 0 12 rfl rfl hb_20 rfl ?_
  refine gw_aload_n (pc' := 218) κ dX6_layStops_217 rfl 0 rfl rfl ?_
  refine gw_dup (pc' := 219) κ dX6_layStops_218 rfl rfl ?_
  refine gb_get (pc' := 222) (C := RX6) (T := TX6) (N := 16) κ dX6_layStops_219 rfl inX6 0 rfl rfl rfl 15 (by decide) tw_fl_X6_82 rfl ?_
  refine gw_iconst (pc' := 223) (v := 1) κ dX6_layStops_222 rfl (by decide) ?_
  refine gw_iadd (pc' := 224) κ dX6_layStops_223 rfl  ?_
  refine gb_put (pc' := 227) (C := RX6) (T := TX6) (N := 16) (ty := .int) (bs' := [cM qa cI Mst Mhi Mhn Msl Msv Mpd Mln Mat Mit Mvf Mdn Mlf Mar Msa (upd Msm w0.toNatClampNeg (w1 + w2)) (Mso + (1 : Int32))]) κ dX6_layStops_224 rfl inX6 tyX6 tyX6_ok nmX6 0 rfl rfl rfl 15 (by decide) tw_fl_X6_82 rfl (by decide +kernel) rfl rfl (Nat.le_of_ble_eq_true rfl) rfl ?_
  refine gw_iload (pc' := 229) κ dX6_layStops_227 rfl 3 rfl ?_
  refine gw_istore_n (pc' := 230) κ dX6_layStops_229 rfl rfl (by decide) (lv' := [(2, .int v4), (0, .ref (qa 0)), (1, .int x1), (3, .int v3), (4, .int v4)]) rfl ?_
  refine gw_goto (tgt := 9) κ dX6_layStops_230 (by decide) ?_
  refine gw_lv (lv' := [(0, .ref (qa 0)), (1, .int x1), (2, .int v4), (3, .int v3)]) [1, 2, 0, 3] rfl ?_
  exact hr9 v4 v3 Msa (upd Msm w0.toNatClampNeg (w1 + w2)) (Mso + (1 : Int32)) h
set_option maxHeartbeats 4000000 in
set_option maxRecDepth 100000 in
theorem k_X6_layStops_162 {zp : Program} {l : Launch} {ze : Env} {zs : State} {zm : MethodId} {za : Array Value} {zb : List Frame} {zt : Method} {zc : Code} {D : va_G} {cI cR : ClassId} {A : Nat → Prop} (κ : KC zp zs zm za zt zc cX6_layStops 7 RX6 D cI cR A none) (qa : Nat → Nat) (P : (Nat → Int32) → (Nat → Int32) → Int32 → Prop) (Mst : Nat → Int32) (Mhi : Nat → Int32) (Mhn : Int32) (Msl : Nat → Int32) (Msv : Nat → Int32) (Mpd : Nat → Int32) (Mln : Int32) (Mat : Int32) (Mit : Nat → Int32) (Mvf : Nat → Int32) (Mdn : Nat → Int32) (Mlf : Nat → Int32) (Mar : Nat → Int32) (x1 : Int32) (r9 : Int32 → Int32 → (Nat → Int32) → (Nat → Int32) → Int32 → Prop) (v3 : Int32) (v4 : Int32) (w0 : Int32) (Msa : Nat → Int32) (Msm : Nat → Int32) (Mso : Int32) (hr9 : ∀ (v2 : Int32) (v3 : Int32) (Msa : Nat → Int32) (Msm : Nat → Int32) (Mso : Int32), r9 v2 v3 Msa Msm Mso → GM zp l ze ({ frames := 2, cells := 0, slots := 0, locals := 43 } : Room) zs zm za zb zt zc D A 7 (pV (fun (u : (Nat → Int32) × (Nat → Int32) × Int32) => P u.1 u.2.1 u.2.2)) (fun u : (Nat → Int32) × (Nat → Int32) × Int32 => (wfl [cM qa cI Mst Mhi Mhn Msl Msv Mpd Mln Mat Mit Mvf Mdn Mlf Mar u.1 u.2.1 u.2.2])) 0 0 0 0 (wfl [cM qa cI Mst Mhi Mhn Msl Msv Mpd Mln Mat Mit Mvf Mdn Mlf Mar Msa Msm Mso]) [(0, .ref (qa 0)), (1, .int x1), (2, .int v2), (3, .int v3)] 9 []) (h : wp_X6_layStops_162 P Mst Mvf x1 r9 v3 v4 w0 Msa Msm Mso) : GM zp l ze ({ frames := 2, cells := 0, slots := 0, locals := 43 } : Room) zs zm za zb zt zc D A 7 (pV (fun (u : (Nat → Int32) × (Nat → Int32) × Int32) => P u.1 u.2.1 u.2.2)) (fun u : (Nat → Int32) × (Nat → Int32) × Int32 => (wfl [cM qa cI Mst Mhi Mhn Msl Msv Mpd Mln Mat Mit Mvf Mdn Mlf Mar u.1 u.2.1 u.2.2])) 0 0 0 0 (wfl [cM qa cI Mst Mhi Mhn Msl Msv Mpd Mln Mat Mit Mvf Mdn Mlf Mar Msa Msm Mso]) [(0, .ref (qa 0)), (1, .int x1), (3, .int v3), (4, .int v4)] 162 [.int w0] := by
  unfold wp_X6_layStops_162 at h
  refine gw_istore (pc' := 164) κ dX6_layStops_162 rfl (by decide) (lv' := [(5, .int w0), (0, .ref (qa 0)), (1, .int x1), (3, .int v3), (4, .int v4)]) rfl ?_
  refine gw_aload_n (pc' := 165) κ dX6_layStops_164 rfl 1 rfl rfl ?_
  refine gb_get (pc' := 168) (C := RX6) (T := TX6) (N := 16) κ dX6_layStops_165 rfl inX6 0 rfl rfl rfl 13 (by decide) tw_fl_X6_40 rfl ?_
  refine gw_aload_n (pc' := 169) κ dX6_layStops_168 rfl 1 rfl rfl ?_
  refine gb_get (pc' := 172) (C := RX6) (T := TX6) (N := 16) κ dX6_layStops_169 rfl inX6 0 rfl rfl rfl 15 (by decide) tw_fl_X6_82 rfl ?_
  refine gw_iload (pc' := 174) κ dX6_layStops_172 rfl 4 rfl ?_
  obtain ⟨hb_16, h⟩ := h
  refine gb_iast (pc' := 175) (bs' := [cM qa cI Mst Mhi Mhn Msl Msv Mpd Mln Mat Mit Mvf Mdn Mlf Mar (upd Msa Mso.toNatClampNeg v4) Msm Mso]) κ dX6_layStops_174 rfl 0 11 rfl rfl hb_16 rfl ?_
  refine gw_aload_n (pc' := 176) κ dX6_layStops_175 rfl 1 rfl rfl ?_
  refine gb_get (pc' := 179) (C := RX6) (T := TX6) (N := 16) κ dX6_layStops_176 rfl inX6 0 rfl rfl rfl 14 (by decide) tw_fl_X6_43 rfl ?_
  refine gw_aload_n (pc' := 180) κ dX6_layStops_179 rfl 1 rfl rfl ?_
  refine gb_get (pc' := 183) (C := RX6) (T := TX6) (N := 16) κ dX6_layStops_180 rfl inX6 0 rfl rfl rfl 15 (by decide) tw_fl_X6_82 rfl ?_
  refine gw_iload (pc' := 185) κ dX6_layStops_183 rfl 0 rfl ?_
  refine gw_aload_n (pc' := 186) κ dX6_layStops_185 rfl 1 rfl rfl ?_
  refine gb_get (pc' := 189) (C := RX6) (T := TX6) (N := 16) κ dX6_layStops_186 rfl inX6 0 rfl rfl rfl 15 (by decide) tw_fl_X6_82 rfl ?_
  refine gw_if_ne (pc' := 192) (tgt := 204) κ dX6_layStops_189 rfl (by decide) (fun hc_17 => ?_) (fun hc_17 => ?_)
  · have h := h.1 hc_17
    refine gw_aload_n (pc' := 205) κ dX6_layStops_204 rfl 1 rfl rfl ?_
    refine gb_get (pc' := 208) (C := RX6) (T := TX6) (N := 16) κ dX6_layStops_205 rfl inX6 0 rfl rfl rfl 14 (by decide) tw_fl_X6_43 rfl ?_
    refine gw_aload_n (pc' := 209) κ dX6_layStops_208 rfl 1 rfl rfl ?_
    refine gb_get (pc' := 212) (C := RX6) (T := TX6) (N := 16) κ dX6_layStops_209 rfl inX6 0 rfl rfl rfl 15 (by decide) tw_fl_X6_82 rfl ?_
    refine gw_iconst (pc' := 213) (v := 1) κ dX6_layStops_212 rfl (by decide) ?_
    refine gw_isub (pc' := 214) κ dX6_layStops_213 rfl  ?_
    obtain ⟨hb_18, h⟩ := h
    refine gb_iald (pc' := 215) κ dX6_layStops_214 rfl 0 12 rfl rfl hb_18 ?_
    refine gw_lv (lv' := [(0, .ref (qa 0)), (1, .int x1), (3, .int v3), (4, .int v4)]) [1, 2, 3, 4] rfl ?_
    exact k_X6_layStops_215 κ qa P Mst Mhi Mhn Msl Msv Mpd Mln Mat Mit Mvf Mdn Mlf Mar x1 r9 v3 v4 Mso w0 (Msm (Mso - (1 : Int32)).toNatClampNeg) (upd Msa Mso.toNatClampNeg v4) Msm Mso hr9 h
  · have h := h.2 hc_17
    refine gw_aload_n (pc' := 193) κ dX6_layStops_192 rfl 1 rfl rfl ?_
    refine gb_get (pc' := 196) (C := RX6) (T := TX6) (N := 16) κ dX6_layStops_193 rfl inX6 0 rfl rfl rfl 0 (by decide) tw_fl_X6_7 rfl ?_
    refine gw_bipush (pc' := 198) (v := 17) κ dX6_layStops_196 rfl (by decide) ?_
    refine gw_iload_n (pc' := 199) κ dX6_layStops_198 rfl 2 rfl rfl ?_
    refine gw_iadd (pc' := 200) κ dX6_layStops_199 rfl  ?_
    obtain ⟨hb_19, h⟩ := h
    refine gb_iald (pc' := 201) κ dX6_layStops_200 rfl 0 1 rfl rfl hb_19 ?_
    refine gw_goto (tgt := 215) κ dX6_layStops_201 (by decide) ?_
    refine gw_lv (lv' := [(0, .ref (qa 0)), (1, .int x1), (3, .int v3), (4, .int v4)]) [1, 2, 3, 4] rfl ?_
    exact k_X6_layStops_215 κ qa P Mst Mhi Mhn Msl Msv Mpd Mln Mat Mit Mvf Mdn Mlf Mar x1 r9 v3 v4 Mso w0 (Mst ((17 : Int32) + x1).toNatClampNeg) (upd Msa Mso.toNatClampNeg v4) Msm Mso hr9 h
set_option maxHeartbeats 4000000 in
set_option maxRecDepth 100000 in
theorem k_X6_layStops_109 {zp : Program} {l : Launch} {ze : Env} {zs : State} {zm : MethodId} {za : Array Value} {zb : List Frame} {zt : Method} {zc : Code} {D : va_G} {cI cR : ClassId} {A : Nat → Prop} (κ : KC zp zs zm za zt zc cX6_layStops 7 RX6 D cI cR A none) (qa : Nat → Nat) (P : (Nat → Int32) → (Nat → Int32) → Int32 → Prop) (Mst : Nat → Int32) (Mhi : Nat → Int32) (Mhn : Int32) (Msl : Nat → Int32) (Msv : Nat → Int32) (Mpd : Nat → Int32) (Mln : Int32) (Mat : Int32) (Mit : Nat → Int32) (Mvf : Nat → Int32) (Mdn : Nat → Int32) (Mlf : Nat → Int32) (Mar : Nat → Int32) (x1 : Int32) (r9 : Int32 → Int32 → (Nat → Int32) → (Nat → Int32) → Int32 → Prop) (v2 : Int32) (v4 : Int32) (w0 : Int32) (Msa : Nat → Int32) (Msm : Nat → Int32) (Mso : Int32) (hr9 : ∀ (v2 : Int32) (v3 : Int32) (Msa : Nat → Int32) (Msm : Nat → Int32) (Mso : Int32), r9 v2 v3 Msa Msm Mso → GM zp l ze ({ frames := 2, cells := 0, slots := 0, locals := 43 } : Room) zs zm za zb zt zc D A 7 (pV (fun (u : (Nat → Int32) × (Nat → Int32) × Int32) => P u.1 u.2.1 u.2.2)) (fun u : (Nat → Int32) × (Nat → Int32) × Int32 => (wfl [cM qa cI Mst Mhi Mhn Msl Msv Mpd Mln Mat Mit Mvf Mdn Mlf Mar u.1 u.2.1 u.2.2])) 0 0 0 0 (wfl [cM qa cI Mst Mhi Mhn Msl Msv Mpd Mln Mat Mit Mvf Mdn Mlf Mar Msa Msm Mso]) [(0, .ref (qa 0)), (1, .int x1), (2, .int v2), (3, .int v3)] 9 []) (h : wp_X6_layStops_109 P Mst Mvf x1 r9 v2 v4 w0 Msa Msm Mso) : GM zp l ze ({ frames := 2, cells := 0, slots := 0, locals := 43 } : Room) zs zm za zb zt zc D A 7 (pV (fun (u : (Nat → Int32) × (Nat → Int32) × Int32) => P u.1 u.2.1 u.2.2)) (fun u : (Nat → Int32) × (Nat → Int32) × Int32 => (wfl [cM qa cI Mst Mhi Mhn Msl Msv Mpd Mln Mat Mit Mvf Mdn Mlf Mar u.1 u.2.1 u.2.2])) 0 0 0 0 (wfl [cM qa cI Mst Mhi Mhn Msl Msv Mpd Mln Mat Mit Mvf Mdn Mlf Mar Msa Msm Mso]) [(0, .ref (qa 0)), (1, .int x1), (2, .int v2), (4, .int v4)] 109 [.int w0] := by
  unfold wp_X6_layStops_109 at h
  refine gw_istore_n (pc' := 110) κ dX6_layStops_109 rfl rfl (by decide) (lv' := [(3, .int w0), (0, .ref (qa 0)), (1, .int x1), (2, .int v2), (4, .int v4)]) rfl ?_
  refine gw_iload_n (pc' := 111) κ dX6_layStops_110 rfl 0 rfl rfl ?_
  refine gw_if_eq (pc' := 114) (tgt := 230) κ dX6_layStops_111 rfl (by decide) (fun hc_11 => ?_) (fun hc_11 => ?_)
  · have h := h.1 hc_11
    refine gw_goto (tgt := 9) κ dX6_layStops_230 (by decide) ?_
    refine gw_lv (lv' := [(0, .ref (qa 0)), (1, .int x1), (2, .int v2), (3, .int w0)]) [1, 2, 3, 0] rfl ?_
    exact hr9 v2 w0 Msa Msm Mso h
  · have h := h.2 hc_11
    refine gw_aload_n (pc' := 115) κ dX6_layStops_114 rfl 1 rfl rfl ?_
    refine gb_get (pc' := 118) (C := RX6) (T := TX6) (N := 16) κ dX6_layStops_115 rfl inX6 0 rfl rfl rfl 15 (by decide) tw_fl_X6_82 rfl ?_
    refine gw_if_ne (pc' := 121) (tgt := 134) κ dX6_layStops_118 rfl (by decide) (fun hc_12 => ?_) (fun hc_12 => ?_)
    · have h := h.1 hc_12
      refine gw_iload (pc' := 136) κ dX6_layStops_134 rfl 4 rfl ?_
      refine gw_bipush (pc' := 138) (v := 100) κ dX6_layStops_136 rfl (by decide) ?_
      refine gw_idiv (pc' := 139) κ dX6_layStops_138 rfl (by decide) ?_
      refine gw_iload_n (pc' := 140) κ dX6_layStops_139 rfl 3 rfl rfl ?_
      refine gw_bipush (pc' := 142) (v := 100) κ dX6_layStops_140 rfl (by decide) ?_
      refine gw_idiv (pc' := 143) κ dX6_layStops_142 rfl (by decide) ?_
      refine gw_icmp_ne (pc' := 146) (tgt := 150) κ dX6_layStops_143 rfl (by decide) (fun hc_13 => ?_) (fun hc_13 => ?_)
      · have h := h.1 hc_13
        refine gw_iconst (pc' := 151) (v := 5) κ dX6_layStops_150 rfl (by decide) ?_
        refine gw_iload (pc' := 153) κ dX6_layStops_151 rfl 4 rfl ?_
        refine gw_bipush (pc' := 155) (v := 100) κ dX6_layStops_153 rfl (by decide) ?_
        refine gw_idiv (pc' := 156) κ dX6_layStops_155 rfl (by decide) ?_
        refine gw_iload_n (pc' := 157) κ dX6_layStops_156 rfl 3 rfl rfl ?_
        refine gw_bipush (pc' := 159) (v := 100) κ dX6_layStops_157 rfl (by decide) ?_
        refine gw_idiv (pc' := 160) κ dX6_layStops_159 rfl (by decide) ?_
        refine gw_isub (pc' := 161) κ dX6_layStops_160 rfl  ?_
        refine gw_imul (pc' := 162) κ dX6_layStops_161 rfl  ?_
        refine gw_lv (lv' := [(0, .ref (qa 0)), (1, .int x1), (3, .int w0), (4, .int v4)]) [1, 2, 0, 4] rfl ?_
        exact k_X6_layStops_162 κ qa P Mst Mhi Mhn Msl Msv Mpd Mln Mat Mit Mvf Mdn Mlf Mar x1 r9 w0 v4 ((5 : Int32) * ((v4 / (100 : Int32)) - (v2 / (100 : Int32)))) Msa Msm Mso hr9 h
      · have h := h.2 hc_13
        refine gw_iconst (pc' := 147) (v := 3) κ dX6_layStops_146 rfl (by decide) ?_
        refine gw_goto (tgt := 162) κ dX6_layStops_147 (by decide) ?_
        refine gw_lv (lv' := [(0, .ref (qa 0)), (1, .int x1), (3, .int w0), (4, .int v4)]) [1, 2, 0, 4] rfl ?_
        exact k_X6_layStops_162 κ qa P Mst Mhi Mhn Msl Msv Mpd Mln Mat Mit Mvf Mdn Mlf Mar x1 r9 w0 v4 (3 : Int32) Msa Msm Mso hr9 h
    · have h := h.2 hc_12
      refine gw_bipush (pc' := 123) (v := 10) κ dX6_layStops_121 rfl (by decide) ?_
      refine gw_iconst (pc' := 124) (v := 5) κ dX6_layStops_123 rfl (by decide) ?_
      refine gw_iload (pc' := 126) κ dX6_layStops_124 rfl 4 rfl ?_
      refine gw_bipush (pc' := 128) (v := 100) κ dX6_layStops_126 rfl (by decide) ?_
      refine gw_idiv (pc' := 129) κ dX6_layStops_128 rfl (by decide) ?_
      refine gw_imul (pc' := 130) κ dX6_layStops_129 rfl  ?_
      refine gw_iadd (pc' := 131) κ dX6_layStops_130 rfl  ?_
      refine gw_goto (tgt := 162) κ dX6_layStops_131 (by decide) ?_
      refine gw_lv (lv' := [(0, .ref (qa 0)), (1, .int x1), (3, .int w0), (4, .int v4)]) [1, 2, 0, 4] rfl ?_
      exact k_X6_layStops_162 κ qa P Mst Mhi Mhn Msl Msv Mpd Mln Mat Mit Mvf Mdn Mlf Mar x1 r9 w0 v4 ((10 : Int32) + ((5 : Int32) * (v4 / (100 : Int32)))) Msa Msm Mso hr9 h
set_option maxHeartbeats 4000000 in
set_option maxRecDepth 100000 in
theorem k_X6_layStops_21 {zp : Program} {l : Launch} {ze : Env} {zs : State} {zm : MethodId} {za : Array Value} {zb : List Frame} {zt : Method} {zc : Code} {D : va_G} {cI cR : ClassId} {A : Nat → Prop} (κ : KC zp zs zm za zt zc cX6_layStops 7 RX6 D cI cR A none) (qa : Nat → Nat) (P : (Nat → Int32) → (Nat → Int32) → Int32 → Prop) (Mst : Nat → Int32) (Mhi : Nat → Int32) (Mhn : Int32) (Msl : Nat → Int32) (Msv : Nat → Int32) (Mpd : Nat → Int32) (Mln : Int32) (Mat : Int32) (Mit : Nat → Int32) (Mvf : Nat → Int32) (Mdn : Nat → Int32) (Mlf : Nat → Int32) (Mar : Nat → Int32) (x1 : Int32) (r9 : Int32 → Int32 → (Nat → Int32) → (Nat → Int32) → Int32 → Prop) (v2 : Int32) (Msa : Nat → Int32) (Msm : Nat → Int32) (Mso : Int32) (hr9 : ∀ (v2 : Int32) (v3 : Int32) (Msa : Nat → Int32) (Msm : Nat → Int32) (Mso : Int32), r9 v2 v3 Msa Msm Mso → GM zp l ze ({ frames := 2, cells := 0, slots := 0, locals := 43 } : Room) zs zm za zb zt zc D A 7 (pV (fun (u : (Nat → Int32) × (Nat → Int32) × Int32) => P u.1 u.2.1 u.2.2)) (fun u : (Nat → Int32) × (Nat → Int32) × Int32 => (wfl [cM qa cI Mst Mhi Mhn Msl Msv Mpd Mln Mat Mit Mvf Mdn Mlf Mar u.1 u.2.1 u.2.2])) 0 0 0 0 (wfl [cM qa cI Mst Mhi Mhn Msl Msv Mpd Mln Mat Mit Mvf Mdn Mlf Mar Msa Msm Mso]) [(0, .ref (qa 0)), (1, .int x1), (2, .int v2), (3, .int v3)] 9 []) : ∀ (n : Nat) (v4 : Int32) (v5 : Int32), wp_X6_layStops_21 P Mst Mvf x1 r9 v2 Msa Msm Mso n v4 v5 → GM zp l ze ({ frames := 2, cells := 0, slots := 0, locals := 43 } : Room) zs zm za zb zt zc D A 7 (pV (fun (u : (Nat → Int32) × (Nat → Int32) × Int32) => P u.1 u.2.1 u.2.2)) (fun u : (Nat → Int32) × (Nat → Int32) × Int32 => (wfl [cM qa cI Mst Mhi Mhn Msl Msv Mpd Mln Mat Mit Mvf Mdn Mlf Mar u.1 u.2.1 u.2.2])) 0 0 0 0 (wfl [cM qa cI Mst Mhi Mhn Msl Msv Mpd Mln Mat Mit Mvf Mdn Mlf Mar Msa Msm Mso]) [(0, .ref (qa 0)), (1, .int x1), (2, .int v2), (4, .int v4), (5, .int v5)] 21 [] := by
  intro n21
  induction n21 with
  | zero => intro v4 v5 h; exact (show False from h).elim
  | succ n21 ih21 =>
    intro v4 v5 h
    have h : wp_X6_layStops_21F P Mst Mvf x1 r9 v2 Msa Msm Mso (wp_X6_layStops_21 P Mst Mvf x1 r9 v2 Msa Msm Mso n21) v4 v5 := h
    unfold wp_X6_layStops_21F at h
    refine gw_iload (pc' := 23) κ dX6_layStops_21 rfl 4 rfl ?_
    refine gw_aload_n (pc' := 24) κ dX6_layStops_23 rfl 0 rfl rfl ?_
    refine gb_get (pc' := 27) (C := RX6) (T := TX6) (N := 16) κ dX6_layStops_24 rfl inX6 0 rfl rfl rfl 0 (by decide) tw_fl_X6_7 rfl ?_
    refine gw_bipush (pc' := 29) (v := 33) κ dX6_layStops_27 rfl (by decide) ?_
    refine gb_iald (pc' := 30) κ dX6_layStops_29 rfl 0 1 rfl rfl (by unfold vp_in; decide) ?_
    refine gw_icmp_ge (pc' := 33) (tgt := 96) κ dX6_layStops_30 rfl (by decide) (fun hc_3 => ?_) (fun hc_3 => ?_)
    · have h := h.1 hc_3
      refine gw_iload (pc' := 98) κ dX6_layStops_96 rfl 3 rfl ?_
      refine gw_sipush (pc' := 101) (v := 1000) κ dX6_layStops_98 rfl (by decide) ?_
      refine gw_icmp_ge (pc' := 104) (tgt := 108) κ dX6_layStops_101 rfl (by decide) (fun hc_4 => ?_) (fun hc_4 => ?_)
      · have h := h.1 hc_4
        refine gw_iconst (pc' := 109) (v := 0) κ dX6_layStops_108 rfl (by decide) ?_
        refine gw_lv (lv' := [(0, .ref (qa 0)), (1, .int x1), (2, .int v2), (4, .int v4)]) [0, 1, 2, 3] rfl ?_
        exact k_X6_layStops_109 κ qa P Mst Mhi Mhn Msl Msv Mpd Mln Mat Mit Mvf Mdn Mlf Mar x1 r9 v2 v4 (0 : Int32) Msa Msm Mso hr9 h
      · have h := h.2 hc_4
        refine gw_iconst (pc' := 105) (v := 1) κ dX6_layStops_104 rfl (by decide) ?_
        refine gw_goto (tgt := 109) κ dX6_layStops_105 (by decide) ?_
        refine gw_lv (lv' := [(0, .ref (qa 0)), (1, .int x1), (2, .int v2), (4, .int v4)]) [0, 1, 2, 3] rfl ?_
        exact k_X6_layStops_109 κ qa P Mst Mhi Mhn Msl Msv Mpd Mln Mat Mit Mvf Mdn Mlf Mar x1 r9 v2 v4 (1 : Int32) Msa Msm Mso hr9 h
    · have h := h.2 hc_3
      refine gw_aload_n (pc' := 34) κ dX6_layStops_33 rfl 0 rfl rfl ?_
      refine gb_get (pc' := 37) (C := RX6) (T := TX6) (N := 16) κ dX6_layStops_34 rfl inX6 0 rfl rfl rfl 9 (by decide) tw_fl_X6_28 rfl ?_
      refine gw_iload (pc' := 39) κ dX6_layStops_37 rfl 4 rfl ?_
      obtain ⟨hb_5, h⟩ := h
      refine gb_iald (pc' := 40) κ dX6_layStops_39 rfl 0 7 rfl rfl hb_5 ?_
      refine gw_iload_n (pc' := 41) κ dX6_layStops_40 rfl 1 rfl rfl ?_
      refine gw_icmp_ne (pc' := 44) (tgt := 69) κ dX6_layStops_41 rfl (by decide) (fun hc_6 => ?_) (fun hc_6 => ?_)
      · have h := h.1 hc_6
        refine gw_iconst (pc' := 70) (v := 0) κ dX6_layStops_69 rfl (by decide) ?_
        refine gw_lv (lv' := [(0, .ref (qa 0)), (1, .int x1), (2, .int v2), (4, .int v4), (5, .int v5)]) [0, 1, 2, 3, 4] rfl ?_
        exact k_X6_layStops_70 κ qa P Mst Mhi Mhn Msl Msv Mpd Mln Mat Mit Mvf Mdn Mlf Mar x1 r9 (wp_X6_layStops_21 P Mst Mvf x1 r9 v2 Msa Msm Mso n21) v2 v4 v5 (0 : Int32) Msa Msm Mso hr9 ih21 h
      · have h := h.2 hc_6
        refine gw_aload_n (pc' := 45) κ dX6_layStops_44 rfl 0 rfl rfl ?_
        refine gw_iload (pc' := 47) κ dX6_layStops_45 rfl 4 rfl ?_
        refine gb_callV (ci := 6) (qb := 0) (rest := []) κ (c_X6_keyOf qa Mst Mhi Mhn Msl Msv Mpd Mln Mat Mit Mvf Mdn Mlf Mar Msa Msm Mso v5 h) ⟨rfl, rfl, Nat.le_of_ble_eq_true rfl, Nat.le_of_ble_eq_true rfl⟩ tw_ml_X6_85 tw_im_X6_keyOf tw_se_X6_keyOf tw_co_X6_keyOf tw_in_X6 hy_X6_keyOf rfl rfl rfl rfl rfl (Nat.le_of_ble_eq_true rfl) rfl dX6_layStops_47 [0] rfl (by decide) (fun _ => Nat.le_of_ble_eq_true rfl) ⟨Nat.le_of_ble_eq_true rfl, Nat.le_of_ble_eq_true rfl⟩ (fun v u hv => ?_)
        obtain ⟨r_7, rfl, h⟩ := hv
        refine gw_nf (ws' := (wfl [cM qa cI Mst Mhi Mhn Msl Msv Mpd Mln Mat Mit Mvf Mdn Mlf Mar Msa Msm Mso])) (lv' := [(0, .ref (qa 0)), (1, .int x1), (2, .int v2), (4, .int v4), (5, .int v5)]) (st' := [.int r_7]) (pc' := 50) (ce' := 0) (sl' := 0) rfl rfl rfl rfl rfl rfl ?_
        refine gw_iload_n (pc' := 51) κ dX6_layStops_50 rfl 2 rfl rfl ?_
        refine gw_icmp_le (pc' := 54) (tgt := 69) κ dX6_layStops_51 rfl (by decide) (fun hc_8 => ?_) (fun hc_8 => ?_)
        · have h := h.1 hc_8
          refine gw_iconst (pc' := 70) (v := 0) κ dX6_layStops_69 rfl (by decide) ?_
          refine gw_lv (lv' := [(0, .ref (qa 0)), (1, .int x1), (2, .int v2), (4, .int v4), (5, .int v5)]) [0, 1, 2, 3, 4] rfl ?_
          exact k_X6_layStops_70 κ qa P Mst Mhi Mhn Msl Msv Mpd Mln Mat Mit Mvf Mdn Mlf Mar x1 r9 (wp_X6_layStops_21 P Mst Mvf x1 r9 v2 Msa Msm Mso n21) v2 v4 v5 (0 : Int32) Msa Msm Mso hr9 ih21 h
        · have h := h.2 hc_8
          refine gw_aload_n (pc' := 55) κ dX6_layStops_54 rfl 0 rfl rfl ?_
          refine gw_iload (pc' := 57) κ dX6_layStops_55 rfl 4 rfl ?_
          refine gb_callV (ci := 6) (qb := 0) (rest := []) κ (c_X6_keyOf qa Mst Mhi Mhn Msl Msv Mpd Mln Mat Mit Mvf Mdn Mlf Mar Msa Msm Mso v5 h) ⟨rfl, rfl, Nat.le_of_ble_eq_true rfl, Nat.le_of_ble_eq_true rfl⟩ tw_ml_X6_85 tw_im_X6_keyOf tw_se_X6_keyOf tw_co_X6_keyOf tw_in_X6 hy_X6_keyOf rfl rfl rfl rfl rfl (Nat.le_of_ble_eq_true rfl) rfl dX6_layStops_57 [0] rfl (by decide) (fun _ => Nat.le_of_ble_eq_true rfl) ⟨Nat.le_of_ble_eq_true rfl, Nat.le_of_ble_eq_true rfl⟩ (fun v u hv => ?_)
          obtain ⟨r_9, rfl, h⟩ := hv
          refine gw_nf (ws' := (wfl [cM qa cI Mst Mhi Mhn Msl Msv Mpd Mln Mat Mit Mvf Mdn Mlf Mar Msa Msm Mso])) (lv' := [(0, .ref (qa 0)), (1, .int x1), (2, .int v2), (4, .int v4), (5, .int v5)]) (st' := [.int r_9]) (pc' := 60) (ce' := 0) (sl' := 0) rfl rfl rfl rfl rfl rfl ?_
          refine gw_iload (pc' := 62) κ dX6_layStops_60 rfl 3 rfl ?_
          refine gw_icmp_ge (pc' := 65) (tgt := 69) κ dX6_layStops_62 rfl (by decide) (fun hc_10 => ?_) (fun hc_10 => ?_)
          · have h := h.1 hc_10
            refine gw_iconst (pc' := 70) (v := 0) κ dX6_layStops_69 rfl (by decide) ?_
            refine gw_lv (lv' := [(0, .ref (qa 0)), (1, .int x1), (2, .int v2), (4, .int v4), (5, .int v5)]) [0, 1, 2, 3, 4] rfl ?_
            exact k_X6_layStops_70 κ qa P Mst Mhi Mhn Msl Msv Mpd Mln Mat Mit Mvf Mdn Mlf Mar x1 r9 (wp_X6_layStops_21 P Mst Mvf x1 r9 v2 Msa Msm Mso n21) v2 v4 v5 (0 : Int32) Msa Msm Mso hr9 ih21 h
          · have h := h.2 hc_10
            refine gw_iconst (pc' := 66) (v := 1) κ dX6_layStops_65 rfl (by decide) ?_
            refine gw_goto (tgt := 70) κ dX6_layStops_66 (by decide) ?_
            refine gw_lv (lv' := [(0, .ref (qa 0)), (1, .int x1), (2, .int v2), (4, .int v4), (5, .int v5)]) [0, 1, 2, 3, 4] rfl ?_
            exact k_X6_layStops_70 κ qa P Mst Mhi Mhn Msl Msv Mpd Mln Mat Mit Mvf Mdn Mlf Mar x1 r9 (wp_X6_layStops_21 P Mst Mvf x1 r9 v2 Msa Msm Mso n21) v2 v4 v5 (1 : Int32) Msa Msm Mso hr9 ih21 h
set_option maxHeartbeats 4000000 in
set_option maxRecDepth 100000 in
theorem k_X6_layStops_9 {zp : Program} {l : Launch} {ze : Env} {zs : State} {zm : MethodId} {za : Array Value} {zb : List Frame} {zt : Method} {zc : Code} {D : va_G} {cI cR : ClassId} {A : Nat → Prop} (κ : KC zp zs zm za zt zc cX6_layStops 7 RX6 D cI cR A none) (qa : Nat → Nat) (P : (Nat → Int32) → (Nat → Int32) → Int32 → Prop) (Mst : Nat → Int32) (Mhi : Nat → Int32) (Mhn : Int32) (Msl : Nat → Int32) (Msv : Nat → Int32) (Mpd : Nat → Int32) (Mln : Int32) (Mat : Int32) (Mit : Nat → Int32) (Mvf : Nat → Int32) (Mdn : Nat → Int32) (Mlf : Nat → Int32) (Mar : Nat → Int32) (x1 : Int32) : ∀ (n : Nat) (v2 : Int32) (v3 : Int32) (Msa : Nat → Int32) (Msm : Nat → Int32) (Mso : Int32), wp_X6_layStops_9 P Mst Mvf x1 n v2 v3 Msa Msm Mso → GM zp l ze ({ frames := 2, cells := 0, slots := 0, locals := 43 } : Room) zs zm za zb zt zc D A 7 (pV (fun (u : (Nat → Int32) × (Nat → Int32) × Int32) => P u.1 u.2.1 u.2.2)) (fun u : (Nat → Int32) × (Nat → Int32) × Int32 => (wfl [cM qa cI Mst Mhi Mhn Msl Msv Mpd Mln Mat Mit Mvf Mdn Mlf Mar u.1 u.2.1 u.2.2])) 0 0 0 0 (wfl [cM qa cI Mst Mhi Mhn Msl Msv Mpd Mln Mat Mit Mvf Mdn Mlf Mar Msa Msm Mso]) [(0, .ref (qa 0)), (1, .int x1), (2, .int v2), (3, .int v3)] 9 [] := by
  intro n9
  induction n9 with
  | zero => intro v2 v3 Msa Msm Mso h; exact (show False from h).elim
  | succ n9 ih9 =>
    intro v2 v3 Msa Msm Mso h
    have h : wp_X6_layStops_9F P Mst Mvf x1 (wp_X6_layStops_9 P Mst Mvf x1 n9) v2 v3 Msa Msm Mso := h
    unfold wp_X6_layStops_9F at h
    refine gw_iload_n (pc' := 10) κ dX6_layStops_9 rfl 3 rfl rfl ?_
    refine gw_if_eq (pc' := 13) (tgt := 233) κ dX6_layStops_10 rfl (by decide) (fun hc_1 => ?_) (fun hc_1 => ?_)
    · have h := h.1 hc_1
      exact gw_vret κ dX6_layStops_233 (Msa, Msm, Mso) rfl ⟨rfl, h⟩
    · have h := h.2 hc_1
      refine gw_sipush (pc' := 16) (v := 1000) κ dX6_layStops_13 rfl (by decide) ?_
      refine gw_istore (pc' := 18) κ dX6_layStops_16 rfl (by decide) (lv' := [(4, .int (1000 : Int32)), (0, .ref (qa 0)), (1, .int x1), (2, .int v2), (3, .int v3)]) rfl ?_
      refine gw_iconst (pc' := 19) (v := 0) κ dX6_layStops_18 rfl (by decide) ?_
      refine gw_istore (pc' := 21) κ dX6_layStops_19 rfl (by decide) (lv' := [(5, .int (0 : Int32)), (4, .int (1000 : Int32)), (0, .ref (qa 0)), (1, .int x1), (2, .int v2), (3, .int v3)]) rfl ?_
      obtain ⟨m21, h⟩ := h
      refine gw_lv (lv' := [(0, .ref (qa 0)), (1, .int x1), (2, .int v2), (4, .int (1000 : Int32)), (5, .int (0 : Int32))]) [2, 3, 4, 1, 0] rfl ?_
      exact k_X6_layStops_21 κ qa P Mst Mhi Mhn Msl Msv Mpd Mln Mat Mit Mvf Mdn Mlf Mar x1 (wp_X6_layStops_9 P Mst Mvf x1 n9) v2 Msa Msm Mso ih9 m21 (1000 : Int32) (0 : Int32) h
set_option maxHeartbeats 4000000 in
set_option maxRecDepth 100000 in
theorem c_X6_layStops {l : Launch} {D : va_G} {cI cR : ClassId}  (qa : Nat → Nat) {P : (Nat → Int32) → (Nat → Int32) → Int32 → Prop} (Mst : Nat → Int32) (Mhi : Nat → Int32) (Mhn : Int32) (Msl : Nat → Int32) (Msv : Nat → Int32) (Mpd : Nat → Int32) (Mln : Int32) (Mat : Int32) (Mit : Nat → Int32) (Mvf : Nat → Int32) (Mdn : Nat → Int32) (Mlf : Nat → Int32) (Mar : Nat → Int32) (Msa : Nat → Int32) (Msm : Nat → Int32) (Mso : Int32) (x1 : Int32) (h : wp_X6_layStops P Mst Mvf Msa Msm Mso x1) : CT l D cI cR yX6_layStops cX6_layStops 7 none ({ frames := 2, cells := 0, slots := 0, locals := 43 } : Room) [.ref (qa 0), .int x1] (wfl [cM qa cI Mst Mhi Mhn Msl Msv Mpd Mln Mat Mit Mvf Mdn Mlf Mar Msa Msm Mso]) (fun u : (Nat → Int32) × (Nat → Int32) × Int32 => (wfl [cM qa cI Mst Mhi Mhn Msl Msv Mpd Mln Mat Mit Mvf Mdn Mlf Mar u.1 u.2.1 u.2.2])) (pV (fun (u : (Nat → Int32) × (Nat → Int32) × Int32) => P u.1 u.2.1 u.2.2)) 0 0 := by
  refine ct_of RX6 rfl (by decide +kernel) (Nat.le_of_ble_eq_true rfl) (fun zp ze zs zm zb zt zc A hin κ => ?_)
  unfold wp_X6_layStops at h
  refine gw_nf (lv' := [(0, .ref (qa 0)), (1, .int x1)]) (pc' := 0) (st' := []) (ce' := 0) (sl' := 0) rfl rfl rfl rfl rfl rfl ?_
  refine gw_aload_n (pc' := 1) κ dX6_layStops_0 rfl 0 rfl rfl ?_
  refine gw_iconst (pc' := 2) (v := 0) κ dX6_layStops_1 rfl (by decide) ?_
  refine gb_put (pc' := 5) (C := RX6) (T := TX6) (N := 16) (ty := .int) (bs' := [cM qa cI Mst Mhi Mhn Msl Msv Mpd Mln Mat Mit Mvf Mdn Mlf Mar Msa Msm (0 : Int32)]) κ dX6_layStops_2 rfl inX6 tyX6 tyX6_ok nmX6 0 rfl rfl rfl 15 (by decide) tw_fl_X6_82 rfl (by decide +kernel) rfl rfl (Nat.le_of_ble_eq_true rfl) rfl ?_
  refine gw_iconst (pc' := 6) (v := -1) κ dX6_layStops_5 rfl (by decide) ?_
  refine gw_istore_n (pc' := 7) κ dX6_layStops_6 rfl rfl (by decide) (lv' := [(2, .int (-1 : Int32)), (0, .ref (qa 0)), (1, .int x1)]) rfl ?_
  refine gw_iconst (pc' := 8) (v := 1) κ dX6_layStops_7 rfl (by decide) ?_
  refine gw_istore_n (pc' := 9) κ dX6_layStops_8 rfl rfl (by decide) (lv' := [(3, .int (1 : Int32)), (2, .int (-1 : Int32)), (0, .ref (qa 0)), (1, .int x1)]) rfl ?_
  obtain ⟨m9, h⟩ := h
  refine gw_lv (lv' := [(0, .ref (qa 0)), (1, .int x1), (2, .int (-1 : Int32)), (3, .int (1 : Int32))]) [2, 3, 1, 0] rfl ?_
  exact k_X6_layStops_9 κ qa P Mst Mhi Mhn Msl Msv Mpd Mln Mat Mit Mvf Mdn Mlf Mar x1 m9 (-1 : Int32) (1 : Int32) Msa Msm (0 : Int32) h
theorem hy_X6_minuteAt : g_hy yX6_minuteAt 2 := by decide +kernel
set_option maxHeartbeats 4000000 in
set_option maxRecDepth 100000 in
theorem k_X6_minuteAt_7 {zp : Program} {l : Launch} {ze : Env} {zs : State} {zm : MethodId} {za : Array Value} {zb : List Frame} {zt : Method} {zc : Code} {D : va_G} {cI cR : ClassId} {A : Nat → Prop} (κ : KC zp zs zm za zt zc cX6_minuteAt 4 RX6 D cI cR A (some .int)) (qa : Nat → Nat) (P : Int32 → (Nat → Int32) → (Nat → Int32) → Int32 → Prop) (Mst : Nat → Int32) (Mhi : Nat → Int32) (Mhn : Int32) (Msl : Nat → Int32) (Msv : Nat → Int32) (Mpd : Nat → Int32) (Mln : Int32) (Mat : Int32) (Mit : Nat → Int32) (Mvf : Nat → Int32) (Mdn : Nat → Int32) (Mlf : Nat → Int32) (Mar : Nat → Int32) (x1 : Int32) (x2 : Int32) (Msa : Nat → Int32) (Msm : Nat → Int32) (Mso : Int32) : ∀ (n : Nat) (v3 : Int32), wp_X6_minuteAt_7 P Mst Mvf x1 x2 Msa Msm Mso n v3 → GM zp l ze ({ frames := 3, cells := 0, slots := 0, locals := 69 } : Room) zs zm za zb zt zc D A 4 (pI (fun (r : Int32) (u : (Nat → Int32) × (Nat → Int32) × Int32) => P r u.1 u.2.1 u.2.2)) (fun u : (Nat → Int32) × (Nat → Int32) × Int32 => (wfl [cM qa cI Mst Mhi Mhn Msl Msv Mpd Mln Mat Mit Mvf Mdn Mlf Mar u.1 u.2.1 u.2.2])) 0 0 0 0 (wfl [cM qa cI Mst Mhi Mhn Msl Msv Mpd Mln Mat Mit Mvf Mdn Mlf Mar Msa Msm Mso]) [(0, .ref (qa 0)), (2, .int x2), (3, .int v3)] 7 [] := by
  intro n7
  induction n7 with
  | zero => intro v3 h; exact (show False from h).elim
  | succ n7 ih7 =>
    intro v3 h
    have h : wp_X6_minuteAt_7F P Mst Mvf x1 x2 Msa Msm Mso (wp_X6_minuteAt_7 P Mst Mvf x1 x2 Msa Msm Mso n7) v3 := h
    unfold wp_X6_minuteAt_7F at h
    refine gw_aload_n (pc' := 8) κ dX6_minuteAt_7 rfl 0 rfl rfl ?_
    refine gb_get (pc' := 11) (C := RX6) (T := TX6) (N := 16) κ dX6_minuteAt_8 rfl inX6 0 rfl rfl rfl 13 (by decide) tw_fl_X6_40 rfl ?_
    refine gw_iload_n (pc' := 12) κ dX6_minuteAt_11 rfl 2 rfl rfl ?_
    obtain ⟨hb_4, h⟩ := h
    refine gb_iald (pc' := 13) κ dX6_minuteAt_12 rfl 0 11 rfl rfl hb_4 ?_
    refine gw_iload_n (pc' := 14) κ dX6_minuteAt_13 rfl 1 rfl rfl ?_
    refine gw_icmp_eq (pc' := 17) (tgt := 23) κ dX6_minuteAt_14 rfl (by decide) (fun hc_5 => ?_) (fun hc_5 => ?_)
    · have h := h.1 hc_5
      refine gw_aload_n (pc' := 24) κ dX6_minuteAt_23 rfl 0 rfl rfl ?_
      refine gb_get (pc' := 27) (C := RX6) (T := TX6) (N := 16) κ dX6_minuteAt_24 rfl inX6 0 rfl rfl rfl 14 (by decide) tw_fl_X6_43 rfl ?_
      refine gw_iload_n (pc' := 28) κ dX6_minuteAt_27 rfl 2 rfl rfl ?_
      obtain ⟨hb_6, h⟩ := h
      refine gb_iald (pc' := 29) κ dX6_minuteAt_28 rfl 0 12 rfl rfl hb_6 ?_
      exact gw_iret κ dX6_minuteAt_29 (Msa, Msm, Mso) rfl ⟨_, rfl, h⟩
    · have h := h.2 hc_5
      refine gw_iinc (pc' := 20) κ dX6_minuteAt_17 rfl 2 rfl (v := (v3 + 1)) rfl (by decide) (lv' := [(3, .int (v3 + 1)), (0, .ref (qa 0)), (2, .int x2)]) rfl ?_
      refine gw_goto (tgt := 7) κ dX6_minuteAt_20 (by decide) ?_
      refine gw_lv (lv' := [(0, .ref (qa 0)), (2, .int x2), (3, .int (v3 + 1))]) [1, 2, 0] rfl ?_
      exact ih7 (v3 + 1) h
set_option maxHeartbeats 4000000 in
set_option maxRecDepth 100000 in
theorem c_X6_minuteAt {l : Launch} {D : va_G} {cI cR : ClassId}  (qa : Nat → Nat) {P : Int32 → (Nat → Int32) → (Nat → Int32) → Int32 → Prop} (Mst : Nat → Int32) (Mhi : Nat → Int32) (Mhn : Int32) (Msl : Nat → Int32) (Msv : Nat → Int32) (Mpd : Nat → Int32) (Mln : Int32) (Mat : Int32) (Mit : Nat → Int32) (Mvf : Nat → Int32) (Mdn : Nat → Int32) (Mlf : Nat → Int32) (Mar : Nat → Int32) (Msa : Nat → Int32) (Msm : Nat → Int32) (Mso : Int32) (x1 : Int32) (x2 : Int32) (h : wp_X6_minuteAt P Mst Mvf Msa Msm Mso x1 x2) : CT l D cI cR yX6_minuteAt cX6_minuteAt 4 (some .int) ({ frames := 3, cells := 0, slots := 0, locals := 69 } : Room) [.ref (qa 0), .int x1, .int x2] (wfl [cM qa cI Mst Mhi Mhn Msl Msv Mpd Mln Mat Mit Mvf Mdn Mlf Mar Msa Msm Mso]) (fun u : (Nat → Int32) × (Nat → Int32) × Int32 => (wfl [cM qa cI Mst Mhi Mhn Msl Msv Mpd Mln Mat Mit Mvf Mdn Mlf Mar u.1 u.2.1 u.2.2])) (pI (fun (r : Int32) (u : (Nat → Int32) × (Nat → Int32) × Int32) => P r u.1 u.2.1 u.2.2)) 0 0 := by
  refine ct_of RX6 rfl (by decide +kernel) (Nat.le_of_ble_eq_true rfl) (fun zp ze zs zm zb zt zc A hin κ => ?_)
  unfold wp_X6_minuteAt at h
  refine gw_nf (lv' := [(0, .ref (qa 0)), (1, .int x1), (2, .int x2)]) (pc' := 0) (st' := []) (ce' := 0) (sl' := 0) rfl rfl rfl rfl rfl rfl ?_
  refine gw_aload_n (pc' := 1) κ dX6_minuteAt_0 rfl 0 rfl rfl ?_
  refine gw_iload_n (pc' := 2) κ dX6_minuteAt_1 rfl 1 rfl rfl ?_
  refine gb_callV (ci := 6) (qb := 0) (rest := []) κ (c_X6_layStops qa Mst Mhi Mhn Msl Msv Mpd Mln Mat Mit Mvf Mdn Mlf Mar Msa Msm Mso x1 h) ⟨rfl, rfl, Nat.le_of_ble_eq_true rfl, Nat.le_of_ble_eq_true rfl⟩ tw_ml_X6_88 tw_im_X6_layStops tw_se_X6_layStops tw_co_X6_layStops tw_in_X6 hy_X6_layStops rfl rfl rfl rfl rfl (Nat.le_of_ble_eq_true rfl) rfl dX6_minuteAt_2 [0] rfl (by decide) (fun _ => Nat.le_of_ble_eq_true rfl) ⟨Nat.le_of_ble_eq_true rfl, Nat.le_of_ble_eq_true rfl⟩ (fun v u hv => ?_)
  obtain ⟨rfl, h⟩ := hv
  obtain ⟨Msa_1, Msm_2, Mso_3⟩ := u
  refine gw_nf (ws' := (wfl [cM qa cI Mst Mhi Mhn Msl Msv Mpd Mln Mat Mit Mvf Mdn Mlf Mar Msa_1 Msm_2 Mso_3])) (lv' := [(0, .ref (qa 0)), (1, .int x1), (2, .int x2)]) (st' := []) (pc' := 5) (ce' := 0) (sl' := 0) rfl rfl rfl rfl rfl rfl ?_
  refine gw_iconst (pc' := 6) (v := 0) κ dX6_minuteAt_5 rfl (by decide) ?_
  refine gw_istore_n (pc' := 7) κ dX6_minuteAt_6 rfl rfl (by decide) (lv' := [(3, .int (0 : Int32)), (0, .ref (qa 0)), (1, .int x1), (2, .int x2)]) rfl ?_
  obtain ⟨m7, h⟩ := h
  refine gw_lv (lv' := [(0, .ref (qa 0)), (2, .int x2), (3, .int (0 : Int32))]) [1, 3, 0] rfl ?_
  exact k_X6_minuteAt_7 κ qa P Mst Mhi Mhn Msl Msv Mpd Mln Mat Mit Mvf Mdn Mlf Mar x1 x2 Msa_1 Msm_2 Mso_3 m7 (0 : Int32) h
theorem hy_X6_isWith : g_hy yX6_isWith 3 := by decide +kernel
set_option maxHeartbeats 4000000 in
set_option maxRecDepth 100000 in
theorem c_X6_isWith {l : Launch} {D : va_G} {cI cR : ClassId}  (qa : Nat → Nat) {P : Int32 → Prop} (Mst : Nat → Int32) (Mhi : Nat → Int32) (Mhn : Int32) (Msl : Nat → Int32) (Msv : Nat → Int32) (Mpd : Nat → Int32) (Mln : Int32) (Mat : Int32) (Mit : Nat → Int32) (Mvf : Nat → Int32) (Mdn : Nat → Int32) (Mlf : Nat → Int32) (Mar : Nat → Int32) (Msa : Nat → Int32) (Msm : Nat → Int32) (Mso : Int32) (x1 : Int32) (x2 : Int32) (x3 : Int32) (h : wp_X6_isWith P Mst Mvf x1 x2 x3) : CT l D cI cR yX6_isWith cX6_isWith 4 (some .boolean) ({ frames := 2, cells := 0, slots := 0, locals := 43 } : Room) [.ref (qa 0), .int x1, .int x2, .int x3] (wfl [cM qa cI Mst Mhi Mhn Msl Msv Mpd Mln Mat Mit Mvf Mdn Mlf Mar Msa Msm Mso]) (fun _ : Unit => (wfl [cM qa cI Mst Mhi Mhn Msl Msv Mpd Mln Mat Mit Mvf Mdn Mlf Mar Msa Msm Mso])) (pI (fun (r : Int32) (_ : Unit) => P r)) 0 0 := by
  refine ct_of RX6 rfl (by decide +kernel) (Nat.le_of_ble_eq_true rfl) (fun zp ze zs zm zb zt zc A hin κ => ?_)
  unfold wp_X6_isWith at h
  refine gw_nf (lv' := [(0, .ref (qa 0)), (1, .int x1), (2, .int x2), (3, .int x3)]) (pc' := 0) (st' := []) (ce' := 0) (sl' := 0) rfl rfl rfl rfl rfl rfl ?_
  refine gw_aload_n (pc' := 1) κ dX6_isWith_0 rfl 0 rfl rfl ?_
  refine gb_get (pc' := 4) (C := RX6) (T := TX6) (N := 16) κ dX6_isWith_1 rfl inX6 0 rfl rfl rfl 9 (by decide) tw_fl_X6_28 rfl ?_
  refine gw_iload_n (pc' := 5) κ dX6_isWith_4 rfl 1 rfl rfl ?_
  obtain ⟨hb_1, h⟩ := h
  refine gb_iald (pc' := 6) κ dX6_isWith_5 rfl 0 7 rfl rfl hb_1 ?_
  refine gw_aload_n (pc' := 7) κ dX6_isWith_6 rfl 0 rfl rfl ?_
  refine gb_get (pc' := 10) (C := RX6) (T := TX6) (N := 16) κ dX6_isWith_7 rfl inX6 0 rfl rfl rfl 9 (by decide) tw_fl_X6_28 rfl ?_
  refine gw_iload_n (pc' := 11) κ dX6_isWith_10 rfl 2 rfl rfl ?_
  obtain ⟨hb_2, h⟩ := h
  refine gb_iald (pc' := 12) κ dX6_isWith_11 rfl 0 7 rfl rfl hb_2 ?_
  refine gw_icmp_ne (pc' := 15) (tgt := 36) κ dX6_isWith_12 rfl (by decide) (fun hc_3 => ?_) (fun hc_3 => ?_)
  · have h := h.1 hc_3
    refine gw_iconst (pc' := 37) (v := 0) κ dX6_isWith_36 rfl (by decide) ?_
    exact gw_zret κ dX6_isWith_37 () rfl rfl ⟨_, rfl, h⟩
  · have h := h.2 hc_3
    refine gw_iload_n (pc' := 16) κ dX6_isWith_15 rfl 3 rfl rfl ?_
    refine gw_if_eq (pc' := 19) (tgt := 32) κ dX6_isWith_16 rfl (by decide) (fun hc_4 => ?_) (fun hc_4 => ?_)
    · have h := h.1 hc_4
      refine gw_iconst (pc' := 33) (v := 1) κ dX6_isWith_32 rfl (by decide) ?_
      refine gw_goto (tgt := 37) κ dX6_isWith_33 (by decide) ?_
      exact gw_zret κ dX6_isWith_37 () rfl rfl ⟨_, rfl, h⟩
    · have h := h.2 hc_4
      refine gw_aload_n (pc' := 20) κ dX6_isWith_19 rfl 0 rfl rfl ?_
      refine gw_iload_n (pc' := 21) κ dX6_isWith_20 rfl 1 rfl rfl ?_
      refine gb_callV (ci := 6) (qb := 0) (rest := []) κ (c_X6_keyOf qa Mst Mhi Mhn Msl Msv Mpd Mln Mat Mit Mvf Mdn Mlf Mar Msa Msm Mso x1 h) ⟨rfl, rfl, Nat.le_of_ble_eq_true rfl, Nat.le_of_ble_eq_true rfl⟩ tw_ml_X6_85 tw_im_X6_keyOf tw_se_X6_keyOf tw_co_X6_keyOf tw_in_X6 hy_X6_keyOf rfl rfl rfl rfl rfl (Nat.le_of_ble_eq_true rfl) rfl dX6_isWith_21 [0] rfl (by decide) (fun _ => Nat.le_of_ble_eq_true rfl) ⟨Nat.le_of_ble_eq_true rfl, Nat.le_of_ble_eq_true rfl⟩ (fun v u hv => ?_)
      obtain ⟨r_5, rfl, h⟩ := hv
      refine gw_nf (ws' := (wfl [cM qa cI Mst Mhi Mhn Msl Msv Mpd Mln Mat Mit Mvf Mdn Mlf Mar Msa Msm Mso])) (lv' := [(0, .ref (qa 0)), (1, .int x1), (2, .int x2), (3, .int x3)]) (st' := [.int r_5]) (pc' := 24) (ce' := 0) (sl' := 0) rfl rfl rfl rfl rfl rfl ?_
      refine gw_aload_n (pc' := 25) κ dX6_isWith_24 rfl 0 rfl rfl ?_
      refine gw_iload_n (pc' := 26) κ dX6_isWith_25 rfl 2 rfl rfl ?_
      refine gb_callV (ci := 6) (qb := 0) (rest := [.int r_5]) κ (c_X6_keyOf qa Mst Mhi Mhn Msl Msv Mpd Mln Mat Mit Mvf Mdn Mlf Mar Msa Msm Mso x2 h) ⟨rfl, rfl, Nat.le_of_ble_eq_true rfl, Nat.le_of_ble_eq_true rfl⟩ tw_ml_X6_85 tw_im_X6_keyOf tw_se_X6_keyOf tw_co_X6_keyOf tw_in_X6 hy_X6_keyOf rfl rfl rfl rfl rfl (Nat.le_of_ble_eq_true rfl) rfl dX6_isWith_26 [0] rfl (by decide) (fun _ => Nat.le_of_ble_eq_true rfl) ⟨Nat.le_of_ble_eq_true rfl, Nat.le_of_ble_eq_true rfl⟩ (fun v u hv => ?_)
      obtain ⟨r_6, rfl, h⟩ := hv
      refine gw_nf (ws' := (wfl [cM qa cI Mst Mhi Mhn Msl Msv Mpd Mln Mat Mit Mvf Mdn Mlf Mar Msa Msm Mso])) (lv' := [(0, .ref (qa 0)), (1, .int x1), (2, .int x2), (3, .int x3)]) (st' := [.int r_6, .int r_5]) (pc' := 29) (ce' := 0) (sl' := 0) rfl rfl rfl rfl rfl rfl ?_
      refine gw_icmp_ne (pc' := 32) (tgt := 36) κ dX6_isWith_29 rfl (by decide) (fun hc_7 => ?_) (fun hc_7 => ?_)
      · have h := h.1 hc_7
        refine gw_iconst (pc' := 37) (v := 0) κ dX6_isWith_36 rfl (by decide) ?_
        exact gw_zret κ dX6_isWith_37 () rfl rfl ⟨_, rfl, h⟩
      · have h := h.2 hc_7
        refine gw_iconst (pc' := 33) (v := 1) κ dX6_isWith_32 rfl (by decide) ?_
        refine gw_goto (tgt := 37) κ dX6_isWith_33 (by decide) ?_
        exact gw_zret κ dX6_isWith_37 () rfl rfl ⟨_, rfl, h⟩
theorem hy_X6_part : g_hy yX6_part 3 := by decide +kernel
set_option maxHeartbeats 4000000 in
set_option maxRecDepth 100000 in
theorem k_X6_part_105 {zp : Program} {l : Launch} {ze : Env} {zs : State} {zm : MethodId} {za : Array Value} {zb : List Frame} {zt : Method} {zc : Code} {D : va_G} {cI cR : ClassId} {A : Nat → Prop} (κ : KC zp zs zm za zt zc cX6_part 9 RX6 D cI cR A (some .int)) (qa : Nat → Nat) (P : Int32 → Prop) (Mst : Nat → Int32) (Mhi : Nat → Int32) (Mhn : Int32) (Msl : Nat → Int32) (Msv : Nat → Int32) (Mpd : Nat → Int32) (Mln : Int32) (Mat : Int32) (Mit : Nat → Int32) (Mvf : Nat → Int32) (Mdn : Nat → Int32) (Mlf : Nat → Int32) (Mar : Nat → Int32) (Msa : Nat → Int32) (Msm : Nat → Int32) (Mso : Int32) (x1 : Int32) (x2 : Int32) (x3 : Int32) (r60 : Int32 → Int32 → Int32 → Prop) (v4 : Int32) (v6 : Int32) (v7 : Int32) (v8 : Int32) (w0 : Int32) (w1 : Int32) (hr60 : ∀ (v5 : Int32) (v6 : Int32) (v7 : Int32), r60 v5 v6 v7 → GM zp l ze ({ frames := 3, cells := 0, slots := 0, locals := 66 } : Room) zs zm za zb zt zc D A 9 (pI (fun (r : Int32) (_ : Unit) => P r)) (fun _ : Unit => (wfl [cM qa cI Mst Mhi Mhn Msl Msv Mpd Mln Mat Mit Mvf Mdn Mlf Mar Msa Msm Mso])) 0 0 0 0 (wfl [cM qa cI Mst Mhi Mhn Msl Msv Mpd Mln Mat Mit Mvf Mdn Mlf Mar Msa Msm Mso]) [(0, .ref (qa 0)), (1, .int x1), (2, .int x2), (3, .int x3), (4, .int v4), (5, .int v5), (6, .int v6), (7, .int v7)] 60 []) (h : wp_X6_part_105 P Mst Mvf x1 x2 x3 r60 v4 v6 v7 v8 w0 w1) : GM zp l ze ({ frames := 3, cells := 0, slots := 0, locals := 66 } : Room) zs zm za zb zt zc D A 9 (pI (fun (r : Int32) (_ : Unit) => P r)) (fun _ : Unit => (wfl [cM qa cI Mst Mhi Mhn Msl Msv Mpd Mln Mat Mit Mvf Mdn Mlf Mar Msa Msm Mso])) 0 0 0 0 (wfl [cM qa cI Mst Mhi Mhn Msl Msv Mpd Mln Mat Mit Mvf Mdn Mlf Mar Msa Msm Mso]) [(0, .ref (qa 0)), (1, .int x1), (2, .int x2), (3, .int x3), (4, .int v4), (6, .int v6), (7, .int v7), (8, .int v8)] 105 [.int w1, .int w0] := by
  unfold wp_X6_part_105 at h
  refine gw_isub (pc' := 106) κ dX6_part_105 rfl  ?_
  refine gw_istore (pc' := 108) κ dX6_part_106 rfl (by decide) (lv' := [(5, .int (w0 - w1)), (0, .ref (qa 0)), (1, .int x1), (2, .int x2), (3, .int x3), (4, .int v4), (6, .int v6), (7, .int v7), (8, .int v8)]) rfl ?_
  refine gw_iload (pc' := 110) κ dX6_part_108 rfl 6 rfl ?_
  refine gw_iload (pc' := 112) κ dX6_part_110 rfl 8 rfl ?_
  refine gw_if_eq (pc' := 115) (tgt := 125) κ dX6_part_112 rfl (by decide) (fun hc_15 => ?_) (fun hc_15 => ?_)
  · have h := h.1 hc_15
    refine gw_iconst (pc' := 126) (v := 0) κ dX6_part_125 rfl (by decide) ?_
    refine gw_iadd (pc' := 127) κ dX6_part_126 rfl  ?_
    refine gw_istore (pc' := 129) κ dX6_part_127 rfl (by decide) (lv' := [(6, .int (v6 + (0 : Int32))), (5, .int (w0 - w1)), (0, .ref (qa 0)), (1, .int x1), (2, .int x2), (3, .int x3), (4, .int v4), (7, .int v7), (8, .int v8)]) rfl ?_
    refine gw_iinc (pc' := 132) κ dX6_part_129 rfl 7 rfl (v := (v7 + 1)) rfl (by decide) (lv' := [(7, .int (v7 + 1)), (6, .int (v6 + (0 : Int32))), (5, .int (w0 - w1)), (0, .ref (qa 0)), (1, .int x1), (2, .int x2), (3, .int x3), (4, .int v4), (8, .int v8)]) rfl ?_
    refine gw_goto (tgt := 60) κ dX6_part_132 (by decide) ?_
    refine gw_lv (lv' := [(0, .ref (qa 0)), (1, .int x1), (2, .int x2), (3, .int x3), (4, .int v4), (5, .int (w0 - w1)), (6, .int (v6 + (0 : Int32))), (7, .int (v7 + 1))]) [3, 4, 5, 6, 7, 2, 1, 0] rfl ?_
    exact hr60 (w0 - w1) (v6 + (0 : Int32)) (v7 + 1) h
  · have h := h.2 hc_15
    refine gw_iload (pc' := 117) κ dX6_part_115 rfl 7 rfl ?_
    refine gw_iload_n (pc' := 118) κ dX6_part_117 rfl 2 rfl rfl ?_
    refine gw_icmp_ge (pc' := 121) (tgt := 125) κ dX6_part_118 rfl (by decide) (fun hc_16 => ?_) (fun hc_16 => ?_)
    · have h := h.1 hc_16
      refine gw_iconst (pc' := 126) (v := 0) κ dX6_part_125 rfl (by decide) ?_
      refine gw_iadd (pc' := 127) κ dX6_part_126 rfl  ?_
      refine gw_istore (pc' := 129) κ dX6_part_127 rfl (by decide) (lv' := [(6, .int (v6 + (0 : Int32))), (5, .int (w0 - w1)), (0, .ref (qa 0)), (1, .int x1), (2, .int x2), (3, .int x3), (4, .int v4), (7, .int v7), (8, .int v8)]) rfl ?_
      refine gw_iinc (pc' := 132) κ dX6_part_129 rfl 7 rfl (v := (v7 + 1)) rfl (by decide) (lv' := [(7, .int (v7 + 1)), (6, .int (v6 + (0 : Int32))), (5, .int (w0 - w1)), (0, .ref (qa 0)), (1, .int x1), (2, .int x2), (3, .int x3), (4, .int v4), (8, .int v8)]) rfl ?_
      refine gw_goto (tgt := 60) κ dX6_part_132 (by decide) ?_
      refine gw_lv (lv' := [(0, .ref (qa 0)), (1, .int x1), (2, .int x2), (3, .int x3), (4, .int v4), (5, .int (w0 - w1)), (6, .int (v6 + (0 : Int32))), (7, .int (v7 + 1))]) [3, 4, 5, 6, 7, 2, 1, 0] rfl ?_
      exact hr60 (w0 - w1) (v6 + (0 : Int32)) (v7 + 1) h
    · have h := h.2 hc_16
      refine gw_iconst (pc' := 122) (v := 1) κ dX6_part_121 rfl (by decide) ?_
      refine gw_goto (tgt := 126) κ dX6_part_122 (by decide) ?_
      refine gw_iadd (pc' := 127) κ dX6_part_126 rfl  ?_
      refine gw_istore (pc' := 129) κ dX6_part_127 rfl (by decide) (lv' := [(6, .int (v6 + (1 : Int32))), (5, .int (w0 - w1)), (0, .ref (qa 0)), (1, .int x1), (2, .int x2), (3, .int x3), (4, .int v4), (7, .int v7), (8, .int v8)]) rfl ?_
      refine gw_iinc (pc' := 132) κ dX6_part_129 rfl 7 rfl (v := (v7 + 1)) rfl (by decide) (lv' := [(7, .int (v7 + 1)), (6, .int (v6 + (1 : Int32))), (5, .int (w0 - w1)), (0, .ref (qa 0)), (1, .int x1), (2, .int x2), (3, .int x3), (4, .int v4), (8, .int v8)]) rfl ?_
      refine gw_goto (tgt := 60) κ dX6_part_132 (by decide) ?_
      refine gw_lv (lv' := [(0, .ref (qa 0)), (1, .int x1), (2, .int x2), (3, .int x3), (4, .int v4), (5, .int (w0 - w1)), (6, .int (v6 + (1 : Int32))), (7, .int (v7 + 1))]) [3, 4, 5, 6, 7, 2, 1, 0] rfl ?_
      exact hr60 (w0 - w1) (v6 + (1 : Int32)) (v7 + 1) h
set_option maxHeartbeats 4000000 in
set_option maxRecDepth 100000 in
theorem k_X6_part_60 {zp : Program} {l : Launch} {ze : Env} {zs : State} {zm : MethodId} {za : Array Value} {zb : List Frame} {zt : Method} {zc : Code} {D : va_G} {cI cR : ClassId} {A : Nat → Prop} (κ : KC zp zs zm za zt zc cX6_part 9 RX6 D cI cR A (some .int)) (qa : Nat → Nat) (P : Int32 → Prop) (Mst : Nat → Int32) (Mhi : Nat → Int32) (Mhn : Int32) (Msl : Nat → Int32) (Msv : Nat → Int32) (Mpd : Nat → Int32) (Mln : Int32) (Mat : Int32) (Mit : Nat → Int32) (Mvf : Nat → Int32) (Mdn : Nat → Int32) (Mlf : Nat → Int32) (Mar : Nat → Int32) (Msa : Nat → Int32) (Msm : Nat → Int32) (Mso : Int32) (x1 : Int32) (x2 : Int32) (x3 : Int32) (v4 : Int32) : ∀ (n : Nat) (v5 : Int32) (v6 : Int32) (v7 : Int32), wp_X6_part_60 P Mst Mvf x1 x2 x3 v4 n v5 v6 v7 → GM zp l ze ({ frames := 3, cells := 0, slots := 0, locals := 66 } : Room) zs zm za zb zt zc D A 9 (pI (fun (r : Int32) (_ : Unit) => P r)) (fun _ : Unit => (wfl [cM qa cI Mst Mhi Mhn Msl Msv Mpd Mln Mat Mit Mvf Mdn Mlf Mar Msa Msm Mso])) 0 0 0 0 (wfl [cM qa cI Mst Mhi Mhn Msl Msv Mpd Mln Mat Mit Mvf Mdn Mlf Mar Msa Msm Mso]) [(0, .ref (qa 0)), (1, .int x1), (2, .int x2), (3, .int x3), (4, .int v4), (5, .int v5), (6, .int v6), (7, .int v7)] 60 [] := by
  intro n60
  induction n60 with
  | zero => intro v5 v6 v7 h; exact (show False from h).elim
  | succ n60 ih60 =>
    intro v5 v6 v7 h
    have h : wp_X6_part_60F P Mst Mvf x1 x2 x3 v4 (wp_X6_part_60 P Mst Mvf x1 x2 x3 v4 n60) v5 v6 v7 := h
    unfold wp_X6_part_60F at h
    refine gw_iload (pc' := 62) κ dX6_part_60 rfl 7 rfl ?_
    refine gw_aload_n (pc' := 63) κ dX6_part_62 rfl 0 rfl rfl ?_
    refine gb_get (pc' := 66) (C := RX6) (T := TX6) (N := 16) κ dX6_part_63 rfl inX6 0 rfl rfl rfl 0 (by decide) tw_fl_X6_7 rfl ?_
    refine gw_bipush (pc' := 68) (v := 33) κ dX6_part_66 rfl (by decide) ?_
    refine gb_iald (pc' := 69) κ dX6_part_68 rfl 0 1 rfl rfl (by unfold vp_in; decide) ?_
    refine gw_icmp_ge (pc' := 72) (tgt := 135) κ dX6_part_69 rfl (by decide) (fun hc_7 => ?_) (fun hc_7 => ?_)
    · have h := h.1 hc_7
      refine gw_iload_n (pc' := 136) κ dX6_part_135 rfl 2 rfl rfl ?_
      refine gw_aload_n (pc' := 137) κ dX6_part_136 rfl 0 rfl rfl ?_
      refine gw_iload_n (pc' := 138) κ dX6_part_137 rfl 1 rfl rfl ?_
      refine gw_iconst (pc' := 139) (v := 3) κ dX6_part_138 rfl (by decide) ?_
      refine gb_callV (ci := 6) (qb := 0) (rest := [.int x2]) κ (c_X6_of qa Mst Mhi Mhn Msl Msv Mpd Mln Mat Mit Mvf Mdn Mlf Mar Msa Msm Mso x1 (3 : Int32) h) ⟨rfl, rfl, Nat.le_of_ble_eq_true rfl, Nat.le_of_ble_eq_true rfl⟩ tw_ml_X6_57 tw_im_X6_of tw_se_X6_of tw_co_X6_of tw_in_X6 hy_X6_of rfl rfl rfl rfl rfl (Nat.le_of_ble_eq_true rfl) rfl dX6_part_139 [0] rfl (by decide) (fun _ => Nat.le_of_ble_eq_true rfl) ⟨Nat.le_of_ble_eq_true rfl, Nat.le_of_ble_eq_true rfl⟩ (fun v u hv => ?_)
      obtain ⟨r_8, rfl, h⟩ := hv
      refine gw_nf (ws' := (wfl [cM qa cI Mst Mhi Mhn Msl Msv Mpd Mln Mat Mit Mvf Mdn Mlf Mar Msa Msm Mso])) (lv' := [(0, .ref (qa 0)), (1, .int x1), (2, .int x2), (3, .int x3), (4, .int v4), (5, .int v5), (6, .int v6), (7, .int v7)]) (st' := [.int r_8, .int x2]) (pc' := 142) (ce' := 0) (sl' := 0) rfl rfl rfl rfl rfl rfl ?_
      refine gw_imul (pc' := 143) κ dX6_part_142 rfl  ?_
      refine gw_iload (pc' := 145) κ dX6_part_143 rfl 4 rfl ?_
      obtain ⟨hb_9, h⟩ := h
      refine gw_idiv (pc' := 146) κ dX6_part_145 rfl hb_9 ?_
      refine gw_iload (pc' := 148) κ dX6_part_146 rfl 6 rfl ?_
      refine gw_iload (pc' := 150) κ dX6_part_148 rfl 5 rfl ?_
      refine gw_icmp_ge (pc' := 153) (tgt := 157) κ dX6_part_150 rfl (by decide) (fun hc_10 => ?_) (fun hc_10 => ?_)
      · have h := h.1 hc_10
        refine gw_iconst (pc' := 158) (v := 0) κ dX6_part_157 rfl (by decide) ?_
        refine gw_iadd (pc' := 159) κ dX6_part_158 rfl  ?_
        exact gw_iret κ dX6_part_159 () rfl ⟨_, rfl, h⟩
      · have h := h.2 hc_10
        refine gw_iconst (pc' := 154) (v := 1) κ dX6_part_153 rfl (by decide) ?_
        refine gw_goto (tgt := 158) κ dX6_part_154 (by decide) ?_
        refine gw_iadd (pc' := 159) κ dX6_part_158 rfl  ?_
        exact gw_iret κ dX6_part_159 () rfl ⟨_, rfl, h⟩
    · have h := h.2 hc_7
      refine gw_aload_n (pc' := 73) κ dX6_part_72 rfl 0 rfl rfl ?_
      refine gw_iload (pc' := 75) κ dX6_part_73 rfl 7 rfl ?_
      refine gw_iload_n (pc' := 76) κ dX6_part_75 rfl 1 rfl rfl ?_
      refine gw_iload_n (pc' := 77) κ dX6_part_76 rfl 3 rfl rfl ?_
      refine gb_callV (ci := 6) (qb := 0) (rest := []) κ (c_X6_isWith qa Mst Mhi Mhn Msl Msv Mpd Mln Mat Mit Mvf Mdn Mlf Mar Msa Msm Mso v7 x1 x3 h) ⟨rfl, rfl, Nat.le_of_ble_eq_true rfl, Nat.le_of_ble_eq_true rfl⟩ tw_ml_X6_92 tw_im_X6_isWith tw_se_X6_isWith tw_co_X6_isWith tw_in_X6 hy_X6_isWith rfl rfl rfl rfl rfl (Nat.le_of_ble_eq_true rfl) rfl dX6_part_77 [0] rfl (by decide) (fun _ => Nat.le_of_ble_eq_true rfl) ⟨Nat.le_of_ble_eq_true rfl, Nat.le_of_ble_eq_true rfl⟩ (fun v u hv => ?_)
      obtain ⟨r_11, rfl, h⟩ := hv
      refine gw_nf (ws' := (wfl [cM qa cI Mst Mhi Mhn Msl Msv Mpd Mln Mat Mit Mvf Mdn Mlf Mar Msa Msm Mso])) (lv' := [(0, .ref (qa 0)), (1, .int x1), (2, .int x2), (3, .int x3), (4, .int v4), (5, .int v5), (6, .int v6), (7, .int v7)]) (st' := [.int r_11]) (pc' := 80) (ce' := 0) (sl' := 0) rfl rfl rfl rfl rfl rfl ?_
      refine gw_istore (pc' := 82) κ dX6_part_80 rfl (by decide) (lv' := [(8, .int r_11), (0, .ref (qa 0)), (1, .int x1), (2, .int x2), (3, .int x3), (4, .int v4), (5, .int v5), (6, .int v6), (7, .int v7)]) rfl ?_
      refine gw_iload (pc' := 84) κ dX6_part_82 rfl 6 rfl ?_
      refine gw_iload (pc' := 86) κ dX6_part_84 rfl 0 rfl ?_
      refine gw_if_eq (pc' := 89) (tgt := 104) κ dX6_part_86 rfl (by decide) (fun hc_12 => ?_) (fun hc_12 => ?_)
      · have h := h.1 hc_12
        refine gw_iconst (pc' := 105) (v := 0) κ dX6_part_104 rfl (by decide) ?_
        refine gw_lv (lv' := [(0, .ref (qa 0)), (1, .int x1), (2, .int x2), (3, .int x3), (4, .int v4), (6, .int v6), (7, .int v7), (8, .int r_11)]) [1, 2, 3, 4, 5, 7, 8, 0] rfl ?_
        exact k_X6_part_105 κ qa P Mst Mhi Mhn Msl Msv Mpd Mln Mat Mit Mvf Mdn Mlf Mar Msa Msm Mso x1 x2 x3 (wp_X6_part_60 P Mst Mvf x1 x2 x3 v4 n60) v4 v6 v7 r_11 v5 (0 : Int32) ih60 h
      · have h := h.2 hc_12
        refine gw_iload_n (pc' := 90) κ dX6_part_89 rfl 3 rfl rfl ?_
        refine gw_aload_n (pc' := 91) κ dX6_part_90 rfl 1 rfl rfl ?_
        refine gw_iload (pc' := 93) κ dX6_part_91 rfl 8 rfl ?_
        refine gw_iconst (pc' := 94) (v := 3) κ dX6_part_93 rfl (by decide) ?_
        refine gb_callV (ci := 6) (qb := 0) (rest := [.int x2, .int v5]) κ (c_X6_of qa Mst Mhi Mhn Msl Msv Mpd Mln Mat Mit Mvf Mdn Mlf Mar Msa Msm Mso v7 (3 : Int32) h) ⟨rfl, rfl, Nat.le_of_ble_eq_true rfl, Nat.le_of_ble_eq_true rfl⟩ tw_ml_X6_57 tw_im_X6_of tw_se_X6_of tw_co_X6_of tw_in_X6 hy_X6_of rfl rfl rfl rfl rfl (Nat.le_of_ble_eq_true rfl) rfl dX6_part_94 [0] rfl (by decide) (fun _ => Nat.le_of_ble_eq_true rfl) ⟨Nat.le_of_ble_eq_true rfl, Nat.le_of_ble_eq_true rfl⟩ (fun v u hv => ?_)
        obtain ⟨r_13, rfl, h⟩ := hv
        refine gw_nf (ws' := (wfl [cM qa cI Mst Mhi Mhn Msl Msv Mpd Mln Mat Mit Mvf Mdn Mlf Mar Msa Msm Mso])) (lv' := [(8, .int r_11), (0, .ref (qa 0)), (1, .int x1), (2, .int x2), (3, .int x3), (4, .int v4), (5, .int v5), (6, .int v6), (7, .int v7)]) (st' := [.int r_13, .int x2, .int v5]) (pc' := 97) (ce' := 0) (sl' := 0) rfl rfl rfl rfl rfl rfl ?_
        refine gw_imul (pc' := 98) κ dX6_part_97 rfl  ?_
        refine gw_iload (pc' := 100) κ dX6_part_98 rfl 5 rfl ?_
        obtain ⟨hb_14, h⟩ := h
        refine gw_idiv (pc' := 101) κ dX6_part_100 rfl hb_14 ?_
        refine gw_goto (tgt := 105) κ dX6_part_101 (by decide) ?_
        refine gw_lv (lv' := [(0, .ref (qa 0)), (1, .int x1), (2, .int x2), (3, .int x3), (4, .int v4), (6, .int v6), (7, .int v7), (8, .int r_11)]) [1, 2, 3, 4, 5, 7, 8, 0] rfl ?_
        exact k_X6_part_105 κ qa P Mst Mhi Mhn Msl Msv Mpd Mln Mat Mit Mvf Mdn Mlf Mar Msa Msm Mso x1 x2 x3 (wp_X6_part_60 P Mst Mvf x1 x2 x3 v4 n60) v4 v6 v7 r_11 v5 ((x2 * r_13) / v4) ih60 h
set_option maxHeartbeats 4000000 in
set_option maxRecDepth 100000 in
theorem k_X6_part_6 {zp : Program} {l : Launch} {ze : Env} {zs : State} {zm : MethodId} {za : Array Value} {zb : List Frame} {zt : Method} {zc : Code} {D : va_G} {cI cR : ClassId} {A : Nat → Prop} (κ : KC zp zs zm za zt zc cX6_part 9 RX6 D cI cR A (some .int)) (qa : Nat → Nat) (P : Int32 → Prop) (Mst : Nat → Int32) (Mhi : Nat → Int32) (Mhn : Int32) (Msl : Nat → Int32) (Msv : Nat → Int32) (Mpd : Nat → Int32) (Mln : Int32) (Mat : Int32) (Mit : Nat → Int32) (Mvf : Nat → Int32) (Mdn : Nat → Int32) (Mlf : Nat → Int32) (Mar : Nat → Int32) (Msa : Nat → Int32) (Msm : Nat → Int32) (Mso : Int32) (x1 : Int32) (x2 : Int32) (x3 : Int32) : ∀ (n : Nat) (v4 : Int32) (v5 : Int32), wp_X6_part_6 P Mst Mvf x1 x2 x3 n v4 v5 → GM zp l ze ({ frames := 3, cells := 0, slots := 0, locals := 66 } : Room) zs zm za zb zt zc D A 9 (pI (fun (r : Int32) (_ : Unit) => P r)) (fun _ : Unit => (wfl [cM qa cI Mst Mhi Mhn Msl Msv Mpd Mln Mat Mit Mvf Mdn Mlf Mar Msa Msm Mso])) 0 0 0 0 (wfl [cM qa cI Mst Mhi Mhn Msl Msv Mpd Mln Mat Mit Mvf Mdn Mlf Mar Msa Msm Mso]) [(0, .ref (qa 0)), (1, .int x1), (2, .int x2), (3, .int x3), (4, .int v4), (5, .int v5)] 6 [] := by
  intro n6
  induction n6 with
  | zero => intro v4 v5 h; exact (show False from h).elim
  | succ n6 ih6 =>
    intro v4 v5 h
    have h : wp_X6_part_6F P Mst Mvf x1 x2 x3 (wp_X6_part_6 P Mst Mvf x1 x2 x3 n6) v4 v5 := h
    unfold wp_X6_part_6F at h
    refine gw_iload (pc' := 8) κ dX6_part_6 rfl 5 rfl ?_
    refine gw_aload_n (pc' := 9) κ dX6_part_8 rfl 0 rfl rfl ?_
    refine gb_get (pc' := 12) (C := RX6) (T := TX6) (N := 16) κ dX6_part_9 rfl inX6 0 rfl rfl rfl 0 (by decide) tw_fl_X6_7 rfl ?_
    refine gw_bipush (pc' := 14) (v := 33) κ dX6_part_12 rfl (by decide) ?_
    refine gb_iald (pc' := 15) κ dX6_part_14 rfl 0 1 rfl rfl (by unfold vp_in; decide) ?_
    refine gw_icmp_ge (pc' := 18) (tgt := 51) κ dX6_part_15 rfl (by decide) (fun hc_2 => ?_) (fun hc_2 => ?_)
    · have h := h.1 hc_2
      refine gw_iload_n (pc' := 52) κ dX6_part_51 rfl 2 rfl rfl ?_
      refine gw_istore (pc' := 54) κ dX6_part_52 rfl (by decide) (lv' := [(5, .int x2), (0, .ref (qa 0)), (1, .int x1), (2, .int x2), (3, .int x3), (4, .int v4)]) rfl ?_
      refine gw_iconst (pc' := 55) (v := 0) κ dX6_part_54 rfl (by decide) ?_
      refine gw_istore (pc' := 57) κ dX6_part_55 rfl (by decide) (lv' := [(6, .int (0 : Int32)), (5, .int x2), (0, .ref (qa 0)), (1, .int x1), (2, .int x2), (3, .int x3), (4, .int v4)]) rfl ?_
      refine gw_iconst (pc' := 58) (v := 0) κ dX6_part_57 rfl (by decide) ?_
      refine gw_istore (pc' := 60) κ dX6_part_58 rfl (by decide) (lv' := [(7, .int (0 : Int32)), (6, .int (0 : Int32)), (5, .int x2), (0, .ref (qa 0)), (1, .int x1), (2, .int x2), (3, .int x3), (4, .int v4)]) rfl ?_
      obtain ⟨m60, h⟩ := h
      refine gw_lv (lv' := [(0, .ref (qa 0)), (1, .int x1), (2, .int x2), (3, .int x3), (4, .int v4), (5, .int x2), (6, .int (0 : Int32)), (7, .int (0 : Int32))]) [3, 4, 5, 6, 7, 2, 1, 0] rfl ?_
      exact k_X6_part_60 κ qa P Mst Mhi Mhn Msl Msv Mpd Mln Mat Mit Mvf Mdn Mlf Mar Msa Msm Mso x1 x2 x3 v4 m60 x2 (0 : Int32) (0 : Int32) h
    · have h := h.2 hc_2
      refine gw_iload (pc' := 20) κ dX6_part_18 rfl 4 rfl ?_
      refine gw_aload_n (pc' := 21) κ dX6_part_20 rfl 0 rfl rfl ?_
      refine gw_iload (pc' := 23) κ dX6_part_21 rfl 5 rfl ?_
      refine gw_iload_n (pc' := 24) κ dX6_part_23 rfl 1 rfl rfl ?_
      refine gw_iload_n (pc' := 25) κ dX6_part_24 rfl 3 rfl rfl ?_
      refine gb_callV (ci := 6) (qb := 0) (rest := [.int v4]) κ (c_X6_isWith qa Mst Mhi Mhn Msl Msv Mpd Mln Mat Mit Mvf Mdn Mlf Mar Msa Msm Mso v5 x1 x3 h) ⟨rfl, rfl, Nat.le_of_ble_eq_true rfl, Nat.le_of_ble_eq_true rfl⟩ tw_ml_X6_92 tw_im_X6_isWith tw_se_X6_isWith tw_co_X6_isWith tw_in_X6 hy_X6_isWith rfl rfl rfl rfl rfl (Nat.le_of_ble_eq_true rfl) rfl dX6_part_25 [0] rfl (by decide) (fun _ => Nat.le_of_ble_eq_true rfl) ⟨Nat.le_of_ble_eq_true rfl, Nat.le_of_ble_eq_true rfl⟩ (fun v u hv => ?_)
      obtain ⟨r_3, rfl, h⟩ := hv
      refine gw_nf (ws' := (wfl [cM qa cI Mst Mhi Mhn Msl Msv Mpd Mln Mat Mit Mvf Mdn Mlf Mar Msa Msm Mso])) (lv' := [(0, .ref (qa 0)), (1, .int x1), (2, .int x2), (3, .int x3), (4, .int v4), (5, .int v5)]) (st' := [.int r_3, .int v4]) (pc' := 28) (ce' := 0) (sl' := 0) rfl rfl rfl rfl rfl rfl ?_
      refine gw_if_eq (pc' := 31) (tgt := 41) κ dX6_part_28 rfl (by decide) (fun hc_4 => ?_) (fun hc_4 => ?_)
      · have h := h.1 hc_4
        refine gw_iconst (pc' := 42) (v := 0) κ dX6_part_41 rfl (by decide) ?_
        refine gw_iadd (pc' := 43) κ dX6_part_42 rfl  ?_
        refine gw_istore (pc' := 45) κ dX6_part_43 rfl (by decide) (lv' := [(4, .int (v4 + (0 : Int32))), (0, .ref (qa 0)), (1, .int x1), (2, .int x2), (3, .int x3), (5, .int v5)]) rfl ?_
        refine gw_iinc (pc' := 48) κ dX6_part_45 rfl 5 rfl (v := (v5 + 1)) rfl (by decide) (lv' := [(5, .int (v5 + 1)), (4, .int (v4 + (0 : Int32))), (0, .ref (qa 0)), (1, .int x1), (2, .int x2), (3, .int x3)]) rfl ?_
        refine gw_goto (tgt := 6) κ dX6_part_48 (by decide) ?_
        refine gw_lv (lv' := [(0, .ref (qa 0)), (1, .int x1), (2, .int x2), (3, .int x3), (4, .int (v4 + (0 : Int32))), (5, .int (v5 + 1))]) [2, 3, 4, 5, 1, 0] rfl ?_
        exact ih6 (v4 + (0 : Int32)) (v5 + 1) h
      · have h := h.2 hc_4
        refine gw_aload_n (pc' := 32) κ dX6_part_31 rfl 0 rfl rfl ?_
        refine gw_iload (pc' := 34) κ dX6_part_32 rfl 5 rfl ?_
        refine gw_iconst (pc' := 35) (v := 3) κ dX6_part_34 rfl (by decide) ?_
        refine gb_callV (ci := 6) (qb := 0) (rest := [.int v4]) κ (c_X6_of qa Mst Mhi Mhn Msl Msv Mpd Mln Mat Mit Mvf Mdn Mlf Mar Msa Msm Mso v5 (3 : Int32) h) ⟨rfl, rfl, Nat.le_of_ble_eq_true rfl, Nat.le_of_ble_eq_true rfl⟩ tw_ml_X6_57 tw_im_X6_of tw_se_X6_of tw_co_X6_of tw_in_X6 hy_X6_of rfl rfl rfl rfl rfl (Nat.le_of_ble_eq_true rfl) rfl dX6_part_35 [0] rfl (by decide) (fun _ => Nat.le_of_ble_eq_true rfl) ⟨Nat.le_of_ble_eq_true rfl, Nat.le_of_ble_eq_true rfl⟩ (fun v u hv => ?_)
        obtain ⟨r_5, rfl, h⟩ := hv
        refine gw_nf (ws' := (wfl [cM qa cI Mst Mhi Mhn Msl Msv Mpd Mln Mat Mit Mvf Mdn Mlf Mar Msa Msm Mso])) (lv' := [(0, .ref (qa 0)), (1, .int x1), (2, .int x2), (3, .int x3), (4, .int v4), (5, .int v5)]) (st' := [.int r_5, .int v4]) (pc' := 38) (ce' := 0) (sl' := 0) rfl rfl rfl rfl rfl rfl ?_
        refine gw_goto (tgt := 42) κ dX6_part_38 (by decide) ?_
        refine gw_iadd (pc' := 43) κ dX6_part_42 rfl  ?_
        refine gw_istore (pc' := 45) κ dX6_part_43 rfl (by decide) (lv' := [(4, .int (v4 + r_5)), (0, .ref (qa 0)), (1, .int x1), (2, .int x2), (3, .int x3), (5, .int v5)]) rfl ?_
        refine gw_iinc (pc' := 48) κ dX6_part_45 rfl 5 rfl (v := (v5 + 1)) rfl (by decide) (lv' := [(5, .int (v5 + 1)), (4, .int (v4 + r_5)), (0, .ref (qa 0)), (1, .int x1), (2, .int x2), (3, .int x3)]) rfl ?_
        refine gw_goto (tgt := 6) κ dX6_part_48 (by decide) ?_
        refine gw_lv (lv' := [(0, .ref (qa 0)), (1, .int x1), (2, .int x2), (3, .int x3), (4, .int (v4 + r_5)), (5, .int (v5 + 1))]) [2, 3, 4, 5, 1, 0] rfl ?_
        exact ih6 (v4 + r_5) (v5 + 1) h
set_option maxHeartbeats 4000000 in
set_option maxRecDepth 100000 in
theorem c_X6_part {l : Launch} {D : va_G} {cI cR : ClassId}  (qa : Nat → Nat) {P : Int32 → Prop} (Mst : Nat → Int32) (Mhi : Nat → Int32) (Mhn : Int32) (Msl : Nat → Int32) (Msv : Nat → Int32) (Mpd : Nat → Int32) (Mln : Int32) (Mat : Int32) (Mit : Nat → Int32) (Mvf : Nat → Int32) (Mdn : Nat → Int32) (Mlf : Nat → Int32) (Mar : Nat → Int32) (Msa : Nat → Int32) (Msm : Nat → Int32) (Mso : Int32) (x1 : Int32) (x2 : Int32) (x3 : Int32) (h : wp_X6_part P Mst Mvf x1 x2 x3) : CT l D cI cR yX6_part cX6_part 9 (some .int) ({ frames := 3, cells := 0, slots := 0, locals := 66 } : Room) [.ref (qa 0), .int x1, .int x2, .int x3] (wfl [cM qa cI Mst Mhi Mhn Msl Msv Mpd Mln Mat Mit Mvf Mdn Mlf Mar Msa Msm Mso]) (fun _ : Unit => (wfl [cM qa cI Mst Mhi Mhn Msl Msv Mpd Mln Mat Mit Mvf Mdn Mlf Mar Msa Msm Mso])) (pI (fun (r : Int32) (_ : Unit) => P r)) 0 0 := by
  refine ct_of RX6 rfl (by decide +kernel) (Nat.le_of_ble_eq_true rfl) (fun zp ze zs zm zb zt zc A hin κ => ?_)
  unfold wp_X6_part at h
  refine gw_nf (lv' := [(0, .ref (qa 0)), (1, .int x1), (2, .int x2), (3, .int x3)]) (pc' := 0) (st' := []) (ce' := 0) (sl' := 0) rfl rfl rfl rfl rfl rfl ?_
  refine gw_iconst (pc' := 1) (v := 0) κ dX6_part_0 rfl (by decide) ?_
  refine gw_istore (pc' := 3) κ dX6_part_1 rfl (by decide) (lv' := [(4, .int (0 : Int32)), (0, .ref (qa 0)), (1, .int x1), (2, .int x2), (3, .int x3)]) rfl ?_
  refine gw_iconst (pc' := 4) (v := 0) κ dX6_part_3 rfl (by decide) ?_
  refine gw_istore (pc' := 6) κ dX6_part_4 rfl (by decide) (lv' := [(5, .int (0 : Int32)), (4, .int (0 : Int32)), (0, .ref (qa 0)), (1, .int x1), (2, .int x2), (3, .int x3)]) rfl ?_
  obtain ⟨m6, h⟩ := h
  refine gw_lv (lv' := [(0, .ref (qa 0)), (1, .int x1), (2, .int x2), (3, .int x3), (4, .int (0 : Int32)), (5, .int (0 : Int32))]) [2, 3, 4, 5, 1, 0] rfl ?_
  exact k_X6_part_6 κ qa P Mst Mhi Mhn Msl Msv Mpd Mln Mat Mit Mvf Mdn Mlf Mar Msa Msm Mso x1 x2 x3 m6 (0 : Int32) (0 : Int32) h
theorem hy_X6_fare : g_hy yX6_fare 1 := by decide +kernel
set_option maxHeartbeats 4000000 in
set_option maxRecDepth 100000 in
theorem c_X6_fare {l : Launch} {D : va_G} {cI cR : ClassId}  (qa : Nat → Nat) {P : Int32 → Prop} (Mst : Nat → Int32) (Mhi : Nat → Int32) (Mhn : Int32) (Msl : Nat → Int32) (Msv : Nat → Int32) (Mpd : Nat → Int32) (Mln : Int32) (Mat : Int32) (Mit : Nat → Int32) (Mvf : Nat → Int32) (Mdn : Nat → Int32) (Mlf : Nat → Int32) (Mar : Nat → Int32) (Msa : Nat → Int32) (Msm : Nat → Int32) (Mso : Int32) (x1 : Int32) (h : wp_X6_fare P Mst Mvf x1) : CT l D cI cR yX6_fare cX6_fare 2 (some .int) ({ frames := 4, cells := 0, slots := 0, locals := 94 } : Room) [.ref (qa 0), .int x1] (wfl [cM qa cI Mst Mhi Mhn Msl Msv Mpd Mln Mat Mit Mvf Mdn Mlf Mar Msa Msm Mso]) (fun _ : Unit => (wfl [cM qa cI Mst Mhi Mhn Msl Msv Mpd Mln Mat Mit Mvf Mdn Mlf Mar Msa Msm Mso])) (pI (fun (r : Int32) (_ : Unit) => P r)) 0 0 := by
  refine ct_of RX6 rfl (by decide +kernel) (Nat.le_of_ble_eq_true rfl) (fun zp ze zs zm zb zt zc A hin κ => ?_)
  unfold wp_X6_fare at h
  refine gw_nf (lv' := [(0, .ref (qa 0)), (1, .int x1)]) (pc' := 0) (st' := []) (ce' := 0) (sl' := 0) rfl rfl rfl rfl rfl rfl ?_
  refine gw_aload_n (pc' := 1) κ dX6_fare_0 rfl 0 rfl rfl ?_
  refine gb_get (pc' := 4) (C := RX6) (T := TX6) (N := 16) κ dX6_fare_1 rfl inX6 0 rfl rfl rfl 9 (by decide) tw_fl_X6_28 rfl ?_
  refine gw_iload_n (pc' := 5) κ dX6_fare_4 rfl 1 rfl rfl ?_
  obtain ⟨hb_1, h⟩ := h
  refine gb_iald (pc' := 6) κ dX6_fare_5 rfl 0 7 rfl rfl hb_1 ?_
  refine gw_bipush (pc' := 8) (v := -106) κ dX6_fare_6 rfl (by decide) ?_
  refine gw_icmp_ne (pc' := 11) (tgt := 15) κ dX6_fare_8 rfl (by decide) (fun hc_2 => ?_) (fun hc_2 => ?_)
  · have h := h.1 hc_2
    refine gw_aload_n (pc' := 16) κ dX6_fare_15 rfl 0 rfl rfl ?_
    refine gw_iload_n (pc' := 17) κ dX6_fare_16 rfl 1 rfl rfl ?_
    refine gw_aload_n (pc' := 18) κ dX6_fare_17 rfl 0 rfl rfl ?_
    refine gb_get (pc' := 21) (C := RX6) (T := TX6) (N := 16) κ dX6_fare_18 rfl inX6 0 rfl rfl rfl 0 (by decide) tw_fl_X6_7 rfl ?_
    refine gw_iconst (pc' := 22) (v := 3) κ dX6_fare_21 rfl (by decide) ?_
    refine gb_iald (pc' := 23) κ dX6_fare_22 rfl 0 1 rfl rfl (by unfold vp_in; decide) ?_
    refine gw_iconst (pc' := 24) (v := 0) κ dX6_fare_23 rfl (by decide) ?_
    refine gb_callV (ci := 6) (qb := 0) (rest := []) κ (c_X6_part qa Mst Mhi Mhn Msl Msv Mpd Mln Mat Mit Mvf Mdn Mlf Mar Msa Msm Mso x1 (Mst (3 : Int32).toNatClampNeg) (0 : Int32) h) ⟨rfl, rfl, Nat.le_of_ble_eq_true rfl, Nat.le_of_ble_eq_true rfl⟩ tw_ml_X6_96 tw_im_X6_part tw_se_X6_part tw_co_X6_part tw_in_X6 hy_X6_part rfl rfl rfl rfl rfl (Nat.le_of_ble_eq_true rfl) rfl dX6_fare_24 [0] rfl (by decide) (fun _ => Nat.le_of_ble_eq_true rfl) ⟨Nat.le_of_ble_eq_true rfl, Nat.le_of_ble_eq_true rfl⟩ (fun v u hv => ?_)
    obtain ⟨r_4, rfl, h⟩ := hv
    refine gw_nf (ws' := (wfl [cM qa cI Mst Mhi Mhn Msl Msv Mpd Mln Mat Mit Mvf Mdn Mlf Mar Msa Msm Mso])) (lv' := [(0, .ref (qa 0)), (1, .int x1)]) (st' := [.int r_4]) (pc' := 27) (ce' := 0) (sl' := 0) rfl rfl rfl rfl rfl rfl ?_
    refine gw_aload_n (pc' := 28) κ dX6_fare_27 rfl 0 rfl rfl ?_
    refine gw_iload_n (pc' := 29) κ dX6_fare_28 rfl 1 rfl rfl ?_
    refine gw_aload_n (pc' := 30) κ dX6_fare_29 rfl 0 rfl rfl ?_
    refine gb_get (pc' := 33) (C := RX6) (T := TX6) (N := 16) κ dX6_fare_30 rfl inX6 0 rfl rfl rfl 0 (by decide) tw_fl_X6_7 rfl ?_
    refine gw_iconst (pc' := 34) (v := 4) κ dX6_fare_33 rfl (by decide) ?_
    refine gb_iald (pc' := 35) κ dX6_fare_34 rfl 0 1 rfl rfl (by unfold vp_in; decide) ?_
    refine gw_iconst (pc' := 36) (v := 1) κ dX6_fare_35 rfl (by decide) ?_
    refine gb_callV (ci := 6) (qb := 0) (rest := [.int r_4]) κ (c_X6_part qa Mst Mhi Mhn Msl Msv Mpd Mln Mat Mit Mvf Mdn Mlf Mar Msa Msm Mso x1 (Mst (4 : Int32).toNatClampNeg) (1 : Int32) h) ⟨rfl, rfl, Nat.le_of_ble_eq_true rfl, Nat.le_of_ble_eq_true rfl⟩ tw_ml_X6_96 tw_im_X6_part tw_se_X6_part tw_co_X6_part tw_in_X6 hy_X6_part rfl rfl rfl rfl rfl (Nat.le_of_ble_eq_true rfl) rfl dX6_fare_36 [0] rfl (by decide) (fun _ => Nat.le_of_ble_eq_true rfl) ⟨Nat.le_of_ble_eq_true rfl, Nat.le_of_ble_eq_true rfl⟩ (fun v u hv => ?_)
    obtain ⟨r_6, rfl, h⟩ := hv
    refine gw_nf (ws' := (wfl [cM qa cI Mst Mhi Mhn Msl Msv Mpd Mln Mat Mit Mvf Mdn Mlf Mar Msa Msm Mso])) (lv' := [(0, .ref (qa 0)), (1, .int x1)]) (st' := [.int r_6, .int r_4]) (pc' := 39) (ce' := 0) (sl' := 0) rfl rfl rfl rfl rfl rfl ?_
    refine gw_iadd (pc' := 40) κ dX6_fare_39 rfl  ?_
    exact gw_iret κ dX6_fare_40 () rfl ⟨_, rfl, h⟩
  · have h := h.2 hc_2
    refine gw_iconst (pc' := 12) (v := 0) κ dX6_fare_11 rfl (by decide) ?_
    refine gw_goto (tgt := 40) κ dX6_fare_12 (by decide) ?_
    exact gw_iret κ dX6_fare_40 () rfl ⟨_, rfl, h⟩
theorem hy_X6_strandedPeople : g_hy yX6_strandedPeople 0 := by decide +kernel
set_option maxHeartbeats 4000000 in
set_option maxRecDepth 100000 in
theorem k_X6_strandedPeople_4 {zp : Program} {l : Launch} {ze : Env} {zs : State} {zm : MethodId} {za : Array Value} {zb : List Frame} {zt : Method} {zc : Code} {D : va_G} {cI cR : ClassId} {A : Nat → Prop} (κ : KC zp zs zm za zt zc cX6_strandedPeople 3 RX6 D cI cR A (some .int)) (qa : Nat → Nat) (P : Int32 → Prop) (Mst : Nat → Int32) (Mhi : Nat → Int32) (Mhn : Int32) (Msl : Nat → Int32) (Msv : Nat → Int32) (Mpd : Nat → Int32) (Mln : Int32) (Mat : Int32) (Mit : Nat → Int32) (Mvf : Nat → Int32) (Mdn : Nat → Int32) (Mlf : Nat → Int32) (Mar : Nat → Int32) (Msa : Nat → Int32) (Msm : Nat → Int32) (Mso : Int32) : ∀ (n : Nat) (v1 : Int32) (v2 : Int32), wp_X6_strandedPeople_4 P Mst Mvf n v1 v2 → GM zp l ze ({ frames := 1, cells := 0, slots := 0, locals := 22 } : Room) zs zm za zb zt zc D A 3 (pI (fun (r : Int32) (_ : Unit) => P r)) (fun _ : Unit => (wfl [cM qa cI Mst Mhi Mhn Msl Msv Mpd Mln Mat Mit Mvf Mdn Mlf Mar Msa Msm Mso])) 0 0 0 0 (wfl [cM qa cI Mst Mhi Mhn Msl Msv Mpd Mln Mat Mit Mvf Mdn Mlf Mar Msa Msm Mso]) [(0, .ref (qa 0)), (1, .int v1), (2, .int v2)] 4 [] := by
  intro n4
  induction n4 with
  | zero => intro v1 v2 h; exact (show False from h).elim
  | succ n4 ih4 =>
    intro v1 v2 h
    have h : wp_X6_strandedPeople_4F P Mst Mvf (wp_X6_strandedPeople_4 P Mst Mvf n4) v1 v2 := h
    unfold wp_X6_strandedPeople_4F at h
    refine gw_iload_n (pc' := 5) κ dX6_strandedPeople_4 rfl 2 rfl rfl ?_
    refine gw_aload_n (pc' := 6) κ dX6_strandedPeople_5 rfl 0 rfl rfl ?_
    refine gb_get (pc' := 9) (C := RX6) (T := TX6) (N := 16) κ dX6_strandedPeople_6 rfl inX6 0 rfl rfl rfl 0 (by decide) tw_fl_X6_7 rfl ?_
    refine gw_bipush (pc' := 11) (v := 33) κ dX6_strandedPeople_9 rfl (by decide) ?_
    refine gb_iald (pc' := 12) κ dX6_strandedPeople_11 rfl 0 1 rfl rfl (by unfold vp_in; decide) ?_
    refine gw_icmp_ge (pc' := 15) (tgt := 45) κ dX6_strandedPeople_12 rfl (by decide) (fun hc_2 => ?_) (fun hc_2 => ?_)
    · have h := h.1 hc_2
      refine gw_iload_n (pc' := 46) κ dX6_strandedPeople_45 rfl 1 rfl rfl ?_
      exact gw_iret κ dX6_strandedPeople_46 () rfl ⟨_, rfl, h⟩
    · have h := h.2 hc_2
      refine gw_iload_n (pc' := 16) κ dX6_strandedPeople_15 rfl 1 rfl rfl ?_
      refine gw_aload_n (pc' := 17) κ dX6_strandedPeople_16 rfl 0 rfl rfl ?_
      refine gb_get (pc' := 20) (C := RX6) (T := TX6) (N := 16) κ dX6_strandedPeople_17 rfl inX6 0 rfl rfl rfl 9 (by decide) tw_fl_X6_28 rfl ?_
      refine gw_iload_n (pc' := 21) κ dX6_strandedPeople_20 rfl 2 rfl rfl ?_
      obtain ⟨hb_3, h⟩ := h
      refine gb_iald (pc' := 22) κ dX6_strandedPeople_21 rfl 0 7 rfl rfl hb_3 ?_
      refine gw_bipush (pc' := 24) (v := -106) κ dX6_strandedPeople_22 rfl (by decide) ?_
      refine gw_icmp_ne (pc' := 27) (tgt := 36) κ dX6_strandedPeople_24 rfl (by decide) (fun hc_4 => ?_) (fun hc_4 => ?_)
      · have h := h.1 hc_4
        refine gw_iconst (pc' := 37) (v := 0) κ dX6_strandedPeople_36 rfl (by decide) ?_
        refine gw_iadd (pc' := 38) κ dX6_strandedPeople_37 rfl  ?_
        refine gw_istore_n (pc' := 39) κ dX6_strandedPeople_38 rfl rfl (by decide) (lv' := [(1, .int (v1 + (0 : Int32))), (0, .ref (qa 0)), (2, .int v2)]) rfl ?_
        refine gw_iinc (pc' := 42) κ dX6_strandedPeople_39 rfl 2 rfl (v := (v2 + 1)) rfl (by decide) (lv' := [(2, .int (v2 + 1)), (1, .int (v1 + (0 : Int32))), (0, .ref (qa 0))]) rfl ?_
        refine gw_goto (tgt := 4) κ dX6_strandedPeople_42 (by decide) ?_
        refine gw_lv (lv' := [(0, .ref (qa 0)), (1, .int (v1 + (0 : Int32))), (2, .int (v2 + 1))]) [2, 1, 0] rfl ?_
        exact ih4 (v1 + (0 : Int32)) (v2 + 1) h
      · have h := h.2 hc_4
        refine gw_aload_n (pc' := 28) κ dX6_strandedPeople_27 rfl 0 rfl rfl ?_
        refine gw_iload_n (pc' := 29) κ dX6_strandedPeople_28 rfl 2 rfl rfl ?_
        refine gw_iconst (pc' := 30) (v := 3) κ dX6_strandedPeople_29 rfl (by decide) ?_
        refine gb_callV (ci := 6) (qb := 0) (rest := [.int v1]) κ (c_X6_of qa Mst Mhi Mhn Msl Msv Mpd Mln Mat Mit Mvf Mdn Mlf Mar Msa Msm Mso v2 (3 : Int32) h) ⟨rfl, rfl, Nat.le_of_ble_eq_true rfl, Nat.le_of_ble_eq_true rfl⟩ tw_ml_X6_57 tw_im_X6_of tw_se_X6_of tw_co_X6_of tw_in_X6 hy_X6_of rfl rfl rfl rfl rfl (Nat.le_of_ble_eq_true rfl) rfl dX6_strandedPeople_30 [0] rfl (by decide) (fun _ => Nat.le_of_ble_eq_true rfl) ⟨Nat.le_of_ble_eq_true rfl, Nat.le_of_ble_eq_true rfl⟩ (fun v u hv => ?_)
        obtain ⟨r_5, rfl, h⟩ := hv
        refine gw_nf (ws' := (wfl [cM qa cI Mst Mhi Mhn Msl Msv Mpd Mln Mat Mit Mvf Mdn Mlf Mar Msa Msm Mso])) (lv' := [(0, .ref (qa 0)), (1, .int v1), (2, .int v2)]) (st' := [.int r_5, .int v1]) (pc' := 33) (ce' := 0) (sl' := 0) rfl rfl rfl rfl rfl rfl ?_
        refine gw_goto (tgt := 37) κ dX6_strandedPeople_33 (by decide) ?_
        refine gw_iadd (pc' := 38) κ dX6_strandedPeople_37 rfl  ?_
        refine gw_istore_n (pc' := 39) κ dX6_strandedPeople_38 rfl rfl (by decide) (lv' := [(1, .int (v1 + r_5)), (0, .ref (qa 0)), (2, .int v2)]) rfl ?_
        refine gw_iinc (pc' := 42) κ dX6_strandedPeople_39 rfl 2 rfl (v := (v2 + 1)) rfl (by decide) (lv' := [(2, .int (v2 + 1)), (1, .int (v1 + r_5)), (0, .ref (qa 0))]) rfl ?_
        refine gw_goto (tgt := 4) κ dX6_strandedPeople_42 (by decide) ?_
        refine gw_lv (lv' := [(0, .ref (qa 0)), (1, .int (v1 + r_5)), (2, .int (v2 + 1))]) [2, 1, 0] rfl ?_
        exact ih4 (v1 + r_5) (v2 + 1) h
set_option maxHeartbeats 4000000 in
set_option maxRecDepth 100000 in
theorem c_X6_strandedPeople {l : Launch} {D : va_G} {cI cR : ClassId}  (qa : Nat → Nat) {P : Int32 → Prop} (Mst : Nat → Int32) (Mhi : Nat → Int32) (Mhn : Int32) (Msl : Nat → Int32) (Msv : Nat → Int32) (Mpd : Nat → Int32) (Mln : Int32) (Mat : Int32) (Mit : Nat → Int32) (Mvf : Nat → Int32) (Mdn : Nat → Int32) (Mlf : Nat → Int32) (Mar : Nat → Int32) (Msa : Nat → Int32) (Msm : Nat → Int32) (Mso : Int32) (h : wp_X6_strandedPeople P Mst Mvf) : CT l D cI cR yX6_strandedPeople cX6_strandedPeople 3 (some .int) ({ frames := 1, cells := 0, slots := 0, locals := 22 } : Room) [.ref (qa 0)] (wfl [cM qa cI Mst Mhi Mhn Msl Msv Mpd Mln Mat Mit Mvf Mdn Mlf Mar Msa Msm Mso]) (fun _ : Unit => (wfl [cM qa cI Mst Mhi Mhn Msl Msv Mpd Mln Mat Mit Mvf Mdn Mlf Mar Msa Msm Mso])) (pI (fun (r : Int32) (_ : Unit) => P r)) 0 0 := by
  refine ct_of RX6 rfl (by decide +kernel) (Nat.le_of_ble_eq_true rfl) (fun zp ze zs zm zb zt zc A hin κ => ?_)
  unfold wp_X6_strandedPeople at h
  refine gw_nf (lv' := [(0, .ref (qa 0))]) (pc' := 0) (st' := []) (ce' := 0) (sl' := 0) rfl rfl rfl rfl rfl rfl ?_
  refine gw_iconst (pc' := 1) (v := 0) κ dX6_strandedPeople_0 rfl (by decide) ?_
  refine gw_istore_n (pc' := 2) κ dX6_strandedPeople_1 rfl rfl (by decide) (lv' := [(1, .int (0 : Int32)), (0, .ref (qa 0))]) rfl ?_
  refine gw_iconst (pc' := 3) (v := 0) κ dX6_strandedPeople_2 rfl (by decide) ?_
  refine gw_istore_n (pc' := 4) κ dX6_strandedPeople_3 rfl rfl (by decide) (lv' := [(2, .int (0 : Int32)), (1, .int (0 : Int32)), (0, .ref (qa 0))]) rfl ?_
  obtain ⟨m4, h⟩ := h
  refine gw_lv (lv' := [(0, .ref (qa 0)), (1, .int (0 : Int32)), (2, .int (0 : Int32))]) [2, 1, 0] rfl ?_
  exact k_X6_strandedPeople_4 κ qa P Mst Mhi Mhn Msl Msv Mpd Mln Mat Mit Mvf Mdn Mlf Mar Msa Msm Mso m4 (0 : Int32) (0 : Int32) h
theorem hy_X6_waiting : g_hy yX6_waiting 0 := by decide +kernel
set_option maxHeartbeats 4000000 in
set_option maxRecDepth 100000 in
theorem k_X6_waiting_4 {zp : Program} {l : Launch} {ze : Env} {zs : State} {zm : MethodId} {za : Array Value} {zb : List Frame} {zt : Method} {zc : Code} {D : va_G} {cI cR : ClassId} {A : Nat → Prop} (κ : KC zp zs zm za zt zc cX6_waiting 3 RX6 D cI cR A (some .int)) (qa : Nat → Nat) (P : Int32 → Prop) (Mst : Nat → Int32) (Mhi : Nat → Int32) (Mhn : Int32) (Msl : Nat → Int32) (Msv : Nat → Int32) (Mpd : Nat → Int32) (Mln : Int32) (Mat : Int32) (Mit : Nat → Int32) (Mvf : Nat → Int32) (Mdn : Nat → Int32) (Mlf : Nat → Int32) (Mar : Nat → Int32) (Msa : Nat → Int32) (Msm : Nat → Int32) (Mso : Int32) : ∀ (n : Nat) (v1 : Int32) (v2 : Int32), wp_X6_waiting_4 P Mst Mvf n v1 v2 → GM zp l ze ({ frames := 2, cells := 0, slots := 0, locals := 43 } : Room) zs zm za zb zt zc D A 3 (pI (fun (r : Int32) (_ : Unit) => P r)) (fun _ : Unit => (wfl [cM qa cI Mst Mhi Mhn Msl Msv Mpd Mln Mat Mit Mvf Mdn Mlf Mar Msa Msm Mso])) 0 0 0 0 (wfl [cM qa cI Mst Mhi Mhn Msl Msv Mpd Mln Mat Mit Mvf Mdn Mlf Mar Msa Msm Mso]) [(0, .ref (qa 0)), (1, .int v1), (2, .int v2)] 4 [] := by
  intro n4
  induction n4 with
  | zero => intro v1 v2 h; exact (show False from h).elim
  | succ n4 ih4 =>
    intro v1 v2 h
    have h : wp_X6_waiting_4F P Mst Mvf (wp_X6_waiting_4 P Mst Mvf n4) v1 v2 := h
    unfold wp_X6_waiting_4F at h
    refine gw_iload_n (pc' := 5) κ dX6_waiting_4 rfl 2 rfl rfl ?_
    refine gw_aload_n (pc' := 6) κ dX6_waiting_5 rfl 0 rfl rfl ?_
    refine gb_get (pc' := 9) (C := RX6) (T := TX6) (N := 16) κ dX6_waiting_6 rfl inX6 0 rfl rfl rfl 0 (by decide) tw_fl_X6_7 rfl ?_
    refine gw_bipush (pc' := 11) (v := 33) κ dX6_waiting_9 rfl (by decide) ?_
    refine gb_iald (pc' := 12) κ dX6_waiting_11 rfl 0 1 rfl rfl (by unfold vp_in; decide) ?_
    refine gw_icmp_ge (pc' := 15) (tgt := 66) κ dX6_waiting_12 rfl (by decide) (fun hc_2 => ?_) (fun hc_2 => ?_)
    · have h := h.1 hc_2
      refine gw_iload_n (pc' := 67) κ dX6_waiting_66 rfl 1 rfl rfl ?_
      exact gw_iret κ dX6_waiting_67 () rfl ⟨_, rfl, h⟩
    · have h := h.2 hc_2
      refine gw_iload_n (pc' := 16) κ dX6_waiting_15 rfl 1 rfl rfl ?_
      refine gw_aload_n (pc' := 17) κ dX6_waiting_16 rfl 0 rfl rfl ?_
      refine gb_get (pc' := 20) (C := RX6) (T := TX6) (N := 16) κ dX6_waiting_17 rfl inX6 0 rfl rfl rfl 9 (by decide) tw_fl_X6_28 rfl ?_
      refine gw_iload_n (pc' := 21) κ dX6_waiting_20 rfl 2 rfl rfl ?_
      obtain ⟨hb_3, h⟩ := h
      refine gb_iald (pc' := 22) κ dX6_waiting_21 rfl 0 7 rfl rfl hb_3 ?_
      refine gw_bipush (pc' := 24) (v := -106) κ dX6_waiting_22 rfl (by decide) ?_
      refine gw_icmp_ne (pc' := 27) (tgt := 31) κ dX6_waiting_24 rfl (by decide) (fun hc_4 => ?_) (fun hc_4 => ?_)
      · have h := h.1 hc_4
        refine gw_aload_n (pc' := 32) κ dX6_waiting_31 rfl 0 rfl rfl ?_
        refine gw_iload_n (pc' := 33) κ dX6_waiting_32 rfl 2 rfl rfl ?_
        refine gw_iconst (pc' := 34) (v := 3) κ dX6_waiting_33 rfl (by decide) ?_
        refine gb_callV (ci := 6) (qb := 0) (rest := [.int v1]) κ (c_X6_of qa Mst Mhi Mhn Msl Msv Mpd Mln Mat Mit Mvf Mdn Mlf Mar Msa Msm Mso v2 (3 : Int32) h) ⟨rfl, rfl, Nat.le_of_ble_eq_true rfl, Nat.le_of_ble_eq_true rfl⟩ tw_ml_X6_57 tw_im_X6_of tw_se_X6_of tw_co_X6_of tw_in_X6 hy_X6_of rfl rfl rfl rfl rfl (Nat.le_of_ble_eq_true rfl) rfl dX6_waiting_34 [0] rfl (by decide) (fun _ => Nat.le_of_ble_eq_true rfl) ⟨Nat.le_of_ble_eq_true rfl, Nat.le_of_ble_eq_true rfl⟩ (fun v u hv => ?_)
        obtain ⟨r_5, rfl, h⟩ := hv
        refine gw_nf (ws' := (wfl [cM qa cI Mst Mhi Mhn Msl Msv Mpd Mln Mat Mit Mvf Mdn Mlf Mar Msa Msm Mso])) (lv' := [(0, .ref (qa 0)), (1, .int v1), (2, .int v2)]) (st' := [.int r_5, .int v1]) (pc' := 37) (ce' := 0) (sl' := 0) rfl rfl rfl rfl rfl rfl ?_
        refine gw_aload_n (pc' := 38) κ dX6_waiting_37 rfl 0 rfl rfl ?_
        refine gb_get (pc' := 41) (C := RX6) (T := TX6) (N := 16) κ dX6_waiting_38 rfl inX6 0 rfl rfl rfl 0 (by decide) tw_fl_X6_7 rfl ?_
        refine gw_bipush (pc' := 43) (v := 17) κ dX6_waiting_41 rfl (by decide) ?_
        refine gw_aload_n (pc' := 44) κ dX6_waiting_43 rfl 0 rfl rfl ?_
        refine gb_get (pc' := 47) (C := RX6) (T := TX6) (N := 16) κ dX6_waiting_44 rfl inX6 0 rfl rfl rfl 9 (by decide) tw_fl_X6_28 rfl ?_
        refine gw_iload_n (pc' := 48) κ dX6_waiting_47 rfl 2 rfl rfl ?_
        obtain ⟨hb_6, h⟩ := h
        refine gb_iald (pc' := 49) κ dX6_waiting_48 rfl 0 7 rfl rfl hb_6 ?_
        refine gw_iadd (pc' := 50) κ dX6_waiting_49 rfl  ?_
        obtain ⟨hb_7, h⟩ := h
        refine gb_iald (pc' := 51) κ dX6_waiting_50 rfl 0 1 rfl rfl hb_7 ?_
        refine gw_aload_n (pc' := 52) κ dX6_waiting_51 rfl 0 rfl rfl ?_
        refine gw_iload_n (pc' := 53) κ dX6_waiting_52 rfl 2 rfl rfl ?_
        refine gb_callV (ci := 6) (qb := 0) (rest := [.int (Mst ((17 : Int32) + (Mvf v2.toNatClampNeg)).toNatClampNeg), .int r_5, .int v1]) κ (c_X6_ready qa Mst Mhi Mhn Msl Msv Mpd Mln Mat Mit Mvf Mdn Mlf Mar Msa Msm Mso v2 h) ⟨rfl, rfl, Nat.le_of_ble_eq_true rfl, Nat.le_of_ble_eq_true rfl⟩ tw_ml_X6_65 tw_im_X6_ready tw_se_X6_ready tw_co_X6_ready tw_in_X6 hy_X6_ready rfl rfl rfl rfl rfl (Nat.le_of_ble_eq_true rfl) rfl dX6_waiting_53 [0] rfl (by decide) (fun _ => Nat.le_of_ble_eq_true rfl) ⟨Nat.le_of_ble_eq_true rfl, Nat.le_of_ble_eq_true rfl⟩ (fun v u hv => ?_)
        obtain ⟨r_8, rfl, h⟩ := hv
        refine gw_nf (ws' := (wfl [cM qa cI Mst Mhi Mhn Msl Msv Mpd Mln Mat Mit Mvf Mdn Mlf Mar Msa Msm Mso])) (lv' := [(0, .ref (qa 0)), (1, .int v1), (2, .int v2)]) (st' := [.int r_8, .int (Mst ((17 : Int32) + (Mvf v2.toNatClampNeg)).toNatClampNeg), .int r_5, .int v1]) (pc' := 56) (ce' := 0) (sl' := 0) rfl rfl rfl rfl rfl rfl ?_
        refine gw_isub (pc' := 57) κ dX6_waiting_56 rfl  ?_
        refine gw_imul (pc' := 58) κ dX6_waiting_57 rfl  ?_
        refine gw_iadd (pc' := 59) κ dX6_waiting_58 rfl  ?_
        refine gw_top (fun y_9 hy_9 => ?_)
        have h := h y_9 hy_9
        refine gw_istore_n (pc' := 60) κ dX6_waiting_59 rfl rfl (by decide) (lv' := [(1, .int y_9), (0, .ref (qa 0)), (2, .int v2)]) rfl ?_
        refine gw_iinc (pc' := 63) κ dX6_waiting_60 rfl 2 rfl (v := (v2 + 1)) rfl (by decide) (lv' := [(2, .int (v2 + 1)), (1, .int y_9), (0, .ref (qa 0))]) rfl ?_
        refine gw_goto (tgt := 4) κ dX6_waiting_63 (by decide) ?_
        refine gw_lv (lv' := [(0, .ref (qa 0)), (1, .int y_9), (2, .int (v2 + 1))]) [2, 1, 0] rfl ?_
        exact ih4 y_9 (v2 + 1) h
      · have h := h.2 hc_4
        refine gw_iconst (pc' := 28) (v := 0) κ dX6_waiting_27 rfl (by decide) ?_
        refine gw_goto (tgt := 58) κ dX6_waiting_28 (by decide) ?_
        refine gw_iadd (pc' := 59) κ dX6_waiting_58 rfl  ?_
        refine gw_istore_n (pc' := 60) κ dX6_waiting_59 rfl rfl (by decide) (lv' := [(1, .int (v1 + (0 : Int32))), (0, .ref (qa 0)), (2, .int v2)]) rfl ?_
        refine gw_iinc (pc' := 63) κ dX6_waiting_60 rfl 2 rfl (v := (v2 + 1)) rfl (by decide) (lv' := [(2, .int (v2 + 1)), (1, .int (v1 + (0 : Int32))), (0, .ref (qa 0))]) rfl ?_
        refine gw_goto (tgt := 4) κ dX6_waiting_63 (by decide) ?_
        refine gw_lv (lv' := [(0, .ref (qa 0)), (1, .int (v1 + (0 : Int32))), (2, .int (v2 + 1))]) [2, 1, 0] rfl ?_
        exact ih4 (v1 + (0 : Int32)) (v2 + 1) h
set_option maxHeartbeats 4000000 in
set_option maxRecDepth 100000 in
theorem c_X6_waiting {l : Launch} {D : va_G} {cI cR : ClassId}  (qa : Nat → Nat) {P : Int32 → Prop} (Mst : Nat → Int32) (Mhi : Nat → Int32) (Mhn : Int32) (Msl : Nat → Int32) (Msv : Nat → Int32) (Mpd : Nat → Int32) (Mln : Int32) (Mat : Int32) (Mit : Nat → Int32) (Mvf : Nat → Int32) (Mdn : Nat → Int32) (Mlf : Nat → Int32) (Mar : Nat → Int32) (Msa : Nat → Int32) (Msm : Nat → Int32) (Mso : Int32) (h : wp_X6_waiting P Mst Mvf) : CT l D cI cR yX6_waiting cX6_waiting 3 (some .int) ({ frames := 2, cells := 0, slots := 0, locals := 43 } : Room) [.ref (qa 0)] (wfl [cM qa cI Mst Mhi Mhn Msl Msv Mpd Mln Mat Mit Mvf Mdn Mlf Mar Msa Msm Mso]) (fun _ : Unit => (wfl [cM qa cI Mst Mhi Mhn Msl Msv Mpd Mln Mat Mit Mvf Mdn Mlf Mar Msa Msm Mso])) (pI (fun (r : Int32) (_ : Unit) => P r)) 0 0 := by
  refine ct_of RX6 rfl (by decide +kernel) (Nat.le_of_ble_eq_true rfl) (fun zp ze zs zm zb zt zc A hin κ => ?_)
  unfold wp_X6_waiting at h
  refine gw_nf (lv' := [(0, .ref (qa 0))]) (pc' := 0) (st' := []) (ce' := 0) (sl' := 0) rfl rfl rfl rfl rfl rfl ?_
  refine gw_iconst (pc' := 1) (v := 0) κ dX6_waiting_0 rfl (by decide) ?_
  refine gw_istore_n (pc' := 2) κ dX6_waiting_1 rfl rfl (by decide) (lv' := [(1, .int (0 : Int32)), (0, .ref (qa 0))]) rfl ?_
  refine gw_iconst (pc' := 3) (v := 0) κ dX6_waiting_2 rfl (by decide) ?_
  refine gw_istore_n (pc' := 4) κ dX6_waiting_3 rfl rfl (by decide) (lv' := [(2, .int (0 : Int32)), (1, .int (0 : Int32)), (0, .ref (qa 0))]) rfl ?_
  obtain ⟨m4, h⟩ := h
  refine gw_lv (lv' := [(0, .ref (qa 0)), (1, .int (0 : Int32)), (2, .int (0 : Int32))]) [2, 1, 0] rfl ?_
  exact k_X6_waiting_4 κ qa P Mst Mhi Mhn Msl Msv Mpd Mln Mat Mit Mvf Mdn Mlf Mar Msa Msm Mso m4 (0 : Int32) (0 : Int32) h
theorem hy_X6_lastMinute : g_hy yX6_lastMinute 0 := by decide +kernel
set_option maxHeartbeats 4000000 in
set_option maxRecDepth 100000 in
theorem k_X6_lastMinute_49 {zp : Program} {l : Launch} {ze : Env} {zs : State} {zm : MethodId} {za : Array Value} {zb : List Frame} {zt : Method} {zc : Code} {D : va_G} {cI cR : ClassId} {A : Nat → Prop} (κ : KC zp zs zm za zt zc cX6_lastMinute 4 RX6 D cI cR A (some .int)) (qa : Nat → Nat) (P : Int32 → (Nat → Int32) → (Nat → Int32) → Int32 → Prop) (Mst : Nat → Int32) (Mhi : Nat → Int32) (Mhn : Int32) (Msl : Nat → Int32) (Msv : Nat → Int32) (Mpd : Nat → Int32) (Mln : Int32) (Mat : Int32) (Mit : Nat → Int32) (Mvf : Nat → Int32) (Mdn : Nat → Int32) (Mlf : Nat → Int32) (Mar : Nat → Int32) (r5 : Int32 → Int32 → (Nat → Int32) → (Nat → Int32) → Int32 → Prop) (v1 : Int32) (v2 : Int32) (w0 : Int32) (Msa : Nat → Int32) (Msm : Nat → Int32) (Mso : Int32) (hr5 : ∀ (v1 : Int32) (v2 : Int32) (Msa : Nat → Int32) (Msm : Nat → Int32) (Mso : Int32), r5 v1 v2 Msa Msm Mso → GM zp l ze ({ frames := 3, cells := 0, slots := 0, locals := 69 } : Room) zs zm za zb zt zc D A 4 (pI (fun (r : Int32) (u : (Nat → Int32) × (Nat → Int32) × Int32) => P r u.1 u.2.1 u.2.2)) (fun u : (Nat → Int32) × (Nat → Int32) × Int32 => (wfl [cM qa cI Mst Mhi Mhn Msl Msv Mpd Mln Mat Mit Mvf Mdn Mlf Mar u.1 u.2.1 u.2.2])) 0 0 0 0 (wfl [cM qa cI Mst Mhi Mhn Msl Msv Mpd Mln Mat Mit Mvf Mdn Mlf Mar Msa Msm Mso]) [(0, .ref (qa 0)), (1, .int v1), (2, .int v2)] 5 []) (h : wp_X6_lastMinute_49 P Mst Mvf r5 v1 v2 w0 Msa Msm Mso) : GM zp l ze ({ frames := 3, cells := 0, slots := 0, locals := 69 } : Room) zs zm za zb zt zc D A 4 (pI (fun (r : Int32) (u : (Nat → Int32) × (Nat → Int32) × Int32) => P r u.1 u.2.1 u.2.2)) (fun u : (Nat → Int32) × (Nat → Int32) × Int32 => (wfl [cM qa cI Mst Mhi Mhn Msl Msv Mpd Mln Mat Mit Mvf Mdn Mlf Mar u.1 u.2.1 u.2.2])) 0 0 0 0 (wfl [cM qa cI Mst Mhi Mhn Msl Msv Mpd Mln Mat Mit Mvf Mdn Mlf Mar Msa Msm Mso]) [(0, .ref (qa 0)), (1, .int v1), (2, .int v2)] 49 [.int w0] := by
  unfold wp_X6_lastMinute_49 at h
  refine gw_istore_n (pc' := 50) κ dX6_lastMinute_49 rfl rfl (by decide) (lv' := [(3, .int w0), (0, .ref (qa 0)), (1, .int v1), (2, .int v2)]) rfl ?_
  refine gw_iload_n (pc' := 51) κ dX6_lastMinute_50 rfl 0 rfl rfl ?_
  refine gw_if_eq (pc' := 54) (tgt := 68) κ dX6_lastMinute_51 rfl (by decide) (fun hc_9 => ?_) (fun hc_9 => ?_)
  · have h := h.1 hc_9
    refine gw_iload_n (pc' := 69) κ dX6_lastMinute_68 rfl 2 rfl rfl ?_
    refine gw_istore_n (pc' := 70) κ dX6_lastMinute_69 rfl rfl (by decide) (lv' := [(1, .int v1), (3, .int w0), (0, .ref (qa 0)), (2, .int v2)]) rfl ?_
    refine gw_iinc (pc' := 73) κ dX6_lastMinute_70 rfl 3 rfl (v := (v2 + 1)) rfl (by decide) (lv' := [(2, .int (v2 + 1)), (1, .int v1), (3, .int w0), (0, .ref (qa 0))]) rfl ?_
    refine gw_goto (tgt := 5) κ dX6_lastMinute_73 (by decide) ?_
    refine gw_lv (lv' := [(0, .ref (qa 0)), (1, .int v1), (2, .int (v2 + 1))]) [3, 1, 0] rfl ?_
    exact hr5 v1 (v2 + 1) Msa Msm Mso h
  · have h := h.2 hc_9
    refine gw_aload_n (pc' := 55) κ dX6_lastMinute_54 rfl 1 rfl rfl ?_
    refine gb_get (pc' := 58) (C := RX6) (T := TX6) (N := 16) κ dX6_lastMinute_55 rfl inX6 0 rfl rfl rfl 14 (by decide) tw_fl_X6_43 rfl ?_
    refine gw_aload_n (pc' := 59) κ dX6_lastMinute_58 rfl 1 rfl rfl ?_
    refine gb_get (pc' := 62) (C := RX6) (T := TX6) (N := 16) κ dX6_lastMinute_59 rfl inX6 0 rfl rfl rfl 15 (by decide) tw_fl_X6_82 rfl ?_
    refine gw_iconst (pc' := 63) (v := 1) κ dX6_lastMinute_62 rfl (by decide) ?_
    refine gw_isub (pc' := 64) κ dX6_lastMinute_63 rfl  ?_
    obtain ⟨hb_10, h⟩ := h
    refine gb_iald (pc' := 65) κ dX6_lastMinute_64 rfl 0 12 rfl rfl hb_10 ?_
    refine gw_goto (tgt := 69) κ dX6_lastMinute_65 (by decide) ?_
    refine gw_istore_n (pc' := 70) κ dX6_lastMinute_69 rfl rfl (by decide) (lv' := [(1, .int (Msm (Mso - (1 : Int32)).toNatClampNeg)), (3, .int w0), (0, .ref (qa 0)), (2, .int v2)]) rfl ?_
    refine gw_iinc (pc' := 73) κ dX6_lastMinute_70 rfl 3 rfl (v := (v2 + 1)) rfl (by decide) (lv' := [(2, .int (v2 + 1)), (1, .int (Msm (Mso - (1 : Int32)).toNatClampNeg)), (3, .int w0), (0, .ref (qa 0))]) rfl ?_
    refine gw_goto (tgt := 5) κ dX6_lastMinute_73 (by decide) ?_
    refine gw_lv (lv' := [(0, .ref (qa 0)), (1, .int (Msm (Mso - (1 : Int32)).toNatClampNeg)), (2, .int (v2 + 1))]) [3, 1, 0] rfl ?_
    exact hr5 (Msm (Mso - (1 : Int32)).toNatClampNeg) (v2 + 1) Msa Msm Mso h
set_option maxHeartbeats 4000000 in
set_option maxRecDepth 100000 in
theorem k_X6_lastMinute_5 {zp : Program} {l : Launch} {ze : Env} {zs : State} {zm : MethodId} {za : Array Value} {zb : List Frame} {zt : Method} {zc : Code} {D : va_G} {cI cR : ClassId} {A : Nat → Prop} (κ : KC zp zs zm za zt zc cX6_lastMinute 4 RX6 D cI cR A (some .int)) (qa : Nat → Nat) (P : Int32 → (Nat → Int32) → (Nat → Int32) → Int32 → Prop) (Mst : Nat → Int32) (Mhi : Nat → Int32) (Mhn : Int32) (Msl : Nat → Int32) (Msv : Nat → Int32) (Mpd : Nat → Int32) (Mln : Int32) (Mat : Int32) (Mit : Nat → Int32) (Mvf : Nat → Int32) (Mdn : Nat → Int32) (Mlf : Nat → Int32) (Mar : Nat → Int32) : ∀ (n : Nat) (v1 : Int32) (v2 : Int32) (Msa : Nat → Int32) (Msm : Nat → Int32) (Mso : Int32), wp_X6_lastMinute_5 P Mst Mvf n v1 v2 Msa Msm Mso → GM zp l ze ({ frames := 3, cells := 0, slots := 0, locals := 69 } : Room) zs zm za zb zt zc D A 4 (pI (fun (r : Int32) (u : (Nat → Int32) × (Nat → Int32) × Int32) => P r u.1 u.2.1 u.2.2)) (fun u : (Nat → Int32) × (Nat → Int32) × Int32 => (wfl [cM qa cI Mst Mhi Mhn Msl Msv Mpd Mln Mat Mit Mvf Mdn Mlf Mar u.1 u.2.1 u.2.2])) 0 0 0 0 (wfl [cM qa cI Mst Mhi Mhn Msl Msv Mpd Mln Mat Mit Mvf Mdn Mlf Mar Msa Msm Mso]) [(0, .ref (qa 0)), (1, .int v1), (2, .int v2)] 5 [] := by
  intro n5
  induction n5 with
  | zero => intro v1 v2 Msa Msm Mso h; exact (show False from h).elim
  | succ n5 ih5 =>
    intro v1 v2 Msa Msm Mso h
    have h : wp_X6_lastMinute_5F P Mst Mvf (wp_X6_lastMinute_5 P Mst Mvf n5) v1 v2 Msa Msm Mso := h
    unfold wp_X6_lastMinute_5F at h
    refine gw_iload_n (pc' := 6) κ dX6_lastMinute_5 rfl 2 rfl rfl ?_
    refine gw_bipush (pc' := 8) (v := 8) κ dX6_lastMinute_6 rfl (by decide) ?_
    refine gw_icmp_ge (pc' := 11) (tgt := 76) κ dX6_lastMinute_8 rfl (by decide) (fun hc_1 => ?_) (fun hc_1 => ?_)
    · have h := h.1 hc_1
      refine gw_iload_n (pc' := 77) κ dX6_lastMinute_76 rfl 1 rfl rfl ?_
      exact gw_iret κ dX6_lastMinute_77 (Msa, Msm, Mso) rfl ⟨_, rfl, h⟩
    · have h := h.2 hc_1
      refine gw_aload_n (pc' := 12) κ dX6_lastMinute_11 rfl 0 rfl rfl ?_
      refine gw_iload_n (pc' := 13) κ dX6_lastMinute_12 rfl 2 rfl rfl ?_
      refine gb_callV (ci := 6) (qb := 0) (rest := []) κ (c_X6_layStops qa Mst Mhi Mhn Msl Msv Mpd Mln Mat Mit Mvf Mdn Mlf Mar Msa Msm Mso v2 h) ⟨rfl, rfl, Nat.le_of_ble_eq_true rfl, Nat.le_of_ble_eq_true rfl⟩ tw_ml_X6_88 tw_im_X6_layStops tw_se_X6_layStops tw_co_X6_layStops tw_in_X6 hy_X6_layStops rfl rfl rfl rfl rfl (Nat.le_of_ble_eq_true rfl) rfl dX6_lastMinute_13 [0] rfl (by decide) (fun _ => Nat.le_of_ble_eq_true rfl) ⟨Nat.le_of_ble_eq_true rfl, Nat.le_of_ble_eq_true rfl⟩ (fun v u hv => ?_)
      obtain ⟨rfl, h⟩ := hv
      obtain ⟨Msa_2, Msm_3, Mso_4⟩ := u
      refine gw_nf (ws' := (wfl [cM qa cI Mst Mhi Mhn Msl Msv Mpd Mln Mat Mit Mvf Mdn Mlf Mar Msa_2 Msm_3 Mso_4])) (lv' := [(0, .ref (qa 0)), (1, .int v1), (2, .int v2)]) (st' := []) (pc' := 16) (ce' := 0) (sl' := 0) rfl rfl rfl rfl rfl rfl ?_
      refine gw_aload_n (pc' := 17) κ dX6_lastMinute_16 rfl 0 rfl rfl ?_
      refine gb_get (pc' := 20) (C := RX6) (T := TX6) (N := 16) κ dX6_lastMinute_17 rfl inX6 0 rfl rfl rfl 15 (by decide) tw_fl_X6_82 rfl ?_
      refine gw_if_le (pc' := 23) (tgt := 48) κ dX6_lastMinute_20 rfl (by decide) (fun hc_5 => ?_) (fun hc_5 => ?_)
      · have h := h.1 hc_5
        refine gw_iconst (pc' := 49) (v := 0) κ dX6_lastMinute_48 rfl (by decide) ?_
        refine gw_lv (lv' := [(0, .ref (qa 0)), (1, .int v1), (2, .int v2)]) [0, 1, 2] rfl ?_
        exact k_X6_lastMinute_49 κ qa P Mst Mhi Mhn Msl Msv Mpd Mln Mat Mit Mvf Mdn Mlf Mar (wp_X6_lastMinute_5 P Mst Mvf n5) v1 v2 (0 : Int32) Msa_2 Msm_3 Mso_4 ih5 h
      · have h := h.2 hc_5
        refine gw_iload_n (pc' := 24) κ dX6_lastMinute_23 rfl 1 rfl rfl ?_
        refine gw_bipush (pc' := 26) (v := -106) κ dX6_lastMinute_24 rfl (by decide) ?_
        refine gw_icmp_eq (pc' := 29) (tgt := 44) κ dX6_lastMinute_26 rfl (by decide) (fun hc_6 => ?_) (fun hc_6 => ?_)
        · have h := h.1 hc_6
          refine gw_iconst (pc' := 45) (v := 1) κ dX6_lastMinute_44 rfl (by decide) ?_
          refine gw_goto (tgt := 49) κ dX6_lastMinute_45 (by decide) ?_
          refine gw_lv (lv' := [(0, .ref (qa 0)), (1, .int v1), (2, .int v2)]) [0, 1, 2] rfl ?_
          exact k_X6_lastMinute_49 κ qa P Mst Mhi Mhn Msl Msv Mpd Mln Mat Mit Mvf Mdn Mlf Mar (wp_X6_lastMinute_5 P Mst Mvf n5) v1 v2 (1 : Int32) Msa_2 Msm_3 Mso_4 ih5 h
        · have h := h.2 hc_6
          refine gw_aload_n (pc' := 30) κ dX6_lastMinute_29 rfl 0 rfl rfl ?_
          refine gb_get (pc' := 33) (C := RX6) (T := TX6) (N := 16) κ dX6_lastMinute_30 rfl inX6 0 rfl rfl rfl 14 (by decide) tw_fl_X6_43 rfl ?_
          refine gw_aload_n (pc' := 34) κ dX6_lastMinute_33 rfl 0 rfl rfl ?_
          refine gb_get (pc' := 37) (C := RX6) (T := TX6) (N := 16) κ dX6_lastMinute_34 rfl inX6 0 rfl rfl rfl 15 (by decide) tw_fl_X6_82 rfl ?_
          refine gw_iconst (pc' := 38) (v := 1) κ dX6_lastMinute_37 rfl (by decide) ?_
          refine gw_isub (pc' := 39) κ dX6_lastMinute_38 rfl  ?_
          obtain ⟨hb_7, h⟩ := h
          refine gb_iald (pc' := 40) κ dX6_lastMinute_39 rfl 0 12 rfl rfl hb_7 ?_
          refine gw_iload_n (pc' := 41) κ dX6_lastMinute_40 rfl 1 rfl rfl ?_
          refine gw_icmp_le (pc' := 44) (tgt := 48) κ dX6_lastMinute_41 rfl (by decide) (fun hc_8 => ?_) (fun hc_8 => ?_)
          · have h := h.1 hc_8
            refine gw_iconst (pc' := 49) (v := 0) κ dX6_lastMinute_48 rfl (by decide) ?_
            refine gw_lv (lv' := [(0, .ref (qa 0)), (1, .int v1), (2, .int v2)]) [0, 1, 2] rfl ?_
            exact k_X6_lastMinute_49 κ qa P Mst Mhi Mhn Msl Msv Mpd Mln Mat Mit Mvf Mdn Mlf Mar (wp_X6_lastMinute_5 P Mst Mvf n5) v1 v2 (0 : Int32) Msa_2 Msm_3 Mso_4 ih5 h
          · have h := h.2 hc_8
            refine gw_iconst (pc' := 45) (v := 1) κ dX6_lastMinute_44 rfl (by decide) ?_
            refine gw_goto (tgt := 49) κ dX6_lastMinute_45 (by decide) ?_
            refine gw_lv (lv' := [(0, .ref (qa 0)), (1, .int v1), (2, .int v2)]) [0, 1, 2] rfl ?_
            exact k_X6_lastMinute_49 κ qa P Mst Mhi Mhn Msl Msv Mpd Mln Mat Mit Mvf Mdn Mlf Mar (wp_X6_lastMinute_5 P Mst Mvf n5) v1 v2 (1 : Int32) Msa_2 Msm_3 Mso_4 ih5 h
set_option maxHeartbeats 4000000 in
set_option maxRecDepth 100000 in
theorem c_X6_lastMinute {l : Launch} {D : va_G} {cI cR : ClassId}  (qa : Nat → Nat) {P : Int32 → (Nat → Int32) → (Nat → Int32) → Int32 → Prop} (Mst : Nat → Int32) (Mhi : Nat → Int32) (Mhn : Int32) (Msl : Nat → Int32) (Msv : Nat → Int32) (Mpd : Nat → Int32) (Mln : Int32) (Mat : Int32) (Mit : Nat → Int32) (Mvf : Nat → Int32) (Mdn : Nat → Int32) (Mlf : Nat → Int32) (Mar : Nat → Int32) (Msa : Nat → Int32) (Msm : Nat → Int32) (Mso : Int32) (h : wp_X6_lastMinute P Mst Mvf Msa Msm Mso) : CT l D cI cR yX6_lastMinute cX6_lastMinute 4 (some .int) ({ frames := 3, cells := 0, slots := 0, locals := 69 } : Room) [.ref (qa 0)] (wfl [cM qa cI Mst Mhi Mhn Msl Msv Mpd Mln Mat Mit Mvf Mdn Mlf Mar Msa Msm Mso]) (fun u : (Nat → Int32) × (Nat → Int32) × Int32 => (wfl [cM qa cI Mst Mhi Mhn Msl Msv Mpd Mln Mat Mit Mvf Mdn Mlf Mar u.1 u.2.1 u.2.2])) (pI (fun (r : Int32) (u : (Nat → Int32) × (Nat → Int32) × Int32) => P r u.1 u.2.1 u.2.2)) 0 0 := by
  refine ct_of RX6 rfl (by decide +kernel) (Nat.le_of_ble_eq_true rfl) (fun zp ze zs zm zb zt zc A hin κ => ?_)
  unfold wp_X6_lastMinute at h
  refine gw_nf (lv' := [(0, .ref (qa 0))]) (pc' := 0) (st' := []) (ce' := 0) (sl' := 0) rfl rfl rfl rfl rfl rfl ?_
  refine gw_bipush (pc' := 2) (v := -106) κ dX6_lastMinute_0 rfl (by decide) ?_
  refine gw_istore_n (pc' := 3) κ dX6_lastMinute_2 rfl rfl (by decide) (lv' := [(1, .int (-106 : Int32)), (0, .ref (qa 0))]) rfl ?_
  refine gw_iconst (pc' := 4) (v := 0) κ dX6_lastMinute_3 rfl (by decide) ?_
  refine gw_istore_n (pc' := 5) κ dX6_lastMinute_4 rfl rfl (by decide) (lv' := [(2, .int (0 : Int32)), (1, .int (-106 : Int32)), (0, .ref (qa 0))]) rfl ?_
  obtain ⟨m5, h⟩ := h
  refine gw_lv (lv' := [(0, .ref (qa 0)), (1, .int (-106 : Int32)), (2, .int (0 : Int32))]) [2, 1, 0] rfl ?_
  exact k_X6_lastMinute_5 κ qa P Mst Mhi Mhn Msl Msv Mpd Mln Mat Mit Mvf Mdn Mlf Mar m5 (-106 : Int32) (0 : Int32) Msa Msm Mso h
theorem hy_X6_leastOf : g_hy yX6_leastOf 1 := by decide +kernel
set_option maxHeartbeats 4000000 in
set_option maxRecDepth 100000 in
theorem c_X6_leastOf {l : Launch} {D : va_G} {cI cR : ClassId}  {P : Int32 → Prop} (x0 : Int32) (h : wp_X6_leastOf P x0) : CT l D cI cR yX6_leastOf cX6_leastOf 1 (some .int) ({ frames := 0, cells := 0, slots := 0, locals := 0 } : Room) [.int x0] (wfl ([] : List va_W)) (fun _ : Unit => (wfl ([] : List va_W))) (pI (fun (r : Int32) (_ : Unit) => P r)) 0 0 := by
  refine ct_of RX6 rfl (by decide +kernel) (Nat.le_of_ble_eq_true rfl) (fun zp ze zs zm zb zt zc A hin κ => ?_)
  unfold wp_X6_leastOf at h
  refine gw_nf (lv' := [(0, .int x0)]) (pc' := 0) (st' := []) (ce' := 0) (sl' := 0) rfl rfl rfl rfl rfl rfl ?_
  refine gw_iload_n (pc' := 1) κ dX6_leastOf_0 rfl 0 rfl rfl ?_
  refine gw_iconst (pc' := 2) (v := 2) κ dX6_leastOf_1 rfl (by decide) ?_
  refine gw_icmp_ne (pc' := 5) (tgt := 9) κ dX6_leastOf_2 rfl (by decide) (fun hc_1 => ?_) (fun hc_1 => ?_)
  · have h := h.1 hc_1
    refine gw_iconst (pc' := 10) (v := 0) κ dX6_leastOf_9 rfl (by decide) ?_
    exact gw_iret κ dX6_leastOf_10 () rfl ⟨_, rfl, h⟩
  · have h := h.2 hc_1
    refine gw_iconst (pc' := 6) (v := 1) κ dX6_leastOf_5 rfl (by decide) ?_
    refine gw_goto (tgt := 10) κ dX6_leastOf_6 (by decide) ?_
    exact gw_iret κ dX6_leastOf_10 () rfl ⟨_, rfl, h⟩
theorem hy_X6_mostOf : g_hy yX6_mostOf 1 := by decide +kernel
set_option maxHeartbeats 4000000 in
set_option maxRecDepth 100000 in
theorem c_X6_mostOf {l : Launch} {D : va_G} {cI cR : ClassId}  {P : Int32 → Prop} (x0 : Int32) (h : wp_X6_mostOf P x0) : CT l D cI cR yX6_mostOf cX6_mostOf 1 (some .int) ({ frames := 0, cells := 0, slots := 0, locals := 0 } : Room) [.int x0] (wfl ([] : List va_W)) (fun _ : Unit => (wfl ([] : List va_W))) (pI (fun (r : Int32) (_ : Unit) => P r)) 0 0 := by
  refine ct_of RX6 rfl (by decide +kernel) (Nat.le_of_ble_eq_true rfl) (fun zp ze zs zm zb zt zc A hin κ => ?_)
  unfold wp_X6_mostOf at h
  refine gw_nf (lv' := [(0, .int x0)]) (pc' := 0) (st' := []) (ce' := 0) (sl' := 0) rfl rfl rfl rfl rfl rfl ?_
  refine gw_iload_n (pc' := 1) κ dX6_mostOf_0 rfl 0 rfl rfl ?_
  obtain ⟨hc_1_0, hc_1_1, hc_1_2, hc_1_3, hc_1d⟩ := h
  by_cases hc_1c_0 : x0 = 0
  · have h := hc_1_0 hc_1c_0
    refine gw_tableIn (tgt := 32) (off := 31) κ dX6_mostOf_1 (by rw [hc_1c_0]; decide) (by rw [hc_1c_0]; decide) (by rw [hc_1c_0]; decide +kernel) (by decide) ?_
    refine gw_bipush (pc' := 34) (v := 90) κ dX6_mostOf_32 rfl (by decide) ?_
    exact gw_iret κ dX6_mostOf_34 () rfl ⟨_, rfl, h⟩
  by_cases hc_1c_1 : x0 = 1
  · have h := hc_1_1 hc_1c_1
    refine gw_tableIn (tgt := 35) (off := 34) κ dX6_mostOf_1 (by rw [hc_1c_1]; decide) (by rw [hc_1c_1]; decide) (by rw [hc_1c_1]; decide +kernel) (by decide) ?_
    refine gw_sipush (pc' := 38) (v := 240) κ dX6_mostOf_35 rfl (by decide) ?_
    exact gw_iret κ dX6_mostOf_38 () rfl ⟨_, rfl, h⟩
  by_cases hc_1c_2 : x0 = 2
  · have h := hc_1_2 hc_1c_2
    refine gw_tableIn (tgt := 39) (off := 38) κ dX6_mostOf_1 (by rw [hc_1c_2]; decide) (by rw [hc_1c_2]; decide) (by rw [hc_1c_2]; decide +kernel) (by decide) ?_
    refine gw_bipush (pc' := 41) (v := 6) κ dX6_mostOf_39 rfl (by decide) ?_
    exact gw_iret κ dX6_mostOf_41 () rfl ⟨_, rfl, h⟩
  by_cases hc_1c_3 : x0 = 3
  · have h := hc_1_3 hc_1c_3
    refine gw_tableIn (tgt := 42) (off := 41) κ dX6_mostOf_1 (by rw [hc_1c_3]; decide) (by rw [hc_1c_3]; decide) (by rw [hc_1c_3]; decide +kernel) (by decide) ?_
    refine gw_sipush (pc' := 45) (v := 300) κ dX6_mostOf_42 rfl (by decide) ?_
    exact gw_iret κ dX6_mostOf_45 () rfl ⟨_, rfl, h⟩
  have h := hc_1d ⟨hc_1c_0, hc_1c_1, hc_1c_2, hc_1c_3⟩
  refine gw_tableOut (tgt := 46) κ dX6_mostOf_1 (sw_out2 (x := x0) (lo := 0) (hi := 3) (by decide) (fun k h1 h2 => by rcases (show k = 0 ∨ k = 1 ∨ k = 2 ∨ k = 3 by omega) with rfl | rfl | rfl | rfl <;> assumption)) (by decide) ?_
  refine gw_bipush (pc' := 48) (v := 40) κ dX6_mostOf_46 rfl (by decide) ?_
  exact gw_iret κ dX6_mostOf_48 () rfl ⟨_, rfl, h⟩
theorem hy_X6_set : g_hy yX6_set 2 := by decide +kernel
set_option maxHeartbeats 4000000 in
set_option maxRecDepth 100000 in
theorem c_X6_set {l : Launch} {D : va_G} {cI cR : ClassId}  (qa : Nat → Nat) {P : Int32 → (Nat → Int32) → (Nat → Int32) → Int32 → Prop} (Mst : Nat → Int32) (Mhi : Nat → Int32) (Mhn : Int32) (Msl : Nat → Int32) (Msv : Nat → Int32) (Mpd : Nat → Int32) (Mln : Int32) (Mat : Int32) (Mit : Nat → Int32) (Mvf : Nat → Int32) (Mdn : Nat → Int32) (Mlf : Nat → Int32) (Mar : Nat → Int32) (Msa : Nat → Int32) (Msm : Nat → Int32) (Mso : Int32) (x1 : Int32) (x2 : Int32) (h : wp_X6_set P Mst Mhi Mhn x1 x2) : CT l D cI cR yX6_set cX6_set 4 (some .int) ({ frames := 1, cells := 0, slots := 0, locals := 22 } : Room) [.ref (qa 0), .int x1, .int x2] (wfl [cM qa cI Mst Mhi Mhn Msl Msv Mpd Mln Mat Mit Mvf Mdn Mlf Mar Msa Msm Mso]) (fun u : (Nat → Int32) × (Nat → Int32) × Int32 => (wfl [cM qa cI u.1 u.2.1 u.2.2 Msl Msv Mpd Mln Mat Mit Mvf Mdn Mlf Mar Msa Msm Mso])) (pI (fun (r : Int32) (u : (Nat → Int32) × (Nat → Int32) × Int32) => P r u.1 u.2.1 u.2.2)) 0 0 := by
  refine ct_of RX6 rfl (by decide +kernel) (Nat.le_of_ble_eq_true rfl) (fun zp ze zs zm zb zt zc A hin κ => ?_)
  unfold wp_X6_set at h
  refine gw_nf (lv' := [(0, .ref (qa 0)), (1, .int x1), (2, .int x2)]) (pc' := 0) (st' := []) (ce' := 0) (sl' := 0) rfl rfl rfl rfl rfl rfl ?_
  refine gw_iload_n (pc' := 1) κ dX6_set_0 rfl 1 rfl rfl ?_
  refine gw_iconst (pc' := 2) (v := 0) κ dX6_set_1 rfl (by decide) ?_
  refine gw_iconst (pc' := 3) (v := 4) κ dX6_set_2 rfl (by decide) ?_
  refine gb_callS (rest := []) κ (c_X6_within  x1 (0 : Int32) (4 : Int32) h) ⟨rfl, rfl, Nat.le_of_ble_eq_true rfl, Nat.le_of_ble_eq_true rfl⟩ tw_ml_X6_46 tw_st_X6_within tw_co_X6_within tw_in_X6 hy_X6_within rfl (Nat.le_of_ble_eq_true rfl) rfl dX6_set_3 [] rfl (by decide) (fun _ => Nat.le_of_ble_eq_true rfl) ⟨Nat.le_of_ble_eq_true rfl, Nat.le_of_ble_eq_true rfl⟩ (fun v u hv => ?_)
  obtain ⟨r_1, rfl, h⟩ := hv
  refine gw_nf (ws' := (wfl [cM qa cI Mst Mhi Mhn Msl Msv Mpd Mln Mat Mit Mvf Mdn Mlf Mar Msa Msm Mso])) (lv' := [(0, .ref (qa 0)), (1, .int x1), (2, .int x2)]) (st' := [.int r_1]) (pc' := 6) (ce' := 0) (sl' := 0) rfl rfl rfl rfl rfl rfl ?_
  refine gw_if_eq (pc' := 9) (tgt := 24) κ dX6_set_6 rfl (by decide) (fun hc_2 => ?_) (fun hc_2 => ?_)
  · have h := h.1 hc_2
    refine gw_bipush (pc' := 26) (v := -102) κ dX6_set_24 rfl (by decide) ?_
    exact gw_iret κ dX6_set_26 (Mst, Mhi, Mhn) rfl ⟨_, rfl, h⟩
  · have h := h.2 hc_2
    refine gw_iload_n (pc' := 10) κ dX6_set_9 rfl 2 rfl rfl ?_
    refine gw_iload_n (pc' := 11) κ dX6_set_10 rfl 1 rfl rfl ?_
    refine gb_callS (rest := [.int x2]) κ (c_X6_leastOf  x1 h) ⟨rfl, rfl, Nat.le_of_ble_eq_true rfl, Nat.le_of_ble_eq_true rfl⟩ tw_ml_X6_100 tw_st_X6_leastOf tw_co_X6_leastOf tw_in_X6 hy_X6_leastOf rfl (Nat.le_of_ble_eq_true rfl) rfl dX6_set_11 [] rfl (by decide) (fun _ => Nat.le_of_ble_eq_true rfl) ⟨Nat.le_of_ble_eq_true rfl, Nat.le_of_ble_eq_true rfl⟩ (fun v u hv => ?_)
    obtain ⟨r_3, rfl, h⟩ := hv
    refine gw_nf (ws' := (wfl [cM qa cI Mst Mhi Mhn Msl Msv Mpd Mln Mat Mit Mvf Mdn Mlf Mar Msa Msm Mso])) (lv' := [(0, .ref (qa 0)), (1, .int x1), (2, .int x2)]) (st' := [.int r_3, .int x2]) (pc' := 14) (ce' := 0) (sl' := 0) rfl rfl rfl rfl rfl rfl ?_
    refine gw_iload_n (pc' := 15) κ dX6_set_14 rfl 1 rfl rfl ?_
    refine gb_callS (rest := [.int r_3, .int x2]) κ (c_X6_mostOf  x1 h) ⟨rfl, rfl, Nat.le_of_ble_eq_true rfl, Nat.le_of_ble_eq_true rfl⟩ tw_ml_X6_103 tw_st_X6_mostOf tw_co_X6_mostOf tw_in_X6 hy_X6_mostOf rfl (Nat.le_of_ble_eq_true rfl) rfl dX6_set_15 [] rfl (by decide) (fun _ => Nat.le_of_ble_eq_true rfl) ⟨Nat.le_of_ble_eq_true rfl, Nat.le_of_ble_eq_true rfl⟩ (fun v u hv => ?_)
    obtain ⟨r_4, rfl, h⟩ := hv
    refine gw_nf (ws' := (wfl [cM qa cI Mst Mhi Mhn Msl Msv Mpd Mln Mat Mit Mvf Mdn Mlf Mar Msa Msm Mso])) (lv' := [(0, .ref (qa 0)), (1, .int x1), (2, .int x2)]) (st' := [.int r_4, .int r_3, .int x2]) (pc' := 18) (ce' := 0) (sl' := 0) rfl rfl rfl rfl rfl rfl ?_
    refine gb_callS (rest := []) κ (c_X6_within  x2 r_3 r_4 h) ⟨rfl, rfl, Nat.le_of_ble_eq_true rfl, Nat.le_of_ble_eq_true rfl⟩ tw_ml_X6_46 tw_st_X6_within tw_co_X6_within tw_in_X6 hy_X6_within rfl (Nat.le_of_ble_eq_true rfl) rfl dX6_set_18 [] rfl (by decide) (fun _ => Nat.le_of_ble_eq_true rfl) ⟨Nat.le_of_ble_eq_true rfl, Nat.le_of_ble_eq_true rfl⟩ (fun v u hv => ?_)
    obtain ⟨r_5, rfl, h⟩ := hv
    refine gw_nf (ws' := (wfl [cM qa cI Mst Mhi Mhn Msl Msv Mpd Mln Mat Mit Mvf Mdn Mlf Mar Msa Msm Mso])) (lv' := [(0, .ref (qa 0)), (1, .int x1), (2, .int x2)]) (st' := [.int r_5]) (pc' := 21) (ce' := 0) (sl' := 0) rfl rfl rfl rfl rfl rfl ?_
    refine gw_if_ne (pc' := 24) (tgt := 27) κ dX6_set_21 rfl (by decide) (fun hc_6 => ?_) (fun hc_6 => ?_)
    · have h := h.1 hc_6
      refine gw_aload_n (pc' := 28) κ dX6_set_27 rfl 0 rfl rfl ?_
      refine gb_callV (ci := 6) (qb := 0) (rest := []) κ (c_X6_record qa Mst Mhi Mhn Msl Msv Mpd Mln Mat Mit Mvf Mdn Mlf Mar Msa Msm Mso h) ⟨rfl, rfl, Nat.le_of_ble_eq_true rfl, Nat.le_of_ble_eq_true rfl⟩ tw_ml_X6_54 tw_im_X6_record tw_se_X6_record tw_co_X6_record tw_in_X6 hy_X6_record rfl rfl rfl rfl rfl (Nat.le_of_ble_eq_true rfl) rfl dX6_set_28 [0] rfl (by decide) (fun _ => Nat.le_of_ble_eq_true rfl) ⟨Nat.le_of_ble_eq_true rfl, Nat.le_of_ble_eq_true rfl⟩ (fun v u hv => ?_)
      obtain ⟨rfl, h⟩ := hv
      obtain ⟨Mhi_7, Mhn_8⟩ := u
      refine gw_nf (ws' := (wfl [cM qa cI Mst Mhi_7 Mhn_8 Msl Msv Mpd Mln Mat Mit Mvf Mdn Mlf Mar Msa Msm Mso])) (lv' := [(0, .ref (qa 0)), (1, .int x1), (2, .int x2)]) (st' := []) (pc' := 31) (ce' := 0) (sl' := 0) rfl rfl rfl rfl rfl rfl ?_
      refine gw_aload_n (pc' := 32) κ dX6_set_31 rfl 0 rfl rfl ?_
      refine gb_get (pc' := 35) (C := RX6) (T := TX6) (N := 16) κ dX6_set_32 rfl inX6 0 rfl rfl rfl 0 (by decide) tw_fl_X6_7 rfl ?_
      refine gw_iload_n (pc' := 36) κ dX6_set_35 rfl 1 rfl rfl ?_
      obtain ⟨hb_9, h⟩ := h
      refine gb_iald (pc' := 37) κ dX6_set_36 rfl 0 1 rfl rfl hb_9 ?_
      refine gw_istore_n (pc' := 38) κ dX6_set_37 rfl rfl (by decide) (lv' := [(3, .int (Mst x1.toNatClampNeg)), (0, .ref (qa 0)), (1, .int x1), (2, .int x2)]) rfl ?_
      refine gw_aload_n (pc' := 39) κ dX6_set_38 rfl 1 rfl rfl ?_
      refine gb_get (pc' := 42) (C := RX6) (T := TX6) (N := 16) κ dX6_set_39 rfl inX6 0 rfl rfl rfl 0 (by decide) tw_fl_X6_7 rfl ?_
      refine gw_iload_n (pc' := 43) κ dX6_set_42 rfl 2 rfl rfl ?_
      refine gw_iload_n (pc' := 44) κ dX6_set_43 rfl 3 rfl rfl ?_
      obtain ⟨hb_10, h⟩ := h
      refine gb_iast (pc' := 45) (bs' := [cM qa cI (upd Mst x1.toNatClampNeg x2) Mhi_7 Mhn_8 Msl Msv Mpd Mln Mat Mit Mvf Mdn Mlf Mar Msa Msm Mso]) κ dX6_set_44 rfl 0 1 rfl rfl hb_10 rfl ?_
      refine gw_iload_n (pc' := 46) κ dX6_set_45 rfl 0 rfl rfl ?_
      exact gw_iret κ dX6_set_46 ((upd Mst x1.toNatClampNeg x2), Mhi_7, Mhn_8) rfl ⟨_, rfl, h⟩
    · have h := h.2 hc_6
      refine gw_bipush (pc' := 26) (v := -102) κ dX6_set_24 rfl (by decide) ?_
      exact gw_iret κ dX6_set_26 (Mst, Mhi, Mhn) rfl ⟨_, rfl, h⟩
theorem hy_X6_land : g_hy yX6_land 2 := by decide +kernel
set_option maxHeartbeats 4000000 in
set_option maxRecDepth 100000 in
theorem c_X6_land {l : Launch} {D : va_G} {cI cR : ClassId}  (qa : Nat → Nat) {P : Int32 → (Nat → Int32) → (Nat → Int32) → Int32 → Prop} (Mst : Nat → Int32) (Mhi : Nat → Int32) (Mhn : Int32) (Msl : Nat → Int32) (Msv : Nat → Int32) (Mpd : Nat → Int32) (Mln : Int32) (Mat : Int32) (Mit : Nat → Int32) (Mvf : Nat → Int32) (Mdn : Nat → Int32) (Mlf : Nat → Int32) (Mar : Nat → Int32) (Msa : Nat → Int32) (Msm : Nat → Int32) (Mso : Int32) (x1 : Int32) (x2 : Int32) (h : wp_X6_land P Mst Mhi Mhn x1 x2) : CT l D cI cR yX6_land cX6_land 4 (some .int) ({ frames := 2, cells := 0, slots := 0, locals := 42 } : Room) [.ref (qa 0), .int x1, .int x2] (wfl [cM qa cI Mst Mhi Mhn Msl Msv Mpd Mln Mat Mit Mvf Mdn Mlf Mar Msa Msm Mso]) (fun u : (Nat → Int32) × (Nat → Int32) × Int32 => (wfl [cM qa cI u.1 u.2.1 u.2.2 Msl Msv Mpd Mln Mat Mit Mvf Mdn Mlf Mar Msa Msm Mso])) (pI (fun (r : Int32) (u : (Nat → Int32) × (Nat → Int32) × Int32) => P r u.1 u.2.1 u.2.2)) 0 0 := by
  refine ct_of RX6 rfl (by decide +kernel) (Nat.le_of_ble_eq_true rfl) (fun zp ze zs zm zb zt zc A hin κ => ?_)
  unfold wp_X6_land at h
  refine gw_nf (lv' := [(0, .ref (qa 0)), (1, .int x1), (2, .int x2)]) (pc' := 0) (st' := []) (ce' := 0) (sl' := 0) rfl rfl rfl rfl rfl rfl ?_
  refine gw_iload_n (pc' := 1) κ dX6_land_0 rfl 1 rfl rfl ?_
  refine gb_callS (rest := []) κ (c_X6_isFlight  x1 h) ⟨rfl, rfl, Nat.le_of_ble_eq_true rfl, Nat.le_of_ble_eq_true rfl⟩ tw_ml_X6_106 tw_st_X6_isFlight tw_co_X6_isFlight tw_in_X6 hy_X6_isFlight rfl (Nat.le_of_ble_eq_true rfl) rfl dX6_land_1 [] rfl (by decide) (fun _ => Nat.le_of_ble_eq_true rfl) ⟨Nat.le_of_ble_eq_true rfl, Nat.le_of_ble_eq_true rfl⟩ (fun v u hv => ?_)
  obtain ⟨r_1, rfl, h⟩ := hv
  refine gw_nf (ws' := (wfl [cM qa cI Mst Mhi Mhn Msl Msv Mpd Mln Mat Mit Mvf Mdn Mlf Mar Msa Msm Mso])) (lv' := [(0, .ref (qa 0)), (1, .int x1), (2, .int x2)]) (st' := [.int r_1]) (pc' := 4) (ce' := 0) (sl' := 0) rfl rfl rfl rfl rfl rfl ?_
  refine gw_if_ne (pc' := 7) (tgt := 10) κ dX6_land_4 rfl (by decide) (fun hc_2 => ?_) (fun hc_2 => ?_)
  · have h := h.1 hc_2
    refine gw_iload_n (pc' := 11) κ dX6_land_10 rfl 2 rfl rfl ?_
    refine gw_iconst (pc' := 12) (v := 0) κ dX6_land_11 rfl (by decide) ?_
    refine gw_sipush (pc' := 15) (v := 1200) κ dX6_land_12 rfl (by decide) ?_
    refine gb_callS (rest := []) κ (c_X6_within  x2 (0 : Int32) (1200 : Int32) h) ⟨rfl, rfl, Nat.le_of_ble_eq_true rfl, Nat.le_of_ble_eq_true rfl⟩ tw_ml_X6_46 tw_st_X6_within tw_co_X6_within tw_in_X6 hy_X6_within rfl (Nat.le_of_ble_eq_true rfl) rfl dX6_land_15 [] rfl (by decide) (fun _ => Nat.le_of_ble_eq_true rfl) ⟨Nat.le_of_ble_eq_true rfl, Nat.le_of_ble_eq_true rfl⟩ (fun v u hv => ?_)
    obtain ⟨r_3, rfl, h⟩ := hv
    refine gw_nf (ws' := (wfl [cM qa cI Mst Mhi Mhn Msl Msv Mpd Mln Mat Mit Mvf Mdn Mlf Mar Msa Msm Mso])) (lv' := [(0, .ref (qa 0)), (1, .int x1), (2, .int x2)]) (st' := [.int r_3]) (pc' := 18) (ce' := 0) (sl' := 0) rfl rfl rfl rfl rfl rfl ?_
    refine gw_if_ne (pc' := 21) (tgt := 24) κ dX6_land_18 rfl (by decide) (fun hc_4 => ?_) (fun hc_4 => ?_)
    · have h := h.1 hc_4
      refine gw_aload_n (pc' := 25) κ dX6_land_24 rfl 0 rfl rfl ?_
      refine gb_callV (ci := 6) (qb := 0) (rest := []) κ (c_X6_record qa Mst Mhi Mhn Msl Msv Mpd Mln Mat Mit Mvf Mdn Mlf Mar Msa Msm Mso h) ⟨rfl, rfl, Nat.le_of_ble_eq_true rfl, Nat.le_of_ble_eq_true rfl⟩ tw_ml_X6_54 tw_im_X6_record tw_se_X6_record tw_co_X6_record tw_in_X6 hy_X6_record rfl rfl rfl rfl rfl (Nat.le_of_ble_eq_true rfl) rfl dX6_land_25 [0] rfl (by decide) (fun _ => Nat.le_of_ble_eq_true rfl) ⟨Nat.le_of_ble_eq_true rfl, Nat.le_of_ble_eq_true rfl⟩ (fun v u hv => ?_)
      obtain ⟨rfl, h⟩ := hv
      obtain ⟨Mhi_5, Mhn_6⟩ := u
      refine gw_nf (ws' := (wfl [cM qa cI Mst Mhi_5 Mhn_6 Msl Msv Mpd Mln Mat Mit Mvf Mdn Mlf Mar Msa Msm Mso])) (lv' := [(0, .ref (qa 0)), (1, .int x1), (2, .int x2)]) (st' := []) (pc' := 28) (ce' := 0) (sl' := 0) rfl rfl rfl rfl rfl rfl ?_
      refine gw_aload_n (pc' := 29) κ dX6_land_28 rfl 0 rfl rfl ?_
      refine gb_get (pc' := 32) (C := RX6) (T := TX6) (N := 16) κ dX6_land_29 rfl inX6 0 rfl rfl rfl 0 (by decide) tw_fl_X6_7 rfl ?_
      refine gw_iconst (pc' := 33) (v := 5) κ dX6_land_32 rfl (by decide) ?_
      refine gw_iload_n (pc' := 34) κ dX6_land_33 rfl 1 rfl rfl ?_
      refine gw_iadd (pc' := 35) κ dX6_land_34 rfl  ?_
      obtain ⟨hb_7, h⟩ := h
      refine gb_iald (pc' := 36) κ dX6_land_35 rfl 0 1 rfl rfl hb_7 ?_
      refine gw_istore_n (pc' := 37) κ dX6_land_36 rfl rfl (by decide) (lv' := [(3, .int (Mst ((5 : Int32) + x1).toNatClampNeg)), (0, .ref (qa 0)), (1, .int x1), (2, .int x2)]) rfl ?_
      refine gw_aload_n (pc' := 38) κ dX6_land_37 rfl 1 rfl rfl ?_
      refine gb_get (pc' := 41) (C := RX6) (T := TX6) (N := 16) κ dX6_land_38 rfl inX6 0 rfl rfl rfl 0 (by decide) tw_fl_X6_7 rfl ?_
      refine gw_iconst (pc' := 42) (v := 5) κ dX6_land_41 rfl (by decide) ?_
      refine gw_iload_n (pc' := 43) κ dX6_land_42 rfl 2 rfl rfl ?_
      refine gw_iadd (pc' := 44) κ dX6_land_43 rfl  ?_
      refine gw_iload_n (pc' := 45) κ dX6_land_44 rfl 3 rfl rfl ?_
      obtain ⟨hb_8, h⟩ := h
      refine gb_iast (pc' := 46) (bs' := [cM qa cI (upd Mst ((5 : Int32) + x1).toNatClampNeg x2) Mhi_5 Mhn_6 Msl Msv Mpd Mln Mat Mit Mvf Mdn Mlf Mar Msa Msm Mso]) κ dX6_land_45 rfl 0 1 rfl rfl hb_8 rfl ?_
      refine gw_iload_n (pc' := 47) κ dX6_land_46 rfl 0 rfl rfl ?_
      exact gw_iret κ dX6_land_47 ((upd Mst ((5 : Int32) + x1).toNatClampNeg x2), Mhi_5, Mhn_6) rfl ⟨_, rfl, h⟩
    · have h := h.2 hc_4
      refine gw_bipush (pc' := 23) (v := -102) κ dX6_land_21 rfl (by decide) ?_
      exact gw_iret κ dX6_land_23 (Mst, Mhi, Mhn) rfl ⟨_, rfl, h⟩
  · have h := h.2 hc_2
    refine gw_bipush (pc' := 9) (v := -101) κ dX6_land_7 rfl (by decide) ?_
    exact gw_iret κ dX6_land_9 (Mst, Mhi, Mhn) rfl ⟨_, rfl, h⟩
theorem hy_X6_delay : g_hy yX6_delay 2 := by decide +kernel
set_option maxHeartbeats 4000000 in
set_option maxRecDepth 100000 in
theorem c_X6_delay {l : Launch} {D : va_G} {cI cR : ClassId}  (qa : Nat → Nat) {P : Int32 → (Nat → Int32) → (Nat → Int32) → Int32 → Prop} (Mst : Nat → Int32) (Mhi : Nat → Int32) (Mhn : Int32) (Msl : Nat → Int32) (Msv : Nat → Int32) (Mpd : Nat → Int32) (Mln : Int32) (Mat : Int32) (Mit : Nat → Int32) (Mvf : Nat → Int32) (Mdn : Nat → Int32) (Mlf : Nat → Int32) (Mar : Nat → Int32) (Msa : Nat → Int32) (Msm : Nat → Int32) (Mso : Int32) (x1 : Int32) (x2 : Int32) (h : wp_X6_delay P Mst Mhi Mhn x1 x2) : CT l D cI cR yX6_delay cX6_delay 3 (some .int) ({ frames := 2, cells := 0, slots := 0, locals := 42 } : Room) [.ref (qa 0), .int x1, .int x2] (wfl [cM qa cI Mst Mhi Mhn Msl Msv Mpd Mln Mat Mit Mvf Mdn Mlf Mar Msa Msm Mso]) (fun u : (Nat → Int32) × (Nat → Int32) × Int32 => (wfl [cM qa cI u.1 u.2.1 u.2.2 Msl Msv Mpd Mln Mat Mit Mvf Mdn Mlf Mar Msa Msm Mso])) (pI (fun (r : Int32) (u : (Nat → Int32) × (Nat → Int32) × Int32) => P r u.1 u.2.1 u.2.2)) 0 0 := by
  refine ct_of RX6 rfl (by decide +kernel) (Nat.le_of_ble_eq_true rfl) (fun zp ze zs zm zb zt zc A hin κ => ?_)
  unfold wp_X6_delay at h
  refine gw_nf (lv' := [(0, .ref (qa 0)), (1, .int x1), (2, .int x2)]) (pc' := 0) (st' := []) (ce' := 0) (sl' := 0) rfl rfl rfl rfl rfl rfl ?_
  refine gw_iload_n (pc' := 1) κ dX6_delay_0 rfl 1 rfl rfl ?_
  refine gb_callS (rest := []) κ (c_X6_isFlight  x1 h) ⟨rfl, rfl, Nat.le_of_ble_eq_true rfl, Nat.le_of_ble_eq_true rfl⟩ tw_ml_X6_106 tw_st_X6_isFlight tw_co_X6_isFlight tw_in_X6 hy_X6_isFlight rfl (Nat.le_of_ble_eq_true rfl) rfl dX6_delay_1 [] rfl (by decide) (fun _ => Nat.le_of_ble_eq_true rfl) ⟨Nat.le_of_ble_eq_true rfl, Nat.le_of_ble_eq_true rfl⟩ (fun v u hv => ?_)
  obtain ⟨r_1, rfl, h⟩ := hv
  refine gw_nf (ws' := (wfl [cM qa cI Mst Mhi Mhn Msl Msv Mpd Mln Mat Mit Mvf Mdn Mlf Mar Msa Msm Mso])) (lv' := [(0, .ref (qa 0)), (1, .int x1), (2, .int x2)]) (st' := [.int r_1]) (pc' := 4) (ce' := 0) (sl' := 0) rfl rfl rfl rfl rfl rfl ?_
  refine gw_if_ne (pc' := 7) (tgt := 10) κ dX6_delay_4 rfl (by decide) (fun hc_2 => ?_) (fun hc_2 => ?_)
  · have h := h.1 hc_2
    refine gw_iload_n (pc' := 11) κ dX6_delay_10 rfl 2 rfl rfl ?_
    refine gw_bipush (pc' := 13) (v := -30) κ dX6_delay_11 rfl (by decide) ?_
    refine gw_sipush (pc' := 16) (v := 300) κ dX6_delay_13 rfl (by decide) ?_
    refine gb_callS (rest := []) κ (c_X6_within  x2 (-30 : Int32) (300 : Int32) h) ⟨rfl, rfl, Nat.le_of_ble_eq_true rfl, Nat.le_of_ble_eq_true rfl⟩ tw_ml_X6_46 tw_st_X6_within tw_co_X6_within tw_in_X6 hy_X6_within rfl (Nat.le_of_ble_eq_true rfl) rfl dX6_delay_16 [] rfl (by decide) (fun _ => Nat.le_of_ble_eq_true rfl) ⟨Nat.le_of_ble_eq_true rfl, Nat.le_of_ble_eq_true rfl⟩ (fun v u hv => ?_)
    obtain ⟨r_3, rfl, h⟩ := hv
    refine gw_nf (ws' := (wfl [cM qa cI Mst Mhi Mhn Msl Msv Mpd Mln Mat Mit Mvf Mdn Mlf Mar Msa Msm Mso])) (lv' := [(0, .ref (qa 0)), (1, .int x1), (2, .int x2)]) (st' := [.int r_3]) (pc' := 19) (ce' := 0) (sl' := 0) rfl rfl rfl rfl rfl rfl ?_
    refine gw_if_ne (pc' := 22) (tgt := 25) κ dX6_delay_19 rfl (by decide) (fun hc_4 => ?_) (fun hc_4 => ?_)
    · have h := h.1 hc_4
      refine gw_aload_n (pc' := 26) κ dX6_delay_25 rfl 0 rfl rfl ?_
      refine gb_callV (ci := 6) (qb := 0) (rest := []) κ (c_X6_record qa Mst Mhi Mhn Msl Msv Mpd Mln Mat Mit Mvf Mdn Mlf Mar Msa Msm Mso h) ⟨rfl, rfl, Nat.le_of_ble_eq_true rfl, Nat.le_of_ble_eq_true rfl⟩ tw_ml_X6_54 tw_im_X6_record tw_se_X6_record tw_co_X6_record tw_in_X6 hy_X6_record rfl rfl rfl rfl rfl (Nat.le_of_ble_eq_true rfl) rfl dX6_delay_26 [0] rfl (by decide) (fun _ => Nat.le_of_ble_eq_true rfl) ⟨Nat.le_of_ble_eq_true rfl, Nat.le_of_ble_eq_true rfl⟩ (fun v u hv => ?_)
      obtain ⟨rfl, h⟩ := hv
      obtain ⟨Mhi_5, Mhn_6⟩ := u
      refine gw_nf (ws' := (wfl [cM qa cI Mst Mhi_5 Mhn_6 Msl Msv Mpd Mln Mat Mit Mvf Mdn Mlf Mar Msa Msm Mso])) (lv' := [(0, .ref (qa 0)), (1, .int x1), (2, .int x2)]) (st' := []) (pc' := 29) (ce' := 0) (sl' := 0) rfl rfl rfl rfl rfl rfl ?_
      refine gw_aload_n (pc' := 30) κ dX6_delay_29 rfl 0 rfl rfl ?_
      refine gb_get (pc' := 33) (C := RX6) (T := TX6) (N := 16) κ dX6_delay_30 rfl inX6 0 rfl rfl rfl 0 (by decide) tw_fl_X6_7 rfl ?_
      refine gw_bipush (pc' := 35) (v := 11) κ dX6_delay_33 rfl (by decide) ?_
      refine gw_iload_n (pc' := 36) κ dX6_delay_35 rfl 1 rfl rfl ?_
      refine gw_iadd (pc' := 37) κ dX6_delay_36 rfl  ?_
      refine gw_iload_n (pc' := 38) κ dX6_delay_37 rfl 2 rfl rfl ?_
      obtain ⟨hb_7, h⟩ := h
      refine gb_iast (pc' := 39) (bs' := [cM qa cI (upd Mst ((11 : Int32) + x1).toNatClampNeg x2) Mhi_5 Mhn_6 Msl Msv Mpd Mln Mat Mit Mvf Mdn Mlf Mar Msa Msm Mso]) κ dX6_delay_38 rfl 0 1 rfl rfl hb_7 rfl ?_
      refine gw_aload_n (pc' := 40) κ dX6_delay_39 rfl 0 rfl rfl ?_
      refine gw_iload_n (pc' := 41) κ dX6_delay_40 rfl 1 rfl rfl ?_
      refine gb_callV (ci := 6) (qb := 0) (rest := []) κ (c_X6_readyOf qa (upd Mst ((11 : Int32) + x1).toNatClampNeg x2) Mhi_5 Mhn_6 Msl Msv Mpd Mln Mat Mit Mvf Mdn Mlf Mar Msa Msm Mso x1 h) ⟨rfl, rfl, Nat.le_of_ble_eq_true rfl, Nat.le_of_ble_eq_true rfl⟩ tw_ml_X6_61 tw_im_X6_readyOf tw_se_X6_readyOf tw_co_X6_readyOf tw_in_X6 hy_X6_readyOf rfl rfl rfl rfl rfl (Nat.le_of_ble_eq_true rfl) rfl dX6_delay_41 [0] rfl (by decide) (fun _ => Nat.le_of_ble_eq_true rfl) ⟨Nat.le_of_ble_eq_true rfl, Nat.le_of_ble_eq_true rfl⟩ (fun v u hv => ?_)
      obtain ⟨r_8, rfl, h⟩ := hv
      refine gw_nf (ws' := (wfl [cM qa cI (upd Mst ((11 : Int32) + x1).toNatClampNeg x2) Mhi_5 Mhn_6 Msl Msv Mpd Mln Mat Mit Mvf Mdn Mlf Mar Msa Msm Mso])) (lv' := [(0, .ref (qa 0)), (1, .int x1), (2, .int x2)]) (st' := [.int r_8]) (pc' := 44) (ce' := 0) (sl' := 0) rfl rfl rfl rfl rfl rfl ?_
      exact gw_iret κ dX6_delay_44 ((upd Mst ((11 : Int32) + x1).toNatClampNeg x2), Mhi_5, Mhn_6) rfl ⟨_, rfl, h⟩
    · have h := h.2 hc_4
      refine gw_bipush (pc' := 24) (v := -102) κ dX6_delay_22 rfl (by decide) ?_
      exact gw_iret κ dX6_delay_24 (Mst, Mhi, Mhn) rfl ⟨_, rfl, h⟩
  · have h := h.2 hc_2
    refine gw_bipush (pc' := 9) (v := -101) κ dX6_delay_7 rfl (by decide) ?_
    exact gw_iret κ dX6_delay_9 (Mst, Mhi, Mhn) rfl ⟨_, rfl, h⟩
theorem hy_X6_van : g_hy yX6_van 3 := by decide +kernel
set_option maxHeartbeats 4000000 in
set_option maxRecDepth 100000 in
theorem c_X6_van {l : Launch} {D : va_G} {cI cR : ClassId}  (qa : Nat → Nat) {P : Int32 → (Nat → Int32) → (Nat → Int32) → Int32 → (Nat → Int32) → (Nat → Int32) → (Nat → Int32) → (Nat → Int32) → Prop} (Mst : Nat → Int32) (Mhi : Nat → Int32) (Mhn : Int32) (Msl : Nat → Int32) (Msv : Nat → Int32) (Mpd : Nat → Int32) (Mln : Int32) (Mat : Int32) (Mit : Nat → Int32) (Mvf : Nat → Int32) (Mdn : Nat → Int32) (Mlf : Nat → Int32) (Mar : Nat → Int32) (Msa : Nat → Int32) (Msm : Nat → Int32) (Mso : Int32) (x1 : Int32) (x2 : Int32) (x3 : Int32) (h : wp_X6_van P Mst Mhi Mhn Mvf Mdn Mlf Mar x1 x2 x3) : CT l D cI cR yX6_van cX6_van 4 (some .int) ({ frames := 5, cells := 0, slots := 0, locals := 113 } : Room) [.ref (qa 0), .int x1, .int x2, .int x3] (wfl [cM qa cI Mst Mhi Mhn Msl Msv Mpd Mln Mat Mit Mvf Mdn Mlf Mar Msa Msm Mso]) (fun u : (Nat → Int32) × (Nat → Int32) × Int32 × (Nat → Int32) × (Nat → Int32) × (Nat → Int32) × (Nat → Int32) => (wfl [cM qa cI u.1 u.2.1 u.2.2.1 Msl Msv Mpd Mln Mat Mit u.2.2.2.1 u.2.2.2.2.1 u.2.2.2.2.2.1 u.2.2.2.2.2.2 Msa Msm Mso])) (pI (fun (r : Int32) (u : (Nat → Int32) × (Nat → Int32) × Int32 × (Nat → Int32) × (Nat → Int32) × (Nat → Int32) × (Nat → Int32)) => P r u.1 u.2.1 u.2.2.1 u.2.2.2.1 u.2.2.2.2.1 u.2.2.2.2.2.1 u.2.2.2.2.2.2)) 0 0 := by
  refine ct_of RX6 rfl (by decide +kernel) (Nat.le_of_ble_eq_true rfl) (fun zp ze zs zm zb zt zc A hin κ => ?_)
  unfold wp_X6_van at h
  refine gw_nf (lv' := [(0, .ref (qa 0)), (1, .int x1), (2, .int x2), (3, .int x3)]) (pc' := 0) (st' := []) (ce' := 0) (sl' := 0) rfl rfl rfl rfl rfl rfl ?_
  refine gw_iload_n (pc' := 1) κ dX6_van_0 rfl 1 rfl rfl ?_
  refine gb_callS (rest := []) κ (c_X6_isVan  x1 h) ⟨rfl, rfl, Nat.le_of_ble_eq_true rfl, Nat.le_of_ble_eq_true rfl⟩ tw_ml_X6_110 tw_st_X6_isVan tw_co_X6_isVan tw_in_X6 hy_X6_isVan rfl (Nat.le_of_ble_eq_true rfl) rfl dX6_van_1 [] rfl (by decide) (fun _ => Nat.le_of_ble_eq_true rfl) ⟨Nat.le_of_ble_eq_true rfl, Nat.le_of_ble_eq_true rfl⟩ (fun v u hv => ?_)
  obtain ⟨r_1, rfl, h⟩ := hv
  refine gw_nf (ws' := (wfl [cM qa cI Mst Mhi Mhn Msl Msv Mpd Mln Mat Mit Mvf Mdn Mlf Mar Msa Msm Mso])) (lv' := [(0, .ref (qa 0)), (1, .int x1), (2, .int x2), (3, .int x3)]) (st' := [.int r_1]) (pc' := 4) (ce' := 0) (sl' := 0) rfl rfl rfl rfl rfl rfl ?_
  refine gw_if_ne (pc' := 7) (tgt := 10) κ dX6_van_4 rfl (by decide) (fun hc_2 => ?_) (fun hc_2 => ?_)
  · have h := h.1 hc_2
    refine gw_iload_n (pc' := 11) κ dX6_van_10 rfl 2 rfl rfl ?_
    refine gw_iconst (pc' := 12) (v := 0) κ dX6_van_11 rfl (by decide) ?_
    refine gw_sipush (pc' := 15) (v := 1500) κ dX6_van_12 rfl (by decide) ?_
    refine gb_callS (rest := []) κ (c_X6_within  x2 (0 : Int32) (1500 : Int32) h) ⟨rfl, rfl, Nat.le_of_ble_eq_true rfl, Nat.le_of_ble_eq_true rfl⟩ tw_ml_X6_46 tw_st_X6_within tw_co_X6_within tw_in_X6 hy_X6_within rfl (Nat.le_of_ble_eq_true rfl) rfl dX6_van_15 [] rfl (by decide) (fun _ => Nat.le_of_ble_eq_true rfl) ⟨Nat.le_of_ble_eq_true rfl, Nat.le_of_ble_eq_true rfl⟩ (fun v u hv => ?_)
    obtain ⟨r_3, rfl, h⟩ := hv
    refine gw_nf (ws' := (wfl [cM qa cI Mst Mhi Mhn Msl Msv Mpd Mln Mat Mit Mvf Mdn Mlf Mar Msa Msm Mso])) (lv' := [(0, .ref (qa 0)), (1, .int x1), (2, .int x2), (3, .int x3)]) (st' := [.int r_3]) (pc' := 18) (ce' := 0) (sl' := 0) rfl rfl rfl rfl rfl rfl ?_
    refine gw_if_eq (pc' := 21) (tgt := 31) κ dX6_van_18 rfl (by decide) (fun hc_4 => ?_) (fun hc_4 => ?_)
    · have h := h.1 hc_4
      refine gw_bipush (pc' := 33) (v := -102) κ dX6_van_31 rfl (by decide) ?_
      exact gw_iret κ dX6_van_33 (Mst, Mhi, Mhn, Mvf, Mdn, Mlf, Mar) rfl ⟨_, rfl, h⟩
    · have h := h.2 hc_4
      refine gw_iload_n (pc' := 22) κ dX6_van_21 rfl 3 rfl rfl ?_
      refine gw_iconst (pc' := 23) (v := 0) κ dX6_van_22 rfl (by decide) ?_
      refine gw_bipush (pc' := 25) (v := 12) κ dX6_van_23 rfl (by decide) ?_
      refine gb_callS (rest := []) κ (c_X6_within  x3 (0 : Int32) (12 : Int32) h) ⟨rfl, rfl, Nat.le_of_ble_eq_true rfl, Nat.le_of_ble_eq_true rfl⟩ tw_ml_X6_46 tw_st_X6_within tw_co_X6_within tw_in_X6 hy_X6_within rfl (Nat.le_of_ble_eq_true rfl) rfl dX6_van_25 [] rfl (by decide) (fun _ => Nat.le_of_ble_eq_true rfl) ⟨Nat.le_of_ble_eq_true rfl, Nat.le_of_ble_eq_true rfl⟩ (fun v u hv => ?_)
      obtain ⟨r_5, rfl, h⟩ := hv
      refine gw_nf (ws' := (wfl [cM qa cI Mst Mhi Mhn Msl Msv Mpd Mln Mat Mit Mvf Mdn Mlf Mar Msa Msm Mso])) (lv' := [(0, .ref (qa 0)), (1, .int x1), (2, .int x2), (3, .int x3)]) (st' := [.int r_5]) (pc' := 28) (ce' := 0) (sl' := 0) rfl rfl rfl rfl rfl rfl ?_
      refine gw_if_ne (pc' := 31) (tgt := 34) κ dX6_van_28 rfl (by decide) (fun hc_6 => ?_) (fun hc_6 => ?_)
      · have h := h.1 hc_6
        refine gw_aload_n (pc' := 35) κ dX6_van_34 rfl 0 rfl rfl ?_
        refine gb_callV (ci := 6) (qb := 0) (rest := []) κ (c_X6_record qa Mst Mhi Mhn Msl Msv Mpd Mln Mat Mit Mvf Mdn Mlf Mar Msa Msm Mso h) ⟨rfl, rfl, Nat.le_of_ble_eq_true rfl, Nat.le_of_ble_eq_true rfl⟩ tw_ml_X6_54 tw_im_X6_record tw_se_X6_record tw_co_X6_record tw_in_X6 hy_X6_record rfl rfl rfl rfl rfl (Nat.le_of_ble_eq_true rfl) rfl dX6_van_35 [0] rfl (by decide) (fun _ => Nat.le_of_ble_eq_true rfl) ⟨Nat.le_of_ble_eq_true rfl, Nat.le_of_ble_eq_true rfl⟩ (fun v u hv => ?_)
        obtain ⟨rfl, h⟩ := hv
        obtain ⟨Mhi_7, Mhn_8⟩ := u
        refine gw_nf (ws' := (wfl [cM qa cI Mst Mhi_7 Mhn_8 Msl Msv Mpd Mln Mat Mit Mvf Mdn Mlf Mar Msa Msm Mso])) (lv' := [(0, .ref (qa 0)), (1, .int x1), (2, .int x2), (3, .int x3)]) (st' := []) (pc' := 38) (ce' := 0) (sl' := 0) rfl rfl rfl rfl rfl rfl ?_
        refine gw_aload_n (pc' := 39) κ dX6_van_38 rfl 0 rfl rfl ?_
        refine gb_get (pc' := 42) (C := RX6) (T := TX6) (N := 16) κ dX6_van_39 rfl inX6 0 rfl rfl rfl 0 (by decide) tw_fl_X6_7 rfl ?_
        refine gw_bipush (pc' := 44) (v := 17) κ dX6_van_42 rfl (by decide) ?_
        refine gw_iload_n (pc' := 45) κ dX6_van_44 rfl 1 rfl rfl ?_
        refine gw_iadd (pc' := 46) κ dX6_van_45 rfl  ?_
        refine gw_iload_n (pc' := 47) κ dX6_van_46 rfl 2 rfl rfl ?_
        obtain ⟨hb_9, h⟩ := h
        refine gb_iast (pc' := 48) (bs' := [cM qa cI (upd Mst ((17 : Int32) + x1).toNatClampNeg x2) Mhi_7 Mhn_8 Msl Msv Mpd Mln Mat Mit Mvf Mdn Mlf Mar Msa Msm Mso]) κ dX6_van_47 rfl 0 1 rfl rfl hb_9 rfl ?_
        refine gw_aload_n (pc' := 49) κ dX6_van_48 rfl 0 rfl rfl ?_
        refine gb_get (pc' := 52) (C := RX6) (T := TX6) (N := 16) κ dX6_van_49 rfl inX6 0 rfl rfl rfl 0 (by decide) tw_fl_X6_7 rfl ?_
        refine gw_bipush (pc' := 54) (v := 25) κ dX6_van_52 rfl (by decide) ?_
        refine gw_iload_n (pc' := 55) κ dX6_van_54 rfl 1 rfl rfl ?_
        refine gw_iadd (pc' := 56) κ dX6_van_55 rfl  ?_
        refine gw_iload_n (pc' := 57) κ dX6_van_56 rfl 3 rfl rfl ?_
        obtain ⟨hb_10, h⟩ := h
        refine gb_iast (pc' := 58) (bs' := [cM qa cI (upd (upd Mst ((17 : Int32) + x1).toNatClampNeg x2) ((25 : Int32) + x1).toNatClampNeg x3) Mhi_7 Mhn_8 Msl Msv Mpd Mln Mat Mit Mvf Mdn Mlf Mar Msa Msm Mso]) κ dX6_van_57 rfl 0 1 rfl rfl hb_10 rfl ?_
        refine gw_aload_n (pc' := 59) κ dX6_van_58 rfl 0 rfl rfl ?_
        refine gb_callV (ci := 6) (qb := 0) (rest := []) κ (c_X6_lay qa (upd (upd Mst ((17 : Int32) + x1).toNatClampNeg x2) ((25 : Int32) + x1).toNatClampNeg x3) Mhi_7 Mhn_8 Msl Msv Mpd Mln Mat Mit Mvf Mdn Mlf Mar Msa Msm Mso h) ⟨rfl, rfl, Nat.le_of_ble_eq_true rfl, Nat.le_of_ble_eq_true rfl⟩ tw_ml_X6_113 tw_im_X6_lay tw_se_X6_lay tw_co_X6_lay tw_in_X6 hy_X6_lay rfl rfl rfl rfl rfl (Nat.le_of_ble_eq_true rfl) rfl dX6_van_59 [0] rfl (by decide) (fun _ => Nat.le_of_ble_eq_true rfl) ⟨Nat.le_of_ble_eq_true rfl, Nat.le_of_ble_eq_true rfl⟩ (fun v u hv => ?_)
        obtain ⟨rfl, h⟩ := hv
        obtain ⟨Mvf_11, Mdn_12, Mlf_13, Mar_14⟩ := u
        refine gw_nf (ws' := (wfl [cM qa cI (upd (upd Mst ((17 : Int32) + x1).toNatClampNeg x2) ((25 : Int32) + x1).toNatClampNeg x3) Mhi_7 Mhn_8 Msl Msv Mpd Mln Mat Mit Mvf_11 Mdn_12 Mlf_13 Mar_14 Msa Msm Mso])) (lv' := [(0, .ref (qa 0)), (1, .int x1), (2, .int x2), (3, .int x3)]) (st' := []) (pc' := 62) (ce' := 0) (sl' := 0) rfl rfl rfl rfl rfl rfl ?_
        refine gw_aload_n (pc' := 63) κ dX6_van_62 rfl 0 rfl rfl ?_
        refine gb_callV (ci := 6) (qb := 0) (rest := []) κ (c_X6_strandedPeople qa (upd (upd Mst ((17 : Int32) + x1).toNatClampNeg x2) ((25 : Int32) + x1).toNatClampNeg x3) Mhi_7 Mhn_8 Msl Msv Mpd Mln Mat Mit Mvf_11 Mdn_12 Mlf_13 Mar_14 Msa Msm Mso h) ⟨rfl, rfl, Nat.le_of_ble_eq_true rfl, Nat.le_of_ble_eq_true rfl⟩ tw_ml_X6_116 tw_im_X6_strandedPeople tw_se_X6_strandedPeople tw_co_X6_strandedPeople tw_in_X6 hy_X6_strandedPeople rfl rfl rfl rfl rfl (Nat.le_of_ble_eq_true rfl) rfl dX6_van_63 [0] rfl (by decide) (fun _ => Nat.le_of_ble_eq_true rfl) ⟨Nat.le_of_ble_eq_true rfl, Nat.le_of_ble_eq_true rfl⟩ (fun v u hv => ?_)
        obtain ⟨r_15, rfl, h⟩ := hv
        refine gw_nf (ws' := (wfl [cM qa cI (upd (upd Mst ((17 : Int32) + x1).toNatClampNeg x2) ((25 : Int32) + x1).toNatClampNeg x3) Mhi_7 Mhn_8 Msl Msv Mpd Mln Mat Mit Mvf_11 Mdn_12 Mlf_13 Mar_14 Msa Msm Mso])) (lv' := [(0, .ref (qa 0)), (1, .int x1), (2, .int x2), (3, .int x3)]) (st' := [.int r_15]) (pc' := 66) (ce' := 0) (sl' := 0) rfl rfl rfl rfl rfl rfl ?_
        exact gw_iret κ dX6_van_66 ((upd (upd Mst ((17 : Int32) + x1).toNatClampNeg x2) ((25 : Int32) + x1).toNatClampNeg x3), Mhi_7, Mhn_8, Mvf_11, Mdn_12, Mlf_13, Mar_14) rfl ⟨_, rfl, h⟩
      · have h := h.2 hc_6
        refine gw_bipush (pc' := 33) (v := -102) κ dX6_van_31 rfl (by decide) ?_
        exact gw_iret κ dX6_van_33 (Mst, Mhi, Mhn, Mvf, Mdn, Mlf, Mar) rfl ⟨_, rfl, h⟩
  · have h := h.2 hc_2
    refine gw_bipush (pc' := 9) (v := -101) κ dX6_van_7 rfl (by decide) ?_
    exact gw_iret κ dX6_van_9 (Mst, Mhi, Mhn, Mvf, Mdn, Mlf, Mar) rfl ⟨_, rfl, h⟩
theorem hy_X6_add : g_hy yX6_add 4 := by decide +kernel
set_option maxHeartbeats 4000000 in
set_option maxRecDepth 100000 in
theorem c_X6_add {l : Launch} {D : va_G} {cI cR : ClassId}  (qa : Nat → Nat) {P : (Nat → Int32) → Prop} (Mst : Nat → Int32) (Mhi : Nat → Int32) (Mhn : Int32) (Msl : Nat → Int32) (Msv : Nat → Int32) (Mpd : Nat → Int32) (Mln : Int32) (Mat : Int32) (Mit : Nat → Int32) (Mvf : Nat → Int32) (Mdn : Nat → Int32) (Mlf : Nat → Int32) (Mar : Nat → Int32) (Msa : Nat → Int32) (Msm : Nat → Int32) (Mso : Int32) (x1 : Int32) (x2 : Int32) (x3 : Int32) (x4 : Int32) (h : wp_X6_add P Mst x1 x2 x3 x4) : CT l D cI cR yX6_add cX6_add 6 none ({ frames := 0, cells := 0, slots := 0, locals := 0 } : Room) [.ref (qa 0), .int x1, .int x2, .int x3, .int x4] (wfl [cM qa cI Mst Mhi Mhn Msl Msv Mpd Mln Mat Mit Mvf Mdn Mlf Mar Msa Msm Mso]) (fun u : (Nat → Int32) => (wfl [cM qa cI u Mhi Mhn Msl Msv Mpd Mln Mat Mit Mvf Mdn Mlf Mar Msa Msm Mso])) (pV (fun (u : (Nat → Int32)) => P u)) 0 0 := by
  refine ct_of RX6 rfl (by decide +kernel) (Nat.le_of_ble_eq_true rfl) (fun zp ze zs zm zb zt zc A hin κ => ?_)
  unfold wp_X6_add at h
  refine gw_nf (lv' := [(0, .ref (qa 0)), (1, .int x1), (2, .int x2), (3, .int x3), (4, .int x4)]) (pc' := 0) (st' := []) (ce' := 0) (sl' := 0) rfl rfl rfl rfl rfl rfl ?_
  refine gw_bipush (pc' := 2) (v := 34) κ dX6_add_0 rfl (by decide) ?_
  refine gw_iconst (pc' := 3) (v := 4) κ dX6_add_2 rfl (by decide) ?_
  refine gw_aload_n (pc' := 4) κ dX6_add_3 rfl 0 rfl rfl ?_
  refine gb_get (pc' := 7) (C := RX6) (T := TX6) (N := 16) κ dX6_add_4 rfl inX6 0 rfl rfl rfl 0 (by decide) tw_fl_X6_7 rfl ?_
  refine gw_bipush (pc' := 9) (v := 33) κ dX6_add_7 rfl (by decide) ?_
  refine gb_iald (pc' := 10) κ dX6_add_9 rfl 0 1 rfl rfl (by unfold vp_in; decide) ?_
  refine gw_imul (pc' := 11) κ dX6_add_10 rfl  ?_
  refine gw_iadd (pc' := 12) κ dX6_add_11 rfl  ?_
  refine gw_top (fun y_2 hy_2 => ?_)
  have h := h y_2 hy_2
  refine gw_istore (pc' := 14) κ dX6_add_12 rfl (by decide) (lv' := [(5, .int y_2), (0, .ref (qa 0)), (1, .int x1), (2, .int x2), (3, .int x3), (4, .int x4)]) rfl ?_
  refine gw_aload_n (pc' := 15) κ dX6_add_14 rfl 1 rfl rfl ?_
  refine gb_get (pc' := 18) (C := RX6) (T := TX6) (N := 16) κ dX6_add_15 rfl inX6 0 rfl rfl rfl 0 (by decide) tw_fl_X6_7 rfl ?_
  refine gw_iload (pc' := 20) κ dX6_add_18 rfl 0 rfl ?_
  refine gw_iconst (pc' := 21) (v := 0) κ dX6_add_20 rfl (by decide) ?_
  refine gw_iadd (pc' := 22) κ dX6_add_21 rfl  ?_
  refine gw_iload_n (pc' := 23) κ dX6_add_22 rfl 2 rfl rfl ?_
  obtain ⟨hb_3, h⟩ := h
  refine gb_iast (pc' := 24) (bs' := [cM qa cI (upd Mst (y_2 + (0 : Int32)).toNatClampNeg x1) Mhi Mhn Msl Msv Mpd Mln Mat Mit Mvf Mdn Mlf Mar Msa Msm Mso]) κ dX6_add_23 rfl 0 1 rfl rfl hb_3 rfl ?_
  refine gw_aload_n (pc' := 25) κ dX6_add_24 rfl 1 rfl rfl ?_
  refine gb_get (pc' := 28) (C := RX6) (T := TX6) (N := 16) κ dX6_add_25 rfl inX6 0 rfl rfl rfl 0 (by decide) tw_fl_X6_7 rfl ?_
  refine gw_iload (pc' := 30) κ dX6_add_28 rfl 0 rfl ?_
  refine gw_iconst (pc' := 31) (v := 1) κ dX6_add_30 rfl (by decide) ?_
  refine gw_iadd (pc' := 32) κ dX6_add_31 rfl  ?_
  refine gw_iload_n (pc' := 33) κ dX6_add_32 rfl 3 rfl rfl ?_
  obtain ⟨hb_4, h⟩ := h
  refine gb_iast (pc' := 34) (bs' := [cM qa cI (upd (upd Mst (y_2 + (0 : Int32)).toNatClampNeg x1) (y_2 + (1 : Int32)).toNatClampNeg x2) Mhi Mhn Msl Msv Mpd Mln Mat Mit Mvf Mdn Mlf Mar Msa Msm Mso]) κ dX6_add_33 rfl 0 1 rfl rfl hb_4 rfl ?_
  refine gw_aload_n (pc' := 35) κ dX6_add_34 rfl 1 rfl rfl ?_
  refine gb_get (pc' := 38) (C := RX6) (T := TX6) (N := 16) κ dX6_add_35 rfl inX6 0 rfl rfl rfl 0 (by decide) tw_fl_X6_7 rfl ?_
  refine gw_iload (pc' := 40) κ dX6_add_38 rfl 0 rfl ?_
  refine gw_iconst (pc' := 41) (v := 2) κ dX6_add_40 rfl (by decide) ?_
  refine gw_iadd (pc' := 42) κ dX6_add_41 rfl  ?_
  refine gw_iload_n (pc' := 43) κ dX6_add_42 rfl 4 rfl rfl ?_
  obtain ⟨hb_5, h⟩ := h
  refine gb_iast (pc' := 44) (bs' := [cM qa cI (upd (upd (upd Mst (y_2 + (0 : Int32)).toNatClampNeg x1) (y_2 + (1 : Int32)).toNatClampNeg x2) (y_2 + (2 : Int32)).toNatClampNeg x3) Mhi Mhn Msl Msv Mpd Mln Mat Mit Mvf Mdn Mlf Mar Msa Msm Mso]) κ dX6_add_43 rfl 0 1 rfl rfl hb_5 rfl ?_
  refine gw_aload_n (pc' := 45) κ dX6_add_44 rfl 1 rfl rfl ?_
  refine gb_get (pc' := 48) (C := RX6) (T := TX6) (N := 16) κ dX6_add_45 rfl inX6 0 rfl rfl rfl 0 (by decide) tw_fl_X6_7 rfl ?_
  refine gw_iload (pc' := 50) κ dX6_add_48 rfl 0 rfl ?_
  refine gw_iconst (pc' := 51) (v := 3) κ dX6_add_50 rfl (by decide) ?_
  refine gw_iadd (pc' := 52) κ dX6_add_51 rfl  ?_
  refine gw_iload (pc' := 54) κ dX6_add_52 rfl 5 rfl ?_
  obtain ⟨hb_6, h⟩ := h
  refine gb_iast (pc' := 55) (bs' := [cM qa cI (upd (upd (upd (upd Mst (y_2 + (0 : Int32)).toNatClampNeg x1) (y_2 + (1 : Int32)).toNatClampNeg x2) (y_2 + (2 : Int32)).toNatClampNeg x3) (y_2 + (3 : Int32)).toNatClampNeg x4) Mhi Mhn Msl Msv Mpd Mln Mat Mit Mvf Mdn Mlf Mar Msa Msm Mso]) κ dX6_add_54 rfl 0 1 rfl rfl hb_6 rfl ?_
  refine gw_aload_n (pc' := 56) κ dX6_add_55 rfl 1 rfl rfl ?_
  refine gb_get (pc' := 59) (C := RX6) (T := TX6) (N := 16) κ dX6_add_56 rfl inX6 0 rfl rfl rfl 0 (by decide) tw_fl_X6_7 rfl ?_
  refine gw_bipush (pc' := 61) (v := 33) κ dX6_add_59 rfl (by decide) ?_
  refine gw_dup2 (pc' := 62) κ dX6_add_61 rfl rfl rfl ?_
  refine gb_iald (pc' := 63) κ dX6_add_62 rfl 0 1 rfl rfl (by unfold vp_in; decide) ?_
  refine gw_iconst (pc' := 64) (v := 1) κ dX6_add_63 rfl (by decide) ?_
  refine gw_iadd (pc' := 65) κ dX6_add_64 rfl  ?_
  refine gb_iast (pc' := 66) (bs' := [cM qa cI (upd (upd (upd (upd (upd Mst (y_2 + (0 : Int32)).toNatClampNeg x1) (y_2 + (1 : Int32)).toNatClampNeg x2) (y_2 + (2 : Int32)).toNatClampNeg x3) (y_2 + (3 : Int32)).toNatClampNeg x4) (33 : Int32).toNatClampNeg (((upd (upd (upd (upd Mst (y_2 + (0 : Int32)).toNatClampNeg x1) (y_2 + (1 : Int32)).toNatClampNeg x2) (y_2 + (2 : Int32)).toNatClampNeg x3) (y_2 + (3 : Int32)).toNatClampNeg x4) (33 : Int32).toNatClampNeg) + (1 : Int32))) Mhi Mhn Msl Msv Mpd Mln Mat Mit Mvf Mdn Mlf Mar Msa Msm Mso]) κ dX6_add_65 rfl 0 1 rfl rfl (by unfold vp_in; decide) rfl ?_
  exact gw_vret κ dX6_add_66 ((upd (upd (upd (upd (upd Mst (y_2 + (0 : Int32)).toNatClampNeg x1) (y_2 + (1 : Int32)).toNatClampNeg x2) (y_2 + (2 : Int32)).toNatClampNeg x3) (y_2 + (3 : Int32)).toNatClampNeg x4) (33 : Int32).toNatClampNeg (((upd (upd (upd (upd Mst (y_2 + (0 : Int32)).toNatClampNeg x1) (y_2 + (1 : Int32)).toNatClampNeg x2) (y_2 + (2 : Int32)).toNatClampNeg x3) (y_2 + (3 : Int32)).toNatClampNeg x4) (33 : Int32).toNatClampNeg) + (1 : Int32)))) rfl ⟨rfl, h⟩
theorem hy_X6_ride : g_hy yX6_ride 4 := by decide +kernel
set_option maxHeartbeats 4000000 in
set_option maxRecDepth 100000 in
theorem c_X6_ride {l : Launch} {D : va_G} {cI cR : ClassId}  (qa : Nat → Nat) {P : Int32 → (Nat → Int32) → (Nat → Int32) → Int32 → Prop} (Mst : Nat → Int32) (Mhi : Nat → Int32) (Mhn : Int32) (Msl : Nat → Int32) (Msv : Nat → Int32) (Mpd : Nat → Int32) (Mln : Int32) (Mat : Int32) (Mit : Nat → Int32) (Mvf : Nat → Int32) (Mdn : Nat → Int32) (Mlf : Nat → Int32) (Mar : Nat → Int32) (Msa : Nat → Int32) (Msm : Nat → Int32) (Mso : Int32) (x1 : Int32) (x2 : Int32) (x3 : Int32) (x4 : Int32) (h : wp_X6_ride P Mst Mhi Mhn x1 x2 x3 x4) : CT l D cI cR yX6_ride cX6_ride 5 (some .int) ({ frames := 2, cells := 0, slots := 0, locals := 42 } : Room) [.ref (qa 0), .int x1, .int x2, .int x3, .int x4] (wfl [cM qa cI Mst Mhi Mhn Msl Msv Mpd Mln Mat Mit Mvf Mdn Mlf Mar Msa Msm Mso]) (fun u : (Nat → Int32) × (Nat → Int32) × Int32 => (wfl [cM qa cI u.1 u.2.1 u.2.2 Msl Msv Mpd Mln Mat Mit Mvf Mdn Mlf Mar Msa Msm Mso])) (pI (fun (r : Int32) (u : (Nat → Int32) × (Nat → Int32) × Int32) => P r u.1 u.2.1 u.2.2)) 0 0 := by
  refine ct_of RX6 rfl (by decide +kernel) (Nat.le_of_ble_eq_true rfl) (fun zp ze zs zm zb zt zc A hin κ => ?_)
  unfold wp_X6_ride at h
  refine gw_nf (lv' := [(0, .ref (qa 0)), (1, .int x1), (2, .int x2), (3, .int x3), (4, .int x4)]) (pc' := 0) (st' := []) (ce' := 0) (sl' := 0) rfl rfl rfl rfl rfl rfl ?_
  refine gw_iload_n (pc' := 1) κ dX6_ride_0 rfl 1 rfl rfl ?_
  refine gb_callS (rest := []) κ (c_X6_isFlight  x1 h) ⟨rfl, rfl, Nat.le_of_ble_eq_true rfl, Nat.le_of_ble_eq_true rfl⟩ tw_ml_X6_106 tw_st_X6_isFlight tw_co_X6_isFlight tw_in_X6 hy_X6_isFlight rfl (Nat.le_of_ble_eq_true rfl) rfl dX6_ride_1 [] rfl (by decide) (fun _ => Nat.le_of_ble_eq_true rfl) ⟨Nat.le_of_ble_eq_true rfl, Nat.le_of_ble_eq_true rfl⟩ (fun v u hv => ?_)
  obtain ⟨r_1, rfl, h⟩ := hv
  refine gw_nf (ws' := (wfl [cM qa cI Mst Mhi Mhn Msl Msv Mpd Mln Mat Mit Mvf Mdn Mlf Mar Msa Msm Mso])) (lv' := [(0, .ref (qa 0)), (1, .int x1), (2, .int x2), (3, .int x3), (4, .int x4)]) (st' := [.int r_1]) (pc' := 4) (ce' := 0) (sl' := 0) rfl rfl rfl rfl rfl rfl ?_
  refine gw_if_eq (pc' := 7) (tgt := 16) κ dX6_ride_4 rfl (by decide) (fun hc_2 => ?_) (fun hc_2 => ?_)
  · have h := h.1 hc_2
    refine gw_bipush (pc' := 18) (v := -101) κ dX6_ride_16 rfl (by decide) ?_
    exact gw_iret κ dX6_ride_18 (Mst, Mhi, Mhn) rfl ⟨_, rfl, h⟩
  · have h := h.2 hc_2
    refine gw_iload_n (pc' := 8) κ dX6_ride_7 rfl 2 rfl rfl ?_
    refine gw_iconst (pc' := 9) (v := 0) κ dX6_ride_8 rfl (by decide) ?_
    refine gw_iconst (pc' := 10) (v := 5) κ dX6_ride_9 rfl (by decide) ?_
    refine gb_callS (rest := []) κ (c_X6_within  x2 (0 : Int32) (5 : Int32) h) ⟨rfl, rfl, Nat.le_of_ble_eq_true rfl, Nat.le_of_ble_eq_true rfl⟩ tw_ml_X6_46 tw_st_X6_within tw_co_X6_within tw_in_X6 hy_X6_within rfl (Nat.le_of_ble_eq_true rfl) rfl dX6_ride_10 [] rfl (by decide) (fun _ => Nat.le_of_ble_eq_true rfl) ⟨Nat.le_of_ble_eq_true rfl, Nat.le_of_ble_eq_true rfl⟩ (fun v u hv => ?_)
    obtain ⟨r_3, rfl, h⟩ := hv
    refine gw_nf (ws' := (wfl [cM qa cI Mst Mhi Mhn Msl Msv Mpd Mln Mat Mit Mvf Mdn Mlf Mar Msa Msm Mso])) (lv' := [(0, .ref (qa 0)), (1, .int x1), (2, .int x2), (3, .int x3), (4, .int x4)]) (st' := [.int r_3]) (pc' := 13) (ce' := 0) (sl' := 0) rfl rfl rfl rfl rfl rfl ?_
    refine gw_if_ne (pc' := 16) (tgt := 19) κ dX6_ride_13 rfl (by decide) (fun hc_4 => ?_) (fun hc_4 => ?_)
    · have h := h.1 hc_4
      refine gw_iload_n (pc' := 20) κ dX6_ride_19 rfl 3 rfl rfl ?_
      refine gw_iconst (pc' := 21) (v := 0) κ dX6_ride_20 rfl (by decide) ?_
      refine gw_bipush (pc' := 23) (v := 99) κ dX6_ride_21 rfl (by decide) ?_
      refine gb_callS (rest := []) κ (c_X6_within  x3 (0 : Int32) (99 : Int32) h) ⟨rfl, rfl, Nat.le_of_ble_eq_true rfl, Nat.le_of_ble_eq_true rfl⟩ tw_ml_X6_46 tw_st_X6_within tw_co_X6_within tw_in_X6 hy_X6_within rfl (Nat.le_of_ble_eq_true rfl) rfl dX6_ride_23 [] rfl (by decide) (fun _ => Nat.le_of_ble_eq_true rfl) ⟨Nat.le_of_ble_eq_true rfl, Nat.le_of_ble_eq_true rfl⟩ (fun v u hv => ?_)
      obtain ⟨r_5, rfl, h⟩ := hv
      refine gw_nf (ws' := (wfl [cM qa cI Mst Mhi Mhn Msl Msv Mpd Mln Mat Mit Mvf Mdn Mlf Mar Msa Msm Mso])) (lv' := [(0, .ref (qa 0)), (1, .int x1), (2, .int x2), (3, .int x3), (4, .int x4)]) (st' := [.int r_5]) (pc' := 26) (ce' := 0) (sl' := 0) rfl rfl rfl rfl rfl rfl ?_
      refine gw_if_eq (pc' := 29) (tgt := 39) κ dX6_ride_26 rfl (by decide) (fun hc_6 => ?_) (fun hc_6 => ?_)
      · have h := h.1 hc_6
        refine gw_bipush (pc' := 41) (v := -102) κ dX6_ride_39 rfl (by decide) ?_
        exact gw_iret κ dX6_ride_41 (Mst, Mhi, Mhn) rfl ⟨_, rfl, h⟩
      · have h := h.2 hc_6
        refine gw_iload (pc' := 31) κ dX6_ride_29 rfl 4 rfl ?_
        refine gw_iconst (pc' := 32) (v := 1) κ dX6_ride_31 rfl (by decide) ?_
        refine gw_iconst (pc' := 33) (v := 4) κ dX6_ride_32 rfl (by decide) ?_
        refine gb_callS (rest := []) κ (c_X6_within  x4 (1 : Int32) (4 : Int32) h) ⟨rfl, rfl, Nat.le_of_ble_eq_true rfl, Nat.le_of_ble_eq_true rfl⟩ tw_ml_X6_46 tw_st_X6_within tw_co_X6_within tw_in_X6 hy_X6_within rfl (Nat.le_of_ble_eq_true rfl) rfl dX6_ride_33 [] rfl (by decide) (fun _ => Nat.le_of_ble_eq_true rfl) ⟨Nat.le_of_ble_eq_true rfl, Nat.le_of_ble_eq_true rfl⟩ (fun v u hv => ?_)
        obtain ⟨r_7, rfl, h⟩ := hv
        refine gw_nf (ws' := (wfl [cM qa cI Mst Mhi Mhn Msl Msv Mpd Mln Mat Mit Mvf Mdn Mlf Mar Msa Msm Mso])) (lv' := [(0, .ref (qa 0)), (1, .int x1), (2, .int x2), (3, .int x3), (4, .int x4)]) (st' := [.int r_7]) (pc' := 36) (ce' := 0) (sl' := 0) rfl rfl rfl rfl rfl rfl ?_
        refine gw_if_ne (pc' := 39) (tgt := 42) κ dX6_ride_36 rfl (by decide) (fun hc_8 => ?_) (fun hc_8 => ?_)
        · have h := h.1 hc_8
          refine gw_aload_n (pc' := 43) κ dX6_ride_42 rfl 0 rfl rfl ?_
          refine gb_get (pc' := 46) (C := RX6) (T := TX6) (N := 16) κ dX6_ride_43 rfl inX6 0 rfl rfl rfl 0 (by decide) tw_fl_X6_7 rfl ?_
          refine gw_bipush (pc' := 48) (v := 33) κ dX6_ride_46 rfl (by decide) ?_
          refine gb_iald (pc' := 49) κ dX6_ride_48 rfl 0 1 rfl rfl (by unfold vp_in; decide) ?_
          refine gw_bipush (pc' := 51) (v := 24) κ dX6_ride_49 rfl (by decide) ?_
          refine gw_icmp_ne (pc' := 54) (tgt := 57) κ dX6_ride_51 rfl (by decide) (fun hc_10 => ?_) (fun hc_10 => ?_)
          · have h := h.1 hc_10
            refine gw_aload_n (pc' := 58) κ dX6_ride_57 rfl 0 rfl rfl ?_
            refine gb_callV (ci := 6) (qb := 0) (rest := []) κ (c_X6_record qa Mst Mhi Mhn Msl Msv Mpd Mln Mat Mit Mvf Mdn Mlf Mar Msa Msm Mso h) ⟨rfl, rfl, Nat.le_of_ble_eq_true rfl, Nat.le_of_ble_eq_true rfl⟩ tw_ml_X6_54 tw_im_X6_record tw_se_X6_record tw_co_X6_record tw_in_X6 hy_X6_record rfl rfl rfl rfl rfl (Nat.le_of_ble_eq_true rfl) rfl dX6_ride_58 [0] rfl (by decide) (fun _ => Nat.le_of_ble_eq_true rfl) ⟨Nat.le_of_ble_eq_true rfl, Nat.le_of_ble_eq_true rfl⟩ (fun v u hv => ?_)
            obtain ⟨rfl, h⟩ := hv
            obtain ⟨Mhi_11, Mhn_12⟩ := u
            refine gw_nf (ws' := (wfl [cM qa cI Mst Mhi_11 Mhn_12 Msl Msv Mpd Mln Mat Mit Mvf Mdn Mlf Mar Msa Msm Mso])) (lv' := [(0, .ref (qa 0)), (1, .int x1), (2, .int x2), (3, .int x3), (4, .int x4)]) (st' := []) (pc' := 61) (ce' := 0) (sl' := 0) rfl rfl rfl rfl rfl rfl ?_
            refine gw_aload_n (pc' := 62) κ dX6_ride_61 rfl 0 rfl rfl ?_
            refine gw_iload_n (pc' := 63) κ dX6_ride_62 rfl 1 rfl rfl ?_
            refine gw_iload_n (pc' := 64) κ dX6_ride_63 rfl 2 rfl rfl ?_
            refine gw_iload_n (pc' := 65) κ dX6_ride_64 rfl 3 rfl rfl ?_
            refine gw_iload (pc' := 67) κ dX6_ride_65 rfl 4 rfl ?_
            refine gb_callV (ci := 6) (qb := 0) (rest := []) κ (c_X6_add qa Mst Mhi_11 Mhn_12 Msl Msv Mpd Mln Mat Mit Mvf Mdn Mlf Mar Msa Msm Mso x1 x2 x3 x4 h) ⟨rfl, rfl, Nat.le_of_ble_eq_true rfl, Nat.le_of_ble_eq_true rfl⟩ tw_ml_X6_119 tw_im_X6_add tw_se_X6_add tw_co_X6_add tw_in_X6 hy_X6_add rfl rfl rfl rfl rfl (Nat.le_of_ble_eq_true rfl) rfl dX6_ride_67 [0] rfl (by decide) (fun _ => Nat.le_of_ble_eq_true rfl) ⟨Nat.le_of_ble_eq_true rfl, Nat.le_of_ble_eq_true rfl⟩ (fun v Mst_13 hv => ?_)
            obtain ⟨rfl, h⟩ := hv
            refine gw_nf (ws' := (wfl [cM qa cI Mst_13 Mhi_11 Mhn_12 Msl Msv Mpd Mln Mat Mit Mvf Mdn Mlf Mar Msa Msm Mso])) (lv' := [(0, .ref (qa 0)), (1, .int x1), (2, .int x2), (3, .int x3), (4, .int x4)]) (st' := []) (pc' := 70) (ce' := 0) (sl' := 0) rfl rfl rfl rfl rfl rfl ?_
            refine gw_aload_n (pc' := 71) κ dX6_ride_70 rfl 0 rfl rfl ?_
            refine gb_get (pc' := 74) (C := RX6) (T := TX6) (N := 16) κ dX6_ride_71 rfl inX6 0 rfl rfl rfl 0 (by decide) tw_fl_X6_7 rfl ?_
            refine gw_bipush (pc' := 76) (v := 33) κ dX6_ride_74 rfl (by decide) ?_
            refine gb_iald (pc' := 77) κ dX6_ride_76 rfl 0 1 rfl rfl (by unfold vp_in; decide) ?_
            refine gw_iconst (pc' := 78) (v := 1) κ dX6_ride_77 rfl (by decide) ?_
            refine gw_isub (pc' := 79) κ dX6_ride_78 rfl  ?_
            exact gw_iret κ dX6_ride_79 (Mst_13, Mhi_11, Mhn_12) rfl ⟨_, rfl, h⟩
          · have h := h.2 hc_10
            refine gw_bipush (pc' := 56) (v := -104) κ dX6_ride_54 rfl (by decide) ?_
            exact gw_iret κ dX6_ride_56 (Mst, Mhi, Mhn) rfl ⟨_, rfl, h⟩
        · have h := h.2 hc_8
          refine gw_bipush (pc' := 41) (v := -102) κ dX6_ride_39 rfl (by decide) ?_
          exact gw_iret κ dX6_ride_41 (Mst, Mhi, Mhn) rfl ⟨_, rfl, h⟩
    · have h := h.2 hc_4
      refine gw_bipush (pc' := 18) (v := -101) κ dX6_ride_16 rfl (by decide) ?_
      exact gw_iret κ dX6_ride_18 (Mst, Mhi, Mhn) rfl ⟨_, rfl, h⟩
theorem hy_X6_cancel : g_hy yX6_cancel 1 := by decide +kernel
set_option maxHeartbeats 4000000 in
set_option maxRecDepth 100000 in
theorem k_X6_cancel_43 {zp : Program} {l : Launch} {ze : Env} {zs : State} {zm : MethodId} {za : Array Value} {zb : List Frame} {zt : Method} {zc : Code} {D : va_G} {cI cR : ClassId} {A : Nat → Prop} (κ : KC zp zs zm za zt zc cX6_cancel 4 RX6 D cI cR A (some .int)) (qa : Nat → Nat) (P : Int32 → (Nat → Int32) → (Nat → Int32) → Int32 → (Nat → Int32) → (Nat → Int32) → (Nat → Int32) → (Nat → Int32) → Prop) (Msl : Nat → Int32) (Msv : Nat → Int32) (Mpd : Nat → Int32) (Mln : Int32) (Mat : Int32) (Mit : Nat → Int32) (Msa : Nat → Int32) (Msm : Nat → Int32) (Mso : Int32) (x1 : Int32) (v2 : Int32) (Mhi : Nat → Int32) (Mhn : Int32) (Mvf : Nat → Int32) (Mdn : Nat → Int32) (Mlf : Nat → Int32) (Mar : Nat → Int32) : ∀ (n : Nat) (v3 : Int32) (Mst : Nat → Int32), wp_X6_cancel_43 P x1 v2 Mhi Mhn Mvf Mdn Mlf Mar n v3 Mst → GM zp l ze ({ frames := 5, cells := 0, slots := 0, locals := 115 } : Room) zs zm za zb zt zc D A 4 (pI (fun (r : Int32) (u : (Nat → Int32) × (Nat → Int32) × Int32 × (Nat → Int32) × (Nat → Int32) × (Nat → Int32) × (Nat → Int32)) => P r u.1 u.2.1 u.2.2.1 u.2.2.2.1 u.2.2.2.2.1 u.2.2.2.2.2.1 u.2.2.2.2.2.2)) (fun u : (Nat → Int32) × (Nat → Int32) × Int32 × (Nat → Int32) × (Nat → Int32) × (Nat → Int32) × (Nat → Int32) => (wfl [cM qa cI u.1 u.2.1 u.2.2.1 Msl Msv Mpd Mln Mat Mit u.2.2.2.1 u.2.2.2.2.1 u.2.2.2.2.2.1 u.2.2.2.2.2.2 Msa Msm Mso])) 0 0 0 0 (wfl [cM qa cI Mst Mhi Mhn Msl Msv Mpd Mln Mat Mit Mvf Mdn Mlf Mar Msa Msm Mso]) [(0, .ref (qa 0)), (2, .int v2), (3, .int v3)] 43 [] := by
  intro n43
  induction n43 with
  | zero => intro v3 Mst h; exact (show False from h).elim
  | succ n43 ih43 =>
    intro v3 Mst h
    have h : wp_X6_cancel_43F P x1 v2 Mhi Mhn Mvf Mdn Mlf Mar (wp_X6_cancel_43 P x1 v2 Mhi Mhn Mvf Mdn Mlf Mar n43) v3 Mst := h
    unfold wp_X6_cancel_43F at h
    refine gw_iload_n (pc' := 44) κ dX6_cancel_43 rfl 2 rfl rfl ?_
    refine gw_bipush (pc' := 46) (v := 34) κ dX6_cancel_44 rfl (by decide) ?_
    refine gw_iconst (pc' := 47) (v := 4) κ dX6_cancel_46 rfl (by decide) ?_
    refine gw_aload_n (pc' := 48) κ dX6_cancel_47 rfl 0 rfl rfl ?_
    refine gb_get (pc' := 51) (C := RX6) (T := TX6) (N := 16) κ dX6_cancel_48 rfl inX6 0 rfl rfl rfl 0 (by decide) tw_fl_X6_7 rfl ?_
    refine gw_bipush (pc' := 53) (v := 33) κ dX6_cancel_51 rfl (by decide) ?_
    refine gb_iald (pc' := 54) κ dX6_cancel_53 rfl 0 1 rfl rfl (by unfold vp_in; decide) ?_
    refine gw_imul (pc' := 55) κ dX6_cancel_54 rfl  ?_
    refine gw_iadd (pc' := 56) κ dX6_cancel_55 rfl  ?_
    refine gw_icmp_ge (pc' := 59) (tgt := 79) κ dX6_cancel_56 rfl (by decide) (fun hc_13 => ?_) (fun hc_13 => ?_)
    · have h := h.1 hc_13
      refine gw_iload_n (pc' := 80) κ dX6_cancel_79 rfl 1 rfl rfl ?_
      exact gw_iret κ dX6_cancel_80 (Mst, Mhi, Mhn, Mvf, Mdn, Mlf, Mar) rfl ⟨_, rfl, h⟩
    · have h := h.2 hc_13
      refine gw_aload_n (pc' := 60) κ dX6_cancel_59 rfl 0 rfl rfl ?_
      refine gb_get (pc' := 63) (C := RX6) (T := TX6) (N := 16) κ dX6_cancel_60 rfl inX6 0 rfl rfl rfl 0 (by decide) tw_fl_X6_7 rfl ?_
      refine gw_iload_n (pc' := 64) κ dX6_cancel_63 rfl 2 rfl rfl ?_
      refine gw_aload_n (pc' := 65) κ dX6_cancel_64 rfl 0 rfl rfl ?_
      refine gb_get (pc' := 68) (C := RX6) (T := TX6) (N := 16) κ dX6_cancel_65 rfl inX6 0 rfl rfl rfl 0 (by decide) tw_fl_X6_7 rfl ?_
      refine gw_iload_n (pc' := 69) κ dX6_cancel_68 rfl 2 rfl rfl ?_
      refine gw_iconst (pc' := 70) (v := 4) κ dX6_cancel_69 rfl (by decide) ?_
      refine gw_iadd (pc' := 71) κ dX6_cancel_70 rfl  ?_
      obtain ⟨hb_14, h⟩ := h
      refine gb_iald (pc' := 72) κ dX6_cancel_71 rfl 0 1 rfl rfl hb_14 ?_
      obtain ⟨hb_15, h⟩ := h
      refine gb_iast (pc' := 73) (bs' := [cM qa cI (upd Mst v3.toNatClampNeg (Mst (v3 + (4 : Int32)).toNatClampNeg)) Mhi Mhn Msl Msv Mpd Mln Mat Mit Mvf Mdn Mlf Mar Msa Msm Mso]) κ dX6_cancel_72 rfl 0 1 rfl rfl hb_15 rfl ?_
      refine gw_iinc (pc' := 76) κ dX6_cancel_73 rfl 2 rfl (v := (v3 + 1)) rfl (by decide) (lv' := [(3, .int (v3 + 1)), (0, .ref (qa 0)), (2, .int v2)]) rfl ?_
      refine gw_goto (tgt := 43) κ dX6_cancel_76 (by decide) ?_
      refine gw_lv (lv' := [(0, .ref (qa 0)), (2, .int v2), (3, .int (v3 + 1))]) [1, 2, 0] rfl ?_
      exact ih43 (v3 + 1) (upd Mst v3.toNatClampNeg (Mst (v3 + (4 : Int32)).toNatClampNeg)) h
set_option maxHeartbeats 4000000 in
set_option maxRecDepth 100000 in
theorem c_X6_cancel {l : Launch} {D : va_G} {cI cR : ClassId}  (qa : Nat → Nat) {P : Int32 → (Nat → Int32) → (Nat → Int32) → Int32 → (Nat → Int32) → (Nat → Int32) → (Nat → Int32) → (Nat → Int32) → Prop} (Mst : Nat → Int32) (Mhi : Nat → Int32) (Mhn : Int32) (Msl : Nat → Int32) (Msv : Nat → Int32) (Mpd : Nat → Int32) (Mln : Int32) (Mat : Int32) (Mit : Nat → Int32) (Mvf : Nat → Int32) (Mdn : Nat → Int32) (Mlf : Nat → Int32) (Mar : Nat → Int32) (Msa : Nat → Int32) (Msm : Nat → Int32) (Mso : Int32) (x1 : Int32) (h : wp_X6_cancel P Mst Mhi Mhn Mvf Mdn Mlf Mar x1) : CT l D cI cR yX6_cancel cX6_cancel 4 (some .int) ({ frames := 5, cells := 0, slots := 0, locals := 115 } : Room) [.ref (qa 0), .int x1] (wfl [cM qa cI Mst Mhi Mhn Msl Msv Mpd Mln Mat Mit Mvf Mdn Mlf Mar Msa Msm Mso]) (fun u : (Nat → Int32) × (Nat → Int32) × Int32 × (Nat → Int32) × (Nat → Int32) × (Nat → Int32) × (Nat → Int32) => (wfl [cM qa cI u.1 u.2.1 u.2.2.1 Msl Msv Mpd Mln Mat Mit u.2.2.2.1 u.2.2.2.2.1 u.2.2.2.2.2.1 u.2.2.2.2.2.2 Msa Msm Mso])) (pI (fun (r : Int32) (u : (Nat → Int32) × (Nat → Int32) × Int32 × (Nat → Int32) × (Nat → Int32) × (Nat → Int32) × (Nat → Int32)) => P r u.1 u.2.1 u.2.2.1 u.2.2.2.1 u.2.2.2.2.1 u.2.2.2.2.2.1 u.2.2.2.2.2.2)) 0 0 := by
  refine ct_of RX6 rfl (by decide +kernel) (Nat.le_of_ble_eq_true rfl) (fun zp ze zs zm zb zt zc A hin κ => ?_)
  unfold wp_X6_cancel at h
  refine gw_nf (lv' := [(0, .ref (qa 0)), (1, .int x1)]) (pc' := 0) (st' := []) (ce' := 0) (sl' := 0) rfl rfl rfl rfl rfl rfl ?_
  refine gw_aload_n (pc' := 1) κ dX6_cancel_0 rfl 0 rfl rfl ?_
  refine gw_iload_n (pc' := 2) κ dX6_cancel_1 rfl 1 rfl rfl ?_
  refine gb_callV (ci := 6) (qb := 0) (rest := []) κ (c_X6_isRider qa Mst Mhi Mhn Msl Msv Mpd Mln Mat Mit Mvf Mdn Mlf Mar Msa Msm Mso x1 h) ⟨rfl, rfl, Nat.le_of_ble_eq_true rfl, Nat.le_of_ble_eq_true rfl⟩ tw_ml_X6_123 tw_im_X6_isRider tw_se_X6_isRider tw_co_X6_isRider tw_in_X6 hy_X6_isRider rfl rfl rfl rfl rfl (Nat.le_of_ble_eq_true rfl) rfl dX6_cancel_2 [0] rfl (by decide) (fun _ => Nat.le_of_ble_eq_true rfl) ⟨Nat.le_of_ble_eq_true rfl, Nat.le_of_ble_eq_true rfl⟩ (fun v u hv => ?_)
  obtain ⟨r_1, rfl, h⟩ := hv
  refine gw_nf (ws' := (wfl [cM qa cI Mst Mhi Mhn Msl Msv Mpd Mln Mat Mit Mvf Mdn Mlf Mar Msa Msm Mso])) (lv' := [(0, .ref (qa 0)), (1, .int x1)]) (st' := [.int r_1]) (pc' := 5) (ce' := 0) (sl' := 0) rfl rfl rfl rfl rfl rfl ?_
  refine gw_if_ne (pc' := 8) (tgt := 11) κ dX6_cancel_5 rfl (by decide) (fun hc_2 => ?_) (fun hc_2 => ?_)
  · have h := h.1 hc_2
    refine gw_aload_n (pc' := 12) κ dX6_cancel_11 rfl 0 rfl rfl ?_
    refine gb_callV (ci := 6) (qb := 0) (rest := []) κ (c_X6_lay qa Mst Mhi Mhn Msl Msv Mpd Mln Mat Mit Mvf Mdn Mlf Mar Msa Msm Mso h) ⟨rfl, rfl, Nat.le_of_ble_eq_true rfl, Nat.le_of_ble_eq_true rfl⟩ tw_ml_X6_113 tw_im_X6_lay tw_se_X6_lay tw_co_X6_lay tw_in_X6 hy_X6_lay rfl rfl rfl rfl rfl (Nat.le_of_ble_eq_true rfl) rfl dX6_cancel_12 [0] rfl (by decide) (fun _ => Nat.le_of_ble_eq_true rfl) ⟨Nat.le_of_ble_eq_true rfl, Nat.le_of_ble_eq_true rfl⟩ (fun v u hv => ?_)
    obtain ⟨rfl, h⟩ := hv
    obtain ⟨Mvf_3, Mdn_4, Mlf_5, Mar_6⟩ := u
    refine gw_nf (ws' := (wfl [cM qa cI Mst Mhi Mhn Msl Msv Mpd Mln Mat Mit Mvf_3 Mdn_4 Mlf_5 Mar_6 Msa Msm Mso])) (lv' := [(0, .ref (qa 0)), (1, .int x1)]) (st' := []) (pc' := 15) (ce' := 0) (sl' := 0) rfl rfl rfl rfl rfl rfl ?_
    refine gw_aload_n (pc' := 16) κ dX6_cancel_15 rfl 0 rfl rfl ?_
    refine gw_iload_n (pc' := 17) κ dX6_cancel_16 rfl 1 rfl rfl ?_
    refine gb_callV (ci := 6) (qb := 0) (rest := []) κ (c_X6_fare qa Mst Mhi Mhn Msl Msv Mpd Mln Mat Mit Mvf_3 Mdn_4 Mlf_5 Mar_6 Msa Msm Mso x1 h) ⟨rfl, rfl, Nat.le_of_ble_eq_true rfl, Nat.le_of_ble_eq_true rfl⟩ tw_ml_X6_126 tw_im_X6_fare tw_se_X6_fare tw_co_X6_fare tw_in_X6 hy_X6_fare rfl rfl rfl rfl rfl (Nat.le_of_ble_eq_true rfl) rfl dX6_cancel_17 [0] rfl (by decide) (fun _ => Nat.le_of_ble_eq_true rfl) ⟨Nat.le_of_ble_eq_true rfl, Nat.le_of_ble_eq_true rfl⟩ (fun v u hv => ?_)
    obtain ⟨r_7, rfl, h⟩ := hv
    refine gw_nf (ws' := (wfl [cM qa cI Mst Mhi Mhn Msl Msv Mpd Mln Mat Mit Mvf_3 Mdn_4 Mlf_5 Mar_6 Msa Msm Mso])) (lv' := [(0, .ref (qa 0)), (1, .int x1)]) (st' := [.int r_7]) (pc' := 20) (ce' := 0) (sl' := 0) rfl rfl rfl rfl rfl rfl ?_
    refine gw_istore_n (pc' := 21) κ dX6_cancel_20 rfl rfl (by decide) (lv' := [(2, .int r_7), (0, .ref (qa 0)), (1, .int x1)]) rfl ?_
    refine gw_aload_n (pc' := 22) κ dX6_cancel_21 rfl 1 rfl rfl ?_
    refine gb_callV (ci := 6) (qb := 0) (rest := []) κ (c_X6_record qa Mst Mhi Mhn Msl Msv Mpd Mln Mat Mit Mvf_3 Mdn_4 Mlf_5 Mar_6 Msa Msm Mso h) ⟨rfl, rfl, Nat.le_of_ble_eq_true rfl, Nat.le_of_ble_eq_true rfl⟩ tw_ml_X6_54 tw_im_X6_record tw_se_X6_record tw_co_X6_record tw_in_X6 hy_X6_record rfl rfl rfl rfl rfl (Nat.le_of_ble_eq_true rfl) rfl dX6_cancel_22 [0] rfl (by decide) (fun _ => Nat.le_of_ble_eq_true rfl) ⟨Nat.le_of_ble_eq_true rfl, Nat.le_of_ble_eq_true rfl⟩ (fun v u hv => ?_)
    obtain ⟨rfl, h⟩ := hv
    obtain ⟨Mhi_8, Mhn_9⟩ := u
    refine gw_nf (ws' := (wfl [cM qa cI Mst Mhi_8 Mhn_9 Msl Msv Mpd Mln Mat Mit Mvf_3 Mdn_4 Mlf_5 Mar_6 Msa Msm Mso])) (lv' := [(2, .int r_7), (0, .ref (qa 0)), (1, .int x1)]) (st' := []) (pc' := 25) (ce' := 0) (sl' := 0) rfl rfl rfl rfl rfl rfl ?_
    refine gw_aload_n (pc' := 26) κ dX6_cancel_25 rfl 1 rfl rfl ?_
    refine gb_get (pc' := 29) (C := RX6) (T := TX6) (N := 16) κ dX6_cancel_26 rfl inX6 0 rfl rfl rfl 0 (by decide) tw_fl_X6_7 rfl ?_
    refine gw_bipush (pc' := 31) (v := 33) κ dX6_cancel_29 rfl (by decide) ?_
    refine gw_dup2 (pc' := 32) κ dX6_cancel_31 rfl rfl rfl ?_
    refine gb_iald (pc' := 33) κ dX6_cancel_32 rfl 0 1 rfl rfl (by unfold vp_in; decide) ?_
    refine gw_iconst (pc' := 34) (v := 1) κ dX6_cancel_33 rfl (by decide) ?_
    refine gw_isub (pc' := 35) κ dX6_cancel_34 rfl  ?_
    refine gb_iast (pc' := 36) (bs' := [cM qa cI (upd Mst (33 : Int32).toNatClampNeg ((Mst (33 : Int32).toNatClampNeg) - (1 : Int32))) Mhi_8 Mhn_9 Msl Msv Mpd Mln Mat Mit Mvf_3 Mdn_4 Mlf_5 Mar_6 Msa Msm Mso]) κ dX6_cancel_35 rfl 0 1 rfl rfl (by unfold vp_in; decide) rfl ?_
    refine gw_bipush (pc' := 38) (v := 34) κ dX6_cancel_36 rfl (by decide) ?_
    refine gw_iconst (pc' := 39) (v := 4) κ dX6_cancel_38 rfl (by decide) ?_
    refine gw_iload_n (pc' := 40) κ dX6_cancel_39 rfl 2 rfl rfl ?_
    refine gw_imul (pc' := 41) κ dX6_cancel_40 rfl  ?_
    refine gw_iadd (pc' := 42) κ dX6_cancel_41 rfl  ?_
    refine gw_istore_n (pc' := 43) κ dX6_cancel_42 rfl rfl (by decide) (lv' := [(3, .int ((34 : Int32) + ((4 : Int32) * x1))), (2, .int r_7), (0, .ref (qa 0)), (1, .int x1)]) rfl ?_
    obtain ⟨m43, h⟩ := h
    refine gw_lv (lv' := [(0, .ref (qa 0)), (2, .int r_7), (3, .int ((34 : Int32) + ((4 : Int32) * x1)))]) [2, 1, 0] rfl ?_
    exact k_X6_cancel_43 κ qa P Msl Msv Mpd Mln Mat Mit Msa Msm Mso x1 r_7 Mhi_8 Mhn_9 Mvf_3 Mdn_4 Mlf_5 Mar_6 m43 ((34 : Int32) + ((4 : Int32) * x1)) (upd Mst (33 : Int32).toNatClampNeg ((Mst (33 : Int32).toNatClampNeg) - (1 : Int32))) h
  · have h := h.2 hc_2
    refine gw_bipush (pc' := 10) (v := -101) κ dX6_cancel_8 rfl (by decide) ?_
    exact gw_iret κ dX6_cancel_10 (Mst, Mhi, Mhn, Mvf, Mdn, Mlf, Mar) rfl ⟨_, rfl, h⟩
theorem hy_X6_rebook : g_hy yX6_rebook 2 := by decide +kernel
set_option maxHeartbeats 4000000 in
set_option maxRecDepth 100000 in
theorem c_X6_rebook {l : Launch} {D : va_G} {cI cR : ClassId}  (qa : Nat → Nat) {P : Int32 → (Nat → Int32) → (Nat → Int32) → Int32 → (Nat → Int32) → (Nat → Int32) → (Nat → Int32) → (Nat → Int32) → Prop} (Mst : Nat → Int32) (Mhi : Nat → Int32) (Mhn : Int32) (Msl : Nat → Int32) (Msv : Nat → Int32) (Mpd : Nat → Int32) (Mln : Int32) (Mat : Int32) (Mit : Nat → Int32) (Mvf : Nat → Int32) (Mdn : Nat → Int32) (Mlf : Nat → Int32) (Mar : Nat → Int32) (Msa : Nat → Int32) (Msm : Nat → Int32) (Mso : Int32) (x1 : Int32) (x2 : Int32) (h : wp_X6_rebook P Mst Mhi Mhn Mvf Mdn Mlf Mar x1 x2) : CT l D cI cR yX6_rebook cX6_rebook 3 (some .int) ({ frames := 5, cells := 0, slots := 0, locals := 113 } : Room) [.ref (qa 0), .int x1, .int x2] (wfl [cM qa cI Mst Mhi Mhn Msl Msv Mpd Mln Mat Mit Mvf Mdn Mlf Mar Msa Msm Mso]) (fun u : (Nat → Int32) × (Nat → Int32) × Int32 × (Nat → Int32) × (Nat → Int32) × (Nat → Int32) × (Nat → Int32) => (wfl [cM qa cI u.1 u.2.1 u.2.2.1 Msl Msv Mpd Mln Mat Mit u.2.2.2.1 u.2.2.2.2.1 u.2.2.2.2.2.1 u.2.2.2.2.2.2 Msa Msm Mso])) (pI (fun (r : Int32) (u : (Nat → Int32) × (Nat → Int32) × Int32 × (Nat → Int32) × (Nat → Int32) × (Nat → Int32) × (Nat → Int32)) => P r u.1 u.2.1 u.2.2.1 u.2.2.2.1 u.2.2.2.2.1 u.2.2.2.2.2.1 u.2.2.2.2.2.2)) 0 0 := by
  refine ct_of RX6 rfl (by decide +kernel) (Nat.le_of_ble_eq_true rfl) (fun zp ze zs zm zb zt zc A hin κ => ?_)
  unfold wp_X6_rebook at h
  refine gw_nf (lv' := [(0, .ref (qa 0)), (1, .int x1), (2, .int x2)]) (pc' := 0) (st' := []) (ce' := 0) (sl' := 0) rfl rfl rfl rfl rfl rfl ?_
  refine gw_aload_n (pc' := 1) κ dX6_rebook_0 rfl 0 rfl rfl ?_
  refine gw_iload_n (pc' := 2) κ dX6_rebook_1 rfl 1 rfl rfl ?_
  refine gb_callV (ci := 6) (qb := 0) (rest := []) κ (c_X6_isRider qa Mst Mhi Mhn Msl Msv Mpd Mln Mat Mit Mvf Mdn Mlf Mar Msa Msm Mso x1 h) ⟨rfl, rfl, Nat.le_of_ble_eq_true rfl, Nat.le_of_ble_eq_true rfl⟩ tw_ml_X6_123 tw_im_X6_isRider tw_se_X6_isRider tw_co_X6_isRider tw_in_X6 hy_X6_isRider rfl rfl rfl rfl rfl (Nat.le_of_ble_eq_true rfl) rfl dX6_rebook_2 [0] rfl (by decide) (fun _ => Nat.le_of_ble_eq_true rfl) ⟨Nat.le_of_ble_eq_true rfl, Nat.le_of_ble_eq_true rfl⟩ (fun v u hv => ?_)
  obtain ⟨r_1, rfl, h⟩ := hv
  refine gw_nf (ws' := (wfl [cM qa cI Mst Mhi Mhn Msl Msv Mpd Mln Mat Mit Mvf Mdn Mlf Mar Msa Msm Mso])) (lv' := [(0, .ref (qa 0)), (1, .int x1), (2, .int x2)]) (st' := [.int r_1]) (pc' := 5) (ce' := 0) (sl' := 0) rfl rfl rfl rfl rfl rfl ?_
  refine gw_if_eq (pc' := 8) (tgt := 15) κ dX6_rebook_5 rfl (by decide) (fun hc_2 => ?_) (fun hc_2 => ?_)
  · have h := h.1 hc_2
    refine gw_bipush (pc' := 17) (v := -101) κ dX6_rebook_15 rfl (by decide) ?_
    exact gw_iret κ dX6_rebook_17 (Mst, Mhi, Mhn, Mvf, Mdn, Mlf, Mar) rfl ⟨_, rfl, h⟩
  · have h := h.2 hc_2
    refine gw_iload_n (pc' := 9) κ dX6_rebook_8 rfl 2 rfl rfl ?_
    refine gb_callS (rest := []) κ (c_X6_isFlight  x2 h) ⟨rfl, rfl, Nat.le_of_ble_eq_true rfl, Nat.le_of_ble_eq_true rfl⟩ tw_ml_X6_106 tw_st_X6_isFlight tw_co_X6_isFlight tw_in_X6 hy_X6_isFlight rfl (Nat.le_of_ble_eq_true rfl) rfl dX6_rebook_9 [] rfl (by decide) (fun _ => Nat.le_of_ble_eq_true rfl) ⟨Nat.le_of_ble_eq_true rfl, Nat.le_of_ble_eq_true rfl⟩ (fun v u hv => ?_)
    obtain ⟨r_3, rfl, h⟩ := hv
    refine gw_nf (ws' := (wfl [cM qa cI Mst Mhi Mhn Msl Msv Mpd Mln Mat Mit Mvf Mdn Mlf Mar Msa Msm Mso])) (lv' := [(0, .ref (qa 0)), (1, .int x1), (2, .int x2)]) (st' := [.int r_3]) (pc' := 12) (ce' := 0) (sl' := 0) rfl rfl rfl rfl rfl rfl ?_
    refine gw_if_ne (pc' := 15) (tgt := 18) κ dX6_rebook_12 rfl (by decide) (fun hc_4 => ?_) (fun hc_4 => ?_)
    · have h := h.1 hc_4
      refine gw_aload_n (pc' := 19) κ dX6_rebook_18 rfl 0 rfl rfl ?_
      refine gw_iload_n (pc' := 20) κ dX6_rebook_19 rfl 1 rfl rfl ?_
      refine gw_iconst (pc' := 21) (v := 0) κ dX6_rebook_20 rfl (by decide) ?_
      refine gb_callV (ci := 6) (qb := 0) (rest := []) κ (c_X6_of qa Mst Mhi Mhn Msl Msv Mpd Mln Mat Mit Mvf Mdn Mlf Mar Msa Msm Mso x1 (0 : Int32) h) ⟨rfl, rfl, Nat.le_of_ble_eq_true rfl, Nat.le_of_ble_eq_true rfl⟩ tw_ml_X6_57 tw_im_X6_of tw_se_X6_of tw_co_X6_of tw_in_X6 hy_X6_of rfl rfl rfl rfl rfl (Nat.le_of_ble_eq_true rfl) rfl dX6_rebook_21 [0] rfl (by decide) (fun _ => Nat.le_of_ble_eq_true rfl) ⟨Nat.le_of_ble_eq_true rfl, Nat.le_of_ble_eq_true rfl⟩ (fun v u hv => ?_)
      obtain ⟨r_5, rfl, h⟩ := hv
      refine gw_nf (ws' := (wfl [cM qa cI Mst Mhi Mhn Msl Msv Mpd Mln Mat Mit Mvf Mdn Mlf Mar Msa Msm Mso])) (lv' := [(0, .ref (qa 0)), (1, .int x1), (2, .int x2)]) (st' := [.int r_5]) (pc' := 24) (ce' := 0) (sl' := 0) rfl rfl rfl rfl rfl rfl ?_
      refine gw_iload_n (pc' := 25) κ dX6_rebook_24 rfl 2 rfl rfl ?_
      refine gw_icmp_ne (pc' := 28) (tgt := 31) κ dX6_rebook_25 rfl (by decide) (fun hc_6 => ?_) (fun hc_6 => ?_)
      · have h := h.1 hc_6
        refine gw_aload_n (pc' := 32) κ dX6_rebook_31 rfl 0 rfl rfl ?_
        refine gb_callV (ci := 6) (qb := 0) (rest := []) κ (c_X6_record qa Mst Mhi Mhn Msl Msv Mpd Mln Mat Mit Mvf Mdn Mlf Mar Msa Msm Mso h) ⟨rfl, rfl, Nat.le_of_ble_eq_true rfl, Nat.le_of_ble_eq_true rfl⟩ tw_ml_X6_54 tw_im_X6_record tw_se_X6_record tw_co_X6_record tw_in_X6 hy_X6_record rfl rfl rfl rfl rfl (Nat.le_of_ble_eq_true rfl) rfl dX6_rebook_32 [0] rfl (by decide) (fun _ => Nat.le_of_ble_eq_true rfl) ⟨Nat.le_of_ble_eq_true rfl, Nat.le_of_ble_eq_true rfl⟩ (fun v u hv => ?_)
        obtain ⟨rfl, h⟩ := hv
        obtain ⟨Mhi_7, Mhn_8⟩ := u
        refine gw_nf (ws' := (wfl [cM qa cI Mst Mhi_7 Mhn_8 Msl Msv Mpd Mln Mat Mit Mvf Mdn Mlf Mar Msa Msm Mso])) (lv' := [(0, .ref (qa 0)), (1, .int x1), (2, .int x2)]) (st' := []) (pc' := 35) (ce' := 0) (sl' := 0) rfl rfl rfl rfl rfl rfl ?_
        refine gw_aload_n (pc' := 36) κ dX6_rebook_35 rfl 0 rfl rfl ?_
        refine gb_get (pc' := 39) (C := RX6) (T := TX6) (N := 16) κ dX6_rebook_36 rfl inX6 0 rfl rfl rfl 0 (by decide) tw_fl_X6_7 rfl ?_
        refine gw_bipush (pc' := 41) (v := 34) κ dX6_rebook_39 rfl (by decide) ?_
        refine gw_iconst (pc' := 42) (v := 4) κ dX6_rebook_41 rfl (by decide) ?_
        refine gw_iload_n (pc' := 43) κ dX6_rebook_42 rfl 1 rfl rfl ?_
        refine gw_imul (pc' := 44) κ dX6_rebook_43 rfl  ?_
        refine gw_iadd (pc' := 45) κ dX6_rebook_44 rfl  ?_
        refine gw_iconst (pc' := 46) (v := 0) κ dX6_rebook_45 rfl (by decide) ?_
        refine gw_iadd (pc' := 47) κ dX6_rebook_46 rfl  ?_
        refine gw_iload_n (pc' := 48) κ dX6_rebook_47 rfl 2 rfl rfl ?_
        obtain ⟨hb_9, h⟩ := h
        refine gb_iast (pc' := 49) (bs' := [cM qa cI (upd Mst (((34 : Int32) + ((4 : Int32) * x1)) + (0 : Int32)).toNatClampNeg x2) Mhi_7 Mhn_8 Msl Msv Mpd Mln Mat Mit Mvf Mdn Mlf Mar Msa Msm Mso]) κ dX6_rebook_48 rfl 0 1 rfl rfl hb_9 rfl ?_
        refine gw_aload_n (pc' := 50) κ dX6_rebook_49 rfl 0 rfl rfl ?_
        refine gb_callV (ci := 6) (qb := 0) (rest := []) κ (c_X6_lay qa (upd Mst (((34 : Int32) + ((4 : Int32) * x1)) + (0 : Int32)).toNatClampNeg x2) Mhi_7 Mhn_8 Msl Msv Mpd Mln Mat Mit Mvf Mdn Mlf Mar Msa Msm Mso h) ⟨rfl, rfl, Nat.le_of_ble_eq_true rfl, Nat.le_of_ble_eq_true rfl⟩ tw_ml_X6_113 tw_im_X6_lay tw_se_X6_lay tw_co_X6_lay tw_in_X6 hy_X6_lay rfl rfl rfl rfl rfl (Nat.le_of_ble_eq_true rfl) rfl dX6_rebook_50 [0] rfl (by decide) (fun _ => Nat.le_of_ble_eq_true rfl) ⟨Nat.le_of_ble_eq_true rfl, Nat.le_of_ble_eq_true rfl⟩ (fun v u hv => ?_)
        obtain ⟨rfl, h⟩ := hv
        obtain ⟨Mvf_10, Mdn_11, Mlf_12, Mar_13⟩ := u
        refine gw_nf (ws' := (wfl [cM qa cI (upd Mst (((34 : Int32) + ((4 : Int32) * x1)) + (0 : Int32)).toNatClampNeg x2) Mhi_7 Mhn_8 Msl Msv Mpd Mln Mat Mit Mvf_10 Mdn_11 Mlf_12 Mar_13 Msa Msm Mso])) (lv' := [(0, .ref (qa 0)), (1, .int x1), (2, .int x2)]) (st' := []) (pc' := 53) (ce' := 0) (sl' := 0) rfl rfl rfl rfl rfl rfl ?_
        refine gw_aload_n (pc' := 54) κ dX6_rebook_53 rfl 0 rfl rfl ?_
        refine gb_get (pc' := 57) (C := RX6) (T := TX6) (N := 16) κ dX6_rebook_54 rfl inX6 0 rfl rfl rfl 9 (by decide) tw_fl_X6_28 rfl ?_
        refine gw_iload_n (pc' := 58) κ dX6_rebook_57 rfl 1 rfl rfl ?_
        obtain ⟨hb_14, h⟩ := h
        refine gb_iald (pc' := 59) κ dX6_rebook_58 rfl 0 7 rfl rfl hb_14 ?_
        exact gw_iret κ dX6_rebook_59 ((upd Mst (((34 : Int32) + ((4 : Int32) * x1)) + (0 : Int32)).toNatClampNeg x2), Mhi_7, Mhn_8, Mvf_10, Mdn_11, Mlf_12, Mar_13) rfl ⟨_, rfl, h⟩
      · have h := h.2 hc_6
        refine gw_bipush (pc' := 30) (v := -105) κ dX6_rebook_28 rfl (by decide) ?_
        exact gw_iret κ dX6_rebook_30 (Mst, Mhi, Mhn, Mvf, Mdn, Mlf, Mar) rfl ⟨_, rfl, h⟩
    · have h := h.2 hc_4
      refine gw_bipush (pc' := 17) (v := -101) κ dX6_rebook_15 rfl (by decide) ?_
      exact gw_iret κ dX6_rebook_17 (Mst, Mhi, Mhn, Mvf, Mdn, Mlf, Mar) rfl ⟨_, rfl, h⟩
theorem hy_X6_sharing : g_hy yX6_sharing 1 := by decide +kernel
set_option maxHeartbeats 4000000 in
set_option maxRecDepth 100000 in
theorem k_X6_sharing_4 {zp : Program} {l : Launch} {ze : Env} {zs : State} {zm : MethodId} {za : Array Value} {zb : List Frame} {zt : Method} {zc : Code} {D : va_G} {cI cR : ClassId} {A : Nat → Prop} (κ : KC zp zs zm za zt zc cX6_sharing 4 RX6 D cI cR A (some .int)) (qa : Nat → Nat) (P : Int32 → Prop) (Mst : Nat → Int32) (Mhi : Nat → Int32) (Mhn : Int32) (Msl : Nat → Int32) (Msv : Nat → Int32) (Mpd : Nat → Int32) (Mln : Int32) (Mat : Int32) (Mit : Nat → Int32) (Mvf : Nat → Int32) (Mdn : Nat → Int32) (Mlf : Nat → Int32) (Mar : Nat → Int32) (Msa : Nat → Int32) (Msm : Nat → Int32) (Mso : Int32) (x1 : Int32) : ∀ (n : Nat) (v2 : Int32) (v3 : Int32), wp_X6_sharing_4 P Mst Mvf x1 n v2 v3 → GM zp l ze ({ frames := 3, cells := 0, slots := 0, locals := 66 } : Room) zs zm za zb zt zc D A 4 (pI (fun (r : Int32) (_ : Unit) => P r)) (fun _ : Unit => (wfl [cM qa cI Mst Mhi Mhn Msl Msv Mpd Mln Mat Mit Mvf Mdn Mlf Mar Msa Msm Mso])) 0 0 0 0 (wfl [cM qa cI Mst Mhi Mhn Msl Msv Mpd Mln Mat Mit Mvf Mdn Mlf Mar Msa Msm Mso]) [(0, .ref (qa 0)), (1, .int x1), (2, .int v2), (3, .int v3)] 4 [] := by
  intro n4
  induction n4 with
  | zero => intro v2 v3 h; exact (show False from h).elim
  | succ n4 ih4 =>
    intro v2 v3 h
    have h : wp_X6_sharing_4F P Mst Mvf x1 (wp_X6_sharing_4 P Mst Mvf x1 n4) v2 v3 := h
    unfold wp_X6_sharing_4F at h
    refine gw_iload_n (pc' := 5) κ dX6_sharing_4 rfl 3 rfl rfl ?_
    refine gw_aload_n (pc' := 6) κ dX6_sharing_5 rfl 0 rfl rfl ?_
    refine gb_get (pc' := 9) (C := RX6) (T := TX6) (N := 16) κ dX6_sharing_6 rfl inX6 0 rfl rfl rfl 0 (by decide) tw_fl_X6_7 rfl ?_
    refine gw_bipush (pc' := 11) (v := 33) κ dX6_sharing_9 rfl (by decide) ?_
    refine gb_iald (pc' := 12) κ dX6_sharing_11 rfl 0 1 rfl rfl (by unfold vp_in; decide) ?_
    refine gw_icmp_ge (pc' := 15) (tgt := 44) κ dX6_sharing_12 rfl (by decide) (fun hc_2 => ?_) (fun hc_2 => ?_)
    · have h := h.1 hc_2
      refine gw_iload_n (pc' := 45) κ dX6_sharing_44 rfl 2 rfl rfl ?_
      exact gw_iret κ dX6_sharing_45 () rfl ⟨_, rfl, h⟩
    · have h := h.2 hc_2
      refine gw_iload_n (pc' := 16) κ dX6_sharing_15 rfl 2 rfl rfl ?_
      refine gw_iload_n (pc' := 17) κ dX6_sharing_16 rfl 3 rfl rfl ?_
      refine gw_iload_n (pc' := 18) κ dX6_sharing_17 rfl 1 rfl rfl ?_
      refine gw_icmp_eq (pc' := 21) (tgt := 35) κ dX6_sharing_18 rfl (by decide) (fun hc_3 => ?_) (fun hc_3 => ?_)
      · have h := h.1 hc_3
        refine gw_iconst (pc' := 36) (v := 0) κ dX6_sharing_35 rfl (by decide) ?_
        refine gw_iadd (pc' := 37) κ dX6_sharing_36 rfl  ?_
        refine gw_istore_n (pc' := 38) κ dX6_sharing_37 rfl rfl (by decide) (lv' := [(2, .int (v2 + (0 : Int32))), (0, .ref (qa 0)), (1, .int x1), (3, .int v3)]) rfl ?_
        refine gw_iinc (pc' := 41) κ dX6_sharing_38 rfl 3 rfl (v := (v3 + 1)) rfl (by decide) (lv' := [(3, .int (v3 + 1)), (2, .int (v2 + (0 : Int32))), (0, .ref (qa 0)), (1, .int x1)]) rfl ?_
        refine gw_goto (tgt := 4) κ dX6_sharing_41 (by decide) ?_
        refine gw_lv (lv' := [(0, .ref (qa 0)), (1, .int x1), (2, .int (v2 + (0 : Int32))), (3, .int (v3 + 1))]) [2, 3, 1, 0] rfl ?_
        exact ih4 (v2 + (0 : Int32)) (v3 + 1) h
      · have h := h.2 hc_3
        refine gw_aload_n (pc' := 22) κ dX6_sharing_21 rfl 0 rfl rfl ?_
        refine gw_iload_n (pc' := 23) κ dX6_sharing_22 rfl 3 rfl rfl ?_
        refine gw_iload_n (pc' := 24) κ dX6_sharing_23 rfl 1 rfl rfl ?_
        refine gw_iconst (pc' := 25) (v := 1) κ dX6_sharing_24 rfl (by decide) ?_
        refine gb_callV (ci := 6) (qb := 0) (rest := [.int v2]) κ (c_X6_isWith qa Mst Mhi Mhn Msl Msv Mpd Mln Mat Mit Mvf Mdn Mlf Mar Msa Msm Mso v3 x1 (1 : Int32) h) ⟨rfl, rfl, Nat.le_of_ble_eq_true rfl, Nat.le_of_ble_eq_true rfl⟩ tw_ml_X6_92 tw_im_X6_isWith tw_se_X6_isWith tw_co_X6_isWith tw_in_X6 hy_X6_isWith rfl rfl rfl rfl rfl (Nat.le_of_ble_eq_true rfl) rfl dX6_sharing_25 [0] rfl (by decide) (fun _ => Nat.le_of_ble_eq_true rfl) ⟨Nat.le_of_ble_eq_true rfl, Nat.le_of_ble_eq_true rfl⟩ (fun v u hv => ?_)
        obtain ⟨r_4, rfl, h⟩ := hv
        refine gw_nf (ws' := (wfl [cM qa cI Mst Mhi Mhn Msl Msv Mpd Mln Mat Mit Mvf Mdn Mlf Mar Msa Msm Mso])) (lv' := [(0, .ref (qa 0)), (1, .int x1), (2, .int v2), (3, .int v3)]) (st' := [.int r_4, .int v2]) (pc' := 28) (ce' := 0) (sl' := 0) rfl rfl rfl rfl rfl rfl ?_
        refine gw_if_eq (pc' := 31) (tgt := 35) κ dX6_sharing_28 rfl (by decide) (fun hc_5 => ?_) (fun hc_5 => ?_)
        · have h := h.1 hc_5
          refine gw_iconst (pc' := 36) (v := 0) κ dX6_sharing_35 rfl (by decide) ?_
          refine gw_iadd (pc' := 37) κ dX6_sharing_36 rfl  ?_
          refine gw_istore_n (pc' := 38) κ dX6_sharing_37 rfl rfl (by decide) (lv' := [(2, .int (v2 + (0 : Int32))), (0, .ref (qa 0)), (1, .int x1), (3, .int v3)]) rfl ?_
          refine gw_iinc (pc' := 41) κ dX6_sharing_38 rfl 3 rfl (v := (v3 + 1)) rfl (by decide) (lv' := [(3, .int (v3 + 1)), (2, .int (v2 + (0 : Int32))), (0, .ref (qa 0)), (1, .int x1)]) rfl ?_
          refine gw_goto (tgt := 4) κ dX6_sharing_41 (by decide) ?_
          refine gw_lv (lv' := [(0, .ref (qa 0)), (1, .int x1), (2, .int (v2 + (0 : Int32))), (3, .int (v3 + 1))]) [2, 3, 1, 0] rfl ?_
          exact ih4 (v2 + (0 : Int32)) (v3 + 1) h
        · have h := h.2 hc_5
          refine gw_iconst (pc' := 32) (v := 1) κ dX6_sharing_31 rfl (by decide) ?_
          refine gw_goto (tgt := 36) κ dX6_sharing_32 (by decide) ?_
          refine gw_iadd (pc' := 37) κ dX6_sharing_36 rfl  ?_
          refine gw_istore_n (pc' := 38) κ dX6_sharing_37 rfl rfl (by decide) (lv' := [(2, .int (v2 + (1 : Int32))), (0, .ref (qa 0)), (1, .int x1), (3, .int v3)]) rfl ?_
          refine gw_iinc (pc' := 41) κ dX6_sharing_38 rfl 3 rfl (v := (v3 + 1)) rfl (by decide) (lv' := [(3, .int (v3 + 1)), (2, .int (v2 + (1 : Int32))), (0, .ref (qa 0)), (1, .int x1)]) rfl ?_
          refine gw_goto (tgt := 4) κ dX6_sharing_41 (by decide) ?_
          refine gw_lv (lv' := [(0, .ref (qa 0)), (1, .int x1), (2, .int (v2 + (1 : Int32))), (3, .int (v3 + 1))]) [2, 3, 1, 0] rfl ?_
          exact ih4 (v2 + (1 : Int32)) (v3 + 1) h
set_option maxHeartbeats 4000000 in
set_option maxRecDepth 100000 in
theorem c_X6_sharing {l : Launch} {D : va_G} {cI cR : ClassId}  (qa : Nat → Nat) {P : Int32 → Prop} (Mst : Nat → Int32) (Mhi : Nat → Int32) (Mhn : Int32) (Msl : Nat → Int32) (Msv : Nat → Int32) (Mpd : Nat → Int32) (Mln : Int32) (Mat : Int32) (Mit : Nat → Int32) (Mvf : Nat → Int32) (Mdn : Nat → Int32) (Mlf : Nat → Int32) (Mar : Nat → Int32) (Msa : Nat → Int32) (Msm : Nat → Int32) (Mso : Int32) (x1 : Int32) (h : wp_X6_sharing P Mst Mvf x1) : CT l D cI cR yX6_sharing cX6_sharing 4 (some .int) ({ frames := 3, cells := 0, slots := 0, locals := 66 } : Room) [.ref (qa 0), .int x1] (wfl [cM qa cI Mst Mhi Mhn Msl Msv Mpd Mln Mat Mit Mvf Mdn Mlf Mar Msa Msm Mso]) (fun _ : Unit => (wfl [cM qa cI Mst Mhi Mhn Msl Msv Mpd Mln Mat Mit Mvf Mdn Mlf Mar Msa Msm Mso])) (pI (fun (r : Int32) (_ : Unit) => P r)) 0 0 := by
  refine ct_of RX6 rfl (by decide +kernel) (Nat.le_of_ble_eq_true rfl) (fun zp ze zs zm zb zt zc A hin κ => ?_)
  unfold wp_X6_sharing at h
  refine gw_nf (lv' := [(0, .ref (qa 0)), (1, .int x1)]) (pc' := 0) (st' := []) (ce' := 0) (sl' := 0) rfl rfl rfl rfl rfl rfl ?_
  refine gw_iconst (pc' := 1) (v := 0) κ dX6_sharing_0 rfl (by decide) ?_
  refine gw_istore_n (pc' := 2) κ dX6_sharing_1 rfl rfl (by decide) (lv' := [(2, .int (0 : Int32)), (0, .ref (qa 0)), (1, .int x1)]) rfl ?_
  refine gw_iconst (pc' := 3) (v := 0) κ dX6_sharing_2 rfl (by decide) ?_
  refine gw_istore_n (pc' := 4) κ dX6_sharing_3 rfl rfl (by decide) (lv' := [(3, .int (0 : Int32)), (2, .int (0 : Int32)), (0, .ref (qa 0)), (1, .int x1)]) rfl ?_
  obtain ⟨m4, h⟩ := h
  refine gw_lv (lv' := [(0, .ref (qa 0)), (1, .int x1), (2, .int (0 : Int32)), (3, .int (0 : Int32))]) [2, 3, 1, 0] rfl ?_
  exact k_X6_sharing_4 κ qa P Mst Mhi Mhn Msl Msv Mpd Mln Mat Mit Mvf Mdn Mlf Mar Msa Msm Mso x1 m4 (0 : Int32) (0 : Int32) h
