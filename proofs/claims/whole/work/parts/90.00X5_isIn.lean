theorem hy_X5_isIn : g_hy yX5_isIn 3 := by decide +kernel
set_option maxHeartbeats 4000000 in
set_option maxRecDepth 100000 in
theorem c_X5_isIn {l : Launch} {D : va_G} {cI cR : ClassId}  {P : Int32 → Prop} (x0 : Int32) (x1 : Int32) (x2 : Int32) (h : wp_X5_isIn P x0 x1 x2) : CT l D cI cR yX5_isIn cX5_isIn 3 (some .boolean) ({ frames := 0, cells := 0, slots := 0, locals := 0 } : Room) [.int x0, .int x1, .int x2] (fl ([] : List va_W)) (fun _ : Unit => (fl ([] : List va_W))) (pI (fun (r : Int32) (_ : Unit) => P r)) 0 0 := by
  refine ct_of RX5 rfl (by decide +kernel) (Nat.le_of_ble_eq_true rfl) (fun zp ze zs zm zb zt zc A hin κ => ?_)
  unfold wp_X5_isIn at h
  refine gw_nf (lv' := [(0, .int x0), (1, .int x1), (2, .int x2)]) (pc' := 0) (st' := []) (ce' := 0) (sl' := 0) rfl rfl rfl rfl rfl rfl ?_
  refine gw_iload_n (pc' := 1) κ dX5_isIn_0 rfl 0 rfl rfl ?_
  refine gw_iload_n (pc' := 2) κ dX5_isIn_1 rfl 1 rfl rfl ?_
  refine gw_icmp_lt (pc' := 5) (tgt := 14) κ dX5_isIn_2 rfl (by decide) (fun hc_1 => ?_) (fun hc_1 => ?_)
  · have h := h.1 hc_1
    refine gw_iconst (pc' := 15) (v := 0) κ dX5_isIn_14 rfl (by decide) ?_
    exact gw_zret κ dX5_isIn_15 () rfl rfl ⟨_, rfl, h⟩
  · have h := h.2 hc_1
    refine gw_iload_n (pc' := 6) κ dX5_isIn_5 rfl 0 rfl rfl ?_
    refine gw_iload_n (pc' := 7) κ dX5_isIn_6 rfl 2 rfl rfl ?_
    refine gw_icmp_gt (pc' := 10) (tgt := 14) κ dX5_isIn_7 rfl (by decide) (fun hc_2 => ?_) (fun hc_2 => ?_)
    · have h := h.1 hc_2
      refine gw_iconst (pc' := 15) (v := 0) κ dX5_isIn_14 rfl (by decide) ?_
      exact gw_zret κ dX5_isIn_15 () rfl rfl ⟨_, rfl, h⟩
    · have h := h.2 hc_2
      refine gw_iconst (pc' := 11) (v := 1) κ dX5_isIn_10 rfl (by decide) ?_
      refine gw_goto (tgt := 15) κ dX5_isIn_11 (by decide) ?_
      exact gw_zret κ dX5_isIn_15 () rfl rfl ⟨_, rfl, h⟩
