/-! ===== all calls ===== -/
theorem rel0 : Rel x0_now x0_pln x0_pad x0_his (fun _ => none) iX6_Mst (fun _ => 0) 0 (fun _ => 0) (fun _ => 0) (fun _ => 0) 0 := by
  refine ⟨⟨0, fun _ => 0, ?_, ?_, ?_⟩, ⟨0, rfl, fun _ => x0_now, ⟨rfl, by omega, 0, by omega, rfl, fun i hi => absurd hi (by omega)⟩, fun i hi => absurd hi (by omega)⟩, ⟨0, by omega, rfl, rfl, fun j hj => absurd hj (by omega)⟩, fun j hj => Or.inl ⟨rfl, rfl⟩⟩
  · have h : (∀ f, f < 6 → 0 ≤ (x0_now.la f).toInt ∧ (x0_now.la f).toInt ≤ 1200) ∧ (∀ f, f < 6 → -30 ≤ (x0_now.de f).toInt ∧ (x0_now.de f).toInt ≤ 300) ∧ (∀ v, v < 8 → 0 ≤ (x0_now.le v).toInt ∧ (x0_now.le v).toInt ≤ 1500) ∧ (∀ v, v < 8 → 0 ≤ (x0_now.sa v).toInt ∧ (x0_now.sa v).toInt ≤ 12) := by decide +kernel
    exact ⟨rfl, by omega, by decide +kernel, by decide +kernel, by decide +kernel, by decide +kernel, by decide +kernel, h.1, h.2.1, h.2.2.1, h.2.2.2, fun r hr => absurd hr (by omega), fun r hr => absurd hr (by omega), fun r hr => absurd hr (by omega), fun r hr => absurd hr (by omega)⟩
  · have h : (∀ k, k < 5 → iX6_Mst k = x0_now.se k) ∧ (∀ f, f < 6 → iX6_Mst (5 + f) = x0_now.la f) ∧ (∀ f, f < 6 → iX6_Mst (11 + f) = x0_now.de f) ∧ (∀ v, v < 8 → iX6_Mst (17 + v) = x0_now.le v) ∧ (∀ v, v < 8 → iX6_Mst (25 + v) = x0_now.sa v) ∧ iX6_Mst 33 = nI 0 := by decide +kernel
    exact ⟨h.1, h.2.1, h.2.2.1, h.2.2.2.1, h.2.2.2.2.1, h.2.2.2.2.2, fun r hr => absurd hr (by omega), fun r hr => absurd hr (by omega), fun r hr => absurd hr (by omega), fun r hr => absurd hr (by omega)⟩
  · exact ⟨⟨fun k hk => absurd hk (by omega), fun j k _ hk => absurd hk (by omega), fun r hr => absurd hr (by omega)⟩, fun r hr => absurd hr (by omega), fun r hr => absurd hr (by omega), fun v hv => rfl, fun v hv => rfl, rfl, rfl, rfl⟩
theorem law_ok (xs : Nat → Int32) : ∀ n t, RecOK (lawL xs n) t
  | 0, _ => fun _ _ _ _ _ _ _ _ _ _ _ _ _ _ _ _ _ _ _ _ _ _ _ _ _ => trivial
  | n + 1, t => by
    intro now pln way tri tpl pad his slo Mst Mhi Mhn Msl Msv Mpd Mln Mat Mit Mvf Mdn Mlf Mar Msa Msm Mso rel
    have rok : RecOK (lawL xs n) (t + 1) := law_ok xs n (t + 1)
    show lawF xs (lawL xs n) t now pln way tri tpl pad his slo Mst Mhi Mhn Msl Msv Mpd Mln Mat Mit Mvf Mdn Mlf Mar Msa Msm Mso
    exact ⟨fun _ => law0 rok rel, fun _ => law1 rok rel, fun _ => law2 rok rel, fun _ => law3 rok rel, fun _ => law4 rok rel, fun _ => law5 rok rel, fun _ => law6 rok rel, fun _ => law7 rok rel, fun _ => law8 rok rel, fun _ => law9 rok rel, fun _ => law10 rok rel, fun _ => law11 rok rel, fun _ => law12 rok rel, fun _ => law13 rok rel, fun _ => law14 rok rel, fun _ => law15 rok rel, fun _ => law16 rok rel, fun _ => law17 rok rel, fun _ => law18 rok rel, fun _ => law19 rok rel, fun _ => law20 rok rel, fun _ => law21 rok rel, fun _ => law22 rok rel, fun _ => law23 rok rel, fun _ => rok _ _ _ _ _ _ _ _ _ _ _ _ _ _ _ _ _ _ _ _ _ _ _ _ rel⟩
theorem law_all : lawOpen := fun xs L _ => law_ok xs (L / 5) 0 _ _ _ _ _ _ _ _ _ _ _ _ _ _ _ _ _ _ _ _ _ _ _ _ rel0
