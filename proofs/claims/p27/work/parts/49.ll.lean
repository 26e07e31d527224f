/-! ===== the law from its start ===== -/
theorem q0_le : ∀ v, v < 8 → ((60 : Int32) * nI v) + (60 : Int32) = x0_now.le v := by decide +kernel
theorem q0_sa : ∀ v, v < 8 → (6 : Int32) = x0_now.sa v := by decide +kernel
theorem q0_la : ∀ f, f < 6 → (60 : Int32) * nI f = x0_now.la f := by decide +kernel
theorem q0_se : ∀ j, j < 5 → (upd (upd (upd (upd (upd (fun _ => (0 : Int32)) 0 (30 : Int32)) 1 (60 : Int32)) 2 (3 : Int32)) 3 (60 : Int32)) 4 (6 : Int32)) j = x0_now.se j := by decide +kernel
theorem q0_de : ∀ f, f < 6 → (upd (upd (upd (upd (upd (fun _ => (0 : Int32)) 0 (30 : Int32)) 1 (60 : Int32)) 2 (3 : Int32)) 3 (60 : Int32)) 4 (6 : Int32)) (12 + f) = 0 := by decide +kernel
def QA (k : Nat) (q : Nat → Int32) : Prop := (∀ j, j < 5 → q j = x0_now.se j) ∧ q 5 = 0 ∧ (∀ f, f < 6 → q (12 + f) = 0) ∧ (∀ v, v < k → q (18 + v) = x0_now.le v) ∧ (∀ v, v < k → q (26 + v) = x0_now.sa v)
theorem sv0 : SV x0_now 0 := by
  have h : (∀ f, f < 6 → 0 ≤ (x0_now.la f).toInt ∧ (x0_now.la f).toInt ≤ 1200) ∧ (∀ f, f < 6 → -30 ≤ (x0_now.de f).toInt ∧ (x0_now.de f).toInt ≤ 300) ∧ (∀ v, v < 8 → 0 ≤ (x0_now.le v).toInt ∧ (x0_now.le v).toInt ≤ 1500) ∧ (∀ v, v < 8 → 0 ≤ (x0_now.sa v).toInt ∧ (x0_now.sa v).toInt ≤ 12) := by decide +kernel
  exact ⟨rfl, by omega, by decide +kernel, by decide +kernel, by decide +kernel, by decide +kernel, by decide +kernel, h.1, h.2.1, h.2.2.1, h.2.2.2, fun r hr => absurd hr (by omega), fun r hr => absurd hr (by omega), fun r hr => absurd hr (by omega), fun r hr => absurd hr (by omega)⟩
theorem xr0 : XR x0_now 0 x0_pln := ⟨fun _ => 0, ⟨fun k hk => absurd hk (by omega), fun j k _ hk => absurd hk (by omega), fun r hr => absurd hr (by omega)⟩, fun r hr => absurd hr (by omega), fun r hr => absurd hr (by omega), fun v hv => rfl, fun v hv => rfl, rfl, rfl, rfl⟩
theorem iv0 {q r w : Nat → Int32} (h : QA 8 q) (h2 : ∀ f, f < 6 → q (6 + f) = x0_now.la f) : IV x0_now x0_pln x0_his q r w := by
  obtain ⟨a1, a2, a3, a4, a5⟩ := h
  exact ⟨0, fun _ => x0_now, 0, sv0, xr0, ⟨rfl, by omega, 0, by omega, rfl, fun i hi => absurd hi (by omega)⟩, fun i hi => absurd hi (by omega), ⟨a1, a2, h2, a3, a4, a5⟩, fun k hk => absurd hk (by omega), fun k hk => absurd hk (by omega)⟩
theorem law_turns (xs : Nat → Int32) (L : Nat) : ∃ n, ∀ (σ : StT) (pl : PlT) (y : WyT) (his : HiT) (q r w o g : Nat → Int32), IV σ pl his q r w → wp_L_law_131 lawP x0_now x0_pln x0_way x0_pad x0_his (fun _ => 0) (fun _ => 0) (fun _ => 0) (fun _ => 0) (fun _ => 0) xs L n (nI 0) σ.se σ.la σ.de σ.le σ.sa σ.fl σ.ar σ.dr σ.pe σ.ri pl.od pl.rd pl.vn pl.pn pl.ao pl.sr pl.sp pl.wt y.ky y.wp y.mi y.so his.hs his.ol his.sz q r w o g := by
  refine z_up (fun n k => ∀ (σ : StT) (pl : PlT) (y : WyT) (his : HiT) (q r w o g : Nat → Int32), IV σ pl his q r w → wp_L_law_131 lawP x0_now x0_pln x0_way x0_pad x0_his (fun _ => 0) (fun _ => 0) (fun _ => 0) (fun _ => 0) (fun _ => 0) xs L n (nI k) σ.se σ.la σ.de σ.le σ.sa σ.fl σ.ar σ.dr σ.pe σ.ri pl.od pl.rd pl.vn pl.pn pl.ao pl.sr pl.sp pl.wt y.ky y.wp y.mi y.so his.hs his.ol his.sz q r w o g) 40 (fun n => ?_) (fun n k hk ih => ?_) 0 (by omega)
  · intro σ pl y his q r w o g _
    exact z_y (by decide) (show (1 : Int32) = 1 from rfl)
  · intro σ pl y his q r w o g iv
    exact L_131 (rec := wp_L_law_131 lawP x0_now x0_pln x0_way x0_pad x0_his (fun _ => 0) (fun _ => 0) (fun _ => 0) (fun _ => 0) (fun _ => 0) xs L n) hk ih iv
theorem law_103 (xs : Nat → Int32) (L : Nat) {q : Nat → Int32} (hq : QA 8 q) : ∃ n, wp_L_law_103 lawP x0_now x0_pln x0_way x0_pad x0_his (fun _ => 0) (fun _ => 0) (fun _ => 0) (fun _ => 0) (fun _ => 0) xs L x0_now.se x0_now.la x0_now.de x0_now.le x0_now.sa x0_now.fl x0_now.ar x0_now.dr x0_now.pe x0_now.ri x0_pln.od x0_pln.rd x0_pln.vn x0_pln.pn x0_pln.ao x0_pln.sr x0_pln.sp x0_pln.wt x0_way.ky x0_way.wp x0_way.mi x0_way.so x0_his.hs x0_his.ol x0_his.sz (fun _ => 0) (fun _ => 0) (fun _ => 0) (fun _ => 0) n (0 : Int32) q := by
  suffices hh : ∃ n, ∀ q : Nat → Int32, (QA 8 q ∧ ∀ f, f < 0 → q (6 + f) = x0_now.la f) → wp_L_law_103 lawP x0_now x0_pln x0_way x0_pad x0_his (fun _ => 0) (fun _ => 0) (fun _ => 0) (fun _ => 0) (fun _ => 0) xs L x0_now.se x0_now.la x0_now.de x0_now.le x0_now.sa x0_now.fl x0_now.ar x0_now.dr x0_now.pe x0_now.ri x0_pln.od x0_pln.rd x0_pln.vn x0_pln.pn x0_pln.ao x0_pln.sr x0_pln.sp x0_pln.wt x0_way.ky x0_way.wp x0_way.mi x0_way.so x0_his.hs x0_his.ol x0_his.sz (fun _ => 0) (fun _ => 0) (fun _ => 0) (fun _ => 0) n (nI 0) q by
    obtain ⟨n, hn⟩ := hh
    exact ⟨n, hn q ⟨hq, fun f hf => absurd hf (by omega)⟩⟩
  refine z_up (fun n k => ∀ q : Nat → Int32, (QA 8 q ∧ ∀ f, f < k → q (6 + f) = x0_now.la f) → wp_L_law_103 lawP x0_now x0_pln x0_way x0_pad x0_his (fun _ => 0) (fun _ => 0) (fun _ => 0) (fun _ => 0) (fun _ => 0) xs L x0_now.se x0_now.la x0_now.de x0_now.le x0_now.sa x0_now.fl x0_now.ar x0_now.dr x0_now.pe x0_now.ri x0_pln.od x0_pln.rd x0_pln.vn x0_pln.pn x0_pln.ao x0_pln.sr x0_pln.sp x0_pln.wt x0_way.ky x0_way.wp x0_way.mi x0_way.so x0_his.hs x0_his.ol x0_his.sz (fun _ => 0) (fun _ => 0) (fun _ => 0) (fun _ => 0) n (nI k) q) 6 (fun n => ?_) (fun n k hk ih => ?_) 0 (by omega)
  · intro q h
    obtain ⟨m, hm⟩ := law_turns xs L
    exact z_y (by decide) ⟨m, hm x0_now x0_pln x0_way x0_his q _ _ _ _ (iv0 h.1 h.2)⟩
  · intro q h
    obtain ⟨⟨a1, a2, a3, a4, a5⟩, h2⟩ := h
    refine z_n (z_nle (n := 6) hk (by omega)) ?_
    rw [z_6, z_cl (by omega), z_s, q0_la k hk]
    refine ⟨z_in (by omega) (by omega), ih _ ⟨⟨fun j hj => ?_, ?_, fun f hf => ?_, fun v hv => ?_, fun v hv => ?_⟩, fun f hf => ?_⟩⟩
    · rw [z_un (by omega)]; exact a1 j hj
    · rw [z_un (by omega)]; exact a2
    · rw [z_un (by omega)]; exact a3 f hf
    · rw [z_un (by omega)]; exact a4 v hv
    · rw [z_un (by omega)]; exact a5 v hv
    · by_cases c : f = k
      · rw [c, z_us]
      · rw [z_un (by omega)]; exact h2 f (by omega)
theorem law_all : lawOpen := by
  intro xs L _
  suffices hh : ∃ n, ∀ q : Nat → Int32, QA 0 q → wp_L_law_63 lawP x0_now x0_pln x0_way x0_pad x0_his (fun _ => 0) (fun _ => 0) (fun _ => 0) (fun _ => 0) (fun _ => 0) xs L x0_now.se x0_now.la x0_now.de x0_now.le x0_now.sa x0_now.fl x0_now.ar x0_now.dr x0_now.pe x0_now.ri x0_pln.od x0_pln.rd x0_pln.vn x0_pln.pn x0_pln.ao x0_pln.sr x0_pln.sp x0_pln.wt x0_way.ky x0_way.wp x0_way.mi x0_way.so x0_his.hs x0_his.ol x0_his.sz (fun _ => 0) (fun _ => 0) (fun _ => 0) (fun _ => 0) n (nI 0) q by
    obtain ⟨n, hn⟩ := hh
    exact ⟨n, hn _ ⟨q0_se, rfl, q0_de, fun v hv => absurd hv (by omega), fun v hv => absurd hv (by omega)⟩⟩
  refine z_up (fun n k => ∀ q : Nat → Int32, QA k q → wp_L_law_63 lawP x0_now x0_pln x0_way x0_pad x0_his (fun _ => 0) (fun _ => 0) (fun _ => 0) (fun _ => 0) (fun _ => 0) xs L x0_now.se x0_now.la x0_now.de x0_now.le x0_now.sa x0_now.fl x0_now.ar x0_now.dr x0_now.pe x0_now.ri x0_pln.od x0_pln.rd x0_pln.vn x0_pln.pn x0_pln.ao x0_pln.sr x0_pln.sp x0_pln.wt x0_way.ky x0_way.wp x0_way.mi x0_way.so x0_his.hs x0_his.ol x0_his.sz (fun _ => 0) (fun _ => 0) (fun _ => 0) (fun _ => 0) n (nI k) q) 8 (fun n => ?_) (fun n k hk ih => ?_) 0 (by omega)
  · intro q h
    exact z_y (by decide) (law_103 xs L h)
  · intro q h
    obtain ⟨a1, a2, a3, a4, a5⟩ := h
    refine z_n (z_nle (n := 8) hk (by omega)) ?_
    rw [z_18, z_26, z_cl (by omega), z_cl (by omega), z_s, q0_le k hk, q0_sa k hk]
    refine ⟨z_in (by omega) (by omega), z_in (by omega) (by omega), ih _ ⟨fun j hj => ?_, ?_, fun f hf => ?_, fun v hv => ?_, fun v hv => ?_⟩⟩
    · rw [z_un (by omega), z_un (by omega)]; exact a1 j hj
    · rw [z_un (by omega), z_un (by omega)]; exact a2
    · rw [z_un (by omega), z_un (by omega)]; exact a3 f hf
    · rw [z_un (f := upd q (18 + k) (x0_now.le k)) (by omega)]
      by_cases c : v = k
      · rw [c, z_us]
      · rw [z_un (by omega)]; exact a4 v (by omega)
    · by_cases c : v = k
      · rw [c, z_us]
      · rw [z_un (by omega), z_un (by omega)]; exact a5 v (by omega)
