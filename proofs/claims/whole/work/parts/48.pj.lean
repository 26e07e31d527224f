/-! ===== what is told of a rider ===== -/
theorem X_minuteAt {P : Int32 → Prop} {σ : StT} {R : Nat} (hR : R ≤ 24) {b : BT} {van n r : Nat} {ky wp mi : Nat → Int32} (s : ST σ b van R n ky wp) (hr : r < R) (hb : b.1 r = some van)
    (h : ∀ p, p < n → ky p = kyS σ r → P (mi p)) : wp_X4_minuteAt P (mkWy ky wp mi (nI n)) (kyS σ r) := by
  have hn := s.le
  obtain ⟨j, hj, ej⟩ := s.all r hr hb
  have ej2 : (ky j).toInt = (kyS σ r).toInt := by rw [ej]
  refine X_place (w := mkWy ky wp mi (nI n)) (by omega) rfl (fun p hp h1 h2 => ?_)
  have h1 : ∀ j, j < p → (ky j).toInt < (kyS σ r).toInt := h1
  have h2 : p < n → (kyS σ r).toInt ≤ (ky p).toInt := h2
  have hjp : p ≤ j := by
    rcases Nat.lt_or_ge j p with c | c
    · have := h1 j c; omega
    · exact c
  have e : p = j := by
    rcases Nat.lt_or_ge p j with c | c
    · have := s.inc p j c hj; have := h2 (by omega); omega
    · omega
  subst e
  refine z_n (show ¬ nI n ≤ nI p from by rw [z_leN (by omega) (by omega)]; omega) ⟨z_in (by omega) (by omega), ?_⟩
  rw [z_cl (by omega)]; exact h p hj ej
theorem M_minuteAt {P : Int32 → (Nat → Int32) → (Nat → Int32) → Int32 → Prop} {σ : StT} {R : Nat} {M Mvf Msa0 Msm0 : Nat → Int32} {Mso0 : Int32} (V : SV σ R) (m : SM σ R M) {o : Nat → Nat} (hv : ∀ r, r < R → Mvf r = enc ((bdS σ o R).1 r)) {van n r : Nat} (hvan : van < 8) {ky wp : Nat → Int32} (s : ST σ (bdS σ o R) van R n ky wp) (hr : r < R) (hb : (bdS σ o R).1 r = some van)
    (h : ∀ p Msa Msm, p < n → ky p = kyS σ r → P (mnS (σ.le van) ky p) Msa Msm (nI n)) : wp_X6_minuteAt P M Mvf Msa0 Msm0 Mso0 (nI van) (kyS σ r) := by
  have hR := V.hR
  have hn := s.le
  obtain ⟨j, hj, ej⟩ := s.all r hr hb
  refine M_layStops V m hv hvan s (fun Msa Msm ha hm => ?_)
  have main : ∀ d q, q + d = j → wp_X6_minuteAt_7 P M Mvf (nI van) (kyS σ r) Msa Msm (nI n) (d + 1) (nI q) := by
    intro d
    induction d with
    | zero =>
      intro q hq
      have e : q = j := by omega
      subst e
      refine ⟨z_in (by omega) (by omega), ?_⟩
      rw [z_cl (by omega), ha q hj, ej, hm q hj]
      exact z_y rfl ⟨z_in (by omega) (by omega), h q _ _ hj ej⟩
    | succ d ih =>
      intro q hq
      refine ⟨z_in (by omega) (by omega), ?_⟩
      rw [z_cl (by omega), ha q (by omega), ← ej, z_s]
      have := s.inc q j (by omega) hj
      refine z_n (fun e => by rw [e] at this; omega) ?_
      rw [ej]; exact ih (q + 1) (by omega)
  exact ⟨j + 1, main j 0 (by omega)⟩
theorem ST.uniq {σ : StT} {b : BT} {van k n : Nat} {ky wp : Nat → Int32} (s : ST σ b van k n ky wp) {p q : Nat} (hp : p < n) (hq : q < n) (e : ky p = ky q) : p = q := by
  rcases Nat.lt_trichotomy p q with c | c | c
  · have := s.inc p q c hq; rw [e] at this; omega
  · exact c
  · have := s.inc q p c hp; rw [e] at this; omega
/-- how many others share the stop -/
def otS (σ : StT) (b : BT) (r : Nat) : Nat → Int32
  | 0 => 0
  | k + 1 => if k = r then otS σ b r k else if shS σ b true r k = true then otS σ b r k + 1 else otS σ b r k
theorem X_others {P : Int32 → Prop} {σ : StT} {R : Nat} (V : SV σ R) {o : Nat → Nat} {pl : PlT} (hv : ∀ r, r < R → pl.vn r = enc ((bdS σ o R).1 r)) {r v : Nat} (hr : r < R) (hb : (bdS σ o R).1 r = some v) (h : P (otS σ (bdS σ o R) r R)) : wp_X2_othersAtStop P pl σ (nI r) := by
  have hR := V.hR
  have hv8 := bdV hb
  refine ⟨z_in (by omega) (by omega), ?_⟩
  rw [z_cl (by omega), hv r hr, hb]
  refine z_n' (z_106 v (by omega)) ?_
  refine z_up (fun n k => wp_X2_othersAtStop_18 P pl σ (nI r) n (otS σ (bdS σ o R) r k) (nI k)) R (fun n => ?_) (fun n k hk ih => ?_) 0 (by omega)
  · exact z_y (by rw [V.ri, z_leN (by omega) (by omega)]; omega) h
  · refine z_n (by rw [V.ri, z_leN (by omega) (by omega)]; omega) ?_
    rw [z_s]
    by_cases c : k = r
    · have e1 : otS σ (bdS σ o R) r (k + 1) = otS σ (bdS σ o R) r k := by simp [otS, c]
      rw [e1] at ih
      exact z_y (by rw [c]) ih
    · refine z_n (by rw [z_eqN (by omega) (by omega)]; exact c) (X_shares V hv hr hk true ?_)
      cases e : shS σ (bdS σ o R) true r k with
      | false =>
        have e1 : otS σ (bdS σ o R) r (k + 1) = otS σ (bdS σ o R) r k := by simp [otS, c, e]
        rw [e1] at ih; exact z_f' ih
      | true =>
        have e1 : otS σ (bdS σ o R) r (k + 1) = otS σ (bdS σ o R) r k + 1 := by simp [otS, c, e]
        rw [e1] at ih; exact z_t' ih
theorem M_sharing {P : Int32 → Prop} {σ : StT} {R : Nat} {M Mvf : Nat → Int32} (V : SV σ R) (m : SM σ R M) {o : Nat → Nat} (hv : ∀ r, r < R → Mvf r = enc ((bdS σ o R).1 r)) {r : Nat} (hr : r < R) (h : P (otS σ (bdS σ o R) r R)) : wp_X6_sharing P M Mvf (nI r) := by
  have hR := V.hR
  refine z_up (fun n k => wp_X6_sharing_4 P M Mvf (nI r) n (otS σ (bdS σ o R) r k) (nI k)) R (fun n => ?_) (fun n k hk ih => ?_) 0 (by omega)
  · exact z_y (by rw [z_c33, m.ri, z_leN (by omega) (by omega)]; omega) h
  · refine z_n (by rw [z_c33, m.ri, z_leN (by omega) (by omega)]; omega) ?_
    rw [z_s, z_a0]
    by_cases c : k = r
    · have e1 : otS σ (bdS σ o R) r (k + 1) = otS σ (bdS σ o R) r k := by simp [otS, c]
      rw [e1] at ih
      exact z_y (by rw [c]) ih
    · refine z_n (by rw [z_eqN (by omega) (by omega)]; exact c) (M_with V m hv hr hk true ?_)
      cases e : shS σ (bdS σ o R) true r k with
      | false =>
        have e1 : otS σ (bdS σ o R) r (k + 1) = otS σ (bdS σ o R) r k := by simp [otS, c, e]
        rw [e1] at ih; exact z_f' ih
      | true =>
        have e1 : otS σ (bdS σ o R) r (k + 1) = otS σ (bdS σ o R) r k + 1 := by simp [otS, c, e]
        rw [e1] at ih; exact z_t' ih
theorem X_wait {P : Int32 → Prop} {σ : StT} {R : Nat} (V : SV σ R) {o : Nat → Nat} {pl : PlT} (hv : ∀ r, r < R → pl.vn r = enc ((bdS σ o R).1 r)) (hd : ∀ r, r < R → pl.rd r = rdS σ r) {r : Nat} (hr : r < R) (h0 : (bdS σ o R).1 r = none → P (-106)) (h1 : ∀ v, (bdS σ o R).1 r = some v → P (σ.le v - rdS σ r)) : wp_X2_waitOf P pl σ (nI r) := by
  have hR := V.hR
  refine ⟨z_in (by omega) (by omega), ?_⟩
  rw [z_cl (by omega), hv r hr, hd r hr]
  cases g : (bdS σ o R).1 r with
  | none => exact Xv_f (by rw [z_is_iff (by omega)]; decide) (z_f' (h0 g))
  | some v =>
    have hv8 := bdV g
    have ev : (enc (some v)).toNatClampNeg = v := z_cl (by omega)
    refine Xv_t ⟨v, hv8, rfl⟩ (z_t' ⟨z_in hv8 (by omega), z_in (by omega) (by omega), ?_⟩)
    rw [ev]; exact h1 v g

theorem law8 {xs : Nat → Int32} {rec : RecT} {t : Nat} (rok : RecOK rec (t + 1)) {now pln way tri tpl pad his slo Mst Mhi Mhn Msl Msv Mpd Mln Mat Mit Mvf Mdn Mlf Mar Msa Msm Mso} (rel : Rel now pln pad his slo Mst Mhi Mhn Msl Msv Mpd Mln) : lawC8 xs rec t now pln way tri tpl pad his slo Mst Mhi Mhn Msl Msv Mpd Mln Mat Mit Mvf Mdn Mlf Mar Msa Msm Mso := by
  obtain ⟨⟨R, o, V, m, X⟩, ⟨K, hn, f, H, hg⟩, pr, sl⟩ := id rel
  have hR := V.hR
  unfold lawC8
  generalize xs (5 * t + 1) = x1
  generalize xs (5 * t + 2) = x2
  by_cases c1 : z_is x1 R
  · obtain ⟨r, hr, rfl⟩ := id c1
    have cr : (nI r).toNatClampNeg = r := z_cl (by omega)
    have ir : vp_in (nI r) 24 := z_in (by omega) (by omega)
    refine Xr_t V c1 (z_t ⟨fun e => ?_, fun e => ?_, fun e => ?_, fun e => ?_, fun e => ?_, fun e => ?_, fun e => ?_, fun e => ?_, fun e => ?_, fun e => ?_, fun e => ?_⟩)
    · subst e
      rw [cr]
      exact ⟨ir, Mr_t V m c1 (z_t (M_lay V m X.ord (fun Mvf' Mdn' Mlf' Mar' mp => ⟨ir, ⟨fun _ => ⟨fun _ => M_of0 V m hr ⟨rfl, rok _ _ _ _ _ _ _ _ _ _ _ _ _ _ _ _ _ _ _ _ _ _ _ _ rel⟩, fun e => absurd e (by decide), fun e => absurd e (by decide), fun e => absurd e (by decide), fun e => absurd e (by decide), fun e => absurd e (by decide), fun e => absurd e (by decide), fun e => absurd e (by decide), fun e => absurd e (by decide), fun e => absurd e (by decide), fun e => absurd rfl e.1⟩, fun _ => ⟨fun _ => M_of0 V m hr ⟨rfl, rok _ _ _ _ _ _ _ _ _ _ _ _ _ _ _ _ _ _ _ _ _ _ _ _ rel⟩, fun e => absurd e (by decide), fun e => absurd e (by decide), fun e => absurd e (by decide), fun e => absurd e (by decide), fun e => absurd e (by decide), fun e => absurd e (by decide), fun e => absurd e (by decide), fun e => absurd e (by decide), fun e => absurd e (by decide), fun e => absurd rfl e.1⟩⟩⟩)))⟩
    · subst e
      rw [cr]
      exact ⟨ir, Mr_t V m c1 (z_t (M_lay V m X.ord (fun Mvf' Mdn' Mlf' Mar' mp => ⟨ir, ⟨fun _ => ⟨fun e => absurd e (by decide), fun _ => M_of1 V m hr ⟨rfl, rok _ _ _ _ _ _ _ _ _ _ _ _ _ _ _ _ _ _ _ _ _ _ _ _ rel⟩, fun e => absurd e (by decide), fun e => absurd e (by decide), fun e => absurd e (by decide), fun e => absurd e (by decide), fun e => absurd e (by decide), fun e => absurd e (by decide), fun e => absurd e (by decide), fun e => absurd e (by decide), fun e => absurd rfl e.2.1⟩, fun _ => ⟨fun e => absurd e (by decide), fun _ => M_of1 V m hr ⟨rfl, rok _ _ _ _ _ _ _ _ _ _ _ _ _ _ _ _ _ _ _ _ _ _ _ _ rel⟩, fun e => absurd e (by decide), fun e => absurd e (by decide), fun e => absurd e (by decide), fun e => absurd e (by decide), fun e => absurd e (by decide), fun e => absurd e (by decide), fun e => absurd e (by decide), fun e => absurd e (by decide), fun e => absurd rfl e.2.1⟩⟩⟩)))⟩
    · subst e
      rw [cr]
      exact ⟨ir, Mr_t V m c1 (z_t (M_lay V m X.ord (fun Mvf' Mdn' Mlf' Mar' mp => ⟨ir, ⟨fun _ => ⟨fun e => absurd e (by decide), fun e => absurd e (by decide), fun _ => M_of2 V m hr ⟨rfl, rok _ _ _ _ _ _ _ _ _ _ _ _ _ _ _ _ _ _ _ _ _ _ _ _ rel⟩, fun e => absurd e (by decide), fun e => absurd e (by decide), fun e => absurd e (by decide), fun e => absurd e (by decide), fun e => absurd e (by decide), fun e => absurd e (by decide), fun e => absurd e (by decide), fun e => absurd rfl e.2.2.1⟩, fun _ => ⟨fun e => absurd e (by decide), fun e => absurd e (by decide), fun _ => M_of2 V m hr ⟨rfl, rok _ _ _ _ _ _ _ _ _ _ _ _ _ _ _ _ _ _ _ _ _ _ _ _ rel⟩, fun e => absurd e (by decide), fun e => absurd e (by decide), fun e => absurd e (by decide), fun e => absurd e (by decide), fun e => absurd e (by decide), fun e => absurd e (by decide), fun e => absurd e (by decide), fun e => absurd rfl e.2.2.1⟩⟩⟩)))⟩
    · subst e
      rw [cr]
      exact ⟨ir, Mr_t V m c1 (z_t (M_lay V m X.ord (fun Mvf' Mdn' Mlf' Mar' mp => ⟨ir, ⟨fun _ => ⟨fun e => absurd e (by decide), fun e => absurd e (by decide), fun e => absurd e (by decide), fun _ => M_of3 V m hr ⟨rfl, rok _ _ _ _ _ _ _ _ _ _ _ _ _ _ _ _ _ _ _ _ _ _ _ _ rel⟩, fun e => absurd e (by decide), fun e => absurd e (by decide), fun e => absurd e (by decide), fun e => absurd e (by decide), fun e => absurd e (by decide), fun e => absurd e (by decide), fun e => absurd rfl e.2.2.2.1⟩, fun _ => ⟨fun e => absurd e (by decide), fun e => absurd e (by decide), fun e => absurd e (by decide), fun _ => M_of3 V m hr ⟨rfl, rok _ _ _ _ _ _ _ _ _ _ _ _ _ _ _ _ _ _ _ _ _ _ _ _ rel⟩, fun e => absurd e (by decide), fun e => absurd e (by decide), fun e => absurd e (by decide), fun e => absurd e (by decide), fun e => absurd e (by decide), fun e => absurd e (by decide), fun e => absurd rfl e.2.2.2.1⟩⟩⟩)))⟩
    · subst e
      exact X_rr V hr (Mr_t V m c1 (z_t (M_lay V m X.ord (fun Mvf' Mdn' Mlf' Mar' mp => ⟨ir, ⟨fun _ => ⟨fun e => absurd e (by decide), fun e => absurd e (by decide), fun e => absurd e (by decide), fun e => absurd e (by decide), fun _ => M_rd V m hr ⟨rfl, rok _ _ _ _ _ _ _ _ _ _ _ _ _ _ _ _ _ _ _ _ _ _ _ _ rel⟩, fun e => absurd e (by decide), fun e => absurd e (by decide), fun e => absurd e (by decide), fun e => absurd e (by decide), fun e => absurd e (by decide), fun e => absurd rfl e.2.2.2.2.1⟩, fun _ => ⟨fun e => absurd e (by decide), fun e => absurd e (by decide), fun e => absurd e (by decide), fun e => absurd e (by decide), fun _ => M_rd V m hr ⟨rfl, rok _ _ _ _ _ _ _ _ _ _ _ _ _ _ _ _ _ _ _ _ _ _ _ _ rel⟩, fun e => absurd e (by decide), fun e => absurd e (by decide), fun e => absurd e (by decide), fun e => absurd e (by decide), fun e => absurd e (by decide), fun e => absurd rfl e.2.2.2.2.1⟩⟩⟩))))
    · subst e
      rw [cr]
      refine ⟨ir, Mr_t V m c1 (z_t (M_lay V m X.ord (fun Mvf' Mdn' Mlf' Mar' mp => ⟨ir, ?_⟩)))⟩
      rw [cr]
      exact ⟨fun _ => ⟨fun e => absurd e (by decide), fun e => absurd e (by decide), fun e => absurd e (by decide), fun e => absurd e (by decide), fun e => absurd e (by decide), fun _ => ⟨ir, ⟨(X.vn r hr).trans ((congrArg Mvf' cr).trans (mp.vf r hr)).symm, rok _ _ _ _ _ _ _ _ _ _ _ _ _ _ _ _ _ _ _ _ _ _ _ _ rel⟩⟩, fun e => absurd e (by decide), fun e => absurd e (by decide), fun e => absurd e (by decide), fun e => absurd e (by decide), fun e => absurd rfl e.2.2.2.2.2.1⟩, fun _ => ⟨fun e => absurd e (by decide), fun e => absurd e (by decide), fun e => absurd e (by decide), fun e => absurd e (by decide), fun e => absurd e (by decide), fun _ => ⟨ir, ⟨(X.vn r hr).trans ((congrArg Mvf' cr).trans (mp.vf r hr)).symm, rok _ _ _ _ _ _ _ _ _ _ _ _ _ _ _ _ _ _ _ _ _ _ _ _ rel⟩⟩, fun e => absurd e (by decide), fun e => absurd e (by decide), fun e => absurd e (by decide), fun e => absurd e (by decide), fun e => absurd rfl e.2.2.2.2.2.1⟩⟩
    · subst e
      refine X_wait V X.vn X.rd hr (fun g => ?_) (fun v g => ?_)
      · refine Mr_t V m c1 (z_t (M_lay V m X.ord (fun Mvf' Mdn' Mlf' Mar' mp => ⟨ir, ?_⟩)))
        rw [cr, mp.vf r hr, g]
        exact z_y' rfl ⟨fun e => absurd e (by decide), fun e => absurd e (by decide), fun e => absurd e (by decide), fun e => absurd e (by decide), fun e => absurd e (by decide), fun e => absurd e (by decide), fun _ => z_n z_10 ⟨rfl, rok _ _ _ _ _ _ _ _ _ _ _ _ _ _ _ _ _ _ _ _ _ _ _ _ rel⟩, fun e => absurd e (by decide), fun e => absurd e (by decide), fun e => absurd e (by decide), fun e => absurd rfl e.2.2.2.2.2.2.1⟩
      · have hv8 := bdV g
        have e17 : (17 : Int32) + nI v = nI (17 + v) := z_a 17 v
        refine Mr_t V m c1 (z_t (M_lay V m X.ord (fun Mvf' Mdn' Mlf' Mar' mp => ⟨ir, ?_⟩)))
        rw [cr, mp.vf r hr, g]
        refine z_n' (z_106 v (by omega)) ⟨fun e => absurd e (by decide), fun e => absurd e (by decide), fun e => absurd e (by decide), fun e => absurd e (by decide), fun e => absurd e (by decide), fun e => absurd e (by decide), fun _ => z_y rfl ?_, fun e => absurd e (by decide), fun e => absurd e (by decide), fun e => absurd e (by decide), fun e => absurd rfl e.2.2.2.2.2.2.1⟩
        refine ⟨ir, z_y' rfl ?_⟩
        rw [cr, mp.vf r hr, g]
        show vp_in ((17 : Int32) + nI v) 130 ∧ wp_X6_ready (fun r_11 => _ = Mst ((17 : Int32) + nI v).toNatClampNeg - r_11 ∧ _) Mst (nI r)
        rw [e17, z_cl (n := 17 + v) (by omega), m.le v hv8]
        exact ⟨z_in (by omega) (by omega), M_rd V m hr ⟨rfl, rok _ _ _ _ _ _ _ _ _ _ _ _ _ _ _ _ _ _ _ _ _ _ _ _ rel⟩⟩
    · subst e
      refine ⟨ir, ?_⟩
      rw [cr, X.vn r hr]
      cases g : (bdS now o R).1 r with
      | none =>
        refine Xv_f (by rw [z_is_iff (by omega)]; decide) (z_f ?_)
        refine Mr_t V m c1 (z_t (M_lay V m X.ord (fun Mvf' Mdn' Mlf' Mar' mp => ⟨ir, ?_⟩)))
        rw [cr, mp.vf r hr, g]
        exact z_y' rfl ⟨fun e => absurd e (by decide), fun e => absurd e (by decide), fun e => absurd e (by decide), fun e => absurd e (by decide), fun e => absurd e (by decide), fun e => absurd e (by decide), fun e => absurd e (by decide), fun _ => z_n z_10 ⟨rfl, rok _ _ _ _ _ _ _ _ _ _ _ _ _ _ _ _ _ _ _ _ _ _ _ _ rel⟩, fun e => absurd e (by decide), fun e => absurd e (by decide), fun e => absurd rfl e.2.2.2.2.2.2.2.1⟩
      | some v =>
        have hv8 := bdV g
        refine Xv_t ⟨v, hv8, rfl⟩ (z_t (X_follow V X.vn hv8 (fun n ky wp mi s hm => X_key V hr (X_minuteAt hR s hr g (fun p hp ep => ?_)))))
        refine Mr_t V m c1 (z_t (M_lay V m X.ord (fun Mvf' Mdn' Mlf' Mar' mp => ⟨ir, ?_⟩)))
        rw [cr, mp.vf r hr, g]
        refine z_n' (z_106 v (by omega)) ⟨fun e => absurd e (by decide), fun e => absurd e (by decide), fun e => absurd e (by decide), fun e => absurd e (by decide), fun e => absurd e (by decide), fun e => absurd e (by decide), fun e => absurd e (by decide), fun _ => z_y rfl ?_, fun e => absurd e (by decide), fun e => absurd e (by decide), fun e => absurd rfl e.2.2.2.2.2.2.2.1⟩
        refine ⟨ir, z_n' (by decide) (z_y' rfl (M_key V m hr ?_))⟩
        rw [cr, mp.vf r hr, g]
        refine M_minuteAt V m mp.vf hv8 s hr g (fun q Msa' Msm' hq eq => ?_)
        have epq := s.uniq hp hq (ep.trans eq.symm)
        subst epq
        exact ⟨hm p hp, rok _ _ _ _ _ _ _ _ _ _ _ _ _ _ _ _ _ _ _ _ _ _ _ _ rel⟩
    · subst e
      exact X_fare V X.vn hr (Mr_t V m c1 (z_t (M_lay V m X.ord (fun Mvf' Mdn' Mlf' Mar' mp => ⟨ir, ⟨fun _ => ⟨fun e => absurd e (by decide), fun e => absurd e (by decide), fun e => absurd e (by decide), fun e => absurd e (by decide), fun e => absurd e (by decide), fun e => absurd e (by decide), fun e => absurd e (by decide), fun e => absurd e (by decide), fun _ => M_fare V m mp.vf hr ⟨rfl, rok _ _ _ _ _ _ _ _ _ _ _ _ _ _ _ _ _ _ _ _ _ _ _ _ rel⟩, fun e => absurd e (by decide), fun e => absurd rfl e.2.2.2.2.2.2.2.2.1⟩, fun _ => ⟨fun e => absurd e (by decide), fun e => absurd e (by decide), fun e => absurd e (by decide), fun e => absurd e (by decide), fun e => absurd e (by decide), fun e => absurd e (by decide), fun e => absurd e (by decide), fun e => absurd e (by decide), fun _ => M_fare V m mp.vf hr ⟨rfl, rok _ _ _ _ _ _ _ _ _ _ _ _ _ _ _ _ _ _ _ _ _ _ _ _ rel⟩, fun e => absurd e (by decide), fun e => absurd rfl e.2.2.2.2.2.2.2.2.1⟩⟩⟩))))
    · subst e
      cases g : (bdS now o R).1 r with
      | none =>
        refine ⟨ir, ?_⟩
        rw [cr, X.vn r hr, g]
        refine z_y' rfl ?_
        refine Mr_t V m c1 (z_t (M_lay V m X.ord (fun Mvf' Mdn' Mlf' Mar' mp => ⟨ir, ?_⟩)))
        rw [cr, mp.vf r hr, g]
        exact z_y' rfl ⟨fun e => absurd e (by decide), fun e => absurd e (by decide), fun e => absurd e (by decide), fun e => absurd e (by decide), fun e => absurd e (by decide), fun e => absurd e (by decide), fun e => absurd e (by decide), fun e => absurd e (by decide), fun e => absurd e (by decide), fun _ => z_n z_10 ⟨rfl, rok _ _ _ _ _ _ _ _ _ _ _ _ _ _ _ _ _ _ _ _ _ _ _ _ rel⟩, fun e => absurd rfl e.2.2.2.2.2.2.2.2.2⟩
      | some v =>
        have hv8 := bdV g
        refine X_others V X.vn hr g ?_
        refine Mr_t V m c1 (z_t (M_lay V m X.ord (fun Mvf' Mdn' Mlf' Mar' mp => ⟨ir, ?_⟩)))
        rw [cr, mp.vf r hr, g]
        refine z_n' (z_106 v (by omega)) ⟨fun e => absurd e (by decide), fun e => absurd e (by decide), fun e => absurd e (by decide), fun e => absurd e (by decide), fun e => absurd e (by decide), fun e => absurd e (by decide), fun e => absurd e (by decide), fun e => absurd e (by decide), fun e => absurd e (by decide), fun _ => z_y rfl ?_, fun e => absurd rfl e.2.2.2.2.2.2.2.2.2⟩
        exact ⟨ir, z_n' (by decide) (z_n' (by decide) (M_sharing V m mp.vf hr ⟨rfl, rok _ _ _ _ _ _ _ _ _ _ _ _ _ _ _ _ _ _ _ _ _ _ _ _ rel⟩))⟩
    · have hd := e
      exact Mr_t V m c1 (z_t (M_lay V m X.ord (fun Mvf' Mdn' Mlf' Mar' mp => ⟨ir, ⟨fun _ => ⟨fun e => absurd e hd.1, fun e => absurd e hd.2.1, fun e => absurd e hd.2.2.1, fun e => absurd e hd.2.2.2.1, fun e => absurd e hd.2.2.2.2.1, fun e => absurd e hd.2.2.2.2.2.1, fun e => absurd e hd.2.2.2.2.2.2.1, fun e => absurd e hd.2.2.2.2.2.2.2.1, fun e => absurd e hd.2.2.2.2.2.2.2.2.1, fun e => absurd e hd.2.2.2.2.2.2.2.2.2, fun _ => ⟨rfl, rok _ _ _ _ _ _ _ _ _ _ _ _ _ _ _ _ _ _ _ _ _ _ _ _ rel⟩⟩, fun _ => ⟨fun e => absurd e hd.1, fun e => absurd e hd.2.1, fun e => absurd e hd.2.2.1, fun e => absurd e hd.2.2.2.1, fun e => absurd e hd.2.2.2.2.1, fun e => absurd e hd.2.2.2.2.2.1, fun e => absurd e hd.2.2.2.2.2.2.1, fun e => absurd e hd.2.2.2.2.2.2.2.1, fun e => absurd e hd.2.2.2.2.2.2.2.2.1, fun e => absurd e hd.2.2.2.2.2.2.2.2.2, fun _ => ⟨rfl, rok _ _ _ _ _ _ _ _ _ _ _ _ _ _ _ _ _ _ _ _ _ _ _ _ rel⟩⟩⟩⟩)))
  · exact Xr_f V c1 (z_f (Mr_f V m c1 (z_f ⟨rfl, rok _ _ _ _ _ _ _ _ _ _ _ _ _ _ _ _ _ _ _ _ _ _ _ _ rel⟩)))
