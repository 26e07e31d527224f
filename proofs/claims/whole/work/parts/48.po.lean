/-! ===== the order of a line is there, and there is only one ===== -/
theorem ex23 {Q : Prop} {pl : PlT} {σ : StT} {r2 : Int32 → (Nat → Int32) → (Nat → Int32) → Prop} (hr : ∀ a b c, r2 a b c → Q) {v2 : Int32} {rd : Nat → Int32} : ∀ (n : Nat) (v3 : Int32) (od : Nat → Int32), wp_X2_lineUp_23 (fun _ _ => Q) pl σ r2 v2 rd n v3 od → Q
  | 0, _, _, h => h.elim
  | n + 1, v3, od, h => by
    have h : wp_X2_lineUp_23F (fun _ _ => Q) pl σ r2 v2 rd (wp_X2_lineUp_23 (fun _ _ => Q) pl σ r2 v2 rd n) v3 od := h
    by_cases c : v3 ≤ 0
    · exact hr _ _ _ (h.1 c).2
    · have h2 := h.2 c
      by_cases d : (rd (od (v3 - (1 : Int32)).toNatClampNeg).toNatClampNeg) ≤ (rd v2.toNatClampNeg)
      · exact hr _ _ _ (h2.2.2.2.1 d).2
      · exact ex23 hr n _ _ (h2.2.2.2.2 d).2.2
theorem ex2 {Q : Prop} {pl : PlT} {σ : StT} : ∀ (n : Nat) (v2 : Int32) (od rd : Nat → Int32), wp_X2_lineUp_2 (fun _ _ => Q) pl σ n v2 od rd → Q
  | 0, _, _, _, h => h.elim
  | n + 1, v2, od, rd, h => by
    have h : wp_X2_lineUp_2F (fun _ _ => Q) pl σ (wp_X2_lineUp_2 (fun _ _ => Q) pl σ n) v2 od rd := h
    by_cases c : σ.ri ≤ v2
    · exact h.1 c
    · have h2 := h.2 c
      obtain ⟨-, -, -, -, m, h3⟩ := h2
      exact ex23 (fun a b c => ex2 n a b c) m _ _ h3
theorem ord_ex {σ : StT} {R : Nat} (V : SV σ R) : ∃ o, IsOrd (rdS σ) R o := by
  have h : wp_X2_lineUp (fun _ _ => ∃ o, IsOrd (rdS σ) R o) x0_pln σ := X_lineUp V (fun od rd o ho _ _ => ⟨o, ho⟩)
  obtain ⟨n, hn⟩ := h
  exact ex2 n _ _ _ hn
theorem ord_le {f : Nat → Int32} {R : Nat} {o o' : Nat → Nat} (h : IsOrd f R o) (h' : IsOrd f R o') {k : Nat} (hk : k < R) (ih : ∀ j, j < k → o j = o' j) : (f (o k)).toInt < (f (o' k)).toInt ∨ ((f (o k)).toInt = (f (o' k)).toInt ∧ o k ≤ o' k) := by
  obtain ⟨j, hj, e⟩ := h.sur (o' k) (h'.lt k hk)
  have hkj : k ≤ j := by
    rcases Nat.lt_or_ge j k with c | c
    · have := ih j c
      rw [e] at this
      have := h'.inj hk (by omega) this
      omega
    · exact c
  by_cases c : j = k
  · subst c; rw [e]; exact Or.inr ⟨rfl, Nat.le_refl _⟩
  · have := h.inc k j (by omega) hj
    rw [e] at this; omega
theorem ord_un {f : Nat → Int32} {R : Nat} {o o' : Nat → Nat} (h : IsOrd f R o) (h' : IsOrd f R o') : ∀ k, k < R → o k = o' k := by
  intro k
  induction k using Nat.strongRecOn with
  | ind k ih =>
    intro hk
    have a := ord_le h h' hk (fun j hj => ih j hj (by omega))
    have b := ord_le h' h hk (fun j hj => (ih j hj (by omega)).symm)
    omega
theorem bd_un {σ : StT} {R : Nat} {o o' : Nat → Nat} (h : ∀ k, k < R → o k = o' k) : ∀ k, k ≤ R → bdS σ o k = bdS σ o' k
  | 0, _ => rfl
  | k + 1, hk => by
    show stS σ (o k) (bdS σ o k) = stS σ (o' k) (bdS σ o' k)
    rw [bd_un h k (by omega), h k (by omega)]
/-- how many people a state strands -/
def Strands (σ : StT) (R : Nat) (x : Int32) : Prop := ∃ o, IsOrd (rdS σ) R o ∧ x = zS (g2 σ (bdS σ o R).1) R
theorem Strands.un {σ : StT} {R : Nat} {x y : Int32} (h : Strands σ R x) (h' : Strands σ R y) : x = y := by
  obtain ⟨o, ho, e⟩ := h
  obtain ⟨o', ho', e'⟩ := h'
  rw [e, e', bd_un (ord_un ho ho') R (Nat.le_refl R)]
def deD (σ : StT) (j : Nat) (x : Int32) : StT := mkSt σ.se σ.la (upd σ.de j x) σ.le σ.sa σ.fl σ.ar σ.dr σ.pe σ.ri
def mi30 (k : Nat) : Int32 := nI k + (-30 : Int32)
theorem mi30_i {k : Nat} (h : k ≤ 331) : (mi30 k).toInt = (k : Int) - 30 := by
  have e : (-30 : Int32).toInt = -30 := by decide
  have e2 := z_nI (n := k) (by omega)
  unfold mi30
  rw [z_add (by omega) (by omega), e, e2]; omega
theorem mi30_s (k : Nat) : mi30 k + 1 = mi30 (k + 1) := by
  unfold mi30
  rw [← z_s, Int32.add_assoc, Int32.add_comm (-30 : Int32) 1, ← Int32.add_assoc]
theorem mi30_p (k : Nat) : mi30 (k + 1) + (-1) = mi30 k := by
  rw [← mi30_s, Int32.add_assoc]
  exact z_a0 _
/-- delay k strands no more than now -/
def Dk (σ : StT) (R j : Nat) (now : Int32) (k : Nat) : Prop := ∃ x, Strands (deD σ j (mi30 k)) R x ∧ x ≤ now
theorem deD_V {σ : StT} {R : Nat} (V : SV σ R) {j k : Nat} (hk : k ≤ 330) : SV (deD σ j (mi30 k)) R := V.u_de (by rw [mi30_i (by omega)]; omega) (by rw [mi30_i (by omega)]; omega)
theorem X_most {P : Int32 → (Nat → Int32) → (Nat → Int32) → (Nat → Int32) → (Nat → Int32) → (Nat → Int32) → (Nat → Int32) → (Nat → Int32) → (Nat → Int32) → (Nat → Int32) → Int32 → (Nat → Int32) → (Nat → Int32) → (Nat → Int32) → (Nat → Int32) → (Nat → Int32) → Int32 → Int32 → Int32 → Prop} {σ : StT} {R : Nat} (V : SV σ R) {pln : PlT} {tri : StT} {tpl : PlT} {j : Nat} (hj : j < 6)
    (h : ∀ q, q ≤ 330 → (∀ i, q < i → i ≤ 330 → ¬ Dk σ R j pln.sp i) → (q = 0 ∨ Dk σ R j pln.sp q) → ∀ se la de le sa fl ar dr pe ri od rd vn pn ao sr sp wt, P (mi30 q) se la de le sa fl ar dr pe ri od rd vn pn ao sr sp wt) : ∃ n, wp_X5_mostDelay_25 P σ pln tri tpl (nI j) σ.se σ.la σ.le σ.sa σ.fl σ.ar σ.dr σ.pe σ.ri n 300 σ.de tpl.od tpl.rd tpl.vn tpl.pn tpl.ao tpl.sr tpl.sp tpl.wt := by
  have main : ∀ k, k ≤ 330 → (∀ i, k < i → i ≤ 330 → ¬ Dk σ R j pln.sp i) → ∀ x od rd vn pn ao sr sp wt, wp_X5_mostDelay_25 P σ pln tri tpl (nI j) σ.se σ.la σ.le σ.sa σ.fl σ.ar σ.dr σ.pe σ.ri (k + 1) (mi30 k) (upd σ.de j x) od rd vn pn ao sr sp wt := by
    intro k
    induction k with
    | zero =>
      intro hk hi x od rd vn pn ao sr sp wt
      exact z_y (by decide) (h 0 (by omega) hi (Or.inl rfl) _ _ _ _ _ _ _ _ _ _ _ _ _ _ _ _ _ _)
    | succ k ih =>
      intro hk hi x od rd vn pn ao sr sp wt
      have e30 : (-30 : Int32).toInt = -30 := by decide
      refine z_n (by rw [z_le, mi30_i (by omega), e30]; omega) ⟨z_in hj (by omega), ?_⟩
      rw [z_cl (by omega), upd_upd, mi30_p]
      refine X_make (σ := deD σ j (mi30 (k + 1))) (R := R) (deD_V V hk) (fun od' rd' vn' pn' ao' sr' sp' wt' o' hX => ?_)
      by_cases c : pln.sp < sp'
      · refine z_y c (ih (by omega) (fun i hi1 hi2 => ?_) _ _ _ _ _ _ _ _ _)
        by_cases g : i = k + 1
        · subst g
          rintro ⟨y, hy, hy2⟩
          have := hy.un ⟨o', hX.ord, hX.sp⟩
          rw [this, z_le] at hy2
          rw [z_lt] at c
          omega
        · exact hi i (by omega) hi2
      · refine z_n c (h (k + 1) hk hi (Or.inr ⟨sp', ⟨o', hX.ord, hX.sp⟩, ?_⟩) _ _ _ _ _ _ _ _ _ _ _ _ _ _ _ _ _ _)
        rw [z_le]; rw [z_lt] at c; omega
  have := main 330 (by omega) (fun i h1 h2 => absurd h1 (by omega)) (σ.de j) tpl.od tpl.rd tpl.vn tpl.pn tpl.ao tpl.sr tpl.sp tpl.wt
  rw [upd_id] at this
  exact ⟨_, this⟩
theorem M_most2 {P : Int32 → (Nat → Int32) → (Nat → Int32) → (Nat → Int32) → (Nat → Int32) → (Nat → Int32) → Prop} {σ : StT} {R : Nat} {M Mvf0 Mdn0 Mlf0 Mar0 : Nat → Int32} (V : SV σ R) (m : SM σ R M) {now : Int32} (hnow : Strands σ R now) {j : Nat} (hj : j < 6)
    (h : ∀ q, q ≤ 330 → (∀ i, q < i → i ≤ 330 → ¬ Dk σ R j now i) → Dk σ R j now q → ∀ Mvf Mdn Mlf Mar, P (mi30 q) M Mvf Mdn Mlf Mar) : ∃ n, wp_X6_mostDelay_36 P (nI j) now (M (11 + j)) n (M (11 + j)) (-30) M Mvf0 Mdn0 Mlf0 Mar0 := by
  have e11 : (11 : Int32) + nI j = nI (11 + j) := z_a 11 j
  have i11 : vp_in ((11 : Int32) + nI j) 130 := by rw [e11]; exact z_in (by omega) (by omega)
  have c11 : ((11 : Int32) + nI j).toNatClampNeg = 11 + j := by rw [e11]; exact z_cl (by omega)
  have e300 : (300 : Int32).toInt = 300 := by decide
  have hde := V.de j hj
  obtain ⟨h0, hh0, eh0⟩ : ∃ h0, h0 ≤ 330 ∧ σ.de j = mi30 h0 := by
    refine ⟨((σ.de j).toInt + 30).toNat, by omega, ?_⟩
    rw [z_eq, mi30_i (by omega)]; omega
  have D0 : Dk σ R j now h0 := by
    have e : deD σ j (mi30 h0) = σ := by
      rw [← eh0]
      show mkSt σ.se σ.la (upd σ.de j (σ.de j)) σ.le σ.sa σ.fl σ.ar σ.dr σ.pe σ.ri = σ
      rw [upd_id]; rfl
    refine ⟨now, by rw [e]; exact hnow, ?_⟩
    rw [z_le]; omega
  suffices hh : ∃ n, ∀ (q : Nat) (x : Int32) (Mvf Mdn Mlf Mar : Nat → Int32), q ≤ 330 → h0 ≤ q → Dk σ R j now q → (q = h0 ∨ q < 0) → (∀ i, q < i → i < 0 → ¬ Dk σ R j now i) → wp_X6_mostDelay_36 P (nI j) now (M (11 + j)) n (mi30 q) (mi30 0) (upd M (11 + j) x) Mvf Mdn Mlf Mar by
    obtain ⟨n, hn⟩ := hh
    have := hn h0 (M (11 + j)) Mvf0 Mdn0 Mlf0 Mar0 hh0 (Nat.le_refl _) D0 (Or.inl rfl) (fun i _ hi => absurd hi (by omega))
    rw [upd_id, ← eh0, ← m.de j hj] at this
    exact ⟨n, this⟩
  refine z_up (fun n k => ∀ (q : Nat) (x : Int32) (Mvf Mdn Mlf Mar : Nat → Int32), q ≤ 330 → h0 ≤ q → Dk σ R j now q → (q = h0 ∨ q < k) → (∀ i, q < i → i < k → ¬ Dk σ R j now i) → wp_X6_mostDelay_36 P (nI j) now (M (11 + j)) n (mi30 q) (mi30 k) (upd M (11 + j) x) Mvf Mdn Mlf Mar) 331 (fun n => ?_) (fun n k hk ih => ?_) 0 (by omega)
  · intro q x Mvf Mdn Mlf Mar hq hh dq hq2 hi
    refine z_y (by rw [z_lt, mi30_i (by omega), e300]; omega) ⟨i11, ?_⟩
    rw [c11, upd_back]
    exact h q hq (fun i a b => hi i a (by omega)) dq _ _ _ _
  · intro q x Mvf Mdn Mlf Mar hq hh dq hq2 hi
    refine z_n (by rw [z_lt, mi30_i (by omega), e300]; omega) ⟨i11, ?_⟩
    rw [c11, upd_upd, mi30_s]
    have V' := deD_V V (j := j) (k := k) (by omega)
    have m' : SM (deD σ j (mi30 k)) R (upd M (11 + j) (mi30 k)) := m.u_de hj _
    obtain ⟨o', ho'⟩ := ord_ex V'
    refine M_lay V' m' ho' (fun Mvf' Mdn' Mlf' Mar' mp => ?_)
    by_cases c : k ≤ q
    · refine z_y (by rw [z_le, mi30_i (by omega), mi30_i (by omega)]; omega) (ih q _ _ _ _ _ hq hh dq (by omega) (fun i a b => by omega))
    · refine z_n (by rw [z_le, mi30_i (by omega), mi30_i (by omega)]; omega) (M_sp V' m' mp ?_)
      have st : Strands (deD σ j (mi30 k)) R (zS (g2 (deD σ j (mi30 k)) (bdS (deD σ j (mi30 k)) o' R).1) R) := ⟨o', ho', rfl⟩
      generalize zS (g2 (deD σ j (mi30 k)) (bdS (deD σ j (mi30 k)) o' R).1) R = y at st
      by_cases d : now < y
      · refine z_y d (ih q _ _ _ _ _ hq hh dq (by omega) (fun i a b => ?_))
        by_cases g : i = k
        · subst g
          rintro ⟨z, hz, hz2⟩
          rw [hz.un st, z_le] at hz2
          rw [z_lt] at d
          omega
        · exact hi i a (by omega)
      · refine z_n d (ih k _ _ _ _ _ (by omega) (by omega) ⟨y, st, ?_⟩ (by omega) (fun i a b => by omega))
        rw [z_le]; rw [z_lt] at d; omega
theorem law15 {xs : Nat → Int32} {rec : RecT} {t : Nat} (rok : RecOK rec (t + 1)) {now pln way tri tpl pad his slo Mst Mhi Mhn Msl Msv Mpd Mln Mat Mit Mvf Mdn Mlf Mar Msa Msm Mso} (rel : Rel now pln pad his slo Mst Mhi Mhn Msl Msv Mpd Mln) : lawC15 xs rec t now pln way tri tpl pad his slo Mst Mhi Mhn Msl Msv Mpd Mln Mat Mit Mvf Mdn Mlf Mar Msa Msm Mso := by
  obtain ⟨⟨R, o, V, m, X⟩, ⟨K, hn, f, H, hg⟩, pr, sl⟩ := id rel
  have hR := V.hR
  unfold lawC15
  generalize xs (5 * t + 1) = x1
  by_cases c1 : z_is x1 6
  · obtain ⟨j, hj, rfl⟩ := id c1
    have e11 : (11 : Int32) + nI j = nI (11 + j) := z_a 11 j
    have i11 : vp_in ((11 : Int32) + nI j) 130 := by rw [e11]; exact z_in (by omega) (by omega)
    have c11 : ((11 : Int32) + nI j).toNatClampNeg = 11 + j := by rw [e11]; exact z_cl (by omega)
    refine Xf_t c1 (z_t (X_most V hj (fun q hq h1 h2 se la de le sa fl ar dr pe ri od rd vn pn ao sr sp wt => ?_)))
    refine Mf_t c1 (z_t (M_lay V m X.ord (fun Mvf' Mdn' Mlf' Mar' mp => M_sp V m mp ⟨i11, ?_⟩)))
    rw [c11, ← X.sp]
    refine M_most2 V m ⟨o, X.ord, X.sp⟩ hj (fun q' hq' h1' h2' _ _ _ _ => ?_)
    have e : q = q' := by
      rcases Nat.lt_trichotomy q q' with c | c | c
      · exact absurd h2' (h1 q' c hq')
      · exact c
      · rcases h2 with g | g
        · omega
        · exact absurd g (h1' q c hq)
    rw [e]
    exact ⟨rfl, rok _ _ _ _ _ _ _ _ _ _ _ _ _ _ _ _ _ _ _ _ _ _ _ _ rel⟩
  · exact Xf_f c1 (z_f (Mf_f c1 (z_f ⟨rfl, rok _ _ _ _ _ _ _ _ _ _ _ _ _ _ _ _ _ _ _ _ _ _ _ _ rel⟩)))
