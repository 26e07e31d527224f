/-! ===== read: all riders of a text ===== -/
/-- commas before k -/
def cntS (c : Nat → Int32) : Nat → Nat
  | 0 => 0
  | k + 1 => if c k = 44 then cntS c k + 1 else cntS c k
theorem cnt_y {c : Nat → Int32} {k : Nat} (h : c k = 44) : cntS c (k + 1) = cntS c k + 1 := if_pos h
theorem cnt_n {c : Nat → Int32} {k : Nat} (h : ¬ c k = 44) : cntS c (k + 1) = cntS c k := if_neg h
theorem cnt_le (c : Nat → Int32) : ∀ k, cntS c k ≤ k
  | 0 => Nat.le_refl 0
  | k + 1 => by
    have i := cnt_le c k
    by_cases h : c k = 44
    · rw [cnt_y h]; omega
    · rw [cnt_n h]; omega
theorem cnt_mono (c : Nat → Int32) (p : Nat) : ∀ d, cntS c p ≤ cntS c (p + d)
  | 0 => Nat.le_refl _
  | d + 1 => by
    have i := cnt_mono c p d
    show _ ≤ cntS c ((p + d) + 1)
    by_cases h : c (p + d) = 44
    · rw [cnt_y h]; omega
    · rw [cnt_n h]; omega
theorem cnt_mono' {c : Nat → Int32} {p n : Nat} (h : p ≤ n) : cntS c p ≤ cntS c n := by
  have i := cnt_mono c p (n - p)
  rw [show p + (n - p) = n from by omega] at i
  exact i
theorem cnt_congr {c c' : Nat → Int32} {n : Nat} (h : ∀ j, j < n → c j = c' j) : ∀ k, k ≤ n → cntS c k = cntS c' k
  | 0, _ => rfl
  | k + 1, hk => by
    have i := cnt_congr h k (by omega)
    have e := h k (by omega)
    by_cases g : c k = 44
    · rw [cnt_y g, cnt_y (e ▸ g), i]
    · rw [cnt_n g, cnt_n (e ▸ g), i]
theorem ne44 {x a b : Int32} (h : a ≤ x ∧ x ≤ b) (ha : 44 < a.toInt) : ¬ x = 44 := by
  intro e
  have h2 := (z_b h).1
  rw [e] at h2
  have e44 : (44 : Int32).toInt = 44 := by decide
  omega
theorem rv_cnt {c : Nat → Int32} {n p : Nat} {two ex : Bool} (rv : RV c n p two ex) : cntS c (enS two ex p) = cntS c p := by
  have a0 := cnt_n (ne44 rv.d0 (by decide))
  have a1 := cnt_n (ne44 rv.d1 (by decide))
  have a2 := cnt_n (ne44 (a := 48) (b := 57) rv.d2 (by decide))
  have aq : cntS c (q0S two p) = cntS c p := by
    cases two with
    | true =>
      obtain ⟨-, -, t⟩ := rv.ty rfl
      have a3 := cnt_n (ne44 (a := 48) (b := 57) t (by decide))
      show cntS c (p + 3 + 1) = _
      rw [a3, show p + 3 = p + 2 + 1 from rfl, a2, show p + 2 = p + 1 + 1 from rfl, a1, a0]
    | false =>
      show cntS c (p + 2 + 1) = _
      rw [a2, show p + 2 = p + 1 + 1 from rfl, a1, a0]
  cases ex with
  | true =>
    obtain ⟨-, k2, k3, k4⟩ := rv.ey rfl
    have b0 := cnt_n (c := c) (k := q0S two p) (by rw [k2]; decide)
    have b1 := cnt_n (ne44 ⟨k3, k4⟩ (by decide))
    show cntS c (q0S two p + 1 + 1) = _
    rw [b1, b0, aq]
  | false => exact aq
theorem X_count {P : Int32 → Prop} {pd : PdT} {n : Nat} (hn : pd.ln = nI n) (h60 : n ≤ 60) (h : P (nI (1 + cntS pd.co n))) : wp_X1_riderCount P pd := by
  unfold wp_X1_riderCount
  refine z_up (fun k j => wp_X1_riderCount_4 P pd k (nI (1 + cntS pd.co j)) (nI j)) n (fun k => ?_) (fun k j hj ih => ?_) 0 (by omega)
  · exact z_y (by rw [hn, z_leN (by omega) (by omega)]; omega) h
  · refine z_n (by rw [hn, z_leN (by omega) (by omega)]; omega) ⟨z_in (by omega) (by omega), ?_⟩
    rw [z_cl (by omega), z_s, z_s]
    by_cases g : pd.co j = 44
    · refine z_y' g ?_
      rw [show 1 + cntS pd.co j + 1 = 1 + cntS pd.co (j + 1) from by rw [cnt_y g]; omega]
      exact ih
    · refine z_n' g ?_
      rw [← cnt_n g]
      exact ih
theorem M_count {P : Int32 → Prop} {c : Nat → Int32} {n : Nat} (h60 : n ≤ 60) (h : P (nI (1 + cntS c n))) : wp_X6_ridersOfPad P c (nI n) := by
  unfold wp_X6_ridersOfPad
  refine z_up (fun k j => wp_X6_ridersOfPad_4 P c (nI n) k (nI (1 + cntS c j)) (nI j)) n (fun k => ?_) (fun k j hj ih => ?_) 0 (by omega)
  · exact z_y (by rw [z_leN (by omega) (by omega)]; omega) h
  · refine z_n (by rw [z_leN (by omega) (by omega)]; omega) ⟨z_in (by omega) (by omega), ?_⟩
    rw [z_cl (by omega), z_s, z_s, z_a0]
    by_cases g : c j = 44
    · refine z_y' g ?_
      rw [show 1 + cntS c j + 1 = 1 + cntS c (j + 1) from by rw [cnt_y g]; omega]
      exact ih
    · refine z_n' g ?_
      rw [← cnt_n g]
      exact ih
/-- a state with the rider that stands at p -/
def rdrS (c : Nat → Int32) (σ : StT) (R : Nat) (two ex : Bool) (p : Nat) : StT := addS σ R (c p - 48) (c (p + 1) - 97) (doS c two p) (peS c two ex p)
theorem RV_congr {c c' : Nat → Int32} {n p : Nat} {two ex : Bool} (h : ∀ j, j < n → c j = c' j) (rv : RV c n p two ex) : RV c' n p two ex := by
  have hg := rv.g2
  refine ⟨hg, ?_, ?_, ?_, fun z => ?_, fun z g => ?_, fun z => ?_, fun z g => ?_, rv.le, ?_⟩
  · rw [← h p (by omega)]; exact rv.d0
  · rw [← h (p + 1) (by omega)]; exact rv.d1
  · rw [← h (p + 2) (by omega)]; exact rv.d2
  · obtain ⟨a, b, d⟩ := rv.ty z
    refine ⟨?_, b, ?_⟩
    · rw [← h (p + 2) (by omega)]; exact a
    · rw [← h (p + 3) b]; exact d
  · rw [← h (p + 3) g]; exact rv.tn z g
  · obtain ⟨a, b, d⟩ := rv.ey z
    refine ⟨a, ?_, ?_⟩
    · rw [← h (q0S two p) (by omega)]; exact b
    · rw [← h (q0S two p + 1) a]; exact d
  · rw [← h (q0S two p) g]; exact rv.en z g
  · rcases rv.nx with a | ⟨a, b, d⟩
    · exact Or.inl a
    · refine Or.inr ⟨a, ?_, ?_⟩
      · rw [← h _ a]; exact b
      · rw [← d]
        exact (fxS_congr h (n - (enS two ex p + 1)) 0 (by omega)).symm
theorem rdr_congr {c c' : Nat → Int32} {n p R : Nat} {σ : StT} {two ex : Bool} (h : ∀ j, j < n → c j = c' j) (rv : RV c n p two ex) : rdrS c' σ R two ex p = rdrS c σ R two ex p := by
  have hg := rv.g2
  have e0 := h p (by omega)
  have e1 := h (p + 1) (by omega)
  have e2 := h (p + 2) (by omega)
  have ed : doS c' two p = doS c two p := by
    cases two with
    | true =>
      obtain ⟨-, b, -⟩ := rv.ty rfl
      have e3 := h (p + 3) b
      simp only [doS, e2, e3]
    | false => simp only [doS, e2, reduceIte, Bool.false_eq_true]
  have ep : peS c' two ex p = peS c two ex p := by
    cases ex with
    | true =>
      obtain ⟨b, -, -⟩ := rv.ey rfl
      have e3 := h (q0S two p + 1) b
      simp only [peS, e3]
    | false => rfl
  unfold rdrS
  rw [e0, e1, ed, ep]
theorem rdr_sv {c : Nat → Int32} {n p R : Nat} {σ : StT} {two ex : Bool} (V : SV σ R) (hR : R < 24) (rv : RV c n p two ex) : SV (rdrS c σ R two ex p) (R + 1) := by
  have e48 : (48 : Int32).toInt = 48 := by decide
  have e57 : (57 : Int32).toInt = 57 := by decide
  have e10 : (10 : Int32).toInt = 10 := by decide
  have d2 := z_b (show (48 : Int32) ≤ c (p + 2) ∧ c (p + 2) ≤ (57 : Int32) from rv.d2)
  rw [e48, e57] at d2
  have s2 := z_sub (a := c (p + 2)) (b := 48) (by omega) (by omega)
  rw [e48] at s2
  refine V.add hR ?_ ?_ ?_ ?_
  · have d := z_b rv.d0
    have e53 : (53 : Int32).toInt = 53 := by decide
    rw [e48, e53] at d
    rw [z_is_iff (by omega), z_sub (by omega) (by omega), e48]; omega
  · have d := z_b rv.d1
    have e97 : (97 : Int32).toInt = 97 := by decide
    have e102 : (102 : Int32).toInt = 102 := by decide
    rw [e97, e102] at d
    rw [z_is_iff (by omega), z_sub (by omega) (by omega), e97]; omega
  · cases two with
    | true =>
      obtain ⟨-, -, t⟩ := rv.ty rfl
      have d3 := z_b (show (48 : Int32) ≤ c (p + 3) ∧ c (p + 3) ≤ (57 : Int32) from t)
      rw [e48, e57] at d3
      have m1 := z_mul (a := 10) (b := c (p + 2) - 48) (by rw [e10, s2]; omega) (by rw [e10, s2]; omega)
      rw [e10, s2] at m1
      have m2 := z_add (a := (10 : Int32) * (c (p + 2) - 48)) (b := c (p + 3)) (by rw [m1]; omega) (by rw [m1]; omega)
      rw [m1] at m2
      show z_is ((((10 : Int32) * (c (p + 2) - (48 : Int32))) + c (p + 3)) - (48 : Int32)) 100
      rw [z_is_iff (by omega), z_sub (by rw [m2]; omega) (by rw [m2]; omega), m2, e48]; omega
    | false =>
      show z_is (c (p + 2) - (48 : Int32)) 100
      rw [z_is_iff (by omega), s2]; omega
  · cases ex with
    | true =>
      obtain ⟨-, -, k⟩ := rv.ey rfl
      have d := z_b k
      have e49 : (49 : Int32).toInt = 49 := by decide
      have e52 : (52 : Int32).toInt = 52 := by decide
      rw [e49, e52] at d
      show 1 ≤ (c (q0S two p + 1) - (48 : Int32)).toInt ∧ (c (q0S two p + 1) - (48 : Int32)).toInt ≤ 4
      rw [z_sub (by omega) (by omega), e48]; omega
    | false => exact (by decide : 1 ≤ (1 : Int32).toInt ∧ (1 : Int32).toInt ≤ 4)
/-- from p on the texts c and c' hold riders that lead from σ to σ' -/
def Rds (c c' : Nat → Int32) (n : Nat) : Nat → Nat → StT → Nat → StT → Nat → Prop
  | 0, _, _, _, _, _ => False
  | d + 1, p, σ, R, σ', R' => ∃ two ex, RV c n p two ex ∧ RV c' n p two ex ∧ rdrS c' σ R two ex p = rdrS c σ R two ex p ∧ R < 24 ∧
      ((enS two ex p = n ∧ σ' = rdrS c σ R two ex p ∧ R' = R + 1) ∨ (enS two ex p < n ∧ c' (enS two ex p) = 44 ∧ Rds c c' n d (enS two ex p + 1) (rdrS c σ R two ex p) (R + 1) σ' R'))
theorem rds_ex {c c' : Nat → Int32} {n : Nat} (h60 : n ≤ 60) (h : ∀ j, j < n → c j = c' j) : ∀ d p σ R, n ≤ p + d → p ≤ n → FX c n 0 p = -106 → SV σ R → R + 1 + cntS c n ≤ 24 + cntS c p →
    ∃ fl ar dr pe R', Rds c c' n d p σ R (mkSt σ.se σ.la σ.de σ.le σ.sa fl ar dr pe (nI R')) R' ∧ SV (mkSt σ.se σ.la σ.de σ.le σ.sa fl ar dr pe (nI R')) R'
  | 0, p, σ, R, hd, hp, hf, V, hc => by
    obtain ⟨two, ex, rv⟩ := rv_ex h60 hp hf
    have := rv.g2
    omega
  | d + 1, p, σ, R, hd, hp, hf, V, hc => by
    obtain ⟨two, ex, rv⟩ := rv_ex h60 hp hf
    have hm := cnt_mono' (c := c) hp
    have hR : R < 24 := by omega
    have V1 := rdr_sv V hR rv
    have hgt : p < enS two ex p := by
      unfold enS q0S
      repeat' split
      all_goals omega
    rcases rv.nx with e | ⟨e1, e2, e3⟩
    · exact ⟨_, _, _, _, R + 1, ⟨two, ex, rv, RV_congr h rv, rdr_congr h rv, hR, Or.inl ⟨e, rfl, rfl⟩⟩, V1⟩
    · obtain ⟨fl, ar, dr, pe, R', r, V2⟩ := rds_ex h60 h d (enS two ex p + 1) (rdrS c σ R two ex p) (R + 1) (by omega) (by omega) e3 V1 (by rw [cnt_y e2, rv_cnt rv]; omega)
      exact ⟨fl, ar, dr, pe, R', ⟨two, ex, rv, RV_congr h rv, rdr_congr h rv, hR, Or.inr ⟨e1, by rw [← h _ e1]; exact e2, r⟩⟩, V2⟩
theorem X_rds {P : (Nat → Int32) → (Nat → Int32) → (Nat → Int32) → (Nat → Int32) → Int32 → Prop} {pd : PdT} {c : Nat → Int32} {o1 : StT} {n : Nat} (hn : pd.ln = nI n) (h60 : n ≤ 60) : ∀ d p σ R σ' R', Rds c pd.co n d p σ R σ' R' → σ.ri = nI R → P σ'.fl σ'.ar σ'.dr σ'.pe σ'.ri →
    wp_X1_addRidersTo_10 P pd o1 (nI (1 + cntS pd.co n)) (d + 1) (nI p) (nI (cntS pd.co p)) σ.fl σ.ar σ.dr σ.pe σ.ri
  | 0, _, _, _, _, _, r, _, _ => r.elim
  | d + 1, p, σ, R, σ', R', r, hr, hP => by
    obtain ⟨two, ex, -, rv, er, hR, hx⟩ := r
    have hg := rv.g2
    have hm := cnt_mono' (c := pd.co) (p := p) (n := n) (by omega)
    have hl := cnt_le pd.co n
    refine z_n (by rw [z_leN (by omega) (by omega)]; omega) (X_rider (σ := mkSt o1.se o1.la o1.de o1.le o1.sa σ.fl σ.ar σ.dr σ.pe σ.ri) hn h60 hr hR rv ?_)
    rw [z_s, z_s]
    rcases hx with ⟨e1, rfl, -⟩ | ⟨e1, e2, r'⟩
    · refine z_y (by rw [z_leN (by omega) (by omega), ← e1, rv_cnt rv]; omega) ?_
      rw [← er] at hP
      exact hP
    · have k := X_rds (o1 := o1) hn h60 d _ _ _ _ _ r' rfl hP
      rw [← er, cnt_y e2, rv_cnt rv] at k
      exact k
theorem X_adds {P : (Nat → Int32) → (Nat → Int32) → (Nat → Int32) → (Nat → Int32) → Int32 → Prop} {pd : PdT} {c : Nat → Int32} {σ σ' : StT} {n d R R' : Nat} (hn : pd.ln = nI n) (h60 : n ≤ 60) (r : Rds c pd.co n d 0 σ R σ' R') (hr : σ.ri = nI R) (h : P σ'.fl σ'.ar σ'.dr σ'.pe σ'.ri) : wp_X1_addRidersTo P pd σ := by
  unfold wp_X1_addRidersTo
  exact X_count hn h60 ⟨d + 1, X_rds hn h60 d 0 σ R σ' R' r hr h⟩
theorem M_rds {P : Int32 → (Nat → Int32) → (Nat → Int32) → Int32 → Int32 → Int32 → (Nat → Int32) → Prop} {c c' Mhi : Nat → Int32} {Mhn : Int32} {n : Nat} (h60 : n ≤ 60) : ∀ d p σ R σ' R' M it, Rds c c' n d p σ R σ' R' → SM σ R M → (∀ M' a it', SM σ' R' M' → P (nI R') M' Mhi Mhn 0 a it') →
    wp_X6_read_41 P c Mhi Mhn (nI n) (d + 1) M (nI p) it
  | 0, _, _, _, _, _, _, _, r, _, _ => r.elim
  | d + 1, p, σ, R, σ', R', M, it, r, m, hP => by
    obtain ⟨two, ex, rv, -, -, hR, hx⟩ := r
    have hg := rv.g2
    refine z_n (by rw [z_leN (by omega) (by omega)]; omega) (M_rider2 h60 rv (fun it' I => z_t' ?_))
    rw [z_c0, z_c1, z_c2, z_c3, I.i0, I.i1, I.i2, I.i3]
    refine M_add m hR (fun M' m' => ?_)
    rw [z_s]
    rcases hx with ⟨e1, rfl, rfl⟩ | ⟨e1, -, r'⟩
    · refine z_y (by rw [z_leN (by omega) (by omega)]; omega) ?_
      unfold wp_X6_read_100
      rw [m'.i33]
      exact hP _ _ _ m'
    · exact M_rds h60 d _ _ _ _ _ _ _ r' m' hP
theorem law5 {xs : Nat → Int32} {rec : RecT} {t : Nat} (rok : RecOK rec (t + 1)) {now pln way tri tpl pad his slo Mst Mhi Mhn Msl Msv Mpd Mln Mat Mit Mvf Mdn Mlf Mar Msa Msm Mso} (rel : Rel now pln pad his slo Mst Mhi Mhn Msl Msv Mpd Mln) : lawC5 xs rec t now pln way tri tpl pad his slo Mst Mhi Mhn Msl Msv Mpd Mln Mat Mit Mvf Mdn Mlf Mar Msa Msm Mso := by
  obtain ⟨⟨R, o, V, m, X⟩, ⟨K, hn, f, H, hg⟩, pr, sl⟩ := id rel
  have hR := V.hR
  unfold lawC5
  obtain ⟨n, p1, p2, p3, p4⟩ := id pr
  subst p3
  have e : fxS pad.co n n 0 = FX Mpd n 0 0 := fxS_congr p4 n 0 (Nat.le_refl n)
  have p5 : ∀ j, j < n → Mpd j = pad.co j := fun j hj => (p4 j hj).symm
  have ec : cntS pad.co n = cntS Mpd n := cnt_congr p4 n (Nat.le_refl n)
  have hl := cnt_le Mpd n
  have e24 : (24 : Int32) = nI 24 := rfl
  refine X_fault p2 p1 ?_
  rw [e]
  by_cases c1 : FX Mpd n 0 0 = -106
  · refine z_y c1 (X_count p2 p1 ?_)
    have er : now.ri + nI (1 + cntS pad.co n) = nI (R + (1 + cntS Mpd n)) := by rw [V.ri, z_a, ec]
    by_cases c2 : R + (1 + cntS Mpd n) ≤ 24
    · obtain ⟨fl, ar, dr, pe, R', r, V'⟩ := rds_ex (c' := pad.co) p1 p5 n 0 now R (by omega) (by omega) c1 V (by show _ ≤ 24 + 0; omega)
      refine z_y (by rw [er, e24, z_leN (by omega) (by omega)]; exact c2) (X_record H (fun hs ol sz hx => X_adds p2 p1 r V.ri ?_))
      refine X_make V' (fun od rd vn pn ao sr sp wt o' hX => ?_)
      unfold wp_X6_read
      refine M_fault p1 (fun a it' => z_y c1 (M_count p1 ?_))
      rw [m.i33, z_a, hn]
      refine z_y (by rw [e24, z_leN (by omega) (by omega)]; exact c2) (M_record H.2.1 (fun Mhi' h1 h2 => ⟨n + 1, M_rds p1 n 0 now R _ R' Mst it' r m (fun M' a2 it2 m' => ?_)⟩))
      exact ⟨rfl, rok _ _ _ _ _ _ _ _ _ _ _ _ _ _ _ _ _ _ _ _ _ _ _ _ ⟨⟨R', o', V', m', hX⟩, ⟨_, HR_next V.hR hg H.2.1 V m hx h1 h2⟩, ⟨0, by omega, rfl, rfl, fun j hj => absurd hj (by omega)⟩, sl⟩⟩
    · refine z_n (by rw [er, e24, z_leN (by omega) (by omega)]; exact c2) ?_
      unfold wp_X6_read
      refine M_fault p1 (fun a it' => z_y c1 (M_count p1 ?_))
      rw [m.i33, z_a]
      refine z_n (by rw [e24, z_leN (by omega) (by omega)]; exact c2) ?_
      exact ⟨rfl, rok _ _ _ _ _ _ _ _ _ _ _ _ _ _ _ _ _ _ _ _ _ _ _ _ rel⟩
  · refine z_n c1 ?_
    unfold wp_X6_read
    refine M_fault p1 (fun a it' => z_n c1 ?_)
    exact ⟨rfl, rok _ _ _ _ _ _ _ _ _ _ _ _ _ _ _ _ _ _ _ _ _ _ _ _ rel⟩
