/-! ===== what is told of all ===== -/
noncomputable def t1V (σ : StT) (b : BT) (R : Nat) : Nat → Int64
  | 0 => 89
  | k + 1 => ((31 : Int64) * t1V σ b R k) + (cnV σ b R k).toInt64
noncomputable def t2V (σ : StT) (b : BT) (R : Nat) : Nat → Int64
  | 0 => t1V σ b R 14
  | k + 1 => (((31 : Int64) * (((((31 : Int64) * t2V σ b R k) + ((100 : Int64) * (riA σ b R k 0).toInt64)) + ((10 : Int64) * (riA σ b R k 1).toInt64)) + (riA σ b R k 2).toInt64)) + ((10 : Int64) * (riA σ b R k 3).toInt64)) + (riA σ b R k 5).toInt64
noncomputable def t3V (σ : StT) (b : BT) (R : Nat) : Nat → Int64
  | 0 => t2V σ b R 24
  | k + 1 => (((31 : Int64) * t3V σ b R k) + ((1000 : Int64) * (vaV σ b R k 0).toInt64)) + (vaV σ b R k 1).toInt64
noncomputable def t4V (σ : StT) (b : BT) (R : Nat) : Nat → Int64
  | 0 => t3V σ b R 8
  | k + 1 => (((31 : Int64) * t4V σ b R k) + ((1000 : Int64) * (flV σ b R k 0).toInt64)) + (flV σ b R k 1).toInt64
noncomputable def toV (σ : StT) (R : Nat) : Int64 := t4V σ (BD σ R) R 6
theorem z_nle {k n : Nat} (h : k < n) (hn : n < 2147483648) : ¬ nI n ≤ nI k := by
  rw [z_leN hn (by omega)]; omega
theorem X_told {P : Int64 → (Nat → Int32) → (Nat → Int32) → (Nat → Int32) → Int32 → Prop} {σ : StT} {R : Nat} (V : SV σ R) {pl : PlT} (hx : XR σ R pl) {w : WyT} {pad : PdT} {his : HiT} (h : ∀ ky wp mi so, P (toV σ R) ky wp mi so) : wp_L_told P σ pl w pad his := by
  have s4 : ∀ ky wp mi so, ∃ n, wp_L_told_151 P σ pl w pad his ky wp mi so n (t4V σ (BD σ R) R 0) (nI 0) := by
    intro ky wp mi so
    refine z_up (fun n k => wp_L_told_151 P σ pl w pad his ky wp mi so n (t4V σ (BD σ R) R k) (nI k)) 6 (fun n => ?_) (fun n k hk ih => ?_) 0 (by omega)
    · exact z_y (by decide) (h _ _ _ _)
    · refine z_n (z_nle (n := 6) hk (by omega)) (X_flt V hx hk 0 rfl (by omega) (X_flt V hx hk 1 rfl (by omega) (fun y ey => ?_)))
      subst ey
      rw [z_s]; exact ih
  have s3 : ∃ n, ∀ ky wp mi so, wp_L_told_111 P σ pl w pad his n (t3V σ (BD σ R) R 0) (nI 0) ky wp mi so := by
    refine z_up (fun n k => ∀ ky wp mi so, wp_L_told_111 P σ pl w pad his n (t3V σ (BD σ R) R k) (nI k) ky wp mi so) 8 (fun n => ?_) (fun n k hk ih => ?_) 0 (by omega)
    · intro ky wp mi so
      exact z_y (by decide) (s4 ky wp mi so)
    · intro ky wp mi so
      refine z_n (z_nle (n := 8) hk (by omega)) (X_vn V hx hk 0 rfl (by omega) (fun ky wp mi so => X_vn V hx hk 1 rfl (by omega) (fun ky wp mi so y ey => ?_)))
      subst ey
      rw [z_s]; exact ih _ _ _ _
  have s2 : ∃ n, ∀ ky wp mi so, wp_L_told_33 P σ pl w pad his n (t2V σ (BD σ R) R 0) (nI 0) ky wp mi so := by
    refine z_up (fun n k => ∀ ky wp mi so, wp_L_told_33 P σ pl w pad his n (t2V σ (BD σ R) R k) (nI k) ky wp mi so) 24 (fun n => ?_) (fun n k hk ih => ?_) 0 (by omega)
    · intro ky wp mi so
      obtain ⟨m, hm⟩ := s3
      exact z_y (by decide) ⟨m, hm _ _ _ _⟩
    · intro ky wp mi so
      refine z_n (z_nle (n := 24) hk (by omega)) (X_ridA V hx hk 0 rfl (by omega) (fun ky wp mi so => X_ridA V hx hk 1 rfl (by omega) (fun ky wp mi so => X_ridA V hx hk 2 rfl (by omega) (fun ky wp mi so y ey => X_ridA V hx hk 3 rfl (by omega) (fun ky wp mi so => X_ridA V hx hk 5 rfl (by omega) (fun ky wp mi so z ez => ?_))))))
      subst ey
      subst ez
      rw [z_s]; exact ih _ _ _ _
  have s1 : ∃ n, ∀ ky wp mi so, wp_L_told_6 P σ pl w pad his n (t1V σ (BD σ R) R 0) (nI 0) ky wp mi so := by
    refine z_up (fun n k => ∀ ky wp mi so, wp_L_told_6 P σ pl w pad his n (t1V σ (BD σ R) R k) (nI k) ky wp mi so) 14 (fun n => ?_) (fun n k hk ih => ?_) 0 (by omega)
    · intro ky wp mi so
      obtain ⟨m, hm⟩ := s2
      exact z_y (by decide) ⟨m, hm _ _ _ _⟩
    · intro ky wp mi so
      refine z_n (z_nle (n := 14) hk (by omega)) (X_cnt V hx k rfl hk (fun ky wp mi so => ?_))
      rw [z_s]; exact ih _ _ _ _
  obtain ⟨n, hn⟩ := s1
  exact ⟨n, hn _ _ _ _⟩
/-! ===== a call of the class ===== -/
def nxS (σ : StT) (R k a : Nat) (b c d : Int32) : StT :=
  match k with
  | 0 => mkSt (upd σ.se a b) σ.la σ.de σ.le σ.sa σ.fl σ.ar σ.dr σ.pe σ.ri
  | 1 => mkSt σ.se (upd σ.la a b) σ.de σ.le σ.sa σ.fl σ.ar σ.dr σ.pe σ.ri
  | 2 => mkSt σ.se σ.la (upd σ.de a b) σ.le σ.sa σ.fl σ.ar σ.dr σ.pe σ.ri
  | 3 => mkSt σ.se σ.la σ.de (upd σ.le a b) (upd σ.sa a c) σ.fl σ.ar σ.dr σ.pe σ.ri
  | 4 => addS σ R (nI a) b c d
  | 5 => remS σ a (R - 1)
  | _ => mkSt σ.se σ.la σ.de σ.le σ.sa (upd σ.fl a b) σ.ar σ.dr σ.pe σ.ri
def nxR (R k : Nat) : Nat :=
  match k with
  | 4 => R + 1
  | 5 => R - 1
  | _ => R
def erS (σ : StT) (R k a : Nat) (b : Int32) : Option Int32 :=
  match k with
  | 4 => if R = 24 then some (-104) else none
  | 5 => if R ≤ a then some (-101) else none
  | 6 => if R ≤ a then some (-101) else if σ.fl a = b then some (-105) else none
  | _ => none
theorem er4 {σ : StT} {R a : Nat} {b : Int32} : erS σ R 4 a b = if R = 24 then some (-104) else none := rfl
theorem er5 {σ : StT} {R a : Nat} {b : Int32} : erS σ R 5 a b = if R ≤ a then some (-101) else none := rfl
theorem er6 {σ : StT} {R a : Nat} {b : Int32} : erS σ R 6 a b = if R ≤ a then some (-101) else if σ.fl a = b then some (-105) else none := rfl
noncomputable def anS (σ : StT) (R k a : Nat) (b c d : Int32) : Int32 :=
  match k with
  | 0 => σ.se a
  | 1 => σ.la a
  | 2 => (σ.la a + b) + σ.se 0
  | 3 => zS (g2 (nxS σ R 3 a b c d) (BD (nxS σ R 3 a b c d) R).1) R
  | 4 => nI R
  | 5 => frS σ (BD σ R) R a
  | _ => enc ((BD (nxS σ R 6 a b c d) R).1 a)
def AOK (R k a : Nat) (b c d : Int32) : Prop :=
  match k with
  | 0 => a < 5 ∧ g_least a ≤ b ∧ b ≤ g_most a
  | 1 => a < 6 ∧ (0 : Int32) ≤ b ∧ b ≤ (1200 : Int32)
  | 2 => a < 6 ∧ (-30 : Int32) ≤ b ∧ b ≤ (300 : Int32)
  | 3 => a < 8 ∧ ((0 : Int32) ≤ b ∧ b ≤ (1500 : Int32)) ∧ ((0 : Int32) ≤ c ∧ c ≤ (12 : Int32))
  | 4 => a < 6 ∧ ((0 : Int32) ≤ b ∧ b ≤ (5 : Int32)) ∧ ((0 : Int32) ≤ c ∧ c ≤ (99 : Int32)) ∧ ((1 : Int32) ≤ d ∧ d ≤ (4 : Int32))
  | 5 => a ≤ R
  | _ => a ≤ R ∧ z_is b 6
/-- the states that undo may bring back, with one more -/
def hiN (f : Nat → StT) (K : Nat) (σ : StT) : Nat → StT := fun i => if i = kp K then σ else f (i + ks K)
theorem nxV {σ : StT} {R : Nat} (V : SV σ R) : ∀ {k a : Nat} {b c d : Int32}, k < 7 → AOK R k a b c d → erS σ R k a b = none → SV (nxS σ R k a b c d) (nxR R k)
  | 0, _, _, _, _, _, ok, _ => V.u_se ok.2.1 ok.2.2
  | 1, _, _, _, _, _, ok, _ => V.u_la (z_b ok.2).1 (z_b ok.2).2
  | 2, _, _, _, _, _, ok, _ => V.u_de (z_b ok.2).1 (z_b ok.2).2
  | 3, a, _, _, _, _, ok, _ => (V.u_le (j := a) (z_b ok.2.1).1 (z_b ok.2.1).2).u_sa (j := a) (z_b ok.2.2).1 (z_b ok.2.2).2
  | 4, a, _, _, _, _, ok, er => by
    have h : ¬ R = 24 := fun e => by rw [er4, if_pos e] at er; cases er
    have hR := V.hR
    exact V.add (by omega) ⟨a, ok.1, rfl⟩ (z_isL (n := 5) ok.2.1 rfl rfl (by omega)) (z_isL (n := 99) ok.2.2.1 rfl rfl (by omega)) (z_b ok.2.2.2)
  | 5, a, _, _, _, _, ok, er => by
    have h : ¬ R ≤ a := fun e => by rw [er5, if_pos e] at er; cases er
    obtain ⟨Q, rfl⟩ : ∃ Q, R = Q + 1 := ⟨R - 1, by omega⟩
    exact V.rem (r := a)
  | 6, _, _, _, _, _, ok, _ => V.u_fl ok.2
  | k + 7, _, _, _, _, hk, _, _ => absurd hk (by omega)
theorem X_call0 {P : Int32 → (Nat → Int32) → (Nat → Int32) → (Nat → Int32) → (Nat → Int32) → (Nat → Int32) → (Nat → Int32) → (Nat → Int32) → (Nat → Int32) → (Nat → Int32) → Int32 → (Nat → Int32) → (Nat → Int32) → (Nat → Int32) → (Nat → Int32) → (Nat → Int32) → Int32 → Int32 → Int32 → (Nat → StT) → Int32 → Int32 → Prop} {σ : StT} {R : Nat} (V : SV σ R) {o : Nat → Nat} {pl : PlT} {his : HiT} (X : XP σ R o pl.rd pl.vn pl.pn pl.ao pl.sr pl.sp pl.wt) {f : Nat → StT} {K : Nat} (H : HX his f K) : ∀ (k : Nat) {a : Nat} {b c d : Int32}, k < 7 → AOK R k a b c d →
    (∀ e, erS σ R k a b = some e → P e σ.se σ.la σ.de σ.le σ.sa σ.fl σ.ar σ.dr σ.pe σ.ri pl.od pl.rd pl.vn pl.pn pl.ao pl.sr pl.sp pl.wt his.hs his.ol his.sz) →
    (erS σ R k a b = none → ∀ (pl' : PlT) (his' : HiT), XR (nxS σ R k a b c d) (nxR R k) pl' → HX his' (hiN f K σ) (kp K + 1) → P (anS σ R k a b c d) (nxS σ R k a b c d).se (nxS σ R k a b c d).la (nxS σ R k a b c d).de (nxS σ R k a b c d).le (nxS σ R k a b c d).sa (nxS σ R k a b c d).fl (nxS σ R k a b c d).ar (nxS σ R k a b c d).dr (nxS σ R k a b c d).pe (nxS σ R k a b c d).ri pl'.od pl'.rd pl'.vn pl'.pn pl'.ao pl'.sr pl'.sp pl'.wt his'.hs his'.ol his'.sz) → wp_L_call P σ pl his (nI k) (nI a) b c d
  | 0, a, b, c, d, _, ok, he, ho => by
    have hR := V.hR
    refine ⟨fun _ => z_in_t 4 (by omega) ⟨a, ok.1, rfl⟩ (z_t ⟨z_in ok.1 (by omega), z_in ok.1 (by omega), ?_⟩), fun e => absurd e (by decide), fun e => absurd e (by decide), fun e => absurd e (by decide), fun e => absurd e (by decide), fun e => absurd e (by decide), fun e => absurd rfl e.1⟩
    rw [z_cl (by have := ok.1; omega)]
    refine z_isIn_t ok.2.1 ok.2.2 (z_t ⟨z_in ok.1 (by omega), X_record H (fun hs ol sz hh => ⟨z_in ok.1 (by omega), X_make (nxV V (k := 0) (c := c) (d := d) (by omega) ok rfl) (fun od rd vn pn ao sr sp wt o' hX => ?_)⟩)⟩)
    exact ho rfl (mkPl od rd vn pn ao sr sp wt) (mkHi hs ol sz) ⟨o', hX⟩ hh
  | 1, a, b, c, d, _, ok, he, ho => by
    have hR := V.hR
    refine ⟨fun e => absurd e (by decide), fun _ => Xf_t ⟨a, ok.1, rfl⟩ (z_t (z_isIn_t ok.2.1 ok.2.2 (z_t ⟨z_in ok.1 (by omega), X_record H (fun hs ol sz hh => ⟨z_in ok.1 (by omega), ?_⟩)⟩))), fun e => absurd e (by decide), fun e => absurd e (by decide), fun e => absurd e (by decide), fun e => absurd e (by decide), fun e => absurd rfl e.2.1⟩
    rw [z_cl (by have := ok.1; omega)]
    refine X_make (nxV V (k := 1) (c := c) (d := d) (by omega) ok rfl) (fun od rd vn pn ao sr sp wt o' hX => ?_)
    exact ho rfl (mkPl od rd vn pn ao sr sp wt) (mkHi hs ol sz) ⟨o', hX⟩ hh
  | 2, a, b, c, d, _, ok, he, ho => by
    have hR := V.hR
    refine ⟨fun e => absurd e (by decide), fun e => absurd e (by decide), fun _ => Xf_t ⟨a, ok.1, rfl⟩ (z_t (z_isIn_t ok.2.1 ok.2.2 ⟨z_b1, z_t (X_record H (fun hs ol sz hh => ⟨z_in ok.1 (by omega), ?_⟩))⟩)), fun e => absurd e (by decide), fun e => absurd e (by decide), fun e => absurd e (by decide), fun e => absurd rfl e.2.2.1⟩
    rw [z_cl (by have := ok.1; omega)]
    refine X_make (nxV V (k := 2) (c := c) (d := d) (by omega) ok rfl) (fun od rd vn pn ao sr sp wt o' hX => X_fr ok.1 ?_)
    show P ((σ.la a + upd σ.de a b a) + σ.se 0) _ _ _ _ _ _ _ _ _ _ _ _ _ _ _ _ _ _ _ _ _
    rw [z_us]
    exact ho rfl (mkPl od rd vn pn ao sr sp wt) (mkHi hs ol sz) ⟨o', hX⟩ hh
  | 3, a, b, c, d, _, ok, he, ho => by
    have hR := V.hR
    refine ⟨fun e => absurd e (by decide), fun e => absurd e (by decide), fun e => absurd e (by decide), fun _ => Xv_t ⟨a, ok.1, rfl⟩ (z_t (z_isIn_t ok.2.1.1 ok.2.1.2 (z_t' (z_isIn_t ok.2.2.1 ok.2.2.2 (z_t (X_record H (fun hs ol sz hh => ⟨z_in ok.1 (by omega), z_in ok.1 (by omega), ?_⟩))))))), fun e => absurd e (by decide), fun e => absurd e (by decide), fun e => absurd rfl e.2.2.2.1⟩
    rw [z_cl (by have := ok.1; omega)]
    refine X_make (nxV V (k := 3) (c := c) (d := d) (by omega) ok rfl) (fun od rd vn pn ao sr sp wt o' hX => ?_)
    have h := ho rfl (mkPl od rd vn pn ao sr sp wt) (mkHi hs ol sz) ⟨o', hX⟩ hh
    have e : sp = anS σ R 3 a b c d := by
      show sp = zS (g2 (nxS σ R 3 a b c d) (BD (nxS σ R 3 a b c d) R).1) R
      have eb : BD (nxS σ R 3 a b c d) R = bdS (nxS σ R 3 a b c d) o' R := BD_eq hX.ord
      rw [eb]; exact hX.sp
    rw [← e] at h
    exact h
  | 4, a, b, c, d, _, ok, he, ho => by
    have hR := V.hR
    have ha : z_is (nI a) 6 := ⟨a, ok.1, rfl⟩
    refine ⟨fun e => absurd e (by decide), fun e => absurd e (by decide), fun e => absurd e (by decide), fun e => absurd e (by decide), fun _ => Xf_t ha (z_t' (z_isIn_t ok.2.1.1 ok.2.1.2 (z_t (z_isIn_t ok.2.2.1.1 ok.2.2.1.2 (z_t' (z_isIn_t ok.2.2.2.1 ok.2.2.2.2 (z_t ?_))))))), fun e => absurd e (by decide), fun e => absurd rfl e.2.2.2.2.1⟩
    rw [V.ri]
    by_cases c5 : R = 24
    · rw [← V.ri]
      exact z_n (by rw [V.ri, show (24 : Int32) = nI 24 from rfl, z_ltN (by omega) (by omega)]; omega) (he _ (by rw [er4, if_pos c5]))
    · have er : erS σ R 4 a b = none := by rw [er4, if_neg c5]
      refine z_y (by rw [show (24 : Int32) = nI 24 from rfl, z_ltN (by omega) (by omega)]; omega) (X_record H (fun hs ol sz hh => X_add V.ri (by omega) ?_))
      refine X_make (nxV V (k := 4) (by omega) ok er) (fun od rd vn pn ao sr sp wt o' hX => ?_)
      rw [z_p]
      exact ho er (mkPl od rd vn pn ao sr sp wt) (mkHi hs ol sz) ⟨o', hX⟩ hh
  | 5, a, b, c, d, _, ok, he, ho => by
    have hR := V.hR
    have ok : a ≤ R := ok
    by_cases c1 : a < R
    · have er : erS σ R 5 a b = none := by rw [er5, if_neg (by omega)]
      obtain ⟨Q, rfl⟩ : ∃ Q, R = Q + 1 := ⟨R - 1, by omega⟩
      have ef : BD σ (Q + 1) = bdS σ o (Q + 1) := BD_eq X.ord
      refine ⟨fun e => absurd e (by decide), fun e => absurd e (by decide), fun e => absurd e (by decide), fun e => absurd e (by decide), fun e => absurd e (by decide), fun _ => Xr_t V ⟨a, c1, rfl⟩ (z_t (X_fare V X.vn c1 (X_record H (fun hs ol sz hh => X_rem V c1 ?_)))), fun e => absurd rfl e.2.2.2.2.2⟩
      rw [← ef]
      refine X_make (σ := remS σ a Q) (V.rem (r := a)) (fun od rd vn pn ao sr sp wt o' hX => ?_)
      exact ho er (mkPl od rd vn pn ao sr sp wt) (mkHi hs ol sz) ⟨o', hX⟩ hh
    · refine ⟨fun e => absurd e (by decide), fun e => absurd e (by decide), fun e => absurd e (by decide), fun e => absurd e (by decide), fun e => absurd e (by decide), fun _ => Xr_f V (not_is (by omega) (by omega)) (z_f ?_), fun e => absurd rfl e.2.2.2.2.2⟩
      exact he _ (by rw [er5, if_pos (by omega)])
  | 6, a, b, c, d, _, ok, he, ho => by
    have hR := V.hR
    obtain ⟨ok1, ok2⟩ : a ≤ R ∧ z_is b 6 := ok
    by_cases c1 : a < R
    · refine ⟨fun e => absurd e (by decide), fun e => absurd e (by decide), fun e => absurd e (by decide), fun e => absurd e (by decide), fun e => absurd e (by decide), fun e => absurd e (by decide), fun _ => Xr_t V ⟨a, c1, rfl⟩ (z_t' (Xf_t ok2 (z_t ⟨z_in (by omega) (by omega), ?_⟩)))⟩
      rw [z_cl (by omega)]
      by_cases c3 : σ.fl a = b
      · exact z_y' c3 (he _ (by rw [er6, if_neg (by omega), if_pos c3]))
      · have er : erS σ R 6 a b = none := by rw [er6, if_neg (by omega), if_neg c3]
        refine z_n' c3 (X_record H (fun hs ol sz hh => ⟨z_in (by omega) (by omega), ?_⟩))
        refine X_make (nxV V (k := 6) (c := c) (d := d) (by omega) ⟨ok1, ok2⟩ er) (fun od rd vn pn ao sr sp wt o' hX => ⟨z_in (by omega) (by omega), ?_⟩)
        have h := ho er (mkPl od rd vn pn ao sr sp wt) (mkHi hs ol sz) ⟨o', hX⟩ hh
        have e : vn a = anS σ R 6 a b c d := by
          show vn a = enc ((BD (nxS σ R 6 a b c d) R).1 a)
          have eb : BD (nxS σ R 6 a b c d) R = bdS (nxS σ R 6 a b c d) o' R := BD_eq hX.ord
          rw [eb]; exact hX.vn a c1
        rw [← e] at h
        exact h
    · refine ⟨fun e => absurd e (by decide), fun e => absurd e (by decide), fun e => absurd e (by decide), fun e => absurd e (by decide), fun e => absurd e (by decide), fun e => absurd e (by decide), fun _ => Xr_f V (not_is (by omega) (by omega)) (z_f' ?_)⟩
      exact he _ (by rw [er6, if_pos (by omega)])
  | k + 7, _, _, _, _, hk, _, _, _ => absurd hk (by omega)
theorem X_undo {P : Int32 → (Nat → Int32) → (Nat → Int32) → (Nat → Int32) → (Nat → Int32) → (Nat → Int32) → (Nat → Int32) → (Nat → Int32) → (Nat → Int32) → (Nat → Int32) → Int32 → (Nat → Int32) → (Nat → Int32) → (Nat → Int32) → (Nat → Int32) → (Nat → Int32) → Int32 → Int32 → Int32 → Int32 → Prop} {σ : StT} {pl : PlT} {his : HiT} {f : Nat → StT} {K R : Nat} (H : HX his f (K + 1)) (V' : SV (f K) R) (h : ∀ pl' : PlT, XR (f K) R pl' → P (nI K) (f K).se (f K).la (f K).de (f K).le (f K).sa (f K).fl (f K).ar (f K).dr (f K).pe (f K).ri pl'.od pl'.rd pl'.vn pl'.pn pl'.ao pl'.sr pl'.sp pl'.wt (nI K)) : wp_X5_undo P σ pl his := by
  obtain ⟨h1, h2, q, hq, h3, h4⟩ := H
  unfold wp_X5_undo wp_X0_takeBack
  rw [h1, h3]
  have e : ¬ nI (K + 1) = 0 := by rw [show (0 : Int32) = nI 0 from rfl, z_eqN (by omega) (by omega)]; omega
  refine z_n' e ?_
  refine z_y (by rw [show (0 : Int32) = nI 0 from rfl, z_ltN (by omega) (by omega)]; omega) ?_
  have ei : (nI q + (nI (K + 1) - (1 : Int32))) - (nI q + (nI (K + 1) - (1 : Int32))) / (6 : Int32) * (6 : Int32) = nI ((q + K) % 6) := by
    rw [z_p, z_a, show (6 : Int32) = nI 6 from rfl, z_mod (by omega) (by omega) (by omega)]
  rw [ei]
  refine ⟨z_in (by omega) (by omega), fun j hj ej => ?_⟩
  rw [z_eqN (by omega) (by omega)] at ej
  subst ej
  rw [h4 K (by omega)]
  refine X_make (σ := f K) V' (fun od rd vn pn ao sr sp wt o' hX => ?_)
  rw [z_p]
  exact h (mkPl od rd vn pn ao sr sp wt) ⟨o', hX⟩
theorem HX_less {his : HiT} {f : Nat → StT} {K : Nat} (H : HX his f (K + 1)) : HX (mkHi his.hs his.ol (nI K)) f K := by
  obtain ⟨h1, h2, q, hq, h3, h4⟩ := H
  exact ⟨rfl, by omega, q, hq, h3, fun i hi => h4 i (by omega)⟩
