/-! ===== all coins are paid ===== -/
theorem nS_mul {c : Nat} {f : Nat → Nat} : ∀ {k : Nat}, nS (fun j => c * f j) k = c * nS f k
  | 0 => (Nat.mul_zero c).symm
  | k + 1 => by
    show nS (fun j => c * f j) k + c * f k = c * (nS f k + f k)
    rw [nS_mul, Nat.mul_add]
theorem nS_up {f : Nat → Nat} {j : Nat} : ∀ {k : Nat}, j ≤ k → nS f j ≤ nS f k
  | 0, h => by
    have : j = 0 := by omega
    subst this; exact Nat.le_refl _
  | k + 1, h => by
    by_cases c : j = k + 1
    · subst c; exact Nat.le_refl _
    · have := nS_up (f := f) (j := j) (k := k) (by omega)
      show _ ≤ nS f k + f k
      omega
noncomputable def cnG (G : Nat → Prop) : Nat → Nat := nS (fun j => pN (G j))
noncomputable def alG (G : Nat → Prop) (p : Nat → Nat) : Nat → Nat := nS (fun k => pN (G k) * p k)
noncomputable def flG (G : Nat → Prop) (p : Nat → Nat) (C A : Nat) : Nat → Nat := nS (fun k => pN (G k) * (C * p k / A))
/-- what one of a group pays -/
noncomputable def pyG (G : Nat → Prop) (p : Nat → Nat) (C R r : Nat) : Nat := C * p r / alG G p R + pN (cnG G r < C - flG G p C (alG G p R) R)
theorem fl_le {G : Nat → Prop} {p : Nat → Nat} {C A : Nat} (k : Nat) : A * flG G p C A k ≤ C * alG G p k := by
  show A * nS _ k ≤ C * nS _ k
  rw [← nS_mul, ← nS_mul]
  refine nS_le (fun j _ => ?_)
  by_cases c : G j
  · rw [pN_t c, Nat.one_mul, Nat.one_mul]
    exact Nat.mul_div_le (C * p j) A
  · rw [pN_f c]; simp
theorem fl_leC {G : Nat → Prop} {p : Nat → Nat} {C R : Nat} (hpos : 0 < alG G p R) {k : Nat} (hk : k ≤ R) : flG G p C (alG G p R) k ≤ C := by
  have h1 := fl_le (G := G) (p := p) (C := C) (A := alG G p R) k
  have h2 : alG G p k ≤ alG G p R := nS_up hk
  have h3 : C * alG G p k ≤ C * alG G p R := Nat.mul_le_mul_left C h2
  have h4 : alG G p R * flG G p C (alG G p R) k ≤ alG G p R * C := by rw [Nat.mul_comm _ C]; omega
  exact Nat.le_of_mul_le_mul_left h4 hpos
theorem rank_min {G : Nat → Prop} {x : Nat} : ∀ k, nS (fun r => pN (G r) * pN (cnG G r < x)) k = if cnG G k ≤ x then cnG G k else x
  | 0 => by
    show 0 = if 0 ≤ x then 0 else x
    rw [if_pos (Nat.zero_le _)]
  | k + 1 => by
    have e : cnG G (k + 1) = cnG G k + pN (G k) := rfl
    show nS _ k + pN (G k) * pN (cnG G k < x) = _
    rw [rank_min k, e]
    by_cases c : G k
    · rw [pN_t c]
      by_cases d : cnG G k < x
      · rw [pN_t d, if_pos (by omega), if_pos (by omega)]
      · rw [pN_f d, if_neg (show ¬ cnG G k + 1 ≤ x by omega)]
        by_cases f : cnG G k ≤ x
        · rw [if_pos f]; omega
        · rw [if_neg f]; omega
    · rw [pN_f c]; simp
theorem pay_all {G : Nat → Prop} {p : Nat → Nat} {C R : Nat} (hpos : 0 < alG G p R) : nS (fun r => pN (G r) * pyG G p C R r) R = C := by
  have h1 : nS (fun r => pN (G r) * pyG G p C R r) R = flG G p C (alG G p R) R + nS (fun r => pN (G r) * pN (cnG G r < C - flG G p C (alG G p R) R)) R := by
    show _ = nS _ R + _
    rw [← nS_add]
    exact nS_congr (fun r _ => by unfold pyG; rw [Nat.mul_add])
  have hC := fl_leC (C := C) hpos (Nat.le_refl R)
  have hr : C - flG G p C (alG G p R) R ≤ cnG G R := by
    have e : C * alG G p R ≤ alG G p R * flG G p C (alG G p R) R + alG G p R * cnG G R := by
      show C * nS _ R ≤ alG G p R * nS _ R + alG G p R * nS _ R
      rw [← nS_mul, ← nS_mul, ← nS_mul, ← nS_add]
      refine nS_le (fun j _ => ?_)
      by_cases c : G j
      · rw [pN_t c, Nat.one_mul, Nat.one_mul, Nat.mul_one]
        have := Nat.div_add_mod (C * p j) (alG G p R)
        have := Nat.mod_lt (C * p j) hpos
        omega
      · rw [pN_f c]; simp
    rw [← Nat.mul_add, Nat.mul_comm C] at e
    have := Nat.le_of_mul_le_mul_left e hpos
    omega
  rw [h1, rank_min]
  by_cases d : cnG G R ≤ C - flG G p C (alG G p R) R
  · rw [if_pos d]; omega
  · rw [if_neg d]; omega
theorem pyG_congr {G G' : Nat → Prop} {p : Nat → Nat} {C R r : Nat} (h : ∀ q, G q ↔ G' q) : pyG G p C R r = pyG G' p C R r := by
  have : G = G' := funext fun q => propext (h q)
  rw [this]
theorem pyG_le {G : Nat → Prop} {p : Nat → Nat} {C R r : Nat} : pyG G p C R r ≤ C * p r + 1 := by
  unfold pyG
  have := Nat.div_le_self (C * p r) (alG G p R)
  have := pN_le (cnG G r < C - flG G p C (alG G p R) R)
  omega
def peN (σ : StT) (k : Nat) : Nat := (σ.pe k).toInt.toNat
theorem pe_nI {σ : StT} {R : Nat} (V : SV σ R) {k : Nat} (hk : k < R) : σ.pe k = nI (peN σ k) ∧ 1 ≤ peN σ k ∧ peN σ k ≤ 4 := by
  have h := V.pe k hk
  have h1 : 1 ≤ peN σ k ∧ peN σ k ≤ 4 := by unfold peN; omega
  refine ⟨?_, h1⟩
  rw [z_eq, z_nI (by omega)]
  unfold peN; omega
theorem zS_nS {f : Nat → Int32} {g : Nat → Nat} : ∀ {k : Nat}, (∀ j, j < k → f j = nI (g j)) → zS f k = nI (nS g k)
  | 0, _ => rfl
  | k + 1, h => by
    show zS f k + f k = nI (nS g k + g k)
    rw [zS_nS (fun j hj => h j (by omega)), h k (by omega), z_a]
/-- who shares with r -/
def gR (σ : StT) (b : BT) (s : Bool) (r : Nat) : Nat → Prop := fun q => shS σ b s r q = true
theorem al_le {σ : StT} {R : Nat} (V : SV σ R) {G : Nat → Prop} : ∀ k, k ≤ R → alG G (peN σ) k ≤ 4 * k
  | 0, _ => Nat.le_refl _
  | k + 1, hk => by
    have := al_le V (G := G) k (by omega)
    have h2 := (pe_nI V (k := k) (by omega)).2
    show alG G (peN σ) k + pN (G k) * peN σ k ≤ _
    by_cases c : G k
    · rw [pN_t c]; omega
    · rw [pN_f c]; omega
theorem pl_al {σ : StT} {R : Nat} (V : SV σ R) {b : BT} {s : Bool} {r : Nat} {k : Nat} (hk : k ≤ R) : zS (plS σ b s r) k = nI (alG (gR σ b s r) (peN σ) k) := by
  refine zS_nS (fun j hj => ?_)
  unfold plS gR
  by_cases c : shS σ b s r j = true
  · rw [if_pos c, pN_t c, Nat.one_mul]; exact (pe_nI V (by omega)).1
  · rw [if_neg c, pN_f c, Nat.zero_mul]; rfl
theorem al_pos {σ : StT} {R : Nat} (V : SV σ R) {b : BT} {s : Bool} {r : Nat} (hr : r < R) : 0 < alG (gR σ b s r) (peN σ) R := by
  have h := pl_pos V (b := b) (s := s) hr
  have hR := V.hR
  have := al_le V (G := gR σ b s r) R (Nat.le_refl _)
  rw [pl_al V (Nat.le_refl _), z_nI (by omega)] at h
  omega
theorem lo_cn {σ : StT} {b : BT} {s : Bool} {r : Nat} : ∀ k, loS σ b s r k = nI (cnG (gR σ b s r) (if k ≤ r then k else r))
  | 0 => by rw [if_pos (by omega)]; rfl
  | k + 1 => by
    rw [loS, lo_cn k]
    by_cases c : k < r
    · rw [if_pos (show k ≤ r by omega), if_pos (show k + 1 ≤ r by omega), if_pos c]
      have e : cnG (gR σ b s r) (k + 1) = cnG (gR σ b s r) k + pN (gR σ b s r k) := rfl
      rw [e]
      by_cases g : shS σ b s r k = true
      · rw [if_pos g, pN_t (show gR σ b s r k from g), z_s]
      · rw [if_neg g, pN_f (show ¬ gR σ b s r k from g)]; rfl
    · rw [if_neg (show ¬ k + 1 ≤ r by omega), if_neg c]
      have e : (if k ≤ r then k else r) = r := by
        by_cases g : k ≤ r
        · rw [if_pos g]; omega
        · rw [if_neg g]
      rw [e]
      split <;> rfl
theorem ov_fl {σ : StT} {R : Nat} (V : SV σ R) {b : BT} {s : Bool} {r C : Nat} (hr : r < R) (hC : C ≤ 300) : ∀ k, k ≤ R → ovS σ b s r (nI C) (nI (alG (gR σ b s r) (peN σ) R)) k = nI (C - flG (gR σ b s r) (peN σ) C (alG (gR σ b s r) (peN σ) R) k)
  | 0, _ => rfl
  | k + 1, hk => by
    have hR := V.hR
    have hpos := al_pos V (b := b) (s := s) hr
    have hA := al_le V (G := gR σ b s r) R (Nat.le_refl _)
    have hle := fl_leC (C := C) hpos hk
    have e : flG (gR σ b s r) (peN σ) C (alG (gR σ b s r) (peN σ) R) (k + 1) = flG (gR σ b s r) (peN σ) C (alG (gR σ b s r) (peN σ) R) k + pN (gR σ b s r k) * (C * peN σ k / alG (gR σ b s r) (peN σ) R) := rfl
    rw [ovS, ov_fl V hr hC k (by omega)]
    rw [e] at hle ⊢
    obtain ⟨h1, h2, h3⟩ := pe_nI V (k := k) (by omega)
    by_cases g : shS σ b s r k = true
    · rw [pN_t (show gR σ b s r k from g), Nat.one_mul] at hle ⊢
      have hCp : C * peN σ k ≤ 300 * 4 := Nat.mul_le_mul hC h3
      rw [if_pos g, h1, z_m, pk_div (by omega) hpos (by omega), z_sN (by omega)]
      exact congrArg nI (by omega)
    · rw [if_neg g, pN_f (show ¬ gR σ b s r k from g), Nat.zero_mul, Nat.add_zero]
theorem fa_nI {σ : StT} {R : Nat} (V : SV σ R) {b : BT} {s : Bool} {r C : Nat} (hr : r < R) (hC : C ≤ 300) : faS σ b s r R (nI C) = nI (pyG (gR σ b s r) (peN σ) C R r) := by
  have hR := V.hR
  have hpos := al_pos V (b := b) (s := s) hr
  have hA := al_le V (G := gR σ b s r) R (Nat.le_refl _)
  obtain ⟨h1, h2, h3⟩ := pe_nI V hr
  have hCp : C * peN σ r ≤ 300 * 4 := Nat.mul_le_mul hC h3
  have hcn : cnG (gR σ b s r) r ≤ 24 := by
    have : ∀ k, cnG (gR σ b s r) k ≤ k := by
      intro k
      induction k with
      | zero => exact Nat.le_refl _
      | succ k ih =>
        have := pN_le (gR σ b s r k)
        show cnG (gR σ b s r) k + pN (gR σ b s r k) ≤ k + 1
        omega
    have := this r
    omega
  unfold faS pyG
  rw [pl_al V (Nat.le_refl _), ov_fl V hr hC R (Nat.le_refl _), lo_cn, if_neg (show ¬ R ≤ r by omega), h1, z_m, pk_div (by omega) hpos (by omega), z_s]
  generalize flG (gR σ b s r) (peN σ) C (alG (gR σ b s r) (peN σ) R) R = F
  by_cases c : cnG (gR σ b s r) r < C - F
  · rw [pN_t c, if_neg (by rw [z_leN (by omega) (by omega)]; omega)]
  · rw [pN_f c, if_pos (by rw [z_leN (by omega) (by omega)]; omega), Nat.add_zero]
/-- a group that has a member pays all -/
theorem al_posG {σ : StT} {R : Nat} (V : SV σ R) {G : Nat → Prop} {r : Nat} (hr : r < R) (h : G r) : 0 < alG G (peN σ) R := by
  have h1 : nS (fun k => pN (G k) * peN σ k) (r + 1) ≤ alG G (peN σ) R := nS_up (by omega)
  have h2 := (pe_nI V hr).2.1
  have e : nS (fun k => pN (G k) * peN σ k) (r + 1) = nS (fun k => pN (G k) * peN σ k) r + pN (G r) * peN σ r := rfl
  rw [e, pN_t h, Nat.one_mul] at h1
  omega
theorem se_nI {x : Int32} {m : Int} (h : 0 ≤ x.toInt ∧ x.toInt ≤ m) : x = nI x.toInt.toNat ∧ (x.toInt.toNat : Int) ≤ m := by
  have hb := x.toInt_lt
  refine ⟨?_, by omega⟩
  rw [z_eq, z_nI (by omega)]
  omega
theorem fv_sum {σ : StT} {R : Nat} (V : SV σ R) {b : BT} {van n : Nat} {ky wp : Nat → Int32} (s : ST σ b van R n ky wp) : zS (fvs σ b R van) R = if n = 0 then 0 else σ.se 3 + σ.se 4 * nI n := by
  obtain ⟨e3, l3⟩ := se_nI V.se3
  obtain ⟨e4, l4⟩ := se_nI V.se4
  generalize (σ.se 3).toInt.toNat = C3 at e3 l3
  generalize (σ.se 4).toInt.toNat = C4 at e4 l4
  have hR := V.hR
  have hn := s.le
  have hf : zS (fvs σ b R van) R = nI (nS (fun r => pN (b.1 r = some van) * pyG (fun q => b.1 q = some van) (peN σ) C3 R r + nS (fun j => pN (b.1 r = some van ∧ kyS σ r = ky j) * pyG (fun q => b.1 q = some van ∧ kyS σ q = ky j) (peN σ) C4 R r) n) R) := by
    refine zS_nS (fun r hr => ?_)
    unfold fvs
    by_cases c : b.1 r = some van
    · obtain ⟨j, hj, ej⟩ := s.all r hr c
      rw [if_pos c, pN_t c, Nat.one_mul, nS_sg (i := j) (fun i hi hne => by rw [pN_f (fun g => hne (s.uniq hi hj (g.2.symm.trans ej.symm))), Nat.zero_mul]) hj, pN_t ⟨c, ej.symm⟩, Nat.one_mul]
      unfold frS
      rw [c]
      show faS σ b false r R (σ.se 3) + faS σ b true r R (σ.se 4) = _
      rw [e3, e4, fa_nI V hr (by omega), fa_nI V hr (by omega), z_a]
      refine congrArg nI ?_
      rw [pyG_congr (G := gR σ b false r) (G' := fun q => b.1 q = some van) (fun q => ?_), pyG_congr (G := gR σ b true r) (G' := fun q => b.1 q = some van ∧ kyS σ q = ky j) (fun q => ?_)]
      · show shS σ b true r q = true ↔ _
        rw [shS_s, c, ej]
        exact ⟨fun g => ⟨g.1, g.2 rfl⟩, fun g => ⟨g.1, fun _ => g.2⟩⟩
      · show shS σ b false r q = true ↔ _
        rw [shS_s, c]
        exact ⟨fun g => g.1, fun g => ⟨g, fun a => by cases a⟩⟩
    · rw [if_neg c, pN_f c, Nat.zero_mul, nS_0 (fun j _ => by rw [pN_f (fun g => c g.1), Nat.zero_mul])]
      rfl
  rw [hf, nS_add, ← nS_swap (F := fun j r => pN (b.1 r = some van ∧ kyS σ r = ky j) * pyG (fun q => b.1 q = some van ∧ kyS σ q = ky j) (peN σ) C4 R r)]
  have h4 : nS (fun j => nS (fun r => pN (b.1 r = some van ∧ kyS σ r = ky j) * pyG (fun q => b.1 q = some van ∧ kyS σ q = ky j) (peN σ) C4 R r) R) n = C4 * n := by
    rw [nS_congr (g := fun j => C4 * 1) (fun j hj => ?_), nS_mul]
    · have : ∀ m, nS (fun _ => 1) m = m := by
        intro m
        induction m with
        | zero => rfl
        | succ m ih => show nS (fun _ => 1) m + 1 = m + 1; rw [ih]
      rw [this]
    · obtain ⟨r, hr, hb, e⟩ := s.mem j hj
      rw [Nat.mul_one]
      exact pay_all (G := fun q => b.1 q = some van ∧ kyS σ q = ky j) (al_posG V hr ⟨hb, e⟩)
  rw [h4]
  by_cases c : n = 0
  · rw [if_pos c]
    subst c
    rw [nS_0 (fun r hr => ?_)]
    · rfl
    · rw [pN_f (fun g => ?_), Nat.zero_mul]
      obtain ⟨j, hj, -⟩ := s.all r hr g
      omega
  · rw [if_neg c]
    obtain ⟨r, hr, hb, -⟩ := s.mem 0 (by omega)
    rw [pay_all (G := fun q => b.1 q = some van) (al_posG V hr hb), e3, e4, z_m, z_a]
theorem fr_all {σ : StT} {R : Nat} {b : BT} (h8 : B8 b) : zS (frS σ b R) R = zS (fun v => zS (fvs σ b R v) R) 8 := by
  rw [zS_swap]
  apply zS_congr
  intro r hr
  cases e : b.1 r with
  | none =>
    have : frS σ b R r = 0 := by unfold frS; rw [e]
    rw [this, zS_0 (fun v hv => ?_)]
    unfold fvs; rw [e]; rfl
  | some w =>
    have hw := h8 r w e
    have h1 : zS (fun v => fvs σ b R v r) 8 = zS (upd (fun _ => 0) w (frS σ b R r)) 8 := by
      apply zS_congr
      intro v hv
      unfold fvs
      rw [z_upd, e]
      by_cases c : v = w
      · rw [if_pos c, if_pos (by rw [c])]
      · rw [if_neg c, if_neg (fun g => c (Option.some.inj g).symm)]
    show frS σ b R r = zS (fun v => fvs σ b R v r) 8
    rw [h1, zS_upd rfl hw, zS_0 (fun _ _ => rfl), Int32.zero_add]
theorem coins {σ : StT} {R : Nat} (V : SV σ R) {b : BT} (h8 : B8 b) {N : Nat → Nat} {KY WP : Nat → Nat → Int32} (hs : ∀ v, v < 8 → ST σ b v R (N v) (KY v) (WP v)) {pn : Nat → Int32} (hp : ∀ v, v < 8 → (pn v ≤ 0 ↔ N v = 0)) : zS (frS σ b R) R = (zS (uvS pn) 8 * σ.se 3) + (zS (fun v => nI (N v)) 8 * σ.se 4) := by
  obtain ⟨e3, l3⟩ := se_nI V.se3
  obtain ⟨e4, l4⟩ := se_nI V.se4
  generalize (σ.se 3).toInt.toNat = C3 at e3 l3
  generalize (σ.se 4).toInt.toNat = C4 at e4 l4
  rw [fr_all h8, zS_nS (g := fun v => if N v = 0 then 0 else C3 + C4 * N v) (fun v hv => ?_), zS_nS (f := uvS pn) (g := fun v => if N v = 0 then 0 else 1) (fun v hv => ?_), zS_nS (f := fun v => nI (N v)) (g := N) (fun v hv => rfl), e3, e4, z_m, z_m, z_a]
  · refine congrArg nI ?_
    have : ∀ k, nS (fun v => if N v = 0 then 0 else C3 + C4 * N v) k = nS (fun v => if N v = 0 then 0 else 1) k * C3 + nS N k * C4 := by
      intro k
      induction k with
      | zero => simp [nS]
      | succ k ih =>
        show nS _ k + (if N k = 0 then 0 else C3 + C4 * N k) = (nS _ k + (if N k = 0 then 0 else 1)) * C3 + (nS N k + N k) * C4
        rw [ih, Nat.add_mul, Nat.add_mul, Nat.mul_comm (N k) C4]
        by_cases c : N k = 0
        · rw [if_pos c, if_pos c, c]; simp
        · rw [if_neg c, if_neg c, Nat.one_mul]; omega
    exact this 8
  · unfold uvS
    by_cases c : N v = 0
    · rw [if_pos ((hp v hv).mpr c), if_pos c]; rfl
    · rw [if_neg (fun g => c ((hp v hv).mp g)), if_neg c]; rfl
  · rw [fv_sum V (hs v hv)]
    by_cases c : N v = 0
    · rw [if_pos c, if_pos c]; rfl
    · rw [if_neg c, if_neg c, e3, e4, z_m, z_a]
/-- a van has people where it has riders -/
theorem bd_pos {σ : StT} {R : Nat} (V : SV σ R) {o : Nat → Nat} (ho : IsOrd (rdS σ) R o) : ∀ k, k ≤ R → ∀ v, v < 8 → (0 < ((bdS σ o k).2.1 v).toInt ↔ ∃ j, j < k ∧ (bdS σ o k).1 (o j) = some v)
  | 0, _ => fun v _ => ⟨fun h => by
      have h : 0 < (0 : Int32).toInt := h
      rw [z_00] at h
      omega, fun ⟨j, hj, _⟩ => absurd hj (by omega)⟩
  | k + 1, hk => by
    intro v hv
    have ih := bd_pos V ho k (by omega) v hv
    have B := (bdI V ho.lt k (by omega) v hv).1
    have B2 := (bdI V ho.lt (k + 1) hk v hv).1
    have hpe := V.pe (o k) (ho.lt k (by omega))
    have hne : ∀ j, j < k → o j ≠ o k := fun j hj e => by have := ho.inj (by omega) (by omega) e; omega
    have eV : (bdS σ o (k + 1)).1 = upO (bdS σ o k).1 (o k) (fvS σ (bdS σ o k).2.1 (bdS σ o k).2.2 (o k) 8) := stS_V
    have est : bdS σ o (k + 1) = stS σ (o k) (bdS σ o k) := rfl
    have old : ∀ j, j < k → (bdS σ o (k + 1)).1 (o j) = (bdS σ o k).1 (o j) := fun j hj => by rw [eV, upO_n (hne j hj)]
    have new : (bdS σ o (k + 1)).1 (o k) = fvS σ (bdS σ o k).2.1 (bdS σ o k).2.2 (o k) 8 := by rw [eV, upO_s]
    have ex : (∃ j, j < k + 1 ∧ (bdS σ o (k + 1)).1 (o j) = some v) ↔ ((∃ j, j < k ∧ (bdS σ o k).1 (o j) = some v) ∨ fvS σ (bdS σ o k).2.1 (bdS σ o k).2.2 (o k) 8 = some v) := by
      constructor
      · rintro ⟨j, hj, e⟩
        by_cases c : j = k
        · subst c; rw [new] at e; exact Or.inr e
        · rw [old j (by omega)] at e; exact Or.inl ⟨j, by omega, e⟩
      · rintro (⟨j, hj, e⟩ | e)
        · exact ⟨j, by omega, by rw [old j hj]; exact e⟩
        · exact ⟨k, by omega, by rw [new]; exact e⟩
    rw [ex]
    cases e : fvS σ (bdS σ o k).2.1 (bdS σ o k).2.2 (o k) 8 with
    | none =>
      have : (bdS σ o (k + 1)).2.1 = (bdS σ o k).2.1 := by rw [est]; unfold stS; rw [e]
      rw [this, ih]
      exact ⟨fun g => Or.inl g, fun g => g.elim id (fun a => by cases a)⟩
    | some w =>
      have hw := (fvS_some e).1
      have e2 : (bdS σ o (k + 1)).2.1 = upd (bdS σ o k).2.1 w ((bdS σ o k).2.1 w + σ.pe (o k)) := by rw [est]; unfold stS; rw [e]
      by_cases c : v = w
      · subst c
        rw [e2, z_us] at B2 ⊢
        have hsa := V.sa v hv
        have e3 := z_add (a := (bdS σ o k).2.1 v) (b := σ.pe (o k)) (by omega) (by omega)
        rw [e3]
        exact ⟨fun _ => Or.inr rfl, fun _ => by omega⟩
      · rw [e2, z_un c, ih]
        exact ⟨fun g => Or.inl g, fun g => g.elim id (fun a => absurd (Option.some.inj a).symm c)⟩
theorem BD_pos {σ : StT} {R : Nat} (V : SV σ R) {o : Nat → Nat} (ho : IsOrd (rdS σ) R o) {v n : Nat} (hv : v < 8) {ky wp : Nat → Int32} (s : ST σ (BD σ R) v R n ky wp) : (BD σ R).2.1 v ≤ 0 ↔ n = 0 := by
  have h := bd_pos V ho R (Nat.le_refl _) v hv
  rw [← BD_eq ho] at h
  have hn : n = 0 ↔ ¬ ∃ j, j < R ∧ (BD σ R).1 (o j) = some v := by
    constructor
    · rintro rfl ⟨j, hj, e⟩
      obtain ⟨i, hi, -⟩ := s.all _ (ho.lt j hj) e
      omega
    · intro g
      rcases Nat.eq_zero_or_pos n with c | c
      · exact c
      · obtain ⟨r, hr, hb, -⟩ := s.mem 0 c
        obtain ⟨j, hj, e⟩ := ho.sur r hr
        exact absurd ⟨j, hj, by rw [e]; exact hb⟩ g
  rw [hn, ← h, z_le, z_00]
  omega
