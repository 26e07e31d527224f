/-! ===== the plan: who gets which van ===== -/
def BT : Type := (Nat → Option Nat) × (Nat → Int32) × (Nat → Int32)
def upO (f : Nat → Option Nat) (k : Nat) (x : Option Nat) : Nat → Option Nat := fun j => if j = k then x else f j
theorem upO_s {f : Nat → Option Nat} {k : Nat} {x : Option Nat} : upO f k x k = x := if_pos rfl
theorem upO_n {f : Nat → Option Nat} {k j : Nat} {x : Option Nat} (h : j ≠ k) : upO f k x j = f j := if_neg h
def stS (σ : StT) (r : Nat) (b : BT) : BT :=
  match fvS σ b.2.1 b.2.2 r 8 with
  | none => (upO b.1 r none, b.2.1, b.2.2)
  | some v => (upO b.1 r (some v), upd b.2.1 v (b.2.1 v + σ.pe r), upd b.2.2 v (b.2.2 v ||| ((1 : Int32) <<< (σ.ar r &&& 31))))
def bdS (σ : StT) (o : Nat → Nat) : Nat → BT
  | 0 => (fun _ => none, fun _ => 0, fun _ => 0)
  | k + 1 => stS σ (o k) (bdS σ o k)
def BI (σ : StT) (b : BT) : Prop := ∀ v, v < 8 → (0 ≤ (b.2.1 v).toInt ∧ (b.2.1 v).toInt ≤ (σ.sa v).toInt) ∧ z_is (b.2.2 v) 64 ∧ (b.2.1 v = 0 ↔ b.2.2 v = 0)
theorem z_00 : (0 : Int32).toInt = 0 := by decide
theorem bdI {σ : StT} {R : Nat} (V : SV σ R) {o : Nat → Nat} (ho : ∀ k, k < R → o k < R) : ∀ k, k ≤ R → BI σ (bdS σ o k)
  | 0, _ => fun v hv => ⟨by have := V.sa v hv
                            show 0 ≤ (0 : Int32).toInt ∧ (0 : Int32).toInt ≤ _
                            rw [z_00]; omega, ⟨0, by omega, rfl⟩, ⟨fun _ => rfl, fun _ => rfl⟩⟩
  | k + 1, hk => by
    have ih := bdI V ho k (by omega)
    have hpe := V.pe (o k) (ho k (by omega))
    have har := V.ar (o k) (ho k (by omega))
    show BI σ (stS σ (o k) (bdS σ o k))
    unfold stS
    split
    · exact ih
    · next w e =>
      intro v hv
      obtain ⟨i1, i2, i3⟩ := ih v hv
      by_cases c : v = w
      · subst c
        have ht := (fvS_some e).2
        unfold tkS at ht
        rw [Bool.and_eq_true, Bool.and_eq_true, decide_eq_true_iff, decide_eq_true_iff] at ht
        have h2 := z_le.mp ht.2.1
        have hsa := V.sa v hv
        have e1 := z_add (a := (bdS σ o k).2.1 v) (b := σ.pe (o k)) (by omega) (by omega)
        show (0 ≤ (upd _ v _ v).toInt ∧ (upd _ v _ v).toInt ≤ _) ∧ z_is (upd _ v _ v) 64 ∧ (upd _ v _ v = 0 ↔ upd _ v _ v = 0)
        rw [z_us, z_us]
        have h3 := or_is i2 har
        refine ⟨by omega, h3.1, ⟨fun h => ?_, fun h => absurd h h3.2⟩⟩
        rw [z_eq, z_00] at h
        omega
      · show (0 ≤ (upd _ w _ v).toInt ∧ (upd _ w _ v).toInt ≤ _) ∧ z_is (upd _ w _ v) 64 ∧ (upd _ w _ v = 0 ↔ upd _ w _ v = 0)
        rw [z_un c, z_un c]
        exact ⟨i1, i2, i3⟩
theorem stS_V {σ : StT} {r : Nat} {b : BT} : (stS σ r b).1 = upO b.1 r (fvS σ b.2.1 b.2.2 r 8) := by
  unfold stS
  split
  · next e => rw [e]
  · next e => rw [e]
theorem bdV {σ : StT} {o : Nat → Nat} {k r v : Nat} (h : (bdS σ o k).1 r = some v) : v < 8 := by
  induction k with
  | zero => cases h
  | succ k ih =>
    have e : (bdS σ o (k + 1)).1 = upO (bdS σ o k).1 (o k) (fvS σ (bdS σ o k).2.1 (bdS σ o k).2.2 (o k) 8) := stS_V
    rw [e] at h
    by_cases c : r = o k
    · rw [c, upO_s] at h; exact (fvS_some h).1
    · rw [upO_n c] at h; exact ih h
/-- a sum that is gathered along the line -/
def SumI (o : Nat → Nat) (k R : Nat) (g : Nat → Int32) (s : Int32) : Prop := ∃ G : Nat → Int32, s = zS G R ∧ (∀ j, j < k → G (o j) = g (o j)) ∧ (∀ r, (∀ j, j < k → o j ≠ r) → G r = 0)
theorem SumI.nil {o : Nat → Nat} {R : Nat} {g : Nat → Int32} : SumI o 0 R g 0 := ⟨fun _ => 0, (zS_0 fun _ _ => rfl).symm, fun j hj => absurd hj (by omega), fun _ _ => rfl⟩
theorem SumI.next {f : Nat → Int32} {o : Nat → Nat} {k R : Nat} {g g' : Nat → Int32} {s : Int32} (ho : IsOrd f R o) (hk : k < R) (h : SumI o k R g s) (hg : ∀ j, j < k → g' (o j) = g (o j)) : SumI o (k + 1) R g' (s + g' (o k)) := by
  obtain ⟨G, h1, h2, h3⟩ := h
  have h4 : G (o k) = 0 := h3 _ (fun j hj e => by have := ho.inj (by omega) hk e; omega)
  refine ⟨upd G (o k) (g' (o k)), ?_, ?_, ?_⟩
  · rw [zS_upd h4 (ho.lt k hk), h1]
  · intro j hj
    by_cases c : j = k
    · rw [c, z_us]
    · rw [z_un (fun e => c (ho.inj (by omega) hk e)), h2 j (by omega), hg j (by omega)]
  · intro r hr
    rw [z_un (fun e => hr k (by omega) e.symm)]
    exact h3 r (fun j hj => hr j (by omega))
theorem SumI.done {f : Nat → Int32} {o : Nat → Nat} {R : Nat} {g : Nat → Int32} {s : Int32} (ho : IsOrd f R o) (h : SumI o R R g s) : s = zS g R := by
  obtain ⟨G, h1, h2, -⟩ := h
  rw [h1]
  apply zS_congr
  intro r hr
  obtain ⟨k, hk, e⟩ := ho.sur r hr
  rw [← e]; exact h2 k hk
def g1 (V : Nat → Option Nat) (r : Nat) : Int32 := match V r with | none => 1 | some _ => 0
def g2 (σ : StT) (V : Nat → Option Nat) (r : Nat) : Int32 := match V r with | none => σ.pe r | some _ => 0
def g3 (σ : StT) (V : Nat → Option Nat) (r : Nat) : Int32 := match V r with | none => 0 | some v => σ.pe r * (σ.le v - rdS σ r)
/-- what the class keeps of a plan -/
def XP (σ : StT) (R : Nat) (o : Nat → Nat) (rd : Nat → Int32) (vn : Nat → Int32) (pn : Nat → Int32) (ao : Nat → Int32) (sr : Int32) (sp : Int32) (wt : Int32) : Prop := (IsOrd (rdS σ) R o) ∧ (∀ r, r < R → rd r = rdS σ r) ∧ (∀ r, r < R → vn r = enc ((bdS σ o R).1 r)) ∧ (∀ v, v < 8 → pn v = (bdS σ o R).2.1 v) ∧ (∀ v, v < 8 → ao v = (bdS σ o R).2.2 v) ∧ (sr = zS (g1 (bdS σ o R).1) R) ∧ (sp = zS (g2 σ (bdS σ o R).1) R) ∧ (wt = zS (g3 σ (bdS σ o R).1) R)
theorem XP.ord {σ : StT} {R : Nat} {o : Nat → Nat} {rd : Nat → Int32} {vn : Nat → Int32} {pn : Nat → Int32} {ao : Nat → Int32} {sr : Int32} {sp : Int32} {wt : Int32} (h : XP σ R o rd vn pn ao sr sp wt) : IsOrd (rdS σ) R o := h.1
theorem XP.rd {σ : StT} {R : Nat} {o : Nat → Nat} {rd : Nat → Int32} {vn : Nat → Int32} {pn : Nat → Int32} {ao : Nat → Int32} {sr : Int32} {sp : Int32} {wt : Int32} (h : XP σ R o rd vn pn ao sr sp wt) : ∀ r, r < R → rd r = rdS σ r := h.2.1
theorem XP.vn {σ : StT} {R : Nat} {o : Nat → Nat} {rd : Nat → Int32} {vn : Nat → Int32} {pn : Nat → Int32} {ao : Nat → Int32} {sr : Int32} {sp : Int32} {wt : Int32} (h : XP σ R o rd vn pn ao sr sp wt) : ∀ r, r < R → vn r = enc ((bdS σ o R).1 r) := h.2.2.1
theorem XP.pn {σ : StT} {R : Nat} {o : Nat → Nat} {rd : Nat → Int32} {vn : Nat → Int32} {pn : Nat → Int32} {ao : Nat → Int32} {sr : Int32} {sp : Int32} {wt : Int32} (h : XP σ R o rd vn pn ao sr sp wt) : ∀ v, v < 8 → pn v = (bdS σ o R).2.1 v := h.2.2.2.1
theorem XP.ao {σ : StT} {R : Nat} {o : Nat → Nat} {rd : Nat → Int32} {vn : Nat → Int32} {pn : Nat → Int32} {ao : Nat → Int32} {sr : Int32} {sp : Int32} {wt : Int32} (h : XP σ R o rd vn pn ao sr sp wt) : ∀ v, v < 8 → ao v = (bdS σ o R).2.2 v := h.2.2.2.2.1
theorem XP.sr {σ : StT} {R : Nat} {o : Nat → Nat} {rd : Nat → Int32} {vn : Nat → Int32} {pn : Nat → Int32} {ao : Nat → Int32} {sr : Int32} {sp : Int32} {wt : Int32} (h : XP σ R o rd vn pn ao sr sp wt) : sr = zS (g1 (bdS σ o R).1) R := h.2.2.2.2.2.1
theorem XP.sp {σ : StT} {R : Nat} {o : Nat → Nat} {rd : Nat → Int32} {vn : Nat → Int32} {pn : Nat → Int32} {ao : Nat → Int32} {sr : Int32} {sp : Int32} {wt : Int32} (h : XP σ R o rd vn pn ao sr sp wt) : sp = zS (g2 σ (bdS σ o R).1) R := h.2.2.2.2.2.2.1
theorem XP.wt {σ : StT} {R : Nat} {o : Nat → Nat} {rd : Nat → Int32} {vn : Nat → Int32} {pn : Nat → Int32} {ao : Nat → Int32} {sr : Int32} {sp : Int32} {wt : Int32} (h : XP σ R o rd vn pn ao sr sp wt) : wt = zS (g3 σ (bdS σ o R).1) R := h.2.2.2.2.2.2.2
theorem X_bone {P : (Nat → Int32) → (Nat → Int32) → (Nat → Int32) → Int32 → Int32 → Int32 → Prop} {σ : StT} {R : Nat} (V : SV σ R) {pl : PlT} {r : Nat} (hr : r < R) (hrd : pl.rd r = rdS σ r) (hao : ∀ v, v < 8 → z_is (pl.ao v) 64) {c : Option Nat} (ec : fvS σ pl.pn pl.ao r 8 = c)
    (h0 : c = none → P (upd pl.vn r (enc none)) pl.pn pl.ao (pl.sr + 1) (pl.sp + σ.pe r) pl.wt)
    (h1 : ∀ w, w < 8 → c = some w → P (upd pl.vn r (enc (some w))) (upd pl.pn w (pl.pn w + σ.pe r)) (upd pl.ao w (pl.ao w ||| ((1 : Int32) <<< (σ.ar r &&& 31)))) pl.sr pl.sp (pl.wt + (σ.pe r * (σ.le w - rdS σ r)))) : wp_X2_boardOne P pl σ (nI r) := by
  have hR := V.hR
  refine ⟨z_in (by omega) (by omega), X_fv V hr hrd hao ?_⟩
  rw [ec]
  refine ⟨z_in (by omega) (by omega), ?_⟩
  cases c with
  | none =>
    refine z_in_f 7 (by omega) ?_ ⟨z_b0, z_f ?_⟩
    · rw [z_is_iff (by omega)]; decide
    rw [z_cl (by omega)]
    exact h0 rfl
  | some w =>
    have hw := (fvS_some ec).1
    refine z_in_t 7 (by omega) ⟨w, hw, rfl⟩ ⟨z_b1, z_t ?_⟩
    have ew : (enc (some w)).toNatClampNeg = w := z_cl (by omega)
    have iw : vp_in (enc (some w)) 8 := z_in hw (by omega)
    refine ⟨iw, iw, iw, z_in (by omega) (by omega), iw, iw, z_in (by omega) (by omega), ?_⟩
    rw [z_cl (by omega), ew, hrd]
    exact h1 w hw rfl
theorem X_board {P : (Nat → Int32) → (Nat → Int32) → (Nat → Int32) → Int32 → Int32 → Int32 → Prop} {σ : StT} {R : Nat} (V : SV σ R) {o : Nat → Nat} (ho : IsOrd (rdS σ) R o) {pl : PlT} (hod : ∀ j, j < R → pl.od j = nI (o j)) (hrd : ∀ r, r < R → pl.rd r = rdS σ r)
    (h : ∀ vn pn ao sr sp wt, XP σ R o pl.rd vn pn ao sr sp wt → P vn pn ao sr sp wt) : wp_X2_board P pl σ := by
  have hR := V.hR
  have main : ∀ d k, k + d = R → ∀ (vn pn ao : Nat → Int32) (sr sp wt : Int32), (∀ j, j < k → vn (o j) = enc ((bdS σ o k).1 (o j))) → (∀ v, v < 8 → pn v = (bdS σ o k).2.1 v) → (∀ v, v < 8 → ao v = (bdS σ o k).2.2 v) → SumI o k R (g1 (bdS σ o k).1) sr → SumI o k R (g2 σ (bdS σ o k).1) sp → SumI o k R (g3 σ (bdS σ o k).1) wt → wp_X2_board_45 P pl σ (d + 1) (nI k) vn pn ao sr sp wt := by
    intro d
    induction d with
    | zero =>
      intro k hk vn pn ao sr sp wt h1 h2 h3 h4 h5 h6
      have e : k = R := by omega
      subst e
      refine z_y (by rw [V.ri, z_leN (by omega) (by omega)]; omega) (h _ _ _ _ _ _ ⟨ho, hrd, ?_, h2, h3, h4.done ho, h5.done ho, h6.done ho⟩)
      intro r hr
      obtain ⟨j, hj, e⟩ := ho.sur r hr
      rw [← e]; exact h1 j hj
    | succ d ih =>
      intro k hk vn pn ao sr sp wt h1 h2 h3 h4 h5 h6
      have hok := ho.lt k (by omega)
      have B := bdI V ho.lt k (by omega)
      refine z_n (by rw [V.ri, z_leN (by omega) (by omega)]; omega) ⟨z_in (by omega) (by omega), ?_⟩
      have hne : ∀ j, j < k → o j ≠ o k := fun j hj e => by have := ho.inj (by omega) (by omega) e; omega
      have eV : (bdS σ o (k + 1)).1 = upO (bdS σ o k).1 (o k) (fvS σ (bdS σ o k).2.1 (bdS σ o k).2.2 (o k) 8) := stS_V
      have ef : fvS σ pn ao (o k) 8 = fvS σ (bdS σ o k).2.1 (bdS σ o k).2.2 (o k) 8 := by
        have tk : ∀ v, v < 8 → tkS σ pn ao (o k) v = tkS σ (bdS σ o k).2.1 (bdS σ o k).2.2 (o k) v := by
          intro v hv; unfold tkS; rw [h2 v hv, h3 v hv]
        have : ∀ n, n ≤ 8 → fvS σ pn ao (o k) n = fvS σ (bdS σ o k).2.1 (bdS σ o k).2.2 (o k) n := by
          intro n
          induction n with
          | zero => intro _; rfl
          | succ n ih2 => intro hn; simp only [fvS, ih2 (by omega), tk n (by omega)]
        exact this 8 (by omega)
      have est : bdS σ o (k + 1) = stS σ (o k) (bdS σ o k) := rfl
      have old : ∀ j, j < k → (bdS σ o (k + 1)).1 (o j) = (bdS σ o k).1 (o j) := fun j hj => by rw [eV, upO_n (hne j hj)]
      have new : (bdS σ o (k + 1)).1 (o k) = fvS σ (bdS σ o k).2.1 (bdS σ o k).2.2 (o k) 8 := by rw [eV, upO_s]
      have n4 := h4.next (g' := g1 (bdS σ o (k + 1)).1) ho (by omega) (fun j hj => by unfold g1; rw [old j hj])
      have n5 := h5.next (g' := g2 σ (bdS σ o (k + 1)).1) ho (by omega) (fun j hj => by unfold g2; rw [old j hj])
      have n6 := h6.next (g' := g3 σ (bdS σ o (k + 1)).1) ho (by omega) (fun j hj => by unfold g3; rw [old j hj])
      have hvn : ∀ j, j < k + 1 → upd vn (o k) (enc (fvS σ (bdS σ o k).2.1 (bdS σ o k).2.2 (o k) 8)) (o j) = enc ((bdS σ o (k + 1)).1 (o j)) := by
        intro j hj
        by_cases c : j = k
        · rw [c, z_us, new]
        · rw [z_un (hne j (by omega)), old j (by omega)]; exact h1 j (by omega)
      have hz : ∀ v, v < 8 → z_is (ao v) 64 := fun v hv => by rw [h3 v hv]; exact (B v hv).2.1
      generalize hc : fvS σ (bdS σ o k).2.1 (bdS σ o k).2.2 (o k) 8 = c at ef new hvn
      have q0 : c = none → wp_X2_board_45 P pl σ (d + 1) (nI (k + 1)) (upd vn (o k) (enc none)) pn ao (sr + 1) (sp + σ.pe (o k)) wt := by
        intro e
        rw [e] at hc new hvn
        refine ih (k + 1) (by omega) _ _ _ _ _ _ hvn ?_ ?_ ?_ ?_ ?_
        · rw [est]; unfold stS; rw [hc]; exact h2
        · rw [est]; unfold stS; rw [hc]; exact h3
        · have : g1 (bdS σ o (k + 1)).1 (o k) = 1 := by unfold g1; rw [new]
          rw [this] at n4; exact n4
        · have : g2 σ (bdS σ o (k + 1)).1 (o k) = σ.pe (o k) := by unfold g2; rw [new]
          rw [this] at n5; exact n5
        · have : g3 σ (bdS σ o (k + 1)).1 (o k) = 0 := by unfold g3; rw [new]
          rw [this, z_a0] at n6; exact n6
      have q1 : ∀ w, w < 8 → c = some w → wp_X2_board_45 P pl σ (d + 1) (nI (k + 1)) (upd vn (o k) (enc (some w))) (upd pn w (pn w + σ.pe (o k))) (upd ao w (ao w ||| ((1 : Int32) <<< (σ.ar (o k) &&& 31)))) sr sp (wt + (σ.pe (o k) * (σ.le w - rdS σ (o k)))) := by
        intro w hw e
        rw [e] at hc new hvn
        refine ih (k + 1) (by omega) _ _ _ _ _ _ hvn ?_ ?_ ?_ ?_ ?_
        · rw [est]; unfold stS; rw [hc]
          intro v hv
          show upd pn w (pn w + σ.pe (o k)) v = upd _ w _ v
          rw [z_upd, z_upd, h2 v hv, h2 w hw]
        · rw [est]; unfold stS; rw [hc]
          intro v hv
          show upd ao w (ao w ||| _) v = upd _ w _ v
          rw [z_upd, z_upd, h3 v hv, h3 w hw]
        · have : g1 (bdS σ o (k + 1)).1 (o k) = 0 := by unfold g1; rw [new]
          rw [this, z_a0] at n4; exact n4
        · have : g2 σ (bdS σ o (k + 1)).1 (o k) = 0 := by unfold g2; rw [new]
          rw [this, z_a0] at n5; exact n5
        · have : g3 σ (bdS σ o (k + 1)).1 (o k) = σ.pe (o k) * (σ.le w - rdS σ (o k)) := by unfold g3; rw [new]
          rw [this] at n6; exact n6
      rw [z_cl (by omega), hod k (by omega), z_s]
      exact X_bone V hok (pl := mkPl pl.od pl.rd vn pn ao sr sp wt) (hrd _ hok) hz ef q0 q1
  suffices hh : ∃ n, ∀ (pn ao : Nat → Int32), (∀ v, v < 0 → pn v = 0) → (∀ v, v < 0 → ao v = 0) → wp_X2_board_2 P pl σ pl.vn pl.sr pl.sp pl.wt n (nI 0) pn ao by
    obtain ⟨n, hn⟩ := hh
    exact ⟨n, hn _ _ (fun v hv => absurd hv (by omega)) (fun v hv => absurd hv (by omega))⟩
  refine z_up (fun n k => ∀ (pn ao : Nat → Int32), (∀ v, v < k → pn v = 0) → (∀ v, v < k → ao v = 0) → wp_X2_board_2 P pl σ pl.vn pl.sr pl.sp pl.wt n (nI k) pn ao) 8 (fun n => ?_) (fun n k hk ih => ?_) 0 (by omega)
  · intro pn ao h1 h2
    exact z_y (by decide) ⟨R + 1, main R 0 (by omega) _ _ _ _ _ _ (fun j hj => absurd hj (by omega)) h1 h2 SumI.nil SumI.nil SumI.nil⟩
  · intro pn ao h1 h2
    refine z_n (by rw [show (8 : Int32) = nI 8 from rfl, z_leN (by omega) (by omega)]; omega) ⟨z_in hk (by omega), z_in hk (by omega), ?_⟩
    rw [z_s, z_cl (by omega)]
    refine ih _ _ (fun v hv => ?_) (fun v hv => ?_)
    · rw [z_upd]; split
      · rfl
      · exact h1 v (by omega)
    · rw [z_upd]; split
      · rfl
      · exact h2 v (by omega)
theorem X_make {P : (Nat → Int32) → (Nat → Int32) → (Nat → Int32) → (Nat → Int32) → (Nat → Int32) → Int32 → Int32 → Int32 → Prop} {σ : StT} {R : Nat} (V : SV σ R) {pl : PlT}
    (h : ∀ od rd vn pn ao sr sp wt o, XP σ R o rd vn pn ao sr sp wt → P od rd vn pn ao sr sp wt) : wp_X2_make P pl σ :=
  X_lineUp V (fun od rd o ho h1 h2 => X_board V ho h1 h2 (fun vn pn ao sr sp wt hx => h od rd vn pn ao sr sp wt o hx))
