/-! ===== the reference's stops ===== -/
theorem ky_is {σ : StT} {R : Nat} (V : SV σ R) {b : BT} {van n : Nat} {ky wp : Nat → Int32} (s : ST σ b van R n ky wp) {j : Nat} (hj : j < n) : z_is (ky j) 600 := by
  obtain ⟨r, hr, -, e⟩ := s.mem j hj
  rw [← e]; exact key_is V hr
theorem z_div {a : Nat} (h : a < 600) : nI a / (100 : Int32) = nI (a / 100) := pk_div (d := 100) (by omega) (by omega) (by omega)
theorem ky_area {σ : StT} {R : Nat} (V : SV σ R) {b : BT} {van n : Nat} {ky wp : Nat → Int32} (s : ST σ b van R n ky wp) {j : Nat} (hj : j + 1 < n) : ∃ a c : Nat, a ≤ c ∧ c < 6 ∧ ky j / (100 : Int32) = nI a ∧ ky (j + 1) / (100 : Int32) = nI c := by
  obtain ⟨x, hx, ex⟩ := ky_is V s (j := j) (by omega)
  obtain ⟨y, hy, ey⟩ := ky_is V s hj
  have := s.inc j (j + 1) (by omega) hj
  rw [ex, ey, z_nI (by omega), z_nI (by omega)] at this
  exact ⟨x / 100, y / 100, by omega, by omega, by rw [ex, z_div hx], by rw [ey, z_div hy]⟩
/-- the least key behind last, of the riders below i in the van -/
def LkI (σ : StT) (b : BT) (van : Nat) (last : Int) (i : Nat) (x : Int32) : Prop :=
  (x = 1000 ∨ ∃ r, r < i ∧ b.1 r = some van ∧ kyS σ r = x ∧ last < x.toInt) ∧ ∀ r, r < i → b.1 r = some van → last < (kyS σ r).toInt → x.toInt ≤ (kyS σ r).toInt
theorem LkI.keep {σ : StT} {b : BT} {van i : Nat} {last : Int} {x : Int32} (h : LkI σ b van last i x) (hn : b.1 i = some van → last < (kyS σ i).toInt → x.toInt ≤ (kyS σ i).toInt) : LkI σ b van last (i + 1) x := by
  obtain ⟨h1, h2⟩ := h
  refine ⟨?_, fun r hr hb hl => ?_⟩
  · rcases h1 with h1 | ⟨r, a, b', c, d⟩
    · exact Or.inl h1
    · exact Or.inr ⟨r, by omega, b', c, d⟩
  · by_cases c : r = i
    · subst c; exact hn hb hl
    · exact h2 r (by omega) hb hl
theorem z_1000 : (1000 : Int32).toInt = 1000 := by decide
/-- what last stands for: nothing yet, or the stop before -/
def lstS (ky : Nat → Int32) : Nat → Int32
  | 0 => -1
  | j + 1 => ky j
theorem M_layStops {P : (Nat → Int32) → (Nat → Int32) → Int32 → Prop} {σ : StT} {R : Nat} {M Mvf Msa0 Msm0 : Nat → Int32} {Mso0 : Int32} (V : SV σ R) (m : SM σ R M) {o : Nat → Nat} (hv : ∀ r, r < R → Mvf r = enc ((bdS σ o R).1 r)) {van : Nat} (hvan : van < 8) {n : Nat} {ky wp : Nat → Int32} (s : ST σ (bdS σ o R) van R n ky wp)
    (h : ∀ Msa Msm, (∀ j, j < n → Msa j = ky j) → (∀ j, j < n → Msm j = mnS (σ.le van) ky j) → P Msa Msm (nI n)) : wp_X6_layStops P M Mvf Msa0 Msm0 Mso0 (nI van) := by
  have hR := V.hR
  have hn := s.le
  have main : ∀ d q, q + d = n → ∀ Msa Msm : Nat → Int32, (∀ j, j < q → Msa j = ky j) → (∀ j, j < q → Msm j = mnS (σ.le van) ky j) → wp_X6_layStops_9 P M Mvf (nI van) (d + 2) (lstS ky q) 1 Msa Msm (nI q) := by
    intro d
    induction d with
    | zero =>
      intro q hq Msa Msm h1 h2
      have eq : q = n := by omega
      subst eq
      refine z_n z_10 ?_
      suffices hh : ∃ f, ∀ x, LkI σ (bdS σ o R) van (lstS ky q).toInt 0 x → wp_X6_layStops_21 P M Mvf (nI van) (wp_X6_layStops_9 P M Mvf (nI van) 1) (lstS ky q) Msa Msm (nI q) f x (nI 0) by
        obtain ⟨f, hf⟩ := hh
        exact ⟨f, hf _ ⟨Or.inl rfl, fun r hr => absurd hr (by omega)⟩⟩
      refine z_up (fun f i => ∀ x, LkI σ (bdS σ o R) van (lstS ky q).toInt i x → wp_X6_layStops_21 P M Mvf (nI van) (wp_X6_layStops_9 P M Mvf (nI van) 1) (lstS ky q) Msa Msm (nI q) f x (nI i)) R (fun f => ?_) (fun f i hi ih => ?_) 0 (by omega)
      · intro x hx
        refine z_y (by rw [z_c33, m.ri, z_leN (by omega) (by omega)]; omega) ?_
        have ex : x = 1000 := by
          rcases hx.1 with e | ⟨r, a, b', c, e⟩
          · exact e
          · obtain ⟨j, hj, e2⟩ := s.all r a b'
            cases q with
            | zero => omega
            | succ q =>
              have e3 : (lstS ky (q + 1)).toInt = (ky q).toInt := rfl
              rw [← c, ← e2] at e
              by_cases g : j = q
              · subst g; omega
              · have := s.inc j q (by omega) (by omega); omega
        rw [ex]
        exact z_y (by decide) (z_y rfl (z_y rfl (h Msa Msm h1 h2)))
      · intro x hx
        refine z_n (by rw [z_c33, m.ri, z_leN (by omega) (by omega)]; omega) ⟨z_in (by omega) (by omega), ?_⟩
        rw [z_cl (by omega), hv i hi]
        have skip : ¬ (bdS σ o R).1 i = some van → LkI σ (bdS σ o R) van (lstS ky q).toInt (i + 1) x := fun c => hx.keep (fun e => absurd e c)
        unfold wp_X6_layStops_70
        rw [z_s]
        by_cases c : (bdS σ o R).1 i = some van
        · refine z_y' (by rw [c]; rfl) (M_key V m hi ?_)
          by_cases g : kyS σ i ≤ lstS ky q
          · exact z_y g (z_f' (ih x (hx.keep (fun _ e => by rw [z_le] at g; omega))))
          · refine z_n g (M_key V m hi ?_)
            by_cases g2 : x ≤ kyS σ i
            · exact z_y g2 (z_f' (ih x (hx.keep (fun _ _ => z_le.mp g2))))
            · refine z_n g2 (z_t' (M_key V m hi (ih _ ?_)))
              rw [z_le] at g g2
              refine ⟨Or.inr ⟨i, by omega, c, rfl, by omega⟩, fun r hr hb hl => ?_⟩
              by_cases g3 : r = i
              · subst g3; omega
              · have := hx.2 r (by omega) hb hl; omega
        · refine z_n' ?_ (z_f' (ih x (skip c)))
          intro e
          apply c
          cases g : (bdS σ o R).1 i with
          | none => rw [g] at e; exact absurd e.symm (z_106 van (by omega))
          | some v =>
            rw [g] at e
            have := bdV g
            rw [(z_eqN (by omega) (by omega)).mp e]
    | succ d IH =>
      intro q hq Msa Msm h1 h2
      refine z_n z_10 ?_
      suffices hh : ∃ f, ∀ x, LkI σ (bdS σ o R) van (lstS ky q).toInt 0 x → wp_X6_layStops_21 P M Mvf (nI van) (wp_X6_layStops_9 P M Mvf (nI van) (d + 2)) (lstS ky q) Msa Msm (nI q) f x (nI 0) by
        obtain ⟨f, hf⟩ := hh
        exact ⟨f, hf _ ⟨Or.inl rfl, fun r hr => absurd hr (by omega)⟩⟩
      refine z_up (fun f i => ∀ x, LkI σ (bdS σ o R) van (lstS ky q).toInt i x → wp_X6_layStops_21 P M Mvf (nI van) (wp_X6_layStops_9 P M Mvf (nI van) (d + 2)) (lstS ky q) Msa Msm (nI q) f x (nI i)) R (fun f => ?_) (fun f i hi ih => ?_) 0 (by omega)
      · intro x hx
        refine z_y (by rw [z_c33, m.ri, z_leN (by omega) (by omega)]; omega) ?_
        have kb : ∀ j, j < n → 0 ≤ (ky j).toInt ∧ (ky j).toInt < 600 := fun j hj => (z_is_iff (N := 600) (by omega)).mp (ky_is V s hj)
        have lt : (lstS ky q).toInt < (ky q).toInt := by
          cases q with
          | zero => have := kb 0 (by omega)
                    have e : (lstS ky 0).toInt = -1 := (by decide : (-1 : Int32).toInt = -1)
                    omega
          | succ q => exact s.inc q (q + 1) (by omega) (by omega)
        obtain ⟨r0, a0, b0, c0⟩ := s.mem q (by omega)
        have le := hx.2 r0 a0 b0 (by rw [c0]; exact lt)
        rw [c0] at le
        have ex : x = ky q := by
          rcases hx.1 with e | ⟨r, a, b', c, e⟩
          · have := kb q (by omega); rw [e, z_1000] at le; omega
          · obtain ⟨j, hj, e2⟩ := s.all r a b'
            rw [c] at e2
            rw [← e2] at e le ⊢
            have : j = q := by
              rcases Nat.lt_trichotomy j q with g | g | g
              · cases q with
                | zero => omega
                | succ q =>
                  have e3 : (lstS ky (q + 1)).toInt = (ky q).toInt := rfl
                  by_cases g2 : j = q
                  · subst g2; omega
                  · have := s.inc j q (by omega) (by omega); omega
              · exact g
              · have := s.inc q j g hj; omega
            rw [this]
        rw [ex]
        have k1 := kb q (by omega)
        refine z_n (by rw [z_le, z_1000]; omega) (z_n z_10 ?_)
        have ext1 : ∀ j, j < q + 1 → upd Msa q (ky q) j = ky j := by
          intro j hj
          by_cases c : j = q
          · rw [c, z_us]
          · rw [z_un c]; exact h1 j (by omega)
        have ext2 : ∀ y, y = mnS (σ.le van) ky q → ∀ j, j < q + 1 → upd Msm q y j = mnS (σ.le van) ky j := by
          intro y hy j hj
          by_cases c : j = q
          · rw [c, z_us]; exact hy
          · rw [z_un c]; exact h2 j (by omega)
        have fin : ∀ y, y = mnS (σ.le van) ky q → wp_X6_layStops_9 P M Mvf (nI van) (d + 2) (ky q) 1 (upd Msa q (ky q)) (upd Msm q y) (nI q + 1) := by
          intro y hy
          rw [z_s]
          exact IH (q + 1) (by omega) _ _ ext1 (ext2 y hy)
        have iq : vp_in (nI q) 24 := z_in (by omega) (by omega)
        have cq : (nI q).toNatClampNeg = q := z_cl (by omega)
        cases q with
        | zero =>
          have e17 : (17 : Int32) + nI van = nI (17 + van) := z_a 17 van
          refine z_y' rfl ⟨iq, z_y' rfl ⟨by rw [e17]; exact z_in (by omega) (by omega), iq, ?_⟩⟩
          rw [e17, z_cl (n := 17 + van) (by omega), m.le van hvan, cq]
          refine fin _ ?_
          show _ = (σ.le van + (10 : Int32)) + _
          rw [Int32.add_comm ((10 : Int32) + _), Int32.add_assoc]
        | succ q =>
          have ne : ¬ nI (q + 1) = 0 := by rw [show (0 : Int32) = nI 0 from rfl, z_eqN (by omega) (by omega)]; omega
          have ip : vp_in (nI q) 24 := z_in (by omega) (by omega)
          obtain ⟨a, c, hac, hc, ea, ec⟩ := ky_area V s (j := q) (by omega)
          refine z_n' ne ?_
          have el : lstS ky (q + 1) = ky q := rfl
          rw [el, ea, ec]
          have tail : ∀ w0 y, y = w0 + Msm q → y = mnS (σ.le van) ky (q + 1) → wp_X6_layStops_162 P M Mvf (nI van) (wp_X6_layStops_9 P M Mvf (nI van) (d + 2)) 1 (ky (q + 1)) w0 Msa Msm (nI (q + 1)) := by
            intro w0 y hy hy2
            refine ⟨iq, z_n' ne ?_⟩
            rw [z_p]
            refine ⟨ip, iq, ?_⟩
            rw [cq, z_cl (by omega), ← hy]
            exact fin y hy2
          by_cases g : a = c
          · refine z_y' (by rw [g]) (tail _ _ rfl ?_)
            rw [mnS, if_pos (by rw [ea, ec, g, Int32.sub_self]; decide), h2 q (by omega), Int32.add_comm]
          · refine z_n' (by rw [z_eqN (by omega) (by omega)]; omega) (tail _ _ rfl ?_)
            rw [mnS, if_neg (by rw [ea, ec, z_sN hac, show (0 : Int32) = nI 0 from rfl, z_leN (by omega) (by omega)]; omega), ea, ec, h2 q (by omega), Int32.add_comm]
      · intro x hx
        refine z_n (by rw [z_c33, m.ri, z_leN (by omega) (by omega)]; omega) ⟨z_in (by omega) (by omega), ?_⟩
        rw [z_cl (by omega), hv i hi]
        have skip : ¬ (bdS σ o R).1 i = some van → LkI σ (bdS σ o R) van (lstS ky q).toInt (i + 1) x := fun c => hx.keep (fun e => absurd e c)
        unfold wp_X6_layStops_70
        rw [z_s]
        by_cases c : (bdS σ o R).1 i = some van
        · refine z_y' (by rw [c]; rfl) (M_key V m hi ?_)
          by_cases g : kyS σ i ≤ lstS ky q
          · exact z_y g (z_f' (ih x (hx.keep (fun _ e => by rw [z_le] at g; omega))))
          · refine z_n g (M_key V m hi ?_)
            by_cases g2 : x ≤ kyS σ i
            · exact z_y g2 (z_f' (ih x (hx.keep (fun _ _ => z_le.mp g2))))
            · refine z_n g2 (z_t' (M_key V m hi (ih _ ?_)))
              rw [z_le] at g g2
              refine ⟨Or.inr ⟨i, by omega, c, rfl, by omega⟩, fun r hr hb hl => ?_⟩
              by_cases g3 : r = i
              · subst g3; omega
              · have := hx.2 r (by omega) hb hl; omega
        · refine z_n' ?_ (z_f' (ih x (skip c)))
          intro e
          apply c
          cases g : (bdS σ o R).1 i with
          | none => rw [g] at e; exact absurd e.symm (z_106 van (by omega))
          | some v =>
            rw [g] at e
            have := bdV g
            rw [(z_eqN (by omega) (by omega)).mp e]
  exact ⟨n + 2, main n 0 (by omega) Msa0 Msm0 (fun j hj => absurd hj (by omega)) (fun j hj => absurd hj (by omega))⟩
/-- minutes are small -/
theorem mnS_b {σ : StT} {R : Nat} (V : SV σ R) {b : BT} {van n : Nat} (hvan : van < 8) {ky wp : Nat → Int32} (s : ST σ b van R n ky wp) : ∀ j, j < n → 10 ≤ (mnS (σ.le van) ky j).toInt ∧ (mnS (σ.le van) ky j).toInt ≤ 1600 + 30 * j
  | 0, hj => by
    have hle := V.le van hvan
    obtain ⟨x, hx, ex⟩ := ky_is V s hj
    have e5 : (5 : Int32) * (ky 0 / (100 : Int32)) = nI (5 * (x / 100)) := by rw [ex, z_div hx, show (5 : Int32) = nI 5 from rfl, z_m]
    have e1 : (10 : Int32).toInt = 10 := by decide
    have e2 := z_add (a := σ.le van) (b := 10) (by omega) (by omega)
    have e3 := z_nI (n := 5 * (x / 100)) (by omega)
    show 10 ≤ ((σ.le van + (10 : Int32)) + ((5 : Int32) * (ky 0 / (100 : Int32)))).toInt ∧ ((σ.le van + (10 : Int32)) + ((5 : Int32) * (ky 0 / (100 : Int32)))).toInt ≤ _
    rw [e5, z_add (by omega) (by omega), e2, e3, e1]
    omega
  | j + 1, hj => by
    have hn := s.le
    have hR := V.hR
    have ih := mnS_b V hvan s j (by omega)
    obtain ⟨a, c, hac, hc, ea, ec⟩ := ky_area V s hj
    rw [mnS, ea, ec, z_sN hac]
    have e3 : (3 : Int32).toInt = 3 := by decide
    have e5 : (5 : Int32) * nI (c - a) = nI (5 * (c - a)) := by rw [show (5 : Int32) = nI 5 from rfl, z_m]
    have e6 := z_nI (n := 5 * (c - a)) (by omega)
    by_cases g : nI (c - a) ≤ 0
    · rw [if_pos g, z_add (by omega) (by omega), e3]; omega
    · rw [if_neg g, e5, z_add (by omega) (by omega), e6]; omega
