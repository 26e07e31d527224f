/-! ===== stops ===== -/
theorem key_is {σ : StT} {R : Nat} (V : SV σ R) {r : Nat} (hr : r < R) : z_is (kyS σ r) 600 := by
  obtain ⟨a, ha, ea⟩ := V.ar r hr
  obtain ⟨d, hd, ed⟩ := V.dr r hr
  refine ⟨a * 100 + d, by omega, ?_⟩
  unfold kyS
  rw [ea, ed, show (100 : Int32) = nI 100 from rfl, z_m, z_a]
/-- the people who get out at a stop -/
def goS (σ : StT) (b : BT) (van : Nat) (key : Int32) (r : Nat) : Int32 := if b.1 r = some van ∧ kyS σ r = key then σ.pe r else 0
/-- the stops of the riders below k -/
def ST (σ : StT) (b : BT) (van : Nat) (k : Nat) (n : Nat) (ky : Nat → Int32) (wp : Nat → Int32) : Prop := (n ≤ k) ∧ (∀ i j, i < j → j < n → (ky i).toInt < (ky j).toInt) ∧ (∀ j, j < n → ∃ r, r < k ∧ b.1 r = some van ∧ kyS σ r = ky j) ∧ (∀ r, r < k → b.1 r = some van → ∃ j, j < n ∧ ky j = kyS σ r) ∧ (∀ j, j < n → wp j = zS (goS σ b van (ky j)) k)
theorem ST.le {σ : StT} {b : BT} {van : Nat} {k : Nat} {n : Nat} {ky : Nat → Int32} {wp : Nat → Int32} (h : ST σ b van k n ky wp) : n ≤ k := h.1
theorem ST.inc {σ : StT} {b : BT} {van : Nat} {k : Nat} {n : Nat} {ky : Nat → Int32} {wp : Nat → Int32} (h : ST σ b van k n ky wp) : ∀ i j, i < j → j < n → (ky i).toInt < (ky j).toInt := h.2.1
theorem ST.mem {σ : StT} {b : BT} {van : Nat} {k : Nat} {n : Nat} {ky : Nat → Int32} {wp : Nat → Int32} (h : ST σ b van k n ky wp) : ∀ j, j < n → ∃ r, r < k ∧ b.1 r = some van ∧ kyS σ r = ky j := h.2.2.1
theorem ST.all {σ : StT} {b : BT} {van : Nat} {k : Nat} {n : Nat} {ky : Nat → Int32} {wp : Nat → Int32} (h : ST σ b van k n ky wp) : ∀ r, r < k → b.1 r = some van → ∃ j, j < n ∧ ky j = kyS σ r := h.2.2.2.1
theorem ST.wpc {σ : StT} {b : BT} {van : Nat} {k : Nat} {n : Nat} {ky : Nat → Int32} {wp : Nat → Int32} (h : ST σ b van k n ky wp) : ∀ j, j < n → wp j = zS (goS σ b van (ky j)) k := h.2.2.2.2
theorem ST.skip {σ : StT} {b : BT} {van k n : Nat} {ky wp : Nat → Int32} (s : ST σ b van k n ky wp) (h : ¬ b.1 k = some van) : ST σ b van (k + 1) n ky wp := by
  refine ⟨by have := s.le; omega, s.inc, fun j hj => ?_, fun r hr e => ?_, fun j hj => ?_⟩
  · obtain ⟨r, h1, h2, h3⟩ := s.mem j hj
    exact ⟨r, by omega, h2, h3⟩
  · by_cases c : r = k
    · subst c; exact absurd e h
    · exact s.all r (by omega) e
  · have e : goS σ b van (ky j) k = 0 := if_neg (fun e => h e.1)
    show wp j = zS (goS σ b van (ky j)) k + goS σ b van (ky j) k
    rw [e, z_a0]; exact s.wpc j hj
theorem X_place {P : Int32 → Prop} {w : WyT} {key : Int32} {n : Nat} (hn : n ≤ 24) (hs : w.so = nI n)
    (h : ∀ p, p ≤ n → (∀ j, j < p → (w.ky j).toInt < key.toInt) → (p < n → key.toInt ≤ (w.ky p).toInt) → P (nI p)) : wp_X4_placeFor P w key := by
  have main : ∀ d k, k + d = n → (∀ j, j < k → (w.ky j).toInt < key.toInt) → wp_X4_placeFor_2 P w key (d + 1) (nI k) := by
    intro d
    induction d with
    | zero =>
      intro k hk hj
      refine z_y (by rw [hs, z_leN (by omega) (by omega)]; omega) (h k (by omega) hj (fun c => absurd c (by omega)))
    | succ d ih =>
      intro k hk hj
      refine z_n (by rw [hs, z_leN (by omega) (by omega)]; omega) ⟨z_in (by omega) (by omega), ?_⟩
      rw [z_cl (by omega), z_s]
      by_cases c : key ≤ w.ky k
      · exact z_y c (h k (by omega) hj (fun _ => z_le.mp c))
      · refine z_n c (ih (k + 1) (by omega) (fun j hj2 => ?_))
        rw [z_le] at c
        by_cases g : j = k
        · subst g; omega
        · exact hj j (by omega)
  exact ⟨n + 1, main n 0 (by omega) (fun j hj => absurd hj (by omega))⟩
def shu (f : Nat → Int32) (q n : Nat) : Nat → Int32 := fun i => if q < i ∧ i ≤ n then f (i - 1) else f i
theorem shu_0 (f : Nat → Int32) (n : Nat) : shu f n n = f := funext fun i => if_neg (by omega)
theorem shu_s {f : Nat → Int32} {q n : Nat} (h : q + 1 ≤ n) : upd (shu f (q + 1) n) (q + 1) (shu f (q + 1) n q) = shu f q n := by
  funext i
  rw [z_upd]
  unfold shu
  by_cases c : i = q + 1
  · rw [if_pos c, if_neg (by omega), if_pos (by omega), c, Nat.add_sub_cancel]
  · rw [if_neg c]
    by_cases d : q + 1 < i ∧ i ≤ n
    · rw [if_pos d, if_pos (by omega)]
    · rw [if_neg d, if_neg (by omega)]
theorem X_open {P : (Nat → Int32) → (Nat → Int32) → Int32 → Prop} {w : WyT} {key : Int32} {n p : Nat} (hn : n < 24) (hp : p ≤ n) (hs : w.so = nI n)
    (h : P (upd (shu w.ky p n) p key) (upd (shu w.wp p n) p 0) (nI (n + 1))) : wp_X4_openStop P w (nI p) key := by
  unfold wp_X4_openStop
  rw [hs]
  refine z_y (by rw [show (24 : Int32) = nI 24 from rfl, z_ltN (by omega) (by omega)]; omega) ?_
  have main : ∀ d, p + d ≤ n → wp_X4_openStop_15 P w (nI p) key (nI n) (d + 1) (nI (p + d)) (shu w.ky (p + d) n) (shu w.wp (p + d) n) := by
    intro d
    induction d with
    | zero =>
      intro _
      refine z_y (by rw [z_leN (by omega) (by omega)]; omega) ⟨z_in (by omega) (by omega), z_in (by omega) (by omega), ?_⟩
      rw [z_cl (by omega), z_s]; exact h
    | succ d ih =>
      intro hd
      refine z_n (by rw [z_leN (by omega) (by omega)]; omega) ?_
      have e : nI (p + (d + 1)) - (1 : Int32) = nI (p + d) := z_p (p + d)
      have e2 : nI (p + (d + 1)) + (-1) = nI (p + d) := z_p' (p + d)
      rw [e, e2, z_cl (by omega), z_cl (by omega)]
      rw [show p + (d + 1) = p + d + 1 from rfl, shu_s (by omega), shu_s (by omega)]
      have i1 : vp_in (nI (p + d)) 24 := z_in (by omega) (by omega)
      have i2 : vp_in (nI (p + d + 1)) 24 := z_in (by omega) (by omega)
      exact ⟨i1, i2, i1, i2, ih (by omega)⟩
  have := main (n - p) (by omega)
  rw [show p + (n - p) = n from by omega, shu_0, shu_0] at this
  exact ⟨_, this⟩
theorem X_letOut {P : (Nat → Int32) → (Nat → Int32) → Int32 → Prop} {σ : StT} {b : BT} {van k n : Nat} {ky wp mi : Nat → Int32} (hk : k < 24) (hb : b.1 k = some van) (s : ST σ b van k n ky wp)
    (h : ∀ n' ky' wp', ST σ b van (k + 1) n' ky' wp' → P ky' wp' (nI n')) : wp_X4_letOut P (mkWy ky wp mi (nI n)) (kyS σ k) (σ.pe k) := by
  have hn := s.le
  have ego : goS σ b van (kyS σ k) k = σ.pe k := if_pos ⟨hb, rfl⟩
  have ngo : ∀ x : Int32, x.toInt ≠ (kyS σ k).toInt → goS σ b van x k = 0 := fun x hx => if_neg (fun e => hx (by rw [e.2]))
  refine X_place (w := mkWy ky wp mi (nI n)) (by omega) rfl (fun p hp h1 h2 => ?_)
  have h1 : ∀ j, j < p → (ky j).toInt < (kyS σ k).toInt := h1
  have h2 : p < n → (kyS σ k).toInt ≤ (ky p).toInt := h2
  refine z_y (by rw [show (24 : Int32) = nI 24 from rfl, z_ltN (by omega) (by omega)]; omega) ?_
  have opened : (p = n ∨ (kyS σ k).toInt < (ky p).toInt) → wp_X4_letOut_31 P (mkWy ky wp mi (nI n)) (kyS σ k) (σ.pe k) (nI p) ky wp (nI n) := by
    intro hc
    have gt : ∀ j, p ≤ j → j < n → (kyS σ k).toInt < (ky j).toInt := by
      intro j hj hjn
      rcases hc with c | c
      · omega
      · by_cases e : j = p
        · rw [e]; exact c
        · have := s.inc p j (by omega) hjn; omega
    refine X_open (w := mkWy ky wp mi (nI n)) (by omega) hp rfl ⟨z_in (by omega) (by omega), z_in (by omega) (by omega), ?_⟩
    rw [z_cl (by omega)]
    have ky1 : ∀ i, i < p → upd (shu ky p n) p (kyS σ k) i = ky i := fun i hi => by rw [z_un (by omega)]; exact if_neg (by omega)
    have ky2 : upd (shu ky p n) p (kyS σ k) p = kyS σ k := z_us
    have ky3 : ∀ i, p < i → i ≤ n → upd (shu ky p n) p (kyS σ k) i = ky (i - 1) := fun i hi hi2 => by rw [z_un (by omega)]; exact if_pos ⟨hi, hi2⟩
    have w1 : ∀ i, i < p → upd (upd (shu wp p n) p 0) p (upd (shu wp p n) p 0 p + σ.pe k) i = wp i := fun i hi => by rw [z_un (by omega), z_un (by omega)]; exact if_neg (by omega)
    have w2 : upd (upd (shu wp p n) p 0) p (upd (shu wp p n) p 0 p + σ.pe k) p = 0 + σ.pe k := by rw [z_us, z_us]
    have w3 : ∀ i, p < i → i ≤ n → upd (upd (shu wp p n) p 0) p (upd (shu wp p n) p 0 p + σ.pe k) i = wp (i - 1) := fun i hi hi2 => by rw [z_un (by omega), z_un (by omega)]; exact if_pos ⟨hi, hi2⟩
    refine h (n + 1) (upd (shu ky p n) p (kyS σ k)) (upd (upd (shu wp p n) p 0) p (upd (shu wp p n) p 0 p + σ.pe k)) ⟨by omega, ?_, ?_, ?_, ?_⟩
    · intro i j hij hj
      rcases Nat.lt_trichotomy j p with c | c | c
      · rw [ky1 i (by omega), ky1 j c]; exact s.inc i j hij (by omega)
      · subst c; rw [ky1 i hij, ky2]; exact h1 i hij
      · rw [ky3 j c (by omega)]
        rcases Nat.lt_trichotomy i p with d | d | d
        · rw [ky1 i d]; exact s.inc i (j - 1) (by omega) (by omega)
        · subst d; rw [ky2]; exact gt (j - 1) (by omega) (by omega)
        · rw [ky3 i d (by omega)]; exact s.inc (i - 1) (j - 1) (by omega) (by omega)
    · intro j hj
      rcases Nat.lt_trichotomy j p with c | c | c
      · rw [ky1 j c]
        obtain ⟨r, a, b', c'⟩ := s.mem j (by omega)
        exact ⟨r, by omega, b', c'⟩
      · subst c; rw [ky2]; exact ⟨k, by omega, hb, rfl⟩
      · rw [ky3 j c (by omega)]
        obtain ⟨r, a, b', c'⟩ := s.mem (j - 1) (by omega)
        exact ⟨r, by omega, b', c'⟩
    · intro r hr hbr
      by_cases c : r = k
      · subst c; exact ⟨p, by omega, ky2⟩
      · obtain ⟨j, a, e⟩ := s.all r (by omega) hbr
        by_cases d : j < p
        · exact ⟨j, by omega, by rw [ky1 j d]; exact e⟩
        · exact ⟨j + 1, by omega, by rw [ky3 (j + 1) (by omega) (by omega), Nat.add_sub_cancel]; exact e⟩
    · intro j hj
      rcases Nat.lt_trichotomy j p with c | c | c
      · rw [ky1 j c, w1 j c]
        show _ = zS (goS σ b van (ky j)) k + goS σ b van (ky j) k
        rw [ngo (ky j) (by have := h1 j c; omega), z_a0]
        exact s.wpc j (by omega)
      · subst c
        rw [ky2, w2]
        show _ = zS (goS σ b van (kyS σ k)) k + goS σ b van (kyS σ k) k
        rw [ego, zS_0]
        intro r hr
        refine if_neg (fun e => ?_)
        obtain ⟨i, a, e2⟩ := s.all r hr e.1
        rw [e.2] at e2
        have e3 : (ky i).toInt = (kyS σ k).toInt := by rw [e2]
        rcases Nat.lt_or_ge i j with d | d
        · have := h1 i d; omega
        · have := gt i d a; omega
      · rw [ky3 j c (by omega), w3 j c (by omega)]
        show _ = zS (goS σ b van (ky (j - 1))) k + goS σ b van (ky (j - 1)) k
        rw [ngo (ky (j - 1)) (by have := gt (j - 1) (by omega) (by omega); omega), z_a0]
        exact s.wpc (j - 1) (by omega)
  by_cases c : p = n
  · exact z_y (by rw [c]; rfl) (opened (Or.inl c))
  · refine z_n (show ¬ nI p = nI n from by rw [z_eqN (by omega) (by omega)]; exact c) ⟨z_in (by omega) (by omega), ?_⟩
    rw [z_cl (by omega)]
    show ((ky p = kyS σ k) → _) ∧ (¬ ky p = kyS σ k → _)
    by_cases d : ky p = kyS σ k
    · refine z_y d ⟨z_in (by omega) (by omega), z_in (by omega) (by omega), ?_⟩
      rw [z_cl (by omega)]
      refine h n ky (upd wp p (wp p + σ.pe k)) ⟨by omega, s.inc, ?_, ?_, ?_⟩
      · intro j hj
        obtain ⟨r, a, b', c'⟩ := s.mem j hj
        exact ⟨r, by omega, b', c'⟩
      · intro r hr hbr
        by_cases g : r = k
        · subst g; exact ⟨p, by omega, d⟩
        · exact s.all r (by omega) hbr
      · intro j hj
        show _ = zS (goS σ b van (ky j)) k + goS σ b van (ky j) k
        by_cases g : j = p
        · subst g; rw [z_us, s.wpc j hj, d, ego]
        · have hne : (ky j).toInt ≠ (kyS σ k).toInt := by
            rw [← d]
            rcases Nat.lt_or_ge j p with q | q
            · have := s.inc j p q (by omega); omega
            · have := s.inc p j (by omega) hj; omega
          rw [z_un g, ngo _ hne, z_a0]; exact s.wpc j hj
    · refine z_n d (opened (Or.inr ?_))
      have := h2 (by omega)
      have hne : (ky p).toInt ≠ (kyS σ k).toInt := fun e => d (z_eq.mpr e)
      omega
/-- the minute at a stop -/
def mnS (le : Int32) (ky : Nat → Int32) : Nat → Int32
  | 0 => (le + (10 : Int32)) + ((5 : Int32) * (ky 0 / (100 : Int32)))
  | j + 1 => if ky (j + 1) / (100 : Int32) - ky j / (100 : Int32) ≤ 0 then mnS le ky j + (3 : Int32) else mnS le ky j + ((5 : Int32) * (ky (j + 1) / (100 : Int32) - ky j / (100 : Int32)))
theorem X_tell {P : (Nat → Int32) → Prop} {w : WyT} {le : Int32} {n : Nat} (hn : n ≤ 24) (hs : w.so = nI n)
    (h : ∀ mi, (∀ j, j < n → mi j = mnS le w.ky j) → P mi) : wp_X4_tellMinutes P w le := by
  suffices hh : ∃ f, ∀ mi : Nat → Int32, (∀ j, j < 0 → mi j = mnS le w.ky j) → wp_X4_tellMinutes_2 P w le f (nI 0) mi by
    obtain ⟨f, hf⟩ := hh
    exact ⟨f, hf _ (fun j hj => absurd hj (by omega))⟩
  refine z_up (fun f k => ∀ mi : Nat → Int32, (∀ j, j < k → mi j = mnS le w.ky j) → wp_X4_tellMinutes_2 P w le f (nI k) mi) n (fun f => ?_) (fun f k hk ih => ?_) 0 (by omega)
  · intro mi hm
    exact z_y (by rw [hs, z_leN (by omega) (by omega)]; omega) (h mi hm)
  · intro mi hm
    refine z_n (by rw [hs, z_leN (by omega) (by omega)]; omega) ⟨z_in (by omega) (by omega), ?_⟩
    unfold wp_X3_areaOfStop
    rw [z_cl (by omega), z_s]
    have ext : ∀ x, x = mnS le w.ky k → ∀ j, j < k + 1 → upd mi k x j = mnS le w.ky j := by
      intro x hx j hj
      by_cases c : j = k
      · rw [c, z_us]; exact hx
      · rw [z_un c]; exact hm j (by omega)
    cases k with
    | zero => exact z_y' rfl ⟨z_in (by omega) (by omega), ih _ (ext _ rfl)⟩
    | succ q =>
      refine z_n' (by rw [show (0 : Int32) = nI 0 from rfl, z_eqN (by omega) (by omega)]; omega) ?_
      rw [z_p, z_cl (by omega)]
      refine ⟨z_in (by omega) (by omega), z_in (by omega) (by omega), ?_⟩
      unfold wp_X4_tellMinutes_82
      rw [z_cl (by omega), z_s]
      by_cases c : w.ky (q + 1) / (100 : Int32) - w.ky q / (100 : Int32) ≤ 0
      · refine z_y c ⟨z_in (by omega) (by omega), ih _ (ext _ ?_)⟩
        rw [mnS, if_pos c, hm q (by omega)]
      · refine z_n c ⟨z_in (by omega) (by omega), ih _ (ext _ ?_)⟩
        rw [mnS, if_neg c, hm q (by omega)]
theorem X_follow {P : (Nat → Int32) → (Nat → Int32) → (Nat → Int32) → Int32 → Prop} {σ : StT} {R : Nat} (V : SV σ R) {o : Nat → Nat} {pl : PlT} (hv : ∀ r, r < R → pl.vn r = enc ((bdS σ o R).1 r)) {w : WyT} {van : Nat} (hvan : van < 8)
    (h : ∀ n ky wp mi, ST σ (bdS σ o R) van R n ky wp → (∀ j, j < n → mi j = mnS (σ.le van) ky j) → P ky wp mi (nI n)) : wp_X4_follow P w σ pl (nI van) := by
  have hR := V.hR
  suffices hh : ∃ f, ∀ n ky wp, ST σ (bdS σ o R) van 0 n ky wp → wp_X4_follow_8 P w σ pl (nI van) w.mi f (nI 0) ky wp (nI n) by
    obtain ⟨f, hf⟩ := hh
    exact ⟨f, hf 0 _ _ ⟨by omega, fun i j _ hj => absurd hj (by omega), fun j hj => absurd hj (by omega), fun r hr => absurd hr (by omega), fun j hj => absurd hj (by omega)⟩⟩
  refine z_up (fun f k => ∀ n ky wp, ST σ (bdS σ o R) van k n ky wp → wp_X4_follow_8 P w σ pl (nI van) w.mi f (nI k) ky wp (nI n)) R (fun f => ?_) (fun f k hk ih => ?_) 0 (by omega)
  · intro n ky wp s
    have hn := s.le
    refine z_y (by rw [V.ri, z_leN (by omega) (by omega)]; omega) ⟨z_in hvan (by omega), ?_⟩
    rw [z_cl (by omega)]
    exact X_tell (w := mkWy ky wp w.mi (nI n)) (n := n) (by omega) rfl (fun mi hm => h n ky wp mi s hm)
  · intro n ky wp s
    refine z_n (by rw [V.ri, z_leN (by omega) (by omega)]; omega) ⟨z_in (by omega) (by omega), ?_⟩
    rw [z_cl (by omega), z_s, hv k hk]
    by_cases c : (bdS σ o R).1 k = some van
    · refine z_y' (by rw [c]; rfl) (X_key V hk ⟨z_in (by omega) (by omega), X_letOut (by omega) c s (fun n' ky' wp' s' => ih n' ky' wp' s')⟩)
    · refine z_n' ?_ (ih n ky wp (s.skip c))
      intro e
      apply c
      cases g : (bdS σ o R).1 k with
      | none => rw [g] at e; exact absurd e.symm (z_106 van (by omega))
      | some v =>
        rw [g] at e
        have := bdV g
        rw [(z_eqN (by omega) (by omega)).mp e]
