/-! ===== undo's states ===== -/
theorem SM.congr {σ : StT} {R : Nat} {M M' : Nat → Int32} (hR : R ≤ 24) (m : SM σ R M) (e : ∀ k, k < 130 → M' k = M k) : SM σ R M' := by
  refine ⟨fun k hk => ?_, fun k hk => ?_, fun k hk => ?_, fun k hk => ?_, fun k hk => ?_, ?_, fun k hk => ?_, fun k hk => ?_, fun k hk => ?_, fun k hk => ?_⟩
  · rw [e _ (by omega)]; exact m.se k hk
  · rw [e _ (by omega)]; exact m.la k hk
  · rw [e _ (by omega)]; exact m.de k hk
  · rw [e _ (by omega)]; exact m.le k hk
  · rw [e _ (by omega)]; exact m.sa k hk
  · rw [e _ (by omega)]; exact m.ri
  · rw [e _ (by omega)]; exact m.fl k hk
  · rw [e _ (by omega)]; exact m.ar k hk
  · rw [e _ (by omega)]; exact m.dr k hk
  · rw [e _ (by omega)]; exact m.pe k hk
theorem z_mod {a d : Nat} (ha : a < 2147483648) (h0 : 0 < d) (hd : d < 2147483648) : nI a - nI a / nI d * nI d = nI (a % d) := pk_rem ha h0 hd
def kp (K : Nat) : Nat := if K = 6 then 5 else K
def ks (K : Nat) : Nat := if K = 6 then 1 else 0
/-- the ring holds the states f 0 .. f (K - 1), the oldest first -/
def HX (his : HiT) (f : Nat → StT) (K : Nat) : Prop := his.sz = nI K ∧ K ≤ 6 ∧ ∃ o, o < 6 ∧ his.ol = nI o ∧ ∀ i, i < K → his.hs ((o + i) % 6) = f i
theorem X_rec32 {P : (Nat → StT) → Int32 → Int32 → Prop} {o0 : HiT} {σ : StT} {hs : Nat → StT} {o K : Nat} (ho : o < 6) (hK : K < 6) {f : Nat → StT} (hf : ∀ i, i < K → hs ((o + i) % 6) = f i)
    (h : ∀ hs', HX (mkHi hs' (nI o) (nI (K + 1))) (fun i => if i = K then σ else f i) (K + 1) → P hs' (nI o) (nI (K + 1))) : wp_X0_record_32 P o0 σ hs (nI o) (nI K) := by
  have e : (nI o + nI K) - (nI o + nI K) / (6 : Int32) * (6 : Int32) = nI ((o + K) % 6) := by
    rw [z_a, show (6 : Int32) = nI 6 from rfl, z_mod (by omega) (by omega) (by omega)]
  refine ⟨?_, ?_⟩
  · rw [e]; exact z_in (by omega) (by omega)
  · intro j hj ej
    rw [e, z_eqN (by omega) (by omega)] at ej
    subst ej
    show P _ _ _
    rw [z_s]
    refine h _ ⟨rfl, by omega, o, ho, rfl, ?_⟩
    intro i hi
    show (if (o + i) % 6 = (o + K) % 6 then _ else hs ((o + i) % 6)) = _
    by_cases c : i = K
    · subst c; rw [if_pos rfl]; exact (if_pos rfl).symm
    · rw [if_neg (by omega)]; exact (hf i (by omega)).trans (if_neg c).symm
theorem X_record {P : (Nat → StT) → Int32 → Int32 → Prop} {his : HiT} {σ : StT} {f : Nat → StT} {K : Nat} (H : HX his f K)
    (h : ∀ hs ol sz, HX (mkHi hs ol sz) (fun i => if i = kp K then σ else f (i + ks K)) (kp K + 1) → P hs ol sz) : wp_X0_record P his σ := by
  obtain ⟨h1, h2, o, ho, h3, h4⟩ := H
  unfold wp_X0_record
  rw [h1, h3]
  by_cases c : K = 6
  · have ek : kp K = 5 := if_pos c
    have es : ks K = 1 := if_pos c
    rw [ek, es] at h
    refine z_n (by rw [show (6 : Int32) = nI 6 from rfl, z_ltN (by omega) (by omega)]; omega) ?_
    have e1 : (nI o + (1 : Int32)) - (nI o + (1 : Int32)) / (6 : Int32) * (6 : Int32) = nI ((o + 1) % 6) := by
      rw [z_s, show (6 : Int32) = nI 6 from rfl, z_mod (by omega) (by omega) (by omega)]
    have e2 : nI K - (1 : Int32) = nI 5 := by rw [c]; rfl
    rw [e1, e2]
    refine X_rec32 (f := fun i => f (i + 1)) (by omega) (by omega) (fun i hi => ?_) (fun hs' hh => h _ _ _ hh)
    rw [show ((o + 1) % 6 + i) % 6 = (o + (i + 1)) % 6 from by omega]
    exact h4 (i + 1) (by omega)
  · have ek : kp K = K := if_neg c
    have es : ks K = 0 := if_neg c
    rw [ek, es] at h
    refine z_y (by rw [show (6 : Int32) = nI 6 from rfl, z_ltN (by omega) (by omega)]; omega) ?_
    exact X_rec32 ho (by omega) h4 (fun hs' hh => h _ _ _ hh)
theorem M_rec52 {P : (Nat → Int32) → Int32 → Prop} {M Mhi : Nat → Int32} {K : Nat} (hK : K < 6)
    (h : ∀ Mhi', (∀ i, i < 130 * K → Mhi' i = Mhi i) → (∀ k, k < 130 → Mhi' (130 * K + k) = M k) → P Mhi' (nI (K + 1))) : ∃ n, wp_X6_record_52 P M (nI K) n (0 : Int32) Mhi := by
  suffices hh : ∃ n, ∀ Mhi', (∀ i, i < 130 * K → Mhi' i = Mhi i) → (∀ k, k < 0 → Mhi' (130 * K + k) = M k) → wp_X6_record_52 P M (nI K) n (nI 0) Mhi' by
    obtain ⟨n, hn⟩ := hh
    exact ⟨n, hn _ (fun _ _ => rfl) (fun r hr => absurd hr (by omega))⟩
  refine z_up (fun n j => ∀ Mhi', (∀ i, i < 130 * K → Mhi' i = Mhi i) → (∀ k, k < j → Mhi' (130 * K + k) = M k) → wp_X6_record_52 P M (nI K) n (nI j) Mhi') 130 (fun n => ?_) (fun n j hj ih => ?_) 0 (by omega)
  · intro Mhi' h1 h2
    refine z_y (by decide) ?_
    rw [z_s]; exact h _ h1 h2
  · intro Mhi' h1 h2
    have e : (nI K * (130 : Int32)) + nI j = nI (130 * K + j) := by
      rw [show (130 : Int32) = nI 130 from rfl, z_m, z_a, Nat.mul_comm]
    refine z_n (by rw [show (130 : Int32) = nI 130 from rfl, z_leN (by omega) (by omega)]; omega) ⟨z_in hj (by omega), by rw [e]; exact z_in (by omega) (by omega), ?_⟩
    rw [e, z_s, z_cl (by omega), z_cl (by omega)]
    refine ih _ (fun i hi => ?_) (fun k hk => ?_)
    · rw [z_un (by omega)]; exact h1 i hi
    · by_cases c : k = j
      · rw [c, z_us]
      · rw [z_un (by omega)]; exact h2 k (by omega)
theorem M_record {P : (Nat → Int32) → Int32 → Prop} {M Mhi : Nat → Int32} {K : Nat} (hK : K ≤ 6)
    (h : ∀ Mhi', (∀ i, i < kp K → ∀ k, k < 130 → Mhi' (130 * i + k) = Mhi (130 * (i + ks K) + k)) → (∀ k, k < 130 → Mhi' (130 * kp K + k) = M k) → P Mhi' (nI (kp K + 1))) : wp_X6_record P M Mhi (nI K) := by
  by_cases c : K = 6
  · have ek : kp K = 5 := if_pos c
    have es : ks K = 1 := if_pos c
    rw [ek, es] at h
    refine z_y' (by rw [c]; rfl) ?_
    suffices hh : ∃ n, ∀ Mhi', (∀ i, i < 0 → Mhi' i = Mhi (i + 130)) → (∀ i, 0 ≤ i → Mhi' i = Mhi i) → wp_X6_record_11 P M (nI K) n (nI 0) Mhi' by
      obtain ⟨n, hn⟩ := hh
      exact ⟨n, hn _ (fun r hr => absurd hr (by omega)) (fun _ _ => rfl)⟩
    refine z_up (fun n j => ∀ Mhi', (∀ i, i < j → Mhi' i = Mhi (i + 130)) → (∀ i, j ≤ i → Mhi' i = Mhi i) → wp_X6_record_11 P M (nI K) n (nI j) Mhi') 650 (fun n => ?_) (fun n j hj ih => ?_) 0 (by omega)
    · intro Mhi' h1 h2
      refine z_y (by decide) ?_
      rw [show nI K - (1 : Int32) = nI 5 from by rw [c]; rfl]
      refine M_rec52 (by omega) (fun Mhi2 h3 h4 => h _ (fun i hi k hk => ?_) h4)
      rw [h3 _ (by omega), h1 _ (by omega)]
      exact congrArg Mhi (by omega)
    · intro Mhi' h1 h2
      have e : nI j + (130 : Int32) = nI (j + 130) := z_a j 130
      refine z_n (by rw [show (650 : Int32) = nI 650 from rfl, z_leN (by omega) (by omega)]; omega) ⟨by rw [e]; exact z_in (by omega) (by omega), z_in (by omega) (by omega), ?_⟩
      rw [e, z_s, z_cl (by omega), z_cl (by omega)]
      refine ih _ (fun i hi => ?_) (fun i hi => ?_)
      · by_cases g : i = j
        · rw [g, z_us]; exact h2 _ (by omega)
        · rw [z_un g]; exact h1 i (by omega)
      · rw [z_un (by omega)]; exact h2 i (by omega)
  · have ek : kp K = K := if_neg c
    have es : ks K = 0 := if_neg c
    rw [ek, es] at h
    refine z_n' (by rw [show (6 : Int32) = nI 6 from rfl, z_eqN (by omega) (by omega)]; exact c) ?_
    exact M_rec52 (by omega) (fun Mhi' h1 h2 => h _ (fun i hi k hk => h1 _ (by omega)) h2)
/-- ring and row hold the same states -/
def HR (his : HiT) (Mhi : Nat → Int32) (Mhn : Int32) (K : Nat) : Prop := Mhn = nI K ∧ ∃ f, HX his f K ∧ ∀ i, i < K → ∃ R, SV (f i) R ∧ SM (f i) R (fun k => Mhi (130 * i + k))
theorem HR_next {his' : HiT} {Mhi Mhi' M : Nat → Int32} {f : Nat → StT} {K R : Nat} {σ : StT} (hR : R ≤ 24)
    (hg : ∀ i, i < K → ∃ R, SV (f i) R ∧ SM (f i) R (fun k => Mhi (130 * i + k))) (hK : K ≤ 6) (V : SV σ R) (m : SM σ R M)
    (hx : HX his' (fun i => if i = kp K then σ else f (i + ks K)) (kp K + 1))
    (h1 : ∀ i, i < kp K → ∀ k, k < 130 → Mhi' (130 * i + k) = Mhi (130 * (i + ks K) + k)) (h2 : ∀ k, k < 130 → Mhi' (130 * kp K + k) = M k) : HR his' Mhi' (nI (kp K + 1)) (kp K + 1) := by
  refine ⟨rfl, _, hx, ?_⟩
  intro i hi
  by_cases c : i = kp K
  · subst c
    refine ⟨R, ?_, ?_⟩
    · simp only [if_true]; exact V
    · simp only [if_true]; exact m.congr hR h2
  · have hb : i + ks K < K := by
      by_cases g : K = 6
      · have ek : kp K = 5 := if_pos g
        have es : ks K = 1 := if_pos g
        omega
      · have ek : kp K = K := if_neg g
        have es : ks K = 0 := if_neg g
        omega
    obtain ⟨R2, a, b⟩ := hg (i + ks K) hb
    refine ⟨R2, ?_, ?_⟩
    · simp only [c, if_false]; exact a
    · simp only [c, if_false]; exact b.congr a.hR (fun k hk => h1 i (by omega) k hk)
/-! ===== what holds from call to call ===== -/
def SLR (y : Option StT) (b : Int32) (M : Nat → Int32) : Prop := (y = none ∧ b = 0) ∨ (∃ s R, y = some s ∧ b = 1 ∧ SV s R ∧ SM s R M)
def PR (pad : PdT) (Mpd : Nat → Int32) (Mln : Int32) : Prop := ∃ n, n ≤ 60 ∧ pad.ln = nI n ∧ Mln = nI n ∧ ∀ j, j < n → pad.co j = Mpd j
def NR (now : StT) (pln : PlT) (Mst : Nat → Int32) : Prop := ∃ R o, SV now R ∧ SM now R Mst ∧ XP now R o pln.rd pln.vn pln.pn pln.ao pln.sr pln.sp pln.wt
def Rel (now : StT) (pln : PlT) (pad : PdT) (his : HiT) (slo : Nat → Option StT) (Mst Mhi : Nat → Int32) (Mhn : Int32) (Msl Msv Mpd : Nat → Int32) (Mln : Int32) : Prop :=
  NR now pln Mst ∧ (∃ K, HR his Mhi Mhn K) ∧ PR pad Mpd Mln ∧ (∀ j, j < 2 → SLR (slo j) (Msv j) (fun k => Msl (130 * j + k)))
def RecT : Type := Nat → StT → PlT → WyT → StT → PlT → PdT → HiT → (Nat → Option StT) → (Nat → Int32) → (Nat → Int32) → Int32 → (Nat → Int32) → (Nat → Int32) → (Nat → Int32) → Int32 → Int32 → (Nat → Int32) → (Nat → Int32) → (Nat → Int32) → (Nat → Int32) → (Nat → Int32) → (Nat → Int32) → (Nat → Int32) → Int32 → Prop
def RecOK (rec : RecT) (t : Nat) : Prop := ∀ now pln way tri tpl pad his slo Mst Mhi Mhn Msl Msv Mpd Mln Mat Mit Mvf Mdn Mlf Mar Msa Msm Mso, Rel now pln pad his slo Mst Mhi Mhn Msl Msv Mpd Mln → rec t now pln way tri tpl pad his slo Mst Mhi Mhn Msl Msv Mpd Mln Mat Mit Mvf Mdn Mlf Mar Msa Msm Mso
