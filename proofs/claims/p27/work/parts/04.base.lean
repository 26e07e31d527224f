/-! ===== the judgement GW: the machine at a place of a method, over a world of cells; its rows; contracts CT ===== -/
abbrev g_tys (cI cR : ClassId) : List (ClassId × FieldType) := [(cI, .int), (cR, .object RX3)]
def g_least : Nat → Int32 := fun j => if j = 2 then 1 else 0
def g_most : Nat → Int32 := fun j => if j = 0 then 90 else if j = 1 then 240 else if j = 2 then 6 else if j = 3 then 300 else 40
def g_first : Nat → Int32 := fun j => if j = 0 then 30 else if j = 1 then 60 else if j = 2 then 3 else if j = 3 then 60 else 6
def g_S1 (n : String) (f : Nat → Int32) (A : Nat → Prop) (U : State) (H : Heap) : Prop := ∃ t : Nat, va_Z "ShuttleDoors" n "[I" (.ref t) A U H ∧ va_T .int t 5 (fun j => .int (f j)) A U H
theorem g_S1.step {n : String} {f : Nat → Int32} {A B : Nat → Prop} {s U : State} {H H1 : Heap} (h : g_S1 n f A s H) (hq : ∀ a : Nat, a < H.size → ¬ A a → H1[a]? = H[a]?) (hvm : s.vm.Alike U.vm) (hAB : ∀ q, B q → A q) : g_S1 n f B U H1 := by
  obtain ⟨t, h1, h2⟩ := h
  exact ⟨t, ((h1.kept hq).moved hvm).narrow hAB, ((h2.kept hq).moved hvm).narrow hAB⟩
def g_NW (U : State) : Prop :=
  va_Nw (.fieldLinkNest RX3 39 "ShuttleDoors" "SETTING_FIRST" "[I" "ShuttleDoors") U ∧
  va_Nw (.methodLinkNest RX5 18 yX2_init "ShuttleDoors") U ∧
  va_Nw (.methodLinkNest RX5 25 yX4_init "ShuttleDoors") U ∧
  va_Nw (.methodLinkNest RX5 38 yX1_init "ShuttleDoors") U ∧
  va_Nw (.methodLinkNest RX2 81 yX5_isIn "ShuttleDoors") U ∧
  va_Nw (.methodLinkNest RX2 64 yX5_isVan "ShuttleDoors") U ∧ va_AO RX3 U
theorem g_NW.warm {s U : State} (hW : s.WarmedH U.vm) (h : g_NW s) : g_NW U :=
  ⟨va_Nw.warmF hW h.1, va_Nw.warmM hW h.2.1, va_Nw.warmM hW h.2.2.1, va_Nw.warmM hW h.2.2.2.1, va_Nw.warmM hW h.2.2.2.2.1, va_Nw.warmM hW h.2.2.2.2.2.1, va_AO.moved hW.alike h.2.2.2.2.2.2⟩
theorem g_NW.same {s U : State} (hv : s.vm = U.vm) (h : g_NW s) : g_NW U :=
  ⟨va_Nw.same rfl hv h.1, va_Nw.same rfl hv h.2.1, va_Nw.same rfl hv h.2.2.1, va_Nw.same rfl hv h.2.2.2.1, va_Nw.same rfl hv h.2.2.2.2.1, va_Nw.same rfl hv h.2.2.2.2.2.1, va_AO.moved (by rw [hv]; exact Vm.Alike.refl U.vm) h.2.2.2.2.2.2⟩
def g_ST (A : Nat → Prop) (U : State) : Prop := g_S1 "SETTING_LEAST" g_least A U U.heap ∧ g_S1 "SETTING_MOST" g_most A U U.heap ∧ g_S1 "SETTING_FIRST" g_first A U U.heap ∧ g_NW U
theorem g_ST.blind {A : Nat → Prop} {U : State} {g : JFrame} {mk : MethodId} {a : Array Value} (h : g_ST A U) : g_ST A (U.calling g mk a) :=
  ⟨h.1.step (fun _ _ _ => rfl) (Vm.Alike.refl U.vm) (fun _ h => h), h.2.1.step (fun _ _ _ => rfl) (Vm.Alike.refl U.vm) (fun _ h => h), h.2.2.1.step (fun _ _ _ => rfl) (Vm.Alike.refl U.vm) (fun _ h => h), h.2.2.2.same rfl⟩
def g_Pc (D : va_G) (cI cR : ClassId) (av : List Value) (wc : va_W) (sz : Nat) : Array Value → State → Prop := va_Pc av (fun U => U.heap.size = sz ∧ va_P D vwCl wc U.heap ∧ va_K D vwCl (g_tys cI cR) U ∧ va_D (fun _ => True) wc ∧ g_ST (va_A wc sz) U)
theorem g_Pc.blind {D : va_G} {cI cR : ClassId} {av : List Value} {wc : va_W} {sz : Nat} : FrameBlind (g_Pc D cI cR av wc sz) := fun a U g mk q => by
  obtain ⟨e, h1, h2, h3, h4, h5⟩ := q
  exact ⟨e, h1, h2, va_K.moved (u := U) (U := U.calling g mk a) (Vm.Alike.refl U.vm) h3, h4, h5.blind⟩
def g_Q {S : Type} (D : va_G) (post : Option Value → S → Prop) (B : S → va_W) (A : Nat → Prop) : Array Value → State → Outcome → State → Prop := fun _ st oc t => (∃ (v : Option Value) (u : S), oc = .returned v ∧ post v u ∧ va_P D vwCl (B u) t.heap ∧ va_D A (B u)) ∧ va_F A st t
/-- a contract: from a heap that holds the world wc, the method returns, 'post' holds of its answer and of u, the heap holds the world B u -/
def CT (l : Launch) (D : va_G) (cI cR : ClassId) (y : MethodName) (cy : ByteArray) (nL : Nat) (ret : Option FieldType) (rm : Room) (av : List Value) (wc : va_W) {S : Type} (B : S → va_W) (post : Option Value → S → Prop) (mc ms : Nat) : Prop :=
  ∀ sz : Nat, Met l y (Cond.code y cy nL ret :: lw_good) rm (g_Pc D cI cR av wc sz) (g_Q D post B (va_A wc sz)) mc ms (va_A wc sz)
def KC (p : Program) (s : State) (m : MethodId) (args : Array Value) (meth : Method) (c : Code) (cc : ByteArray) (nL : Nat) (own : String) (D : va_G) (cI cR : ClassId) (A : Nat → Prop) (ret : Option FieldType) : Prop :=
  CallFix p m c cc nL s args lw_good own ∧ va_K D vwCl (g_tys cI cR) s ∧ (∀ q : Nat, s.heap.size ≤ q → A q) ∧ g_ST A s ∧ meth.locks = false ∧ meth.sig.returnType = ret
def GW (p : Program) (l : Launch) (e : Env) (R : Room) (s : State) (m : MethodId) (args : Array Value) (below : List Frame) (meth : Method) (c : Code) (D : va_G) (A : Nat → Prop) (nL : Nat) (Q : State → Prop) (ce sl : Nat) (ws : va_W) (lv : List (Nat × Value)) (pc : Nat) (st : List Value) : Prop :=
  ∀ (H : Heap) (locs : List Loc) (ls : Array Slot), va_P D vwCl ws H → va_D A ws → va_S A s.heap H locs → lv_has ls nL lv → W p l e R s m args below meth c H locs ce sl Q (F0 m pc ls st)
abbrev GM (p : Program) (l : Launch) (e : Env) (R : Room) (s : State) (m : MethodId) (args : Array Value) (below : List Frame) (meth : Method) (c : Code) (D : va_G) (A : Nat → Prop) (nL : Nat) {S : Type} (post : Option Value → S → Prop) (B : S → va_W) (mc ms : Nat) (ce sl : Nat) (ws : va_W) (lv : List (Nat × Value)) (pc : Nat) (st : List Value) : Prop :=
  GW p l e R s m args below meth c D A nL (MQ below (g_Q D post B A) args s mc ms A) ce sl ws lv pc st
/-- cells of a world put back by their places; those that are left over come behind -/
def g_repl {α : Type} : List α → List Nat → List α → List α
  | ws, [], es => ws ++ es
  | ws, _ :: _, [] => ws
  | ws, i :: is, e :: es => g_repl (ws.set i e) is es
theorem g_repl_get {α : Type} : ∀ (is : List Nat) (ws es : List α) (k : Nat) (q : α), is.length ≤ es.length → (g_repl ws is es)[k]? = some q →
    (∃ j, es[j]? = some q ∧ (is[j]? = some k ∨ (is.length ≤ j ∧ k = ws.length + (j - is.length)))) ∨ (k ∉ is ∧ ws[k]? = some q)
  | [], ws, es, k, q, _, h => by
    simp only [g_repl] at h
    by_cases hl : k < ws.length
    · rw [List.getElem?_append_left hl] at h
      exact Or.inr ⟨List.not_mem_nil, h⟩
    · rw [List.getElem?_append_right (by omega)] at h
      exact Or.inl ⟨k - ws.length, h, Or.inr ⟨Nat.zero_le _, by simp; omega⟩⟩
  | i :: is, ws, [], k, q, hlen, h => by simp at hlen
  | i :: is, ws, e :: es, k, q, hlen, h => by
    simp only [g_repl] at h
    rcases g_repl_get is (ws.set i e) es k q (by simpa using hlen) h with ⟨j, h1, h2⟩ | ⟨h1, h2⟩
    · refine Or.inl ⟨j + 1, by simpa using h1, ?_⟩
      rcases h2 with h2 | ⟨h2, h3⟩
      · exact Or.inl (by simpa using h2)
      · exact Or.inr ⟨by simpa using h2, by rw [List.length_set] at h3; rw [List.length_cons]; omega⟩
    · by_cases hk : k = i
      · subst hk
        have hlt : k < ws.length := by
          have := (List.getElem?_eq_some_iff.mp h2).1
          simpa using this
        rw [List.getElem?_set_self hlt] at h2
        exact Or.inl ⟨0, by simpa using h2, Or.inl (by simp)⟩
      · rw [List.getElem?_set_ne (Ne.symm hk)] at h2
        exact Or.inr ⟨fun hm => (List.mem_cons.mp hm).elim hk h1, h2⟩
theorem g_pickC {ws wc : va_W} {isC : List Nat} (hC : isC.map (fun i => ws[i]?) = wc.map some) {k : Nat} {q : Nat × va_E} (hq : wc[k]? = some q) : ∃ i, isC[k]? = some i ∧ ws[i]? = some q := by
  have h1 : (isC.map (fun i => ws[i]?))[k]? = some (some q) := by rw [hC, List.getElem?_map, hq]; rfl
  rw [List.getElem?_map] at h1
  cases hi : isC[k]? with
  | none => rw [hi] at h1; cases h1
  | some i => rw [hi] at h1; exact ⟨i, rfl, Option.some.inj h1⟩
theorem g_join {A : Nat → Prop} {D : va_G} {ws wc w1 : va_W} {H H1 : Heap} (hP : va_P D vwCl ws H) (hD : va_D A ws) (isC : List Nat) (hC : isC.map (fun i => ws[i]?) = wc.map some) (hB : isC.length ≤ w1.length)
    (hk : ∀ q : Nat, q < H.size → ¬ va_A wc H.size q → H1[q]? = H[q]?) (hF : ∀ q, va_A wc H.size q → A q) (hP1 : va_P D vwCl w1 H1) (hD1 : va_D (va_A wc H.size) w1) : va_P D vwCl (g_repl ws isC w1) H1 ∧ va_D A (g_repl ws isC w1) := by
  have apart : ∀ (k : Nat) (q : Nat × va_E), k ∉ isC → ws[k]? = some q → q.1 < H.size ∧ ¬ va_A wc H.size q.1 := by
    intro k q hn hq
    have hl := (hP k q hq).lt
    refine ⟨hl, fun h => ?_⟩
    rcases h with ⟨k2, e, h⟩ | h
    · obtain ⟨j, h3, h4⟩ := g_pickC hC h
      have hij := hD.1 k j q (q.1, e) hq h4 rfl
      subst hij
      exact hn (List.mem_of_getElem? h3)
    · omega
  refine ⟨fun k q h => ?_, fun i j x y hx hy hxy => ?_, fun k q h => ?_⟩
  · rcases g_repl_get isC ws w1 k q hB h with ⟨j, h1, -⟩ | ⟨h1, h2⟩
    · exact hP1 j q h1
    · obtain ⟨g1, g2⟩ := apart k q h1 h2
      exact (hP k q h2).kept (hk q.1 g1 g2)
  · rcases g_repl_get isC ws w1 i x hB hx with ⟨a, h1, h1'⟩ | ⟨h1, h2⟩ <;> rcases g_repl_get isC ws w1 j y hB hy with ⟨b, h3, h3'⟩ | ⟨h3, h4⟩
    · have hab := hD1.1 a b x y h1 h3 hxy
      subst hab
      rcases h1' with h1' | ⟨h1', e1⟩ <;> rcases h3' with h3' | ⟨h3', e3⟩
      · exact Option.some.inj (h1'.symm.trans h3')
      · have := (List.getElem?_eq_some_iff.mp h1').1
        omega
      · have := (List.getElem?_eq_some_iff.mp h3').1
        omega
      · rw [e1, e3]
    · exact absurd (hxy ▸ hD1.2 a x h1) (apart j y h3 h4).2
    · exact absurd (hxy.symm ▸ hD1.2 b y h3) (apart i x h1 h2).2
    · exact hD.1 i j x y h2 h4 hxy
  · rcases g_repl_get isC ws w1 k q hB h with ⟨j, h1, -⟩ | ⟨h1, h2⟩
    · exact hF _ (hD1.2 j q h1)
    · exact hD.2 k q h2
theorem g_call {S : Type} {post : Option Value → S → Prop} {B : S → va_W} {p : Program} {l : Launch} {e : Env} {R : Room} {s : State} {m : MethodId} {args : Array Value} {below : List Frame} {meth : Method} {c : Code} {H : Heap} {locs : List Loc} {cells slots mc ms pc : Nat} {ls : Array Slot} {st0 rest : List Value} {D : va_G} {A0 A1 : Nat → Prop} {H0 : Heap} {a : Array Value} {free : Addr → Prop} {Q : State → Prop}
    (hr : va_Run p l e R s m args below meth c H locs cells slots mc ms (F0 m pc ls st0) rest (g_Q D post B A1 a) free) (hS : va_S A0 H0 H locs) (hA : ∀ q, q < H.size → A1 q → A0 q) (hf : ∀ q, free q → A0 q)
    (kk : ∀ (v : Option Value) (u : S) (H1 : Heap) (locs1 : List Loc), post v u → va_P D vwCl (B u) H1 → va_D A1 (B u) → (∀ q : Nat, q < H.size → ¬ A1 q → H1[q]? = H[q]?) → va_S A0 H0 H1 locs1 → W p l e R s m args below meth c H1 locs1 (cells + mc) (slots + ms) Q (F0 m (pc + 3) ls (v.toList ++ rest))) : W p l e R s m args below meth c H locs cells slots Q (F0 m pc ls st0) := by
  intro T hT X
  obtain ⟨v, st₀, t, T', L, h0, X', hL, e1, e2, ⟨⟨v', u, hv, hp, hb, hd⟩, hz, hk⟩, st⟩ := hr T hT X
  have hv2 : v = v' := by injection hv
  rw [h0] at hz hk
  obtain ⟨t2, a1, b1⟩ := kk v u T'.heap (locs ++ L) (hv2 ▸ hp) (by rw [e1]; exact hb) hd (fun q h1 h2 => by rw [e1]; exact hk q h1 h2)
    ⟨Nat.le_trans hS.1 (by rw [e1]; exact hz), fun q h1 h2 => by rw [e1, hk q (Nat.lt_of_lt_of_le h1 hS.1) (fun z => h2 (hA q (Nat.lt_of_lt_of_le h1 hS.1) z))]; exact hS.2.1 q h1 h2, fun q hq => by
      rcases List.mem_append.mp hq with h | h
      · exact hS.2.2 q h
      · exact hf _ (hL q h)⟩ T' rfl X'
  exact ⟨t2, st t2 a1, b1⟩
theorem g_good {y : MethodName} {cy : ByteArray} {n : Nat} {ret : Option FieldType} (h : Cond.code y cy n ret ∈ lw_good) : GoodIn lw_good (Cond.code y cy n ret :: lw_good) := fun w hw => by
  have hm : w ∈ lw_good := (List.mem_cons.mp hw).elim (fun e => e ▸ h) id
  exact ⟨hm, good_of_word (List.mem_filter.mp hm).2⟩
section GWS
variable {p : Program} {l : Launch} {e : Env} {R : Room} {s : State} {m : MethodId} {args : Array Value} {below : List Frame} {meth : Method} {c : Code} {D : va_G} {cI cR : ClassId} {A : Nat → Prop} {nL : Nat} {Q : State → Prop} {ce sl : Nat} {ws : va_W} {lv : List (Nat × Value)} {pc : Nat} {st : List Value} {cc : ByteArray} {own : String} {ret : Option FieldType}
theorem g_pre (κ : KC p s m args meth c cc nL own D cI cR A ret) {H : Heap} {locs : List Loc} {av : List Value} {wc : va_W} (hP : va_P D vwCl ws H) (hD : va_D A ws) (hS : va_S A s.heap H locs) (isC : List Nat) (hC : isC.map (fun i => ws[i]?) = wc.map some) (hN : va_nd isC = true) :
    ∀ U : State, U.heap = H → s.WarmedH U.vm → g_Pc D cI cR av wc H.size av.toArray U := by
  intro U hU hW
  have hF := va_free (wc := wc) hD hS κ.2.2.1 isC hC
  have hq : ∀ a : Nat, a < s.heap.size → ¬ A a → U.heap[a]? = s.heap[a]? := fun a h1 h2 => by rw [hU]; exact hS.2.1 a h1 h2
  have hst := κ.2.2.2.1
  refine ⟨rfl, by rw [hU], ?_, va_K.moved hW.alike κ.2.1, (hD.sub isC hN hC).weaken (fun _ _ _ _ => trivial), hst.1.step hq hW.alike hF, hst.2.1.step hq hW.alike hF, hst.2.2.1.step hq hW.alike hF, hst.2.2.2.warm hW⟩
  rw [hU]
  intro k q hk
  obtain ⟨i, -, hi⟩ := g_pickC hC hk
  exact hP i q hi
theorem gw_run (κ : KC p s m args meth c cc nL own D cI cR A ret) {S : Type} {B : S → va_W} {post : Option Value → S → Prop} {wc : va_W} {mc ms : Nat} {rest st0 : List Value} {aa : Array Value} (isC : List Nat) (hC : isC.map (fun i => ws[i]?) = wc.map some) (hB : ∀ u, isC.length ≤ (B u).length)
    (hr : ∀ (H : Heap) (locs : List Loc) (ls : Array Slot), va_P D vwCl ws H → va_D A ws → va_S A s.heap H locs → lv_has ls nL lv → va_Run p l e R s m args below meth c H locs ce sl mc ms (F0 m pc ls st0) rest (g_Q D post B (va_A wc H.size) aa) (va_A wc H.size))
    (kk : ∀ v u, post v u → GW p l e R s m args below meth c D A nL Q (ce + mc) (sl + ms) (g_repl ws isC (B u)) lv (pc + 3) (v.toList ++ rest)) : GW p l e R s m args below meth c D A nL Q ce sl ws lv pc st0 := by
  intro H locs ls hP hD hS hl
  have hF := va_free (wc := wc) hD hS κ.2.2.1 isC hC
  refine g_call (hr H locs ls hP hD hS hl) hS (fun q _ h => hF q h) hF (fun v u H1 locs1 hp hP1 hD1 hk hS1 => ?_)
  obtain ⟨hP2, hD2⟩ := g_join hP hD isC hC (hB u) hk hF hP1 hD1
  exact kk v u hp H1 locs1 ls hP2 hD2 hS1 hl
abbrev g_hy (y : MethodName) (n : Nat) : Prop := y.cls ≠ "java/lang/invoke/MethodHandle" ∧ y.cls ≠ "java/lang/invoke/VarHandle" ∧ (parseMethodDescriptor y.desc).map (fun d => d.parameters.length) = some n
abbrev g_rm (R rm : Room) (nLy mc ms : Nat) : Prop := rm.cells = mc ∧ rm.slots = ms ∧ rm.frames + 1 ≤ R.frames ∧ 8 + (nLy + 11) + rm.locals ≤ R.locals
theorem gw_callV (κ : KC p s m args meth c cc nL own D cI cR A ret) {y : MethodName} {cy : ByteArray} {nLy : Nat} {rety : Option FieldType} {rm : Room} {b : Nat} {As : List Value} {wc : va_W} {S : Type} {B : S → va_W} {post : Option Value → S → Prop} {mc ms n idx ci qb : Nat} {fs : List Value} {r : vw_C} {rest : List Value}
    (hct : CT l D cI cR y cy nLy rety rm (.ref b :: As) wc B post mc ms) (hrm : g_rm R rm nLy mc ms)
    (hwl : Cond.methodLink own idx y ∈ lw_good) (hwi : Cond.instanceMethod y ∈ lw_good) (hws : Cond.selects y.cls y y ∈ lw_good) (hwc : Cond.code y cy nLy rety ∈ lw_good) (hwn : Cond.initialized y.cls ∈ lw_good)
    (hy : g_hy y n) (hn : As.length = n) (hcl : vwCl[ci]? = some r) (hrc : r.1 = y.cls) (hqb : ws[qb]? = some (b, .inr (ci, fs)))
    (hW : (rest.map fun v => v.category).sum ≤ 8) (hst : st = As.reverse ++ .ref b :: rest) (hd : decode cc pc = .ok (.invokevirtual idx, 3))
    (isC : List Nat) (hC : isC.map (fun i => ws[i]?) = wc.map some) (hN : va_nd isC = true) (hB : ∀ u, isC.length ≤ (B u).length) (hcells : ce + mc ≤ R.cells ∧ sl + ms ≤ R.slots)
    (kk : ∀ v u, post v u → GW p l e R s m args below meth c D A nL Q (ce + mc) (sl + ms) (g_repl ws isC (B u)) lv (pc + 3) (v.toList ++ rest)) : GW p l e R s m args below meth c D A nL Q ce sl ws lv pc st := by
  have hts := κ.1.2.2.2.2
  refine gw_run κ (rest := rest) (aa := (Value.ref b :: As).toArray) isC hC hB (fun H locs ls hP hD hS hl => ?_) kk
  obtain ⟨cell, g1, g2, g3⟩ := va_recv κ.2.1 hP hcl hqb
  exact va_runV (C := y.cls) (n := n) (ret := rety) κ.1 (hct H.size) ⟨callB_of n hts (g_good hwc) rfl hrm.1 hrm.2.1 (hts _ hwn) (hts _ hwl) hy hrm.2.2, hts _ hwi, hts _ hws⟩
    ⟨g_Pc.blind, ⟨cell, g1, g2, by rw [← hrc]; exact g3⟩, g_pre κ hP hD hS isC hC hN⟩ rfl hn hl.1 hst (lv_room hW) hd hcells
theorem gw_callS (κ : KC p s m args meth c cc nL own D cI cR A ret) {y : MethodName} {cy : ByteArray} {nLy : Nat} {rety : Option FieldType} {rm : Room} {As : List Value} {wc : va_W} {S : Type} {B : S → va_W} {post : Option Value → S → Prop} {mc ms n idx : Nat} {rest : List Value}
    (hct : CT l D cI cR y cy nLy rety rm As wc B post mc ms) (hrm : g_rm R rm nLy mc ms)
    (hwl : Cond.methodLink own idx y ∈ lw_good) (hwi : Cond.static y ∈ lw_good) (hwc : Cond.code y cy nLy rety ∈ lw_good) (hwn : Cond.initialized y.cls ∈ lw_good)
    (hy : g_hy y n) (hn : As.length = n)
    (hW : (rest.map fun v => v.category).sum ≤ 8) (hst : st = As.reverse ++ rest) (hd : decode cc pc = .ok (.invokestatic idx, 3))
    (isC : List Nat) (hC : isC.map (fun i => ws[i]?) = wc.map some) (hN : va_nd isC = true) (hB : ∀ u, isC.length ≤ (B u).length) (hcells : ce + mc ≤ R.cells ∧ sl + ms ≤ R.slots)
    (kk : ∀ v u, post v u → GW p l e R s m args below meth c D A nL Q (ce + mc) (sl + ms) (g_repl ws isC (B u)) lv (pc + 3) (v.toList ++ rest)) : GW p l e R s m args below meth c D A nL Q ce sl ws lv pc st := by
  have hts := κ.1.2.2.2.2
  refine gw_run κ (rest := rest) (aa := As.toArray) isC hC hB (fun H locs ls hP hD hS hl => ?_) kk
  exact va_runS (n := n) (ret := rety) κ.1 (hct H.size) ⟨callB_of n hts (g_good hwc) rfl hrm.1 hrm.2.1 (hts _ hwn) (hts _ hwl) hy hrm.2.2, hts _ hwi⟩
    ⟨g_Pc.blind, g_pre κ hP hD hS isC hC hN⟩ rfl hn hl.1 hst (lv_room hW) hd hcells
theorem gw_callSN (κ : KC p s m args meth c cc nL own D cI cR A ret) {y : MethodName} {cy : ByteArray} {nLy : Nat} {rety : Option FieldType} {rm : Room} {As : List Value} {wc : va_W} {S : Type} {B : S → va_W} {post : Option Value → S → Prop} {mc ms n idx : Nat} {rest : List Value} {host : String}
    (hct : CT l D cI cR y cy nLy rety rm As wc B post mc ms) (hrm : g_rm R rm nLy mc ms)
    (hwl : va_Nw (.methodLinkNest own idx y host) s) (hwi : Cond.static y ∈ lw_good) (hwc : Cond.code y cy nLy rety ∈ lw_good) (hwn : Cond.initialized y.cls ∈ lw_good)
    (hy : g_hy y n) (hn : As.length = n)
    (hW : (rest.map fun v => v.category).sum ≤ 8) (hst : st = As.reverse ++ rest) (hd : decode cc pc = .ok (.invokestatic idx, 3))
    (isC : List Nat) (hC : isC.map (fun i => ws[i]?) = wc.map some) (hN : va_nd isC = true) (hB : ∀ u, isC.length ≤ (B u).length) (hcells : ce + mc ≤ R.cells ∧ sl + ms ≤ R.slots)
    (kk : ∀ v u, post v u → GW p l e R s m args below meth c D A nL Q (ce + mc) (sl + ms) (g_repl ws isC (B u)) lv (pc + 3) (v.toList ++ rest)) : GW p l e R s m args below meth c D A nL Q ce sl ws lv pc st := by
  have hts := κ.1.2.2.2.2
  refine gw_run κ (rest := rest) (aa := As.toArray) isC hC hB (fun H locs ls hP hD hS hl => ?_) kk
  exact va_runSN (n := n) (ret := rety) κ.1 (hct H.size) ⟨va_cnB n hts (g_good hwc) rfl hrm.1 hrm.2.1 hwl (hts _ hwn) hy hrm.2.2, hts _ hwi, trivial⟩
    ⟨g_Pc.blind, g_pre κ hP hD hS isC hC hN⟩ rfl hn hl.1 hst (lv_room hW) hd hcells
theorem gw_callI (κ : KC p s m args meth c cc nL own D cI cR A ret) {y : MethodName} {cy : ByteArray} {nLy : Nat} {rm : Room} {b : Nat} {As : List Value} {wc : va_W} {S : Type} {B : S → va_W} {post : Option Value → S → Prop} {mc ms n idx : Nat} {rest : List Value}
    (hct : CT l D cI cR y cy nLy none rm (.ref b :: As) wc B post mc ms) (hrm : g_rm R rm nLy mc ms)
    (hwl : Cond.methodLink own idx y ∈ lw_good) (hwi : Cond.instanceMethod y ∈ lw_good) (hwc : Cond.code y cy nLy none ∈ lw_good) (hwn : Cond.initialized y.cls ∈ lw_good)
    (hy : g_hy y n) (hy1 : y.name = "<init>") (hn : As.length = n)
    (hW : (rest.map fun v => v.category).sum ≤ 8) (hst : st = As.reverse ++ .ref b :: rest) (hd : decode cc pc = .ok (.invokespecial idx, 3))
    (isC : List Nat) (hC : isC.map (fun i => ws[i]?) = wc.map some) (hN : va_nd isC = true) (hB : ∀ u, isC.length ≤ (B u).length) (hcells : ce + mc ≤ R.cells ∧ sl + ms ≤ R.slots)
    (kk : ∀ v u, post v u → GW p l e R s m args below meth c D A nL Q (ce + mc) (sl + ms) (g_repl ws isC (B u)) lv (pc + 3) (v.toList ++ rest)) : GW p l e R s m args below meth c D A nL Q ce sl ws lv pc st := by
  have hts := κ.1.2.2.2.2
  refine gw_run κ (rest := rest) (aa := (Value.ref b :: As).toArray) isC hC hB (fun H locs ls hP hD hS hl => ?_) kk
  exact va_runI (n := n) κ.1 (hct H.size) ⟨callB_of n hts (g_good hwc) rfl hrm.1 hrm.2.1 (hts _ hwn) (hts _ hwl) hy hrm.2.2, hy1, hts _ hwi⟩
    ⟨g_Pc.blind, g_pre κ hP hD hS isC hC hN⟩ rfl hn hl.1 hst (lv_room hW) hd hcells
theorem gw_callIN (κ : KC p s m args meth c cc nL own D cI cR A ret) {y : MethodName} {cy : ByteArray} {nLy : Nat} {rm : Room} {b : Nat} {As : List Value} {wc : va_W} {S : Type} {B : S → va_W} {post : Option Value → S → Prop} {mc ms n idx : Nat} {rest : List Value} {host : String}
    (hct : CT l D cI cR y cy nLy none rm (.ref b :: As) wc B post mc ms) (hrm : g_rm R rm nLy mc ms)
    (hwl : va_Nw (.methodLinkNest own idx y host) s) (hwi : Cond.instanceMethod y ∈ lw_good) (hwc : Cond.code y cy nLy none ∈ lw_good) (hwn : Cond.initialized y.cls ∈ lw_good)
    (hy : g_hy y n) (hy1 : y.name = "<init>") (hn : As.length = n)
    (hW : (rest.map fun v => v.category).sum ≤ 8) (hst : st = As.reverse ++ .ref b :: rest) (hd : decode cc pc = .ok (.invokespecial idx, 3))
    (isC : List Nat) (hC : isC.map (fun i => ws[i]?) = wc.map some) (hN : va_nd isC = true) (hB : ∀ u, isC.length ≤ (B u).length) (hcells : ce + mc ≤ R.cells ∧ sl + ms ≤ R.slots)
    (kk : ∀ v u, post v u → GW p l e R s m args below meth c D A nL Q (ce + mc) (sl + ms) (g_repl ws isC (B u)) lv (pc + 3) (v.toList ++ rest)) : GW p l e R s m args below meth c D A nL Q ce sl ws lv pc st := by
  have hts := κ.1.2.2.2.2
  refine gw_run κ (rest := rest) (aa := (Value.ref b :: As).toArray) isC hC hB (fun H locs ls hP hD hS hl => ?_) kk
  exact va_runIN (n := n) κ.1 (hct H.size) ⟨va_cnB n hts (g_good hwc) rfl hrm.1 hrm.2.1 hwl (hts _ hwn) hy hrm.2.2, hy1, hts _ hwi⟩
    ⟨g_Pc.blind, g_pre κ hP hD hS isC hC hN⟩ rfl hn hl.1 hst (lv_room hW) hd hcells
/-- another form of the same world, of the locals -/
theorem gw_ws {ws' : va_W} (h : ws = ws') (k : GW p l e R s m args below meth c D A nL Q ce sl ws' lv pc st) : GW p l e R s m args below meth c D A nL Q ce sl ws lv pc st := h ▸ k
theorem gw_lv {lv' : List (Nat × Value)} (ks : List Nat) (h : lv_pick lv ks = lv') (k : GW p l e R s m args below meth c D A nL Q ce sl ws lv' pc st) : GW p l e R s m args below meth c D A nL Q ce sl ws lv pc st :=
  fun H locs ls hP hD hS hl => k H locs ls hP hD hS (lv_sub hl ks h)
theorem gw_widen {k n : Nat} (h1 : ce ≤ k) (h2 : sl ≤ n) (kk : GW p l e R s m args below meth c D A nL Q k n ws lv pc st) : GW p l e R s m args below meth c D A nL Q ce sl ws lv pc st :=
  fun H locs ls hP hD hS hl => W.widen h1 h2 (kk H locs ls hP hD hS hl)
end GWS
