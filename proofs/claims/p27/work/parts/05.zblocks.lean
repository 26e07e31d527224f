/-! ===== worlds in blocks: a block an object ===== -/
def wfl (bs : List va_W) : va_W := bs.flatten
def off : List va_W → Nat → Nat
  | [], _ => 0
  | _ :: _, 0 => 0
  | b :: bs, i + 1 => b.length + off bs i
theorem fl_cons (b : va_W) (bs : List va_W) : wfl (b :: bs) = b ++ wfl bs := by simp [wfl]
theorem fl_get : ∀ (bs : List va_W) (i : Nat) (b : va_W) (k : Nat) (x : Nat × va_E), bs[i]? = some b → b[k]? = some x → (wfl bs)[off bs i + k]? = some x
  | [], i, b, k, x, hb, _ => by simp at hb
  | c :: bs, 0, b, k, x, hb, hk => by
    simp only [List.getElem?_cons_zero, Option.some.injEq] at hb
    subst hb
    have hl := (List.getElem?_eq_some_iff.mp hk).1
    rw [fl_cons, show off (c :: bs) 0 + k = k by simp [off], List.getElem?_append_left hl]
    exact hk
  | c :: bs, i + 1, b, k, x, hb, hk => by
    simp only [List.getElem?_cons_succ] at hb
    rw [fl_cons, show off (c :: bs) (i + 1) + k = c.length + (off bs i + k) by simp [off]; omega, List.getElem?_append_right (by omega)]
    rw [show c.length + (off bs i + k) - c.length = off bs i + k by omega]
    exact fl_get bs i b k x hb hk
theorem fl_inv : ∀ (bs : List va_W) (n : Nat) (x : Nat × va_E), (wfl bs)[n]? = some x → ∃ i b k, bs[i]? = some b ∧ b[k]? = some x ∧ n = off bs i + k
  | [], n, x, h => by simp [wfl] at h
  | c :: bs, n, x, h => by
    rw [fl_cons] at h
    by_cases hl : n < c.length
    · rw [List.getElem?_append_left hl] at h
      exact ⟨0, c, n, rfl, h, by simp [off]⟩
    · rw [List.getElem?_append_right (by omega)] at h
      obtain ⟨i, b, k, h1, h2, h3⟩ := fl_inv bs _ x h
      exact ⟨i + 1, b, k, by simpa using h1, h2, by simp only [off]; omega⟩
theorem off_inj : ∀ (bs : List va_W) (i j : Nat) (b c : va_W) (k l : Nat), bs[i]? = some b → bs[j]? = some c → k < b.length → l < c.length → off bs i + k = off bs j + l → i = j ∧ k = l
  | [], i, j, b, c, k, l, hb, _, _, _, _ => by simp at hb
  | d :: bs, 0, 0, b, c, k, l, hb, hc, hk, hl, e => ⟨rfl, by omega⟩
  | d :: bs, 0, j + 1, b, c, k, l, hb, hc, hk, hl, e => by
    simp only [List.getElem?_cons_zero, Option.some.injEq] at hb
    subst hb
    simp only [off] at e
    omega
  | d :: bs, i + 1, 0, b, c, k, l, hb, hc, hk, hl, e => by
    simp only [List.getElem?_cons_zero, Option.some.injEq] at hc
    subst hc
    simp only [off] at e
    omega
  | d :: bs, i + 1, j + 1, b, c, k, l, hb, hc, hk, hl, e => by
    simp only [List.getElem?_cons_succ] at hb hc
    simp only [off] at e
    obtain ⟨h1, h2⟩ := off_inj bs i j b c k l hb hc hk hl (by omega)
    exact ⟨by omega, h2⟩
theorem fl_set : ∀ (bs : List va_W) (i : Nat) (b : va_W) (k : Nat) (x : Nat × va_E), bs[i]? = some b → k < b.length → (wfl bs).set (off bs i + k) x = wfl (bs.set i (b.set k x))
  | [], i, b, k, x, hb, _ => by simp at hb
  | c :: bs, 0, b, k, x, hb, hk => by
    simp only [List.getElem?_cons_zero, Option.some.injEq] at hb
    subst hb
    rw [List.set_cons_zero, fl_cons, fl_cons, show off (c :: bs) 0 + k = k by simp [off], List.set_append_left _ _ hk]
  | c :: bs, i + 1, b, k, x, hb, hk => by
    simp only [List.getElem?_cons_succ] at hb
    rw [List.set_cons_succ, fl_cons, fl_cons, show off (c :: bs) (i + 1) + k = c.length + (off bs i + k) by simp [off]; omega, List.set_append_right _ _ (by omega)]
    rw [show c.length + (off bs i + k) - c.length = off bs i + k by omega, fl_set bs i b k x hb hk]
theorem g_pickB {α : Type} {ws wc : List α} {isC : List Nat} (hC : isC.map (fun i => ws[i]?) = wc.map some) {k : Nat} {q : α} (hq : wc[k]? = some q) : ∃ i, isC[k]? = some i ∧ ws[i]? = some q := by
  have h1 : (isC.map (fun i => ws[i]?))[k]? = some (some q) := by rw [hC, List.getElem?_map, hq]; rfl
  rw [List.getElem?_map] at h1
  cases hi : isC[k]? with
  | none => rw [hi] at h1; cases h1
  | some i => rw [hi] at h1; exact ⟨i, rfl, Option.some.inj h1⟩
theorem fl_sub {bs bc : List va_W} {isB : List Nat} (hC : isB.map (fun i => bs[i]?) = bc.map some) {n : Nat} {q : Nat × va_E} (h : (wfl bc)[n]? = some q) : ∃ j c l i, bc[j]? = some c ∧ c[l]? = some q ∧ n = off bc j + l ∧ isB[j]? = some i ∧ bs[i]? = some c ∧ (wfl bs)[off bs i + l]? = some q := by
  obtain ⟨j, c, l, h1, h2, h3⟩ := fl_inv bc n q h
  obtain ⟨i, h4, h5⟩ := g_pickB hC h1
  exact ⟨j, c, l, i, h1, h2, h3, h4, h5, fl_get bs i c l q h5 h2⟩
theorem fl_P {D : va_G} {bs bc : List va_W} {isB : List Nat} {H : Heap} (hC : isB.map (fun i => bs[i]?) = bc.map some) (hP : va_P D vwCl (wfl bs) H) : va_P D vwCl (wfl bc) H := by
  intro n q h
  obtain ⟨j, c, l, i, -, -, -, -, -, h6⟩ := fl_sub hC h
  exact hP _ q h6
theorem fl_D {A : Nat → Prop} {bs bc : List va_W} {isB : List Nat} (hC : isB.map (fun i => bs[i]?) = bc.map some) (hN : va_nd isB = true) (hD : va_D A (wfl bs)) : va_D A (wfl bc) := by
  refine ⟨fun n m x y hx hy hxy => ?_, fun n q h => ?_⟩
  · obtain ⟨j, c, l, i, a1, a2, a3, a4, a5, a6⟩ := fl_sub hC hx
    obtain ⟨j', c', l', i', b1, b2, b3, b4, b5, b6⟩ := fl_sub hC hy
    have e := hD.1 _ _ x y a6 b6 hxy
    obtain ⟨e1, e2⟩ := off_inj bs i i' c c' l l' a5 b5 (List.getElem?_eq_some_iff.mp a2).1 (List.getElem?_eq_some_iff.mp b2).1 e
    subst e1
    have e3 := va_nd_inj isB hN j j' i a4 b4
    subst e3
    rw [a3, b3, e2]
  · obtain ⟨j, c, l, i, -, -, -, -, -, h6⟩ := fl_sub hC h
    exact hD.2 _ q h6
theorem fl_free {A : Nat → Prop} {bs bc : List va_W} {isB : List Nat} {H0 H : Heap} {locs : List Loc} (hC : isB.map (fun i => bs[i]?) = bc.map some) (hD : va_D A (wfl bs)) (hS : va_S A H0 H locs) (hA : ∀ q, H0.size ≤ q → A q) : ∀ q, va_A (wfl bc) H.size q → A q := by
  intro q h
  rcases h with ⟨n, e, h⟩ | h
  · obtain ⟨j, c, l, i, -, -, -, -, -, h6⟩ := fl_sub hC h
    exact hD.2 _ _ h6
  · exact hA q (Nat.le_trans hS.1 h)
theorem g_joinB {A : Nat → Prop} {D : va_G} {bs bc b1 : List va_W} {H H1 : Heap} (hP : va_P D vwCl (wfl bs) H) (hD : va_D A (wfl bs)) (isB : List Nat) (hC : isB.map (fun i => bs[i]?) = bc.map some) (hB : isB.length ≤ b1.length)
    (hk : ∀ q : Nat, q < H.size → ¬ va_A (wfl bc) H.size q → H1[q]? = H[q]?) (hF : ∀ q, va_A (wfl bc) H.size q → A q) (hP1 : va_P D vwCl (wfl b1) H1) (hD1 : va_D (va_A (wfl bc) H.size) (wfl b1)) : va_P D vwCl (wfl (g_repl bs isB b1)) H1 ∧ va_D A (wfl (g_repl bs isB b1)) := by
  have apart : ∀ (i : Nat) (b : va_W) (k : Nat) (q : Nat × va_E), i ∉ isB → bs[i]? = some b → b[k]? = some q → q.1 < H.size ∧ ¬ va_A (wfl bc) H.size q.1 := by
    intro i b k q hn hb hq
    have hf := fl_get bs i b k q hb hq
    have hl := (hP _ q hf).lt
    refine ⟨hl, fun h => ?_⟩
    rcases h with ⟨n, e, h⟩ | h
    · obtain ⟨j, c, l, i', -, a2, -, a4, a5, a6⟩ := fl_sub hC h
      have hij := hD.1 _ _ q (q.1, e) hf a6 rfl
      obtain ⟨e1, -⟩ := off_inj bs i i' b c k l hb a5 (List.getElem?_eq_some_iff.mp hq).1 (List.getElem?_eq_some_iff.mp a2).1 hij
      subst e1
      exact hn (List.mem_of_getElem? a4)
    · omega
  refine ⟨fun n q h => ?_, fun n m x y hx hy hxy => ?_, fun n q h => ?_⟩
  · obtain ⟨i, b, k, h1, h2, -⟩ := fl_inv _ n q h
    rcases g_repl_get isB bs b1 i b hB h1 with ⟨j, h3, -⟩ | ⟨h3, h4⟩
    · exact hP1 _ q (fl_get b1 j b k q h3 h2)
    · obtain ⟨g1, g2⟩ := apart i b k q h3 h4 h2
      exact (hP _ q (fl_get bs i b k q h4 h2)).kept (hk q.1 g1 g2)
  · obtain ⟨i, b, k, a1, a2, a3⟩ := fl_inv _ n x hx
    obtain ⟨i', b', k', c1, c2, c3⟩ := fl_inv _ m y hy
    have lk := (List.getElem?_eq_some_iff.mp a2).1
    have lk' := (List.getElem?_eq_some_iff.mp c2).1
    rcases g_repl_get isB bs b1 i b hB a1 with ⟨j, h1, h1'⟩ | ⟨h1, h2⟩ <;> rcases g_repl_get isB bs b1 i' b' hB c1 with ⟨j', h3, h3'⟩ | ⟨h3, h4⟩
    · have e := hD1.1 _ _ x y (fl_get b1 j b k x h1 a2) (fl_get b1 j' b' k' y h3 c2) hxy
      obtain ⟨e1, e2⟩ := off_inj b1 j j' b b' k k' h1 h3 lk lk' e
      subst e1; subst e2
      have e4 : i = i' := by
        rcases h1' with h1' | ⟨h1', e1⟩ <;> rcases h3' with h3' | ⟨h3', e3⟩
        · exact Option.some.inj (h1'.symm.trans h3')
        · have := (List.getElem?_eq_some_iff.mp h1').1
          omega
        · have := (List.getElem?_eq_some_iff.mp h3').1
          omega
        · rw [e1, e3]
      rw [a3, c3, e4]
    · exact absurd (hxy ▸ hD1.2 _ x (fl_get b1 j b k x h1 a2)) (apart i' b' k' y h3 h4 c2).2
    · exact absurd (hxy.symm ▸ hD1.2 _ y (fl_get b1 j' b' k' y h3 c2)) (apart i b k x h1 h2 a2).2
    · have e := hD.1 _ _ x y (fl_get bs i b k x h2 a2) (fl_get bs i' b' k' y h4 c2) hxy
      obtain ⟨e1, e2⟩ := off_inj bs i i' b b' k k' h2 h4 lk lk' e
      rw [a3, c3, e1, e2]
  · obtain ⟨i, b, k, h1, h2, -⟩ := fl_inv _ n q h
    rcases g_repl_get isB bs b1 i b hB h1 with ⟨j, h3, -⟩ | ⟨h3, h4⟩
    · exact hF _ (hD1.2 _ q (fl_get b1 j b k q h3 h2))
    · exact hD.2 _ q (fl_get bs i b k q h4 h2)
section GBS
variable {p : Program} {l : Launch} {e : Env} {R : Room} {s : State} {m : MethodId} {args : Array Value} {below : List Frame} {meth : Method} {c : Code} {D : va_G} {cI cR : ClassId} {A : Nat → Prop} {nL : Nat} {Q : State → Prop} {ce sl : Nat} {bs : List va_W} {lv : List (Nat × Value)} {pc pc' : Nat} {st : List Value} {cc : ByteArray} {own : String} {ret : Option FieldType}
theorem gb_pre (κ : KC p s m args meth c cc nL own D cI cR A ret) {H : Heap} {locs : List Loc} {av : List Value} {bc : List va_W} (hP : va_P D vwCl (wfl bs) H) (hD : va_D A (wfl bs)) (hS : va_S A s.heap H locs) (isB : List Nat) (hC : isB.map (fun i => bs[i]?) = bc.map some) (hN : va_nd isB = true) :
    ∀ U : State, U.heap = H → s.WarmedH U.vm → g_Pc D cI cR av (wfl bc) H.size av.toArray U := by
  intro U hU hW
  have hF := fl_free hC hD hS κ.2.2.1
  have hq : ∀ a : Nat, a < s.heap.size → ¬ A a → U.heap[a]? = s.heap[a]? := fun a h1 h2 => by rw [hU]; exact hS.2.1 a h1 h2
  have hst := κ.2.2.2.1
  exact ⟨rfl, by rw [hU], by rw [hU]; exact fl_P hC hP, va_K.moved hW.alike κ.2.1, (fl_D hC hN hD).weaken (fun _ _ _ _ => trivial), hst.1.step hq hW.alike hF, hst.2.1.step hq hW.alike hF, hst.2.2.1.step hq hW.alike hF, hst.2.2.2.warm hW⟩
theorem gb_run (κ : KC p s m args meth c cc nL own D cI cR A ret) {S : Type} {Bb : S → List va_W} {post : Option Value → S → Prop} {bc : List va_W} {mc ms : Nat} {rest st0 : List Value} {aa : Array Value} (isB : List Nat) (hC : isB.map (fun i => bs[i]?) = bc.map some) (hB : ∀ u, isB.length ≤ (Bb u).length)
    (hr : ∀ (H : Heap) (locs : List Loc) (ls : Array Slot), va_P D vwCl (wfl bs) H → va_D A (wfl bs) → va_S A s.heap H locs → lv_has ls nL lv → va_Run p l e R s m args below meth c H locs ce sl mc ms (F0 m pc ls st0) rest (g_Q D post (fun u => wfl (Bb u)) (va_A (wfl bc) H.size) aa) (va_A (wfl bc) H.size))
    (kk : ∀ v u, post v u → GW p l e R s m args below meth c D A nL Q (ce + mc) (sl + ms) (wfl (g_repl bs isB (Bb u))) lv (pc + 3) (v.toList ++ rest)) : GW p l e R s m args below meth c D A nL Q ce sl (wfl bs) lv pc st0 := by
  intro H locs ls hP hD hS hl
  have hF := fl_free hC hD hS κ.2.2.1
  refine g_call (hr H locs ls hP hD hS hl) hS (fun q _ h => hF q h) hF (fun v u H1 locs1 hp hP1 hD1 hk hS1 => ?_)
  obtain ⟨hP2, hD2⟩ := g_joinB hP hD isB hC (hB u) hk hF hP1 hD1
  exact kk v u hp H1 locs1 ls hP2 hD2 hS1 hl

theorem gb_callV (κ : KC p s m args meth c cc nL own D cI cR A ret) {y : MethodName} {cy : ByteArray} {nLy : Nat} {rety : Option FieldType} {rm : Room} {b : Nat} {As : List Value} {bc : List va_W} {S : Type} {Bb : S → List va_W} {post : Option Value → S → Prop} {mc ms n idx ci qb : Nat} {fs : List Value} {r : vw_C} {rest : List Value}
    (hct : CT l D cI cR y cy nLy rety rm (.ref b :: As) (wfl bc) (fun u => wfl (Bb u)) post mc ms) (hrm : g_rm R rm nLy mc ms)
    (hwl : Cond.methodLink own idx y ∈ lw_good) (hwi : Cond.instanceMethod y ∈ lw_good) (hws : Cond.selects y.cls y y ∈ lw_good) (hwc : Cond.code y cy nLy rety ∈ lw_good) (hwn : Cond.initialized y.cls ∈ lw_good)
    (hy : g_hy y n) (hn : As.length = n) (hcl : vwCl[ci]? = some r) (hrc : r.1 = y.cls) {bb : va_W} (hqa : bs[qb]? = some bb) (hqb : bb[0]? = some (b, .inr (ci, fs)))
    (hW : (rest.map fun v => v.category).sum ≤ 8) (hst : st = As.reverse ++ .ref b :: rest) (hd : decode cc pc = .ok (.invokevirtual idx, 3))
    (isB : List Nat) (hC : isB.map (fun i => bs[i]?) = bc.map some) (hN : va_nd isB = true) (hB : ∀ u, isB.length ≤ (Bb u).length) (hcells : ce + mc ≤ R.cells ∧ sl + ms ≤ R.slots)
    (kk : ∀ v u, post v u → GW p l e R s m args below meth c D A nL Q (ce + mc) (sl + ms) (wfl (g_repl bs isB (Bb u))) lv (pc + 3) (v.toList ++ rest)) : GW p l e R s m args below meth c D A nL Q ce sl (wfl bs) lv pc st := by
  have hts := κ.1.2.2.2.2
  refine gb_run κ (rest := rest) (aa := (Value.ref b :: As).toArray) isB hC hB (fun H locs ls hP hD hS hl => ?_) kk
  obtain ⟨cell, g1, g2, g3⟩ := va_recv κ.2.1 hP hcl (fl_get bs qb bb 0 _ hqa hqb)
  exact va_runV (C := y.cls) (n := n) (ret := rety) κ.1 (hct H.size) ⟨callB_of n hts (g_good hwc) rfl hrm.1 hrm.2.1 (hts _ hwn) (hts _ hwl) hy hrm.2.2, hts _ hwi, hts _ hws⟩
    ⟨g_Pc.blind, ⟨cell, g1, g2, by rw [← hrc]; exact g3⟩, gb_pre κ hP hD hS isB hC hN⟩ rfl hn hl.1 hst (lv_room hW) hd hcells
theorem gb_callS (κ : KC p s m args meth c cc nL own D cI cR A ret) {y : MethodName} {cy : ByteArray} {nLy : Nat} {rety : Option FieldType} {rm : Room} {As : List Value} {bc : List va_W} {S : Type} {Bb : S → List va_W} {post : Option Value → S → Prop} {mc ms n idx : Nat} {rest : List Value}
    (hct : CT l D cI cR y cy nLy rety rm As (wfl bc) (fun u => wfl (Bb u)) post mc ms) (hrm : g_rm R rm nLy mc ms)
    (hwl : Cond.methodLink own idx y ∈ lw_good) (hwi : Cond.static y ∈ lw_good) (hwc : Cond.code y cy nLy rety ∈ lw_good) (hwn : Cond.initialized y.cls ∈ lw_good)
    (hy : g_hy y n) (hn : As.length = n)
    (hW : (rest.map fun v => v.category).sum ≤ 8) (hst : st = As.reverse ++ rest) (hd : decode cc pc = .ok (.invokestatic idx, 3))
    (isB : List Nat) (hC : isB.map (fun i => bs[i]?) = bc.map some) (hN : va_nd isB = true) (hB : ∀ u, isB.length ≤ (Bb u).length) (hcells : ce + mc ≤ R.cells ∧ sl + ms ≤ R.slots)
    (kk : ∀ v u, post v u → GW p l e R s m args below meth c D A nL Q (ce + mc) (sl + ms) (wfl (g_repl bs isB (Bb u))) lv (pc + 3) (v.toList ++ rest)) : GW p l e R s m args below meth c D A nL Q ce sl (wfl bs) lv pc st := by
  have hts := κ.1.2.2.2.2
  refine gb_run κ (rest := rest) (aa := As.toArray) isB hC hB (fun H locs ls hP hD hS hl => ?_) kk
  exact va_runS (n := n) (ret := rety) κ.1 (hct H.size) ⟨callB_of n hts (g_good hwc) rfl hrm.1 hrm.2.1 (hts _ hwn) (hts _ hwl) hy hrm.2.2, hts _ hwi⟩
    ⟨g_Pc.blind, gb_pre κ hP hD hS isB hC hN⟩ rfl hn hl.1 hst (lv_room hW) hd hcells
theorem gb_callSN (κ : KC p s m args meth c cc nL own D cI cR A ret) {y : MethodName} {cy : ByteArray} {nLy : Nat} {rety : Option FieldType} {rm : Room} {As : List Value} {bc : List va_W} {S : Type} {Bb : S → List va_W} {post : Option Value → S → Prop} {mc ms n idx : Nat} {rest : List Value} {host : String}
    (hct : CT l D cI cR y cy nLy rety rm As (wfl bc) (fun u => wfl (Bb u)) post mc ms) (hrm : g_rm R rm nLy mc ms)
    (hwl : va_Nw (.methodLinkNest own idx y host) s) (hwi : Cond.static y ∈ lw_good) (hwc : Cond.code y cy nLy rety ∈ lw_good) (hwn : Cond.initialized y.cls ∈ lw_good)
    (hy : g_hy y n) (hn : As.length = n)
    (hW : (rest.map fun v => v.category).sum ≤ 8) (hst : st = As.reverse ++ rest) (hd : decode cc pc = .ok (.invokestatic idx, 3))
    (isB : List Nat) (hC : isB.map (fun i => bs[i]?) = bc.map some) (hN : va_nd isB = true) (hB : ∀ u, isB.length ≤ (Bb u).length) (hcells : ce + mc ≤ R.cells ∧ sl + ms ≤ R.slots)
    (kk : ∀ v u, post v u → GW p l e R s m args below meth c D A nL Q (ce + mc) (sl + ms) (wfl (g_repl bs isB (Bb u))) lv (pc + 3) (v.toList ++ rest)) : GW p l e R s m args below meth c D A nL Q ce sl (wfl bs) lv pc st := by
  have hts := κ.1.2.2.2.2
  refine gb_run κ (rest := rest) (aa := As.toArray) isB hC hB (fun H locs ls hP hD hS hl => ?_) kk
  exact va_runSN (n := n) (ret := rety) κ.1 (hct H.size) ⟨va_cnB n hts (g_good hwc) rfl hrm.1 hrm.2.1 hwl (hts _ hwn) hy hrm.2.2, hts _ hwi, trivial⟩
    ⟨g_Pc.blind, gb_pre κ hP hD hS isB hC hN⟩ rfl hn hl.1 hst (lv_room hW) hd hcells
theorem gb_callI (κ : KC p s m args meth c cc nL own D cI cR A ret) {y : MethodName} {cy : ByteArray} {nLy : Nat} {rm : Room} {b : Nat} {As : List Value} {bc : List va_W} {S : Type} {Bb : S → List va_W} {post : Option Value → S → Prop} {mc ms n idx : Nat} {rest : List Value}
    (hct : CT l D cI cR y cy nLy none rm (.ref b :: As) (wfl bc) (fun u => wfl (Bb u)) post mc ms) (hrm : g_rm R rm nLy mc ms)
    (hwl : Cond.methodLink own idx y ∈ lw_good) (hwi : Cond.instanceMethod y ∈ lw_good) (hwc : Cond.code y cy nLy none ∈ lw_good) (hwn : Cond.initialized y.cls ∈ lw_good)
    (hy : g_hy y n) (hy1 : y.name = "<init>") (hn : As.length = n)
    (hW : (rest.map fun v => v.category).sum ≤ 8) (hst : st = As.reverse ++ .ref b :: rest) (hd : decode cc pc = .ok (.invokespecial idx, 3))
    (isB : List Nat) (hC : isB.map (fun i => bs[i]?) = bc.map some) (hN : va_nd isB = true) (hB : ∀ u, isB.length ≤ (Bb u).length) (hcells : ce + mc ≤ R.cells ∧ sl + ms ≤ R.slots)
    (kk : ∀ v u, post v u → GW p l e R s m args below meth c D A nL Q (ce + mc) (sl + ms) (wfl (g_repl bs isB (Bb u))) lv (pc + 3) (v.toList ++ rest)) : GW p l e R s m args below meth c D A nL Q ce sl (wfl bs) lv pc st := by
  have hts := κ.1.2.2.2.2
  refine gb_run κ (rest := rest) (aa := (Value.ref b :: As).toArray) isB hC hB (fun H locs ls hP hD hS hl => ?_) kk
  exact va_runI (n := n) κ.1 (hct H.size) ⟨callB_of n hts (g_good hwc) rfl hrm.1 hrm.2.1 (hts _ hwn) (hts _ hwl) hy hrm.2.2, hy1, hts _ hwi⟩
    ⟨g_Pc.blind, gb_pre κ hP hD hS isB hC hN⟩ rfl hn hl.1 hst (lv_room hW) hd hcells
theorem gb_callIN (κ : KC p s m args meth c cc nL own D cI cR A ret) {y : MethodName} {cy : ByteArray} {nLy : Nat} {rm : Room} {b : Nat} {As : List Value} {bc : List va_W} {S : Type} {Bb : S → List va_W} {post : Option Value → S → Prop} {mc ms n idx : Nat} {rest : List Value} {host : String}
    (hct : CT l D cI cR y cy nLy none rm (.ref b :: As) (wfl bc) (fun u => wfl (Bb u)) post mc ms) (hrm : g_rm R rm nLy mc ms)
    (hwl : va_Nw (.methodLinkNest own idx y host) s) (hwi : Cond.instanceMethod y ∈ lw_good) (hwc : Cond.code y cy nLy none ∈ lw_good) (hwn : Cond.initialized y.cls ∈ lw_good)
    (hy : g_hy y n) (hy1 : y.name = "<init>") (hn : As.length = n)
    (hW : (rest.map fun v => v.category).sum ≤ 8) (hst : st = As.reverse ++ .ref b :: rest) (hd : decode cc pc = .ok (.invokespecial idx, 3))
    (isB : List Nat) (hC : isB.map (fun i => bs[i]?) = bc.map some) (hN : va_nd isB = true) (hB : ∀ u, isB.length ≤ (Bb u).length) (hcells : ce + mc ≤ R.cells ∧ sl + ms ≤ R.slots)
    (kk : ∀ v u, post v u → GW p l e R s m args below meth c D A nL Q (ce + mc) (sl + ms) (wfl (g_repl bs isB (Bb u))) lv (pc + 3) (v.toList ++ rest)) : GW p l e R s m args below meth c D A nL Q ce sl (wfl bs) lv pc st := by
  have hts := κ.1.2.2.2.2
  refine gb_run κ (rest := rest) (aa := (Value.ref b :: As).toArray) isB hC hB (fun H locs ls hP hD hS hl => ?_) kk
  exact va_runIN (n := n) κ.1 (hct H.size) ⟨va_cnB n hts (g_good hwc) rfl hrm.1 hrm.2.1 hwl (hts _ hwn) hy hrm.2.2, hy1, hts _ hwi⟩
    ⟨g_Pc.blind, gb_pre κ hP hD hS isB hC hN⟩ rfl hn hl.1 hst (lv_room hW) hd hcells
theorem gb_get (κ : KC p s m args meth c cc nL own D cI cR A ret) {C : String} {T : u_T} {N ci idx a : Nat} {fs : List Value} {b : va_W} {v : Value} (hd : decode cc pc = .ok (.getfield idx, 3)) (hp : pc + 3 = pc') (hin : ∀ w ∈ u_ws C T N, w ∈ lw_good) (i : Nat) (hb : bs[i]? = some b) (he : b[0]? = some (a, .inr (ci, fs))) (hc : vwCl[ci]? = some (C, T, N)) (k : Nat) (hk : k < N) (hlink : Cond.fieldLink own idx (T k).1 (T k).2.1 (T k).2.2.1 ∈ lw_good) (hv : fs[k]? = some v) (kk : GW p l e R s m args below meth c D A nL Q ce sl (wfl bs) lv pc' (v :: st)) : GW p l e R s m args below meth c D A nL Q ce sl (wfl bs) lv pc (.ref a :: st) :=
  gw_get κ hd hp hin (off bs i + 0) (fl_get bs i b 0 _ hb he) hc k hk hlink hv kk
theorem gb_put (κ : KC p s m args meth c cc nL own D cI cR A ret) {C : String} {T : u_T} {N ci idx a : Nat} {fs : List Value} {b : va_W} {ty : FieldType} {v : Value} {bs' : List va_W} (hd : decode cc pc = .ok (.putfield idx, 3)) (hp : pc + 3 = pc') (hin : ∀ w ∈ u_ws C T N, w ∈ lw_good) (ty0 : Nat → FieldType) (hty : ∀ k, k < N → parseFieldDescriptor (T k).2.2.1 = some (ty0 k)) (hnm : ∀ a, a < N → ∀ b, b < N → a ≠ b → (T a).2.1 ≠ (T b).2.1) (i : Nat) (hb : bs[i]? = some b) (he : b[0]? = some (a, .inr (ci, fs))) (hc : vwCl[ci]? = some (C, T, N)) (k : Nat) (hk : k < N) (hlink : Cond.fieldLink own idx (T k).1 (T k).2.1 (T k).2.2.1 ∈ lw_good) (hfin : (T k).2.2.2 = false) (hdd : parseFieldDescriptor (T k).2.2.1 = some ty) (hn : narrow ty v = v) (hfit : fits ty v = true) (hlen : k < fs.length) (hw : bs.set i (b.set 0 (a, .inr (ci, fs.set k v))) = bs') (kk : GW p l e R s m args below meth c D A nL Q ce sl (wfl bs') lv pc' st) : GW p l e R s m args below meth c D A nL Q ce sl (wfl bs) lv pc (v :: .ref a :: st) := by
  refine gw_put κ hd hp hin ty0 hty hnm (off bs i + 0) (fl_get bs i b 0 _ hb he) hc k hk hlink hfin hdd hn hfit hlen ?_ kk
  rw [fl_set bs i b 0 _ hb (List.getElem?_eq_some_iff.mp he).1, hw]
theorem gb_iald (κ : KC p s m args meth c cc nL own D cI cR A ret) {a n : Nat} {f : Nat → Int32} {b : va_W} {x : Int32} (hd : decode cc pc = .ok (.iaload, 1)) (hp : pc + 1 = pc') (i k : Nat) (hb : bs[i]? = some b) (ha : b[k]? = some (a, .inl (cI, n, .inl f))) (hin : vp_in x n) (kk : GW p l e R s m args below meth c D A nL Q ce sl (wfl bs) lv pc' (.int (f x.toNatClampNeg) :: st)) : GW p l e R s m args below meth c D A nL Q ce sl (wfl bs) lv pc (.int x :: .ref a :: st) :=
  gw_iald κ hd hp (off bs i + k) (fl_get bs i b k _ hb ha) hin kk
theorem gb_iast (κ : KC p s m args meth c cc nL own D cI cR A ret) {a n : Nat} {f : Nat → Int32} {b : va_W} {x y : Int32} {bs' : List va_W} (hd : decode cc pc = .ok (.iastore, 1)) (hp : pc + 1 = pc') (i k : Nat) (hb : bs[i]? = some b) (ha : b[k]? = some (a, .inl (cI, n, .inl f))) (hin : vp_in x n) (hw : bs.set i (b.set k (a, .inl (cI, n, .inl (upd f x.toNatClampNeg y)))) = bs') (kk : GW p l e R s m args below meth c D A nL Q ce sl (wfl bs') lv pc' st) : GW p l e R s m args below meth c D A nL Q ce sl (wfl bs) lv pc (.int y :: .int x :: .ref a :: st) := by
  refine gw_iast κ hd hp (off bs i + k) (fl_get bs i b k _ hb ha) hin ?_ kk
  rw [fl_set bs i b k _ hb (List.getElem?_eq_some_iff.mp ha).1, hw]
theorem gb_aald (κ : KC p s m args meth c cc nL own D cI cR A ret) {a n : Nat} {f : Nat → Option Nat} {b : va_W} {x : Int32} {v : Value} (hd : decode cc pc = .ok (.aaload, 1)) (hp : pc + 1 = pc') (i k : Nat) (hb : bs[i]? = some b) (ha : b[k]? = some (a, .inl (cR, n, .inr (.inr (.inr (.inr f)))))) (hin : vp_in x n) (hv : va_rf (f x.toNatClampNeg) = v) (kk : GW p l e R s m args below meth c D A nL Q ce sl (wfl bs) lv pc' (v :: st)) : GW p l e R s m args below meth c D A nL Q ce sl (wfl bs) lv pc (.int x :: .ref a :: st) :=
  gw_aald κ hd hp (off bs i + k) (fl_get bs i b k _ hb ha) hin hv kk
theorem gb_copy (κ : KC p s m args meth c cc nL own D cI cR A ret) {a0 a1 n0 idx : Nat} {f g : Nat → Int32} {b0 b1 : va_W} {n : Int32} {bs' : List va_W} (hd : decode cc pc = .ok (.invokestatic idx, 3)) (hp : pc + 3 = pc') (i0 k0 i1 k1 : Nat) (hb0 : bs[i0]? = some b0) (hb1 : bs[i1]? = some b1) (ha0 : b0[k0]? = some (a0, .inl (cI, n0, .inl f))) (ha1 : b1[k1]? = some (a1, .inl (cI, n0, .inl g))) (hnn : ¬ n < 0) (hn : n.toNatClampNeg = n0) (hlink : Cond.methodLink own idx arraycopyName ∈ lw_good) (hini : Cond.initialized "java/lang/System" ∈ lw_good) (hR : 1 ≤ R.frames ∧ (st.map fun v => v.category).sum + (nativeFrameWords "java/lang/System" "arraycopy" 5 + 11) ≤ R.locals) (hw : bs.set i1 (b1.set k1 (a1, .inl (cI, n0, .inl f))) = bs') (kk : GW p l e R s m args below meth c D A nL Q ce sl (wfl bs') lv pc' st) : GW p l e R s m args below meth c D A nL Q ce sl (wfl bs) lv pc (.int n :: .int 0 :: .ref a1 :: .int 0 :: .ref a0 :: st) := by
  refine gw_copy κ hd hp (off bs i0 + k0) (off bs i1 + k1) (fl_get bs i0 b0 k0 _ hb0 ha0) (fl_get bs i1 b1 k1 _ hb1 ha1) hnn hn hlink hini hR ?_ kk
  rw [fl_set bs i1 b1 k1 _ hb1 (List.getElem?_eq_some_iff.mp ha1).1, hw]
theorem fl_snoc (bs : List va_W) (x : Nat × va_E) : wfl bs ++ [x] = wfl (bs ++ [[x]]) := by simp [wfl]
theorem gb_newa (κ : KC p s m args meth c cc nL own D cI cR A ret) {n : Int32} {N : Nat} (hd : decode cc pc = .ok (.newarray .int, 2)) (hp : pc + 2 = pc') (hn : ¬ n < 0) (hN : n.toNatClampNeg = N) (hbytes : N * 4 ≤ 536870912) (hcells : ce + 1 ≤ R.cells) (hslots : sl + N ≤ R.slots) (kk : ∀ q : Nat, GW p l e R s m args below meth c D A nL Q (ce + 1) (sl + N) (wfl (bs ++ [[(q, .inl (cI, N, .inl (fun _ => 0)))]])) lv pc' (.ref q :: st)) : GW p l e R s m args below meth c D A nL Q ce sl (wfl bs) lv pc (.int n :: st) :=
  gw_newa κ hd hp hn hN hbytes hcells hslots (fun q => by rw [fl_snoc]; exact kk q)
theorem gb_newq (κ : KC p s m args meth c cc nL own D cI cR A ret) {n : Int32} {N idx : Nat} (hd : decode cc pc = .ok (.anewarray idx, 3)) (hp : pc + 3 = pc') (hcl : Cond.classLink own idx RX3 ∈ lw_good) (hn : ¬ n < 0) (hN : n.toNatClampNeg = N) (hbytes : N * 4 ≤ 536870912) (hcells : ce + 1 ≤ R.cells) (hslots : sl + N ≤ R.slots) (kk : ∀ q : Nat, GW p l e R s m args below meth c D A nL Q (ce + 1) (sl + N) (wfl (bs ++ [[(q, .inl (cR, N, .inr (.inr (.inr (.inr (fun _ => none))))))]])) lv pc' (.ref q :: st)) : GW p l e R s m args below meth c D A nL Q ce sl (wfl bs) lv pc (.int n :: st) :=
  gw_newq κ hd hp hcl hn hN hbytes hcells hslots (fun q => by rw [fl_snoc]; exact kk q)
theorem gb_new (κ : KC p s m args meth c cc nL own D cI cR A ret) {C : String} {T : u_T} {N ci idx : Nat} {fs : List Value} (hd : decode cc pc = .ok (.new idx, 3)) (hp : pc + 3 = pc') (hin : ∀ w ∈ u_ws C T N, w ∈ lw_good) (ty : Nat → FieldType) (hty : ∀ k, k < N → parseFieldDescriptor (T k).2.2.1 = some (ty k)) (hcl : Cond.classLink own idx C ∈ lw_good) (hinst : Cond.instantiable C N ∈ lw_good) (hini : Cond.initialized C ∈ lw_good) (hc : vwCl[ci]? = some (C, T, N)) (hfs : ∀ j, j < N → defaultValue (ty j) = vp_V fs j) (hcells : ce + 1 ≤ R.cells) (hslots : sl + N ≤ R.slots) (kk : ∀ q : Nat, GW p l e R s m args below meth c D A nL Q (ce + 1) (sl + N) (wfl (bs ++ [[(q, .inr (ci, fs))]])) lv pc' (.ref q :: st)) : GW p l e R s m args below meth c D A nL Q ce sl (wfl bs) lv pc st :=
  gw_new κ hd hp hin ty hty hcl hinst hini hc hfs hcells hslots (fun q => by rw [fl_snoc]; exact kk q)
theorem gb_putF (κ : KC p s m args meth c cc nL own D cI cR A ret) {C : String} {T : u_T} {N ci idx a : Nat} {fs : List Value} {b : va_W} {ty : FieldType} {v : Value} {bs' : List va_W} (hd : decode cc pc = .ok (.putfield idx, 3)) (hp : pc + 3 = pc') (hin : ∀ w ∈ u_ws C T N, w ∈ lw_good) (ty0 : Nat → FieldType) (hty : ∀ k, k < N → parseFieldDescriptor (T k).2.2.1 = some (ty0 k)) (hnm : ∀ a, a < N → ∀ b, b < N → a ≠ b → (T a).2.1 ≠ (T b).2.1) (i : Nat) (hb : bs[i]? = some b) (he : b[0]? = some (a, .inr (ci, fs))) (hc : vwCl[ci]? = some (C, T, N)) (k : Nat) (hk : k < N) (hlink : Cond.fieldLink own idx (T k).1 (T k).2.1 (T k).2.2.1 ∈ lw_good) (hfin : (T k).2.2.2 = true) (hin2 : meth.name = "<init>") (hdecl : (T k).1 = own) (hdd : parseFieldDescriptor (T k).2.2.1 = some ty) (hn : narrow ty v = v) (hfit : fits ty v = true) (hlen : k < fs.length) (hw : bs.set i (b.set 0 (a, .inr (ci, fs.set k v))) = bs') (kk : GW p l e R s m args below meth c D A nL Q ce sl (wfl bs') lv pc' st) : GW p l e R s m args below meth c D A nL Q ce sl (wfl bs) lv pc (v :: .ref a :: st) := by
  refine gw_putF κ hd hp hin ty0 hty hnm (off bs i + 0) (fl_get bs i b 0 _ hb he) hc k hk hlink hfin hin2 hdecl hdd hn hfit hlen ?_ kk
  rw [fl_set bs i b 0 _ hb (List.getElem?_eq_some_iff.mp he).1, hw]
theorem gb_aast (κ : KC p s m args meth c cc nL own D cI cR A ret) {a n v : Nat} {vs : List Value} {f : Nat → Option Nat} {b0 b1 : va_W} {x : Int32} {bs' : List va_W} (hd : decode cc pc = .ok (.aastore, 1)) (hp : pc + 1 = pc') (i k i1 : Nat) (hb : bs[i]? = some b0) (hb1 : bs[i1]? = some b1) (ha : b0[k]? = some (a, .inl (cR, n, .inr (.inr (.inr (.inr f)))))) (hv : b1[0]? = some (v, .inr (3, vs))) (hin : vp_in x n) (hw : bs.set i (b0.set k (a, .inl (cR, n, .inr (.inr (.inr (.inr (va_up f x.toNatClampNeg (some v)))))))) = bs') (kk : GW p l e R s m args below meth c D A nL Q ce sl (wfl bs') lv pc' st) : GW p l e R s m args below meth c D A nL Q ce sl (wfl bs) lv pc (.ref v :: .int x :: .ref a :: st) := by
  refine gw_aast κ hd hp (off bs i + k) (off bs i1 + 0) (fl_get bs i b0 k _ hb ha) (fl_get bs i1 b1 0 _ hb1 hv) hin ?_ kk
  rw [fl_set bs i b0 k _ hb (List.getElem?_eq_some_iff.mp ha).1, hw]
theorem g_cellq_eq {cA : ClassId} {n : Nat} {f g : Nat → Option Nat} (h : ∀ j, j < n → f j = g j) : vp_cell cA (n, .inr (.inr (.inr (.inr f)))) = vp_cell cA (n, .inr (.inr (.inr (.inr g)))) := by
  rw [vp_cell_q, vp_cell_q]
  unfold arrV
  congr 1
  apply Array.ext
  · simp
  · intro j h1 h2
    simp only [Array.getElem_ofFn]
    rw [h j (by simpa using h1)]
theorem gb_cellq {a n : Nat} {f g : Nat → Option Nat} {b : va_W} {bs' : List va_W} (i k : Nat) (hb : bs[i]? = some b) (ha : b[k]? = some (a, .inl (cR, n, .inr (.inr (.inr (.inr f)))))) (h : ∀ j, j < n → f j = g j) (hw : bs.set i (b.set k (a, .inl (cR, n, .inr (.inr (.inr (.inr g)))))) = bs') (kk : GW p l e R s m args below meth c D A nL Q ce sl (wfl bs') lv pc st) : GW p l e R s m args below meth c D A nL Q ce sl (wfl bs) lv pc st := by
  intro H locs ls hP hD hS hl
  have hf := fl_get bs i b k _ hb ha
  have hs := fl_set bs i b k (a, .inl (cR, n, .inr (.inr (.inr (.inr g))))) hb (List.getElem?_eq_some_iff.mp ha).1
  rw [hw] at hs
  refine kk H locs ls (hs ▸ hP.set hD hf ?_ (fun _ _ => rfl)) (hs ▸ hD.set hf) hS hl
  have h1 : H[a]? = some (vp_cell cR (n, .inr (.inr (.inr (.inr f))))) := hP _ _ hf
  show H[a]? = some (vp_cell cR (n, .inr (.inr (.inr (.inr g)))))
  rw [h1, g_cellq_eq h]
theorem gb_sub {bc : List va_W} (isB : List Nat) (hC : isB.map (fun i => bs[i]?) = bc.map some) (hN : va_nd isB = true) (kk : GW p l e R s m args below meth c D A nL Q ce sl (wfl bc) lv pc st) : GW p l e R s m args below meth c D A nL Q ce sl (wfl bs) lv pc st :=
  fun H locs ls hP hD hS hl => kk H locs ls (fl_P hC hP) (fl_D hC hN hD) hS hl
end GBS
