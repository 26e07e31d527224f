/-! ===== rows of long numbers, of small constants, of the script; the contract of cell ===== -/
section GWL
variable {p : Program} {l : Launch} {e : Env} {R : Room} {s : State} {m : MethodId} {args : Array Value} {below : List Frame} {meth : Method} {c : Code} {D : va_G} {cI cR : ClassId} {A : Nat → Prop} {nL : Nat} {Q : State → Prop} {ce sl : Nat} {ws : va_W} {lv : List (Nat × Value)} {pc pc' : Nat} {st : List Value} {cc : ByteArray} {own : String} {ret : Option FieldType}
theorem gw_ladd (κ : KC p s m args meth c cc nL own D cI cR A ret) {x y : Int64} (hd : decode cc pc = .ok (.ladd, 1)) (hp : pc + 1 = pc') (kk : GW p l e R s m args below meth c D A nL Q ce sl ws lv pc' (.long (x + y) :: st)) : GW p l e R s m args below meth c D A nL Q ce sl ws lv pc (.long y :: .long x :: st) := by
  subst hp
  exact fun H locs ls hP hD hS hl => lv_ladd κ.1.1 κ.1.2.1 hd (kk H locs ls hP hD hS hl)
theorem gw_lmul (κ : KC p s m args meth c cc nL own D cI cR A ret) {x y : Int64} (hd : decode cc pc = .ok (.lmul, 1)) (hp : pc + 1 = pc') (kk : GW p l e R s m args below meth c D A nL Q ce sl ws lv pc' (.long (x * y) :: st)) : GW p l e R s m args below meth c D A nL Q ce sl ws lv pc (.long y :: .long x :: st) := by
  subst hp
  exact fun H locs ls hP hD hS hl => lv_lmul κ.1.1 κ.1.2.1 hd (kk H locs ls hP hD hS hl)
theorem gw_ldc (κ : KC p s m args meth c cc nL own D cI cR A ret) {idx : Nat} {v : Int32} (hd : decode cc pc = .ok (.ldc idx, 2)) (hp : pc + 2 = pc') (hw : Cond.constant own idx v ∈ lw_good) (kk : GW p l e R s m args below meth c D A nL Q ce sl ws lv pc' (.int v :: st)) : GW p l e R s m args below meth c D A nL Q ce sl ws lv pc st := by
  subst hp
  exact fun H locs ls hP hD hS hl => lv_ldc κ.1.1 κ.1.2.1 κ.1.2.2.2.1 (κ.1.2.2.2.2 _ hw) hd (kk H locs ls hP hD hS hl)
theorem gw_lret (κ : KC p s m args meth c cc nL own D cI cR A (some .long)) {S : Type} {post : Option Value → S → Prop} {B : S → va_W} {v : Int64} (hd : decode cc pc = .ok (.lreturn, 1)) (u : S) (hu : ws = B u) (hpost : post (some (.long v)) u) : GW p l e R s m args below meth c D A nL (MQ below (g_Q D post B A) args s ce sl A) ce sl ws lv pc [.long v] := by
  subst hu
  exact fun H locs ls hP hD hS hl => W.lret κ.1.1 κ.1.2.1 κ.2.2.2.2.2 (fun t ht hW => ⟨⟨_, u, rfl, hpost, by rw [ht]; exact hP, hD⟩, hS.F ht⟩) hS.2.2 hd κ.2.2.2.2.1
theorem gw_xld (κ : KC p s m args meth c cc nL own D cI cR A ret) {b L : Nat} {xs : Nat → Int32} {x : Int32} (hd : decode cc pc = .ok (.iaload, 1)) (hp : pc + 1 = pc') (hX : va_X b L xs s s.heap) (hbl : b < s.heap.size) (hbA : ¬ A b) (hin : vp_in x L) (kk : GW p l e R s m args below meth c D A nL Q ce sl ws lv pc' (.int (xs x.toNatClampNeg) :: st)) : GW p l e R s m args below meth c D A nL Q ce sl ws lv pc (.int x :: .ref b :: st) := by
  subst hp
  exact fun H locs ls hP hD hS hl => va_sld κ.1.1 κ.1.2.1 hX hbl hbA hS hin hd (kk H locs ls hP hD hS hl)
theorem gw_slen (κ : KC p s m args meth c cc nL own D cI cR A ret) {b L : Nat} {xs : Nat → Int32} (hd : decode cc pc = .ok (.arraylength, 1)) (hp : pc + 1 = pc') (hX : va_X b L xs s s.heap) (hbl : b < s.heap.size) (hbA : ¬ A b) (kk : GW p l e R s m args below meth c D A nL Q ce sl ws lv pc' (.int (nI L) :: st)) : GW p l e R s m args below meth c D A nL Q ce sl ws lv pc (.ref b :: st) := by
  subst hp
  exact fun H locs ls hP hD hS hl => va_slen κ.1.1 κ.1.2.1 hX hbl hbA hS hd (kk H locs ls hP hD hS hl)
end GWL
def pL {S : Type} (P : Int64 → S → Prop) : Option Value → S → Prop := fun v u => ∃ r : Int64, v = some (.long r) ∧ P r u
/-- the k-th int of the script, or what stands for it behind its end -/
def celV (L : Nat) (xs : Nat → Int32) (x : Int32) : Int32 := if x < nI L then xs x.toNatClampNeg else (44129 : Int32) * (x + 5) + (2891131 : Int32)
def g_PX (D : va_G) (cI cR : ClassId) (b L : Nat) (xs : Nat → Int32) (av : List Value) (wc : va_W) (sz : Nat) : Array Value → State → Prop := fun a U => g_Pc D cI cR av wc sz a U ∧ va_X b L xs U U.heap ∧ b < U.heap.size ∧ ¬ va_A wc sz b
theorem g_PX.blind {D : va_G} {cI cR : ClassId} {b L : Nat} {xs : Nat → Int32} {av : List Value} {wc : va_W} {sz : Nat} : FrameBlind (g_PX D cI cR b L xs av wc sz) := fun a U g mk q =>
  ⟨g_Pc.blind a U g mk q.1, va_X.moved (u := U) (U := U.calling g mk a) (Vm.Alike.refl U.vm) q.2.1, q.2.2⟩
theorem c_L_cell {l : Launch} {D : va_G} {cI cR : ClassId} {b L : Nat} {xs : Nat → Int32} (hL : L ≤ 260) {x : Int32} (hx : (0 : Int32) ≤ x) (sz : Nat) : Met l yL_cell (Cond.code yL_cell cL_cell 2 (some .int) :: lw_good) ({ frames := 0, cells := 0, slots := 0, locals := 0 } : Room) (g_PX D cI cR b L xs [.ref b, .int x] [] sz) (g_Q D (pI (fun (r : Int32) (_ : Unit) => r = celV L xs x)) (fun _ => []) (va_A [] sz)) 0 0 (va_A [] sz) := by
  refine Met.ofW (cc := cL_cell) (maxL := 2) (ret := some .int) (by decide +kernel) rfl ?_
  intro p e s m args below meth c s₁ Bd hml hv
  obtain ⟨⟨rfl, hsz, hP, hK, hD0, hST⟩, hX, hbl, hbA⟩ := hv
  subst hsz
  have hD := hD0.self (sz := s.heap.size)
  have hts := atoms_spec (ws := Cond.code yL_cell cL_cell 2 (some .int) :: lw_good) Bd.pre
  have hl := lv_entry [.ref b, .int x] (n := 2) (Nat.le_of_ble_eq_true rfl)
  rw [lg_entry_eq]
  have κ : KC p s m ([.ref b, .int x] : List Value).toArray meth c cL_cell 2 RL D cI cR (va_A [] s.heap.size) (some .int) := ⟨⟨Bd.exec, Bd.bytes, hml, show s.vm.findClass RL = some m.cls from findClass_of_methodNamed Bd.named, fun w hw => hts w (List.mem_cons_of_mem _ hw)⟩, hK, fun q h => Or.inr h, hST, Bd.notSynchronized, Bd.returns⟩
  suffices hh : GM p l e ({ frames := 0, cells := 0, slots := 0, locals := 0 } : Room) s m ([.ref b, .int x] : List Value).toArray below meth c D (va_A [] s.heap.size) 2 (pI (fun (r : Int32) (_ : Unit) => r = celV L xs x)) (fun _ => []) 0 0 0 0 [] [(0, .ref b), (1, .int x)] 0 [] from hh s.heap [] _ hP hD va_S.rf hl
  refine gw_iload_n (pc' := 1) κ dL_cell_0 rfl 1 rfl rfl ?_
  refine gw_aload_n (pc' := 2) κ dL_cell_1 rfl 0 rfl rfl ?_
  refine gw_slen (pc' := 3) κ dL_cell_2 rfl hX hbl hbA ?_
  refine gw_icmp_ge (pc' := 6) (tgt := 12) κ dL_cell_3 rfl (by decide) (fun hc => ?_) (fun hc => ?_)
  · have hn : ¬ x < nI L := fun h => by rw [Int32.lt_iff_toInt_lt] at h; rw [Int32.le_iff_toInt_le] at hc; omega
    refine gw_ldc (pc' := 14) κ dL_cell_12 rfl tw_ct_L_7 ?_
    refine gw_iload_n (pc' := 15) κ dL_cell_14 rfl 1 rfl rfl ?_
    refine gw_iconst (pc' := 16) (v := 5) κ dL_cell_15 rfl (by decide) ?_
    refine gw_iadd (pc' := 17) κ dL_cell_16 rfl ?_
    refine gw_imul (pc' := 18) κ dL_cell_17 rfl ?_
    refine gw_ldc (pc' := 20) κ dL_cell_18 rfl tw_ct_L_8 ?_
    refine gw_iadd (pc' := 21) κ dL_cell_20 rfl ?_
    exact gw_iret κ dL_cell_21 () rfl ⟨_, rfl, by unfold celV; rw [if_neg hn]⟩
  · have hlt : x < nI L := by rw [Int32.lt_iff_toInt_lt]; rw [Int32.le_iff_toInt_le] at hc; omega
    have hin : vp_in x L := by
      have h1 := Int32.lt_iff_toInt_lt.mp hlt
      rw [nI_toInt (by omega)] at h1
      rw [Int32.le_iff_toInt_le] at hx
      have h0 : (0 : Int32).toInt = 0 := by decide
      obtain ⟨j, hj, rfl⟩ := nI_of (x := x) (by rw [Int32.lt_iff_toInt_lt]; omega)
      rw [nI_toInt (by omega)] at h1
      exact vp_in_nI (by omega) (by omega)
    refine gw_aload_n (pc' := 7) κ dL_cell_6 rfl 0 rfl rfl ?_
    refine gw_iload_n (pc' := 8) κ dL_cell_7 rfl 1 rfl rfl ?_
    refine gw_xld (pc' := 9) κ dL_cell_8 rfl hX hbl hbA hin ?_
    refine gw_goto (tgt := 21) κ dL_cell_9 (by decide) ?_
    exact gw_iret κ dL_cell_21 () rfl ⟨_, rfl, by unfold celV; rw [if_pos hlt]⟩
theorem hy_L_cell : g_hy yL_cell 2 := by decide +kernel
theorem gw_cellcall {p : Program} {l : Launch} {e : Env} {R : Room} {s : State} {m : MethodId} {args : Array Value} {below : List Frame} {meth : Method} {c : Code} {D : va_G} {cI cR : ClassId} {A : Nat → Prop} {nL : Nat} {Q : State → Prop} {ce sl : Nat} {bs : List va_W} {lv : List (Nat × Value)} {pc pc' : Nat} {cc : ByteArray} {ret : Option FieldType} (κ : KC p s m args meth c cc nL RL D cI cR A ret) {b L : Nat} {xs : Nat → Int32} {x : Int32} {rest : List Value} {idx : Nat} (hd : decode cc pc = .ok (.invokestatic idx, 3)) (hp : pc + 3 = pc') (hX : va_X b L xs s s.heap) (hbl : b < s.heap.size) (hbA : ¬ A b) (hL : L ≤ 260) (hx : (0 : Int32) ≤ x)
    (hwl : Cond.methodLink RL idx yL_cell ∈ lw_good) (hrm : 1 ≤ R.frames ∧ 21 ≤ R.locals) (hW : (rest.map fun v => v.category).sum ≤ 8) (hcells : ce ≤ R.cells ∧ sl ≤ R.slots)
    (kk : GW p l e R s m args below meth c D A nL Q ce sl (wfl bs) lv pc' (.int (celV L xs x) :: rest)) : GW p l e R s m args below meth c D A nL Q ce sl (wfl bs) lv pc (.int x :: .ref b :: rest) := by
  subst hp
  have hts := κ.1.2.2.2.2
  refine gb_run κ (bc := []) (rest := rest) (aa := ([.ref b, .int x] : List Value).toArray) (post := pI (fun (r : Int32) (_ : Unit) => r = celV L xs x)) (Bb := fun _ => []) (mc := 0) (ms := 0) [] rfl (fun _ => Nat.le_refl _) (fun H locs ls hP hD hS hl => ?_) (fun v u hv => ?_)
  · exact va_runS (n := 2) (ret := some .int) κ.1 (c_L_cell hL hx H.size) ⟨callB_of 2 hts (g_good tw_co_L_cell) rfl rfl rfl (hts _ tw_in_L) (hts _ hwl) hy_L_cell ⟨hrm.1, hrm.2⟩, hts _ tw_st_L_cell⟩
      ⟨g_PX.blind, fun U hU hWm => ⟨gb_pre (bc := []) (av := [.ref b, .int x]) κ hP hD hS [] rfl (by decide) U hU hWm, (va_X.moved hWm.alike hX).kept (by rw [hU]; exact hS.2.1 b hbl hbA), by rw [hU]; exact Nat.lt_of_lt_of_le hbl hS.1, fun h => by
        rcases h with ⟨k, e, h⟩ | h
        · simp [wfl] at h
        · have := hS.1; omega⟩⟩ rfl rfl hl.1 rfl (lv_room hW) hd ⟨by omega, by omega⟩
  · obtain ⟨r, rfl, rfl⟩ := hv
    have e : wfl (g_repl bs [] []) = wfl bs := by simp [g_repl]
    rw [e]
    exact kk
