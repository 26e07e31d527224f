section GWR
variable {p : Program} {l : Launch} {e : Env} {R : Room} {s : State} {m : MethodId} {args : Array Value} {below : List Frame} {meth : Method} {c : Code} {D : va_G} {cI cR : ClassId} {A : Nat → Prop} {nL : Nat} {Q : State → Prop} {ce sl : Nat} {ws : va_W} {lv : List (Nat × Value)} {pc pc' : Nat} {st : List Value} {cc : ByteArray} {own : String} {ret : Option FieldType}
theorem gw_iconst (κ : KC p s m args meth c cc nL own D cI cR A ret) {n : Int} {v : Int32} (hd : decode cc pc = .ok (.iconst n, 1)) (hp : pc + 1 = pc')   (hv : Int32.ofInt n = v) (kk : GW p l e R s m args below meth c D A nL Q ce sl ws lv pc' (.int v :: st)) : GW p l e R s m args below meth c D A nL Q ce sl ws lv pc st := by
  subst hp
  exact fun H locs ls hP hD hS hl => lv_iconst κ.1.1 κ.1.2.1  hd hv (kk H locs ls hP hD hS hl)
theorem gw_bipush (κ : KC p s m args meth c cc nL own D cI cR A ret) {n : Int} {v : Int32} (hd : decode cc pc = .ok (.bipush n, 2)) (hp : pc + 2 = pc')   (hv : (Int8.ofInt n).toInt32 = v) (kk : GW p l e R s m args below meth c D A nL Q ce sl ws lv pc' (.int v :: st)) : GW p l e R s m args below meth c D A nL Q ce sl ws lv pc st := by
  subst hp
  exact fun H locs ls hP hD hS hl => lv_bipush κ.1.1 κ.1.2.1  hd hv (kk H locs ls hP hD hS hl)
theorem gw_sipush (κ : KC p s m args meth c cc nL own D cI cR A ret) {n : Int} {v : Int32} (hd : decode cc pc = .ok (.sipush n, 3)) (hp : pc + 3 = pc')   (hv : (Int16.ofInt n).toInt32 = v) (kk : GW p l e R s m args below meth c D A nL Q ce sl ws lv pc' (.int v :: st)) : GW p l e R s m args below meth c D A nL Q ce sl ws lv pc st := by
  subst hp
  exact fun H locs ls hP hD hS hl => lv_sipush κ.1.1 κ.1.2.1  hd hv (kk H locs ls hP hD hS hl)
theorem gw_lconst (κ : KC p s m args meth c cc nL own D cI cR A ret) {n : Fin 2} {v : Int64} (hd : decode cc pc = .ok (.lconst n, 1)) (hp : pc + 1 = pc')   (hv : Int64.ofNat (n : Nat) = v) (kk : GW p l e R s m args below meth c D A nL Q ce sl ws lv pc' (.long v :: st)) : GW p l e R s m args below meth c D A nL Q ce sl ws lv pc st := by
  subst hp
  exact fun H locs ls hP hD hS hl => lv_lconst κ.1.1 κ.1.2.1  hd hv (kk H locs ls hP hD hS hl)
theorem gw_iload_n (κ : KC p s m args meth c cc nL own D cI cR A ret) {k : Fin 4} {i : Nat} {x : Int32} (hd : decode cc pc = .ok (.iload_n k, 1)) (hp : pc + 1 = pc')    (j : Nat) (hj : lv[j]? = some (i, .int x)) (hi : (k : Nat) = i) (kk : GW p l e R s m args below meth c D A nL Q ce sl ws lv pc' (.int x :: st)) : GW p l e R s m args below meth c D A nL Q ce sl ws lv pc st := by
  subst hp
  exact fun H locs ls hP hD hS hl => lv_iload_n κ.1.1 κ.1.2.1  hd hi (lv_at hl j hj) (kk H locs ls hP hD hS hl)
theorem gw_iload (κ : KC p s m args meth c cc nL own D cI cR A ret) {i : Nat} {x : Int32} (hd : decode cc pc = .ok (.iload i, 2)) (hp : pc + 2 = pc')   (j : Nat) (hj : lv[j]? = some (i, .int x)) (kk : GW p l e R s m args below meth c D A nL Q ce sl ws lv pc' (.int x :: st)) : GW p l e R s m args below meth c D A nL Q ce sl ws lv pc st := by
  subst hp
  exact fun H locs ls hP hD hS hl => lv_iload κ.1.1 κ.1.2.1  hd (lv_at hl j hj) (kk H locs ls hP hD hS hl)
theorem gw_istore_n (κ : KC p s m args meth c cc nL own D cI cR A ret) {k : Fin 4} {i : Nat} {x : Int32} {lv' : List (Nat × Value)} (hd : decode cc pc = .ok (.istore_n k, 1)) (hp : pc + 1 = pc')   (hi : (k : Nat) = i)   (hn : i < nL) (hl' : (i, Value.int x) :: lv.filter (fun q => !(q.1 == i) && !(q.1 + 1 == i && q.2.category == 2)) = lv') (kk : GW p l e R s m args below meth c D A nL Q ce sl ws lv' pc' st) : GW p l e R s m args below meth c D A nL Q ce sl ws lv pc (.int x :: st) := by
  subst hp
  exact fun H locs ls hP hD hS hl => lv_istore_n κ.1.1 κ.1.2.1 hd hi hl hn hl' (fun ls' hl2 => kk H locs ls' hP hD hS hl2)
theorem gw_istore (κ : KC p s m args meth c cc nL own D cI cR A ret) {i : Nat} {x : Int32} {lv' : List (Nat × Value)} (hd : decode cc pc = .ok (.istore i, 2)) (hp : pc + 2 = pc')    (hn : i < nL) (hl' : (i, Value.int x) :: lv.filter (fun q => !(q.1 == i) && !(q.1 + 1 == i && q.2.category == 2)) = lv') (kk : GW p l e R s m args below meth c D A nL Q ce sl ws lv' pc' st) : GW p l e R s m args below meth c D A nL Q ce sl ws lv pc (.int x :: st) := by
  subst hp
  exact fun H locs ls hP hD hS hl => lv_istore κ.1.1 κ.1.2.1 hd hl hn hl' (fun ls' hl2 => kk H locs ls' hP hD hS hl2)
theorem gw_lload_n (κ : KC p s m args meth c cc nL own D cI cR A ret) {k : Fin 4} {i : Nat} {x : Int64} (hd : decode cc pc = .ok (.lload_n k, 1)) (hp : pc + 1 = pc')    (j : Nat) (hj : lv[j]? = some (i, .long x)) (hi : (k : Nat) = i) (kk : GW p l e R s m args below meth c D A nL Q ce sl ws lv pc' (.long x :: st)) : GW p l e R s m args below meth c D A nL Q ce sl ws lv pc st := by
  subst hp
  exact fun H locs ls hP hD hS hl => lv_lload_n κ.1.1 κ.1.2.1  hd hi (lv_at hl j hj) (kk H locs ls hP hD hS hl)
theorem gw_lload (κ : KC p s m args meth c cc nL own D cI cR A ret) {i : Nat} {x : Int64} (hd : decode cc pc = .ok (.lload i, 2)) (hp : pc + 2 = pc')   (j : Nat) (hj : lv[j]? = some (i, .long x)) (kk : GW p l e R s m args below meth c D A nL Q ce sl ws lv pc' (.long x :: st)) : GW p l e R s m args below meth c D A nL Q ce sl ws lv pc st := by
  subst hp
  exact fun H locs ls hP hD hS hl => lv_lload κ.1.1 κ.1.2.1  hd (lv_at hl j hj) (kk H locs ls hP hD hS hl)
theorem gw_lstore_n (κ : KC p s m args meth c cc nL own D cI cR A ret) {k : Fin 4} {i : Nat} {x : Int64} {lv' : List (Nat × Value)} (hd : decode cc pc = .ok (.lstore_n k, 1)) (hp : pc + 1 = pc')   (hi : (k : Nat) = i)   (hn : i + 1 < nL) (hl' : (i, Value.long x) :: lv.filter (fun q => !(q.1 == i) && (!(q.1 == i + 1) && !(q.1 + 1 == i && q.2.category == 2))) = lv') (kk : GW p l e R s m args below meth c D A nL Q ce sl ws lv' pc' st) : GW p l e R s m args below meth c D A nL Q ce sl ws lv pc (.long x :: st) := by
  subst hp
  exact fun H locs ls hP hD hS hl => lv_lstore_n κ.1.1 κ.1.2.1 hd hi hl hn hl' (fun ls' hl2 => kk H locs ls' hP hD hS hl2)
theorem gw_lstore (κ : KC p s m args meth c cc nL own D cI cR A ret) {i : Nat} {x : Int64} {lv' : List (Nat × Value)} (hd : decode cc pc = .ok (.lstore i, 2)) (hp : pc + 2 = pc')    (hn : i + 1 < nL) (hl' : (i, Value.long x) :: lv.filter (fun q => !(q.1 == i) && (!(q.1 == i + 1) && !(q.1 + 1 == i && q.2.category == 2))) = lv') (kk : GW p l e R s m args below meth c D A nL Q ce sl ws lv' pc' st) : GW p l e R s m args below meth c D A nL Q ce sl ws lv pc (.long x :: st) := by
  subst hp
  exact fun H locs ls hP hD hS hl => lv_lstore κ.1.1 κ.1.2.1 hd hl hn hl' (fun ls' hl2 => kk H locs ls' hP hD hS hl2)
theorem gw_aload_n (κ : KC p s m args meth c cc nL own D cI cR A ret) {k : Fin 4} {i : Nat} {x : Nat} (hd : decode cc pc = .ok (.aload_n k, 1)) (hp : pc + 1 = pc')    (j : Nat) (hj : lv[j]? = some (i, .ref x)) (hi : (k : Nat) = i) (kk : GW p l e R s m args below meth c D A nL Q ce sl ws lv pc' (.ref x :: st)) : GW p l e R s m args below meth c D A nL Q ce sl ws lv pc st := by
  subst hp
  exact fun H locs ls hP hD hS hl => lv_aload_n κ.1.1 κ.1.2.1  hd hi (lv_at hl j hj) (kk H locs ls hP hD hS hl)
theorem gw_aload (κ : KC p s m args meth c cc nL own D cI cR A ret) {i : Nat} {x : Nat} (hd : decode cc pc = .ok (.aload i, 2)) (hp : pc + 2 = pc')   (j : Nat) (hj : lv[j]? = some (i, .ref x)) (kk : GW p l e R s m args below meth c D A nL Q ce sl ws lv pc' (.ref x :: st)) : GW p l e R s m args below meth c D A nL Q ce sl ws lv pc st := by
  subst hp
  exact fun H locs ls hP hD hS hl => lv_aload κ.1.1 κ.1.2.1  hd (lv_at hl j hj) (kk H locs ls hP hD hS hl)
theorem gw_astore_n (κ : KC p s m args meth c cc nL own D cI cR A ret) {k : Fin 4} {i : Nat} {x : Nat} {lv' : List (Nat × Value)} (hd : decode cc pc = .ok (.astore_n k, 1)) (hp : pc + 1 = pc')   (hi : (k : Nat) = i)   (hn : i < nL) (hl' : (i, Value.ref x) :: lv.filter (fun q => !(q.1 == i) && !(q.1 + 1 == i && q.2.category == 2)) = lv') (kk : GW p l e R s m args below meth c D A nL Q ce sl ws lv' pc' st) : GW p l e R s m args below meth c D A nL Q ce sl ws lv pc (.ref x :: st) := by
  subst hp
  exact fun H locs ls hP hD hS hl => lv_astore_n κ.1.1 κ.1.2.1 hd hi hl hn hl' (fun ls' hl2 => kk H locs ls' hP hD hS hl2)
theorem gw_astore (κ : KC p s m args meth c cc nL own D cI cR A ret) {i : Nat} {x : Nat} {lv' : List (Nat × Value)} (hd : decode cc pc = .ok (.astore i, 2)) (hp : pc + 2 = pc')    (hn : i < nL) (hl' : (i, Value.ref x) :: lv.filter (fun q => !(q.1 == i) && !(q.1 + 1 == i && q.2.category == 2)) = lv') (kk : GW p l e R s m args below meth c D A nL Q ce sl ws lv' pc' st) : GW p l e R s m args below meth c D A nL Q ce sl ws lv pc (.ref x :: st) := by
  subst hp
  exact fun H locs ls hP hD hS hl => lv_astore κ.1.1 κ.1.2.1 hd hl hn hl' (fun ls' hl2 => kk H locs ls' hP hD hS hl2)
theorem gw_iinc (κ : KC p s m args meth c cc nL own D cI cR A ret) {i : Nat} {n : Int} {x v : Int32} {lv' : List (Nat × Value)} (hd : decode cc pc = .ok (.iinc i n, 3)) (hp : pc + 3 = pc')     (j : Nat) (hj : lv[j]? = some (i, .int x)) (hv : x + Int32.ofInt n = v) (hn : i < nL) (hl' : (i, Value.int v) :: lv.filter (fun q => !(q.1 == i) && !(q.1 + 1 == i && q.2.category == 2)) = lv') (kk : GW p l e R s m args below meth c D A nL Q ce sl ws lv' pc' st) : GW p l e R s m args below meth c D A nL Q ce sl ws lv pc st := by
  subst hp
  exact fun H locs ls hP hD hS hl => lv_iinc κ.1.1 κ.1.2.1 hd hl hj hv hn hl' (fun ls' hl2 => kk H locs ls' hP hD hS hl2)
theorem gw_iadd (κ : KC p s m args meth c cc nL own D cI cR A ret) {x y : Int32} (hd : decode cc pc = .ok (.iadd, 1)) (hp : pc + 1 = pc')  (kk : GW p l e R s m args below meth c D A nL Q ce sl ws lv pc' (.int (x + y) :: st)) : GW p l e R s m args below meth c D A nL Q ce sl ws lv pc (.int y :: .int x :: st) := by
  subst hp
  exact fun H locs ls hP hD hS hl => lv_iadd κ.1.1 κ.1.2.1  hd  (kk H locs ls hP hD hS hl)
theorem gw_isub (κ : KC p s m args meth c cc nL own D cI cR A ret) {x y : Int32} (hd : decode cc pc = .ok (.isub, 1)) (hp : pc + 1 = pc')  (kk : GW p l e R s m args below meth c D A nL Q ce sl ws lv pc' (.int (x - y) :: st)) : GW p l e R s m args below meth c D A nL Q ce sl ws lv pc (.int y :: .int x :: st) := by
  subst hp
  exact fun H locs ls hP hD hS hl => lv_isub κ.1.1 κ.1.2.1  hd  (kk H locs ls hP hD hS hl)
theorem gw_imul (κ : KC p s m args meth c cc nL own D cI cR A ret) {x y : Int32} (hd : decode cc pc = .ok (.imul, 1)) (hp : pc + 1 = pc')  (kk : GW p l e R s m args below meth c D A nL Q ce sl ws lv pc' (.int (x * y) :: st)) : GW p l e R s m args below meth c D A nL Q ce sl ws lv pc (.int y :: .int x :: st) := by
  subst hp
  exact fun H locs ls hP hD hS hl => lv_imul κ.1.1 κ.1.2.1  hd  (kk H locs ls hP hD hS hl)
theorem gw_iand (κ : KC p s m args meth c cc nL own D cI cR A ret) {x y : Int32} (hd : decode cc pc = .ok (.iand, 1)) (hp : pc + 1 = pc')  (kk : GW p l e R s m args below meth c D A nL Q ce sl ws lv pc' (.int (x &&& y) :: st)) : GW p l e R s m args below meth c D A nL Q ce sl ws lv pc (.int y :: .int x :: st) := by
  subst hp
  exact fun H locs ls hP hD hS hl => lv_iand κ.1.1 κ.1.2.1  hd  (kk H locs ls hP hD hS hl)
theorem gw_ior (κ : KC p s m args meth c cc nL own D cI cR A ret) {x y : Int32} (hd : decode cc pc = .ok (.ior, 1)) (hp : pc + 1 = pc')  (kk : GW p l e R s m args below meth c D A nL Q ce sl ws lv pc' (.int (x ||| y) :: st)) : GW p l e R s m args below meth c D A nL Q ce sl ws lv pc (.int y :: .int x :: st) := by
  subst hp
  exact fun H locs ls hP hD hS hl => lv_ior κ.1.1 κ.1.2.1  hd  (kk H locs ls hP hD hS hl)
theorem gw_ishl (κ : KC p s m args meth c cc nL own D cI cR A ret) {x y : Int32} (hd : decode cc pc = .ok (.ishl, 1)) (hp : pc + 1 = pc')  (kk : GW p l e R s m args below meth c D A nL Q ce sl ws lv pc' (.int (x <<< (y &&& 31)) :: st)) : GW p l e R s m args below meth c D A nL Q ce sl ws lv pc (.int y :: .int x :: st) := by
  subst hp
  exact fun H locs ls hP hD hS hl => lv_ishl κ.1.1 κ.1.2.1  hd  (kk H locs ls hP hD hS hl)
theorem gw_ishr (κ : KC p s m args meth c cc nL own D cI cR A ret) {x y : Int32} (hd : decode cc pc = .ok (.ishr, 1)) (hp : pc + 1 = pc')  (kk : GW p l e R s m args below meth c D A nL Q ce sl ws lv pc' (.int (x >>> (y &&& 31)) :: st)) : GW p l e R s m args below meth c D A nL Q ce sl ws lv pc (.int y :: .int x :: st) := by
  subst hp
  exact fun H locs ls hP hD hS hl => lv_ishr κ.1.1 κ.1.2.1  hd  (kk H locs ls hP hD hS hl)
theorem gw_idiv (κ : KC p s m args meth c cc nL own D cI cR A ret) {x y : Int32} (hd : decode cc pc = .ok (.idiv, 1)) (hp : pc + 1 = pc')  (hne : ¬ y = 0) (kk : GW p l e R s m args below meth c D A nL Q ce sl ws lv pc' (.int (x / y) :: st)) : GW p l e R s m args below meth c D A nL Q ce sl ws lv pc (.int y :: .int x :: st) := by
  subst hp
  exact fun H locs ls hP hD hS hl => lv_idiv κ.1.1 κ.1.2.1  hd hne (kk H locs ls hP hD hS hl)
theorem gw_irem (κ : KC p s m args meth c cc nL own D cI cR A ret) {x y : Int32} (hd : decode cc pc = .ok (.irem, 1)) (hp : pc + 1 = pc')  (hne : ¬ y = 0) (kk : GW p l e R s m args below meth c D A nL Q ce sl ws lv pc' (.int (x - x / y * y) :: st)) : GW p l e R s m args below meth c D A nL Q ce sl ws lv pc (.int y :: .int x :: st) := by
  subst hp
  exact fun H locs ls hP hD hS hl => lv_irem κ.1.1 κ.1.2.1  hd hne (kk H locs ls hP hD hS hl)
theorem gw_land (κ : KC p s m args meth c cc nL own D cI cR A ret) {x y : Int64} (hd : decode cc pc = .ok (.land, 1)) (hp : pc + 1 = pc')  (kk : GW p l e R s m args below meth c D A nL Q ce sl ws lv pc' (.long (x &&& y) :: st)) : GW p l e R s m args below meth c D A nL Q ce sl ws lv pc (.long y :: .long x :: st) := by
  subst hp
  exact fun H locs ls hP hD hS hl => lv_land κ.1.1 κ.1.2.1  hd  (kk H locs ls hP hD hS hl)
theorem gw_lor (κ : KC p s m args meth c cc nL own D cI cR A ret) {x y : Int64} (hd : decode cc pc = .ok (.lor, 1)) (hp : pc + 1 = pc')  (kk : GW p l e R s m args below meth c D A nL Q ce sl ws lv pc' (.long (x ||| y) :: st)) : GW p l e R s m args below meth c D A nL Q ce sl ws lv pc (.long y :: .long x :: st) := by
  subst hp
  exact fun H locs ls hP hD hS hl => lv_lor κ.1.1 κ.1.2.1  hd  (kk H locs ls hP hD hS hl)
theorem gw_iushr (κ : KC p s m args meth c cc nL own D cI cR A ret) {x y : Int32} (hd : decode cc pc = .ok (.iushr, 1)) (hp : pc + 1 = pc')  (kk : GW p l e R s m args below meth c D A nL Q ce sl ws lv pc' (.int ((x.toUInt32 >>> (y.toUInt32 &&& Int32.toUInt32 31)).toInt32) :: st)) : GW p l e R s m args below meth c D A nL Q ce sl ws lv pc (.int y :: .int x :: st) := by
  subst hp
  exact fun H locs ls hP hD hS hl => lv_iushr κ.1.1 κ.1.2.1  hd rfl (kk H locs ls hP hD hS hl)
theorem gw_lushr (κ : KC p s m args meth c cc nL own D cI cR A ret) {x : Int64} {y : Int32} (hd : decode cc pc = .ok (.lushr, 1)) (hp : pc + 1 = pc')   (kk : GW p l e R s m args below meth c D A nL Q ce sl ws lv pc' (.long ((x.toUInt64 >>> (y.toInt64.toUInt64 &&& Int64.toUInt64 63)).toInt64) :: st)) : GW p l e R s m args below meth c D A nL Q ce sl ws lv pc (.int y :: .long x :: st) := by
  subst hp
  exact fun H locs ls hP hD hS hl => lv_lushr κ.1.1 κ.1.2.1  hd rfl (kk H locs ls hP hD hS hl)
theorem gw_lshl (κ : KC p s m args meth c cc nL own D cI cR A ret) {x : Int64} {y : Int32} (hd : decode cc pc = .ok (.lshl, 1)) (hp : pc + 1 = pc')   (kk : GW p l e R s m args below meth c D A nL Q ce sl ws lv pc' (.long (x <<< (y.toInt64 &&& 63)) :: st)) : GW p l e R s m args below meth c D A nL Q ce sl ws lv pc (.int y :: .long x :: st) := by
  subst hp
  exact fun H locs ls hP hD hS hl => lv_lshl κ.1.1 κ.1.2.1  hd rfl (kk H locs ls hP hD hS hl)
theorem gw_i2l (κ : KC p s m args meth c cc nL own D cI cR A ret) {x : Int32} (hd : decode cc pc = .ok (.i2l, 1)) (hp : pc + 1 = pc')  (kk : GW p l e R s m args below meth c D A nL Q ce sl ws lv pc' (.long x.toInt64 :: st)) : GW p l e R s m args below meth c D A nL Q ce sl ws lv pc (.int x :: st) := by
  subst hp
  exact fun H locs ls hP hD hS hl => lv_i2l κ.1.1 κ.1.2.1  hd rfl (kk H locs ls hP hD hS hl)
theorem gw_l2i (κ : KC p s m args meth c cc nL own D cI cR A ret) {x : Int64} (hd : decode cc pc = .ok (.l2i, 1)) (hp : pc + 1 = pc')  (kk : GW p l e R s m args below meth c D A nL Q ce sl ws lv pc' (.int x.toInt32 :: st)) : GW p l e R s m args below meth c D A nL Q ce sl ws lv pc (.long x :: st) := by
  subst hp
  exact fun H locs ls hP hD hS hl => lv_l2i κ.1.1 κ.1.2.1  hd rfl (kk H locs ls hP hD hS hl)
theorem gw_dup (κ : KC p s m args meth c cc nL own D cI cR A ret) {va : Value} (hd : decode cc pc = .ok (.dup, 1)) (hp : pc + 1 = pc')  (hva : va.category = 1) (kk : GW p l e R s m args below meth c D A nL Q ce sl ws lv pc' (va :: va :: st)) : GW p l e R s m args below meth c D A nL Q ce sl ws lv pc (va :: st) := by
  subst hp
  exact fun H locs ls hP hD hS hl => lv_dup κ.1.1 κ.1.2.1  hd hva (kk H locs ls hP hD hS hl)
theorem gw_dup2 (κ : KC p s m args meth c cc nL own D cI cR A ret) {va vb : Value} (hd : decode cc pc = .ok (.dup2, 1)) (hp : pc + 1 = pc')  (hva : va.category = 1) (hvb : vb.category = 1) (kk : GW p l e R s m args below meth c D A nL Q ce sl ws lv pc' (va :: vb :: va :: vb :: st)) : GW p l e R s m args below meth c D A nL Q ce sl ws lv pc (va :: vb :: st) := by
  subst hp
  exact fun H locs ls hP hD hS hl => lv_dup2_11 κ.1.1 κ.1.2.1  hd hva hvb (kk H locs ls hP hD hS hl)
theorem gw_lcmp (κ : KC p s m args meth c cc nL own D cI cR A ret) {x y : Int64} (hd : decode cc pc = .ok (.lcmp, 1)) (hp : pc + 1 = pc')  (kk : GW p l e R s m args below meth c D A nL Q ce sl ws lv pc' (.int (lg_cmp x y) :: st)) : GW p l e R s m args below meth c D A nL Q ce sl ws lv pc (.long y :: .long x :: st) := by
  subst hp
  exact fun H locs ls hP hD hS hl => W.lcmp κ.1.1 κ.1.2.1 hd (kk H locs ls hP hD hS hl)
theorem gw_if_eq (κ : KC p s m args meth c cc nL own D cI cR A ret) {x : Int32} {off : Int} {tgt : Nat} (hd : decode cc pc = .ok (.ifCond .eq off, 3)) (hp : pc + 3 = pc')    (ht : (pc : Int) + off = (tgt : Int)) (kt : x = 0 → GW p l e R s m args below meth c D A nL Q ce sl ws lv tgt st) (kf : ¬ x = 0 → GW p l e R s m args below meth c D A nL Q ce sl ws lv pc' st) : GW p l e R s m args below meth c D A nL Q ce sl ws lv pc (.int x :: st) := by
  subst hp
  exact fun H locs ls hP hD hS hl => lv_if_eq κ.1.1 κ.1.2.1 hd ht (fun h => kt h H locs ls hP hD hS hl) (fun h => kf h H locs ls hP hD hS hl)
theorem gw_if_ne (κ : KC p s m args meth c cc nL own D cI cR A ret) {x : Int32} {off : Int} {tgt : Nat} (hd : decode cc pc = .ok (.ifCond .ne off, 3)) (hp : pc + 3 = pc')    (ht : (pc : Int) + off = (tgt : Int)) (kt : ¬ x = 0 → GW p l e R s m args below meth c D A nL Q ce sl ws lv tgt st) (kf : x = 0 → GW p l e R s m args below meth c D A nL Q ce sl ws lv pc' st) : GW p l e R s m args below meth c D A nL Q ce sl ws lv pc (.int x :: st) := by
  subst hp
  exact fun H locs ls hP hD hS hl => lv_if_ne κ.1.1 κ.1.2.1 hd ht (fun h => kt h H locs ls hP hD hS hl) (fun h => kf h H locs ls hP hD hS hl)
theorem gw_if_lt (κ : KC p s m args meth c cc nL own D cI cR A ret) {x : Int32} {off : Int} {tgt : Nat} (hd : decode cc pc = .ok (.ifCond .lt off, 3)) (hp : pc + 3 = pc')    (ht : (pc : Int) + off = (tgt : Int)) (kt : x < 0 → GW p l e R s m args below meth c D A nL Q ce sl ws lv tgt st) (kf : ¬ x < 0 → GW p l e R s m args below meth c D A nL Q ce sl ws lv pc' st) : GW p l e R s m args below meth c D A nL Q ce sl ws lv pc (.int x :: st) := by
  subst hp
  exact fun H locs ls hP hD hS hl => lv_if_lt κ.1.1 κ.1.2.1 hd ht (fun h => kt h H locs ls hP hD hS hl) (fun h => kf h H locs ls hP hD hS hl)
theorem gw_if_ge (κ : KC p s m args meth c cc nL own D cI cR A ret) {x : Int32} {off : Int} {tgt : Nat} (hd : decode cc pc = .ok (.ifCond .ge off, 3)) (hp : pc + 3 = pc')    (ht : (pc : Int) + off = (tgt : Int)) (kt : 0 ≤ x → GW p l e R s m args below meth c D A nL Q ce sl ws lv tgt st) (kf : ¬ 0 ≤ x → GW p l e R s m args below meth c D A nL Q ce sl ws lv pc' st) : GW p l e R s m args below meth c D A nL Q ce sl ws lv pc (.int x :: st) := by
  subst hp
  exact fun H locs ls hP hD hS hl => lv_if_ge κ.1.1 κ.1.2.1 hd ht (fun h => kt h H locs ls hP hD hS hl) (fun h => kf h H locs ls hP hD hS hl)
theorem gw_if_gt (κ : KC p s m args meth c cc nL own D cI cR A ret) {x : Int32} {off : Int} {tgt : Nat} (hd : decode cc pc = .ok (.ifCond .gt off, 3)) (hp : pc + 3 = pc')    (ht : (pc : Int) + off = (tgt : Int)) (kt : 0 < x → GW p l e R s m args below meth c D A nL Q ce sl ws lv tgt st) (kf : ¬ 0 < x → GW p l e R s m args below meth c D A nL Q ce sl ws lv pc' st) : GW p l e R s m args below meth c D A nL Q ce sl ws lv pc (.int x :: st) := by
  subst hp
  exact fun H locs ls hP hD hS hl => lv_if_gt κ.1.1 κ.1.2.1 hd ht (fun h => kt h H locs ls hP hD hS hl) (fun h => kf h H locs ls hP hD hS hl)
theorem gw_if_le (κ : KC p s m args meth c cc nL own D cI cR A ret) {x : Int32} {off : Int} {tgt : Nat} (hd : decode cc pc = .ok (.ifCond .le off, 3)) (hp : pc + 3 = pc')    (ht : (pc : Int) + off = (tgt : Int)) (kt : x ≤ 0 → GW p l e R s m args below meth c D A nL Q ce sl ws lv tgt st) (kf : ¬ x ≤ 0 → GW p l e R s m args below meth c D A nL Q ce sl ws lv pc' st) : GW p l e R s m args below meth c D A nL Q ce sl ws lv pc (.int x :: st) := by
  subst hp
  exact fun H locs ls hP hD hS hl => lv_if_le κ.1.1 κ.1.2.1 hd ht (fun h => kt h H locs ls hP hD hS hl) (fun h => kf h H locs ls hP hD hS hl)
theorem gw_icmp_eq (κ : KC p s m args meth c cc nL own D cI cR A ret) {x y : Int32} {off : Int} {tgt : Nat} (hd : decode cc pc = .ok (.if_icmp .eq off, 3)) (hp : pc + 3 = pc')    (ht : (pc : Int) + off = (tgt : Int)) (kt : x = y → GW p l e R s m args below meth c D A nL Q ce sl ws lv tgt st) (kf : ¬ x = y → GW p l e R s m args below meth c D A nL Q ce sl ws lv pc' st) : GW p l e R s m args below meth c D A nL Q ce sl ws lv pc (.int y :: .int x :: st) := by
  subst hp
  exact fun H locs ls hP hD hS hl => lv_icmp_eq κ.1.1 κ.1.2.1 hd ht (fun h => kt h H locs ls hP hD hS hl) (fun h => kf h H locs ls hP hD hS hl)
theorem gw_icmp_ne (κ : KC p s m args meth c cc nL own D cI cR A ret) {x y : Int32} {off : Int} {tgt : Nat} (hd : decode cc pc = .ok (.if_icmp .ne off, 3)) (hp : pc + 3 = pc')    (ht : (pc : Int) + off = (tgt : Int)) (kt : ¬ x = y → GW p l e R s m args below meth c D A nL Q ce sl ws lv tgt st) (kf : x = y → GW p l e R s m args below meth c D A nL Q ce sl ws lv pc' st) : GW p l e R s m args below meth c D A nL Q ce sl ws lv pc (.int y :: .int x :: st) := by
  subst hp
  exact fun H locs ls hP hD hS hl => lv_icmp_ne κ.1.1 κ.1.2.1 hd ht (fun h => kt h H locs ls hP hD hS hl) (fun h => kf h H locs ls hP hD hS hl)
theorem gw_icmp_lt (κ : KC p s m args meth c cc nL own D cI cR A ret) {x y : Int32} {off : Int} {tgt : Nat} (hd : decode cc pc = .ok (.if_icmp .lt off, 3)) (hp : pc + 3 = pc')    (ht : (pc : Int) + off = (tgt : Int)) (kt : x < y → GW p l e R s m args below meth c D A nL Q ce sl ws lv tgt st) (kf : ¬ x < y → GW p l e R s m args below meth c D A nL Q ce sl ws lv pc' st) : GW p l e R s m args below meth c D A nL Q ce sl ws lv pc (.int y :: .int x :: st) := by
  subst hp
  exact fun H locs ls hP hD hS hl => lv_icmp_lt κ.1.1 κ.1.2.1 hd ht (fun h => kt h H locs ls hP hD hS hl) (fun h => kf h H locs ls hP hD hS hl)
theorem gw_icmp_ge (κ : KC p s m args meth c cc nL own D cI cR A ret) {x y : Int32} {off : Int} {tgt : Nat} (hd : decode cc pc = .ok (.if_icmp .ge off, 3)) (hp : pc + 3 = pc')    (ht : (pc : Int) + off = (tgt : Int)) (kt : y ≤ x → GW p l e R s m args below meth c D A nL Q ce sl ws lv tgt st) (kf : ¬ y ≤ x → GW p l e R s m args below meth c D A nL Q ce sl ws lv pc' st) : GW p l e R s m args below meth c D A nL Q ce sl ws lv pc (.int y :: .int x :: st) := by
  subst hp
  exact fun H locs ls hP hD hS hl => lv_icmp_ge κ.1.1 κ.1.2.1 hd ht (fun h => kt h H locs ls hP hD hS hl) (fun h => kf h H locs ls hP hD hS hl)
theorem gw_icmp_gt (κ : KC p s m args meth c cc nL own D cI cR A ret) {x y : Int32} {off : Int} {tgt : Nat} (hd : decode cc pc = .ok (.if_icmp .gt off, 3)) (hp : pc + 3 = pc')    (ht : (pc : Int) + off = (tgt : Int)) (kt : y < x → GW p l e R s m args below meth c D A nL Q ce sl ws lv tgt st) (kf : ¬ y < x → GW p l e R s m args below meth c D A nL Q ce sl ws lv pc' st) : GW p l e R s m args below meth c D A nL Q ce sl ws lv pc (.int y :: .int x :: st) := by
  subst hp
  exact fun H locs ls hP hD hS hl => lv_icmp_gt κ.1.1 κ.1.2.1 hd ht (fun h => kt h H locs ls hP hD hS hl) (fun h => kf h H locs ls hP hD hS hl)
theorem gw_icmp_le (κ : KC p s m args meth c cc nL own D cI cR A ret) {x y : Int32} {off : Int} {tgt : Nat} (hd : decode cc pc = .ok (.if_icmp .le off, 3)) (hp : pc + 3 = pc')    (ht : (pc : Int) + off = (tgt : Int)) (kt : x ≤ y → GW p l e R s m args below meth c D A nL Q ce sl ws lv tgt st) (kf : ¬ x ≤ y → GW p l e R s m args below meth c D A nL Q ce sl ws lv pc' st) : GW p l e R s m args below meth c D A nL Q ce sl ws lv pc (.int y :: .int x :: st) := by
  subst hp
  exact fun H locs ls hP hD hS hl => lv_icmp_le κ.1.1 κ.1.2.1 hd ht (fun h => kt h H locs ls hP hD hS hl) (fun h => kf h H locs ls hP hD hS hl)
theorem gw_goto (κ : KC p s m args meth c cc nL own D cI cR A ret) {off : Int} {tgt : Nat} (hd : decode cc pc = .ok (.goto off, 3))    (ht : (pc : Int) + off = (tgt : Int)) (kk : GW p l e R s m args below meth c D A nL Q ce sl ws lv tgt st) : GW p l e R s m args below meth c D A nL Q ce sl ws lv pc st := fun H locs ls hP hD hS hl => lv_goto κ.1.1 κ.1.2.1 hd ht (kk H locs ls hP hD hS hl)
theorem gw_tableIn (κ : KC p s m args meth c cc nL own D cI cR A ret) {dflt lo hi : Int} {offs : Array Int} {len : Nat} {x : Int32} {off : Int} {tgt : Nat} (hd : decode cc pc = .ok (.tableswitch dflt lo hi offs, len))        (h1 : ¬ x.toInt < lo) (h2 : ¬ hi < x.toInt) (ho : offs[(x.toInt - lo).toNat]? = some off) (ht : (pc : Int) + off = (tgt : Int)) (kk : GW p l e R s m args below meth c D A nL Q ce sl ws lv tgt st) : GW p l e R s m args below meth c D A nL Q ce sl ws lv pc (.int x :: st) := fun H locs ls hP hD hS hl => lv_tableIn κ.1.1 κ.1.2.1 hd h1 h2 ho ht (kk H locs ls hP hD hS hl)
theorem gw_tableOut (κ : KC p s m args meth c cc nL own D cI cR A ret) {dflt lo hi : Int} {offs : Array Int} {len : Nat} {x : Int32} {tgt : Nat} (hd : decode cc pc = .ok (.tableswitch dflt lo hi offs, len))       (h : x.toInt < lo ∨ hi < x.toInt) (ht : (pc : Int) + dflt = (tgt : Int)) (kk : GW p l e R s m args below meth c D A nL Q ce sl ws lv tgt st) : GW p l e R s m args below meth c D A nL Q ce sl ws lv pc (.int x :: st) := fun H locs ls hP hD hS hl => lv_tableOut κ.1.1 κ.1.2.1 hd h ht (kk H locs ls hP hD hS hl)
theorem gw_ifnonnull (κ : KC p s m args meth c cc nL own D cI cR A ret) {x : Nat} {off : Int} {tgt : Nat} (hd : decode cc pc = .ok (.ifnonnull off, 3))     (ht : (pc : Int) + off = (tgt : Int)) (kk : GW p l e R s m args below meth c D A nL Q ce sl ws lv tgt st) : GW p l e R s m args below meth c D A nL Q ce sl ws lv pc (.ref x :: st) := fun H locs ls hP hD hS hl => lv_ifnonnull κ.1.1 κ.1.2.1 hd ht (kk H locs ls hP hD hS hl)
theorem gw_ifnonnullN (κ : KC p s m args meth c cc nL own D cI cR A ret) {off : Int} (hd : decode cc pc = .ok (.ifnonnull off, 3)) (hp : pc + 3 = pc')  (kk : GW p l e R s m args below meth c D A nL Q ce sl ws lv pc' st) : GW p l e R s m args below meth c D A nL Q ce sl ws lv pc (.null :: st) := by
  subst hp
  exact fun H locs ls hP hD hS hl => lv_ifnonnullN κ.1.1 κ.1.2.1 hd (kk H locs ls hP hD hS hl)
theorem gw_aload_nN (κ : KC p s m args meth c cc nL own D cI cR A ret) {k : Fin 4} {i : Nat} (hd : decode cc pc = .ok (.aload_n k, 1)) (hp : pc + 1 = pc')   (j : Nat) (hj : lv[j]? = some (i, .null)) (hi : (k : Nat) = i) (kk : GW p l e R s m args below meth c D A nL Q ce sl ws lv pc' (.null :: st)) : GW p l e R s m args below meth c D A nL Q ce sl ws lv pc st := by
  subst hp
  exact fun H locs ls hP hD hS hl => lv_aload_nN κ.1.1 κ.1.2.1 hd hi (lv_at hl j hj) (kk H locs ls hP hD hS hl)
theorem gw_astore_nN (κ : KC p s m args meth c cc nL own D cI cR A ret) {k : Fin 4} {i : Nat} {lv' : List (Nat × Value)} (hd : decode cc pc = .ok (.astore_n k, 1)) (hp : pc + 1 = pc')    (hi : (k : Nat) = i) (hn : i < nL) (hl' : (i, Value.null) :: lv.filter (fun q => !(q.1 == i) && !(q.1 + 1 == i && q.2.category == 2)) = lv') (kk : GW p l e R s m args below meth c D A nL Q ce sl ws lv' pc' st) : GW p l e R s m args below meth c D A nL Q ce sl ws lv pc (.null :: st) := by
  subst hp
  exact fun H locs ls hP hD hS hl => lv_astore_nN κ.1.1 κ.1.2.1 hd hi hl hn hl' (fun ls' hl2 => kk H locs ls' hP hD hS hl2)
theorem gw_ldcw (κ : KC p s m args meth c cc nL own D cI cR A ret) {idx : Nat} {v : Int32} (hd : decode cc pc = .ok (.ldc_w idx, 3)) (hp : pc + 3 = pc')   (hw : Cond.constant own idx v ∈ lw_good) (kk : GW p l e R s m args below meth c D A nL Q ce sl ws lv pc' (.int v :: st)) : GW p l e R s m args below meth c D A nL Q ce sl ws lv pc st := by
  subst hp
  exact fun H locs ls hP hD hS hl => lv_ldcw κ.1.1 κ.1.2.1 κ.1.2.2.2.1 (κ.1.2.2.2.2 _ hw) hd (kk H locs ls hP hD hS hl)
theorem gw_ldc2 (κ : KC p s m args meth c cc nL own D cI cR A ret) {idx : Nat} {v : Int64} (hd : decode cc pc = .ok (.ldc2_w idx, 3)) (hp : pc + 3 = pc')   (hw : Cond.constantLong own idx v ∈ lw_good) (kk : GW p l e R s m args below meth c D A nL Q ce sl ws lv pc' (.long v :: st)) : GW p l e R s m args below meth c D A nL Q ce sl ws lv pc st := by
  subst hp
  exact fun H locs ls hP hD hS hl => lv_ldc2 κ.1.1 κ.1.2.1 κ.1.2.2.2.1 (κ.1.2.2.2.2 _ hw) hd (kk H locs ls hP hD hS hl)
theorem gw_get (κ : KC p s m args meth c cc nL own D cI cR A ret) {C : String} {T : u_T} {N ci idx a : Nat} {fs : List Value} {v : Value} (hd : decode cc pc = .ok (.getfield idx, 3)) (hp : pc + 3 = pc')    (hin : ∀ w ∈ u_ws C T N, w ∈ lw_good) (q0 : Nat)  (he : ws[q0]? = some (a, .inr (ci, fs))) (hc : vwCl[ci]? = some (C, T, N)) (k : Nat) (hk : k < N) (hlink : Cond.fieldLink own idx (T k).1 (T k).2.1 (T k).2.2.1 ∈ lw_good)  (hv : fs[k]? = some v) (kk : GW p l e R s m args below meth c D A nL Q ce sl ws lv pc' (v :: st)) : GW p l e R s m args below meth c D A nL Q ce sl ws lv pc (.ref a :: st) := by
  subst hp
  exact fun H locs ls hP hD hS hl => va_get κ.1.1 κ.1.2.1 κ.1.2.2.2.2 hin κ.1.2.2.2.1 κ.2.1 hP q0 he hc k hk (κ.1.2.2.2.2 _ hlink) (fun _ h => h) hv hd (kk H locs ls hP hD hS hl)
theorem gw_put (κ : KC p s m args meth c cc nL own D cI cR A ret) {C : String} {T : u_T} {N ci idx a : Nat} {fs : List Value} {ty : FieldType} {v : Value} {ws' : va_W} (hd : decode cc pc = .ok (.putfield idx, 3)) (hp : pc + 3 = pc')    (hin : ∀ w ∈ u_ws C T N, w ∈ lw_good) (ty0 : Nat → FieldType) (hty : ∀ k, k < N → parseFieldDescriptor (T k).2.2.1 = some (ty0 k)) (hnm : ∀ a, a < N → ∀ b, b < N → a ≠ b → (T a).2.1 ≠ (T b).2.1) (q0 : Nat)  (he : ws[q0]? = some (a, .inr (ci, fs))) (hc : vwCl[ci]? = some (C, T, N)) (k : Nat) (hk : k < N) (hlink : Cond.fieldLink own idx (T k).1 (T k).2.1 (T k).2.2.1 ∈ lw_good) (hfin : (T k).2.2.2 = false)   (hdd : parseFieldDescriptor (T k).2.2.1 = some ty) (hn : narrow ty v = v) (hfit : fits ty v = true) (hlen : k < fs.length)  (hw : ws.set q0 (a, .inr (ci, fs.set k v)) = ws') (kk : GW p l e R s m args below meth c D A nL Q ce sl ws' lv pc' st) : GW p l e R s m args below meth c D A nL Q ce sl ws lv pc (v :: .ref a :: st) := by
  subst hp
  subst hw
  exact fun H locs ls hP hD hS hl => va_put κ.1.1 κ.1.2.1 κ.1.2.2.2.2 hin ty0 hty hnm κ.1.2.2.2.1 κ.2.1 hP hD hS q0 he hc k hk (κ.1.2.2.2.2 _ hlink) (fun _ h => h) hfin hdd hn hfit hlen hd (fun H1 locs1 hP1 hD1 hS1 => kk H1 locs1 ls hP1 hD1 hS1 hl)
theorem gw_putF (κ : KC p s m args meth c cc nL own D cI cR A ret) {C : String} {T : u_T} {N ci idx a : Nat} {fs : List Value} {ty : FieldType} {v : Value} {ws' : va_W} (hd : decode cc pc = .ok (.putfield idx, 3)) (hp : pc + 3 = pc')    (hin : ∀ w ∈ u_ws C T N, w ∈ lw_good) (ty0 : Nat → FieldType) (hty : ∀ k, k < N → parseFieldDescriptor (T k).2.2.1 = some (ty0 k)) (hnm : ∀ a, a < N → ∀ b, b < N → a ≠ b → (T a).2.1 ≠ (T b).2.1) (q0 : Nat)  (he : ws[q0]? = some (a, .inr (ci, fs))) (hc : vwCl[ci]? = some (C, T, N)) (k : Nat) (hk : k < N) (hlink : Cond.fieldLink own idx (T k).1 (T k).2.1 (T k).2.2.1 ∈ lw_good) (hfin : (T k).2.2.2 = true) (hin2 : meth.name = "<init>") (hdecl : (T k).1 = own)   (hdd : parseFieldDescriptor (T k).2.2.1 = some ty) (hn : narrow ty v = v) (hfit : fits ty v = true) (hlen : k < fs.length)  (hw : ws.set q0 (a, .inr (ci, fs.set k v)) = ws') (kk : GW p l e R s m args below meth c D A nL Q ce sl ws' lv pc' st) : GW p l e R s m args below meth c D A nL Q ce sl ws lv pc (v :: .ref a :: st) := by
  subst hp
  subst hw
  exact fun H locs ls hP hD hS hl => va_putF κ.1.1 κ.1.2.1 κ.1.2.2.2.2 hin ty0 hty hnm κ.1.2.2.2.1 κ.2.1 hP hD hS q0 he hc k hk (κ.1.2.2.2.2 _ hlink) (fun _ h => h) hfin hin2 hdecl hdd hn hfit hlen hd (fun H1 locs1 hP1 hD1 hS1 => kk H1 locs1 ls hP1 hD1 hS1 hl)
theorem gw_iald (κ : KC p s m args meth c cc nL own D cI cR A ret) {a n : Nat} {f : Nat → Int32} {i : Int32} (hd : decode cc pc = .ok (.iaload, 1)) (hp : pc + 1 = pc')   (q0 : Nat) (ha : ws[q0]? = some (a, .inl (cI, n, .inl f)))  (hin : vp_in i n) (kk : GW p l e R s m args below meth c D A nL Q ce sl ws lv pc' (.int (f i.toNatClampNeg) :: st)) : GW p l e R s m args below meth c D A nL Q ce sl ws lv pc (.int i :: .ref a :: st) := by
  subst hp
  exact fun H locs ls hP hD hS hl => va_iald κ.1.1 κ.1.2.1 κ.2.1 hP q0 0 ha rfl hin hd (kk H locs ls hP hD hS hl)
theorem gw_iast (κ : KC p s m args meth c cc nL own D cI cR A ret) {a n : Nat} {f : Nat → Int32} {i x : Int32} {ws' : va_W} (hd : decode cc pc = .ok (.iastore, 1)) (hp : pc + 1 = pc')   (q0 : Nat) (ha : ws[q0]? = some (a, .inl (cI, n, .inl f)))  (hin : vp_in i n)  (hw : ws.set q0 (a, .inl (cI, n, .inl (upd f i.toNatClampNeg x))) = ws') (kk : GW p l e R s m args below meth c D A nL Q ce sl ws' lv pc' st) : GW p l e R s m args below meth c D A nL Q ce sl ws lv pc (.int x :: .int i :: .ref a :: st) := by
  subst hp
  subst hw
  exact fun H locs ls hP hD hS hl => va_iast κ.1.1 κ.1.2.1 κ.2.1 hP hD hS q0 0 ha rfl hin hd (fun H1 locs1 hP1 hD1 hS1 => kk H1 locs1 ls hP1 hD1 hS1 hl)
theorem gw_aald (κ : KC p s m args meth c cc nL own D cI cR A ret) {a n : Nat} {f : Nat → Option Nat} {i : Int32} {v : Value} (hd : decode cc pc = .ok (.aaload, 1)) (hp : pc + 1 = pc')   (q0 : Nat) (ha : ws[q0]? = some (a, .inl (cR, n, .inr (.inr (.inr (.inr f))))))  (hin : vp_in i n)  (hv : va_rf (f i.toNatClampNeg) = v) (kk : GW p l e R s m args below meth c D A nL Q ce sl ws lv pc' (v :: st)) : GW p l e R s m args below meth c D A nL Q ce sl ws lv pc (.int i :: .ref a :: st) := by
  subst hp
  subst hv
  exact fun H locs ls hP hD hS hl => va_aldq κ.1.1 κ.1.2.1 κ.2.1 hP q0 1 ha rfl hin hd (kk H locs ls hP hD hS hl)
theorem gw_aast (κ : KC p s m args meth c cc nL own D cI cR A ret) {a n v : Nat} {vs : List Value} {f : Nat → Option Nat} {i : Int32} {ws' : va_W} (hd : decode cc pc = .ok (.aastore, 1)) (hp : pc + 1 = pc')    (q0 qk : Nat) (ha : ws[q0]? = some (a, .inl (cR, n, .inr (.inr (.inr (.inr f)))))) (hv : ws[qk]? = some (v, .inr (3, vs)))  (hin : vp_in i n)  (hw : ws.set q0 (a, .inl (cR, n, .inr (.inr (.inr (.inr (va_up f i.toNatClampNeg (some v))))))) = ws') (kk : GW p l e R s m args below meth c D A nL Q ce sl ws' lv pc' st) : GW p l e R s m args below meth c D A nL Q ce sl ws lv pc (.ref v :: .int i :: .ref a :: st) := by
  subst hp
  subst hw
  exact fun H locs ls hP hD hS hl => va_astq (r := (RX3, TX3, 10)) κ.1.1 κ.1.2.1 κ.2.1 hP hD hS q0 1 qk 3 ha rfl hv rfl hin hd (fun H1 locs1 hP1 hD1 hS1 => kk H1 locs1 ls hP1 hD1 hS1 hl)
theorem gw_new (κ : KC p s m args meth c cc nL own D cI cR A ret) {C : String} {T : u_T} {N ci idx : Nat} {fs : List Value} (hd : decode cc pc = .ok (.new idx, 3)) (hp : pc + 3 = pc')    (hin : ∀ w ∈ u_ws C T N, w ∈ lw_good) (ty : Nat → FieldType) (hty : ∀ k, k < N → parseFieldDescriptor (T k).2.2.1 = some (ty k)) (hcl : Cond.classLink own idx C ∈ lw_good) (hinst : Cond.instantiable C N ∈ lw_good) (hini : Cond.initialized C ∈ lw_good) (hc : vwCl[ci]? = some (C, T, N))  (hfs : ∀ j, j < N → defaultValue (ty j) = vp_V fs j) (hcells : ce + 1 ≤ R.cells) (hslots : sl + N ≤ R.slots) (kk : ∀ q : Nat, GW p l e R s m args below meth c D A nL Q (ce + 1) (sl + N) (ws ++ [(q, .inr (ci, fs))]) lv pc' (.ref q :: st)) : GW p l e R s m args below meth c D A nL Q ce sl ws lv pc st := by
  subst hp
  exact fun H locs ls hP hD hS hl => va_new κ.1.1 κ.1.2.1 κ.1.2.2.2.2 hin ty hty κ.1.2.2.2.1 (κ.1.2.2.2.2 _ hcl) (κ.1.2.2.2.2 _ hinst) (κ.1.2.2.2.2 _ hini) κ.2.1 hP hD hS κ.2.2.1 hc hfs hcells hslots hd (fun q H1 hP1 hD1 hS1 => kk q H1 locs ls hP1 hD1 hS1 hl)
theorem gw_newa (κ : KC p s m args meth c cc nL own D cI cR A ret) {n : Int32} {N : Nat} (hd : decode cc pc = .ok (.newarray .int, 2)) (hp : pc + 2 = pc')   (hn : ¬ n < 0) (hN : n.toNatClampNeg = N) (hbytes : N * 4 ≤ 536870912) (hcells : ce + 1 ≤ R.cells) (hslots : sl + N ≤ R.slots) (kk : ∀ q : Nat, GW p l e R s m args below meth c D A nL Q (ce + 1) (sl + N) (ws ++ [(q, .inl (cI, N, .inl (fun _ => 0)))]) lv pc' (.ref q :: st)) : GW p l e R s m args below meth c D A nL Q ce sl ws lv pc (.int n :: st) := by
  subst hp
  intro H locs ls hP hD hS hl
  refine va_newa (atype := .int) (ty := .int) (a0 := (N, .inl (fun _ => 0))) κ.1.1 κ.1.2.1 (κ.1.2.2.2.2 _ tw_ac_int) rfl κ.2.1 hP hD hS κ.2.2.1 (fun _ => rfl) hn hN hbytes hcells hslots hd (fun q cA H1 hK1 hP1 hD1 hS1 => ?_)
  have e : cA = cI := Option.some.inj ((va_nm_int (hK1.2 2 _ rfl).2).symm.trans (va_nm_int (κ.2.1.2 0 _ rfl).2))
  subst e
  exact kk q H1 locs ls hP1 hD1 hS1 hl
theorem gw_newq (κ : KC p s m args meth c cc nL own D cI cR A ret) {n : Int32} {N idx : Nat} (hd : decode cc pc = .ok (.anewarray idx, 3)) (hp : pc + 3 = pc')   (hcl : Cond.classLink own idx RX3 ∈ lw_good) (hn : ¬ n < 0) (hN : n.toNatClampNeg = N) (hbytes : N * 4 ≤ 536870912) (hcells : ce + 1 ≤ R.cells) (hslots : sl + N ≤ R.slots) (kk : ∀ q : Nat, GW p l e R s m args below meth c D A nL Q (ce + 1) (sl + N) (ws ++ [(q, .inl (cR, N, .inr (.inr (.inr (.inr (fun _ => none))))))]) lv pc' (.ref q :: st)) : GW p l e R s m args below meth c D A nL Q ce sl ws lv pc (.int n :: st) := by
  subst hp
  intro H locs ls hP hD hS hl
  refine va_newq κ.1.1 κ.1.2.1 κ.1.2.2.2.1 (κ.1.2.2.2.2 _ hcl) κ.2.2.2.1.2.2.2.2.2.2.2.2.2 κ.2.1 hP hD hS κ.2.2.1 hn hN hbytes hcells hslots hd (fun q cA H1 hK1 hP1 hD1 hS1 => ?_)
  obtain ⟨kA, comp, -, -, -, e1⟩ := (hK1.2 2 _ rfl).2
  obtain ⟨kA2, comp2, -, -, -, e2⟩ := (κ.2.1.2 1 _ rfl).2
  have e : cA = cR := Option.some.inj (e1.symm.trans e2)
  subst e
  exact kk q H1 locs ls hP1 hD1 hS1 hl
theorem gw_objInit (κ : KC p s m args meth c cc nL own D cI cR A ret) {idx a : Nat} (hd : decode cc pc = .ok (.invokespecial idx, 3)) (hp : pc + 3 = pc')  (hlink : Cond.methodLink own idx objectInit ∈ lw_good) (hR : 1 ≤ R.frames ∧ (st.map fun v => v.category).sum + 12 ≤ R.locals) (kk : GW p l e R s m args below meth c D A nL Q ce sl ws lv pc' st) : GW p l e R s m args below meth c D A nL Q ce sl ws lv pc (.ref a :: st) := by
  subst hp
  intro H locs ls hP hD hS hl
  have hts := κ.1.2.2.2.2
  refine W.objInit κ.1.1 κ.1.2.1 κ.1.2.2.2.1 (hts _ hlink) (hts _ tw_im_Object_init) (hts _ tw_co_Object_init) rfl (by rw [κ.1.2.2.1]; exact hl.1) rfl hd hR.1 (by show 2 * 0 + _ + 12 ≤ _; omega) ?_
  exact kk H locs ls hP hD hS hl
theorem g_cpy_eq {cA : ClassId} {n : Nat} {f g : Nat → Int32} (h : ∀ j, j < n → f j = g j) : vp_cell cA (n, .inl f) = vp_cell cA (n, .inl g) := by
  rw [vp_cell_i, vp_cell_i]
  unfold arrV
  congr 1
  apply Array.ext
  · simp
  · intro j h1 h2
    simp only [Array.getElem_ofFn]
    rw [h j (by simpa using h1)]
theorem gw_cell {a n : Nat} {f g : Nat → Int32} (q0 : Nat) (ha : ws[q0]? = some (a, .inl (cI, n, .inl f))) (h : ∀ j, j < n → f j = g j) {ws' : va_W} (hw : ws.set q0 (a, .inl (cI, n, .inl g)) = ws') (kk : GW p l e R s m args below meth c D A nL Q ce sl ws' lv pc st) : GW p l e R s m args below meth c D A nL Q ce sl ws lv pc st := by
  subst hw
  intro H locs ls hP hD hS hl
  refine kk H locs ls (hP.set hD ha ?_ (fun _ _ => rfl)) (hD.set ha) hS hl
  have h1 : H[a]? = some (vp_cell cI (n, .inl f)) := hP q0 _ ha
  show H[a]? = some (vp_cell cI (n, .inl g))
  rw [h1, g_cpy_eq h]
theorem gw_copy (κ : KC p s m args meth c cc nL own D cI cR A ret) {a0 a1 n0 idx : Nat} {f g : Nat → Int32} {n : Int32} {ws' : va_W} (hd : decode cc pc = .ok (.invokestatic idx, 3)) (hp : pc + 3 = pc')   (q0 q1 : Nat) (ha0 : ws[q0]? = some (a0, .inl (cI, n0, .inl f))) (ha1 : ws[q1]? = some (a1, .inl (cI, n0, .inl g)))  (hnn : ¬ n < 0) (hn : n.toNatClampNeg = n0) (hlink : Cond.methodLink own idx arraycopyName ∈ lw_good) (hini : Cond.initialized "java/lang/System" ∈ lw_good) (hR : 1 ≤ R.frames ∧ (st.map fun v => v.category).sum + (nativeFrameWords "java/lang/System" "arraycopy" 5 + 11) ≤ R.locals)  (hw : ws.set q1 (a1, .inl (cI, n0, .inl f)) = ws') (kk : GW p l e R s m args below meth c D A nL Q ce sl ws' lv pc' st) : GW p l e R s m args below meth c D A nL Q ce sl ws lv pc (.int n :: .int 0 :: .ref a1 :: .int 0 :: .ref a0 :: st) := by
  subst hp
  subst hw
  subst hn
  intro H locs ls hP hD hS hl
  have hts := κ.1.2.2.2.2
  have z : (0 : Int32).toNatClampNeg = 0 := by decide
  refine va_copyi (ty := .int) κ.1.1 κ.1.2.1 (by rw [κ.1.2.2.1]; exact hl.1.symm) κ.1.2.2.2.1 (hts _ hlink) (hts _ tw_na_arraycopy) (hts _ tw_st_arraycopy) (hts _ hini) κ.2.1 hP hD hS q0 q1 0 0 ha0 ha1 rfl rfl rfl (by decide) (by decide) hnn (by rw [z]; omega) (by rw [z]; omega) (fun _ _ => rfl) hR.1 hR.2 hd (fun H1 locs1 hP1 hD1 hS1 => ?_)
  have hlt := (List.getElem?_eq_some_iff.mp ha1).1
  have hc := gw_cell (cI := cI) (D := D) (lv := lv) (nL := nL) (A := A) (st := st) (ws := ws.set q1 (a1, .inl (cI, n.toNatClampNeg, .inl (va_cpy f g (0 : Int32).toNatClampNeg (0 : Int32).toNatClampNeg n.toNatClampNeg)))) (g := f) q1 (by rw [List.getElem?_set_self hlt]) (fun j hj => by rw [z]; simp [va_cpy, hj]) (by rw [List.set_set]) kk
  exact hc H1 locs1 ls hP1 hD1 hS1 hl
theorem gw_nf {ws' : va_W} {lv' : List (Nat × Value)} {st' : List Value} {ce' sl' : Nat} (h1 : ws = ws') (h2 : lv = lv') (h3 : st = st') (h4 : pc = pc') (h5 : ce = ce') (h6 : sl = sl') (k : GW p l e R s m args below meth c D A nL Q ce' sl' ws' lv' pc' st') : GW p l e R s m args below meth c D A nL Q ce sl ws lv pc st := by
  subst h1; subst h2; subst h3; subst h4; subst h5; subst h6; exact k
theorem gw_top {x : Int32} (k : ∀ y : Int32, y = x → GW p l e R s m args below meth c D A nL Q ce sl ws lv pc (.int y :: st)) : GW p l e R s m args below meth c D A nL Q ce sl ws lv pc (.int x :: st) := k x rfl
theorem gw_topl {x : Int64} (k : ∀ y : Int64, y = x → GW p l e R s m args below meth c D A nL Q ce sl ws lv pc (.long y :: st)) : GW p l e R s m args below meth c D A nL Q ce sl ws lv pc (.long x :: st) := k x rfl
theorem gw_max (κ : KC p s m args meth c cc nL own D cI cR A ret) {idx : Nat} {x y : Int32} (hd : decode cc pc = .ok (.invokestatic idx, 3)) (hp : pc + 3 = pc')   (hlink : Cond.methodLink own idx Lib.Math.max.name ∈ lw_good) (hst : Cond.static Lib.Math.max.name ∈ lw_good) (hini : Cond.initialized "java/lang/Math" ∈ lw_good) (hco : Cond.code Lib.Math.max.name Lib.Math.max.code 2 (some .int) ∈ lw_good) (hR : 1 ≤ R.frames ∧ (st.map fun v => v.category).sum + 13 ≤ R.locals ∧ ce ≤ R.cells ∧ sl ≤ R.slots) (kk : GW p l e R s m args below meth c D A nL Q ce sl ws lv pc' (.int (if x < y then y else x) :: st)) : GW p l e R s m args below meth c D A nL Q ce sl ws lv pc (.int y :: .int x :: st) := by
  subst hp
  intro H locs ls hP hD hS hl
  have hts := κ.1.2.2.2.2
  exact va_mmax κ.1.1 κ.1.2.1 (by rw [κ.1.2.2.1]; exact hl.1.symm) κ.1.2.2.2.1 (hts _ hlink) (hts _ hst) (hts _ hini) (hts _ hco) hR.1 hR.2.1 hR.2.2.1 hR.2.2.2 hd (kk H locs ls hP hD hS hl)
theorem gw_gets (κ : KC p s m args meth c cc nL own D cI cR A ret) {n : String} {f : Nat → Int32} {idx : Nat} (hd : decode cc pc = .ok (.getstatic idx, 3)) (hp : pc + 3 = pc')    (h : g_S1 n f A s s.heap) (hlink : Cond.fieldLink own idx "ShuttleDoors" n "[I" ∈ lw_good) (kk : ∀ t : Nat, va_T .int t 5 (fun j => .int (f j)) A s s.heap → GW p l e R s m args below meth c D A nL Q ce sl ws lv pc' (.ref t :: st)) : GW p l e R s m args below meth c D A nL Q ce sl ws lv pc st := by
  subst hp
  obtain ⟨t, hZ, hT⟩ := h
  exact fun H locs ls hP hD hS hl => va_gets κ.1.1 κ.1.2.1 hZ hS κ.1.2.2.2.1 (κ.1.2.2.2.2 _ hlink) (fun _ h => h) hd (kk t hT H locs ls hP hD hS hl)
theorem gw_getsN (κ : KC p s m args meth c cc nL own D cI cR A ret) {n host : String} {f : Nat → Int32} {idx : Nat} (hd : decode cc pc = .ok (.getstatic idx, 3)) (hp : pc + 3 = pc')    (h : g_S1 n f A s s.heap) (hlink : va_Nw (.fieldLinkNest own idx "ShuttleDoors" n "[I" host) s) (kk : ∀ t : Nat, va_T .int t 5 (fun j => .int (f j)) A s s.heap → GW p l e R s m args below meth c D A nL Q ce sl ws lv pc' (.ref t :: st)) : GW p l e R s m args below meth c D A nL Q ce sl ws lv pc st := by
  subst hp
  obtain ⟨t, hZ, hT⟩ := h
  exact fun H locs ls hP hD hS hl => va_getsN κ.1.1 κ.1.2.1 hZ hS κ.1.2.2.2.1 (va_Nw.use rfl hlink) (fun _ h => h) hd (kk t hT H locs ls hP hD hS hl)
theorem gw_tiald (κ : KC p s m args meth c cc nL own D cI cR A ret) {t : Nat} {f : Nat → Int32} {i : Int32} (hd : decode cc pc = .ok (.iaload, 1)) (hp : pc + 1 = pc')   (hT : va_T .int t 5 (fun j => .int (f j)) A s s.heap)  (hin : vp_in i 5) (kk : GW p l e R s m args below meth c D A nL Q ce sl ws lv pc' (.int (f i.toNatClampNeg) :: st)) : GW p l e R s m args below meth c D A nL Q ce sl ws lv pc (.int i :: .ref t :: st) := by
  subst hp
  exact fun H locs ls hP hD hS hl => va_ti κ.1.1 κ.1.2.1 hT hS hin rfl hd (kk H locs ls hP hD hS hl)
theorem gw_iret (κ : KC p s m args meth c cc nL own D cI cR A (some .int)) {S : Type} {post : Option Value → S → Prop} {B : S → va_W} {v : Int32} (hd : decode cc pc = .ok (.ireturn, 1))     (u : S) (hu : ws = B u)  (hpost : post (some (.int v)) u) : GW p l e R s m args below meth c D A nL (MQ below (g_Q D post B A) args s ce sl A) ce sl ws lv pc [.int v] := by
  subst hu
  exact fun H locs ls hP hD hS hl => W.iret κ.1.1 κ.1.2.1 κ.2.2.2.2.2 (fun t ht hW => ⟨⟨_, u, rfl, hpost, by rw [ht]; exact hP, hD⟩, hS.F ht⟩) hS.2.2 hd κ.2.2.2.2.1
theorem gw_zret (κ : KC p s m args meth c cc nL own D cI cR A (some .boolean)) {S : Type} {post : Option Value → S → Prop} {B : S → va_W} {v : Int32} (hd : decode cc pc = .ok (.ireturn, 1))     (u : S) (hu : ws = B u)  (hb : narrow .boolean (.int v) = .int v) (hpost : post (some (.int v)) u) : GW p l e R s m args below meth c D A nL (MQ below (g_Q D post B A) args s ce sl A) ce sl ws lv pc [.int v] := by
  subst hu
  exact fun H locs ls hP hD hS hl => W.zret κ.1.1 κ.1.2.1 κ.2.2.2.2.2 hb (fun t ht hW => ⟨⟨_, u, rfl, hpost, by rw [ht]; exact hP, hD⟩, hS.F ht⟩) hS.2.2 hd κ.2.2.2.2.1
theorem gw_vret (κ : KC p s m args meth c cc nL own D cI cR A none) {S : Type} {post : Option Value → S → Prop} {B : S → va_W} (hd : decode cc pc = .ok (.return_, 1))     (u : S) (hu : ws = B u) (hpost : post none u) : GW p l e R s m args below meth c D A nL (MQ below (g_Q D post B A) args s ce sl A) ce sl ws lv pc [] := by
  subst hu
  exact fun H locs ls hP hD hS hl => W.vret κ.1.1 κ.1.2.1 κ.2.2.2.2.2 (fun t ht hW => ⟨⟨_, u, rfl, hpost, by rw [ht]; exact hP, hD⟩, hS.F ht⟩) hS.2.2 hd κ.2.2.2.2.1
end GWR
/-- the way into a method: its walk from the entry gives its contract -/
theorem ct_of {l : Launch} {D : va_G} {cI cR : ClassId} {y : MethodName} {cy : ByteArray} {nLy : Nat} {rety : Option FieldType} {rm : Room} {av : List Value} {wc : va_W} {S : Type} {B : S → va_W} {post : Option Value → S → Prop} {mc ms : Nat} (own : String) (hown : y.cls = own) (hy : plainName y.cls = true) (hav : (lg_sl av).length ≤ nLy)
    (body : ∀ (p : Program) (e : Env) (s : State) (m : MethodId) (below : List Frame) (meth : Method) (c : Code) (A : Nat → Prop), meth.name = y.name → KC p s m av.toArray meth c cy nLy own D cI cR A rety → GM p l e rm s m av.toArray below meth c D A nLy post B mc ms 0 0 wc (lv_args 0 av) 0 []) : CT l D cI cR y cy nLy rety rm av wc B post mc ms := by
  intro sz
  refine Met.ofW (cc := cy) (maxL := nLy) (ret := rety) hy rfl ?_
  intro p e s m args below meth c s₁ Bd hml hv
  obtain ⟨rfl, hsz, hP, hK, hD0, hST⟩ := hv
  subst hsz
  have hD := hD0.self (sz := s.heap.size)
  have hts := atoms_spec (ws := Cond.code y cy nLy rety :: lw_good) Bd.pre
  have hl := lv_entry av (n := nLy) hav
  rw [lg_entry_eq]
  exact body p e s m below meth c (va_A wc s.heap.size) (name_of_methodNamed Bd.named Bd.method).1 ⟨⟨Bd.exec, Bd.bytes, hml, hown ▸ findClass_of_methodNamed Bd.named, fun w hw => hts w (List.mem_cons_of_mem _ hw)⟩, hK, fun q h => Or.inr h, hST, Bd.notSynchronized, Bd.returns⟩ s.heap [] _ hP hD va_S.rf hl
/-- posts of a number, of nothing -/
def pI {S : Type} (P : Int32 → S → Prop) : Option Value → S → Prop := fun v u => ∃ r : Int32, v = some (.int r) ∧ P r u
def pV {S : Type} (P : S → Prop) : Option Value → S → Prop := fun v u => v = none ∧ P u
theorem sw_out {x : Int32} {n : Nat} (hn : n < 2 ^ 31) (h : ∀ k : Nat, k ≤ n → ¬ x = nI k) : x.toInt < (0 : Int) ∨ (n : Int) < x.toInt := by
  rcases Int.lt_or_le x.toInt 0 with h1 | h1
  · exact Or.inl h1
  · rcases Int.lt_or_le (n : Int) x.toInt with h2 | h2
    · exact Or.inr h2
    · exfalso
      refine h x.toInt.toNat (by omega) ?_
      apply Int32.toInt_inj.mp
      rw [nI_toInt (by omega)]
      omega
theorem sw_out2 {x : Int32} {lo hi : Nat} (hn : hi < 2 ^ 31) (h : ∀ k : Nat, lo ≤ k → k ≤ hi → ¬ x = nI k) : x.toInt < (lo : Int) ∨ (hi : Int) < x.toInt := by
  rcases Int.lt_or_le x.toInt lo with h1 | h1
  · exact Or.inl h1
  · rcases Int.lt_or_le (hi : Int) x.toInt with h2 | h2
    · exact Or.inr h2
    · exfalso
      refine h x.toInt.toNat (by omega) (by omega) ?_
      apply Int32.toInt_inj.mp
      rw [nI_toInt (by omega)]
      omega
def g_b (v : Int32) : Prop := narrow .boolean (.int v) = .int v
