def x0_now : StT := mkSt iX3_se iX3_la (fun _ => 0) iX3_le iX3_sa (fun _ => 0) (fun _ => 0) (fun _ => 0) (fun _ => 0) 0
def x0_pln : PlT := mkPl (fun _ => 0) (fun _ => 0) (fun _ => 0) (fun _ => 0) (fun _ => 0) 0 0 0
def x0_way : WyT := mkWy (fun _ => 0) (fun _ => 0) (fun _ => 0) 0
def x0_pad : PdT := mkPd (fun _ => 0) 0
def x0_his : HiT := mkHi (fun _ => x0_now) 0 0
def lawP : Int32 → (Nat → Int32) → (Nat → Int32) → (Nat → Int32) → (Nat → Int32) → (Nat → Int32) → (Nat → Int32) → (Nat → Int32) → (Nat → Int32) → (Nat → Int32) → Int32 → (Nat → Int32) → (Nat → Int32) → (Nat → Int32) → (Nat → Int32) → (Nat → Int32) → Int32 → Int32 → Int32 → (Nat → Int32) → (Nat → Int32) → (Nat → Int32) → Int32 → (Nat → StT) → Int32 → Int32 → (Nat → Int32) → (Nat → Int32) → (Nat → Int32) → (Nat → Int32) → (Nat → Int32) → Prop := fun r _ _ _ _ _ _ _ _ _ _ _ _ _ _ _ _ _ _ _ _ _ _ _ _ _ _ _ _ _ _ => r = 1
/-- what is left to show: the law's predicate from the new object on -/
def lawOpen : Prop := ∀ (xs : Nat → Int32) (L : Nat), L ≤ 260 → wp_L_law lawP x0_now x0_pln x0_way x0_pad x0_his (fun _ => 0) (fun _ => 0) (fun _ => 0) (fun _ => 0) (fun _ => 0) xs L
