/-! ===== rows: an instruction, a row ===== -/
/-- a guard: the index is inside -/
def grd {β : Type} (i : Int32) (n : Nat) (o : Option β) : Option β := if ¬ i < 0 ∧ i.toNatClampNeg < n then o else none
/-- a guard: the divisor is not 0 -/
def dvc {β : Type} (y : Int32) (o : Option β) : Option β := if y = 0 then none else o
def dvcl {β : Type} (y : Int64) (o : Option β) : Option β := if y = 0 then none else o
/-- a guard: the value is a boolean -/
def zck {β : Type} (x : Int32) (o : Option β) : Option β := if x &&& 1 = x then o else none
/-- a guard: the copy is inside both rows -/
def cpk {β : Type} (sp dp n : Int32) (n0 n1 : Nat) (o : Option β) : Option β := if (¬ sp < 0 ∧ ¬ dp < 0 ∧ ¬ n < 0) ∧ sp.toNatClampNeg + n.toNatClampNeg ≤ n0 ∧ dp.toNatClampNeg + n.toNatClampNeg ≤ n1 then o else none
def bd {α β : Type} (o : Option (α × Mem)) (k : α → Mem → Option β) : Option β := match o with
  | none => none
  | some (a, M) => k a M
section RW
variable {α : Type} {v : Av} {w : Cw} {rm : Room} {nL : Nat} {enc : α → Option Value} {o oa ob : Option (α × Mem)} {pc n : Nat} {lv : List (Nat × Value)} {st : List Value} {M : Mem} {own : String} {Ts : List Cond} {cc : ByteArray} {ret : Option FieldType}
theorem WO.nothing : WO v w rm nL enc (none : Option (α × Mem)) pc lv st M := fun _ _ h => by cases h
theorem WO.ite {c : Prop} [Decidable c] (k1 : c → WO v w rm nL enc oa pc lv st M) (k2 : ¬ c → WO v w rm nL enc ob pc lv st M) : WO v w rm nL enc (if c then oa else ob) pc lv st M := by
  by_cases h : c
  · rw [if_pos h]; exact k1 h
  · rw [if_neg h]; exact k2 h
theorem WO.sub {lv' : List (Nat × Value)} (ks : List Nat) (h : lv_pick lv ks = lv') (k : WO v w rm nL enc o pc lv' st M) : WO v w rm nL enc o pc lv st M := fun a M' ho H locs ls hP hD hS hl => k a M' ho H locs ls hP hD hS (lv_sub hl ks h)

theorem WO.iconst (hA : Act v w own Ts cc nL ret) {c : Int} {x : Int32} (hd : decode cc pc = .ok (.iconst c, 1)) (hv : Int32.ofInt c = x) (hn : pc + 1 = n) (k : WO v w rm nL enc o n lv (.int x :: st) M) : WO v w rm nL enc o pc lv st M := by
  subst hn
  intro a M' ho H locs ls hP hD hS hl
  exact lv_iconst hA.1 hA.2.1 hd hv (k a M' ho H locs ls hP hD hS hl)
theorem WO.bipush (hA : Act v w own Ts cc nL ret) {c : Int} {x : Int32} (hd : decode cc pc = .ok (.bipush c, 2)) (hv : (Int8.ofInt c).toInt32 = x) (hn : pc + 2 = n) (k : WO v w rm nL enc o n lv (.int x :: st) M) : WO v w rm nL enc o pc lv st M := by
  subst hn
  intro a M' ho H locs ls hP hD hS hl
  exact lv_bipush hA.1 hA.2.1 hd hv (k a M' ho H locs ls hP hD hS hl)
theorem WO.sipush (hA : Act v w own Ts cc nL ret) {c : Int} {x : Int32} (hd : decode cc pc = .ok (.sipush c, 3)) (hv : (Int16.ofInt c).toInt32 = x) (hn : pc + 3 = n) (k : WO v w rm nL enc o n lv (.int x :: st) M) : WO v w rm nL enc o pc lv st M := by
  subst hn
  intro a M' ho H locs ls hP hD hS hl
  exact lv_sipush hA.1 hA.2.1 hd hv (k a M' ho H locs ls hP hD hS hl)
theorem WO.lconst (hA : Act v w own Ts cc nL ret) {c : Fin 2} {x : Int64} (hd : decode cc pc = .ok (.lconst c, 1)) (hv : Int64.ofNat (c : Nat) = x) (hn : pc + 1 = n) (k : WO v w rm nL enc o n lv (.long x :: st) M) : WO v w rm nL enc o pc lv st M := by
  subst hn
  intro a M' ho H locs ls hP hD hS hl
  exact lv_lconst hA.1 hA.2.1 hd hv (k a M' ho H locs ls hP hD hS hl)
theorem WO.iload_n (hA : Act v w own Ts cc nL ret) {c : Fin 4} {x : Int32} (hd : decode cc pc = .ok (.iload_n c, 1)) (q : Nat) (hq : lv[q]? = some ((c : Nat), .int x)) (hn : pc + 1 = n) (k : WO v w rm nL enc o n lv (.int x :: st) M) : WO v w rm nL enc o pc lv st M := by
  subst hn
  intro a M' ho H locs ls hP hD hS hl
  exact lv_iload_n hA.1 hA.2.1 hd rfl (lv_at hl q hq) (k a M' ho H locs ls hP hD hS hl)
theorem WO.iload (hA : Act v w own Ts cc nL ret) {i : Nat} {x : Int32} (hd : decode cc pc = .ok (.iload i, 2)) (q : Nat) (hq : lv[q]? = some (i, .int x)) (hn : pc + 2 = n) (k : WO v w rm nL enc o n lv (.int x :: st) M) : WO v w rm nL enc o pc lv st M := by
  subst hn
  intro a M' ho H locs ls hP hD hS hl
  exact lv_iload hA.1 hA.2.1 hd (lv_at hl q hq) (k a M' ho H locs ls hP hD hS hl)
theorem WO.istore_n (hA : Act v w own Ts cc nL ret) {c : Fin 4} {i : Nat} {x : Int32} {lv' : List (Nat × Value)} (hd : decode cc pc = .ok (.istore_n c, 1)) (hi : (c : Nat) = i) (hi2 : i < nL) (hl' : (i, Value.int x) :: lv.filter (fun q => !(q.1 == i) && !(q.1 + 1 == i && q.2.category == 2)) = lv') (hn : pc + 1 = n) (k : WO v w rm nL enc o n lv' st M) : WO v w rm nL enc o pc lv (.int x :: st) M := by
  subst hn
  intro a M' ho H locs ls hP hD hS hl
  exact lv_istore_n hA.1 hA.2.1 hd hi hl hi2 hl' (fun ls' hls => k a M' ho H locs ls' hP hD hS hls)
theorem WO.istore (hA : Act v w own Ts cc nL ret) {i : Nat} {x : Int32} {lv' : List (Nat × Value)} (hd : decode cc pc = .ok (.istore i, 2)) (hi2 : i < nL) (hl' : (i, Value.int x) :: lv.filter (fun q => !(q.1 == i) && !(q.1 + 1 == i && q.2.category == 2)) = lv') (hn : pc + 2 = n) (k : WO v w rm nL enc o n lv' st M) : WO v w rm nL enc o pc lv (.int x :: st) M := by
  subst hn
  intro a M' ho H locs ls hP hD hS hl
  exact lv_istore hA.1 hA.2.1 hd hl hi2 hl' (fun ls' hls => k a M' ho H locs ls' hP hD hS hls)
theorem WO.lload_n (hA : Act v w own Ts cc nL ret) {c : Fin 4} {x : Int64} (hd : decode cc pc = .ok (.lload_n c, 1)) (q : Nat) (hq : lv[q]? = some ((c : Nat), .long x)) (hn : pc + 1 = n) (k : WO v w rm nL enc o n lv (.long x :: st) M) : WO v w rm nL enc o pc lv st M := by
  subst hn
  intro a M' ho H locs ls hP hD hS hl
  exact lv_lload_n hA.1 hA.2.1 hd rfl (lv_at hl q hq) (k a M' ho H locs ls hP hD hS hl)
theorem WO.lload (hA : Act v w own Ts cc nL ret) {i : Nat} {x : Int64} (hd : decode cc pc = .ok (.lload i, 2)) (q : Nat) (hq : lv[q]? = some (i, .long x)) (hn : pc + 2 = n) (k : WO v w rm nL enc o n lv (.long x :: st) M) : WO v w rm nL enc o pc lv st M := by
  subst hn
  intro a M' ho H locs ls hP hD hS hl
  exact lv_lload hA.1 hA.2.1 hd (lv_at hl q hq) (k a M' ho H locs ls hP hD hS hl)
theorem WO.lstore_n (hA : Act v w own Ts cc nL ret) {c : Fin 4} {i : Nat} {x : Int64} {lv' : List (Nat × Value)} (hd : decode cc pc = .ok (.lstore_n c, 1)) (hi : (c : Nat) = i) (hi2 : i + 1 < nL) (hl' : (i, Value.long x) :: lv.filter (fun q => !(q.1 == i) && (!(q.1 == i + 1) && !(q.1 + 1 == i && q.2.category == 2))) = lv') (hn : pc + 1 = n) (k : WO v w rm nL enc o n lv' st M) : WO v w rm nL enc o pc lv (.long x :: st) M := by
  subst hn
  intro a M' ho H locs ls hP hD hS hl
  exact lv_lstore_n hA.1 hA.2.1 hd hi hl hi2 hl' (fun ls' hls => k a M' ho H locs ls' hP hD hS hls)
theorem WO.lstore (hA : Act v w own Ts cc nL ret) {i : Nat} {x : Int64} {lv' : List (Nat × Value)} (hd : decode cc pc = .ok (.lstore i, 2)) (hi2 : i + 1 < nL) (hl' : (i, Value.long x) :: lv.filter (fun q => !(q.1 == i) && (!(q.1 == i + 1) && !(q.1 + 1 == i && q.2.category == 2))) = lv') (hn : pc + 2 = n) (k : WO v w rm nL enc o n lv' st M) : WO v w rm nL enc o pc lv (.long x :: st) M := by
  subst hn
  intro a M' ho H locs ls hP hD hS hl
  exact lv_lstore hA.1 hA.2.1 hd hl hi2 hl' (fun ls' hls => k a M' ho H locs ls' hP hD hS hls)
theorem WO.aload_n (hA : Act v w own Ts cc nL ret) {c : Fin 4} {x : Nat} (hd : decode cc pc = .ok (.aload_n c, 1)) (q : Nat) (hq : lv[q]? = some ((c : Nat), .ref x)) (hn : pc + 1 = n) (k : WO v w rm nL enc o n lv (.ref x :: st) M) : WO v w rm nL enc o pc lv st M := by
  subst hn
  intro a M' ho H locs ls hP hD hS hl
  exact lv_aload_n hA.1 hA.2.1 hd rfl (lv_at hl q hq) (k a M' ho H locs ls hP hD hS hl)
theorem WO.aload (hA : Act v w own Ts cc nL ret) {i : Nat} {x : Nat} (hd : decode cc pc = .ok (.aload i, 2)) (q : Nat) (hq : lv[q]? = some (i, .ref x)) (hn : pc + 2 = n) (k : WO v w rm nL enc o n lv (.ref x :: st) M) : WO v w rm nL enc o pc lv st M := by
  subst hn
  intro a M' ho H locs ls hP hD hS hl
  exact lv_aload hA.1 hA.2.1 hd (lv_at hl q hq) (k a M' ho H locs ls hP hD hS hl)
theorem WO.astore_n (hA : Act v w own Ts cc nL ret) {c : Fin 4} {i : Nat} {x : Nat} {lv' : List (Nat × Value)} (hd : decode cc pc = .ok (.astore_n c, 1)) (hi : (c : Nat) = i) (hi2 : i < nL) (hl' : (i, Value.ref x) :: lv.filter (fun q => !(q.1 == i) && !(q.1 + 1 == i && q.2.category == 2)) = lv') (hn : pc + 1 = n) (k : WO v w rm nL enc o n lv' st M) : WO v w rm nL enc o pc lv (.ref x :: st) M := by
  subst hn
  intro a M' ho H locs ls hP hD hS hl
  exact lv_astore_n hA.1 hA.2.1 hd hi hl hi2 hl' (fun ls' hls => k a M' ho H locs ls' hP hD hS hls)
theorem WO.astore (hA : Act v w own Ts cc nL ret) {i : Nat} {x : Nat} {lv' : List (Nat × Value)} (hd : decode cc pc = .ok (.astore i, 2)) (hi2 : i < nL) (hl' : (i, Value.ref x) :: lv.filter (fun q => !(q.1 == i) && !(q.1 + 1 == i && q.2.category == 2)) = lv') (hn : pc + 2 = n) (k : WO v w rm nL enc o n lv' st M) : WO v w rm nL enc o pc lv (.ref x :: st) M := by
  subst hn
  intro a M' ho H locs ls hP hD hS hl
  exact lv_astore hA.1 hA.2.1 hd hl hi2 hl' (fun ls' hls => k a M' ho H locs ls' hP hD hS hls)
theorem WO.iinc (hA : Act v w own Ts cc nL ret) {i : Nat} {c : Int} {x y : Int32} {lv' : List (Nat × Value)} (hd : decode cc pc = .ok (.iinc i c, 3)) (q : Nat) (hq : lv[q]? = some (i, .int x)) (hc : Int32.ofInt c = y) (hi2 : i < nL) (hl' : (i, Value.int (x + y)) :: lv.filter (fun q => !(q.1 == i) && !(q.1 + 1 == i && q.2.category == 2)) = lv') (hn : pc + 3 = n) (k : WO v w rm nL enc o n lv' st M) : WO v w rm nL enc o pc lv st M := by
  subst hn
  subst hc
  intro a M' ho H locs ls hP hD hS hl
  exact lv_iinc hA.1 hA.2.1 hd hl hq rfl hi2 hl' (fun ls' hls => k a M' ho H locs ls' hP hD hS hls)
theorem WO.iadd (hA : Act v w own Ts cc nL ret) {x y : Int32} (hd : decode cc pc = .ok (.iadd, 1)) (hn : pc + 1 = n) (k : WO v w rm nL enc o n lv (.int (x + y) :: st) M) : WO v w rm nL enc o pc lv (.int y :: .int x :: st) M := by
  subst hn
  intro a M' ho H locs ls hP hD hS hl
  exact lv_iadd hA.1 hA.2.1 hd (k a M' ho H locs ls hP hD hS hl)
theorem WO.isub (hA : Act v w own Ts cc nL ret) {x y : Int32} (hd : decode cc pc = .ok (.isub, 1)) (hn : pc + 1 = n) (k : WO v w rm nL enc o n lv (.int (x - y) :: st) M) : WO v w rm nL enc o pc lv (.int y :: .int x :: st) M := by
  subst hn
  intro a M' ho H locs ls hP hD hS hl
  exact lv_isub hA.1 hA.2.1 hd (k a M' ho H locs ls hP hD hS hl)
theorem WO.imul (hA : Act v w own Ts cc nL ret) {x y : Int32} (hd : decode cc pc = .ok (.imul, 1)) (hn : pc + 1 = n) (k : WO v w rm nL enc o n lv (.int (x * y) :: st) M) : WO v w rm nL enc o pc lv (.int y :: .int x :: st) M := by
  subst hn
  intro a M' ho H locs ls hP hD hS hl
  exact lv_imul hA.1 hA.2.1 hd (k a M' ho H locs ls hP hD hS hl)
theorem WO.iand (hA : Act v w own Ts cc nL ret) {x y : Int32} (hd : decode cc pc = .ok (.iand, 1)) (hn : pc + 1 = n) (k : WO v w rm nL enc o n lv (.int (x &&& y) :: st) M) : WO v w rm nL enc o pc lv (.int y :: .int x :: st) M := by
  subst hn
  intro a M' ho H locs ls hP hD hS hl
  exact lv_iand hA.1 hA.2.1 hd (k a M' ho H locs ls hP hD hS hl)
theorem WO.ior (hA : Act v w own Ts cc nL ret) {x y : Int32} (hd : decode cc pc = .ok (.ior, 1)) (hn : pc + 1 = n) (k : WO v w rm nL enc o n lv (.int (x ||| y) :: st) M) : WO v w rm nL enc o pc lv (.int y :: .int x :: st) M := by
  subst hn
  intro a M' ho H locs ls hP hD hS hl
  exact lv_ior hA.1 hA.2.1 hd (k a M' ho H locs ls hP hD hS hl)
theorem WO.ixor (hA : Act v w own Ts cc nL ret) {x y : Int32} (hd : decode cc pc = .ok (.ixor, 1)) (hn : pc + 1 = n) (k : WO v w rm nL enc o n lv (.int (x ^^^ y) :: st) M) : WO v w rm nL enc o pc lv (.int y :: .int x :: st) M := by
  subst hn
  intro a M' ho H locs ls hP hD hS hl
  exact lv_ixor hA.1 hA.2.1 hd (k a M' ho H locs ls hP hD hS hl)
theorem WO.ishl (hA : Act v w own Ts cc nL ret) {x y : Int32} (hd : decode cc pc = .ok (.ishl, 1)) (hn : pc + 1 = n) (k : WO v w rm nL enc o n lv (.int (x <<< (y &&& 31)) :: st) M) : WO v w rm nL enc o pc lv (.int y :: .int x :: st) M := by
  subst hn
  intro a M' ho H locs ls hP hD hS hl
  exact lv_ishl hA.1 hA.2.1 hd (k a M' ho H locs ls hP hD hS hl)
theorem WO.ishr (hA : Act v w own Ts cc nL ret) {x y : Int32} (hd : decode cc pc = .ok (.ishr, 1)) (hn : pc + 1 = n) (k : WO v w rm nL enc o n lv (.int (x >>> (y &&& 31)) :: st) M) : WO v w rm nL enc o pc lv (.int y :: .int x :: st) M := by
  subst hn
  intro a M' ho H locs ls hP hD hS hl
  exact lv_ishr hA.1 hA.2.1 hd (k a M' ho H locs ls hP hD hS hl)
theorem WO.iushr (hA : Act v w own Ts cc nL ret) {x y : Int32} (hd : decode cc pc = .ok (.iushr, 1)) (hn : pc + 1 = n) (k : WO v w rm nL enc o n lv (.int ((x.toUInt32 >>> (y.toUInt32 &&& Int32.toUInt32 31)).toInt32) :: st) M) : WO v w rm nL enc o pc lv (.int y :: .int x :: st) M := by
  subst hn
  intro a M' ho H locs ls hP hD hS hl
  exact lv_iushr hA.1 hA.2.1 hd rfl (k a M' ho H locs ls hP hD hS hl)
theorem WO.idivc (hA : Act v w own Ts cc nL ret) {x y : Int32} (hd : decode cc pc = .ok (.idiv, 1)) (hy : ¬ y = 0) (hn : pc + 1 = n) (k : WO v w rm nL enc o n lv (.int (x / y) :: st) M) : WO v w rm nL enc o pc lv (.int y :: .int x :: st) M := by
  subst hn
  intro a M' ho H locs ls hP hD hS hl
  exact lv_idiv hA.1 hA.2.1 hd hy (k a M' ho H locs ls hP hD hS hl)
theorem WO.iremc (hA : Act v w own Ts cc nL ret) {x y : Int32} (hd : decode cc pc = .ok (.irem, 1)) (hy : ¬ y = 0) (hn : pc + 1 = n) (k : WO v w rm nL enc o n lv (.int (x - x / y * y) :: st) M) : WO v w rm nL enc o pc lv (.int y :: .int x :: st) M := by
  subst hn
  intro a M' ho H locs ls hP hD hS hl
  exact lv_irem hA.1 hA.2.1 hd hy (k a M' ho H locs ls hP hD hS hl)
theorem WO.idiv (hA : Act v w own Ts cc nL ret) {x y : Int32} (hd : decode cc pc = .ok (.idiv, 1)) (hn : pc + 1 = n) (k : WO v w rm nL enc o n lv (.int (x / y) :: st) M) : WO v w rm nL enc (dvc y o) pc lv (.int y :: .int x :: st) M := by
  subst hn
  intro a M' ho H locs ls hP hD hS hl
  unfold dvc at ho
  by_cases hy : y = 0
  · rw [if_pos hy] at ho; cases ho
  · rw [if_neg hy] at ho
    exact lv_idiv hA.1 hA.2.1 hd hy (k a M' ho H locs ls hP hD hS hl)
theorem WO.irem (hA : Act v w own Ts cc nL ret) {x y : Int32} (hd : decode cc pc = .ok (.irem, 1)) (hn : pc + 1 = n) (k : WO v w rm nL enc o n lv (.int (x - x / y * y) :: st) M) : WO v w rm nL enc (dvc y o) pc lv (.int y :: .int x :: st) M := by
  subst hn
  intro a M' ho H locs ls hP hD hS hl
  unfold dvc at ho
  by_cases hy : y = 0
  · rw [if_pos hy] at ho; cases ho
  · rw [if_neg hy] at ho
    exact lv_irem hA.1 hA.2.1 hd hy (k a M' ho H locs ls hP hD hS hl)
theorem WO.ldiv (hA : Act v w own Ts cc nL ret) {x y : Int64} (hd : decode cc pc = .ok (.ldiv, 1)) (hn : pc + 1 = n) (k : WO v w rm nL enc o n lv (.long (x / y) :: st) M) : WO v w rm nL enc (dvcl y o) pc lv (.long y :: .long x :: st) M := by
  subst hn
  intro a M' ho H locs ls hP hD hS hl
  unfold dvcl at ho
  by_cases hy : y = 0
  · rw [if_pos hy] at ho; cases ho
  · rw [if_neg hy] at ho
    exact lv_ldiv hA.1 hA.2.1 hd hy (k a M' ho H locs ls hP hD hS hl)
theorem WO.lrem (hA : Act v w own Ts cc nL ret) {x y : Int64} (hd : decode cc pc = .ok (.lrem, 1)) (hn : pc + 1 = n) (k : WO v w rm nL enc o n lv (.long (x - x / y * y) :: st) M) : WO v w rm nL enc (dvcl y o) pc lv (.long y :: .long x :: st) M := by
  subst hn
  intro a M' ho H locs ls hP hD hS hl
  unfold dvcl at ho
  by_cases hy : y = 0
  · rw [if_pos hy] at ho; cases ho
  · rw [if_neg hy] at ho
    exact lv_lrem hA.1 hA.2.1 hd hy (k a M' ho H locs ls hP hD hS hl)
theorem WO.i2l (hA : Act v w own Ts cc nL ret) {x : Int32} (hd : decode cc pc = .ok (.i2l, 1)) (hn : pc + 1 = n) (k : WO v w rm nL enc o n lv (.long x.toInt64 :: st) M) : WO v w rm nL enc o pc lv (.int x :: st) M := by
  subst hn
  intro a M' ho H locs ls hP hD hS hl
  exact lv_i2l hA.1 hA.2.1 hd rfl (k a M' ho H locs ls hP hD hS hl)
theorem WO.i2b (hA : Act v w own Ts cc nL ret) {x : Int32} (hd : decode cc pc = .ok (.i2b, 1)) (hn : pc + 1 = n) (k : WO v w rm nL enc o n lv (.int x.toInt8.toInt32 :: st) M) : WO v w rm nL enc o pc lv (.int x :: st) M := by
  subst hn
  intro a M' ho H locs ls hP hD hS hl
  exact lv_i2b hA.1 hA.2.1 hd rfl (k a M' ho H locs ls hP hD hS hl)
theorem WO.i2s (hA : Act v w own Ts cc nL ret) {x : Int32} (hd : decode cc pc = .ok (.i2s, 1)) (hn : pc + 1 = n) (k : WO v w rm nL enc o n lv (.int x.toInt16.toInt32 :: st) M) : WO v w rm nL enc o pc lv (.int x :: st) M := by
  subst hn
  intro a M' ho H locs ls hP hD hS hl
  exact lv_i2s hA.1 hA.2.1 hd rfl (k a M' ho H locs ls hP hD hS hl)
theorem WO.lcmp (hA : Act v w own Ts cc nL ret) {x y : Int64} (hd : decode cc pc = .ok (.lcmp, 1)) (hn : pc + 1 = n) (k : WO v w rm nL enc o n lv (.int (lg_cmp x y) :: st) M) : WO v w rm nL enc o pc lv (.long y :: .long x :: st) M := by
  subst hn
  intro a M' ho H locs ls hP hD hS hl
  exact W.lcmp hA.1 hA.2.1 hd (k a M' ho H locs ls hP hD hS hl)
theorem WO.pop (hA : Act v w own Ts cc nL ret) {x : Value} (hd : decode cc pc = .ok (.pop, 1)) (hx : x.category = 1) (hn : pc + 1 = n) (k : WO v w rm nL enc o n lv st M) : WO v w rm nL enc o pc lv (x :: st) M := by
  subst hn
  intro a M' ho H locs ls hP hD hS hl
  exact lv_pop hA.1 hA.2.1 hd hx (k a M' ho H locs ls hP hD hS hl)
theorem WO.dup (hA : Act v w own Ts cc nL ret) {x : Value} (hd : decode cc pc = .ok (.dup, 1)) (hx : x.category = 1) (hn : pc + 1 = n) (k : WO v w rm nL enc o n lv (x :: x :: st) M) : WO v w rm nL enc o pc lv (x :: st) M := by
  subst hn
  intro a M' ho H locs ls hP hD hS hl
  exact lv_dup hA.1 hA.2.1 hd hx (k a M' ho H locs ls hP hD hS hl)
theorem WO.dup2 (hA : Act v w own Ts cc nL ret) {x y : Value} (hd : decode cc pc = .ok (.dup2, 1)) (hx : x.category = 1) (hy : y.category = 1) (hn : pc + 1 = n) (k : WO v w rm nL enc o n lv (x :: y :: x :: y :: st) M) : WO v w rm nL enc o pc lv (x :: y :: st) M := by
  subst hn
  intro a M' ho H locs ls hP hD hS hl
  exact lv_dup2_11 hA.1 hA.2.1 hd hx hy (k a M' ho H locs ls hP hD hS hl)
theorem WO.dup_x1 (hA : Act v w own Ts cc nL ret) {x y : Value} (hd : decode cc pc = .ok (.dup_x1, 1)) (hx : x.category = 1) (hy : y.category = 1) (hn : pc + 1 = n) (k : WO v w rm nL enc o n lv (x :: y :: x :: st) M) : WO v w rm nL enc o pc lv (x :: y :: st) M := by
  subst hn
  intro a M' ho H locs ls hP hD hS hl
  exact lv_dup_x1 hA.1 hA.2.1 hd hx hy (k a M' ho H locs ls hP hD hS hl)
theorem WO.goto (hA : Act v w own Ts cc nL ret) {off : Int} (hd : decode cc pc = .ok (.goto off, 3)) (ht : (pc : Int) + off = (n : Int)) (k : WO v w rm nL enc o n lv st M) : WO v w rm nL enc o pc lv st M := by
  intro a M' ho H locs ls hP hD hS hl
  exact lv_goto hA.1 hA.2.1 hd ht (k a M' ho H locs ls hP hD hS hl)
theorem WO.if_eq (hA : Act v w own Ts cc nL ret) {x : Int32} {off : Int} {tg : Nat} (hd : decode cc pc = .ok (.ifCond .eq off, 3)) (ht : (pc : Int) + off = (tg : Int)) (hn : pc + 3 = n) (k1 : x = 0 → WO v w rm nL enc oa tg lv st M) (k2 : ¬ (x = 0) → WO v w rm nL enc ob n lv st M) : WO v w rm nL enc (if x = 0 then oa else ob) pc lv (.int x :: st) M := by
  subst hn
  intro a M' ho H locs ls hP hD hS hl
  exact lv_if_eq hA.1 hA.2.1 hd ht (fun h => k1 h a M' (by rw [if_pos h] at ho; exact ho) H locs ls hP hD hS hl) (fun h => k2 h a M' (by rw [if_neg h] at ho; exact ho) H locs ls hP hD hS hl)
theorem WO.icmp_eq (hA : Act v w own Ts cc nL ret) {x y : Int32} {off : Int} {tg : Nat} (hd : decode cc pc = .ok (.if_icmp .eq off, 3)) (ht : (pc : Int) + off = (tg : Int)) (hn : pc + 3 = n) (k1 : x = y → WO v w rm nL enc oa tg lv st M) (k2 : ¬ (x = y) → WO v w rm nL enc ob n lv st M) : WO v w rm nL enc (if x = y then oa else ob) pc lv (.int y :: .int x :: st) M := by
  subst hn
  intro a M' ho H locs ls hP hD hS hl
  exact lv_icmp_eq hA.1 hA.2.1 hd ht (fun h => k1 h a M' (by rw [if_pos h] at ho; exact ho) H locs ls hP hD hS hl) (fun h => k2 h a M' (by rw [if_neg h] at ho; exact ho) H locs ls hP hD hS hl)
theorem WO.if_ne (hA : Act v w own Ts cc nL ret) {x : Int32} {off : Int} {tg : Nat} (hd : decode cc pc = .ok (.ifCond .ne off, 3)) (ht : (pc : Int) + off = (tg : Int)) (hn : pc + 3 = n) (k1 : x = 0 → WO v w rm nL enc oa n lv st M) (k2 : ¬ (x = 0) → WO v w rm nL enc ob tg lv st M) : WO v w rm nL enc (if x = 0 then oa else ob) pc lv (.int x :: st) M := by
  subst hn
  intro a M' ho H locs ls hP hD hS hl
  exact lv_if_ne hA.1 hA.2.1 hd ht (fun h => k2 h a M' (by rw [if_neg h] at ho; exact ho) H locs ls hP hD hS hl) (fun h => k1 h a M' (by rw [if_pos h] at ho; exact ho) H locs ls hP hD hS hl)
theorem WO.icmp_ne (hA : Act v w own Ts cc nL ret) {x y : Int32} {off : Int} {tg : Nat} (hd : decode cc pc = .ok (.if_icmp .ne off, 3)) (ht : (pc : Int) + off = (tg : Int)) (hn : pc + 3 = n) (k1 : x = y → WO v w rm nL enc oa n lv st M) (k2 : ¬ (x = y) → WO v w rm nL enc ob tg lv st M) : WO v w rm nL enc (if x = y then oa else ob) pc lv (.int y :: .int x :: st) M := by
  subst hn
  intro a M' ho H locs ls hP hD hS hl
  exact lv_icmp_ne hA.1 hA.2.1 hd ht (fun h => k2 h a M' (by rw [if_neg h] at ho; exact ho) H locs ls hP hD hS hl) (fun h => k1 h a M' (by rw [if_pos h] at ho; exact ho) H locs ls hP hD hS hl)
theorem WO.if_lt (hA : Act v w own Ts cc nL ret) {x : Int32} {off : Int} {tg : Nat} (hd : decode cc pc = .ok (.ifCond .lt off, 3)) (ht : (pc : Int) + off = (tg : Int)) (hn : pc + 3 = n) (k1 : x < 0 → WO v w rm nL enc oa tg lv st M) (k2 : ¬ (x < 0) → WO v w rm nL enc ob n lv st M) : WO v w rm nL enc (if x < 0 then oa else ob) pc lv (.int x :: st) M := by
  subst hn
  intro a M' ho H locs ls hP hD hS hl
  exact lv_if_lt hA.1 hA.2.1 hd ht (fun h => k1 h a M' (by rw [if_pos h] at ho; exact ho) H locs ls hP hD hS hl) (fun h => k2 h a M' (by rw [if_neg h] at ho; exact ho) H locs ls hP hD hS hl)
theorem WO.icmp_lt (hA : Act v w own Ts cc nL ret) {x y : Int32} {off : Int} {tg : Nat} (hd : decode cc pc = .ok (.if_icmp .lt off, 3)) (ht : (pc : Int) + off = (tg : Int)) (hn : pc + 3 = n) (k1 : x < y → WO v w rm nL enc oa tg lv st M) (k2 : ¬ (x < y) → WO v w rm nL enc ob n lv st M) : WO v w rm nL enc (if x < y then oa else ob) pc lv (.int y :: .int x :: st) M := by
  subst hn
  intro a M' ho H locs ls hP hD hS hl
  exact lv_icmp_lt hA.1 hA.2.1 hd ht (fun h => k1 h a M' (by rw [if_pos h] at ho; exact ho) H locs ls hP hD hS hl) (fun h => k2 h a M' (by rw [if_neg h] at ho; exact ho) H locs ls hP hD hS hl)
theorem WO.if_ge (hA : Act v w own Ts cc nL ret) {x : Int32} {off : Int} {tg : Nat} (hd : decode cc pc = .ok (.ifCond .ge off, 3)) (ht : (pc : Int) + off = (tg : Int)) (hn : pc + 3 = n) (k1 : 0 ≤ x → WO v w rm nL enc oa tg lv st M) (k2 : ¬ (0 ≤ x) → WO v w rm nL enc ob n lv st M) : WO v w rm nL enc (if 0 ≤ x then oa else ob) pc lv (.int x :: st) M := by
  subst hn
  intro a M' ho H locs ls hP hD hS hl
  exact lv_if_ge hA.1 hA.2.1 hd ht (fun h => k1 h a M' (by rw [if_pos h] at ho; exact ho) H locs ls hP hD hS hl) (fun h => k2 h a M' (by rw [if_neg h] at ho; exact ho) H locs ls hP hD hS hl)
theorem WO.icmp_ge (hA : Act v w own Ts cc nL ret) {x y : Int32} {off : Int} {tg : Nat} (hd : decode cc pc = .ok (.if_icmp .ge off, 3)) (ht : (pc : Int) + off = (tg : Int)) (hn : pc + 3 = n) (k1 : y ≤ x → WO v w rm nL enc oa tg lv st M) (k2 : ¬ (y ≤ x) → WO v w rm nL enc ob n lv st M) : WO v w rm nL enc (if y ≤ x then oa else ob) pc lv (.int y :: .int x :: st) M := by
  subst hn
  intro a M' ho H locs ls hP hD hS hl
  exact lv_icmp_ge hA.1 hA.2.1 hd ht (fun h => k1 h a M' (by rw [if_pos h] at ho; exact ho) H locs ls hP hD hS hl) (fun h => k2 h a M' (by rw [if_neg h] at ho; exact ho) H locs ls hP hD hS hl)
theorem WO.if_gt (hA : Act v w own Ts cc nL ret) {x : Int32} {off : Int} {tg : Nat} (hd : decode cc pc = .ok (.ifCond .gt off, 3)) (ht : (pc : Int) + off = (tg : Int)) (hn : pc + 3 = n) (k1 : 0 < x → WO v w rm nL enc oa tg lv st M) (k2 : ¬ (0 < x) → WO v w rm nL enc ob n lv st M) : WO v w rm nL enc (if 0 < x then oa else ob) pc lv (.int x :: st) M := by
  subst hn
  intro a M' ho H locs ls hP hD hS hl
  exact lv_if_gt hA.1 hA.2.1 hd ht (fun h => k1 h a M' (by rw [if_pos h] at ho; exact ho) H locs ls hP hD hS hl) (fun h => k2 h a M' (by rw [if_neg h] at ho; exact ho) H locs ls hP hD hS hl)
theorem WO.icmp_gt (hA : Act v w own Ts cc nL ret) {x y : Int32} {off : Int} {tg : Nat} (hd : decode cc pc = .ok (.if_icmp .gt off, 3)) (ht : (pc : Int) + off = (tg : Int)) (hn : pc + 3 = n) (k1 : y < x → WO v w rm nL enc oa tg lv st M) (k2 : ¬ (y < x) → WO v w rm nL enc ob n lv st M) : WO v w rm nL enc (if y < x then oa else ob) pc lv (.int y :: .int x :: st) M := by
  subst hn
  intro a M' ho H locs ls hP hD hS hl
  exact lv_icmp_gt hA.1 hA.2.1 hd ht (fun h => k1 h a M' (by rw [if_pos h] at ho; exact ho) H locs ls hP hD hS hl) (fun h => k2 h a M' (by rw [if_neg h] at ho; exact ho) H locs ls hP hD hS hl)
theorem WO.if_le (hA : Act v w own Ts cc nL ret) {x : Int32} {off : Int} {tg : Nat} (hd : decode cc pc = .ok (.ifCond .le off, 3)) (ht : (pc : Int) + off = (tg : Int)) (hn : pc + 3 = n) (k1 : x ≤ 0 → WO v w rm nL enc oa tg lv st M) (k2 : ¬ (x ≤ 0) → WO v w rm nL enc ob n lv st M) : WO v w rm nL enc (if x ≤ 0 then oa else ob) pc lv (.int x :: st) M := by
  subst hn
  intro a M' ho H locs ls hP hD hS hl
  exact lv_if_le hA.1 hA.2.1 hd ht (fun h => k1 h a M' (by rw [if_pos h] at ho; exact ho) H locs ls hP hD hS hl) (fun h => k2 h a M' (by rw [if_neg h] at ho; exact ho) H locs ls hP hD hS hl)
theorem WO.icmp_le (hA : Act v w own Ts cc nL ret) {x y : Int32} {off : Int} {tg : Nat} (hd : decode cc pc = .ok (.if_icmp .le off, 3)) (ht : (pc : Int) + off = (tg : Int)) (hn : pc + 3 = n) (k1 : x ≤ y → WO v w rm nL enc oa tg lv st M) (k2 : ¬ (x ≤ y) → WO v w rm nL enc ob n lv st M) : WO v w rm nL enc (if x ≤ y then oa else ob) pc lv (.int y :: .int x :: st) M := by
  subst hn
  intro a M' ho H locs ls hP hD hS hl
  exact lv_icmp_le hA.1 hA.2.1 hd ht (fun h => k1 h a M' (by rw [if_pos h] at ho; exact ho) H locs ls hP hD hS hl) (fun h => k2 h a M' (by rw [if_neg h] at ho; exact ho) H locs ls hP hD hS hl)
theorem WO.ldcw (hA : Act v w own Ts cc nL ret) {i : Nat} {x : Int32} (hc : Jvm.Cond.constant own i x ∈ Ts) (hd : decode cc pc = .ok (.ldc_w i, 3)) (hn : pc + 3 = n) (k : WO v w rm nL enc o n lv (.int x :: st) M) : WO v w rm nL enc o pc lv st M := by
  subst hn
  intro a M' ho H locs ls hP hD hS hl
  exact lv_ldcw hA.1 hA.2.1 hA.2.2.2.2.2.1 (hA.2.2.2.2.2.2.1 _ hc) hd (k a M' ho H locs ls hP hD hS hl)
theorem WO.ldc2 (hA : Act v w own Ts cc nL ret) {i : Nat} {x : Int64} (hc : Jvm.Cond.constantLong own i x ∈ Ts) (hd : decode cc pc = .ok (.ldc2_w i, 3)) (hn : pc + 3 = n) (k : WO v w rm nL enc o n lv (.long x :: st) M) : WO v w rm nL enc o pc lv st M := by
  subst hn
  intro a M' ho H locs ls hP hD hS hl
  exact lv_ldc2 hA.1 hA.2.1 hA.2.2.2.2.2.1 (hA.2.2.2.2.2.2.1 _ hc) hd (k a M' ho H locs ls hP hD hS hl)
/-- getfield of an int field -/
theorem WO.getI (hA : Act v w own Ts cc nL ret) {C : String} {T : u_T} {N ci i r j : Nat} {fl : List (Option Nat)} (hs : w.2.2.2.2.2[r]? = some (.inl (ci, fl))) (hc : vwCl[ci]? = some (C, T, N)) (hin : ∀ q ∈ u_ws C T N, q ∈ Ts) (hj : j < N) (hf : fl[j]? = some none) (hlk : Cond.fieldLink own i (T j).1 (T j).2.1 (T j).2.2.1 ∈ Ts) (hd : decode cc pc = .ok (.getfield i, 3)) (hn : pc + 3 = n) (k : WO v w rm nL enc o n lv (.int (M r j) :: st) M) : WO v w rm nL enc o pc lv (.ref (w.2.1 r) :: st) M := by
  subst hn
  intro a M' ho H locs ls hP hD hS hl
  exact va_get (D := w.1) (ci := ci) (C := C) (T := T) (N := N) hA.1 hA.2.1 hA.2.2.2.2.2.2.1 hin hA.2.2.2.2.2.1 hA.2.2.2.2.2.2.2 hP r (wd_get hs) hc j hj (hA.2.2.2.2.2.2.1 _ hlk) (fun _ h => h) (v := .int (M r j)) (by rw [w_fget, hf]; simp [w_f1]) hd (k a M' ho H locs ls hP hD hS hl)
/-- getfield of a reference -/
theorem WO.getR (hA : Act v w own Ts cc nL ret) {C : String} {T : u_T} {N ci i r j p : Nat} {fl : List (Option Nat)} (hs : w.2.2.2.2.2[r]? = some (.inl (ci, fl))) (hc : vwCl[ci]? = some (C, T, N)) (hin : ∀ q ∈ u_ws C T N, q ∈ Ts) (hj : j < N) (hf : fl[j]? = some (some p)) (hlk : Cond.fieldLink own i (T j).1 (T j).2.1 (T j).2.2.1 ∈ Ts) (hd : decode cc pc = .ok (.getfield i, 3)) (hn : pc + 3 = n) (k : WO v w rm nL enc o n lv (.ref (w.2.1 p) :: st) M) : WO v w rm nL enc o pc lv (.ref (w.2.1 r) :: st) M := by
  subst hn
  intro a M' ho H locs ls hP hD hS hl
  exact va_get (D := w.1) (ci := ci) (C := C) (T := T) (N := N) hA.1 hA.2.1 hA.2.2.2.2.2.2.1 hin hA.2.2.2.2.2.1 hA.2.2.2.2.2.2.2 hP r (wd_get hs) hc j hj (hA.2.2.2.2.2.2.1 _ hlk) (fun _ h => h) (v := .ref (w.2.1 p)) (by rw [w_fget, hf]; simp [w_f1]) hd (k a M' ho H locs ls hP hD hS hl)
theorem wd_put {w : Cw} {M : Mem} {r j ci : Nat} {x : Int32} {fl : List (Option Nat)} (hs : w.2.2.2.2.2[r]? = some (.inl (ci, fl))) (hf : fl[j]? = some none) : (wd w M).set r (w.2.1 r, .inr (ci, (w_fs w.2.1 (M r) 0 fl).set j (.int x))) = wd w (mu M r j x) := by
  rw [← wd_set (M := M) (M' := mu M r j x) hs (fun q hq => mset_ne _ _ hq), w_fset fl 0 j hf]
  congr 1
  show _ = (_, _)
  simp [mu, mset_eq]
theorem wd_arr {w : Cw} {M : Mem} {r t m : Nat} {f : Nat → Int32} (hs : w.2.2.2.2.2[r]? = some (.inr (t, m, none))) : (wd w M).set r (w.2.1 r, .inl (w.2.2.1 t, m, .inl f)) = wd w (mset M r f) := by
  rw [← wd_set (M := M) (M' := mset M r f) hs (fun q hq => mset_ne _ _ hq)]
  congr 1
  show _ = (_, _)
  simp [mset_eq]
/-- putfield of an int -/
theorem WO.putI (hA : Act v w own Ts cc nL ret) {C : String} {T : u_T} {N ci i r j : Nat} {x : Int32} {ty : FieldType} {fl : List (Option Nat)} (hs : w.2.2.2.2.2[r]? = some (.inl (ci, fl))) (hc : vwCl[ci]? = some (C, T, N)) (hin : ∀ q ∈ u_ws C T N, q ∈ Ts) (ty0 : Nat → FieldType) (hty : ∀ k, k < N → parseFieldDescriptor (T k).2.2.1 = some (ty0 k)) (hnm : ∀ a, a < N → ∀ b, b < N → a ≠ b → (T a).2.1 ≠ (T b).2.1) (hj : j < N) (hf : fl[j]? = some none) (hlk : Cond.fieldLink own i (T j).1 (T j).2.1 (T j).2.2.1 ∈ Ts) (hfin : (T j).2.2.2 = false) (ht : ty0 j = ty) (hnr : narrow ty (.int x) = .int x) (hfit : fits ty (.int x) = true) (hd : decode cc pc = .ok (.putfield i, 3)) (hn : pc + 3 = n) (k : WO v w rm nL enc o n lv st (mu M r j x)) : WO v w rm nL enc o pc lv (.int x :: .ref (w.2.1 r) :: st) M := by
  subst hn
  intro a M' ho H locs ls hP hD hS hl
  refine va_put (D := w.1) (ci := ci) (C := C) (T := T) (N := N) hA.1 hA.2.1 hA.2.2.2.2.2.2.1 hin ty0 hty hnm hA.2.2.2.2.2.1 hA.2.2.2.2.2.2.2 hP hD hS r (wd_get hs) hc j hj (hA.2.2.2.2.2.2.1 _ hlk) (fun _ h => h) hfin (by rw [hty j hj, ht]) hnr hfit (by rw [w_flen]; exact (List.getElem?_eq_some_iff.mp hf).1) hd (fun H1 locs1 hP1 hD1 hS1 => ?_)
  rw [wd_put hs hf] at hP1 hD1
  exact k a M' ho H1 locs1 ls hP1 hD1 hS1 hl
theorem grd_some {β : Type} {i : Int32} {m : Nat} {o : Option β} {x : β} (h : grd i m o = some x) : (¬ i < 0 ∧ i.toNatClampNeg < m) ∧ o = some x := by
  unfold grd at h
  by_cases hc : ¬ i < 0 ∧ i.toNatClampNeg < m
  · rw [if_pos hc] at h; exact ⟨hc, h⟩
  · rw [if_neg hc] at h; cases h
theorem grd_in {i : Int32} {m : Nat} (h : ¬ i < 0 ∧ i.toNatClampNeg < m) : vp_in i m := fun q => q.elim h.1 (fun q => Nat.not_le.mpr h.2 q)
theorem WO.iald (hA : Act v w own Ts cc nL ret) {r m : Nat} {i : Int32} (hs : w.2.2.2.2.2[r]? = some (.inr (0, m, none))) (hd : decode cc pc = .ok (.iaload, 1)) (hn : pc + 1 = n) (k : ¬ i < 0 ∧ i.toNatClampNeg < m → WO v w rm nL enc o n lv (.int (M r i.toNatClampNeg) :: st) M) : WO v w rm nL enc (grd i m o) pc lv (.int i :: .ref (w.2.1 r) :: st) M := by
  subst hn
  intro a M' ho H locs ls hP hD hS hl
  obtain ⟨hi, ho⟩ := grd_some ho
  exact va_iald hA.1 hA.2.1 hA.2.2.2.2.2.2.2 hP r 0 (wd_get hs) rfl (grd_in hi) hd (k hi a M' ho H locs ls hP hD hS hl)
theorem WO.zald (hA : Act v w own Ts cc nL ret) {r m : Nat} {i : Int32} (hs : w.2.2.2.2.2[r]? = some (.inr (1, m, none))) (hd : decode cc pc = .ok (.baload, 1)) (hn : pc + 1 = n) (k : ¬ i < 0 ∧ i.toNatClampNeg < m → WO v w rm nL enc o n lv (.int (M r i.toNatClampNeg) :: st) M) : WO v w rm nL enc (grd i m o) pc lv (.int i :: .ref (w.2.1 r) :: st) M := by
  subst hn
  intro a M' ho H locs ls hP hD hS hl
  obtain ⟨hi, ho⟩ := grd_some ho
  exact va_zald hA.1 hA.2.1 hA.2.2.2.2.2.2.2 hP r 1 (wd_get hs) rfl (grd_in hi) hd (k hi a M' ho H locs ls hP hD hS hl)
theorem WO.iast (hA : Act v w own Ts cc nL ret) {r m : Nat} {i x : Int32} (hs : w.2.2.2.2.2[r]? = some (.inr (0, m, none))) (hd : decode cc pc = .ok (.iastore, 1)) (hn : pc + 1 = n) (k : ¬ i < 0 ∧ i.toNatClampNeg < m → WO v w rm nL enc o n lv st (mu M r i.toNatClampNeg x)) : WO v w rm nL enc (grd i m o) pc lv (.int x :: .int i :: .ref (w.2.1 r) :: st) M := by
  subst hn
  intro a M' ho H locs ls hP hD hS hl
  obtain ⟨hi, ho⟩ := grd_some ho
  refine va_iast hA.1 hA.2.1 hA.2.2.2.2.2.2.2 hP hD hS r 0 (wd_get hs) rfl (grd_in hi) hd (fun H1 locs1 hP1 hD1 hS1 => ?_)
  rw [wd_arr hs] at hP1 hD1
  exact k hi a M' ho H1 locs1 ls hP1 hD1 hS1 hl
theorem WO.zast (hA : Act v w own Ts cc nL ret) {r m : Nat} {i x : Int32} (hs : w.2.2.2.2.2[r]? = some (.inr (1, m, none))) (hd : decode cc pc = .ok (.bastore, 1)) (hn : pc + 1 = n) (k : ¬ i < 0 ∧ i.toNatClampNeg < m → WO v w rm nL enc o n lv st (mu M r i.toNatClampNeg (x &&& 1))) : WO v w rm nL enc (grd i m o) pc lv (.int x :: .int i :: .ref (w.2.1 r) :: st) M := by
  subst hn
  intro a M' ho H locs ls hP hD hS hl
  obtain ⟨hi, ho⟩ := grd_some ho
  refine va_zast hA.1 hA.2.1 hA.2.2.2.2.2.2.2 hP hD hS r 1 (wd_get hs) rfl (grd_in hi) hd (fun H1 locs1 hP1 hD1 hS1 => ?_)
  rw [wd_arr hs] at hP1 hD1
  exact k hi a M' ho H1 locs1 ls hP1 hD1 hS1 hl
theorem WO.aald (hA : Act v w own Ts cc nL ret) {r m t : Nat} {g : Nat → Nat} {i : Int32} {ty : FieldType} (hs : w.2.2.2.2.2[r]? = some (.inr (t, m, some g))) (hty : (w_tys w.2.2.1)[t]? = some (w.2.2.1 t, ty)) (hrf : ty.isReference = true) (hd : decode cc pc = .ok (.aaload, 1)) (hn : pc + 1 = n) (k : ¬ i < 0 ∧ i.toNatClampNeg < m → WO v w rm nL enc o n lv (.ref (w.2.1 (g i.toNatClampNeg)) :: st) M) : WO v w rm nL enc (grd i m o) pc lv (.int i :: .ref (w.2.1 r) :: st) M := by
  subst hn
  intro a M' ho H locs ls hP hD hS hl
  obtain ⟨hi, ho⟩ := grd_some ho
  exact W.aald (v := .ref (w.2.1 (g i.toNatClampNeg))) (ty := ty) hA.1 hA.2.1 (hP r _ (wd_get hs)) ((hA.2.2.2.2.2.2.2.2 t _ hty).1 m (fun j => va_rf (some (w.2.1 (g j))))) hrf (fun q => by cases q) (by show ¬ (i < 0 ∨ (arrV _ _ _).slots.size ≤ _); rw [arrV_size]; exact grd_in hi) (by show (arrV _ _ _).slots[_]? = _; rw [arrV_read _ _ hi.2]; rfl) rfl rfl hd (k hi a M' ho H locs ls hP hD hS hl)
theorem WO.alen (hA : Act v w own Ts cc nL ret) {r m : Nat} {x : Int32} (hs : w.2.2.2.2.2[r]? = some (.inr (0, m, none))) (hx : Int32.ofNat m = x) (hd : decode cc pc = .ok (.arraylength, 1)) (hn : pc + 1 = n) (k : WO v w rm nL enc o n lv (.int x :: st) M) : WO v w rm nL enc o pc lv (.ref (w.2.1 r) :: st) M := by
  subst hn
  intro a M' ho H locs ls hP hD hS hl
  exact va_alen hA.1 hA.2.1 hA.2.2.2.2.2.2.2 hP r 0 (wd_get hs) (ty := .int) rfl hx hd (k a M' ho H locs ls hP hD hS hl)
theorem WO.acopy (hA : Act v w own Ts cc nL ret) {i r0 r1 n0 n1 : Nat} {sp dp c : Int32} (hs0 : w.2.2.2.2.2[r0]? = some (.inr (0, n0, none))) (hs1 : w.2.2.2.2.2[r1]? = some (.inr (0, n1, none))) (hlk : Cond.methodLink own i arraycopyName ∈ Ts) (hnat : Cond.native arraycopyName ∈ Ts) (hstt : Cond.static arraycopyName ∈ Ts) (hini : Cond.initialized "java/lang/System" ∈ Ts) (hfr : 1 ≤ rm.frames) (hlo : (st.map fun v => v.category).sum + (nativeFrameWords "java/lang/System" "arraycopy" 5 + 11) ≤ rm.locals) (hd : decode cc pc = .ok (.invokestatic i, 3)) (hn : pc + 3 = n)
    (k : WO v w rm nL enc o n lv st (mset M r1 (va_cpy (M r0) (M r1) sp.toNatClampNeg dp.toNatClampNeg c.toNatClampNeg))) : WO v w rm nL enc (cpk sp dp c n0 n1 o) pc lv (.int c :: .int dp :: .ref (w.2.1 r1) :: .int sp :: .ref (w.2.1 r0) :: st) M := by
  subst hn
  intro a M' ho H locs ls hP hD hS hl
  unfold cpk at ho
  by_cases hc : (¬ sp < 0 ∧ ¬ dp < 0 ∧ ¬ c < 0) ∧ sp.toNatClampNeg + c.toNatClampNeg ≤ n0 ∧ dp.toNatClampNeg + c.toNatClampNeg ≤ n1
  · rw [if_pos hc] at ho
    obtain ⟨⟨h1, h2, h3⟩, h4, h5⟩ := hc
    refine va_copyi hA.1 hA.2.1 (by rw [hA.2.2.2.2.1]; exact hl.1.symm) hA.2.2.2.2.2.1 (hA.2.2.2.2.2.2.1 _ hlk) (hA.2.2.2.2.2.2.1 _ hnat) (hA.2.2.2.2.2.2.1 _ hstt) (hA.2.2.2.2.2.2.1 _ hini) hA.2.2.2.2.2.2.2 hP hD hS r0 r1 0 0 (ty := .int) (wd_get hs0) (wd_get hs1) rfl rfl rfl h1 h2 h3 h4 h5 (fun _ _ => rfl) hfr hlo hd (fun H1 locs1 hP1 hD1 hS1 => ?_)
    rw [wd_arr hs1] at hP1 hD1
    exact k a M' ho H1 locs1 ls hP1 hD1 hS1 hl
  · rw [if_neg hc] at ho; cases ho
theorem WO.mabs (hA : Act v w own Ts cc nL ret) {i : Nat} {x : Int32} (hlk : Cond.methodLink own i Lib.Math.abs.name ∈ Ts) (hstt : Cond.static Lib.Math.abs.name ∈ Ts) (hini : Cond.initialized "java/lang/Math" ∈ Ts) (hcd : Cond.code Lib.Math.abs.name Lib.Math.abs.code 1 (some .int) ∈ Ts) (hfr : 1 ≤ rm.frames) (hlo : (st.map fun v => v.category).sum + 13 ≤ rm.locals) (hd : decode cc pc = .ok (.invokestatic i, 3)) (hn : pc + 3 = n)
    (k : WO v w rm nL enc o n lv (.int (if 0 ≤ x then x else 0 - x) :: st) M) : WO v w rm nL enc o pc lv (.int x :: st) M := by
  subst hn
  intro a M' ho H locs ls hP hD hS hl
  exact va_mabs hA.1 hA.2.1 (by rw [hA.2.2.2.2.1]; exact hl.1.symm) hA.2.2.2.2.2.1 (hA.2.2.2.2.2.2.1 _ hlk) (hA.2.2.2.2.2.2.1 _ hstt) (hA.2.2.2.2.2.2.1 _ hini) (hA.2.2.2.2.2.2.1 _ hcd) hfr hlo (Nat.zero_le _) (Nat.zero_le _) hd (k a M' ho H locs ls hP hD hS hl)
/-- returns -/
theorem Qo_end {w : Cw} {M : Mem} {a : α} {s t : State} {H : Heap} {locs : List Loc} {args : Array Value} {oc : Outcome} (hoc : oc = .returned (enc a)) (hK : va_K w.1 vwCl (w_tys w.2.2.1) s) (hP : va_P w.1 vwCl (wd w M) H) (hD : va_D w.2.2.2.2.1 (wd w M)) (hS : va_S w.2.2.2.2.1 s.heap H locs) (ht : t.heap = H) (hW : s.WarmedH t.vm) : Qo w enc a M args s oc t :=
  ⟨⟨hoc, by rw [ht]; exact hP, va_K.moved hW.alike hK, hD⟩, hS.F ht⟩
theorem WO.iret (hA : Act v w own Ts cc nL (some .int)) {x : Int32} (hd : decode cc pc = .ok (.ireturn, 1)) : WO v w rm nL eI (some (x, M)) pc lv [.int x] M := by
  intro a M' ho H locs ls hP hD hS hl
  cases ho
  exact W.iret hA.1 hA.2.1 hA.2.2.1 (fun t ht hW => Qo_end rfl hA.2.2.2.2.2.2.2 hP hD hS ht hW) hS.2.2 hd hA.2.2.2.1
theorem WO.zret (hA : Act v w own Ts cc nL (some .boolean)) {x : Int32} (hd : decode cc pc = .ok (.ireturn, 1)) : WO v w rm nL eI (zck x (some (x, M))) pc lv [.int x] M := by
  intro a M' ho H locs ls hP hD hS hl
  unfold zck at ho
  by_cases hx : x &&& 1 = x
  · rw [if_pos hx] at ho
    cases ho
    exact W.zret hA.1 hA.2.1 hA.2.2.1 (by show Value.int (x &&& 1) = _; rw [hx]) (fun t ht hW => Qo_end rfl hA.2.2.2.2.2.2.2 hP hD hS ht hW) hS.2.2 hd hA.2.2.2.1
  · rw [if_neg hx] at ho; cases ho
theorem WO.zretc (hA : Act v w own Ts cc nL (some .boolean)) {x : Int32} (hx : x &&& 1 = x) (hd : decode cc pc = .ok (.ireturn, 1)) : WO v w rm nL eI (some (x, M)) pc lv [.int x] M := by
  have h := WO.zret (rm := rm) (lv := lv) (M := M) hA (x := x) hd
  unfold zck at h
  rw [if_pos hx] at h
  exact h
theorem WO.lret (hA : Act v w own Ts cc nL (some .long)) {x : Int64} (hd : decode cc pc = .ok (.lreturn, 1)) : WO v w rm nL eL (some (x, M)) pc lv [.long x] M := by
  intro a M' ho H locs ls hP hD hS hl
  cases ho
  exact W.lret hA.1 hA.2.1 hA.2.2.1 (fun t ht hW => Qo_end rfl hA.2.2.2.2.2.2.2 hP hD hS ht hW) hS.2.2 hd hA.2.2.2.1
theorem WO.vret (hA : Act v w own Ts cc nL none) (hd : decode cc pc = .ok (.return_, 1)) : WO v w rm nL eV (some ((), M)) pc lv [] M := by
  intro a M' ho H locs ls hP hD hS hl
  cases ho
  exact W.vret hA.1 hA.2.1 hA.2.2.1 (fun t ht hW => Qo_end rfl hA.2.2.2.2.2.2.2 hP hD hS ht hW) hS.2.2 hd hA.2.2.2.1
/-- calls -/
theorem WO.call {β : Type} {enc' : β → Option Value} {o1 : Option (β × Mem)} {k1 : β → Mem → Option (α × Mem)} {av : Array Value} {rest : List Value}
    (hr : ∀ b M1, o1 = some (b, M1) → ∀ (H : Heap) (locs : List Loc) (ls : Array Slot), va_P w.1 vwCl (wd w M) H → va_D w.2.2.2.2.1 (wd w M) → va_S w.2.2.2.2.1 v.2.2.2.1.heap H locs → lv_has ls nL lv → va_Run v.1 v.2.1 v.2.2.1 rm v.2.2.2.1 v.2.2.2.2.1 v.2.2.2.2.2.1 v.2.2.2.2.2.2.1 v.2.2.2.2.2.2.2.1 v.2.2.2.2.2.2.2.2 H locs 0 0 0 0 (F0 v.2.2.2.2.1 pc ls st) rest (Qo w enc' b M1 av) w.2.2.2.2.1)
    (hn : pc + 3 = n) (k : ∀ b M1, WO v w rm nL enc (k1 b M1) n lv ((enc' b).toList ++ rest) M1) : WO v w rm nL enc (bd o1 k1) pc lv st M := by
  subst hn
  intro a M' ho H locs ls hP hD hS hl
  cases h1 : o1 with
  | none => rw [h1] at ho; cases ho
  | some q =>
    obtain ⟨b, M1⟩ := q
    rw [h1] at ho
    have hrun := hr b M1 h1 H locs ls hP hD hS hl
    intro T hT X
    obtain ⟨vv, st₀, t, T', L, h0, X', hL, e1, e2, ⟨⟨hv, hP1, hK1, hD1⟩, hz, hk⟩, stp⟩ := hrun T hT X
    cases hv
    rw [h0] at hz hk
    obtain ⟨t2, a1, b1⟩ := k b M1 a M' ho T'.heap (locs ++ L) ls (by rw [e1]; exact hP1) hD1
      ⟨Nat.le_trans hS.1 (by rw [e1]; exact hz), fun q h1 h2 => by rw [e1, hk q (Nat.lt_of_lt_of_le h1 hS.1) h2]; exact hS.2.1 q h1 h2, fun q hq => by
        rcases List.mem_append.mp hq with h | h
        · exact hS.2.2 q h
        · exact hL q h⟩ hl T' rfl X'
    exact ⟨t2, stp t2 a1, b1⟩
theorem Wok_blind {w : Cw} {M : Mem} {av : List Value} : FrameBlind (va_Pc av (Wok w M)) := fun a U g mk q => by
  obtain ⟨q0, qP, qK, qD⟩ := q
  exact ⟨q0, qP, va_K.moved (u := U) (U := U.calling g mk a) (Vm.Alike.refl U.vm) qK, qD⟩
theorem WO.callV (hA : Act v w own Ts cc nL ret) {β : Type} {enc' : β → Option Value} {o1 : Option (β × Mem)} {k1 : β → Mem → Option (α × Mem)} {y : MethodName} {ws ws' : List Cond} {rm' : Room} {bytes : ByteArray} {maxL i r ci m : Nat} {ret' : Option FieldType} {fl : List (Option Nat)} {q : vw_C} {As rest : List Value}
    (hM : Ok v.2.1 w enc' y ws rm' (.ref (w.2.1 r) :: As) M o1) (hG : GoodIn Ts (wsV own i q.1 y ws)) (hw : ws = Cond.code y bytes maxL ret' :: ws') (hs : w.2.2.2.2.2[r]? = some (.inl (ci, fl))) (hc : vwCl[ci]? = some q)
    (hy : y.cls = q.1 ∧ y.cls ≠ "java/lang/invoke/MethodHandle" ∧ y.cls ≠ "java/lang/invoke/VarHandle" ∧ (parseMethodDescriptor y.desc).map (fun d => d.parameters.length) = some m)
    (hrm : rm'.cells = 0 ∧ rm'.slots = 0 ∧ rm'.frames + 1 ≤ rm.frames ∧ 8 + (maxL + 11) + rm'.locals ≤ rm.locals) (hlen : As.length = m) (hst : st = As.reverse ++ .ref (w.2.1 r) :: rest) (hro : (rest.map fun v => v.category).sum ≤ 8) (hd : decode cc pc = .ok (.invokevirtual i, 3)) (hn : pc + 3 = n)
    (k : ∀ b M1, WO v w rm nL enc (k1 b M1) n lv ((enc' b).toList ++ rest) M1) : WO v w rm nL enc (bd o1 k1) pc lv st M := by
  refine WO.call (enc' := enc') (av := (Value.ref (w.2.1 r) :: As).toArray) (rest := rest) (fun b M1 h1 H locs ls hP hD hS hl => ?_) hn k
  refine va_runV (C := q.1) (b := w.2.1 r) (As := As) ⟨hA.1, hA.2.1, hA.2.2.2.2.1, hA.2.2.2.2.2.1, hA.2.2.2.2.2.2.1⟩ (hM b M1 h1) (cwV m hA.2.2.2.2.2.2.1 hG hw hrm.1 hrm.2.1 hy hrm.2.2) ⟨Wok_blind, va_recv hA.2.2.2.2.2.2.2 hP hc (wd_get hs), fun U hU hW => ⟨rfl, by rw [hU]; exact hP, va_K.moved hW.alike hA.2.2.2.2.2.2.2, hD⟩⟩ rfl hlen hl.1 hst (lv_room hro) hd ⟨Nat.zero_le _, Nat.zero_le _⟩
theorem WO.callS (hA : Act v w own Ts cc nL ret) {β : Type} {enc' : β → Option Value} {o1 : Option (β × Mem)} {k1 : β → Mem → Option (α × Mem)} {y : MethodName} {ws ws' : List Cond} {rm' : Room} {bytes : ByteArray} {maxL i m : Nat} {ret' : Option FieldType} {As rest : List Value}
    (hM : Ok v.2.1 w enc' y ws rm' As M o1) (hG : GoodIn Ts (va_wsS own i y ws)) (hw : ws = Cond.code y bytes maxL ret' :: ws')
    (hy : y.cls ≠ "java/lang/invoke/MethodHandle" ∧ y.cls ≠ "java/lang/invoke/VarHandle" ∧ (parseMethodDescriptor y.desc).map (fun d => d.parameters.length) = some m)
    (hrm : rm'.cells = 0 ∧ rm'.slots = 0 ∧ rm'.frames + 1 ≤ rm.frames ∧ 8 + (maxL + 11) + rm'.locals ≤ rm.locals) (hlen : As.length = m) (hst : st = As.reverse ++ rest) (hro : (rest.map fun v => v.category).sum ≤ 8) (hd : decode cc pc = .ok (.invokestatic i, 3)) (hn : pc + 3 = n)
    (k : ∀ b M1, WO v w rm nL enc (k1 b M1) n lv ((enc' b).toList ++ rest) M1) : WO v w rm nL enc (bd o1 k1) pc lv st M := by
  refine WO.call (enc' := enc') (av := As.toArray) (rest := rest) (fun b M1 h1 H locs ls hP hD hS hl => ?_) hn k
  refine va_runS (As := As) ⟨hA.1, hA.2.1, hA.2.2.2.2.1, hA.2.2.2.2.2.1, hA.2.2.2.2.2.2.1⟩ (hM b M1 h1) (va_cwS m hA.2.2.2.2.2.2.1 hG hw hrm.1 hrm.2.1 hy hrm.2.2) ⟨Wok_blind, fun U hU hW => ⟨rfl, by rw [hU]; exact hP, va_K.moved hW.alike hA.2.2.2.2.2.2.2, hD⟩⟩ rfl hlen hl.1 hst (lv_room hro) hd ⟨Nat.zero_le _, Nat.zero_le _⟩
/-- switches -/
theorem WO.tin (hA : Act v w own Ts cc nL ret) {dflt lo hi off : Int} {offs : Array Int} {len : Nat} {x : Int32} (c : Int32) (hx : x = c) (hd : decode cc pc = .ok (.tableswitch dflt lo hi offs, len)) (h1 : ¬ c.toInt < lo) (h2 : ¬ hi < c.toInt) (ho : offs[(c.toInt - lo).toNat]? = some off) (ht : (pc : Int) + off = (n : Int)) (k : WO v w rm nL enc o n lv st M) : WO v w rm nL enc o pc lv (.int x :: st) M := by
  subst hx
  intro a M' hoo H locs ls hP hD hS hl
  exact lv_tableIn hA.1 hA.2.1 hd h1 h2 ho ht (k a M' hoo H locs ls hP hD hS hl)
theorem WO.tout (hA : Act v w own Ts cc nL ret) {dflt lo hi : Int} {offs : Array Int} {len : Nat} {x : Int32} (hd : decode cc pc = .ok (.tableswitch dflt lo hi offs, len)) (h : x.toInt < lo ∨ hi < x.toInt) (ht : (pc : Int) + dflt = (n : Int)) (k : WO v w rm nL enc o n lv st M) : WO v w rm nL enc o pc lv (.int x :: st) M := by
  intro a M' hoo H locs ls hP hD hS hl
  exact lv_tableOut hA.1 hA.2.1 hd h ht (k a M' hoo H locs ls hP hD hS hl)
theorem WO.lsw (hA : Act v w own Ts cc nL ret) {dflt off : Int} {ps : Array (Int × Int)} {len : Nat} {x : Int32} (hd : decode cc pc = .ok (.lookupswitch dflt ps, len)) (hp : (ps.toList.zip (ps.toList.drop 1)).all (fun (a, next) => a.1 < next.1) = true) (ho : Op.lookupswitch.offset ps.toList dflt x.toInt = off) (ht : (pc : Int) + off = (n : Int)) (k : WO v w rm nL enc o n lv st M) : WO v w rm nL enc o pc lv (.int x :: st) M := by
  intro a M' hoo H locs ls hP hD hS hl
  exact lv_lookup hA.1 hA.2.1 hd hp ho ht (k a M' hoo H locs ls hP hD hS hl)
end RW
