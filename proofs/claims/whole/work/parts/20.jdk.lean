/- J6_bitCount_0f7a4 -/
abbrev rmJ6_bitCount_0f7a4 : Room := { frames := 0, cells := 0, slots := 0, locals := 0 }
theorem mdJ6_bitCount_0f7a4 : yJ6_bitCount_0f7a4.cls ≠ "java/lang/invoke/MethodHandle" ∧ yJ6_bitCount_0f7a4.cls ≠ "java/lang/invoke/VarHandle" ∧ (parseMethodDescriptor yJ6_bitCount_0f7a4.desc).map (fun d => d.parameters.length) = some 1 := by decide +kernel
theorem kkJ6_bitCount_0f7a4_265 : Jvm.Cond.constant RJ6 265 (1431655765 : Int32) ∈ wsJ6_bitCount_0f7a4 := by decide +kernel
theorem kkJ6_bitCount_0f7a4_266 : Jvm.Cond.constant RJ6 266 (858993459 : Int32) ∈ wsJ6_bitCount_0f7a4 := by decide +kernel
theorem kkJ6_bitCount_0f7a4_267 : Jvm.Cond.constant RJ6 267 (252645135 : Int32) ∈ wsJ6_bitCount_0f7a4 := by decide +kernel
noncomputable def f_J6_bitCount_0f7a4 (x0 : Int32) (M : Mem) : Option (Int32 × Mem) := ilt (x0 - ((((x0).toUInt32 >>> (((1 : Int32)).toUInt32 &&& Int32.toUInt32 31)).toInt32) &&& (1431655765 : Int32))) (fun x_1 => ilt ((x_1 &&& (858993459 : Int32)) + ((((x_1).toUInt32 >>> (((2 : Int32)).toUInt32 &&& Int32.toUInt32 31)).toInt32) &&& (858993459 : Int32))) (fun x_2 => ilt ((x_2 + (((x_2).toUInt32 >>> (((4 : Int32)).toUInt32 &&& Int32.toUInt32 31)).toInt32)) &&& (252645135 : Int32)) (fun x_3 => ilt (x_3 + (((x_3).toUInt32 >>> (((8 : Int32)).toUInt32 &&& Int32.toUInt32 31)).toInt32)) (fun x_4 => ilt (x_4 + (((x_4).toUInt32 >>> (((16 : Int32)).toUInt32 &&& Int32.toUInt32 31)).toInt32)) (fun x_5 => some ((x_5 &&& (63 : Int32)), M))))))
set_option maxHeartbeats 4000000 in
set_option maxRecDepth 100000 in
theorem c_J6_bitCount_0f7a4 (l : Launch) (w : Cw) (x0 : Int32) (M : Mem) : Ok l w eI yJ6_bitCount_0f7a4 wsJ6_bitCount_0f7a4 rmJ6_bitCount_0f7a4 [.int x0] M (f_J6_bitCount_0f7a4 x0 M) := by
  refine Ok.of (cc := cJ6_bitCount_0f7a4) (nL := 1) (ret := (some .int)) (lv := [(0, .int x0)]) (by decide) rfl (Nat.le_of_ble_eq_true rfl) rfl (fun v hv hA => ?_)
  subst hv
  have hA : Act v w RJ6 wsJ6_bitCount_0f7a4 cJ6_bitCount_0f7a4 1 (some .int) := hA
  unfold f_J6_bitCount_0f7a4
  refine WO.iload_n (n := 1) hA dJ6_bitCount_0f7a4_0 0 rfl rfl ?_
  refine WO.iload_n (n := 2) hA dJ6_bitCount_0f7a4_1 0 rfl rfl ?_
  refine WO.iconst (x := (1 : Int32)) (n := 3) hA dJ6_bitCount_0f7a4_2 (by decide) rfl ?_
  refine WO.iushr (n := 4) hA dJ6_bitCount_0f7a4_3 rfl ?_
  refine WO.ldcw (n := 7) hA kkJ6_bitCount_0f7a4_265 dJ6_bitCount_0f7a4_4 rfl ?_
  refine WO.iand (n := 8) hA dJ6_bitCount_0f7a4_7 rfl ?_
  refine WO.isub (n := 9) hA dJ6_bitCount_0f7a4_8 rfl ?_
  refine WO.top (fun x_1 => ?_)
  refine WO.istore_n (i := 0) (lv' := [(0, .int x_1)]) (n := 10) hA dJ6_bitCount_0f7a4_9 rfl (by decide) rfl rfl ?_
  refine WO.iload_n (n := 11) hA dJ6_bitCount_0f7a4_10 0 rfl rfl ?_
  refine WO.ldcw (n := 14) hA kkJ6_bitCount_0f7a4_266 dJ6_bitCount_0f7a4_11 rfl ?_
  refine WO.iand (n := 15) hA dJ6_bitCount_0f7a4_14 rfl ?_
  refine WO.iload_n (n := 16) hA dJ6_bitCount_0f7a4_15 0 rfl rfl ?_
  refine WO.iconst (x := (2 : Int32)) (n := 17) hA dJ6_bitCount_0f7a4_16 (by decide) rfl ?_
  refine WO.iushr (n := 18) hA dJ6_bitCount_0f7a4_17 rfl ?_
  refine WO.ldcw (n := 21) hA kkJ6_bitCount_0f7a4_266 dJ6_bitCount_0f7a4_18 rfl ?_
  refine WO.iand (n := 22) hA dJ6_bitCount_0f7a4_21 rfl ?_
  refine WO.iadd (n := 23) hA dJ6_bitCount_0f7a4_22 rfl ?_
  refine WO.top (fun x_2 => ?_)
  refine WO.istore_n (i := 0) (lv' := [(0, .int x_2)]) (n := 24) hA dJ6_bitCount_0f7a4_23 rfl (by decide) rfl rfl ?_
  refine WO.iload_n (n := 25) hA dJ6_bitCount_0f7a4_24 0 rfl rfl ?_
  refine WO.iload_n (n := 26) hA dJ6_bitCount_0f7a4_25 0 rfl rfl ?_
  refine WO.iconst (x := (4 : Int32)) (n := 27) hA dJ6_bitCount_0f7a4_26 (by decide) rfl ?_
  refine WO.iushr (n := 28) hA dJ6_bitCount_0f7a4_27 rfl ?_
  refine WO.iadd (n := 29) hA dJ6_bitCount_0f7a4_28 rfl ?_
  refine WO.ldcw (n := 32) hA kkJ6_bitCount_0f7a4_267 dJ6_bitCount_0f7a4_29 rfl ?_
  refine WO.iand (n := 33) hA dJ6_bitCount_0f7a4_32 rfl ?_
  refine WO.top (fun x_3 => ?_)
  refine WO.istore_n (i := 0) (lv' := [(0, .int x_3)]) (n := 34) hA dJ6_bitCount_0f7a4_33 rfl (by decide) rfl rfl ?_
  refine WO.iload_n (n := 35) hA dJ6_bitCount_0f7a4_34 0 rfl rfl ?_
  refine WO.iload_n (n := 36) hA dJ6_bitCount_0f7a4_35 0 rfl rfl ?_
  refine WO.bipush (x := (8 : Int32)) (n := 38) hA dJ6_bitCount_0f7a4_36 (by decide) rfl ?_
  refine WO.iushr (n := 39) hA dJ6_bitCount_0f7a4_38 rfl ?_
  refine WO.iadd (n := 40) hA dJ6_bitCount_0f7a4_39 rfl ?_
  refine WO.top (fun x_4 => ?_)
  refine WO.istore_n (i := 0) (lv' := [(0, .int x_4)]) (n := 41) hA dJ6_bitCount_0f7a4_40 rfl (by decide) rfl rfl ?_
  refine WO.iload_n (n := 42) hA dJ6_bitCount_0f7a4_41 0 rfl rfl ?_
  refine WO.iload_n (n := 43) hA dJ6_bitCount_0f7a4_42 0 rfl rfl ?_
  refine WO.bipush (x := (16 : Int32)) (n := 45) hA dJ6_bitCount_0f7a4_43 (by decide) rfl ?_
  refine WO.iushr (n := 46) hA dJ6_bitCount_0f7a4_45 rfl ?_
  refine WO.iadd (n := 47) hA dJ6_bitCount_0f7a4_46 rfl ?_
  refine WO.top (fun x_5 => ?_)
  refine WO.istore_n (i := 0) (lv' := [(0, .int x_5)]) (n := 48) hA dJ6_bitCount_0f7a4_47 rfl (by decide) rfl rfl ?_
  refine WO.iload_n (n := 49) hA dJ6_bitCount_0f7a4_48 0 rfl rfl ?_
  refine WO.bipush (x := (63 : Int32)) (n := 51) hA dJ6_bitCount_0f7a4_49 (by decide) rfl ?_
  refine WO.iand (n := 52) hA dJ6_bitCount_0f7a4_51 rfl ?_
  exact WO.iret hA dJ6_bitCount_0f7a4_52
/- J7_fill_53178 -/
abbrev rmJ7_fill_53178 : Room := { frames := 0, cells := 0, slots := 0, locals := 0 }
theorem mdJ7_fill_53178 : yJ7_fill_53178.cls ≠ "java/lang/invoke/MethodHandle" ∧ yJ7_fill_53178.cls ≠ "java/lang/invoke/VarHandle" ∧ (parseMethodDescriptor yJ7_fill_53178.desc).map (fun d => d.parameters.length) = some 2 := by decide +kernel
noncomputable def f_J7_fill_53178_L5 (a0 n0 : Nat) (x1 : Int32) (x3 : Int32) (kx : Mem → Option (Unit × Mem)) : Nat → Int32 → Mem → Option (Unit × Mem)
  | 0, _, _ => none
  | n + 1, x2, M => if x3 ≤ x2 then (kx  M) else (grd x2 n0 (mlt (mu M a0 x2.toNatClampNeg x1) (fun M2 => f_J7_fill_53178_L5 a0 n0 x1 x3 kx n (x2 + (1 : Int32)) M2)))
noncomputable def f_J7_fill_53178 (a0 n0 : Nat) (x1 : Int32) (M : Mem) : Option (Unit × Mem) := ilt (Int32.ofNat n0) (fun x_1 => f_J7_fill_53178_L5 a0 n0 x1 x_1 (fun  M3 => some ((), M3)) FU (0 : Int32) M)
set_option maxHeartbeats 4000000 in
set_option maxRecDepth 100000 in
theorem w_J7_fill_53178_L5 {v : Av} {w : Cw} (hA : Act v w RJ7 wsJ7_fill_53178 cJ7_fill_53178 4 none) (a0 n0 : Nat) (ha0 : w.2.2.2.2.2[a0]? = some (.inr (0, n0, none))) (x1 : Int32) (x3 : Int32) (kx : Mem → Option (Unit × Mem)) (hk : ∀ (M : Mem), WO v w rmJ7_fill_53178 4 eV (kx M) 20 [] [] M) : ∀ (n : Nat) (x2 : Int32) (M : Mem), WO v w rmJ7_fill_53178 4 eV (f_J7_fill_53178_L5 a0 n0 x1 x3 kx n x2 M) 5 [(0, .ref (w.2.1 a0)), (1, .int x1), (2, .int x2), (3, .int x3)] [] M := by
  intro n
  induction n with
  | zero => intro x2 M; exact WO.nothing
  | succ n ih =>
    intro x2 M
    rw [f_J7_fill_53178_L5]
    refine WO.iload_n (n := 6) hA dJ7_fill_53178_5 2 rfl rfl ?_
    refine WO.iload_n (n := 7) hA dJ7_fill_53178_6 3 rfl rfl ?_
    refine WO.icmp_ge (tg := 20) (n := 10) hA dJ7_fill_53178_7 (by decide) rfl (fun _ => ?_) (fun _ => ?_)
    · refine WO.sub (lv' := []) [] rfl ?_
      exact hk  M
    · refine WO.aload_n (n := 11) hA dJ7_fill_53178_10 0 rfl rfl ?_
      refine WO.iload_n (n := 12) hA dJ7_fill_53178_11 2 rfl rfl ?_
      refine WO.iload_n (n := 13) hA dJ7_fill_53178_12 1 rfl rfl ?_
      refine WO.iast (n := 14) hA ha0 dJ7_fill_53178_13 rfl (fun _ => ?_)
      refine WO.mem (fun M2 => ?_)
      refine WO.iinc (y := (1 : Int32)) (lv' := [(2, .int (x2 + (1 : Int32))), (0, .ref (w.2.1 a0)), (1, .int x1), (3, .int x3)]) (n := 17) hA dJ7_fill_53178_14 2 rfl (by decide) (by decide) rfl rfl ?_
      refine WO.goto (n := 5) hA dJ7_fill_53178_17 (by decide) ?_
      refine WO.sub (lv' := [(0, .ref (w.2.1 a0)), (1, .int x1), (2, .int (x2 + (1 : Int32))), (3, .int x3)]) [1, 2, 0, 3] rfl ?_
      exact ih (x2 + (1 : Int32)) M2
set_option maxHeartbeats 4000000 in
set_option maxRecDepth 100000 in
theorem c_J7_fill_53178 (l : Launch) (w : Cw) (a0 n0 : Nat) (x1 : Int32) (ha0 : w.2.2.2.2.2[a0]? = some (.inr (0, n0, none))) (M : Mem) : Ok l w eV yJ7_fill_53178 wsJ7_fill_53178 rmJ7_fill_53178 [.ref (w.2.1 a0), .int x1] M (f_J7_fill_53178 a0 n0 x1 M) := by
  refine Ok.of (cc := cJ7_fill_53178) (nL := 4) (ret := none) (lv := [(0, .ref (w.2.1 a0)), (1, .int x1)]) (by decide) rfl (Nat.le_of_ble_eq_true rfl) rfl (fun v hv hA => ?_)
  subst hv
  have hA : Act v w RJ7 wsJ7_fill_53178 cJ7_fill_53178 4 none := hA
  unfold f_J7_fill_53178
  refine WO.iconst (x := (0 : Int32)) (n := 1) hA dJ7_fill_53178_0 (by decide) rfl ?_
  refine WO.istore_n (i := 2) (lv' := [(2, .int (0 : Int32)), (0, .ref (w.2.1 a0)), (1, .int x1)]) (n := 2) hA dJ7_fill_53178_1 rfl (by decide) rfl rfl ?_
  refine WO.aload_n (n := 3) hA dJ7_fill_53178_2 1 rfl rfl ?_
  refine WO.alen (x := Int32.ofNat n0) (n := 4) hA ha0 rfl dJ7_fill_53178_3 rfl ?_
  refine WO.top (fun x_1 => ?_)
  refine WO.istore_n (i := 3) (lv' := [(3, .int x_1), (2, .int (0 : Int32)), (0, .ref (w.2.1 a0)), (1, .int x1)]) (n := 5) hA dJ7_fill_53178_4 rfl (by decide) rfl rfl ?_
  refine WO.sub (lv' := [(0, .ref (w.2.1 a0)), (1, .int x1), (2, .int (0 : Int32)), (3, .int x_1)]) [2, 3, 1, 0] rfl ?_
  refine w_J7_fill_53178_L5 hA a0 n0 ha0 x1 x_1 _ (fun  M3 => ?_) _ _ _
  exact WO.vret hA dJ7_fill_53178_20
