/- X0_stepRow -/
abbrev rmX0_stepRow : Room := { frames := 0, cells := 0, slots := 0, locals := 0 }
theorem mdX0_stepRow : yX0_stepRow.cls = RX0 ∧ yX0_stepRow.cls ≠ "java/lang/invoke/MethodHandle" ∧ yX0_stepRow.cls ≠ "java/lang/invoke/VarHandle" ∧ (parseMethodDescriptor yX0_stepRow.desc).map (fun d => d.parameters.length) = some 2 := by decide +kernel
theorem fkX0_stepRow_15 : Cond.fieldLink RX0 15 (TX0 1).1 (TX0 1).2.1 (TX0 1).2.2.1 ∈ wsX0_stepRow := by decide +kernel
theorem fiX0_stepRow_X0 : ∀ q ∈ u_ws RX0 TX0 3, q ∈ wsX0_stepRow := by decide +kernel
noncomputable def f_X0_stepRow_L4 (x2 : Int32) (kx : Mem → Option (Unit × Mem)) : Nat → Int32 → Mem → Option (Unit × Mem)
  | 0, _, _ => none
  | n + 1, x3, M => if x3 < 0 then (kx  M) else (grd x3 4 (grd x3 4 (mlt (mu M 22 x3.toNatClampNeg ((M 22 x3.toNatClampNeg) + (1 : Int32))) (fun M2 => grd x3 4 (if x2 ≤ (M2 22 x3.toNatClampNeg) then (grd x3 4 (mlt (mu M2 22 x3.toNatClampNeg (0 : Int32)) (fun M3 => f_X0_stepRow_L4 x2 kx n (x3 + (-1 : Int32)) M3))) else (some ((), M2)))))))
noncomputable def f_X0_stepRow (x1 : Int32) (x2 : Int32) (M : Mem) : Option (Unit × Mem) := ilt (x1 - (1 : Int32)) (fun x_1 => f_X0_stepRow_L4 x2 (fun  M4 => some ((), M4)) FU x_1 M)
set_option maxHeartbeats 4000000 in
set_option maxRecDepth 100000 in
theorem w_X0_stepRow_L4 {v : Av} {w : Cw} (hw : w.2.2.2.2.2 = shX) (hA : Act v w RX0 wsX0_stepRow cX0_stepRow 4 none) (x2 : Int32) (kx : Mem → Option (Unit × Mem)) (hk : ∀ (M : Mem), WO v w rmX0_stepRow 4 eV (kx M) 42 [] [] M) : ∀ (n : Nat) (x3 : Int32) (M : Mem), WO v w rmX0_stepRow 4 eV (f_X0_stepRow_L4 x2 kx n x3 M) 4 [(0, .ref (w.2.1 20)), (2, .int x2), (3, .int x3)] [] M := by
  intro n
  induction n with
  | zero => intro x3 M; exact WO.nothing
  | succ n ih =>
    intro x3 M
    rw [f_X0_stepRow_L4]
    refine WO.iload_n (n := 5) hA dX0_stepRow_4 2 rfl rfl ?_
    refine WO.if_lt (tg := 42) (n := 8) hA dX0_stepRow_5 (by decide) rfl (fun _ => ?_) (fun _ => ?_)
    · refine WO.sub (lv' := []) [] rfl ?_
      exact hk  M
    · refine WO.aload_n (n := 9) hA dX0_stepRow_8 0 rfl rfl ?_
      refine WO.getR (j := 1) (p := 22) (n := 12) hA (x_20 hw) rfl fiX0_stepRow_X0 (by decide) rfl fkX0_stepRow_15 dX0_stepRow_9 rfl ?_
      refine WO.iload_n (n := 13) hA dX0_stepRow_12 2 rfl rfl ?_
      refine WO.dup2 (n := 14) hA dX0_stepRow_13 rfl rfl rfl ?_
      refine WO.iald (n := 15) hA (x_22 hw) dX0_stepRow_14 rfl (fun _ => ?_)
      refine WO.iconst (x := (1 : Int32)) (n := 16) hA dX0_stepRow_15 (by decide) rfl ?_
      refine WO.iadd (n := 17) hA dX0_stepRow_16 rfl ?_
      refine WO.iast (n := 18) hA (x_22 hw) dX0_stepRow_17 rfl (fun _ => ?_)
      refine WO.mem (fun M2 => ?_)
      refine WO.aload_n (n := 19) hA dX0_stepRow_18 0 rfl rfl ?_
      refine WO.getR (j := 1) (p := 22) (n := 22) hA (x_20 hw) rfl fiX0_stepRow_X0 (by decide) rfl fkX0_stepRow_15 dX0_stepRow_19 rfl ?_
      refine WO.iload_n (n := 23) hA dX0_stepRow_22 2 rfl rfl ?_
      refine WO.iald (n := 24) hA (x_22 hw) dX0_stepRow_23 rfl (fun _ => ?_)
      refine WO.iload_n (n := 25) hA dX0_stepRow_24 1 rfl rfl ?_
      refine WO.icmp_ge (tg := 29) (n := 28) hA dX0_stepRow_25 (by decide) rfl (fun _ => ?_) (fun _ => ?_)
      · refine WO.aload_n (n := 30) hA dX0_stepRow_29 0 rfl rfl ?_
        refine WO.getR (j := 1) (p := 22) (n := 33) hA (x_20 hw) rfl fiX0_stepRow_X0 (by decide) rfl fkX0_stepRow_15 dX0_stepRow_30 rfl ?_
        refine WO.iload_n (n := 34) hA dX0_stepRow_33 2 rfl rfl ?_
        refine WO.iconst (x := (0 : Int32)) (n := 35) hA dX0_stepRow_34 (by decide) rfl ?_
        refine WO.iast (n := 36) hA (x_22 hw) dX0_stepRow_35 rfl (fun _ => ?_)
        refine WO.mem (fun M3 => ?_)
        refine WO.iinc (y := (-1 : Int32)) (lv' := [(3, .int (x3 + (-1 : Int32))), (0, .ref (w.2.1 20)), (2, .int x2)]) (n := 39) hA dX0_stepRow_36 2 rfl (by decide) (by decide) rfl rfl ?_
        refine WO.goto (n := 4) hA dX0_stepRow_39 (by decide) ?_
        refine WO.sub (lv' := [(0, .ref (w.2.1 20)), (2, .int x2), (3, .int (x3 + (-1 : Int32)))]) [1, 2, 0] rfl ?_
        exact ih (x3 + (-1 : Int32)) M3
      · exact WO.vret hA dX0_stepRow_28
set_option maxHeartbeats 4000000 in
set_option maxRecDepth 100000 in
theorem c_X0_stepRow (l : Launch) (w : Cw) (hw : w.2.2.2.2.2 = shX) (x1 : Int32) (x2 : Int32) (M : Mem) : Ok l w eV yX0_stepRow wsX0_stepRow rmX0_stepRow [.ref (w.2.1 20), .int x1, .int x2] M (f_X0_stepRow x1 x2 M) := by
  refine Ok.of (cc := cX0_stepRow) (nL := 4) (ret := none) (lv := [(0, .ref (w.2.1 20)), (1, .int x1), (2, .int x2)]) (by decide) rfl (Nat.le_of_ble_eq_true rfl) rfl (fun v hv hA => ?_)
  subst hv
  have hA : Act v w RX0 wsX0_stepRow cX0_stepRow 4 none := hA
  unfold f_X0_stepRow
  refine WO.iload_n (n := 1) hA dX0_stepRow_0 1 rfl rfl ?_
  refine WO.iconst (x := (1 : Int32)) (n := 2) hA dX0_stepRow_1 (by decide) rfl ?_
  refine WO.isub (n := 3) hA dX0_stepRow_2 rfl ?_
  refine WO.top (fun x_1 => ?_)
  refine WO.istore_n (i := 3) (lv' := [(3, .int x_1), (0, .ref (w.2.1 20)), (1, .int x1), (2, .int x2)]) (n := 4) hA dX0_stepRow_3 rfl (by decide) rfl rfl ?_
  refine WO.sub (lv' := [(0, .ref (w.2.1 20)), (2, .int x2), (3, .int x_1)]) [1, 3, 0] rfl ?_
  refine w_X0_stepRow_L4 hw hA x2 _ (fun  M4 => ?_) _ _ _
  exact WO.vret hA dX0_stepRow_42
/- X0_wakersOfRow -/
abbrev rmX0_wakersOfRow : Room := { frames := 0, cells := 0, slots := 0, locals := 0 }
theorem mdX0_wakersOfRow : yX0_wakersOfRow.cls = RX0 ∧ yX0_wakersOfRow.cls ≠ "java/lang/invoke/MethodHandle" ∧ yX0_wakersOfRow.cls ≠ "java/lang/invoke/VarHandle" ∧ (parseMethodDescriptor yX0_wakersOfRow.desc).map (fun d => d.parameters.length) = some 1 := by decide +kernel
theorem fkX0_wakersOfRow_20 : Cond.fieldLink RX0 20 (TX0 2).1 (TX0 2).2.1 (TX0 2).2.2.1 ∈ wsX0_wakersOfRow := by decide +kernel
theorem fiX0_wakersOfRow_X0 : ∀ q ∈ u_ws RX0 TX0 3, q ∈ wsX0_wakersOfRow := by decide +kernel
theorem fkX0_wakersOfRow_15 : Cond.fieldLink RX0 15 (TX0 1).1 (TX0 1).2.1 (TX0 1).2.2.1 ∈ wsX0_wakersOfRow := by decide +kernel
noncomputable def f_X0_wakersOfRow_L4 (x1 : Int32) (kx : Int32 → Mem → Option (Int32 × Mem)) : Nat → Int32 → Int32 → Mem → Option (Int32 × Mem)
  | 0, _, _, _ => none
  | n + 1, x2, x3, M => if x1 ≤ x3 then (kx x2 M) else (grd x3 4 (grd x3 4 (grd (M 22 x3.toNatClampNeg) 6 (ilt (x2 ||| (M (gWk x3.toNatClampNeg) (M 22 x3.toNatClampNeg).toNatClampNeg)) (fun x_2 => f_X0_wakersOfRow_L4 x1 kx n x_2 (x3 + (1 : Int32)) M)))))
noncomputable def f_X0_wakersOfRow (x1 : Int32) (M : Mem) : Option (Int32 × Mem) := f_X0_wakersOfRow_L4 x1 (fun e3 M4 => some (e3, M4)) FU (0 : Int32) (0 : Int32) M
set_option maxHeartbeats 4000000 in
set_option maxRecDepth 100000 in
theorem w_X0_wakersOfRow_L4 {v : Av} {w : Cw} (hw : w.2.2.2.2.2 = shX) (hA : Act v w RX0 wsX0_wakersOfRow cX0_wakersOfRow 4 (some .int)) (x1 : Int32) (kx : Int32 → Mem → Option (Int32 × Mem)) (hk : ∀ (y2 : Int32) (M : Mem), WO v w rmX0_wakersOfRow 4 eI (kx y2 M) 31 [(2, .int y2)] [] M) : ∀ (n : Nat) (x2 : Int32) (x3 : Int32) (M : Mem), WO v w rmX0_wakersOfRow 4 eI (f_X0_wakersOfRow_L4 x1 kx n x2 x3 M) 4 [(0, .ref (w.2.1 20)), (1, .int x1), (2, .int x2), (3, .int x3)] [] M := by
  intro n
  induction n with
  | zero => intro x2 x3 M; exact WO.nothing
  | succ n ih =>
    intro x2 x3 M
    rw [f_X0_wakersOfRow_L4]
    refine WO.iload_n (n := 5) hA dX0_wakersOfRow_4 3 rfl rfl ?_
    refine WO.iload_n (n := 6) hA dX0_wakersOfRow_5 1 rfl rfl ?_
    refine WO.icmp_ge (tg := 31) (n := 9) hA dX0_wakersOfRow_6 (by decide) rfl (fun _ => ?_) (fun _ => ?_)
    · refine WO.sub (lv' := [(2, .int x2)]) [2] rfl ?_
      exact hk x2 M
    · refine WO.iload_n (n := 10) hA dX0_wakersOfRow_9 2 rfl rfl ?_
      refine WO.aload_n (n := 11) hA dX0_wakersOfRow_10 0 rfl rfl ?_
      refine WO.getR (j := 2) (p := 23) (n := 14) hA (x_20 hw) rfl fiX0_wakersOfRow_X0 (by decide) rfl fkX0_wakersOfRow_20 dX0_wakersOfRow_11 rfl ?_
      refine WO.iload_n (n := 15) hA dX0_wakersOfRow_14 3 rfl rfl ?_
      refine WO.aald (n := 16) hA (x_23 hw) rfl rfl dX0_wakersOfRow_15 rfl (fun hi1 => ?_)
      refine WO.aload_n (n := 17) hA dX0_wakersOfRow_16 0 rfl rfl ?_
      refine WO.getR (j := 1) (p := 22) (n := 20) hA (x_20 hw) rfl fiX0_wakersOfRow_X0 (by decide) rfl fkX0_wakersOfRow_15 dX0_wakersOfRow_17 rfl ?_
      refine WO.iload_n (n := 21) hA dX0_wakersOfRow_20 3 rfl rfl ?_
      refine WO.iald (n := 22) hA (x_22 hw) dX0_wakersOfRow_21 rfl (fun _ => ?_)
      refine WO.iald (n := 23) hA (wk_of hw hi1.2) dX0_wakersOfRow_22 rfl (fun _ => ?_)
      refine WO.ior (n := 24) hA dX0_wakersOfRow_23 rfl ?_
      refine WO.top (fun x_2 => ?_)
      refine WO.istore_n (i := 2) (lv' := [(2, .int x_2), (0, .ref (w.2.1 20)), (1, .int x1), (3, .int x3)]) (n := 25) hA dX0_wakersOfRow_24 rfl (by decide) rfl rfl ?_
      refine WO.iinc (y := (1 : Int32)) (lv' := [(3, .int (x3 + (1 : Int32))), (2, .int x_2), (0, .ref (w.2.1 20)), (1, .int x1)]) (n := 28) hA dX0_wakersOfRow_25 3 rfl (by decide) (by decide) rfl rfl ?_
      refine WO.goto (n := 4) hA dX0_wakersOfRow_28 (by decide) ?_
      refine WO.sub (lv' := [(0, .ref (w.2.1 20)), (1, .int x1), (2, .int x_2), (3, .int (x3 + (1 : Int32)))]) [2, 3, 1, 0] rfl ?_
      exact ih x_2 (x3 + (1 : Int32)) M
set_option maxHeartbeats 4000000 in
set_option maxRecDepth 100000 in
theorem c_X0_wakersOfRow (l : Launch) (w : Cw) (hw : w.2.2.2.2.2 = shX) (x1 : Int32) (M : Mem) : Ok l w eI yX0_wakersOfRow wsX0_wakersOfRow rmX0_wakersOfRow [.ref (w.2.1 20), .int x1] M (f_X0_wakersOfRow x1 M) := by
  refine Ok.of (cc := cX0_wakersOfRow) (nL := 4) (ret := (some .int)) (lv := [(0, .ref (w.2.1 20)), (1, .int x1)]) (by decide) rfl (Nat.le_of_ble_eq_true rfl) rfl (fun v hv hA => ?_)
  subst hv
  have hA : Act v w RX0 wsX0_wakersOfRow cX0_wakersOfRow 4 (some .int) := hA
  unfold f_X0_wakersOfRow
  refine WO.iconst (x := (0 : Int32)) (n := 1) hA dX0_wakersOfRow_0 (by decide) rfl ?_
  refine WO.istore_n (i := 2) (lv' := [(2, .int (0 : Int32)), (0, .ref (w.2.1 20)), (1, .int x1)]) (n := 2) hA dX0_wakersOfRow_1 rfl (by decide) rfl rfl ?_
  refine WO.iconst (x := (0 : Int32)) (n := 3) hA dX0_wakersOfRow_2 (by decide) rfl ?_
  refine WO.istore_n (i := 3) (lv' := [(3, .int (0 : Int32)), (2, .int (0 : Int32)), (0, .ref (w.2.1 20)), (1, .int x1)]) (n := 4) hA dX0_wakersOfRow_3 rfl (by decide) rfl rfl ?_
  refine WO.sub (lv' := [(0, .ref (w.2.1 20)), (1, .int x1), (2, .int (0 : Int32)), (3, .int (0 : Int32))]) [2, 3, 1, 0] rfl ?_
  refine w_X0_wakersOfRow_L4 hw hA x1 _ (fun e3 M4 => ?_) _ _ _ _
  refine WO.iload_n (n := 32) hA dX0_wakersOfRow_31 0 rfl rfl ?_
  exact WO.iret hA dX0_wakersOfRow_32
/- X0_findStillest -/
abbrev rmX0_findStillest : Room := { frames := 4, cells := 0, slots := 0, locals := 92 }
theorem mdX0_findStillest : yX0_findStillest.cls = RX0 ∧ yX0_findStillest.cls ≠ "java/lang/invoke/MethodHandle" ∧ yX0_findStillest.cls ≠ "java/lang/invoke/VarHandle" ∧ (parseMethodDescriptor yX0_findStillest.desc).map (fun d => d.parameters.length) = some 1 := by decide +kernel
theorem fkX0_findStillest_23 : Cond.fieldLink RX0 23 (TX3 6).1 (TX3 6).2.1 (TX3 6).2.2.1 ∈ wsX0_findStillest := by decide +kernel
theorem fiX0_findStillest_X3 : ∀ q ∈ u_ws RX3 TX3 10, q ∈ wsX0_findStillest := by decide +kernel
theorem fkX0_findStillest_29 : Cond.fieldLink RX0 29 (TX3 5).1 (TX3 5).2.1 (TX3 5).2.2.1 ∈ wsX0_findStillest := by decide +kernel
theorem fkX0_findStillest_15 : Cond.fieldLink RX0 15 (TX0 1).1 (TX0 1).2.1 (TX0 1).2.2.1 ∈ wsX0_findStillest := by decide +kernel
theorem fiX0_findStillest_X0 : ∀ q ∈ u_ws RX0 TX0 3, q ∈ wsX0_findStillest := by decide +kernel
theorem fkX0_findStillest_20 : Cond.fieldLink RX0 20 (TX0 2).1 (TX0 2).2.1 (TX0 2).2.2.1 ∈ wsX0_findStillest := by decide +kernel
theorem fkX0_findStillest_9 : Cond.fieldLink RX0 9 (TX0 0).1 (TX0 0).2.1 (TX0 0).2.2.1 ∈ wsX0_findStillest := by decide +kernel
theorem akX0_findStillest_44 : Cond.methodLink RX0 44 arraycopyName ∈ wsX0_findStillest := by decide +kernel
theorem akX0_findStillest_n : Cond.native arraycopyName ∈ wsX0_findStillest := by decide +kernel
theorem akX0_findStillest_s : Cond.static arraycopyName ∈ wsX0_findStillest := by decide +kernel
theorem akX0_findStillest_i : Cond.initialized "java/lang/System" ∈ wsX0_findStillest := by decide +kernel
noncomputable def f_X0_findStillest_L29 (a1 : Nat) (x2 : Int32) (x3 : Int32) (kx : Mem → Option (Int32 × Mem)) : Nat → Int32 → Mem → Option (Int32 × Mem)
  | 0, _, _ => none
  | n + 1, x4, M => if (M a1 5) ≤ x4 then (kx  M) else (grd x3 4 (bd (f_X3_wakers a1 x3 x4 M) (fun r5 M4 => grd x4 6 (mlt (mu M4 (gWk x3.toNatClampNeg) x4.toNatClampNeg r5) (fun M6 => f_X0_findStillest_L29 a1 x2 x3 kx n (x4 + (1 : Int32)) M6)))))
noncomputable def f_X0_findStillest_L4 (a1 : Nat) (kx : Int32 → Mem → Option (Int32 × Mem)) : Nat → Int32 → Int32 → Mem → Option (Int32 × Mem)
  | 0, _, _, _ => none
  | n + 1, x2, x3, M => if (M a1 6) ≤ x3 then (kx x2 M) else (ilt (x2 * (M a1 5)) (fun x_1 => grd x3 4 (mlt (mu M 22 x3.toNatClampNeg (0 : Int32)) (fun M2 => f_X0_findStillest_L29 a1 x_1 x3 (fun  M7 => f_X0_findStillest_L4 a1 kx n x_1 (x3 + (1 : Int32)) M7) FU (0 : Int32) M2))))
noncomputable def f_X0_findStillest_L76 (a1 : Nat) (x2 : Int32) (kx : Int32 → Mem → Option (Int32 × Mem)) : Nat → Int32 → Int32 → Mem → Option (Int32 × Mem)
  | 0, _, _, _ => none
  | n + 1, x3, x4, M => if x2 ≤ x4 then (kx x3 M) else (bd (f_X0_wakersOfRow (M a1 6) M) (fun r12 M11 => bd (f_J6_bitCount_0f7a4 r12 M11) (fun r14 M13 => if x3 ≤ r14 then (bd (f_X0_stepRow (M13 a1 6) (M13 a1 5) M13) (fun _ M15 => f_X0_findStillest_L76 a1 x2 kx n x3 (x4 + (1 : Int32)) M15)) else (cpk (0 : Int32) (0 : Int32) (M13 a1 6) 4 4 (mlt (mset M13 21 (va_cpy (M13 22) (M13 21) (0 : Int32).toNatClampNeg (0 : Int32).toNatClampNeg (M13 a1 6).toNatClampNeg)) (fun M16 => bd (f_X0_stepRow (M16 a1 6) (M16 a1 5) M16) (fun _ M17 => f_X0_findStillest_L76 a1 x2 kx n r14 (x4 + (1 : Int32)) M17)))))))
noncomputable def f_X0_findStillest (a1 : Nat) (M : Mem) : Option (Int32 × Mem) := f_X0_findStillest_L4 a1 (fun e8 M9 => ilt ((M9 a1 5) + (1 : Int32)) (fun x_10 => f_X0_findStillest_L76 a1 e8 (fun e18 M19 => some (e18, M19)) FU x_10 (0 : Int32) M9)) FU (1 : Int32) (0 : Int32) M
set_option maxHeartbeats 4000000 in
set_option maxRecDepth 100000 in
theorem w_X0_findStillest_L29 {v : Av} {w : Cw} (hw : w.2.2.2.2.2 = shX) (hA : Act v w RX0 wsX0_findStillest cX0_findStillest 6 (some .int)) (a1 : Nat) (ha1 : isSt a1) (x2 : Int32) (x3 : Int32) (kx : Mem → Option (Int32 × Mem)) (hk : ∀ (M : Mem), WO v w rmX0_findStillest 6 eI (kx M) 60 [(0, .ref (w.2.1 20)), (1, .ref (w.2.1 a1)), (2, .int x2), (3, .int x3)] [] M) : ∀ (n : Nat) (x4 : Int32) (M : Mem), WO v w rmX0_findStillest 6 eI (f_X0_findStillest_L29 a1 x2 x3 kx n x4 M) 29 [(0, .ref (w.2.1 20)), (1, .ref (w.2.1 a1)), (2, .int x2), (3, .int x3), (4, .int x4)] [] M := by
  intro n
  induction n with
  | zero => intro x4 M; exact WO.nothing
  | succ n ih =>
    intro x4 M
    rw [f_X0_findStillest_L29]
    refine WO.iload (n := 31) hA dX0_findStillest_29 4 rfl rfl ?_
    refine WO.aload_n (n := 32) hA dX0_findStillest_31 1 rfl rfl ?_
    refine WO.getI (j := 5) (n := 35) hA (st_0 hw ha1) rfl fiX0_findStillest_X3 (by decide) rfl fkX0_findStillest_29 dX0_findStillest_32 rfl ?_
    refine WO.icmp_ge (tg := 60) (n := 38) hA dX0_findStillest_35 (by decide) rfl (fun _ => ?_) (fun _ => ?_)
    · refine WO.sub (lv' := [(0, .ref (w.2.1 20)), (1, .ref (w.2.1 a1)), (2, .int x2), (3, .int x3)]) [0, 1, 2, 3] rfl ?_
      exact hk  M
    · refine WO.aload_n (n := 39) hA dX0_findStillest_38 0 rfl rfl ?_
      refine WO.getR (j := 2) (p := 23) (n := 42) hA (x_20 hw) rfl fiX0_findStillest_X0 (by decide) rfl fkX0_findStillest_20 dX0_findStillest_39 rfl ?_
      refine WO.iload_n (n := 43) hA dX0_findStillest_42 3 rfl rfl ?_
      refine WO.aald (n := 44) hA (x_23 hw) rfl rfl dX0_findStillest_43 rfl (fun hi3 => ?_)
      refine WO.iload (n := 46) hA dX0_findStillest_44 4 rfl rfl ?_
      refine WO.aload_n (n := 47) hA dX0_findStillest_46 1 rfl rfl ?_
      refine WO.iload_n (n := 48) hA dX0_findStillest_47 3 rfl rfl ?_
      refine WO.iload (n := 50) hA dX0_findStillest_48 4 rfl rfl ?_
      refine WO.callVi (As := [.int x3, .int x4]) (rest := [.int x4, .ref (w.2.1 (gWk x3.toNatClampNeg))]) (n := 53) hA (c_X3_wakers v.2.1 w hw a1 x3 x4 ha1 M) gX0_findStillest_X3_wakers rfl (st_0 hw ha1) rfl mdX3_wakers ⟨rfl, rfl, Nat.le_of_ble_eq_true rfl, Nat.le_of_ble_eq_true rfl⟩ rfl rfl (Nat.le_of_ble_eq_true rfl) dX0_findStillest_50 rfl (fun r5 M4 => ?_)
      refine WO.iast (n := 54) hA (wk_of hw hi3.2) dX0_findStillest_53 rfl (fun _ => ?_)
      refine WO.mem (fun M6 => ?_)
      refine WO.iinc (y := (1 : Int32)) (lv' := [(4, .int (x4 + (1 : Int32))), (0, .ref (w.2.1 20)), (1, .ref (w.2.1 a1)), (2, .int x2), (3, .int x3)]) (n := 57) hA dX0_findStillest_54 4 rfl (by decide) (by decide) rfl rfl ?_
      refine WO.goto (n := 29) hA dX0_findStillest_57 (by decide) ?_
      refine WO.sub (lv' := [(0, .ref (w.2.1 20)), (1, .ref (w.2.1 a1)), (2, .int x2), (3, .int x3), (4, .int (x4 + (1 : Int32)))]) [1, 2, 3, 4, 0] rfl ?_
      exact ih (x4 + (1 : Int32)) M6
set_option maxHeartbeats 4000000 in
set_option maxRecDepth 100000 in
theorem w_X0_findStillest_L4 {v : Av} {w : Cw} (hw : w.2.2.2.2.2 = shX) (hA : Act v w RX0 wsX0_findStillest cX0_findStillest 6 (some .int)) (a1 : Nat) (ha1 : isSt a1) (kx : Int32 → Mem → Option (Int32 × Mem)) (hk : ∀ (y2 : Int32) (M : Mem), WO v w rmX0_findStillest 6 eI (kx y2 M) 66 [(0, .ref (w.2.1 20)), (1, .ref (w.2.1 a1)), (2, .int y2)] [] M) : ∀ (n : Nat) (x2 : Int32) (x3 : Int32) (M : Mem), WO v w rmX0_findStillest 6 eI (f_X0_findStillest_L4 a1 kx n x2 x3 M) 4 [(0, .ref (w.2.1 20)), (1, .ref (w.2.1 a1)), (2, .int x2), (3, .int x3)] [] M := by
  intro n
  induction n with
  | zero => intro x2 x3 M; exact WO.nothing
  | succ n ih =>
    intro x2 x3 M
    rw [f_X0_findStillest_L4]
    refine WO.iload_n (n := 5) hA dX0_findStillest_4 3 rfl rfl ?_
    refine WO.aload_n (n := 6) hA dX0_findStillest_5 1 rfl rfl ?_
    refine WO.getI (j := 6) (n := 9) hA (st_0 hw ha1) rfl fiX0_findStillest_X3 (by decide) rfl fkX0_findStillest_23 dX0_findStillest_6 rfl ?_
    refine WO.icmp_ge (tg := 66) (n := 12) hA dX0_findStillest_9 (by decide) rfl (fun _ => ?_) (fun _ => ?_)
    · refine WO.sub (lv' := [(0, .ref (w.2.1 20)), (1, .ref (w.2.1 a1)), (2, .int x2)]) [0, 1, 2] rfl ?_
      exact hk x2 M
    · refine WO.iload_n (n := 13) hA dX0_findStillest_12 2 rfl rfl ?_
      refine WO.aload_n (n := 14) hA dX0_findStillest_13 1 rfl rfl ?_
      refine WO.getI (j := 5) (n := 17) hA (st_0 hw ha1) rfl fiX0_findStillest_X3 (by decide) rfl fkX0_findStillest_29 dX0_findStillest_14 rfl ?_
      refine WO.imul (n := 18) hA dX0_findStillest_17 rfl ?_
      refine WO.top (fun x_1 => ?_)
      refine WO.istore_n (i := 2) (lv' := [(2, .int x_1), (0, .ref (w.2.1 20)), (1, .ref (w.2.1 a1)), (3, .int x3)]) (n := 19) hA dX0_findStillest_18 rfl (by decide) rfl rfl ?_
      refine WO.aload_n (n := 20) hA dX0_findStillest_19 1 rfl rfl ?_
      refine WO.getR (j := 1) (p := 22) (n := 23) hA (x_20 hw) rfl fiX0_findStillest_X0 (by decide) rfl fkX0_findStillest_15 dX0_findStillest_20 rfl ?_
      refine WO.iload_n (n := 24) hA dX0_findStillest_23 3 rfl rfl ?_
      refine WO.iconst (x := (0 : Int32)) (n := 25) hA dX0_findStillest_24 (by decide) rfl ?_
      refine WO.iast (n := 26) hA (x_22 hw) dX0_findStillest_25 rfl (fun _ => ?_)
      refine WO.mem (fun M2 => ?_)
      refine WO.iconst (x := (0 : Int32)) (n := 27) hA dX0_findStillest_26 (by decide) rfl ?_
      refine WO.istore (lv' := [(4, .int (0 : Int32)), (2, .int x_1), (0, .ref (w.2.1 20)), (1, .ref (w.2.1 a1)), (3, .int x3)]) (n := 29) hA dX0_findStillest_27 (by decide) rfl rfl ?_
      refine WO.sub (lv' := [(0, .ref (w.2.1 20)), (1, .ref (w.2.1 a1)), (2, .int x_1), (3, .int x3), (4, .int (0 : Int32))]) [2, 3, 1, 4, 0] rfl ?_
      refine w_X0_findStillest_L29 hw hA a1 ha1 x_1 x3 _ (fun  M7 => ?_) _ _ _
      refine WO.iinc (y := (1 : Int32)) (lv' := [(3, .int (x3 + (1 : Int32))), (0, .ref (w.2.1 20)), (1, .ref (w.2.1 a1)), (2, .int x_1)]) (n := 63) hA dX0_findStillest_60 3 rfl (by decide) (by decide) rfl rfl ?_
      refine WO.goto (n := 4) hA dX0_findStillest_63 (by decide) ?_
      refine WO.sub (lv' := [(0, .ref (w.2.1 20)), (1, .ref (w.2.1 a1)), (2, .int x_1), (3, .int (x3 + (1 : Int32)))]) [1, 2, 3, 0] rfl ?_
      exact ih x_1 (x3 + (1 : Int32)) M7
set_option maxHeartbeats 4000000 in
set_option maxRecDepth 100000 in
theorem w_X0_findStillest_L76 {v : Av} {w : Cw} (hw : w.2.2.2.2.2 = shX) (hA : Act v w RX0 wsX0_findStillest cX0_findStillest 6 (some .int)) (a1 : Nat) (ha1 : isSt a1) (x2 : Int32) (kx : Int32 → Mem → Option (Int32 × Mem)) (hk : ∀ (y3 : Int32) (M : Mem), WO v w rmX0_findStillest 6 eI (kx y3 M) 139 [(3, .int y3)] [] M) : ∀ (n : Nat) (x3 : Int32) (x4 : Int32) (M : Mem), WO v w rmX0_findStillest 6 eI (f_X0_findStillest_L76 a1 x2 kx n x3 x4 M) 76 [(0, .ref (w.2.1 20)), (1, .ref (w.2.1 a1)), (2, .int x2), (3, .int x3), (4, .int x4)] [] M := by
  intro n
  induction n with
  | zero => intro x3 x4 M; exact WO.nothing
  | succ n ih =>
    intro x3 x4 M
    rw [f_X0_findStillest_L76]
    refine WO.iload (n := 78) hA dX0_findStillest_76 4 rfl rfl ?_
    refine WO.iload_n (n := 79) hA dX0_findStillest_78 2 rfl rfl ?_
    refine WO.icmp_ge (tg := 139) (n := 82) hA dX0_findStillest_79 (by decide) rfl (fun _ => ?_) (fun _ => ?_)
    · refine WO.sub (lv' := [(3, .int x3)]) [3] rfl ?_
      exact hk x3 M
    · refine WO.aload_n (n := 83) hA dX0_findStillest_82 0 rfl rfl ?_
      refine WO.aload_n (n := 84) hA dX0_findStillest_83 1 rfl rfl ?_
      refine WO.getI (j := 6) (n := 87) hA (st_0 hw ha1) rfl fiX0_findStillest_X3 (by decide) rfl fkX0_findStillest_23 dX0_findStillest_84 rfl ?_
      refine WO.callVi (As := [.int (M a1 6)]) (rest := []) (n := 90) hA (c_X0_wakersOfRow v.2.1 w hw (M a1 6) M) gX0_findStillest_X0_wakersOfRow rfl (x_20 hw) rfl mdX0_wakersOfRow ⟨rfl, rfl, Nat.le_of_ble_eq_true rfl, Nat.le_of_ble_eq_true rfl⟩ rfl rfl (Nat.le_of_ble_eq_true rfl) dX0_findStillest_87 rfl (fun r12 M11 => ?_)
      refine WO.callSi (As := [.int r12]) (rest := []) (n := 93) hA (c_J6_bitCount_0f7a4 v.2.1 w r12 M11) gX0_findStillest_J6_bitCount_0f7a4 rfl mdJ6_bitCount_0f7a4 ⟨rfl, rfl, Nat.le_of_ble_eq_true rfl, Nat.le_of_ble_eq_true rfl⟩ rfl rfl (Nat.le_of_ble_eq_true rfl) dX0_findStillest_90 rfl (fun r14 M13 => ?_)
      refine WO.istore (lv' := [(5, .int r14), (0, .ref (w.2.1 20)), (1, .ref (w.2.1 a1)), (2, .int x2), (3, .int x3), (4, .int x4)]) (n := 95) hA dX0_findStillest_93 (by decide) rfl rfl ?_
      refine WO.iload (n := 97) hA dX0_findStillest_95 0 rfl rfl ?_
      refine WO.iload_n (n := 98) hA dX0_findStillest_97 4 rfl rfl ?_
      refine WO.icmp_ge (tg := 121) (n := 101) hA dX0_findStillest_98 (by decide) rfl (fun _ => ?_) (fun _ => ?_)
      · refine WO.aload_n (n := 122) hA dX0_findStillest_121 1 rfl rfl ?_
        refine WO.aload_n (n := 123) hA dX0_findStillest_122 2 rfl rfl ?_
        refine WO.getI (j := 6) (n := 126) hA (st_0 hw ha1) rfl fiX0_findStillest_X3 (by decide) rfl fkX0_findStillest_23 dX0_findStillest_123 rfl ?_
        refine WO.aload_n (n := 127) hA dX0_findStillest_126 2 rfl rfl ?_
        refine WO.getI (j := 5) (n := 130) hA (st_0 hw ha1) rfl fiX0_findStillest_X3 (by decide) rfl fkX0_findStillest_29 dX0_findStillest_127 rfl ?_
        refine WO.callVv (As := [.int (M13 a1 6), .int (M13 a1 5)]) (rest := []) (n := 133) hA (c_X0_stepRow v.2.1 w hw (M13 a1 6) (M13 a1 5) M13) gX0_findStillest_X0_stepRow rfl (x_20 hw) rfl mdX0_stepRow ⟨rfl, rfl, Nat.le_of_ble_eq_true rfl, Nat.le_of_ble_eq_true rfl⟩ rfl rfl (Nat.le_of_ble_eq_true rfl) dX0_findStillest_130 rfl (fun M15 => ?_)
        refine WO.iinc (y := (1 : Int32)) (lv' := [(4, .int (x4 + (1 : Int32))), (5, .int r14), (0, .ref (w.2.1 20)), (1, .ref (w.2.1 a1)), (2, .int x2), (3, .int x3)]) (n := 136) hA dX0_findStillest_133 5 rfl (by decide) (by decide) rfl rfl ?_
        refine WO.goto (n := 76) hA dX0_findStillest_136 (by decide) ?_
        refine WO.sub (lv' := [(0, .ref (w.2.1 20)), (1, .ref (w.2.1 a1)), (2, .int x2), (3, .int x3), (4, .int (x4 + (1 : Int32)))]) [2, 3, 4, 5, 0] rfl ?_
        exact ih x3 (x4 + (1 : Int32)) M15
      · refine WO.iload (n := 103) hA dX0_findStillest_101 0 rfl rfl ?_
        refine WO.istore_n (i := 3) (lv' := [(3, .int r14), (5, .int r14), (0, .ref (w.2.1 20)), (1, .ref (w.2.1 a1)), (2, .int x2), (4, .int x4)]) (n := 104) hA dX0_findStillest_103 rfl (by decide) rfl rfl ?_
        refine WO.aload_n (n := 105) hA dX0_findStillest_104 2 rfl rfl ?_
        refine WO.getR (j := 1) (p := 22) (n := 108) hA (x_20 hw) rfl fiX0_findStillest_X0 (by decide) rfl fkX0_findStillest_15 dX0_findStillest_105 rfl ?_
        refine WO.iconst (x := (0 : Int32)) (n := 109) hA dX0_findStillest_108 (by decide) rfl ?_
        refine WO.aload_n (n := 110) hA dX0_findStillest_109 2 rfl rfl ?_
        refine WO.getR (j := 0) (p := 21) (n := 113) hA (x_20 hw) rfl fiX0_findStillest_X0 (by decide) rfl fkX0_findStillest_9 dX0_findStillest_110 rfl ?_
        refine WO.iconst (x := (0 : Int32)) (n := 114) hA dX0_findStillest_113 (by decide) rfl ?_
        refine WO.aload_n (n := 115) hA dX0_findStillest_114 3 rfl rfl ?_
        refine WO.getI (j := 6) (n := 118) hA (st_0 hw ha1) rfl fiX0_findStillest_X3 (by decide) rfl fkX0_findStillest_23 dX0_findStillest_115 rfl ?_
        refine WO.acopy (n := 121) hA (x_22 hw) (x_21 hw) akX0_findStillest_44 akX0_findStillest_n akX0_findStillest_s akX0_findStillest_i (Nat.le_of_ble_eq_true rfl) (Nat.le_of_ble_eq_true rfl) dX0_findStillest_118 rfl ?_
        refine WO.mem (fun M16 => ?_)
        refine WO.aload_n (n := 122) hA dX0_findStillest_121 2 rfl rfl ?_
        refine WO.aload_n (n := 123) hA dX0_findStillest_122 3 rfl rfl ?_
        refine WO.getI (j := 6) (n := 126) hA (st_0 hw ha1) rfl fiX0_findStillest_X3 (by decide) rfl fkX0_findStillest_23 dX0_findStillest_123 rfl ?_
        refine WO.aload_n (n := 127) hA dX0_findStillest_126 3 rfl rfl ?_
        refine WO.getI (j := 5) (n := 130) hA (st_0 hw ha1) rfl fiX0_findStillest_X3 (by decide) rfl fkX0_findStillest_29 dX0_findStillest_127 rfl ?_
        refine WO.callVv (As := [.int (M16 a1 6), .int (M16 a1 5)]) (rest := []) (n := 133) hA (c_X0_stepRow v.2.1 w hw (M16 a1 6) (M16 a1 5) M16) gX0_findStillest_X0_stepRow rfl (x_20 hw) rfl mdX0_stepRow ⟨rfl, rfl, Nat.le_of_ble_eq_true rfl, Nat.le_of_ble_eq_true rfl⟩ rfl rfl (Nat.le_of_ble_eq_true rfl) dX0_findStillest_130 rfl (fun M17 => ?_)
        refine WO.iinc (y := (1 : Int32)) (lv' := [(4, .int (x4 + (1 : Int32))), (3, .int r14), (5, .int r14), (0, .ref (w.2.1 20)), (1, .ref (w.2.1 a1)), (2, .int x2)]) (n := 136) hA dX0_findStillest_133 5 rfl (by decide) (by decide) rfl rfl ?_
        refine WO.goto (n := 76) hA dX0_findStillest_136 (by decide) ?_
        refine WO.sub (lv' := [(0, .ref (w.2.1 20)), (1, .ref (w.2.1 a1)), (2, .int x2), (3, .int r14), (4, .int (x4 + (1 : Int32)))]) [3, 4, 5, 1, 0] rfl ?_
        exact ih r14 (x4 + (1 : Int32)) M17
set_option maxHeartbeats 4000000 in
set_option maxRecDepth 100000 in
theorem c_X0_findStillest (l : Launch) (w : Cw) (hw : w.2.2.2.2.2 = shX) (a1 : Nat) (ha1 : isSt a1) (M : Mem) : Ok l w eI yX0_findStillest wsX0_findStillest rmX0_findStillest [.ref (w.2.1 20), .ref (w.2.1 a1)] M (f_X0_findStillest a1 M) := by
  refine Ok.of (cc := cX0_findStillest) (nL := 6) (ret := (some .int)) (lv := [(0, .ref (w.2.1 20)), (1, .ref (w.2.1 a1))]) (by decide) rfl (Nat.le_of_ble_eq_true rfl) rfl (fun v hv hA => ?_)
  subst hv
  have hA : Act v w RX0 wsX0_findStillest cX0_findStillest 6 (some .int) := hA
  unfold f_X0_findStillest
  refine WO.iconst (x := (1 : Int32)) (n := 1) hA dX0_findStillest_0 (by decide) rfl ?_
  refine WO.istore_n (i := 2) (lv' := [(2, .int (1 : Int32)), (0, .ref (w.2.1 20)), (1, .ref (w.2.1 a1))]) (n := 2) hA dX0_findStillest_1 rfl (by decide) rfl rfl ?_
  refine WO.iconst (x := (0 : Int32)) (n := 3) hA dX0_findStillest_2 (by decide) rfl ?_
  refine WO.istore_n (i := 3) (lv' := [(3, .int (0 : Int32)), (2, .int (1 : Int32)), (0, .ref (w.2.1 20)), (1, .ref (w.2.1 a1))]) (n := 4) hA dX0_findStillest_3 rfl (by decide) rfl rfl ?_
  refine WO.sub (lv' := [(0, .ref (w.2.1 20)), (1, .ref (w.2.1 a1)), (2, .int (1 : Int32)), (3, .int (0 : Int32))]) [2, 3, 1, 0] rfl ?_
  refine w_X0_findStillest_L4 hw hA a1 ha1 _ (fun e8 M9 => ?_) _ _ _ _
  refine WO.aload_n (n := 67) hA dX0_findStillest_66 1 rfl rfl ?_
  refine WO.getI (j := 5) (n := 70) hA (st_0 hw ha1) rfl fiX0_findStillest_X3 (by decide) rfl fkX0_findStillest_29 dX0_findStillest_67 rfl ?_
  refine WO.iconst (x := (1 : Int32)) (n := 71) hA dX0_findStillest_70 (by decide) rfl ?_
  refine WO.iadd (n := 72) hA dX0_findStillest_71 rfl ?_
  refine WO.top (fun x_10 => ?_)
  refine WO.istore_n (i := 3) (lv' := [(3, .int x_10), (0, .ref (w.2.1 20)), (1, .ref (w.2.1 a1)), (2, .int e8)]) (n := 73) hA dX0_findStillest_72 rfl (by decide) rfl rfl ?_
  refine WO.iconst (x := (0 : Int32)) (n := 74) hA dX0_findStillest_73 (by decide) rfl ?_
  refine WO.istore (lv' := [(4, .int (0 : Int32)), (3, .int x_10), (0, .ref (w.2.1 20)), (1, .ref (w.2.1 a1)), (2, .int e8)]) (n := 76) hA dX0_findStillest_74 (by decide) rfl rfl ?_
  refine WO.sub (lv' := [(0, .ref (w.2.1 20)), (1, .ref (w.2.1 a1)), (2, .int e8), (3, .int x_10), (4, .int (0 : Int32))]) [2, 3, 4, 1, 0] rfl ?_
  refine w_X0_findStillest_L76 hw hA a1 ha1 e8 _ (fun e18 M19 => ?_) _ _ _ _
  refine WO.iload_n (n := 140) hA dX0_findStillest_139 0 rfl rfl ?_
  exact WO.iret hA dX0_findStillest_140
