/- X3_clocksWaking -/
abbrev rmX3_clocksWaking : Room := { frames := 3, cells := 0, slots := 0, locals := 67 }
theorem mdX3_clocksWaking : yX3_clocksWaking.cls = RX3 ∧ yX3_clocksWaking.cls ≠ "java/lang/invoke/MethodHandle" ∧ yX3_clocksWaking.cls ≠ "java/lang/invoke/VarHandle" ∧ (parseMethodDescriptor yX3_clocksWaking.desc).map (fun d => d.parameters.length) = some 1 := by decide +kernel
theorem fkX3_clocksWaking_32 : Cond.fieldLink RX3 32 (TX3 6).1 (TX3 6).2.1 (TX3 6).2.2.1 ∈ wsX3_clocksWaking := by decide +kernel
theorem fiX3_clocksWaking_X3 : ∀ q ∈ u_ws RX3 TX3 10, q ∈ wsX3_clocksWaking := by decide +kernel
theorem fkX3_clocksWaking_21 : Cond.fieldLink RX3 21 (TX3 3).1 (TX3 3).2.1 (TX3 3).2.2.1 ∈ wsX3_clocksWaking := by decide +kernel
noncomputable def f_X3_clocksWaking_L4 (a0 : Nat) (x1 : Int32) (kx : Int32 → Mem → Option (Int32 × Mem)) : Nat → Int32 → Int32 → Mem → Option (Int32 × Mem)
  | 0, _, _, _ => none
  | n + 1, x2, x3, M => if (M a0 6) ≤ x3 then (kx x2 M) else (bd (f_X3_sound a0 x3 M) (fun r2 M1 => grd x3 4 (bd (f_X3_wakes a0 x1 r2 (M1 (a0 + 4) x3.toNatClampNeg) M1) (fun r4 M3 => if r4 = 0 then (f_X3_clocksWaking_L4 a0 x1 kx n x2 (x3 + (1 : Int32)) M3) else (ilt (x2 ||| ((1 : Int32) <<< (x3 &&& 31))) (fun x_5 => f_X3_clocksWaking_L4 a0 x1 kx n x_5 (x3 + (1 : Int32)) M3))))))
noncomputable def f_X3_clocksWaking (a0 : Nat) (x1 : Int32) (M : Mem) : Option (Int32 × Mem) := f_X3_clocksWaking_L4 a0 x1 (fun e6 M7 => some (e6, M7)) FU (0 : Int32) (0 : Int32) M
set_option maxHeartbeats 4000000 in
set_option maxRecDepth 100000 in
theorem w_X3_clocksWaking_L4 {v : Av} {w : Cw} (hw : w.2.2.2.2.2 = shX) (hA : Act v w RX3 wsX3_clocksWaking cX3_clocksWaking 4 (some .int)) (a0 : Nat) (ha0 : isSt a0) (x1 : Int32) (kx : Int32 → Mem → Option (Int32 × Mem)) (hk : ∀ (y2 : Int32) (M : Mem), WO v w rmX3_clocksWaking 4 eI (kx y2 M) 43 [(2, .int y2)] [] M) : ∀ (n : Nat) (x2 : Int32) (x3 : Int32) (M : Mem), WO v w rmX3_clocksWaking 4 eI (f_X3_clocksWaking_L4 a0 x1 kx n x2 x3 M) 4 [(0, .ref (w.2.1 a0)), (1, .int x1), (2, .int x2), (3, .int x3)] [] M := by
  intro n
  induction n with
  | zero => intro x2 x3 M; exact WO.nothing
  | succ n ih =>
    intro x2 x3 M
    rw [f_X3_clocksWaking_L4]
    refine WO.iload_n (n := 5) hA dX3_clocksWaking_4 3 rfl rfl ?_
    refine WO.aload_n (n := 6) hA dX3_clocksWaking_5 0 rfl rfl ?_
    refine WO.getI (j := 6) (n := 9) hA (st_0 hw ha0) rfl fiX3_clocksWaking_X3 (by decide) rfl fkX3_clocksWaking_32 dX3_clocksWaking_6 rfl ?_
    refine WO.icmp_ge (tg := 43) (n := 12) hA dX3_clocksWaking_9 (by decide) rfl (fun _ => ?_) (fun _ => ?_)
    · refine WO.sub (lv' := [(2, .int x2)]) [2] rfl ?_
      exact hk x2 M
    · refine WO.aload_n (n := 13) hA dX3_clocksWaking_12 0 rfl rfl ?_
      refine WO.iload_n (n := 14) hA dX3_clocksWaking_13 1 rfl rfl ?_
      refine WO.aload_n (n := 15) hA dX3_clocksWaking_14 0 rfl rfl ?_
      refine WO.iload_n (n := 16) hA dX3_clocksWaking_15 3 rfl rfl ?_
      refine WO.callVi (As := [.int x3]) (rest := [.int x1, .ref (w.2.1 a0)]) (n := 19) hA (c_X3_sound v.2.1 w hw a0 x3 ha0 M) gX3_clocksWaking_X3_sound rfl (st_0 hw ha0) rfl mdX3_sound ⟨rfl, rfl, Nat.le_of_ble_eq_true rfl, Nat.le_of_ble_eq_true rfl⟩ rfl rfl (Nat.le_of_ble_eq_true rfl) dX3_clocksWaking_16 rfl (fun r2 M1 => ?_)
      refine WO.aload_n (n := 20) hA dX3_clocksWaking_19 0 rfl rfl ?_
      refine WO.getR (j := 3) (p := (a0 + 4)) (n := 23) hA (st_0 hw ha0) rfl fiX3_clocksWaking_X3 (by decide) rfl fkX3_clocksWaking_21 dX3_clocksWaking_20 rfl ?_
      refine WO.iload_n (n := 24) hA dX3_clocksWaking_23 3 rfl rfl ?_
      refine WO.iald (n := 25) hA (st_4 hw ha0) dX3_clocksWaking_24 rfl (fun _ => ?_)
      refine WO.callVi (As := [.int x1, .int r2, .int (M1 (a0 + 4) x3.toNatClampNeg)]) (rest := []) (n := 28) hA (c_X3_wakes v.2.1 w hw a0 x1 r2 (M1 (a0 + 4) x3.toNatClampNeg) ha0 M1) gX3_clocksWaking_X3_wakes rfl (st_0 hw ha0) rfl mdX3_wakes ⟨rfl, rfl, Nat.le_of_ble_eq_true rfl, Nat.le_of_ble_eq_true rfl⟩ rfl rfl (Nat.le_of_ble_eq_true rfl) dX3_clocksWaking_25 rfl (fun r4 M3 => ?_)
      refine WO.if_eq (tg := 37) (n := 31) hA dX3_clocksWaking_28 (by decide) rfl (fun _ => ?_) (fun _ => ?_)
      · refine WO.iinc (y := (1 : Int32)) (lv' := [(3, .int (x3 + (1 : Int32))), (0, .ref (w.2.1 a0)), (1, .int x1), (2, .int x2)]) (n := 40) hA dX3_clocksWaking_37 3 rfl (by decide) (by decide) rfl rfl ?_
        refine WO.goto (n := 4) hA dX3_clocksWaking_40 (by decide) ?_
        refine WO.sub (lv' := [(0, .ref (w.2.1 a0)), (1, .int x1), (2, .int x2), (3, .int (x3 + (1 : Int32)))]) [1, 2, 3, 0] rfl ?_
        exact ih x2 (x3 + (1 : Int32)) M3
      · refine WO.iload_n (n := 32) hA dX3_clocksWaking_31 2 rfl rfl ?_
        refine WO.iconst (x := (1 : Int32)) (n := 33) hA dX3_clocksWaking_32 (by decide) rfl ?_
        refine WO.iload_n (n := 34) hA dX3_clocksWaking_33 3 rfl rfl ?_
        refine WO.ishl (n := 35) hA dX3_clocksWaking_34 rfl ?_
        refine WO.ior (n := 36) hA dX3_clocksWaking_35 rfl ?_
        refine WO.top (fun x_5 => ?_)
        refine WO.istore_n (i := 2) (lv' := [(2, .int x_5), (0, .ref (w.2.1 a0)), (1, .int x1), (3, .int x3)]) (n := 37) hA dX3_clocksWaking_36 rfl (by decide) rfl rfl ?_
        refine WO.iinc (y := (1 : Int32)) (lv' := [(3, .int (x3 + (1 : Int32))), (2, .int x_5), (0, .ref (w.2.1 a0)), (1, .int x1)]) (n := 40) hA dX3_clocksWaking_37 3 rfl (by decide) (by decide) rfl rfl ?_
        refine WO.goto (n := 4) hA dX3_clocksWaking_40 (by decide) ?_
        refine WO.sub (lv' := [(0, .ref (w.2.1 a0)), (1, .int x1), (2, .int x_5), (3, .int (x3 + (1 : Int32)))]) [2, 3, 1, 0] rfl ?_
        exact ih x_5 (x3 + (1 : Int32)) M3
set_option maxHeartbeats 4000000 in
set_option maxRecDepth 100000 in
theorem c_X3_clocksWaking (l : Launch) (w : Cw) (hw : w.2.2.2.2.2 = shX) (a0 : Nat) (x1 : Int32) (ha0 : isSt a0) (M : Mem) : Ok l w eI yX3_clocksWaking wsX3_clocksWaking rmX3_clocksWaking [.ref (w.2.1 a0), .int x1] M (f_X3_clocksWaking a0 x1 M) := by
  refine Ok.of (cc := cX3_clocksWaking) (nL := 4) (ret := (some .int)) (lv := [(0, .ref (w.2.1 a0)), (1, .int x1)]) (by decide) rfl (Nat.le_of_ble_eq_true rfl) rfl (fun v hv hA => ?_)
  subst hv
  have hA : Act v w RX3 wsX3_clocksWaking cX3_clocksWaking 4 (some .int) := hA
  unfold f_X3_clocksWaking
  refine WO.iconst (x := (0 : Int32)) (n := 1) hA dX3_clocksWaking_0 (by decide) rfl ?_
  refine WO.istore_n (i := 2) (lv' := [(2, .int (0 : Int32)), (0, .ref (w.2.1 a0)), (1, .int x1)]) (n := 2) hA dX3_clocksWaking_1 rfl (by decide) rfl rfl ?_
  refine WO.iconst (x := (0 : Int32)) (n := 3) hA dX3_clocksWaking_2 (by decide) rfl ?_
  refine WO.istore_n (i := 3) (lv' := [(3, .int (0 : Int32)), (2, .int (0 : Int32)), (0, .ref (w.2.1 a0)), (1, .int x1)]) (n := 4) hA dX3_clocksWaking_3 rfl (by decide) rfl rfl ?_
  refine WO.sub (lv' := [(0, .ref (w.2.1 a0)), (1, .int x1), (2, .int (0 : Int32)), (3, .int (0 : Int32))]) [2, 3, 1, 0] rfl ?_
  refine w_X3_clocksWaking_L4 hw hA a0 ha0 x1 _ (fun e6 M7 => ?_) _ _ _ _
  refine WO.iload_n (n := 44) hA dX3_clocksWaking_43 0 rfl rfl ?_
  exact WO.iret hA dX3_clocksWaking_44
/- X3_stuffedClocks -/
abbrev rmX3_stuffedClocks : Room := { frames := 0, cells := 0, slots := 0, locals := 0 }
theorem mdX3_stuffedClocks : yX3_stuffedClocks.cls = RX3 ∧ yX3_stuffedClocks.cls ≠ "java/lang/invoke/MethodHandle" ∧ yX3_stuffedClocks.cls ≠ "java/lang/invoke/VarHandle" ∧ (parseMethodDescriptor yX3_stuffedClocks.desc).map (fun d => d.parameters.length) = some 0 := by decide +kernel
theorem fkX3_stuffedClocks_32 : Cond.fieldLink RX3 32 (TX3 6).1 (TX3 6).2.1 (TX3 6).2.2.1 ∈ wsX3_stuffedClocks := by decide +kernel
theorem fiX3_stuffedClocks_X3 : ∀ q ∈ u_ws RX3 TX3 10, q ∈ wsX3_stuffedClocks := by decide +kernel
theorem fkX3_stuffedClocks_24 : Cond.fieldLink RX3 24 (TX3 4).1 (TX3 4).2.1 (TX3 4).2.2.1 ∈ wsX3_stuffedClocks := by decide +kernel
noncomputable def f_X3_stuffedClocks_L4 (a0 : Nat) (kx : Int32 → Mem → Option (Int32 × Mem)) : Nat → Int32 → Int32 → Mem → Option (Int32 × Mem)
  | 0, _, _, _ => none
  | n + 1, x1, x2, M => if (M a0 6) ≤ x2 then (kx x1 M) else (grd x2 4 (if (M (a0 + 5) x2.toNatClampNeg) = 0 then (f_X3_stuffedClocks_L4 a0 kx n x1 (x2 + (1 : Int32)) M) else (ilt (x1 ||| ((1 : Int32) <<< (x2 &&& 31))) (fun x_1 => f_X3_stuffedClocks_L4 a0 kx n x_1 (x2 + (1 : Int32)) M))))
noncomputable def f_X3_stuffedClocks (a0 : Nat) (M : Mem) : Option (Int32 × Mem) := f_X3_stuffedClocks_L4 a0 (fun e2 M3 => some (e2, M3)) FU (0 : Int32) (0 : Int32) M
set_option maxHeartbeats 4000000 in
set_option maxRecDepth 100000 in
theorem w_X3_stuffedClocks_L4 {v : Av} {w : Cw} (hw : w.2.2.2.2.2 = shX) (hA : Act v w RX3 wsX3_stuffedClocks cX3_stuffedClocks 3 (some .int)) (a0 : Nat) (ha0 : isSt a0) (kx : Int32 → Mem → Option (Int32 × Mem)) (hk : ∀ (y1 : Int32) (M : Mem), WO v w rmX3_stuffedClocks 3 eI (kx y1 M) 33 [(1, .int y1)] [] M) : ∀ (n : Nat) (x1 : Int32) (x2 : Int32) (M : Mem), WO v w rmX3_stuffedClocks 3 eI (f_X3_stuffedClocks_L4 a0 kx n x1 x2 M) 4 [(0, .ref (w.2.1 a0)), (1, .int x1), (2, .int x2)] [] M := by
  intro n
  induction n with
  | zero => intro x1 x2 M; exact WO.nothing
  | succ n ih =>
    intro x1 x2 M
    rw [f_X3_stuffedClocks_L4]
    refine WO.iload_n (n := 5) hA dX3_stuffedClocks_4 2 rfl rfl ?_
    refine WO.aload_n (n := 6) hA dX3_stuffedClocks_5 0 rfl rfl ?_
    refine WO.getI (j := 6) (n := 9) hA (st_0 hw ha0) rfl fiX3_stuffedClocks_X3 (by decide) rfl fkX3_stuffedClocks_32 dX3_stuffedClocks_6 rfl ?_
    refine WO.icmp_ge (tg := 33) (n := 12) hA dX3_stuffedClocks_9 (by decide) rfl (fun _ => ?_) (fun _ => ?_)
    · refine WO.sub (lv' := [(1, .int x1)]) [1] rfl ?_
      exact hk x1 M
    · refine WO.aload_n (n := 13) hA dX3_stuffedClocks_12 0 rfl rfl ?_
      refine WO.getR (j := 4) (p := (a0 + 5)) (n := 16) hA (st_0 hw ha0) rfl fiX3_stuffedClocks_X3 (by decide) rfl fkX3_stuffedClocks_24 dX3_stuffedClocks_13 rfl ?_
      refine WO.iload_n (n := 17) hA dX3_stuffedClocks_16 2 rfl rfl ?_
      refine WO.zald (n := 18) hA (st_5 hw ha0) dX3_stuffedClocks_17 rfl (fun _ => ?_)
      refine WO.if_eq (tg := 27) (n := 21) hA dX3_stuffedClocks_18 (by decide) rfl (fun _ => ?_) (fun _ => ?_)
      · refine WO.iinc (y := (1 : Int32)) (lv' := [(2, .int (x2 + (1 : Int32))), (0, .ref (w.2.1 a0)), (1, .int x1)]) (n := 30) hA dX3_stuffedClocks_27 2 rfl (by decide) (by decide) rfl rfl ?_
        refine WO.goto (n := 4) hA dX3_stuffedClocks_30 (by decide) ?_
        refine WO.sub (lv' := [(0, .ref (w.2.1 a0)), (1, .int x1), (2, .int (x2 + (1 : Int32)))]) [1, 2, 0] rfl ?_
        exact ih x1 (x2 + (1 : Int32)) M
      · refine WO.iload_n (n := 22) hA dX3_stuffedClocks_21 1 rfl rfl ?_
        refine WO.iconst (x := (1 : Int32)) (n := 23) hA dX3_stuffedClocks_22 (by decide) rfl ?_
        refine WO.iload_n (n := 24) hA dX3_stuffedClocks_23 2 rfl rfl ?_
        refine WO.ishl (n := 25) hA dX3_stuffedClocks_24 rfl ?_
        refine WO.ior (n := 26) hA dX3_stuffedClocks_25 rfl ?_
        refine WO.top (fun x_1 => ?_)
        refine WO.istore_n (i := 1) (lv' := [(1, .int x_1), (0, .ref (w.2.1 a0)), (2, .int x2)]) (n := 27) hA dX3_stuffedClocks_26 rfl (by decide) rfl rfl ?_
        refine WO.iinc (y := (1 : Int32)) (lv' := [(2, .int (x2 + (1 : Int32))), (1, .int x_1), (0, .ref (w.2.1 a0))]) (n := 30) hA dX3_stuffedClocks_27 2 rfl (by decide) (by decide) rfl rfl ?_
        refine WO.goto (n := 4) hA dX3_stuffedClocks_30 (by decide) ?_
        refine WO.sub (lv' := [(0, .ref (w.2.1 a0)), (1, .int x_1), (2, .int (x2 + (1 : Int32)))]) [2, 1, 0] rfl ?_
        exact ih x_1 (x2 + (1 : Int32)) M
set_option maxHeartbeats 4000000 in
set_option maxRecDepth 100000 in
theorem c_X3_stuffedClocks (l : Launch) (w : Cw) (hw : w.2.2.2.2.2 = shX) (a0 : Nat) (ha0 : isSt a0) (M : Mem) : Ok l w eI yX3_stuffedClocks wsX3_stuffedClocks rmX3_stuffedClocks [.ref (w.2.1 a0)] M (f_X3_stuffedClocks a0 M) := by
  refine Ok.of (cc := cX3_stuffedClocks) (nL := 3) (ret := (some .int)) (lv := [(0, .ref (w.2.1 a0))]) (by decide) rfl (Nat.le_of_ble_eq_true rfl) rfl (fun v hv hA => ?_)
  subst hv
  have hA : Act v w RX3 wsX3_stuffedClocks cX3_stuffedClocks 3 (some .int) := hA
  unfold f_X3_stuffedClocks
  refine WO.iconst (x := (0 : Int32)) (n := 1) hA dX3_stuffedClocks_0 (by decide) rfl ?_
  refine WO.istore_n (i := 1) (lv' := [(1, .int (0 : Int32)), (0, .ref (w.2.1 a0))]) (n := 2) hA dX3_stuffedClocks_1 rfl (by decide) rfl rfl ?_
  refine WO.iconst (x := (0 : Int32)) (n := 3) hA dX3_stuffedClocks_2 (by decide) rfl ?_
  refine WO.istore_n (i := 2) (lv' := [(2, .int (0 : Int32)), (1, .int (0 : Int32)), (0, .ref (w.2.1 a0))]) (n := 4) hA dX3_stuffedClocks_3 rfl (by decide) rfl rfl ?_
  refine WO.sub (lv' := [(0, .ref (w.2.1 a0)), (1, .int (0 : Int32)), (2, .int (0 : Int32))]) [2, 1, 0] rfl ?_
  refine w_X3_stuffedClocks_L4 hw hA a0 ha0 _ (fun e2 M3 => ?_) _ _ _ _
  refine WO.iload_n (n := 34) hA dX3_stuffedClocks_33 0 rfl rfl ?_
  exact WO.iret hA dX3_stuffedClocks_34
/- X3_housesWithClocks -/
abbrev rmX3_housesWithClocks : Room := { frames := 0, cells := 0, slots := 0, locals := 0 }
theorem mdX3_housesWithClocks : yX3_housesWithClocks.cls = RX3 ∧ yX3_housesWithClocks.cls ≠ "java/lang/invoke/MethodHandle" ∧ yX3_housesWithClocks.cls ≠ "java/lang/invoke/VarHandle" ∧ (parseMethodDescriptor yX3_housesWithClocks.desc).map (fun d => d.parameters.length) = some 0 := by decide +kernel
theorem fkX3_housesWithClocks_32 : Cond.fieldLink RX3 32 (TX3 6).1 (TX3 6).2.1 (TX3 6).2.2.1 ∈ wsX3_housesWithClocks := by decide +kernel
theorem fiX3_housesWithClocks_X3 : ∀ q ∈ u_ws RX3 TX3 10, q ∈ wsX3_housesWithClocks := by decide +kernel
theorem fkX3_housesWithClocks_21 : Cond.fieldLink RX3 21 (TX3 3).1 (TX3 3).2.1 (TX3 3).2.2.1 ∈ wsX3_housesWithClocks := by decide +kernel
noncomputable def f_X3_housesWithClocks_L4 (a0 : Nat) (kx : Int32 → Mem → Option (Int32 × Mem)) : Nat → Int32 → Int32 → Mem → Option (Int32 × Mem)
  | 0, _, _, _ => none
  | n + 1, x1, x2, M => if (M a0 6) ≤ x2 then (kx x1 M) else (grd x2 4 (ilt (x1 ||| ((1 : Int32) <<< ((M (a0 + 4) x2.toNatClampNeg) &&& 31))) (fun x_1 => f_X3_housesWithClocks_L4 a0 kx n x_1 (x2 + (1 : Int32)) M)))
noncomputable def f_X3_housesWithClocks (a0 : Nat) (M : Mem) : Option (Int32 × Mem) := f_X3_housesWithClocks_L4 a0 (fun e2 M3 => some (e2, M3)) FU (0 : Int32) (0 : Int32) M
set_option maxHeartbeats 4000000 in
set_option maxRecDepth 100000 in
theorem w_X3_housesWithClocks_L4 {v : Av} {w : Cw} (hw : w.2.2.2.2.2 = shX) (hA : Act v w RX3 wsX3_housesWithClocks cX3_housesWithClocks 3 (some .int)) (a0 : Nat) (ha0 : isSt a0) (kx : Int32 → Mem → Option (Int32 × Mem)) (hk : ∀ (y1 : Int32) (M : Mem), WO v w rmX3_housesWithClocks 3 eI (kx y1 M) 29 [(1, .int y1)] [] M) : ∀ (n : Nat) (x1 : Int32) (x2 : Int32) (M : Mem), WO v w rmX3_housesWithClocks 3 eI (f_X3_housesWithClocks_L4 a0 kx n x1 x2 M) 4 [(0, .ref (w.2.1 a0)), (1, .int x1), (2, .int x2)] [] M := by
  intro n
  induction n with
  | zero => intro x1 x2 M; exact WO.nothing
  | succ n ih =>
    intro x1 x2 M
    rw [f_X3_housesWithClocks_L4]
    refine WO.iload_n (n := 5) hA dX3_housesWithClocks_4 2 rfl rfl ?_
    refine WO.aload_n (n := 6) hA dX3_housesWithClocks_5 0 rfl rfl ?_
    refine WO.getI (j := 6) (n := 9) hA (st_0 hw ha0) rfl fiX3_housesWithClocks_X3 (by decide) rfl fkX3_housesWithClocks_32 dX3_housesWithClocks_6 rfl ?_
    refine WO.icmp_ge (tg := 29) (n := 12) hA dX3_housesWithClocks_9 (by decide) rfl (fun _ => ?_) (fun _ => ?_)
    · refine WO.sub (lv' := [(1, .int x1)]) [1] rfl ?_
      exact hk x1 M
    · refine WO.iload_n (n := 13) hA dX3_housesWithClocks_12 1 rfl rfl ?_
      refine WO.iconst (x := (1 : Int32)) (n := 14) hA dX3_housesWithClocks_13 (by decide) rfl ?_
      refine WO.aload_n (n := 15) hA dX3_housesWithClocks_14 0 rfl rfl ?_
      refine WO.getR (j := 3) (p := (a0 + 4)) (n := 18) hA (st_0 hw ha0) rfl fiX3_housesWithClocks_X3 (by decide) rfl fkX3_housesWithClocks_21 dX3_housesWithClocks_15 rfl ?_
      refine WO.iload_n (n := 19) hA dX3_housesWithClocks_18 2 rfl rfl ?_
      refine WO.iald (n := 20) hA (st_4 hw ha0) dX3_housesWithClocks_19 rfl (fun _ => ?_)
      refine WO.ishl (n := 21) hA dX3_housesWithClocks_20 rfl ?_
      refine WO.ior (n := 22) hA dX3_housesWithClocks_21 rfl ?_
      refine WO.top (fun x_1 => ?_)
      refine WO.istore_n (i := 1) (lv' := [(1, .int x_1), (0, .ref (w.2.1 a0)), (2, .int x2)]) (n := 23) hA dX3_housesWithClocks_22 rfl (by decide) rfl rfl ?_
      refine WO.iinc (y := (1 : Int32)) (lv' := [(2, .int (x2 + (1 : Int32))), (1, .int x_1), (0, .ref (w.2.1 a0))]) (n := 26) hA dX3_housesWithClocks_23 2 rfl (by decide) (by decide) rfl rfl ?_
      refine WO.goto (n := 4) hA dX3_housesWithClocks_26 (by decide) ?_
      refine WO.sub (lv' := [(0, .ref (w.2.1 a0)), (1, .int x_1), (2, .int (x2 + (1 : Int32)))]) [2, 1, 0] rfl ?_
      exact ih x_1 (x2 + (1 : Int32)) M
set_option maxHeartbeats 4000000 in
set_option maxRecDepth 100000 in
theorem c_X3_housesWithClocks (l : Launch) (w : Cw) (hw : w.2.2.2.2.2 = shX) (a0 : Nat) (ha0 : isSt a0) (M : Mem) : Ok l w eI yX3_housesWithClocks wsX3_housesWithClocks rmX3_housesWithClocks [.ref (w.2.1 a0)] M (f_X3_housesWithClocks a0 M) := by
  refine Ok.of (cc := cX3_housesWithClocks) (nL := 3) (ret := (some .int)) (lv := [(0, .ref (w.2.1 a0))]) (by decide) rfl (Nat.le_of_ble_eq_true rfl) rfl (fun v hv hA => ?_)
  subst hv
  have hA : Act v w RX3 wsX3_housesWithClocks cX3_housesWithClocks 3 (some .int) := hA
  unfold f_X3_housesWithClocks
  refine WO.iconst (x := (0 : Int32)) (n := 1) hA dX3_housesWithClocks_0 (by decide) rfl ?_
  refine WO.istore_n (i := 1) (lv' := [(1, .int (0 : Int32)), (0, .ref (w.2.1 a0))]) (n := 2) hA dX3_housesWithClocks_1 rfl (by decide) rfl rfl ?_
  refine WO.iconst (x := (0 : Int32)) (n := 3) hA dX3_housesWithClocks_2 (by decide) rfl ?_
  refine WO.istore_n (i := 2) (lv' := [(2, .int (0 : Int32)), (1, .int (0 : Int32)), (0, .ref (w.2.1 a0))]) (n := 4) hA dX3_housesWithClocks_3 rfl (by decide) rfl rfl ?_
  refine WO.sub (lv' := [(0, .ref (w.2.1 a0)), (1, .int (0 : Int32)), (2, .int (0 : Int32))]) [2, 1, 0] rfl ?_
  refine w_X3_housesWithClocks_L4 hw hA a0 ha0 _ (fun e2 M3 => ?_) _ _ _ _
  refine WO.iload_n (n := 30) hA dX3_housesWithClocks_29 0 rfl rfl ?_
  exact WO.iret hA dX3_housesWithClocks_30
