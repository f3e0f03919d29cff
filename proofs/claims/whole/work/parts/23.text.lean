/- X4_takeDigit -/
abbrev rmX4_takeDigit : Room := { frames := 0, cells := 0, slots := 0, locals := 0 }
theorem mdX4_takeDigit : yX4_takeDigit.cls = RX4 ∧ yX4_takeDigit.cls ≠ "java/lang/invoke/MethodHandle" ∧ yX4_takeDigit.cls ≠ "java/lang/invoke/VarHandle" ∧ (parseMethodDescriptor yX4_takeDigit.desc).map (fun d => d.parameters.length) = some 2 := by decide +kernel
theorem fkX4_takeDigit_30 : Cond.fieldLink RX4 30 (TX4 2).1 (TX4 2).2.1 (TX4 2).2.2.1 ∈ wsX4_takeDigit := by decide +kernel
theorem fiX4_takeDigit_X4 : ∀ q ∈ u_ws RX4 TX4 3, q ∈ wsX4_takeDigit := by decide +kernel
theorem fkX4_takeDigit_26 : Cond.fieldLink RX4 26 (TX4 1).1 (TX4 1).2.1 (TX4 1).2.2.1 ∈ wsX4_takeDigit := by decide +kernel
theorem fkX4_takeDigit_9 : Cond.fieldLink RX4 9 (TX4 0).1 (TX4 0).2.1 (TX4 0).2.2.1 ∈ wsX4_takeDigit := by decide +kernel
noncomputable def f_X4_takeDigit (x1 : Int32) (x2 : Int32) (M : Mem) : Option (Int32 × Mem) := if (M 13 2) < (M 13 1) then (grd (M 13 2) 60 (ilt (M 14 (M 13 2).toNatClampNeg) (fun x_1 => if x_1 < ((48 : Int32) + x1) then (some ((-1 : Int32), M)) else (if x_1 ≤ ((48 : Int32) + x2) then (mlt (mu M 13 2 ((M 13 2) + (1 : Int32))) (fun M2 => some ((x_1 - (48 : Int32)), M2))) else (some ((-1 : Int32), M)))))) else (some ((-1 : Int32), M))
set_option maxHeartbeats 4000000 in
set_option maxRecDepth 100000 in
theorem c_X4_takeDigit (l : Launch) (w : Cw) (hw : w.2.2.2.2.2 = shX) (x1 : Int32) (x2 : Int32) (M : Mem) : Ok l w eI yX4_takeDigit wsX4_takeDigit rmX4_takeDigit [.ref (w.2.1 13), .int x1, .int x2] M (f_X4_takeDigit x1 x2 M) := by
  refine Ok.of (cc := cX4_takeDigit) (nL := 4) (ret := (some .int)) (lv := [(0, .ref (w.2.1 13)), (1, .int x1), (2, .int x2)]) (by decide) rfl (Nat.le_of_ble_eq_true rfl) rfl (fun v hv hA => ?_)
  subst hv
  have hA : Act v w RX4 wsX4_takeDigit cX4_takeDigit 4 (some .int) := hA
  unfold f_X4_takeDigit
  refine WO.aload_n (n := 1) hA dX4_takeDigit_0 0 rfl rfl ?_
  refine WO.getI (j := 2) (n := 4) hA (x_13 hw) rfl fiX4_takeDigit_X4 (by decide) rfl fkX4_takeDigit_30 dX4_takeDigit_1 rfl ?_
  refine WO.aload_n (n := 5) hA dX4_takeDigit_4 0 rfl rfl ?_
  refine WO.getI (j := 1) (n := 8) hA (x_13 hw) rfl fiX4_takeDigit_X4 (by decide) rfl fkX4_takeDigit_26 dX4_takeDigit_5 rfl ?_
  refine WO.icmp_lt (tg := 13) (n := 11) hA dX4_takeDigit_8 (by decide) rfl (fun _ => ?_) (fun _ => ?_)
  · refine WO.aload_n (n := 14) hA dX4_takeDigit_13 0 rfl rfl ?_
    refine WO.getR (j := 0) (p := 14) (n := 17) hA (x_13 hw) rfl fiX4_takeDigit_X4 (by decide) rfl fkX4_takeDigit_9 dX4_takeDigit_14 rfl ?_
    refine WO.aload_n (n := 18) hA dX4_takeDigit_17 0 rfl rfl ?_
    refine WO.getI (j := 2) (n := 21) hA (x_13 hw) rfl fiX4_takeDigit_X4 (by decide) rfl fkX4_takeDigit_30 dX4_takeDigit_18 rfl ?_
    refine WO.iald (n := 22) hA (x_14 hw) dX4_takeDigit_21 rfl (fun _ => ?_)
    refine WO.top (fun x_1 => ?_)
    refine WO.istore_n (i := 3) (lv' := [(3, .int x_1), (0, .ref (w.2.1 13)), (1, .int x1), (2, .int x2)]) (n := 23) hA dX4_takeDigit_22 rfl (by decide) rfl rfl ?_
    refine WO.iload_n (n := 24) hA dX4_takeDigit_23 0 rfl rfl ?_
    refine WO.bipush (x := (48 : Int32)) (n := 26) hA dX4_takeDigit_24 (by decide) rfl ?_
    refine WO.iload_n (n := 27) hA dX4_takeDigit_26 2 rfl rfl ?_
    refine WO.iadd (n := 28) hA dX4_takeDigit_27 rfl ?_
    refine WO.icmp_lt (tg := 39) (n := 31) hA dX4_takeDigit_28 (by decide) rfl (fun _ => ?_) (fun _ => ?_)
    · refine WO.iconst (x := (-1 : Int32)) (n := 40) hA dX4_takeDigit_39 (by decide) rfl ?_
      exact WO.iret hA dX4_takeDigit_40
    · refine WO.iload_n (n := 32) hA dX4_takeDigit_31 0 rfl rfl ?_
      refine WO.bipush (x := (48 : Int32)) (n := 34) hA dX4_takeDigit_32 (by decide) rfl ?_
      refine WO.iload_n (n := 35) hA dX4_takeDigit_34 3 rfl rfl ?_
      refine WO.iadd (n := 36) hA dX4_takeDigit_35 rfl ?_
      refine WO.icmp_le (tg := 41) (n := 39) hA dX4_takeDigit_36 (by decide) rfl (fun _ => ?_) (fun _ => ?_)
      · refine WO.aload_n (n := 42) hA dX4_takeDigit_41 1 rfl rfl ?_
        refine WO.dup (n := 43) hA dX4_takeDigit_42 rfl rfl ?_
        refine WO.getI (j := 2) (n := 46) hA (x_13 hw) rfl fiX4_takeDigit_X4 (by decide) rfl fkX4_takeDigit_30 dX4_takeDigit_43 rfl ?_
        refine WO.iconst (x := (1 : Int32)) (n := 47) hA dX4_takeDigit_46 (by decide) rfl ?_
        refine WO.iadd (n := 48) hA dX4_takeDigit_47 rfl ?_
        refine WO.putI (j := 2) (n := 51) hA (x_13 hw) rfl fiX4_takeDigit_X4 tyX4 tyX4_ok nmX4 (by decide) rfl fkX4_takeDigit_30 rfl rfl rfl rfl dX4_takeDigit_48 rfl ?_
        refine WO.mem (fun M2 => ?_)
        refine WO.iload_n (n := 52) hA dX4_takeDigit_51 0 rfl rfl ?_
        refine WO.bipush (x := (48 : Int32)) (n := 54) hA dX4_takeDigit_52 (by decide) rfl ?_
        refine WO.isub (n := 55) hA dX4_takeDigit_54 rfl ?_
        exact WO.iret hA dX4_takeDigit_55
      · refine WO.iconst (x := (-1 : Int32)) (n := 40) hA dX4_takeDigit_39 (by decide) rfl ?_
        exact WO.iret hA dX4_takeDigit_40
  · refine WO.iconst (x := (-1 : Int32)) (n := 12) hA dX4_takeDigit_11 (by decide) rfl ?_
    exact WO.iret hA dX4_takeDigit_12
/- X4_takeSign -/
abbrev rmX4_takeSign : Room := { frames := 0, cells := 0, slots := 0, locals := 0 }
theorem mdX4_takeSign : yX4_takeSign.cls = RX4 ∧ yX4_takeSign.cls ≠ "java/lang/invoke/MethodHandle" ∧ yX4_takeSign.cls ≠ "java/lang/invoke/VarHandle" ∧ (parseMethodDescriptor yX4_takeSign.desc).map (fun d => d.parameters.length) = some 1 := by decide +kernel
theorem fkX4_takeSign_30 : Cond.fieldLink RX4 30 (TX4 2).1 (TX4 2).2.1 (TX4 2).2.2.1 ∈ wsX4_takeSign := by decide +kernel
theorem fiX4_takeSign_X4 : ∀ q ∈ u_ws RX4 TX4 3, q ∈ wsX4_takeSign := by decide +kernel
theorem fkX4_takeSign_26 : Cond.fieldLink RX4 26 (TX4 1).1 (TX4 1).2.1 (TX4 1).2.2.1 ∈ wsX4_takeSign := by decide +kernel
theorem fkX4_takeSign_9 : Cond.fieldLink RX4 9 (TX4 0).1 (TX4 0).2.1 (TX4 0).2.2.1 ∈ wsX4_takeSign := by decide +kernel
noncomputable def f_X4_takeSign (x1 : Int32) (M : Mem) : Option (Int32 × Mem) := if (M 13 1) ≤ (M 13 2) then (some ((0 : Int32), M)) else (grd (M 13 2) 60 (if (M 14 (M 13 2).toNatClampNeg) = x1 then (mlt (mu M 13 2 ((M 13 2) + (1 : Int32))) (fun M1 => some ((1 : Int32), M1))) else (some ((0 : Int32), M))))
set_option maxHeartbeats 4000000 in
set_option maxRecDepth 100000 in
theorem c_X4_takeSign (l : Launch) (w : Cw) (hw : w.2.2.2.2.2 = shX) (x1 : Int32) (M : Mem) : Ok l w eI yX4_takeSign wsX4_takeSign rmX4_takeSign [.ref (w.2.1 13), .int x1] M (f_X4_takeSign x1 M) := by
  refine Ok.of (cc := cX4_takeSign) (nL := 2) (ret := (some .boolean)) (lv := [(0, .ref (w.2.1 13)), (1, .int x1)]) (by decide) rfl (Nat.le_of_ble_eq_true rfl) rfl (fun v hv hA => ?_)
  subst hv
  have hA : Act v w RX4 wsX4_takeSign cX4_takeSign 2 (some .boolean) := hA
  unfold f_X4_takeSign
  refine WO.aload_n (n := 1) hA dX4_takeSign_0 0 rfl rfl ?_
  refine WO.getI (j := 2) (n := 4) hA (x_13 hw) rfl fiX4_takeSign_X4 (by decide) rfl fkX4_takeSign_30 dX4_takeSign_1 rfl ?_
  refine WO.aload_n (n := 5) hA dX4_takeSign_4 0 rfl rfl ?_
  refine WO.getI (j := 1) (n := 8) hA (x_13 hw) rfl fiX4_takeSign_X4 (by decide) rfl fkX4_takeSign_26 dX4_takeSign_5 rfl ?_
  refine WO.icmp_ge (tg := 24) (n := 11) hA dX4_takeSign_8 (by decide) rfl (fun _ => ?_) (fun _ => ?_)
  · refine WO.iconst (x := (0 : Int32)) (n := 25) hA dX4_takeSign_24 (by decide) rfl ?_
    exact WO.zretc hA (by decide) dX4_takeSign_25
  · refine WO.aload_n (n := 12) hA dX4_takeSign_11 0 rfl rfl ?_
    refine WO.getR (j := 0) (p := 14) (n := 15) hA (x_13 hw) rfl fiX4_takeSign_X4 (by decide) rfl fkX4_takeSign_9 dX4_takeSign_12 rfl ?_
    refine WO.aload_n (n := 16) hA dX4_takeSign_15 0 rfl rfl ?_
    refine WO.getI (j := 2) (n := 19) hA (x_13 hw) rfl fiX4_takeSign_X4 (by decide) rfl fkX4_takeSign_30 dX4_takeSign_16 rfl ?_
    refine WO.iald (n := 20) hA (x_14 hw) dX4_takeSign_19 rfl (fun _ => ?_)
    refine WO.iload_n (n := 21) hA dX4_takeSign_20 1 rfl rfl ?_
    refine WO.icmp_eq (tg := 26) (n := 24) hA dX4_takeSign_21 (by decide) rfl (fun _ => ?_) (fun _ => ?_)
    · refine WO.aload_n (n := 27) hA dX4_takeSign_26 0 rfl rfl ?_
      refine WO.dup (n := 28) hA dX4_takeSign_27 rfl rfl ?_
      refine WO.getI (j := 2) (n := 31) hA (x_13 hw) rfl fiX4_takeSign_X4 (by decide) rfl fkX4_takeSign_30 dX4_takeSign_28 rfl ?_
      refine WO.iconst (x := (1 : Int32)) (n := 32) hA dX4_takeSign_31 (by decide) rfl ?_
      refine WO.iadd (n := 33) hA dX4_takeSign_32 rfl ?_
      refine WO.putI (j := 2) (n := 36) hA (x_13 hw) rfl fiX4_takeSign_X4 tyX4 tyX4_ok nmX4 (by decide) rfl fkX4_takeSign_30 rfl rfl rfl rfl dX4_takeSign_33 rfl ?_
      refine WO.mem (fun M1 => ?_)
      refine WO.iconst (x := (1 : Int32)) (n := 37) hA dX4_takeSign_36 (by decide) rfl ?_
      exact WO.zretc hA (by decide) dX4_takeSign_37
    · refine WO.iconst (x := (0 : Int32)) (n := 25) hA dX4_takeSign_24 (by decide) rfl ?_
      exact WO.zretc hA (by decide) dX4_takeSign_25
/- X4_readClocks -/
abbrev rmX4_readClocks : Room := { frames := 1, cells := 0, slots := 0, locals := 23 }
theorem mdX4_readClocks : yX4_readClocks.cls = RX4 ∧ yX4_readClocks.cls ≠ "java/lang/invoke/MethodHandle" ∧ yX4_readClocks.cls ≠ "java/lang/invoke/VarHandle" ∧ (parseMethodDescriptor yX4_readClocks.desc).map (fun d => d.parameters.length) = some 1 := by decide +kernel
theorem fkX4_readClocks_67 : Cond.fieldLink RX4 67 (TX3 5).1 (TX3 5).2.1 (TX3 5).2.2.1 ∈ wsX4_readClocks := by decide +kernel
theorem fiX4_readClocks_X3 : ∀ q ∈ u_ws RX3 TX3 10, q ∈ wsX4_readClocks := by decide +kernel
theorem fkX4_readClocks_73 : Cond.fieldLink RX4 73 (TX3 6).1 (TX3 6).2.1 (TX3 6).2.2.1 ∈ wsX4_readClocks := by decide +kernel
noncomputable def f_X4_readClocks_L2 (a1 : Nat) (kx : Mem → Option (Int32 × Mem)) : Nat → Int32 → Mem → Option (Int32 × Mem)
  | 0, _, _ => none
  | n + 1, x2, M => if (4 : Int32) ≤ x2 then (kx  M) else (bd (f_X4_takeSign (44 : Int32) M) (fun r2 M1 => if r2 = 0 then (kx  M1) else (bd (f_X4_takeDigit (1 : Int32) (9 : Int32) M1) (fun r4 M3 => if r4 = (-1 : Int32) then (some ((0 : Int32), M3)) else (bd (f_X4_takeDigit (0 : Int32) ((M3 a1 5) - (1 : Int32)) M3) (fun r6 M5 => if r6 = (-1 : Int32) then (some ((0 : Int32), M5)) else (bd (f_X3_addClock a1 r4 r6 M5) (fun _ M7 => f_X4_readClocks_L2 a1 kx n (x2 + (1 : Int32)) M7))))))))
noncomputable def f_X4_readClocks (a1 : Nat) (M : Mem) : Option (Int32 × Mem) := f_X4_readClocks_L2 a1 (fun  M8 => if (M8 a1 6) ≤ 0 then (some ((0 : Int32), M8)) else (some ((1 : Int32), M8))) FU (0 : Int32) M
set_option maxHeartbeats 4000000 in
set_option maxRecDepth 100000 in
theorem w_X4_readClocks_L2 {v : Av} {w : Cw} (hw : w.2.2.2.2.2 = shX) (hA : Act v w RX4 wsX4_readClocks cX4_readClocks 5 (some .boolean)) (a1 : Nat) (ha1 : isSt a1) (kx : Mem → Option (Int32 × Mem)) (hk : ∀ (M : Mem), WO v w rmX4_readClocks 5 eI (kx M) 65 [(1, .ref (w.2.1 a1))] [] M) : ∀ (n : Nat) (x2 : Int32) (M : Mem), WO v w rmX4_readClocks 5 eI (f_X4_readClocks_L2 a1 kx n x2 M) 2 [(0, .ref (w.2.1 13)), (1, .ref (w.2.1 a1)), (2, .int x2)] [] M := by
  intro n
  induction n with
  | zero => intro x2 M; exact WO.nothing
  | succ n ih =>
    intro x2 M
    rw [f_X4_readClocks_L2]
    refine WO.iload_n (n := 3) hA dX4_readClocks_2 2 rfl rfl ?_
    refine WO.iconst (x := (4 : Int32)) (n := 4) hA dX4_readClocks_3 (by decide) rfl ?_
    refine WO.icmp_ge (tg := 65) (n := 7) hA dX4_readClocks_4 (by decide) rfl (fun _ => ?_) (fun _ => ?_)
    · refine WO.sub (lv' := [(1, .ref (w.2.1 a1))]) [1] rfl ?_
      exact hk  M
    · refine WO.aload_n (n := 8) hA dX4_readClocks_7 0 rfl rfl ?_
      refine WO.bipush (x := (44 : Int32)) (n := 10) hA dX4_readClocks_8 (by decide) rfl ?_
      refine WO.callVi (As := [.int (44 : Int32)]) (rest := []) (n := 13) hA (c_X4_takeSign v.2.1 w hw (44 : Int32) M) gX4_readClocks_X4_takeSign rfl (x_13 hw) rfl mdX4_takeSign ⟨rfl, rfl, Nat.le_of_ble_eq_true rfl, Nat.le_of_ble_eq_true rfl⟩ rfl rfl (Nat.le_of_ble_eq_true rfl) dX4_readClocks_10 rfl (fun r2 M1 => ?_)
      refine WO.if_eq (tg := 65) (n := 16) hA dX4_readClocks_13 (by decide) rfl (fun _ => ?_) (fun _ => ?_)
      · refine WO.sub (lv' := [(1, .ref (w.2.1 a1))]) [1] rfl ?_
        exact hk  M1
      · refine WO.aload_n (n := 17) hA dX4_readClocks_16 0 rfl rfl ?_
        refine WO.iconst (x := (1 : Int32)) (n := 18) hA dX4_readClocks_17 (by decide) rfl ?_
        refine WO.bipush (x := (9 : Int32)) (n := 20) hA dX4_readClocks_18 (by decide) rfl ?_
        refine WO.callVi (As := [.int (1 : Int32), .int (9 : Int32)]) (rest := []) (n := 23) hA (c_X4_takeDigit v.2.1 w hw (1 : Int32) (9 : Int32) M1) gX4_readClocks_X4_takeDigit rfl (x_13 hw) rfl mdX4_takeDigit ⟨rfl, rfl, Nat.le_of_ble_eq_true rfl, Nat.le_of_ble_eq_true rfl⟩ rfl rfl (Nat.le_of_ble_eq_true rfl) dX4_readClocks_20 rfl (fun r4 M3 => ?_)
        refine WO.istore_n (i := 3) (lv' := [(3, .int r4), (0, .ref (w.2.1 13)), (1, .ref (w.2.1 a1)), (2, .int x2)]) (n := 24) hA dX4_readClocks_23 rfl (by decide) rfl rfl ?_
        refine WO.iload_n (n := 25) hA dX4_readClocks_24 0 rfl rfl ?_
        refine WO.iconst (x := (-1 : Int32)) (n := 26) hA dX4_readClocks_25 (by decide) rfl ?_
        refine WO.icmp_ne (tg := 31) (n := 29) hA dX4_readClocks_26 (by decide) rfl (fun _ => ?_) (fun _ => ?_)
        · refine WO.iconst (x := (0 : Int32)) (n := 30) hA dX4_readClocks_29 (by decide) rfl ?_
          exact WO.zretc hA (by decide) dX4_readClocks_30
        · refine WO.aload_n (n := 32) hA dX4_readClocks_31 1 rfl rfl ?_
          refine WO.iconst (x := (0 : Int32)) (n := 33) hA dX4_readClocks_32 (by decide) rfl ?_
          refine WO.aload_n (n := 34) hA dX4_readClocks_33 2 rfl rfl ?_
          refine WO.getI (j := 5) (n := 37) hA (st_0 hw ha1) rfl fiX4_readClocks_X3 (by decide) rfl fkX4_readClocks_67 dX4_readClocks_34 rfl ?_
          refine WO.iconst (x := (1 : Int32)) (n := 38) hA dX4_readClocks_37 (by decide) rfl ?_
          refine WO.isub (n := 39) hA dX4_readClocks_38 rfl ?_
          refine WO.callVi (As := [.int (0 : Int32), .int ((M3 a1 5) - (1 : Int32))]) (rest := []) (n := 42) hA (c_X4_takeDigit v.2.1 w hw (0 : Int32) ((M3 a1 5) - (1 : Int32)) M3) gX4_readClocks_X4_takeDigit rfl (x_13 hw) rfl mdX4_takeDigit ⟨rfl, rfl, Nat.le_of_ble_eq_true rfl, Nat.le_of_ble_eq_true rfl⟩ rfl rfl (Nat.le_of_ble_eq_true rfl) dX4_readClocks_39 rfl (fun r6 M5 => ?_)
          refine WO.istore (lv' := [(4, .int r6), (3, .int r4), (0, .ref (w.2.1 13)), (1, .ref (w.2.1 a1)), (2, .int x2)]) (n := 44) hA dX4_readClocks_42 (by decide) rfl rfl ?_
          refine WO.iload (n := 46) hA dX4_readClocks_44 0 rfl rfl ?_
          refine WO.iconst (x := (-1 : Int32)) (n := 47) hA dX4_readClocks_46 (by decide) rfl ?_
          refine WO.icmp_ne (tg := 52) (n := 50) hA dX4_readClocks_47 (by decide) rfl (fun _ => ?_) (fun _ => ?_)
          · refine WO.iconst (x := (0 : Int32)) (n := 51) hA dX4_readClocks_50 (by decide) rfl ?_
            exact WO.zretc hA (by decide) dX4_readClocks_51
          · refine WO.aload_n (n := 53) hA dX4_readClocks_52 3 rfl rfl ?_
            refine WO.iload_n (n := 54) hA dX4_readClocks_53 1 rfl rfl ?_
            refine WO.iload (n := 56) hA dX4_readClocks_54 0 rfl rfl ?_
            refine WO.callVv (As := [.int r4, .int r6]) (rest := []) (n := 59) hA (c_X3_addClock v.2.1 w hw a1 r4 r6 ha1 M5) gX4_readClocks_X3_addClock rfl (st_0 hw ha1) rfl mdX3_addClock ⟨rfl, rfl, Nat.le_of_ble_eq_true rfl, Nat.le_of_ble_eq_true rfl⟩ rfl rfl (Nat.le_of_ble_eq_true rfl) dX4_readClocks_56 rfl (fun M7 => ?_)
            refine WO.iinc (y := (1 : Int32)) (lv' := [(2, .int (x2 + (1 : Int32))), (4, .int r6), (3, .int r4), (0, .ref (w.2.1 13)), (1, .ref (w.2.1 a1))]) (n := 62) hA dX4_readClocks_59 4 rfl (by decide) (by decide) rfl rfl ?_
            refine WO.goto (n := 2) hA dX4_readClocks_62 (by decide) ?_
            refine WO.sub (lv' := [(0, .ref (w.2.1 13)), (1, .ref (w.2.1 a1)), (2, .int (x2 + (1 : Int32)))]) [3, 4, 0] rfl ?_
            exact ih (x2 + (1 : Int32)) M7
set_option maxHeartbeats 4000000 in
set_option maxRecDepth 100000 in
theorem c_X4_readClocks (l : Launch) (w : Cw) (hw : w.2.2.2.2.2 = shX) (a1 : Nat) (ha1 : isSt a1) (M : Mem) : Ok l w eI yX4_readClocks wsX4_readClocks rmX4_readClocks [.ref (w.2.1 13), .ref (w.2.1 a1)] M (f_X4_readClocks a1 M) := by
  refine Ok.of (cc := cX4_readClocks) (nL := 5) (ret := (some .boolean)) (lv := [(0, .ref (w.2.1 13)), (1, .ref (w.2.1 a1))]) (by decide) rfl (Nat.le_of_ble_eq_true rfl) rfl (fun v hv hA => ?_)
  subst hv
  have hA : Act v w RX4 wsX4_readClocks cX4_readClocks 5 (some .boolean) := hA
  unfold f_X4_readClocks
  refine WO.iconst (x := (0 : Int32)) (n := 1) hA dX4_readClocks_0 (by decide) rfl ?_
  refine WO.istore_n (i := 2) (lv' := [(2, .int (0 : Int32)), (0, .ref (w.2.1 13)), (1, .ref (w.2.1 a1))]) (n := 2) hA dX4_readClocks_1 rfl (by decide) rfl rfl ?_
  refine WO.sub (lv' := [(0, .ref (w.2.1 13)), (1, .ref (w.2.1 a1)), (2, .int (0 : Int32))]) [1, 2, 0] rfl ?_
  refine w_X4_readClocks_L2 hw hA a1 ha1 _ (fun  M8 => ?_) _ _ _
  refine WO.aload_n (n := 66) hA dX4_readClocks_65 0 rfl rfl ?_
  refine WO.getI (j := 6) (n := 69) hA (st_0 hw ha1) rfl fiX4_readClocks_X3 (by decide) rfl fkX4_readClocks_73 dX4_readClocks_66 rfl ?_
  refine WO.if_le (tg := 76) (n := 72) hA dX4_readClocks_69 (by decide) rfl (fun _ => ?_) (fun _ => ?_)
  · refine WO.iconst (x := (0 : Int32)) (n := 77) hA dX4_readClocks_76 (by decide) rfl ?_
    exact WO.zretc hA (by decide) dX4_readClocks_77
  · refine WO.iconst (x := (1 : Int32)) (n := 73) hA dX4_readClocks_72 (by decide) rfl ?_
    refine WO.goto (n := 77) hA dX4_readClocks_73 (by decide) ?_
    exact WO.zretc hA (by decide) dX4_readClocks_77
/- X4_takeKind -/
abbrev rmX4_takeKind : Room := { frames := 1, cells := 0, slots := 0, locals := 21 }
theorem mdX4_takeKind : yX4_takeKind.cls = RX4 ∧ yX4_takeKind.cls ≠ "java/lang/invoke/MethodHandle" ∧ yX4_takeKind.cls ≠ "java/lang/invoke/VarHandle" ∧ (parseMethodDescriptor yX4_takeKind.desc).map (fun d => d.parameters.length) = some 0 := by decide +kernel
noncomputable def f_X4_takeKind (M : Mem) : Option (Int32 × Mem) := bd (f_X4_takeSign (115 : Int32) M) (fun r2 M1 => if r2 = 0 then (bd (f_X4_takeSign (110 : Int32) M1) (fun r4 M3 => if r4 = 0 then (bd (f_X4_takeSign (98 : Int32) M3) (fun r6 M5 => if r6 = 0 then (some ((-9 : Int32), M5)) else (some ((2 : Int32), M5)))) else (some ((1 : Int32), M3)))) else (some ((0 : Int32), M1)))
set_option maxHeartbeats 4000000 in
set_option maxRecDepth 100000 in
theorem c_X4_takeKind (l : Launch) (w : Cw) (hw : w.2.2.2.2.2 = shX) (M : Mem) : Ok l w eI yX4_takeKind wsX4_takeKind rmX4_takeKind [.ref (w.2.1 13)] M (f_X4_takeKind M) := by
  refine Ok.of (cc := cX4_takeKind) (nL := 1) (ret := (some .int)) (lv := [(0, .ref (w.2.1 13))]) (by decide) rfl (Nat.le_of_ble_eq_true rfl) rfl (fun v hv hA => ?_)
  subst hv
  have hA : Act v w RX4 wsX4_takeKind cX4_takeKind 1 (some .int) := hA
  unfold f_X4_takeKind
  refine WO.aload_n (n := 1) hA dX4_takeKind_0 0 rfl rfl ?_
  refine WO.bipush (x := (115 : Int32)) (n := 3) hA dX4_takeKind_1 (by decide) rfl ?_
  refine WO.callVi (As := [.int (115 : Int32)]) (rest := []) (n := 6) hA (c_X4_takeSign v.2.1 w hw (115 : Int32) M) gX4_takeKind_X4_takeSign rfl (x_13 hw) rfl mdX4_takeSign ⟨rfl, rfl, Nat.le_of_ble_eq_true rfl, Nat.le_of_ble_eq_true rfl⟩ rfl rfl (Nat.le_of_ble_eq_true rfl) dX4_takeKind_3 rfl (fun r2 M1 => ?_)
  refine WO.if_eq (tg := 11) (n := 9) hA dX4_takeKind_6 (by decide) rfl (fun _ => ?_) (fun _ => ?_)
  · refine WO.aload_n (n := 12) hA dX4_takeKind_11 0 rfl rfl ?_
    refine WO.bipush (x := (110 : Int32)) (n := 14) hA dX4_takeKind_12 (by decide) rfl ?_
    refine WO.callVi (As := [.int (110 : Int32)]) (rest := []) (n := 17) hA (c_X4_takeSign v.2.1 w hw (110 : Int32) M1) gX4_takeKind_X4_takeSign rfl (x_13 hw) rfl mdX4_takeSign ⟨rfl, rfl, Nat.le_of_ble_eq_true rfl, Nat.le_of_ble_eq_true rfl⟩ rfl rfl (Nat.le_of_ble_eq_true rfl) dX4_takeKind_14 rfl (fun r4 M3 => ?_)
    refine WO.if_eq (tg := 22) (n := 20) hA dX4_takeKind_17 (by decide) rfl (fun _ => ?_) (fun _ => ?_)
    · refine WO.aload_n (n := 23) hA dX4_takeKind_22 0 rfl rfl ?_
      refine WO.bipush (x := (98 : Int32)) (n := 25) hA dX4_takeKind_23 (by decide) rfl ?_
      refine WO.callVi (As := [.int (98 : Int32)]) (rest := []) (n := 28) hA (c_X4_takeSign v.2.1 w hw (98 : Int32) M3) gX4_takeKind_X4_takeSign rfl (x_13 hw) rfl mdX4_takeSign ⟨rfl, rfl, Nat.le_of_ble_eq_true rfl, Nat.le_of_ble_eq_true rfl⟩ rfl rfl (Nat.le_of_ble_eq_true rfl) dX4_takeKind_25 rfl (fun r6 M5 => ?_)
      refine WO.if_eq (tg := 35) (n := 31) hA dX4_takeKind_28 (by decide) rfl (fun _ => ?_) (fun _ => ?_)
      · refine WO.bipush (x := (-9 : Int32)) (n := 37) hA dX4_takeKind_35 (by decide) rfl ?_
        exact WO.iret hA dX4_takeKind_37
      · refine WO.iconst (x := (2 : Int32)) (n := 32) hA dX4_takeKind_31 (by decide) rfl ?_
        refine WO.goto (n := 37) hA dX4_takeKind_32 (by decide) ?_
        exact WO.iret hA dX4_takeKind_37
    · refine WO.iconst (x := (1 : Int32)) (n := 21) hA dX4_takeKind_20 (by decide) rfl ?_
      exact WO.iret hA dX4_takeKind_21
  · refine WO.iconst (x := (0 : Int32)) (n := 10) hA dX4_takeKind_9 (by decide) rfl ?_
    exact WO.iret hA dX4_takeKind_10
/- X4_readHouses -/
abbrev rmX4_readHouses : Room := { frames := 2, cells := 0, slots := 0, locals := 41 }
theorem mdX4_readHouses : yX4_readHouses.cls = RX4 ∧ yX4_readHouses.cls ≠ "java/lang/invoke/MethodHandle" ∧ yX4_readHouses.cls ≠ "java/lang/invoke/VarHandle" ∧ (parseMethodDescriptor yX4_readHouses.desc).map (fun d => d.parameters.length) = some 1 := by decide +kernel
theorem fkX4_readHouses_67 : Cond.fieldLink RX4 67 (TX3 5).1 (TX3 5).2.1 (TX3 5).2.2.1 ∈ wsX4_readHouses := by decide +kernel
theorem fiX4_readHouses_X3 : ∀ q ∈ u_ws RX3 TX3 10, q ∈ wsX4_readHouses := by decide +kernel
noncomputable def f_X4_readHouses_L2 (a1 : Nat) (kx : Mem → Option (Int32 × Mem)) : Nat → Int32 → Mem → Option (Int32 × Mem)
  | 0, _, _ => none
  | n + 1, x2, M => if (6 : Int32) ≤ x2 then (kx  M) else (bd (f_X4_takeSign (59 : Int32) M) (fun r2 M1 => if r2 = 0 then (kx  M1) else (bd (f_X4_takeKind M1) (fun r4 M3 => if r4 = (-9 : Int32) then (some ((0 : Int32), M3)) else (bd (f_X4_takeDigit (1 : Int32) (9 : Int32) M3) (fun r6 M5 => if r6 = (-1 : Int32) then (some ((0 : Int32), M5)) else (bd (f_X3_addHouse a1 r4 r6 M5) (fun _ M7 => f_X4_readHouses_L2 a1 kx n (x2 + (1 : Int32)) M7))))))))
noncomputable def f_X4_readHouses (a1 : Nat) (M : Mem) : Option (Int32 × Mem) := f_X4_readHouses_L2 a1 (fun  M8 => if (M8 a1 5) < (2 : Int32) then (some ((0 : Int32), M8)) else (some ((1 : Int32), M8))) FU (0 : Int32) M
set_option maxHeartbeats 4000000 in
set_option maxRecDepth 100000 in
theorem w_X4_readHouses_L2 {v : Av} {w : Cw} (hw : w.2.2.2.2.2 = shX) (hA : Act v w RX4 wsX4_readHouses cX4_readHouses 5 (some .boolean)) (a1 : Nat) (ha1 : isSt a1) (kx : Mem → Option (Int32 × Mem)) (hk : ∀ (M : Mem), WO v w rmX4_readHouses 5 eI (kx M) 60 [(1, .ref (w.2.1 a1))] [] M) : ∀ (n : Nat) (x2 : Int32) (M : Mem), WO v w rmX4_readHouses 5 eI (f_X4_readHouses_L2 a1 kx n x2 M) 2 [(0, .ref (w.2.1 13)), (1, .ref (w.2.1 a1)), (2, .int x2)] [] M := by
  intro n
  induction n with
  | zero => intro x2 M; exact WO.nothing
  | succ n ih =>
    intro x2 M
    rw [f_X4_readHouses_L2]
    refine WO.iload_n (n := 3) hA dX4_readHouses_2 2 rfl rfl ?_
    refine WO.bipush (x := (6 : Int32)) (n := 5) hA dX4_readHouses_3 (by decide) rfl ?_
    refine WO.icmp_ge (tg := 60) (n := 8) hA dX4_readHouses_5 (by decide) rfl (fun _ => ?_) (fun _ => ?_)
    · refine WO.sub (lv' := [(1, .ref (w.2.1 a1))]) [1] rfl ?_
      exact hk  M
    · refine WO.aload_n (n := 9) hA dX4_readHouses_8 0 rfl rfl ?_
      refine WO.bipush (x := (59 : Int32)) (n := 11) hA dX4_readHouses_9 (by decide) rfl ?_
      refine WO.callVi (As := [.int (59 : Int32)]) (rest := []) (n := 14) hA (c_X4_takeSign v.2.1 w hw (59 : Int32) M) gX4_readHouses_X4_takeSign rfl (x_13 hw) rfl mdX4_takeSign ⟨rfl, rfl, Nat.le_of_ble_eq_true rfl, Nat.le_of_ble_eq_true rfl⟩ rfl rfl (Nat.le_of_ble_eq_true rfl) dX4_readHouses_11 rfl (fun r2 M1 => ?_)
      refine WO.if_eq (tg := 60) (n := 17) hA dX4_readHouses_14 (by decide) rfl (fun _ => ?_) (fun _ => ?_)
      · refine WO.sub (lv' := [(1, .ref (w.2.1 a1))]) [1] rfl ?_
        exact hk  M1
      · refine WO.aload_n (n := 18) hA dX4_readHouses_17 0 rfl rfl ?_
        refine WO.callVi (As := []) (rest := []) (n := 21) hA (c_X4_takeKind v.2.1 w hw M1) gX4_readHouses_X4_takeKind rfl (x_13 hw) rfl mdX4_takeKind ⟨rfl, rfl, Nat.le_of_ble_eq_true rfl, Nat.le_of_ble_eq_true rfl⟩ rfl rfl (Nat.le_of_ble_eq_true rfl) dX4_readHouses_18 rfl (fun r4 M3 => ?_)
        refine WO.istore_n (i := 3) (lv' := [(3, .int r4), (0, .ref (w.2.1 13)), (1, .ref (w.2.1 a1)), (2, .int x2)]) (n := 22) hA dX4_readHouses_21 rfl (by decide) rfl rfl ?_
        refine WO.iload_n (n := 23) hA dX4_readHouses_22 0 rfl rfl ?_
        refine WO.bipush (x := (-9 : Int32)) (n := 25) hA dX4_readHouses_23 (by decide) rfl ?_
        refine WO.icmp_ne (tg := 30) (n := 28) hA dX4_readHouses_25 (by decide) rfl (fun _ => ?_) (fun _ => ?_)
        · refine WO.iconst (x := (0 : Int32)) (n := 29) hA dX4_readHouses_28 (by decide) rfl ?_
          exact WO.zretc hA (by decide) dX4_readHouses_29
        · refine WO.aload_n (n := 31) hA dX4_readHouses_30 1 rfl rfl ?_
          refine WO.iconst (x := (1 : Int32)) (n := 32) hA dX4_readHouses_31 (by decide) rfl ?_
          refine WO.bipush (x := (9 : Int32)) (n := 34) hA dX4_readHouses_32 (by decide) rfl ?_
          refine WO.callVi (As := [.int (1 : Int32), .int (9 : Int32)]) (rest := []) (n := 37) hA (c_X4_takeDigit v.2.1 w hw (1 : Int32) (9 : Int32) M3) gX4_readHouses_X4_takeDigit rfl (x_13 hw) rfl mdX4_takeDigit ⟨rfl, rfl, Nat.le_of_ble_eq_true rfl, Nat.le_of_ble_eq_true rfl⟩ rfl rfl (Nat.le_of_ble_eq_true rfl) dX4_readHouses_34 rfl (fun r6 M5 => ?_)
          refine WO.istore (lv' := [(4, .int r6), (3, .int r4), (0, .ref (w.2.1 13)), (1, .ref (w.2.1 a1)), (2, .int x2)]) (n := 39) hA dX4_readHouses_37 (by decide) rfl rfl ?_
          refine WO.iload (n := 41) hA dX4_readHouses_39 0 rfl rfl ?_
          refine WO.iconst (x := (-1 : Int32)) (n := 42) hA dX4_readHouses_41 (by decide) rfl ?_
          refine WO.icmp_ne (tg := 47) (n := 45) hA dX4_readHouses_42 (by decide) rfl (fun _ => ?_) (fun _ => ?_)
          · refine WO.iconst (x := (0 : Int32)) (n := 46) hA dX4_readHouses_45 (by decide) rfl ?_
            exact WO.zretc hA (by decide) dX4_readHouses_46
          · refine WO.aload_n (n := 48) hA dX4_readHouses_47 3 rfl rfl ?_
            refine WO.iload_n (n := 49) hA dX4_readHouses_48 1 rfl rfl ?_
            refine WO.iload (n := 51) hA dX4_readHouses_49 0 rfl rfl ?_
            refine WO.callVv (As := [.int r4, .int r6]) (rest := []) (n := 54) hA (c_X3_addHouse v.2.1 w hw a1 r4 r6 ha1 M5) gX4_readHouses_X3_addHouse rfl (st_0 hw ha1) rfl mdX3_addHouse ⟨rfl, rfl, Nat.le_of_ble_eq_true rfl, Nat.le_of_ble_eq_true rfl⟩ rfl rfl (Nat.le_of_ble_eq_true rfl) dX4_readHouses_51 rfl (fun M7 => ?_)
            refine WO.iinc (y := (1 : Int32)) (lv' := [(2, .int (x2 + (1 : Int32))), (4, .int r6), (3, .int r4), (0, .ref (w.2.1 13)), (1, .ref (w.2.1 a1))]) (n := 57) hA dX4_readHouses_54 4 rfl (by decide) (by decide) rfl rfl ?_
            refine WO.goto (n := 2) hA dX4_readHouses_57 (by decide) ?_
            refine WO.sub (lv' := [(0, .ref (w.2.1 13)), (1, .ref (w.2.1 a1)), (2, .int (x2 + (1 : Int32)))]) [3, 4, 0] rfl ?_
            exact ih (x2 + (1 : Int32)) M7
set_option maxHeartbeats 4000000 in
set_option maxRecDepth 100000 in
theorem c_X4_readHouses (l : Launch) (w : Cw) (hw : w.2.2.2.2.2 = shX) (a1 : Nat) (ha1 : isSt a1) (M : Mem) : Ok l w eI yX4_readHouses wsX4_readHouses rmX4_readHouses [.ref (w.2.1 13), .ref (w.2.1 a1)] M (f_X4_readHouses a1 M) := by
  refine Ok.of (cc := cX4_readHouses) (nL := 5) (ret := (some .boolean)) (lv := [(0, .ref (w.2.1 13)), (1, .ref (w.2.1 a1))]) (by decide) rfl (Nat.le_of_ble_eq_true rfl) rfl (fun v hv hA => ?_)
  subst hv
  have hA : Act v w RX4 wsX4_readHouses cX4_readHouses 5 (some .boolean) := hA
  unfold f_X4_readHouses
  refine WO.iconst (x := (0 : Int32)) (n := 1) hA dX4_readHouses_0 (by decide) rfl ?_
  refine WO.istore_n (i := 2) (lv' := [(2, .int (0 : Int32)), (0, .ref (w.2.1 13)), (1, .ref (w.2.1 a1))]) (n := 2) hA dX4_readHouses_1 rfl (by decide) rfl rfl ?_
  refine WO.sub (lv' := [(0, .ref (w.2.1 13)), (1, .ref (w.2.1 a1)), (2, .int (0 : Int32))]) [1, 2, 0] rfl ?_
  refine w_X4_readHouses_L2 hw hA a1 ha1 _ (fun  M8 => ?_) _ _ _
  refine WO.aload_n (n := 61) hA dX4_readHouses_60 0 rfl rfl ?_
  refine WO.getI (j := 5) (n := 64) hA (st_0 hw ha1) rfl fiX4_readHouses_X3 (by decide) rfl fkX4_readHouses_67 dX4_readHouses_61 rfl ?_
  refine WO.iconst (x := (2 : Int32)) (n := 65) hA dX4_readHouses_64 (by decide) rfl ?_
  refine WO.icmp_lt (tg := 72) (n := 68) hA dX4_readHouses_65 (by decide) rfl (fun _ => ?_) (fun _ => ?_)
  · refine WO.iconst (x := (0 : Int32)) (n := 73) hA dX4_readHouses_72 (by decide) rfl ?_
    exact WO.zretc hA (by decide) dX4_readHouses_73
  · refine WO.iconst (x := (1 : Int32)) (n := 69) hA dX4_readHouses_68 (by decide) rfl ?_
    refine WO.goto (n := 73) hA dX4_readHouses_69 (by decide) ?_
    exact WO.zretc hA (by decide) dX4_readHouses_73
/- X4_readWall -/
abbrev rmX4_readWall : Room := { frames := 1, cells := 0, slots := 0, locals := 23 }
theorem mdX4_readWall : yX4_readWall.cls = RX4 ∧ yX4_readWall.cls ≠ "java/lang/invoke/MethodHandle" ∧ yX4_readWall.cls ≠ "java/lang/invoke/VarHandle" ∧ (parseMethodDescriptor yX4_readWall.desc).map (fun d => d.parameters.length) = some 1 := by decide +kernel
theorem fkX4_readWall_56 : Cond.fieldLink RX4 56 (TX3 7).1 (TX3 7).2.1 (TX3 7).2.2.1 ∈ wsX4_readWall := by decide +kernel
theorem fiX4_readWall_X3 : ∀ q ∈ u_ws RX3 TX3 10, q ∈ wsX4_readWall := by decide +kernel
noncomputable def f_X4_readWall (a1 : Nat) (M : Mem) : Option (Int32 × Mem) := bd (f_X4_takeSign (99 : Int32) M) (fun r2 M1 => if r2 = 0 then (some ((0 : Int32), M1)) else (bd (f_X4_takeDigit (0 : Int32) (3 : Int32) M1) (fun r4 M3 => mlt (mu M3 a1 7 r4) (fun M5 => if (M5 a1 7) = (-1 : Int32) then (some ((0 : Int32), M5)) else (some ((1 : Int32), M5))))))
set_option maxHeartbeats 4000000 in
set_option maxRecDepth 100000 in
theorem c_X4_readWall (l : Launch) (w : Cw) (hw : w.2.2.2.2.2 = shX) (a1 : Nat) (ha1 : isSt a1) (M : Mem) : Ok l w eI yX4_readWall wsX4_readWall rmX4_readWall [.ref (w.2.1 13), .ref (w.2.1 a1)] M (f_X4_readWall a1 M) := by
  refine Ok.of (cc := cX4_readWall) (nL := 2) (ret := (some .boolean)) (lv := [(0, .ref (w.2.1 13)), (1, .ref (w.2.1 a1))]) (by decide) rfl (Nat.le_of_ble_eq_true rfl) rfl (fun v hv hA => ?_)
  subst hv
  have hA : Act v w RX4 wsX4_readWall cX4_readWall 2 (some .boolean) := hA
  unfold f_X4_readWall
  refine WO.aload_n (n := 1) hA dX4_readWall_0 0 rfl rfl ?_
  refine WO.bipush (x := (99 : Int32)) (n := 3) hA dX4_readWall_1 (by decide) rfl ?_
  refine WO.callVi (As := [.int (99 : Int32)]) (rest := []) (n := 6) hA (c_X4_takeSign v.2.1 w hw (99 : Int32) M) gX4_readWall_X4_takeSign rfl (x_13 hw) rfl mdX4_takeSign ⟨rfl, rfl, Nat.le_of_ble_eq_true rfl, Nat.le_of_ble_eq_true rfl⟩ rfl rfl (Nat.le_of_ble_eq_true rfl) dX4_readWall_3 rfl (fun r2 M1 => ?_)
  refine WO.if_ne (tg := 11) (n := 9) hA dX4_readWall_6 (by decide) rfl (fun _ => ?_) (fun _ => ?_)
  · refine WO.iconst (x := (0 : Int32)) (n := 10) hA dX4_readWall_9 (by decide) rfl ?_
    exact WO.zretc hA (by decide) dX4_readWall_10
  · refine WO.aload_n (n := 12) hA dX4_readWall_11 1 rfl rfl ?_
    refine WO.aload_n (n := 13) hA dX4_readWall_12 0 rfl rfl ?_
    refine WO.iconst (x := (0 : Int32)) (n := 14) hA dX4_readWall_13 (by decide) rfl ?_
    refine WO.iconst (x := (3 : Int32)) (n := 15) hA dX4_readWall_14 (by decide) rfl ?_
    refine WO.callVi (As := [.int (0 : Int32), .int (3 : Int32)]) (rest := [.ref (w.2.1 a1)]) (n := 18) hA (c_X4_takeDigit v.2.1 w hw (0 : Int32) (3 : Int32) M1) gX4_readWall_X4_takeDigit rfl (x_13 hw) rfl mdX4_takeDigit ⟨rfl, rfl, Nat.le_of_ble_eq_true rfl, Nat.le_of_ble_eq_true rfl⟩ rfl rfl (Nat.le_of_ble_eq_true rfl) dX4_readWall_15 rfl (fun r4 M3 => ?_)
    refine WO.putI (j := 7) (n := 21) hA (st_0 hw ha1) rfl fiX4_readWall_X3 tyX3 tyX3_ok nmX3 (by decide) rfl fkX4_readWall_56 rfl rfl rfl rfl dX4_readWall_18 rfl ?_
    refine WO.mem (fun M5 => ?_)
    refine WO.aload_n (n := 22) hA dX4_readWall_21 1 rfl rfl ?_
    refine WO.getI (j := 7) (n := 25) hA (st_0 hw ha1) rfl fiX4_readWall_X3 (by decide) rfl fkX4_readWall_56 dX4_readWall_22 rfl ?_
    refine WO.iconst (x := (-1 : Int32)) (n := 26) hA dX4_readWall_25 (by decide) rfl ?_
    refine WO.icmp_eq (tg := 33) (n := 29) hA dX4_readWall_26 (by decide) rfl (fun _ => ?_) (fun _ => ?_)
    · refine WO.iconst (x := (0 : Int32)) (n := 34) hA dX4_readWall_33 (by decide) rfl ?_
      exact WO.zretc hA (by decide) dX4_readWall_34
    · refine WO.iconst (x := (1 : Int32)) (n := 30) hA dX4_readWall_29 (by decide) rfl ?_
      refine WO.goto (n := 34) hA dX4_readWall_30 (by decide) ?_
      exact WO.zretc hA (by decide) dX4_readWall_34
/- X4_read -/
abbrev rmX4_read : Room := { frames := 3, cells := 0, slots := 0, locals := 65 }
theorem mdX4_read : yX4_read.cls = RX4 ∧ yX4_read.cls ≠ "java/lang/invoke/MethodHandle" ∧ yX4_read.cls ≠ "java/lang/invoke/VarHandle" ∧ (parseMethodDescriptor yX4_read.desc).map (fun d => d.parameters.length) = some 4 := by decide +kernel
theorem fkX4_read_15 : Cond.fieldLink RX4 15 (TX2 0).1 (TX2 0).2.1 (TX2 0).2.2.1 ∈ wsX4_read := by decide +kernel
theorem fiX4_read_X2 : ∀ q ∈ u_ws RX2 TX2 4, q ∈ wsX4_read := by decide +kernel
theorem fkX4_read_9 : Cond.fieldLink RX4 9 (TX4 0).1 (TX4 0).2.1 (TX4 0).2.2.1 ∈ wsX4_read := by decide +kernel
theorem fiX4_read_X4 : ∀ q ∈ u_ws RX4 TX4 3, q ∈ wsX4_read := by decide +kernel
theorem akX4_read_20 : Cond.methodLink RX4 20 arraycopyName ∈ wsX4_read := by decide +kernel
theorem akX4_read_n : Cond.native arraycopyName ∈ wsX4_read := by decide +kernel
theorem akX4_read_s : Cond.static arraycopyName ∈ wsX4_read := by decide +kernel
theorem akX4_read_i : Cond.initialized "java/lang/System" ∈ wsX4_read := by decide +kernel
theorem fkX4_read_26 : Cond.fieldLink RX4 26 (TX4 1).1 (TX4 1).2.1 (TX4 1).2.2.1 ∈ wsX4_read := by decide +kernel
theorem fkX4_read_30 : Cond.fieldLink RX4 30 (TX4 2).1 (TX4 2).2.1 (TX4 2).2.2.1 ∈ wsX4_read := by decide +kernel
noncomputable def f_X4_read (a1 : Nat) (x2 : Int32) (x3 : Int32) (a4 : Nat) (M : Mem) : Option (Int32 × Mem) := cpk x2 (0 : Int32) x3 60 60 (mlt (mset M 14 (va_cpy (M (a1 + 1)) (M 14) x2.toNatClampNeg (0 : Int32).toNatClampNeg x3.toNatClampNeg)) (fun M1 => mlt (mu M1 13 1 x3) (fun M2 => mlt (mu M2 13 2 (0 : Int32)) (fun M3 => bd (f_X3_clear a4 M3) (fun _ M4 => bd (f_X4_readWall a4 M4) (fun r6 M5 => if r6 = 0 then (if (0 : Int32) = 0 then (some ((M5 13 2), M5)) else (some ((-9 : Int32), M5))) else (bd (f_X4_readHouses a4 M5) (fun r8 M7 => if r8 = 0 then (if (0 : Int32) = 0 then (some ((M7 13 2), M7)) else (some ((-9 : Int32), M7))) else (bd (f_X4_readClocks a4 M7) (fun r10 M9 => if r10 = 0 then (if (0 : Int32) = 0 then (some ((M9 13 2), M9)) else (some ((-9 : Int32), M9))) else (if (M9 13 2) = (M9 13 1) then (if (1 : Int32) = 0 then (some ((M9 13 2), M9)) else (some ((-9 : Int32), M9))) else (if (0 : Int32) = 0 then (some ((M9 13 2), M9)) else (some ((-9 : Int32), M9))))))))))))))
set_option maxHeartbeats 4000000 in
set_option maxRecDepth 100000 in
theorem c_X4_read (l : Launch) (w : Cw) (hw : w.2.2.2.2.2 = shX) (a1 : Nat) (x2 : Int32) (x3 : Int32) (a4 : Nat) (ha1 : isShe a1) (ha4 : isSt a4) (M : Mem) : Ok l w eI yX4_read wsX4_read rmX4_read [.ref (w.2.1 13), .ref (w.2.1 a1), .int x2, .int x3, .ref (w.2.1 a4)] M (f_X4_read a1 x2 x3 a4 M) := by
  refine Ok.of (cc := cX4_read) (nL := 6) (ret := (some .int)) (lv := [(0, .ref (w.2.1 13)), (1, .ref (w.2.1 a1)), (2, .int x2), (3, .int x3), (4, .ref (w.2.1 a4))]) (by decide) rfl (Nat.le_of_ble_eq_true rfl) rfl (fun v hv hA => ?_)
  subst hv
  have hA : Act v w RX4 wsX4_read cX4_read 6 (some .int) := hA
  unfold f_X4_read
  refine WO.aload_n (n := 1) hA dX4_read_0 1 rfl rfl ?_
  refine WO.getR (j := 0) (p := (a1 + 1)) (n := 4) hA (she_0 hw ha1) rfl fiX4_read_X2 (by decide) rfl fkX4_read_15 dX4_read_1 rfl ?_
  refine WO.iload_n (n := 5) hA dX4_read_4 2 rfl rfl ?_
  refine WO.aload_n (n := 6) hA dX4_read_5 0 rfl rfl ?_
  refine WO.getR (j := 0) (p := 14) (n := 9) hA (x_13 hw) rfl fiX4_read_X4 (by decide) rfl fkX4_read_9 dX4_read_6 rfl ?_
  refine WO.iconst (x := (0 : Int32)) (n := 10) hA dX4_read_9 (by decide) rfl ?_
  refine WO.iload_n (n := 11) hA dX4_read_10 3 rfl rfl ?_
  refine WO.acopy (n := 14) hA (she_1 hw ha1) (x_14 hw) akX4_read_20 akX4_read_n akX4_read_s akX4_read_i (Nat.le_of_ble_eq_true rfl) (Nat.le_of_ble_eq_true rfl) dX4_read_11 rfl ?_
  refine WO.mem (fun M1 => ?_)
  refine WO.aload_n (n := 15) hA dX4_read_14 0 rfl rfl ?_
  refine WO.iload_n (n := 16) hA dX4_read_15 3 rfl rfl ?_
  refine WO.putI (j := 1) (n := 19) hA (x_13 hw) rfl fiX4_read_X4 tyX4 tyX4_ok nmX4 (by decide) rfl fkX4_read_26 rfl rfl rfl rfl dX4_read_16 rfl ?_
  refine WO.mem (fun M2 => ?_)
  refine WO.aload_n (n := 20) hA dX4_read_19 0 rfl rfl ?_
  refine WO.iconst (x := (0 : Int32)) (n := 21) hA dX4_read_20 (by decide) rfl ?_
  refine WO.putI (j := 2) (n := 24) hA (x_13 hw) rfl fiX4_read_X4 tyX4 tyX4_ok nmX4 (by decide) rfl fkX4_read_30 rfl rfl rfl rfl dX4_read_21 rfl ?_
  refine WO.mem (fun M3 => ?_)
  refine WO.aload (n := 26) hA dX4_read_24 4 rfl rfl ?_
  refine WO.callVv (As := []) (rest := []) (n := 29) hA (c_X3_clear v.2.1 w hw a4 ha4 M3) gX4_read_X3_clear rfl (st_0 hw ha4) rfl mdX3_clear ⟨rfl, rfl, Nat.le_of_ble_eq_true rfl, Nat.le_of_ble_eq_true rfl⟩ rfl rfl (Nat.le_of_ble_eq_true rfl) dX4_read_26 rfl (fun M4 => ?_)
  refine WO.aload_n (n := 30) hA dX4_read_29 0 rfl rfl ?_
  refine WO.aload (n := 32) hA dX4_read_30 4 rfl rfl ?_
  refine WO.callVi (As := [.ref (w.2.1 a4)]) (rest := []) (n := 35) hA (c_X4_readWall v.2.1 w hw a4 ha4 M4) gX4_read_X4_readWall rfl (x_13 hw) rfl mdX4_readWall ⟨rfl, rfl, Nat.le_of_ble_eq_true rfl, Nat.le_of_ble_eq_true rfl⟩ rfl rfl (Nat.le_of_ble_eq_true rfl) dX4_read_32 rfl (fun r6 M5 => ?_)
  refine WO.if_eq (tg := 71) (n := 38) hA dX4_read_35 (by decide) rfl (fun _ => ?_) (fun _ => ?_)
  · refine WO.iconst (x := (0 : Int32)) (n := 72) hA dX4_read_71 (by decide) rfl ?_
    refine WO.istore (lv' := [(5, .int (0 : Int32)), (0, .ref (w.2.1 13)), (1, .ref (w.2.1 a1)), (2, .int x2), (3, .int x3), (4, .ref (w.2.1 a4))]) (n := 74) hA dX4_read_72 (by decide) rfl rfl ?_
    refine WO.iload (n := 76) hA dX4_read_74 0 rfl rfl ?_
    refine WO.if_eq (tg := 84) (n := 79) hA dX4_read_76 (by decide) rfl (fun _ => ?_) (fun _ => ?_)
    · refine WO.aload_n (n := 85) hA dX4_read_84 1 rfl rfl ?_
      refine WO.getI (j := 2) (n := 88) hA (x_13 hw) rfl fiX4_read_X4 (by decide) rfl fkX4_read_30 dX4_read_85 rfl ?_
      exact WO.iret hA dX4_read_88
    · refine WO.bipush (x := (-9 : Int32)) (n := 81) hA dX4_read_79 (by decide) rfl ?_
      refine WO.goto (n := 88) hA dX4_read_81 (by decide) ?_
      exact WO.iret hA dX4_read_88
  · refine WO.aload_n (n := 39) hA dX4_read_38 0 rfl rfl ?_
    refine WO.aload (n := 41) hA dX4_read_39 4 rfl rfl ?_
    refine WO.callVi (As := [.ref (w.2.1 a4)]) (rest := []) (n := 44) hA (c_X4_readHouses v.2.1 w hw a4 ha4 M5) gX4_read_X4_readHouses rfl (x_13 hw) rfl mdX4_readHouses ⟨rfl, rfl, Nat.le_of_ble_eq_true rfl, Nat.le_of_ble_eq_true rfl⟩ rfl rfl (Nat.le_of_ble_eq_true rfl) dX4_read_41 rfl (fun r8 M7 => ?_)
    refine WO.if_eq (tg := 71) (n := 47) hA dX4_read_44 (by decide) rfl (fun _ => ?_) (fun _ => ?_)
    · refine WO.iconst (x := (0 : Int32)) (n := 72) hA dX4_read_71 (by decide) rfl ?_
      refine WO.istore (lv' := [(5, .int (0 : Int32)), (0, .ref (w.2.1 13)), (1, .ref (w.2.1 a1)), (2, .int x2), (3, .int x3), (4, .ref (w.2.1 a4))]) (n := 74) hA dX4_read_72 (by decide) rfl rfl ?_
      refine WO.iload (n := 76) hA dX4_read_74 0 rfl rfl ?_
      refine WO.if_eq (tg := 84) (n := 79) hA dX4_read_76 (by decide) rfl (fun _ => ?_) (fun _ => ?_)
      · refine WO.aload_n (n := 85) hA dX4_read_84 1 rfl rfl ?_
        refine WO.getI (j := 2) (n := 88) hA (x_13 hw) rfl fiX4_read_X4 (by decide) rfl fkX4_read_30 dX4_read_85 rfl ?_
        exact WO.iret hA dX4_read_88
      · refine WO.bipush (x := (-9 : Int32)) (n := 81) hA dX4_read_79 (by decide) rfl ?_
        refine WO.goto (n := 88) hA dX4_read_81 (by decide) ?_
        exact WO.iret hA dX4_read_88
    · refine WO.aload_n (n := 48) hA dX4_read_47 0 rfl rfl ?_
      refine WO.aload (n := 50) hA dX4_read_48 4 rfl rfl ?_
      refine WO.callVi (As := [.ref (w.2.1 a4)]) (rest := []) (n := 53) hA (c_X4_readClocks v.2.1 w hw a4 ha4 M7) gX4_read_X4_readClocks rfl (x_13 hw) rfl mdX4_readClocks ⟨rfl, rfl, Nat.le_of_ble_eq_true rfl, Nat.le_of_ble_eq_true rfl⟩ rfl rfl (Nat.le_of_ble_eq_true rfl) dX4_read_50 rfl (fun r10 M9 => ?_)
      refine WO.if_eq (tg := 71) (n := 56) hA dX4_read_53 (by decide) rfl (fun _ => ?_) (fun _ => ?_)
      · refine WO.iconst (x := (0 : Int32)) (n := 72) hA dX4_read_71 (by decide) rfl ?_
        refine WO.istore (lv' := [(5, .int (0 : Int32)), (0, .ref (w.2.1 13)), (1, .ref (w.2.1 a1)), (2, .int x2), (3, .int x3), (4, .ref (w.2.1 a4))]) (n := 74) hA dX4_read_72 (by decide) rfl rfl ?_
        refine WO.iload (n := 76) hA dX4_read_74 0 rfl rfl ?_
        refine WO.if_eq (tg := 84) (n := 79) hA dX4_read_76 (by decide) rfl (fun _ => ?_) (fun _ => ?_)
        · refine WO.aload_n (n := 85) hA dX4_read_84 1 rfl rfl ?_
          refine WO.getI (j := 2) (n := 88) hA (x_13 hw) rfl fiX4_read_X4 (by decide) rfl fkX4_read_30 dX4_read_85 rfl ?_
          exact WO.iret hA dX4_read_88
        · refine WO.bipush (x := (-9 : Int32)) (n := 81) hA dX4_read_79 (by decide) rfl ?_
          refine WO.goto (n := 88) hA dX4_read_81 (by decide) ?_
          exact WO.iret hA dX4_read_88
      · refine WO.aload_n (n := 57) hA dX4_read_56 0 rfl rfl ?_
        refine WO.getI (j := 2) (n := 60) hA (x_13 hw) rfl fiX4_read_X4 (by decide) rfl fkX4_read_30 dX4_read_57 rfl ?_
        refine WO.aload_n (n := 61) hA dX4_read_60 0 rfl rfl ?_
        refine WO.getI (j := 1) (n := 64) hA (x_13 hw) rfl fiX4_read_X4 (by decide) rfl fkX4_read_26 dX4_read_61 rfl ?_
        refine WO.icmp_ne (tg := 71) (n := 67) hA dX4_read_64 (by decide) rfl (fun _ => ?_) (fun _ => ?_)
        · refine WO.iconst (x := (1 : Int32)) (n := 68) hA dX4_read_67 (by decide) rfl ?_
          refine WO.goto (n := 72) hA dX4_read_68 (by decide) ?_
          refine WO.istore (lv' := [(5, .int (1 : Int32)), (0, .ref (w.2.1 13)), (1, .ref (w.2.1 a1)), (2, .int x2), (3, .int x3), (4, .ref (w.2.1 a4))]) (n := 74) hA dX4_read_72 (by decide) rfl rfl ?_
          refine WO.iload (n := 76) hA dX4_read_74 0 rfl rfl ?_
          refine WO.if_eq (tg := 84) (n := 79) hA dX4_read_76 (by decide) rfl (fun _ => ?_) (fun _ => ?_)
          · refine WO.aload_n (n := 85) hA dX4_read_84 1 rfl rfl ?_
            refine WO.getI (j := 2) (n := 88) hA (x_13 hw) rfl fiX4_read_X4 (by decide) rfl fkX4_read_30 dX4_read_85 rfl ?_
            exact WO.iret hA dX4_read_88
          · refine WO.bipush (x := (-9 : Int32)) (n := 81) hA dX4_read_79 (by decide) rfl ?_
            refine WO.goto (n := 88) hA dX4_read_81 (by decide) ?_
            exact WO.iret hA dX4_read_88
        · refine WO.iconst (x := (0 : Int32)) (n := 72) hA dX4_read_71 (by decide) rfl ?_
          refine WO.istore (lv' := [(5, .int (0 : Int32)), (0, .ref (w.2.1 13)), (1, .ref (w.2.1 a1)), (2, .int x2), (3, .int x3), (4, .ref (w.2.1 a4))]) (n := 74) hA dX4_read_72 (by decide) rfl rfl ?_
          refine WO.iload (n := 76) hA dX4_read_74 0 rfl rfl ?_
          refine WO.if_eq (tg := 84) (n := 79) hA dX4_read_76 (by decide) rfl (fun _ => ?_) (fun _ => ?_)
          · refine WO.aload_n (n := 85) hA dX4_read_84 1 rfl rfl ?_
            refine WO.getI (j := 2) (n := 88) hA (x_13 hw) rfl fiX4_read_X4 (by decide) rfl fkX4_read_30 dX4_read_85 rfl ?_
            exact WO.iret hA dX4_read_88
          · refine WO.bipush (x := (-9 : Int32)) (n := 81) hA dX4_read_79 (by decide) rfl ?_
            refine WO.goto (n := 88) hA dX4_read_81 (by decide) ?_
            exact WO.iret hA dX4_read_88
