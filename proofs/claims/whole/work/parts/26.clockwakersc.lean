/- X5_canTurn -/
abbrev rmX5_canTurn : Room := { frames := 0, cells := 0, slots := 0, locals := 0 }
theorem mdX5_canTurn : yX5_canTurn.cls = RX5 ∧ yX5_canTurn.cls ≠ "java/lang/invoke/MethodHandle" ∧ yX5_canTurn.cls ≠ "java/lang/invoke/VarHandle" ∧ (parseMethodDescriptor yX5_canTurn.desc).map (fun d => d.parameters.length) = some 2 := by decide +kernel
theorem fkX5_canTurn_18 : Cond.fieldLink RX5 18 (TX5 1).1 (TX5 1).2.1 (TX5 1).2.2.1 ∈ wsX5_canTurn := by decide +kernel
theorem fiX5_canTurn_X5 : ∀ q ∈ u_ws RX5 TX5 10, q ∈ wsX5_canTurn := by decide +kernel
theorem fkX5_canTurn_122 : Cond.fieldLink RX5 122 (TX3 4).1 (TX3 4).2.1 (TX3 4).2.2.1 ∈ wsX5_canTurn := by decide +kernel
theorem fiX5_canTurn_X3 : ∀ q ∈ u_ws RX3 TX3 10, q ∈ wsX5_canTurn := by decide +kernel
noncomputable def f_X5_canTurn (x1 : Int32) (x2 : Int32) (M : Mem) : Option (Int32 × Mem) := grd x1 4 (if (M 12 x1.toNatClampNeg) = x2 then (some ((0 : Int32), M)) else (grd x1 4 (mlt (mu M 12 x1.toNatClampNeg (x2 &&& 1)) (fun M1 => some ((1 : Int32), M1)))))
set_option maxHeartbeats 4000000 in
set_option maxRecDepth 100000 in
theorem c_X5_canTurn (l : Launch) (w : Cw) (hw : w.2.2.2.2.2 = shX) (x1 : Int32) (x2 : Int32) (M : Mem) : Ok l w eI yX5_canTurn wsX5_canTurn rmX5_canTurn [.ref (w.2.1 0), .int x1, .int x2] M (f_X5_canTurn x1 x2 M) := by
  refine Ok.of (cc := cX5_canTurn) (nL := 3) (ret := (some .boolean)) (lv := [(0, .ref (w.2.1 0)), (1, .int x1), (2, .int x2)]) (by decide) rfl (Nat.le_of_ble_eq_true rfl) rfl (fun v hv hA => ?_)
  subst hv
  have hA : Act v w RX5 wsX5_canTurn cX5_canTurn 3 (some .boolean) := hA
  unfold f_X5_canTurn
  refine WO.aload_n (n := 1) hA dX5_canTurn_0 0 rfl rfl ?_
  refine WO.getR (j := 1) (p := 7) (n := 4) hA (x_0 hw) rfl fiX5_canTurn_X5 (by decide) rfl fkX5_canTurn_18 dX5_canTurn_1 rfl ?_
  refine WO.getR (j := 4) (p := 12) (n := 7) hA (st_0 hw st7) rfl fiX5_canTurn_X3 (by decide) rfl fkX5_canTurn_122 dX5_canTurn_4 rfl ?_
  refine WO.iload_n (n := 8) hA dX5_canTurn_7 1 rfl rfl ?_
  refine WO.zald (n := 9) hA (st_5 hw st7) dX5_canTurn_8 rfl (fun _ => ?_)
  refine WO.iload_n (n := 10) hA dX5_canTurn_9 2 rfl rfl ?_
  refine WO.icmp_ne (tg := 15) (n := 13) hA dX5_canTurn_10 (by decide) rfl (fun _ => ?_) (fun _ => ?_)
  · refine WO.iconst (x := (0 : Int32)) (n := 14) hA dX5_canTurn_13 (by decide) rfl ?_
    exact WO.zretc hA (by decide) dX5_canTurn_14
  · refine WO.aload_n (n := 16) hA dX5_canTurn_15 0 rfl rfl ?_
    refine WO.getR (j := 1) (p := 7) (n := 19) hA (x_0 hw) rfl fiX5_canTurn_X5 (by decide) rfl fkX5_canTurn_18 dX5_canTurn_16 rfl ?_
    refine WO.getR (j := 4) (p := 12) (n := 22) hA (st_0 hw st7) rfl fiX5_canTurn_X3 (by decide) rfl fkX5_canTurn_122 dX5_canTurn_19 rfl ?_
    refine WO.iload_n (n := 23) hA dX5_canTurn_22 1 rfl rfl ?_
    refine WO.iload_n (n := 24) hA dX5_canTurn_23 2 rfl rfl ?_
    refine WO.zast (n := 25) hA (st_5 hw st7) dX5_canTurn_24 rfl (fun _ => ?_)
    refine WO.mem (fun M1 => ?_)
    refine WO.iconst (x := (1 : Int32)) (n := 26) hA dX5_canTurn_25 (by decide) rfl ?_
    exact WO.zretc hA (by decide) dX5_canTurn_26
/- X5_canAct -/
abbrev rmX5_canAct : Room := { frames := 5, cells := 0, slots := 0, locals := 116 }
theorem mdX5_canAct : yX5_canAct.cls = RX5 ∧ yX5_canAct.cls ≠ "java/lang/invoke/MethodHandle" ∧ yX5_canAct.cls ≠ "java/lang/invoke/VarHandle" ∧ (parseMethodDescriptor yX5_canAct.desc).map (fun d => d.parameters.length) = some 2 := by decide +kernel
theorem fkX5_canAct_18 : Cond.fieldLink RX5 18 (TX5 1).1 (TX5 1).2.1 (TX5 1).2.2.1 ∈ wsX5_canAct := by decide +kernel
theorem fiX5_canAct_X5 : ∀ q ∈ u_ws RX5 TX5 10, q ∈ wsX5_canAct := by decide +kernel
noncomputable def f_X5_canAct (x1 : Int32) (x2 : Int32) (M : Mem) : Option (Int32 × Mem) := if x2 = (0 : Int32) then (bd (f_X3_strike 7 x1 M) (fun r3 M2 => some ((1 : Int32), M2))) else if x2 = (1 : Int32) then (bd (f_X5_canTurn x1 (1 : Int32) M) (fun r6 M5 => zck r6 (some (r6, M5)))) else if x2 = (2 : Int32) then (bd (f_X5_canTurn x1 (0 : Int32) M) (fun r9 M8 => zck r9 (some (r9, M8)))) else if x2 = (3 : Int32) then (bd (f_X3_passNights 7 x1 M) (fun _ M11 => some ((1 : Int32), M11))) else (bd (f_X5_canCarry (x2 - (10 : Int32)) x1 M) (fun r13 M12 => zck r13 (some (r13, M12))))
set_option maxHeartbeats 4000000 in
set_option maxRecDepth 100000 in
theorem c_X5_canAct (l : Launch) (w : Cw) (hw : w.2.2.2.2.2 = shX) (x1 : Int32) (x2 : Int32) (M : Mem) : Ok l w eI yX5_canAct wsX5_canAct rmX5_canAct [.ref (w.2.1 0), .int x1, .int x2] M (f_X5_canAct x1 x2 M) := by
  refine Ok.of (cc := cX5_canAct) (nL := 3) (ret := (some .boolean)) (lv := [(0, .ref (w.2.1 0)), (1, .int x1), (2, .int x2)]) (by decide) rfl (Nat.le_of_ble_eq_true rfl) rfl (fun v hv hA => ?_)
  subst hv
  have hA : Act v w RX5 wsX5_canAct cX5_canAct 3 (some .boolean) := hA
  unfold f_X5_canAct
  refine WO.iload_n (n := 1) hA dX5_canAct_0 2 rfl rfl ?_
  refine WO.ite (fun hs1 => ?_) (fun hs1 => ?_)
  · refine WO.tin (n := 32) hA (0 : Int32) hs1 dX5_canAct_1 (by decide) (by decide) rfl (by decide) ?_
    refine WO.aload_n (n := 33) hA dX5_canAct_32 0 rfl rfl ?_
    refine WO.getR (j := 1) (p := 7) (n := 36) hA (x_0 hw) rfl fiX5_canAct_X5 (by decide) rfl fkX5_canAct_18 dX5_canAct_33 rfl ?_
    refine WO.iload_n (n := 37) hA dX5_canAct_36 1 rfl rfl ?_
    refine WO.callVi (As := [.int x1]) (rest := []) (n := 40) hA (c_X3_strike v.2.1 w hw 7 x1 st7 M) gX5_canAct_X3_strike rfl (st_0 hw st7) rfl mdX3_strike ⟨rfl, rfl, Nat.le_of_ble_eq_true rfl, Nat.le_of_ble_eq_true rfl⟩ rfl rfl (Nat.le_of_ble_eq_true rfl) dX5_canAct_37 rfl (fun r3 M2 => ?_)
    refine WO.pop (n := 41) hA dX5_canAct_40 rfl rfl ?_
    refine WO.iconst (x := (1 : Int32)) (n := 42) hA dX5_canAct_41 (by decide) rfl ?_
    exact WO.zretc hA (by decide) dX5_canAct_42
  · refine WO.ite (fun hs4 => ?_) (fun hs4 => ?_)
    · refine WO.tin (n := 43) hA (1 : Int32) hs4 dX5_canAct_1 (by decide) (by decide) rfl (by decide) ?_
      refine WO.aload_n (n := 44) hA dX5_canAct_43 0 rfl rfl ?_
      refine WO.iload_n (n := 45) hA dX5_canAct_44 1 rfl rfl ?_
      refine WO.iconst (x := (1 : Int32)) (n := 46) hA dX5_canAct_45 (by decide) rfl ?_
      refine WO.callVi (As := [.int x1, .int (1 : Int32)]) (rest := []) (n := 49) hA (c_X5_canTurn v.2.1 w hw x1 (1 : Int32) M) gX5_canAct_X5_canTurn rfl (x_0 hw) rfl mdX5_canTurn ⟨rfl, rfl, Nat.le_of_ble_eq_true rfl, Nat.le_of_ble_eq_true rfl⟩ rfl rfl (Nat.le_of_ble_eq_true rfl) dX5_canAct_46 rfl (fun r6 M5 => ?_)
      exact WO.zret hA dX5_canAct_49
    · refine WO.ite (fun hs7 => ?_) (fun hs7 => ?_)
      · refine WO.tin (n := 50) hA (2 : Int32) hs7 dX5_canAct_1 (by decide) (by decide) rfl (by decide) ?_
        refine WO.aload_n (n := 51) hA dX5_canAct_50 0 rfl rfl ?_
        refine WO.iload_n (n := 52) hA dX5_canAct_51 1 rfl rfl ?_
        refine WO.iconst (x := (0 : Int32)) (n := 53) hA dX5_canAct_52 (by decide) rfl ?_
        refine WO.callVi (As := [.int x1, .int (0 : Int32)]) (rest := []) (n := 56) hA (c_X5_canTurn v.2.1 w hw x1 (0 : Int32) M) gX5_canAct_X5_canTurn rfl (x_0 hw) rfl mdX5_canTurn ⟨rfl, rfl, Nat.le_of_ble_eq_true rfl, Nat.le_of_ble_eq_true rfl⟩ rfl rfl (Nat.le_of_ble_eq_true rfl) dX5_canAct_53 rfl (fun r9 M8 => ?_)
        exact WO.zret hA dX5_canAct_56
      · refine WO.ite (fun hs10 => ?_) (fun hs10 => ?_)
        · refine WO.tin (n := 57) hA (3 : Int32) hs10 dX5_canAct_1 (by decide) (by decide) rfl (by decide) ?_
          refine WO.aload_n (n := 58) hA dX5_canAct_57 0 rfl rfl ?_
          refine WO.getR (j := 1) (p := 7) (n := 61) hA (x_0 hw) rfl fiX5_canAct_X5 (by decide) rfl fkX5_canAct_18 dX5_canAct_58 rfl ?_
          refine WO.iload_n (n := 62) hA dX5_canAct_61 1 rfl rfl ?_
          refine WO.callVv (As := [.int x1]) (rest := []) (n := 65) hA (c_X3_passNights v.2.1 w hw 7 x1 st7 M) gX5_canAct_X3_passNights rfl (st_0 hw st7) rfl mdX3_passNights ⟨rfl, rfl, Nat.le_of_ble_eq_true rfl, Nat.le_of_ble_eq_true rfl⟩ rfl rfl (Nat.le_of_ble_eq_true rfl) dX5_canAct_62 rfl (fun M11 => ?_)
          refine WO.iconst (x := (1 : Int32)) (n := 66) hA dX5_canAct_65 (by decide) rfl ?_
          exact WO.zretc hA (by decide) dX5_canAct_66
        · refine WO.tout (n := 67) hA dX5_canAct_1 (by have ehs1 := lv_neT (a := 0) hs1 (by decide); have ehs4 := lv_neT (a := 1) hs4 (by decide); have ehs7 := lv_neT (a := 2) hs7 (by decide); have ehs10 := lv_neT (a := 3) hs10 (by decide); omega) (by decide) ?_
          refine WO.aload_n (n := 68) hA dX5_canAct_67 0 rfl rfl ?_
          refine WO.iload_n (n := 69) hA dX5_canAct_68 2 rfl rfl ?_
          refine WO.bipush (x := (10 : Int32)) (n := 71) hA dX5_canAct_69 (by decide) rfl ?_
          refine WO.isub (n := 72) hA dX5_canAct_71 rfl ?_
          refine WO.iload_n (n := 73) hA dX5_canAct_72 1 rfl rfl ?_
          refine WO.callVi (As := [.int (x2 - (10 : Int32)), .int x1]) (rest := []) (n := 76) hA (c_X5_canCarry v.2.1 w hw (x2 - (10 : Int32)) x1 M) gX5_canAct_X5_canCarry rfl (x_0 hw) rfl mdX5_canCarry ⟨rfl, rfl, Nat.le_of_ble_eq_true rfl, Nat.le_of_ble_eq_true rfl⟩ rfl rfl (Nat.le_of_ble_eq_true rfl) dX5_canAct_73 rfl (fun r13 M12 => ?_)
          exact WO.zret hA dX5_canAct_76
/- X5_playOnTrial -/
abbrev rmX5_playOnTrial : Room := { frames := 6, cells := 0, slots := 0, locals := 138 }
theorem mdX5_playOnTrial : yX5_playOnTrial.cls = RX5 ∧ yX5_playOnTrial.cls ≠ "java/lang/invoke/MethodHandle" ∧ yX5_playOnTrial.cls ≠ "java/lang/invoke/VarHandle" ∧ (parseMethodDescriptor yX5_playOnTrial.desc).map (fun d => d.parameters.length) = some 3 := by decide +kernel
theorem fkX5_playOnTrial_18 : Cond.fieldLink RX5 18 (TX5 1).1 (TX5 1).2.1 (TX5 1).2.2.1 ∈ wsX5_playOnTrial := by decide +kernel
theorem fiX5_playOnTrial_X5 : ∀ q ∈ u_ws RX5 TX5 10, q ∈ wsX5_playOnTrial := by decide +kernel
theorem fkX5_playOnTrial_12 : Cond.fieldLink RX5 12 (TX5 0).1 (TX5 0).2.1 (TX5 0).2.2.1 ∈ wsX5_playOnTrial := by decide +kernel
theorem fkX5_playOnTrial_224 : Cond.fieldLink RX5 224 (TX2 0).1 (TX2 0).2.1 (TX2 0).2.2.1 ∈ wsX5_playOnTrial := by decide +kernel
theorem fiX5_playOnTrial_X2 : ∀ q ∈ u_ws RX2 TX2 4, q ∈ wsX5_playOnTrial := by decide +kernel
noncomputable def f_X5_playOnTrial_L14 (a1 : Nat) (x2 : Int32) (x3 : Int32) (kx : Mem → Option (Int32 × Mem)) : Nat → Int32 → Mem → Option (Int32 × Mem)
  | 0, _, _ => none
  | n + 1, x4, M => if x3 ≤ x4 then (kx  M) else (grd (x2 + ((2 : Int32) * x4)) 60 (grd ((x2 + ((2 : Int32) * x4)) + (1 : Int32)) 60 (bd (f_X5_canAct (M (a1 + 1) (x2 + ((2 : Int32) * x4)).toNatClampNeg) (M (a1 + 1) ((x2 + ((2 : Int32) * x4)) + (1 : Int32)).toNatClampNeg) M) (fun r3 M2 => if r3 = 0 then (some (x4, M2)) else (f_X5_playOnTrial_L14 a1 x2 x3 kx n (x4 + (1 : Int32)) M2)))))
noncomputable def f_X5_playOnTrial (a1 : Nat) (x2 : Int32) (x3 : Int32) (M : Mem) : Option (Int32 × Mem) := bd (f_X3_become 7 1 M) (fun _ M1 => f_X5_playOnTrial_L14 a1 x2 x3 (fun  M4 => some ((-9 : Int32), M4)) FU (0 : Int32) M1)
set_option maxHeartbeats 4000000 in
set_option maxRecDepth 100000 in
theorem w_X5_playOnTrial_L14 {v : Av} {w : Cw} (hw : w.2.2.2.2.2 = shX) (hA : Act v w RX5 wsX5_playOnTrial cX5_playOnTrial 5 (some .int)) (a1 : Nat) (ha1 : isShe a1) (x2 : Int32) (x3 : Int32) (kx : Mem → Option (Int32 × Mem)) (hk : ∀ (M : Mem), WO v w rmX5_playOnTrial 5 eI (kx M) 60 [] [] M) : ∀ (n : Nat) (x4 : Int32) (M : Mem), WO v w rmX5_playOnTrial 5 eI (f_X5_playOnTrial_L14 a1 x2 x3 kx n x4 M) 14 [(0, .ref (w.2.1 0)), (1, .ref (w.2.1 a1)), (2, .int x2), (3, .int x3), (4, .int x4)] [] M := by
  intro n
  induction n with
  | zero => intro x4 M; exact WO.nothing
  | succ n ih =>
    intro x4 M
    rw [f_X5_playOnTrial_L14]
    refine WO.iload (n := 16) hA dX5_playOnTrial_14 4 rfl rfl ?_
    refine WO.iload_n (n := 17) hA dX5_playOnTrial_16 3 rfl rfl ?_
    refine WO.icmp_ge (tg := 60) (n := 20) hA dX5_playOnTrial_17 (by decide) rfl (fun _ => ?_) (fun _ => ?_)
    · refine WO.sub (lv' := []) [] rfl ?_
      exact hk  M
    · refine WO.aload_n (n := 21) hA dX5_playOnTrial_20 0 rfl rfl ?_
      refine WO.aload_n (n := 22) hA dX5_playOnTrial_21 1 rfl rfl ?_
      refine WO.getR (j := 0) (p := (a1 + 1)) (n := 25) hA (she_0 hw ha1) rfl fiX5_playOnTrial_X2 (by decide) rfl fkX5_playOnTrial_224 dX5_playOnTrial_22 rfl ?_
      refine WO.iload_n (n := 26) hA dX5_playOnTrial_25 2 rfl rfl ?_
      refine WO.iconst (x := (2 : Int32)) (n := 27) hA dX5_playOnTrial_26 (by decide) rfl ?_
      refine WO.iload (n := 29) hA dX5_playOnTrial_27 4 rfl rfl ?_
      refine WO.imul (n := 30) hA dX5_playOnTrial_29 rfl ?_
      refine WO.iadd (n := 31) hA dX5_playOnTrial_30 rfl ?_
      refine WO.iald (n := 32) hA (she_1 hw ha1) dX5_playOnTrial_31 rfl (fun _ => ?_)
      refine WO.aload_n (n := 33) hA dX5_playOnTrial_32 1 rfl rfl ?_
      refine WO.getR (j := 0) (p := (a1 + 1)) (n := 36) hA (she_0 hw ha1) rfl fiX5_playOnTrial_X2 (by decide) rfl fkX5_playOnTrial_224 dX5_playOnTrial_33 rfl ?_
      refine WO.iload_n (n := 37) hA dX5_playOnTrial_36 2 rfl rfl ?_
      refine WO.iconst (x := (2 : Int32)) (n := 38) hA dX5_playOnTrial_37 (by decide) rfl ?_
      refine WO.iload (n := 40) hA dX5_playOnTrial_38 4 rfl rfl ?_
      refine WO.imul (n := 41) hA dX5_playOnTrial_40 rfl ?_
      refine WO.iadd (n := 42) hA dX5_playOnTrial_41 rfl ?_
      refine WO.iconst (x := (1 : Int32)) (n := 43) hA dX5_playOnTrial_42 (by decide) rfl ?_
      refine WO.iadd (n := 44) hA dX5_playOnTrial_43 rfl ?_
      refine WO.iald (n := 45) hA (she_1 hw ha1) dX5_playOnTrial_44 rfl (fun _ => ?_)
      refine WO.callVi (As := [.int (M (a1 + 1) (x2 + ((2 : Int32) * x4)).toNatClampNeg), .int (M (a1 + 1) ((x2 + ((2 : Int32) * x4)) + (1 : Int32)).toNatClampNeg)]) (rest := []) (n := 48) hA (c_X5_canAct v.2.1 w hw (M (a1 + 1) (x2 + ((2 : Int32) * x4)).toNatClampNeg) (M (a1 + 1) ((x2 + ((2 : Int32) * x4)) + (1 : Int32)).toNatClampNeg) M) gX5_playOnTrial_X5_canAct rfl (x_0 hw) rfl mdX5_canAct ⟨rfl, rfl, Nat.le_of_ble_eq_true rfl, Nat.le_of_ble_eq_true rfl⟩ rfl rfl (Nat.le_of_ble_eq_true rfl) dX5_playOnTrial_45 rfl (fun r3 M2 => ?_)
      refine WO.if_ne (tg := 54) (n := 51) hA dX5_playOnTrial_48 (by decide) rfl (fun _ => ?_) (fun _ => ?_)
      · refine WO.iload (n := 53) hA dX5_playOnTrial_51 4 rfl rfl ?_
        exact WO.iret hA dX5_playOnTrial_53
      · refine WO.iinc (y := (1 : Int32)) (lv' := [(4, .int (x4 + (1 : Int32))), (0, .ref (w.2.1 0)), (1, .ref (w.2.1 a1)), (2, .int x2), (3, .int x3)]) (n := 57) hA dX5_playOnTrial_54 4 rfl (by decide) (by decide) rfl rfl ?_
        refine WO.goto (n := 14) hA dX5_playOnTrial_57 (by decide) ?_
        refine WO.sub (lv' := [(0, .ref (w.2.1 0)), (1, .ref (w.2.1 a1)), (2, .int x2), (3, .int x3), (4, .int (x4 + (1 : Int32)))]) [1, 2, 3, 4, 0] rfl ?_
        exact ih (x4 + (1 : Int32)) M2
set_option maxHeartbeats 4000000 in
set_option maxRecDepth 100000 in
theorem c_X5_playOnTrial (l : Launch) (w : Cw) (hw : w.2.2.2.2.2 = shX) (a1 : Nat) (x2 : Int32) (x3 : Int32) (ha1 : isShe a1) (M : Mem) : Ok l w eI yX5_playOnTrial wsX5_playOnTrial rmX5_playOnTrial [.ref (w.2.1 0), .ref (w.2.1 a1), .int x2, .int x3] M (f_X5_playOnTrial a1 x2 x3 M) := by
  refine Ok.of (cc := cX5_playOnTrial) (nL := 5) (ret := (some .int)) (lv := [(0, .ref (w.2.1 0)), (1, .ref (w.2.1 a1)), (2, .int x2), (3, .int x3)]) (by decide) rfl (Nat.le_of_ble_eq_true rfl) rfl (fun v hv hA => ?_)
  subst hv
  have hA : Act v w RX5 wsX5_playOnTrial cX5_playOnTrial 5 (some .int) := hA
  unfold f_X5_playOnTrial
  refine WO.aload_n (n := 1) hA dX5_playOnTrial_0 0 rfl rfl ?_
  refine WO.getR (j := 1) (p := 7) (n := 4) hA (x_0 hw) rfl fiX5_playOnTrial_X5 (by decide) rfl fkX5_playOnTrial_18 dX5_playOnTrial_1 rfl ?_
  refine WO.aload_n (n := 5) hA dX5_playOnTrial_4 0 rfl rfl ?_
  refine WO.getR (j := 0) (p := 1) (n := 8) hA (x_0 hw) rfl fiX5_playOnTrial_X5 (by decide) rfl fkX5_playOnTrial_12 dX5_playOnTrial_5 rfl ?_
  refine WO.callVv (As := [.ref (w.2.1 1)]) (rest := []) (n := 11) hA (c_X3_become v.2.1 w hw 7 1 st7 st1 M) gX5_playOnTrial_X3_become rfl (st_0 hw st7) rfl mdX3_become ⟨rfl, rfl, Nat.le_of_ble_eq_true rfl, Nat.le_of_ble_eq_true rfl⟩ rfl rfl (Nat.le_of_ble_eq_true rfl) dX5_playOnTrial_8 rfl (fun M1 => ?_)
  refine WO.iconst (x := (0 : Int32)) (n := 12) hA dX5_playOnTrial_11 (by decide) rfl ?_
  refine WO.istore (lv' := [(4, .int (0 : Int32)), (0, .ref (w.2.1 0)), (1, .ref (w.2.1 a1)), (2, .int x2), (3, .int x3)]) (n := 14) hA dX5_playOnTrial_12 (by decide) rfl rfl ?_
  refine WO.sub (lv' := [(0, .ref (w.2.1 0)), (1, .ref (w.2.1 a1)), (2, .int x2), (3, .int x3), (4, .int (0 : Int32))]) [1, 2, 3, 4, 0] rfl ?_
  refine w_X5_playOnTrial_L14 hw hA a1 ha1 x2 x3 _ (fun  M4 => ?_) _ _ _
  refine WO.bipush (x := (-9 : Int32)) (n := 62) hA dX5_playOnTrial_60 (by decide) rfl ?_
  exact WO.iret hA dX5_playOnTrial_62
/- X5_refusalOfAct -/
abbrev rmX5_refusalOfAct : Room := { frames := 1, cells := 0, slots := 0, locals := 21 }
theorem mdX5_refusalOfAct : yX5_refusalOfAct.cls = RX5 ∧ yX5_refusalOfAct.cls ≠ "java/lang/invoke/MethodHandle" ∧ yX5_refusalOfAct.cls ≠ "java/lang/invoke/VarHandle" ∧ (parseMethodDescriptor yX5_refusalOfAct.desc).map (fun d => d.parameters.length) = some 2 := by decide +kernel
theorem fkX5_refusalOfAct_12 : Cond.fieldLink RX5 12 (TX5 0).1 (TX5 0).2.1 (TX5 0).2.2.1 ∈ wsX5_refusalOfAct := by decide +kernel
theorem fiX5_refusalOfAct_X5 : ∀ q ∈ u_ws RX5 TX5 10, q ∈ wsX5_refusalOfAct := by decide +kernel
noncomputable def f_X5_refusalOfAct (x1 : Int32) (x2 : Int32) (M : Mem) : Option (Int32 × Mem) := if x2 = (0 : Int32) then (bd (f_X3_hasClock 1 x1 M) (fun r3 M2 => if r3 = 0 then (some ((-1 : Int32), M2)) else (some ((0 : Int32), M2)))) else if x2 = (1 : Int32) then (bd (f_X3_hasClock 1 x1 M) (fun r6 M5 => if r6 = 0 then (some ((-1 : Int32), M5)) else (some ((0 : Int32), M5)))) else if x2 = (2 : Int32) then (bd (f_X3_hasClock 1 x1 M) (fun r9 M8 => if r9 = 0 then (some ((-1 : Int32), M8)) else (some ((0 : Int32), M8)))) else if x2 = (3 : Int32) then (if x1 < 0 then (some ((-2 : Int32), M)) else (if (9 : Int32) < x1 then (some ((-2 : Int32), M)) else (some ((0 : Int32), M)))) else (if x2 < (10 : Int32) then (some ((-2 : Int32), M)) else (if x2 < (14 : Int32) then (bd (f_X3_hasHouse 1 x1 M) (fun r12 M11 => if r12 = 0 then (some ((-1 : Int32), M11)) else (some ((0 : Int32), M11)))) else (some ((-2 : Int32), M))))
set_option maxHeartbeats 4000000 in
set_option maxRecDepth 100000 in
theorem c_X5_refusalOfAct (l : Launch) (w : Cw) (hw : w.2.2.2.2.2 = shX) (x1 : Int32) (x2 : Int32) (M : Mem) : Ok l w eI yX5_refusalOfAct wsX5_refusalOfAct rmX5_refusalOfAct [.ref (w.2.1 0), .int x1, .int x2] M (f_X5_refusalOfAct x1 x2 M) := by
  refine Ok.of (cc := cX5_refusalOfAct) (nL := 3) (ret := (some .int)) (lv := [(0, .ref (w.2.1 0)), (1, .int x1), (2, .int x2)]) (by decide) rfl (Nat.le_of_ble_eq_true rfl) rfl (fun v hv hA => ?_)
  subst hv
  have hA : Act v w RX5 wsX5_refusalOfAct cX5_refusalOfAct 3 (some .int) := hA
  unfold f_X5_refusalOfAct
  refine WO.iload_n (n := 1) hA dX5_refusalOfAct_0 2 rfl rfl ?_
  refine WO.ite (fun hs1 => ?_) (fun hs1 => ?_)
  · refine WO.tin (n := 32) hA (0 : Int32) hs1 dX5_refusalOfAct_1 (by decide) (by decide) rfl (by decide) ?_
    refine WO.aload_n (n := 33) hA dX5_refusalOfAct_32 0 rfl rfl ?_
    refine WO.getR (j := 0) (p := 1) (n := 36) hA (x_0 hw) rfl fiX5_refusalOfAct_X5 (by decide) rfl fkX5_refusalOfAct_12 dX5_refusalOfAct_33 rfl ?_
    refine WO.iload_n (n := 37) hA dX5_refusalOfAct_36 1 rfl rfl ?_
    refine WO.callVi (As := [.int x1]) (rest := []) (n := 40) hA (c_X3_hasClock v.2.1 w hw 1 x1 st1 M) gX5_refusalOfAct_X3_hasClock rfl (st_0 hw st1) rfl mdX3_hasClock ⟨rfl, rfl, Nat.le_of_ble_eq_true rfl, Nat.le_of_ble_eq_true rfl⟩ rfl rfl (Nat.le_of_ble_eq_true rfl) dX5_refusalOfAct_37 rfl (fun r3 M2 => ?_)
    refine WO.if_eq (tg := 47) (n := 43) hA dX5_refusalOfAct_40 (by decide) rfl (fun _ => ?_) (fun _ => ?_)
    · refine WO.iconst (x := (-1 : Int32)) (n := 48) hA dX5_refusalOfAct_47 (by decide) rfl ?_
      exact WO.iret hA dX5_refusalOfAct_48
    · refine WO.iconst (x := (0 : Int32)) (n := 44) hA dX5_refusalOfAct_43 (by decide) rfl ?_
      refine WO.goto (n := 48) hA dX5_refusalOfAct_44 (by decide) ?_
      exact WO.iret hA dX5_refusalOfAct_48
  · refine WO.ite (fun hs4 => ?_) (fun hs4 => ?_)
    · refine WO.tin (n := 32) hA (1 : Int32) hs4 dX5_refusalOfAct_1 (by decide) (by decide) rfl (by decide) ?_
      refine WO.aload_n (n := 33) hA dX5_refusalOfAct_32 0 rfl rfl ?_
      refine WO.getR (j := 0) (p := 1) (n := 36) hA (x_0 hw) rfl fiX5_refusalOfAct_X5 (by decide) rfl fkX5_refusalOfAct_12 dX5_refusalOfAct_33 rfl ?_
      refine WO.iload_n (n := 37) hA dX5_refusalOfAct_36 1 rfl rfl ?_
      refine WO.callVi (As := [.int x1]) (rest := []) (n := 40) hA (c_X3_hasClock v.2.1 w hw 1 x1 st1 M) gX5_refusalOfAct_X3_hasClock rfl (st_0 hw st1) rfl mdX3_hasClock ⟨rfl, rfl, Nat.le_of_ble_eq_true rfl, Nat.le_of_ble_eq_true rfl⟩ rfl rfl (Nat.le_of_ble_eq_true rfl) dX5_refusalOfAct_37 rfl (fun r6 M5 => ?_)
      refine WO.if_eq (tg := 47) (n := 43) hA dX5_refusalOfAct_40 (by decide) rfl (fun _ => ?_) (fun _ => ?_)
      · refine WO.iconst (x := (-1 : Int32)) (n := 48) hA dX5_refusalOfAct_47 (by decide) rfl ?_
        exact WO.iret hA dX5_refusalOfAct_48
      · refine WO.iconst (x := (0 : Int32)) (n := 44) hA dX5_refusalOfAct_43 (by decide) rfl ?_
        refine WO.goto (n := 48) hA dX5_refusalOfAct_44 (by decide) ?_
        exact WO.iret hA dX5_refusalOfAct_48
    · refine WO.ite (fun hs7 => ?_) (fun hs7 => ?_)
      · refine WO.tin (n := 32) hA (2 : Int32) hs7 dX5_refusalOfAct_1 (by decide) (by decide) rfl (by decide) ?_
        refine WO.aload_n (n := 33) hA dX5_refusalOfAct_32 0 rfl rfl ?_
        refine WO.getR (j := 0) (p := 1) (n := 36) hA (x_0 hw) rfl fiX5_refusalOfAct_X5 (by decide) rfl fkX5_refusalOfAct_12 dX5_refusalOfAct_33 rfl ?_
        refine WO.iload_n (n := 37) hA dX5_refusalOfAct_36 1 rfl rfl ?_
        refine WO.callVi (As := [.int x1]) (rest := []) (n := 40) hA (c_X3_hasClock v.2.1 w hw 1 x1 st1 M) gX5_refusalOfAct_X3_hasClock rfl (st_0 hw st1) rfl mdX3_hasClock ⟨rfl, rfl, Nat.le_of_ble_eq_true rfl, Nat.le_of_ble_eq_true rfl⟩ rfl rfl (Nat.le_of_ble_eq_true rfl) dX5_refusalOfAct_37 rfl (fun r9 M8 => ?_)
        refine WO.if_eq (tg := 47) (n := 43) hA dX5_refusalOfAct_40 (by decide) rfl (fun _ => ?_) (fun _ => ?_)
        · refine WO.iconst (x := (-1 : Int32)) (n := 48) hA dX5_refusalOfAct_47 (by decide) rfl ?_
          exact WO.iret hA dX5_refusalOfAct_48
        · refine WO.iconst (x := (0 : Int32)) (n := 44) hA dX5_refusalOfAct_43 (by decide) rfl ?_
          refine WO.goto (n := 48) hA dX5_refusalOfAct_44 (by decide) ?_
          exact WO.iret hA dX5_refusalOfAct_48
      · refine WO.ite (fun hs10 => ?_) (fun hs10 => ?_)
        · refine WO.tin (n := 49) hA (3 : Int32) hs10 dX5_refusalOfAct_1 (by decide) (by decide) rfl (by decide) ?_
          refine WO.iload_n (n := 50) hA dX5_refusalOfAct_49 1 rfl rfl ?_
          refine WO.if_lt (tg := 63) (n := 53) hA dX5_refusalOfAct_50 (by decide) rfl (fun _ => ?_) (fun _ => ?_)
          · refine WO.bipush (x := (-2 : Int32)) (n := 65) hA dX5_refusalOfAct_63 (by decide) rfl ?_
            exact WO.iret hA dX5_refusalOfAct_65
          · refine WO.iload_n (n := 54) hA dX5_refusalOfAct_53 1 rfl rfl ?_
            refine WO.bipush (x := (9 : Int32)) (n := 56) hA dX5_refusalOfAct_54 (by decide) rfl ?_
            refine WO.icmp_gt (tg := 63) (n := 59) hA dX5_refusalOfAct_56 (by decide) rfl (fun _ => ?_) (fun _ => ?_)
            · refine WO.bipush (x := (-2 : Int32)) (n := 65) hA dX5_refusalOfAct_63 (by decide) rfl ?_
              exact WO.iret hA dX5_refusalOfAct_65
            · refine WO.iconst (x := (0 : Int32)) (n := 60) hA dX5_refusalOfAct_59 (by decide) rfl ?_
              refine WO.goto (n := 65) hA dX5_refusalOfAct_60 (by decide) ?_
              exact WO.iret hA dX5_refusalOfAct_65
        · refine WO.tout (n := 66) hA dX5_refusalOfAct_1 (by have ehs1 := lv_neT (a := 0) hs1 (by decide); have ehs4 := lv_neT (a := 1) hs4 (by decide); have ehs7 := lv_neT (a := 2) hs7 (by decide); have ehs10 := lv_neT (a := 3) hs10 (by decide); omega) (by decide) ?_
          refine WO.iload_n (n := 67) hA dX5_refusalOfAct_66 2 rfl rfl ?_
          refine WO.bipush (x := (10 : Int32)) (n := 69) hA dX5_refusalOfAct_67 (by decide) rfl ?_
          refine WO.icmp_lt (tg := 78) (n := 72) hA dX5_refusalOfAct_69 (by decide) rfl (fun _ => ?_) (fun _ => ?_)
          · refine WO.bipush (x := (-2 : Int32)) (n := 80) hA dX5_refusalOfAct_78 (by decide) rfl ?_
            exact WO.iret hA dX5_refusalOfAct_80
          · refine WO.iload_n (n := 73) hA dX5_refusalOfAct_72 2 rfl rfl ?_
            refine WO.bipush (x := (14 : Int32)) (n := 75) hA dX5_refusalOfAct_73 (by decide) rfl ?_
            refine WO.icmp_lt (tg := 81) (n := 78) hA dX5_refusalOfAct_75 (by decide) rfl (fun _ => ?_) (fun _ => ?_)
            · refine WO.aload_n (n := 82) hA dX5_refusalOfAct_81 0 rfl rfl ?_
              refine WO.getR (j := 0) (p := 1) (n := 85) hA (x_0 hw) rfl fiX5_refusalOfAct_X5 (by decide) rfl fkX5_refusalOfAct_12 dX5_refusalOfAct_82 rfl ?_
              refine WO.iload_n (n := 86) hA dX5_refusalOfAct_85 1 rfl rfl ?_
              refine WO.callVi (As := [.int x1]) (rest := []) (n := 89) hA (c_X3_hasHouse v.2.1 w hw 1 x1 st1 M) gX5_refusalOfAct_X3_hasHouse rfl (st_0 hw st1) rfl mdX3_hasHouse ⟨rfl, rfl, Nat.le_of_ble_eq_true rfl, Nat.le_of_ble_eq_true rfl⟩ rfl rfl (Nat.le_of_ble_eq_true rfl) dX5_refusalOfAct_86 rfl (fun r12 M11 => ?_)
              refine WO.if_eq (tg := 96) (n := 92) hA dX5_refusalOfAct_89 (by decide) rfl (fun _ => ?_) (fun _ => ?_)
              · refine WO.iconst (x := (-1 : Int32)) (n := 97) hA dX5_refusalOfAct_96 (by decide) rfl ?_
                exact WO.iret hA dX5_refusalOfAct_97
              · refine WO.iconst (x := (0 : Int32)) (n := 93) hA dX5_refusalOfAct_92 (by decide) rfl ?_
                refine WO.goto (n := 97) hA dX5_refusalOfAct_93 (by decide) ?_
                exact WO.iret hA dX5_refusalOfAct_97
            · refine WO.bipush (x := (-2 : Int32)) (n := 80) hA dX5_refusalOfAct_78 (by decide) rfl ?_
              exact WO.iret hA dX5_refusalOfAct_80
/- X5_refusalOfActs -/
abbrev rmX5_refusalOfActs : Room := { frames := 2, cells := 0, slots := 0, locals := 43 }
theorem mdX5_refusalOfActs : yX5_refusalOfActs.cls = RX5 ∧ yX5_refusalOfActs.cls ≠ "java/lang/invoke/MethodHandle" ∧ yX5_refusalOfActs.cls ≠ "java/lang/invoke/VarHandle" ∧ (parseMethodDescriptor yX5_refusalOfActs.desc).map (fun d => d.parameters.length) = some 3 := by decide +kernel
theorem fkX5_refusalOfActs_224 : Cond.fieldLink RX5 224 (TX2 0).1 (TX2 0).2.1 (TX2 0).2.2.1 ∈ wsX5_refusalOfActs := by decide +kernel
theorem fiX5_refusalOfActs_X2 : ∀ q ∈ u_ws RX2 TX2 4, q ∈ wsX5_refusalOfActs := by decide +kernel
noncomputable def f_X5_refusalOfActs_L3 (a1 : Nat) (x2 : Int32) (x3 : Int32) (kx : Mem → Option (Int32 × Mem)) : Nat → Int32 → Mem → Option (Int32 × Mem)
  | 0, _, _ => none
  | n + 1, x4, M => if x3 ≤ x4 then (kx  M) else (grd (x2 + ((2 : Int32) * x4)) 60 (grd ((x2 + ((2 : Int32) * x4)) + (1 : Int32)) 60 (bd (f_X5_refusalOfAct (M (a1 + 1) (x2 + ((2 : Int32) * x4)).toNatClampNeg) (M (a1 + 1) ((x2 + ((2 : Int32) * x4)) + (1 : Int32)).toNatClampNeg) M) (fun r2 M1 => if r2 = 0 then (f_X5_refusalOfActs_L3 a1 x2 x3 kx n (x4 + (1 : Int32)) M1) else (some (r2, M1))))))
noncomputable def f_X5_refusalOfActs (a1 : Nat) (x2 : Int32) (x3 : Int32) (M : Mem) : Option (Int32 × Mem) := f_X5_refusalOfActs_L3 a1 x2 x3 (fun  M3 => some ((0 : Int32), M3)) FU (0 : Int32) M
set_option maxHeartbeats 4000000 in
set_option maxRecDepth 100000 in
theorem w_X5_refusalOfActs_L3 {v : Av} {w : Cw} (hw : w.2.2.2.2.2 = shX) (hA : Act v w RX5 wsX5_refusalOfActs cX5_refusalOfActs 6 (some .int)) (a1 : Nat) (ha1 : isShe a1) (x2 : Int32) (x3 : Int32) (kx : Mem → Option (Int32 × Mem)) (hk : ∀ (M : Mem), WO v w rmX5_refusalOfActs 6 eI (kx M) 53 [] [] M) : ∀ (n : Nat) (x4 : Int32) (M : Mem), WO v w rmX5_refusalOfActs 6 eI (f_X5_refusalOfActs_L3 a1 x2 x3 kx n x4 M) 3 [(0, .ref (w.2.1 0)), (1, .ref (w.2.1 a1)), (2, .int x2), (3, .int x3), (4, .int x4)] [] M := by
  intro n
  induction n with
  | zero => intro x4 M; exact WO.nothing
  | succ n ih =>
    intro x4 M
    rw [f_X5_refusalOfActs_L3]
    refine WO.iload (n := 5) hA dX5_refusalOfActs_3 4 rfl rfl ?_
    refine WO.iload_n (n := 6) hA dX5_refusalOfActs_5 3 rfl rfl ?_
    refine WO.icmp_ge (tg := 53) (n := 9) hA dX5_refusalOfActs_6 (by decide) rfl (fun _ => ?_) (fun _ => ?_)
    · refine WO.sub (lv' := []) [] rfl ?_
      exact hk  M
    · refine WO.aload_n (n := 10) hA dX5_refusalOfActs_9 0 rfl rfl ?_
      refine WO.aload_n (n := 11) hA dX5_refusalOfActs_10 1 rfl rfl ?_
      refine WO.getR (j := 0) (p := (a1 + 1)) (n := 14) hA (she_0 hw ha1) rfl fiX5_refusalOfActs_X2 (by decide) rfl fkX5_refusalOfActs_224 dX5_refusalOfActs_11 rfl ?_
      refine WO.iload_n (n := 15) hA dX5_refusalOfActs_14 2 rfl rfl ?_
      refine WO.iconst (x := (2 : Int32)) (n := 16) hA dX5_refusalOfActs_15 (by decide) rfl ?_
      refine WO.iload (n := 18) hA dX5_refusalOfActs_16 4 rfl rfl ?_
      refine WO.imul (n := 19) hA dX5_refusalOfActs_18 rfl ?_
      refine WO.iadd (n := 20) hA dX5_refusalOfActs_19 rfl ?_
      refine WO.iald (n := 21) hA (she_1 hw ha1) dX5_refusalOfActs_20 rfl (fun _ => ?_)
      refine WO.aload_n (n := 22) hA dX5_refusalOfActs_21 1 rfl rfl ?_
      refine WO.getR (j := 0) (p := (a1 + 1)) (n := 25) hA (she_0 hw ha1) rfl fiX5_refusalOfActs_X2 (by decide) rfl fkX5_refusalOfActs_224 dX5_refusalOfActs_22 rfl ?_
      refine WO.iload_n (n := 26) hA dX5_refusalOfActs_25 2 rfl rfl ?_
      refine WO.iconst (x := (2 : Int32)) (n := 27) hA dX5_refusalOfActs_26 (by decide) rfl ?_
      refine WO.iload (n := 29) hA dX5_refusalOfActs_27 4 rfl rfl ?_
      refine WO.imul (n := 30) hA dX5_refusalOfActs_29 rfl ?_
      refine WO.iadd (n := 31) hA dX5_refusalOfActs_30 rfl ?_
      refine WO.iconst (x := (1 : Int32)) (n := 32) hA dX5_refusalOfActs_31 (by decide) rfl ?_
      refine WO.iadd (n := 33) hA dX5_refusalOfActs_32 rfl ?_
      refine WO.iald (n := 34) hA (she_1 hw ha1) dX5_refusalOfActs_33 rfl (fun _ => ?_)
      refine WO.callVi (As := [.int (M (a1 + 1) (x2 + ((2 : Int32) * x4)).toNatClampNeg), .int (M (a1 + 1) ((x2 + ((2 : Int32) * x4)) + (1 : Int32)).toNatClampNeg)]) (rest := []) (n := 37) hA (c_X5_refusalOfAct v.2.1 w hw (M (a1 + 1) (x2 + ((2 : Int32) * x4)).toNatClampNeg) (M (a1 + 1) ((x2 + ((2 : Int32) * x4)) + (1 : Int32)).toNatClampNeg) M) gX5_refusalOfActs_X5_refusalOfAct rfl (x_0 hw) rfl mdX5_refusalOfAct ⟨rfl, rfl, Nat.le_of_ble_eq_true rfl, Nat.le_of_ble_eq_true rfl⟩ rfl rfl (Nat.le_of_ble_eq_true rfl) dX5_refusalOfActs_34 rfl (fun r2 M1 => ?_)
      refine WO.istore (lv' := [(5, .int r2), (0, .ref (w.2.1 0)), (1, .ref (w.2.1 a1)), (2, .int x2), (3, .int x3), (4, .int x4)]) (n := 39) hA dX5_refusalOfActs_37 (by decide) rfl rfl ?_
      refine WO.iload (n := 41) hA dX5_refusalOfActs_39 0 rfl rfl ?_
      refine WO.if_eq (tg := 47) (n := 44) hA dX5_refusalOfActs_41 (by decide) rfl (fun _ => ?_) (fun _ => ?_)
      · refine WO.iinc (y := (1 : Int32)) (lv' := [(4, .int (x4 + (1 : Int32))), (5, .int r2), (0, .ref (w.2.1 0)), (1, .ref (w.2.1 a1)), (2, .int x2), (3, .int x3)]) (n := 50) hA dX5_refusalOfActs_47 5 rfl (by decide) (by decide) rfl rfl ?_
        refine WO.goto (n := 3) hA dX5_refusalOfActs_50 (by decide) ?_
        refine WO.sub (lv' := [(0, .ref (w.2.1 0)), (1, .ref (w.2.1 a1)), (2, .int x2), (3, .int x3), (4, .int (x4 + (1 : Int32)))]) [2, 3, 4, 5, 0] rfl ?_
        exact ih (x4 + (1 : Int32)) M1
      · refine WO.iload (n := 46) hA dX5_refusalOfActs_44 0 rfl rfl ?_
        exact WO.iret hA dX5_refusalOfActs_46
set_option maxHeartbeats 4000000 in
set_option maxRecDepth 100000 in
theorem c_X5_refusalOfActs (l : Launch) (w : Cw) (hw : w.2.2.2.2.2 = shX) (a1 : Nat) (x2 : Int32) (x3 : Int32) (ha1 : isShe a1) (M : Mem) : Ok l w eI yX5_refusalOfActs wsX5_refusalOfActs rmX5_refusalOfActs [.ref (w.2.1 0), .ref (w.2.1 a1), .int x2, .int x3] M (f_X5_refusalOfActs a1 x2 x3 M) := by
  refine Ok.of (cc := cX5_refusalOfActs) (nL := 6) (ret := (some .int)) (lv := [(0, .ref (w.2.1 0)), (1, .ref (w.2.1 a1)), (2, .int x2), (3, .int x3)]) (by decide) rfl (Nat.le_of_ble_eq_true rfl) rfl (fun v hv hA => ?_)
  subst hv
  have hA : Act v w RX5 wsX5_refusalOfActs cX5_refusalOfActs 6 (some .int) := hA
  unfold f_X5_refusalOfActs
  refine WO.iconst (x := (0 : Int32)) (n := 1) hA dX5_refusalOfActs_0 (by decide) rfl ?_
  refine WO.istore (lv' := [(4, .int (0 : Int32)), (0, .ref (w.2.1 0)), (1, .ref (w.2.1 a1)), (2, .int x2), (3, .int x3)]) (n := 3) hA dX5_refusalOfActs_1 (by decide) rfl rfl ?_
  refine WO.sub (lv' := [(0, .ref (w.2.1 0)), (1, .ref (w.2.1 a1)), (2, .int x2), (3, .int x3), (4, .int (0 : Int32))]) [1, 2, 3, 4, 0] rfl ?_
  refine w_X5_refusalOfActs_L3 hw hA a1 ha1 x2 x3 _ (fun  M3 => ?_) _ _ _
  refine WO.iconst (x := (0 : Int32)) (n := 54) hA dX5_refusalOfActs_53 (by decide) rfl ?_
  exact WO.iret hA dX5_refusalOfActs_54
/- X5_season -/
abbrev rmX5_season : Room := { frames := 7, cells := 0, slots := 0, locals := 162 }
theorem mdX5_season : yX5_season.cls = RX5 ∧ yX5_season.cls ≠ "java/lang/invoke/MethodHandle" ∧ yX5_season.cls ≠ "java/lang/invoke/VarHandle" ∧ (parseMethodDescriptor yX5_season.desc).map (fun d => d.parameters.length) = some 5 := by decide +kernel
theorem fkX5_season_53 : Cond.fieldLink RX5 53 (TX5 9).1 (TX5 9).2.1 (TX5 9).2.2.1 ∈ wsX5_season := by decide +kernel
theorem fiX5_season_X5 : ∀ q ∈ u_ws RX5 TX5 10, q ∈ wsX5_season := by decide +kernel
theorem fkX5_season_45 : Cond.fieldLink RX5 45 (TX5 5).1 (TX5 5).2.1 (TX5 5).2.2.1 ∈ wsX5_season := by decide +kernel
theorem fkX5_season_12 : Cond.fieldLink RX5 12 (TX5 0).1 (TX5 0).2.1 (TX5 0).2.2.1 ∈ wsX5_season := by decide +kernel
noncomputable def f_X5_season (x1 : Int32) (x2 : Int32) (x3 : Int32) (x4 : Int32) (x5 : Int32) (M : Mem) : Option (Int32 × Mem) := mlt (mu M 0 9 (0 : Int32)) (fun M1 => bd (f_X5_isSheet x1 M1) (fun r3 M2 => if r3 = 0 then (some ((-1 : Int32), M2)) else (bd (f_X5_isLane x2 M2) (fun r5 M4 => if r5 = 0 then (some ((-2 : Int32), M4)) else (if x4 < 0 then (some ((-2 : Int32), M4)) else (if (20 : Int32) < x4 then (some ((-2 : Int32), M4)) else (bd (f_X5_isAskedOfSeason x5 M4) (fun r7 M6 => if r7 = 0 then (some ((-2 : Int32), M6)) else (grd x1 4 (bd (f_X2_faultAs (gSh x1.toNatClampNeg) x2 M6) (fun r10 M9 => if r10 = 0 then (bd (f_X2_lacks (gSh x1.toNatClampNeg) x3 ((2 : Int32) * x4) M9) (fun r12 M11 => if r12 = 0 then (if r10 = 0 then (bd (f_X3_stands 1 M11) (fun r14 M13 => if r14 = 0 then (some ((-3 : Int32), M13)) else (bd (f_X5_refusalOfActs (gSh x1.toNatClampNeg) x3 x4 M13) (fun r16 M15 => if r16 = 0 then (bd (f_X5_playOnTrial (gSh x1.toNatClampNeg) x3 x4 M15) (fun r18 M17 => if x5 = (1 : Int32) then (some (r18, M17)) else (if r18 = (-9 : Int32) then (bd (f_X5_answerOfTrial x5 M17) (fun r20 M19 => some (r20, M19))) else (some (((-100 : Int32) - r18), M17))))) else (some (r16, M15)))))) else (bd (f_X5_faulty r10 M11) (fun r22 M21 => some (r22, M21)))) else (if (3 : Int32) = 0 then (bd (f_X3_stands 1 M11) (fun r24 M23 => if r24 = 0 then (some ((-3 : Int32), M23)) else (bd (f_X5_refusalOfActs (gSh x1.toNatClampNeg) x3 x4 M23) (fun r26 M25 => if r26 = 0 then (bd (f_X5_playOnTrial (gSh x1.toNatClampNeg) x3 x4 M25) (fun r28 M27 => if x5 = (1 : Int32) then (some (r28, M27)) else (if r28 = (-9 : Int32) then (bd (f_X5_answerOfTrial x5 M27) (fun r30 M29 => some (r30, M29))) else (some (((-100 : Int32) - r28), M27))))) else (some (r26, M25)))))) else (bd (f_X5_faulty (3 : Int32) M11) (fun r32 M31 => some (r32, M31)))))) else (if r10 = 0 then (bd (f_X3_stands 1 M9) (fun r34 M33 => if r34 = 0 then (some ((-3 : Int32), M33)) else (bd (f_X5_refusalOfActs (gSh x1.toNatClampNeg) x3 x4 M33) (fun r36 M35 => if r36 = 0 then (bd (f_X5_playOnTrial (gSh x1.toNatClampNeg) x3 x4 M35) (fun r38 M37 => if x5 = (1 : Int32) then (some (r38, M37)) else (if r38 = (-9 : Int32) then (bd (f_X5_answerOfTrial x5 M37) (fun r40 M39 => some (r40, M39))) else (some (((-100 : Int32) - r38), M37))))) else (some (r36, M35)))))) else (bd (f_X5_faulty r10 M9) (fun r42 M41 => some (r42, M41)))))))))))))))
set_option maxHeartbeats 4000000 in
set_option maxRecDepth 100000 in
theorem c_X5_season (l : Launch) (w : Cw) (hw : w.2.2.2.2.2 = shX) (x1 : Int32) (x2 : Int32) (x3 : Int32) (x4 : Int32) (x5 : Int32) (M : Mem) : Ok l w eI yX5_season wsX5_season rmX5_season [.ref (w.2.1 0), .int x1, .int x2, .int x3, .int x4, .int x5] M (f_X5_season x1 x2 x3 x4 x5 M) := by
  refine Ok.of (cc := cX5_season) (nL := 10) (ret := (some .int)) (lv := [(0, .ref (w.2.1 0)), (1, .int x1), (2, .int x2), (3, .int x3), (4, .int x4), (5, .int x5)]) (by decide) rfl (Nat.le_of_ble_eq_true rfl) rfl (fun v hv hA => ?_)
  subst hv
  have hA : Act v w RX5 wsX5_season cX5_season 10 (some .int) := hA
  unfold f_X5_season
  refine WO.aload_n (n := 1) hA dX5_season_0 0 rfl rfl ?_
  refine WO.iconst (x := (0 : Int32)) (n := 2) hA dX5_season_1 (by decide) rfl ?_
  refine WO.putI (j := 9) (n := 5) hA (x_0 hw) rfl fiX5_season_X5 tyX5 tyX5_ok nmX5 (by decide) rfl fkX5_season_53 rfl rfl rfl rfl dX5_season_2 rfl ?_
  refine WO.mem (fun M1 => ?_)
  refine WO.iload_n (n := 6) hA dX5_season_5 1 rfl rfl ?_
  refine WO.callSi (As := [.int x1]) (rest := []) (n := 9) hA (c_X5_isSheet v.2.1 w hw x1 M1) gX5_season_X5_isSheet rfl mdX5_isSheet ⟨rfl, rfl, Nat.le_of_ble_eq_true rfl, Nat.le_of_ble_eq_true rfl⟩ rfl rfl (Nat.le_of_ble_eq_true rfl) dX5_season_6 rfl (fun r3 M2 => ?_)
  refine WO.if_ne (tg := 14) (n := 12) hA dX5_season_9 (by decide) rfl (fun _ => ?_) (fun _ => ?_)
  · refine WO.iconst (x := (-1 : Int32)) (n := 13) hA dX5_season_12 (by decide) rfl ?_
    exact WO.iret hA dX5_season_13
  · refine WO.iload_n (n := 15) hA dX5_season_14 2 rfl rfl ?_
    refine WO.callSi (As := [.int x2]) (rest := []) (n := 18) hA (c_X5_isLane v.2.1 w hw x2 M2) gX5_season_X5_isLane rfl mdX5_isLane ⟨rfl, rfl, Nat.le_of_ble_eq_true rfl, Nat.le_of_ble_eq_true rfl⟩ rfl rfl (Nat.le_of_ble_eq_true rfl) dX5_season_15 rfl (fun r5 M4 => ?_)
    refine WO.if_eq (tg := 41) (n := 21) hA dX5_season_18 (by decide) rfl (fun _ => ?_) (fun _ => ?_)
    · refine WO.bipush (x := (-2 : Int32)) (n := 43) hA dX5_season_41 (by decide) rfl ?_
      exact WO.iret hA dX5_season_43
    · refine WO.iload (n := 23) hA dX5_season_21 4 rfl rfl ?_
      refine WO.if_lt (tg := 41) (n := 26) hA dX5_season_23 (by decide) rfl (fun _ => ?_) (fun _ => ?_)
      · refine WO.bipush (x := (-2 : Int32)) (n := 43) hA dX5_season_41 (by decide) rfl ?_
        exact WO.iret hA dX5_season_43
      · refine WO.iload (n := 28) hA dX5_season_26 4 rfl rfl ?_
        refine WO.bipush (x := (20 : Int32)) (n := 30) hA dX5_season_28 (by decide) rfl ?_
        refine WO.icmp_gt (tg := 41) (n := 33) hA dX5_season_30 (by decide) rfl (fun _ => ?_) (fun _ => ?_)
        · refine WO.bipush (x := (-2 : Int32)) (n := 43) hA dX5_season_41 (by decide) rfl ?_
          exact WO.iret hA dX5_season_43
        · refine WO.iload (n := 35) hA dX5_season_33 5 rfl rfl ?_
          refine WO.callSi (As := [.int x5]) (rest := []) (n := 38) hA (c_X5_isAskedOfSeason v.2.1 w hw x5 M4) gX5_season_X5_isAskedOfSeason rfl mdX5_isAskedOfSeason ⟨rfl, rfl, Nat.le_of_ble_eq_true rfl, Nat.le_of_ble_eq_true rfl⟩ rfl rfl (Nat.le_of_ble_eq_true rfl) dX5_season_35 rfl (fun r7 M6 => ?_)
          refine WO.if_ne (tg := 44) (n := 41) hA dX5_season_38 (by decide) rfl (fun _ => ?_) (fun _ => ?_)
          · refine WO.bipush (x := (-2 : Int32)) (n := 43) hA dX5_season_41 (by decide) rfl ?_
            exact WO.iret hA dX5_season_43
          · refine WO.aload_n (n := 45) hA dX5_season_44 0 rfl rfl ?_
            refine WO.getR (j := 5) (p := 28) (n := 48) hA (x_0 hw) rfl fiX5_season_X5 (by decide) rfl fkX5_season_45 dX5_season_45 rfl ?_
            refine WO.iload_n (n := 49) hA dX5_season_48 1 rfl rfl ?_
            refine WO.aald (n := 50) hA (x_28 hw) rfl rfl dX5_season_49 rfl (fun hi8 => ?_)
            refine WO.astore (lv' := [(6, .ref (w.2.1 (gSh x1.toNatClampNeg))), (0, .ref (w.2.1 0)), (1, .int x1), (2, .int x2), (3, .int x3), (4, .int x4), (5, .int x5)]) (n := 52) hA dX5_season_50 (by decide) rfl rfl ?_
            refine WO.aload (n := 54) hA dX5_season_52 0 rfl rfl ?_
            refine WO.iload_n (n := 55) hA dX5_season_54 3 rfl rfl ?_
            refine WO.callVi (As := [.int x2]) (rest := []) (n := 58) hA (c_X2_faultAs v.2.1 w hw (gSh x1.toNatClampNeg) x2 (she_of hi8.2) M6) gX5_season_X2_faultAs rfl (she_0 hw (she_of hi8.2)) rfl mdX2_faultAs ⟨rfl, rfl, Nat.le_of_ble_eq_true rfl, Nat.le_of_ble_eq_true rfl⟩ rfl rfl (Nat.le_of_ble_eq_true rfl) dX5_season_55 rfl (fun r10 M9 => ?_)
            refine WO.istore (lv' := [(7, .int r10), (6, .ref (w.2.1 (gSh x1.toNatClampNeg))), (0, .ref (w.2.1 0)), (1, .int x1), (2, .int x2), (3, .int x3), (4, .int x4), (5, .int x5)]) (n := 60) hA dX5_season_58 (by decide) rfl rfl ?_
            refine WO.iload (n := 62) hA dX5_season_60 0 rfl rfl ?_
            refine WO.if_ne (tg := 81) (n := 65) hA dX5_season_62 (by decide) rfl (fun _ => ?_) (fun _ => ?_)
            · refine WO.aload (n := 67) hA dX5_season_65 1 rfl rfl ?_
              refine WO.iload_n (n := 68) hA dX5_season_67 5 rfl rfl ?_
              refine WO.iconst (x := (2 : Int32)) (n := 69) hA dX5_season_68 (by decide) rfl ?_
              refine WO.iload (n := 71) hA dX5_season_69 6 rfl rfl ?_
              refine WO.imul (n := 72) hA dX5_season_71 rfl ?_
              refine WO.callVi (As := [.int x3, .int ((2 : Int32) * x4)]) (rest := []) (n := 75) hA (c_X2_lacks v.2.1 w hw (gSh x1.toNatClampNeg) x3 ((2 : Int32) * x4) (she_of hi8.2) M9) gX5_season_X2_lacks rfl (she_0 hw (she_of hi8.2)) rfl mdX2_lacks ⟨rfl, rfl, Nat.le_of_ble_eq_true rfl, Nat.le_of_ble_eq_true rfl⟩ rfl rfl (Nat.le_of_ble_eq_true rfl) dX5_season_72 rfl (fun r12 M11 => ?_)
              refine WO.if_eq (tg := 81) (n := 78) hA dX5_season_75 (by decide) rfl (fun _ => ?_) (fun _ => ?_)
              · refine WO.iload (n := 83) hA dX5_season_81 0 rfl rfl ?_
                refine WO.if_eq (tg := 93) (n := 86) hA dX5_season_83 (by decide) rfl (fun _ => ?_) (fun _ => ?_)
                · refine WO.aload_n (n := 94) hA dX5_season_93 2 rfl rfl ?_
                  refine WO.getR (j := 0) (p := 1) (n := 97) hA (x_0 hw) rfl fiX5_season_X5 (by decide) rfl fkX5_season_12 dX5_season_94 rfl ?_
                  refine WO.callVi (As := []) (rest := []) (n := 100) hA (c_X3_stands v.2.1 w hw 1 st1 M11) gX5_season_X3_stands rfl (st_0 hw st1) rfl mdX3_stands ⟨rfl, rfl, Nat.le_of_ble_eq_true rfl, Nat.le_of_ble_eq_true rfl⟩ rfl rfl (Nat.le_of_ble_eq_true rfl) dX5_season_97 rfl (fun r14 M13 => ?_)
                  refine WO.if_ne (tg := 106) (n := 103) hA dX5_season_100 (by decide) rfl (fun _ => ?_) (fun _ => ?_)
                  · refine WO.bipush (x := (-3 : Int32)) (n := 105) hA dX5_season_103 (by decide) rfl ?_
                    exact WO.iret hA dX5_season_105
                  · refine WO.aload_n (n := 107) hA dX5_season_106 2 rfl rfl ?_
                    refine WO.aload (n := 109) hA dX5_season_107 1 rfl rfl ?_
                    refine WO.iload_n (n := 110) hA dX5_season_109 5 rfl rfl ?_
                    refine WO.iload (n := 112) hA dX5_season_110 6 rfl rfl ?_
                    refine WO.callVi (As := [.ref (w.2.1 (gSh x1.toNatClampNeg)), .int x3, .int x4]) (rest := []) (n := 115) hA (c_X5_refusalOfActs v.2.1 w hw (gSh x1.toNatClampNeg) x3 x4 (she_of hi8.2) M13) gX5_season_X5_refusalOfActs rfl (x_0 hw) rfl mdX5_refusalOfActs ⟨rfl, rfl, Nat.le_of_ble_eq_true rfl, Nat.le_of_ble_eq_true rfl⟩ rfl rfl (Nat.le_of_ble_eq_true rfl) dX5_season_112 rfl (fun r16 M15 => ?_)
                    refine WO.istore (lv' := [(8, .int r16), (7, .int r10), (6, .ref (w.2.1 (gSh x1.toNatClampNeg))), (0, .ref (w.2.1 0)), (1, .int x1), (2, .int x2), (3, .int x3), (4, .int x4), (5, .int x5)]) (n := 117) hA dX5_season_115 (by decide) rfl rfl ?_
                    refine WO.iload (n := 119) hA dX5_season_117 0 rfl rfl ?_
                    refine WO.if_eq (tg := 125) (n := 122) hA dX5_season_119 (by decide) rfl (fun _ => ?_) (fun _ => ?_)
                    · refine WO.aload_n (n := 126) hA dX5_season_125 3 rfl rfl ?_
                      refine WO.aload (n := 128) hA dX5_season_126 2 rfl rfl ?_
                      refine WO.iload_n (n := 129) hA dX5_season_128 6 rfl rfl ?_
                      refine WO.iload (n := 131) hA dX5_season_129 7 rfl rfl ?_
                      refine WO.callVi (As := [.ref (w.2.1 (gSh x1.toNatClampNeg)), .int x3, .int x4]) (rest := []) (n := 134) hA (c_X5_playOnTrial v.2.1 w hw (gSh x1.toNatClampNeg) x3 x4 (she_of hi8.2) M15) gX5_season_X5_playOnTrial rfl (x_0 hw) rfl mdX5_playOnTrial ⟨rfl, rfl, Nat.le_of_ble_eq_true rfl, Nat.le_of_ble_eq_true rfl⟩ rfl rfl (Nat.le_of_ble_eq_true rfl) dX5_season_131 rfl (fun r18 M17 => ?_)
                      refine WO.istore (lv' := [(9, .int r18), (8, .int r16), (7, .int r10), (6, .ref (w.2.1 (gSh x1.toNatClampNeg))), (0, .ref (w.2.1 0)), (1, .int x1), (2, .int x2), (3, .int x3), (4, .int x4), (5, .int x5)]) (n := 136) hA dX5_season_134 (by decide) rfl rfl ?_
                      refine WO.iload (n := 138) hA dX5_season_136 9 rfl rfl ?_
                      refine WO.iconst (x := (1 : Int32)) (n := 139) hA dX5_season_138 (by decide) rfl ?_
                      refine WO.icmp_ne (tg := 145) (n := 142) hA dX5_season_139 (by decide) rfl (fun _ => ?_) (fun _ => ?_)
                      · refine WO.iload (n := 144) hA dX5_season_142 0 rfl rfl ?_
                        exact WO.iret hA dX5_season_144
                      · refine WO.iload (n := 147) hA dX5_season_145 0 rfl rfl ?_
                        refine WO.bipush (x := (-9 : Int32)) (n := 149) hA dX5_season_147 (by decide) rfl ?_
                        refine WO.icmp_ne (tg := 161) (n := 152) hA dX5_season_149 (by decide) rfl (fun _ => ?_) (fun _ => ?_)
                        · refine WO.aload_n (n := 153) hA dX5_season_152 4 rfl rfl ?_
                          refine WO.iload (n := 155) hA dX5_season_153 9 rfl rfl ?_
                          refine WO.callVi (As := [.int x5]) (rest := []) (n := 158) hA (c_X5_answerOfTrial v.2.1 w hw x5 M17) gX5_season_X5_answerOfTrial rfl (x_0 hw) rfl mdX5_answerOfTrial ⟨rfl, rfl, Nat.le_of_ble_eq_true rfl, Nat.le_of_ble_eq_true rfl⟩ rfl rfl (Nat.le_of_ble_eq_true rfl) dX5_season_155 rfl (fun r20 M19 => ?_)
                          refine WO.goto (n := 166) hA dX5_season_158 (by decide) ?_
                          exact WO.iret hA dX5_season_166
                        · refine WO.bipush (x := (-100 : Int32)) (n := 163) hA dX5_season_161 (by decide) rfl ?_
                          refine WO.iload (n := 165) hA dX5_season_163 0 rfl rfl ?_
                          refine WO.isub (n := 166) hA dX5_season_165 rfl ?_
                          exact WO.iret hA dX5_season_166
                    · refine WO.iload (n := 124) hA dX5_season_122 0 rfl rfl ?_
                      exact WO.iret hA dX5_season_124
                · refine WO.aload_n (n := 87) hA dX5_season_86 2 rfl rfl ?_
                  refine WO.iload (n := 89) hA dX5_season_87 0 rfl rfl ?_
                  refine WO.callVi (As := [.int r10]) (rest := []) (n := 92) hA (c_X5_faulty v.2.1 w hw r10 M11) gX5_season_X5_faulty rfl (x_0 hw) rfl mdX5_faulty ⟨rfl, rfl, Nat.le_of_ble_eq_true rfl, Nat.le_of_ble_eq_true rfl⟩ rfl rfl (Nat.le_of_ble_eq_true rfl) dX5_season_89 rfl (fun r22 M21 => ?_)
                  exact WO.iret hA dX5_season_92
              · refine WO.iconst (x := (3 : Int32)) (n := 79) hA dX5_season_78 (by decide) rfl ?_
                refine WO.istore (lv' := [(7, .int (3 : Int32)), (6, .ref (w.2.1 (gSh x1.toNatClampNeg))), (0, .ref (w.2.1 0)), (1, .int x1), (2, .int x2), (3, .int x3), (4, .int x4), (5, .int x5)]) (n := 81) hA dX5_season_79 (by decide) rfl rfl ?_
                refine WO.iload (n := 83) hA dX5_season_81 0 rfl rfl ?_
                refine WO.if_eq (tg := 93) (n := 86) hA dX5_season_83 (by decide) rfl (fun _ => ?_) (fun _ => ?_)
                · refine WO.aload_n (n := 94) hA dX5_season_93 2 rfl rfl ?_
                  refine WO.getR (j := 0) (p := 1) (n := 97) hA (x_0 hw) rfl fiX5_season_X5 (by decide) rfl fkX5_season_12 dX5_season_94 rfl ?_
                  refine WO.callVi (As := []) (rest := []) (n := 100) hA (c_X3_stands v.2.1 w hw 1 st1 M11) gX5_season_X3_stands rfl (st_0 hw st1) rfl mdX3_stands ⟨rfl, rfl, Nat.le_of_ble_eq_true rfl, Nat.le_of_ble_eq_true rfl⟩ rfl rfl (Nat.le_of_ble_eq_true rfl) dX5_season_97 rfl (fun r24 M23 => ?_)
                  refine WO.if_ne (tg := 106) (n := 103) hA dX5_season_100 (by decide) rfl (fun _ => ?_) (fun _ => ?_)
                  · refine WO.bipush (x := (-3 : Int32)) (n := 105) hA dX5_season_103 (by decide) rfl ?_
                    exact WO.iret hA dX5_season_105
                  · refine WO.aload_n (n := 107) hA dX5_season_106 2 rfl rfl ?_
                    refine WO.aload (n := 109) hA dX5_season_107 1 rfl rfl ?_
                    refine WO.iload_n (n := 110) hA dX5_season_109 5 rfl rfl ?_
                    refine WO.iload (n := 112) hA dX5_season_110 6 rfl rfl ?_
                    refine WO.callVi (As := [.ref (w.2.1 (gSh x1.toNatClampNeg)), .int x3, .int x4]) (rest := []) (n := 115) hA (c_X5_refusalOfActs v.2.1 w hw (gSh x1.toNatClampNeg) x3 x4 (she_of hi8.2) M23) gX5_season_X5_refusalOfActs rfl (x_0 hw) rfl mdX5_refusalOfActs ⟨rfl, rfl, Nat.le_of_ble_eq_true rfl, Nat.le_of_ble_eq_true rfl⟩ rfl rfl (Nat.le_of_ble_eq_true rfl) dX5_season_112 rfl (fun r26 M25 => ?_)
                    refine WO.istore (lv' := [(8, .int r26), (7, .int (3 : Int32)), (6, .ref (w.2.1 (gSh x1.toNatClampNeg))), (0, .ref (w.2.1 0)), (1, .int x1), (2, .int x2), (3, .int x3), (4, .int x4), (5, .int x5)]) (n := 117) hA dX5_season_115 (by decide) rfl rfl ?_
                    refine WO.iload (n := 119) hA dX5_season_117 0 rfl rfl ?_
                    refine WO.if_eq (tg := 125) (n := 122) hA dX5_season_119 (by decide) rfl (fun _ => ?_) (fun _ => ?_)
                    · refine WO.aload_n (n := 126) hA dX5_season_125 3 rfl rfl ?_
                      refine WO.aload (n := 128) hA dX5_season_126 2 rfl rfl ?_
                      refine WO.iload_n (n := 129) hA dX5_season_128 6 rfl rfl ?_
                      refine WO.iload (n := 131) hA dX5_season_129 7 rfl rfl ?_
                      refine WO.callVi (As := [.ref (w.2.1 (gSh x1.toNatClampNeg)), .int x3, .int x4]) (rest := []) (n := 134) hA (c_X5_playOnTrial v.2.1 w hw (gSh x1.toNatClampNeg) x3 x4 (she_of hi8.2) M25) gX5_season_X5_playOnTrial rfl (x_0 hw) rfl mdX5_playOnTrial ⟨rfl, rfl, Nat.le_of_ble_eq_true rfl, Nat.le_of_ble_eq_true rfl⟩ rfl rfl (Nat.le_of_ble_eq_true rfl) dX5_season_131 rfl (fun r28 M27 => ?_)
                      refine WO.istore (lv' := [(9, .int r28), (8, .int r26), (7, .int (3 : Int32)), (6, .ref (w.2.1 (gSh x1.toNatClampNeg))), (0, .ref (w.2.1 0)), (1, .int x1), (2, .int x2), (3, .int x3), (4, .int x4), (5, .int x5)]) (n := 136) hA dX5_season_134 (by decide) rfl rfl ?_
                      refine WO.iload (n := 138) hA dX5_season_136 9 rfl rfl ?_
                      refine WO.iconst (x := (1 : Int32)) (n := 139) hA dX5_season_138 (by decide) rfl ?_
                      refine WO.icmp_ne (tg := 145) (n := 142) hA dX5_season_139 (by decide) rfl (fun _ => ?_) (fun _ => ?_)
                      · refine WO.iload (n := 144) hA dX5_season_142 0 rfl rfl ?_
                        exact WO.iret hA dX5_season_144
                      · refine WO.iload (n := 147) hA dX5_season_145 0 rfl rfl ?_
                        refine WO.bipush (x := (-9 : Int32)) (n := 149) hA dX5_season_147 (by decide) rfl ?_
                        refine WO.icmp_ne (tg := 161) (n := 152) hA dX5_season_149 (by decide) rfl (fun _ => ?_) (fun _ => ?_)
                        · refine WO.aload_n (n := 153) hA dX5_season_152 4 rfl rfl ?_
                          refine WO.iload (n := 155) hA dX5_season_153 9 rfl rfl ?_
                          refine WO.callVi (As := [.int x5]) (rest := []) (n := 158) hA (c_X5_answerOfTrial v.2.1 w hw x5 M27) gX5_season_X5_answerOfTrial rfl (x_0 hw) rfl mdX5_answerOfTrial ⟨rfl, rfl, Nat.le_of_ble_eq_true rfl, Nat.le_of_ble_eq_true rfl⟩ rfl rfl (Nat.le_of_ble_eq_true rfl) dX5_season_155 rfl (fun r30 M29 => ?_)
                          refine WO.goto (n := 166) hA dX5_season_158 (by decide) ?_
                          exact WO.iret hA dX5_season_166
                        · refine WO.bipush (x := (-100 : Int32)) (n := 163) hA dX5_season_161 (by decide) rfl ?_
                          refine WO.iload (n := 165) hA dX5_season_163 0 rfl rfl ?_
                          refine WO.isub (n := 166) hA dX5_season_165 rfl ?_
                          exact WO.iret hA dX5_season_166
                    · refine WO.iload (n := 124) hA dX5_season_122 0 rfl rfl ?_
                      exact WO.iret hA dX5_season_124
                · refine WO.aload_n (n := 87) hA dX5_season_86 2 rfl rfl ?_
                  refine WO.iload (n := 89) hA dX5_season_87 0 rfl rfl ?_
                  refine WO.callVi (As := [.int (3 : Int32)]) (rest := []) (n := 92) hA (c_X5_faulty v.2.1 w hw (3 : Int32) M11) gX5_season_X5_faulty rfl (x_0 hw) rfl mdX5_faulty ⟨rfl, rfl, Nat.le_of_ble_eq_true rfl, Nat.le_of_ble_eq_true rfl⟩ rfl rfl (Nat.le_of_ble_eq_true rfl) dX5_season_89 rfl (fun r32 M31 => ?_)
                  exact WO.iret hA dX5_season_92
            · refine WO.iload (n := 83) hA dX5_season_81 0 rfl rfl ?_
              refine WO.if_eq (tg := 93) (n := 86) hA dX5_season_83 (by decide) rfl (fun _ => ?_) (fun _ => ?_)
              · refine WO.aload_n (n := 94) hA dX5_season_93 2 rfl rfl ?_
                refine WO.getR (j := 0) (p := 1) (n := 97) hA (x_0 hw) rfl fiX5_season_X5 (by decide) rfl fkX5_season_12 dX5_season_94 rfl ?_
                refine WO.callVi (As := []) (rest := []) (n := 100) hA (c_X3_stands v.2.1 w hw 1 st1 M9) gX5_season_X3_stands rfl (st_0 hw st1) rfl mdX3_stands ⟨rfl, rfl, Nat.le_of_ble_eq_true rfl, Nat.le_of_ble_eq_true rfl⟩ rfl rfl (Nat.le_of_ble_eq_true rfl) dX5_season_97 rfl (fun r34 M33 => ?_)
                refine WO.if_ne (tg := 106) (n := 103) hA dX5_season_100 (by decide) rfl (fun _ => ?_) (fun _ => ?_)
                · refine WO.bipush (x := (-3 : Int32)) (n := 105) hA dX5_season_103 (by decide) rfl ?_
                  exact WO.iret hA dX5_season_105
                · refine WO.aload_n (n := 107) hA dX5_season_106 2 rfl rfl ?_
                  refine WO.aload (n := 109) hA dX5_season_107 1 rfl rfl ?_
                  refine WO.iload_n (n := 110) hA dX5_season_109 5 rfl rfl ?_
                  refine WO.iload (n := 112) hA dX5_season_110 6 rfl rfl ?_
                  refine WO.callVi (As := [.ref (w.2.1 (gSh x1.toNatClampNeg)), .int x3, .int x4]) (rest := []) (n := 115) hA (c_X5_refusalOfActs v.2.1 w hw (gSh x1.toNatClampNeg) x3 x4 (she_of hi8.2) M33) gX5_season_X5_refusalOfActs rfl (x_0 hw) rfl mdX5_refusalOfActs ⟨rfl, rfl, Nat.le_of_ble_eq_true rfl, Nat.le_of_ble_eq_true rfl⟩ rfl rfl (Nat.le_of_ble_eq_true rfl) dX5_season_112 rfl (fun r36 M35 => ?_)
                  refine WO.istore (lv' := [(8, .int r36), (7, .int r10), (6, .ref (w.2.1 (gSh x1.toNatClampNeg))), (0, .ref (w.2.1 0)), (1, .int x1), (2, .int x2), (3, .int x3), (4, .int x4), (5, .int x5)]) (n := 117) hA dX5_season_115 (by decide) rfl rfl ?_
                  refine WO.iload (n := 119) hA dX5_season_117 0 rfl rfl ?_
                  refine WO.if_eq (tg := 125) (n := 122) hA dX5_season_119 (by decide) rfl (fun _ => ?_) (fun _ => ?_)
                  · refine WO.aload_n (n := 126) hA dX5_season_125 3 rfl rfl ?_
                    refine WO.aload (n := 128) hA dX5_season_126 2 rfl rfl ?_
                    refine WO.iload_n (n := 129) hA dX5_season_128 6 rfl rfl ?_
                    refine WO.iload (n := 131) hA dX5_season_129 7 rfl rfl ?_
                    refine WO.callVi (As := [.ref (w.2.1 (gSh x1.toNatClampNeg)), .int x3, .int x4]) (rest := []) (n := 134) hA (c_X5_playOnTrial v.2.1 w hw (gSh x1.toNatClampNeg) x3 x4 (she_of hi8.2) M35) gX5_season_X5_playOnTrial rfl (x_0 hw) rfl mdX5_playOnTrial ⟨rfl, rfl, Nat.le_of_ble_eq_true rfl, Nat.le_of_ble_eq_true rfl⟩ rfl rfl (Nat.le_of_ble_eq_true rfl) dX5_season_131 rfl (fun r38 M37 => ?_)
                    refine WO.istore (lv' := [(9, .int r38), (8, .int r36), (7, .int r10), (6, .ref (w.2.1 (gSh x1.toNatClampNeg))), (0, .ref (w.2.1 0)), (1, .int x1), (2, .int x2), (3, .int x3), (4, .int x4), (5, .int x5)]) (n := 136) hA dX5_season_134 (by decide) rfl rfl ?_
                    refine WO.iload (n := 138) hA dX5_season_136 9 rfl rfl ?_
                    refine WO.iconst (x := (1 : Int32)) (n := 139) hA dX5_season_138 (by decide) rfl ?_
                    refine WO.icmp_ne (tg := 145) (n := 142) hA dX5_season_139 (by decide) rfl (fun _ => ?_) (fun _ => ?_)
                    · refine WO.iload (n := 144) hA dX5_season_142 0 rfl rfl ?_
                      exact WO.iret hA dX5_season_144
                    · refine WO.iload (n := 147) hA dX5_season_145 0 rfl rfl ?_
                      refine WO.bipush (x := (-9 : Int32)) (n := 149) hA dX5_season_147 (by decide) rfl ?_
                      refine WO.icmp_ne (tg := 161) (n := 152) hA dX5_season_149 (by decide) rfl (fun _ => ?_) (fun _ => ?_)
                      · refine WO.aload_n (n := 153) hA dX5_season_152 4 rfl rfl ?_
                        refine WO.iload (n := 155) hA dX5_season_153 9 rfl rfl ?_
                        refine WO.callVi (As := [.int x5]) (rest := []) (n := 158) hA (c_X5_answerOfTrial v.2.1 w hw x5 M37) gX5_season_X5_answerOfTrial rfl (x_0 hw) rfl mdX5_answerOfTrial ⟨rfl, rfl, Nat.le_of_ble_eq_true rfl, Nat.le_of_ble_eq_true rfl⟩ rfl rfl (Nat.le_of_ble_eq_true rfl) dX5_season_155 rfl (fun r40 M39 => ?_)
                        refine WO.goto (n := 166) hA dX5_season_158 (by decide) ?_
                        exact WO.iret hA dX5_season_166
                      · refine WO.bipush (x := (-100 : Int32)) (n := 163) hA dX5_season_161 (by decide) rfl ?_
                        refine WO.iload (n := 165) hA dX5_season_163 0 rfl rfl ?_
                        refine WO.isub (n := 166) hA dX5_season_165 rfl ?_
                        exact WO.iret hA dX5_season_166
                  · refine WO.iload (n := 124) hA dX5_season_122 0 rfl rfl ?_
                    exact WO.iret hA dX5_season_124
              · refine WO.aload_n (n := 87) hA dX5_season_86 2 rfl rfl ?_
                refine WO.iload (n := 89) hA dX5_season_87 0 rfl rfl ?_
                refine WO.callVi (As := [.int r10]) (rest := []) (n := 92) hA (c_X5_faulty v.2.1 w hw r10 M9) gX5_season_X5_faulty rfl (x_0 hw) rfl mdX5_faulty ⟨rfl, rfl, Nat.le_of_ble_eq_true rfl, Nat.le_of_ble_eq_true rfl⟩ rfl rfl (Nat.le_of_ble_eq_true rfl) dX5_season_89 rfl (fun r42 M41 => ?_)
                exact WO.iret hA dX5_season_92
/- X5_round -/
abbrev rmX5_round : Room := { frames := 4, cells := 0, slots := 0, locals := 94 }
theorem mdX5_round : yX5_round.cls = RX5 ∧ yX5_round.cls ≠ "java/lang/invoke/MethodHandle" ∧ yX5_round.cls ≠ "java/lang/invoke/VarHandle" ∧ (parseMethodDescriptor yX5_round.desc).map (fun d => d.parameters.length) = some 2 := by decide +kernel
theorem fkX5_round_12 : Cond.fieldLink RX5 12 (TX5 0).1 (TX5 0).2.1 (TX5 0).2.2.1 ∈ wsX5_round := by decide +kernel
theorem fiX5_round_X5 : ∀ q ∈ u_ws RX5 TX5 10, q ∈ wsX5_round := by decide +kernel
theorem fkX5_round_49 : Cond.fieldLink RX5 49 (TX5 6).1 (TX5 6).2.1 (TX5 6).2.2.1 ∈ wsX5_round := by decide +kernel
theorem fkX5_round_119 : Cond.fieldLink RX5 119 (TX3 3).1 (TX3 3).2.1 (TX3 3).2.2.1 ∈ wsX5_round := by decide +kernel
theorem fiX5_round_X3 : ∀ q ∈ u_ws RX3 TX3 10, q ∈ wsX5_round := by decide +kernel
noncomputable def f_X5_round_L47 (x1 : Int32) (x2 : Int32) (kx : Int32 → Int32 → Mem → Option (Int32 × Mem)) : Nat → Int32 → Int32 → Mem → Option (Int32 × Mem)
  | 0, _, _, _ => none
  | n + 1, x3, x4, M => if (6 : Int32) ≤ x4 then (kx x3 x4 M) else (grd x3 6 (if (M 37 x3.toNatClampNeg) = (-9 : Int32) then (grd x3 6 (mlt (mu M 37 x3.toNatClampNeg x4) (fun M5 => bd (f_X3_placeAfterStroke 1 x1 x3 M5) (fun r7 M6 => f_X5_round_L47 x1 x2 kx n r7 (x4 + (1 : Int32)) M6)))) else (kx x3 x4 M)))
noncomputable def f_X5_round (x1 : Int32) (x2 : Int32) (M : Mem) : Option (Int32 × Mem) := bd (f_X3_hasClock 1 x1 M) (fun r2 M1 => if r2 = 0 then (some ((-1 : Int32), M1)) else (if x2 < 0 then (some ((-2 : Int32), M1)) else (if x2 ≤ (1 : Int32) then (bd (f_J7_fill_53178 37 6 (-9 : Int32) M1) (fun _ M3 => grd x1 4 (ilt (M3 5 x1.toNatClampNeg) (fun x_4 => f_X5_round_L47 x1 x2 (fun e8 e9 M10 => if x2 = 0 then (grd e8 6 (some ((M10 37 e8.toNatClampNeg), M10))) else (grd e8 6 (some ((e9 - (M10 37 e8.toNatClampNeg)), M10)))) FU x_4 (0 : Int32) M3)))) else (some ((-2 : Int32), M1)))))
set_option maxHeartbeats 4000000 in
set_option maxRecDepth 100000 in
theorem w_X5_round_L47 {v : Av} {w : Cw} (hw : w.2.2.2.2.2 = shX) (hA : Act v w RX5 wsX5_round cX5_round 5 (some .int)) (x1 : Int32) (x2 : Int32) (kx : Int32 → Int32 → Mem → Option (Int32 × Mem)) (hk : ∀ (y3 : Int32) (y4 : Int32) (M : Mem), WO v w rmX5_round 5 eI (kx y3 y4 M) 89 [(0, .ref (w.2.1 0)), (2, .int x2), (3, .int y3), (4, .int y4)] [] M) : ∀ (n : Nat) (x3 : Int32) (x4 : Int32) (M : Mem), WO v w rmX5_round 5 eI (f_X5_round_L47 x1 x2 kx n x3 x4 M) 47 [(0, .ref (w.2.1 0)), (1, .int x1), (2, .int x2), (3, .int x3), (4, .int x4)] [] M := by
  intro n
  induction n with
  | zero => intro x3 x4 M; exact WO.nothing
  | succ n ih =>
    intro x3 x4 M
    rw [f_X5_round_L47]
    refine WO.iload (n := 49) hA dX5_round_47 4 rfl rfl ?_
    refine WO.bipush (x := (6 : Int32)) (n := 51) hA dX5_round_49 (by decide) rfl ?_
    refine WO.icmp_ge (tg := 89) (n := 54) hA dX5_round_51 (by decide) rfl (fun _ => ?_) (fun _ => ?_)
    · refine WO.sub (lv' := [(0, .ref (w.2.1 0)), (2, .int x2), (3, .int x3), (4, .int x4)]) [0, 2, 3, 4] rfl ?_
      exact hk x3 x4 M
    · refine WO.aload_n (n := 55) hA dX5_round_54 0 rfl rfl ?_
      refine WO.getR (j := 6) (p := 37) (n := 58) hA (x_0 hw) rfl fiX5_round_X5 (by decide) rfl fkX5_round_49 dX5_round_55 rfl ?_
      refine WO.iload_n (n := 59) hA dX5_round_58 3 rfl rfl ?_
      refine WO.iald (n := 60) hA (x_37 hw) dX5_round_59 rfl (fun _ => ?_)
      refine WO.bipush (x := (-9 : Int32)) (n := 62) hA dX5_round_60 (by decide) rfl ?_
      refine WO.icmp_ne (tg := 89) (n := 65) hA dX5_round_62 (by decide) rfl (fun _ => ?_) (fun _ => ?_)
      · refine WO.aload_n (n := 66) hA dX5_round_65 0 rfl rfl ?_
        refine WO.getR (j := 6) (p := 37) (n := 69) hA (x_0 hw) rfl fiX5_round_X5 (by decide) rfl fkX5_round_49 dX5_round_66 rfl ?_
        refine WO.iload_n (n := 70) hA dX5_round_69 3 rfl rfl ?_
        refine WO.iload (n := 72) hA dX5_round_70 4 rfl rfl ?_
        refine WO.iast (n := 73) hA (x_37 hw) dX5_round_72 rfl (fun _ => ?_)
        refine WO.mem (fun M5 => ?_)
        refine WO.aload_n (n := 74) hA dX5_round_73 0 rfl rfl ?_
        refine WO.getR (j := 0) (p := 1) (n := 77) hA (x_0 hw) rfl fiX5_round_X5 (by decide) rfl fkX5_round_12 dX5_round_74 rfl ?_
        refine WO.iload_n (n := 78) hA dX5_round_77 1 rfl rfl ?_
        refine WO.iload_n (n := 79) hA dX5_round_78 3 rfl rfl ?_
        refine WO.callVi (As := [.int x1, .int x3]) (rest := []) (n := 82) hA (c_X3_placeAfterStroke v.2.1 w hw 1 x1 x3 st1 M5) gX5_round_X3_placeAfterStroke rfl (st_0 hw st1) rfl mdX3_placeAfterStroke ⟨rfl, rfl, Nat.le_of_ble_eq_true rfl, Nat.le_of_ble_eq_true rfl⟩ rfl rfl (Nat.le_of_ble_eq_true rfl) dX5_round_79 rfl (fun r7 M6 => ?_)
        refine WO.istore_n (i := 3) (lv' := [(3, .int r7), (0, .ref (w.2.1 0)), (1, .int x1), (2, .int x2), (4, .int x4)]) (n := 83) hA dX5_round_82 rfl (by decide) rfl rfl ?_
        refine WO.iinc (y := (1 : Int32)) (lv' := [(4, .int (x4 + (1 : Int32))), (3, .int r7), (0, .ref (w.2.1 0)), (1, .int x1), (2, .int x2)]) (n := 86) hA dX5_round_83 4 rfl (by decide) (by decide) rfl rfl ?_
        refine WO.goto (n := 47) hA dX5_round_86 (by decide) ?_
        refine WO.sub (lv' := [(0, .ref (w.2.1 0)), (1, .int x1), (2, .int x2), (3, .int r7), (4, .int (x4 + (1 : Int32)))]) [2, 3, 4, 1, 0] rfl ?_
        exact ih r7 (x4 + (1 : Int32)) M6
      · refine WO.sub (lv' := [(0, .ref (w.2.1 0)), (2, .int x2), (3, .int x3), (4, .int x4)]) [0, 2, 3, 4] rfl ?_
        exact hk x3 x4 M
set_option maxHeartbeats 4000000 in
set_option maxRecDepth 100000 in
theorem c_X5_round (l : Launch) (w : Cw) (hw : w.2.2.2.2.2 = shX) (x1 : Int32) (x2 : Int32) (M : Mem) : Ok l w eI yX5_round wsX5_round rmX5_round [.ref (w.2.1 0), .int x1, .int x2] M (f_X5_round x1 x2 M) := by
  refine Ok.of (cc := cX5_round) (nL := 5) (ret := (some .int)) (lv := [(0, .ref (w.2.1 0)), (1, .int x1), (2, .int x2)]) (by decide) rfl (Nat.le_of_ble_eq_true rfl) rfl (fun v hv hA => ?_)
  subst hv
  have hA : Act v w RX5 wsX5_round cX5_round 5 (some .int) := hA
  unfold f_X5_round
  refine WO.aload_n (n := 1) hA dX5_round_0 0 rfl rfl ?_
  refine WO.getR (j := 0) (p := 1) (n := 4) hA (x_0 hw) rfl fiX5_round_X5 (by decide) rfl fkX5_round_12 dX5_round_1 rfl ?_
  refine WO.iload_n (n := 5) hA dX5_round_4 1 rfl rfl ?_
  refine WO.callVi (As := [.int x1]) (rest := []) (n := 8) hA (c_X3_hasClock v.2.1 w hw 1 x1 st1 M) gX5_round_X3_hasClock rfl (st_0 hw st1) rfl mdX3_hasClock ⟨rfl, rfl, Nat.le_of_ble_eq_true rfl, Nat.le_of_ble_eq_true rfl⟩ rfl rfl (Nat.le_of_ble_eq_true rfl) dX5_round_5 rfl (fun r2 M1 => ?_)
  refine WO.if_ne (tg := 13) (n := 11) hA dX5_round_8 (by decide) rfl (fun _ => ?_) (fun _ => ?_)
  · refine WO.iconst (x := (-1 : Int32)) (n := 12) hA dX5_round_11 (by decide) rfl ?_
    exact WO.iret hA dX5_round_12
  · refine WO.iload_n (n := 14) hA dX5_round_13 2 rfl rfl ?_
    refine WO.if_lt (tg := 22) (n := 17) hA dX5_round_14 (by decide) rfl (fun _ => ?_) (fun _ => ?_)
    · refine WO.bipush (x := (-2 : Int32)) (n := 24) hA dX5_round_22 (by decide) rfl ?_
      exact WO.iret hA dX5_round_24
    · refine WO.iload_n (n := 18) hA dX5_round_17 2 rfl rfl ?_
      refine WO.iconst (x := (1 : Int32)) (n := 19) hA dX5_round_18 (by decide) rfl ?_
      refine WO.icmp_le (tg := 25) (n := 22) hA dX5_round_19 (by decide) rfl (fun _ => ?_) (fun _ => ?_)
      · refine WO.aload_n (n := 26) hA dX5_round_25 0 rfl rfl ?_
        refine WO.getR (j := 6) (p := 37) (n := 29) hA (x_0 hw) rfl fiX5_round_X5 (by decide) rfl fkX5_round_49 dX5_round_26 rfl ?_
        refine WO.bipush (x := (-9 : Int32)) (n := 31) hA dX5_round_29 (by decide) rfl ?_
        refine WO.callSv (As := [.ref (w.2.1 37), .int (-9 : Int32)]) (rest := []) (n := 34) hA (c_J7_fill_53178 v.2.1 w 37 6 (-9 : Int32) (x_37 hw) M1) gX5_round_J7_fill_53178 rfl mdJ7_fill_53178 ⟨rfl, rfl, Nat.le_of_ble_eq_true rfl, Nat.le_of_ble_eq_true rfl⟩ rfl rfl (Nat.le_of_ble_eq_true rfl) dX5_round_31 rfl (fun M3 => ?_)
        refine WO.aload_n (n := 35) hA dX5_round_34 0 rfl rfl ?_
        refine WO.getR (j := 0) (p := 1) (n := 38) hA (x_0 hw) rfl fiX5_round_X5 (by decide) rfl fkX5_round_12 dX5_round_35 rfl ?_
        refine WO.getR (j := 3) (p := 5) (n := 41) hA (st_0 hw st1) rfl fiX5_round_X3 (by decide) rfl fkX5_round_119 dX5_round_38 rfl ?_
        refine WO.iload_n (n := 42) hA dX5_round_41 1 rfl rfl ?_
        refine WO.iald (n := 43) hA (st_4 hw st1) dX5_round_42 rfl (fun _ => ?_)
        refine WO.top (fun x_4 => ?_)
        refine WO.istore_n (i := 3) (lv' := [(3, .int x_4), (0, .ref (w.2.1 0)), (1, .int x1), (2, .int x2)]) (n := 44) hA dX5_round_43 rfl (by decide) rfl rfl ?_
        refine WO.iconst (x := (0 : Int32)) (n := 45) hA dX5_round_44 (by decide) rfl ?_
        refine WO.istore (lv' := [(4, .int (0 : Int32)), (3, .int x_4), (0, .ref (w.2.1 0)), (1, .int x1), (2, .int x2)]) (n := 47) hA dX5_round_45 (by decide) rfl rfl ?_
        refine WO.sub (lv' := [(0, .ref (w.2.1 0)), (1, .int x1), (2, .int x2), (3, .int x_4), (4, .int (0 : Int32))]) [2, 3, 4, 1, 0] rfl ?_
        refine w_X5_round_L47 hw hA x1 x2 _ (fun e8 e9 M10 => ?_) _ _ _ _
        refine WO.iload_n (n := 90) hA dX5_round_89 1 rfl rfl ?_
        refine WO.if_ne (tg := 102) (n := 93) hA dX5_round_90 (by decide) rfl (fun _ => ?_) (fun _ => ?_)
        · refine WO.aload_n (n := 94) hA dX5_round_93 0 rfl rfl ?_
          refine WO.getR (j := 6) (p := 37) (n := 97) hA (x_0 hw) rfl fiX5_round_X5 (by decide) rfl fkX5_round_49 dX5_round_94 rfl ?_
          refine WO.iload_n (n := 98) hA dX5_round_97 2 rfl rfl ?_
          refine WO.iald (n := 99) hA (x_37 hw) dX5_round_98 rfl (fun _ => ?_)
          refine WO.goto (n := 111) hA dX5_round_99 (by decide) ?_
          exact WO.iret hA dX5_round_111
        · refine WO.iload (n := 104) hA dX5_round_102 3 rfl rfl ?_
          refine WO.aload_n (n := 105) hA dX5_round_104 0 rfl rfl ?_
          refine WO.getR (j := 6) (p := 37) (n := 108) hA (x_0 hw) rfl fiX5_round_X5 (by decide) rfl fkX5_round_49 dX5_round_105 rfl ?_
          refine WO.iload_n (n := 109) hA dX5_round_108 2 rfl rfl ?_
          refine WO.iald (n := 110) hA (x_37 hw) dX5_round_109 rfl (fun _ => ?_)
          refine WO.isub (n := 111) hA dX5_round_110 rfl ?_
          exact WO.iret hA dX5_round_111
      · refine WO.bipush (x := (-2 : Int32)) (n := 24) hA dX5_round_22 (by decide) rfl ?_
        exact WO.iret hA dX5_round_24
