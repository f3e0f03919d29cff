/- X5_faulty -/
abbrev rmX5_faulty : Room := { frames := 0, cells := 0, slots := 0, locals := 0 }
theorem mdX5_faulty : yX5_faulty.cls = RX5 ∧ yX5_faulty.cls ≠ "java/lang/invoke/MethodHandle" ∧ yX5_faulty.cls ≠ "java/lang/invoke/VarHandle" ∧ (parseMethodDescriptor yX5_faulty.desc).map (fun d => d.parameters.length) = some 1 := by decide +kernel
theorem fkX5_faulty_53 : Cond.fieldLink RX5 53 (TX5 9).1 (TX5 9).2.1 (TX5 9).2.2.1 ∈ wsX5_faulty := by decide +kernel
theorem fiX5_faulty_X5 : ∀ q ∈ u_ws RX5 TX5 10, q ∈ wsX5_faulty := by decide +kernel
noncomputable def f_X5_faulty (x1 : Int32) (M : Mem) : Option (Int32 × Mem) := mlt (mu M 0 9 x1) (fun M1 => some (((-10 : Int32) - x1), M1))
set_option maxHeartbeats 4000000 in
set_option maxRecDepth 100000 in
theorem c_X5_faulty (l : Launch) (w : Cw) (hw : w.2.2.2.2.2 = shX) (x1 : Int32) (M : Mem) : Ok l w eI yX5_faulty wsX5_faulty rmX5_faulty [.ref (w.2.1 0), .int x1] M (f_X5_faulty x1 M) := by
  refine Ok.of (cc := cX5_faulty) (nL := 2) (ret := (some .int)) (lv := [(0, .ref (w.2.1 0)), (1, .int x1)]) (by decide) rfl (Nat.le_of_ble_eq_true rfl) rfl (fun v hv hA => ?_)
  subst hv
  have hA : Act v w RX5 wsX5_faulty cX5_faulty 2 (some .int) := hA
  unfold f_X5_faulty
  refine WO.aload_n (n := 1) hA dX5_faulty_0 0 rfl rfl ?_
  refine WO.iload_n (n := 2) hA dX5_faulty_1 1 rfl rfl ?_
  refine WO.putI (j := 9) (n := 5) hA (x_0 hw) rfl fiX5_faulty_X5 tyX5 tyX5_ok nmX5 (by decide) rfl fkX5_faulty_53 rfl rfl rfl rfl dX5_faulty_2 rfl ?_
  refine WO.mem (fun M1 => ?_)
  refine WO.bipush (x := (-10 : Int32)) (n := 7) hA dX5_faulty_5 (by decide) rfl ?_
  refine WO.iload_n (n := 8) hA dX5_faulty_7 1 rfl rfl ?_
  refine WO.isub (n := 9) hA dX5_faulty_8 rfl ?_
  exact WO.iret hA dX5_faulty_9
/- X5_isLane -/
abbrev rmX5_isLane : Room := { frames := 0, cells := 0, slots := 0, locals := 0 }
theorem mdX5_isLane : yX5_isLane.cls ≠ "java/lang/invoke/MethodHandle" ∧ yX5_isLane.cls ≠ "java/lang/invoke/VarHandle" ∧ (parseMethodDescriptor yX5_isLane.desc).map (fun d => d.parameters.length) = some 1 := by decide +kernel
noncomputable def f_X5_isLane (x0 : Int32) (M : Mem) : Option (Int32 × Mem) := if x0 < 0 then (some ((0 : Int32), M)) else (if (2 : Int32) < x0 then (some ((0 : Int32), M)) else (some ((1 : Int32), M)))
set_option maxHeartbeats 4000000 in
set_option maxRecDepth 100000 in
theorem c_X5_isLane (l : Launch) (w : Cw) (hw : w.2.2.2.2.2 = shX) (x0 : Int32) (M : Mem) : Ok l w eI yX5_isLane wsX5_isLane rmX5_isLane [.int x0] M (f_X5_isLane x0 M) := by
  refine Ok.of (cc := cX5_isLane) (nL := 1) (ret := (some .boolean)) (lv := [(0, .int x0)]) (by decide) rfl (Nat.le_of_ble_eq_true rfl) rfl (fun v hv hA => ?_)
  subst hv
  have hA : Act v w RX5 wsX5_isLane cX5_isLane 1 (some .boolean) := hA
  unfold f_X5_isLane
  refine WO.iload_n (n := 1) hA dX5_isLane_0 0 rfl rfl ?_
  refine WO.if_lt (tg := 13) (n := 4) hA dX5_isLane_1 (by decide) rfl (fun _ => ?_) (fun _ => ?_)
  · refine WO.iconst (x := (0 : Int32)) (n := 14) hA dX5_isLane_13 (by decide) rfl ?_
    exact WO.zretc hA (by decide) dX5_isLane_14
  · refine WO.iload_n (n := 5) hA dX5_isLane_4 0 rfl rfl ?_
    refine WO.iconst (x := (2 : Int32)) (n := 6) hA dX5_isLane_5 (by decide) rfl ?_
    refine WO.icmp_gt (tg := 13) (n := 9) hA dX5_isLane_6 (by decide) rfl (fun _ => ?_) (fun _ => ?_)
    · refine WO.iconst (x := (0 : Int32)) (n := 14) hA dX5_isLane_13 (by decide) rfl ?_
      exact WO.zretc hA (by decide) dX5_isLane_14
    · refine WO.iconst (x := (1 : Int32)) (n := 10) hA dX5_isLane_9 (by decide) rfl ?_
      refine WO.goto (n := 14) hA dX5_isLane_10 (by decide) ?_
      exact WO.zretc hA (by decide) dX5_isLane_14
/- X5_isSheet -/
abbrev rmX5_isSheet : Room := { frames := 0, cells := 0, slots := 0, locals := 0 }
theorem mdX5_isSheet : yX5_isSheet.cls ≠ "java/lang/invoke/MethodHandle" ∧ yX5_isSheet.cls ≠ "java/lang/invoke/VarHandle" ∧ (parseMethodDescriptor yX5_isSheet.desc).map (fun d => d.parameters.length) = some 1 := by decide +kernel
noncomputable def f_X5_isSheet (x0 : Int32) (M : Mem) : Option (Int32 × Mem) := if x0 < 0 then (some ((0 : Int32), M)) else (if (4 : Int32) ≤ x0 then (some ((0 : Int32), M)) else (some ((1 : Int32), M)))
set_option maxHeartbeats 4000000 in
set_option maxRecDepth 100000 in
theorem c_X5_isSheet (l : Launch) (w : Cw) (hw : w.2.2.2.2.2 = shX) (x0 : Int32) (M : Mem) : Ok l w eI yX5_isSheet wsX5_isSheet rmX5_isSheet [.int x0] M (f_X5_isSheet x0 M) := by
  refine Ok.of (cc := cX5_isSheet) (nL := 1) (ret := (some .boolean)) (lv := [(0, .int x0)]) (by decide) rfl (Nat.le_of_ble_eq_true rfl) rfl (fun v hv hA => ?_)
  subst hv
  have hA : Act v w RX5 wsX5_isSheet cX5_isSheet 1 (some .boolean) := hA
  unfold f_X5_isSheet
  refine WO.iload_n (n := 1) hA dX5_isSheet_0 0 rfl rfl ?_
  refine WO.if_lt (tg := 13) (n := 4) hA dX5_isSheet_1 (by decide) rfl (fun _ => ?_) (fun _ => ?_)
  · refine WO.iconst (x := (0 : Int32)) (n := 14) hA dX5_isSheet_13 (by decide) rfl ?_
    exact WO.zretc hA (by decide) dX5_isSheet_14
  · refine WO.iload_n (n := 5) hA dX5_isSheet_4 0 rfl rfl ?_
    refine WO.iconst (x := (4 : Int32)) (n := 6) hA dX5_isSheet_5 (by decide) rfl ?_
    refine WO.icmp_ge (tg := 13) (n := 9) hA dX5_isSheet_6 (by decide) rfl (fun _ => ?_) (fun _ => ?_)
    · refine WO.iconst (x := (0 : Int32)) (n := 14) hA dX5_isSheet_13 (by decide) rfl ?_
      exact WO.zretc hA (by decide) dX5_isSheet_14
    · refine WO.iconst (x := (1 : Int32)) (n := 10) hA dX5_isSheet_9 (by decide) rfl ?_
      refine WO.goto (n := 14) hA dX5_isSheet_10 (by decide) ?_
      exact WO.zretc hA (by decide) dX5_isSheet_14
/- X5_street -/
abbrev rmX5_street : Room := { frames := 4, cells := 0, slots := 0, locals := 90 }
theorem mdX5_street : yX5_street.cls = RX5 ∧ yX5_street.cls ≠ "java/lang/invoke/MethodHandle" ∧ yX5_street.cls ≠ "java/lang/invoke/VarHandle" ∧ (parseMethodDescriptor yX5_street.desc).map (fun d => d.parameters.length) = some 4 := by decide +kernel
theorem fkX5_street_53 : Cond.fieldLink RX5 53 (TX5 9).1 (TX5 9).2.1 (TX5 9).2.2.1 ∈ wsX5_street := by decide +kernel
theorem fiX5_street_X5 : ∀ q ∈ u_ws RX5 TX5 10, q ∈ wsX5_street := by decide +kernel
theorem fkX5_street_45 : Cond.fieldLink RX5 45 (TX5 5).1 (TX5 5).2.1 (TX5 5).2.2.1 ∈ wsX5_street := by decide +kernel
theorem fkX5_street_24 : Cond.fieldLink RX5 24 (TX5 2).1 (TX5 2).2.1 (TX5 2).2.2.1 ∈ wsX5_street := by decide +kernel
theorem fkX5_street_18 : Cond.fieldLink RX5 18 (TX5 1).1 (TX5 1).2.1 (TX5 1).2.2.1 ∈ wsX5_street := by decide +kernel
theorem fkX5_street_12 : Cond.fieldLink RX5 12 (TX5 0).1 (TX5 0).2.1 (TX5 0).2.2.1 ∈ wsX5_street := by decide +kernel
theorem fkX5_street_83 : Cond.fieldLink RX5 83 (TX5 7).1 (TX5 7).2.1 (TX5 7).2.2.1 ∈ wsX5_street := by decide +kernel
theorem fkX5_street_31 : Cond.fieldLink RX5 31 (TX5 3).1 (TX5 3).2.1 (TX5 3).2.2.1 ∈ wsX5_street := by decide +kernel
theorem fkX5_street_86 : Cond.fieldLink RX5 86 (TX1 4).1 (TX1 4).2.1 (TX1 4).2.2.1 ∈ wsX5_street := by decide +kernel
theorem fiX5_street_X1 : ∀ q ∈ u_ws RX1 TX1 5, q ∈ wsX5_street := by decide +kernel
theorem fkX5_street_89 : Cond.fieldLink RX5 89 (TX3 6).1 (TX3 6).2.1 (TX3 6).2.2.1 ∈ wsX5_street := by decide +kernel
theorem fiX5_street_X3 : ∀ q ∈ u_ws RX3 TX3 10, q ∈ wsX5_street := by decide +kernel
noncomputable def f_X5_street (x1 : Int32) (x2 : Int32) (x3 : Int32) (x4 : Int32) (M : Mem) : Option (Int32 × Mem) := mlt (mu M 0 9 (0 : Int32)) (fun M1 => bd (f_X5_isSheet x1 M1) (fun r3 M2 => if r3 = 0 then (some ((-1 : Int32), M2)) else (bd (f_X5_isLane x2 M2) (fun r5 M4 => if r5 = 0 then (some ((-2 : Int32), M4)) else (grd x1 4 (bd (f_X2_faultAs (gSh x1.toNatClampNeg) x2 M4) (fun r8 M7 => if r8 = 0 then (if 0 ≤ x4 then (if r8 = 0 then (bd (f_X2_lacks (gSh x1.toNatClampNeg) x3 x4 M7) (fun r10 M9 => if r10 = 0 then (if r8 = 0 then (bd (f_X4_read (gSh x1.toNatClampNeg) x3 x4 7 M9) (fun r12 M11 => if r12 = (-9 : Int32) then (bd (f_X3_become 1 7 M11) (fun _ M13 => mlt (mu M13 0 7 (0 : Int32)) (fun M14 => mlt (mu M14 15 4 (0 : Int32)) (fun M15 => some ((M15 1 6), M15))))) else (some (((-100 : Int32) - r12), M11)))) else (bd (f_X5_faulty r8 M9) (fun r17 M16 => some (r17, M16)))) else (if (3 : Int32) = 0 then (bd (f_X4_read (gSh x1.toNatClampNeg) x3 x4 7 M9) (fun r19 M18 => if r19 = (-9 : Int32) then (bd (f_X3_become 1 7 M18) (fun _ M20 => mlt (mu M20 0 7 (0 : Int32)) (fun M21 => mlt (mu M21 15 4 (0 : Int32)) (fun M22 => some ((M22 1 6), M22))))) else (some (((-100 : Int32) - r19), M18)))) else (bd (f_X5_faulty (3 : Int32) M9) (fun r24 M23 => some (r24, M23)))))) else (if r8 = 0 then (bd (f_X4_read (gSh x1.toNatClampNeg) x3 x4 7 M7) (fun r26 M25 => if r26 = (-9 : Int32) then (bd (f_X3_become 1 7 M25) (fun _ M27 => mlt (mu M27 0 7 (0 : Int32)) (fun M28 => mlt (mu M28 15 4 (0 : Int32)) (fun M29 => some ((M29 1 6), M29))))) else (some (((-100 : Int32) - r26), M25)))) else (bd (f_X5_faulty r8 M7) (fun r31 M30 => some (r31, M30))))) else (if (4 : Int32) = 0 then (bd (f_X2_lacks (gSh x1.toNatClampNeg) x3 x4 M7) (fun r33 M32 => if r33 = 0 then (if (4 : Int32) = 0 then (bd (f_X4_read (gSh x1.toNatClampNeg) x3 x4 7 M32) (fun r35 M34 => if r35 = (-9 : Int32) then (bd (f_X3_become 1 7 M34) (fun _ M36 => mlt (mu M36 0 7 (0 : Int32)) (fun M37 => mlt (mu M37 15 4 (0 : Int32)) (fun M38 => some ((M38 1 6), M38))))) else (some (((-100 : Int32) - r35), M34)))) else (bd (f_X5_faulty (4 : Int32) M32) (fun r40 M39 => some (r40, M39)))) else (if (3 : Int32) = 0 then (bd (f_X4_read (gSh x1.toNatClampNeg) x3 x4 7 M32) (fun r42 M41 => if r42 = (-9 : Int32) then (bd (f_X3_become 1 7 M41) (fun _ M43 => mlt (mu M43 0 7 (0 : Int32)) (fun M44 => mlt (mu M44 15 4 (0 : Int32)) (fun M45 => some ((M45 1 6), M45))))) else (some (((-100 : Int32) - r42), M41)))) else (bd (f_X5_faulty (3 : Int32) M32) (fun r47 M46 => some (r47, M46)))))) else (if (4 : Int32) = 0 then (bd (f_X4_read (gSh x1.toNatClampNeg) x3 x4 7 M7) (fun r49 M48 => if r49 = (-9 : Int32) then (bd (f_X3_become 1 7 M48) (fun _ M50 => mlt (mu M50 0 7 (0 : Int32)) (fun M51 => mlt (mu M51 15 4 (0 : Int32)) (fun M52 => some ((M52 1 6), M52))))) else (some (((-100 : Int32) - r49), M48)))) else (bd (f_X5_faulty (4 : Int32) M7) (fun r54 M53 => some (r54, M53)))))) else (if r8 = 0 then (bd (f_X2_lacks (gSh x1.toNatClampNeg) x3 x4 M7) (fun r56 M55 => if r56 = 0 then (if r8 = 0 then (bd (f_X4_read (gSh x1.toNatClampNeg) x3 x4 7 M55) (fun r58 M57 => if r58 = (-9 : Int32) then (bd (f_X3_become 1 7 M57) (fun _ M59 => mlt (mu M59 0 7 (0 : Int32)) (fun M60 => mlt (mu M60 15 4 (0 : Int32)) (fun M61 => some ((M61 1 6), M61))))) else (some (((-100 : Int32) - r58), M57)))) else (bd (f_X5_faulty r8 M55) (fun r63 M62 => some (r63, M62)))) else (if (3 : Int32) = 0 then (bd (f_X4_read (gSh x1.toNatClampNeg) x3 x4 7 M55) (fun r65 M64 => if r65 = (-9 : Int32) then (bd (f_X3_become 1 7 M64) (fun _ M66 => mlt (mu M66 0 7 (0 : Int32)) (fun M67 => mlt (mu M67 15 4 (0 : Int32)) (fun M68 => some ((M68 1 6), M68))))) else (some (((-100 : Int32) - r65), M64)))) else (bd (f_X5_faulty (3 : Int32) M55) (fun r70 M69 => some (r70, M69)))))) else (if r8 = 0 then (bd (f_X4_read (gSh x1.toNatClampNeg) x3 x4 7 M7) (fun r72 M71 => if r72 = (-9 : Int32) then (bd (f_X3_become 1 7 M71) (fun _ M73 => mlt (mu M73 0 7 (0 : Int32)) (fun M74 => mlt (mu M74 15 4 (0 : Int32)) (fun M75 => some ((M75 1 6), M75))))) else (some (((-100 : Int32) - r72), M71)))) else (bd (f_X5_faulty r8 M7) (fun r77 M76 => some (r77, M76))))))))))))
set_option maxHeartbeats 4000000 in
set_option maxRecDepth 100000 in
theorem c_X5_street (l : Launch) (w : Cw) (hw : w.2.2.2.2.2 = shX) (x1 : Int32) (x2 : Int32) (x3 : Int32) (x4 : Int32) (M : Mem) : Ok l w eI yX5_street wsX5_street rmX5_street [.ref (w.2.1 0), .int x1, .int x2, .int x3, .int x4] M (f_X5_street x1 x2 x3 x4 M) := by
  refine Ok.of (cc := cX5_street) (nL := 8) (ret := (some .int)) (lv := [(0, .ref (w.2.1 0)), (1, .int x1), (2, .int x2), (3, .int x3), (4, .int x4)]) (by decide) rfl (Nat.le_of_ble_eq_true rfl) rfl (fun v hv hA => ?_)
  subst hv
  have hA : Act v w RX5 wsX5_street cX5_street 8 (some .int) := hA
  unfold f_X5_street
  refine WO.aload_n (n := 1) hA dX5_street_0 0 rfl rfl ?_
  refine WO.iconst (x := (0 : Int32)) (n := 2) hA dX5_street_1 (by decide) rfl ?_
  refine WO.putI (j := 9) (n := 5) hA (x_0 hw) rfl fiX5_street_X5 tyX5 tyX5_ok nmX5 (by decide) rfl fkX5_street_53 rfl rfl rfl rfl dX5_street_2 rfl ?_
  refine WO.mem (fun M1 => ?_)
  refine WO.iload_n (n := 6) hA dX5_street_5 1 rfl rfl ?_
  refine WO.callSi (As := [.int x1]) (rest := []) (n := 9) hA (c_X5_isSheet v.2.1 w hw x1 M1) gX5_street_X5_isSheet rfl mdX5_isSheet ⟨rfl, rfl, Nat.le_of_ble_eq_true rfl, Nat.le_of_ble_eq_true rfl⟩ rfl rfl (Nat.le_of_ble_eq_true rfl) dX5_street_6 rfl (fun r3 M2 => ?_)
  refine WO.if_ne (tg := 14) (n := 12) hA dX5_street_9 (by decide) rfl (fun _ => ?_) (fun _ => ?_)
  · refine WO.iconst (x := (-1 : Int32)) (n := 13) hA dX5_street_12 (by decide) rfl ?_
    exact WO.iret hA dX5_street_13
  · refine WO.iload_n (n := 15) hA dX5_street_14 2 rfl rfl ?_
    refine WO.callSi (As := [.int x2]) (rest := []) (n := 18) hA (c_X5_isLane v.2.1 w hw x2 M2) gX5_street_X5_isLane rfl mdX5_isLane ⟨rfl, rfl, Nat.le_of_ble_eq_true rfl, Nat.le_of_ble_eq_true rfl⟩ rfl rfl (Nat.le_of_ble_eq_true rfl) dX5_street_15 rfl (fun r5 M4 => ?_)
    refine WO.if_ne (tg := 24) (n := 21) hA dX5_street_18 (by decide) rfl (fun _ => ?_) (fun _ => ?_)
    · refine WO.bipush (x := (-2 : Int32)) (n := 23) hA dX5_street_21 (by decide) rfl ?_
      exact WO.iret hA dX5_street_23
    · refine WO.aload_n (n := 25) hA dX5_street_24 0 rfl rfl ?_
      refine WO.getR (j := 5) (p := 28) (n := 28) hA (x_0 hw) rfl fiX5_street_X5 (by decide) rfl fkX5_street_45 dX5_street_25 rfl ?_
      refine WO.iload_n (n := 29) hA dX5_street_28 1 rfl rfl ?_
      refine WO.aald (n := 30) hA (x_28 hw) rfl rfl dX5_street_29 rfl (fun hi6 => ?_)
      refine WO.astore (lv' := [(5, .ref (w.2.1 (gSh x1.toNatClampNeg))), (0, .ref (w.2.1 0)), (1, .int x1), (2, .int x2), (3, .int x3), (4, .int x4)]) (n := 32) hA dX5_street_30 (by decide) rfl rfl ?_
      refine WO.aload (n := 34) hA dX5_street_32 0 rfl rfl ?_
      refine WO.iload_n (n := 35) hA dX5_street_34 3 rfl rfl ?_
      refine WO.callVi (As := [.int x2]) (rest := []) (n := 38) hA (c_X2_faultAs v.2.1 w hw (gSh x1.toNatClampNeg) x2 (she_of hi6.2) M4) gX5_street_X2_faultAs rfl (she_0 hw (she_of hi6.2)) rfl mdX2_faultAs ⟨rfl, rfl, Nat.le_of_ble_eq_true rfl, Nat.le_of_ble_eq_true rfl⟩ rfl rfl (Nat.le_of_ble_eq_true rfl) dX5_street_35 rfl (fun r8 M7 => ?_)
      refine WO.istore (lv' := [(6, .int r8), (5, .ref (w.2.1 (gSh x1.toNatClampNeg))), (0, .ref (w.2.1 0)), (1, .int x1), (2, .int x2), (3, .int x3), (4, .int x4)]) (n := 40) hA dX5_street_38 (by decide) rfl rfl ?_
      refine WO.iload (n := 42) hA dX5_street_40 0 rfl rfl ?_
      refine WO.if_ne (tg := 53) (n := 45) hA dX5_street_42 (by decide) rfl (fun _ => ?_) (fun _ => ?_)
      · refine WO.iload (n := 47) hA dX5_street_45 6 rfl rfl ?_
        refine WO.if_ge (tg := 53) (n := 50) hA dX5_street_47 (by decide) rfl (fun _ => ?_) (fun _ => ?_)
        · refine WO.iload (n := 55) hA dX5_street_53 0 rfl rfl ?_
          refine WO.if_ne (tg := 72) (n := 58) hA dX5_street_55 (by decide) rfl (fun _ => ?_) (fun _ => ?_)
          · refine WO.aload (n := 60) hA dX5_street_58 1 rfl rfl ?_
            refine WO.iload_n (n := 61) hA dX5_street_60 5 rfl rfl ?_
            refine WO.iload (n := 63) hA dX5_street_61 6 rfl rfl ?_
            refine WO.callVi (As := [.int x3, .int x4]) (rest := []) (n := 66) hA (c_X2_lacks v.2.1 w hw (gSh x1.toNatClampNeg) x3 x4 (she_of hi6.2) M7) gX5_street_X2_lacks rfl (she_0 hw (she_of hi6.2)) rfl mdX2_lacks ⟨rfl, rfl, Nat.le_of_ble_eq_true rfl, Nat.le_of_ble_eq_true rfl⟩ rfl rfl (Nat.le_of_ble_eq_true rfl) dX5_street_63 rfl (fun r10 M9 => ?_)
            refine WO.if_eq (tg := 72) (n := 69) hA dX5_street_66 (by decide) rfl (fun _ => ?_) (fun _ => ?_)
            · refine WO.iload (n := 74) hA dX5_street_72 0 rfl rfl ?_
              refine WO.if_eq (tg := 84) (n := 77) hA dX5_street_74 (by decide) rfl (fun _ => ?_) (fun _ => ?_)
              · refine WO.aload_n (n := 85) hA dX5_street_84 2 rfl rfl ?_
                refine WO.getR (j := 2) (p := 13) (n := 88) hA (x_0 hw) rfl fiX5_street_X5 (by decide) rfl fkX5_street_24 dX5_street_85 rfl ?_
                refine WO.aload (n := 90) hA dX5_street_88 1 rfl rfl ?_
                refine WO.iload_n (n := 91) hA dX5_street_90 5 rfl rfl ?_
                refine WO.iload (n := 93) hA dX5_street_91 6 rfl rfl ?_
                refine WO.aload_n (n := 94) hA dX5_street_93 2 rfl rfl ?_
                refine WO.getR (j := 1) (p := 7) (n := 97) hA (x_0 hw) rfl fiX5_street_X5 (by decide) rfl fkX5_street_18 dX5_street_94 rfl ?_
                refine WO.callVi (As := [.ref (w.2.1 (gSh x1.toNatClampNeg)), .int x3, .int x4, .ref (w.2.1 7)]) (rest := []) (n := 100) hA (c_X4_read v.2.1 w hw (gSh x1.toNatClampNeg) x3 x4 7 (she_of hi6.2) st7 M9) gX5_street_X4_read rfl (x_13 hw) rfl mdX4_read ⟨rfl, rfl, Nat.le_of_ble_eq_true rfl, Nat.le_of_ble_eq_true rfl⟩ rfl rfl (Nat.le_of_ble_eq_true rfl) dX5_street_97 rfl (fun r12 M11 => ?_)
                refine WO.istore (lv' := [(7, .int r12), (6, .int r8), (5, .ref (w.2.1 (gSh x1.toNatClampNeg))), (0, .ref (w.2.1 0)), (1, .int x1), (2, .int x2), (3, .int x3), (4, .int x4)]) (n := 102) hA dX5_street_100 (by decide) rfl rfl ?_
                refine WO.iload (n := 104) hA dX5_street_102 0 rfl rfl ?_
                refine WO.bipush (x := (-9 : Int32)) (n := 106) hA dX5_street_104 (by decide) rfl ?_
                refine WO.icmp_eq (tg := 115) (n := 109) hA dX5_street_106 (by decide) rfl (fun _ => ?_) (fun _ => ?_)
                · refine WO.aload_n (n := 116) hA dX5_street_115 3 rfl rfl ?_
                  refine WO.getR (j := 0) (p := 1) (n := 119) hA (x_0 hw) rfl fiX5_street_X5 (by decide) rfl fkX5_street_12 dX5_street_116 rfl ?_
                  refine WO.aload_n (n := 120) hA dX5_street_119 3 rfl rfl ?_
                  refine WO.getR (j := 1) (p := 7) (n := 123) hA (x_0 hw) rfl fiX5_street_X5 (by decide) rfl fkX5_street_18 dX5_street_120 rfl ?_
                  refine WO.callVv (As := [.ref (w.2.1 7)]) (rest := []) (n := 126) hA (c_X3_become v.2.1 w hw 1 7 st1 st7 M11) gX5_street_X3_become rfl (st_0 hw st1) rfl mdX3_become ⟨rfl, rfl, Nat.le_of_ble_eq_true rfl, Nat.le_of_ble_eq_true rfl⟩ rfl rfl (Nat.le_of_ble_eq_true rfl) dX5_street_123 rfl (fun M13 => ?_)
                  refine WO.aload_n (n := 127) hA dX5_street_126 3 rfl rfl ?_
                  refine WO.iconst (x := (0 : Int32)) (n := 128) hA dX5_street_127 (by decide) rfl ?_
                  refine WO.putI (j := 7) (n := 131) hA (x_0 hw) rfl fiX5_street_X5 tyX5 tyX5_ok nmX5 (by decide) rfl fkX5_street_83 rfl rfl rfl rfl dX5_street_128 rfl ?_
                  refine WO.mem (fun M14 => ?_)
                  refine WO.aload_n (n := 132) hA dX5_street_131 3 rfl rfl ?_
                  refine WO.getR (j := 3) (p := 15) (n := 135) hA (x_0 hw) rfl fiX5_street_X5 (by decide) rfl fkX5_street_31 dX5_street_132 rfl ?_
                  refine WO.iconst (x := (0 : Int32)) (n := 136) hA dX5_street_135 (by decide) rfl ?_
                  refine WO.putI (j := 4) (n := 139) hA (x_15 hw) rfl fiX5_street_X1 tyX1 tyX1_ok nmX1 (by decide) rfl fkX5_street_86 rfl rfl rfl rfl dX5_street_136 rfl ?_
                  refine WO.mem (fun M15 => ?_)
                  refine WO.aload_n (n := 140) hA dX5_street_139 3 rfl rfl ?_
                  refine WO.getR (j := 0) (p := 1) (n := 143) hA (x_0 hw) rfl fiX5_street_X5 (by decide) rfl fkX5_street_12 dX5_street_140 rfl ?_
                  refine WO.getI (j := 6) (n := 146) hA (st_0 hw st1) rfl fiX5_street_X3 (by decide) rfl fkX5_street_89 dX5_street_143 rfl ?_
                  exact WO.iret hA dX5_street_146
                · refine WO.bipush (x := (-100 : Int32)) (n := 111) hA dX5_street_109 (by decide) rfl ?_
                  refine WO.iload (n := 113) hA dX5_street_111 0 rfl rfl ?_
                  refine WO.isub (n := 114) hA dX5_street_113 rfl ?_
                  exact WO.iret hA dX5_street_114
              · refine WO.aload_n (n := 78) hA dX5_street_77 2 rfl rfl ?_
                refine WO.iload (n := 80) hA dX5_street_78 0 rfl rfl ?_
                refine WO.callVi (As := [.int r8]) (rest := []) (n := 83) hA (c_X5_faulty v.2.1 w hw r8 M9) gX5_street_X5_faulty rfl (x_0 hw) rfl mdX5_faulty ⟨rfl, rfl, Nat.le_of_ble_eq_true rfl, Nat.le_of_ble_eq_true rfl⟩ rfl rfl (Nat.le_of_ble_eq_true rfl) dX5_street_80 rfl (fun r17 M16 => ?_)
                exact WO.iret hA dX5_street_83
            · refine WO.iconst (x := (3 : Int32)) (n := 70) hA dX5_street_69 (by decide) rfl ?_
              refine WO.istore (lv' := [(6, .int (3 : Int32)), (5, .ref (w.2.1 (gSh x1.toNatClampNeg))), (0, .ref (w.2.1 0)), (1, .int x1), (2, .int x2), (3, .int x3), (4, .int x4)]) (n := 72) hA dX5_street_70 (by decide) rfl rfl ?_
              refine WO.iload (n := 74) hA dX5_street_72 0 rfl rfl ?_
              refine WO.if_eq (tg := 84) (n := 77) hA dX5_street_74 (by decide) rfl (fun _ => ?_) (fun _ => ?_)
              · refine WO.aload_n (n := 85) hA dX5_street_84 2 rfl rfl ?_
                refine WO.getR (j := 2) (p := 13) (n := 88) hA (x_0 hw) rfl fiX5_street_X5 (by decide) rfl fkX5_street_24 dX5_street_85 rfl ?_
                refine WO.aload (n := 90) hA dX5_street_88 1 rfl rfl ?_
                refine WO.iload_n (n := 91) hA dX5_street_90 5 rfl rfl ?_
                refine WO.iload (n := 93) hA dX5_street_91 6 rfl rfl ?_
                refine WO.aload_n (n := 94) hA dX5_street_93 2 rfl rfl ?_
                refine WO.getR (j := 1) (p := 7) (n := 97) hA (x_0 hw) rfl fiX5_street_X5 (by decide) rfl fkX5_street_18 dX5_street_94 rfl ?_
                refine WO.callVi (As := [.ref (w.2.1 (gSh x1.toNatClampNeg)), .int x3, .int x4, .ref (w.2.1 7)]) (rest := []) (n := 100) hA (c_X4_read v.2.1 w hw (gSh x1.toNatClampNeg) x3 x4 7 (she_of hi6.2) st7 M9) gX5_street_X4_read rfl (x_13 hw) rfl mdX4_read ⟨rfl, rfl, Nat.le_of_ble_eq_true rfl, Nat.le_of_ble_eq_true rfl⟩ rfl rfl (Nat.le_of_ble_eq_true rfl) dX5_street_97 rfl (fun r19 M18 => ?_)
                refine WO.istore (lv' := [(7, .int r19), (6, .int (3 : Int32)), (5, .ref (w.2.1 (gSh x1.toNatClampNeg))), (0, .ref (w.2.1 0)), (1, .int x1), (2, .int x2), (3, .int x3), (4, .int x4)]) (n := 102) hA dX5_street_100 (by decide) rfl rfl ?_
                refine WO.iload (n := 104) hA dX5_street_102 0 rfl rfl ?_
                refine WO.bipush (x := (-9 : Int32)) (n := 106) hA dX5_street_104 (by decide) rfl ?_
                refine WO.icmp_eq (tg := 115) (n := 109) hA dX5_street_106 (by decide) rfl (fun _ => ?_) (fun _ => ?_)
                · refine WO.aload_n (n := 116) hA dX5_street_115 3 rfl rfl ?_
                  refine WO.getR (j := 0) (p := 1) (n := 119) hA (x_0 hw) rfl fiX5_street_X5 (by decide) rfl fkX5_street_12 dX5_street_116 rfl ?_
                  refine WO.aload_n (n := 120) hA dX5_street_119 3 rfl rfl ?_
                  refine WO.getR (j := 1) (p := 7) (n := 123) hA (x_0 hw) rfl fiX5_street_X5 (by decide) rfl fkX5_street_18 dX5_street_120 rfl ?_
                  refine WO.callVv (As := [.ref (w.2.1 7)]) (rest := []) (n := 126) hA (c_X3_become v.2.1 w hw 1 7 st1 st7 M18) gX5_street_X3_become rfl (st_0 hw st1) rfl mdX3_become ⟨rfl, rfl, Nat.le_of_ble_eq_true rfl, Nat.le_of_ble_eq_true rfl⟩ rfl rfl (Nat.le_of_ble_eq_true rfl) dX5_street_123 rfl (fun M20 => ?_)
                  refine WO.aload_n (n := 127) hA dX5_street_126 3 rfl rfl ?_
                  refine WO.iconst (x := (0 : Int32)) (n := 128) hA dX5_street_127 (by decide) rfl ?_
                  refine WO.putI (j := 7) (n := 131) hA (x_0 hw) rfl fiX5_street_X5 tyX5 tyX5_ok nmX5 (by decide) rfl fkX5_street_83 rfl rfl rfl rfl dX5_street_128 rfl ?_
                  refine WO.mem (fun M21 => ?_)
                  refine WO.aload_n (n := 132) hA dX5_street_131 3 rfl rfl ?_
                  refine WO.getR (j := 3) (p := 15) (n := 135) hA (x_0 hw) rfl fiX5_street_X5 (by decide) rfl fkX5_street_31 dX5_street_132 rfl ?_
                  refine WO.iconst (x := (0 : Int32)) (n := 136) hA dX5_street_135 (by decide) rfl ?_
                  refine WO.putI (j := 4) (n := 139) hA (x_15 hw) rfl fiX5_street_X1 tyX1 tyX1_ok nmX1 (by decide) rfl fkX5_street_86 rfl rfl rfl rfl dX5_street_136 rfl ?_
                  refine WO.mem (fun M22 => ?_)
                  refine WO.aload_n (n := 140) hA dX5_street_139 3 rfl rfl ?_
                  refine WO.getR (j := 0) (p := 1) (n := 143) hA (x_0 hw) rfl fiX5_street_X5 (by decide) rfl fkX5_street_12 dX5_street_140 rfl ?_
                  refine WO.getI (j := 6) (n := 146) hA (st_0 hw st1) rfl fiX5_street_X3 (by decide) rfl fkX5_street_89 dX5_street_143 rfl ?_
                  exact WO.iret hA dX5_street_146
                · refine WO.bipush (x := (-100 : Int32)) (n := 111) hA dX5_street_109 (by decide) rfl ?_
                  refine WO.iload (n := 113) hA dX5_street_111 0 rfl rfl ?_
                  refine WO.isub (n := 114) hA dX5_street_113 rfl ?_
                  exact WO.iret hA dX5_street_114
              · refine WO.aload_n (n := 78) hA dX5_street_77 2 rfl rfl ?_
                refine WO.iload (n := 80) hA dX5_street_78 0 rfl rfl ?_
                refine WO.callVi (As := [.int (3 : Int32)]) (rest := []) (n := 83) hA (c_X5_faulty v.2.1 w hw (3 : Int32) M9) gX5_street_X5_faulty rfl (x_0 hw) rfl mdX5_faulty ⟨rfl, rfl, Nat.le_of_ble_eq_true rfl, Nat.le_of_ble_eq_true rfl⟩ rfl rfl (Nat.le_of_ble_eq_true rfl) dX5_street_80 rfl (fun r24 M23 => ?_)
                exact WO.iret hA dX5_street_83
          · refine WO.iload (n := 74) hA dX5_street_72 0 rfl rfl ?_
            refine WO.if_eq (tg := 84) (n := 77) hA dX5_street_74 (by decide) rfl (fun _ => ?_) (fun _ => ?_)
            · refine WO.aload_n (n := 85) hA dX5_street_84 2 rfl rfl ?_
              refine WO.getR (j := 2) (p := 13) (n := 88) hA (x_0 hw) rfl fiX5_street_X5 (by decide) rfl fkX5_street_24 dX5_street_85 rfl ?_
              refine WO.aload (n := 90) hA dX5_street_88 1 rfl rfl ?_
              refine WO.iload_n (n := 91) hA dX5_street_90 5 rfl rfl ?_
              refine WO.iload (n := 93) hA dX5_street_91 6 rfl rfl ?_
              refine WO.aload_n (n := 94) hA dX5_street_93 2 rfl rfl ?_
              refine WO.getR (j := 1) (p := 7) (n := 97) hA (x_0 hw) rfl fiX5_street_X5 (by decide) rfl fkX5_street_18 dX5_street_94 rfl ?_
              refine WO.callVi (As := [.ref (w.2.1 (gSh x1.toNatClampNeg)), .int x3, .int x4, .ref (w.2.1 7)]) (rest := []) (n := 100) hA (c_X4_read v.2.1 w hw (gSh x1.toNatClampNeg) x3 x4 7 (she_of hi6.2) st7 M7) gX5_street_X4_read rfl (x_13 hw) rfl mdX4_read ⟨rfl, rfl, Nat.le_of_ble_eq_true rfl, Nat.le_of_ble_eq_true rfl⟩ rfl rfl (Nat.le_of_ble_eq_true rfl) dX5_street_97 rfl (fun r26 M25 => ?_)
              refine WO.istore (lv' := [(7, .int r26), (6, .int r8), (5, .ref (w.2.1 (gSh x1.toNatClampNeg))), (0, .ref (w.2.1 0)), (1, .int x1), (2, .int x2), (3, .int x3), (4, .int x4)]) (n := 102) hA dX5_street_100 (by decide) rfl rfl ?_
              refine WO.iload (n := 104) hA dX5_street_102 0 rfl rfl ?_
              refine WO.bipush (x := (-9 : Int32)) (n := 106) hA dX5_street_104 (by decide) rfl ?_
              refine WO.icmp_eq (tg := 115) (n := 109) hA dX5_street_106 (by decide) rfl (fun _ => ?_) (fun _ => ?_)
              · refine WO.aload_n (n := 116) hA dX5_street_115 3 rfl rfl ?_
                refine WO.getR (j := 0) (p := 1) (n := 119) hA (x_0 hw) rfl fiX5_street_X5 (by decide) rfl fkX5_street_12 dX5_street_116 rfl ?_
                refine WO.aload_n (n := 120) hA dX5_street_119 3 rfl rfl ?_
                refine WO.getR (j := 1) (p := 7) (n := 123) hA (x_0 hw) rfl fiX5_street_X5 (by decide) rfl fkX5_street_18 dX5_street_120 rfl ?_
                refine WO.callVv (As := [.ref (w.2.1 7)]) (rest := []) (n := 126) hA (c_X3_become v.2.1 w hw 1 7 st1 st7 M25) gX5_street_X3_become rfl (st_0 hw st1) rfl mdX3_become ⟨rfl, rfl, Nat.le_of_ble_eq_true rfl, Nat.le_of_ble_eq_true rfl⟩ rfl rfl (Nat.le_of_ble_eq_true rfl) dX5_street_123 rfl (fun M27 => ?_)
                refine WO.aload_n (n := 127) hA dX5_street_126 3 rfl rfl ?_
                refine WO.iconst (x := (0 : Int32)) (n := 128) hA dX5_street_127 (by decide) rfl ?_
                refine WO.putI (j := 7) (n := 131) hA (x_0 hw) rfl fiX5_street_X5 tyX5 tyX5_ok nmX5 (by decide) rfl fkX5_street_83 rfl rfl rfl rfl dX5_street_128 rfl ?_
                refine WO.mem (fun M28 => ?_)
                refine WO.aload_n (n := 132) hA dX5_street_131 3 rfl rfl ?_
                refine WO.getR (j := 3) (p := 15) (n := 135) hA (x_0 hw) rfl fiX5_street_X5 (by decide) rfl fkX5_street_31 dX5_street_132 rfl ?_
                refine WO.iconst (x := (0 : Int32)) (n := 136) hA dX5_street_135 (by decide) rfl ?_
                refine WO.putI (j := 4) (n := 139) hA (x_15 hw) rfl fiX5_street_X1 tyX1 tyX1_ok nmX1 (by decide) rfl fkX5_street_86 rfl rfl rfl rfl dX5_street_136 rfl ?_
                refine WO.mem (fun M29 => ?_)
                refine WO.aload_n (n := 140) hA dX5_street_139 3 rfl rfl ?_
                refine WO.getR (j := 0) (p := 1) (n := 143) hA (x_0 hw) rfl fiX5_street_X5 (by decide) rfl fkX5_street_12 dX5_street_140 rfl ?_
                refine WO.getI (j := 6) (n := 146) hA (st_0 hw st1) rfl fiX5_street_X3 (by decide) rfl fkX5_street_89 dX5_street_143 rfl ?_
                exact WO.iret hA dX5_street_146
              · refine WO.bipush (x := (-100 : Int32)) (n := 111) hA dX5_street_109 (by decide) rfl ?_
                refine WO.iload (n := 113) hA dX5_street_111 0 rfl rfl ?_
                refine WO.isub (n := 114) hA dX5_street_113 rfl ?_
                exact WO.iret hA dX5_street_114
            · refine WO.aload_n (n := 78) hA dX5_street_77 2 rfl rfl ?_
              refine WO.iload (n := 80) hA dX5_street_78 0 rfl rfl ?_
              refine WO.callVi (As := [.int r8]) (rest := []) (n := 83) hA (c_X5_faulty v.2.1 w hw r8 M7) gX5_street_X5_faulty rfl (x_0 hw) rfl mdX5_faulty ⟨rfl, rfl, Nat.le_of_ble_eq_true rfl, Nat.le_of_ble_eq_true rfl⟩ rfl rfl (Nat.le_of_ble_eq_true rfl) dX5_street_80 rfl (fun r31 M30 => ?_)
              exact WO.iret hA dX5_street_83
        · refine WO.iconst (x := (4 : Int32)) (n := 51) hA dX5_street_50 (by decide) rfl ?_
          refine WO.istore (lv' := [(6, .int (4 : Int32)), (5, .ref (w.2.1 (gSh x1.toNatClampNeg))), (0, .ref (w.2.1 0)), (1, .int x1), (2, .int x2), (3, .int x3), (4, .int x4)]) (n := 53) hA dX5_street_51 (by decide) rfl rfl ?_
          refine WO.iload (n := 55) hA dX5_street_53 0 rfl rfl ?_
          refine WO.if_ne (tg := 72) (n := 58) hA dX5_street_55 (by decide) rfl (fun _ => ?_) (fun _ => ?_)
          · refine WO.aload (n := 60) hA dX5_street_58 1 rfl rfl ?_
            refine WO.iload_n (n := 61) hA dX5_street_60 5 rfl rfl ?_
            refine WO.iload (n := 63) hA dX5_street_61 6 rfl rfl ?_
            refine WO.callVi (As := [.int x3, .int x4]) (rest := []) (n := 66) hA (c_X2_lacks v.2.1 w hw (gSh x1.toNatClampNeg) x3 x4 (she_of hi6.2) M7) gX5_street_X2_lacks rfl (she_0 hw (she_of hi6.2)) rfl mdX2_lacks ⟨rfl, rfl, Nat.le_of_ble_eq_true rfl, Nat.le_of_ble_eq_true rfl⟩ rfl rfl (Nat.le_of_ble_eq_true rfl) dX5_street_63 rfl (fun r33 M32 => ?_)
            refine WO.if_eq (tg := 72) (n := 69) hA dX5_street_66 (by decide) rfl (fun _ => ?_) (fun _ => ?_)
            · refine WO.iload (n := 74) hA dX5_street_72 0 rfl rfl ?_
              refine WO.if_eq (tg := 84) (n := 77) hA dX5_street_74 (by decide) rfl (fun _ => ?_) (fun _ => ?_)
              · refine WO.aload_n (n := 85) hA dX5_street_84 2 rfl rfl ?_
                refine WO.getR (j := 2) (p := 13) (n := 88) hA (x_0 hw) rfl fiX5_street_X5 (by decide) rfl fkX5_street_24 dX5_street_85 rfl ?_
                refine WO.aload (n := 90) hA dX5_street_88 1 rfl rfl ?_
                refine WO.iload_n (n := 91) hA dX5_street_90 5 rfl rfl ?_
                refine WO.iload (n := 93) hA dX5_street_91 6 rfl rfl ?_
                refine WO.aload_n (n := 94) hA dX5_street_93 2 rfl rfl ?_
                refine WO.getR (j := 1) (p := 7) (n := 97) hA (x_0 hw) rfl fiX5_street_X5 (by decide) rfl fkX5_street_18 dX5_street_94 rfl ?_
                refine WO.callVi (As := [.ref (w.2.1 (gSh x1.toNatClampNeg)), .int x3, .int x4, .ref (w.2.1 7)]) (rest := []) (n := 100) hA (c_X4_read v.2.1 w hw (gSh x1.toNatClampNeg) x3 x4 7 (she_of hi6.2) st7 M32) gX5_street_X4_read rfl (x_13 hw) rfl mdX4_read ⟨rfl, rfl, Nat.le_of_ble_eq_true rfl, Nat.le_of_ble_eq_true rfl⟩ rfl rfl (Nat.le_of_ble_eq_true rfl) dX5_street_97 rfl (fun r35 M34 => ?_)
                refine WO.istore (lv' := [(7, .int r35), (6, .int (4 : Int32)), (5, .ref (w.2.1 (gSh x1.toNatClampNeg))), (0, .ref (w.2.1 0)), (1, .int x1), (2, .int x2), (3, .int x3), (4, .int x4)]) (n := 102) hA dX5_street_100 (by decide) rfl rfl ?_
                refine WO.iload (n := 104) hA dX5_street_102 0 rfl rfl ?_
                refine WO.bipush (x := (-9 : Int32)) (n := 106) hA dX5_street_104 (by decide) rfl ?_
                refine WO.icmp_eq (tg := 115) (n := 109) hA dX5_street_106 (by decide) rfl (fun _ => ?_) (fun _ => ?_)
                · refine WO.aload_n (n := 116) hA dX5_street_115 3 rfl rfl ?_
                  refine WO.getR (j := 0) (p := 1) (n := 119) hA (x_0 hw) rfl fiX5_street_X5 (by decide) rfl fkX5_street_12 dX5_street_116 rfl ?_
                  refine WO.aload_n (n := 120) hA dX5_street_119 3 rfl rfl ?_
                  refine WO.getR (j := 1) (p := 7) (n := 123) hA (x_0 hw) rfl fiX5_street_X5 (by decide) rfl fkX5_street_18 dX5_street_120 rfl ?_
                  refine WO.callVv (As := [.ref (w.2.1 7)]) (rest := []) (n := 126) hA (c_X3_become v.2.1 w hw 1 7 st1 st7 M34) gX5_street_X3_become rfl (st_0 hw st1) rfl mdX3_become ⟨rfl, rfl, Nat.le_of_ble_eq_true rfl, Nat.le_of_ble_eq_true rfl⟩ rfl rfl (Nat.le_of_ble_eq_true rfl) dX5_street_123 rfl (fun M36 => ?_)
                  refine WO.aload_n (n := 127) hA dX5_street_126 3 rfl rfl ?_
                  refine WO.iconst (x := (0 : Int32)) (n := 128) hA dX5_street_127 (by decide) rfl ?_
                  refine WO.putI (j := 7) (n := 131) hA (x_0 hw) rfl fiX5_street_X5 tyX5 tyX5_ok nmX5 (by decide) rfl fkX5_street_83 rfl rfl rfl rfl dX5_street_128 rfl ?_
                  refine WO.mem (fun M37 => ?_)
                  refine WO.aload_n (n := 132) hA dX5_street_131 3 rfl rfl ?_
                  refine WO.getR (j := 3) (p := 15) (n := 135) hA (x_0 hw) rfl fiX5_street_X5 (by decide) rfl fkX5_street_31 dX5_street_132 rfl ?_
                  refine WO.iconst (x := (0 : Int32)) (n := 136) hA dX5_street_135 (by decide) rfl ?_
                  refine WO.putI (j := 4) (n := 139) hA (x_15 hw) rfl fiX5_street_X1 tyX1 tyX1_ok nmX1 (by decide) rfl fkX5_street_86 rfl rfl rfl rfl dX5_street_136 rfl ?_
                  refine WO.mem (fun M38 => ?_)
                  refine WO.aload_n (n := 140) hA dX5_street_139 3 rfl rfl ?_
                  refine WO.getR (j := 0) (p := 1) (n := 143) hA (x_0 hw) rfl fiX5_street_X5 (by decide) rfl fkX5_street_12 dX5_street_140 rfl ?_
                  refine WO.getI (j := 6) (n := 146) hA (st_0 hw st1) rfl fiX5_street_X3 (by decide) rfl fkX5_street_89 dX5_street_143 rfl ?_
                  exact WO.iret hA dX5_street_146
                · refine WO.bipush (x := (-100 : Int32)) (n := 111) hA dX5_street_109 (by decide) rfl ?_
                  refine WO.iload (n := 113) hA dX5_street_111 0 rfl rfl ?_
                  refine WO.isub (n := 114) hA dX5_street_113 rfl ?_
                  exact WO.iret hA dX5_street_114
              · refine WO.aload_n (n := 78) hA dX5_street_77 2 rfl rfl ?_
                refine WO.iload (n := 80) hA dX5_street_78 0 rfl rfl ?_
                refine WO.callVi (As := [.int (4 : Int32)]) (rest := []) (n := 83) hA (c_X5_faulty v.2.1 w hw (4 : Int32) M32) gX5_street_X5_faulty rfl (x_0 hw) rfl mdX5_faulty ⟨rfl, rfl, Nat.le_of_ble_eq_true rfl, Nat.le_of_ble_eq_true rfl⟩ rfl rfl (Nat.le_of_ble_eq_true rfl) dX5_street_80 rfl (fun r40 M39 => ?_)
                exact WO.iret hA dX5_street_83
            · refine WO.iconst (x := (3 : Int32)) (n := 70) hA dX5_street_69 (by decide) rfl ?_
              refine WO.istore (lv' := [(6, .int (3 : Int32)), (5, .ref (w.2.1 (gSh x1.toNatClampNeg))), (0, .ref (w.2.1 0)), (1, .int x1), (2, .int x2), (3, .int x3), (4, .int x4)]) (n := 72) hA dX5_street_70 (by decide) rfl rfl ?_
              refine WO.iload (n := 74) hA dX5_street_72 0 rfl rfl ?_
              refine WO.if_eq (tg := 84) (n := 77) hA dX5_street_74 (by decide) rfl (fun _ => ?_) (fun _ => ?_)
              · refine WO.aload_n (n := 85) hA dX5_street_84 2 rfl rfl ?_
                refine WO.getR (j := 2) (p := 13) (n := 88) hA (x_0 hw) rfl fiX5_street_X5 (by decide) rfl fkX5_street_24 dX5_street_85 rfl ?_
                refine WO.aload (n := 90) hA dX5_street_88 1 rfl rfl ?_
                refine WO.iload_n (n := 91) hA dX5_street_90 5 rfl rfl ?_
                refine WO.iload (n := 93) hA dX5_street_91 6 rfl rfl ?_
                refine WO.aload_n (n := 94) hA dX5_street_93 2 rfl rfl ?_
                refine WO.getR (j := 1) (p := 7) (n := 97) hA (x_0 hw) rfl fiX5_street_X5 (by decide) rfl fkX5_street_18 dX5_street_94 rfl ?_
                refine WO.callVi (As := [.ref (w.2.1 (gSh x1.toNatClampNeg)), .int x3, .int x4, .ref (w.2.1 7)]) (rest := []) (n := 100) hA (c_X4_read v.2.1 w hw (gSh x1.toNatClampNeg) x3 x4 7 (she_of hi6.2) st7 M32) gX5_street_X4_read rfl (x_13 hw) rfl mdX4_read ⟨rfl, rfl, Nat.le_of_ble_eq_true rfl, Nat.le_of_ble_eq_true rfl⟩ rfl rfl (Nat.le_of_ble_eq_true rfl) dX5_street_97 rfl (fun r42 M41 => ?_)
                refine WO.istore (lv' := [(7, .int r42), (6, .int (3 : Int32)), (5, .ref (w.2.1 (gSh x1.toNatClampNeg))), (0, .ref (w.2.1 0)), (1, .int x1), (2, .int x2), (3, .int x3), (4, .int x4)]) (n := 102) hA dX5_street_100 (by decide) rfl rfl ?_
                refine WO.iload (n := 104) hA dX5_street_102 0 rfl rfl ?_
                refine WO.bipush (x := (-9 : Int32)) (n := 106) hA dX5_street_104 (by decide) rfl ?_
                refine WO.icmp_eq (tg := 115) (n := 109) hA dX5_street_106 (by decide) rfl (fun _ => ?_) (fun _ => ?_)
                · refine WO.aload_n (n := 116) hA dX5_street_115 3 rfl rfl ?_
                  refine WO.getR (j := 0) (p := 1) (n := 119) hA (x_0 hw) rfl fiX5_street_X5 (by decide) rfl fkX5_street_12 dX5_street_116 rfl ?_
                  refine WO.aload_n (n := 120) hA dX5_street_119 3 rfl rfl ?_
                  refine WO.getR (j := 1) (p := 7) (n := 123) hA (x_0 hw) rfl fiX5_street_X5 (by decide) rfl fkX5_street_18 dX5_street_120 rfl ?_
                  refine WO.callVv (As := [.ref (w.2.1 7)]) (rest := []) (n := 126) hA (c_X3_become v.2.1 w hw 1 7 st1 st7 M41) gX5_street_X3_become rfl (st_0 hw st1) rfl mdX3_become ⟨rfl, rfl, Nat.le_of_ble_eq_true rfl, Nat.le_of_ble_eq_true rfl⟩ rfl rfl (Nat.le_of_ble_eq_true rfl) dX5_street_123 rfl (fun M43 => ?_)
                  refine WO.aload_n (n := 127) hA dX5_street_126 3 rfl rfl ?_
                  refine WO.iconst (x := (0 : Int32)) (n := 128) hA dX5_street_127 (by decide) rfl ?_
                  refine WO.putI (j := 7) (n := 131) hA (x_0 hw) rfl fiX5_street_X5 tyX5 tyX5_ok nmX5 (by decide) rfl fkX5_street_83 rfl rfl rfl rfl dX5_street_128 rfl ?_
                  refine WO.mem (fun M44 => ?_)
                  refine WO.aload_n (n := 132) hA dX5_street_131 3 rfl rfl ?_
                  refine WO.getR (j := 3) (p := 15) (n := 135) hA (x_0 hw) rfl fiX5_street_X5 (by decide) rfl fkX5_street_31 dX5_street_132 rfl ?_
                  refine WO.iconst (x := (0 : Int32)) (n := 136) hA dX5_street_135 (by decide) rfl ?_
                  refine WO.putI (j := 4) (n := 139) hA (x_15 hw) rfl fiX5_street_X1 tyX1 tyX1_ok nmX1 (by decide) rfl fkX5_street_86 rfl rfl rfl rfl dX5_street_136 rfl ?_
                  refine WO.mem (fun M45 => ?_)
                  refine WO.aload_n (n := 140) hA dX5_street_139 3 rfl rfl ?_
                  refine WO.getR (j := 0) (p := 1) (n := 143) hA (x_0 hw) rfl fiX5_street_X5 (by decide) rfl fkX5_street_12 dX5_street_140 rfl ?_
                  refine WO.getI (j := 6) (n := 146) hA (st_0 hw st1) rfl fiX5_street_X3 (by decide) rfl fkX5_street_89 dX5_street_143 rfl ?_
                  exact WO.iret hA dX5_street_146
                · refine WO.bipush (x := (-100 : Int32)) (n := 111) hA dX5_street_109 (by decide) rfl ?_
                  refine WO.iload (n := 113) hA dX5_street_111 0 rfl rfl ?_
                  refine WO.isub (n := 114) hA dX5_street_113 rfl ?_
                  exact WO.iret hA dX5_street_114
              · refine WO.aload_n (n := 78) hA dX5_street_77 2 rfl rfl ?_
                refine WO.iload (n := 80) hA dX5_street_78 0 rfl rfl ?_
                refine WO.callVi (As := [.int (3 : Int32)]) (rest := []) (n := 83) hA (c_X5_faulty v.2.1 w hw (3 : Int32) M32) gX5_street_X5_faulty rfl (x_0 hw) rfl mdX5_faulty ⟨rfl, rfl, Nat.le_of_ble_eq_true rfl, Nat.le_of_ble_eq_true rfl⟩ rfl rfl (Nat.le_of_ble_eq_true rfl) dX5_street_80 rfl (fun r47 M46 => ?_)
                exact WO.iret hA dX5_street_83
          · refine WO.iload (n := 74) hA dX5_street_72 0 rfl rfl ?_
            refine WO.if_eq (tg := 84) (n := 77) hA dX5_street_74 (by decide) rfl (fun _ => ?_) (fun _ => ?_)
            · refine WO.aload_n (n := 85) hA dX5_street_84 2 rfl rfl ?_
              refine WO.getR (j := 2) (p := 13) (n := 88) hA (x_0 hw) rfl fiX5_street_X5 (by decide) rfl fkX5_street_24 dX5_street_85 rfl ?_
              refine WO.aload (n := 90) hA dX5_street_88 1 rfl rfl ?_
              refine WO.iload_n (n := 91) hA dX5_street_90 5 rfl rfl ?_
              refine WO.iload (n := 93) hA dX5_street_91 6 rfl rfl ?_
              refine WO.aload_n (n := 94) hA dX5_street_93 2 rfl rfl ?_
              refine WO.getR (j := 1) (p := 7) (n := 97) hA (x_0 hw) rfl fiX5_street_X5 (by decide) rfl fkX5_street_18 dX5_street_94 rfl ?_
              refine WO.callVi (As := [.ref (w.2.1 (gSh x1.toNatClampNeg)), .int x3, .int x4, .ref (w.2.1 7)]) (rest := []) (n := 100) hA (c_X4_read v.2.1 w hw (gSh x1.toNatClampNeg) x3 x4 7 (she_of hi6.2) st7 M7) gX5_street_X4_read rfl (x_13 hw) rfl mdX4_read ⟨rfl, rfl, Nat.le_of_ble_eq_true rfl, Nat.le_of_ble_eq_true rfl⟩ rfl rfl (Nat.le_of_ble_eq_true rfl) dX5_street_97 rfl (fun r49 M48 => ?_)
              refine WO.istore (lv' := [(7, .int r49), (6, .int (4 : Int32)), (5, .ref (w.2.1 (gSh x1.toNatClampNeg))), (0, .ref (w.2.1 0)), (1, .int x1), (2, .int x2), (3, .int x3), (4, .int x4)]) (n := 102) hA dX5_street_100 (by decide) rfl rfl ?_
              refine WO.iload (n := 104) hA dX5_street_102 0 rfl rfl ?_
              refine WO.bipush (x := (-9 : Int32)) (n := 106) hA dX5_street_104 (by decide) rfl ?_
              refine WO.icmp_eq (tg := 115) (n := 109) hA dX5_street_106 (by decide) rfl (fun _ => ?_) (fun _ => ?_)
              · refine WO.aload_n (n := 116) hA dX5_street_115 3 rfl rfl ?_
                refine WO.getR (j := 0) (p := 1) (n := 119) hA (x_0 hw) rfl fiX5_street_X5 (by decide) rfl fkX5_street_12 dX5_street_116 rfl ?_
                refine WO.aload_n (n := 120) hA dX5_street_119 3 rfl rfl ?_
                refine WO.getR (j := 1) (p := 7) (n := 123) hA (x_0 hw) rfl fiX5_street_X5 (by decide) rfl fkX5_street_18 dX5_street_120 rfl ?_
                refine WO.callVv (As := [.ref (w.2.1 7)]) (rest := []) (n := 126) hA (c_X3_become v.2.1 w hw 1 7 st1 st7 M48) gX5_street_X3_become rfl (st_0 hw st1) rfl mdX3_become ⟨rfl, rfl, Nat.le_of_ble_eq_true rfl, Nat.le_of_ble_eq_true rfl⟩ rfl rfl (Nat.le_of_ble_eq_true rfl) dX5_street_123 rfl (fun M50 => ?_)
                refine WO.aload_n (n := 127) hA dX5_street_126 3 rfl rfl ?_
                refine WO.iconst (x := (0 : Int32)) (n := 128) hA dX5_street_127 (by decide) rfl ?_
                refine WO.putI (j := 7) (n := 131) hA (x_0 hw) rfl fiX5_street_X5 tyX5 tyX5_ok nmX5 (by decide) rfl fkX5_street_83 rfl rfl rfl rfl dX5_street_128 rfl ?_
                refine WO.mem (fun M51 => ?_)
                refine WO.aload_n (n := 132) hA dX5_street_131 3 rfl rfl ?_
                refine WO.getR (j := 3) (p := 15) (n := 135) hA (x_0 hw) rfl fiX5_street_X5 (by decide) rfl fkX5_street_31 dX5_street_132 rfl ?_
                refine WO.iconst (x := (0 : Int32)) (n := 136) hA dX5_street_135 (by decide) rfl ?_
                refine WO.putI (j := 4) (n := 139) hA (x_15 hw) rfl fiX5_street_X1 tyX1 tyX1_ok nmX1 (by decide) rfl fkX5_street_86 rfl rfl rfl rfl dX5_street_136 rfl ?_
                refine WO.mem (fun M52 => ?_)
                refine WO.aload_n (n := 140) hA dX5_street_139 3 rfl rfl ?_
                refine WO.getR (j := 0) (p := 1) (n := 143) hA (x_0 hw) rfl fiX5_street_X5 (by decide) rfl fkX5_street_12 dX5_street_140 rfl ?_
                refine WO.getI (j := 6) (n := 146) hA (st_0 hw st1) rfl fiX5_street_X3 (by decide) rfl fkX5_street_89 dX5_street_143 rfl ?_
                exact WO.iret hA dX5_street_146
              · refine WO.bipush (x := (-100 : Int32)) (n := 111) hA dX5_street_109 (by decide) rfl ?_
                refine WO.iload (n := 113) hA dX5_street_111 0 rfl rfl ?_
                refine WO.isub (n := 114) hA dX5_street_113 rfl ?_
                exact WO.iret hA dX5_street_114
            · refine WO.aload_n (n := 78) hA dX5_street_77 2 rfl rfl ?_
              refine WO.iload (n := 80) hA dX5_street_78 0 rfl rfl ?_
              refine WO.callVi (As := [.int (4 : Int32)]) (rest := []) (n := 83) hA (c_X5_faulty v.2.1 w hw (4 : Int32) M7) gX5_street_X5_faulty rfl (x_0 hw) rfl mdX5_faulty ⟨rfl, rfl, Nat.le_of_ble_eq_true rfl, Nat.le_of_ble_eq_true rfl⟩ rfl rfl (Nat.le_of_ble_eq_true rfl) dX5_street_80 rfl (fun r54 M53 => ?_)
              exact WO.iret hA dX5_street_83
      · refine WO.iload (n := 55) hA dX5_street_53 0 rfl rfl ?_
        refine WO.if_ne (tg := 72) (n := 58) hA dX5_street_55 (by decide) rfl (fun _ => ?_) (fun _ => ?_)
        · refine WO.aload (n := 60) hA dX5_street_58 1 rfl rfl ?_
          refine WO.iload_n (n := 61) hA dX5_street_60 5 rfl rfl ?_
          refine WO.iload (n := 63) hA dX5_street_61 6 rfl rfl ?_
          refine WO.callVi (As := [.int x3, .int x4]) (rest := []) (n := 66) hA (c_X2_lacks v.2.1 w hw (gSh x1.toNatClampNeg) x3 x4 (she_of hi6.2) M7) gX5_street_X2_lacks rfl (she_0 hw (she_of hi6.2)) rfl mdX2_lacks ⟨rfl, rfl, Nat.le_of_ble_eq_true rfl, Nat.le_of_ble_eq_true rfl⟩ rfl rfl (Nat.le_of_ble_eq_true rfl) dX5_street_63 rfl (fun r56 M55 => ?_)
          refine WO.if_eq (tg := 72) (n := 69) hA dX5_street_66 (by decide) rfl (fun _ => ?_) (fun _ => ?_)
          · refine WO.iload (n := 74) hA dX5_street_72 0 rfl rfl ?_
            refine WO.if_eq (tg := 84) (n := 77) hA dX5_street_74 (by decide) rfl (fun _ => ?_) (fun _ => ?_)
            · refine WO.aload_n (n := 85) hA dX5_street_84 2 rfl rfl ?_
              refine WO.getR (j := 2) (p := 13) (n := 88) hA (x_0 hw) rfl fiX5_street_X5 (by decide) rfl fkX5_street_24 dX5_street_85 rfl ?_
              refine WO.aload (n := 90) hA dX5_street_88 1 rfl rfl ?_
              refine WO.iload_n (n := 91) hA dX5_street_90 5 rfl rfl ?_
              refine WO.iload (n := 93) hA dX5_street_91 6 rfl rfl ?_
              refine WO.aload_n (n := 94) hA dX5_street_93 2 rfl rfl ?_
              refine WO.getR (j := 1) (p := 7) (n := 97) hA (x_0 hw) rfl fiX5_street_X5 (by decide) rfl fkX5_street_18 dX5_street_94 rfl ?_
              refine WO.callVi (As := [.ref (w.2.1 (gSh x1.toNatClampNeg)), .int x3, .int x4, .ref (w.2.1 7)]) (rest := []) (n := 100) hA (c_X4_read v.2.1 w hw (gSh x1.toNatClampNeg) x3 x4 7 (she_of hi6.2) st7 M55) gX5_street_X4_read rfl (x_13 hw) rfl mdX4_read ⟨rfl, rfl, Nat.le_of_ble_eq_true rfl, Nat.le_of_ble_eq_true rfl⟩ rfl rfl (Nat.le_of_ble_eq_true rfl) dX5_street_97 rfl (fun r58 M57 => ?_)
              refine WO.istore (lv' := [(7, .int r58), (6, .int r8), (5, .ref (w.2.1 (gSh x1.toNatClampNeg))), (0, .ref (w.2.1 0)), (1, .int x1), (2, .int x2), (3, .int x3), (4, .int x4)]) (n := 102) hA dX5_street_100 (by decide) rfl rfl ?_
              refine WO.iload (n := 104) hA dX5_street_102 0 rfl rfl ?_
              refine WO.bipush (x := (-9 : Int32)) (n := 106) hA dX5_street_104 (by decide) rfl ?_
              refine WO.icmp_eq (tg := 115) (n := 109) hA dX5_street_106 (by decide) rfl (fun _ => ?_) (fun _ => ?_)
              · refine WO.aload_n (n := 116) hA dX5_street_115 3 rfl rfl ?_
                refine WO.getR (j := 0) (p := 1) (n := 119) hA (x_0 hw) rfl fiX5_street_X5 (by decide) rfl fkX5_street_12 dX5_street_116 rfl ?_
                refine WO.aload_n (n := 120) hA dX5_street_119 3 rfl rfl ?_
                refine WO.getR (j := 1) (p := 7) (n := 123) hA (x_0 hw) rfl fiX5_street_X5 (by decide) rfl fkX5_street_18 dX5_street_120 rfl ?_
                refine WO.callVv (As := [.ref (w.2.1 7)]) (rest := []) (n := 126) hA (c_X3_become v.2.1 w hw 1 7 st1 st7 M57) gX5_street_X3_become rfl (st_0 hw st1) rfl mdX3_become ⟨rfl, rfl, Nat.le_of_ble_eq_true rfl, Nat.le_of_ble_eq_true rfl⟩ rfl rfl (Nat.le_of_ble_eq_true rfl) dX5_street_123 rfl (fun M59 => ?_)
                refine WO.aload_n (n := 127) hA dX5_street_126 3 rfl rfl ?_
                refine WO.iconst (x := (0 : Int32)) (n := 128) hA dX5_street_127 (by decide) rfl ?_
                refine WO.putI (j := 7) (n := 131) hA (x_0 hw) rfl fiX5_street_X5 tyX5 tyX5_ok nmX5 (by decide) rfl fkX5_street_83 rfl rfl rfl rfl dX5_street_128 rfl ?_
                refine WO.mem (fun M60 => ?_)
                refine WO.aload_n (n := 132) hA dX5_street_131 3 rfl rfl ?_
                refine WO.getR (j := 3) (p := 15) (n := 135) hA (x_0 hw) rfl fiX5_street_X5 (by decide) rfl fkX5_street_31 dX5_street_132 rfl ?_
                refine WO.iconst (x := (0 : Int32)) (n := 136) hA dX5_street_135 (by decide) rfl ?_
                refine WO.putI (j := 4) (n := 139) hA (x_15 hw) rfl fiX5_street_X1 tyX1 tyX1_ok nmX1 (by decide) rfl fkX5_street_86 rfl rfl rfl rfl dX5_street_136 rfl ?_
                refine WO.mem (fun M61 => ?_)
                refine WO.aload_n (n := 140) hA dX5_street_139 3 rfl rfl ?_
                refine WO.getR (j := 0) (p := 1) (n := 143) hA (x_0 hw) rfl fiX5_street_X5 (by decide) rfl fkX5_street_12 dX5_street_140 rfl ?_
                refine WO.getI (j := 6) (n := 146) hA (st_0 hw st1) rfl fiX5_street_X3 (by decide) rfl fkX5_street_89 dX5_street_143 rfl ?_
                exact WO.iret hA dX5_street_146
              · refine WO.bipush (x := (-100 : Int32)) (n := 111) hA dX5_street_109 (by decide) rfl ?_
                refine WO.iload (n := 113) hA dX5_street_111 0 rfl rfl ?_
                refine WO.isub (n := 114) hA dX5_street_113 rfl ?_
                exact WO.iret hA dX5_street_114
            · refine WO.aload_n (n := 78) hA dX5_street_77 2 rfl rfl ?_
              refine WO.iload (n := 80) hA dX5_street_78 0 rfl rfl ?_
              refine WO.callVi (As := [.int r8]) (rest := []) (n := 83) hA (c_X5_faulty v.2.1 w hw r8 M55) gX5_street_X5_faulty rfl (x_0 hw) rfl mdX5_faulty ⟨rfl, rfl, Nat.le_of_ble_eq_true rfl, Nat.le_of_ble_eq_true rfl⟩ rfl rfl (Nat.le_of_ble_eq_true rfl) dX5_street_80 rfl (fun r63 M62 => ?_)
              exact WO.iret hA dX5_street_83
          · refine WO.iconst (x := (3 : Int32)) (n := 70) hA dX5_street_69 (by decide) rfl ?_
            refine WO.istore (lv' := [(6, .int (3 : Int32)), (5, .ref (w.2.1 (gSh x1.toNatClampNeg))), (0, .ref (w.2.1 0)), (1, .int x1), (2, .int x2), (3, .int x3), (4, .int x4)]) (n := 72) hA dX5_street_70 (by decide) rfl rfl ?_
            refine WO.iload (n := 74) hA dX5_street_72 0 rfl rfl ?_
            refine WO.if_eq (tg := 84) (n := 77) hA dX5_street_74 (by decide) rfl (fun _ => ?_) (fun _ => ?_)
            · refine WO.aload_n (n := 85) hA dX5_street_84 2 rfl rfl ?_
              refine WO.getR (j := 2) (p := 13) (n := 88) hA (x_0 hw) rfl fiX5_street_X5 (by decide) rfl fkX5_street_24 dX5_street_85 rfl ?_
              refine WO.aload (n := 90) hA dX5_street_88 1 rfl rfl ?_
              refine WO.iload_n (n := 91) hA dX5_street_90 5 rfl rfl ?_
              refine WO.iload (n := 93) hA dX5_street_91 6 rfl rfl ?_
              refine WO.aload_n (n := 94) hA dX5_street_93 2 rfl rfl ?_
              refine WO.getR (j := 1) (p := 7) (n := 97) hA (x_0 hw) rfl fiX5_street_X5 (by decide) rfl fkX5_street_18 dX5_street_94 rfl ?_
              refine WO.callVi (As := [.ref (w.2.1 (gSh x1.toNatClampNeg)), .int x3, .int x4, .ref (w.2.1 7)]) (rest := []) (n := 100) hA (c_X4_read v.2.1 w hw (gSh x1.toNatClampNeg) x3 x4 7 (she_of hi6.2) st7 M55) gX5_street_X4_read rfl (x_13 hw) rfl mdX4_read ⟨rfl, rfl, Nat.le_of_ble_eq_true rfl, Nat.le_of_ble_eq_true rfl⟩ rfl rfl (Nat.le_of_ble_eq_true rfl) dX5_street_97 rfl (fun r65 M64 => ?_)
              refine WO.istore (lv' := [(7, .int r65), (6, .int (3 : Int32)), (5, .ref (w.2.1 (gSh x1.toNatClampNeg))), (0, .ref (w.2.1 0)), (1, .int x1), (2, .int x2), (3, .int x3), (4, .int x4)]) (n := 102) hA dX5_street_100 (by decide) rfl rfl ?_
              refine WO.iload (n := 104) hA dX5_street_102 0 rfl rfl ?_
              refine WO.bipush (x := (-9 : Int32)) (n := 106) hA dX5_street_104 (by decide) rfl ?_
              refine WO.icmp_eq (tg := 115) (n := 109) hA dX5_street_106 (by decide) rfl (fun _ => ?_) (fun _ => ?_)
              · refine WO.aload_n (n := 116) hA dX5_street_115 3 rfl rfl ?_
                refine WO.getR (j := 0) (p := 1) (n := 119) hA (x_0 hw) rfl fiX5_street_X5 (by decide) rfl fkX5_street_12 dX5_street_116 rfl ?_
                refine WO.aload_n (n := 120) hA dX5_street_119 3 rfl rfl ?_
                refine WO.getR (j := 1) (p := 7) (n := 123) hA (x_0 hw) rfl fiX5_street_X5 (by decide) rfl fkX5_street_18 dX5_street_120 rfl ?_
                refine WO.callVv (As := [.ref (w.2.1 7)]) (rest := []) (n := 126) hA (c_X3_become v.2.1 w hw 1 7 st1 st7 M64) gX5_street_X3_become rfl (st_0 hw st1) rfl mdX3_become ⟨rfl, rfl, Nat.le_of_ble_eq_true rfl, Nat.le_of_ble_eq_true rfl⟩ rfl rfl (Nat.le_of_ble_eq_true rfl) dX5_street_123 rfl (fun M66 => ?_)
                refine WO.aload_n (n := 127) hA dX5_street_126 3 rfl rfl ?_
                refine WO.iconst (x := (0 : Int32)) (n := 128) hA dX5_street_127 (by decide) rfl ?_
                refine WO.putI (j := 7) (n := 131) hA (x_0 hw) rfl fiX5_street_X5 tyX5 tyX5_ok nmX5 (by decide) rfl fkX5_street_83 rfl rfl rfl rfl dX5_street_128 rfl ?_
                refine WO.mem (fun M67 => ?_)
                refine WO.aload_n (n := 132) hA dX5_street_131 3 rfl rfl ?_
                refine WO.getR (j := 3) (p := 15) (n := 135) hA (x_0 hw) rfl fiX5_street_X5 (by decide) rfl fkX5_street_31 dX5_street_132 rfl ?_
                refine WO.iconst (x := (0 : Int32)) (n := 136) hA dX5_street_135 (by decide) rfl ?_
                refine WO.putI (j := 4) (n := 139) hA (x_15 hw) rfl fiX5_street_X1 tyX1 tyX1_ok nmX1 (by decide) rfl fkX5_street_86 rfl rfl rfl rfl dX5_street_136 rfl ?_
                refine WO.mem (fun M68 => ?_)
                refine WO.aload_n (n := 140) hA dX5_street_139 3 rfl rfl ?_
                refine WO.getR (j := 0) (p := 1) (n := 143) hA (x_0 hw) rfl fiX5_street_X5 (by decide) rfl fkX5_street_12 dX5_street_140 rfl ?_
                refine WO.getI (j := 6) (n := 146) hA (st_0 hw st1) rfl fiX5_street_X3 (by decide) rfl fkX5_street_89 dX5_street_143 rfl ?_
                exact WO.iret hA dX5_street_146
              · refine WO.bipush (x := (-100 : Int32)) (n := 111) hA dX5_street_109 (by decide) rfl ?_
                refine WO.iload (n := 113) hA dX5_street_111 0 rfl rfl ?_
                refine WO.isub (n := 114) hA dX5_street_113 rfl ?_
                exact WO.iret hA dX5_street_114
            · refine WO.aload_n (n := 78) hA dX5_street_77 2 rfl rfl ?_
              refine WO.iload (n := 80) hA dX5_street_78 0 rfl rfl ?_
              refine WO.callVi (As := [.int (3 : Int32)]) (rest := []) (n := 83) hA (c_X5_faulty v.2.1 w hw (3 : Int32) M55) gX5_street_X5_faulty rfl (x_0 hw) rfl mdX5_faulty ⟨rfl, rfl, Nat.le_of_ble_eq_true rfl, Nat.le_of_ble_eq_true rfl⟩ rfl rfl (Nat.le_of_ble_eq_true rfl) dX5_street_80 rfl (fun r70 M69 => ?_)
              exact WO.iret hA dX5_street_83
        · refine WO.iload (n := 74) hA dX5_street_72 0 rfl rfl ?_
          refine WO.if_eq (tg := 84) (n := 77) hA dX5_street_74 (by decide) rfl (fun _ => ?_) (fun _ => ?_)
          · refine WO.aload_n (n := 85) hA dX5_street_84 2 rfl rfl ?_
            refine WO.getR (j := 2) (p := 13) (n := 88) hA (x_0 hw) rfl fiX5_street_X5 (by decide) rfl fkX5_street_24 dX5_street_85 rfl ?_
            refine WO.aload (n := 90) hA dX5_street_88 1 rfl rfl ?_
            refine WO.iload_n (n := 91) hA dX5_street_90 5 rfl rfl ?_
            refine WO.iload (n := 93) hA dX5_street_91 6 rfl rfl ?_
            refine WO.aload_n (n := 94) hA dX5_street_93 2 rfl rfl ?_
            refine WO.getR (j := 1) (p := 7) (n := 97) hA (x_0 hw) rfl fiX5_street_X5 (by decide) rfl fkX5_street_18 dX5_street_94 rfl ?_
            refine WO.callVi (As := [.ref (w.2.1 (gSh x1.toNatClampNeg)), .int x3, .int x4, .ref (w.2.1 7)]) (rest := []) (n := 100) hA (c_X4_read v.2.1 w hw (gSh x1.toNatClampNeg) x3 x4 7 (she_of hi6.2) st7 M7) gX5_street_X4_read rfl (x_13 hw) rfl mdX4_read ⟨rfl, rfl, Nat.le_of_ble_eq_true rfl, Nat.le_of_ble_eq_true rfl⟩ rfl rfl (Nat.le_of_ble_eq_true rfl) dX5_street_97 rfl (fun r72 M71 => ?_)
            refine WO.istore (lv' := [(7, .int r72), (6, .int r8), (5, .ref (w.2.1 (gSh x1.toNatClampNeg))), (0, .ref (w.2.1 0)), (1, .int x1), (2, .int x2), (3, .int x3), (4, .int x4)]) (n := 102) hA dX5_street_100 (by decide) rfl rfl ?_
            refine WO.iload (n := 104) hA dX5_street_102 0 rfl rfl ?_
            refine WO.bipush (x := (-9 : Int32)) (n := 106) hA dX5_street_104 (by decide) rfl ?_
            refine WO.icmp_eq (tg := 115) (n := 109) hA dX5_street_106 (by decide) rfl (fun _ => ?_) (fun _ => ?_)
            · refine WO.aload_n (n := 116) hA dX5_street_115 3 rfl rfl ?_
              refine WO.getR (j := 0) (p := 1) (n := 119) hA (x_0 hw) rfl fiX5_street_X5 (by decide) rfl fkX5_street_12 dX5_street_116 rfl ?_
              refine WO.aload_n (n := 120) hA dX5_street_119 3 rfl rfl ?_
              refine WO.getR (j := 1) (p := 7) (n := 123) hA (x_0 hw) rfl fiX5_street_X5 (by decide) rfl fkX5_street_18 dX5_street_120 rfl ?_
              refine WO.callVv (As := [.ref (w.2.1 7)]) (rest := []) (n := 126) hA (c_X3_become v.2.1 w hw 1 7 st1 st7 M71) gX5_street_X3_become rfl (st_0 hw st1) rfl mdX3_become ⟨rfl, rfl, Nat.le_of_ble_eq_true rfl, Nat.le_of_ble_eq_true rfl⟩ rfl rfl (Nat.le_of_ble_eq_true rfl) dX5_street_123 rfl (fun M73 => ?_)
              refine WO.aload_n (n := 127) hA dX5_street_126 3 rfl rfl ?_
              refine WO.iconst (x := (0 : Int32)) (n := 128) hA dX5_street_127 (by decide) rfl ?_
              refine WO.putI (j := 7) (n := 131) hA (x_0 hw) rfl fiX5_street_X5 tyX5 tyX5_ok nmX5 (by decide) rfl fkX5_street_83 rfl rfl rfl rfl dX5_street_128 rfl ?_
              refine WO.mem (fun M74 => ?_)
              refine WO.aload_n (n := 132) hA dX5_street_131 3 rfl rfl ?_
              refine WO.getR (j := 3) (p := 15) (n := 135) hA (x_0 hw) rfl fiX5_street_X5 (by decide) rfl fkX5_street_31 dX5_street_132 rfl ?_
              refine WO.iconst (x := (0 : Int32)) (n := 136) hA dX5_street_135 (by decide) rfl ?_
              refine WO.putI (j := 4) (n := 139) hA (x_15 hw) rfl fiX5_street_X1 tyX1 tyX1_ok nmX1 (by decide) rfl fkX5_street_86 rfl rfl rfl rfl dX5_street_136 rfl ?_
              refine WO.mem (fun M75 => ?_)
              refine WO.aload_n (n := 140) hA dX5_street_139 3 rfl rfl ?_
              refine WO.getR (j := 0) (p := 1) (n := 143) hA (x_0 hw) rfl fiX5_street_X5 (by decide) rfl fkX5_street_12 dX5_street_140 rfl ?_
              refine WO.getI (j := 6) (n := 146) hA (st_0 hw st1) rfl fiX5_street_X3 (by decide) rfl fkX5_street_89 dX5_street_143 rfl ?_
              exact WO.iret hA dX5_street_146
            · refine WO.bipush (x := (-100 : Int32)) (n := 111) hA dX5_street_109 (by decide) rfl ?_
              refine WO.iload (n := 113) hA dX5_street_111 0 rfl rfl ?_
              refine WO.isub (n := 114) hA dX5_street_113 rfl ?_
              exact WO.iret hA dX5_street_114
          · refine WO.aload_n (n := 78) hA dX5_street_77 2 rfl rfl ?_
            refine WO.iload (n := 80) hA dX5_street_78 0 rfl rfl ?_
            refine WO.callVi (As := [.int r8]) (rest := []) (n := 83) hA (c_X5_faulty v.2.1 w hw r8 M7) gX5_street_X5_faulty rfl (x_0 hw) rfl mdX5_faulty ⟨rfl, rfl, Nat.le_of_ble_eq_true rfl, Nat.le_of_ble_eq_true rfl⟩ rfl rfl (Nat.le_of_ble_eq_true rfl) dX5_street_80 rfl (fun r77 M76 => ?_)
            exact WO.iret hA dX5_street_83
/- X5_ofHouse -/
abbrev rmX5_ofHouse : Room := { frames := 4, cells := 0, slots := 0, locals := 90 }
theorem mdX5_ofHouse : yX5_ofHouse.cls = RX5 ∧ yX5_ofHouse.cls ≠ "java/lang/invoke/MethodHandle" ∧ yX5_ofHouse.cls ≠ "java/lang/invoke/VarHandle" ∧ (parseMethodDescriptor yX5_ofHouse.desc).map (fun d => d.parameters.length) = some 2 := by decide +kernel
theorem fkX5_ofHouse_12 : Cond.fieldLink RX5 12 (TX5 0).1 (TX5 0).2.1 (TX5 0).2.2.1 ∈ wsX5_ofHouse := by decide +kernel
theorem fiX5_ofHouse_X5 : ∀ q ∈ u_ws RX5 TX5 10, q ∈ wsX5_ofHouse := by decide +kernel
theorem fkX5_ofHouse_95 : Cond.fieldLink RX5 95 (TX3 0).1 (TX3 0).2.1 (TX3 0).2.2.1 ∈ wsX5_ofHouse := by decide +kernel
theorem fiX5_ofHouse_X3 : ∀ q ∈ u_ws RX3 TX3 10, q ∈ wsX5_ofHouse := by decide +kernel
theorem fkX5_ofHouse_98 : Cond.fieldLink RX5 98 (TX3 1).1 (TX3 1).2.1 (TX3 1).2.2.1 ∈ wsX5_ofHouse := by decide +kernel
noncomputable def f_X5_ofHouse (x1 : Int32) (x2 : Int32) (M : Mem) : Option (Int32 × Mem) := bd (f_X3_hasHouse 1 x1 M) (fun r2 M1 => if r2 = 0 then (some ((-1 : Int32), M1)) else (if x2 = (0 : Int32) then (grd x1 6 (some ((M1 2 x1.toNatClampNeg), M1))) else if x2 = (1 : Int32) then (grd x1 6 (some ((M1 3 x1.toNatClampNeg), M1))) else if x2 = (2 : Int32) then (bd (f_X3_needs 1 x1 M1) (fun r7 M6 => some (r7, M6))) else if x2 = (3 : Int32) then (bd (f_X3_clocksIn 1 x1 M1) (fun r10 M9 => some (r10, M9))) else if x2 = (4 : Int32) then (bd (f_X3_clocksWaking 1 x1 M1) (fun r13 M12 => some (r13, M12))) else (some ((-2 : Int32), M1))))
set_option maxHeartbeats 4000000 in
set_option maxRecDepth 100000 in
theorem c_X5_ofHouse (l : Launch) (w : Cw) (hw : w.2.2.2.2.2 = shX) (x1 : Int32) (x2 : Int32) (M : Mem) : Ok l w eI yX5_ofHouse wsX5_ofHouse rmX5_ofHouse [.ref (w.2.1 0), .int x1, .int x2] M (f_X5_ofHouse x1 x2 M) := by
  refine Ok.of (cc := cX5_ofHouse) (nL := 3) (ret := (some .int)) (lv := [(0, .ref (w.2.1 0)), (1, .int x1), (2, .int x2)]) (by decide) rfl (Nat.le_of_ble_eq_true rfl) rfl (fun v hv hA => ?_)
  subst hv
  have hA : Act v w RX5 wsX5_ofHouse cX5_ofHouse 3 (some .int) := hA
  unfold f_X5_ofHouse
  refine WO.aload_n (n := 1) hA dX5_ofHouse_0 0 rfl rfl ?_
  refine WO.getR (j := 0) (p := 1) (n := 4) hA (x_0 hw) rfl fiX5_ofHouse_X5 (by decide) rfl fkX5_ofHouse_12 dX5_ofHouse_1 rfl ?_
  refine WO.iload_n (n := 5) hA dX5_ofHouse_4 1 rfl rfl ?_
  refine WO.callVi (As := [.int x1]) (rest := []) (n := 8) hA (c_X3_hasHouse v.2.1 w hw 1 x1 st1 M) gX5_ofHouse_X3_hasHouse rfl (st_0 hw st1) rfl mdX3_hasHouse ⟨rfl, rfl, Nat.le_of_ble_eq_true rfl, Nat.le_of_ble_eq_true rfl⟩ rfl rfl (Nat.le_of_ble_eq_true rfl) dX5_ofHouse_5 rfl (fun r2 M1 => ?_)
  refine WO.if_ne (tg := 13) (n := 11) hA dX5_ofHouse_8 (by decide) rfl (fun _ => ?_) (fun _ => ?_)
  · refine WO.iconst (x := (-1 : Int32)) (n := 12) hA dX5_ofHouse_11 (by decide) rfl ?_
    exact WO.iret hA dX5_ofHouse_12
  · refine WO.iload_n (n := 14) hA dX5_ofHouse_13 2 rfl rfl ?_
    refine WO.ite (fun hs3 => ?_) (fun hs3 => ?_)
    · refine WO.tin (n := 48) hA (0 : Int32) hs3 dX5_ofHouse_14 (by decide) (by decide) rfl (by decide) ?_
      refine WO.aload_n (n := 49) hA dX5_ofHouse_48 0 rfl rfl ?_
      refine WO.getR (j := 0) (p := 1) (n := 52) hA (x_0 hw) rfl fiX5_ofHouse_X5 (by decide) rfl fkX5_ofHouse_12 dX5_ofHouse_49 rfl ?_
      refine WO.getR (j := 0) (p := 2) (n := 55) hA (st_0 hw st1) rfl fiX5_ofHouse_X3 (by decide) rfl fkX5_ofHouse_95 dX5_ofHouse_52 rfl ?_
      refine WO.iload_n (n := 56) hA dX5_ofHouse_55 1 rfl rfl ?_
      refine WO.iald (n := 57) hA (st_1 hw st1) dX5_ofHouse_56 rfl (fun _ => ?_)
      exact WO.iret hA dX5_ofHouse_57
    · refine WO.ite (fun hs4 => ?_) (fun hs4 => ?_)
      · refine WO.tin (n := 58) hA (1 : Int32) hs4 dX5_ofHouse_14 (by decide) (by decide) rfl (by decide) ?_
        refine WO.aload_n (n := 59) hA dX5_ofHouse_58 0 rfl rfl ?_
        refine WO.getR (j := 0) (p := 1) (n := 62) hA (x_0 hw) rfl fiX5_ofHouse_X5 (by decide) rfl fkX5_ofHouse_12 dX5_ofHouse_59 rfl ?_
        refine WO.getR (j := 1) (p := 3) (n := 65) hA (st_0 hw st1) rfl fiX5_ofHouse_X3 (by decide) rfl fkX5_ofHouse_98 dX5_ofHouse_62 rfl ?_
        refine WO.iload_n (n := 66) hA dX5_ofHouse_65 1 rfl rfl ?_
        refine WO.iald (n := 67) hA (st_2 hw st1) dX5_ofHouse_66 rfl (fun _ => ?_)
        exact WO.iret hA dX5_ofHouse_67
      · refine WO.ite (fun hs5 => ?_) (fun hs5 => ?_)
        · refine WO.tin (n := 68) hA (2 : Int32) hs5 dX5_ofHouse_14 (by decide) (by decide) rfl (by decide) ?_
          refine WO.aload_n (n := 69) hA dX5_ofHouse_68 0 rfl rfl ?_
          refine WO.getR (j := 0) (p := 1) (n := 72) hA (x_0 hw) rfl fiX5_ofHouse_X5 (by decide) rfl fkX5_ofHouse_12 dX5_ofHouse_69 rfl ?_
          refine WO.iload_n (n := 73) hA dX5_ofHouse_72 1 rfl rfl ?_
          refine WO.callVi (As := [.int x1]) (rest := []) (n := 76) hA (c_X3_needs v.2.1 w hw 1 x1 st1 M1) gX5_ofHouse_X3_needs rfl (st_0 hw st1) rfl mdX3_needs ⟨rfl, rfl, Nat.le_of_ble_eq_true rfl, Nat.le_of_ble_eq_true rfl⟩ rfl rfl (Nat.le_of_ble_eq_true rfl) dX5_ofHouse_73 rfl (fun r7 M6 => ?_)
          exact WO.iret hA dX5_ofHouse_76
        · refine WO.ite (fun hs8 => ?_) (fun hs8 => ?_)
          · refine WO.tin (n := 77) hA (3 : Int32) hs8 dX5_ofHouse_14 (by decide) (by decide) rfl (by decide) ?_
            refine WO.aload_n (n := 78) hA dX5_ofHouse_77 0 rfl rfl ?_
            refine WO.getR (j := 0) (p := 1) (n := 81) hA (x_0 hw) rfl fiX5_ofHouse_X5 (by decide) rfl fkX5_ofHouse_12 dX5_ofHouse_78 rfl ?_
            refine WO.iload_n (n := 82) hA dX5_ofHouse_81 1 rfl rfl ?_
            refine WO.callVi (As := [.int x1]) (rest := []) (n := 85) hA (c_X3_clocksIn v.2.1 w hw 1 x1 st1 M1) gX5_ofHouse_X3_clocksIn rfl (st_0 hw st1) rfl mdX3_clocksIn ⟨rfl, rfl, Nat.le_of_ble_eq_true rfl, Nat.le_of_ble_eq_true rfl⟩ rfl rfl (Nat.le_of_ble_eq_true rfl) dX5_ofHouse_82 rfl (fun r10 M9 => ?_)
            exact WO.iret hA dX5_ofHouse_85
          · refine WO.ite (fun hs11 => ?_) (fun hs11 => ?_)
            · refine WO.tin (n := 86) hA (4 : Int32) hs11 dX5_ofHouse_14 (by decide) (by decide) rfl (by decide) ?_
              refine WO.aload_n (n := 87) hA dX5_ofHouse_86 0 rfl rfl ?_
              refine WO.getR (j := 0) (p := 1) (n := 90) hA (x_0 hw) rfl fiX5_ofHouse_X5 (by decide) rfl fkX5_ofHouse_12 dX5_ofHouse_87 rfl ?_
              refine WO.iload_n (n := 91) hA dX5_ofHouse_90 1 rfl rfl ?_
              refine WO.callVi (As := [.int x1]) (rest := []) (n := 94) hA (c_X3_clocksWaking v.2.1 w hw 1 x1 st1 M1) gX5_ofHouse_X3_clocksWaking rfl (st_0 hw st1) rfl mdX3_clocksWaking ⟨rfl, rfl, Nat.le_of_ble_eq_true rfl, Nat.le_of_ble_eq_true rfl⟩ rfl rfl (Nat.le_of_ble_eq_true rfl) dX5_ofHouse_91 rfl (fun r13 M12 => ?_)
              exact WO.iret hA dX5_ofHouse_94
            · refine WO.tout (n := 95) hA dX5_ofHouse_14 (by have ehs3 := lv_neT (a := 0) hs3 (by decide); have ehs4 := lv_neT (a := 1) hs4 (by decide); have ehs5 := lv_neT (a := 2) hs5 (by decide); have ehs8 := lv_neT (a := 3) hs8 (by decide); have ehs11 := lv_neT (a := 4) hs11 (by decide); omega) (by decide) ?_
              refine WO.bipush (x := (-2 : Int32)) (n := 97) hA dX5_ofHouse_95 (by decide) rfl ?_
              exact WO.iret hA dX5_ofHouse_97
