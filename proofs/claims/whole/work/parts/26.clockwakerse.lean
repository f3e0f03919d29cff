/- X5_odds -/
abbrev rmX5_odds : Room := { frames := 3, cells := 0, slots := 0, locals := 67 }
theorem mdX5_odds : yX5_odds.cls = RX5 ∧ yX5_odds.cls ≠ "java/lang/invoke/MethodHandle" ∧ yX5_odds.cls ≠ "java/lang/invoke/VarHandle" ∧ (parseMethodDescriptor yX5_odds.desc).map (fun d => d.parameters.length) = some 2 := by decide +kernel
theorem fkX5_odds_12 : Cond.fieldLink RX5 12 (TX5 0).1 (TX5 0).2.1 (TX5 0).2.2.1 ∈ wsX5_odds := by decide +kernel
theorem fiX5_odds_X5 : ∀ q ∈ u_ws RX5 TX5 10, q ∈ wsX5_odds := by decide +kernel
theorem kkX5_odds_140 : Jvm.Cond.constantLong RX5 140 (-9223372036854775808 : Int64) ∈ wsX5_odds := by decide +kernel
theorem fkX5_odds_89 : Cond.fieldLink RX5 89 (TX3 6).1 (TX3 6).2.1 (TX3 6).2.2.1 ∈ wsX5_odds := by decide +kernel
theorem fiX5_odds_X3 : ∀ q ∈ u_ws RX3 TX3 10, q ∈ wsX5_odds := by decide +kernel
theorem fkX5_odds_184 : Cond.fieldLink RX5 184 (TX3 5).1 (TX3 5).2.1 (TX3 5).2.2.1 ∈ wsX5_odds := by decide +kernel
noncomputable def f_X5_odds_L44 (x1 : Int32) (x2 : Int32) (x4 : Int32) (kx : Int32 → Mem → Option (Int64 × Mem)) : Nat → Int32 → Int32 → Mem → Option (Int64 × Mem)
  | 0, _, _, _ => none
  | n + 1, x3, x5, M => if (M 1 5) ≤ x5 then (kx x3 M) else (bd (f_X3_sound 1 x4 M) (fun r4 M3 => bd (f_X3_wakes 1 x1 r4 x5 M3) (fun r6 M5 => if r6 = 0 then (f_X5_odds_L44 x1 x2 x4 kx n x3 (x5 + (1 : Int32)) M5) else (f_X5_odds_L44 x1 x2 x4 kx n (x3 + (1 : Int32)) (x5 + (1 : Int32)) M5))))
noncomputable def f_X5_odds_L29 (x1 : Int32) (x2 : Int32) (kx : Int32 → Mem → Option (Int64 × Mem)) : Nat → Int32 → Int32 → Mem → Option (Int64 × Mem)
  | 0, _, _, _ => none
  | n + 1, x3, x4, M => if (M 1 6) ≤ x4 then (kx x3 M) else (f_X5_odds_L44 x1 x2 x4 (fun e7 M8 => f_X5_odds_L29 x1 x2 kx n e7 (x4 + (1 : Int32)) M8) FU x3 (0 : Int32) M)
noncomputable def f_X5_odds (x1 : Int32) (x2 : Int32) (M : Mem) : Option (Int64 × Mem) := bd (f_X3_hasHouse 1 x1 M) (fun r2 M1 => if r2 = 0 then (some ((-9223372036854775808 : Int64), M1)) else (if x2 < 0 then (some ((-9223372036854775808 : Int64), M1)) else (if x2 ≤ (1 : Int32) then (f_X5_odds_L29 x1 x2 (fun e9 M10 => ilt ((M10 1 6) * (M10 1 5)) (fun x_11 => bd (f_X5_commonDivisor e9 x_11 M10) (fun r13 M12 => if x2 = 0 then (dvc r13 (some ((((e9 / r13)).toInt64), M12))) else (dvc r13 (some ((((x_11 / r13)).toInt64), M12)))))) FU (0 : Int32) (0 : Int32) M1) else (some ((-9223372036854775808 : Int64), M1)))))
set_option maxHeartbeats 4000000 in
set_option maxRecDepth 100000 in
theorem w_X5_odds_L44 {v : Av} {w : Cw} (hw : w.2.2.2.2.2 = shX) (hA : Act v w RX5 wsX5_odds cX5_odds 6 (some .long)) (x1 : Int32) (x2 : Int32) (x4 : Int32) (kx : Int32 → Mem → Option (Int64 × Mem)) (hk : ∀ (y3 : Int32) (M : Mem), WO v w rmX5_odds 6 eL (kx y3 M) 87 [(0, .ref (w.2.1 0)), (1, .int x1), (2, .int x2), (3, .int y3), (4, .int x4)] [] M) : ∀ (n : Nat) (x3 : Int32) (x5 : Int32) (M : Mem), WO v w rmX5_odds 6 eL (f_X5_odds_L44 x1 x2 x4 kx n x3 x5 M) 44 [(0, .ref (w.2.1 0)), (1, .int x1), (2, .int x2), (3, .int x3), (4, .int x4), (5, .int x5)] [] M := by
  intro n
  induction n with
  | zero => intro x3 x5 M; exact WO.nothing
  | succ n ih =>
    intro x3 x5 M
    rw [f_X5_odds_L44]
    refine WO.iload (n := 46) hA dX5_odds_44 5 rfl rfl ?_
    refine WO.aload_n (n := 47) hA dX5_odds_46 0 rfl rfl ?_
    refine WO.getR (j := 0) (p := 1) (n := 50) hA (x_0 hw) rfl fiX5_odds_X5 (by decide) rfl fkX5_odds_12 dX5_odds_47 rfl ?_
    refine WO.getI (j := 5) (n := 53) hA (st_0 hw st1) rfl fiX5_odds_X3 (by decide) rfl fkX5_odds_184 dX5_odds_50 rfl ?_
    refine WO.icmp_ge (tg := 87) (n := 56) hA dX5_odds_53 (by decide) rfl (fun _ => ?_) (fun _ => ?_)
    · refine WO.sub (lv' := [(0, .ref (w.2.1 0)), (1, .int x1), (2, .int x2), (3, .int x3), (4, .int x4)]) [0, 1, 2, 3, 4] rfl ?_
      exact hk x3 M
    · refine WO.aload_n (n := 57) hA dX5_odds_56 0 rfl rfl ?_
      refine WO.getR (j := 0) (p := 1) (n := 60) hA (x_0 hw) rfl fiX5_odds_X5 (by decide) rfl fkX5_odds_12 dX5_odds_57 rfl ?_
      refine WO.iload_n (n := 61) hA dX5_odds_60 1 rfl rfl ?_
      refine WO.aload_n (n := 62) hA dX5_odds_61 0 rfl rfl ?_
      refine WO.getR (j := 0) (p := 1) (n := 65) hA (x_0 hw) rfl fiX5_odds_X5 (by decide) rfl fkX5_odds_12 dX5_odds_62 rfl ?_
      refine WO.iload (n := 67) hA dX5_odds_65 4 rfl rfl ?_
      refine WO.callVi (As := [.int x4]) (rest := [.int x1, .ref (w.2.1 1)]) (n := 70) hA (c_X3_sound v.2.1 w hw 1 x4 st1 M) gX5_odds_X3_sound rfl (st_0 hw st1) rfl mdX3_sound ⟨rfl, rfl, Nat.le_of_ble_eq_true rfl, Nat.le_of_ble_eq_true rfl⟩ rfl rfl (Nat.le_of_ble_eq_true rfl) dX5_odds_67 rfl (fun r4 M3 => ?_)
      refine WO.iload (n := 72) hA dX5_odds_70 5 rfl rfl ?_
      refine WO.callVi (As := [.int x1, .int r4, .int x5]) (rest := []) (n := 75) hA (c_X3_wakes v.2.1 w hw 1 x1 r4 x5 st1 M3) gX5_odds_X3_wakes rfl (st_0 hw st1) rfl mdX3_wakes ⟨rfl, rfl, Nat.le_of_ble_eq_true rfl, Nat.le_of_ble_eq_true rfl⟩ rfl rfl (Nat.le_of_ble_eq_true rfl) dX5_odds_72 rfl (fun r6 M5 => ?_)
      refine WO.if_eq (tg := 81) (n := 78) hA dX5_odds_75 (by decide) rfl (fun _ => ?_) (fun _ => ?_)
      · refine WO.iinc (y := (1 : Int32)) (lv' := [(5, .int (x5 + (1 : Int32))), (0, .ref (w.2.1 0)), (1, .int x1), (2, .int x2), (3, .int x3), (4, .int x4)]) (n := 84) hA dX5_odds_81 5 rfl (by decide) (by decide) rfl rfl ?_
        refine WO.goto (n := 44) hA dX5_odds_84 (by decide) ?_
        refine WO.sub (lv' := [(0, .ref (w.2.1 0)), (1, .int x1), (2, .int x2), (3, .int x3), (4, .int x4), (5, .int (x5 + (1 : Int32)))]) [1, 2, 3, 4, 5, 0] rfl ?_
        exact ih x3 (x5 + (1 : Int32)) M5
      · refine WO.iinc (y := (1 : Int32)) (lv' := [(3, .int (x3 + (1 : Int32))), (0, .ref (w.2.1 0)), (1, .int x1), (2, .int x2), (4, .int x4), (5, .int x5)]) (n := 81) hA dX5_odds_78 3 rfl (by decide) (by decide) rfl rfl ?_
        refine WO.iinc (y := (1 : Int32)) (lv' := [(5, .int (x5 + (1 : Int32))), (3, .int (x3 + (1 : Int32))), (0, .ref (w.2.1 0)), (1, .int x1), (2, .int x2), (4, .int x4)]) (n := 84) hA dX5_odds_81 5 rfl (by decide) (by decide) rfl rfl ?_
        refine WO.goto (n := 44) hA dX5_odds_84 (by decide) ?_
        refine WO.sub (lv' := [(0, .ref (w.2.1 0)), (1, .int x1), (2, .int x2), (3, .int (x3 + (1 : Int32))), (4, .int x4), (5, .int (x5 + (1 : Int32)))]) [2, 3, 4, 1, 5, 0] rfl ?_
        exact ih (x3 + (1 : Int32)) (x5 + (1 : Int32)) M5
set_option maxHeartbeats 4000000 in
set_option maxRecDepth 100000 in
theorem w_X5_odds_L29 {v : Av} {w : Cw} (hw : w.2.2.2.2.2 = shX) (hA : Act v w RX5 wsX5_odds cX5_odds 6 (some .long)) (x1 : Int32) (x2 : Int32) (kx : Int32 → Mem → Option (Int64 × Mem)) (hk : ∀ (y3 : Int32) (M : Mem), WO v w rmX5_odds 6 eL (kx y3 M) 93 [(0, .ref (w.2.1 0)), (2, .int x2), (3, .int y3)] [] M) : ∀ (n : Nat) (x3 : Int32) (x4 : Int32) (M : Mem), WO v w rmX5_odds 6 eL (f_X5_odds_L29 x1 x2 kx n x3 x4 M) 29 [(0, .ref (w.2.1 0)), (1, .int x1), (2, .int x2), (3, .int x3), (4, .int x4)] [] M := by
  intro n
  induction n with
  | zero => intro x3 x4 M; exact WO.nothing
  | succ n ih =>
    intro x3 x4 M
    rw [f_X5_odds_L29]
    refine WO.iload (n := 31) hA dX5_odds_29 4 rfl rfl ?_
    refine WO.aload_n (n := 32) hA dX5_odds_31 0 rfl rfl ?_
    refine WO.getR (j := 0) (p := 1) (n := 35) hA (x_0 hw) rfl fiX5_odds_X5 (by decide) rfl fkX5_odds_12 dX5_odds_32 rfl ?_
    refine WO.getI (j := 6) (n := 38) hA (st_0 hw st1) rfl fiX5_odds_X3 (by decide) rfl fkX5_odds_89 dX5_odds_35 rfl ?_
    refine WO.icmp_ge (tg := 93) (n := 41) hA dX5_odds_38 (by decide) rfl (fun _ => ?_) (fun _ => ?_)
    · refine WO.sub (lv' := [(0, .ref (w.2.1 0)), (2, .int x2), (3, .int x3)]) [0, 2, 3] rfl ?_
      exact hk x3 M
    · refine WO.iconst (x := (0 : Int32)) (n := 42) hA dX5_odds_41 (by decide) rfl ?_
      refine WO.istore (lv' := [(5, .int (0 : Int32)), (0, .ref (w.2.1 0)), (1, .int x1), (2, .int x2), (3, .int x3), (4, .int x4)]) (n := 44) hA dX5_odds_42 (by decide) rfl rfl ?_
      refine WO.sub (lv' := [(0, .ref (w.2.1 0)), (1, .int x1), (2, .int x2), (3, .int x3), (4, .int x4), (5, .int (0 : Int32))]) [1, 2, 3, 4, 5, 0] rfl ?_
      refine w_X5_odds_L44 hw hA x1 x2 x4 _ (fun e7 M8 => ?_) _ _ _ _
      refine WO.iinc (y := (1 : Int32)) (lv' := [(4, .int (x4 + (1 : Int32))), (0, .ref (w.2.1 0)), (1, .int x1), (2, .int x2), (3, .int e7)]) (n := 90) hA dX5_odds_87 4 rfl (by decide) (by decide) rfl rfl ?_
      refine WO.goto (n := 29) hA dX5_odds_90 (by decide) ?_
      refine WO.sub (lv' := [(0, .ref (w.2.1 0)), (1, .int x1), (2, .int x2), (3, .int e7), (4, .int (x4 + (1 : Int32)))]) [1, 2, 3, 4, 0] rfl ?_
      exact ih e7 (x4 + (1 : Int32)) M8
set_option maxHeartbeats 4000000 in
set_option maxRecDepth 100000 in
theorem c_X5_odds (l : Launch) (w : Cw) (hw : w.2.2.2.2.2 = shX) (x1 : Int32) (x2 : Int32) (M : Mem) : Ok l w eL yX5_odds wsX5_odds rmX5_odds [.ref (w.2.1 0), .int x1, .int x2] M (f_X5_odds x1 x2 M) := by
  refine Ok.of (cc := cX5_odds) (nL := 6) (ret := (some .long)) (lv := [(0, .ref (w.2.1 0)), (1, .int x1), (2, .int x2)]) (by decide) rfl (Nat.le_of_ble_eq_true rfl) rfl (fun v hv hA => ?_)
  subst hv
  have hA : Act v w RX5 wsX5_odds cX5_odds 6 (some .long) := hA
  unfold f_X5_odds
  refine WO.aload_n (n := 1) hA dX5_odds_0 0 rfl rfl ?_
  refine WO.getR (j := 0) (p := 1) (n := 4) hA (x_0 hw) rfl fiX5_odds_X5 (by decide) rfl fkX5_odds_12 dX5_odds_1 rfl ?_
  refine WO.iload_n (n := 5) hA dX5_odds_4 1 rfl rfl ?_
  refine WO.callVi (As := [.int x1]) (rest := []) (n := 8) hA (c_X3_hasHouse v.2.1 w hw 1 x1 st1 M) gX5_odds_X3_hasHouse rfl (st_0 hw st1) rfl mdX3_hasHouse ⟨rfl, rfl, Nat.le_of_ble_eq_true rfl, Nat.le_of_ble_eq_true rfl⟩ rfl rfl (Nat.le_of_ble_eq_true rfl) dX5_odds_5 rfl (fun r2 M1 => ?_)
  refine WO.if_eq (tg := 20) (n := 11) hA dX5_odds_8 (by decide) rfl (fun _ => ?_) (fun _ => ?_)
  · refine WO.ldc2 (n := 23) hA kkX5_odds_140 dX5_odds_20 rfl ?_
    exact WO.lret hA dX5_odds_23
  · refine WO.iload_n (n := 12) hA dX5_odds_11 2 rfl rfl ?_
    refine WO.if_lt (tg := 20) (n := 15) hA dX5_odds_12 (by decide) rfl (fun _ => ?_) (fun _ => ?_)
    · refine WO.ldc2 (n := 23) hA kkX5_odds_140 dX5_odds_20 rfl ?_
      exact WO.lret hA dX5_odds_23
    · refine WO.iload_n (n := 16) hA dX5_odds_15 2 rfl rfl ?_
      refine WO.iconst (x := (1 : Int32)) (n := 17) hA dX5_odds_16 (by decide) rfl ?_
      refine WO.icmp_le (tg := 24) (n := 20) hA dX5_odds_17 (by decide) rfl (fun _ => ?_) (fun _ => ?_)
      · refine WO.iconst (x := (0 : Int32)) (n := 25) hA dX5_odds_24 (by decide) rfl ?_
        refine WO.istore_n (i := 3) (lv' := [(3, .int (0 : Int32)), (0, .ref (w.2.1 0)), (1, .int x1), (2, .int x2)]) (n := 26) hA dX5_odds_25 rfl (by decide) rfl rfl ?_
        refine WO.iconst (x := (0 : Int32)) (n := 27) hA dX5_odds_26 (by decide) rfl ?_
        refine WO.istore (lv' := [(4, .int (0 : Int32)), (3, .int (0 : Int32)), (0, .ref (w.2.1 0)), (1, .int x1), (2, .int x2)]) (n := 29) hA dX5_odds_27 (by decide) rfl rfl ?_
        refine WO.sub (lv' := [(0, .ref (w.2.1 0)), (1, .int x1), (2, .int x2), (3, .int (0 : Int32)), (4, .int (0 : Int32))]) [2, 3, 4, 1, 0] rfl ?_
        refine w_X5_odds_L29 hw hA x1 x2 _ (fun e9 M10 => ?_) _ _ _ _
        refine WO.aload_n (n := 94) hA dX5_odds_93 0 rfl rfl ?_
        refine WO.getR (j := 0) (p := 1) (n := 97) hA (x_0 hw) rfl fiX5_odds_X5 (by decide) rfl fkX5_odds_12 dX5_odds_94 rfl ?_
        refine WO.getI (j := 6) (n := 100) hA (st_0 hw st1) rfl fiX5_odds_X3 (by decide) rfl fkX5_odds_89 dX5_odds_97 rfl ?_
        refine WO.aload_n (n := 101) hA dX5_odds_100 0 rfl rfl ?_
        refine WO.getR (j := 0) (p := 1) (n := 104) hA (x_0 hw) rfl fiX5_odds_X5 (by decide) rfl fkX5_odds_12 dX5_odds_101 rfl ?_
        refine WO.getI (j := 5) (n := 107) hA (st_0 hw st1) rfl fiX5_odds_X3 (by decide) rfl fkX5_odds_184 dX5_odds_104 rfl ?_
        refine WO.imul (n := 108) hA dX5_odds_107 rfl ?_
        refine WO.top (fun x_11 => ?_)
        refine WO.istore (lv' := [(4, .int x_11), (0, .ref (w.2.1 0)), (2, .int x2), (3, .int e9)]) (n := 110) hA dX5_odds_108 (by decide) rfl rfl ?_
        refine WO.iload_n (n := 111) hA dX5_odds_110 3 rfl rfl ?_
        refine WO.iload (n := 113) hA dX5_odds_111 0 rfl rfl ?_
        refine WO.callSi (As := [.int e9, .int x_11]) (rest := []) (n := 116) hA (c_X5_commonDivisor v.2.1 w hw e9 x_11 M10) gX5_odds_X5_commonDivisor rfl mdX5_commonDivisor ⟨rfl, rfl, Nat.le_of_ble_eq_true rfl, Nat.le_of_ble_eq_true rfl⟩ rfl rfl (Nat.le_of_ble_eq_true rfl) dX5_odds_113 rfl (fun r13 M12 => ?_)
        refine WO.istore (lv' := [(5, .int r13), (4, .int x_11), (0, .ref (w.2.1 0)), (2, .int x2), (3, .int e9)]) (n := 118) hA dX5_odds_116 (by decide) rfl rfl ?_
        refine WO.iload_n (n := 119) hA dX5_odds_118 3 rfl rfl ?_
        refine WO.if_ne (tg := 130) (n := 122) hA dX5_odds_119 (by decide) rfl (fun _ => ?_) (fun _ => ?_)
        · refine WO.iload_n (n := 123) hA dX5_odds_122 4 rfl rfl ?_
          refine WO.iload (n := 125) hA dX5_odds_123 0 rfl rfl ?_
          refine WO.idiv (n := 126) hA dX5_odds_125 rfl ?_
          refine WO.i2l (n := 127) hA dX5_odds_126 rfl ?_
          refine WO.goto (n := 136) hA dX5_odds_127 (by decide) ?_
          exact WO.lret hA dX5_odds_136
        · refine WO.iload (n := 132) hA dX5_odds_130 1 rfl rfl ?_
          refine WO.iload (n := 134) hA dX5_odds_132 0 rfl rfl ?_
          refine WO.idiv (n := 135) hA dX5_odds_134 rfl ?_
          refine WO.i2l (n := 136) hA dX5_odds_135 rfl ?_
          exact WO.lret hA dX5_odds_136
      · refine WO.ldc2 (n := 23) hA kkX5_odds_140 dX5_odds_20 rfl ?_
        exact WO.lret hA dX5_odds_23
/- X5_sheet -/
abbrev rmX5_sheet : Room := { frames := 2, cells := 0, slots := 0, locals := 45 }
theorem mdX5_sheet : yX5_sheet.cls = RX5 ∧ yX5_sheet.cls ≠ "java/lang/invoke/MethodHandle" ∧ yX5_sheet.cls ≠ "java/lang/invoke/VarHandle" ∧ (parseMethodDescriptor yX5_sheet.desc).map (fun d => d.parameters.length) = some 3 := by decide +kernel
theorem fkX5_sheet_53 : Cond.fieldLink RX5 53 (TX5 9).1 (TX5 9).2.1 (TX5 9).2.2.1 ∈ wsX5_sheet := by decide +kernel
theorem fiX5_sheet_X5 : ∀ q ∈ u_ws RX5 TX5 10, q ∈ wsX5_sheet := by decide +kernel
theorem fkX5_sheet_45 : Cond.fieldLink RX5 45 (TX5 5).1 (TX5 5).2.1 (TX5 5).2.2.1 ∈ wsX5_sheet := by decide +kernel
noncomputable def f_X5_sheet (x1 : Int32) (x2 : Int32) (x3 : Int32) (M : Mem) : Option (Int32 × Mem) := mlt (mu M 0 9 (0 : Int32)) (fun M1 => bd (f_X5_isSheet x1 M1) (fun r3 M2 => if r3 = 0 then (some ((-1 : Int32), M2)) else (bd (f_X5_isLane x2 M2) (fun r5 M4 => if r5 = 0 then (some ((-2 : Int32), M4)) else (if x3 ≤ (60 : Int32) then (if 0 ≤ x3 then (grd x1 4 (bd (f_X2_renew (gSh x1.toNatClampNeg) x2 x3 M4) (fun _ M7 => some ((1 : Int32), M7)))) else (bd (f_X5_faulty (4 : Int32) M4) (fun r9 M8 => some (r9, M8)))) else (some ((-2 : Int32), M4)))))))
set_option maxHeartbeats 4000000 in
set_option maxRecDepth 100000 in
theorem c_X5_sheet (l : Launch) (w : Cw) (hw : w.2.2.2.2.2 = shX) (x1 : Int32) (x2 : Int32) (x3 : Int32) (M : Mem) : Ok l w eI yX5_sheet wsX5_sheet rmX5_sheet [.ref (w.2.1 0), .int x1, .int x2, .int x3] M (f_X5_sheet x1 x2 x3 M) := by
  refine Ok.of (cc := cX5_sheet) (nL := 4) (ret := (some .int)) (lv := [(0, .ref (w.2.1 0)), (1, .int x1), (2, .int x2), (3, .int x3)]) (by decide) rfl (Nat.le_of_ble_eq_true rfl) rfl (fun v hv hA => ?_)
  subst hv
  have hA : Act v w RX5 wsX5_sheet cX5_sheet 4 (some .int) := hA
  unfold f_X5_sheet
  refine WO.aload_n (n := 1) hA dX5_sheet_0 0 rfl rfl ?_
  refine WO.iconst (x := (0 : Int32)) (n := 2) hA dX5_sheet_1 (by decide) rfl ?_
  refine WO.putI (j := 9) (n := 5) hA (x_0 hw) rfl fiX5_sheet_X5 tyX5 tyX5_ok nmX5 (by decide) rfl fkX5_sheet_53 rfl rfl rfl rfl dX5_sheet_2 rfl ?_
  refine WO.mem (fun M1 => ?_)
  refine WO.iload_n (n := 6) hA dX5_sheet_5 1 rfl rfl ?_
  refine WO.callSi (As := [.int x1]) (rest := []) (n := 9) hA (c_X5_isSheet v.2.1 w hw x1 M1) gX5_sheet_X5_isSheet rfl mdX5_isSheet ⟨rfl, rfl, Nat.le_of_ble_eq_true rfl, Nat.le_of_ble_eq_true rfl⟩ rfl rfl (Nat.le_of_ble_eq_true rfl) dX5_sheet_6 rfl (fun r3 M2 => ?_)
  refine WO.if_ne (tg := 14) (n := 12) hA dX5_sheet_9 (by decide) rfl (fun _ => ?_) (fun _ => ?_)
  · refine WO.iconst (x := (-1 : Int32)) (n := 13) hA dX5_sheet_12 (by decide) rfl ?_
    exact WO.iret hA dX5_sheet_13
  · refine WO.iload_n (n := 15) hA dX5_sheet_14 2 rfl rfl ?_
    refine WO.callSi (As := [.int x2]) (rest := []) (n := 18) hA (c_X5_isLane v.2.1 w hw x2 M2) gX5_sheet_X5_isLane rfl mdX5_isLane ⟨rfl, rfl, Nat.le_of_ble_eq_true rfl, Nat.le_of_ble_eq_true rfl⟩ rfl rfl (Nat.le_of_ble_eq_true rfl) dX5_sheet_15 rfl (fun r5 M4 => ?_)
    refine WO.if_eq (tg := 27) (n := 21) hA dX5_sheet_18 (by decide) rfl (fun _ => ?_) (fun _ => ?_)
    · refine WO.bipush (x := (-2 : Int32)) (n := 29) hA dX5_sheet_27 (by decide) rfl ?_
      exact WO.iret hA dX5_sheet_29
    · refine WO.iload_n (n := 22) hA dX5_sheet_21 3 rfl rfl ?_
      refine WO.bipush (x := (60 : Int32)) (n := 24) hA dX5_sheet_22 (by decide) rfl ?_
      refine WO.icmp_le (tg := 30) (n := 27) hA dX5_sheet_24 (by decide) rfl (fun _ => ?_) (fun _ => ?_)
      · refine WO.iload_n (n := 31) hA dX5_sheet_30 3 rfl rfl ?_
        refine WO.if_ge (tg := 40) (n := 34) hA dX5_sheet_31 (by decide) rfl (fun _ => ?_) (fun _ => ?_)
        · refine WO.aload_n (n := 41) hA dX5_sheet_40 0 rfl rfl ?_
          refine WO.getR (j := 5) (p := 28) (n := 44) hA (x_0 hw) rfl fiX5_sheet_X5 (by decide) rfl fkX5_sheet_45 dX5_sheet_41 rfl ?_
          refine WO.iload_n (n := 45) hA dX5_sheet_44 1 rfl rfl ?_
          refine WO.aald (n := 46) hA (x_28 hw) rfl rfl dX5_sheet_45 rfl (fun hi6 => ?_)
          refine WO.iload_n (n := 47) hA dX5_sheet_46 2 rfl rfl ?_
          refine WO.iload_n (n := 48) hA dX5_sheet_47 3 rfl rfl ?_
          refine WO.callVv (As := [.int x2, .int x3]) (rest := []) (n := 51) hA (c_X2_renew v.2.1 w hw (gSh x1.toNatClampNeg) x2 x3 (she_of hi6.2) M4) gX5_sheet_X2_renew rfl (she_0 hw (she_of hi6.2)) rfl mdX2_renew ⟨rfl, rfl, Nat.le_of_ble_eq_true rfl, Nat.le_of_ble_eq_true rfl⟩ rfl rfl (Nat.le_of_ble_eq_true rfl) dX5_sheet_48 rfl (fun M7 => ?_)
          refine WO.iconst (x := (1 : Int32)) (n := 52) hA dX5_sheet_51 (by decide) rfl ?_
          exact WO.iret hA dX5_sheet_52
        · refine WO.aload_n (n := 35) hA dX5_sheet_34 0 rfl rfl ?_
          refine WO.iconst (x := (4 : Int32)) (n := 36) hA dX5_sheet_35 (by decide) rfl ?_
          refine WO.callVi (As := [.int (4 : Int32)]) (rest := []) (n := 39) hA (c_X5_faulty v.2.1 w hw (4 : Int32) M4) gX5_sheet_X5_faulty rfl (x_0 hw) rfl mdX5_faulty ⟨rfl, rfl, Nat.le_of_ble_eq_true rfl, Nat.le_of_ble_eq_true rfl⟩ rfl rfl (Nat.le_of_ble_eq_true rfl) dX5_sheet_36 rfl (fun r9 M8 => ?_)
          exact WO.iret hA dX5_sheet_39
      · refine WO.bipush (x := (-2 : Int32)) (n := 29) hA dX5_sheet_27 (by decide) rfl ?_
        exact WO.iret hA dX5_sheet_29
/- X5_lose -/
abbrev rmX5_lose : Room := { frames := 1, cells := 0, slots := 0, locals := 20 }
theorem mdX5_lose : yX5_lose.cls = RX5 ∧ yX5_lose.cls ≠ "java/lang/invoke/MethodHandle" ∧ yX5_lose.cls ≠ "java/lang/invoke/VarHandle" ∧ (parseMethodDescriptor yX5_lose.desc).map (fun d => d.parameters.length) = some 1 := by decide +kernel
theorem fkX5_lose_45 : Cond.fieldLink RX5 45 (TX5 5).1 (TX5 5).2.1 (TX5 5).2.2.1 ∈ wsX5_lose := by decide +kernel
theorem fiX5_lose_X5 : ∀ q ∈ u_ws RX5 TX5 10, q ∈ wsX5_lose := by decide +kernel
theorem fkX5_lose_220 : Cond.fieldLink RX5 220 (TX2 1).1 (TX2 1).2.1 (TX2 1).2.2.1 ∈ wsX5_lose := by decide +kernel
theorem fiX5_lose_X2 : ∀ q ∈ u_ws RX2 TX2 4, q ∈ wsX5_lose := by decide +kernel
noncomputable def f_X5_lose (x1 : Int32) (M : Mem) : Option (Int32 × Mem) := bd (f_X5_isSheet x1 M) (fun r2 M1 => if r2 = 0 then (some ((-1 : Int32), M1)) else (grd x1 4 (if (M1 (gSh x1.toNatClampNeg) 1) = 0 then (grd x1 4 (mlt (mu M1 (gSh x1.toNatClampNeg) 1 (0 : Int32)) (fun M5 => some ((0 : Int32), M5)))) else (grd x1 4 (mlt (mu M1 (gSh x1.toNatClampNeg) 1 (0 : Int32)) (fun M7 => some ((1 : Int32), M7)))))))
set_option maxHeartbeats 4000000 in
set_option maxRecDepth 100000 in
theorem c_X5_lose (l : Launch) (w : Cw) (hw : w.2.2.2.2.2 = shX) (x1 : Int32) (M : Mem) : Ok l w eI yX5_lose wsX5_lose rmX5_lose [.ref (w.2.1 0), .int x1] M (f_X5_lose x1 M) := by
  refine Ok.of (cc := cX5_lose) (nL := 3) (ret := (some .int)) (lv := [(0, .ref (w.2.1 0)), (1, .int x1)]) (by decide) rfl (Nat.le_of_ble_eq_true rfl) rfl (fun v hv hA => ?_)
  subst hv
  have hA : Act v w RX5 wsX5_lose cX5_lose 3 (some .int) := hA
  unfold f_X5_lose
  refine WO.iload_n (n := 1) hA dX5_lose_0 1 rfl rfl ?_
  refine WO.callSi (As := [.int x1]) (rest := []) (n := 4) hA (c_X5_isSheet v.2.1 w hw x1 M) gX5_lose_X5_isSheet rfl mdX5_isSheet ⟨rfl, rfl, Nat.le_of_ble_eq_true rfl, Nat.le_of_ble_eq_true rfl⟩ rfl rfl (Nat.le_of_ble_eq_true rfl) dX5_lose_1 rfl (fun r2 M1 => ?_)
  refine WO.if_ne (tg := 9) (n := 7) hA dX5_lose_4 (by decide) rfl (fun _ => ?_) (fun _ => ?_)
  · refine WO.iconst (x := (-1 : Int32)) (n := 8) hA dX5_lose_7 (by decide) rfl ?_
    exact WO.iret hA dX5_lose_8
  · refine WO.aload_n (n := 10) hA dX5_lose_9 0 rfl rfl ?_
    refine WO.getR (j := 5) (p := 28) (n := 13) hA (x_0 hw) rfl fiX5_lose_X5 (by decide) rfl fkX5_lose_45 dX5_lose_10 rfl ?_
    refine WO.iload_n (n := 14) hA dX5_lose_13 1 rfl rfl ?_
    refine WO.aald (n := 15) hA (x_28 hw) rfl rfl dX5_lose_14 rfl (fun hi3 => ?_)
    refine WO.getI (j := 1) (n := 18) hA (she_0 hw (she_of hi3.2)) rfl fiX5_lose_X2 (by decide) rfl fkX5_lose_220 dX5_lose_15 rfl ?_
    refine WO.if_eq (tg := 25) (n := 21) hA dX5_lose_18 (by decide) rfl (fun _ => ?_) (fun _ => ?_)
    · refine WO.iconst (x := (0 : Int32)) (n := 26) hA dX5_lose_25 (by decide) rfl ?_
      refine WO.istore_n (i := 2) (lv' := [(2, .int (0 : Int32)), (0, .ref (w.2.1 0)), (1, .int x1)]) (n := 27) hA dX5_lose_26 rfl (by decide) rfl rfl ?_
      refine WO.aload_n (n := 28) hA dX5_lose_27 1 rfl rfl ?_
      refine WO.getR (j := 5) (p := 28) (n := 31) hA (x_0 hw) rfl fiX5_lose_X5 (by decide) rfl fkX5_lose_45 dX5_lose_28 rfl ?_
      refine WO.iload_n (n := 32) hA dX5_lose_31 2 rfl rfl ?_
      refine WO.aald (n := 33) hA (x_28 hw) rfl rfl dX5_lose_32 rfl (fun hi4 => ?_)
      refine WO.iconst (x := (0 : Int32)) (n := 34) hA dX5_lose_33 (by decide) rfl ?_
      refine WO.putI (j := 1) (n := 37) hA (she_0 hw (she_of hi4.2)) rfl fiX5_lose_X2 tyX2 tyX2_ok nmX2 (by decide) rfl fkX5_lose_220 rfl rfl rfl rfl dX5_lose_34 rfl ?_
      refine WO.mem (fun M5 => ?_)
      refine WO.iload_n (n := 38) hA dX5_lose_37 0 rfl rfl ?_
      exact WO.iret hA dX5_lose_38
    · refine WO.iconst (x := (1 : Int32)) (n := 22) hA dX5_lose_21 (by decide) rfl ?_
      refine WO.goto (n := 26) hA dX5_lose_22 (by decide) ?_
      refine WO.istore_n (i := 2) (lv' := [(2, .int (1 : Int32)), (0, .ref (w.2.1 0)), (1, .int x1)]) (n := 27) hA dX5_lose_26 rfl (by decide) rfl rfl ?_
      refine WO.aload_n (n := 28) hA dX5_lose_27 1 rfl rfl ?_
      refine WO.getR (j := 5) (p := 28) (n := 31) hA (x_0 hw) rfl fiX5_lose_X5 (by decide) rfl fkX5_lose_45 dX5_lose_28 rfl ?_
      refine WO.iload_n (n := 32) hA dX5_lose_31 2 rfl rfl ?_
      refine WO.aald (n := 33) hA (x_28 hw) rfl rfl dX5_lose_32 rfl (fun hi6 => ?_)
      refine WO.iconst (x := (0 : Int32)) (n := 34) hA dX5_lose_33 (by decide) rfl ?_
      refine WO.putI (j := 1) (n := 37) hA (she_0 hw (she_of hi6.2)) rfl fiX5_lose_X2 tyX2 tyX2_ok nmX2 (by decide) rfl fkX5_lose_220 rfl rfl rfl rfl dX5_lose_34 rfl ?_
      refine WO.mem (fun M7 => ?_)
      refine WO.iload_n (n := 38) hA dX5_lose_37 0 rfl rfl ?_
      exact WO.iret hA dX5_lose_38
/- X5_put -/
abbrev rmX5_put : Room := { frames := 1, cells := 0, slots := 0, locals := 22 }
theorem mdX5_put : yX5_put.cls = RX5 ∧ yX5_put.cls ≠ "java/lang/invoke/MethodHandle" ∧ yX5_put.cls ≠ "java/lang/invoke/VarHandle" ∧ (parseMethodDescriptor yX5_put.desc).map (fun d => d.parameters.length) = some 3 := by decide +kernel
theorem fkX5_put_53 : Cond.fieldLink RX5 53 (TX5 9).1 (TX5 9).2.1 (TX5 9).2.2.1 ∈ wsX5_put := by decide +kernel
theorem fiX5_put_X5 : ∀ q ∈ u_ws RX5 TX5 10, q ∈ wsX5_put := by decide +kernel
theorem fkX5_put_45 : Cond.fieldLink RX5 45 (TX5 5).1 (TX5 5).2.1 (TX5 5).2.2.1 ∈ wsX5_put := by decide +kernel
theorem fkX5_put_220 : Cond.fieldLink RX5 220 (TX2 1).1 (TX2 1).2.1 (TX2 1).2.2.1 ∈ wsX5_put := by decide +kernel
theorem fiX5_put_X2 : ∀ q ∈ u_ws RX2 TX2 4, q ∈ wsX5_put := by decide +kernel
theorem fkX5_put_224 : Cond.fieldLink RX5 224 (TX2 0).1 (TX2 0).2.1 (TX2 0).2.2.1 ∈ wsX5_put := by decide +kernel
noncomputable def f_X5_put (x1 : Int32) (x2 : Int32) (x3 : Int32) (M : Mem) : Option (Int32 × Mem) := mlt (mu M 0 9 (0 : Int32)) (fun M1 => bd (f_X5_isSheet x1 M1) (fun r3 M2 => if r3 = 0 then (some ((-1 : Int32), M2)) else (grd x1 4 (if (M2 (gSh x1.toNatClampNeg) 1) = 0 then (bd (f_X5_faulty (1 : Int32) M2) (fun r6 M5 => some (r6, M5))) else (bd (f_X2_lacks (gSh x1.toNatClampNeg) x2 (1 : Int32) M2) (fun r8 M7 => if r8 = 0 then (bd (f_X2_cut (gSh x1.toNatClampNeg) x3 M7) (fun r10 M9 => grd x2 60 (mlt (mu M9 ((gSh x1.toNatClampNeg) + 1) x2.toNatClampNeg r10) (fun M11 => some ((1 : Int32), M11))))) else (bd (f_X5_faulty (3 : Int32) M7) (fun r13 M12 => some (r13, M12)))))))))
set_option maxHeartbeats 4000000 in
set_option maxRecDepth 100000 in
theorem c_X5_put (l : Launch) (w : Cw) (hw : w.2.2.2.2.2 = shX) (x1 : Int32) (x2 : Int32) (x3 : Int32) (M : Mem) : Ok l w eI yX5_put wsX5_put rmX5_put [.ref (w.2.1 0), .int x1, .int x2, .int x3] M (f_X5_put x1 x2 x3 M) := by
  refine Ok.of (cc := cX5_put) (nL := 5) (ret := (some .int)) (lv := [(0, .ref (w.2.1 0)), (1, .int x1), (2, .int x2), (3, .int x3)]) (by decide) rfl (Nat.le_of_ble_eq_true rfl) rfl (fun v hv hA => ?_)
  subst hv
  have hA : Act v w RX5 wsX5_put cX5_put 5 (some .int) := hA
  unfold f_X5_put
  refine WO.aload_n (n := 1) hA dX5_put_0 0 rfl rfl ?_
  refine WO.iconst (x := (0 : Int32)) (n := 2) hA dX5_put_1 (by decide) rfl ?_
  refine WO.putI (j := 9) (n := 5) hA (x_0 hw) rfl fiX5_put_X5 tyX5 tyX5_ok nmX5 (by decide) rfl fkX5_put_53 rfl rfl rfl rfl dX5_put_2 rfl ?_
  refine WO.mem (fun M1 => ?_)
  refine WO.iload_n (n := 6) hA dX5_put_5 1 rfl rfl ?_
  refine WO.callSi (As := [.int x1]) (rest := []) (n := 9) hA (c_X5_isSheet v.2.1 w hw x1 M1) gX5_put_X5_isSheet rfl mdX5_isSheet ⟨rfl, rfl, Nat.le_of_ble_eq_true rfl, Nat.le_of_ble_eq_true rfl⟩ rfl rfl (Nat.le_of_ble_eq_true rfl) dX5_put_6 rfl (fun r3 M2 => ?_)
  refine WO.if_ne (tg := 14) (n := 12) hA dX5_put_9 (by decide) rfl (fun _ => ?_) (fun _ => ?_)
  · refine WO.iconst (x := (-1 : Int32)) (n := 13) hA dX5_put_12 (by decide) rfl ?_
    exact WO.iret hA dX5_put_13
  · refine WO.aload_n (n := 15) hA dX5_put_14 0 rfl rfl ?_
    refine WO.getR (j := 5) (p := 28) (n := 18) hA (x_0 hw) rfl fiX5_put_X5 (by decide) rfl fkX5_put_45 dX5_put_15 rfl ?_
    refine WO.iload_n (n := 19) hA dX5_put_18 1 rfl rfl ?_
    refine WO.aald (n := 20) hA (x_28 hw) rfl rfl dX5_put_19 rfl (fun hi4 => ?_)
    refine WO.astore (lv' := [(4, .ref (w.2.1 (gSh x1.toNatClampNeg))), (0, .ref (w.2.1 0)), (1, .int x1), (2, .int x2), (3, .int x3)]) (n := 22) hA dX5_put_20 (by decide) rfl rfl ?_
    refine WO.aload (n := 24) hA dX5_put_22 0 rfl rfl ?_
    refine WO.getI (j := 1) (n := 27) hA (she_0 hw (she_of hi4.2)) rfl fiX5_put_X2 (by decide) rfl fkX5_put_220 dX5_put_24 rfl ?_
    refine WO.if_ne (tg := 36) (n := 30) hA dX5_put_27 (by decide) rfl (fun _ => ?_) (fun _ => ?_)
    · refine WO.aload_n (n := 31) hA dX5_put_30 1 rfl rfl ?_
      refine WO.iconst (x := (1 : Int32)) (n := 32) hA dX5_put_31 (by decide) rfl ?_
      refine WO.callVi (As := [.int (1 : Int32)]) (rest := []) (n := 35) hA (c_X5_faulty v.2.1 w hw (1 : Int32) M2) gX5_put_X5_faulty rfl (x_0 hw) rfl mdX5_faulty ⟨rfl, rfl, Nat.le_of_ble_eq_true rfl, Nat.le_of_ble_eq_true rfl⟩ rfl rfl (Nat.le_of_ble_eq_true rfl) dX5_put_32 rfl (fun r6 M5 => ?_)
      exact WO.iret hA dX5_put_35
    · refine WO.aload (n := 38) hA dX5_put_36 0 rfl rfl ?_
      refine WO.iload_n (n := 39) hA dX5_put_38 3 rfl rfl ?_
      refine WO.iconst (x := (1 : Int32)) (n := 40) hA dX5_put_39 (by decide) rfl ?_
      refine WO.callVi (As := [.int x2, .int (1 : Int32)]) (rest := []) (n := 43) hA (c_X2_lacks v.2.1 w hw (gSh x1.toNatClampNeg) x2 (1 : Int32) (she_of hi4.2) M2) gX5_put_X2_lacks rfl (she_0 hw (she_of hi4.2)) rfl mdX2_lacks ⟨rfl, rfl, Nat.le_of_ble_eq_true rfl, Nat.le_of_ble_eq_true rfl⟩ rfl rfl (Nat.le_of_ble_eq_true rfl) dX5_put_40 rfl (fun r8 M7 => ?_)
      refine WO.if_eq (tg := 52) (n := 46) hA dX5_put_43 (by decide) rfl (fun _ => ?_) (fun _ => ?_)
      · refine WO.aload (n := 54) hA dX5_put_52 0 rfl rfl ?_
        refine WO.getR (j := 0) (p := ((gSh x1.toNatClampNeg) + 1)) (n := 57) hA (she_0 hw (she_of hi4.2)) rfl fiX5_put_X2 (by decide) rfl fkX5_put_224 dX5_put_54 rfl ?_
        refine WO.iload_n (n := 58) hA dX5_put_57 3 rfl rfl ?_
        refine WO.aload (n := 60) hA dX5_put_58 0 rfl rfl ?_
        refine WO.iload_n (n := 61) hA dX5_put_60 4 rfl rfl ?_
        refine WO.callVi (As := [.int x3]) (rest := [.int x2, .ref (w.2.1 ((gSh x1.toNatClampNeg) + 1))]) (n := 64) hA (c_X2_cut v.2.1 w hw (gSh x1.toNatClampNeg) x3 (she_of hi4.2) M7) gX5_put_X2_cut rfl (she_0 hw (she_of hi4.2)) rfl mdX2_cut ⟨rfl, rfl, Nat.le_of_ble_eq_true rfl, Nat.le_of_ble_eq_true rfl⟩ rfl rfl (Nat.le_of_ble_eq_true rfl) dX5_put_61 rfl (fun r10 M9 => ?_)
        refine WO.iast (n := 65) hA (she_1 hw (she_of hi4.2)) dX5_put_64 rfl (fun _ => ?_)
        refine WO.mem (fun M11 => ?_)
        refine WO.iconst (x := (1 : Int32)) (n := 66) hA dX5_put_65 (by decide) rfl ?_
        exact WO.iret hA dX5_put_66
      · refine WO.aload_n (n := 47) hA dX5_put_46 1 rfl rfl ?_
        refine WO.iconst (x := (3 : Int32)) (n := 48) hA dX5_put_47 (by decide) rfl ?_
        refine WO.callVi (As := [.int (3 : Int32)]) (rest := []) (n := 51) hA (c_X5_faulty v.2.1 w hw (3 : Int32) M7) gX5_put_X5_faulty rfl (x_0 hw) rfl mdX5_faulty ⟨rfl, rfl, Nat.le_of_ble_eq_true rfl, Nat.le_of_ble_eq_true rfl⟩ rfl rfl (Nat.le_of_ble_eq_true rfl) dX5_put_48 rfl (fun r13 M12 => ?_)
        exact WO.iret hA dX5_put_51
/- X5_cell -/
abbrev rmX5_cell : Room := { frames := 1, cells := 0, slots := 0, locals := 22 }
theorem mdX5_cell : yX5_cell.cls = RX5 ∧ yX5_cell.cls ≠ "java/lang/invoke/MethodHandle" ∧ yX5_cell.cls ≠ "java/lang/invoke/VarHandle" ∧ (parseMethodDescriptor yX5_cell.desc).map (fun d => d.parameters.length) = some 3 := by decide +kernel
theorem fkX5_cell_53 : Cond.fieldLink RX5 53 (TX5 9).1 (TX5 9).2.1 (TX5 9).2.2.1 ∈ wsX5_cell := by decide +kernel
theorem fiX5_cell_X5 : ∀ q ∈ u_ws RX5 TX5 10, q ∈ wsX5_cell := by decide +kernel
theorem kkX5_cell_140 : Jvm.Cond.constantLong RX5 140 (-9223372036854775808 : Int64) ∈ wsX5_cell := by decide +kernel
theorem fkX5_cell_45 : Cond.fieldLink RX5 45 (TX5 5).1 (TX5 5).2.1 (TX5 5).2.2.1 ∈ wsX5_cell := by decide +kernel
theorem fkX5_cell_224 : Cond.fieldLink RX5 224 (TX2 0).1 (TX2 0).2.1 (TX2 0).2.2.1 ∈ wsX5_cell := by decide +kernel
theorem fiX5_cell_X2 : ∀ q ∈ u_ws RX2 TX2 4, q ∈ wsX5_cell := by decide +kernel
noncomputable def f_X5_cell (x1 : Int32) (x2 : Int32) (x3 : Int32) (M : Mem) : Option (Int64 × Mem) := mlt (mu M 0 9 (0 : Int32)) (fun M1 => bd (f_X5_isSheet x1 M1) (fun r3 M2 => if r3 = 0 then (some ((-9223372036854775808 : Int64), M2)) else (bd (f_X5_isLane x3 M2) (fun r5 M4 => if r5 = 0 then (some ((-9223372036854775808 : Int64), M4)) else (grd x1 4 (bd (f_X2_faultAs (gSh x1.toNatClampNeg) x3 M4) (fun r8 M7 => mlt (mu M7 0 9 r8) (fun M9 => if (M9 0 9) = 0 then (bd (f_X2_lacks (gSh x1.toNatClampNeg) x2 (1 : Int32) M9) (fun r11 M10 => if r11 = 0 then (if (M10 0 9) = 0 then (grd x2 60 (some ((((M10 ((gSh x1.toNatClampNeg) + 1) x2.toNatClampNeg)).toInt64), M10))) else (some ((-9223372036854775808 : Int64), M10))) else (mlt (mu M10 0 9 (3 : Int32)) (fun M12 => if (M12 0 9) = 0 then (grd x2 60 (some ((((M12 ((gSh x1.toNatClampNeg) + 1) x2.toNatClampNeg)).toInt64), M12))) else (some ((-9223372036854775808 : Int64), M12)))))) else (if (M9 0 9) = 0 then (grd x2 60 (some ((((M9 ((gSh x1.toNatClampNeg) + 1) x2.toNatClampNeg)).toInt64), M9))) else (some ((-9223372036854775808 : Int64), M9)))))))))))
set_option maxHeartbeats 4000000 in
set_option maxRecDepth 100000 in
theorem c_X5_cell (l : Launch) (w : Cw) (hw : w.2.2.2.2.2 = shX) (x1 : Int32) (x2 : Int32) (x3 : Int32) (M : Mem) : Ok l w eL yX5_cell wsX5_cell rmX5_cell [.ref (w.2.1 0), .int x1, .int x2, .int x3] M (f_X5_cell x1 x2 x3 M) := by
  refine Ok.of (cc := cX5_cell) (nL := 5) (ret := (some .long)) (lv := [(0, .ref (w.2.1 0)), (1, .int x1), (2, .int x2), (3, .int x3)]) (by decide) rfl (Nat.le_of_ble_eq_true rfl) rfl (fun v hv hA => ?_)
  subst hv
  have hA : Act v w RX5 wsX5_cell cX5_cell 5 (some .long) := hA
  unfold f_X5_cell
  refine WO.aload_n (n := 1) hA dX5_cell_0 0 rfl rfl ?_
  refine WO.iconst (x := (0 : Int32)) (n := 2) hA dX5_cell_1 (by decide) rfl ?_
  refine WO.putI (j := 9) (n := 5) hA (x_0 hw) rfl fiX5_cell_X5 tyX5 tyX5_ok nmX5 (by decide) rfl fkX5_cell_53 rfl rfl rfl rfl dX5_cell_2 rfl ?_
  refine WO.mem (fun M1 => ?_)
  refine WO.iload_n (n := 6) hA dX5_cell_5 1 rfl rfl ?_
  refine WO.callSi (As := [.int x1]) (rest := []) (n := 9) hA (c_X5_isSheet v.2.1 w hw x1 M1) gX5_cell_X5_isSheet rfl mdX5_isSheet ⟨rfl, rfl, Nat.le_of_ble_eq_true rfl, Nat.le_of_ble_eq_true rfl⟩ rfl rfl (Nat.le_of_ble_eq_true rfl) dX5_cell_6 rfl (fun r3 M2 => ?_)
  refine WO.if_eq (tg := 19) (n := 12) hA dX5_cell_9 (by decide) rfl (fun _ => ?_) (fun _ => ?_)
  · refine WO.ldc2 (n := 22) hA kkX5_cell_140 dX5_cell_19 rfl ?_
    exact WO.lret hA dX5_cell_22
  · refine WO.iload_n (n := 13) hA dX5_cell_12 3 rfl rfl ?_
    refine WO.callSi (As := [.int x3]) (rest := []) (n := 16) hA (c_X5_isLane v.2.1 w hw x3 M2) gX5_cell_X5_isLane rfl mdX5_isLane ⟨rfl, rfl, Nat.le_of_ble_eq_true rfl, Nat.le_of_ble_eq_true rfl⟩ rfl rfl (Nat.le_of_ble_eq_true rfl) dX5_cell_13 rfl (fun r5 M4 => ?_)
    refine WO.if_ne (tg := 23) (n := 19) hA dX5_cell_16 (by decide) rfl (fun _ => ?_) (fun _ => ?_)
    · refine WO.ldc2 (n := 22) hA kkX5_cell_140 dX5_cell_19 rfl ?_
      exact WO.lret hA dX5_cell_22
    · refine WO.aload_n (n := 24) hA dX5_cell_23 0 rfl rfl ?_
      refine WO.getR (j := 5) (p := 28) (n := 27) hA (x_0 hw) rfl fiX5_cell_X5 (by decide) rfl fkX5_cell_45 dX5_cell_24 rfl ?_
      refine WO.iload_n (n := 28) hA dX5_cell_27 1 rfl rfl ?_
      refine WO.aald (n := 29) hA (x_28 hw) rfl rfl dX5_cell_28 rfl (fun hi6 => ?_)
      refine WO.astore (lv' := [(4, .ref (w.2.1 (gSh x1.toNatClampNeg))), (0, .ref (w.2.1 0)), (1, .int x1), (2, .int x2), (3, .int x3)]) (n := 31) hA dX5_cell_29 (by decide) rfl rfl ?_
      refine WO.aload_n (n := 32) hA dX5_cell_31 1 rfl rfl ?_
      refine WO.aload (n := 34) hA dX5_cell_32 0 rfl rfl ?_
      refine WO.iload_n (n := 35) hA dX5_cell_34 4 rfl rfl ?_
      refine WO.callVi (As := [.int x3]) (rest := [.ref (w.2.1 0)]) (n := 38) hA (c_X2_faultAs v.2.1 w hw (gSh x1.toNatClampNeg) x3 (she_of hi6.2) M4) gX5_cell_X2_faultAs rfl (she_0 hw (she_of hi6.2)) rfl mdX2_faultAs ⟨rfl, rfl, Nat.le_of_ble_eq_true rfl, Nat.le_of_ble_eq_true rfl⟩ rfl rfl (Nat.le_of_ble_eq_true rfl) dX5_cell_35 rfl (fun r8 M7 => ?_)
      refine WO.putI (j := 9) (n := 41) hA (x_0 hw) rfl fiX5_cell_X5 tyX5 tyX5_ok nmX5 (by decide) rfl fkX5_cell_53 rfl rfl rfl rfl dX5_cell_38 rfl ?_
      refine WO.mem (fun M9 => ?_)
      refine WO.aload_n (n := 42) hA dX5_cell_41 1 rfl rfl ?_
      refine WO.getI (j := 9) (n := 45) hA (x_0 hw) rfl fiX5_cell_X5 (by decide) rfl fkX5_cell_53 dX5_cell_42 rfl ?_
      refine WO.if_ne (tg := 63) (n := 48) hA dX5_cell_45 (by decide) rfl (fun _ => ?_) (fun _ => ?_)
      · refine WO.aload (n := 50) hA dX5_cell_48 0 rfl rfl ?_
        refine WO.iload_n (n := 51) hA dX5_cell_50 3 rfl rfl ?_
        refine WO.iconst (x := (1 : Int32)) (n := 52) hA dX5_cell_51 (by decide) rfl ?_
        refine WO.callVi (As := [.int x2, .int (1 : Int32)]) (rest := []) (n := 55) hA (c_X2_lacks v.2.1 w hw (gSh x1.toNatClampNeg) x2 (1 : Int32) (she_of hi6.2) M9) gX5_cell_X2_lacks rfl (she_0 hw (she_of hi6.2)) rfl mdX2_lacks ⟨rfl, rfl, Nat.le_of_ble_eq_true rfl, Nat.le_of_ble_eq_true rfl⟩ rfl rfl (Nat.le_of_ble_eq_true rfl) dX5_cell_52 rfl (fun r11 M10 => ?_)
        refine WO.if_eq (tg := 63) (n := 58) hA dX5_cell_55 (by decide) rfl (fun _ => ?_) (fun _ => ?_)
        · refine WO.aload_n (n := 64) hA dX5_cell_63 1 rfl rfl ?_
          refine WO.getI (j := 9) (n := 67) hA (x_0 hw) rfl fiX5_cell_X5 (by decide) rfl fkX5_cell_53 dX5_cell_64 rfl ?_
          refine WO.if_ne (tg := 81) (n := 70) hA dX5_cell_67 (by decide) rfl (fun _ => ?_) (fun _ => ?_)
          · refine WO.aload (n := 72) hA dX5_cell_70 0 rfl rfl ?_
            refine WO.getR (j := 0) (p := ((gSh x1.toNatClampNeg) + 1)) (n := 75) hA (she_0 hw (she_of hi6.2)) rfl fiX5_cell_X2 (by decide) rfl fkX5_cell_224 dX5_cell_72 rfl ?_
            refine WO.iload_n (n := 76) hA dX5_cell_75 3 rfl rfl ?_
            refine WO.iald (n := 77) hA (she_1 hw (she_of hi6.2)) dX5_cell_76 rfl (fun _ => ?_)
            refine WO.i2l (n := 78) hA dX5_cell_77 rfl ?_
            refine WO.goto (n := 84) hA dX5_cell_78 (by decide) ?_
            exact WO.lret hA dX5_cell_84
          · refine WO.ldc2 (n := 84) hA kkX5_cell_140 dX5_cell_81 rfl ?_
            exact WO.lret hA dX5_cell_84
        · refine WO.aload_n (n := 59) hA dX5_cell_58 1 rfl rfl ?_
          refine WO.iconst (x := (3 : Int32)) (n := 60) hA dX5_cell_59 (by decide) rfl ?_
          refine WO.putI (j := 9) (n := 63) hA (x_0 hw) rfl fiX5_cell_X5 tyX5 tyX5_ok nmX5 (by decide) rfl fkX5_cell_53 rfl rfl rfl rfl dX5_cell_60 rfl ?_
          refine WO.mem (fun M12 => ?_)
          refine WO.aload_n (n := 64) hA dX5_cell_63 1 rfl rfl ?_
          refine WO.getI (j := 9) (n := 67) hA (x_0 hw) rfl fiX5_cell_X5 (by decide) rfl fkX5_cell_53 dX5_cell_64 rfl ?_
          refine WO.if_ne (tg := 81) (n := 70) hA dX5_cell_67 (by decide) rfl (fun _ => ?_) (fun _ => ?_)
          · refine WO.aload (n := 72) hA dX5_cell_70 0 rfl rfl ?_
            refine WO.getR (j := 0) (p := ((gSh x1.toNatClampNeg) + 1)) (n := 75) hA (she_0 hw (she_of hi6.2)) rfl fiX5_cell_X2 (by decide) rfl fkX5_cell_224 dX5_cell_72 rfl ?_
            refine WO.iload_n (n := 76) hA dX5_cell_75 3 rfl rfl ?_
            refine WO.iald (n := 77) hA (she_1 hw (she_of hi6.2)) dX5_cell_76 rfl (fun _ => ?_)
            refine WO.i2l (n := 78) hA dX5_cell_77 rfl ?_
            refine WO.goto (n := 84) hA dX5_cell_78 (by decide) ?_
            exact WO.lret hA dX5_cell_84
          · refine WO.ldc2 (n := 84) hA kkX5_cell_140 dX5_cell_81 rfl ?_
            exact WO.lret hA dX5_cell_84
      · refine WO.aload_n (n := 64) hA dX5_cell_63 1 rfl rfl ?_
        refine WO.getI (j := 9) (n := 67) hA (x_0 hw) rfl fiX5_cell_X5 (by decide) rfl fkX5_cell_53 dX5_cell_64 rfl ?_
        refine WO.if_ne (tg := 81) (n := 70) hA dX5_cell_67 (by decide) rfl (fun _ => ?_) (fun _ => ?_)
        · refine WO.aload (n := 72) hA dX5_cell_70 0 rfl rfl ?_
          refine WO.getR (j := 0) (p := ((gSh x1.toNatClampNeg) + 1)) (n := 75) hA (she_0 hw (she_of hi6.2)) rfl fiX5_cell_X2 (by decide) rfl fkX5_cell_224 dX5_cell_72 rfl ?_
          refine WO.iload_n (n := 76) hA dX5_cell_75 3 rfl rfl ?_
          refine WO.iald (n := 77) hA (she_1 hw (she_of hi6.2)) dX5_cell_76 rfl (fun _ => ?_)
          refine WO.i2l (n := 78) hA dX5_cell_77 rfl ?_
          refine WO.goto (n := 84) hA dX5_cell_78 (by decide) ?_
          exact WO.lret hA dX5_cell_84
        · refine WO.ldc2 (n := 84) hA kkX5_cell_140 dX5_cell_81 rfl ?_
          exact WO.lret hA dX5_cell_84
/- X5_copy -/
abbrev rmX5_copy : Room := { frames := 1, cells := 0, slots := 0, locals := 26 }
theorem mdX5_copy : yX5_copy.cls = RX5 ∧ yX5_copy.cls ≠ "java/lang/invoke/MethodHandle" ∧ yX5_copy.cls ≠ "java/lang/invoke/VarHandle" ∧ (parseMethodDescriptor yX5_copy.desc).map (fun d => d.parameters.length) = some 5 := by decide +kernel
theorem fkX5_copy_53 : Cond.fieldLink RX5 53 (TX5 9).1 (TX5 9).2.1 (TX5 9).2.2.1 ∈ wsX5_copy := by decide +kernel
theorem fiX5_copy_X5 : ∀ q ∈ u_ws RX5 TX5 10, q ∈ wsX5_copy := by decide +kernel
theorem fkX5_copy_45 : Cond.fieldLink RX5 45 (TX5 5).1 (TX5 5).2.1 (TX5 5).2.2.1 ∈ wsX5_copy := by decide +kernel
theorem fkX5_copy_220 : Cond.fieldLink RX5 220 (TX2 1).1 (TX2 1).2.1 (TX2 1).2.2.1 ∈ wsX5_copy := by decide +kernel
theorem fiX5_copy_X2 : ∀ q ∈ u_ws RX2 TX2 4, q ∈ wsX5_copy := by decide +kernel
theorem fkX5_copy_230 : Cond.fieldLink RX5 230 (TX2 2).1 (TX2 2).2.1 (TX2 2).2.2.1 ∈ wsX5_copy := by decide +kernel
theorem fkX5_copy_224 : Cond.fieldLink RX5 224 (TX2 0).1 (TX2 0).2.1 (TX2 0).2.2.1 ∈ wsX5_copy := by decide +kernel
theorem akX5_copy_233 : Cond.methodLink RX5 233 arraycopyName ∈ wsX5_copy := by decide +kernel
theorem akX5_copy_n : Cond.native arraycopyName ∈ wsX5_copy := by decide +kernel
theorem akX5_copy_s : Cond.static arraycopyName ∈ wsX5_copy := by decide +kernel
theorem akX5_copy_i : Cond.initialized "java/lang/System" ∈ wsX5_copy := by decide +kernel
noncomputable def f_X5_copy (x1 : Int32) (x2 : Int32) (x3 : Int32) (x4 : Int32) (x5 : Int32) (M : Mem) : Option (Int32 × Mem) := mlt (mu M 0 9 (0 : Int32)) (fun M1 => bd (f_X5_isSheet x1 M1) (fun r3 M2 => if r3 = 0 then (some ((-1 : Int32), M2)) else (bd (f_X5_isSheet x3 M2) (fun r5 M4 => if r5 = 0 then (some ((-1 : Int32), M4)) else (grd x1 4 (grd x3 4 (if (M4 (gSh x1.toNatClampNeg) 1) = 0 then (bd (f_X5_faulty (1 : Int32) M4) (fun r9 M8 => some (r9, M8))) else (if (M4 (gSh x3.toNatClampNeg) 1) = 0 then (bd (f_X5_faulty (1 : Int32) M4) (fun r11 M10 => some (r11, M10))) else (if (M4 (gSh x1.toNatClampNeg) 2) = (M4 (gSh x3.toNatClampNeg) 2) then (bd (f_X2_lacks (gSh x1.toNatClampNeg) x2 x5 M4) (fun r13 M12 => if r13 = 0 then (bd (f_X2_lacks (gSh x3.toNatClampNeg) x4 x5 M12) (fun r15 M14 => if r15 = 0 then (cpk x2 x4 x5 60 60 (mlt (mset M14 ((gSh x3.toNatClampNeg) + 1) (va_cpy (M14 ((gSh x1.toNatClampNeg) + 1)) (M14 ((gSh x3.toNatClampNeg) + 1)) x2.toNatClampNeg x4.toNatClampNeg x5.toNatClampNeg)) (fun M16 => some (x5, M16)))) else (bd (f_X5_faulty (3 : Int32) M14) (fun r18 M17 => some (r18, M17))))) else (bd (f_X5_faulty (3 : Int32) M12) (fun r20 M19 => some (r20, M19))))) else (bd (f_X5_faulty (2 : Int32) M4) (fun r22 M21 => some (r22, M21))))))))))))
set_option maxHeartbeats 4000000 in
set_option maxRecDepth 100000 in
theorem c_X5_copy (l : Launch) (w : Cw) (hw : w.2.2.2.2.2 = shX) (x1 : Int32) (x2 : Int32) (x3 : Int32) (x4 : Int32) (x5 : Int32) (M : Mem) : Ok l w eI yX5_copy wsX5_copy rmX5_copy [.ref (w.2.1 0), .int x1, .int x2, .int x3, .int x4, .int x5] M (f_X5_copy x1 x2 x3 x4 x5 M) := by
  refine Ok.of (cc := cX5_copy) (nL := 8) (ret := (some .int)) (lv := [(0, .ref (w.2.1 0)), (1, .int x1), (2, .int x2), (3, .int x3), (4, .int x4), (5, .int x5)]) (by decide) rfl (Nat.le_of_ble_eq_true rfl) rfl (fun v hv hA => ?_)
  subst hv
  have hA : Act v w RX5 wsX5_copy cX5_copy 8 (some .int) := hA
  unfold f_X5_copy
  refine WO.aload_n (n := 1) hA dX5_copy_0 0 rfl rfl ?_
  refine WO.iconst (x := (0 : Int32)) (n := 2) hA dX5_copy_1 (by decide) rfl ?_
  refine WO.putI (j := 9) (n := 5) hA (x_0 hw) rfl fiX5_copy_X5 tyX5 tyX5_ok nmX5 (by decide) rfl fkX5_copy_53 rfl rfl rfl rfl dX5_copy_2 rfl ?_
  refine WO.mem (fun M1 => ?_)
  refine WO.iload_n (n := 6) hA dX5_copy_5 1 rfl rfl ?_
  refine WO.callSi (As := [.int x1]) (rest := []) (n := 9) hA (c_X5_isSheet v.2.1 w hw x1 M1) gX5_copy_X5_isSheet rfl mdX5_isSheet ⟨rfl, rfl, Nat.le_of_ble_eq_true rfl, Nat.le_of_ble_eq_true rfl⟩ rfl rfl (Nat.le_of_ble_eq_true rfl) dX5_copy_6 rfl (fun r3 M2 => ?_)
  refine WO.if_eq (tg := 19) (n := 12) hA dX5_copy_9 (by decide) rfl (fun _ => ?_) (fun _ => ?_)
  · refine WO.iconst (x := (-1 : Int32)) (n := 20) hA dX5_copy_19 (by decide) rfl ?_
    exact WO.iret hA dX5_copy_20
  · refine WO.iload_n (n := 13) hA dX5_copy_12 3 rfl rfl ?_
    refine WO.callSi (As := [.int x3]) (rest := []) (n := 16) hA (c_X5_isSheet v.2.1 w hw x3 M2) gX5_copy_X5_isSheet rfl mdX5_isSheet ⟨rfl, rfl, Nat.le_of_ble_eq_true rfl, Nat.le_of_ble_eq_true rfl⟩ rfl rfl (Nat.le_of_ble_eq_true rfl) dX5_copy_13 rfl (fun r5 M4 => ?_)
    refine WO.if_ne (tg := 21) (n := 19) hA dX5_copy_16 (by decide) rfl (fun _ => ?_) (fun _ => ?_)
    · refine WO.iconst (x := (-1 : Int32)) (n := 20) hA dX5_copy_19 (by decide) rfl ?_
      exact WO.iret hA dX5_copy_20
    · refine WO.aload_n (n := 22) hA dX5_copy_21 0 rfl rfl ?_
      refine WO.getR (j := 5) (p := 28) (n := 25) hA (x_0 hw) rfl fiX5_copy_X5 (by decide) rfl fkX5_copy_45 dX5_copy_22 rfl ?_
      refine WO.iload_n (n := 26) hA dX5_copy_25 1 rfl rfl ?_
      refine WO.aald (n := 27) hA (x_28 hw) rfl rfl dX5_copy_26 rfl (fun hi6 => ?_)
      refine WO.astore (lv' := [(6, .ref (w.2.1 (gSh x1.toNatClampNeg))), (0, .ref (w.2.1 0)), (1, .int x1), (2, .int x2), (3, .int x3), (4, .int x4), (5, .int x5)]) (n := 29) hA dX5_copy_27 (by decide) rfl rfl ?_
      refine WO.aload_n (n := 30) hA dX5_copy_29 1 rfl rfl ?_
      refine WO.getR (j := 5) (p := 28) (n := 33) hA (x_0 hw) rfl fiX5_copy_X5 (by decide) rfl fkX5_copy_45 dX5_copy_30 rfl ?_
      refine WO.iload_n (n := 34) hA dX5_copy_33 4 rfl rfl ?_
      refine WO.aald (n := 35) hA (x_28 hw) rfl rfl dX5_copy_34 rfl (fun hi7 => ?_)
      refine WO.astore (lv' := [(7, .ref (w.2.1 (gSh x3.toNatClampNeg))), (6, .ref (w.2.1 (gSh x1.toNatClampNeg))), (0, .ref (w.2.1 0)), (1, .int x1), (2, .int x2), (3, .int x3), (4, .int x4), (5, .int x5)]) (n := 37) hA dX5_copy_35 (by decide) rfl rfl ?_
      refine WO.aload (n := 39) hA dX5_copy_37 1 rfl rfl ?_
      refine WO.getI (j := 1) (n := 42) hA (she_0 hw (she_of hi6.2)) rfl fiX5_copy_X2 (by decide) rfl fkX5_copy_220 dX5_copy_39 rfl ?_
      refine WO.if_eq (tg := 53) (n := 45) hA dX5_copy_42 (by decide) rfl (fun _ => ?_) (fun _ => ?_)
      · refine WO.aload_n (n := 54) hA dX5_copy_53 2 rfl rfl ?_
        refine WO.iconst (x := (1 : Int32)) (n := 55) hA dX5_copy_54 (by decide) rfl ?_
        refine WO.callVi (As := [.int (1 : Int32)]) (rest := []) (n := 58) hA (c_X5_faulty v.2.1 w hw (1 : Int32) M4) gX5_copy_X5_faulty rfl (x_0 hw) rfl mdX5_faulty ⟨rfl, rfl, Nat.le_of_ble_eq_true rfl, Nat.le_of_ble_eq_true rfl⟩ rfl rfl (Nat.le_of_ble_eq_true rfl) dX5_copy_55 rfl (fun r9 M8 => ?_)
        exact WO.iret hA dX5_copy_58
      · refine WO.aload (n := 47) hA dX5_copy_45 0 rfl rfl ?_
        refine WO.getI (j := 1) (n := 50) hA (she_0 hw (she_of hi7.2)) rfl fiX5_copy_X2 (by decide) rfl fkX5_copy_220 dX5_copy_47 rfl ?_
        refine WO.if_ne (tg := 59) (n := 53) hA dX5_copy_50 (by decide) rfl (fun _ => ?_) (fun _ => ?_)
        · refine WO.aload_n (n := 54) hA dX5_copy_53 2 rfl rfl ?_
          refine WO.iconst (x := (1 : Int32)) (n := 55) hA dX5_copy_54 (by decide) rfl ?_
          refine WO.callVi (As := [.int (1 : Int32)]) (rest := []) (n := 58) hA (c_X5_faulty v.2.1 w hw (1 : Int32) M4) gX5_copy_X5_faulty rfl (x_0 hw) rfl mdX5_faulty ⟨rfl, rfl, Nat.le_of_ble_eq_true rfl, Nat.le_of_ble_eq_true rfl⟩ rfl rfl (Nat.le_of_ble_eq_true rfl) dX5_copy_55 rfl (fun r11 M10 => ?_)
          exact WO.iret hA dX5_copy_58
        · refine WO.aload (n := 61) hA dX5_copy_59 1 rfl rfl ?_
          refine WO.getI (j := 2) (n := 64) hA (she_0 hw (she_of hi6.2)) rfl fiX5_copy_X2 (by decide) rfl fkX5_copy_230 dX5_copy_61 rfl ?_
          refine WO.aload (n := 66) hA dX5_copy_64 0 rfl rfl ?_
          refine WO.getI (j := 2) (n := 69) hA (she_0 hw (she_of hi7.2)) rfl fiX5_copy_X2 (by decide) rfl fkX5_copy_230 dX5_copy_66 rfl ?_
          refine WO.icmp_eq (tg := 78) (n := 72) hA dX5_copy_69 (by decide) rfl (fun _ => ?_) (fun _ => ?_)
          · refine WO.aload (n := 80) hA dX5_copy_78 1 rfl rfl ?_
            refine WO.iload_n (n := 81) hA dX5_copy_80 4 rfl rfl ?_
            refine WO.iload (n := 83) hA dX5_copy_81 7 rfl rfl ?_
            refine WO.callVi (As := [.int x2, .int x5]) (rest := []) (n := 86) hA (c_X2_lacks v.2.1 w hw (gSh x1.toNatClampNeg) x2 x5 (she_of hi6.2) M4) gX5_copy_X2_lacks rfl (she_0 hw (she_of hi6.2)) rfl mdX2_lacks ⟨rfl, rfl, Nat.le_of_ble_eq_true rfl, Nat.le_of_ble_eq_true rfl⟩ rfl rfl (Nat.le_of_ble_eq_true rfl) dX5_copy_83 rfl (fun r13 M12 => ?_)
            refine WO.if_ne (tg := 101) (n := 89) hA dX5_copy_86 (by decide) rfl (fun _ => ?_) (fun _ => ?_)
            · refine WO.aload (n := 91) hA dX5_copy_89 0 rfl rfl ?_
              refine WO.iload (n := 93) hA dX5_copy_91 6 rfl rfl ?_
              refine WO.iload (n := 95) hA dX5_copy_93 7 rfl rfl ?_
              refine WO.callVi (As := [.int x4, .int x5]) (rest := []) (n := 98) hA (c_X2_lacks v.2.1 w hw (gSh x3.toNatClampNeg) x4 x5 (she_of hi7.2) M12) gX5_copy_X2_lacks rfl (she_0 hw (she_of hi7.2)) rfl mdX2_lacks ⟨rfl, rfl, Nat.le_of_ble_eq_true rfl, Nat.le_of_ble_eq_true rfl⟩ rfl rfl (Nat.le_of_ble_eq_true rfl) dX5_copy_95 rfl (fun r15 M14 => ?_)
              refine WO.if_eq (tg := 107) (n := 101) hA dX5_copy_98 (by decide) rfl (fun _ => ?_) (fun _ => ?_)
              · refine WO.aload (n := 109) hA dX5_copy_107 1 rfl rfl ?_
                refine WO.getR (j := 0) (p := ((gSh x1.toNatClampNeg) + 1)) (n := 112) hA (she_0 hw (she_of hi6.2)) rfl fiX5_copy_X2 (by decide) rfl fkX5_copy_224 dX5_copy_109 rfl ?_
                refine WO.iload_n (n := 113) hA dX5_copy_112 4 rfl rfl ?_
                refine WO.aload (n := 115) hA dX5_copy_113 0 rfl rfl ?_
                refine WO.getR (j := 0) (p := ((gSh x3.toNatClampNeg) + 1)) (n := 118) hA (she_0 hw (she_of hi7.2)) rfl fiX5_copy_X2 (by decide) rfl fkX5_copy_224 dX5_copy_115 rfl ?_
                refine WO.iload (n := 120) hA dX5_copy_118 6 rfl rfl ?_
                refine WO.iload (n := 122) hA dX5_copy_120 7 rfl rfl ?_
                refine WO.acopy (n := 125) hA (she_1 hw (she_of hi6.2)) (she_1 hw (she_of hi7.2)) akX5_copy_233 akX5_copy_n akX5_copy_s akX5_copy_i (Nat.le_of_ble_eq_true rfl) (Nat.le_of_ble_eq_true rfl) dX5_copy_122 rfl ?_
                refine WO.mem (fun M16 => ?_)
                refine WO.iload (n := 127) hA dX5_copy_125 7 rfl rfl ?_
                exact WO.iret hA dX5_copy_127
              · refine WO.aload_n (n := 102) hA dX5_copy_101 2 rfl rfl ?_
                refine WO.iconst (x := (3 : Int32)) (n := 103) hA dX5_copy_102 (by decide) rfl ?_
                refine WO.callVi (As := [.int (3 : Int32)]) (rest := []) (n := 106) hA (c_X5_faulty v.2.1 w hw (3 : Int32) M14) gX5_copy_X5_faulty rfl (x_0 hw) rfl mdX5_faulty ⟨rfl, rfl, Nat.le_of_ble_eq_true rfl, Nat.le_of_ble_eq_true rfl⟩ rfl rfl (Nat.le_of_ble_eq_true rfl) dX5_copy_103 rfl (fun r18 M17 => ?_)
                exact WO.iret hA dX5_copy_106
            · refine WO.aload_n (n := 102) hA dX5_copy_101 2 rfl rfl ?_
              refine WO.iconst (x := (3 : Int32)) (n := 103) hA dX5_copy_102 (by decide) rfl ?_
              refine WO.callVi (As := [.int (3 : Int32)]) (rest := []) (n := 106) hA (c_X5_faulty v.2.1 w hw (3 : Int32) M12) gX5_copy_X5_faulty rfl (x_0 hw) rfl mdX5_faulty ⟨rfl, rfl, Nat.le_of_ble_eq_true rfl, Nat.le_of_ble_eq_true rfl⟩ rfl rfl (Nat.le_of_ble_eq_true rfl) dX5_copy_103 rfl (fun r20 M19 => ?_)
              exact WO.iret hA dX5_copy_106
          · refine WO.aload_n (n := 73) hA dX5_copy_72 2 rfl rfl ?_
            refine WO.iconst (x := (2 : Int32)) (n := 74) hA dX5_copy_73 (by decide) rfl ?_
            refine WO.callVi (As := [.int (2 : Int32)]) (rest := []) (n := 77) hA (c_X5_faulty v.2.1 w hw (2 : Int32) M4) gX5_copy_X5_faulty rfl (x_0 hw) rfl mdX5_faulty ⟨rfl, rfl, Nat.le_of_ble_eq_true rfl, Nat.le_of_ble_eq_true rfl⟩ rfl rfl (Nat.le_of_ble_eq_true rfl) dX5_copy_74 rfl (fun r22 M21 => ?_)
            exact WO.iret hA dX5_copy_77
/- X5_leave -/
abbrev rmX5_leave : Room := { frames := 0, cells := 0, slots := 0, locals := 0 }
theorem mdX5_leave : yX5_leave.cls = RX5 ∧ yX5_leave.cls ≠ "java/lang/invoke/MethodHandle" ∧ yX5_leave.cls ≠ "java/lang/invoke/VarHandle" ∧ (parseMethodDescriptor yX5_leave.desc).map (fun d => d.parameters.length) = some 1 := by decide +kernel
theorem fkX5_leave_254 : Cond.fieldLink RX5 254 (TX5 8).1 (TX5 8).2.1 (TX5 8).2.2.1 ∈ wsX5_leave := by decide +kernel
theorem fiX5_leave_X5 : ∀ q ∈ u_ws RX5 TX5 10, q ∈ wsX5_leave := by decide +kernel
noncomputable def f_X5_leave (x1 : Int32) (M : Mem) : Option (Unit × Mem) := mlt (mu M 0 8 (((31 : Int32) * (M 0 8)) + x1)) (fun M1 => some ((), M1))
set_option maxHeartbeats 4000000 in
set_option maxRecDepth 100000 in
theorem c_X5_leave (l : Launch) (w : Cw) (hw : w.2.2.2.2.2 = shX) (x1 : Int32) (M : Mem) : Ok l w eV yX5_leave wsX5_leave rmX5_leave [.ref (w.2.1 0), .int x1] M (f_X5_leave x1 M) := by
  refine Ok.of (cc := cX5_leave) (nL := 2) (ret := none) (lv := [(0, .ref (w.2.1 0)), (1, .int x1)]) (by decide) rfl (Nat.le_of_ble_eq_true rfl) rfl (fun v hv hA => ?_)
  subst hv
  have hA : Act v w RX5 wsX5_leave cX5_leave 2 none := hA
  unfold f_X5_leave
  refine WO.aload_n (n := 1) hA dX5_leave_0 0 rfl rfl ?_
  refine WO.bipush (x := (31 : Int32)) (n := 3) hA dX5_leave_1 (by decide) rfl ?_
  refine WO.aload_n (n := 4) hA dX5_leave_3 0 rfl rfl ?_
  refine WO.getI (j := 8) (n := 7) hA (x_0 hw) rfl fiX5_leave_X5 (by decide) rfl fkX5_leave_254 dX5_leave_4 rfl ?_
  refine WO.imul (n := 8) hA dX5_leave_7 rfl ?_
  refine WO.iload_n (n := 9) hA dX5_leave_8 1 rfl rfl ?_
  refine WO.iadd (n := 10) hA dX5_leave_9 rfl ?_
  refine WO.putI (j := 8) (n := 13) hA (x_0 hw) rfl fiX5_leave_X5 tyX5 tyX5_ok nmX5 (by decide) rfl fkX5_leave_254 rfl rfl rfl rfl dX5_leave_10 rfl ?_
  refine WO.mem (fun M1 => ?_)
  exact WO.vret hA dX5_leave_13
/- X5_sleeperTells -/
abbrev rmX5_sleeperTells : Room := { frames := 1, cells := 0, slots := 0, locals := 21 }
theorem mdX5_sleeperTells : yX5_sleeperTells.cls = RX5 ∧ yX5_sleeperTells.cls ≠ "java/lang/invoke/MethodHandle" ∧ yX5_sleeperTells.cls ≠ "java/lang/invoke/VarHandle" ∧ (parseMethodDescriptor yX5_sleeperTells.desc).map (fun d => d.parameters.length) = some 1 := by decide +kernel
theorem fkX5_sleeperTells_12 : Cond.fieldLink RX5 12 (TX5 0).1 (TX5 0).2.1 (TX5 0).2.2.1 ∈ wsX5_sleeperTells := by decide +kernel
theorem fiX5_sleeperTells_X5 : ∀ q ∈ u_ws RX5 TX5 10, q ∈ wsX5_sleeperTells := by decide +kernel
theorem fkX5_sleeperTells_98 : Cond.fieldLink RX5 98 (TX3 1).1 (TX3 1).2.1 (TX3 1).2.2.1 ∈ wsX5_sleeperTells := by decide +kernel
theorem fiX5_sleeperTells_X3 : ∀ q ∈ u_ws RX3 TX3 10, q ∈ wsX5_sleeperTells := by decide +kernel
noncomputable def f_X5_sleeperTells (x1 : Int32) (M : Mem) : Option (Int32 × Mem) := bd (f_X5_leave (1 : Int32) M) (fun _ M1 => grd x1 6 (some ((M1 3 x1.toNatClampNeg), M1)))
set_option maxHeartbeats 4000000 in
set_option maxRecDepth 100000 in
theorem c_X5_sleeperTells (l : Launch) (w : Cw) (hw : w.2.2.2.2.2 = shX) (x1 : Int32) (M : Mem) : Ok l w eI yX5_sleeperTells wsX5_sleeperTells rmX5_sleeperTells [.ref (w.2.1 0), .int x1] M (f_X5_sleeperTells x1 M) := by
  refine Ok.of (cc := cX5_sleeperTells) (nL := 2) (ret := (some .int)) (lv := [(0, .ref (w.2.1 0)), (1, .int x1)]) (by decide) rfl (Nat.le_of_ble_eq_true rfl) rfl (fun v hv hA => ?_)
  subst hv
  have hA : Act v w RX5 wsX5_sleeperTells cX5_sleeperTells 2 (some .int) := hA
  unfold f_X5_sleeperTells
  refine WO.aload_n (n := 1) hA dX5_sleeperTells_0 0 rfl rfl ?_
  refine WO.iconst (x := (1 : Int32)) (n := 2) hA dX5_sleeperTells_1 (by decide) rfl ?_
  refine WO.callVv (As := [.int (1 : Int32)]) (rest := []) (n := 5) hA (c_X5_leave v.2.1 w hw (1 : Int32) M) gX5_sleeperTells_X5_leave rfl (x_0 hw) rfl mdX5_leave ⟨rfl, rfl, Nat.le_of_ble_eq_true rfl, Nat.le_of_ble_eq_true rfl⟩ rfl rfl (Nat.le_of_ble_eq_true rfl) dX5_sleeperTells_2 rfl (fun M1 => ?_)
  refine WO.aload_n (n := 6) hA dX5_sleeperTells_5 0 rfl rfl ?_
  refine WO.getR (j := 0) (p := 1) (n := 9) hA (x_0 hw) rfl fiX5_sleeperTells_X5 (by decide) rfl fkX5_sleeperTells_12 dX5_sleeperTells_6 rfl ?_
  refine WO.getR (j := 1) (p := 3) (n := 12) hA (st_0 hw st1) rfl fiX5_sleeperTells_X3 (by decide) rfl fkX5_sleeperTells_98 dX5_sleeperTells_9 rfl ?_
  refine WO.iload_n (n := 13) hA dX5_sleeperTells_12 1 rfl rfl ?_
  refine WO.iald (n := 14) hA (st_2 hw st1) dX5_sleeperTells_13 rfl (fun _ => ?_)
  exact WO.iret hA dX5_sleeperTells_14
/- X5_nervousTells -/
abbrev rmX5_nervousTells : Room := { frames := 2, cells := 0, slots := 0, locals := 42 }
theorem mdX5_nervousTells : yX5_nervousTells.cls = RX5 ∧ yX5_nervousTells.cls ≠ "java/lang/invoke/MethodHandle" ∧ yX5_nervousTells.cls ≠ "java/lang/invoke/VarHandle" ∧ (parseMethodDescriptor yX5_nervousTells.desc).map (fun d => d.parameters.length) = some 1 := by decide +kernel
noncomputable def f_X5_nervousTells (x1 : Int32) (M : Mem) : Option (Int32 × Mem) := bd (f_X5_leave (2 : Int32) M) (fun _ M1 => bd (f_X5_sleeperTells x1 M1) (fun r3 M2 => some ((r3 + (100 : Int32)), M2)))
set_option maxHeartbeats 4000000 in
set_option maxRecDepth 100000 in
theorem c_X5_nervousTells (l : Launch) (w : Cw) (hw : w.2.2.2.2.2 = shX) (x1 : Int32) (M : Mem) : Ok l w eI yX5_nervousTells wsX5_nervousTells rmX5_nervousTells [.ref (w.2.1 0), .int x1] M (f_X5_nervousTells x1 M) := by
  refine Ok.of (cc := cX5_nervousTells) (nL := 2) (ret := (some .int)) (lv := [(0, .ref (w.2.1 0)), (1, .int x1)]) (by decide) rfl (Nat.le_of_ble_eq_true rfl) rfl (fun v hv hA => ?_)
  subst hv
  have hA : Act v w RX5 wsX5_nervousTells cX5_nervousTells 2 (some .int) := hA
  unfold f_X5_nervousTells
  refine WO.aload_n (n := 1) hA dX5_nervousTells_0 0 rfl rfl ?_
  refine WO.iconst (x := (2 : Int32)) (n := 2) hA dX5_nervousTells_1 (by decide) rfl ?_
  refine WO.callVv (As := [.int (2 : Int32)]) (rest := []) (n := 5) hA (c_X5_leave v.2.1 w hw (2 : Int32) M) gX5_nervousTells_X5_leave rfl (x_0 hw) rfl mdX5_leave ⟨rfl, rfl, Nat.le_of_ble_eq_true rfl, Nat.le_of_ble_eq_true rfl⟩ rfl rfl (Nat.le_of_ble_eq_true rfl) dX5_nervousTells_2 rfl (fun M1 => ?_)
  refine WO.aload_n (n := 6) hA dX5_nervousTells_5 0 rfl rfl ?_
  refine WO.iload_n (n := 7) hA dX5_nervousTells_6 1 rfl rfl ?_
  refine WO.callVi (As := [.int x1]) (rest := []) (n := 10) hA (c_X5_sleeperTells v.2.1 w hw x1 M1) gX5_nervousTells_X5_sleeperTells rfl (x_0 hw) rfl mdX5_sleeperTells ⟨rfl, rfl, Nat.le_of_ble_eq_true rfl, Nat.le_of_ble_eq_true rfl⟩ rfl rfl (Nat.le_of_ble_eq_true rfl) dX5_nervousTells_7 rfl (fun r3 M2 => ?_)
  refine WO.bipush (x := (100 : Int32)) (n := 12) hA dX5_nervousTells_10 (by decide) rfl ?_
  refine WO.iadd (n := 13) hA dX5_nervousTells_12 rfl ?_
  exact WO.iret hA dX5_nervousTells_13
/- X5_babyTells -/
abbrev rmX5_babyTells : Room := { frames := 3, cells := 0, slots := 0, locals := 63 }
theorem mdX5_babyTells : yX5_babyTells.cls = RX5 ∧ yX5_babyTells.cls ≠ "java/lang/invoke/MethodHandle" ∧ yX5_babyTells.cls ≠ "java/lang/invoke/VarHandle" ∧ (parseMethodDescriptor yX5_babyTells.desc).map (fun d => d.parameters.length) = some 1 := by decide +kernel
noncomputable def f_X5_babyTells (x1 : Int32) (M : Mem) : Option (Int32 × Mem) := bd (f_X5_leave (3 : Int32) M) (fun _ M1 => bd (f_X5_nervousTells x1 M1) (fun r3 M2 => bd (f_X5_sleeperTells x1 M2) (fun r5 M4 => some ((r3 + r5), M4))))
set_option maxHeartbeats 4000000 in
set_option maxRecDepth 100000 in
theorem c_X5_babyTells (l : Launch) (w : Cw) (hw : w.2.2.2.2.2 = shX) (x1 : Int32) (M : Mem) : Ok l w eI yX5_babyTells wsX5_babyTells rmX5_babyTells [.ref (w.2.1 0), .int x1] M (f_X5_babyTells x1 M) := by
  refine Ok.of (cc := cX5_babyTells) (nL := 3) (ret := (some .int)) (lv := [(0, .ref (w.2.1 0)), (1, .int x1)]) (by decide) rfl (Nat.le_of_ble_eq_true rfl) rfl (fun v hv hA => ?_)
  subst hv
  have hA : Act v w RX5 wsX5_babyTells cX5_babyTells 3 (some .int) := hA
  unfold f_X5_babyTells
  refine WO.aload_n (n := 1) hA dX5_babyTells_0 0 rfl rfl ?_
  refine WO.iconst (x := (3 : Int32)) (n := 2) hA dX5_babyTells_1 (by decide) rfl ?_
  refine WO.callVv (As := [.int (3 : Int32)]) (rest := []) (n := 5) hA (c_X5_leave v.2.1 w hw (3 : Int32) M) gX5_babyTells_X5_leave rfl (x_0 hw) rfl mdX5_leave ⟨rfl, rfl, Nat.le_of_ble_eq_true rfl, Nat.le_of_ble_eq_true rfl⟩ rfl rfl (Nat.le_of_ble_eq_true rfl) dX5_babyTells_2 rfl (fun M1 => ?_)
  refine WO.aload_n (n := 6) hA dX5_babyTells_5 0 rfl rfl ?_
  refine WO.iload_n (n := 7) hA dX5_babyTells_6 1 rfl rfl ?_
  refine WO.callVi (As := [.int x1]) (rest := []) (n := 10) hA (c_X5_nervousTells v.2.1 w hw x1 M1) gX5_babyTells_X5_nervousTells rfl (x_0 hw) rfl mdX5_nervousTells ⟨rfl, rfl, Nat.le_of_ble_eq_true rfl, Nat.le_of_ble_eq_true rfl⟩ rfl rfl (Nat.le_of_ble_eq_true rfl) dX5_babyTells_7 rfl (fun r3 M2 => ?_)
  refine WO.istore_n (i := 2) (lv' := [(2, .int r3), (0, .ref (w.2.1 0)), (1, .int x1)]) (n := 11) hA dX5_babyTells_10 rfl (by decide) rfl rfl ?_
  refine WO.iload_n (n := 12) hA dX5_babyTells_11 0 rfl rfl ?_
  refine WO.aload_n (n := 13) hA dX5_babyTells_12 1 rfl rfl ?_
  refine WO.iload_n (n := 14) hA dX5_babyTells_13 2 rfl rfl ?_
  refine WO.callVi (As := [.int x1]) (rest := [.int r3]) (n := 17) hA (c_X5_sleeperTells v.2.1 w hw x1 M2) gX5_babyTells_X5_sleeperTells rfl (x_0 hw) rfl mdX5_sleeperTells ⟨rfl, rfl, Nat.le_of_ble_eq_true rfl, Nat.le_of_ble_eq_true rfl⟩ rfl rfl (Nat.le_of_ble_eq_true rfl) dX5_babyTells_14 rfl (fun r5 M4 => ?_)
  refine WO.iadd (n := 18) hA dX5_babyTells_17 rfl ?_
  exact WO.iret hA dX5_babyTells_18
/- X5_tell -/
abbrev rmX5_tell : Room := { frames := 4, cells := 0, slots := 0, locals := 85 }
theorem mdX5_tell : yX5_tell.cls = RX5 ∧ yX5_tell.cls ≠ "java/lang/invoke/MethodHandle" ∧ yX5_tell.cls ≠ "java/lang/invoke/VarHandle" ∧ (parseMethodDescriptor yX5_tell.desc).map (fun d => d.parameters.length) = some 1 := by decide +kernel
theorem fkX5_tell_12 : Cond.fieldLink RX5 12 (TX5 0).1 (TX5 0).2.1 (TX5 0).2.2.1 ∈ wsX5_tell := by decide +kernel
theorem fiX5_tell_X5 : ∀ q ∈ u_ws RX5 TX5 10, q ∈ wsX5_tell := by decide +kernel
theorem fkX5_tell_95 : Cond.fieldLink RX5 95 (TX3 0).1 (TX3 0).2.1 (TX3 0).2.2.1 ∈ wsX5_tell := by decide +kernel
theorem fiX5_tell_X3 : ∀ q ∈ u_ws RX3 TX3 10, q ∈ wsX5_tell := by decide +kernel
noncomputable def f_X5_tell (x1 : Int32) (M : Mem) : Option (Int32 × Mem) := bd (f_X3_hasHouse 1 x1 M) (fun r2 M1 => if r2 = 0 then (some ((-1 : Int32), M1)) else (grd x1 6 (if (M1 2 x1.toNatClampNeg) = (1 : Int32) then (bd (f_X5_nervousTells x1 M1) (fun r5 M4 => some (r5, M4))) else if (M1 2 x1.toNatClampNeg) = (2 : Int32) then (bd (f_X5_babyTells x1 M1) (fun r8 M7 => some (r8, M7))) else (bd (f_X5_sleeperTells x1 M1) (fun r10 M9 => some (r10, M9))))))
set_option maxHeartbeats 4000000 in
set_option maxRecDepth 100000 in
theorem c_X5_tell (l : Launch) (w : Cw) (hw : w.2.2.2.2.2 = shX) (x1 : Int32) (M : Mem) : Ok l w eI yX5_tell wsX5_tell rmX5_tell [.ref (w.2.1 0), .int x1] M (f_X5_tell x1 M) := by
  refine Ok.of (cc := cX5_tell) (nL := 2) (ret := (some .int)) (lv := [(0, .ref (w.2.1 0)), (1, .int x1)]) (by decide) rfl (Nat.le_of_ble_eq_true rfl) rfl (fun v hv hA => ?_)
  subst hv
  have hA : Act v w RX5 wsX5_tell cX5_tell 2 (some .int) := hA
  unfold f_X5_tell
  refine WO.aload_n (n := 1) hA dX5_tell_0 0 rfl rfl ?_
  refine WO.getR (j := 0) (p := 1) (n := 4) hA (x_0 hw) rfl fiX5_tell_X5 (by decide) rfl fkX5_tell_12 dX5_tell_1 rfl ?_
  refine WO.iload_n (n := 5) hA dX5_tell_4 1 rfl rfl ?_
  refine WO.callVi (As := [.int x1]) (rest := []) (n := 8) hA (c_X3_hasHouse v.2.1 w hw 1 x1 st1 M) gX5_tell_X3_hasHouse rfl (st_0 hw st1) rfl mdX3_hasHouse ⟨rfl, rfl, Nat.le_of_ble_eq_true rfl, Nat.le_of_ble_eq_true rfl⟩ rfl rfl (Nat.le_of_ble_eq_true rfl) dX5_tell_5 rfl (fun r2 M1 => ?_)
  refine WO.if_ne (tg := 13) (n := 11) hA dX5_tell_8 (by decide) rfl (fun _ => ?_) (fun _ => ?_)
  · refine WO.iconst (x := (-1 : Int32)) (n := 12) hA dX5_tell_11 (by decide) rfl ?_
    exact WO.iret hA dX5_tell_12
  · refine WO.aload_n (n := 14) hA dX5_tell_13 0 rfl rfl ?_
    refine WO.getR (j := 0) (p := 1) (n := 17) hA (x_0 hw) rfl fiX5_tell_X5 (by decide) rfl fkX5_tell_12 dX5_tell_14 rfl ?_
    refine WO.getR (j := 0) (p := 2) (n := 20) hA (st_0 hw st1) rfl fiX5_tell_X3 (by decide) rfl fkX5_tell_95 dX5_tell_17 rfl ?_
    refine WO.iload_n (n := 21) hA dX5_tell_20 1 rfl rfl ?_
    refine WO.iald (n := 22) hA (st_1 hw st1) dX5_tell_21 rfl (fun _ => ?_)
    refine WO.ite (fun hs3 => ?_) (fun hs3 => ?_)
    · refine WO.lsw (n := 48) hA dX5_tell_22 (by decide) (by rw [hs3]; decide +kernel : _ = (26 : Int)) (by decide) ?_
      refine WO.aload_n (n := 49) hA dX5_tell_48 0 rfl rfl ?_
      refine WO.iload_n (n := 50) hA dX5_tell_49 1 rfl rfl ?_
      refine WO.callVi (As := [.int x1]) (rest := []) (n := 53) hA (c_X5_nervousTells v.2.1 w hw x1 M1) gX5_tell_X5_nervousTells rfl (x_0 hw) rfl mdX5_nervousTells ⟨rfl, rfl, Nat.le_of_ble_eq_true rfl, Nat.le_of_ble_eq_true rfl⟩ rfl rfl (Nat.le_of_ble_eq_true rfl) dX5_tell_50 rfl (fun r5 M4 => ?_)
      exact WO.iret hA dX5_tell_53
    · refine WO.ite (fun hs6 => ?_) (fun hs6 => ?_)
      · refine WO.lsw (n := 54) hA dX5_tell_22 (by decide) (by rw [hs6]; decide +kernel : _ = (32 : Int)) (by decide) ?_
        refine WO.aload_n (n := 55) hA dX5_tell_54 0 rfl rfl ?_
        refine WO.iload_n (n := 56) hA dX5_tell_55 1 rfl rfl ?_
        refine WO.callVi (As := [.int x1]) (rest := []) (n := 59) hA (c_X5_babyTells v.2.1 w hw x1 M1) gX5_tell_X5_babyTells rfl (x_0 hw) rfl mdX5_babyTells ⟨rfl, rfl, Nat.le_of_ble_eq_true rfl, Nat.le_of_ble_eq_true rfl⟩ rfl rfl (Nat.le_of_ble_eq_true rfl) dX5_tell_56 rfl (fun r8 M7 => ?_)
        exact WO.iret hA dX5_tell_59
      · refine WO.lsw (off := 38) (n := 60) hA dX5_tell_22 (by decide) ((lv_osw hs3 (by decide)).trans ((lv_osw hs6 (by decide)).trans rfl)) (by decide) ?_
        refine WO.aload_n (n := 61) hA dX5_tell_60 0 rfl rfl ?_
        refine WO.iload_n (n := 62) hA dX5_tell_61 1 rfl rfl ?_
        refine WO.callVi (As := [.int x1]) (rest := []) (n := 65) hA (c_X5_sleeperTells v.2.1 w hw x1 M1) gX5_tell_X5_sleeperTells rfl (x_0 hw) rfl mdX5_sleeperTells ⟨rfl, rfl, Nat.le_of_ble_eq_true rfl, Nat.le_of_ble_eq_true rfl⟩ rfl rfl (Nat.le_of_ble_eq_true rfl) dX5_tell_62 rfl (fun r10 M9 => ?_)
        exact WO.iret hA dX5_tell_65
/- X5_babyIsCalled -/
abbrev rmX5_babyIsCalled : Room := { frames := 1, cells := 0, slots := 0, locals := 21 }
theorem mdX5_babyIsCalled : yX5_babyIsCalled.cls = RX5 ∧ yX5_babyIsCalled.cls ≠ "java/lang/invoke/MethodHandle" ∧ yX5_babyIsCalled.cls ≠ "java/lang/invoke/VarHandle" ∧ (parseMethodDescriptor yX5_babyIsCalled.desc).map (fun d => d.parameters.length) = some 0 := by decide +kernel
noncomputable def f_X5_babyIsCalled (M : Mem) : Option (Int32 × Mem) := bd (f_X5_leave (5 : Int32) M) (fun _ M1 => some ((80 : Int32), M1))
set_option maxHeartbeats 4000000 in
set_option maxRecDepth 100000 in
theorem c_X5_babyIsCalled (l : Launch) (w : Cw) (hw : w.2.2.2.2.2 = shX) (M : Mem) : Ok l w eI yX5_babyIsCalled wsX5_babyIsCalled rmX5_babyIsCalled [.ref (w.2.1 0)] M (f_X5_babyIsCalled M) := by
  refine Ok.of (cc := cX5_babyIsCalled) (nL := 1) (ret := (some .int)) (lv := [(0, .ref (w.2.1 0))]) (by decide) rfl (Nat.le_of_ble_eq_true rfl) rfl (fun v hv hA => ?_)
  subst hv
  have hA : Act v w RX5 wsX5_babyIsCalled cX5_babyIsCalled 1 (some .int) := hA
  unfold f_X5_babyIsCalled
  refine WO.aload_n (n := 1) hA dX5_babyIsCalled_0 0 rfl rfl ?_
  refine WO.iconst (x := (5 : Int32)) (n := 2) hA dX5_babyIsCalled_1 (by decide) rfl ?_
  refine WO.callVv (As := [.int (5 : Int32)]) (rest := []) (n := 5) hA (c_X5_leave v.2.1 w hw (5 : Int32) M) gX5_babyIsCalled_X5_leave rfl (x_0 hw) rfl mdX5_leave ⟨rfl, rfl, Nat.le_of_ble_eq_true rfl, Nat.le_of_ble_eq_true rfl⟩ rfl rfl (Nat.le_of_ble_eq_true rfl) dX5_babyIsCalled_2 rfl (fun M1 => ?_)
  refine WO.bipush (x := (80 : Int32)) (n := 7) hA dX5_babyIsCalled_5 (by decide) rfl ?_
  exact WO.iret hA dX5_babyIsCalled_7
/- X5_sleeperIsCalled -/
abbrev rmX5_sleeperIsCalled : Room := { frames := 1, cells := 0, slots := 0, locals := 21 }
theorem mdX5_sleeperIsCalled : yX5_sleeperIsCalled.cls = RX5 ∧ yX5_sleeperIsCalled.cls ≠ "java/lang/invoke/MethodHandle" ∧ yX5_sleeperIsCalled.cls ≠ "java/lang/invoke/VarHandle" ∧ (parseMethodDescriptor yX5_sleeperIsCalled.desc).map (fun d => d.parameters.length) = some 1 := by decide +kernel
noncomputable def f_X5_sleeperIsCalled (x1 : Int32) (M : Mem) : Option (Int32 × Mem) := bd (f_X5_leave (4 : Int32) M) (fun _ M1 => some (x1, M1))
set_option maxHeartbeats 4000000 in
set_option maxRecDepth 100000 in
theorem c_X5_sleeperIsCalled (l : Launch) (w : Cw) (hw : w.2.2.2.2.2 = shX) (x1 : Int32) (M : Mem) : Ok l w eI yX5_sleeperIsCalled wsX5_sleeperIsCalled rmX5_sleeperIsCalled [.ref (w.2.1 0), .int x1] M (f_X5_sleeperIsCalled x1 M) := by
  refine Ok.of (cc := cX5_sleeperIsCalled) (nL := 2) (ret := (some .int)) (lv := [(0, .ref (w.2.1 0)), (1, .int x1)]) (by decide) rfl (Nat.le_of_ble_eq_true rfl) rfl (fun v hv hA => ?_)
  subst hv
  have hA : Act v w RX5 wsX5_sleeperIsCalled cX5_sleeperIsCalled 2 (some .int) := hA
  unfold f_X5_sleeperIsCalled
  refine WO.aload_n (n := 1) hA dX5_sleeperIsCalled_0 0 rfl rfl ?_
  refine WO.iconst (x := (4 : Int32)) (n := 2) hA dX5_sleeperIsCalled_1 (by decide) rfl ?_
  refine WO.callVv (As := [.int (4 : Int32)]) (rest := []) (n := 5) hA (c_X5_leave v.2.1 w hw (4 : Int32) M) gX5_sleeperIsCalled_X5_leave rfl (x_0 hw) rfl mdX5_leave ⟨rfl, rfl, Nat.le_of_ble_eq_true rfl, Nat.le_of_ble_eq_true rfl⟩ rfl rfl (Nat.le_of_ble_eq_true rfl) dX5_sleeperIsCalled_2 rfl (fun M1 => ?_)
  refine WO.iload_n (n := 6) hA dX5_sleeperIsCalled_5 1 rfl rfl ?_
  exact WO.iret hA dX5_sleeperIsCalled_6
/- X5_call -/
abbrev rmX5_call : Room := { frames := 2, cells := 0, slots := 0, locals := 42 }
theorem mdX5_call : yX5_call.cls = RX5 ∧ yX5_call.cls ≠ "java/lang/invoke/MethodHandle" ∧ yX5_call.cls ≠ "java/lang/invoke/VarHandle" ∧ (parseMethodDescriptor yX5_call.desc).map (fun d => d.parameters.length) = some 1 := by decide +kernel
theorem fkX5_call_12 : Cond.fieldLink RX5 12 (TX5 0).1 (TX5 0).2.1 (TX5 0).2.2.1 ∈ wsX5_call := by decide +kernel
theorem fiX5_call_X5 : ∀ q ∈ u_ws RX5 TX5 10, q ∈ wsX5_call := by decide +kernel
theorem fkX5_call_95 : Cond.fieldLink RX5 95 (TX3 0).1 (TX3 0).2.1 (TX3 0).2.2.1 ∈ wsX5_call := by decide +kernel
theorem fiX5_call_X3 : ∀ q ∈ u_ws RX3 TX3 10, q ∈ wsX5_call := by decide +kernel
noncomputable def f_X5_call (x1 : Int32) (M : Mem) : Option (Int32 × Mem) := bd (f_X3_hasHouse 1 x1 M) (fun r2 M1 => if r2 = 0 then (some ((-1 : Int32), M1)) else (grd x1 6 (if (M1 2 x1.toNatClampNeg) = (2 : Int32) then (bd (f_X5_babyIsCalled M1) (fun r4 M3 => some (r4, M3))) else (bd (f_X5_sleeperIsCalled x1 M1) (fun r6 M5 => some (r6, M5))))))
set_option maxHeartbeats 4000000 in
set_option maxRecDepth 100000 in
theorem c_X5_call (l : Launch) (w : Cw) (hw : w.2.2.2.2.2 = shX) (x1 : Int32) (M : Mem) : Ok l w eI yX5_call wsX5_call rmX5_call [.ref (w.2.1 0), .int x1] M (f_X5_call x1 M) := by
  refine Ok.of (cc := cX5_call) (nL := 2) (ret := (some .int)) (lv := [(0, .ref (w.2.1 0)), (1, .int x1)]) (by decide) rfl (Nat.le_of_ble_eq_true rfl) rfl (fun v hv hA => ?_)
  subst hv
  have hA : Act v w RX5 wsX5_call cX5_call 2 (some .int) := hA
  unfold f_X5_call
  refine WO.aload_n (n := 1) hA dX5_call_0 0 rfl rfl ?_
  refine WO.getR (j := 0) (p := 1) (n := 4) hA (x_0 hw) rfl fiX5_call_X5 (by decide) rfl fkX5_call_12 dX5_call_1 rfl ?_
  refine WO.iload_n (n := 5) hA dX5_call_4 1 rfl rfl ?_
  refine WO.callVi (As := [.int x1]) (rest := []) (n := 8) hA (c_X3_hasHouse v.2.1 w hw 1 x1 st1 M) gX5_call_X3_hasHouse rfl (st_0 hw st1) rfl mdX3_hasHouse ⟨rfl, rfl, Nat.le_of_ble_eq_true rfl, Nat.le_of_ble_eq_true rfl⟩ rfl rfl (Nat.le_of_ble_eq_true rfl) dX5_call_5 rfl (fun r2 M1 => ?_)
  refine WO.if_ne (tg := 13) (n := 11) hA dX5_call_8 (by decide) rfl (fun _ => ?_) (fun _ => ?_)
  · refine WO.iconst (x := (-1 : Int32)) (n := 12) hA dX5_call_11 (by decide) rfl ?_
    exact WO.iret hA dX5_call_12
  · refine WO.aload_n (n := 14) hA dX5_call_13 0 rfl rfl ?_
    refine WO.getR (j := 0) (p := 1) (n := 17) hA (x_0 hw) rfl fiX5_call_X5 (by decide) rfl fkX5_call_12 dX5_call_14 rfl ?_
    refine WO.getR (j := 0) (p := 2) (n := 20) hA (st_0 hw st1) rfl fiX5_call_X3 (by decide) rfl fkX5_call_95 dX5_call_17 rfl ?_
    refine WO.iload_n (n := 21) hA dX5_call_20 1 rfl rfl ?_
    refine WO.iald (n := 22) hA (st_1 hw st1) dX5_call_21 rfl (fun _ => ?_)
    refine WO.iconst (x := (2 : Int32)) (n := 23) hA dX5_call_22 (by decide) rfl ?_
    refine WO.icmp_ne (tg := 33) (n := 26) hA dX5_call_23 (by decide) rfl (fun _ => ?_) (fun _ => ?_)
    · refine WO.aload_n (n := 27) hA dX5_call_26 0 rfl rfl ?_
      refine WO.callVi (As := []) (rest := []) (n := 30) hA (c_X5_babyIsCalled v.2.1 w hw M1) gX5_call_X5_babyIsCalled rfl (x_0 hw) rfl mdX5_babyIsCalled ⟨rfl, rfl, Nat.le_of_ble_eq_true rfl, Nat.le_of_ble_eq_true rfl⟩ rfl rfl (Nat.le_of_ble_eq_true rfl) dX5_call_27 rfl (fun r4 M3 => ?_)
      refine WO.goto (n := 38) hA dX5_call_30 (by decide) ?_
      exact WO.iret hA dX5_call_38
    · refine WO.aload_n (n := 34) hA dX5_call_33 0 rfl rfl ?_
      refine WO.iload_n (n := 35) hA dX5_call_34 1 rfl rfl ?_
      refine WO.callVi (As := [.int x1]) (rest := []) (n := 38) hA (c_X5_sleeperIsCalled v.2.1 w hw x1 M1) gX5_call_X5_sleeperIsCalled rfl (x_0 hw) rfl mdX5_sleeperIsCalled ⟨rfl, rfl, Nat.le_of_ble_eq_true rfl, Nat.le_of_ble_eq_true rfl⟩ rfl rfl (Nat.le_of_ble_eq_true rfl) dX5_call_35 rfl (fun r6 M5 => ?_)
      exact WO.iret hA dX5_call_38
/- X5_as -/
abbrev rmX5_as : Room := { frames := 1, cells := 0, slots := 0, locals := 21 }
theorem mdX5_as : yX5_as.cls = RX5 ∧ yX5_as.cls ≠ "java/lang/invoke/MethodHandle" ∧ yX5_as.cls ≠ "java/lang/invoke/VarHandle" ∧ (parseMethodDescriptor yX5_as.desc).map (fun d => d.parameters.length) = some 2 := by decide +kernel
theorem fkX5_as_53 : Cond.fieldLink RX5 53 (TX5 9).1 (TX5 9).2.1 (TX5 9).2.2.1 ∈ wsX5_as := by decide +kernel
theorem fiX5_as_X5 : ∀ q ∈ u_ws RX5 TX5 10, q ∈ wsX5_as := by decide +kernel
theorem fkX5_as_12 : Cond.fieldLink RX5 12 (TX5 0).1 (TX5 0).2.1 (TX5 0).2.2.1 ∈ wsX5_as := by decide +kernel
theorem fkX5_as_95 : Cond.fieldLink RX5 95 (TX3 0).1 (TX3 0).2.1 (TX3 0).2.2.1 ∈ wsX5_as := by decide +kernel
theorem fiX5_as_X3 : ∀ q ∈ u_ws RX3 TX3 10, q ∈ wsX5_as := by decide +kernel
noncomputable def f_X5_as (x1 : Int32) (x2 : Int32) (M : Mem) : Option (Int32 × Mem) := mlt (mu M 0 9 (0 : Int32)) (fun M1 => bd (f_X3_hasHouse 1 x1 M1) (fun r3 M2 => if r3 = 0 then (some ((-1 : Int32), M2)) else (if x2 < 0 then (some ((-2 : Int32), M2)) else (if x2 ≤ (2 : Int32) then (grd x1 6 (if x2 ≤ (M2 2 x1.toNatClampNeg) then (some ((1 : Int32), M2)) else (bd (f_X5_faulty (2 : Int32) M2) (fun r5 M4 => some (r5, M4))))) else (some ((-2 : Int32), M2))))))
set_option maxHeartbeats 4000000 in
set_option maxRecDepth 100000 in
theorem c_X5_as (l : Launch) (w : Cw) (hw : w.2.2.2.2.2 = shX) (x1 : Int32) (x2 : Int32) (M : Mem) : Ok l w eI yX5_as wsX5_as rmX5_as [.ref (w.2.1 0), .int x1, .int x2] M (f_X5_as x1 x2 M) := by
  refine Ok.of (cc := cX5_as) (nL := 3) (ret := (some .int)) (lv := [(0, .ref (w.2.1 0)), (1, .int x1), (2, .int x2)]) (by decide) rfl (Nat.le_of_ble_eq_true rfl) rfl (fun v hv hA => ?_)
  subst hv
  have hA : Act v w RX5 wsX5_as cX5_as 3 (some .int) := hA
  unfold f_X5_as
  refine WO.aload_n (n := 1) hA dX5_as_0 0 rfl rfl ?_
  refine WO.iconst (x := (0 : Int32)) (n := 2) hA dX5_as_1 (by decide) rfl ?_
  refine WO.putI (j := 9) (n := 5) hA (x_0 hw) rfl fiX5_as_X5 tyX5 tyX5_ok nmX5 (by decide) rfl fkX5_as_53 rfl rfl rfl rfl dX5_as_2 rfl ?_
  refine WO.mem (fun M1 => ?_)
  refine WO.aload_n (n := 6) hA dX5_as_5 0 rfl rfl ?_
  refine WO.getR (j := 0) (p := 1) (n := 9) hA (x_0 hw) rfl fiX5_as_X5 (by decide) rfl fkX5_as_12 dX5_as_6 rfl ?_
  refine WO.iload_n (n := 10) hA dX5_as_9 1 rfl rfl ?_
  refine WO.callVi (As := [.int x1]) (rest := []) (n := 13) hA (c_X3_hasHouse v.2.1 w hw 1 x1 st1 M1) gX5_as_X3_hasHouse rfl (st_0 hw st1) rfl mdX3_hasHouse ⟨rfl, rfl, Nat.le_of_ble_eq_true rfl, Nat.le_of_ble_eq_true rfl⟩ rfl rfl (Nat.le_of_ble_eq_true rfl) dX5_as_10 rfl (fun r3 M2 => ?_)
  refine WO.if_ne (tg := 18) (n := 16) hA dX5_as_13 (by decide) rfl (fun _ => ?_) (fun _ => ?_)
  · refine WO.iconst (x := (-1 : Int32)) (n := 17) hA dX5_as_16 (by decide) rfl ?_
    exact WO.iret hA dX5_as_17
  · refine WO.iload_n (n := 19) hA dX5_as_18 2 rfl rfl ?_
    refine WO.if_lt (tg := 27) (n := 22) hA dX5_as_19 (by decide) rfl (fun _ => ?_) (fun _ => ?_)
    · refine WO.bipush (x := (-2 : Int32)) (n := 29) hA dX5_as_27 (by decide) rfl ?_
      exact WO.iret hA dX5_as_29
    · refine WO.iload_n (n := 23) hA dX5_as_22 2 rfl rfl ?_
      refine WO.iconst (x := (2 : Int32)) (n := 24) hA dX5_as_23 (by decide) rfl ?_
      refine WO.icmp_le (tg := 30) (n := 27) hA dX5_as_24 (by decide) rfl (fun _ => ?_) (fun _ => ?_)
      · refine WO.aload_n (n := 31) hA dX5_as_30 0 rfl rfl ?_
        refine WO.getR (j := 0) (p := 1) (n := 34) hA (x_0 hw) rfl fiX5_as_X5 (by decide) rfl fkX5_as_12 dX5_as_31 rfl ?_
        refine WO.getR (j := 0) (p := 2) (n := 37) hA (st_0 hw st1) rfl fiX5_as_X3 (by decide) rfl fkX5_as_95 dX5_as_34 rfl ?_
        refine WO.iload_n (n := 38) hA dX5_as_37 1 rfl rfl ?_
        refine WO.iald (n := 39) hA (st_1 hw st1) dX5_as_38 rfl (fun _ => ?_)
        refine WO.iload_n (n := 40) hA dX5_as_39 2 rfl rfl ?_
        refine WO.icmp_ge (tg := 51) (n := 43) hA dX5_as_40 (by decide) rfl (fun _ => ?_) (fun _ => ?_)
        · refine WO.iconst (x := (1 : Int32)) (n := 52) hA dX5_as_51 (by decide) rfl ?_
          exact WO.iret hA dX5_as_52
        · refine WO.aload_n (n := 44) hA dX5_as_43 0 rfl rfl ?_
          refine WO.iconst (x := (2 : Int32)) (n := 45) hA dX5_as_44 (by decide) rfl ?_
          refine WO.callVi (As := [.int (2 : Int32)]) (rest := []) (n := 48) hA (c_X5_faulty v.2.1 w hw (2 : Int32) M2) gX5_as_X5_faulty rfl (x_0 hw) rfl mdX5_faulty ⟨rfl, rfl, Nat.le_of_ble_eq_true rfl, Nat.le_of_ble_eq_true rfl⟩ rfl rfl (Nat.le_of_ble_eq_true rfl) dX5_as_45 rfl (fun r5 M4 => ?_)
          refine WO.goto (n := 52) hA dX5_as_48 (by decide) ?_
          exact WO.iret hA dX5_as_52
      · refine WO.bipush (x := (-2 : Int32)) (n := 29) hA dX5_as_27 (by decide) rfl ?_
        exact WO.iret hA dX5_as_29
