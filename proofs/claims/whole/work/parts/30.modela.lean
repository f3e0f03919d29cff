/- X6_fails -/
abbrev rmX6_fails : Room := { frames := 0, cells := 0, slots := 0, locals := 0 }
theorem mdX6_fails : yX6_fails.cls = RX6 ∧ yX6_fails.cls ≠ "java/lang/invoke/MethodHandle" ∧ yX6_fails.cls ≠ "java/lang/invoke/VarHandle" ∧ (parseMethodDescriptor yX6_fails.desc).map (fun d => d.parameters.length) = some 1 := by decide +kernel
theorem fkX6_fails_58 : Cond.fieldLink RX6 58 (TX6 0).1 (TX6 0).2.1 (TX6 0).2.2.1 ∈ wsX6_fails := by decide +kernel
theorem fiX6_fails_X6 : ∀ q ∈ u_ws RX6 TX6 30, q ∈ wsX6_fails := by decide +kernel
noncomputable def f_X6_fails (x1 : Int32) (M : Mem) : Option (Int32 × Mem) := mlt (mu M 0 0 x1) (fun M1 => some (((-10 : Int32) - x1), M1))
set_option maxHeartbeats 4000000 in
set_option maxRecDepth 100000 in
theorem c_X6_fails (l : Launch) (w : Cw) (hw : w.2.2.2.2.2 = shM) (x1 : Int32) (M : Mem) : Ok l w eI yX6_fails wsX6_fails rmX6_fails [.ref (w.2.1 0), .int x1] M (f_X6_fails x1 M) := by
  refine Ok.of (cc := cX6_fails) (nL := 2) (ret := (some .int)) (lv := [(0, .ref (w.2.1 0)), (1, .int x1)]) (by decide) rfl (Nat.le_of_ble_eq_true rfl) rfl (fun v hv hA => ?_)
  subst hv
  have hA : Act v w RX6 wsX6_fails cX6_fails 2 (some .int) := hA
  unfold f_X6_fails
  refine WO.aload_n (n := 1) hA dX6_fails_0 0 rfl rfl ?_
  refine WO.iload_n (n := 2) hA dX6_fails_1 1 rfl rfl ?_
  refine WO.putI (j := 0) (n := 5) hA (m_0 hw) rfl fiX6_fails_X6 tyX6 tyX6_ok nmX6 (by decide) rfl fkX6_fails_58 rfl rfl rfl rfl dX6_fails_2 rfl ?_
  refine WO.mem (fun M1 => ?_)
  refine WO.bipush (x := (-10 : Int32)) (n := 7) hA dX6_fails_5 (by decide) rfl ?_
  refine WO.iload_n (n := 8) hA dX6_fails_7 1 rfl rfl ?_
  refine WO.isub (n := 9) hA dX6_fails_8 rfl ?_
  exact WO.iret hA dX6_fails_9
/- X6_lost -/
abbrev rmX6_lost : Room := { frames := 0, cells := 0, slots := 0, locals := 0 }
theorem mdX6_lost : yX6_lost.cls = RX6 ∧ yX6_lost.cls ≠ "java/lang/invoke/MethodHandle" ∧ yX6_lost.cls ≠ "java/lang/invoke/VarHandle" ∧ (parseMethodDescriptor yX6_lost.desc).map (fun d => d.parameters.length) = some 1 := by decide +kernel
theorem fkX6_lost_58 : Cond.fieldLink RX6 58 (TX6 0).1 (TX6 0).2.1 (TX6 0).2.2.1 ∈ wsX6_lost := by decide +kernel
theorem fiX6_lost_X6 : ∀ q ∈ u_ws RX6 TX6 30, q ∈ wsX6_lost := by decide +kernel
theorem kkX6_lost_62 : Jvm.Cond.constantLong RX6 62 (-9223372036854775808 : Int64) ∈ wsX6_lost := by decide +kernel
noncomputable def f_X6_lost (x1 : Int32) (M : Mem) : Option (Int64 × Mem) := mlt (mu M 0 0 x1) (fun M1 => some ((-9223372036854775808 : Int64), M1))
set_option maxHeartbeats 4000000 in
set_option maxRecDepth 100000 in
theorem c_X6_lost (l : Launch) (w : Cw) (hw : w.2.2.2.2.2 = shM) (x1 : Int32) (M : Mem) : Ok l w eL yX6_lost wsX6_lost rmX6_lost [.ref (w.2.1 0), .int x1] M (f_X6_lost x1 M) := by
  refine Ok.of (cc := cX6_lost) (nL := 2) (ret := (some .long)) (lv := [(0, .ref (w.2.1 0)), (1, .int x1)]) (by decide) rfl (Nat.le_of_ble_eq_true rfl) rfl (fun v hv hA => ?_)
  subst hv
  have hA : Act v w RX6 wsX6_lost cX6_lost 2 (some .long) := hA
  unfold f_X6_lost
  refine WO.aload_n (n := 1) hA dX6_lost_0 0 rfl rfl ?_
  refine WO.iload_n (n := 2) hA dX6_lost_1 1 rfl rfl ?_
  refine WO.putI (j := 0) (n := 5) hA (m_0 hw) rfl fiX6_lost_X6 tyX6 tyX6_ok nmX6 (by decide) rfl fkX6_lost_58 rfl rfl rfl rfl dX6_lost_2 rfl ?_
  refine WO.mem (fun M1 => ?_)
  refine WO.ldc2 (n := 8) hA kkX6_lost_62 dX6_lost_5 rfl ?_
  exact WO.lret hA dX6_lost_8
/- X6_within -/
abbrev rmX6_within : Room := { frames := 0, cells := 0, slots := 0, locals := 0 }
theorem mdX6_within : yX6_within.cls ≠ "java/lang/invoke/MethodHandle" ∧ yX6_within.cls ≠ "java/lang/invoke/VarHandle" ∧ (parseMethodDescriptor yX6_within.desc).map (fun d => d.parameters.length) = some 3 := by decide +kernel
noncomputable def f_X6_within (x0 : Int32) (x1 : Int32) (x2 : Int32) (M : Mem) : Option (Int32 × Mem) := if x0 < x1 then (some ((0 : Int32), M)) else (if x2 < x0 then (some ((0 : Int32), M)) else (some ((1 : Int32), M)))
set_option maxHeartbeats 4000000 in
set_option maxRecDepth 100000 in
theorem c_X6_within (l : Launch) (w : Cw) (hw : w.2.2.2.2.2 = shM) (x0 : Int32) (x1 : Int32) (x2 : Int32) (M : Mem) : Ok l w eI yX6_within wsX6_within rmX6_within [.int x0, .int x1, .int x2] M (f_X6_within x0 x1 x2 M) := by
  refine Ok.of (cc := cX6_within) (nL := 3) (ret := (some .boolean)) (lv := [(0, .int x0), (1, .int x1), (2, .int x2)]) (by decide) rfl (Nat.le_of_ble_eq_true rfl) rfl (fun v hv hA => ?_)
  subst hv
  have hA : Act v w RX6 wsX6_within cX6_within 3 (some .boolean) := hA
  unfold f_X6_within
  refine WO.iload_n (n := 1) hA dX6_within_0 0 rfl rfl ?_
  refine WO.iload_n (n := 2) hA dX6_within_1 1 rfl rfl ?_
  refine WO.icmp_lt (tg := 14) (n := 5) hA dX6_within_2 (by decide) rfl (fun _ => ?_) (fun _ => ?_)
  · refine WO.iconst (x := (0 : Int32)) (n := 15) hA dX6_within_14 (by decide) rfl ?_
    exact WO.zretc hA (by decide) dX6_within_15
  · refine WO.iload_n (n := 6) hA dX6_within_5 0 rfl rfl ?_
    refine WO.iload_n (n := 7) hA dX6_within_6 2 rfl rfl ?_
    refine WO.icmp_gt (tg := 14) (n := 10) hA dX6_within_7 (by decide) rfl (fun _ => ?_) (fun _ => ?_)
    · refine WO.iconst (x := (0 : Int32)) (n := 15) hA dX6_within_14 (by decide) rfl ?_
      exact WO.zretc hA (by decide) dX6_within_15
    · refine WO.iconst (x := (1 : Int32)) (n := 11) hA dX6_within_10 (by decide) rfl ?_
      refine WO.goto (n := 15) hA dX6_within_11 (by decide) ?_
      exact WO.zretc hA (by decide) dX6_within_15
/- X6_isSheet -/
abbrev rmX6_isSheet : Room := { frames := 1, cells := 0, slots := 0, locals := 22 }
theorem mdX6_isSheet : yX6_isSheet.cls ≠ "java/lang/invoke/MethodHandle" ∧ yX6_isSheet.cls ≠ "java/lang/invoke/VarHandle" ∧ (parseMethodDescriptor yX6_isSheet.desc).map (fun d => d.parameters.length) = some 1 := by decide +kernel
noncomputable def f_X6_isSheet (x0 : Int32) (M : Mem) : Option (Int32 × Mem) := bd (f_X6_within x0 (0 : Int32) (3 : Int32) M) (fun r2 M1 => zck r2 (some (r2, M1)))
set_option maxHeartbeats 4000000 in
set_option maxRecDepth 100000 in
theorem c_X6_isSheet (l : Launch) (w : Cw) (hw : w.2.2.2.2.2 = shM) (x0 : Int32) (M : Mem) : Ok l w eI yX6_isSheet wsX6_isSheet rmX6_isSheet [.int x0] M (f_X6_isSheet x0 M) := by
  refine Ok.of (cc := cX6_isSheet) (nL := 1) (ret := (some .boolean)) (lv := [(0, .int x0)]) (by decide) rfl (Nat.le_of_ble_eq_true rfl) rfl (fun v hv hA => ?_)
  subst hv
  have hA : Act v w RX6 wsX6_isSheet cX6_isSheet 1 (some .boolean) := hA
  unfold f_X6_isSheet
  refine WO.iload_n (n := 1) hA dX6_isSheet_0 0 rfl rfl ?_
  refine WO.iconst (x := (0 : Int32)) (n := 2) hA dX6_isSheet_1 (by decide) rfl ?_
  refine WO.iconst (x := (3 : Int32)) (n := 3) hA dX6_isSheet_2 (by decide) rfl ?_
  refine WO.callSi (As := [.int x0, .int (0 : Int32), .int (3 : Int32)]) (rest := []) (n := 6) hA (c_X6_within v.2.1 w hw x0 (0 : Int32) (3 : Int32) M) gX6_isSheet_X6_within rfl mdX6_within ⟨rfl, rfl, Nat.le_of_ble_eq_true rfl, Nat.le_of_ble_eq_true rfl⟩ rfl rfl (Nat.le_of_ble_eq_true rfl) dX6_isSheet_3 rfl (fun r2 M1 => ?_)
  exact WO.zret hA dX6_isSheet_6
/- X6_isSort -/
abbrev rmX6_isSort : Room := { frames := 1, cells := 0, slots := 0, locals := 22 }
theorem mdX6_isSort : yX6_isSort.cls ≠ "java/lang/invoke/MethodHandle" ∧ yX6_isSort.cls ≠ "java/lang/invoke/VarHandle" ∧ (parseMethodDescriptor yX6_isSort.desc).map (fun d => d.parameters.length) = some 1 := by decide +kernel
noncomputable def f_X6_isSort (x0 : Int32) (M : Mem) : Option (Int32 × Mem) := bd (f_X6_within x0 (0 : Int32) (2 : Int32) M) (fun r2 M1 => zck r2 (some (r2, M1)))
set_option maxHeartbeats 4000000 in
set_option maxRecDepth 100000 in
theorem c_X6_isSort (l : Launch) (w : Cw) (hw : w.2.2.2.2.2 = shM) (x0 : Int32) (M : Mem) : Ok l w eI yX6_isSort wsX6_isSort rmX6_isSort [.int x0] M (f_X6_isSort x0 M) := by
  refine Ok.of (cc := cX6_isSort) (nL := 1) (ret := (some .boolean)) (lv := [(0, .int x0)]) (by decide) rfl (Nat.le_of_ble_eq_true rfl) rfl (fun v hv hA => ?_)
  subst hv
  have hA : Act v w RX6 wsX6_isSort cX6_isSort 1 (some .boolean) := hA
  unfold f_X6_isSort
  refine WO.iload_n (n := 1) hA dX6_isSort_0 0 rfl rfl ?_
  refine WO.iconst (x := (0 : Int32)) (n := 2) hA dX6_isSort_1 (by decide) rfl ?_
  refine WO.iconst (x := (2 : Int32)) (n := 3) hA dX6_isSort_2 (by decide) rfl ?_
  refine WO.callSi (As := [.int x0, .int (0 : Int32), .int (2 : Int32)]) (rest := []) (n := 6) hA (c_X6_within v.2.1 w hw x0 (0 : Int32) (2 : Int32) M) gX6_isSort_X6_within rfl mdX6_within ⟨rfl, rfl, Nat.le_of_ble_eq_true rfl, Nat.le_of_ble_eq_true rfl⟩ rfl rfl (Nat.le_of_ble_eq_true rfl) dX6_isSort_3 rfl (fun r2 M1 => ?_)
  exact WO.zret hA dX6_isSort_6
/- X6_against -/
abbrev rmX6_against : Room := { frames := 0, cells := 0, slots := 0, locals := 0 }
theorem mdX6_against : yX6_against.cls = RX6 ∧ yX6_against.cls ≠ "java/lang/invoke/MethodHandle" ∧ yX6_against.cls ≠ "java/lang/invoke/VarHandle" ∧ (parseMethodDescriptor yX6_against.desc).map (fun d => d.parameters.length) = some 4 := by decide +kernel
theorem fkX6_against_9 : Cond.fieldLink RX6 9 (TX6 2).1 (TX6 2).2.1 (TX6 2).2.2.1 ∈ wsX6_against := by decide +kernel
theorem fiX6_against_X6 : ∀ q ∈ u_ws RX6 TX6 30, q ∈ wsX6_against := by decide +kernel
theorem fkX6_against_13 : Cond.fieldLink RX6 13 (TX6 3).1 (TX6 3).2.1 (TX6 3).2.2.1 ∈ wsX6_against := by decide +kernel
noncomputable def f_X6_against (x1 : Int32) (x2 : Int32) (x3 : Int32) (x4 : Int32) (M : Mem) : Option (Int32 × Mem) := grd x1 4 (if (M 1 x1.toNatClampNeg) = (-9 : Int32) then (grd x1 4 (if (M 1 x1.toNatClampNeg) = (-9 : Int32) then (some ((1 : Int32), M)) else (if 0 ≤ x4 then (if x3 < 0 then (some ((3 : Int32), M)) else (grd x1 4 (if (M 2 x1.toNatClampNeg) < x3 then (some ((3 : Int32), M)) else (grd x1 4 (if x4 ≤ ((M 2 x1.toNatClampNeg) - x3) then (some ((0 : Int32), M)) else (some ((3 : Int32), M))))))) else (some ((4 : Int32), M))))) else (grd x1 4 (if (M 1 x1.toNatClampNeg) = x2 then (grd x1 4 (if (M 1 x1.toNatClampNeg) = (-9 : Int32) then (some ((1 : Int32), M)) else (if 0 ≤ x4 then (if x3 < 0 then (some ((3 : Int32), M)) else (grd x1 4 (if (M 2 x1.toNatClampNeg) < x3 then (some ((3 : Int32), M)) else (grd x1 4 (if x4 ≤ ((M 2 x1.toNatClampNeg) - x3) then (some ((0 : Int32), M)) else (some ((3 : Int32), M))))))) else (some ((4 : Int32), M))))) else (some ((2 : Int32), M)))))
set_option maxHeartbeats 4000000 in
set_option maxRecDepth 100000 in
theorem c_X6_against (l : Launch) (w : Cw) (hw : w.2.2.2.2.2 = shM) (x1 : Int32) (x2 : Int32) (x3 : Int32) (x4 : Int32) (M : Mem) : Ok l w eI yX6_against wsX6_against rmX6_against [.ref (w.2.1 0), .int x1, .int x2, .int x3, .int x4] M (f_X6_against x1 x2 x3 x4 M) := by
  refine Ok.of (cc := cX6_against) (nL := 5) (ret := (some .int)) (lv := [(0, .ref (w.2.1 0)), (1, .int x1), (2, .int x2), (3, .int x3), (4, .int x4)]) (by decide) rfl (Nat.le_of_ble_eq_true rfl) rfl (fun v hv hA => ?_)
  subst hv
  have hA : Act v w RX6 wsX6_against cX6_against 5 (some .int) := hA
  unfold f_X6_against
  refine WO.aload_n (n := 1) hA dX6_against_0 0 rfl rfl ?_
  refine WO.getR (j := 2) (p := 1) (n := 4) hA (m_0 hw) rfl fiX6_against_X6 (by decide) rfl fkX6_against_9 dX6_against_1 rfl ?_
  refine WO.iload_n (n := 5) hA dX6_against_4 1 rfl rfl ?_
  refine WO.iald (n := 6) hA (m_1 hw) dX6_against_5 rfl (fun _ => ?_)
  refine WO.bipush (x := (-9 : Int32)) (n := 8) hA dX6_against_6 (by decide) rfl ?_
  refine WO.icmp_eq (tg := 23) (n := 11) hA dX6_against_8 (by decide) rfl (fun _ => ?_) (fun _ => ?_)
  · refine WO.aload_n (n := 24) hA dX6_against_23 0 rfl rfl ?_
    refine WO.getR (j := 2) (p := 1) (n := 27) hA (m_0 hw) rfl fiX6_against_X6 (by decide) rfl fkX6_against_9 dX6_against_24 rfl ?_
    refine WO.iload_n (n := 28) hA dX6_against_27 1 rfl rfl ?_
    refine WO.iald (n := 29) hA (m_1 hw) dX6_against_28 rfl (fun _ => ?_)
    refine WO.bipush (x := (-9 : Int32)) (n := 31) hA dX6_against_29 (by decide) rfl ?_
    refine WO.icmp_ne (tg := 36) (n := 34) hA dX6_against_31 (by decide) rfl (fun _ => ?_) (fun _ => ?_)
    · refine WO.iconst (x := (1 : Int32)) (n := 35) hA dX6_against_34 (by decide) rfl ?_
      exact WO.iret hA dX6_against_35
    · refine WO.iload (n := 38) hA dX6_against_36 4 rfl rfl ?_
      refine WO.if_ge (tg := 43) (n := 41) hA dX6_against_38 (by decide) rfl (fun _ => ?_) (fun _ => ?_)
      · refine WO.iload_n (n := 44) hA dX6_against_43 3 rfl rfl ?_
        refine WO.if_lt (tg := 70) (n := 47) hA dX6_against_44 (by decide) rfl (fun _ => ?_) (fun _ => ?_)
        · refine WO.iconst (x := (3 : Int32)) (n := 71) hA dX6_against_70 (by decide) rfl ?_
          refine WO.goto (n := 75) hA dX6_against_71 (by decide) ?_
          exact WO.iret hA dX6_against_75
        · refine WO.iload_n (n := 48) hA dX6_against_47 3 rfl rfl ?_
          refine WO.aload_n (n := 49) hA dX6_against_48 0 rfl rfl ?_
          refine WO.getR (j := 3) (p := 2) (n := 52) hA (m_0 hw) rfl fiX6_against_X6 (by decide) rfl fkX6_against_13 dX6_against_49 rfl ?_
          refine WO.iload_n (n := 53) hA dX6_against_52 1 rfl rfl ?_
          refine WO.iald (n := 54) hA (m_2 hw) dX6_against_53 rfl (fun _ => ?_)
          refine WO.icmp_gt (tg := 70) (n := 57) hA dX6_against_54 (by decide) rfl (fun _ => ?_) (fun _ => ?_)
          · refine WO.iconst (x := (3 : Int32)) (n := 71) hA dX6_against_70 (by decide) rfl ?_
            refine WO.goto (n := 75) hA dX6_against_71 (by decide) ?_
            exact WO.iret hA dX6_against_75
          · refine WO.iload (n := 59) hA dX6_against_57 4 rfl rfl ?_
            refine WO.aload_n (n := 60) hA dX6_against_59 0 rfl rfl ?_
            refine WO.getR (j := 3) (p := 2) (n := 63) hA (m_0 hw) rfl fiX6_against_X6 (by decide) rfl fkX6_against_13 dX6_against_60 rfl ?_
            refine WO.iload_n (n := 64) hA dX6_against_63 1 rfl rfl ?_
            refine WO.iald (n := 65) hA (m_2 hw) dX6_against_64 rfl (fun _ => ?_)
            refine WO.iload_n (n := 66) hA dX6_against_65 3 rfl rfl ?_
            refine WO.isub (n := 67) hA dX6_against_66 rfl ?_
            refine WO.icmp_le (tg := 74) (n := 70) hA dX6_against_67 (by decide) rfl (fun _ => ?_) (fun _ => ?_)
            · refine WO.iconst (x := (0 : Int32)) (n := 75) hA dX6_against_74 (by decide) rfl ?_
              exact WO.iret hA dX6_against_75
            · refine WO.iconst (x := (3 : Int32)) (n := 71) hA dX6_against_70 (by decide) rfl ?_
              refine WO.goto (n := 75) hA dX6_against_71 (by decide) ?_
              exact WO.iret hA dX6_against_75
      · refine WO.iconst (x := (4 : Int32)) (n := 42) hA dX6_against_41 (by decide) rfl ?_
        exact WO.iret hA dX6_against_42
  · refine WO.aload_n (n := 12) hA dX6_against_11 0 rfl rfl ?_
    refine WO.getR (j := 2) (p := 1) (n := 15) hA (m_0 hw) rfl fiX6_against_X6 (by decide) rfl fkX6_against_9 dX6_against_12 rfl ?_
    refine WO.iload_n (n := 16) hA dX6_against_15 1 rfl rfl ?_
    refine WO.iald (n := 17) hA (m_1 hw) dX6_against_16 rfl (fun _ => ?_)
    refine WO.iload_n (n := 18) hA dX6_against_17 2 rfl rfl ?_
    refine WO.icmp_eq (tg := 23) (n := 21) hA dX6_against_18 (by decide) rfl (fun _ => ?_) (fun _ => ?_)
    · refine WO.aload_n (n := 24) hA dX6_against_23 0 rfl rfl ?_
      refine WO.getR (j := 2) (p := 1) (n := 27) hA (m_0 hw) rfl fiX6_against_X6 (by decide) rfl fkX6_against_9 dX6_against_24 rfl ?_
      refine WO.iload_n (n := 28) hA dX6_against_27 1 rfl rfl ?_
      refine WO.iald (n := 29) hA (m_1 hw) dX6_against_28 rfl (fun _ => ?_)
      refine WO.bipush (x := (-9 : Int32)) (n := 31) hA dX6_against_29 (by decide) rfl ?_
      refine WO.icmp_ne (tg := 36) (n := 34) hA dX6_against_31 (by decide) rfl (fun _ => ?_) (fun _ => ?_)
      · refine WO.iconst (x := (1 : Int32)) (n := 35) hA dX6_against_34 (by decide) rfl ?_
        exact WO.iret hA dX6_against_35
      · refine WO.iload (n := 38) hA dX6_against_36 4 rfl rfl ?_
        refine WO.if_ge (tg := 43) (n := 41) hA dX6_against_38 (by decide) rfl (fun _ => ?_) (fun _ => ?_)
        · refine WO.iload_n (n := 44) hA dX6_against_43 3 rfl rfl ?_
          refine WO.if_lt (tg := 70) (n := 47) hA dX6_against_44 (by decide) rfl (fun _ => ?_) (fun _ => ?_)
          · refine WO.iconst (x := (3 : Int32)) (n := 71) hA dX6_against_70 (by decide) rfl ?_
            refine WO.goto (n := 75) hA dX6_against_71 (by decide) ?_
            exact WO.iret hA dX6_against_75
          · refine WO.iload_n (n := 48) hA dX6_against_47 3 rfl rfl ?_
            refine WO.aload_n (n := 49) hA dX6_against_48 0 rfl rfl ?_
            refine WO.getR (j := 3) (p := 2) (n := 52) hA (m_0 hw) rfl fiX6_against_X6 (by decide) rfl fkX6_against_13 dX6_against_49 rfl ?_
            refine WO.iload_n (n := 53) hA dX6_against_52 1 rfl rfl ?_
            refine WO.iald (n := 54) hA (m_2 hw) dX6_against_53 rfl (fun _ => ?_)
            refine WO.icmp_gt (tg := 70) (n := 57) hA dX6_against_54 (by decide) rfl (fun _ => ?_) (fun _ => ?_)
            · refine WO.iconst (x := (3 : Int32)) (n := 71) hA dX6_against_70 (by decide) rfl ?_
              refine WO.goto (n := 75) hA dX6_against_71 (by decide) ?_
              exact WO.iret hA dX6_against_75
            · refine WO.iload (n := 59) hA dX6_against_57 4 rfl rfl ?_
              refine WO.aload_n (n := 60) hA dX6_against_59 0 rfl rfl ?_
              refine WO.getR (j := 3) (p := 2) (n := 63) hA (m_0 hw) rfl fiX6_against_X6 (by decide) rfl fkX6_against_13 dX6_against_60 rfl ?_
              refine WO.iload_n (n := 64) hA dX6_against_63 1 rfl rfl ?_
              refine WO.iald (n := 65) hA (m_2 hw) dX6_against_64 rfl (fun _ => ?_)
              refine WO.iload_n (n := 66) hA dX6_against_65 3 rfl rfl ?_
              refine WO.isub (n := 67) hA dX6_against_66 rfl ?_
              refine WO.icmp_le (tg := 74) (n := 70) hA dX6_against_67 (by decide) rfl (fun _ => ?_) (fun _ => ?_)
              · refine WO.iconst (x := (0 : Int32)) (n := 75) hA dX6_against_74 (by decide) rfl ?_
                exact WO.iret hA dX6_against_75
              · refine WO.iconst (x := (3 : Int32)) (n := 71) hA dX6_against_70 (by decide) rfl ?_
                refine WO.goto (n := 75) hA dX6_against_71 (by decide) ?_
                exact WO.iret hA dX6_against_75
        · refine WO.iconst (x := (4 : Int32)) (n := 42) hA dX6_against_41 (by decide) rfl ?_
          exact WO.iret hA dX6_against_42
    · refine WO.iconst (x := (2 : Int32)) (n := 22) hA dX6_against_21 (by decide) rfl ?_
      exact WO.iret hA dX6_against_22
/- X6_isHouse -/
abbrev rmX6_isHouse : Room := { frames := 0, cells := 0, slots := 0, locals := 0 }
theorem mdX6_isHouse : yX6_isHouse.cls = RX6 ∧ yX6_isHouse.cls ≠ "java/lang/invoke/MethodHandle" ∧ yX6_isHouse.cls ≠ "java/lang/invoke/VarHandle" ∧ (parseMethodDescriptor yX6_isHouse.desc).map (fun d => d.parameters.length) = some 1 := by decide +kernel
theorem fkX6_isHouse_68 : Cond.fieldLink RX6 68 (TX6 6).1 (TX6 6).2.1 (TX6 6).2.2.1 ∈ wsX6_isHouse := by decide +kernel
theorem fiX6_isHouse_X6 : ∀ q ∈ u_ws RX6 TX6 30, q ∈ wsX6_isHouse := by decide +kernel
noncomputable def f_X6_isHouse (x1 : Int32) (M : Mem) : Option (Int32 × Mem) := if x1 < 0 then (some ((0 : Int32), M)) else (if (M 0 6) ≤ x1 then (some ((0 : Int32), M)) else (some ((1 : Int32), M)))
set_option maxHeartbeats 4000000 in
set_option maxRecDepth 100000 in
theorem c_X6_isHouse (l : Launch) (w : Cw) (hw : w.2.2.2.2.2 = shM) (x1 : Int32) (M : Mem) : Ok l w eI yX6_isHouse wsX6_isHouse rmX6_isHouse [.ref (w.2.1 0), .int x1] M (f_X6_isHouse x1 M) := by
  refine Ok.of (cc := cX6_isHouse) (nL := 2) (ret := (some .boolean)) (lv := [(0, .ref (w.2.1 0)), (1, .int x1)]) (by decide) rfl (Nat.le_of_ble_eq_true rfl) rfl (fun v hv hA => ?_)
  subst hv
  have hA : Act v w RX6 wsX6_isHouse cX6_isHouse 2 (some .boolean) := hA
  unfold f_X6_isHouse
  refine WO.iload_n (n := 1) hA dX6_isHouse_0 1 rfl rfl ?_
  refine WO.if_lt (tg := 16) (n := 4) hA dX6_isHouse_1 (by decide) rfl (fun _ => ?_) (fun _ => ?_)
  · refine WO.iconst (x := (0 : Int32)) (n := 17) hA dX6_isHouse_16 (by decide) rfl ?_
    exact WO.zretc hA (by decide) dX6_isHouse_17
  · refine WO.iload_n (n := 5) hA dX6_isHouse_4 1 rfl rfl ?_
    refine WO.aload_n (n := 6) hA dX6_isHouse_5 0 rfl rfl ?_
    refine WO.getI (j := 6) (n := 9) hA (m_0 hw) rfl fiX6_isHouse_X6 (by decide) rfl fkX6_isHouse_68 dX6_isHouse_6 rfl ?_
    refine WO.icmp_ge (tg := 16) (n := 12) hA dX6_isHouse_9 (by decide) rfl (fun _ => ?_) (fun _ => ?_)
    · refine WO.iconst (x := (0 : Int32)) (n := 17) hA dX6_isHouse_16 (by decide) rfl ?_
      exact WO.zretc hA (by decide) dX6_isHouse_17
    · refine WO.iconst (x := (1 : Int32)) (n := 13) hA dX6_isHouse_12 (by decide) rfl ?_
      refine WO.goto (n := 17) hA dX6_isHouse_13 (by decide) ?_
      exact WO.zretc hA (by decide) dX6_isHouse_17
/- X6_isClock -/
abbrev rmX6_isClock : Room := { frames := 0, cells := 0, slots := 0, locals := 0 }
theorem mdX6_isClock : yX6_isClock.cls = RX6 ∧ yX6_isClock.cls ≠ "java/lang/invoke/MethodHandle" ∧ yX6_isClock.cls ≠ "java/lang/invoke/VarHandle" ∧ (parseMethodDescriptor yX6_isClock.desc).map (fun d => d.parameters.length) = some 1 := by decide +kernel
theorem fkX6_isClock_71 : Cond.fieldLink RX6 71 (TX6 7).1 (TX6 7).2.1 (TX6 7).2.2.1 ∈ wsX6_isClock := by decide +kernel
theorem fiX6_isClock_X6 : ∀ q ∈ u_ws RX6 TX6 30, q ∈ wsX6_isClock := by decide +kernel
noncomputable def f_X6_isClock (x1 : Int32) (M : Mem) : Option (Int32 × Mem) := if x1 < 0 then (some ((0 : Int32), M)) else (if (M 0 7) ≤ x1 then (some ((0 : Int32), M)) else (some ((1 : Int32), M)))
set_option maxHeartbeats 4000000 in
set_option maxRecDepth 100000 in
theorem c_X6_isClock (l : Launch) (w : Cw) (hw : w.2.2.2.2.2 = shM) (x1 : Int32) (M : Mem) : Ok l w eI yX6_isClock wsX6_isClock rmX6_isClock [.ref (w.2.1 0), .int x1] M (f_X6_isClock x1 M) := by
  refine Ok.of (cc := cX6_isClock) (nL := 2) (ret := (some .boolean)) (lv := [(0, .ref (w.2.1 0)), (1, .int x1)]) (by decide) rfl (Nat.le_of_ble_eq_true rfl) rfl (fun v hv hA => ?_)
  subst hv
  have hA : Act v w RX6 wsX6_isClock cX6_isClock 2 (some .boolean) := hA
  unfold f_X6_isClock
  refine WO.iload_n (n := 1) hA dX6_isClock_0 1 rfl rfl ?_
  refine WO.if_lt (tg := 16) (n := 4) hA dX6_isClock_1 (by decide) rfl (fun _ => ?_) (fun _ => ?_)
  · refine WO.iconst (x := (0 : Int32)) (n := 17) hA dX6_isClock_16 (by decide) rfl ?_
    exact WO.zretc hA (by decide) dX6_isClock_17
  · refine WO.iload_n (n := 5) hA dX6_isClock_4 1 rfl rfl ?_
    refine WO.aload_n (n := 6) hA dX6_isClock_5 0 rfl rfl ?_
    refine WO.getI (j := 7) (n := 9) hA (m_0 hw) rfl fiX6_isClock_X6 (by decide) rfl fkX6_isClock_71 dX6_isClock_6 rfl ?_
    refine WO.icmp_ge (tg := 16) (n := 12) hA dX6_isClock_9 (by decide) rfl (fun _ => ?_) (fun _ => ?_)
    · refine WO.iconst (x := (0 : Int32)) (n := 17) hA dX6_isClock_16 (by decide) rfl ?_
      exact WO.zretc hA (by decide) dX6_isClock_17
    · refine WO.iconst (x := (1 : Int32)) (n := 13) hA dX6_isClock_12 (by decide) rfl ?_
      refine WO.goto (n := 17) hA dX6_isClock_13 (by decide) ?_
      exact WO.zretc hA (by decide) dX6_isClock_17
/- X6_isOf -/
abbrev rmX6_isOf : Room := { frames := 0, cells := 0, slots := 0, locals := 0 }
theorem mdX6_isOf : yX6_isOf.cls ≠ "java/lang/invoke/MethodHandle" ∧ yX6_isOf.cls ≠ "java/lang/invoke/VarHandle" ∧ (parseMethodDescriptor yX6_isOf.desc).map (fun d => d.parameters.length) = some 2 := by decide +kernel
noncomputable def f_X6_isOf (x0 : Int32) (x1 : Int32) (M : Mem) : Option (Int32 × Mem) := if ((x0 >>> (x1 &&& 31)) &&& (1 : Int32)) = (1 : Int32) then (some ((1 : Int32), M)) else (some ((0 : Int32), M))
set_option maxHeartbeats 4000000 in
set_option maxRecDepth 100000 in
theorem c_X6_isOf (l : Launch) (w : Cw) (hw : w.2.2.2.2.2 = shM) (x0 : Int32) (x1 : Int32) (M : Mem) : Ok l w eI yX6_isOf wsX6_isOf rmX6_isOf [.int x0, .int x1] M (f_X6_isOf x0 x1 M) := by
  refine Ok.of (cc := cX6_isOf) (nL := 2) (ret := (some .boolean)) (lv := [(0, .int x0), (1, .int x1)]) (by decide) rfl (Nat.le_of_ble_eq_true rfl) rfl (fun v hv hA => ?_)
  subst hv
  have hA : Act v w RX6 wsX6_isOf cX6_isOf 2 (some .boolean) := hA
  unfold f_X6_isOf
  refine WO.iload_n (n := 1) hA dX6_isOf_0 0 rfl rfl ?_
  refine WO.iload_n (n := 2) hA dX6_isOf_1 1 rfl rfl ?_
  refine WO.ishr (n := 3) hA dX6_isOf_2 rfl ?_
  refine WO.iconst (x := (1 : Int32)) (n := 4) hA dX6_isOf_3 (by decide) rfl ?_
  refine WO.iand (n := 5) hA dX6_isOf_4 rfl ?_
  refine WO.iconst (x := (1 : Int32)) (n := 6) hA dX6_isOf_5 (by decide) rfl ?_
  refine WO.icmp_ne (tg := 13) (n := 9) hA dX6_isOf_6 (by decide) rfl (fun _ => ?_) (fun _ => ?_)
  · refine WO.iconst (x := (1 : Int32)) (n := 10) hA dX6_isOf_9 (by decide) rfl ?_
    refine WO.goto (n := 14) hA dX6_isOf_10 (by decide) ?_
    exact WO.zretc hA (by decide) dX6_isOf_14
  · refine WO.iconst (x := (0 : Int32)) (n := 14) hA dX6_isOf_13 (by decide) rfl ?_
    exact WO.zretc hA (by decide) dX6_isOf_14
/- X6_size -/
abbrev rmX6_size : Room := { frames := 0, cells := 0, slots := 0, locals := 0 }
theorem mdX6_size : yX6_size.cls ≠ "java/lang/invoke/MethodHandle" ∧ yX6_size.cls ≠ "java/lang/invoke/VarHandle" ∧ (parseMethodDescriptor yX6_size.desc).map (fun d => d.parameters.length) = some 1 := by decide +kernel
noncomputable def f_X6_size_L4 (kx : Int32 → Mem → Option (Int32 × Mem)) : Nat → Int32 → Int32 → Mem → Option (Int32 × Mem)
  | 0, _, _, _ => none
  | n + 1, x1, x2, M => if x2 ≤ 0 then (kx x1 M) else (ilt (x1 + (x2 &&& (1 : Int32))) (fun x_1 => ilt (x2 >>> ((1 : Int32) &&& 31)) (fun x_2 => f_X6_size_L4 kx n x_1 x_2 M)))
noncomputable def f_X6_size (x0 : Int32) (M : Mem) : Option (Int32 × Mem) := f_X6_size_L4 (fun e3 M4 => some (e3, M4)) FU (0 : Int32) x0 M
set_option maxHeartbeats 4000000 in
set_option maxRecDepth 100000 in
theorem w_X6_size_L4 {v : Av} {w : Cw} (hw : w.2.2.2.2.2 = shM) (hA : Act v w RX6 wsX6_size cX6_size 3 (some .int)) (kx : Int32 → Mem → Option (Int32 × Mem)) (hk : ∀ (y1 : Int32) (M : Mem), WO v w rmX6_size 3 eI (kx y1 M) 21 [(1, .int y1)] [] M) : ∀ (n : Nat) (x1 : Int32) (x2 : Int32) (M : Mem), WO v w rmX6_size 3 eI (f_X6_size_L4 kx n x1 x2 M) 4 [(1, .int x1), (2, .int x2)] [] M := by
  intro n
  induction n with
  | zero => intro x1 x2 M; exact WO.nothing
  | succ n ih =>
    intro x1 x2 M
    rw [f_X6_size_L4]
    refine WO.iload_n (n := 5) hA dX6_size_4 1 rfl rfl ?_
    refine WO.if_le (tg := 21) (n := 8) hA dX6_size_5 (by decide) rfl (fun _ => ?_) (fun _ => ?_)
    · refine WO.sub (lv' := [(1, .int x1)]) [0] rfl ?_
      exact hk x1 M
    · refine WO.iload_n (n := 9) hA dX6_size_8 0 rfl rfl ?_
      refine WO.iload_n (n := 10) hA dX6_size_9 1 rfl rfl ?_
      refine WO.iconst (x := (1 : Int32)) (n := 11) hA dX6_size_10 (by decide) rfl ?_
      refine WO.iand (n := 12) hA dX6_size_11 rfl ?_
      refine WO.iadd (n := 13) hA dX6_size_12 rfl ?_
      refine WO.top (fun x_1 => ?_)
      refine WO.istore_n (i := 1) (lv' := [(1, .int x_1), (2, .int x2)]) (n := 14) hA dX6_size_13 rfl (by decide) rfl rfl ?_
      refine WO.iload_n (n := 15) hA dX6_size_14 1 rfl rfl ?_
      refine WO.iconst (x := (1 : Int32)) (n := 16) hA dX6_size_15 (by decide) rfl ?_
      refine WO.ishr (n := 17) hA dX6_size_16 rfl ?_
      refine WO.top (fun x_2 => ?_)
      refine WO.istore_n (i := 2) (lv' := [(2, .int x_2), (1, .int x_1)]) (n := 18) hA dX6_size_17 rfl (by decide) rfl rfl ?_
      refine WO.goto (n := 4) hA dX6_size_18 (by decide) ?_
      refine WO.sub (lv' := [(1, .int x_1), (2, .int x_2)]) [1, 0] rfl ?_
      exact ih x_1 x_2 M
set_option maxHeartbeats 4000000 in
set_option maxRecDepth 100000 in
theorem c_X6_size (l : Launch) (w : Cw) (hw : w.2.2.2.2.2 = shM) (x0 : Int32) (M : Mem) : Ok l w eI yX6_size wsX6_size rmX6_size [.int x0] M (f_X6_size x0 M) := by
  refine Ok.of (cc := cX6_size) (nL := 3) (ret := (some .int)) (lv := [(0, .int x0)]) (by decide) rfl (Nat.le_of_ble_eq_true rfl) rfl (fun v hv hA => ?_)
  subst hv
  have hA : Act v w RX6 wsX6_size cX6_size 3 (some .int) := hA
  unfold f_X6_size
  refine WO.iconst (x := (0 : Int32)) (n := 1) hA dX6_size_0 (by decide) rfl ?_
  refine WO.istore_n (i := 1) (lv' := [(1, .int (0 : Int32)), (0, .int x0)]) (n := 2) hA dX6_size_1 rfl (by decide) rfl rfl ?_
  refine WO.iload_n (n := 3) hA dX6_size_2 1 rfl rfl ?_
  refine WO.istore_n (i := 2) (lv' := [(2, .int x0), (1, .int (0 : Int32)), (0, .int x0)]) (n := 4) hA dX6_size_3 rfl (by decide) rfl rfl ?_
  refine WO.sub (lv' := [(1, .int (0 : Int32)), (2, .int x0)]) [1, 0] rfl ?_
  refine w_X6_size_L4 hw hA _ (fun e3 M4 => ?_) _ _ _ _
  refine WO.iload_n (n := 22) hA dX6_size_21 0 rfl rfl ?_
  exact WO.iret hA dX6_size_22
/- X6_digit -/
abbrev rmX6_digit : Room := { frames := 1, cells := 0, slots := 0, locals := 22 }
theorem mdX6_digit : yX6_digit.cls = RX6 ∧ yX6_digit.cls ≠ "java/lang/invoke/MethodHandle" ∧ yX6_digit.cls ≠ "java/lang/invoke/VarHandle" ∧ (parseMethodDescriptor yX6_digit.desc).map (fun d => d.parameters.length) = some 3 := by decide +kernel
theorem fkX6_digit_74 : Cond.fieldLink RX6 74 (TX6 14).1 (TX6 14).2.1 (TX6 14).2.2.1 ∈ wsX6_digit := by decide +kernel
theorem fiX6_digit_X6 : ∀ q ∈ u_ws RX6 TX6 30, q ∈ wsX6_digit := by decide +kernel
theorem fkX6_digit_16 : Cond.fieldLink RX6 16 (TX6 4).1 (TX6 4).2.1 (TX6 4).2.2.1 ∈ wsX6_digit := by decide +kernel
noncomputable def f_X6_digit (x1 : Int32) (x2 : Int32) (x3 : Int32) (M : Mem) : Option (Int32 × Mem) := if x1 ≤ (M 0 14) then (some ((-9 : Int32), M)) else (grd (M 0 14) 240 (bd (f_X6_within (M 3 (M 0 14).toNatClampNeg) ((48 : Int32) + x2) ((48 : Int32) + x3) M) (fun r2 M1 => if r2 = 0 then (some ((-9 : Int32), M1)) else (mlt (mu M1 0 14 ((M1 0 14) + (1 : Int32))) (fun M3 => grd ((M3 0 14) - (1 : Int32)) 240 (some (((M3 3 ((M3 0 14) - (1 : Int32)).toNatClampNeg) - (48 : Int32)), M3)))))))
set_option maxHeartbeats 4000000 in
set_option maxRecDepth 100000 in
theorem c_X6_digit (l : Launch) (w : Cw) (hw : w.2.2.2.2.2 = shM) (x1 : Int32) (x2 : Int32) (x3 : Int32) (M : Mem) : Ok l w eI yX6_digit wsX6_digit rmX6_digit [.ref (w.2.1 0), .int x1, .int x2, .int x3] M (f_X6_digit x1 x2 x3 M) := by
  refine Ok.of (cc := cX6_digit) (nL := 4) (ret := (some .int)) (lv := [(0, .ref (w.2.1 0)), (1, .int x1), (2, .int x2), (3, .int x3)]) (by decide) rfl (Nat.le_of_ble_eq_true rfl) rfl (fun v hv hA => ?_)
  subst hv
  have hA : Act v w RX6 wsX6_digit cX6_digit 4 (some .int) := hA
  unfold f_X6_digit
  refine WO.aload_n (n := 1) hA dX6_digit_0 0 rfl rfl ?_
  refine WO.getI (j := 14) (n := 4) hA (m_0 hw) rfl fiX6_digit_X6 (by decide) rfl fkX6_digit_74 dX6_digit_1 rfl ?_
  refine WO.iload_n (n := 5) hA dX6_digit_4 1 rfl rfl ?_
  refine WO.icmp_ge (tg := 31) (n := 8) hA dX6_digit_5 (by decide) rfl (fun _ => ?_) (fun _ => ?_)
  · refine WO.bipush (x := (-9 : Int32)) (n := 33) hA dX6_digit_31 (by decide) rfl ?_
    exact WO.iret hA dX6_digit_33
  · refine WO.aload_n (n := 9) hA dX6_digit_8 0 rfl rfl ?_
    refine WO.getR (j := 4) (p := 3) (n := 12) hA (m_0 hw) rfl fiX6_digit_X6 (by decide) rfl fkX6_digit_16 dX6_digit_9 rfl ?_
    refine WO.aload_n (n := 13) hA dX6_digit_12 0 rfl rfl ?_
    refine WO.getI (j := 14) (n := 16) hA (m_0 hw) rfl fiX6_digit_X6 (by decide) rfl fkX6_digit_74 dX6_digit_13 rfl ?_
    refine WO.iald (n := 17) hA (m_3 hw) dX6_digit_16 rfl (fun _ => ?_)
    refine WO.bipush (x := (48 : Int32)) (n := 19) hA dX6_digit_17 (by decide) rfl ?_
    refine WO.iload_n (n := 20) hA dX6_digit_19 2 rfl rfl ?_
    refine WO.iadd (n := 21) hA dX6_digit_20 rfl ?_
    refine WO.bipush (x := (48 : Int32)) (n := 23) hA dX6_digit_21 (by decide) rfl ?_
    refine WO.iload_n (n := 24) hA dX6_digit_23 3 rfl rfl ?_
    refine WO.iadd (n := 25) hA dX6_digit_24 rfl ?_
    refine WO.callSi (As := [.int (M 3 (M 0 14).toNatClampNeg), .int ((48 : Int32) + x2), .int ((48 : Int32) + x3)]) (rest := []) (n := 28) hA (c_X6_within v.2.1 w hw (M 3 (M 0 14).toNatClampNeg) ((48 : Int32) + x2) ((48 : Int32) + x3) M) gX6_digit_X6_within rfl mdX6_within ⟨rfl, rfl, Nat.le_of_ble_eq_true rfl, Nat.le_of_ble_eq_true rfl⟩ rfl rfl (Nat.le_of_ble_eq_true rfl) dX6_digit_25 rfl (fun r2 M1 => ?_)
    refine WO.if_ne (tg := 34) (n := 31) hA dX6_digit_28 (by decide) rfl (fun _ => ?_) (fun _ => ?_)
    · refine WO.bipush (x := (-9 : Int32)) (n := 33) hA dX6_digit_31 (by decide) rfl ?_
      exact WO.iret hA dX6_digit_33
    · refine WO.aload_n (n := 35) hA dX6_digit_34 0 rfl rfl ?_
      refine WO.dup (n := 36) hA dX6_digit_35 rfl rfl ?_
      refine WO.getI (j := 14) (n := 39) hA (m_0 hw) rfl fiX6_digit_X6 (by decide) rfl fkX6_digit_74 dX6_digit_36 rfl ?_
      refine WO.iconst (x := (1 : Int32)) (n := 40) hA dX6_digit_39 (by decide) rfl ?_
      refine WO.iadd (n := 41) hA dX6_digit_40 rfl ?_
      refine WO.putI (j := 14) (n := 44) hA (m_0 hw) rfl fiX6_digit_X6 tyX6 tyX6_ok nmX6 (by decide) rfl fkX6_digit_74 rfl rfl rfl rfl dX6_digit_41 rfl ?_
      refine WO.mem (fun M3 => ?_)
      refine WO.aload_n (n := 45) hA dX6_digit_44 0 rfl rfl ?_
      refine WO.getR (j := 4) (p := 3) (n := 48) hA (m_0 hw) rfl fiX6_digit_X6 (by decide) rfl fkX6_digit_16 dX6_digit_45 rfl ?_
      refine WO.aload_n (n := 49) hA dX6_digit_48 0 rfl rfl ?_
      refine WO.getI (j := 14) (n := 52) hA (m_0 hw) rfl fiX6_digit_X6 (by decide) rfl fkX6_digit_74 dX6_digit_49 rfl ?_
      refine WO.iconst (x := (1 : Int32)) (n := 53) hA dX6_digit_52 (by decide) rfl ?_
      refine WO.isub (n := 54) hA dX6_digit_53 rfl ?_
      refine WO.iald (n := 55) hA (m_3 hw) dX6_digit_54 rfl (fun _ => ?_)
      refine WO.bipush (x := (48 : Int32)) (n := 57) hA dX6_digit_55 (by decide) rfl ?_
      refine WO.isub (n := 58) hA dX6_digit_57 rfl ?_
      exact WO.iret hA dX6_digit_58
/- X6_isNext -/
abbrev rmX6_isNext : Room := { frames := 0, cells := 0, slots := 0, locals := 0 }
theorem mdX6_isNext : yX6_isNext.cls = RX6 ∧ yX6_isNext.cls ≠ "java/lang/invoke/MethodHandle" ∧ yX6_isNext.cls ≠ "java/lang/invoke/VarHandle" ∧ (parseMethodDescriptor yX6_isNext.desc).map (fun d => d.parameters.length) = some 2 := by decide +kernel
theorem fkX6_isNext_74 : Cond.fieldLink RX6 74 (TX6 14).1 (TX6 14).2.1 (TX6 14).2.2.1 ∈ wsX6_isNext := by decide +kernel
theorem fiX6_isNext_X6 : ∀ q ∈ u_ws RX6 TX6 30, q ∈ wsX6_isNext := by decide +kernel
theorem fkX6_isNext_16 : Cond.fieldLink RX6 16 (TX6 4).1 (TX6 4).2.1 (TX6 4).2.2.1 ∈ wsX6_isNext := by decide +kernel
noncomputable def f_X6_isNext (x1 : Int32) (x2 : Int32) (M : Mem) : Option (Int32 × Mem) := if x1 ≤ (M 0 14) then (some ((0 : Int32), M)) else (grd (M 0 14) 240 (if (M 3 (M 0 14).toNatClampNeg) = x2 then (some ((1 : Int32), M)) else (some ((0 : Int32), M))))
set_option maxHeartbeats 4000000 in
set_option maxRecDepth 100000 in
theorem c_X6_isNext (l : Launch) (w : Cw) (hw : w.2.2.2.2.2 = shM) (x1 : Int32) (x2 : Int32) (M : Mem) : Ok l w eI yX6_isNext wsX6_isNext rmX6_isNext [.ref (w.2.1 0), .int x1, .int x2] M (f_X6_isNext x1 x2 M) := by
  refine Ok.of (cc := cX6_isNext) (nL := 3) (ret := (some .boolean)) (lv := [(0, .ref (w.2.1 0)), (1, .int x1), (2, .int x2)]) (by decide) rfl (Nat.le_of_ble_eq_true rfl) rfl (fun v hv hA => ?_)
  subst hv
  have hA : Act v w RX6 wsX6_isNext cX6_isNext 3 (some .boolean) := hA
  unfold f_X6_isNext
  refine WO.aload_n (n := 1) hA dX6_isNext_0 0 rfl rfl ?_
  refine WO.getI (j := 14) (n := 4) hA (m_0 hw) rfl fiX6_isNext_X6 (by decide) rfl fkX6_isNext_74 dX6_isNext_1 rfl ?_
  refine WO.iload_n (n := 5) hA dX6_isNext_4 1 rfl rfl ?_
  refine WO.icmp_ge (tg := 25) (n := 8) hA dX6_isNext_5 (by decide) rfl (fun _ => ?_) (fun _ => ?_)
  · refine WO.iconst (x := (0 : Int32)) (n := 26) hA dX6_isNext_25 (by decide) rfl ?_
    exact WO.zretc hA (by decide) dX6_isNext_26
  · refine WO.aload_n (n := 9) hA dX6_isNext_8 0 rfl rfl ?_
    refine WO.getR (j := 4) (p := 3) (n := 12) hA (m_0 hw) rfl fiX6_isNext_X6 (by decide) rfl fkX6_isNext_16 dX6_isNext_9 rfl ?_
    refine WO.aload_n (n := 13) hA dX6_isNext_12 0 rfl rfl ?_
    refine WO.getI (j := 14) (n := 16) hA (m_0 hw) rfl fiX6_isNext_X6 (by decide) rfl fkX6_isNext_74 dX6_isNext_13 rfl ?_
    refine WO.iald (n := 17) hA (m_3 hw) dX6_isNext_16 rfl (fun _ => ?_)
    refine WO.iload_n (n := 18) hA dX6_isNext_17 2 rfl rfl ?_
    refine WO.icmp_ne (tg := 25) (n := 21) hA dX6_isNext_18 (by decide) rfl (fun _ => ?_) (fun _ => ?_)
    · refine WO.iconst (x := (1 : Int32)) (n := 22) hA dX6_isNext_21 (by decide) rfl ?_
      refine WO.goto (n := 26) hA dX6_isNext_22 (by decide) ?_
      exact WO.zretc hA (by decide) dX6_isNext_26
    · refine WO.iconst (x := (0 : Int32)) (n := 26) hA dX6_isNext_25 (by decide) rfl ?_
      exact WO.zretc hA (by decide) dX6_isNext_26
/- X6_isSign -/
abbrev rmX6_isSign : Room := { frames := 1, cells := 0, slots := 0, locals := 22 }
theorem mdX6_isSign : yX6_isSign.cls = RX6 ∧ yX6_isSign.cls ≠ "java/lang/invoke/MethodHandle" ∧ yX6_isSign.cls ≠ "java/lang/invoke/VarHandle" ∧ (parseMethodDescriptor yX6_isSign.desc).map (fun d => d.parameters.length) = some 2 := by decide +kernel
theorem fkX6_isSign_74 : Cond.fieldLink RX6 74 (TX6 14).1 (TX6 14).2.1 (TX6 14).2.2.1 ∈ wsX6_isSign := by decide +kernel
theorem fiX6_isSign_X6 : ∀ q ∈ u_ws RX6 TX6 30, q ∈ wsX6_isSign := by decide +kernel
noncomputable def f_X6_isSign (x1 : Int32) (x2 : Int32) (M : Mem) : Option (Int32 × Mem) := bd (f_X6_isNext x1 x2 M) (fun r2 M1 => if r2 = 0 then (some ((0 : Int32), M1)) else (mlt (mu M1 0 14 ((M1 0 14) + (1 : Int32))) (fun M3 => some ((1 : Int32), M3))))
set_option maxHeartbeats 4000000 in
set_option maxRecDepth 100000 in
theorem c_X6_isSign (l : Launch) (w : Cw) (hw : w.2.2.2.2.2 = shM) (x1 : Int32) (x2 : Int32) (M : Mem) : Ok l w eI yX6_isSign wsX6_isSign rmX6_isSign [.ref (w.2.1 0), .int x1, .int x2] M (f_X6_isSign x1 x2 M) := by
  refine Ok.of (cc := cX6_isSign) (nL := 3) (ret := (some .boolean)) (lv := [(0, .ref (w.2.1 0)), (1, .int x1), (2, .int x2)]) (by decide) rfl (Nat.le_of_ble_eq_true rfl) rfl (fun v hv hA => ?_)
  subst hv
  have hA : Act v w RX6 wsX6_isSign cX6_isSign 3 (some .boolean) := hA
  unfold f_X6_isSign
  refine WO.aload_n (n := 1) hA dX6_isSign_0 0 rfl rfl ?_
  refine WO.iload_n (n := 2) hA dX6_isSign_1 1 rfl rfl ?_
  refine WO.iload_n (n := 3) hA dX6_isSign_2 2 rfl rfl ?_
  refine WO.callVi (As := [.int x1, .int x2]) (rest := []) (n := 6) hA (c_X6_isNext v.2.1 w hw x1 x2 M) gX6_isSign_X6_isNext rfl (m_0 hw) rfl mdX6_isNext ⟨rfl, rfl, Nat.le_of_ble_eq_true rfl, Nat.le_of_ble_eq_true rfl⟩ rfl rfl (Nat.le_of_ble_eq_true rfl) dX6_isSign_3 rfl (fun r2 M1 => ?_)
  refine WO.if_ne (tg := 11) (n := 9) hA dX6_isSign_6 (by decide) rfl (fun _ => ?_) (fun _ => ?_)
  · refine WO.iconst (x := (0 : Int32)) (n := 10) hA dX6_isSign_9 (by decide) rfl ?_
    exact WO.zretc hA (by decide) dX6_isSign_10
  · refine WO.aload_n (n := 12) hA dX6_isSign_11 0 rfl rfl ?_
    refine WO.dup (n := 13) hA dX6_isSign_12 rfl rfl ?_
    refine WO.getI (j := 14) (n := 16) hA (m_0 hw) rfl fiX6_isSign_X6 (by decide) rfl fkX6_isSign_74 dX6_isSign_13 rfl ?_
    refine WO.iconst (x := (1 : Int32)) (n := 17) hA dX6_isSign_16 (by decide) rfl ?_
    refine WO.iadd (n := 18) hA dX6_isSign_17 rfl ?_
    refine WO.putI (j := 14) (n := 21) hA (m_0 hw) rfl fiX6_isSign_X6 tyX6 tyX6_ok nmX6 (by decide) rfl fkX6_isSign_74 rfl rfl rfl rfl dX6_isSign_18 rfl ?_
    refine WO.mem (fun M3 => ?_)
    refine WO.iconst (x := (1 : Int32)) (n := 22) hA dX6_isSign_21 (by decide) rfl ?_
    exact WO.zretc hA (by decide) dX6_isSign_22
/- X6_readTheClock -/
abbrev rmX6_readTheClock : Room := { frames := 2, cells := 0, slots := 0, locals := 45 }
theorem mdX6_readTheClock : yX6_readTheClock.cls = RX6 ∧ yX6_readTheClock.cls ≠ "java/lang/invoke/MethodHandle" ∧ yX6_readTheClock.cls ≠ "java/lang/invoke/VarHandle" ∧ (parseMethodDescriptor yX6_readTheClock.desc).map (fun d => d.parameters.length) = some 1 := by decide +kernel
theorem fkX6_readTheClock_111 : Cond.fieldLink RX6 111 (TX6 17).1 (TX6 17).2.1 (TX6 17).2.2.1 ∈ wsX6_readTheClock := by decide +kernel
theorem fiX6_readTheClock_X6 : ∀ q ∈ u_ws RX6 TX6 30, q ∈ wsX6_readTheClock := by decide +kernel
theorem fkX6_readTheClock_34 : Cond.fieldLink RX6 34 (TX6 19).1 (TX6 19).2.1 (TX6 19).2.2.1 ∈ wsX6_readTheClock := by decide +kernel
theorem fkX6_readTheClock_108 : Cond.fieldLink RX6 108 (TX6 16).1 (TX6 16).2.1 (TX6 16).2.2.1 ∈ wsX6_readTheClock := by decide +kernel
noncomputable def f_X6_readTheClock (x1 : Int32) (M : Mem) : Option (Int32 × Mem) := ilt ((2 : Int32) * (M 0 17)) (fun x_1 => bd (f_X6_digit x1 (1 : Int32) (9 : Int32) M) (fun r3 M2 => grd x_1 8 (mlt (mu M2 9 x_1.toNatClampNeg r3) (fun M4 => grd x_1 8 (if (M4 9 x_1.toNatClampNeg) = (-9 : Int32) then (some ((0 : Int32), M4)) else (bd (f_X6_digit x1 (0 : Int32) ((M4 0 16) - (1 : Int32)) M4) (fun r6 M5 => grd (x_1 + (1 : Int32)) 8 (mlt (mu M5 9 (x_1 + (1 : Int32)).toNatClampNeg r6) (fun M7 => mlt (mu M7 0 17 ((M7 0 17) + (1 : Int32))) (fun M8 => grd (x_1 + (1 : Int32)) 8 (if (M8 9 (x_1 + (1 : Int32)).toNatClampNeg) = (-9 : Int32) then (some ((0 : Int32), M8)) else (some ((1 : Int32), M8)))))))))))))
set_option maxHeartbeats 4000000 in
set_option maxRecDepth 100000 in
theorem c_X6_readTheClock (l : Launch) (w : Cw) (hw : w.2.2.2.2.2 = shM) (x1 : Int32) (M : Mem) : Ok l w eI yX6_readTheClock wsX6_readTheClock rmX6_readTheClock [.ref (w.2.1 0), .int x1] M (f_X6_readTheClock x1 M) := by
  refine Ok.of (cc := cX6_readTheClock) (nL := 3) (ret := (some .boolean)) (lv := [(0, .ref (w.2.1 0)), (1, .int x1)]) (by decide) rfl (Nat.le_of_ble_eq_true rfl) rfl (fun v hv hA => ?_)
  subst hv
  have hA : Act v w RX6 wsX6_readTheClock cX6_readTheClock 3 (some .boolean) := hA
  unfold f_X6_readTheClock
  refine WO.iconst (x := (2 : Int32)) (n := 1) hA dX6_readTheClock_0 (by decide) rfl ?_
  refine WO.aload_n (n := 2) hA dX6_readTheClock_1 0 rfl rfl ?_
  refine WO.getI (j := 17) (n := 5) hA (m_0 hw) rfl fiX6_readTheClock_X6 (by decide) rfl fkX6_readTheClock_111 dX6_readTheClock_2 rfl ?_
  refine WO.imul (n := 6) hA dX6_readTheClock_5 rfl ?_
  refine WO.top (fun x_1 => ?_)
  refine WO.istore_n (i := 2) (lv' := [(2, .int x_1), (0, .ref (w.2.1 0)), (1, .int x1)]) (n := 7) hA dX6_readTheClock_6 rfl (by decide) rfl rfl ?_
  refine WO.aload_n (n := 8) hA dX6_readTheClock_7 1 rfl rfl ?_
  refine WO.getR (j := 19) (p := 9) (n := 11) hA (m_0 hw) rfl fiX6_readTheClock_X6 (by decide) rfl fkX6_readTheClock_34 dX6_readTheClock_8 rfl ?_
  refine WO.iload_n (n := 12) hA dX6_readTheClock_11 0 rfl rfl ?_
  refine WO.aload_n (n := 13) hA dX6_readTheClock_12 1 rfl rfl ?_
  refine WO.iload_n (n := 14) hA dX6_readTheClock_13 2 rfl rfl ?_
  refine WO.iconst (x := (1 : Int32)) (n := 15) hA dX6_readTheClock_14 (by decide) rfl ?_
  refine WO.bipush (x := (9 : Int32)) (n := 17) hA dX6_readTheClock_15 (by decide) rfl ?_
  refine WO.callVi (As := [.int x1, .int (1 : Int32), .int (9 : Int32)]) (rest := [.int x_1, .ref (w.2.1 9)]) (n := 20) hA (c_X6_digit v.2.1 w hw x1 (1 : Int32) (9 : Int32) M) gX6_readTheClock_X6_digit rfl (m_0 hw) rfl mdX6_digit ⟨rfl, rfl, Nat.le_of_ble_eq_true rfl, Nat.le_of_ble_eq_true rfl⟩ rfl rfl (Nat.le_of_ble_eq_true rfl) dX6_readTheClock_17 rfl (fun r3 M2 => ?_)
  refine WO.iast (n := 21) hA (m_9 hw) dX6_readTheClock_20 rfl (fun _ => ?_)
  refine WO.mem (fun M4 => ?_)
  refine WO.aload_n (n := 22) hA dX6_readTheClock_21 1 rfl rfl ?_
  refine WO.getR (j := 19) (p := 9) (n := 25) hA (m_0 hw) rfl fiX6_readTheClock_X6 (by decide) rfl fkX6_readTheClock_34 dX6_readTheClock_22 rfl ?_
  refine WO.iload_n (n := 26) hA dX6_readTheClock_25 0 rfl rfl ?_
  refine WO.iald (n := 27) hA (m_9 hw) dX6_readTheClock_26 rfl (fun _ => ?_)
  refine WO.bipush (x := (-9 : Int32)) (n := 29) hA dX6_readTheClock_27 (by decide) rfl ?_
  refine WO.icmp_ne (tg := 34) (n := 32) hA dX6_readTheClock_29 (by decide) rfl (fun _ => ?_) (fun _ => ?_)
  · refine WO.iconst (x := (0 : Int32)) (n := 33) hA dX6_readTheClock_32 (by decide) rfl ?_
    exact WO.zretc hA (by decide) dX6_readTheClock_33
  · refine WO.aload_n (n := 35) hA dX6_readTheClock_34 1 rfl rfl ?_
    refine WO.getR (j := 19) (p := 9) (n := 38) hA (m_0 hw) rfl fiX6_readTheClock_X6 (by decide) rfl fkX6_readTheClock_34 dX6_readTheClock_35 rfl ?_
    refine WO.iload_n (n := 39) hA dX6_readTheClock_38 0 rfl rfl ?_
    refine WO.iconst (x := (1 : Int32)) (n := 40) hA dX6_readTheClock_39 (by decide) rfl ?_
    refine WO.iadd (n := 41) hA dX6_readTheClock_40 rfl ?_
    refine WO.aload_n (n := 42) hA dX6_readTheClock_41 1 rfl rfl ?_
    refine WO.iload_n (n := 43) hA dX6_readTheClock_42 2 rfl rfl ?_
    refine WO.iconst (x := (0 : Int32)) (n := 44) hA dX6_readTheClock_43 (by decide) rfl ?_
    refine WO.aload_n (n := 45) hA dX6_readTheClock_44 1 rfl rfl ?_
    refine WO.getI (j := 16) (n := 48) hA (m_0 hw) rfl fiX6_readTheClock_X6 (by decide) rfl fkX6_readTheClock_108 dX6_readTheClock_45 rfl ?_
    refine WO.iconst (x := (1 : Int32)) (n := 49) hA dX6_readTheClock_48 (by decide) rfl ?_
    refine WO.isub (n := 50) hA dX6_readTheClock_49 rfl ?_
    refine WO.callVi (As := [.int x1, .int (0 : Int32), .int ((M4 0 16) - (1 : Int32))]) (rest := [.int (x_1 + (1 : Int32)), .ref (w.2.1 9)]) (n := 53) hA (c_X6_digit v.2.1 w hw x1 (0 : Int32) ((M4 0 16) - (1 : Int32)) M4) gX6_readTheClock_X6_digit rfl (m_0 hw) rfl mdX6_digit ⟨rfl, rfl, Nat.le_of_ble_eq_true rfl, Nat.le_of_ble_eq_true rfl⟩ rfl rfl (Nat.le_of_ble_eq_true rfl) dX6_readTheClock_50 rfl (fun r6 M5 => ?_)
    refine WO.iast (n := 54) hA (m_9 hw) dX6_readTheClock_53 rfl (fun _ => ?_)
    refine WO.mem (fun M7 => ?_)
    refine WO.aload_n (n := 55) hA dX6_readTheClock_54 1 rfl rfl ?_
    refine WO.dup (n := 56) hA dX6_readTheClock_55 rfl rfl ?_
    refine WO.getI (j := 17) (n := 59) hA (m_0 hw) rfl fiX6_readTheClock_X6 (by decide) rfl fkX6_readTheClock_111 dX6_readTheClock_56 rfl ?_
    refine WO.iconst (x := (1 : Int32)) (n := 60) hA dX6_readTheClock_59 (by decide) rfl ?_
    refine WO.iadd (n := 61) hA dX6_readTheClock_60 rfl ?_
    refine WO.putI (j := 17) (n := 64) hA (m_0 hw) rfl fiX6_readTheClock_X6 tyX6 tyX6_ok nmX6 (by decide) rfl fkX6_readTheClock_111 rfl rfl rfl rfl dX6_readTheClock_61 rfl ?_
    refine WO.mem (fun M8 => ?_)
    refine WO.aload_n (n := 65) hA dX6_readTheClock_64 1 rfl rfl ?_
    refine WO.getR (j := 19) (p := 9) (n := 68) hA (m_0 hw) rfl fiX6_readTheClock_X6 (by decide) rfl fkX6_readTheClock_34 dX6_readTheClock_65 rfl ?_
    refine WO.iload_n (n := 69) hA dX6_readTheClock_68 0 rfl rfl ?_
    refine WO.iconst (x := (1 : Int32)) (n := 70) hA dX6_readTheClock_69 (by decide) rfl ?_
    refine WO.iadd (n := 71) hA dX6_readTheClock_70 rfl ?_
    refine WO.iald (n := 72) hA (m_9 hw) dX6_readTheClock_71 rfl (fun _ => ?_)
    refine WO.bipush (x := (-9 : Int32)) (n := 74) hA dX6_readTheClock_72 (by decide) rfl ?_
    refine WO.icmp_eq (tg := 81) (n := 77) hA dX6_readTheClock_74 (by decide) rfl (fun _ => ?_) (fun _ => ?_)
    · refine WO.iconst (x := (0 : Int32)) (n := 82) hA dX6_readTheClock_81 (by decide) rfl ?_
      exact WO.zretc hA (by decide) dX6_readTheClock_82
    · refine WO.iconst (x := (1 : Int32)) (n := 78) hA dX6_readTheClock_77 (by decide) rfl ?_
      refine WO.goto (n := 82) hA dX6_readTheClock_78 (by decide) ?_
      exact WO.zretc hA (by decide) dX6_readTheClock_82
/- X6_readTheHouse -/
abbrev rmX6_readTheHouse : Room := { frames := 2, cells := 0, slots := 0, locals := 45 }
theorem mdX6_readTheHouse : yX6_readTheHouse.cls = RX6 ∧ yX6_readTheHouse.cls ≠ "java/lang/invoke/MethodHandle" ∧ yX6_readTheHouse.cls ≠ "java/lang/invoke/VarHandle" ∧ (parseMethodDescriptor yX6_readTheHouse.desc).map (fun d => d.parameters.length) = some 1 := by decide +kernel
theorem fkX6_readTheHouse_74 : Cond.fieldLink RX6 74 (TX6 14).1 (TX6 14).2.1 (TX6 14).2.2.1 ∈ wsX6_readTheHouse := by decide +kernel
theorem fiX6_readTheHouse_X6 : ∀ q ∈ u_ws RX6 TX6 30, q ∈ wsX6_readTheHouse := by decide +kernel
theorem fkX6_readTheHouse_108 : Cond.fieldLink RX6 108 (TX6 16).1 (TX6 16).2.1 (TX6 16).2.2.1 ∈ wsX6_readTheHouse := by decide +kernel
theorem fkX6_readTheHouse_31 : Cond.fieldLink RX6 31 (TX6 18).1 (TX6 18).2.1 (TX6 18).2.2.1 ∈ wsX6_readTheHouse := by decide +kernel
theorem fkX6_readTheHouse_16 : Cond.fieldLink RX6 16 (TX6 4).1 (TX6 4).2.1 (TX6 4).2.2.1 ∈ wsX6_readTheHouse := by decide +kernel
noncomputable def f_X6_readTheHouse (x1 : Int32) (M : Mem) : Option (Int32 × Mem) := if x1 ≤ (M 0 14) then (ilt ((2 : Int32) * (M 0 16)) (fun x_1 => if (0 : Int32) = (115 : Int32) then (grd x_1 12 (mlt (mu M 8 x_1.toNatClampNeg (0 : Int32)) (fun M2 => grd x_1 12 (if (M2 8 x_1.toNatClampNeg) = (-9 : Int32) then (some ((0 : Int32), M2)) else (mlt (mu M2 0 14 ((M2 0 14) + (1 : Int32))) (fun M3 => bd (f_X6_digit x1 (1 : Int32) (9 : Int32) M3) (fun r5 M4 => grd (x_1 + (1 : Int32)) 12 (mlt (mu M4 8 (x_1 + (1 : Int32)).toNatClampNeg r5) (fun M6 => mlt (mu M6 0 16 ((M6 0 16) + (1 : Int32))) (fun M7 => grd (x_1 + (1 : Int32)) 12 (if (M7 8 (x_1 + (1 : Int32)).toNatClampNeg) = (-9 : Int32) then (some ((0 : Int32), M7)) else (some ((1 : Int32), M7))))))))))))) else (if (0 : Int32) = (110 : Int32) then (grd x_1 12 (mlt (mu M 8 x_1.toNatClampNeg (1 : Int32)) (fun M8 => grd x_1 12 (if (M8 8 x_1.toNatClampNeg) = (-9 : Int32) then (some ((0 : Int32), M8)) else (mlt (mu M8 0 14 ((M8 0 14) + (1 : Int32))) (fun M9 => bd (f_X6_digit x1 (1 : Int32) (9 : Int32) M9) (fun r11 M10 => grd (x_1 + (1 : Int32)) 12 (mlt (mu M10 8 (x_1 + (1 : Int32)).toNatClampNeg r11) (fun M12 => mlt (mu M12 0 16 ((M12 0 16) + (1 : Int32))) (fun M13 => grd (x_1 + (1 : Int32)) 12 (if (M13 8 (x_1 + (1 : Int32)).toNatClampNeg) = (-9 : Int32) then (some ((0 : Int32), M13)) else (some ((1 : Int32), M13))))))))))))) else (if (0 : Int32) = (98 : Int32) then (grd x_1 12 (mlt (mu M 8 x_1.toNatClampNeg (2 : Int32)) (fun M14 => grd x_1 12 (if (M14 8 x_1.toNatClampNeg) = (-9 : Int32) then (some ((0 : Int32), M14)) else (mlt (mu M14 0 14 ((M14 0 14) + (1 : Int32))) (fun M15 => bd (f_X6_digit x1 (1 : Int32) (9 : Int32) M15) (fun r17 M16 => grd (x_1 + (1 : Int32)) 12 (mlt (mu M16 8 (x_1 + (1 : Int32)).toNatClampNeg r17) (fun M18 => mlt (mu M18 0 16 ((M18 0 16) + (1 : Int32))) (fun M19 => grd (x_1 + (1 : Int32)) 12 (if (M19 8 (x_1 + (1 : Int32)).toNatClampNeg) = (-9 : Int32) then (some ((0 : Int32), M19)) else (some ((1 : Int32), M19))))))))))))) else (grd x_1 12 (mlt (mu M 8 x_1.toNatClampNeg (-9 : Int32)) (fun M20 => grd x_1 12 (if (M20 8 x_1.toNatClampNeg) = (-9 : Int32) then (some ((0 : Int32), M20)) else (mlt (mu M20 0 14 ((M20 0 14) + (1 : Int32))) (fun M21 => bd (f_X6_digit x1 (1 : Int32) (9 : Int32) M21) (fun r23 M22 => grd (x_1 + (1 : Int32)) 12 (mlt (mu M22 8 (x_1 + (1 : Int32)).toNatClampNeg r23) (fun M24 => mlt (mu M24 0 16 ((M24 0 16) + (1 : Int32))) (fun M25 => grd (x_1 + (1 : Int32)) 12 (if (M25 8 (x_1 + (1 : Int32)).toNatClampNeg) = (-9 : Int32) then (some ((0 : Int32), M25)) else (some ((1 : Int32), M25))))))))))))))))) else (grd (M 0 14) 240 (ilt (M 3 (M 0 14).toNatClampNeg) (fun x_26 => ilt ((2 : Int32) * (M 0 16)) (fun x_27 => if x_26 = (115 : Int32) then (grd x_27 12 (mlt (mu M 8 x_27.toNatClampNeg (0 : Int32)) (fun M28 => grd x_27 12 (if (M28 8 x_27.toNatClampNeg) = (-9 : Int32) then (some ((0 : Int32), M28)) else (mlt (mu M28 0 14 ((M28 0 14) + (1 : Int32))) (fun M29 => bd (f_X6_digit x1 (1 : Int32) (9 : Int32) M29) (fun r31 M30 => grd (x_27 + (1 : Int32)) 12 (mlt (mu M30 8 (x_27 + (1 : Int32)).toNatClampNeg r31) (fun M32 => mlt (mu M32 0 16 ((M32 0 16) + (1 : Int32))) (fun M33 => grd (x_27 + (1 : Int32)) 12 (if (M33 8 (x_27 + (1 : Int32)).toNatClampNeg) = (-9 : Int32) then (some ((0 : Int32), M33)) else (some ((1 : Int32), M33))))))))))))) else (if x_26 = (110 : Int32) then (grd x_27 12 (mlt (mu M 8 x_27.toNatClampNeg (1 : Int32)) (fun M34 => grd x_27 12 (if (M34 8 x_27.toNatClampNeg) = (-9 : Int32) then (some ((0 : Int32), M34)) else (mlt (mu M34 0 14 ((M34 0 14) + (1 : Int32))) (fun M35 => bd (f_X6_digit x1 (1 : Int32) (9 : Int32) M35) (fun r37 M36 => grd (x_27 + (1 : Int32)) 12 (mlt (mu M36 8 (x_27 + (1 : Int32)).toNatClampNeg r37) (fun M38 => mlt (mu M38 0 16 ((M38 0 16) + (1 : Int32))) (fun M39 => grd (x_27 + (1 : Int32)) 12 (if (M39 8 (x_27 + (1 : Int32)).toNatClampNeg) = (-9 : Int32) then (some ((0 : Int32), M39)) else (some ((1 : Int32), M39))))))))))))) else (if x_26 = (98 : Int32) then (grd x_27 12 (mlt (mu M 8 x_27.toNatClampNeg (2 : Int32)) (fun M40 => grd x_27 12 (if (M40 8 x_27.toNatClampNeg) = (-9 : Int32) then (some ((0 : Int32), M40)) else (mlt (mu M40 0 14 ((M40 0 14) + (1 : Int32))) (fun M41 => bd (f_X6_digit x1 (1 : Int32) (9 : Int32) M41) (fun r43 M42 => grd (x_27 + (1 : Int32)) 12 (mlt (mu M42 8 (x_27 + (1 : Int32)).toNatClampNeg r43) (fun M44 => mlt (mu M44 0 16 ((M44 0 16) + (1 : Int32))) (fun M45 => grd (x_27 + (1 : Int32)) 12 (if (M45 8 (x_27 + (1 : Int32)).toNatClampNeg) = (-9 : Int32) then (some ((0 : Int32), M45)) else (some ((1 : Int32), M45))))))))))))) else (grd x_27 12 (mlt (mu M 8 x_27.toNatClampNeg (-9 : Int32)) (fun M46 => grd x_27 12 (if (M46 8 x_27.toNatClampNeg) = (-9 : Int32) then (some ((0 : Int32), M46)) else (mlt (mu M46 0 14 ((M46 0 14) + (1 : Int32))) (fun M47 => bd (f_X6_digit x1 (1 : Int32) (9 : Int32) M47) (fun r49 M48 => grd (x_27 + (1 : Int32)) 12 (mlt (mu M48 8 (x_27 + (1 : Int32)).toNatClampNeg r49) (fun M50 => mlt (mu M50 0 16 ((M50 0 16) + (1 : Int32))) (fun M51 => grd (x_27 + (1 : Int32)) 12 (if (M51 8 (x_27 + (1 : Int32)).toNatClampNeg) = (-9 : Int32) then (some ((0 : Int32), M51)) else (some ((1 : Int32), M51)))))))))))))))))))
set_option maxHeartbeats 4000000 in
set_option maxRecDepth 100000 in
theorem c_X6_readTheHouse (l : Launch) (w : Cw) (hw : w.2.2.2.2.2 = shM) (x1 : Int32) (M : Mem) : Ok l w eI yX6_readTheHouse wsX6_readTheHouse rmX6_readTheHouse [.ref (w.2.1 0), .int x1] M (f_X6_readTheHouse x1 M) := by
  refine Ok.of (cc := cX6_readTheHouse) (nL := 4) (ret := (some .boolean)) (lv := [(0, .ref (w.2.1 0)), (1, .int x1)]) (by decide) rfl (Nat.le_of_ble_eq_true rfl) rfl (fun v hv hA => ?_)
  subst hv
  have hA : Act v w RX6 wsX6_readTheHouse cX6_readTheHouse 4 (some .boolean) := hA
  unfold f_X6_readTheHouse
  refine WO.aload_n (n := 1) hA dX6_readTheHouse_0 0 rfl rfl ?_
  refine WO.getI (j := 14) (n := 4) hA (m_0 hw) rfl fiX6_readTheHouse_X6 (by decide) rfl fkX6_readTheHouse_74 dX6_readTheHouse_1 rfl ?_
  refine WO.iload_n (n := 5) hA dX6_readTheHouse_4 1 rfl rfl ?_
  refine WO.icmp_ge (tg := 20) (n := 8) hA dX6_readTheHouse_5 (by decide) rfl (fun _ => ?_) (fun _ => ?_)
  · refine WO.iconst (x := (0 : Int32)) (n := 21) hA dX6_readTheHouse_20 (by decide) rfl ?_
    refine WO.istore_n (i := 2) (lv' := [(2, .int (0 : Int32)), (0, .ref (w.2.1 0)), (1, .int x1)]) (n := 22) hA dX6_readTheHouse_21 rfl (by decide) rfl rfl ?_
    refine WO.iconst (x := (2 : Int32)) (n := 23) hA dX6_readTheHouse_22 (by decide) rfl ?_
    refine WO.aload_n (n := 24) hA dX6_readTheHouse_23 1 rfl rfl ?_
    refine WO.getI (j := 16) (n := 27) hA (m_0 hw) rfl fiX6_readTheHouse_X6 (by decide) rfl fkX6_readTheHouse_108 dX6_readTheHouse_24 rfl ?_
    refine WO.imul (n := 28) hA dX6_readTheHouse_27 rfl ?_
    refine WO.top (fun x_1 => ?_)
    refine WO.istore_n (i := 3) (lv' := [(3, .int x_1), (2, .int (0 : Int32)), (0, .ref (w.2.1 0)), (1, .int x1)]) (n := 29) hA dX6_readTheHouse_28 rfl (by decide) rfl rfl ?_
    refine WO.aload_n (n := 30) hA dX6_readTheHouse_29 2 rfl rfl ?_
    refine WO.getR (j := 18) (p := 8) (n := 33) hA (m_0 hw) rfl fiX6_readTheHouse_X6 (by decide) rfl fkX6_readTheHouse_31 dX6_readTheHouse_30 rfl ?_
    refine WO.iload_n (n := 34) hA dX6_readTheHouse_33 0 rfl rfl ?_
    refine WO.iload_n (n := 35) hA dX6_readTheHouse_34 1 rfl rfl ?_
    refine WO.bipush (x := (115 : Int32)) (n := 37) hA dX6_readTheHouse_35 (by decide) rfl ?_
    refine WO.icmp_ne (tg := 44) (n := 40) hA dX6_readTheHouse_37 (by decide) rfl (fun _ => ?_) (fun _ => ?_)
    · refine WO.iconst (x := (0 : Int32)) (n := 41) hA dX6_readTheHouse_40 (by decide) rfl ?_
      refine WO.goto (n := 66) hA dX6_readTheHouse_41 (by decide) ?_
      refine WO.iast (n := 67) hA (m_8 hw) dX6_readTheHouse_66 rfl (fun _ => ?_)
      refine WO.mem (fun M2 => ?_)
      refine WO.aload_n (n := 68) hA dX6_readTheHouse_67 2 rfl rfl ?_
      refine WO.getR (j := 18) (p := 8) (n := 71) hA (m_0 hw) rfl fiX6_readTheHouse_X6 (by decide) rfl fkX6_readTheHouse_31 dX6_readTheHouse_68 rfl ?_
      refine WO.iload_n (n := 72) hA dX6_readTheHouse_71 0 rfl rfl ?_
      refine WO.iald (n := 73) hA (m_8 hw) dX6_readTheHouse_72 rfl (fun _ => ?_)
      refine WO.bipush (x := (-9 : Int32)) (n := 75) hA dX6_readTheHouse_73 (by decide) rfl ?_
      refine WO.icmp_ne (tg := 80) (n := 78) hA dX6_readTheHouse_75 (by decide) rfl (fun _ => ?_) (fun _ => ?_)
      · refine WO.iconst (x := (0 : Int32)) (n := 79) hA dX6_readTheHouse_78 (by decide) rfl ?_
        exact WO.zretc hA (by decide) dX6_readTheHouse_79
      · refine WO.aload_n (n := 81) hA dX6_readTheHouse_80 2 rfl rfl ?_
        refine WO.dup (n := 82) hA dX6_readTheHouse_81 rfl rfl ?_
        refine WO.getI (j := 14) (n := 85) hA (m_0 hw) rfl fiX6_readTheHouse_X6 (by decide) rfl fkX6_readTheHouse_74 dX6_readTheHouse_82 rfl ?_
        refine WO.iconst (x := (1 : Int32)) (n := 86) hA dX6_readTheHouse_85 (by decide) rfl ?_
        refine WO.iadd (n := 87) hA dX6_readTheHouse_86 rfl ?_
        refine WO.putI (j := 14) (n := 90) hA (m_0 hw) rfl fiX6_readTheHouse_X6 tyX6 tyX6_ok nmX6 (by decide) rfl fkX6_readTheHouse_74 rfl rfl rfl rfl dX6_readTheHouse_87 rfl ?_
        refine WO.mem (fun M3 => ?_)
        refine WO.aload_n (n := 91) hA dX6_readTheHouse_90 2 rfl rfl ?_
        refine WO.getR (j := 18) (p := 8) (n := 94) hA (m_0 hw) rfl fiX6_readTheHouse_X6 (by decide) rfl fkX6_readTheHouse_31 dX6_readTheHouse_91 rfl ?_
        refine WO.iload_n (n := 95) hA dX6_readTheHouse_94 0 rfl rfl ?_
        refine WO.iconst (x := (1 : Int32)) (n := 96) hA dX6_readTheHouse_95 (by decide) rfl ?_
        refine WO.iadd (n := 97) hA dX6_readTheHouse_96 rfl ?_
        refine WO.aload_n (n := 98) hA dX6_readTheHouse_97 2 rfl rfl ?_
        refine WO.iload_n (n := 99) hA dX6_readTheHouse_98 3 rfl rfl ?_
        refine WO.iconst (x := (1 : Int32)) (n := 100) hA dX6_readTheHouse_99 (by decide) rfl ?_
        refine WO.bipush (x := (9 : Int32)) (n := 102) hA dX6_readTheHouse_100 (by decide) rfl ?_
        refine WO.callVi (As := [.int x1, .int (1 : Int32), .int (9 : Int32)]) (rest := [.int (x_1 + (1 : Int32)), .ref (w.2.1 8)]) (n := 105) hA (c_X6_digit v.2.1 w hw x1 (1 : Int32) (9 : Int32) M3) gX6_readTheHouse_X6_digit rfl (m_0 hw) rfl mdX6_digit ⟨rfl, rfl, Nat.le_of_ble_eq_true rfl, Nat.le_of_ble_eq_true rfl⟩ rfl rfl (Nat.le_of_ble_eq_true rfl) dX6_readTheHouse_102 rfl (fun r5 M4 => ?_)
        refine WO.iast (n := 106) hA (m_8 hw) dX6_readTheHouse_105 rfl (fun _ => ?_)
        refine WO.mem (fun M6 => ?_)
        refine WO.aload_n (n := 107) hA dX6_readTheHouse_106 2 rfl rfl ?_
        refine WO.dup (n := 108) hA dX6_readTheHouse_107 rfl rfl ?_
        refine WO.getI (j := 16) (n := 111) hA (m_0 hw) rfl fiX6_readTheHouse_X6 (by decide) rfl fkX6_readTheHouse_108 dX6_readTheHouse_108 rfl ?_
        refine WO.iconst (x := (1 : Int32)) (n := 112) hA dX6_readTheHouse_111 (by decide) rfl ?_
        refine WO.iadd (n := 113) hA dX6_readTheHouse_112 rfl ?_
        refine WO.putI (j := 16) (n := 116) hA (m_0 hw) rfl fiX6_readTheHouse_X6 tyX6 tyX6_ok nmX6 (by decide) rfl fkX6_readTheHouse_108 rfl rfl rfl rfl dX6_readTheHouse_113 rfl ?_
        refine WO.mem (fun M7 => ?_)
        refine WO.aload_n (n := 117) hA dX6_readTheHouse_116 2 rfl rfl ?_
        refine WO.getR (j := 18) (p := 8) (n := 120) hA (m_0 hw) rfl fiX6_readTheHouse_X6 (by decide) rfl fkX6_readTheHouse_31 dX6_readTheHouse_117 rfl ?_
        refine WO.iload_n (n := 121) hA dX6_readTheHouse_120 0 rfl rfl ?_
        refine WO.iconst (x := (1 : Int32)) (n := 122) hA dX6_readTheHouse_121 (by decide) rfl ?_
        refine WO.iadd (n := 123) hA dX6_readTheHouse_122 rfl ?_
        refine WO.iald (n := 124) hA (m_8 hw) dX6_readTheHouse_123 rfl (fun _ => ?_)
        refine WO.bipush (x := (-9 : Int32)) (n := 126) hA dX6_readTheHouse_124 (by decide) rfl ?_
        refine WO.icmp_eq (tg := 133) (n := 129) hA dX6_readTheHouse_126 (by decide) rfl (fun _ => ?_) (fun _ => ?_)
        · refine WO.iconst (x := (0 : Int32)) (n := 134) hA dX6_readTheHouse_133 (by decide) rfl ?_
          exact WO.zretc hA (by decide) dX6_readTheHouse_134
        · refine WO.iconst (x := (1 : Int32)) (n := 130) hA dX6_readTheHouse_129 (by decide) rfl ?_
          refine WO.goto (n := 134) hA dX6_readTheHouse_130 (by decide) ?_
          exact WO.zretc hA (by decide) dX6_readTheHouse_134
    · refine WO.iload_n (n := 45) hA dX6_readTheHouse_44 1 rfl rfl ?_
      refine WO.bipush (x := (110 : Int32)) (n := 47) hA dX6_readTheHouse_45 (by decide) rfl ?_
      refine WO.icmp_ne (tg := 54) (n := 50) hA dX6_readTheHouse_47 (by decide) rfl (fun _ => ?_) (fun _ => ?_)
      · refine WO.iconst (x := (1 : Int32)) (n := 51) hA dX6_readTheHouse_50 (by decide) rfl ?_
        refine WO.goto (n := 66) hA dX6_readTheHouse_51 (by decide) ?_
        refine WO.iast (n := 67) hA (m_8 hw) dX6_readTheHouse_66 rfl (fun _ => ?_)
        refine WO.mem (fun M8 => ?_)
        refine WO.aload_n (n := 68) hA dX6_readTheHouse_67 2 rfl rfl ?_
        refine WO.getR (j := 18) (p := 8) (n := 71) hA (m_0 hw) rfl fiX6_readTheHouse_X6 (by decide) rfl fkX6_readTheHouse_31 dX6_readTheHouse_68 rfl ?_
        refine WO.iload_n (n := 72) hA dX6_readTheHouse_71 0 rfl rfl ?_
        refine WO.iald (n := 73) hA (m_8 hw) dX6_readTheHouse_72 rfl (fun _ => ?_)
        refine WO.bipush (x := (-9 : Int32)) (n := 75) hA dX6_readTheHouse_73 (by decide) rfl ?_
        refine WO.icmp_ne (tg := 80) (n := 78) hA dX6_readTheHouse_75 (by decide) rfl (fun _ => ?_) (fun _ => ?_)
        · refine WO.iconst (x := (0 : Int32)) (n := 79) hA dX6_readTheHouse_78 (by decide) rfl ?_
          exact WO.zretc hA (by decide) dX6_readTheHouse_79
        · refine WO.aload_n (n := 81) hA dX6_readTheHouse_80 2 rfl rfl ?_
          refine WO.dup (n := 82) hA dX6_readTheHouse_81 rfl rfl ?_
          refine WO.getI (j := 14) (n := 85) hA (m_0 hw) rfl fiX6_readTheHouse_X6 (by decide) rfl fkX6_readTheHouse_74 dX6_readTheHouse_82 rfl ?_
          refine WO.iconst (x := (1 : Int32)) (n := 86) hA dX6_readTheHouse_85 (by decide) rfl ?_
          refine WO.iadd (n := 87) hA dX6_readTheHouse_86 rfl ?_
          refine WO.putI (j := 14) (n := 90) hA (m_0 hw) rfl fiX6_readTheHouse_X6 tyX6 tyX6_ok nmX6 (by decide) rfl fkX6_readTheHouse_74 rfl rfl rfl rfl dX6_readTheHouse_87 rfl ?_
          refine WO.mem (fun M9 => ?_)
          refine WO.aload_n (n := 91) hA dX6_readTheHouse_90 2 rfl rfl ?_
          refine WO.getR (j := 18) (p := 8) (n := 94) hA (m_0 hw) rfl fiX6_readTheHouse_X6 (by decide) rfl fkX6_readTheHouse_31 dX6_readTheHouse_91 rfl ?_
          refine WO.iload_n (n := 95) hA dX6_readTheHouse_94 0 rfl rfl ?_
          refine WO.iconst (x := (1 : Int32)) (n := 96) hA dX6_readTheHouse_95 (by decide) rfl ?_
          refine WO.iadd (n := 97) hA dX6_readTheHouse_96 rfl ?_
          refine WO.aload_n (n := 98) hA dX6_readTheHouse_97 2 rfl rfl ?_
          refine WO.iload_n (n := 99) hA dX6_readTheHouse_98 3 rfl rfl ?_
          refine WO.iconst (x := (1 : Int32)) (n := 100) hA dX6_readTheHouse_99 (by decide) rfl ?_
          refine WO.bipush (x := (9 : Int32)) (n := 102) hA dX6_readTheHouse_100 (by decide) rfl ?_
          refine WO.callVi (As := [.int x1, .int (1 : Int32), .int (9 : Int32)]) (rest := [.int (x_1 + (1 : Int32)), .ref (w.2.1 8)]) (n := 105) hA (c_X6_digit v.2.1 w hw x1 (1 : Int32) (9 : Int32) M9) gX6_readTheHouse_X6_digit rfl (m_0 hw) rfl mdX6_digit ⟨rfl, rfl, Nat.le_of_ble_eq_true rfl, Nat.le_of_ble_eq_true rfl⟩ rfl rfl (Nat.le_of_ble_eq_true rfl) dX6_readTheHouse_102 rfl (fun r11 M10 => ?_)
          refine WO.iast (n := 106) hA (m_8 hw) dX6_readTheHouse_105 rfl (fun _ => ?_)
          refine WO.mem (fun M12 => ?_)
          refine WO.aload_n (n := 107) hA dX6_readTheHouse_106 2 rfl rfl ?_
          refine WO.dup (n := 108) hA dX6_readTheHouse_107 rfl rfl ?_
          refine WO.getI (j := 16) (n := 111) hA (m_0 hw) rfl fiX6_readTheHouse_X6 (by decide) rfl fkX6_readTheHouse_108 dX6_readTheHouse_108 rfl ?_
          refine WO.iconst (x := (1 : Int32)) (n := 112) hA dX6_readTheHouse_111 (by decide) rfl ?_
          refine WO.iadd (n := 113) hA dX6_readTheHouse_112 rfl ?_
          refine WO.putI (j := 16) (n := 116) hA (m_0 hw) rfl fiX6_readTheHouse_X6 tyX6 tyX6_ok nmX6 (by decide) rfl fkX6_readTheHouse_108 rfl rfl rfl rfl dX6_readTheHouse_113 rfl ?_
          refine WO.mem (fun M13 => ?_)
          refine WO.aload_n (n := 117) hA dX6_readTheHouse_116 2 rfl rfl ?_
          refine WO.getR (j := 18) (p := 8) (n := 120) hA (m_0 hw) rfl fiX6_readTheHouse_X6 (by decide) rfl fkX6_readTheHouse_31 dX6_readTheHouse_117 rfl ?_
          refine WO.iload_n (n := 121) hA dX6_readTheHouse_120 0 rfl rfl ?_
          refine WO.iconst (x := (1 : Int32)) (n := 122) hA dX6_readTheHouse_121 (by decide) rfl ?_
          refine WO.iadd (n := 123) hA dX6_readTheHouse_122 rfl ?_
          refine WO.iald (n := 124) hA (m_8 hw) dX6_readTheHouse_123 rfl (fun _ => ?_)
          refine WO.bipush (x := (-9 : Int32)) (n := 126) hA dX6_readTheHouse_124 (by decide) rfl ?_
          refine WO.icmp_eq (tg := 133) (n := 129) hA dX6_readTheHouse_126 (by decide) rfl (fun _ => ?_) (fun _ => ?_)
          · refine WO.iconst (x := (0 : Int32)) (n := 134) hA dX6_readTheHouse_133 (by decide) rfl ?_
            exact WO.zretc hA (by decide) dX6_readTheHouse_134
          · refine WO.iconst (x := (1 : Int32)) (n := 130) hA dX6_readTheHouse_129 (by decide) rfl ?_
            refine WO.goto (n := 134) hA dX6_readTheHouse_130 (by decide) ?_
            exact WO.zretc hA (by decide) dX6_readTheHouse_134
      · refine WO.iload_n (n := 55) hA dX6_readTheHouse_54 1 rfl rfl ?_
        refine WO.bipush (x := (98 : Int32)) (n := 57) hA dX6_readTheHouse_55 (by decide) rfl ?_
        refine WO.icmp_ne (tg := 64) (n := 60) hA dX6_readTheHouse_57 (by decide) rfl (fun _ => ?_) (fun _ => ?_)
        · refine WO.iconst (x := (2 : Int32)) (n := 61) hA dX6_readTheHouse_60 (by decide) rfl ?_
          refine WO.goto (n := 66) hA dX6_readTheHouse_61 (by decide) ?_
          refine WO.iast (n := 67) hA (m_8 hw) dX6_readTheHouse_66 rfl (fun _ => ?_)
          refine WO.mem (fun M14 => ?_)
          refine WO.aload_n (n := 68) hA dX6_readTheHouse_67 2 rfl rfl ?_
          refine WO.getR (j := 18) (p := 8) (n := 71) hA (m_0 hw) rfl fiX6_readTheHouse_X6 (by decide) rfl fkX6_readTheHouse_31 dX6_readTheHouse_68 rfl ?_
          refine WO.iload_n (n := 72) hA dX6_readTheHouse_71 0 rfl rfl ?_
          refine WO.iald (n := 73) hA (m_8 hw) dX6_readTheHouse_72 rfl (fun _ => ?_)
          refine WO.bipush (x := (-9 : Int32)) (n := 75) hA dX6_readTheHouse_73 (by decide) rfl ?_
          refine WO.icmp_ne (tg := 80) (n := 78) hA dX6_readTheHouse_75 (by decide) rfl (fun _ => ?_) (fun _ => ?_)
          · refine WO.iconst (x := (0 : Int32)) (n := 79) hA dX6_readTheHouse_78 (by decide) rfl ?_
            exact WO.zretc hA (by decide) dX6_readTheHouse_79
          · refine WO.aload_n (n := 81) hA dX6_readTheHouse_80 2 rfl rfl ?_
            refine WO.dup (n := 82) hA dX6_readTheHouse_81 rfl rfl ?_
            refine WO.getI (j := 14) (n := 85) hA (m_0 hw) rfl fiX6_readTheHouse_X6 (by decide) rfl fkX6_readTheHouse_74 dX6_readTheHouse_82 rfl ?_
            refine WO.iconst (x := (1 : Int32)) (n := 86) hA dX6_readTheHouse_85 (by decide) rfl ?_
            refine WO.iadd (n := 87) hA dX6_readTheHouse_86 rfl ?_
            refine WO.putI (j := 14) (n := 90) hA (m_0 hw) rfl fiX6_readTheHouse_X6 tyX6 tyX6_ok nmX6 (by decide) rfl fkX6_readTheHouse_74 rfl rfl rfl rfl dX6_readTheHouse_87 rfl ?_
            refine WO.mem (fun M15 => ?_)
            refine WO.aload_n (n := 91) hA dX6_readTheHouse_90 2 rfl rfl ?_
            refine WO.getR (j := 18) (p := 8) (n := 94) hA (m_0 hw) rfl fiX6_readTheHouse_X6 (by decide) rfl fkX6_readTheHouse_31 dX6_readTheHouse_91 rfl ?_
            refine WO.iload_n (n := 95) hA dX6_readTheHouse_94 0 rfl rfl ?_
            refine WO.iconst (x := (1 : Int32)) (n := 96) hA dX6_readTheHouse_95 (by decide) rfl ?_
            refine WO.iadd (n := 97) hA dX6_readTheHouse_96 rfl ?_
            refine WO.aload_n (n := 98) hA dX6_readTheHouse_97 2 rfl rfl ?_
            refine WO.iload_n (n := 99) hA dX6_readTheHouse_98 3 rfl rfl ?_
            refine WO.iconst (x := (1 : Int32)) (n := 100) hA dX6_readTheHouse_99 (by decide) rfl ?_
            refine WO.bipush (x := (9 : Int32)) (n := 102) hA dX6_readTheHouse_100 (by decide) rfl ?_
            refine WO.callVi (As := [.int x1, .int (1 : Int32), .int (9 : Int32)]) (rest := [.int (x_1 + (1 : Int32)), .ref (w.2.1 8)]) (n := 105) hA (c_X6_digit v.2.1 w hw x1 (1 : Int32) (9 : Int32) M15) gX6_readTheHouse_X6_digit rfl (m_0 hw) rfl mdX6_digit ⟨rfl, rfl, Nat.le_of_ble_eq_true rfl, Nat.le_of_ble_eq_true rfl⟩ rfl rfl (Nat.le_of_ble_eq_true rfl) dX6_readTheHouse_102 rfl (fun r17 M16 => ?_)
            refine WO.iast (n := 106) hA (m_8 hw) dX6_readTheHouse_105 rfl (fun _ => ?_)
            refine WO.mem (fun M18 => ?_)
            refine WO.aload_n (n := 107) hA dX6_readTheHouse_106 2 rfl rfl ?_
            refine WO.dup (n := 108) hA dX6_readTheHouse_107 rfl rfl ?_
            refine WO.getI (j := 16) (n := 111) hA (m_0 hw) rfl fiX6_readTheHouse_X6 (by decide) rfl fkX6_readTheHouse_108 dX6_readTheHouse_108 rfl ?_
            refine WO.iconst (x := (1 : Int32)) (n := 112) hA dX6_readTheHouse_111 (by decide) rfl ?_
            refine WO.iadd (n := 113) hA dX6_readTheHouse_112 rfl ?_
            refine WO.putI (j := 16) (n := 116) hA (m_0 hw) rfl fiX6_readTheHouse_X6 tyX6 tyX6_ok nmX6 (by decide) rfl fkX6_readTheHouse_108 rfl rfl rfl rfl dX6_readTheHouse_113 rfl ?_
            refine WO.mem (fun M19 => ?_)
            refine WO.aload_n (n := 117) hA dX6_readTheHouse_116 2 rfl rfl ?_
            refine WO.getR (j := 18) (p := 8) (n := 120) hA (m_0 hw) rfl fiX6_readTheHouse_X6 (by decide) rfl fkX6_readTheHouse_31 dX6_readTheHouse_117 rfl ?_
            refine WO.iload_n (n := 121) hA dX6_readTheHouse_120 0 rfl rfl ?_
            refine WO.iconst (x := (1 : Int32)) (n := 122) hA dX6_readTheHouse_121 (by decide) rfl ?_
            refine WO.iadd (n := 123) hA dX6_readTheHouse_122 rfl ?_
            refine WO.iald (n := 124) hA (m_8 hw) dX6_readTheHouse_123 rfl (fun _ => ?_)
            refine WO.bipush (x := (-9 : Int32)) (n := 126) hA dX6_readTheHouse_124 (by decide) rfl ?_
            refine WO.icmp_eq (tg := 133) (n := 129) hA dX6_readTheHouse_126 (by decide) rfl (fun _ => ?_) (fun _ => ?_)
            · refine WO.iconst (x := (0 : Int32)) (n := 134) hA dX6_readTheHouse_133 (by decide) rfl ?_
              exact WO.zretc hA (by decide) dX6_readTheHouse_134
            · refine WO.iconst (x := (1 : Int32)) (n := 130) hA dX6_readTheHouse_129 (by decide) rfl ?_
              refine WO.goto (n := 134) hA dX6_readTheHouse_130 (by decide) ?_
              exact WO.zretc hA (by decide) dX6_readTheHouse_134
        · refine WO.bipush (x := (-9 : Int32)) (n := 66) hA dX6_readTheHouse_64 (by decide) rfl ?_
          refine WO.iast (n := 67) hA (m_8 hw) dX6_readTheHouse_66 rfl (fun _ => ?_)
          refine WO.mem (fun M20 => ?_)
          refine WO.aload_n (n := 68) hA dX6_readTheHouse_67 2 rfl rfl ?_
          refine WO.getR (j := 18) (p := 8) (n := 71) hA (m_0 hw) rfl fiX6_readTheHouse_X6 (by decide) rfl fkX6_readTheHouse_31 dX6_readTheHouse_68 rfl ?_
          refine WO.iload_n (n := 72) hA dX6_readTheHouse_71 0 rfl rfl ?_
          refine WO.iald (n := 73) hA (m_8 hw) dX6_readTheHouse_72 rfl (fun _ => ?_)
          refine WO.bipush (x := (-9 : Int32)) (n := 75) hA dX6_readTheHouse_73 (by decide) rfl ?_
          refine WO.icmp_ne (tg := 80) (n := 78) hA dX6_readTheHouse_75 (by decide) rfl (fun _ => ?_) (fun _ => ?_)
          · refine WO.iconst (x := (0 : Int32)) (n := 79) hA dX6_readTheHouse_78 (by decide) rfl ?_
            exact WO.zretc hA (by decide) dX6_readTheHouse_79
          · refine WO.aload_n (n := 81) hA dX6_readTheHouse_80 2 rfl rfl ?_
            refine WO.dup (n := 82) hA dX6_readTheHouse_81 rfl rfl ?_
            refine WO.getI (j := 14) (n := 85) hA (m_0 hw) rfl fiX6_readTheHouse_X6 (by decide) rfl fkX6_readTheHouse_74 dX6_readTheHouse_82 rfl ?_
            refine WO.iconst (x := (1 : Int32)) (n := 86) hA dX6_readTheHouse_85 (by decide) rfl ?_
            refine WO.iadd (n := 87) hA dX6_readTheHouse_86 rfl ?_
            refine WO.putI (j := 14) (n := 90) hA (m_0 hw) rfl fiX6_readTheHouse_X6 tyX6 tyX6_ok nmX6 (by decide) rfl fkX6_readTheHouse_74 rfl rfl rfl rfl dX6_readTheHouse_87 rfl ?_
            refine WO.mem (fun M21 => ?_)
            refine WO.aload_n (n := 91) hA dX6_readTheHouse_90 2 rfl rfl ?_
            refine WO.getR (j := 18) (p := 8) (n := 94) hA (m_0 hw) rfl fiX6_readTheHouse_X6 (by decide) rfl fkX6_readTheHouse_31 dX6_readTheHouse_91 rfl ?_
            refine WO.iload_n (n := 95) hA dX6_readTheHouse_94 0 rfl rfl ?_
            refine WO.iconst (x := (1 : Int32)) (n := 96) hA dX6_readTheHouse_95 (by decide) rfl ?_
            refine WO.iadd (n := 97) hA dX6_readTheHouse_96 rfl ?_
            refine WO.aload_n (n := 98) hA dX6_readTheHouse_97 2 rfl rfl ?_
            refine WO.iload_n (n := 99) hA dX6_readTheHouse_98 3 rfl rfl ?_
            refine WO.iconst (x := (1 : Int32)) (n := 100) hA dX6_readTheHouse_99 (by decide) rfl ?_
            refine WO.bipush (x := (9 : Int32)) (n := 102) hA dX6_readTheHouse_100 (by decide) rfl ?_
            refine WO.callVi (As := [.int x1, .int (1 : Int32), .int (9 : Int32)]) (rest := [.int (x_1 + (1 : Int32)), .ref (w.2.1 8)]) (n := 105) hA (c_X6_digit v.2.1 w hw x1 (1 : Int32) (9 : Int32) M21) gX6_readTheHouse_X6_digit rfl (m_0 hw) rfl mdX6_digit ⟨rfl, rfl, Nat.le_of_ble_eq_true rfl, Nat.le_of_ble_eq_true rfl⟩ rfl rfl (Nat.le_of_ble_eq_true rfl) dX6_readTheHouse_102 rfl (fun r23 M22 => ?_)
            refine WO.iast (n := 106) hA (m_8 hw) dX6_readTheHouse_105 rfl (fun _ => ?_)
            refine WO.mem (fun M24 => ?_)
            refine WO.aload_n (n := 107) hA dX6_readTheHouse_106 2 rfl rfl ?_
            refine WO.dup (n := 108) hA dX6_readTheHouse_107 rfl rfl ?_
            refine WO.getI (j := 16) (n := 111) hA (m_0 hw) rfl fiX6_readTheHouse_X6 (by decide) rfl fkX6_readTheHouse_108 dX6_readTheHouse_108 rfl ?_
            refine WO.iconst (x := (1 : Int32)) (n := 112) hA dX6_readTheHouse_111 (by decide) rfl ?_
            refine WO.iadd (n := 113) hA dX6_readTheHouse_112 rfl ?_
            refine WO.putI (j := 16) (n := 116) hA (m_0 hw) rfl fiX6_readTheHouse_X6 tyX6 tyX6_ok nmX6 (by decide) rfl fkX6_readTheHouse_108 rfl rfl rfl rfl dX6_readTheHouse_113 rfl ?_
            refine WO.mem (fun M25 => ?_)
            refine WO.aload_n (n := 117) hA dX6_readTheHouse_116 2 rfl rfl ?_
            refine WO.getR (j := 18) (p := 8) (n := 120) hA (m_0 hw) rfl fiX6_readTheHouse_X6 (by decide) rfl fkX6_readTheHouse_31 dX6_readTheHouse_117 rfl ?_
            refine WO.iload_n (n := 121) hA dX6_readTheHouse_120 0 rfl rfl ?_
            refine WO.iconst (x := (1 : Int32)) (n := 122) hA dX6_readTheHouse_121 (by decide) rfl ?_
            refine WO.iadd (n := 123) hA dX6_readTheHouse_122 rfl ?_
            refine WO.iald (n := 124) hA (m_8 hw) dX6_readTheHouse_123 rfl (fun _ => ?_)
            refine WO.bipush (x := (-9 : Int32)) (n := 126) hA dX6_readTheHouse_124 (by decide) rfl ?_
            refine WO.icmp_eq (tg := 133) (n := 129) hA dX6_readTheHouse_126 (by decide) rfl (fun _ => ?_) (fun _ => ?_)
            · refine WO.iconst (x := (0 : Int32)) (n := 134) hA dX6_readTheHouse_133 (by decide) rfl ?_
              exact WO.zretc hA (by decide) dX6_readTheHouse_134
            · refine WO.iconst (x := (1 : Int32)) (n := 130) hA dX6_readTheHouse_129 (by decide) rfl ?_
              refine WO.goto (n := 134) hA dX6_readTheHouse_130 (by decide) ?_
              exact WO.zretc hA (by decide) dX6_readTheHouse_134
  · refine WO.aload_n (n := 9) hA dX6_readTheHouse_8 0 rfl rfl ?_
    refine WO.getR (j := 4) (p := 3) (n := 12) hA (m_0 hw) rfl fiX6_readTheHouse_X6 (by decide) rfl fkX6_readTheHouse_16 dX6_readTheHouse_9 rfl ?_
    refine WO.aload_n (n := 13) hA dX6_readTheHouse_12 0 rfl rfl ?_
    refine WO.getI (j := 14) (n := 16) hA (m_0 hw) rfl fiX6_readTheHouse_X6 (by decide) rfl fkX6_readTheHouse_74 dX6_readTheHouse_13 rfl ?_
    refine WO.iald (n := 17) hA (m_3 hw) dX6_readTheHouse_16 rfl (fun _ => ?_)
    refine WO.goto (n := 21) hA dX6_readTheHouse_17 (by decide) ?_
    refine WO.top (fun x_26 => ?_)
    refine WO.istore_n (i := 2) (lv' := [(2, .int x_26), (0, .ref (w.2.1 0)), (1, .int x1)]) (n := 22) hA dX6_readTheHouse_21 rfl (by decide) rfl rfl ?_
    refine WO.iconst (x := (2 : Int32)) (n := 23) hA dX6_readTheHouse_22 (by decide) rfl ?_
    refine WO.aload_n (n := 24) hA dX6_readTheHouse_23 1 rfl rfl ?_
    refine WO.getI (j := 16) (n := 27) hA (m_0 hw) rfl fiX6_readTheHouse_X6 (by decide) rfl fkX6_readTheHouse_108 dX6_readTheHouse_24 rfl ?_
    refine WO.imul (n := 28) hA dX6_readTheHouse_27 rfl ?_
    refine WO.top (fun x_27 => ?_)
    refine WO.istore_n (i := 3) (lv' := [(3, .int x_27), (2, .int x_26), (0, .ref (w.2.1 0)), (1, .int x1)]) (n := 29) hA dX6_readTheHouse_28 rfl (by decide) rfl rfl ?_
    refine WO.aload_n (n := 30) hA dX6_readTheHouse_29 2 rfl rfl ?_
    refine WO.getR (j := 18) (p := 8) (n := 33) hA (m_0 hw) rfl fiX6_readTheHouse_X6 (by decide) rfl fkX6_readTheHouse_31 dX6_readTheHouse_30 rfl ?_
    refine WO.iload_n (n := 34) hA dX6_readTheHouse_33 0 rfl rfl ?_
    refine WO.iload_n (n := 35) hA dX6_readTheHouse_34 1 rfl rfl ?_
    refine WO.bipush (x := (115 : Int32)) (n := 37) hA dX6_readTheHouse_35 (by decide) rfl ?_
    refine WO.icmp_ne (tg := 44) (n := 40) hA dX6_readTheHouse_37 (by decide) rfl (fun _ => ?_) (fun _ => ?_)
    · refine WO.iconst (x := (0 : Int32)) (n := 41) hA dX6_readTheHouse_40 (by decide) rfl ?_
      refine WO.goto (n := 66) hA dX6_readTheHouse_41 (by decide) ?_
      refine WO.iast (n := 67) hA (m_8 hw) dX6_readTheHouse_66 rfl (fun _ => ?_)
      refine WO.mem (fun M28 => ?_)
      refine WO.aload_n (n := 68) hA dX6_readTheHouse_67 2 rfl rfl ?_
      refine WO.getR (j := 18) (p := 8) (n := 71) hA (m_0 hw) rfl fiX6_readTheHouse_X6 (by decide) rfl fkX6_readTheHouse_31 dX6_readTheHouse_68 rfl ?_
      refine WO.iload_n (n := 72) hA dX6_readTheHouse_71 0 rfl rfl ?_
      refine WO.iald (n := 73) hA (m_8 hw) dX6_readTheHouse_72 rfl (fun _ => ?_)
      refine WO.bipush (x := (-9 : Int32)) (n := 75) hA dX6_readTheHouse_73 (by decide) rfl ?_
      refine WO.icmp_ne (tg := 80) (n := 78) hA dX6_readTheHouse_75 (by decide) rfl (fun _ => ?_) (fun _ => ?_)
      · refine WO.iconst (x := (0 : Int32)) (n := 79) hA dX6_readTheHouse_78 (by decide) rfl ?_
        exact WO.zretc hA (by decide) dX6_readTheHouse_79
      · refine WO.aload_n (n := 81) hA dX6_readTheHouse_80 2 rfl rfl ?_
        refine WO.dup (n := 82) hA dX6_readTheHouse_81 rfl rfl ?_
        refine WO.getI (j := 14) (n := 85) hA (m_0 hw) rfl fiX6_readTheHouse_X6 (by decide) rfl fkX6_readTheHouse_74 dX6_readTheHouse_82 rfl ?_
        refine WO.iconst (x := (1 : Int32)) (n := 86) hA dX6_readTheHouse_85 (by decide) rfl ?_
        refine WO.iadd (n := 87) hA dX6_readTheHouse_86 rfl ?_
        refine WO.putI (j := 14) (n := 90) hA (m_0 hw) rfl fiX6_readTheHouse_X6 tyX6 tyX6_ok nmX6 (by decide) rfl fkX6_readTheHouse_74 rfl rfl rfl rfl dX6_readTheHouse_87 rfl ?_
        refine WO.mem (fun M29 => ?_)
        refine WO.aload_n (n := 91) hA dX6_readTheHouse_90 2 rfl rfl ?_
        refine WO.getR (j := 18) (p := 8) (n := 94) hA (m_0 hw) rfl fiX6_readTheHouse_X6 (by decide) rfl fkX6_readTheHouse_31 dX6_readTheHouse_91 rfl ?_
        refine WO.iload_n (n := 95) hA dX6_readTheHouse_94 0 rfl rfl ?_
        refine WO.iconst (x := (1 : Int32)) (n := 96) hA dX6_readTheHouse_95 (by decide) rfl ?_
        refine WO.iadd (n := 97) hA dX6_readTheHouse_96 rfl ?_
        refine WO.aload_n (n := 98) hA dX6_readTheHouse_97 2 rfl rfl ?_
        refine WO.iload_n (n := 99) hA dX6_readTheHouse_98 3 rfl rfl ?_
        refine WO.iconst (x := (1 : Int32)) (n := 100) hA dX6_readTheHouse_99 (by decide) rfl ?_
        refine WO.bipush (x := (9 : Int32)) (n := 102) hA dX6_readTheHouse_100 (by decide) rfl ?_
        refine WO.callVi (As := [.int x1, .int (1 : Int32), .int (9 : Int32)]) (rest := [.int (x_27 + (1 : Int32)), .ref (w.2.1 8)]) (n := 105) hA (c_X6_digit v.2.1 w hw x1 (1 : Int32) (9 : Int32) M29) gX6_readTheHouse_X6_digit rfl (m_0 hw) rfl mdX6_digit ⟨rfl, rfl, Nat.le_of_ble_eq_true rfl, Nat.le_of_ble_eq_true rfl⟩ rfl rfl (Nat.le_of_ble_eq_true rfl) dX6_readTheHouse_102 rfl (fun r31 M30 => ?_)
        refine WO.iast (n := 106) hA (m_8 hw) dX6_readTheHouse_105 rfl (fun _ => ?_)
        refine WO.mem (fun M32 => ?_)
        refine WO.aload_n (n := 107) hA dX6_readTheHouse_106 2 rfl rfl ?_
        refine WO.dup (n := 108) hA dX6_readTheHouse_107 rfl rfl ?_
        refine WO.getI (j := 16) (n := 111) hA (m_0 hw) rfl fiX6_readTheHouse_X6 (by decide) rfl fkX6_readTheHouse_108 dX6_readTheHouse_108 rfl ?_
        refine WO.iconst (x := (1 : Int32)) (n := 112) hA dX6_readTheHouse_111 (by decide) rfl ?_
        refine WO.iadd (n := 113) hA dX6_readTheHouse_112 rfl ?_
        refine WO.putI (j := 16) (n := 116) hA (m_0 hw) rfl fiX6_readTheHouse_X6 tyX6 tyX6_ok nmX6 (by decide) rfl fkX6_readTheHouse_108 rfl rfl rfl rfl dX6_readTheHouse_113 rfl ?_
        refine WO.mem (fun M33 => ?_)
        refine WO.aload_n (n := 117) hA dX6_readTheHouse_116 2 rfl rfl ?_
        refine WO.getR (j := 18) (p := 8) (n := 120) hA (m_0 hw) rfl fiX6_readTheHouse_X6 (by decide) rfl fkX6_readTheHouse_31 dX6_readTheHouse_117 rfl ?_
        refine WO.iload_n (n := 121) hA dX6_readTheHouse_120 0 rfl rfl ?_
        refine WO.iconst (x := (1 : Int32)) (n := 122) hA dX6_readTheHouse_121 (by decide) rfl ?_
        refine WO.iadd (n := 123) hA dX6_readTheHouse_122 rfl ?_
        refine WO.iald (n := 124) hA (m_8 hw) dX6_readTheHouse_123 rfl (fun _ => ?_)
        refine WO.bipush (x := (-9 : Int32)) (n := 126) hA dX6_readTheHouse_124 (by decide) rfl ?_
        refine WO.icmp_eq (tg := 133) (n := 129) hA dX6_readTheHouse_126 (by decide) rfl (fun _ => ?_) (fun _ => ?_)
        · refine WO.iconst (x := (0 : Int32)) (n := 134) hA dX6_readTheHouse_133 (by decide) rfl ?_
          exact WO.zretc hA (by decide) dX6_readTheHouse_134
        · refine WO.iconst (x := (1 : Int32)) (n := 130) hA dX6_readTheHouse_129 (by decide) rfl ?_
          refine WO.goto (n := 134) hA dX6_readTheHouse_130 (by decide) ?_
          exact WO.zretc hA (by decide) dX6_readTheHouse_134
    · refine WO.iload_n (n := 45) hA dX6_readTheHouse_44 1 rfl rfl ?_
      refine WO.bipush (x := (110 : Int32)) (n := 47) hA dX6_readTheHouse_45 (by decide) rfl ?_
      refine WO.icmp_ne (tg := 54) (n := 50) hA dX6_readTheHouse_47 (by decide) rfl (fun _ => ?_) (fun _ => ?_)
      · refine WO.iconst (x := (1 : Int32)) (n := 51) hA dX6_readTheHouse_50 (by decide) rfl ?_
        refine WO.goto (n := 66) hA dX6_readTheHouse_51 (by decide) ?_
        refine WO.iast (n := 67) hA (m_8 hw) dX6_readTheHouse_66 rfl (fun _ => ?_)
        refine WO.mem (fun M34 => ?_)
        refine WO.aload_n (n := 68) hA dX6_readTheHouse_67 2 rfl rfl ?_
        refine WO.getR (j := 18) (p := 8) (n := 71) hA (m_0 hw) rfl fiX6_readTheHouse_X6 (by decide) rfl fkX6_readTheHouse_31 dX6_readTheHouse_68 rfl ?_
        refine WO.iload_n (n := 72) hA dX6_readTheHouse_71 0 rfl rfl ?_
        refine WO.iald (n := 73) hA (m_8 hw) dX6_readTheHouse_72 rfl (fun _ => ?_)
        refine WO.bipush (x := (-9 : Int32)) (n := 75) hA dX6_readTheHouse_73 (by decide) rfl ?_
        refine WO.icmp_ne (tg := 80) (n := 78) hA dX6_readTheHouse_75 (by decide) rfl (fun _ => ?_) (fun _ => ?_)
        · refine WO.iconst (x := (0 : Int32)) (n := 79) hA dX6_readTheHouse_78 (by decide) rfl ?_
          exact WO.zretc hA (by decide) dX6_readTheHouse_79
        · refine WO.aload_n (n := 81) hA dX6_readTheHouse_80 2 rfl rfl ?_
          refine WO.dup (n := 82) hA dX6_readTheHouse_81 rfl rfl ?_
          refine WO.getI (j := 14) (n := 85) hA (m_0 hw) rfl fiX6_readTheHouse_X6 (by decide) rfl fkX6_readTheHouse_74 dX6_readTheHouse_82 rfl ?_
          refine WO.iconst (x := (1 : Int32)) (n := 86) hA dX6_readTheHouse_85 (by decide) rfl ?_
          refine WO.iadd (n := 87) hA dX6_readTheHouse_86 rfl ?_
          refine WO.putI (j := 14) (n := 90) hA (m_0 hw) rfl fiX6_readTheHouse_X6 tyX6 tyX6_ok nmX6 (by decide) rfl fkX6_readTheHouse_74 rfl rfl rfl rfl dX6_readTheHouse_87 rfl ?_
          refine WO.mem (fun M35 => ?_)
          refine WO.aload_n (n := 91) hA dX6_readTheHouse_90 2 rfl rfl ?_
          refine WO.getR (j := 18) (p := 8) (n := 94) hA (m_0 hw) rfl fiX6_readTheHouse_X6 (by decide) rfl fkX6_readTheHouse_31 dX6_readTheHouse_91 rfl ?_
          refine WO.iload_n (n := 95) hA dX6_readTheHouse_94 0 rfl rfl ?_
          refine WO.iconst (x := (1 : Int32)) (n := 96) hA dX6_readTheHouse_95 (by decide) rfl ?_
          refine WO.iadd (n := 97) hA dX6_readTheHouse_96 rfl ?_
          refine WO.aload_n (n := 98) hA dX6_readTheHouse_97 2 rfl rfl ?_
          refine WO.iload_n (n := 99) hA dX6_readTheHouse_98 3 rfl rfl ?_
          refine WO.iconst (x := (1 : Int32)) (n := 100) hA dX6_readTheHouse_99 (by decide) rfl ?_
          refine WO.bipush (x := (9 : Int32)) (n := 102) hA dX6_readTheHouse_100 (by decide) rfl ?_
          refine WO.callVi (As := [.int x1, .int (1 : Int32), .int (9 : Int32)]) (rest := [.int (x_27 + (1 : Int32)), .ref (w.2.1 8)]) (n := 105) hA (c_X6_digit v.2.1 w hw x1 (1 : Int32) (9 : Int32) M35) gX6_readTheHouse_X6_digit rfl (m_0 hw) rfl mdX6_digit ⟨rfl, rfl, Nat.le_of_ble_eq_true rfl, Nat.le_of_ble_eq_true rfl⟩ rfl rfl (Nat.le_of_ble_eq_true rfl) dX6_readTheHouse_102 rfl (fun r37 M36 => ?_)
          refine WO.iast (n := 106) hA (m_8 hw) dX6_readTheHouse_105 rfl (fun _ => ?_)
          refine WO.mem (fun M38 => ?_)
          refine WO.aload_n (n := 107) hA dX6_readTheHouse_106 2 rfl rfl ?_
          refine WO.dup (n := 108) hA dX6_readTheHouse_107 rfl rfl ?_
          refine WO.getI (j := 16) (n := 111) hA (m_0 hw) rfl fiX6_readTheHouse_X6 (by decide) rfl fkX6_readTheHouse_108 dX6_readTheHouse_108 rfl ?_
          refine WO.iconst (x := (1 : Int32)) (n := 112) hA dX6_readTheHouse_111 (by decide) rfl ?_
          refine WO.iadd (n := 113) hA dX6_readTheHouse_112 rfl ?_
          refine WO.putI (j := 16) (n := 116) hA (m_0 hw) rfl fiX6_readTheHouse_X6 tyX6 tyX6_ok nmX6 (by decide) rfl fkX6_readTheHouse_108 rfl rfl rfl rfl dX6_readTheHouse_113 rfl ?_
          refine WO.mem (fun M39 => ?_)
          refine WO.aload_n (n := 117) hA dX6_readTheHouse_116 2 rfl rfl ?_
          refine WO.getR (j := 18) (p := 8) (n := 120) hA (m_0 hw) rfl fiX6_readTheHouse_X6 (by decide) rfl fkX6_readTheHouse_31 dX6_readTheHouse_117 rfl ?_
          refine WO.iload_n (n := 121) hA dX6_readTheHouse_120 0 rfl rfl ?_
          refine WO.iconst (x := (1 : Int32)) (n := 122) hA dX6_readTheHouse_121 (by decide) rfl ?_
          refine WO.iadd (n := 123) hA dX6_readTheHouse_122 rfl ?_
          refine WO.iald (n := 124) hA (m_8 hw) dX6_readTheHouse_123 rfl (fun _ => ?_)
          refine WO.bipush (x := (-9 : Int32)) (n := 126) hA dX6_readTheHouse_124 (by decide) rfl ?_
          refine WO.icmp_eq (tg := 133) (n := 129) hA dX6_readTheHouse_126 (by decide) rfl (fun _ => ?_) (fun _ => ?_)
          · refine WO.iconst (x := (0 : Int32)) (n := 134) hA dX6_readTheHouse_133 (by decide) rfl ?_
            exact WO.zretc hA (by decide) dX6_readTheHouse_134
          · refine WO.iconst (x := (1 : Int32)) (n := 130) hA dX6_readTheHouse_129 (by decide) rfl ?_
            refine WO.goto (n := 134) hA dX6_readTheHouse_130 (by decide) ?_
            exact WO.zretc hA (by decide) dX6_readTheHouse_134
      · refine WO.iload_n (n := 55) hA dX6_readTheHouse_54 1 rfl rfl ?_
        refine WO.bipush (x := (98 : Int32)) (n := 57) hA dX6_readTheHouse_55 (by decide) rfl ?_
        refine WO.icmp_ne (tg := 64) (n := 60) hA dX6_readTheHouse_57 (by decide) rfl (fun _ => ?_) (fun _ => ?_)
        · refine WO.iconst (x := (2 : Int32)) (n := 61) hA dX6_readTheHouse_60 (by decide) rfl ?_
          refine WO.goto (n := 66) hA dX6_readTheHouse_61 (by decide) ?_
          refine WO.iast (n := 67) hA (m_8 hw) dX6_readTheHouse_66 rfl (fun _ => ?_)
          refine WO.mem (fun M40 => ?_)
          refine WO.aload_n (n := 68) hA dX6_readTheHouse_67 2 rfl rfl ?_
          refine WO.getR (j := 18) (p := 8) (n := 71) hA (m_0 hw) rfl fiX6_readTheHouse_X6 (by decide) rfl fkX6_readTheHouse_31 dX6_readTheHouse_68 rfl ?_
          refine WO.iload_n (n := 72) hA dX6_readTheHouse_71 0 rfl rfl ?_
          refine WO.iald (n := 73) hA (m_8 hw) dX6_readTheHouse_72 rfl (fun _ => ?_)
          refine WO.bipush (x := (-9 : Int32)) (n := 75) hA dX6_readTheHouse_73 (by decide) rfl ?_
          refine WO.icmp_ne (tg := 80) (n := 78) hA dX6_readTheHouse_75 (by decide) rfl (fun _ => ?_) (fun _ => ?_)
          · refine WO.iconst (x := (0 : Int32)) (n := 79) hA dX6_readTheHouse_78 (by decide) rfl ?_
            exact WO.zretc hA (by decide) dX6_readTheHouse_79
          · refine WO.aload_n (n := 81) hA dX6_readTheHouse_80 2 rfl rfl ?_
            refine WO.dup (n := 82) hA dX6_readTheHouse_81 rfl rfl ?_
            refine WO.getI (j := 14) (n := 85) hA (m_0 hw) rfl fiX6_readTheHouse_X6 (by decide) rfl fkX6_readTheHouse_74 dX6_readTheHouse_82 rfl ?_
            refine WO.iconst (x := (1 : Int32)) (n := 86) hA dX6_readTheHouse_85 (by decide) rfl ?_
            refine WO.iadd (n := 87) hA dX6_readTheHouse_86 rfl ?_
            refine WO.putI (j := 14) (n := 90) hA (m_0 hw) rfl fiX6_readTheHouse_X6 tyX6 tyX6_ok nmX6 (by decide) rfl fkX6_readTheHouse_74 rfl rfl rfl rfl dX6_readTheHouse_87 rfl ?_
            refine WO.mem (fun M41 => ?_)
            refine WO.aload_n (n := 91) hA dX6_readTheHouse_90 2 rfl rfl ?_
            refine WO.getR (j := 18) (p := 8) (n := 94) hA (m_0 hw) rfl fiX6_readTheHouse_X6 (by decide) rfl fkX6_readTheHouse_31 dX6_readTheHouse_91 rfl ?_
            refine WO.iload_n (n := 95) hA dX6_readTheHouse_94 0 rfl rfl ?_
            refine WO.iconst (x := (1 : Int32)) (n := 96) hA dX6_readTheHouse_95 (by decide) rfl ?_
            refine WO.iadd (n := 97) hA dX6_readTheHouse_96 rfl ?_
            refine WO.aload_n (n := 98) hA dX6_readTheHouse_97 2 rfl rfl ?_
            refine WO.iload_n (n := 99) hA dX6_readTheHouse_98 3 rfl rfl ?_
            refine WO.iconst (x := (1 : Int32)) (n := 100) hA dX6_readTheHouse_99 (by decide) rfl ?_
            refine WO.bipush (x := (9 : Int32)) (n := 102) hA dX6_readTheHouse_100 (by decide) rfl ?_
            refine WO.callVi (As := [.int x1, .int (1 : Int32), .int (9 : Int32)]) (rest := [.int (x_27 + (1 : Int32)), .ref (w.2.1 8)]) (n := 105) hA (c_X6_digit v.2.1 w hw x1 (1 : Int32) (9 : Int32) M41) gX6_readTheHouse_X6_digit rfl (m_0 hw) rfl mdX6_digit ⟨rfl, rfl, Nat.le_of_ble_eq_true rfl, Nat.le_of_ble_eq_true rfl⟩ rfl rfl (Nat.le_of_ble_eq_true rfl) dX6_readTheHouse_102 rfl (fun r43 M42 => ?_)
            refine WO.iast (n := 106) hA (m_8 hw) dX6_readTheHouse_105 rfl (fun _ => ?_)
            refine WO.mem (fun M44 => ?_)
            refine WO.aload_n (n := 107) hA dX6_readTheHouse_106 2 rfl rfl ?_
            refine WO.dup (n := 108) hA dX6_readTheHouse_107 rfl rfl ?_
            refine WO.getI (j := 16) (n := 111) hA (m_0 hw) rfl fiX6_readTheHouse_X6 (by decide) rfl fkX6_readTheHouse_108 dX6_readTheHouse_108 rfl ?_
            refine WO.iconst (x := (1 : Int32)) (n := 112) hA dX6_readTheHouse_111 (by decide) rfl ?_
            refine WO.iadd (n := 113) hA dX6_readTheHouse_112 rfl ?_
            refine WO.putI (j := 16) (n := 116) hA (m_0 hw) rfl fiX6_readTheHouse_X6 tyX6 tyX6_ok nmX6 (by decide) rfl fkX6_readTheHouse_108 rfl rfl rfl rfl dX6_readTheHouse_113 rfl ?_
            refine WO.mem (fun M45 => ?_)
            refine WO.aload_n (n := 117) hA dX6_readTheHouse_116 2 rfl rfl ?_
            refine WO.getR (j := 18) (p := 8) (n := 120) hA (m_0 hw) rfl fiX6_readTheHouse_X6 (by decide) rfl fkX6_readTheHouse_31 dX6_readTheHouse_117 rfl ?_
            refine WO.iload_n (n := 121) hA dX6_readTheHouse_120 0 rfl rfl ?_
            refine WO.iconst (x := (1 : Int32)) (n := 122) hA dX6_readTheHouse_121 (by decide) rfl ?_
            refine WO.iadd (n := 123) hA dX6_readTheHouse_122 rfl ?_
            refine WO.iald (n := 124) hA (m_8 hw) dX6_readTheHouse_123 rfl (fun _ => ?_)
            refine WO.bipush (x := (-9 : Int32)) (n := 126) hA dX6_readTheHouse_124 (by decide) rfl ?_
            refine WO.icmp_eq (tg := 133) (n := 129) hA dX6_readTheHouse_126 (by decide) rfl (fun _ => ?_) (fun _ => ?_)
            · refine WO.iconst (x := (0 : Int32)) (n := 134) hA dX6_readTheHouse_133 (by decide) rfl ?_
              exact WO.zretc hA (by decide) dX6_readTheHouse_134
            · refine WO.iconst (x := (1 : Int32)) (n := 130) hA dX6_readTheHouse_129 (by decide) rfl ?_
              refine WO.goto (n := 134) hA dX6_readTheHouse_130 (by decide) ?_
              exact WO.zretc hA (by decide) dX6_readTheHouse_134
        · refine WO.bipush (x := (-9 : Int32)) (n := 66) hA dX6_readTheHouse_64 (by decide) rfl ?_
          refine WO.iast (n := 67) hA (m_8 hw) dX6_readTheHouse_66 rfl (fun _ => ?_)
          refine WO.mem (fun M46 => ?_)
          refine WO.aload_n (n := 68) hA dX6_readTheHouse_67 2 rfl rfl ?_
          refine WO.getR (j := 18) (p := 8) (n := 71) hA (m_0 hw) rfl fiX6_readTheHouse_X6 (by decide) rfl fkX6_readTheHouse_31 dX6_readTheHouse_68 rfl ?_
          refine WO.iload_n (n := 72) hA dX6_readTheHouse_71 0 rfl rfl ?_
          refine WO.iald (n := 73) hA (m_8 hw) dX6_readTheHouse_72 rfl (fun _ => ?_)
          refine WO.bipush (x := (-9 : Int32)) (n := 75) hA dX6_readTheHouse_73 (by decide) rfl ?_
          refine WO.icmp_ne (tg := 80) (n := 78) hA dX6_readTheHouse_75 (by decide) rfl (fun _ => ?_) (fun _ => ?_)
          · refine WO.iconst (x := (0 : Int32)) (n := 79) hA dX6_readTheHouse_78 (by decide) rfl ?_
            exact WO.zretc hA (by decide) dX6_readTheHouse_79
          · refine WO.aload_n (n := 81) hA dX6_readTheHouse_80 2 rfl rfl ?_
            refine WO.dup (n := 82) hA dX6_readTheHouse_81 rfl rfl ?_
            refine WO.getI (j := 14) (n := 85) hA (m_0 hw) rfl fiX6_readTheHouse_X6 (by decide) rfl fkX6_readTheHouse_74 dX6_readTheHouse_82 rfl ?_
            refine WO.iconst (x := (1 : Int32)) (n := 86) hA dX6_readTheHouse_85 (by decide) rfl ?_
            refine WO.iadd (n := 87) hA dX6_readTheHouse_86 rfl ?_
            refine WO.putI (j := 14) (n := 90) hA (m_0 hw) rfl fiX6_readTheHouse_X6 tyX6 tyX6_ok nmX6 (by decide) rfl fkX6_readTheHouse_74 rfl rfl rfl rfl dX6_readTheHouse_87 rfl ?_
            refine WO.mem (fun M47 => ?_)
            refine WO.aload_n (n := 91) hA dX6_readTheHouse_90 2 rfl rfl ?_
            refine WO.getR (j := 18) (p := 8) (n := 94) hA (m_0 hw) rfl fiX6_readTheHouse_X6 (by decide) rfl fkX6_readTheHouse_31 dX6_readTheHouse_91 rfl ?_
            refine WO.iload_n (n := 95) hA dX6_readTheHouse_94 0 rfl rfl ?_
            refine WO.iconst (x := (1 : Int32)) (n := 96) hA dX6_readTheHouse_95 (by decide) rfl ?_
            refine WO.iadd (n := 97) hA dX6_readTheHouse_96 rfl ?_
            refine WO.aload_n (n := 98) hA dX6_readTheHouse_97 2 rfl rfl ?_
            refine WO.iload_n (n := 99) hA dX6_readTheHouse_98 3 rfl rfl ?_
            refine WO.iconst (x := (1 : Int32)) (n := 100) hA dX6_readTheHouse_99 (by decide) rfl ?_
            refine WO.bipush (x := (9 : Int32)) (n := 102) hA dX6_readTheHouse_100 (by decide) rfl ?_
            refine WO.callVi (As := [.int x1, .int (1 : Int32), .int (9 : Int32)]) (rest := [.int (x_27 + (1 : Int32)), .ref (w.2.1 8)]) (n := 105) hA (c_X6_digit v.2.1 w hw x1 (1 : Int32) (9 : Int32) M47) gX6_readTheHouse_X6_digit rfl (m_0 hw) rfl mdX6_digit ⟨rfl, rfl, Nat.le_of_ble_eq_true rfl, Nat.le_of_ble_eq_true rfl⟩ rfl rfl (Nat.le_of_ble_eq_true rfl) dX6_readTheHouse_102 rfl (fun r49 M48 => ?_)
            refine WO.iast (n := 106) hA (m_8 hw) dX6_readTheHouse_105 rfl (fun _ => ?_)
            refine WO.mem (fun M50 => ?_)
            refine WO.aload_n (n := 107) hA dX6_readTheHouse_106 2 rfl rfl ?_
            refine WO.dup (n := 108) hA dX6_readTheHouse_107 rfl rfl ?_
            refine WO.getI (j := 16) (n := 111) hA (m_0 hw) rfl fiX6_readTheHouse_X6 (by decide) rfl fkX6_readTheHouse_108 dX6_readTheHouse_108 rfl ?_
            refine WO.iconst (x := (1 : Int32)) (n := 112) hA dX6_readTheHouse_111 (by decide) rfl ?_
            refine WO.iadd (n := 113) hA dX6_readTheHouse_112 rfl ?_
            refine WO.putI (j := 16) (n := 116) hA (m_0 hw) rfl fiX6_readTheHouse_X6 tyX6 tyX6_ok nmX6 (by decide) rfl fkX6_readTheHouse_108 rfl rfl rfl rfl dX6_readTheHouse_113 rfl ?_
            refine WO.mem (fun M51 => ?_)
            refine WO.aload_n (n := 117) hA dX6_readTheHouse_116 2 rfl rfl ?_
            refine WO.getR (j := 18) (p := 8) (n := 120) hA (m_0 hw) rfl fiX6_readTheHouse_X6 (by decide) rfl fkX6_readTheHouse_31 dX6_readTheHouse_117 rfl ?_
            refine WO.iload_n (n := 121) hA dX6_readTheHouse_120 0 rfl rfl ?_
            refine WO.iconst (x := (1 : Int32)) (n := 122) hA dX6_readTheHouse_121 (by decide) rfl ?_
            refine WO.iadd (n := 123) hA dX6_readTheHouse_122 rfl ?_
            refine WO.iald (n := 124) hA (m_8 hw) dX6_readTheHouse_123 rfl (fun _ => ?_)
            refine WO.bipush (x := (-9 : Int32)) (n := 126) hA dX6_readTheHouse_124 (by decide) rfl ?_
            refine WO.icmp_eq (tg := 133) (n := 129) hA dX6_readTheHouse_126 (by decide) rfl (fun _ => ?_) (fun _ => ?_)
            · refine WO.iconst (x := (0 : Int32)) (n := 134) hA dX6_readTheHouse_133 (by decide) rfl ?_
              exact WO.zretc hA (by decide) dX6_readTheHouse_134
            · refine WO.iconst (x := (1 : Int32)) (n := 130) hA dX6_readTheHouse_129 (by decide) rfl ?_
              refine WO.goto (n := 134) hA dX6_readTheHouse_130 (by decide) ?_
              exact WO.zretc hA (by decide) dX6_readTheHouse_134
