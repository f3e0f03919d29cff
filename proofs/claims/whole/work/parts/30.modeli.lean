/- X6_call -/
abbrev rmX6_call : Room := { frames := 1, cells := 0, slots := 0, locals := 21 }
theorem mdX6_call : yX6_call.cls = RX6 ∧ yX6_call.cls ≠ "java/lang/invoke/MethodHandle" ∧ yX6_call.cls ≠ "java/lang/invoke/VarHandle" ∧ (parseMethodDescriptor yX6_call.desc).map (fun d => d.parameters.length) = some 1 := by decide +kernel
theorem fkX6_call_19 : Cond.fieldLink RX6 19 (TX6 10).1 (TX6 10).2.1 (TX6 10).2.2.1 ∈ wsX6_call := by decide +kernel
theorem fiX6_call_X6 : ∀ q ∈ u_ws RX6 TX6 30, q ∈ wsX6_call := by decide +kernel
noncomputable def f_X6_call (x1 : Int32) (M : Mem) : Option (Int32 × Mem) := bd (f_X6_isHouse x1 M) (fun r2 M1 => if r2 = 0 then (some ((-1 : Int32), M1)) else (grd x1 6 (if (M1 4 x1.toNatClampNeg) = (2 : Int32) then (bd (f_X6_begins (5 : Int32) M1) (fun _ M3 => grd x1 6 (if (M3 4 x1.toNatClampNeg) = (2 : Int32) then (some ((80 : Int32), M3)) else (some (x1, M3))))) else (bd (f_X6_begins (4 : Int32) M1) (fun _ M4 => grd x1 6 (if (M4 4 x1.toNatClampNeg) = (2 : Int32) then (some ((80 : Int32), M4)) else (some (x1, M4))))))))
set_option maxHeartbeats 4000000 in
set_option maxRecDepth 100000 in
theorem c_X6_call (l : Launch) (w : Cw) (hw : w.2.2.2.2.2 = shM) (x1 : Int32) (M : Mem) : Ok l w eI yX6_call wsX6_call rmX6_call [.ref (w.2.1 0), .int x1] M (f_X6_call x1 M) := by
  refine Ok.of (cc := cX6_call) (nL := 2) (ret := (some .int)) (lv := [(0, .ref (w.2.1 0)), (1, .int x1)]) (by decide) rfl (Nat.le_of_ble_eq_true rfl) rfl (fun v hv hA => ?_)
  subst hv
  have hA : Act v w RX6 wsX6_call cX6_call 2 (some .int) := hA
  unfold f_X6_call
  refine WO.aload_n (n := 1) hA dX6_call_0 0 rfl rfl ?_
  refine WO.iload_n (n := 2) hA dX6_call_1 1 rfl rfl ?_
  refine WO.callVi (As := [.int x1]) (rest := []) (n := 5) hA (c_X6_isHouse v.2.1 w hw x1 M) gX6_call_X6_isHouse rfl (m_0 hw) rfl mdX6_isHouse ⟨rfl, rfl, Nat.le_of_ble_eq_true rfl, Nat.le_of_ble_eq_true rfl⟩ rfl rfl (Nat.le_of_ble_eq_true rfl) dX6_call_2 rfl (fun r2 M1 => ?_)
  refine WO.if_ne (tg := 10) (n := 8) hA dX6_call_5 (by decide) rfl (fun _ => ?_) (fun _ => ?_)
  · refine WO.iconst (x := (-1 : Int32)) (n := 9) hA dX6_call_8 (by decide) rfl ?_
    exact WO.iret hA dX6_call_9
  · refine WO.aload_n (n := 11) hA dX6_call_10 0 rfl rfl ?_
    refine WO.aload_n (n := 12) hA dX6_call_11 0 rfl rfl ?_
    refine WO.getR (j := 10) (p := 4) (n := 15) hA (m_0 hw) rfl fiX6_call_X6 (by decide) rfl fkX6_call_19 dX6_call_12 rfl ?_
    refine WO.iload_n (n := 16) hA dX6_call_15 1 rfl rfl ?_
    refine WO.iald (n := 17) hA (m_4 hw) dX6_call_16 rfl (fun _ => ?_)
    refine WO.iconst (x := (2 : Int32)) (n := 18) hA dX6_call_17 (by decide) rfl ?_
    refine WO.icmp_ne (tg := 25) (n := 21) hA dX6_call_18 (by decide) rfl (fun _ => ?_) (fun _ => ?_)
    · refine WO.iconst (x := (5 : Int32)) (n := 22) hA dX6_call_21 (by decide) rfl ?_
      refine WO.goto (n := 26) hA dX6_call_22 (by decide) ?_
      refine WO.callVv (As := [.int (5 : Int32)]) (rest := []) (n := 29) hA (c_X6_begins v.2.1 w hw (5 : Int32) M1) gX6_call_X6_begins rfl (m_0 hw) rfl mdX6_begins ⟨rfl, rfl, Nat.le_of_ble_eq_true rfl, Nat.le_of_ble_eq_true rfl⟩ rfl rfl (Nat.le_of_ble_eq_true rfl) dX6_call_26 rfl (fun M3 => ?_)
      refine WO.aload_n (n := 30) hA dX6_call_29 0 rfl rfl ?_
      refine WO.getR (j := 10) (p := 4) (n := 33) hA (m_0 hw) rfl fiX6_call_X6 (by decide) rfl fkX6_call_19 dX6_call_30 rfl ?_
      refine WO.iload_n (n := 34) hA dX6_call_33 1 rfl rfl ?_
      refine WO.iald (n := 35) hA (m_4 hw) dX6_call_34 rfl (fun _ => ?_)
      refine WO.iconst (x := (2 : Int32)) (n := 36) hA dX6_call_35 (by decide) rfl ?_
      refine WO.icmp_ne (tg := 44) (n := 39) hA dX6_call_36 (by decide) rfl (fun _ => ?_) (fun _ => ?_)
      · refine WO.bipush (x := (80 : Int32)) (n := 41) hA dX6_call_39 (by decide) rfl ?_
        refine WO.goto (n := 45) hA dX6_call_41 (by decide) ?_
        exact WO.iret hA dX6_call_45
      · refine WO.iload_n (n := 45) hA dX6_call_44 1 rfl rfl ?_
        exact WO.iret hA dX6_call_45
    · refine WO.iconst (x := (4 : Int32)) (n := 26) hA dX6_call_25 (by decide) rfl ?_
      refine WO.callVv (As := [.int (4 : Int32)]) (rest := []) (n := 29) hA (c_X6_begins v.2.1 w hw (4 : Int32) M1) gX6_call_X6_begins rfl (m_0 hw) rfl mdX6_begins ⟨rfl, rfl, Nat.le_of_ble_eq_true rfl, Nat.le_of_ble_eq_true rfl⟩ rfl rfl (Nat.le_of_ble_eq_true rfl) dX6_call_26 rfl (fun M4 => ?_)
      refine WO.aload_n (n := 30) hA dX6_call_29 0 rfl rfl ?_
      refine WO.getR (j := 10) (p := 4) (n := 33) hA (m_0 hw) rfl fiX6_call_X6 (by decide) rfl fkX6_call_19 dX6_call_30 rfl ?_
      refine WO.iload_n (n := 34) hA dX6_call_33 1 rfl rfl ?_
      refine WO.iald (n := 35) hA (m_4 hw) dX6_call_34 rfl (fun _ => ?_)
      refine WO.iconst (x := (2 : Int32)) (n := 36) hA dX6_call_35 (by decide) rfl ?_
      refine WO.icmp_ne (tg := 44) (n := 39) hA dX6_call_36 (by decide) rfl (fun _ => ?_) (fun _ => ?_)
      · refine WO.bipush (x := (80 : Int32)) (n := 41) hA dX6_call_39 (by decide) rfl ?_
        refine WO.goto (n := 45) hA dX6_call_41 (by decide) ?_
        exact WO.iret hA dX6_call_45
      · refine WO.iload_n (n := 45) hA dX6_call_44 1 rfl rfl ?_
        exact WO.iret hA dX6_call_45
/- X6_as -/
abbrev rmX6_as : Room := { frames := 1, cells := 0, slots := 0, locals := 22 }
theorem mdX6_as : yX6_as.cls = RX6 ∧ yX6_as.cls ≠ "java/lang/invoke/MethodHandle" ∧ yX6_as.cls ≠ "java/lang/invoke/VarHandle" ∧ (parseMethodDescriptor yX6_as.desc).map (fun d => d.parameters.length) = some 2 := by decide +kernel
theorem fkX6_as_58 : Cond.fieldLink RX6 58 (TX6 0).1 (TX6 0).2.1 (TX6 0).2.2.1 ∈ wsX6_as := by decide +kernel
theorem fiX6_as_X6 : ∀ q ∈ u_ws RX6 TX6 30, q ∈ wsX6_as := by decide +kernel
theorem fkX6_as_19 : Cond.fieldLink RX6 19 (TX6 10).1 (TX6 10).2.1 (TX6 10).2.2.1 ∈ wsX6_as := by decide +kernel
noncomputable def f_X6_as (x1 : Int32) (x2 : Int32) (M : Mem) : Option (Int32 × Mem) := mlt (mu M 0 0 (0 : Int32)) (fun M1 => bd (f_X6_isHouse x1 M1) (fun r3 M2 => if r3 = 0 then (some ((-1 : Int32), M2)) else (bd (f_X6_within x2 (0 : Int32) (2 : Int32) M2) (fun r5 M4 => if r5 = 0 then (some ((-2 : Int32), M4)) else (grd x1 6 (if (M4 4 x1.toNatClampNeg) < x2 then (bd (f_X6_fails (2 : Int32) M4) (fun r7 M6 => some (r7, M6))) else (some ((1 : Int32), M4))))))))
set_option maxHeartbeats 4000000 in
set_option maxRecDepth 100000 in
theorem c_X6_as (l : Launch) (w : Cw) (hw : w.2.2.2.2.2 = shM) (x1 : Int32) (x2 : Int32) (M : Mem) : Ok l w eI yX6_as wsX6_as rmX6_as [.ref (w.2.1 0), .int x1, .int x2] M (f_X6_as x1 x2 M) := by
  refine Ok.of (cc := cX6_as) (nL := 3) (ret := (some .int)) (lv := [(0, .ref (w.2.1 0)), (1, .int x1), (2, .int x2)]) (by decide) rfl (Nat.le_of_ble_eq_true rfl) rfl (fun v hv hA => ?_)
  subst hv
  have hA : Act v w RX6 wsX6_as cX6_as 3 (some .int) := hA
  unfold f_X6_as
  refine WO.aload_n (n := 1) hA dX6_as_0 0 rfl rfl ?_
  refine WO.iconst (x := (0 : Int32)) (n := 2) hA dX6_as_1 (by decide) rfl ?_
  refine WO.putI (j := 0) (n := 5) hA (m_0 hw) rfl fiX6_as_X6 tyX6 tyX6_ok nmX6 (by decide) rfl fkX6_as_58 rfl rfl rfl rfl dX6_as_2 rfl ?_
  refine WO.mem (fun M1 => ?_)
  refine WO.aload_n (n := 6) hA dX6_as_5 0 rfl rfl ?_
  refine WO.iload_n (n := 7) hA dX6_as_6 1 rfl rfl ?_
  refine WO.callVi (As := [.int x1]) (rest := []) (n := 10) hA (c_X6_isHouse v.2.1 w hw x1 M1) gX6_as_X6_isHouse rfl (m_0 hw) rfl mdX6_isHouse ⟨rfl, rfl, Nat.le_of_ble_eq_true rfl, Nat.le_of_ble_eq_true rfl⟩ rfl rfl (Nat.le_of_ble_eq_true rfl) dX6_as_7 rfl (fun r3 M2 => ?_)
  refine WO.if_ne (tg := 15) (n := 13) hA dX6_as_10 (by decide) rfl (fun _ => ?_) (fun _ => ?_)
  · refine WO.iconst (x := (-1 : Int32)) (n := 14) hA dX6_as_13 (by decide) rfl ?_
    exact WO.iret hA dX6_as_14
  · refine WO.iload_n (n := 16) hA dX6_as_15 2 rfl rfl ?_
    refine WO.iconst (x := (0 : Int32)) (n := 17) hA dX6_as_16 (by decide) rfl ?_
    refine WO.iconst (x := (2 : Int32)) (n := 18) hA dX6_as_17 (by decide) rfl ?_
    refine WO.callSi (As := [.int x2, .int (0 : Int32), .int (2 : Int32)]) (rest := []) (n := 21) hA (c_X6_within v.2.1 w hw x2 (0 : Int32) (2 : Int32) M2) gX6_as_X6_within rfl mdX6_within ⟨rfl, rfl, Nat.le_of_ble_eq_true rfl, Nat.le_of_ble_eq_true rfl⟩ rfl rfl (Nat.le_of_ble_eq_true rfl) dX6_as_18 rfl (fun r5 M4 => ?_)
    refine WO.if_ne (tg := 27) (n := 24) hA dX6_as_21 (by decide) rfl (fun _ => ?_) (fun _ => ?_)
    · refine WO.bipush (x := (-2 : Int32)) (n := 26) hA dX6_as_24 (by decide) rfl ?_
      exact WO.iret hA dX6_as_26
    · refine WO.aload_n (n := 28) hA dX6_as_27 0 rfl rfl ?_
      refine WO.getR (j := 10) (p := 4) (n := 31) hA (m_0 hw) rfl fiX6_as_X6 (by decide) rfl fkX6_as_19 dX6_as_28 rfl ?_
      refine WO.iload_n (n := 32) hA dX6_as_31 1 rfl rfl ?_
      refine WO.iald (n := 33) hA (m_4 hw) dX6_as_32 rfl (fun _ => ?_)
      refine WO.iload_n (n := 34) hA dX6_as_33 2 rfl rfl ?_
      refine WO.icmp_lt (tg := 41) (n := 37) hA dX6_as_34 (by decide) rfl (fun _ => ?_) (fun _ => ?_)
      · refine WO.aload_n (n := 42) hA dX6_as_41 0 rfl rfl ?_
        refine WO.iconst (x := (2 : Int32)) (n := 43) hA dX6_as_42 (by decide) rfl ?_
        refine WO.callVi (As := [.int (2 : Int32)]) (rest := []) (n := 46) hA (c_X6_fails v.2.1 w hw (2 : Int32) M4) gX6_as_X6_fails rfl (m_0 hw) rfl mdX6_fails ⟨rfl, rfl, Nat.le_of_ble_eq_true rfl, Nat.le_of_ble_eq_true rfl⟩ rfl rfl (Nat.le_of_ble_eq_true rfl) dX6_as_43 rfl (fun r7 M6 => ?_)
        exact WO.iret hA dX6_as_46
      · refine WO.iconst (x := (1 : Int32)) (n := 38) hA dX6_as_37 (by decide) rfl ?_
        refine WO.goto (n := 46) hA dX6_as_38 (by decide) ?_
        exact WO.iret hA dX6_as_46
/- X6_trace -/
abbrev rmX6_trace : Room := { frames := 0, cells := 0, slots := 0, locals := 0 }
theorem mdX6_trace : yX6_trace.cls = RX6 ∧ yX6_trace.cls ≠ "java/lang/invoke/MethodHandle" ∧ yX6_trace.cls ≠ "java/lang/invoke/VarHandle" ∧ (parseMethodDescriptor yX6_trace.desc).map (fun d => d.parameters.length) = some 0 := by decide +kernel
theorem fkX6_trace_222 : Cond.fieldLink RX6 222 (TX6 1).1 (TX6 1).2.1 (TX6 1).2.2.1 ∈ wsX6_trace := by decide +kernel
theorem fiX6_trace_X6 : ∀ q ∈ u_ws RX6 TX6 30, q ∈ wsX6_trace := by decide +kernel
noncomputable def f_X6_trace (M : Mem) : Option (Int32 × Mem) := some ((M 0 1), M)
set_option maxHeartbeats 4000000 in
set_option maxRecDepth 100000 in
theorem c_X6_trace (l : Launch) (w : Cw) (hw : w.2.2.2.2.2 = shM) (M : Mem) : Ok l w eI yX6_trace wsX6_trace rmX6_trace [.ref (w.2.1 0)] M (f_X6_trace M) := by
  refine Ok.of (cc := cX6_trace) (nL := 1) (ret := (some .int)) (lv := [(0, .ref (w.2.1 0))]) (by decide) rfl (Nat.le_of_ble_eq_true rfl) rfl (fun v hv hA => ?_)
  subst hv
  have hA : Act v w RX6 wsX6_trace cX6_trace 1 (some .int) := hA
  unfold f_X6_trace
  refine WO.aload_n (n := 1) hA dX6_trace_0 0 rfl rfl ?_
  refine WO.getI (j := 1) (n := 4) hA (m_0 hw) rfl fiX6_trace_X6 (by decide) rfl fkX6_trace_222 dX6_trace_1 rfl ?_
  exact WO.iret hA dX6_trace_4
/- X6_fault -/
abbrev rmX6_fault : Room := { frames := 0, cells := 0, slots := 0, locals := 0 }
theorem mdX6_fault : yX6_fault.cls = RX6 ∧ yX6_fault.cls ≠ "java/lang/invoke/MethodHandle" ∧ yX6_fault.cls ≠ "java/lang/invoke/VarHandle" ∧ (parseMethodDescriptor yX6_fault.desc).map (fun d => d.parameters.length) = some 0 := by decide +kernel
theorem fkX6_fault_58 : Cond.fieldLink RX6 58 (TX6 0).1 (TX6 0).2.1 (TX6 0).2.2.1 ∈ wsX6_fault := by decide +kernel
theorem fiX6_fault_X6 : ∀ q ∈ u_ws RX6 TX6 30, q ∈ wsX6_fault := by decide +kernel
noncomputable def f_X6_fault (M : Mem) : Option (Int32 × Mem) := some ((M 0 0), M)
set_option maxHeartbeats 4000000 in
set_option maxRecDepth 100000 in
theorem c_X6_fault (l : Launch) (w : Cw) (hw : w.2.2.2.2.2 = shM) (M : Mem) : Ok l w eI yX6_fault wsX6_fault rmX6_fault [.ref (w.2.1 0)] M (f_X6_fault M) := by
  refine Ok.of (cc := cX6_fault) (nL := 1) (ret := (some .int)) (lv := [(0, .ref (w.2.1 0))]) (by decide) rfl (Nat.le_of_ble_eq_true rfl) rfl (fun v hv hA => ?_)
  subst hv
  have hA : Act v w RX6 wsX6_fault cX6_fault 1 (some .int) := hA
  unfold f_X6_fault
  refine WO.aload_n (n := 1) hA dX6_fault_0 0 rfl rfl ?_
  refine WO.getI (j := 0) (n := 4) hA (m_0 hw) rfl fiX6_fault_X6 (by decide) rfl fkX6_fault_58 dX6_fault_1 rfl ?_
  exact WO.iret hA dX6_fault_4
/- X6_many -/
abbrev rmX6_many : Room := { frames := 0, cells := 0, slots := 0, locals := 0 }
theorem mdX6_many : yX6_many.cls = RX6 ∧ yX6_many.cls ≠ "java/lang/invoke/MethodHandle" ∧ yX6_many.cls ≠ "java/lang/invoke/VarHandle" ∧ (parseMethodDescriptor yX6_many.desc).map (fun d => d.parameters.length) = some 1 := by decide +kernel
theorem fkX6_many_68 : Cond.fieldLink RX6 68 (TX6 6).1 (TX6 6).2.1 (TX6 6).2.2.1 ∈ wsX6_many := by decide +kernel
theorem fiX6_many_X6 : ∀ q ∈ u_ws RX6 TX6 30, q ∈ wsX6_many := by decide +kernel
theorem fkX6_many_71 : Cond.fieldLink RX6 71 (TX6 7).1 (TX6 7).2.1 (TX6 7).2.2.1 ∈ wsX6_many := by decide +kernel
theorem fkX6_many_105 : Cond.fieldLink RX6 105 (TX6 5).1 (TX6 5).2.1 (TX6 5).2.2.1 ∈ wsX6_many := by decide +kernel
theorem fkX6_many_117 : Cond.fieldLink RX6 117 (TX6 8).1 (TX6 8).2.1 (TX6 8).2.2.1 ∈ wsX6_many := by decide +kernel
theorem fkX6_many_120 : Cond.fieldLink RX6 120 (TX6 25).1 (TX6 25).2.1 (TX6 25).2.2.1 ∈ wsX6_many := by decide +kernel
noncomputable def f_X6_many (x1 : Int32) (M : Mem) : Option (Int32 × Mem) := if x1 = (0 : Int32) then (some ((M 0 6), M)) else if x1 = (1 : Int32) then (some ((M 0 7), M)) else if x1 = (2 : Int32) then (some ((M 0 5), M)) else if x1 = (3 : Int32) then (some ((M 0 8), M)) else if x1 = (4 : Int32) then (some ((M 0 25), M)) else (some ((-2 : Int32), M))
set_option maxHeartbeats 4000000 in
set_option maxRecDepth 100000 in
theorem c_X6_many (l : Launch) (w : Cw) (hw : w.2.2.2.2.2 = shM) (x1 : Int32) (M : Mem) : Ok l w eI yX6_many wsX6_many rmX6_many [.ref (w.2.1 0), .int x1] M (f_X6_many x1 M) := by
  refine Ok.of (cc := cX6_many) (nL := 2) (ret := (some .int)) (lv := [(0, .ref (w.2.1 0)), (1, .int x1)]) (by decide) rfl (Nat.le_of_ble_eq_true rfl) rfl (fun v hv hA => ?_)
  subst hv
  have hA : Act v w RX6 wsX6_many cX6_many 2 (some .int) := hA
  unfold f_X6_many
  refine WO.iload_n (n := 1) hA dX6_many_0 1 rfl rfl ?_
  refine WO.ite (fun hs1 => ?_) (fun hs1 => ?_)
  · refine WO.tin (n := 36) hA (0 : Int32) hs1 dX6_many_1 (by decide) (by decide) rfl (by decide) ?_
    refine WO.aload_n (n := 37) hA dX6_many_36 0 rfl rfl ?_
    refine WO.getI (j := 6) (n := 40) hA (m_0 hw) rfl fiX6_many_X6 (by decide) rfl fkX6_many_68 dX6_many_37 rfl ?_
    exact WO.iret hA dX6_many_40
  · refine WO.ite (fun hs2 => ?_) (fun hs2 => ?_)
    · refine WO.tin (n := 41) hA (1 : Int32) hs2 dX6_many_1 (by decide) (by decide) rfl (by decide) ?_
      refine WO.aload_n (n := 42) hA dX6_many_41 0 rfl rfl ?_
      refine WO.getI (j := 7) (n := 45) hA (m_0 hw) rfl fiX6_many_X6 (by decide) rfl fkX6_many_71 dX6_many_42 rfl ?_
      exact WO.iret hA dX6_many_45
    · refine WO.ite (fun hs3 => ?_) (fun hs3 => ?_)
      · refine WO.tin (n := 46) hA (2 : Int32) hs3 dX6_many_1 (by decide) (by decide) rfl (by decide) ?_
        refine WO.aload_n (n := 47) hA dX6_many_46 0 rfl rfl ?_
        refine WO.getI (j := 5) (n := 50) hA (m_0 hw) rfl fiX6_many_X6 (by decide) rfl fkX6_many_105 dX6_many_47 rfl ?_
        exact WO.iret hA dX6_many_50
      · refine WO.ite (fun hs4 => ?_) (fun hs4 => ?_)
        · refine WO.tin (n := 51) hA (3 : Int32) hs4 dX6_many_1 (by decide) (by decide) rfl (by decide) ?_
          refine WO.aload_n (n := 52) hA dX6_many_51 0 rfl rfl ?_
          refine WO.getI (j := 8) (n := 55) hA (m_0 hw) rfl fiX6_many_X6 (by decide) rfl fkX6_many_117 dX6_many_52 rfl ?_
          exact WO.iret hA dX6_many_55
        · refine WO.ite (fun hs5 => ?_) (fun hs5 => ?_)
          · refine WO.tin (n := 56) hA (4 : Int32) hs5 dX6_many_1 (by decide) (by decide) rfl (by decide) ?_
            refine WO.aload_n (n := 57) hA dX6_many_56 0 rfl rfl ?_
            refine WO.getI (j := 25) (n := 60) hA (m_0 hw) rfl fiX6_many_X6 (by decide) rfl fkX6_many_120 dX6_many_57 rfl ?_
            exact WO.iret hA dX6_many_60
          · refine WO.tout (n := 61) hA dX6_many_1 (by have ehs1 := lv_neT (a := 0) hs1 (by decide); have ehs2 := lv_neT (a := 1) hs2 (by decide); have ehs3 := lv_neT (a := 2) hs3 (by decide); have ehs4 := lv_neT (a := 3) hs4 (by decide); have ehs5 := lv_neT (a := 4) hs5 (by decide); omega) (by decide) ?_
            refine WO.bipush (x := (-2 : Int32)) (n := 63) hA dX6_many_61 (by decide) rfl ?_
            exact WO.iret hA dX6_many_63
