/- X5_trace -/
abbrev rmX5_trace : Room := { frames := 0, cells := 0, slots := 0, locals := 0 }
theorem mdX5_trace : yX5_trace.cls = RX5 ∧ yX5_trace.cls ≠ "java/lang/invoke/MethodHandle" ∧ yX5_trace.cls ≠ "java/lang/invoke/VarHandle" ∧ (parseMethodDescriptor yX5_trace.desc).map (fun d => d.parameters.length) = some 0 := by decide +kernel
theorem fkX5_trace_254 : Cond.fieldLink RX5 254 (TX5 8).1 (TX5 8).2.1 (TX5 8).2.2.1 ∈ wsX5_trace := by decide +kernel
theorem fiX5_trace_X5 : ∀ q ∈ u_ws RX5 TX5 10, q ∈ wsX5_trace := by decide +kernel
noncomputable def f_X5_trace (M : Mem) : Option (Int32 × Mem) := some ((M 0 8), M)
set_option maxHeartbeats 4000000 in
set_option maxRecDepth 100000 in
theorem c_X5_trace (l : Launch) (w : Cw) (hw : w.2.2.2.2.2 = shX) (M : Mem) : Ok l w eI yX5_trace wsX5_trace rmX5_trace [.ref (w.2.1 0)] M (f_X5_trace M) := by
  refine Ok.of (cc := cX5_trace) (nL := 1) (ret := (some .int)) (lv := [(0, .ref (w.2.1 0))]) (by decide) rfl (Nat.le_of_ble_eq_true rfl) rfl (fun v hv hA => ?_)
  subst hv
  have hA : Act v w RX5 wsX5_trace cX5_trace 1 (some .int) := hA
  unfold f_X5_trace
  refine WO.aload_n (n := 1) hA dX5_trace_0 0 rfl rfl ?_
  refine WO.getI (j := 8) (n := 4) hA (x_0 hw) rfl fiX5_trace_X5 (by decide) rfl fkX5_trace_254 dX5_trace_1 rfl ?_
  exact WO.iret hA dX5_trace_4
/- X5_fault -/
abbrev rmX5_fault : Room := { frames := 0, cells := 0, slots := 0, locals := 0 }
theorem mdX5_fault : yX5_fault.cls = RX5 ∧ yX5_fault.cls ≠ "java/lang/invoke/MethodHandle" ∧ yX5_fault.cls ≠ "java/lang/invoke/VarHandle" ∧ (parseMethodDescriptor yX5_fault.desc).map (fun d => d.parameters.length) = some 0 := by decide +kernel
theorem fkX5_fault_53 : Cond.fieldLink RX5 53 (TX5 9).1 (TX5 9).2.1 (TX5 9).2.2.1 ∈ wsX5_fault := by decide +kernel
theorem fiX5_fault_X5 : ∀ q ∈ u_ws RX5 TX5 10, q ∈ wsX5_fault := by decide +kernel
noncomputable def f_X5_fault (M : Mem) : Option (Int32 × Mem) := some ((M 0 9), M)
set_option maxHeartbeats 4000000 in
set_option maxRecDepth 100000 in
theorem c_X5_fault (l : Launch) (w : Cw) (hw : w.2.2.2.2.2 = shX) (M : Mem) : Ok l w eI yX5_fault wsX5_fault rmX5_fault [.ref (w.2.1 0)] M (f_X5_fault M) := by
  refine Ok.of (cc := cX5_fault) (nL := 1) (ret := (some .int)) (lv := [(0, .ref (w.2.1 0))]) (by decide) rfl (Nat.le_of_ble_eq_true rfl) rfl (fun v hv hA => ?_)
  subst hv
  have hA : Act v w RX5 wsX5_fault cX5_fault 1 (some .int) := hA
  unfold f_X5_fault
  refine WO.aload_n (n := 1) hA dX5_fault_0 0 rfl rfl ?_
  refine WO.getI (j := 9) (n := 4) hA (x_0 hw) rfl fiX5_fault_X5 (by decide) rfl fkX5_fault_53 dX5_fault_1 rfl ?_
  exact WO.iret hA dX5_fault_4
/- X5_many -/
abbrev rmX5_many : Room := { frames := 0, cells := 0, slots := 0, locals := 0 }
theorem mdX5_many : yX5_many.cls = RX5 ∧ yX5_many.cls ≠ "java/lang/invoke/MethodHandle" ∧ yX5_many.cls ≠ "java/lang/invoke/VarHandle" ∧ (parseMethodDescriptor yX5_many.desc).map (fun d => d.parameters.length) = some 1 := by decide +kernel
theorem fkX5_many_12 : Cond.fieldLink RX5 12 (TX5 0).1 (TX5 0).2.1 (TX5 0).2.2.1 ∈ wsX5_many := by decide +kernel
theorem fiX5_many_X5 : ∀ q ∈ u_ws RX5 TX5 10, q ∈ wsX5_many := by decide +kernel
theorem fkX5_many_184 : Cond.fieldLink RX5 184 (TX3 5).1 (TX3 5).2.1 (TX3 5).2.2.1 ∈ wsX5_many := by decide +kernel
theorem fiX5_many_X3 : ∀ q ∈ u_ws RX3 TX3 10, q ∈ wsX5_many := by decide +kernel
theorem fkX5_many_89 : Cond.fieldLink RX5 89 (TX3 6).1 (TX3 6).2.1 (TX3 6).2.2.1 ∈ wsX5_many := by decide +kernel
theorem fkX5_many_137 : Cond.fieldLink RX5 137 (TX3 7).1 (TX3 7).2.1 (TX3 7).2.2.1 ∈ wsX5_many := by decide +kernel
theorem fkX5_many_83 : Cond.fieldLink RX5 83 (TX5 7).1 (TX5 7).2.1 (TX5 7).2.2.1 ∈ wsX5_many := by decide +kernel
theorem fkX5_many_31 : Cond.fieldLink RX5 31 (TX5 3).1 (TX5 3).2.1 (TX5 3).2.2.1 ∈ wsX5_many := by decide +kernel
theorem fkX5_many_86 : Cond.fieldLink RX5 86 (TX1 4).1 (TX1 4).2.1 (TX1 4).2.2.1 ∈ wsX5_many := by decide +kernel
theorem fiX5_many_X1 : ∀ q ∈ u_ws RX1 TX1 5, q ∈ wsX5_many := by decide +kernel
noncomputable def f_X5_many (x1 : Int32) (M : Mem) : Option (Int32 × Mem) := if x1 = (0 : Int32) then (some ((M 1 5), M)) else if x1 = (1 : Int32) then (some ((M 1 6), M)) else if x1 = (2 : Int32) then (some ((M 1 7), M)) else if x1 = (3 : Int32) then (some ((M 0 7), M)) else if x1 = (4 : Int32) then (some ((M 15 4), M)) else (some ((-2 : Int32), M))
set_option maxHeartbeats 4000000 in
set_option maxRecDepth 100000 in
theorem c_X5_many (l : Launch) (w : Cw) (hw : w.2.2.2.2.2 = shX) (x1 : Int32) (M : Mem) : Ok l w eI yX5_many wsX5_many rmX5_many [.ref (w.2.1 0), .int x1] M (f_X5_many x1 M) := by
  refine Ok.of (cc := cX5_many) (nL := 2) (ret := (some .int)) (lv := [(0, .ref (w.2.1 0)), (1, .int x1)]) (by decide) rfl (Nat.le_of_ble_eq_true rfl) rfl (fun v hv hA => ?_)
  subst hv
  have hA : Act v w RX5 wsX5_many cX5_many 2 (some .int) := hA
  unfold f_X5_many
  refine WO.iload_n (n := 1) hA dX5_many_0 1 rfl rfl ?_
  refine WO.ite (fun hs1 => ?_) (fun hs1 => ?_)
  · refine WO.tin (n := 36) hA (0 : Int32) hs1 dX5_many_1 (by decide) (by decide) rfl (by decide) ?_
    refine WO.aload_n (n := 37) hA dX5_many_36 0 rfl rfl ?_
    refine WO.getR (j := 0) (p := 1) (n := 40) hA (x_0 hw) rfl fiX5_many_X5 (by decide) rfl fkX5_many_12 dX5_many_37 rfl ?_
    refine WO.getI (j := 5) (n := 43) hA (st_0 hw st1) rfl fiX5_many_X3 (by decide) rfl fkX5_many_184 dX5_many_40 rfl ?_
    exact WO.iret hA dX5_many_43
  · refine WO.ite (fun hs2 => ?_) (fun hs2 => ?_)
    · refine WO.tin (n := 44) hA (1 : Int32) hs2 dX5_many_1 (by decide) (by decide) rfl (by decide) ?_
      refine WO.aload_n (n := 45) hA dX5_many_44 0 rfl rfl ?_
      refine WO.getR (j := 0) (p := 1) (n := 48) hA (x_0 hw) rfl fiX5_many_X5 (by decide) rfl fkX5_many_12 dX5_many_45 rfl ?_
      refine WO.getI (j := 6) (n := 51) hA (st_0 hw st1) rfl fiX5_many_X3 (by decide) rfl fkX5_many_89 dX5_many_48 rfl ?_
      exact WO.iret hA dX5_many_51
    · refine WO.ite (fun hs3 => ?_) (fun hs3 => ?_)
      · refine WO.tin (n := 52) hA (2 : Int32) hs3 dX5_many_1 (by decide) (by decide) rfl (by decide) ?_
        refine WO.aload_n (n := 53) hA dX5_many_52 0 rfl rfl ?_
        refine WO.getR (j := 0) (p := 1) (n := 56) hA (x_0 hw) rfl fiX5_many_X5 (by decide) rfl fkX5_many_12 dX5_many_53 rfl ?_
        refine WO.getI (j := 7) (n := 59) hA (st_0 hw st1) rfl fiX5_many_X3 (by decide) rfl fkX5_many_137 dX5_many_56 rfl ?_
        exact WO.iret hA dX5_many_59
      · refine WO.ite (fun hs4 => ?_) (fun hs4 => ?_)
        · refine WO.tin (n := 60) hA (3 : Int32) hs4 dX5_many_1 (by decide) (by decide) rfl (by decide) ?_
          refine WO.aload_n (n := 61) hA dX5_many_60 0 rfl rfl ?_
          refine WO.getI (j := 7) (n := 64) hA (x_0 hw) rfl fiX5_many_X5 (by decide) rfl fkX5_many_83 dX5_many_61 rfl ?_
          exact WO.iret hA dX5_many_64
        · refine WO.ite (fun hs5 => ?_) (fun hs5 => ?_)
          · refine WO.tin (n := 65) hA (4 : Int32) hs5 dX5_many_1 (by decide) (by decide) rfl (by decide) ?_
            refine WO.aload_n (n := 66) hA dX5_many_65 0 rfl rfl ?_
            refine WO.getR (j := 3) (p := 15) (n := 69) hA (x_0 hw) rfl fiX5_many_X5 (by decide) rfl fkX5_many_31 dX5_many_66 rfl ?_
            refine WO.getI (j := 4) (n := 72) hA (x_15 hw) rfl fiX5_many_X1 (by decide) rfl fkX5_many_86 dX5_many_69 rfl ?_
            exact WO.iret hA dX5_many_72
          · refine WO.tout (n := 73) hA dX5_many_1 (by have ehs1 := lv_neT (a := 0) hs1 (by decide); have ehs2 := lv_neT (a := 1) hs2 (by decide); have ehs3 := lv_neT (a := 2) hs3 (by decide); have ehs4 := lv_neT (a := 3) hs4 (by decide); have ehs5 := lv_neT (a := 4) hs5 (by decide); omega) (by decide) ?_
            refine WO.bipush (x := (-2 : Int32)) (n := 75) hA dX5_many_73 (by decide) rfl ?_
            exact WO.iret hA dX5_many_75
