/- X2_renew -/
abbrev rmX2_renew : Room := { frames := 1, cells := 0, slots := 0, locals := 23 }
theorem mdX2_renew : yX2_renew.cls = RX2 ∧ yX2_renew.cls ≠ "java/lang/invoke/MethodHandle" ∧ yX2_renew.cls ≠ "java/lang/invoke/VarHandle" ∧ (parseMethodDescriptor yX2_renew.desc).map (fun d => d.parameters.length) = some 2 := by decide +kernel
theorem fkX2_renew_15 : Cond.fieldLink RX2 15 (TX2 1).1 (TX2 1).2.1 (TX2 1).2.2.1 ∈ wsX2_renew := by decide +kernel
theorem fiX2_renew_X2 : ∀ q ∈ u_ws RX2 TX2 4, q ∈ wsX2_renew := by decide +kernel
theorem fkX2_renew_19 : Cond.fieldLink RX2 19 (TX2 2).1 (TX2 2).2.1 (TX2 2).2.2.1 ∈ wsX2_renew := by decide +kernel
theorem fkX2_renew_23 : Cond.fieldLink RX2 23 (TX2 3).1 (TX2 3).2.1 (TX2 3).2.2.1 ∈ wsX2_renew := by decide +kernel
theorem fkX2_renew_9 : Cond.fieldLink RX2 9 (TX2 0).1 (TX2 0).2.1 (TX2 0).2.2.1 ∈ wsX2_renew := by decide +kernel
noncomputable def f_X2_renew (a0 : Nat) (x1 : Int32) (x2 : Int32) (M : Mem) : Option (Unit × Mem) := mlt (mu M a0 1 (1 : Int32)) (fun M1 => mlt (mu M1 a0 2 x1) (fun M2 => mlt (mu M2 a0 3 x2) (fun M3 => bd (f_J7_fill_53178 (a0 + 1) 60 (0 : Int32) M3) (fun _ M4 => some ((), M4)))))
set_option maxHeartbeats 4000000 in
set_option maxRecDepth 100000 in
theorem c_X2_renew (l : Launch) (w : Cw) (hw : w.2.2.2.2.2 = shX) (a0 : Nat) (x1 : Int32) (x2 : Int32) (ha0 : isShe a0) (M : Mem) : Ok l w eV yX2_renew wsX2_renew rmX2_renew [.ref (w.2.1 a0), .int x1, .int x2] M (f_X2_renew a0 x1 x2 M) := by
  refine Ok.of (cc := cX2_renew) (nL := 3) (ret := none) (lv := [(0, .ref (w.2.1 a0)), (1, .int x1), (2, .int x2)]) (by decide) rfl (Nat.le_of_ble_eq_true rfl) rfl (fun v hv hA => ?_)
  subst hv
  have hA : Act v w RX2 wsX2_renew cX2_renew 3 none := hA
  unfold f_X2_renew
  refine WO.aload_n (n := 1) hA dX2_renew_0 0 rfl rfl ?_
  refine WO.iconst (x := (1 : Int32)) (n := 2) hA dX2_renew_1 (by decide) rfl ?_
  refine WO.putI (j := 1) (n := 5) hA (she_0 hw ha0) rfl fiX2_renew_X2 tyX2 tyX2_ok nmX2 (by decide) rfl fkX2_renew_15 rfl rfl rfl rfl dX2_renew_2 rfl ?_
  refine WO.mem (fun M1 => ?_)
  refine WO.aload_n (n := 6) hA dX2_renew_5 0 rfl rfl ?_
  refine WO.iload_n (n := 7) hA dX2_renew_6 1 rfl rfl ?_
  refine WO.putI (j := 2) (n := 10) hA (she_0 hw ha0) rfl fiX2_renew_X2 tyX2 tyX2_ok nmX2 (by decide) rfl fkX2_renew_19 rfl rfl rfl rfl dX2_renew_7 rfl ?_
  refine WO.mem (fun M2 => ?_)
  refine WO.aload_n (n := 11) hA dX2_renew_10 0 rfl rfl ?_
  refine WO.iload_n (n := 12) hA dX2_renew_11 2 rfl rfl ?_
  refine WO.putI (j := 3) (n := 15) hA (she_0 hw ha0) rfl fiX2_renew_X2 tyX2 tyX2_ok nmX2 (by decide) rfl fkX2_renew_23 rfl rfl rfl rfl dX2_renew_12 rfl ?_
  refine WO.mem (fun M3 => ?_)
  refine WO.aload_n (n := 16) hA dX2_renew_15 0 rfl rfl ?_
  refine WO.getR (j := 0) (p := (a0 + 1)) (n := 19) hA (she_0 hw ha0) rfl fiX2_renew_X2 (by decide) rfl fkX2_renew_9 dX2_renew_16 rfl ?_
  refine WO.iconst (x := (0 : Int32)) (n := 20) hA dX2_renew_19 (by decide) rfl ?_
  refine WO.callSv (As := [.ref (w.2.1 (a0 + 1)), .int (0 : Int32)]) (rest := []) (n := 23) hA (c_J7_fill_53178 v.2.1 w (a0 + 1) 60 (0 : Int32) (she_1 hw ha0) M3) gX2_renew_J7_fill_53178 rfl mdJ7_fill_53178 ⟨rfl, rfl, Nat.le_of_ble_eq_true rfl, Nat.le_of_ble_eq_true rfl⟩ rfl rfl (Nat.le_of_ble_eq_true rfl) dX2_renew_20 rfl (fun M4 => ?_)
  exact WO.vret hA dX2_renew_23
/- X2_faultAs -/
abbrev rmX2_faultAs : Room := { frames := 0, cells := 0, slots := 0, locals := 0 }
theorem mdX2_faultAs : yX2_faultAs.cls = RX2 ∧ yX2_faultAs.cls ≠ "java/lang/invoke/MethodHandle" ∧ yX2_faultAs.cls ≠ "java/lang/invoke/VarHandle" ∧ (parseMethodDescriptor yX2_faultAs.desc).map (fun d => d.parameters.length) = some 1 := by decide +kernel
theorem fkX2_faultAs_15 : Cond.fieldLink RX2 15 (TX2 1).1 (TX2 1).2.1 (TX2 1).2.2.1 ∈ wsX2_faultAs := by decide +kernel
theorem fiX2_faultAs_X2 : ∀ q ∈ u_ws RX2 TX2 4, q ∈ wsX2_faultAs := by decide +kernel
theorem fkX2_faultAs_19 : Cond.fieldLink RX2 19 (TX2 2).1 (TX2 2).2.1 (TX2 2).2.2.1 ∈ wsX2_faultAs := by decide +kernel
noncomputable def f_X2_faultAs (a0 : Nat) (x1 : Int32) (M : Mem) : Option (Int32 × Mem) := if (M a0 1) = 0 then (some ((1 : Int32), M)) else (if (M a0 2) = x1 then (some ((0 : Int32), M)) else (some ((2 : Int32), M)))
set_option maxHeartbeats 4000000 in
set_option maxRecDepth 100000 in
theorem c_X2_faultAs (l : Launch) (w : Cw) (hw : w.2.2.2.2.2 = shX) (a0 : Nat) (x1 : Int32) (ha0 : isShe a0) (M : Mem) : Ok l w eI yX2_faultAs wsX2_faultAs rmX2_faultAs [.ref (w.2.1 a0), .int x1] M (f_X2_faultAs a0 x1 M) := by
  refine Ok.of (cc := cX2_faultAs) (nL := 2) (ret := (some .int)) (lv := [(0, .ref (w.2.1 a0)), (1, .int x1)]) (by decide) rfl (Nat.le_of_ble_eq_true rfl) rfl (fun v hv hA => ?_)
  subst hv
  have hA : Act v w RX2 wsX2_faultAs cX2_faultAs 2 (some .int) := hA
  unfold f_X2_faultAs
  refine WO.aload_n (n := 1) hA dX2_faultAs_0 0 rfl rfl ?_
  refine WO.getI (j := 1) (n := 4) hA (she_0 hw ha0) rfl fiX2_faultAs_X2 (by decide) rfl fkX2_faultAs_15 dX2_faultAs_1 rfl ?_
  refine WO.if_ne (tg := 9) (n := 7) hA dX2_faultAs_4 (by decide) rfl (fun _ => ?_) (fun _ => ?_)
  · refine WO.iconst (x := (1 : Int32)) (n := 8) hA dX2_faultAs_7 (by decide) rfl ?_
    exact WO.iret hA dX2_faultAs_8
  · refine WO.aload_n (n := 10) hA dX2_faultAs_9 0 rfl rfl ?_
    refine WO.getI (j := 2) (n := 13) hA (she_0 hw ha0) rfl fiX2_faultAs_X2 (by decide) rfl fkX2_faultAs_19 dX2_faultAs_10 rfl ?_
    refine WO.iload_n (n := 14) hA dX2_faultAs_13 1 rfl rfl ?_
    refine WO.icmp_ne (tg := 21) (n := 17) hA dX2_faultAs_14 (by decide) rfl (fun _ => ?_) (fun _ => ?_)
    · refine WO.iconst (x := (0 : Int32)) (n := 18) hA dX2_faultAs_17 (by decide) rfl ?_
      refine WO.goto (n := 22) hA dX2_faultAs_18 (by decide) ?_
      exact WO.iret hA dX2_faultAs_22
    · refine WO.iconst (x := (2 : Int32)) (n := 22) hA dX2_faultAs_21 (by decide) rfl ?_
      exact WO.iret hA dX2_faultAs_22
/- X2_lacks -/
abbrev rmX2_lacks : Room := { frames := 0, cells := 0, slots := 0, locals := 0 }
theorem mdX2_lacks : yX2_lacks.cls = RX2 ∧ yX2_lacks.cls ≠ "java/lang/invoke/MethodHandle" ∧ yX2_lacks.cls ≠ "java/lang/invoke/VarHandle" ∧ (parseMethodDescriptor yX2_lacks.desc).map (fun d => d.parameters.length) = some 2 := by decide +kernel
theorem fkX2_lacks_23 : Cond.fieldLink RX2 23 (TX2 3).1 (TX2 3).2.1 (TX2 3).2.2.1 ∈ wsX2_lacks := by decide +kernel
theorem fiX2_lacks_X2 : ∀ q ∈ u_ws RX2 TX2 4, q ∈ wsX2_lacks := by decide +kernel
noncomputable def f_X2_lacks (a0 : Nat) (x1 : Int32) (x2 : Int32) (M : Mem) : Option (Int32 × Mem) := if x1 < 0 then (some ((1 : Int32), M)) else (if (M a0 3) < x1 then (some ((1 : Int32), M)) else (if x2 < 0 then (some ((1 : Int32), M)) else (if x2 ≤ ((M a0 3) - x1) then (some ((0 : Int32), M)) else (some ((1 : Int32), M)))))
set_option maxHeartbeats 4000000 in
set_option maxRecDepth 100000 in
theorem c_X2_lacks (l : Launch) (w : Cw) (hw : w.2.2.2.2.2 = shX) (a0 : Nat) (x1 : Int32) (x2 : Int32) (ha0 : isShe a0) (M : Mem) : Ok l w eI yX2_lacks wsX2_lacks rmX2_lacks [.ref (w.2.1 a0), .int x1, .int x2] M (f_X2_lacks a0 x1 x2 M) := by
  refine Ok.of (cc := cX2_lacks) (nL := 3) (ret := (some .boolean)) (lv := [(0, .ref (w.2.1 a0)), (1, .int x1), (2, .int x2)]) (by decide) rfl (Nat.le_of_ble_eq_true rfl) rfl (fun v hv hA => ?_)
  subst hv
  have hA : Act v w RX2 wsX2_lacks cX2_lacks 3 (some .boolean) := hA
  unfold f_X2_lacks
  refine WO.iload_n (n := 1) hA dX2_lacks_0 1 rfl rfl ?_
  refine WO.if_lt (tg := 26) (n := 4) hA dX2_lacks_1 (by decide) rfl (fun _ => ?_) (fun _ => ?_)
  · refine WO.iconst (x := (1 : Int32)) (n := 27) hA dX2_lacks_26 (by decide) rfl ?_
    refine WO.goto (n := 31) hA dX2_lacks_27 (by decide) ?_
    exact WO.zretc hA (by decide) dX2_lacks_31
  · refine WO.iload_n (n := 5) hA dX2_lacks_4 1 rfl rfl ?_
    refine WO.aload_n (n := 6) hA dX2_lacks_5 0 rfl rfl ?_
    refine WO.getI (j := 3) (n := 9) hA (she_0 hw ha0) rfl fiX2_lacks_X2 (by decide) rfl fkX2_lacks_23 dX2_lacks_6 rfl ?_
    refine WO.icmp_gt (tg := 26) (n := 12) hA dX2_lacks_9 (by decide) rfl (fun _ => ?_) (fun _ => ?_)
    · refine WO.iconst (x := (1 : Int32)) (n := 27) hA dX2_lacks_26 (by decide) rfl ?_
      refine WO.goto (n := 31) hA dX2_lacks_27 (by decide) ?_
      exact WO.zretc hA (by decide) dX2_lacks_31
    · refine WO.iload_n (n := 13) hA dX2_lacks_12 2 rfl rfl ?_
      refine WO.if_lt (tg := 26) (n := 16) hA dX2_lacks_13 (by decide) rfl (fun _ => ?_) (fun _ => ?_)
      · refine WO.iconst (x := (1 : Int32)) (n := 27) hA dX2_lacks_26 (by decide) rfl ?_
        refine WO.goto (n := 31) hA dX2_lacks_27 (by decide) ?_
        exact WO.zretc hA (by decide) dX2_lacks_31
      · refine WO.iload_n (n := 17) hA dX2_lacks_16 2 rfl rfl ?_
        refine WO.aload_n (n := 18) hA dX2_lacks_17 0 rfl rfl ?_
        refine WO.getI (j := 3) (n := 21) hA (she_0 hw ha0) rfl fiX2_lacks_X2 (by decide) rfl fkX2_lacks_23 dX2_lacks_18 rfl ?_
        refine WO.iload_n (n := 22) hA dX2_lacks_21 1 rfl rfl ?_
        refine WO.isub (n := 23) hA dX2_lacks_22 rfl ?_
        refine WO.icmp_le (tg := 30) (n := 26) hA dX2_lacks_23 (by decide) rfl (fun _ => ?_) (fun _ => ?_)
        · refine WO.iconst (x := (0 : Int32)) (n := 31) hA dX2_lacks_30 (by decide) rfl ?_
          exact WO.zretc hA (by decide) dX2_lacks_31
        · refine WO.iconst (x := (1 : Int32)) (n := 27) hA dX2_lacks_26 (by decide) rfl ?_
          refine WO.goto (n := 31) hA dX2_lacks_27 (by decide) ?_
          exact WO.zretc hA (by decide) dX2_lacks_31
/- X2_cut -/
abbrev rmX2_cut : Room := { frames := 0, cells := 0, slots := 0, locals := 0 }
theorem mdX2_cut : yX2_cut.cls = RX2 ∧ yX2_cut.cls ≠ "java/lang/invoke/MethodHandle" ∧ yX2_cut.cls ≠ "java/lang/invoke/VarHandle" ∧ (parseMethodDescriptor yX2_cut.desc).map (fun d => d.parameters.length) = some 1 := by decide +kernel
theorem fkX2_cut_19 : Cond.fieldLink RX2 19 (TX2 2).1 (TX2 2).2.1 (TX2 2).2.2.1 ∈ wsX2_cut := by decide +kernel
theorem fiX2_cut_X2 : ∀ q ∈ u_ws RX2 TX2 4, q ∈ wsX2_cut := by decide +kernel
noncomputable def f_X2_cut (a0 : Nat) (x1 : Int32) (M : Mem) : Option (Int32 × Mem) := if (M a0 2) = (0 : Int32) then (some (((x1).toInt8.toInt32), M)) else if (M a0 2) = (1 : Int32) then (some (((x1).toInt16.toInt32), M)) else (some (x1, M))
set_option maxHeartbeats 4000000 in
set_option maxRecDepth 100000 in
theorem c_X2_cut (l : Launch) (w : Cw) (hw : w.2.2.2.2.2 = shX) (a0 : Nat) (x1 : Int32) (ha0 : isShe a0) (M : Mem) : Ok l w eI yX2_cut wsX2_cut rmX2_cut [.ref (w.2.1 a0), .int x1] M (f_X2_cut a0 x1 M) := by
  refine Ok.of (cc := cX2_cut) (nL := 2) (ret := (some .int)) (lv := [(0, .ref (w.2.1 a0)), (1, .int x1)]) (by decide) rfl (Nat.le_of_ble_eq_true rfl) rfl (fun v hv hA => ?_)
  subst hv
  have hA : Act v w RX2 wsX2_cut cX2_cut 2 (some .int) := hA
  unfold f_X2_cut
  refine WO.aload_n (n := 1) hA dX2_cut_0 0 rfl rfl ?_
  refine WO.getI (j := 2) (n := 4) hA (she_0 hw ha0) rfl fiX2_cut_X2 (by decide) rfl fkX2_cut_19 dX2_cut_1 rfl ?_
  refine WO.ite (fun hs1 => ?_) (fun hs1 => ?_)
  · refine WO.lsw (n := 32) hA dX2_cut_4 (by decide) (by rw [hs1]; decide +kernel : _ = (28 : Int)) (by decide) ?_
    refine WO.iload_n (n := 33) hA dX2_cut_32 1 rfl rfl ?_
    refine WO.i2b (n := 34) hA dX2_cut_33 rfl ?_
    exact WO.iret hA dX2_cut_34
  · refine WO.ite (fun hs2 => ?_) (fun hs2 => ?_)
    · refine WO.lsw (n := 35) hA dX2_cut_4 (by decide) (by rw [hs2]; decide +kernel : _ = (31 : Int)) (by decide) ?_
      refine WO.iload_n (n := 36) hA dX2_cut_35 1 rfl rfl ?_
      refine WO.i2s (n := 37) hA dX2_cut_36 rfl ?_
      exact WO.iret hA dX2_cut_37
    · refine WO.lsw (off := 34) (n := 38) hA dX2_cut_4 (by decide) ((lv_osw hs1 (by decide)).trans ((lv_osw hs2 (by decide)).trans rfl)) (by decide) ?_
      refine WO.iload_n (n := 39) hA dX2_cut_38 1 rfl rfl ?_
      exact WO.iret hA dX2_cut_39
