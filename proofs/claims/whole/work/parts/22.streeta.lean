/- X3_soundIf -/
abbrev rmX3_soundIf : Room := { frames := 0, cells := 0, slots := 0, locals := 0 }
theorem mdX3_soundIf : yX3_soundIf.cls = RX3 ∧ yX3_soundIf.cls ≠ "java/lang/invoke/MethodHandle" ∧ yX3_soundIf.cls ≠ "java/lang/invoke/VarHandle" ∧ (parseMethodDescriptor yX3_soundIf.desc).map (fun d => d.parameters.length) = some 2 := by decide +kernel
theorem fkX3_soundIf_18 : Cond.fieldLink RX3 18 (TX3 2).1 (TX3 2).2.1 (TX3 2).2.2.1 ∈ wsX3_soundIf := by decide +kernel
theorem fiX3_soundIf_X3 : ∀ q ∈ u_ws RX3 TX3 10, q ∈ wsX3_soundIf := by decide +kernel
noncomputable def f_X3_soundIf (a0 : Nat) (x1 : Int32) (x2 : Int32) (M : Mem) : Option (Int32 × Mem) := if x2 = 0 then (grd x1 4 (some ((M (a0 + 3) x1.toNatClampNeg), M))) else (grd x1 4 (some (((M (a0 + 3) x1.toNatClampNeg) / (2 : Int32)), M)))
set_option maxHeartbeats 4000000 in
set_option maxRecDepth 100000 in
theorem c_X3_soundIf (l : Launch) (w : Cw) (hw : w.2.2.2.2.2 = shX) (a0 : Nat) (x1 : Int32) (x2 : Int32) (ha0 : isSt a0) (M : Mem) : Ok l w eI yX3_soundIf wsX3_soundIf rmX3_soundIf [.ref (w.2.1 a0), .int x1, .int x2] M (f_X3_soundIf a0 x1 x2 M) := by
  refine Ok.of (cc := cX3_soundIf) (nL := 3) (ret := (some .int)) (lv := [(0, .ref (w.2.1 a0)), (1, .int x1), (2, .int x2)]) (by decide) rfl (Nat.le_of_ble_eq_true rfl) rfl (fun v hv hA => ?_)
  subst hv
  have hA : Act v w RX3 wsX3_soundIf cX3_soundIf 3 (some .int) := hA
  unfold f_X3_soundIf
  refine WO.iload_n (n := 1) hA dX3_soundIf_0 2 rfl rfl ?_
  refine WO.if_eq (tg := 15) (n := 4) hA dX3_soundIf_1 (by decide) rfl (fun _ => ?_) (fun _ => ?_)
  · refine WO.aload_n (n := 16) hA dX3_soundIf_15 0 rfl rfl ?_
    refine WO.getR (j := 2) (p := (a0 + 3)) (n := 19) hA (st_0 hw ha0) rfl fiX3_soundIf_X3 (by decide) rfl fkX3_soundIf_18 dX3_soundIf_16 rfl ?_
    refine WO.iload_n (n := 20) hA dX3_soundIf_19 1 rfl rfl ?_
    refine WO.iald (n := 21) hA (st_3 hw ha0) dX3_soundIf_20 rfl (fun _ => ?_)
    exact WO.iret hA dX3_soundIf_21
  · refine WO.aload_n (n := 5) hA dX3_soundIf_4 0 rfl rfl ?_
    refine WO.getR (j := 2) (p := (a0 + 3)) (n := 8) hA (st_0 hw ha0) rfl fiX3_soundIf_X3 (by decide) rfl fkX3_soundIf_18 dX3_soundIf_5 rfl ?_
    refine WO.iload_n (n := 9) hA dX3_soundIf_8 1 rfl rfl ?_
    refine WO.iald (n := 10) hA (st_3 hw ha0) dX3_soundIf_9 rfl (fun _ => ?_)
    refine WO.iconst (x := (2 : Int32)) (n := 11) hA dX3_soundIf_10 (by decide) rfl ?_
    refine WO.idivc (n := 12) hA dX3_soundIf_11 (by decide) rfl ?_
    refine WO.goto (n := 21) hA dX3_soundIf_12 (by decide) ?_
    exact WO.iret hA dX3_soundIf_21
/- X3_sound -/
abbrev rmX3_sound : Room := { frames := 1, cells := 0, slots := 0, locals := 22 }
theorem mdX3_sound : yX3_sound.cls = RX3 ∧ yX3_sound.cls ≠ "java/lang/invoke/MethodHandle" ∧ yX3_sound.cls ≠ "java/lang/invoke/VarHandle" ∧ (parseMethodDescriptor yX3_sound.desc).map (fun d => d.parameters.length) = some 1 := by decide +kernel
theorem fkX3_sound_24 : Cond.fieldLink RX3 24 (TX3 4).1 (TX3 4).2.1 (TX3 4).2.2.1 ∈ wsX3_sound := by decide +kernel
theorem fiX3_sound_X3 : ∀ q ∈ u_ws RX3 TX3 10, q ∈ wsX3_sound := by decide +kernel
noncomputable def f_X3_sound (a0 : Nat) (x1 : Int32) (M : Mem) : Option (Int32 × Mem) := grd x1 4 (bd (f_X3_soundIf a0 x1 (M (a0 + 5) x1.toNatClampNeg) M) (fun r2 M1 => some (r2, M1)))
set_option maxHeartbeats 4000000 in
set_option maxRecDepth 100000 in
theorem c_X3_sound (l : Launch) (w : Cw) (hw : w.2.2.2.2.2 = shX) (a0 : Nat) (x1 : Int32) (ha0 : isSt a0) (M : Mem) : Ok l w eI yX3_sound wsX3_sound rmX3_sound [.ref (w.2.1 a0), .int x1] M (f_X3_sound a0 x1 M) := by
  refine Ok.of (cc := cX3_sound) (nL := 2) (ret := (some .int)) (lv := [(0, .ref (w.2.1 a0)), (1, .int x1)]) (by decide) rfl (Nat.le_of_ble_eq_true rfl) rfl (fun v hv hA => ?_)
  subst hv
  have hA : Act v w RX3 wsX3_sound cX3_sound 2 (some .int) := hA
  unfold f_X3_sound
  refine WO.aload_n (n := 1) hA dX3_sound_0 0 rfl rfl ?_
  refine WO.iload_n (n := 2) hA dX3_sound_1 1 rfl rfl ?_
  refine WO.aload_n (n := 3) hA dX3_sound_2 0 rfl rfl ?_
  refine WO.getR (j := 4) (p := (a0 + 5)) (n := 6) hA (st_0 hw ha0) rfl fiX3_sound_X3 (by decide) rfl fkX3_sound_24 dX3_sound_3 rfl ?_
  refine WO.iload_n (n := 7) hA dX3_sound_6 1 rfl rfl ?_
  refine WO.zald (n := 8) hA (st_5 hw ha0) dX3_sound_7 rfl (fun _ => ?_)
  refine WO.callVi (As := [.int x1, .int (M (a0 + 5) x1.toNatClampNeg)]) (rest := []) (n := 11) hA (c_X3_soundIf v.2.1 w hw a0 x1 (M (a0 + 5) x1.toNatClampNeg) ha0 M) gX3_sound_X3_soundIf rfl (st_0 hw ha0) rfl mdX3_soundIf ⟨rfl, rfl, Nat.le_of_ble_eq_true rfl, Nat.le_of_ble_eq_true rfl⟩ rfl rfl (Nat.le_of_ble_eq_true rfl) dX3_sound_8 rfl (fun r2 M1 => ?_)
  exact WO.iret hA dX3_sound_11
/- X3_heard -/
abbrev rmX3_heard : Room := { frames := 1, cells := 0, slots := 0, locals := 21 }
theorem mdX3_heard : yX3_heard.cls = RX3 ∧ yX3_heard.cls ≠ "java/lang/invoke/MethodHandle" ∧ yX3_heard.cls ≠ "java/lang/invoke/VarHandle" ∧ (parseMethodDescriptor yX3_heard.desc).map (fun d => d.parameters.length) = some 3 := by decide +kernel
theorem fkX3_heard_35 : Cond.fieldLink RX3 35 (TX3 7).1 (TX3 7).2.1 (TX3 7).2.2.1 ∈ wsX3_heard := by decide +kernel
theorem fiX3_heard_X3 : ∀ q ∈ u_ws RX3 TX3 10, q ∈ wsX3_heard := by decide +kernel
theorem abX3_heard_51 : Cond.methodLink RX3 51 Lib.Math.abs.name ∈ wsX3_heard := by decide +kernel
theorem abX3_heard_s : Cond.static Lib.Math.abs.name ∈ wsX3_heard := by decide +kernel
theorem abX3_heard_i : Cond.initialized "java/lang/Math" ∈ wsX3_heard := by decide +kernel
theorem abX3_heard_c : Cond.code Lib.Math.abs.name Lib.Math.abs.code 1 (some .int) ∈ wsX3_heard := by decide +kernel
noncomputable def f_X3_heard (a0 : Nat) (x1 : Int32) (x2 : Int32) (x3 : Int32) (M : Mem) : Option (Int32 × Mem) := some ((x2 - ((M a0 7) * (iabs (x1 - x3)))), M)
set_option maxHeartbeats 4000000 in
set_option maxRecDepth 100000 in
theorem c_X3_heard (l : Launch) (w : Cw) (hw : w.2.2.2.2.2 = shX) (a0 : Nat) (x1 : Int32) (x2 : Int32) (x3 : Int32) (ha0 : isSt a0) (M : Mem) : Ok l w eI yX3_heard wsX3_heard rmX3_heard [.ref (w.2.1 a0), .int x1, .int x2, .int x3] M (f_X3_heard a0 x1 x2 x3 M) := by
  refine Ok.of (cc := cX3_heard) (nL := 4) (ret := (some .int)) (lv := [(0, .ref (w.2.1 a0)), (1, .int x1), (2, .int x2), (3, .int x3)]) (by decide) rfl (Nat.le_of_ble_eq_true rfl) rfl (fun v hv hA => ?_)
  subst hv
  have hA : Act v w RX3 wsX3_heard cX3_heard 4 (some .int) := hA
  unfold f_X3_heard
  refine WO.iload_n (n := 1) hA dX3_heard_0 2 rfl rfl ?_
  refine WO.aload_n (n := 2) hA dX3_heard_1 0 rfl rfl ?_
  refine WO.getI (j := 7) (n := 5) hA (st_0 hw ha0) rfl fiX3_heard_X3 (by decide) rfl fkX3_heard_35 dX3_heard_2 rfl ?_
  refine WO.iload_n (n := 6) hA dX3_heard_5 1 rfl rfl ?_
  refine WO.iload_n (n := 7) hA dX3_heard_6 3 rfl rfl ?_
  refine WO.isub (n := 8) hA dX3_heard_7 rfl ?_
  refine WO.mabs (n := 11) hA abX3_heard_51 abX3_heard_s abX3_heard_i abX3_heard_c (Nat.le_of_ble_eq_true rfl) (Nat.le_of_ble_eq_true rfl) dX3_heard_8 rfl ?_
  refine WO.imul (n := 12) hA dX3_heard_11 rfl ?_
  refine WO.isub (n := 13) hA dX3_heard_12 rfl ?_
  exact WO.iret hA dX3_heard_13
/- X3_needs -/
abbrev rmX3_needs : Room := { frames := 0, cells := 0, slots := 0, locals := 0 }
theorem mdX3_needs : yX3_needs.cls = RX3 ∧ yX3_needs.cls ≠ "java/lang/invoke/MethodHandle" ∧ yX3_needs.cls ≠ "java/lang/invoke/VarHandle" ∧ (parseMethodDescriptor yX3_needs.desc).map (fun d => d.parameters.length) = some 1 := by decide +kernel
theorem fkX3_needs_9 : Cond.fieldLink RX3 9 (TX3 0).1 (TX3 0).2.1 (TX3 0).2.2.1 ∈ wsX3_needs := by decide +kernel
theorem fiX3_needs_X3 : ∀ q ∈ u_ws RX3 TX3 10, q ∈ wsX3_needs := by decide +kernel
theorem fkX3_needs_15 : Cond.fieldLink RX3 15 (TX3 1).1 (TX3 1).2.1 (TX3 1).2.2.1 ∈ wsX3_needs := by decide +kernel
noncomputable def f_X3_needs (a0 : Nat) (x1 : Int32) (M : Mem) : Option (Int32 × Mem) := grd x1 6 (if (M (a0 + 1) x1.toNatClampNeg) = (1 : Int32) then (grd x1 6 (some (((M (a0 + 2) x1.toNatClampNeg) - (1 : Int32)), M))) else if (M (a0 + 1) x1.toNatClampNeg) = (2 : Int32) then (grd x1 6 (some (((M (a0 + 2) x1.toNatClampNeg) / (2 : Int32)), M))) else (grd x1 6 (some ((M (a0 + 2) x1.toNatClampNeg), M))))
set_option maxHeartbeats 4000000 in
set_option maxRecDepth 100000 in
theorem c_X3_needs (l : Launch) (w : Cw) (hw : w.2.2.2.2.2 = shX) (a0 : Nat) (x1 : Int32) (ha0 : isSt a0) (M : Mem) : Ok l w eI yX3_needs wsX3_needs rmX3_needs [.ref (w.2.1 a0), .int x1] M (f_X3_needs a0 x1 M) := by
  refine Ok.of (cc := cX3_needs) (nL := 2) (ret := (some .int)) (lv := [(0, .ref (w.2.1 a0)), (1, .int x1)]) (by decide) rfl (Nat.le_of_ble_eq_true rfl) rfl (fun v hv hA => ?_)
  subst hv
  have hA : Act v w RX3 wsX3_needs cX3_needs 2 (some .int) := hA
  unfold f_X3_needs
  refine WO.aload_n (n := 1) hA dX3_needs_0 0 rfl rfl ?_
  refine WO.getR (j := 0) (p := (a0 + 1)) (n := 4) hA (st_0 hw ha0) rfl fiX3_needs_X3 (by decide) rfl fkX3_needs_9 dX3_needs_1 rfl ?_
  refine WO.iload_n (n := 5) hA dX3_needs_4 1 rfl rfl ?_
  refine WO.iald (n := 6) hA (st_1 hw ha0) dX3_needs_5 rfl (fun _ => ?_)
  refine WO.ite (fun hs1 => ?_) (fun hs1 => ?_)
  · refine WO.lsw (n := 32) hA dX3_needs_6 (by decide) (by rw [hs1]; decide +kernel : _ = (26 : Int)) (by decide) ?_
    refine WO.aload_n (n := 33) hA dX3_needs_32 0 rfl rfl ?_
    refine WO.getR (j := 1) (p := (a0 + 2)) (n := 36) hA (st_0 hw ha0) rfl fiX3_needs_X3 (by decide) rfl fkX3_needs_15 dX3_needs_33 rfl ?_
    refine WO.iload_n (n := 37) hA dX3_needs_36 1 rfl rfl ?_
    refine WO.iald (n := 38) hA (st_2 hw ha0) dX3_needs_37 rfl (fun _ => ?_)
    refine WO.iconst (x := (1 : Int32)) (n := 39) hA dX3_needs_38 (by decide) rfl ?_
    refine WO.isub (n := 40) hA dX3_needs_39 rfl ?_
    exact WO.iret hA dX3_needs_40
  · refine WO.ite (fun hs2 => ?_) (fun hs2 => ?_)
    · refine WO.lsw (n := 41) hA dX3_needs_6 (by decide) (by rw [hs2]; decide +kernel : _ = (35 : Int)) (by decide) ?_
      refine WO.aload_n (n := 42) hA dX3_needs_41 0 rfl rfl ?_
      refine WO.getR (j := 1) (p := (a0 + 2)) (n := 45) hA (st_0 hw ha0) rfl fiX3_needs_X3 (by decide) rfl fkX3_needs_15 dX3_needs_42 rfl ?_
      refine WO.iload_n (n := 46) hA dX3_needs_45 1 rfl rfl ?_
      refine WO.iald (n := 47) hA (st_2 hw ha0) dX3_needs_46 rfl (fun _ => ?_)
      refine WO.iconst (x := (2 : Int32)) (n := 48) hA dX3_needs_47 (by decide) rfl ?_
      refine WO.idivc (n := 49) hA dX3_needs_48 (by decide) rfl ?_
      exact WO.iret hA dX3_needs_49
    · refine WO.lsw (off := 44) (n := 50) hA dX3_needs_6 (by decide) ((lv_osw hs1 (by decide)).trans ((lv_osw hs2 (by decide)).trans rfl)) (by decide) ?_
      refine WO.aload_n (n := 51) hA dX3_needs_50 0 rfl rfl ?_
      refine WO.getR (j := 1) (p := (a0 + 2)) (n := 54) hA (st_0 hw ha0) rfl fiX3_needs_X3 (by decide) rfl fkX3_needs_15 dX3_needs_51 rfl ?_
      refine WO.iload_n (n := 55) hA dX3_needs_54 1 rfl rfl ?_
      refine WO.iald (n := 56) hA (st_2 hw ha0) dX3_needs_55 rfl (fun _ => ?_)
      exact WO.iret hA dX3_needs_56
/- X3_spare -/
abbrev rmX3_spare : Room := { frames := 0, cells := 0, slots := 0, locals := 0 }
theorem mdX3_spare : yX3_spare.cls ≠ "java/lang/invoke/MethodHandle" ∧ yX3_spare.cls ≠ "java/lang/invoke/VarHandle" ∧ (parseMethodDescriptor yX3_spare.desc).map (fun d => d.parameters.length) = some 2 := by decide +kernel
noncomputable def f_X3_spare (x0 : Int32) (x1 : Int32) (M : Mem) : Option (Int32 × Mem) := if x0 ≤ 0 then (some ((-1 : Int32), M)) else (if x0 < x1 then (some ((-1 : Int32), M)) else (some ((x0 - x1), M)))
set_option maxHeartbeats 4000000 in
set_option maxRecDepth 100000 in
theorem c_X3_spare (l : Launch) (w : Cw) (hw : w.2.2.2.2.2 = shX) (x0 : Int32) (x1 : Int32) (M : Mem) : Ok l w eI yX3_spare wsX3_spare rmX3_spare [.int x0, .int x1] M (f_X3_spare x0 x1 M) := by
  refine Ok.of (cc := cX3_spare) (nL := 2) (ret := (some .int)) (lv := [(0, .int x0), (1, .int x1)]) (by decide) rfl (Nat.le_of_ble_eq_true rfl) rfl (fun v hv hA => ?_)
  subst hv
  have hA : Act v w RX3 wsX3_spare cX3_spare 2 (some .int) := hA
  unfold f_X3_spare
  refine WO.iload_n (n := 1) hA dX3_spare_0 0 rfl rfl ?_
  refine WO.if_le (tg := 15) (n := 4) hA dX3_spare_1 (by decide) rfl (fun _ => ?_) (fun _ => ?_)
  · refine WO.iconst (x := (-1 : Int32)) (n := 16) hA dX3_spare_15 (by decide) rfl ?_
    exact WO.iret hA dX3_spare_16
  · refine WO.iload_n (n := 5) hA dX3_spare_4 0 rfl rfl ?_
    refine WO.iload_n (n := 6) hA dX3_spare_5 1 rfl rfl ?_
    refine WO.icmp_lt (tg := 15) (n := 9) hA dX3_spare_6 (by decide) rfl (fun _ => ?_) (fun _ => ?_)
    · refine WO.iconst (x := (-1 : Int32)) (n := 16) hA dX3_spare_15 (by decide) rfl ?_
      exact WO.iret hA dX3_spare_16
    · refine WO.iload_n (n := 10) hA dX3_spare_9 0 rfl rfl ?_
      refine WO.iload_n (n := 11) hA dX3_spare_10 1 rfl rfl ?_
      refine WO.isub (n := 12) hA dX3_spare_11 rfl ?_
      refine WO.goto (n := 16) hA dX3_spare_12 (by decide) ?_
      exact WO.iret hA dX3_spare_16
/- X3_wakes -/
abbrev rmX3_wakes : Room := { frames := 2, cells := 0, slots := 0, locals := 44 }
theorem mdX3_wakes : yX3_wakes.cls = RX3 ∧ yX3_wakes.cls ≠ "java/lang/invoke/MethodHandle" ∧ yX3_wakes.cls ≠ "java/lang/invoke/VarHandle" ∧ (parseMethodDescriptor yX3_wakes.desc).map (fun d => d.parameters.length) = some 3 := by decide +kernel
noncomputable def f_X3_wakes (a0 : Nat) (x1 : Int32) (x2 : Int32) (x3 : Int32) (M : Mem) : Option (Int32 × Mem) := bd (f_X3_heard a0 x1 x2 x3 M) (fun r2 M1 => bd (f_X3_needs a0 x1 M1) (fun r4 M3 => bd (f_X3_spare r2 r4 M3) (fun r6 M5 => if r6 = (-1 : Int32) then (some ((0 : Int32), M5)) else (some ((1 : Int32), M5)))))
set_option maxHeartbeats 4000000 in
set_option maxRecDepth 100000 in
theorem c_X3_wakes (l : Launch) (w : Cw) (hw : w.2.2.2.2.2 = shX) (a0 : Nat) (x1 : Int32) (x2 : Int32) (x3 : Int32) (ha0 : isSt a0) (M : Mem) : Ok l w eI yX3_wakes wsX3_wakes rmX3_wakes [.ref (w.2.1 a0), .int x1, .int x2, .int x3] M (f_X3_wakes a0 x1 x2 x3 M) := by
  refine Ok.of (cc := cX3_wakes) (nL := 4) (ret := (some .boolean)) (lv := [(0, .ref (w.2.1 a0)), (1, .int x1), (2, .int x2), (3, .int x3)]) (by decide) rfl (Nat.le_of_ble_eq_true rfl) rfl (fun v hv hA => ?_)
  subst hv
  have hA : Act v w RX3 wsX3_wakes cX3_wakes 4 (some .boolean) := hA
  unfold f_X3_wakes
  refine WO.aload_n (n := 1) hA dX3_wakes_0 0 rfl rfl ?_
  refine WO.iload_n (n := 2) hA dX3_wakes_1 1 rfl rfl ?_
  refine WO.iload_n (n := 3) hA dX3_wakes_2 2 rfl rfl ?_
  refine WO.iload_n (n := 4) hA dX3_wakes_3 3 rfl rfl ?_
  refine WO.callVi (As := [.int x1, .int x2, .int x3]) (rest := []) (n := 7) hA (c_X3_heard v.2.1 w hw a0 x1 x2 x3 ha0 M) gX3_wakes_X3_heard rfl (st_0 hw ha0) rfl mdX3_heard ⟨rfl, rfl, Nat.le_of_ble_eq_true rfl, Nat.le_of_ble_eq_true rfl⟩ rfl rfl (Nat.le_of_ble_eq_true rfl) dX3_wakes_4 rfl (fun r2 M1 => ?_)
  refine WO.aload_n (n := 8) hA dX3_wakes_7 0 rfl rfl ?_
  refine WO.iload_n (n := 9) hA dX3_wakes_8 1 rfl rfl ?_
  refine WO.callVi (As := [.int x1]) (rest := [.int r2]) (n := 12) hA (c_X3_needs v.2.1 w hw a0 x1 ha0 M1) gX3_wakes_X3_needs rfl (st_0 hw ha0) rfl mdX3_needs ⟨rfl, rfl, Nat.le_of_ble_eq_true rfl, Nat.le_of_ble_eq_true rfl⟩ rfl rfl (Nat.le_of_ble_eq_true rfl) dX3_wakes_9 rfl (fun r4 M3 => ?_)
  refine WO.callSi (As := [.int r2, .int r4]) (rest := []) (n := 15) hA (c_X3_spare v.2.1 w hw r2 r4 M3) gX3_wakes_X3_spare rfl mdX3_spare ⟨rfl, rfl, Nat.le_of_ble_eq_true rfl, Nat.le_of_ble_eq_true rfl⟩ rfl rfl (Nat.le_of_ble_eq_true rfl) dX3_wakes_12 rfl (fun r6 M5 => ?_)
  refine WO.iconst (x := (-1 : Int32)) (n := 16) hA dX3_wakes_15 (by decide) rfl ?_
  refine WO.icmp_eq (tg := 23) (n := 19) hA dX3_wakes_16 (by decide) rfl (fun _ => ?_) (fun _ => ?_)
  · refine WO.iconst (x := (0 : Int32)) (n := 24) hA dX3_wakes_23 (by decide) rfl ?_
    exact WO.zretc hA (by decide) dX3_wakes_24
  · refine WO.iconst (x := (1 : Int32)) (n := 20) hA dX3_wakes_19 (by decide) rfl ?_
    refine WO.goto (n := 24) hA dX3_wakes_20 (by decide) ?_
    exact WO.zretc hA (by decide) dX3_wakes_24
/- X3_wakers -/
abbrev rmX3_wakers : Room := { frames := 3, cells := 0, slots := 0, locals := 67 }
theorem mdX3_wakers : yX3_wakers.cls = RX3 ∧ yX3_wakers.cls ≠ "java/lang/invoke/MethodHandle" ∧ yX3_wakers.cls ≠ "java/lang/invoke/VarHandle" ∧ (parseMethodDescriptor yX3_wakers.desc).map (fun d => d.parameters.length) = some 2 := by decide +kernel
theorem fkX3_wakers_28 : Cond.fieldLink RX3 28 (TX3 5).1 (TX3 5).2.1 (TX3 5).2.2.1 ∈ wsX3_wakers := by decide +kernel
theorem fiX3_wakers_X3 : ∀ q ∈ u_ws RX3 TX3 10, q ∈ wsX3_wakers := by decide +kernel
noncomputable def f_X3_wakers_L12 (a0 : Nat) (x2 : Int32) (x3 : Int32) (kx : Int32 → Mem → Option (Int32 × Mem)) : Nat → Int32 → Int32 → Mem → Option (Int32 × Mem)
  | 0, _, _, _ => none
  | n + 1, x4, x5, M => if (M a0 5) ≤ x5 then (kx x4 M) else (bd (f_X3_wakes a0 x5 x3 x2 M) (fun r4 M3 => if r4 = 0 then (f_X3_wakers_L12 a0 x2 x3 kx n x4 (x5 + (1 : Int32)) M3) else (ilt (x4 ||| ((1 : Int32) <<< (x5 &&& 31))) (fun x_5 => f_X3_wakers_L12 a0 x2 x3 kx n x_5 (x5 + (1 : Int32)) M3))))
noncomputable def f_X3_wakers (a0 : Nat) (x1 : Int32) (x2 : Int32) (M : Mem) : Option (Int32 × Mem) := bd (f_X3_sound a0 x1 M) (fun r2 M1 => f_X3_wakers_L12 a0 x2 r2 (fun e6 M7 => some (e6, M7)) FU (0 : Int32) (0 : Int32) M1)
set_option maxHeartbeats 4000000 in
set_option maxRecDepth 100000 in
theorem w_X3_wakers_L12 {v : Av} {w : Cw} (hw : w.2.2.2.2.2 = shX) (hA : Act v w RX3 wsX3_wakers cX3_wakers 6 (some .int)) (a0 : Nat) (ha0 : isSt a0) (x2 : Int32) (x3 : Int32) (kx : Int32 → Mem → Option (Int32 × Mem)) (hk : ∀ (y4 : Int32) (M : Mem), WO v w rmX3_wakers 6 eI (kx y4 M) 47 [(4, .int y4)] [] M) : ∀ (n : Nat) (x4 : Int32) (x5 : Int32) (M : Mem), WO v w rmX3_wakers 6 eI (f_X3_wakers_L12 a0 x2 x3 kx n x4 x5 M) 12 [(0, .ref (w.2.1 a0)), (2, .int x2), (3, .int x3), (4, .int x4), (5, .int x5)] [] M := by
  intro n
  induction n with
  | zero => intro x4 x5 M; exact WO.nothing
  | succ n ih =>
    intro x4 x5 M
    rw [f_X3_wakers_L12]
    refine WO.iload (n := 14) hA dX3_wakers_12 4 rfl rfl ?_
    refine WO.aload_n (n := 15) hA dX3_wakers_14 0 rfl rfl ?_
    refine WO.getI (j := 5) (n := 18) hA (st_0 hw ha0) rfl fiX3_wakers_X3 (by decide) rfl fkX3_wakers_28 dX3_wakers_15 rfl ?_
    refine WO.icmp_ge (tg := 47) (n := 21) hA dX3_wakers_18 (by decide) rfl (fun _ => ?_) (fun _ => ?_)
    · refine WO.sub (lv' := [(4, .int x4)]) [3] rfl ?_
      exact hk x4 M
    · refine WO.aload_n (n := 22) hA dX3_wakers_21 0 rfl rfl ?_
      refine WO.iload (n := 24) hA dX3_wakers_22 4 rfl rfl ?_
      refine WO.iload_n (n := 25) hA dX3_wakers_24 2 rfl rfl ?_
      refine WO.iload_n (n := 26) hA dX3_wakers_25 1 rfl rfl ?_
      refine WO.callVi (As := [.int x5, .int x3, .int x2]) (rest := []) (n := 29) hA (c_X3_wakes v.2.1 w hw a0 x5 x3 x2 ha0 M) gX3_wakers_X3_wakes rfl (st_0 hw ha0) rfl mdX3_wakes ⟨rfl, rfl, Nat.le_of_ble_eq_true rfl, Nat.le_of_ble_eq_true rfl⟩ rfl rfl (Nat.le_of_ble_eq_true rfl) dX3_wakers_26 rfl (fun r4 M3 => ?_)
      refine WO.if_eq (tg := 41) (n := 32) hA dX3_wakers_29 (by decide) rfl (fun _ => ?_) (fun _ => ?_)
      · refine WO.iinc (y := (1 : Int32)) (lv' := [(5, .int (x5 + (1 : Int32))), (0, .ref (w.2.1 a0)), (2, .int x2), (3, .int x3), (4, .int x4)]) (n := 44) hA dX3_wakers_41 4 rfl (by decide) (by decide) rfl rfl ?_
        refine WO.goto (n := 12) hA dX3_wakers_44 (by decide) ?_
        refine WO.sub (lv' := [(0, .ref (w.2.1 a0)), (2, .int x2), (3, .int x3), (4, .int x4), (5, .int (x5 + (1 : Int32)))]) [1, 2, 3, 4, 0] rfl ?_
        exact ih x4 (x5 + (1 : Int32)) M3
      · refine WO.iload (n := 34) hA dX3_wakers_32 3 rfl rfl ?_
        refine WO.iconst (x := (1 : Int32)) (n := 35) hA dX3_wakers_34 (by decide) rfl ?_
        refine WO.iload (n := 37) hA dX3_wakers_35 4 rfl rfl ?_
        refine WO.ishl (n := 38) hA dX3_wakers_37 rfl ?_
        refine WO.ior (n := 39) hA dX3_wakers_38 rfl ?_
        refine WO.top (fun x_5 => ?_)
        refine WO.istore (lv' := [(4, .int x_5), (0, .ref (w.2.1 a0)), (2, .int x2), (3, .int x3), (5, .int x5)]) (n := 41) hA dX3_wakers_39 (by decide) rfl rfl ?_
        refine WO.iinc (y := (1 : Int32)) (lv' := [(5, .int (x5 + (1 : Int32))), (4, .int x_5), (0, .ref (w.2.1 a0)), (2, .int x2), (3, .int x3)]) (n := 44) hA dX3_wakers_41 4 rfl (by decide) (by decide) rfl rfl ?_
        refine WO.goto (n := 12) hA dX3_wakers_44 (by decide) ?_
        refine WO.sub (lv' := [(0, .ref (w.2.1 a0)), (2, .int x2), (3, .int x3), (4, .int x_5), (5, .int (x5 + (1 : Int32)))]) [2, 3, 4, 1, 0] rfl ?_
        exact ih x_5 (x5 + (1 : Int32)) M3
set_option maxHeartbeats 4000000 in
set_option maxRecDepth 100000 in
theorem c_X3_wakers (l : Launch) (w : Cw) (hw : w.2.2.2.2.2 = shX) (a0 : Nat) (x1 : Int32) (x2 : Int32) (ha0 : isSt a0) (M : Mem) : Ok l w eI yX3_wakers wsX3_wakers rmX3_wakers [.ref (w.2.1 a0), .int x1, .int x2] M (f_X3_wakers a0 x1 x2 M) := by
  refine Ok.of (cc := cX3_wakers) (nL := 6) (ret := (some .int)) (lv := [(0, .ref (w.2.1 a0)), (1, .int x1), (2, .int x2)]) (by decide) rfl (Nat.le_of_ble_eq_true rfl) rfl (fun v hv hA => ?_)
  subst hv
  have hA : Act v w RX3 wsX3_wakers cX3_wakers 6 (some .int) := hA
  unfold f_X3_wakers
  refine WO.aload_n (n := 1) hA dX3_wakers_0 0 rfl rfl ?_
  refine WO.iload_n (n := 2) hA dX3_wakers_1 1 rfl rfl ?_
  refine WO.callVi (As := [.int x1]) (rest := []) (n := 5) hA (c_X3_sound v.2.1 w hw a0 x1 ha0 M) gX3_wakers_X3_sound rfl (st_0 hw ha0) rfl mdX3_sound ⟨rfl, rfl, Nat.le_of_ble_eq_true rfl, Nat.le_of_ble_eq_true rfl⟩ rfl rfl (Nat.le_of_ble_eq_true rfl) dX3_wakers_2 rfl (fun r2 M1 => ?_)
  refine WO.istore_n (i := 3) (lv' := [(3, .int r2), (0, .ref (w.2.1 a0)), (1, .int x1), (2, .int x2)]) (n := 6) hA dX3_wakers_5 rfl (by decide) rfl rfl ?_
  refine WO.iconst (x := (0 : Int32)) (n := 7) hA dX3_wakers_6 (by decide) rfl ?_
  refine WO.istore (lv' := [(4, .int (0 : Int32)), (3, .int r2), (0, .ref (w.2.1 a0)), (1, .int x1), (2, .int x2)]) (n := 9) hA dX3_wakers_7 (by decide) rfl rfl ?_
  refine WO.iconst (x := (0 : Int32)) (n := 10) hA dX3_wakers_9 (by decide) rfl ?_
  refine WO.istore (lv' := [(5, .int (0 : Int32)), (4, .int (0 : Int32)), (3, .int r2), (0, .ref (w.2.1 a0)), (1, .int x1), (2, .int x2)]) (n := 12) hA dX3_wakers_10 (by decide) rfl rfl ?_
  refine WO.sub (lv' := [(0, .ref (w.2.1 a0)), (2, .int x2), (3, .int r2), (4, .int (0 : Int32)), (5, .int (0 : Int32))]) [3, 5, 2, 1, 0] rfl ?_
  refine w_X3_wakers_L12 hw hA a0 ha0 x2 r2 _ (fun e6 M7 => ?_) _ _ _ _
  refine WO.iload (n := 49) hA dX3_wakers_47 0 rfl rfl ?_
  exact WO.iret hA dX3_wakers_49
/- X3_clear -/
abbrev rmX3_clear : Room := { frames := 0, cells := 0, slots := 0, locals := 0 }
theorem mdX3_clear : yX3_clear.cls = RX3 ∧ yX3_clear.cls ≠ "java/lang/invoke/MethodHandle" ∧ yX3_clear.cls ≠ "java/lang/invoke/VarHandle" ∧ (parseMethodDescriptor yX3_clear.desc).map (fun d => d.parameters.length) = some 0 := by decide +kernel
theorem fkX3_clear_28 : Cond.fieldLink RX3 28 (TX3 5).1 (TX3 5).2.1 (TX3 5).2.2.1 ∈ wsX3_clear := by decide +kernel
theorem fiX3_clear_X3 : ∀ q ∈ u_ws RX3 TX3 10, q ∈ wsX3_clear := by decide +kernel
theorem fkX3_clear_32 : Cond.fieldLink RX3 32 (TX3 6).1 (TX3 6).2.1 (TX3 6).2.2.1 ∈ wsX3_clear := by decide +kernel
theorem fkX3_clear_35 : Cond.fieldLink RX3 35 (TX3 7).1 (TX3 7).2.1 (TX3 7).2.2.1 ∈ wsX3_clear := by decide +kernel
theorem fkX3_clear_38 : Cond.fieldLink RX3 38 (TX3 8).1 (TX3 8).2.1 (TX3 8).2.2.1 ∈ wsX3_clear := by decide +kernel
theorem fkX3_clear_41 : Cond.fieldLink RX3 41 (TX3 9).1 (TX3 9).2.1 (TX3 9).2.2.1 ∈ wsX3_clear := by decide +kernel
noncomputable def f_X3_clear (a0 : Nat) (M : Mem) : Option (Unit × Mem) := mlt (mu M a0 5 (0 : Int32)) (fun M1 => mlt (mu M1 a0 6 (0 : Int32)) (fun M2 => mlt (mu M2 a0 7 (0 : Int32)) (fun M3 => mlt (mu M3 a0 8 (0 : Int32)) (fun M4 => mlt (mu M4 a0 9 (0 : Int32)) (fun M5 => some ((), M5))))))
set_option maxHeartbeats 4000000 in
set_option maxRecDepth 100000 in
theorem c_X3_clear (l : Launch) (w : Cw) (hw : w.2.2.2.2.2 = shX) (a0 : Nat) (ha0 : isSt a0) (M : Mem) : Ok l w eV yX3_clear wsX3_clear rmX3_clear [.ref (w.2.1 a0)] M (f_X3_clear a0 M) := by
  refine Ok.of (cc := cX3_clear) (nL := 1) (ret := none) (lv := [(0, .ref (w.2.1 a0))]) (by decide) rfl (Nat.le_of_ble_eq_true rfl) rfl (fun v hv hA => ?_)
  subst hv
  have hA : Act v w RX3 wsX3_clear cX3_clear 1 none := hA
  unfold f_X3_clear
  refine WO.aload_n (n := 1) hA dX3_clear_0 0 rfl rfl ?_
  refine WO.iconst (x := (0 : Int32)) (n := 2) hA dX3_clear_1 (by decide) rfl ?_
  refine WO.putI (j := 5) (n := 5) hA (st_0 hw ha0) rfl fiX3_clear_X3 tyX3 tyX3_ok nmX3 (by decide) rfl fkX3_clear_28 rfl rfl rfl rfl dX3_clear_2 rfl ?_
  refine WO.mem (fun M1 => ?_)
  refine WO.aload_n (n := 6) hA dX3_clear_5 0 rfl rfl ?_
  refine WO.iconst (x := (0 : Int32)) (n := 7) hA dX3_clear_6 (by decide) rfl ?_
  refine WO.putI (j := 6) (n := 10) hA (st_0 hw ha0) rfl fiX3_clear_X3 tyX3 tyX3_ok nmX3 (by decide) rfl fkX3_clear_32 rfl rfl rfl rfl dX3_clear_7 rfl ?_
  refine WO.mem (fun M2 => ?_)
  refine WO.aload_n (n := 11) hA dX3_clear_10 0 rfl rfl ?_
  refine WO.iconst (x := (0 : Int32)) (n := 12) hA dX3_clear_11 (by decide) rfl ?_
  refine WO.putI (j := 7) (n := 15) hA (st_0 hw ha0) rfl fiX3_clear_X3 tyX3 tyX3_ok nmX3 (by decide) rfl fkX3_clear_35 rfl rfl rfl rfl dX3_clear_12 rfl ?_
  refine WO.mem (fun M3 => ?_)
  refine WO.aload_n (n := 16) hA dX3_clear_15 0 rfl rfl ?_
  refine WO.iconst (x := (0 : Int32)) (n := 17) hA dX3_clear_16 (by decide) rfl ?_
  refine WO.putI (j := 8) (n := 20) hA (st_0 hw ha0) rfl fiX3_clear_X3 tyX3 tyX3_ok nmX3 (by decide) rfl fkX3_clear_38 rfl rfl rfl rfl dX3_clear_17 rfl ?_
  refine WO.mem (fun M4 => ?_)
  refine WO.aload_n (n := 21) hA dX3_clear_20 0 rfl rfl ?_
  refine WO.iconst (x := (0 : Int32)) (n := 22) hA dX3_clear_21 (by decide) rfl ?_
  refine WO.putI (j := 9) (n := 25) hA (st_0 hw ha0) rfl fiX3_clear_X3 tyX3 tyX3_ok nmX3 (by decide) rfl fkX3_clear_41 rfl rfl rfl rfl dX3_clear_22 rfl ?_
  refine WO.mem (fun M5 => ?_)
  exact WO.vret hA dX3_clear_25
/- X3_become -/
abbrev rmX3_become : Room := { frames := 1, cells := 0, slots := 0, locals := 20 }
theorem mdX3_become : yX3_become.cls = RX3 ∧ yX3_become.cls ≠ "java/lang/invoke/MethodHandle" ∧ yX3_become.cls ≠ "java/lang/invoke/VarHandle" ∧ (parseMethodDescriptor yX3_become.desc).map (fun d => d.parameters.length) = some 1 := by decide +kernel
theorem fkX3_become_28 : Cond.fieldLink RX3 28 (TX3 5).1 (TX3 5).2.1 (TX3 5).2.2.1 ∈ wsX3_become := by decide +kernel
theorem fiX3_become_X3 : ∀ q ∈ u_ws RX3 TX3 10, q ∈ wsX3_become := by decide +kernel
theorem fkX3_become_32 : Cond.fieldLink RX3 32 (TX3 6).1 (TX3 6).2.1 (TX3 6).2.2.1 ∈ wsX3_become := by decide +kernel
theorem fkX3_become_35 : Cond.fieldLink RX3 35 (TX3 7).1 (TX3 7).2.1 (TX3 7).2.2.1 ∈ wsX3_become := by decide +kernel
theorem fkX3_become_9 : Cond.fieldLink RX3 9 (TX3 0).1 (TX3 0).2.1 (TX3 0).2.2.1 ∈ wsX3_become := by decide +kernel
theorem fkX3_become_15 : Cond.fieldLink RX3 15 (TX3 1).1 (TX3 1).2.1 (TX3 1).2.2.1 ∈ wsX3_become := by decide +kernel
theorem fkX3_become_18 : Cond.fieldLink RX3 18 (TX3 2).1 (TX3 2).2.1 (TX3 2).2.2.1 ∈ wsX3_become := by decide +kernel
theorem fkX3_become_21 : Cond.fieldLink RX3 21 (TX3 3).1 (TX3 3).2.1 (TX3 3).2.2.1 ∈ wsX3_become := by decide +kernel
theorem fkX3_become_24 : Cond.fieldLink RX3 24 (TX3 4).1 (TX3 4).2.1 (TX3 4).2.2.1 ∈ wsX3_become := by decide +kernel
noncomputable def f_X3_become_L30 (a0 : Nat) (a1 : Nat) (kx : Mem → Option (Unit × Mem)) : Nat → Int32 → Mem → Option (Unit × Mem)
  | 0, _, _ => none
  | n + 1, x2, M => if (M a0 5) ≤ x2 then (kx  M) else (grd x2 6 (grd x2 6 (mlt (mu M (a0 + 1) x2.toNatClampNeg (M (a1 + 1) x2.toNatClampNeg)) (fun M5 => grd x2 6 (grd x2 6 (mlt (mu M5 (a0 + 2) x2.toNatClampNeg (M5 (a1 + 2) x2.toNatClampNeg)) (fun M6 => f_X3_become_L30 a0 a1 kx n (x2 + (1 : Int32)) M6)))))))
noncomputable def f_X3_become_L70 (a0 : Nat) (a1 : Nat) (kx : Mem → Option (Unit × Mem)) : Nat → Int32 → Mem → Option (Unit × Mem)
  | 0, _, _ => none
  | n + 1, x2, M => if (M a0 6) ≤ x2 then (kx  M) else (grd x2 4 (grd x2 4 (mlt (mu M (a0 + 3) x2.toNatClampNeg (M (a1 + 3) x2.toNatClampNeg)) (fun M8 => grd x2 4 (grd x2 4 (mlt (mu M8 (a0 + 4) x2.toNatClampNeg (M8 (a1 + 4) x2.toNatClampNeg)) (fun M9 => grd x2 4 (grd x2 4 (mlt (mu M9 (a0 + 5) x2.toNatClampNeg ((M9 (a1 + 5) x2.toNatClampNeg) &&& 1)) (fun M10 => f_X3_become_L70 a0 a1 kx n (x2 + (1 : Int32)) M10))))))))))
noncomputable def f_X3_become (a0 : Nat) (a1 : Nat) (M : Mem) : Option (Unit × Mem) := bd (f_X3_clear a0 M) (fun _ M1 => mlt (mu M1 a0 5 (M1 a1 5)) (fun M2 => mlt (mu M2 a0 6 (M2 a1 6)) (fun M3 => mlt (mu M3 a0 7 (M3 a1 7)) (fun M4 => f_X3_become_L30 a0 a1 (fun  M7 => f_X3_become_L70 a0 a1 (fun  M11 => some ((), M11)) FU (0 : Int32) M7) FU (0 : Int32) M4))))
set_option maxHeartbeats 4000000 in
set_option maxRecDepth 100000 in
theorem w_X3_become_L30 {v : Av} {w : Cw} (hw : w.2.2.2.2.2 = shX) (hA : Act v w RX3 wsX3_become cX3_become 3 none) (a0 : Nat) (a1 : Nat) (ha0 : isSt a0) (ha1 : isSt a1) (kx : Mem → Option (Unit × Mem)) (hk : ∀ (M : Mem), WO v w rmX3_become 3 eV (kx M) 68 [(0, .ref (w.2.1 a0)), (1, .ref (w.2.1 a1))] [] M) : ∀ (n : Nat) (x2 : Int32) (M : Mem), WO v w rmX3_become 3 eV (f_X3_become_L30 a0 a1 kx n x2 M) 30 [(0, .ref (w.2.1 a0)), (1, .ref (w.2.1 a1)), (2, .int x2)] [] M := by
  intro n
  induction n with
  | zero => intro x2 M; exact WO.nothing
  | succ n ih =>
    intro x2 M
    rw [f_X3_become_L30]
    refine WO.iload_n (n := 31) hA dX3_become_30 2 rfl rfl ?_
    refine WO.aload_n (n := 32) hA dX3_become_31 0 rfl rfl ?_
    refine WO.getI (j := 5) (n := 35) hA (st_0 hw ha0) rfl fiX3_become_X3 (by decide) rfl fkX3_become_28 dX3_become_32 rfl ?_
    refine WO.icmp_ge (tg := 68) (n := 38) hA dX3_become_35 (by decide) rfl (fun _ => ?_) (fun _ => ?_)
    · refine WO.sub (lv' := [(0, .ref (w.2.1 a0)), (1, .ref (w.2.1 a1))]) [0, 1] rfl ?_
      exact hk  M
    · refine WO.aload_n (n := 39) hA dX3_become_38 0 rfl rfl ?_
      refine WO.getR (j := 0) (p := (a0 + 1)) (n := 42) hA (st_0 hw ha0) rfl fiX3_become_X3 (by decide) rfl fkX3_become_9 dX3_become_39 rfl ?_
      refine WO.iload_n (n := 43) hA dX3_become_42 2 rfl rfl ?_
      refine WO.aload_n (n := 44) hA dX3_become_43 1 rfl rfl ?_
      refine WO.getR (j := 0) (p := (a1 + 1)) (n := 47) hA (st_0 hw ha1) rfl fiX3_become_X3 (by decide) rfl fkX3_become_9 dX3_become_44 rfl ?_
      refine WO.iload_n (n := 48) hA dX3_become_47 2 rfl rfl ?_
      refine WO.iald (n := 49) hA (st_1 hw ha1) dX3_become_48 rfl (fun _ => ?_)
      refine WO.iast (n := 50) hA (st_1 hw ha0) dX3_become_49 rfl (fun _ => ?_)
      refine WO.mem (fun M5 => ?_)
      refine WO.aload_n (n := 51) hA dX3_become_50 0 rfl rfl ?_
      refine WO.getR (j := 1) (p := (a0 + 2)) (n := 54) hA (st_0 hw ha0) rfl fiX3_become_X3 (by decide) rfl fkX3_become_15 dX3_become_51 rfl ?_
      refine WO.iload_n (n := 55) hA dX3_become_54 2 rfl rfl ?_
      refine WO.aload_n (n := 56) hA dX3_become_55 1 rfl rfl ?_
      refine WO.getR (j := 1) (p := (a1 + 2)) (n := 59) hA (st_0 hw ha1) rfl fiX3_become_X3 (by decide) rfl fkX3_become_15 dX3_become_56 rfl ?_
      refine WO.iload_n (n := 60) hA dX3_become_59 2 rfl rfl ?_
      refine WO.iald (n := 61) hA (st_2 hw ha1) dX3_become_60 rfl (fun _ => ?_)
      refine WO.iast (n := 62) hA (st_2 hw ha0) dX3_become_61 rfl (fun _ => ?_)
      refine WO.mem (fun M6 => ?_)
      refine WO.iinc (y := (1 : Int32)) (lv' := [(2, .int (x2 + (1 : Int32))), (0, .ref (w.2.1 a0)), (1, .ref (w.2.1 a1))]) (n := 65) hA dX3_become_62 2 rfl (by decide) (by decide) rfl rfl ?_
      refine WO.goto (n := 30) hA dX3_become_65 (by decide) ?_
      refine WO.sub (lv' := [(0, .ref (w.2.1 a0)), (1, .ref (w.2.1 a1)), (2, .int (x2 + (1 : Int32)))]) [1, 2, 0] rfl ?_
      exact ih (x2 + (1 : Int32)) M6
set_option maxHeartbeats 4000000 in
set_option maxRecDepth 100000 in
theorem w_X3_become_L70 {v : Av} {w : Cw} (hw : w.2.2.2.2.2 = shX) (hA : Act v w RX3 wsX3_become cX3_become 3 none) (a0 : Nat) (a1 : Nat) (ha0 : isSt a0) (ha1 : isSt a1) (kx : Mem → Option (Unit × Mem)) (hk : ∀ (M : Mem), WO v w rmX3_become 3 eV (kx M) 120 [] [] M) : ∀ (n : Nat) (x2 : Int32) (M : Mem), WO v w rmX3_become 3 eV (f_X3_become_L70 a0 a1 kx n x2 M) 70 [(0, .ref (w.2.1 a0)), (1, .ref (w.2.1 a1)), (2, .int x2)] [] M := by
  intro n
  induction n with
  | zero => intro x2 M; exact WO.nothing
  | succ n ih =>
    intro x2 M
    rw [f_X3_become_L70]
    refine WO.iload_n (n := 71) hA dX3_become_70 2 rfl rfl ?_
    refine WO.aload_n (n := 72) hA dX3_become_71 0 rfl rfl ?_
    refine WO.getI (j := 6) (n := 75) hA (st_0 hw ha0) rfl fiX3_become_X3 (by decide) rfl fkX3_become_32 dX3_become_72 rfl ?_
    refine WO.icmp_ge (tg := 120) (n := 78) hA dX3_become_75 (by decide) rfl (fun _ => ?_) (fun _ => ?_)
    · refine WO.sub (lv' := []) [] rfl ?_
      exact hk  M
    · refine WO.aload_n (n := 79) hA dX3_become_78 0 rfl rfl ?_
      refine WO.getR (j := 2) (p := (a0 + 3)) (n := 82) hA (st_0 hw ha0) rfl fiX3_become_X3 (by decide) rfl fkX3_become_18 dX3_become_79 rfl ?_
      refine WO.iload_n (n := 83) hA dX3_become_82 2 rfl rfl ?_
      refine WO.aload_n (n := 84) hA dX3_become_83 1 rfl rfl ?_
      refine WO.getR (j := 2) (p := (a1 + 3)) (n := 87) hA (st_0 hw ha1) rfl fiX3_become_X3 (by decide) rfl fkX3_become_18 dX3_become_84 rfl ?_
      refine WO.iload_n (n := 88) hA dX3_become_87 2 rfl rfl ?_
      refine WO.iald (n := 89) hA (st_3 hw ha1) dX3_become_88 rfl (fun _ => ?_)
      refine WO.iast (n := 90) hA (st_3 hw ha0) dX3_become_89 rfl (fun _ => ?_)
      refine WO.mem (fun M8 => ?_)
      refine WO.aload_n (n := 91) hA dX3_become_90 0 rfl rfl ?_
      refine WO.getR (j := 3) (p := (a0 + 4)) (n := 94) hA (st_0 hw ha0) rfl fiX3_become_X3 (by decide) rfl fkX3_become_21 dX3_become_91 rfl ?_
      refine WO.iload_n (n := 95) hA dX3_become_94 2 rfl rfl ?_
      refine WO.aload_n (n := 96) hA dX3_become_95 1 rfl rfl ?_
      refine WO.getR (j := 3) (p := (a1 + 4)) (n := 99) hA (st_0 hw ha1) rfl fiX3_become_X3 (by decide) rfl fkX3_become_21 dX3_become_96 rfl ?_
      refine WO.iload_n (n := 100) hA dX3_become_99 2 rfl rfl ?_
      refine WO.iald (n := 101) hA (st_4 hw ha1) dX3_become_100 rfl (fun _ => ?_)
      refine WO.iast (n := 102) hA (st_4 hw ha0) dX3_become_101 rfl (fun _ => ?_)
      refine WO.mem (fun M9 => ?_)
      refine WO.aload_n (n := 103) hA dX3_become_102 0 rfl rfl ?_
      refine WO.getR (j := 4) (p := (a0 + 5)) (n := 106) hA (st_0 hw ha0) rfl fiX3_become_X3 (by decide) rfl fkX3_become_24 dX3_become_103 rfl ?_
      refine WO.iload_n (n := 107) hA dX3_become_106 2 rfl rfl ?_
      refine WO.aload_n (n := 108) hA dX3_become_107 1 rfl rfl ?_
      refine WO.getR (j := 4) (p := (a1 + 5)) (n := 111) hA (st_0 hw ha1) rfl fiX3_become_X3 (by decide) rfl fkX3_become_24 dX3_become_108 rfl ?_
      refine WO.iload_n (n := 112) hA dX3_become_111 2 rfl rfl ?_
      refine WO.zald (n := 113) hA (st_5 hw ha1) dX3_become_112 rfl (fun _ => ?_)
      refine WO.zast (n := 114) hA (st_5 hw ha0) dX3_become_113 rfl (fun _ => ?_)
      refine WO.mem (fun M10 => ?_)
      refine WO.iinc (y := (1 : Int32)) (lv' := [(2, .int (x2 + (1 : Int32))), (0, .ref (w.2.1 a0)), (1, .ref (w.2.1 a1))]) (n := 117) hA dX3_become_114 2 rfl (by decide) (by decide) rfl rfl ?_
      refine WO.goto (n := 70) hA dX3_become_117 (by decide) ?_
      refine WO.sub (lv' := [(0, .ref (w.2.1 a0)), (1, .ref (w.2.1 a1)), (2, .int (x2 + (1 : Int32)))]) [1, 2, 0] rfl ?_
      exact ih (x2 + (1 : Int32)) M10
set_option maxHeartbeats 4000000 in
set_option maxRecDepth 100000 in
theorem c_X3_become (l : Launch) (w : Cw) (hw : w.2.2.2.2.2 = shX) (a0 : Nat) (a1 : Nat) (ha0 : isSt a0) (ha1 : isSt a1) (M : Mem) : Ok l w eV yX3_become wsX3_become rmX3_become [.ref (w.2.1 a0), .ref (w.2.1 a1)] M (f_X3_become a0 a1 M) := by
  refine Ok.of (cc := cX3_become) (nL := 3) (ret := none) (lv := [(0, .ref (w.2.1 a0)), (1, .ref (w.2.1 a1))]) (by decide) rfl (Nat.le_of_ble_eq_true rfl) rfl (fun v hv hA => ?_)
  subst hv
  have hA : Act v w RX3 wsX3_become cX3_become 3 none := hA
  unfold f_X3_become
  refine WO.aload_n (n := 1) hA dX3_become_0 0 rfl rfl ?_
  refine WO.callVv (As := []) (rest := []) (n := 4) hA (c_X3_clear v.2.1 w hw a0 ha0 M) gX3_become_X3_clear rfl (st_0 hw ha0) rfl mdX3_clear ⟨rfl, rfl, Nat.le_of_ble_eq_true rfl, Nat.le_of_ble_eq_true rfl⟩ rfl rfl (Nat.le_of_ble_eq_true rfl) dX3_become_1 rfl (fun M1 => ?_)
  refine WO.aload_n (n := 5) hA dX3_become_4 0 rfl rfl ?_
  refine WO.aload_n (n := 6) hA dX3_become_5 1 rfl rfl ?_
  refine WO.getI (j := 5) (n := 9) hA (st_0 hw ha1) rfl fiX3_become_X3 (by decide) rfl fkX3_become_28 dX3_become_6 rfl ?_
  refine WO.putI (j := 5) (n := 12) hA (st_0 hw ha0) rfl fiX3_become_X3 tyX3 tyX3_ok nmX3 (by decide) rfl fkX3_become_28 rfl rfl rfl rfl dX3_become_9 rfl ?_
  refine WO.mem (fun M2 => ?_)
  refine WO.aload_n (n := 13) hA dX3_become_12 0 rfl rfl ?_
  refine WO.aload_n (n := 14) hA dX3_become_13 1 rfl rfl ?_
  refine WO.getI (j := 6) (n := 17) hA (st_0 hw ha1) rfl fiX3_become_X3 (by decide) rfl fkX3_become_32 dX3_become_14 rfl ?_
  refine WO.putI (j := 6) (n := 20) hA (st_0 hw ha0) rfl fiX3_become_X3 tyX3 tyX3_ok nmX3 (by decide) rfl fkX3_become_32 rfl rfl rfl rfl dX3_become_17 rfl ?_
  refine WO.mem (fun M3 => ?_)
  refine WO.aload_n (n := 21) hA dX3_become_20 0 rfl rfl ?_
  refine WO.aload_n (n := 22) hA dX3_become_21 1 rfl rfl ?_
  refine WO.getI (j := 7) (n := 25) hA (st_0 hw ha1) rfl fiX3_become_X3 (by decide) rfl fkX3_become_35 dX3_become_22 rfl ?_
  refine WO.putI (j := 7) (n := 28) hA (st_0 hw ha0) rfl fiX3_become_X3 tyX3 tyX3_ok nmX3 (by decide) rfl fkX3_become_35 rfl rfl rfl rfl dX3_become_25 rfl ?_
  refine WO.mem (fun M4 => ?_)
  refine WO.iconst (x := (0 : Int32)) (n := 29) hA dX3_become_28 (by decide) rfl ?_
  refine WO.istore_n (i := 2) (lv' := [(2, .int (0 : Int32)), (0, .ref (w.2.1 a0)), (1, .ref (w.2.1 a1))]) (n := 30) hA dX3_become_29 rfl (by decide) rfl rfl ?_
  refine WO.sub (lv' := [(0, .ref (w.2.1 a0)), (1, .ref (w.2.1 a1)), (2, .int (0 : Int32))]) [1, 2, 0] rfl ?_
  refine w_X3_become_L30 hw hA a0 a1 ha0 ha1 _ (fun  M7 => ?_) _ _ _
  refine WO.iconst (x := (0 : Int32)) (n := 69) hA dX3_become_68 (by decide) rfl ?_
  refine WO.istore_n (i := 2) (lv' := [(2, .int (0 : Int32)), (0, .ref (w.2.1 a0)), (1, .ref (w.2.1 a1))]) (n := 70) hA dX3_become_69 rfl (by decide) rfl rfl ?_
  refine WO.sub (lv' := [(0, .ref (w.2.1 a0)), (1, .ref (w.2.1 a1)), (2, .int (0 : Int32))]) [1, 2, 0] rfl ?_
  refine w_X3_become_L70 hw hA a0 a1 ha0 ha1 _ (fun  M11 => ?_) _ _ _
  exact WO.vret hA dX3_become_120
/- X3_addHouse -/
abbrev rmX3_addHouse : Room := { frames := 0, cells := 0, slots := 0, locals := 0 }
theorem mdX3_addHouse : yX3_addHouse.cls = RX3 ∧ yX3_addHouse.cls ≠ "java/lang/invoke/MethodHandle" ∧ yX3_addHouse.cls ≠ "java/lang/invoke/VarHandle" ∧ (parseMethodDescriptor yX3_addHouse.desc).map (fun d => d.parameters.length) = some 2 := by decide +kernel
theorem fkX3_addHouse_9 : Cond.fieldLink RX3 9 (TX3 0).1 (TX3 0).2.1 (TX3 0).2.2.1 ∈ wsX3_addHouse := by decide +kernel
theorem fiX3_addHouse_X3 : ∀ q ∈ u_ws RX3 TX3 10, q ∈ wsX3_addHouse := by decide +kernel
theorem fkX3_addHouse_28 : Cond.fieldLink RX3 28 (TX3 5).1 (TX3 5).2.1 (TX3 5).2.2.1 ∈ wsX3_addHouse := by decide +kernel
theorem fkX3_addHouse_15 : Cond.fieldLink RX3 15 (TX3 1).1 (TX3 1).2.1 (TX3 1).2.2.1 ∈ wsX3_addHouse := by decide +kernel
noncomputable def f_X3_addHouse (a0 : Nat) (x1 : Int32) (x2 : Int32) (M : Mem) : Option (Unit × Mem) := grd (M a0 5) 6 (mlt (mu M (a0 + 1) (M a0 5).toNatClampNeg x1) (fun M1 => grd (M1 a0 5) 6 (mlt (mu M1 (a0 + 2) (M1 a0 5).toNatClampNeg x2) (fun M2 => mlt (mu M2 a0 5 ((M2 a0 5) + (1 : Int32))) (fun M3 => some ((), M3))))))
set_option maxHeartbeats 4000000 in
set_option maxRecDepth 100000 in
theorem c_X3_addHouse (l : Launch) (w : Cw) (hw : w.2.2.2.2.2 = shX) (a0 : Nat) (x1 : Int32) (x2 : Int32) (ha0 : isSt a0) (M : Mem) : Ok l w eV yX3_addHouse wsX3_addHouse rmX3_addHouse [.ref (w.2.1 a0), .int x1, .int x2] M (f_X3_addHouse a0 x1 x2 M) := by
  refine Ok.of (cc := cX3_addHouse) (nL := 3) (ret := none) (lv := [(0, .ref (w.2.1 a0)), (1, .int x1), (2, .int x2)]) (by decide) rfl (Nat.le_of_ble_eq_true rfl) rfl (fun v hv hA => ?_)
  subst hv
  have hA : Act v w RX3 wsX3_addHouse cX3_addHouse 3 none := hA
  unfold f_X3_addHouse
  refine WO.aload_n (n := 1) hA dX3_addHouse_0 0 rfl rfl ?_
  refine WO.getR (j := 0) (p := (a0 + 1)) (n := 4) hA (st_0 hw ha0) rfl fiX3_addHouse_X3 (by decide) rfl fkX3_addHouse_9 dX3_addHouse_1 rfl ?_
  refine WO.aload_n (n := 5) hA dX3_addHouse_4 0 rfl rfl ?_
  refine WO.getI (j := 5) (n := 8) hA (st_0 hw ha0) rfl fiX3_addHouse_X3 (by decide) rfl fkX3_addHouse_28 dX3_addHouse_5 rfl ?_
  refine WO.iload_n (n := 9) hA dX3_addHouse_8 1 rfl rfl ?_
  refine WO.iast (n := 10) hA (st_1 hw ha0) dX3_addHouse_9 rfl (fun _ => ?_)
  refine WO.mem (fun M1 => ?_)
  refine WO.aload_n (n := 11) hA dX3_addHouse_10 0 rfl rfl ?_
  refine WO.getR (j := 1) (p := (a0 + 2)) (n := 14) hA (st_0 hw ha0) rfl fiX3_addHouse_X3 (by decide) rfl fkX3_addHouse_15 dX3_addHouse_11 rfl ?_
  refine WO.aload_n (n := 15) hA dX3_addHouse_14 0 rfl rfl ?_
  refine WO.getI (j := 5) (n := 18) hA (st_0 hw ha0) rfl fiX3_addHouse_X3 (by decide) rfl fkX3_addHouse_28 dX3_addHouse_15 rfl ?_
  refine WO.iload_n (n := 19) hA dX3_addHouse_18 2 rfl rfl ?_
  refine WO.iast (n := 20) hA (st_2 hw ha0) dX3_addHouse_19 rfl (fun _ => ?_)
  refine WO.mem (fun M2 => ?_)
  refine WO.aload_n (n := 21) hA dX3_addHouse_20 0 rfl rfl ?_
  refine WO.dup (n := 22) hA dX3_addHouse_21 rfl rfl ?_
  refine WO.getI (j := 5) (n := 25) hA (st_0 hw ha0) rfl fiX3_addHouse_X3 (by decide) rfl fkX3_addHouse_28 dX3_addHouse_22 rfl ?_
  refine WO.iconst (x := (1 : Int32)) (n := 26) hA dX3_addHouse_25 (by decide) rfl ?_
  refine WO.iadd (n := 27) hA dX3_addHouse_26 rfl ?_
  refine WO.putI (j := 5) (n := 30) hA (st_0 hw ha0) rfl fiX3_addHouse_X3 tyX3 tyX3_ok nmX3 (by decide) rfl fkX3_addHouse_28 rfl rfl rfl rfl dX3_addHouse_27 rfl ?_
  refine WO.mem (fun M3 => ?_)
  exact WO.vret hA dX3_addHouse_30
/- X3_addClock -/
abbrev rmX3_addClock : Room := { frames := 0, cells := 0, slots := 0, locals := 0 }
theorem mdX3_addClock : yX3_addClock.cls = RX3 ∧ yX3_addClock.cls ≠ "java/lang/invoke/MethodHandle" ∧ yX3_addClock.cls ≠ "java/lang/invoke/VarHandle" ∧ (parseMethodDescriptor yX3_addClock.desc).map (fun d => d.parameters.length) = some 2 := by decide +kernel
theorem fkX3_addClock_18 : Cond.fieldLink RX3 18 (TX3 2).1 (TX3 2).2.1 (TX3 2).2.2.1 ∈ wsX3_addClock := by decide +kernel
theorem fiX3_addClock_X3 : ∀ q ∈ u_ws RX3 TX3 10, q ∈ wsX3_addClock := by decide +kernel
theorem fkX3_addClock_32 : Cond.fieldLink RX3 32 (TX3 6).1 (TX3 6).2.1 (TX3 6).2.2.1 ∈ wsX3_addClock := by decide +kernel
theorem fkX3_addClock_21 : Cond.fieldLink RX3 21 (TX3 3).1 (TX3 3).2.1 (TX3 3).2.2.1 ∈ wsX3_addClock := by decide +kernel
theorem fkX3_addClock_24 : Cond.fieldLink RX3 24 (TX3 4).1 (TX3 4).2.1 (TX3 4).2.2.1 ∈ wsX3_addClock := by decide +kernel
noncomputable def f_X3_addClock (a0 : Nat) (x1 : Int32) (x2 : Int32) (M : Mem) : Option (Unit × Mem) := grd (M a0 6) 4 (mlt (mu M (a0 + 3) (M a0 6).toNatClampNeg x1) (fun M1 => grd (M1 a0 6) 4 (mlt (mu M1 (a0 + 4) (M1 a0 6).toNatClampNeg x2) (fun M2 => grd (M2 a0 6) 4 (mlt (mu M2 (a0 + 5) (M2 a0 6).toNatClampNeg ((0 : Int32) &&& 1)) (fun M3 => mlt (mu M3 a0 6 ((M3 a0 6) + (1 : Int32))) (fun M4 => some ((), M4))))))))
set_option maxHeartbeats 4000000 in
set_option maxRecDepth 100000 in
theorem c_X3_addClock (l : Launch) (w : Cw) (hw : w.2.2.2.2.2 = shX) (a0 : Nat) (x1 : Int32) (x2 : Int32) (ha0 : isSt a0) (M : Mem) : Ok l w eV yX3_addClock wsX3_addClock rmX3_addClock [.ref (w.2.1 a0), .int x1, .int x2] M (f_X3_addClock a0 x1 x2 M) := by
  refine Ok.of (cc := cX3_addClock) (nL := 3) (ret := none) (lv := [(0, .ref (w.2.1 a0)), (1, .int x1), (2, .int x2)]) (by decide) rfl (Nat.le_of_ble_eq_true rfl) rfl (fun v hv hA => ?_)
  subst hv
  have hA : Act v w RX3 wsX3_addClock cX3_addClock 3 none := hA
  unfold f_X3_addClock
  refine WO.aload_n (n := 1) hA dX3_addClock_0 0 rfl rfl ?_
  refine WO.getR (j := 2) (p := (a0 + 3)) (n := 4) hA (st_0 hw ha0) rfl fiX3_addClock_X3 (by decide) rfl fkX3_addClock_18 dX3_addClock_1 rfl ?_
  refine WO.aload_n (n := 5) hA dX3_addClock_4 0 rfl rfl ?_
  refine WO.getI (j := 6) (n := 8) hA (st_0 hw ha0) rfl fiX3_addClock_X3 (by decide) rfl fkX3_addClock_32 dX3_addClock_5 rfl ?_
  refine WO.iload_n (n := 9) hA dX3_addClock_8 1 rfl rfl ?_
  refine WO.iast (n := 10) hA (st_3 hw ha0) dX3_addClock_9 rfl (fun _ => ?_)
  refine WO.mem (fun M1 => ?_)
  refine WO.aload_n (n := 11) hA dX3_addClock_10 0 rfl rfl ?_
  refine WO.getR (j := 3) (p := (a0 + 4)) (n := 14) hA (st_0 hw ha0) rfl fiX3_addClock_X3 (by decide) rfl fkX3_addClock_21 dX3_addClock_11 rfl ?_
  refine WO.aload_n (n := 15) hA dX3_addClock_14 0 rfl rfl ?_
  refine WO.getI (j := 6) (n := 18) hA (st_0 hw ha0) rfl fiX3_addClock_X3 (by decide) rfl fkX3_addClock_32 dX3_addClock_15 rfl ?_
  refine WO.iload_n (n := 19) hA dX3_addClock_18 2 rfl rfl ?_
  refine WO.iast (n := 20) hA (st_4 hw ha0) dX3_addClock_19 rfl (fun _ => ?_)
  refine WO.mem (fun M2 => ?_)
  refine WO.aload_n (n := 21) hA dX3_addClock_20 0 rfl rfl ?_
  refine WO.getR (j := 4) (p := (a0 + 5)) (n := 24) hA (st_0 hw ha0) rfl fiX3_addClock_X3 (by decide) rfl fkX3_addClock_24 dX3_addClock_21 rfl ?_
  refine WO.aload_n (n := 25) hA dX3_addClock_24 0 rfl rfl ?_
  refine WO.getI (j := 6) (n := 28) hA (st_0 hw ha0) rfl fiX3_addClock_X3 (by decide) rfl fkX3_addClock_32 dX3_addClock_25 rfl ?_
  refine WO.iconst (x := (0 : Int32)) (n := 29) hA dX3_addClock_28 (by decide) rfl ?_
  refine WO.zast (n := 30) hA (st_5 hw ha0) dX3_addClock_29 rfl (fun _ => ?_)
  refine WO.mem (fun M3 => ?_)
  refine WO.aload_n (n := 31) hA dX3_addClock_30 0 rfl rfl ?_
  refine WO.dup (n := 32) hA dX3_addClock_31 rfl rfl ?_
  refine WO.getI (j := 6) (n := 35) hA (st_0 hw ha0) rfl fiX3_addClock_X3 (by decide) rfl fkX3_addClock_32 dX3_addClock_32 rfl ?_
  refine WO.iconst (x := (1 : Int32)) (n := 36) hA dX3_addClock_35 (by decide) rfl ?_
  refine WO.iadd (n := 37) hA dX3_addClock_36 rfl ?_
  refine WO.putI (j := 6) (n := 40) hA (st_0 hw ha0) rfl fiX3_addClock_X3 tyX3 tyX3_ok nmX3 (by decide) rfl fkX3_addClock_32 rfl rfl rfl rfl dX3_addClock_37 rfl ?_
  refine WO.mem (fun M4 => ?_)
  exact WO.vret hA dX3_addClock_40
/- X3_stands -/
abbrev rmX3_stands : Room := { frames := 0, cells := 0, slots := 0, locals := 0 }
theorem mdX3_stands : yX3_stands.cls = RX3 ∧ yX3_stands.cls ≠ "java/lang/invoke/MethodHandle" ∧ yX3_stands.cls ≠ "java/lang/invoke/VarHandle" ∧ (parseMethodDescriptor yX3_stands.desc).map (fun d => d.parameters.length) = some 0 := by decide +kernel
theorem fkX3_stands_28 : Cond.fieldLink RX3 28 (TX3 5).1 (TX3 5).2.1 (TX3 5).2.2.1 ∈ wsX3_stands := by decide +kernel
theorem fiX3_stands_X3 : ∀ q ∈ u_ws RX3 TX3 10, q ∈ wsX3_stands := by decide +kernel
noncomputable def f_X3_stands (a0 : Nat) (M : Mem) : Option (Int32 × Mem) := if (M a0 5) ≤ 0 then (some ((0 : Int32), M)) else (some ((1 : Int32), M))
set_option maxHeartbeats 4000000 in
set_option maxRecDepth 100000 in
theorem c_X3_stands (l : Launch) (w : Cw) (hw : w.2.2.2.2.2 = shX) (a0 : Nat) (ha0 : isSt a0) (M : Mem) : Ok l w eI yX3_stands wsX3_stands rmX3_stands [.ref (w.2.1 a0)] M (f_X3_stands a0 M) := by
  refine Ok.of (cc := cX3_stands) (nL := 1) (ret := (some .boolean)) (lv := [(0, .ref (w.2.1 a0))]) (by decide) rfl (Nat.le_of_ble_eq_true rfl) rfl (fun v hv hA => ?_)
  subst hv
  have hA : Act v w RX3 wsX3_stands cX3_stands 1 (some .boolean) := hA
  unfold f_X3_stands
  refine WO.aload_n (n := 1) hA dX3_stands_0 0 rfl rfl ?_
  refine WO.getI (j := 5) (n := 4) hA (st_0 hw ha0) rfl fiX3_stands_X3 (by decide) rfl fkX3_stands_28 dX3_stands_1 rfl ?_
  refine WO.if_le (tg := 11) (n := 7) hA dX3_stands_4 (by decide) rfl (fun _ => ?_) (fun _ => ?_)
  · refine WO.iconst (x := (0 : Int32)) (n := 12) hA dX3_stands_11 (by decide) rfl ?_
    exact WO.zretc hA (by decide) dX3_stands_12
  · refine WO.iconst (x := (1 : Int32)) (n := 8) hA dX3_stands_7 (by decide) rfl ?_
    refine WO.goto (n := 12) hA dX3_stands_8 (by decide) ?_
    exact WO.zretc hA (by decide) dX3_stands_12
/- X3_hasHouse -/
abbrev rmX3_hasHouse : Room := { frames := 0, cells := 0, slots := 0, locals := 0 }
theorem mdX3_hasHouse : yX3_hasHouse.cls = RX3 ∧ yX3_hasHouse.cls ≠ "java/lang/invoke/MethodHandle" ∧ yX3_hasHouse.cls ≠ "java/lang/invoke/VarHandle" ∧ (parseMethodDescriptor yX3_hasHouse.desc).map (fun d => d.parameters.length) = some 1 := by decide +kernel
theorem fkX3_hasHouse_28 : Cond.fieldLink RX3 28 (TX3 5).1 (TX3 5).2.1 (TX3 5).2.2.1 ∈ wsX3_hasHouse := by decide +kernel
theorem fiX3_hasHouse_X3 : ∀ q ∈ u_ws RX3 TX3 10, q ∈ wsX3_hasHouse := by decide +kernel
noncomputable def f_X3_hasHouse (a0 : Nat) (x1 : Int32) (M : Mem) : Option (Int32 × Mem) := if x1 < 0 then (some ((0 : Int32), M)) else (if (M a0 5) ≤ x1 then (some ((0 : Int32), M)) else (some ((1 : Int32), M)))
set_option maxHeartbeats 4000000 in
set_option maxRecDepth 100000 in
theorem c_X3_hasHouse (l : Launch) (w : Cw) (hw : w.2.2.2.2.2 = shX) (a0 : Nat) (x1 : Int32) (ha0 : isSt a0) (M : Mem) : Ok l w eI yX3_hasHouse wsX3_hasHouse rmX3_hasHouse [.ref (w.2.1 a0), .int x1] M (f_X3_hasHouse a0 x1 M) := by
  refine Ok.of (cc := cX3_hasHouse) (nL := 2) (ret := (some .boolean)) (lv := [(0, .ref (w.2.1 a0)), (1, .int x1)]) (by decide) rfl (Nat.le_of_ble_eq_true rfl) rfl (fun v hv hA => ?_)
  subst hv
  have hA : Act v w RX3 wsX3_hasHouse cX3_hasHouse 2 (some .boolean) := hA
  unfold f_X3_hasHouse
  refine WO.iload_n (n := 1) hA dX3_hasHouse_0 1 rfl rfl ?_
  refine WO.if_lt (tg := 16) (n := 4) hA dX3_hasHouse_1 (by decide) rfl (fun _ => ?_) (fun _ => ?_)
  · refine WO.iconst (x := (0 : Int32)) (n := 17) hA dX3_hasHouse_16 (by decide) rfl ?_
    exact WO.zretc hA (by decide) dX3_hasHouse_17
  · refine WO.iload_n (n := 5) hA dX3_hasHouse_4 1 rfl rfl ?_
    refine WO.aload_n (n := 6) hA dX3_hasHouse_5 0 rfl rfl ?_
    refine WO.getI (j := 5) (n := 9) hA (st_0 hw ha0) rfl fiX3_hasHouse_X3 (by decide) rfl fkX3_hasHouse_28 dX3_hasHouse_6 rfl ?_
    refine WO.icmp_ge (tg := 16) (n := 12) hA dX3_hasHouse_9 (by decide) rfl (fun _ => ?_) (fun _ => ?_)
    · refine WO.iconst (x := (0 : Int32)) (n := 17) hA dX3_hasHouse_16 (by decide) rfl ?_
      exact WO.zretc hA (by decide) dX3_hasHouse_17
    · refine WO.iconst (x := (1 : Int32)) (n := 13) hA dX3_hasHouse_12 (by decide) rfl ?_
      refine WO.goto (n := 17) hA dX3_hasHouse_13 (by decide) ?_
      exact WO.zretc hA (by decide) dX3_hasHouse_17
/- X3_hasClock -/
abbrev rmX3_hasClock : Room := { frames := 0, cells := 0, slots := 0, locals := 0 }
theorem mdX3_hasClock : yX3_hasClock.cls = RX3 ∧ yX3_hasClock.cls ≠ "java/lang/invoke/MethodHandle" ∧ yX3_hasClock.cls ≠ "java/lang/invoke/VarHandle" ∧ (parseMethodDescriptor yX3_hasClock.desc).map (fun d => d.parameters.length) = some 1 := by decide +kernel
theorem fkX3_hasClock_32 : Cond.fieldLink RX3 32 (TX3 6).1 (TX3 6).2.1 (TX3 6).2.2.1 ∈ wsX3_hasClock := by decide +kernel
theorem fiX3_hasClock_X3 : ∀ q ∈ u_ws RX3 TX3 10, q ∈ wsX3_hasClock := by decide +kernel
noncomputable def f_X3_hasClock (a0 : Nat) (x1 : Int32) (M : Mem) : Option (Int32 × Mem) := if x1 < 0 then (some ((0 : Int32), M)) else (if (M a0 6) ≤ x1 then (some ((0 : Int32), M)) else (some ((1 : Int32), M)))
set_option maxHeartbeats 4000000 in
set_option maxRecDepth 100000 in
theorem c_X3_hasClock (l : Launch) (w : Cw) (hw : w.2.2.2.2.2 = shX) (a0 : Nat) (x1 : Int32) (ha0 : isSt a0) (M : Mem) : Ok l w eI yX3_hasClock wsX3_hasClock rmX3_hasClock [.ref (w.2.1 a0), .int x1] M (f_X3_hasClock a0 x1 M) := by
  refine Ok.of (cc := cX3_hasClock) (nL := 2) (ret := (some .boolean)) (lv := [(0, .ref (w.2.1 a0)), (1, .int x1)]) (by decide) rfl (Nat.le_of_ble_eq_true rfl) rfl (fun v hv hA => ?_)
  subst hv
  have hA : Act v w RX3 wsX3_hasClock cX3_hasClock 2 (some .boolean) := hA
  unfold f_X3_hasClock
  refine WO.iload_n (n := 1) hA dX3_hasClock_0 1 rfl rfl ?_
  refine WO.if_lt (tg := 16) (n := 4) hA dX3_hasClock_1 (by decide) rfl (fun _ => ?_) (fun _ => ?_)
  · refine WO.iconst (x := (0 : Int32)) (n := 17) hA dX3_hasClock_16 (by decide) rfl ?_
    exact WO.zretc hA (by decide) dX3_hasClock_17
  · refine WO.iload_n (n := 5) hA dX3_hasClock_4 1 rfl rfl ?_
    refine WO.aload_n (n := 6) hA dX3_hasClock_5 0 rfl rfl ?_
    refine WO.getI (j := 6) (n := 9) hA (st_0 hw ha0) rfl fiX3_hasClock_X3 (by decide) rfl fkX3_hasClock_32 dX3_hasClock_6 rfl ?_
    refine WO.icmp_ge (tg := 16) (n := 12) hA dX3_hasClock_9 (by decide) rfl (fun _ => ?_) (fun _ => ?_)
    · refine WO.iconst (x := (0 : Int32)) (n := 17) hA dX3_hasClock_16 (by decide) rfl ?_
      exact WO.zretc hA (by decide) dX3_hasClock_17
    · refine WO.iconst (x := (1 : Int32)) (n := 13) hA dX3_hasClock_12 (by decide) rfl ?_
      refine WO.goto (n := 17) hA dX3_hasClock_13 (by decide) ?_
      exact WO.zretc hA (by decide) dX3_hasClock_17
/- X3_owner -/
abbrev rmX3_owner : Room := { frames := 2, cells := 0, slots := 0, locals := 44 }
theorem mdX3_owner : yX3_owner.cls = RX3 ∧ yX3_owner.cls ≠ "java/lang/invoke/MethodHandle" ∧ yX3_owner.cls ≠ "java/lang/invoke/VarHandle" ∧ (parseMethodDescriptor yX3_owner.desc).map (fun d => d.parameters.length) = some 2 := by decide +kernel
theorem fkX3_owner_28 : Cond.fieldLink RX3 28 (TX3 5).1 (TX3 5).2.1 (TX3 5).2.2.1 ∈ wsX3_owner := by decide +kernel
theorem fiX3_owner_X3 : ∀ q ∈ u_ws RX3 TX3 10, q ∈ wsX3_owner := by decide +kernel
noncomputable def f_X3_owner_L16 (a0 : Nat) (x2 : Int32) (x3 : Int32) (kx : Int32 → Mem → Option (Int32 × Mem)) : Nat → Int32 → Int32 → Int32 → Mem → Option (Int32 × Mem)
  | 0, _, _, _, _ => none
  | n + 1, x4, x5, x6, M => if (M a0 5) ≤ x6 then (kx x4 M) else (bd (f_X3_heard a0 x6 x3 x2 M) (fun r4 M3 => bd (f_X3_needs a0 x6 M3) (fun r6 M5 => bd (f_X3_spare r4 r6 M5) (fun r8 M7 => if r8 ≤ x5 then (f_X3_owner_L16 a0 x2 x3 kx n x4 x5 (x6 + (1 : Int32)) M7) else (f_X3_owner_L16 a0 x2 x3 kx n x6 r8 (x6 + (1 : Int32)) M7)))))
noncomputable def f_X3_owner (a0 : Nat) (x1 : Int32) (x2 : Int32) (M : Mem) : Option (Int32 × Mem) := bd (f_X3_sound a0 x1 M) (fun r2 M1 => f_X3_owner_L16 a0 x2 r2 (fun e9 M10 => some (e9, M10)) FU (-9 : Int32) (-1 : Int32) (0 : Int32) M1)
set_option maxHeartbeats 4000000 in
set_option maxRecDepth 100000 in
theorem w_X3_owner_L16 {v : Av} {w : Cw} (hw : w.2.2.2.2.2 = shX) (hA : Act v w RX3 wsX3_owner cX3_owner 8 (some .int)) (a0 : Nat) (ha0 : isSt a0) (x2 : Int32) (x3 : Int32) (kx : Int32 → Mem → Option (Int32 × Mem)) (hk : ∀ (y4 : Int32) (M : Mem), WO v w rmX3_owner 8 eI (kx y4 M) 65 [(4, .int y4)] [] M) : ∀ (n : Nat) (x4 : Int32) (x5 : Int32) (x6 : Int32) (M : Mem), WO v w rmX3_owner 8 eI (f_X3_owner_L16 a0 x2 x3 kx n x4 x5 x6 M) 16 [(0, .ref (w.2.1 a0)), (2, .int x2), (3, .int x3), (4, .int x4), (5, .int x5), (6, .int x6)] [] M := by
  intro n
  induction n with
  | zero => intro x4 x5 x6 M; exact WO.nothing
  | succ n ih =>
    intro x4 x5 x6 M
    rw [f_X3_owner_L16]
    refine WO.iload (n := 18) hA dX3_owner_16 5 rfl rfl ?_
    refine WO.aload_n (n := 19) hA dX3_owner_18 0 rfl rfl ?_
    refine WO.getI (j := 5) (n := 22) hA (st_0 hw ha0) rfl fiX3_owner_X3 (by decide) rfl fkX3_owner_28 dX3_owner_19 rfl ?_
    refine WO.icmp_ge (tg := 65) (n := 25) hA dX3_owner_22 (by decide) rfl (fun _ => ?_) (fun _ => ?_)
    · refine WO.sub (lv' := [(4, .int x4)]) [3] rfl ?_
      exact hk x4 M
    · refine WO.aload_n (n := 26) hA dX3_owner_25 0 rfl rfl ?_
      refine WO.iload (n := 28) hA dX3_owner_26 5 rfl rfl ?_
      refine WO.iload_n (n := 29) hA dX3_owner_28 2 rfl rfl ?_
      refine WO.iload_n (n := 30) hA dX3_owner_29 1 rfl rfl ?_
      refine WO.callVi (As := [.int x6, .int x3, .int x2]) (rest := []) (n := 33) hA (c_X3_heard v.2.1 w hw a0 x6 x3 x2 ha0 M) gX3_owner_X3_heard rfl (st_0 hw ha0) rfl mdX3_heard ⟨rfl, rfl, Nat.le_of_ble_eq_true rfl, Nat.le_of_ble_eq_true rfl⟩ rfl rfl (Nat.le_of_ble_eq_true rfl) dX3_owner_30 rfl (fun r4 M3 => ?_)
      refine WO.aload_n (n := 34) hA dX3_owner_33 0 rfl rfl ?_
      refine WO.iload (n := 36) hA dX3_owner_34 5 rfl rfl ?_
      refine WO.callVi (As := [.int x6]) (rest := [.int r4]) (n := 39) hA (c_X3_needs v.2.1 w hw a0 x6 ha0 M3) gX3_owner_X3_needs rfl (st_0 hw ha0) rfl mdX3_needs ⟨rfl, rfl, Nat.le_of_ble_eq_true rfl, Nat.le_of_ble_eq_true rfl⟩ rfl rfl (Nat.le_of_ble_eq_true rfl) dX3_owner_36 rfl (fun r6 M5 => ?_)
      refine WO.callSi (As := [.int r4, .int r6]) (rest := []) (n := 42) hA (c_X3_spare v.2.1 w hw r4 r6 M5) gX3_owner_X3_spare rfl mdX3_spare ⟨rfl, rfl, Nat.le_of_ble_eq_true rfl, Nat.le_of_ble_eq_true rfl⟩ rfl rfl (Nat.le_of_ble_eq_true rfl) dX3_owner_39 rfl (fun r8 M7 => ?_)
      refine WO.istore (lv' := [(7, .int r8), (0, .ref (w.2.1 a0)), (2, .int x2), (3, .int x3), (4, .int x4), (5, .int x5), (6, .int x6)]) (n := 44) hA dX3_owner_42 (by decide) rfl rfl ?_
      refine WO.iload (n := 46) hA dX3_owner_44 0 rfl rfl ?_
      refine WO.iload (n := 48) hA dX3_owner_46 5 rfl rfl ?_
      refine WO.icmp_le (tg := 59) (n := 51) hA dX3_owner_48 (by decide) rfl (fun _ => ?_) (fun _ => ?_)
      · refine WO.iinc (y := (1 : Int32)) (lv' := [(6, .int (x6 + (1 : Int32))), (7, .int r8), (0, .ref (w.2.1 a0)), (2, .int x2), (3, .int x3), (4, .int x4), (5, .int x5)]) (n := 62) hA dX3_owner_59 6 rfl (by decide) (by decide) rfl rfl ?_
        refine WO.goto (n := 16) hA dX3_owner_62 (by decide) ?_
        refine WO.sub (lv' := [(0, .ref (w.2.1 a0)), (2, .int x2), (3, .int x3), (4, .int x4), (5, .int x5), (6, .int (x6 + (1 : Int32)))]) [2, 3, 4, 5, 6, 0] rfl ?_
        exact ih x4 x5 (x6 + (1 : Int32)) M7
      · refine WO.iload (n := 53) hA dX3_owner_51 0 rfl rfl ?_
        refine WO.istore (lv' := [(5, .int r8), (7, .int r8), (0, .ref (w.2.1 a0)), (2, .int x2), (3, .int x3), (4, .int x4), (6, .int x6)]) (n := 55) hA dX3_owner_53 (by decide) rfl rfl ?_
        refine WO.iload (n := 57) hA dX3_owner_55 6 rfl rfl ?_
        refine WO.istore (lv' := [(4, .int x6), (5, .int r8), (7, .int r8), (0, .ref (w.2.1 a0)), (2, .int x2), (3, .int x3), (6, .int x6)]) (n := 59) hA dX3_owner_57 (by decide) rfl rfl ?_
        refine WO.iinc (y := (1 : Int32)) (lv' := [(6, .int (x6 + (1 : Int32))), (4, .int x6), (5, .int r8), (7, .int r8), (0, .ref (w.2.1 a0)), (2, .int x2), (3, .int x3)]) (n := 62) hA dX3_owner_59 6 rfl (by decide) (by decide) rfl rfl ?_
        refine WO.goto (n := 16) hA dX3_owner_62 (by decide) ?_
        refine WO.sub (lv' := [(0, .ref (w.2.1 a0)), (2, .int x2), (3, .int x3), (4, .int x6), (5, .int r8), (6, .int (x6 + (1 : Int32)))]) [4, 5, 6, 1, 2, 0] rfl ?_
        exact ih x6 r8 (x6 + (1 : Int32)) M7
set_option maxHeartbeats 4000000 in
set_option maxRecDepth 100000 in
theorem c_X3_owner (l : Launch) (w : Cw) (hw : w.2.2.2.2.2 = shX) (a0 : Nat) (x1 : Int32) (x2 : Int32) (ha0 : isSt a0) (M : Mem) : Ok l w eI yX3_owner wsX3_owner rmX3_owner [.ref (w.2.1 a0), .int x1, .int x2] M (f_X3_owner a0 x1 x2 M) := by
  refine Ok.of (cc := cX3_owner) (nL := 8) (ret := (some .int)) (lv := [(0, .ref (w.2.1 a0)), (1, .int x1), (2, .int x2)]) (by decide) rfl (Nat.le_of_ble_eq_true rfl) rfl (fun v hv hA => ?_)
  subst hv
  have hA : Act v w RX3 wsX3_owner cX3_owner 8 (some .int) := hA
  unfold f_X3_owner
  refine WO.aload_n (n := 1) hA dX3_owner_0 0 rfl rfl ?_
  refine WO.iload_n (n := 2) hA dX3_owner_1 1 rfl rfl ?_
  refine WO.callVi (As := [.int x1]) (rest := []) (n := 5) hA (c_X3_sound v.2.1 w hw a0 x1 ha0 M) gX3_owner_X3_sound rfl (st_0 hw ha0) rfl mdX3_sound ⟨rfl, rfl, Nat.le_of_ble_eq_true rfl, Nat.le_of_ble_eq_true rfl⟩ rfl rfl (Nat.le_of_ble_eq_true rfl) dX3_owner_2 rfl (fun r2 M1 => ?_)
  refine WO.istore_n (i := 3) (lv' := [(3, .int r2), (0, .ref (w.2.1 a0)), (1, .int x1), (2, .int x2)]) (n := 6) hA dX3_owner_5 rfl (by decide) rfl rfl ?_
  refine WO.bipush (x := (-9 : Int32)) (n := 8) hA dX3_owner_6 (by decide) rfl ?_
  refine WO.istore (lv' := [(4, .int (-9 : Int32)), (3, .int r2), (0, .ref (w.2.1 a0)), (1, .int x1), (2, .int x2)]) (n := 10) hA dX3_owner_8 (by decide) rfl rfl ?_
  refine WO.iconst (x := (-1 : Int32)) (n := 11) hA dX3_owner_10 (by decide) rfl ?_
  refine WO.istore (lv' := [(5, .int (-1 : Int32)), (4, .int (-9 : Int32)), (3, .int r2), (0, .ref (w.2.1 a0)), (1, .int x1), (2, .int x2)]) (n := 13) hA dX3_owner_11 (by decide) rfl rfl ?_
  refine WO.iconst (x := (0 : Int32)) (n := 14) hA dX3_owner_13 (by decide) rfl ?_
  refine WO.istore (lv' := [(6, .int (0 : Int32)), (5, .int (-1 : Int32)), (4, .int (-9 : Int32)), (3, .int r2), (0, .ref (w.2.1 a0)), (1, .int x1), (2, .int x2)]) (n := 16) hA dX3_owner_14 (by decide) rfl rfl ?_
  refine WO.sub (lv' := [(0, .ref (w.2.1 a0)), (2, .int x2), (3, .int r2), (4, .int (-9 : Int32)), (5, .int (-1 : Int32)), (6, .int (0 : Int32))]) [4, 6, 3, 2, 1, 0] rfl ?_
  refine w_X3_owner_L16 hw hA a0 ha0 x2 r2 _ (fun e9 M10 => ?_) _ _ _ _ _
  refine WO.iload (n := 67) hA dX3_owner_65 0 rfl rfl ?_
  exact WO.iret hA dX3_owner_67
/- X3_placeAfterStroke -/
abbrev rmX3_placeAfterStroke : Room := { frames := 3, cells := 0, slots := 0, locals := 71 }
theorem mdX3_placeAfterStroke : yX3_placeAfterStroke.cls = RX3 ∧ yX3_placeAfterStroke.cls ≠ "java/lang/invoke/MethodHandle" ∧ yX3_placeAfterStroke.cls ≠ "java/lang/invoke/VarHandle" ∧ (parseMethodDescriptor yX3_placeAfterStroke.desc).map (fun d => d.parameters.length) = some 2 := by decide +kernel
noncomputable def f_X3_placeAfterStroke (a0 : Nat) (x1 : Int32) (x2 : Int32) (M : Mem) : Option (Int32 × Mem) := bd (f_X3_owner a0 x1 x2 M) (fun r2 M1 => if r2 = (-9 : Int32) then (some (x2, M1)) else (some (r2, M1)))
set_option maxHeartbeats 4000000 in
set_option maxRecDepth 100000 in
theorem c_X3_placeAfterStroke (l : Launch) (w : Cw) (hw : w.2.2.2.2.2 = shX) (a0 : Nat) (x1 : Int32) (x2 : Int32) (ha0 : isSt a0) (M : Mem) : Ok l w eI yX3_placeAfterStroke wsX3_placeAfterStroke rmX3_placeAfterStroke [.ref (w.2.1 a0), .int x1, .int x2] M (f_X3_placeAfterStroke a0 x1 x2 M) := by
  refine Ok.of (cc := cX3_placeAfterStroke) (nL := 4) (ret := (some .int)) (lv := [(0, .ref (w.2.1 a0)), (1, .int x1), (2, .int x2)]) (by decide) rfl (Nat.le_of_ble_eq_true rfl) rfl (fun v hv hA => ?_)
  subst hv
  have hA : Act v w RX3 wsX3_placeAfterStroke cX3_placeAfterStroke 4 (some .int) := hA
  unfold f_X3_placeAfterStroke
  refine WO.aload_n (n := 1) hA dX3_placeAfterStroke_0 0 rfl rfl ?_
  refine WO.iload_n (n := 2) hA dX3_placeAfterStroke_1 1 rfl rfl ?_
  refine WO.iload_n (n := 3) hA dX3_placeAfterStroke_2 2 rfl rfl ?_
  refine WO.callVi (As := [.int x1, .int x2]) (rest := []) (n := 6) hA (c_X3_owner v.2.1 w hw a0 x1 x2 ha0 M) gX3_placeAfterStroke_X3_owner rfl (st_0 hw ha0) rfl mdX3_owner ⟨rfl, rfl, Nat.le_of_ble_eq_true rfl, Nat.le_of_ble_eq_true rfl⟩ rfl rfl (Nat.le_of_ble_eq_true rfl) dX3_placeAfterStroke_3 rfl (fun r2 M1 => ?_)
  refine WO.istore_n (i := 3) (lv' := [(3, .int r2), (0, .ref (w.2.1 a0)), (1, .int x1), (2, .int x2)]) (n := 7) hA dX3_placeAfterStroke_6 rfl (by decide) rfl rfl ?_
  refine WO.iload_n (n := 8) hA dX3_placeAfterStroke_7 0 rfl rfl ?_
  refine WO.bipush (x := (-9 : Int32)) (n := 10) hA dX3_placeAfterStroke_8 (by decide) rfl ?_
  refine WO.icmp_ne (tg := 17) (n := 13) hA dX3_placeAfterStroke_10 (by decide) rfl (fun _ => ?_) (fun _ => ?_)
  · refine WO.iload_n (n := 14) hA dX3_placeAfterStroke_13 3 rfl rfl ?_
    refine WO.goto (n := 18) hA dX3_placeAfterStroke_14 (by decide) ?_
    exact WO.iret hA dX3_placeAfterStroke_18
  · refine WO.iload_n (n := 18) hA dX3_placeAfterStroke_17 0 rfl rfl ?_
    exact WO.iret hA dX3_placeAfterStroke_18
/- X3_strike -/
abbrev rmX3_strike : Room := { frames := 3, cells := 0, slots := 0, locals := 71 }
theorem mdX3_strike : yX3_strike.cls = RX3 ∧ yX3_strike.cls ≠ "java/lang/invoke/MethodHandle" ∧ yX3_strike.cls ≠ "java/lang/invoke/VarHandle" ∧ (parseMethodDescriptor yX3_strike.desc).map (fun d => d.parameters.length) = some 1 := by decide +kernel
theorem fkX3_strike_21 : Cond.fieldLink RX3 21 (TX3 3).1 (TX3 3).2.1 (TX3 3).2.2.1 ∈ wsX3_strike := by decide +kernel
theorem fiX3_strike_X3 : ∀ q ∈ u_ws RX3 TX3 10, q ∈ wsX3_strike := by decide +kernel
theorem fkX3_strike_41 : Cond.fieldLink RX3 41 (TX3 9).1 (TX3 9).2.1 (TX3 9).2.2.1 ∈ wsX3_strike := by decide +kernel
theorem fkX3_strike_38 : Cond.fieldLink RX3 38 (TX3 8).1 (TX3 8).2.1 (TX3 8).2.2.1 ∈ wsX3_strike := by decide +kernel
noncomputable def f_X3_strike (a0 : Nat) (x1 : Int32) (M : Mem) : Option (Int32 × Mem) := grd x1 4 (bd (f_X3_owner a0 x1 (M (a0 + 4) x1.toNatClampNeg) M) (fun r2 M1 => if r2 = (-9 : Int32) then (mlt (mu M1 a0 9 ((M1 a0 9) + (1 : Int32))) (fun M3 => some (r2, M3))) else (grd x1 4 (if r2 = (M1 (a0 + 4) x1.toNatClampNeg) then (some (r2, M1)) else (grd x1 4 (mlt (mu M1 (a0 + 4) x1.toNatClampNeg r2) (fun M4 => mlt (mu M4 a0 8 ((M4 a0 8) + (1 : Int32))) (fun M5 => some (r2, M5)))))))))
set_option maxHeartbeats 4000000 in
set_option maxRecDepth 100000 in
theorem c_X3_strike (l : Launch) (w : Cw) (hw : w.2.2.2.2.2 = shX) (a0 : Nat) (x1 : Int32) (ha0 : isSt a0) (M : Mem) : Ok l w eI yX3_strike wsX3_strike rmX3_strike [.ref (w.2.1 a0), .int x1] M (f_X3_strike a0 x1 M) := by
  refine Ok.of (cc := cX3_strike) (nL := 3) (ret := (some .int)) (lv := [(0, .ref (w.2.1 a0)), (1, .int x1)]) (by decide) rfl (Nat.le_of_ble_eq_true rfl) rfl (fun v hv hA => ?_)
  subst hv
  have hA : Act v w RX3 wsX3_strike cX3_strike 3 (some .int) := hA
  unfold f_X3_strike
  refine WO.aload_n (n := 1) hA dX3_strike_0 0 rfl rfl ?_
  refine WO.iload_n (n := 2) hA dX3_strike_1 1 rfl rfl ?_
  refine WO.aload_n (n := 3) hA dX3_strike_2 0 rfl rfl ?_
  refine WO.getR (j := 3) (p := (a0 + 4)) (n := 6) hA (st_0 hw ha0) rfl fiX3_strike_X3 (by decide) rfl fkX3_strike_21 dX3_strike_3 rfl ?_
  refine WO.iload_n (n := 7) hA dX3_strike_6 1 rfl rfl ?_
  refine WO.iald (n := 8) hA (st_4 hw ha0) dX3_strike_7 rfl (fun _ => ?_)
  refine WO.callVi (As := [.int x1, .int (M (a0 + 4) x1.toNatClampNeg)]) (rest := []) (n := 11) hA (c_X3_owner v.2.1 w hw a0 x1 (M (a0 + 4) x1.toNatClampNeg) ha0 M) gX3_strike_X3_owner rfl (st_0 hw ha0) rfl mdX3_owner ⟨rfl, rfl, Nat.le_of_ble_eq_true rfl, Nat.le_of_ble_eq_true rfl⟩ rfl rfl (Nat.le_of_ble_eq_true rfl) dX3_strike_8 rfl (fun r2 M1 => ?_)
  refine WO.istore_n (i := 2) (lv' := [(2, .int r2), (0, .ref (w.2.1 a0)), (1, .int x1)]) (n := 12) hA dX3_strike_11 rfl (by decide) rfl rfl ?_
  refine WO.iload_n (n := 13) hA dX3_strike_12 0 rfl rfl ?_
  refine WO.bipush (x := (-9 : Int32)) (n := 15) hA dX3_strike_13 (by decide) rfl ?_
  refine WO.icmp_ne (tg := 31) (n := 18) hA dX3_strike_15 (by decide) rfl (fun _ => ?_) (fun _ => ?_)
  · refine WO.aload_n (n := 19) hA dX3_strike_18 1 rfl rfl ?_
    refine WO.dup (n := 20) hA dX3_strike_19 rfl rfl ?_
    refine WO.getI (j := 9) (n := 23) hA (st_0 hw ha0) rfl fiX3_strike_X3 (by decide) rfl fkX3_strike_41 dX3_strike_20 rfl ?_
    refine WO.iconst (x := (1 : Int32)) (n := 24) hA dX3_strike_23 (by decide) rfl ?_
    refine WO.iadd (n := 25) hA dX3_strike_24 rfl ?_
    refine WO.putI (j := 9) (n := 28) hA (st_0 hw ha0) rfl fiX3_strike_X3 tyX3 tyX3_ok nmX3 (by decide) rfl fkX3_strike_41 rfl rfl rfl rfl dX3_strike_25 rfl ?_
    refine WO.mem (fun M3 => ?_)
    refine WO.goto (n := 58) hA dX3_strike_28 (by decide) ?_
    refine WO.iload_n (n := 59) hA dX3_strike_58 0 rfl rfl ?_
    exact WO.iret hA dX3_strike_59
  · refine WO.iload_n (n := 32) hA dX3_strike_31 0 rfl rfl ?_
    refine WO.aload_n (n := 33) hA dX3_strike_32 1 rfl rfl ?_
    refine WO.getR (j := 3) (p := (a0 + 4)) (n := 36) hA (st_0 hw ha0) rfl fiX3_strike_X3 (by decide) rfl fkX3_strike_21 dX3_strike_33 rfl ?_
    refine WO.iload_n (n := 37) hA dX3_strike_36 2 rfl rfl ?_
    refine WO.iald (n := 38) hA (st_4 hw ha0) dX3_strike_37 rfl (fun _ => ?_)
    refine WO.icmp_eq (tg := 58) (n := 41) hA dX3_strike_38 (by decide) rfl (fun _ => ?_) (fun _ => ?_)
    · refine WO.iload_n (n := 59) hA dX3_strike_58 0 rfl rfl ?_
      exact WO.iret hA dX3_strike_59
    · refine WO.aload_n (n := 42) hA dX3_strike_41 1 rfl rfl ?_
      refine WO.getR (j := 3) (p := (a0 + 4)) (n := 45) hA (st_0 hw ha0) rfl fiX3_strike_X3 (by decide) rfl fkX3_strike_21 dX3_strike_42 rfl ?_
      refine WO.iload_n (n := 46) hA dX3_strike_45 2 rfl rfl ?_
      refine WO.iload_n (n := 47) hA dX3_strike_46 0 rfl rfl ?_
      refine WO.iast (n := 48) hA (st_4 hw ha0) dX3_strike_47 rfl (fun _ => ?_)
      refine WO.mem (fun M4 => ?_)
      refine WO.aload_n (n := 49) hA dX3_strike_48 1 rfl rfl ?_
      refine WO.dup (n := 50) hA dX3_strike_49 rfl rfl ?_
      refine WO.getI (j := 8) (n := 53) hA (st_0 hw ha0) rfl fiX3_strike_X3 (by decide) rfl fkX3_strike_38 dX3_strike_50 rfl ?_
      refine WO.iconst (x := (1 : Int32)) (n := 54) hA dX3_strike_53 (by decide) rfl ?_
      refine WO.iadd (n := 55) hA dX3_strike_54 rfl ?_
      refine WO.putI (j := 8) (n := 58) hA (st_0 hw ha0) rfl fiX3_strike_X3 tyX3 tyX3_ok nmX3 (by decide) rfl fkX3_strike_38 rfl rfl rfl rfl dX3_strike_55 rfl ?_
      refine WO.mem (fun M5 => ?_)
      refine WO.iload_n (n := 59) hA dX3_strike_58 0 rfl rfl ?_
      exact WO.iret hA dX3_strike_59
/- X3_passNights -/
abbrev rmX3_passNights : Room := { frames := 4, cells := 0, slots := 0, locals := 93 }
theorem mdX3_passNights : yX3_passNights.cls = RX3 ∧ yX3_passNights.cls ≠ "java/lang/invoke/MethodHandle" ∧ yX3_passNights.cls ≠ "java/lang/invoke/VarHandle" ∧ (parseMethodDescriptor yX3_passNights.desc).map (fun d => d.parameters.length) = some 1 := by decide +kernel
theorem fkX3_passNights_32 : Cond.fieldLink RX3 32 (TX3 6).1 (TX3 6).2.1 (TX3 6).2.2.1 ∈ wsX3_passNights := by decide +kernel
theorem fiX3_passNights_X3 : ∀ q ∈ u_ws RX3 TX3 10, q ∈ wsX3_passNights := by decide +kernel
noncomputable def f_X3_passNights_L9 (a0 : Nat) (x1 : Int32) (x2 : Int32) (kx : Mem → Option (Unit × Mem)) : Nat → Int32 → Mem → Option (Unit × Mem)
  | 0, _, _ => none
  | n + 1, x3, M => if (M a0 6) ≤ x3 then (kx  M) else (bd (f_X3_strike a0 x3 M) (fun r2 M1 => f_X3_passNights_L9 a0 x1 x2 kx n (x3 + (1 : Int32)) M1))
noncomputable def f_X3_passNights_L2 (a0 : Nat) (x1 : Int32) (kx : Mem → Option (Unit × Mem)) : Nat → Int32 → Mem → Option (Unit × Mem)
  | 0, _, _ => none
  | n + 1, x2, M => if x1 ≤ x2 then (kx  M) else (f_X3_passNights_L9 a0 x1 x2 (fun  M3 => f_X3_passNights_L2 a0 x1 kx n (x2 + (1 : Int32)) M3) FU (0 : Int32) M)
noncomputable def f_X3_passNights (a0 : Nat) (x1 : Int32) (M : Mem) : Option (Unit × Mem) := f_X3_passNights_L2 a0 x1 (fun  M4 => some ((), M4)) FU (0 : Int32) M
set_option maxHeartbeats 4000000 in
set_option maxRecDepth 100000 in
theorem w_X3_passNights_L9 {v : Av} {w : Cw} (hw : w.2.2.2.2.2 = shX) (hA : Act v w RX3 wsX3_passNights cX3_passNights 4 none) (a0 : Nat) (ha0 : isSt a0) (x1 : Int32) (x2 : Int32) (kx : Mem → Option (Unit × Mem)) (hk : ∀ (M : Mem), WO v w rmX3_passNights 4 eV (kx M) 29 [(0, .ref (w.2.1 a0)), (1, .int x1), (2, .int x2)] [] M) : ∀ (n : Nat) (x3 : Int32) (M : Mem), WO v w rmX3_passNights 4 eV (f_X3_passNights_L9 a0 x1 x2 kx n x3 M) 9 [(0, .ref (w.2.1 a0)), (1, .int x1), (2, .int x2), (3, .int x3)] [] M := by
  intro n
  induction n with
  | zero => intro x3 M; exact WO.nothing
  | succ n ih =>
    intro x3 M
    rw [f_X3_passNights_L9]
    refine WO.iload_n (n := 10) hA dX3_passNights_9 3 rfl rfl ?_
    refine WO.aload_n (n := 11) hA dX3_passNights_10 0 rfl rfl ?_
    refine WO.getI (j := 6) (n := 14) hA (st_0 hw ha0) rfl fiX3_passNights_X3 (by decide) rfl fkX3_passNights_32 dX3_passNights_11 rfl ?_
    refine WO.icmp_ge (tg := 29) (n := 17) hA dX3_passNights_14 (by decide) rfl (fun _ => ?_) (fun _ => ?_)
    · refine WO.sub (lv' := [(0, .ref (w.2.1 a0)), (1, .int x1), (2, .int x2)]) [0, 1, 2] rfl ?_
      exact hk  M
    · refine WO.aload_n (n := 18) hA dX3_passNights_17 0 rfl rfl ?_
      refine WO.iload_n (n := 19) hA dX3_passNights_18 3 rfl rfl ?_
      refine WO.callVi (As := [.int x3]) (rest := []) (n := 22) hA (c_X3_strike v.2.1 w hw a0 x3 ha0 M) gX3_passNights_X3_strike rfl (st_0 hw ha0) rfl mdX3_strike ⟨rfl, rfl, Nat.le_of_ble_eq_true rfl, Nat.le_of_ble_eq_true rfl⟩ rfl rfl (Nat.le_of_ble_eq_true rfl) dX3_passNights_19 rfl (fun r2 M1 => ?_)
      refine WO.pop (n := 23) hA dX3_passNights_22 rfl rfl ?_
      refine WO.iinc (y := (1 : Int32)) (lv' := [(3, .int (x3 + (1 : Int32))), (0, .ref (w.2.1 a0)), (1, .int x1), (2, .int x2)]) (n := 26) hA dX3_passNights_23 3 rfl (by decide) (by decide) rfl rfl ?_
      refine WO.goto (n := 9) hA dX3_passNights_26 (by decide) ?_
      refine WO.sub (lv' := [(0, .ref (w.2.1 a0)), (1, .int x1), (2, .int x2), (3, .int (x3 + (1 : Int32)))]) [1, 2, 3, 0] rfl ?_
      exact ih (x3 + (1 : Int32)) M1
set_option maxHeartbeats 4000000 in
set_option maxRecDepth 100000 in
theorem w_X3_passNights_L2 {v : Av} {w : Cw} (hw : w.2.2.2.2.2 = shX) (hA : Act v w RX3 wsX3_passNights cX3_passNights 4 none) (a0 : Nat) (ha0 : isSt a0) (x1 : Int32) (kx : Mem → Option (Unit × Mem)) (hk : ∀ (M : Mem), WO v w rmX3_passNights 4 eV (kx M) 35 [] [] M) : ∀ (n : Nat) (x2 : Int32) (M : Mem), WO v w rmX3_passNights 4 eV (f_X3_passNights_L2 a0 x1 kx n x2 M) 2 [(0, .ref (w.2.1 a0)), (1, .int x1), (2, .int x2)] [] M := by
  intro n
  induction n with
  | zero => intro x2 M; exact WO.nothing
  | succ n ih =>
    intro x2 M
    rw [f_X3_passNights_L2]
    refine WO.iload_n (n := 3) hA dX3_passNights_2 2 rfl rfl ?_
    refine WO.iload_n (n := 4) hA dX3_passNights_3 1 rfl rfl ?_
    refine WO.icmp_ge (tg := 35) (n := 7) hA dX3_passNights_4 (by decide) rfl (fun _ => ?_) (fun _ => ?_)
    · refine WO.sub (lv' := []) [] rfl ?_
      exact hk  M
    · refine WO.iconst (x := (0 : Int32)) (n := 8) hA dX3_passNights_7 (by decide) rfl ?_
      refine WO.istore_n (i := 3) (lv' := [(3, .int (0 : Int32)), (0, .ref (w.2.1 a0)), (1, .int x1), (2, .int x2)]) (n := 9) hA dX3_passNights_8 rfl (by decide) rfl rfl ?_
      refine WO.sub (lv' := [(0, .ref (w.2.1 a0)), (1, .int x1), (2, .int x2), (3, .int (0 : Int32))]) [1, 2, 3, 0] rfl ?_
      refine w_X3_passNights_L9 hw hA a0 ha0 x1 x2 _ (fun  M3 => ?_) _ _ _
      refine WO.iinc (y := (1 : Int32)) (lv' := [(2, .int (x2 + (1 : Int32))), (0, .ref (w.2.1 a0)), (1, .int x1)]) (n := 32) hA dX3_passNights_29 2 rfl (by decide) (by decide) rfl rfl ?_
      refine WO.goto (n := 2) hA dX3_passNights_32 (by decide) ?_
      refine WO.sub (lv' := [(0, .ref (w.2.1 a0)), (1, .int x1), (2, .int (x2 + (1 : Int32)))]) [1, 2, 0] rfl ?_
      exact ih (x2 + (1 : Int32)) M3
set_option maxHeartbeats 4000000 in
set_option maxRecDepth 100000 in
theorem c_X3_passNights (l : Launch) (w : Cw) (hw : w.2.2.2.2.2 = shX) (a0 : Nat) (x1 : Int32) (ha0 : isSt a0) (M : Mem) : Ok l w eV yX3_passNights wsX3_passNights rmX3_passNights [.ref (w.2.1 a0), .int x1] M (f_X3_passNights a0 x1 M) := by
  refine Ok.of (cc := cX3_passNights) (nL := 4) (ret := none) (lv := [(0, .ref (w.2.1 a0)), (1, .int x1)]) (by decide) rfl (Nat.le_of_ble_eq_true rfl) rfl (fun v hv hA => ?_)
  subst hv
  have hA : Act v w RX3 wsX3_passNights cX3_passNights 4 none := hA
  unfold f_X3_passNights
  refine WO.iconst (x := (0 : Int32)) (n := 1) hA dX3_passNights_0 (by decide) rfl ?_
  refine WO.istore_n (i := 2) (lv' := [(2, .int (0 : Int32)), (0, .ref (w.2.1 a0)), (1, .int x1)]) (n := 2) hA dX3_passNights_1 rfl (by decide) rfl rfl ?_
  refine WO.sub (lv' := [(0, .ref (w.2.1 a0)), (1, .int x1), (2, .int (0 : Int32))]) [1, 2, 0] rfl ?_
  refine w_X3_passNights_L2 hw hA a0 ha0 x1 _ (fun  M4 => ?_) _ _ _
  exact WO.vret hA dX3_passNights_35
/- X3_clocksIn -/
abbrev rmX3_clocksIn : Room := { frames := 0, cells := 0, slots := 0, locals := 0 }
theorem mdX3_clocksIn : yX3_clocksIn.cls = RX3 ∧ yX3_clocksIn.cls ≠ "java/lang/invoke/MethodHandle" ∧ yX3_clocksIn.cls ≠ "java/lang/invoke/VarHandle" ∧ (parseMethodDescriptor yX3_clocksIn.desc).map (fun d => d.parameters.length) = some 1 := by decide +kernel
theorem fkX3_clocksIn_32 : Cond.fieldLink RX3 32 (TX3 6).1 (TX3 6).2.1 (TX3 6).2.2.1 ∈ wsX3_clocksIn := by decide +kernel
theorem fiX3_clocksIn_X3 : ∀ q ∈ u_ws RX3 TX3 10, q ∈ wsX3_clocksIn := by decide +kernel
theorem fkX3_clocksIn_21 : Cond.fieldLink RX3 21 (TX3 3).1 (TX3 3).2.1 (TX3 3).2.2.1 ∈ wsX3_clocksIn := by decide +kernel
noncomputable def f_X3_clocksIn_L4 (a0 : Nat) (x1 : Int32) (kx : Int32 → Mem → Option (Int32 × Mem)) : Nat → Int32 → Int32 → Mem → Option (Int32 × Mem)
  | 0, _, _, _ => none
  | n + 1, x2, x3, M => if (M a0 6) ≤ x3 then (kx x2 M) else (grd x3 4 (if (M (a0 + 4) x3.toNatClampNeg) = x1 then (ilt (x2 ||| ((1 : Int32) <<< (x3 &&& 31))) (fun x_1 => f_X3_clocksIn_L4 a0 x1 kx n x_1 (x3 + (1 : Int32)) M)) else (f_X3_clocksIn_L4 a0 x1 kx n x2 (x3 + (1 : Int32)) M)))
noncomputable def f_X3_clocksIn (a0 : Nat) (x1 : Int32) (M : Mem) : Option (Int32 × Mem) := f_X3_clocksIn_L4 a0 x1 (fun e2 M3 => some (e2, M3)) FU (0 : Int32) (0 : Int32) M
set_option maxHeartbeats 4000000 in
set_option maxRecDepth 100000 in
theorem w_X3_clocksIn_L4 {v : Av} {w : Cw} (hw : w.2.2.2.2.2 = shX) (hA : Act v w RX3 wsX3_clocksIn cX3_clocksIn 4 (some .int)) (a0 : Nat) (ha0 : isSt a0) (x1 : Int32) (kx : Int32 → Mem → Option (Int32 × Mem)) (hk : ∀ (y2 : Int32) (M : Mem), WO v w rmX3_clocksIn 4 eI (kx y2 M) 34 [(2, .int y2)] [] M) : ∀ (n : Nat) (x2 : Int32) (x3 : Int32) (M : Mem), WO v w rmX3_clocksIn 4 eI (f_X3_clocksIn_L4 a0 x1 kx n x2 x3 M) 4 [(0, .ref (w.2.1 a0)), (1, .int x1), (2, .int x2), (3, .int x3)] [] M := by
  intro n
  induction n with
  | zero => intro x2 x3 M; exact WO.nothing
  | succ n ih =>
    intro x2 x3 M
    rw [f_X3_clocksIn_L4]
    refine WO.iload_n (n := 5) hA dX3_clocksIn_4 3 rfl rfl ?_
    refine WO.aload_n (n := 6) hA dX3_clocksIn_5 0 rfl rfl ?_
    refine WO.getI (j := 6) (n := 9) hA (st_0 hw ha0) rfl fiX3_clocksIn_X3 (by decide) rfl fkX3_clocksIn_32 dX3_clocksIn_6 rfl ?_
    refine WO.icmp_ge (tg := 34) (n := 12) hA dX3_clocksIn_9 (by decide) rfl (fun _ => ?_) (fun _ => ?_)
    · refine WO.sub (lv' := [(2, .int x2)]) [2] rfl ?_
      exact hk x2 M
    · refine WO.aload_n (n := 13) hA dX3_clocksIn_12 0 rfl rfl ?_
      refine WO.getR (j := 3) (p := (a0 + 4)) (n := 16) hA (st_0 hw ha0) rfl fiX3_clocksIn_X3 (by decide) rfl fkX3_clocksIn_21 dX3_clocksIn_13 rfl ?_
      refine WO.iload_n (n := 17) hA dX3_clocksIn_16 3 rfl rfl ?_
      refine WO.iald (n := 18) hA (st_4 hw ha0) dX3_clocksIn_17 rfl (fun _ => ?_)
      refine WO.iload_n (n := 19) hA dX3_clocksIn_18 1 rfl rfl ?_
      refine WO.icmp_ne (tg := 28) (n := 22) hA dX3_clocksIn_19 (by decide) rfl (fun _ => ?_) (fun _ => ?_)
      · refine WO.iload_n (n := 23) hA dX3_clocksIn_22 2 rfl rfl ?_
        refine WO.iconst (x := (1 : Int32)) (n := 24) hA dX3_clocksIn_23 (by decide) rfl ?_
        refine WO.iload_n (n := 25) hA dX3_clocksIn_24 3 rfl rfl ?_
        refine WO.ishl (n := 26) hA dX3_clocksIn_25 rfl ?_
        refine WO.ior (n := 27) hA dX3_clocksIn_26 rfl ?_
        refine WO.top (fun x_1 => ?_)
        refine WO.istore_n (i := 2) (lv' := [(2, .int x_1), (0, .ref (w.2.1 a0)), (1, .int x1), (3, .int x3)]) (n := 28) hA dX3_clocksIn_27 rfl (by decide) rfl rfl ?_
        refine WO.iinc (y := (1 : Int32)) (lv' := [(3, .int (x3 + (1 : Int32))), (2, .int x_1), (0, .ref (w.2.1 a0)), (1, .int x1)]) (n := 31) hA dX3_clocksIn_28 3 rfl (by decide) (by decide) rfl rfl ?_
        refine WO.goto (n := 4) hA dX3_clocksIn_31 (by decide) ?_
        refine WO.sub (lv' := [(0, .ref (w.2.1 a0)), (1, .int x1), (2, .int x_1), (3, .int (x3 + (1 : Int32)))]) [2, 3, 1, 0] rfl ?_
        exact ih x_1 (x3 + (1 : Int32)) M
      · refine WO.iinc (y := (1 : Int32)) (lv' := [(3, .int (x3 + (1 : Int32))), (0, .ref (w.2.1 a0)), (1, .int x1), (2, .int x2)]) (n := 31) hA dX3_clocksIn_28 3 rfl (by decide) (by decide) rfl rfl ?_
        refine WO.goto (n := 4) hA dX3_clocksIn_31 (by decide) ?_
        refine WO.sub (lv' := [(0, .ref (w.2.1 a0)), (1, .int x1), (2, .int x2), (3, .int (x3 + (1 : Int32)))]) [1, 2, 3, 0] rfl ?_
        exact ih x2 (x3 + (1 : Int32)) M
set_option maxHeartbeats 4000000 in
set_option maxRecDepth 100000 in
theorem c_X3_clocksIn (l : Launch) (w : Cw) (hw : w.2.2.2.2.2 = shX) (a0 : Nat) (x1 : Int32) (ha0 : isSt a0) (M : Mem) : Ok l w eI yX3_clocksIn wsX3_clocksIn rmX3_clocksIn [.ref (w.2.1 a0), .int x1] M (f_X3_clocksIn a0 x1 M) := by
  refine Ok.of (cc := cX3_clocksIn) (nL := 4) (ret := (some .int)) (lv := [(0, .ref (w.2.1 a0)), (1, .int x1)]) (by decide) rfl (Nat.le_of_ble_eq_true rfl) rfl (fun v hv hA => ?_)
  subst hv
  have hA : Act v w RX3 wsX3_clocksIn cX3_clocksIn 4 (some .int) := hA
  unfold f_X3_clocksIn
  refine WO.iconst (x := (0 : Int32)) (n := 1) hA dX3_clocksIn_0 (by decide) rfl ?_
  refine WO.istore_n (i := 2) (lv' := [(2, .int (0 : Int32)), (0, .ref (w.2.1 a0)), (1, .int x1)]) (n := 2) hA dX3_clocksIn_1 rfl (by decide) rfl rfl ?_
  refine WO.iconst (x := (0 : Int32)) (n := 3) hA dX3_clocksIn_2 (by decide) rfl ?_
  refine WO.istore_n (i := 3) (lv' := [(3, .int (0 : Int32)), (2, .int (0 : Int32)), (0, .ref (w.2.1 a0)), (1, .int x1)]) (n := 4) hA dX3_clocksIn_3 rfl (by decide) rfl rfl ?_
  refine WO.sub (lv' := [(0, .ref (w.2.1 a0)), (1, .int x1), (2, .int (0 : Int32)), (3, .int (0 : Int32))]) [2, 3, 1, 0] rfl ?_
  refine w_X3_clocksIn_L4 hw hA a0 ha0 x1 _ (fun e2 M3 => ?_) _ _ _ _
  refine WO.iload_n (n := 35) hA dX3_clocksIn_34 0 rfl rfl ?_
  exact WO.iret hA dX3_clocksIn_35
