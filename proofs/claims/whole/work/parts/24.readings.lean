/- X1_note -/
abbrev rmX1_note : Room := { frames := 0, cells := 0, slots := 0, locals := 0 }
theorem mdX1_note : yX1_note.cls = RX1 ∧ yX1_note.cls ≠ "java/lang/invoke/MethodHandle" ∧ yX1_note.cls ≠ "java/lang/invoke/VarHandle" ∧ (parseMethodDescriptor yX1_note.desc).map (fun d => d.parameters.length) = some 4 := by decide +kernel
theorem fkX1_note_9 : Cond.fieldLink RX1 9 (TX1 0).1 (TX1 0).2.1 (TX1 0).2.2.1 ∈ wsX1_note := by decide +kernel
theorem fiX1_note_X1 : ∀ q ∈ u_ws RX1 TX1 5, q ∈ wsX1_note := by decide +kernel
theorem fkX1_note_25 : Cond.fieldLink RX1 25 (TX1 4).1 (TX1 4).2.1 (TX1 4).2.2.1 ∈ wsX1_note := by decide +kernel
theorem fkX1_note_15 : Cond.fieldLink RX1 15 (TX1 1).1 (TX1 1).2.1 (TX1 1).2.2.1 ∈ wsX1_note := by decide +kernel
theorem fkX1_note_18 : Cond.fieldLink RX1 18 (TX1 2).1 (TX1 2).2.1 (TX1 2).2.2.1 ∈ wsX1_note := by decide +kernel
theorem fkX1_note_21 : Cond.fieldLink RX1 21 (TX1 3).1 (TX1 3).2.1 (TX1 3).2.2.1 ∈ wsX1_note := by decide +kernel
noncomputable def f_X1_note (x1 : Int32) (x2 : Int32) (x3 : Int32) (x4 : Int32) (M : Mem) : Option (Int32 × Mem) := grd (M 15 4) 8 (mlt (mu M 16 (M 15 4).toNatClampNeg x1) (fun M1 => grd (M1 15 4) 8 (mlt (mu M1 17 (M1 15 4).toNatClampNeg x2) (fun M2 => grd (M2 15 4) 8 (mlt (mu M2 18 (M2 15 4).toNatClampNeg x3) (fun M3 => grd (M3 15 4) 8 (mlt (mu M3 19 (M3 15 4).toNatClampNeg (x4 &&& 1)) (fun M4 => mlt (mu M4 15 4 ((M4 15 4) + (1 : Int32))) (fun M5 => some ((M4 15 4), M5))))))))))
set_option maxHeartbeats 4000000 in
set_option maxRecDepth 100000 in
theorem c_X1_note (l : Launch) (w : Cw) (hw : w.2.2.2.2.2 = shX) (x1 : Int32) (x2 : Int32) (x3 : Int32) (x4 : Int32) (M : Mem) : Ok l w eI yX1_note wsX1_note rmX1_note [.ref (w.2.1 15), .int x1, .int x2, .int x3, .int x4] M (f_X1_note x1 x2 x3 x4 M) := by
  refine Ok.of (cc := cX1_note) (nL := 5) (ret := (some .int)) (lv := [(0, .ref (w.2.1 15)), (1, .int x1), (2, .int x2), (3, .int x3), (4, .int x4)]) (by decide) rfl (Nat.le_of_ble_eq_true rfl) rfl (fun v hv hA => ?_)
  subst hv
  have hA : Act v w RX1 wsX1_note cX1_note 5 (some .int) := hA
  unfold f_X1_note
  refine WO.aload_n (n := 1) hA dX1_note_0 0 rfl rfl ?_
  refine WO.getR (j := 0) (p := 16) (n := 4) hA (x_15 hw) rfl fiX1_note_X1 (by decide) rfl fkX1_note_9 dX1_note_1 rfl ?_
  refine WO.aload_n (n := 5) hA dX1_note_4 0 rfl rfl ?_
  refine WO.getI (j := 4) (n := 8) hA (x_15 hw) rfl fiX1_note_X1 (by decide) rfl fkX1_note_25 dX1_note_5 rfl ?_
  refine WO.iload_n (n := 9) hA dX1_note_8 1 rfl rfl ?_
  refine WO.iast (n := 10) hA (x_16 hw) dX1_note_9 rfl (fun _ => ?_)
  refine WO.mem (fun M1 => ?_)
  refine WO.aload_n (n := 11) hA dX1_note_10 0 rfl rfl ?_
  refine WO.getR (j := 1) (p := 17) (n := 14) hA (x_15 hw) rfl fiX1_note_X1 (by decide) rfl fkX1_note_15 dX1_note_11 rfl ?_
  refine WO.aload_n (n := 15) hA dX1_note_14 0 rfl rfl ?_
  refine WO.getI (j := 4) (n := 18) hA (x_15 hw) rfl fiX1_note_X1 (by decide) rfl fkX1_note_25 dX1_note_15 rfl ?_
  refine WO.iload_n (n := 19) hA dX1_note_18 2 rfl rfl ?_
  refine WO.iast (n := 20) hA (x_17 hw) dX1_note_19 rfl (fun _ => ?_)
  refine WO.mem (fun M2 => ?_)
  refine WO.aload_n (n := 21) hA dX1_note_20 0 rfl rfl ?_
  refine WO.getR (j := 2) (p := 18) (n := 24) hA (x_15 hw) rfl fiX1_note_X1 (by decide) rfl fkX1_note_18 dX1_note_21 rfl ?_
  refine WO.aload_n (n := 25) hA dX1_note_24 0 rfl rfl ?_
  refine WO.getI (j := 4) (n := 28) hA (x_15 hw) rfl fiX1_note_X1 (by decide) rfl fkX1_note_25 dX1_note_25 rfl ?_
  refine WO.iload_n (n := 29) hA dX1_note_28 3 rfl rfl ?_
  refine WO.iast (n := 30) hA (x_18 hw) dX1_note_29 rfl (fun _ => ?_)
  refine WO.mem (fun M3 => ?_)
  refine WO.aload_n (n := 31) hA dX1_note_30 0 rfl rfl ?_
  refine WO.getR (j := 3) (p := 19) (n := 34) hA (x_15 hw) rfl fiX1_note_X1 (by decide) rfl fkX1_note_21 dX1_note_31 rfl ?_
  refine WO.aload_n (n := 35) hA dX1_note_34 0 rfl rfl ?_
  refine WO.getI (j := 4) (n := 38) hA (x_15 hw) rfl fiX1_note_X1 (by decide) rfl fkX1_note_25 dX1_note_35 rfl ?_
  refine WO.iload (n := 40) hA dX1_note_38 4 rfl rfl ?_
  refine WO.zast (n := 41) hA (x_19 hw) dX1_note_40 rfl (fun _ => ?_)
  refine WO.mem (fun M4 => ?_)
  refine WO.aload_n (n := 42) hA dX1_note_41 0 rfl rfl ?_
  refine WO.dup (n := 43) hA dX1_note_42 rfl rfl ?_
  refine WO.getI (j := 4) (n := 46) hA (x_15 hw) rfl fiX1_note_X1 (by decide) rfl fkX1_note_25 dX1_note_43 rfl ?_
  refine WO.dup_x1 (n := 47) hA dX1_note_46 rfl rfl rfl ?_
  refine WO.iconst (x := (1 : Int32)) (n := 48) hA dX1_note_47 (by decide) rfl ?_
  refine WO.iadd (n := 49) hA dX1_note_48 rfl ?_
  refine WO.putI (j := 4) (n := 52) hA (x_15 hw) rfl fiX1_note_X1 tyX1 tyX1_ok nmX1 (by decide) rfl fkX1_note_25 rfl rfl rfl rfl dX1_note_49 rfl ?_
  refine WO.mem (fun M5 => ?_)
  exact WO.iret hA dX1_note_52
/- X1_bitIfAllHold -/
abbrev rmX1_bitIfAllHold : Room := { frames := 3, cells := 0, slots := 0, locals := 67 }
theorem mdX1_bitIfAllHold : yX1_bitIfAllHold.cls = RX1 ∧ yX1_bitIfAllHold.cls ≠ "java/lang/invoke/MethodHandle" ∧ yX1_bitIfAllHold.cls ≠ "java/lang/invoke/VarHandle" ∧ (parseMethodDescriptor yX1_bitIfAllHold.desc).map (fun d => d.parameters.length) = some 2 := by decide +kernel
theorem fkX1_bitIfAllHold_25 : Cond.fieldLink RX1 25 (TX1 4).1 (TX1 4).2.1 (TX1 4).2.2.1 ∈ wsX1_bitIfAllHold := by decide +kernel
theorem fiX1_bitIfAllHold_X1 : ∀ q ∈ u_ws RX1 TX1 5, q ∈ wsX1_bitIfAllHold := by decide +kernel
theorem fkX1_bitIfAllHold_18 : Cond.fieldLink RX1 18 (TX1 2).1 (TX1 2).2.1 (TX1 2).2.2.1 ∈ wsX1_bitIfAllHold := by decide +kernel
theorem fkX1_bitIfAllHold_9 : Cond.fieldLink RX1 9 (TX1 0).1 (TX1 0).2.1 (TX1 0).2.2.1 ∈ wsX1_bitIfAllHold := by decide +kernel
theorem fkX1_bitIfAllHold_15 : Cond.fieldLink RX1 15 (TX1 1).1 (TX1 1).2.1 (TX1 1).2.2.1 ∈ wsX1_bitIfAllHold := by decide +kernel
theorem fkX1_bitIfAllHold_21 : Cond.fieldLink RX1 21 (TX1 3).1 (TX1 3).2.1 (TX1 3).2.2.1 ∈ wsX1_bitIfAllHold := by decide +kernel
noncomputable def f_X1_bitIfAllHold_L2 (a1 : Nat) (x2 : Int32) (kx : Mem → Option (Int32 × Mem)) : Nat → Int32 → Mem → Option (Int32 × Mem)
  | 0, _, _ => none
  | n + 1, x3, M => if (M 15 4) ≤ x3 then (kx  M) else (grd x3 8 (grd x3 8 (bd (f_X3_sound a1 (M 16 x3.toNatClampNeg) M) (fun r2 M1 => grd x3 8 (bd (f_X3_wakes a1 (M 18 x3.toNatClampNeg) r2 (M1 17 x3.toNatClampNeg) M1) (fun r4 M3 => grd x3 8 (if r4 = (M3 19 x3.toNatClampNeg) then (f_X1_bitIfAllHold_L2 a1 x2 kx n (x3 + (1 : Int32)) M3) else (some ((0 : Int32), M3)))))))))
noncomputable def f_X1_bitIfAllHold (a1 : Nat) (x2 : Int32) (M : Mem) : Option (Int32 × Mem) := f_X1_bitIfAllHold_L2 a1 x2 (fun  M5 => some (((1 : Int32) <<< (x2 &&& 31)), M5)) FU (0 : Int32) M
set_option maxHeartbeats 4000000 in
set_option maxRecDepth 100000 in
theorem w_X1_bitIfAllHold_L2 {v : Av} {w : Cw} (hw : w.2.2.2.2.2 = shX) (hA : Act v w RX1 wsX1_bitIfAllHold cX1_bitIfAllHold 4 (some .int)) (a1 : Nat) (ha1 : isSt a1) (x2 : Int32) (kx : Mem → Option (Int32 × Mem)) (hk : ∀ (M : Mem), WO v w rmX1_bitIfAllHold 4 eI (kx M) 53 [(2, .int x2)] [] M) : ∀ (n : Nat) (x3 : Int32) (M : Mem), WO v w rmX1_bitIfAllHold 4 eI (f_X1_bitIfAllHold_L2 a1 x2 kx n x3 M) 2 [(0, .ref (w.2.1 15)), (1, .ref (w.2.1 a1)), (2, .int x2), (3, .int x3)] [] M := by
  intro n
  induction n with
  | zero => intro x3 M; exact WO.nothing
  | succ n ih =>
    intro x3 M
    rw [f_X1_bitIfAllHold_L2]
    refine WO.iload_n (n := 3) hA dX1_bitIfAllHold_2 3 rfl rfl ?_
    refine WO.aload_n (n := 4) hA dX1_bitIfAllHold_3 0 rfl rfl ?_
    refine WO.getI (j := 4) (n := 7) hA (x_15 hw) rfl fiX1_bitIfAllHold_X1 (by decide) rfl fkX1_bitIfAllHold_25 dX1_bitIfAllHold_4 rfl ?_
    refine WO.icmp_ge (tg := 53) (n := 10) hA dX1_bitIfAllHold_7 (by decide) rfl (fun _ => ?_) (fun _ => ?_)
    · refine WO.sub (lv' := [(2, .int x2)]) [2] rfl ?_
      exact hk  M
    · refine WO.aload_n (n := 11) hA dX1_bitIfAllHold_10 1 rfl rfl ?_
      refine WO.aload_n (n := 12) hA dX1_bitIfAllHold_11 0 rfl rfl ?_
      refine WO.getR (j := 2) (p := 18) (n := 15) hA (x_15 hw) rfl fiX1_bitIfAllHold_X1 (by decide) rfl fkX1_bitIfAllHold_18 dX1_bitIfAllHold_12 rfl ?_
      refine WO.iload_n (n := 16) hA dX1_bitIfAllHold_15 3 rfl rfl ?_
      refine WO.iald (n := 17) hA (x_18 hw) dX1_bitIfAllHold_16 rfl (fun _ => ?_)
      refine WO.aload_n (n := 18) hA dX1_bitIfAllHold_17 1 rfl rfl ?_
      refine WO.aload_n (n := 19) hA dX1_bitIfAllHold_18 0 rfl rfl ?_
      refine WO.getR (j := 0) (p := 16) (n := 22) hA (x_15 hw) rfl fiX1_bitIfAllHold_X1 (by decide) rfl fkX1_bitIfAllHold_9 dX1_bitIfAllHold_19 rfl ?_
      refine WO.iload_n (n := 23) hA dX1_bitIfAllHold_22 3 rfl rfl ?_
      refine WO.iald (n := 24) hA (x_16 hw) dX1_bitIfAllHold_23 rfl (fun _ => ?_)
      refine WO.callVi (As := [.int (M 16 x3.toNatClampNeg)]) (rest := [.int (M 18 x3.toNatClampNeg), .ref (w.2.1 a1)]) (n := 27) hA (c_X3_sound v.2.1 w hw a1 (M 16 x3.toNatClampNeg) ha1 M) gX1_bitIfAllHold_X3_sound rfl (st_0 hw ha1) rfl mdX3_sound ⟨rfl, rfl, Nat.le_of_ble_eq_true rfl, Nat.le_of_ble_eq_true rfl⟩ rfl rfl (Nat.le_of_ble_eq_true rfl) dX1_bitIfAllHold_24 rfl (fun r2 M1 => ?_)
      refine WO.aload_n (n := 28) hA dX1_bitIfAllHold_27 0 rfl rfl ?_
      refine WO.getR (j := 1) (p := 17) (n := 31) hA (x_15 hw) rfl fiX1_bitIfAllHold_X1 (by decide) rfl fkX1_bitIfAllHold_15 dX1_bitIfAllHold_28 rfl ?_
      refine WO.iload_n (n := 32) hA dX1_bitIfAllHold_31 3 rfl rfl ?_
      refine WO.iald (n := 33) hA (x_17 hw) dX1_bitIfAllHold_32 rfl (fun _ => ?_)
      refine WO.callVi (As := [.int (M 18 x3.toNatClampNeg), .int r2, .int (M1 17 x3.toNatClampNeg)]) (rest := []) (n := 36) hA (c_X3_wakes v.2.1 w hw a1 (M 18 x3.toNatClampNeg) r2 (M1 17 x3.toNatClampNeg) ha1 M1) gX1_bitIfAllHold_X3_wakes rfl (st_0 hw ha1) rfl mdX3_wakes ⟨rfl, rfl, Nat.le_of_ble_eq_true rfl, Nat.le_of_ble_eq_true rfl⟩ rfl rfl (Nat.le_of_ble_eq_true rfl) dX1_bitIfAllHold_33 rfl (fun r4 M3 => ?_)
      refine WO.aload_n (n := 37) hA dX1_bitIfAllHold_36 0 rfl rfl ?_
      refine WO.getR (j := 3) (p := 19) (n := 40) hA (x_15 hw) rfl fiX1_bitIfAllHold_X1 (by decide) rfl fkX1_bitIfAllHold_21 dX1_bitIfAllHold_37 rfl ?_
      refine WO.iload_n (n := 41) hA dX1_bitIfAllHold_40 3 rfl rfl ?_
      refine WO.zald (n := 42) hA (x_19 hw) dX1_bitIfAllHold_41 rfl (fun _ => ?_)
      refine WO.icmp_eq (tg := 47) (n := 45) hA dX1_bitIfAllHold_42 (by decide) rfl (fun _ => ?_) (fun _ => ?_)
      · refine WO.iinc (y := (1 : Int32)) (lv' := [(3, .int (x3 + (1 : Int32))), (0, .ref (w.2.1 15)), (1, .ref (w.2.1 a1)), (2, .int x2)]) (n := 50) hA dX1_bitIfAllHold_47 3 rfl (by decide) (by decide) rfl rfl ?_
        refine WO.goto (n := 2) hA dX1_bitIfAllHold_50 (by decide) ?_
        refine WO.sub (lv' := [(0, .ref (w.2.1 15)), (1, .ref (w.2.1 a1)), (2, .int x2), (3, .int (x3 + (1 : Int32)))]) [1, 2, 3, 0] rfl ?_
        exact ih (x3 + (1 : Int32)) M3
      · refine WO.iconst (x := (0 : Int32)) (n := 46) hA dX1_bitIfAllHold_45 (by decide) rfl ?_
        exact WO.iret hA dX1_bitIfAllHold_46
set_option maxHeartbeats 4000000 in
set_option maxRecDepth 100000 in
theorem c_X1_bitIfAllHold (l : Launch) (w : Cw) (hw : w.2.2.2.2.2 = shX) (a1 : Nat) (x2 : Int32) (ha1 : isSt a1) (M : Mem) : Ok l w eI yX1_bitIfAllHold wsX1_bitIfAllHold rmX1_bitIfAllHold [.ref (w.2.1 15), .ref (w.2.1 a1), .int x2] M (f_X1_bitIfAllHold a1 x2 M) := by
  refine Ok.of (cc := cX1_bitIfAllHold) (nL := 4) (ret := (some .int)) (lv := [(0, .ref (w.2.1 15)), (1, .ref (w.2.1 a1)), (2, .int x2)]) (by decide) rfl (Nat.le_of_ble_eq_true rfl) rfl (fun v hv hA => ?_)
  subst hv
  have hA : Act v w RX1 wsX1_bitIfAllHold cX1_bitIfAllHold 4 (some .int) := hA
  unfold f_X1_bitIfAllHold
  refine WO.iconst (x := (0 : Int32)) (n := 1) hA dX1_bitIfAllHold_0 (by decide) rfl ?_
  refine WO.istore_n (i := 3) (lv' := [(3, .int (0 : Int32)), (0, .ref (w.2.1 15)), (1, .ref (w.2.1 a1)), (2, .int x2)]) (n := 2) hA dX1_bitIfAllHold_1 rfl (by decide) rfl rfl ?_
  refine WO.sub (lv' := [(0, .ref (w.2.1 15)), (1, .ref (w.2.1 a1)), (2, .int x2), (3, .int (0 : Int32))]) [1, 2, 3, 0] rfl ?_
  refine w_X1_bitIfAllHold_L2 hw hA a1 ha1 x2 _ (fun  M5 => ?_) _ _ _
  refine WO.iconst (x := (1 : Int32)) (n := 54) hA dX1_bitIfAllHold_53 (by decide) rfl ?_
  refine WO.iload_n (n := 55) hA dX1_bitIfAllHold_54 0 rfl rfl ?_
  refine WO.ishl (n := 56) hA dX1_bitIfAllHold_55 rfl ?_
  exact WO.iret hA dX1_bitIfAllHold_56
