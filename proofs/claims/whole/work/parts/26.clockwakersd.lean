/- X5_from -/
abbrev rmX5_from : Room := { frames := 3, cells := 0, slots := 0, locals := 71 }
theorem mdX5_from : yX5_from.cls = RX5 ∧ yX5_from.cls ≠ "java/lang/invoke/MethodHandle" ∧ yX5_from.cls ≠ "java/lang/invoke/VarHandle" ∧ (parseMethodDescriptor yX5_from.desc).map (fun d => d.parameters.length) = some 2 := by decide +kernel
theorem fkX5_from_12 : Cond.fieldLink RX5 12 (TX5 0).1 (TX5 0).2.1 (TX5 0).2.2.1 ∈ wsX5_from := by decide +kernel
theorem fiX5_from_X5 : ∀ q ∈ u_ws RX5 TX5 10, q ∈ wsX5_from := by decide +kernel
theorem fkX5_from_184 : Cond.fieldLink RX5 184 (TX3 5).1 (TX3 5).2.1 (TX3 5).2.2.1 ∈ wsX5_from := by decide +kernel
theorem fiX5_from_X3 : ∀ q ∈ u_ws RX3 TX3 10, q ∈ wsX5_from := by decide +kernel
noncomputable def f_X5_from_L29 (x1 : Int32) (x2 : Int32) (kx : Int32 → Mem → Option (Int32 × Mem)) : Nat → Int32 → Int32 → Mem → Option (Int32 × Mem)
  | 0, _, _, _ => none
  | n + 1, x3, x4, M => if (M 1 5) ≤ x4 then (kx x3 M) else (bd (f_X3_owner 1 x2 x4 M) (fun r6 M5 => if r6 = x1 then (ilt (x3 ||| ((1 : Int32) <<< (x4 &&& 31))) (fun x_7 => f_X5_from_L29 x1 x2 kx n x_7 (x4 + (1 : Int32)) M5)) else (f_X5_from_L29 x1 x2 kx n x3 (x4 + (1 : Int32)) M5)))
noncomputable def f_X5_from (x1 : Int32) (x2 : Int32) (M : Mem) : Option (Int32 × Mem) := bd (f_X3_hasHouse 1 x1 M) (fun r2 M1 => if r2 = 0 then (some ((-1 : Int32), M1)) else (bd (f_X3_hasClock 1 x2 M1) (fun r4 M3 => if r4 = 0 then (some ((-1 : Int32), M3)) else (f_X5_from_L29 x1 x2 (fun e8 M9 => some (e8, M9)) FU (0 : Int32) (0 : Int32) M3))))
set_option maxHeartbeats 4000000 in
set_option maxRecDepth 100000 in
theorem w_X5_from_L29 {v : Av} {w : Cw} (hw : w.2.2.2.2.2 = shX) (hA : Act v w RX5 wsX5_from cX5_from 5 (some .int)) (x1 : Int32) (x2 : Int32) (kx : Int32 → Mem → Option (Int32 × Mem)) (hk : ∀ (y3 : Int32) (M : Mem), WO v w rmX5_from 5 eI (kx y3 M) 68 [(3, .int y3)] [] M) : ∀ (n : Nat) (x3 : Int32) (x4 : Int32) (M : Mem), WO v w rmX5_from 5 eI (f_X5_from_L29 x1 x2 kx n x3 x4 M) 29 [(0, .ref (w.2.1 0)), (1, .int x1), (2, .int x2), (3, .int x3), (4, .int x4)] [] M := by
  intro n
  induction n with
  | zero => intro x3 x4 M; exact WO.nothing
  | succ n ih =>
    intro x3 x4 M
    rw [f_X5_from_L29]
    refine WO.iload (n := 31) hA dX5_from_29 4 rfl rfl ?_
    refine WO.aload_n (n := 32) hA dX5_from_31 0 rfl rfl ?_
    refine WO.getR (j := 0) (p := 1) (n := 35) hA (x_0 hw) rfl fiX5_from_X5 (by decide) rfl fkX5_from_12 dX5_from_32 rfl ?_
    refine WO.getI (j := 5) (n := 38) hA (st_0 hw st1) rfl fiX5_from_X3 (by decide) rfl fkX5_from_184 dX5_from_35 rfl ?_
    refine WO.icmp_ge (tg := 68) (n := 41) hA dX5_from_38 (by decide) rfl (fun _ => ?_) (fun _ => ?_)
    · refine WO.sub (lv' := [(3, .int x3)]) [3] rfl ?_
      exact hk x3 M
    · refine WO.aload_n (n := 42) hA dX5_from_41 0 rfl rfl ?_
      refine WO.getR (j := 0) (p := 1) (n := 45) hA (x_0 hw) rfl fiX5_from_X5 (by decide) rfl fkX5_from_12 dX5_from_42 rfl ?_
      refine WO.iload_n (n := 46) hA dX5_from_45 2 rfl rfl ?_
      refine WO.iload (n := 48) hA dX5_from_46 4 rfl rfl ?_
      refine WO.callVi (As := [.int x2, .int x4]) (rest := []) (n := 51) hA (c_X3_owner v.2.1 w hw 1 x2 x4 st1 M) gX5_from_X3_owner rfl (st_0 hw st1) rfl mdX3_owner ⟨rfl, rfl, Nat.le_of_ble_eq_true rfl, Nat.le_of_ble_eq_true rfl⟩ rfl rfl (Nat.le_of_ble_eq_true rfl) dX5_from_48 rfl (fun r6 M5 => ?_)
      refine WO.iload_n (n := 52) hA dX5_from_51 1 rfl rfl ?_
      refine WO.icmp_ne (tg := 62) (n := 55) hA dX5_from_52 (by decide) rfl (fun _ => ?_) (fun _ => ?_)
      · refine WO.iload_n (n := 56) hA dX5_from_55 3 rfl rfl ?_
        refine WO.iconst (x := (1 : Int32)) (n := 57) hA dX5_from_56 (by decide) rfl ?_
        refine WO.iload (n := 59) hA dX5_from_57 4 rfl rfl ?_
        refine WO.ishl (n := 60) hA dX5_from_59 rfl ?_
        refine WO.ior (n := 61) hA dX5_from_60 rfl ?_
        refine WO.top (fun x_7 => ?_)
        refine WO.istore_n (i := 3) (lv' := [(3, .int x_7), (0, .ref (w.2.1 0)), (1, .int x1), (2, .int x2), (4, .int x4)]) (n := 62) hA dX5_from_61 rfl (by decide) rfl rfl ?_
        refine WO.iinc (y := (1 : Int32)) (lv' := [(4, .int (x4 + (1 : Int32))), (3, .int x_7), (0, .ref (w.2.1 0)), (1, .int x1), (2, .int x2)]) (n := 65) hA dX5_from_62 4 rfl (by decide) (by decide) rfl rfl ?_
        refine WO.goto (n := 29) hA dX5_from_65 (by decide) ?_
        refine WO.sub (lv' := [(0, .ref (w.2.1 0)), (1, .int x1), (2, .int x2), (3, .int x_7), (4, .int (x4 + (1 : Int32)))]) [2, 3, 4, 1, 0] rfl ?_
        exact ih x_7 (x4 + (1 : Int32)) M5
      · refine WO.iinc (y := (1 : Int32)) (lv' := [(4, .int (x4 + (1 : Int32))), (0, .ref (w.2.1 0)), (1, .int x1), (2, .int x2), (3, .int x3)]) (n := 65) hA dX5_from_62 4 rfl (by decide) (by decide) rfl rfl ?_
        refine WO.goto (n := 29) hA dX5_from_65 (by decide) ?_
        refine WO.sub (lv' := [(0, .ref (w.2.1 0)), (1, .int x1), (2, .int x2), (3, .int x3), (4, .int (x4 + (1 : Int32)))]) [1, 2, 3, 4, 0] rfl ?_
        exact ih x3 (x4 + (1 : Int32)) M5
set_option maxHeartbeats 4000000 in
set_option maxRecDepth 100000 in
theorem c_X5_from (l : Launch) (w : Cw) (hw : w.2.2.2.2.2 = shX) (x1 : Int32) (x2 : Int32) (M : Mem) : Ok l w eI yX5_from wsX5_from rmX5_from [.ref (w.2.1 0), .int x1, .int x2] M (f_X5_from x1 x2 M) := by
  refine Ok.of (cc := cX5_from) (nL := 5) (ret := (some .int)) (lv := [(0, .ref (w.2.1 0)), (1, .int x1), (2, .int x2)]) (by decide) rfl (Nat.le_of_ble_eq_true rfl) rfl (fun v hv hA => ?_)
  subst hv
  have hA : Act v w RX5 wsX5_from cX5_from 5 (some .int) := hA
  unfold f_X5_from
  refine WO.aload_n (n := 1) hA dX5_from_0 0 rfl rfl ?_
  refine WO.getR (j := 0) (p := 1) (n := 4) hA (x_0 hw) rfl fiX5_from_X5 (by decide) rfl fkX5_from_12 dX5_from_1 rfl ?_
  refine WO.iload_n (n := 5) hA dX5_from_4 1 rfl rfl ?_
  refine WO.callVi (As := [.int x1]) (rest := []) (n := 8) hA (c_X3_hasHouse v.2.1 w hw 1 x1 st1 M) gX5_from_X3_hasHouse rfl (st_0 hw st1) rfl mdX3_hasHouse ⟨rfl, rfl, Nat.le_of_ble_eq_true rfl, Nat.le_of_ble_eq_true rfl⟩ rfl rfl (Nat.le_of_ble_eq_true rfl) dX5_from_5 rfl (fun r2 M1 => ?_)
  refine WO.if_eq (tg := 22) (n := 11) hA dX5_from_8 (by decide) rfl (fun _ => ?_) (fun _ => ?_)
  · refine WO.iconst (x := (-1 : Int32)) (n := 23) hA dX5_from_22 (by decide) rfl ?_
    exact WO.iret hA dX5_from_23
  · refine WO.aload_n (n := 12) hA dX5_from_11 0 rfl rfl ?_
    refine WO.getR (j := 0) (p := 1) (n := 15) hA (x_0 hw) rfl fiX5_from_X5 (by decide) rfl fkX5_from_12 dX5_from_12 rfl ?_
    refine WO.iload_n (n := 16) hA dX5_from_15 2 rfl rfl ?_
    refine WO.callVi (As := [.int x2]) (rest := []) (n := 19) hA (c_X3_hasClock v.2.1 w hw 1 x2 st1 M1) gX5_from_X3_hasClock rfl (st_0 hw st1) rfl mdX3_hasClock ⟨rfl, rfl, Nat.le_of_ble_eq_true rfl, Nat.le_of_ble_eq_true rfl⟩ rfl rfl (Nat.le_of_ble_eq_true rfl) dX5_from_16 rfl (fun r4 M3 => ?_)
    refine WO.if_ne (tg := 24) (n := 22) hA dX5_from_19 (by decide) rfl (fun _ => ?_) (fun _ => ?_)
    · refine WO.iconst (x := (-1 : Int32)) (n := 23) hA dX5_from_22 (by decide) rfl ?_
      exact WO.iret hA dX5_from_23
    · refine WO.iconst (x := (0 : Int32)) (n := 25) hA dX5_from_24 (by decide) rfl ?_
      refine WO.istore_n (i := 3) (lv' := [(3, .int (0 : Int32)), (0, .ref (w.2.1 0)), (1, .int x1), (2, .int x2)]) (n := 26) hA dX5_from_25 rfl (by decide) rfl rfl ?_
      refine WO.iconst (x := (0 : Int32)) (n := 27) hA dX5_from_26 (by decide) rfl ?_
      refine WO.istore (lv' := [(4, .int (0 : Int32)), (3, .int (0 : Int32)), (0, .ref (w.2.1 0)), (1, .int x1), (2, .int x2)]) (n := 29) hA dX5_from_27 (by decide) rfl rfl ?_
      refine WO.sub (lv' := [(0, .ref (w.2.1 0)), (1, .int x1), (2, .int x2), (3, .int (0 : Int32)), (4, .int (0 : Int32))]) [2, 3, 4, 1, 0] rfl ?_
      refine w_X5_from_L29 hw hA x1 x2 _ (fun e8 M9 => ?_) _ _ _ _
      refine WO.iload_n (n := 69) hA dX5_from_68 0 rfl rfl ?_
      exact WO.iret hA dX5_from_69
/- X5_settle -/
abbrev rmX5_settle : Room := { frames := 5, cells := 0, slots := 0, locals := 116 }
theorem mdX5_settle : yX5_settle.cls = RX5 ∧ yX5_settle.cls ≠ "java/lang/invoke/MethodHandle" ∧ yX5_settle.cls ≠ "java/lang/invoke/VarHandle" ∧ (parseMethodDescriptor yX5_settle.desc).map (fun d => d.parameters.length) = some 0 := by decide +kernel
theorem fkX5_settle_12 : Cond.fieldLink RX5 12 (TX5 0).1 (TX5 0).2.1 (TX5 0).2.2.1 ∈ wsX5_settle := by decide +kernel
theorem fiX5_settle_X5 : ∀ q ∈ u_ws RX5 TX5 10, q ∈ wsX5_settle := by decide +kernel
theorem fkX5_settle_18 : Cond.fieldLink RX5 18 (TX5 1).1 (TX5 1).2.1 (TX5 1).2.2.1 ∈ wsX5_settle := by decide +kernel
theorem fkX5_settle_187 : Cond.fieldLink RX5 187 (TX3 8).1 (TX3 8).2.1 (TX3 8).2.2.1 ∈ wsX5_settle := by decide +kernel
theorem fiX5_settle_X3 : ∀ q ∈ u_ws RX3 TX3 10, q ∈ wsX5_settle := by decide +kernel
noncomputable def f_X5_settle_L26 (kx : Mem → Option (Int32 × Mem)) : Nat → Int32 → Mem → Option (Int32 × Mem)
  | 0, _, _ => none
  | n + 1, x1, M => if (99 : Int32) < x1 then (kx  M) else (ilt (M 7 8) (fun x_4 => bd (f_X3_passNights 7 (1 : Int32) M) (fun _ M5 => if (M5 7 8) = x_4 then (some (x1, M5)) else (f_X5_settle_L26 kx n (x1 + (1 : Int32)) M5))))
noncomputable def f_X5_settle (M : Mem) : Option (Int32 × Mem) := bd (f_X3_stands 1 M) (fun r2 M1 => if r2 = 0 then (some ((-3 : Int32), M1)) else (bd (f_X3_become 7 1 M1) (fun _ M3 => f_X5_settle_L26 (fun  M6 => some ((-9 : Int32), M6)) FU (0 : Int32) M3)))
set_option maxHeartbeats 4000000 in
set_option maxRecDepth 100000 in
theorem w_X5_settle_L26 {v : Av} {w : Cw} (hw : w.2.2.2.2.2 = shX) (hA : Act v w RX5 wsX5_settle cX5_settle 3 (some .int)) (kx : Mem → Option (Int32 × Mem)) (hk : ∀ (M : Mem), WO v w rmX5_settle 3 eI (kx M) 67 [] [] M) : ∀ (n : Nat) (x1 : Int32) (M : Mem), WO v w rmX5_settle 3 eI (f_X5_settle_L26 kx n x1 M) 26 [(0, .ref (w.2.1 0)), (1, .int x1)] [] M := by
  intro n
  induction n with
  | zero => intro x1 M; exact WO.nothing
  | succ n ih =>
    intro x1 M
    rw [f_X5_settle_L26]
    refine WO.iload_n (n := 27) hA dX5_settle_26 1 rfl rfl ?_
    refine WO.bipush (x := (99 : Int32)) (n := 29) hA dX5_settle_27 (by decide) rfl ?_
    refine WO.icmp_gt (tg := 67) (n := 32) hA dX5_settle_29 (by decide) rfl (fun _ => ?_) (fun _ => ?_)
    · refine WO.sub (lv' := []) [] rfl ?_
      exact hk  M
    · refine WO.aload_n (n := 33) hA dX5_settle_32 0 rfl rfl ?_
      refine WO.getR (j := 1) (p := 7) (n := 36) hA (x_0 hw) rfl fiX5_settle_X5 (by decide) rfl fkX5_settle_18 dX5_settle_33 rfl ?_
      refine WO.getI (j := 8) (n := 39) hA (st_0 hw st7) rfl fiX5_settle_X3 (by decide) rfl fkX5_settle_187 dX5_settle_36 rfl ?_
      refine WO.top (fun x_4 => ?_)
      refine WO.istore_n (i := 2) (lv' := [(2, .int x_4), (0, .ref (w.2.1 0)), (1, .int x1)]) (n := 40) hA dX5_settle_39 rfl (by decide) rfl rfl ?_
      refine WO.aload_n (n := 41) hA dX5_settle_40 1 rfl rfl ?_
      refine WO.getR (j := 1) (p := 7) (n := 44) hA (x_0 hw) rfl fiX5_settle_X5 (by decide) rfl fkX5_settle_18 dX5_settle_41 rfl ?_
      refine WO.iconst (x := (1 : Int32)) (n := 45) hA dX5_settle_44 (by decide) rfl ?_
      refine WO.callVv (As := [.int (1 : Int32)]) (rest := []) (n := 48) hA (c_X3_passNights v.2.1 w hw 7 (1 : Int32) st7 M) gX5_settle_X3_passNights rfl (st_0 hw st7) rfl mdX3_passNights ⟨rfl, rfl, Nat.le_of_ble_eq_true rfl, Nat.le_of_ble_eq_true rfl⟩ rfl rfl (Nat.le_of_ble_eq_true rfl) dX5_settle_45 rfl (fun M5 => ?_)
      refine WO.aload_n (n := 49) hA dX5_settle_48 1 rfl rfl ?_
      refine WO.getR (j := 1) (p := 7) (n := 52) hA (x_0 hw) rfl fiX5_settle_X5 (by decide) rfl fkX5_settle_18 dX5_settle_49 rfl ?_
      refine WO.getI (j := 8) (n := 55) hA (st_0 hw st7) rfl fiX5_settle_X3 (by decide) rfl fkX5_settle_187 dX5_settle_52 rfl ?_
      refine WO.iload_n (n := 56) hA dX5_settle_55 0 rfl rfl ?_
      refine WO.icmp_ne (tg := 61) (n := 59) hA dX5_settle_56 (by decide) rfl (fun _ => ?_) (fun _ => ?_)
      · refine WO.iload_n (n := 60) hA dX5_settle_59 2 rfl rfl ?_
        exact WO.iret hA dX5_settle_60
      · refine WO.iinc (y := (1 : Int32)) (lv' := [(1, .int (x1 + (1 : Int32))), (2, .int x_4), (0, .ref (w.2.1 0))]) (n := 64) hA dX5_settle_61 2 rfl (by decide) (by decide) rfl rfl ?_
        refine WO.goto (n := 26) hA dX5_settle_64 (by decide) ?_
        refine WO.sub (lv' := [(0, .ref (w.2.1 0)), (1, .int (x1 + (1 : Int32)))]) [2, 0] rfl ?_
        exact ih (x1 + (1 : Int32)) M5
set_option maxHeartbeats 4000000 in
set_option maxRecDepth 100000 in
theorem c_X5_settle (l : Launch) (w : Cw) (hw : w.2.2.2.2.2 = shX) (M : Mem) : Ok l w eI yX5_settle wsX5_settle rmX5_settle [.ref (w.2.1 0)] M (f_X5_settle M) := by
  refine Ok.of (cc := cX5_settle) (nL := 3) (ret := (some .int)) (lv := [(0, .ref (w.2.1 0))]) (by decide) rfl (Nat.le_of_ble_eq_true rfl) rfl (fun v hv hA => ?_)
  subst hv
  have hA : Act v w RX5 wsX5_settle cX5_settle 3 (some .int) := hA
  unfold f_X5_settle
  refine WO.aload_n (n := 1) hA dX5_settle_0 0 rfl rfl ?_
  refine WO.getR (j := 0) (p := 1) (n := 4) hA (x_0 hw) rfl fiX5_settle_X5 (by decide) rfl fkX5_settle_12 dX5_settle_1 rfl ?_
  refine WO.callVi (As := []) (rest := []) (n := 7) hA (c_X3_stands v.2.1 w hw 1 st1 M) gX5_settle_X3_stands rfl (st_0 hw st1) rfl mdX3_stands ⟨rfl, rfl, Nat.le_of_ble_eq_true rfl, Nat.le_of_ble_eq_true rfl⟩ rfl rfl (Nat.le_of_ble_eq_true rfl) dX5_settle_4 rfl (fun r2 M1 => ?_)
  refine WO.if_ne (tg := 13) (n := 10) hA dX5_settle_7 (by decide) rfl (fun _ => ?_) (fun _ => ?_)
  · refine WO.bipush (x := (-3 : Int32)) (n := 12) hA dX5_settle_10 (by decide) rfl ?_
    exact WO.iret hA dX5_settle_12
  · refine WO.aload_n (n := 14) hA dX5_settle_13 0 rfl rfl ?_
    refine WO.getR (j := 1) (p := 7) (n := 17) hA (x_0 hw) rfl fiX5_settle_X5 (by decide) rfl fkX5_settle_18 dX5_settle_14 rfl ?_
    refine WO.aload_n (n := 18) hA dX5_settle_17 0 rfl rfl ?_
    refine WO.getR (j := 0) (p := 1) (n := 21) hA (x_0 hw) rfl fiX5_settle_X5 (by decide) rfl fkX5_settle_12 dX5_settle_18 rfl ?_
    refine WO.callVv (As := [.ref (w.2.1 1)]) (rest := []) (n := 24) hA (c_X3_become v.2.1 w hw 7 1 st7 st1 M1) gX5_settle_X3_become rfl (st_0 hw st7) rfl mdX3_become ⟨rfl, rfl, Nat.le_of_ble_eq_true rfl, Nat.le_of_ble_eq_true rfl⟩ rfl rfl (Nat.le_of_ble_eq_true rfl) dX5_settle_21 rfl (fun M3 => ?_)
    refine WO.iconst (x := (0 : Int32)) (n := 25) hA dX5_settle_24 (by decide) rfl ?_
    refine WO.istore_n (i := 1) (lv' := [(1, .int (0 : Int32)), (0, .ref (w.2.1 0))]) (n := 26) hA dX5_settle_25 rfl (by decide) rfl rfl ?_
    refine WO.sub (lv' := [(0, .ref (w.2.1 0)), (1, .int (0 : Int32))]) [1, 0] rfl ?_
    refine w_X5_settle_L26 hw hA _ (fun  M6 => ?_) _ _ _
    refine WO.bipush (x := (-9 : Int32)) (n := 69) hA dX5_settle_67 (by decide) rfl ?_
    exact WO.iret hA dX5_settle_69
/- X5_still -/
abbrev rmX5_still : Room := { frames := 5, cells := 0, slots := 0, locals := 117 }
theorem mdX5_still : yX5_still.cls = RX5 ∧ yX5_still.cls ≠ "java/lang/invoke/MethodHandle" ∧ yX5_still.cls ≠ "java/lang/invoke/VarHandle" ∧ (parseMethodDescriptor yX5_still.desc).map (fun d => d.parameters.length) = some 1 := by decide +kernel
theorem fkX5_still_12 : Cond.fieldLink RX5 12 (TX5 0).1 (TX5 0).2.1 (TX5 0).2.2.1 ∈ wsX5_still := by decide +kernel
theorem fiX5_still_X5 : ∀ q ∈ u_ws RX5 TX5 10, q ∈ wsX5_still := by decide +kernel
theorem fkX5_still_89 : Cond.fieldLink RX5 89 (TX3 6).1 (TX3 6).2.1 (TX3 6).2.2.1 ∈ wsX5_still := by decide +kernel
theorem fiX5_still_X3 : ∀ q ∈ u_ws RX3 TX3 10, q ∈ wsX5_still := by decide +kernel
theorem fkX5_still_38 : Cond.fieldLink RX5 38 (TX5 4).1 (TX5 4).2.1 (TX5 4).2.2.1 ∈ wsX5_still := by decide +kernel
theorem fkX5_still_194 : Cond.fieldLink RX5 194 (TX0 0).1 (TX0 0).2.1 (TX0 0).2.2.1 ∈ wsX5_still := by decide +kernel
theorem fiX5_still_X0 : ∀ q ∈ u_ws RX0 TX0 3, q ∈ wsX5_still := by decide +kernel
noncomputable def f_X5_still (x1 : Int32) (M : Mem) : Option (Int32 × Mem) := if x1 < (-1 : Int32) then (some ((-2 : Int32), M)) else (if x1 < (4 : Int32) then (bd (f_X3_stands 1 M) (fun r2 M1 => if r2 = 0 then (some ((-3 : Int32), M1)) else (if x1 < (M1 1 6) then (bd (f_X0_findStillest 1 M1) (fun r4 M3 => if 0 ≤ x1 then (grd x1 4 (some ((M3 21 x1.toNatClampNeg), M3))) else (some (r4, M3)))) else (some ((-9 : Int32), M1))))) else (some ((-2 : Int32), M)))
set_option maxHeartbeats 4000000 in
set_option maxRecDepth 100000 in
theorem c_X5_still (l : Launch) (w : Cw) (hw : w.2.2.2.2.2 = shX) (x1 : Int32) (M : Mem) : Ok l w eI yX5_still wsX5_still rmX5_still [.ref (w.2.1 0), .int x1] M (f_X5_still x1 M) := by
  refine Ok.of (cc := cX5_still) (nL := 3) (ret := (some .int)) (lv := [(0, .ref (w.2.1 0)), (1, .int x1)]) (by decide) rfl (Nat.le_of_ble_eq_true rfl) rfl (fun v hv hA => ?_)
  subst hv
  have hA : Act v w RX5 wsX5_still cX5_still 3 (some .int) := hA
  unfold f_X5_still
  refine WO.iload_n (n := 1) hA dX5_still_0 1 rfl rfl ?_
  refine WO.iconst (x := (-1 : Int32)) (n := 2) hA dX5_still_1 (by decide) rfl ?_
  refine WO.icmp_lt (tg := 10) (n := 5) hA dX5_still_2 (by decide) rfl (fun _ => ?_) (fun _ => ?_)
  · refine WO.bipush (x := (-2 : Int32)) (n := 12) hA dX5_still_10 (by decide) rfl ?_
    exact WO.iret hA dX5_still_12
  · refine WO.iload_n (n := 6) hA dX5_still_5 1 rfl rfl ?_
    refine WO.iconst (x := (4 : Int32)) (n := 7) hA dX5_still_6 (by decide) rfl ?_
    refine WO.icmp_lt (tg := 13) (n := 10) hA dX5_still_7 (by decide) rfl (fun _ => ?_) (fun _ => ?_)
    · refine WO.aload_n (n := 14) hA dX5_still_13 0 rfl rfl ?_
      refine WO.getR (j := 0) (p := 1) (n := 17) hA (x_0 hw) rfl fiX5_still_X5 (by decide) rfl fkX5_still_12 dX5_still_14 rfl ?_
      refine WO.callVi (As := []) (rest := []) (n := 20) hA (c_X3_stands v.2.1 w hw 1 st1 M) gX5_still_X3_stands rfl (st_0 hw st1) rfl mdX3_stands ⟨rfl, rfl, Nat.le_of_ble_eq_true rfl, Nat.le_of_ble_eq_true rfl⟩ rfl rfl (Nat.le_of_ble_eq_true rfl) dX5_still_17 rfl (fun r2 M1 => ?_)
      refine WO.if_ne (tg := 26) (n := 23) hA dX5_still_20 (by decide) rfl (fun _ => ?_) (fun _ => ?_)
      · refine WO.bipush (x := (-3 : Int32)) (n := 25) hA dX5_still_23 (by decide) rfl ?_
        exact WO.iret hA dX5_still_25
      · refine WO.iload_n (n := 27) hA dX5_still_26 1 rfl rfl ?_
        refine WO.aload_n (n := 28) hA dX5_still_27 0 rfl rfl ?_
        refine WO.getR (j := 0) (p := 1) (n := 31) hA (x_0 hw) rfl fiX5_still_X5 (by decide) rfl fkX5_still_12 dX5_still_28 rfl ?_
        refine WO.getI (j := 6) (n := 34) hA (st_0 hw st1) rfl fiX5_still_X3 (by decide) rfl fkX5_still_89 dX5_still_31 rfl ?_
        refine WO.icmp_lt (tg := 40) (n := 37) hA dX5_still_34 (by decide) rfl (fun _ => ?_) (fun _ => ?_)
        · refine WO.aload_n (n := 41) hA dX5_still_40 0 rfl rfl ?_
          refine WO.getR (j := 4) (p := 20) (n := 44) hA (x_0 hw) rfl fiX5_still_X5 (by decide) rfl fkX5_still_38 dX5_still_41 rfl ?_
          refine WO.aload_n (n := 45) hA dX5_still_44 0 rfl rfl ?_
          refine WO.getR (j := 0) (p := 1) (n := 48) hA (x_0 hw) rfl fiX5_still_X5 (by decide) rfl fkX5_still_12 dX5_still_45 rfl ?_
          refine WO.callVi (As := [.ref (w.2.1 1)]) (rest := []) (n := 51) hA (c_X0_findStillest v.2.1 w hw 1 st1 M1) gX5_still_X0_findStillest rfl (x_20 hw) rfl mdX0_findStillest ⟨rfl, rfl, Nat.le_of_ble_eq_true rfl, Nat.le_of_ble_eq_true rfl⟩ rfl rfl (Nat.le_of_ble_eq_true rfl) dX5_still_48 rfl (fun r4 M3 => ?_)
          refine WO.istore_n (i := 2) (lv' := [(2, .int r4), (0, .ref (w.2.1 0)), (1, .int x1)]) (n := 52) hA dX5_still_51 rfl (by decide) rfl rfl ?_
          refine WO.iload_n (n := 53) hA dX5_still_52 2 rfl rfl ?_
          refine WO.if_ge (tg := 60) (n := 56) hA dX5_still_53 (by decide) rfl (fun _ => ?_) (fun _ => ?_)
          · refine WO.aload_n (n := 61) hA dX5_still_60 1 rfl rfl ?_
            refine WO.getR (j := 4) (p := 20) (n := 64) hA (x_0 hw) rfl fiX5_still_X5 (by decide) rfl fkX5_still_38 dX5_still_61 rfl ?_
            refine WO.getR (j := 0) (p := 21) (n := 67) hA (x_20 hw) rfl fiX5_still_X0 (by decide) rfl fkX5_still_194 dX5_still_64 rfl ?_
            refine WO.iload_n (n := 68) hA dX5_still_67 2 rfl rfl ?_
            refine WO.iald (n := 69) hA (x_21 hw) dX5_still_68 rfl (fun _ => ?_)
            exact WO.iret hA dX5_still_69
          · refine WO.iload_n (n := 57) hA dX5_still_56 0 rfl rfl ?_
            refine WO.goto (n := 69) hA dX5_still_57 (by decide) ?_
            exact WO.iret hA dX5_still_69
        · refine WO.bipush (x := (-9 : Int32)) (n := 39) hA dX5_still_37 (by decide) rfl ?_
          exact WO.iret hA dX5_still_39
    · refine WO.bipush (x := (-2 : Int32)) (n := 12) hA dX5_still_10 (by decide) rfl ?_
      exact WO.iret hA dX5_still_12
/- X5_hush -/
abbrev rmX5_hush : Room := { frames := 3, cells := 0, slots := 0, locals := 67 }
theorem mdX5_hush : yX5_hush.cls = RX5 ∧ yX5_hush.cls ≠ "java/lang/invoke/MethodHandle" ∧ yX5_hush.cls ≠ "java/lang/invoke/VarHandle" ∧ (parseMethodDescriptor yX5_hush.desc).map (fun d => d.parameters.length) = some 1 := by decide +kernel
theorem fkX5_hush_12 : Cond.fieldLink RX5 12 (TX5 0).1 (TX5 0).2.1 (TX5 0).2.2.1 ∈ wsX5_hush := by decide +kernel
theorem fiX5_hush_X5 : ∀ q ∈ u_ws RX5 TX5 10, q ∈ wsX5_hush := by decide +kernel
theorem fkX5_hush_89 : Cond.fieldLink RX5 89 (TX3 6).1 (TX3 6).2.1 (TX3 6).2.2.1 ∈ wsX5_hush := by decide +kernel
theorem fiX5_hush_X3 : ∀ q ∈ u_ws RX3 TX3 10, q ∈ wsX5_hush := by decide +kernel
theorem fkX5_hush_119 : Cond.fieldLink RX5 119 (TX3 3).1 (TX3 3).2.1 (TX3 3).2.2.1 ∈ wsX5_hush := by decide +kernel
theorem fkX5_hush_122 : Cond.fieldLink RX5 122 (TX3 4).1 (TX3 4).2.1 (TX3 4).2.2.1 ∈ wsX5_hush := by decide +kernel
noncomputable def f_X5_hush_L17 (x1 : Int32) (kx : Int32 → Mem → Option (Int32 × Mem)) : Nat → Int32 → Int32 → Mem → Option (Int32 × Mem)
  | 0, _, _, _ => none
  | n + 1, x2, x3, M => if (M 1 6) ≤ x3 then (kx x2 M) else (bd (f_X3_sound 1 x3 M) (fun r4 M3 => grd x3 4 (bd (f_X3_wakes 1 x1 r4 (M3 5 x3.toNatClampNeg) M3) (fun r6 M5 => if r6 = 0 then (f_X5_hush_L17 x1 kx n x2 (x3 + (1 : Int32)) M5) else (grd x3 4 (if (M5 6 x3.toNatClampNeg) = 0 then (bd (f_X3_soundIf 1 x3 (1 : Int32) M5) (fun r8 M7 => grd x3 4 (bd (f_X3_wakes 1 x1 r8 (M7 5 x3.toNatClampNeg) M7) (fun r10 M9 => if r10 = 0 then (ilt (x2 ||| ((1 : Int32) <<< (x3 &&& 31))) (fun x_11 => f_X5_hush_L17 x1 kx n x_11 (x3 + (1 : Int32)) M9)) else (some ((-9 : Int32), M9)))))) else (some ((-9 : Int32), M5))))))))
noncomputable def f_X5_hush (x1 : Int32) (M : Mem) : Option (Int32 × Mem) := bd (f_X3_hasHouse 1 x1 M) (fun r2 M1 => if r2 = 0 then (some ((-1 : Int32), M1)) else (f_X5_hush_L17 x1 (fun e12 M13 => some (e12, M13)) FU (0 : Int32) (0 : Int32) M1))
set_option maxHeartbeats 4000000 in
set_option maxRecDepth 100000 in
theorem w_X5_hush_L17 {v : Av} {w : Cw} (hw : w.2.2.2.2.2 = shX) (hA : Act v w RX5 wsX5_hush cX5_hush 4 (some .int)) (x1 : Int32) (kx : Int32 → Mem → Option (Int32 × Mem)) (hk : ∀ (y2 : Int32) (M : Mem), WO v w rmX5_hush 4 eI (kx y2 M) 112 [(2, .int y2)] [] M) : ∀ (n : Nat) (x2 : Int32) (x3 : Int32) (M : Mem), WO v w rmX5_hush 4 eI (f_X5_hush_L17 x1 kx n x2 x3 M) 17 [(0, .ref (w.2.1 0)), (1, .int x1), (2, .int x2), (3, .int x3)] [] M := by
  intro n
  induction n with
  | zero => intro x2 x3 M; exact WO.nothing
  | succ n ih =>
    intro x2 x3 M
    rw [f_X5_hush_L17]
    refine WO.iload_n (n := 18) hA dX5_hush_17 3 rfl rfl ?_
    refine WO.aload_n (n := 19) hA dX5_hush_18 0 rfl rfl ?_
    refine WO.getR (j := 0) (p := 1) (n := 22) hA (x_0 hw) rfl fiX5_hush_X5 (by decide) rfl fkX5_hush_12 dX5_hush_19 rfl ?_
    refine WO.getI (j := 6) (n := 25) hA (st_0 hw st1) rfl fiX5_hush_X3 (by decide) rfl fkX5_hush_89 dX5_hush_22 rfl ?_
    refine WO.icmp_ge (tg := 112) (n := 28) hA dX5_hush_25 (by decide) rfl (fun _ => ?_) (fun _ => ?_)
    · refine WO.sub (lv' := [(2, .int x2)]) [2] rfl ?_
      exact hk x2 M
    · refine WO.aload_n (n := 29) hA dX5_hush_28 0 rfl rfl ?_
      refine WO.getR (j := 0) (p := 1) (n := 32) hA (x_0 hw) rfl fiX5_hush_X5 (by decide) rfl fkX5_hush_12 dX5_hush_29 rfl ?_
      refine WO.iload_n (n := 33) hA dX5_hush_32 1 rfl rfl ?_
      refine WO.aload_n (n := 34) hA dX5_hush_33 0 rfl rfl ?_
      refine WO.getR (j := 0) (p := 1) (n := 37) hA (x_0 hw) rfl fiX5_hush_X5 (by decide) rfl fkX5_hush_12 dX5_hush_34 rfl ?_
      refine WO.iload_n (n := 38) hA dX5_hush_37 3 rfl rfl ?_
      refine WO.callVi (As := [.int x3]) (rest := [.int x1, .ref (w.2.1 1)]) (n := 41) hA (c_X3_sound v.2.1 w hw 1 x3 st1 M) gX5_hush_X3_sound rfl (st_0 hw st1) rfl mdX3_sound ⟨rfl, rfl, Nat.le_of_ble_eq_true rfl, Nat.le_of_ble_eq_true rfl⟩ rfl rfl (Nat.le_of_ble_eq_true rfl) dX5_hush_38 rfl (fun r4 M3 => ?_)
      refine WO.aload_n (n := 42) hA dX5_hush_41 0 rfl rfl ?_
      refine WO.getR (j := 0) (p := 1) (n := 45) hA (x_0 hw) rfl fiX5_hush_X5 (by decide) rfl fkX5_hush_12 dX5_hush_42 rfl ?_
      refine WO.getR (j := 3) (p := 5) (n := 48) hA (st_0 hw st1) rfl fiX5_hush_X3 (by decide) rfl fkX5_hush_119 dX5_hush_45 rfl ?_
      refine WO.iload_n (n := 49) hA dX5_hush_48 3 rfl rfl ?_
      refine WO.iald (n := 50) hA (st_4 hw st1) dX5_hush_49 rfl (fun _ => ?_)
      refine WO.callVi (As := [.int x1, .int r4, .int (M3 5 x3.toNatClampNeg)]) (rest := []) (n := 53) hA (c_X3_wakes v.2.1 w hw 1 x1 r4 (M3 5 x3.toNatClampNeg) st1 M3) gX5_hush_X3_wakes rfl (st_0 hw st1) rfl mdX3_wakes ⟨rfl, rfl, Nat.le_of_ble_eq_true rfl, Nat.le_of_ble_eq_true rfl⟩ rfl rfl (Nat.le_of_ble_eq_true rfl) dX5_hush_50 rfl (fun r6 M5 => ?_)
      refine WO.if_eq (tg := 106) (n := 56) hA dX5_hush_53 (by decide) rfl (fun _ => ?_) (fun _ => ?_)
      · refine WO.iinc (y := (1 : Int32)) (lv' := [(3, .int (x3 + (1 : Int32))), (0, .ref (w.2.1 0)), (1, .int x1), (2, .int x2)]) (n := 109) hA dX5_hush_106 3 rfl (by decide) (by decide) rfl rfl ?_
        refine WO.goto (n := 17) hA dX5_hush_109 (by decide) ?_
        refine WO.sub (lv' := [(0, .ref (w.2.1 0)), (1, .int x1), (2, .int x2), (3, .int (x3 + (1 : Int32)))]) [1, 2, 3, 0] rfl ?_
        exact ih x2 (x3 + (1 : Int32)) M5
      · refine WO.aload_n (n := 57) hA dX5_hush_56 0 rfl rfl ?_
        refine WO.getR (j := 0) (p := 1) (n := 60) hA (x_0 hw) rfl fiX5_hush_X5 (by decide) rfl fkX5_hush_12 dX5_hush_57 rfl ?_
        refine WO.getR (j := 4) (p := 6) (n := 63) hA (st_0 hw st1) rfl fiX5_hush_X3 (by decide) rfl fkX5_hush_122 dX5_hush_60 rfl ?_
        refine WO.iload_n (n := 64) hA dX5_hush_63 3 rfl rfl ?_
        refine WO.zald (n := 65) hA (st_5 hw st1) dX5_hush_64 rfl (fun _ => ?_)
        refine WO.if_ne (tg := 97) (n := 68) hA dX5_hush_65 (by decide) rfl (fun _ => ?_) (fun _ => ?_)
        · refine WO.aload_n (n := 69) hA dX5_hush_68 0 rfl rfl ?_
          refine WO.getR (j := 0) (p := 1) (n := 72) hA (x_0 hw) rfl fiX5_hush_X5 (by decide) rfl fkX5_hush_12 dX5_hush_69 rfl ?_
          refine WO.iload_n (n := 73) hA dX5_hush_72 1 rfl rfl ?_
          refine WO.aload_n (n := 74) hA dX5_hush_73 0 rfl rfl ?_
          refine WO.getR (j := 0) (p := 1) (n := 77) hA (x_0 hw) rfl fiX5_hush_X5 (by decide) rfl fkX5_hush_12 dX5_hush_74 rfl ?_
          refine WO.iload_n (n := 78) hA dX5_hush_77 3 rfl rfl ?_
          refine WO.iconst (x := (1 : Int32)) (n := 79) hA dX5_hush_78 (by decide) rfl ?_
          refine WO.callVi (As := [.int x3, .int (1 : Int32)]) (rest := [.int x1, .ref (w.2.1 1)]) (n := 82) hA (c_X3_soundIf v.2.1 w hw 1 x3 (1 : Int32) st1 M5) gX5_hush_X3_soundIf rfl (st_0 hw st1) rfl mdX3_soundIf ⟨rfl, rfl, Nat.le_of_ble_eq_true rfl, Nat.le_of_ble_eq_true rfl⟩ rfl rfl (Nat.le_of_ble_eq_true rfl) dX5_hush_79 rfl (fun r8 M7 => ?_)
          refine WO.aload_n (n := 83) hA dX5_hush_82 0 rfl rfl ?_
          refine WO.getR (j := 0) (p := 1) (n := 86) hA (x_0 hw) rfl fiX5_hush_X5 (by decide) rfl fkX5_hush_12 dX5_hush_83 rfl ?_
          refine WO.getR (j := 3) (p := 5) (n := 89) hA (st_0 hw st1) rfl fiX5_hush_X3 (by decide) rfl fkX5_hush_119 dX5_hush_86 rfl ?_
          refine WO.iload_n (n := 90) hA dX5_hush_89 3 rfl rfl ?_
          refine WO.iald (n := 91) hA (st_4 hw st1) dX5_hush_90 rfl (fun _ => ?_)
          refine WO.callVi (As := [.int x1, .int r8, .int (M7 5 x3.toNatClampNeg)]) (rest := []) (n := 94) hA (c_X3_wakes v.2.1 w hw 1 x1 r8 (M7 5 x3.toNatClampNeg) st1 M7) gX5_hush_X3_wakes rfl (st_0 hw st1) rfl mdX3_wakes ⟨rfl, rfl, Nat.le_of_ble_eq_true rfl, Nat.le_of_ble_eq_true rfl⟩ rfl rfl (Nat.le_of_ble_eq_true rfl) dX5_hush_91 rfl (fun r10 M9 => ?_)
          refine WO.if_eq (tg := 100) (n := 97) hA dX5_hush_94 (by decide) rfl (fun _ => ?_) (fun _ => ?_)
          · refine WO.iload_n (n := 101) hA dX5_hush_100 2 rfl rfl ?_
            refine WO.iconst (x := (1 : Int32)) (n := 102) hA dX5_hush_101 (by decide) rfl ?_
            refine WO.iload_n (n := 103) hA dX5_hush_102 3 rfl rfl ?_
            refine WO.ishl (n := 104) hA dX5_hush_103 rfl ?_
            refine WO.ior (n := 105) hA dX5_hush_104 rfl ?_
            refine WO.top (fun x_11 => ?_)
            refine WO.istore_n (i := 2) (lv' := [(2, .int x_11), (0, .ref (w.2.1 0)), (1, .int x1), (3, .int x3)]) (n := 106) hA dX5_hush_105 rfl (by decide) rfl rfl ?_
            refine WO.iinc (y := (1 : Int32)) (lv' := [(3, .int (x3 + (1 : Int32))), (2, .int x_11), (0, .ref (w.2.1 0)), (1, .int x1)]) (n := 109) hA dX5_hush_106 3 rfl (by decide) (by decide) rfl rfl ?_
            refine WO.goto (n := 17) hA dX5_hush_109 (by decide) ?_
            refine WO.sub (lv' := [(0, .ref (w.2.1 0)), (1, .int x1), (2, .int x_11), (3, .int (x3 + (1 : Int32)))]) [2, 3, 1, 0] rfl ?_
            exact ih x_11 (x3 + (1 : Int32)) M9
          · refine WO.bipush (x := (-9 : Int32)) (n := 99) hA dX5_hush_97 (by decide) rfl ?_
            exact WO.iret hA dX5_hush_99
        · refine WO.bipush (x := (-9 : Int32)) (n := 99) hA dX5_hush_97 (by decide) rfl ?_
          exact WO.iret hA dX5_hush_99
set_option maxHeartbeats 4000000 in
set_option maxRecDepth 100000 in
theorem c_X5_hush (l : Launch) (w : Cw) (hw : w.2.2.2.2.2 = shX) (x1 : Int32) (M : Mem) : Ok l w eI yX5_hush wsX5_hush rmX5_hush [.ref (w.2.1 0), .int x1] M (f_X5_hush x1 M) := by
  refine Ok.of (cc := cX5_hush) (nL := 4) (ret := (some .int)) (lv := [(0, .ref (w.2.1 0)), (1, .int x1)]) (by decide) rfl (Nat.le_of_ble_eq_true rfl) rfl (fun v hv hA => ?_)
  subst hv
  have hA : Act v w RX5 wsX5_hush cX5_hush 4 (some .int) := hA
  unfold f_X5_hush
  refine WO.aload_n (n := 1) hA dX5_hush_0 0 rfl rfl ?_
  refine WO.getR (j := 0) (p := 1) (n := 4) hA (x_0 hw) rfl fiX5_hush_X5 (by decide) rfl fkX5_hush_12 dX5_hush_1 rfl ?_
  refine WO.iload_n (n := 5) hA dX5_hush_4 1 rfl rfl ?_
  refine WO.callVi (As := [.int x1]) (rest := []) (n := 8) hA (c_X3_hasHouse v.2.1 w hw 1 x1 st1 M) gX5_hush_X3_hasHouse rfl (st_0 hw st1) rfl mdX3_hasHouse ⟨rfl, rfl, Nat.le_of_ble_eq_true rfl, Nat.le_of_ble_eq_true rfl⟩ rfl rfl (Nat.le_of_ble_eq_true rfl) dX5_hush_5 rfl (fun r2 M1 => ?_)
  refine WO.if_ne (tg := 13) (n := 11) hA dX5_hush_8 (by decide) rfl (fun _ => ?_) (fun _ => ?_)
  · refine WO.iconst (x := (-1 : Int32)) (n := 12) hA dX5_hush_11 (by decide) rfl ?_
    exact WO.iret hA dX5_hush_12
  · refine WO.iconst (x := (0 : Int32)) (n := 14) hA dX5_hush_13 (by decide) rfl ?_
    refine WO.istore_n (i := 2) (lv' := [(2, .int (0 : Int32)), (0, .ref (w.2.1 0)), (1, .int x1)]) (n := 15) hA dX5_hush_14 rfl (by decide) rfl rfl ?_
    refine WO.iconst (x := (0 : Int32)) (n := 16) hA dX5_hush_15 (by decide) rfl ?_
    refine WO.istore_n (i := 3) (lv' := [(3, .int (0 : Int32)), (2, .int (0 : Int32)), (0, .ref (w.2.1 0)), (1, .int x1)]) (n := 17) hA dX5_hush_16 rfl (by decide) rfl rfl ?_
    refine WO.sub (lv' := [(0, .ref (w.2.1 0)), (1, .int x1), (2, .int (0 : Int32)), (3, .int (0 : Int32))]) [2, 3, 1, 0] rfl ?_
    refine w_X5_hush_L17 hw hA x1 _ (fun e12 M13 => ?_) _ _ _ _
    refine WO.iload_n (n := 113) hA dX5_hush_112 0 rfl rfl ?_
    exact WO.iret hA dX5_hush_113
/- X5_reading -/
abbrev rmX5_reading : Room := { frames := 1, cells := 0, slots := 0, locals := 24 }
theorem mdX5_reading : yX5_reading.cls = RX5 ∧ yX5_reading.cls ≠ "java/lang/invoke/MethodHandle" ∧ yX5_reading.cls ≠ "java/lang/invoke/VarHandle" ∧ (parseMethodDescriptor yX5_reading.desc).map (fun d => d.parameters.length) = some 4 := by decide +kernel
theorem fkX5_reading_12 : Cond.fieldLink RX5 12 (TX5 0).1 (TX5 0).2.1 (TX5 0).2.2.1 ∈ wsX5_reading := by decide +kernel
theorem fiX5_reading_X5 : ∀ q ∈ u_ws RX5 TX5 10, q ∈ wsX5_reading := by decide +kernel
theorem fkX5_reading_31 : Cond.fieldLink RX5 31 (TX5 3).1 (TX5 3).2.1 (TX5 3).2.2.1 ∈ wsX5_reading := by decide +kernel
theorem fkX5_reading_86 : Cond.fieldLink RX5 86 (TX1 4).1 (TX1 4).2.1 (TX1 4).2.2.1 ∈ wsX5_reading := by decide +kernel
theorem fiX5_reading_X1 : ∀ q ∈ u_ws RX1 TX1 5, q ∈ wsX5_reading := by decide +kernel
noncomputable def f_X5_reading (x1 : Int32) (x2 : Int32) (x3 : Int32) (x4 : Int32) (M : Mem) : Option (Int32 × Mem) := bd (f_X3_hasClock 1 x1 M) (fun r2 M1 => if r2 = 0 then (some ((-1 : Int32), M1)) else (bd (f_X3_hasHouse 1 x2 M1) (fun r4 M3 => if r4 = 0 then (some ((-1 : Int32), M3)) else (bd (f_X3_hasHouse 1 x3 M3) (fun r6 M5 => if r6 = 0 then (some ((-1 : Int32), M5)) else (if x4 < 0 then (some ((-2 : Int32), M5)) else (if x4 ≤ (1 : Int32) then (if (M5 15 4) < (8 : Int32) then (if x4 = (1 : Int32) then (bd (f_X1_note x1 x2 x3 (1 : Int32) M5) (fun r8 M7 => some (r8, M7))) else (bd (f_X1_note x1 x2 x3 (0 : Int32) M5) (fun r10 M9 => some (r10, M9)))) else (some ((-4 : Int32), M5))) else (some ((-2 : Int32), M5)))))))))
set_option maxHeartbeats 4000000 in
set_option maxRecDepth 100000 in
theorem c_X5_reading (l : Launch) (w : Cw) (hw : w.2.2.2.2.2 = shX) (x1 : Int32) (x2 : Int32) (x3 : Int32) (x4 : Int32) (M : Mem) : Ok l w eI yX5_reading wsX5_reading rmX5_reading [.ref (w.2.1 0), .int x1, .int x2, .int x3, .int x4] M (f_X5_reading x1 x2 x3 x4 M) := by
  refine Ok.of (cc := cX5_reading) (nL := 5) (ret := (some .int)) (lv := [(0, .ref (w.2.1 0)), (1, .int x1), (2, .int x2), (3, .int x3), (4, .int x4)]) (by decide) rfl (Nat.le_of_ble_eq_true rfl) rfl (fun v hv hA => ?_)
  subst hv
  have hA : Act v w RX5 wsX5_reading cX5_reading 5 (some .int) := hA
  unfold f_X5_reading
  refine WO.aload_n (n := 1) hA dX5_reading_0 0 rfl rfl ?_
  refine WO.getR (j := 0) (p := 1) (n := 4) hA (x_0 hw) rfl fiX5_reading_X5 (by decide) rfl fkX5_reading_12 dX5_reading_1 rfl ?_
  refine WO.iload_n (n := 5) hA dX5_reading_4 1 rfl rfl ?_
  refine WO.callVi (As := [.int x1]) (rest := []) (n := 8) hA (c_X3_hasClock v.2.1 w hw 1 x1 st1 M) gX5_reading_X3_hasClock rfl (st_0 hw st1) rfl mdX3_hasClock ⟨rfl, rfl, Nat.le_of_ble_eq_true rfl, Nat.le_of_ble_eq_true rfl⟩ rfl rfl (Nat.le_of_ble_eq_true rfl) dX5_reading_5 rfl (fun r2 M1 => ?_)
  refine WO.if_eq (tg := 33) (n := 11) hA dX5_reading_8 (by decide) rfl (fun _ => ?_) (fun _ => ?_)
  · refine WO.iconst (x := (-1 : Int32)) (n := 34) hA dX5_reading_33 (by decide) rfl ?_
    exact WO.iret hA dX5_reading_34
  · refine WO.aload_n (n := 12) hA dX5_reading_11 0 rfl rfl ?_
    refine WO.getR (j := 0) (p := 1) (n := 15) hA (x_0 hw) rfl fiX5_reading_X5 (by decide) rfl fkX5_reading_12 dX5_reading_12 rfl ?_
    refine WO.iload_n (n := 16) hA dX5_reading_15 2 rfl rfl ?_
    refine WO.callVi (As := [.int x2]) (rest := []) (n := 19) hA (c_X3_hasHouse v.2.1 w hw 1 x2 st1 M1) gX5_reading_X3_hasHouse rfl (st_0 hw st1) rfl mdX3_hasHouse ⟨rfl, rfl, Nat.le_of_ble_eq_true rfl, Nat.le_of_ble_eq_true rfl⟩ rfl rfl (Nat.le_of_ble_eq_true rfl) dX5_reading_16 rfl (fun r4 M3 => ?_)
    refine WO.if_eq (tg := 33) (n := 22) hA dX5_reading_19 (by decide) rfl (fun _ => ?_) (fun _ => ?_)
    · refine WO.iconst (x := (-1 : Int32)) (n := 34) hA dX5_reading_33 (by decide) rfl ?_
      exact WO.iret hA dX5_reading_34
    · refine WO.aload_n (n := 23) hA dX5_reading_22 0 rfl rfl ?_
      refine WO.getR (j := 0) (p := 1) (n := 26) hA (x_0 hw) rfl fiX5_reading_X5 (by decide) rfl fkX5_reading_12 dX5_reading_23 rfl ?_
      refine WO.iload_n (n := 27) hA dX5_reading_26 3 rfl rfl ?_
      refine WO.callVi (As := [.int x3]) (rest := []) (n := 30) hA (c_X3_hasHouse v.2.1 w hw 1 x3 st1 M3) gX5_reading_X3_hasHouse rfl (st_0 hw st1) rfl mdX3_hasHouse ⟨rfl, rfl, Nat.le_of_ble_eq_true rfl, Nat.le_of_ble_eq_true rfl⟩ rfl rfl (Nat.le_of_ble_eq_true rfl) dX5_reading_27 rfl (fun r6 M5 => ?_)
      refine WO.if_ne (tg := 35) (n := 33) hA dX5_reading_30 (by decide) rfl (fun _ => ?_) (fun _ => ?_)
      · refine WO.iconst (x := (-1 : Int32)) (n := 34) hA dX5_reading_33 (by decide) rfl ?_
        exact WO.iret hA dX5_reading_34
      · refine WO.iload (n := 37) hA dX5_reading_35 4 rfl rfl ?_
        refine WO.if_lt (tg := 46) (n := 40) hA dX5_reading_37 (by decide) rfl (fun _ => ?_) (fun _ => ?_)
        · refine WO.bipush (x := (-2 : Int32)) (n := 48) hA dX5_reading_46 (by decide) rfl ?_
          exact WO.iret hA dX5_reading_48
        · refine WO.iload (n := 42) hA dX5_reading_40 4 rfl rfl ?_
          refine WO.iconst (x := (1 : Int32)) (n := 43) hA dX5_reading_42 (by decide) rfl ?_
          refine WO.icmp_le (tg := 49) (n := 46) hA dX5_reading_43 (by decide) rfl (fun _ => ?_) (fun _ => ?_)
          · refine WO.aload_n (n := 50) hA dX5_reading_49 0 rfl rfl ?_
            refine WO.getR (j := 3) (p := 15) (n := 53) hA (x_0 hw) rfl fiX5_reading_X5 (by decide) rfl fkX5_reading_31 dX5_reading_50 rfl ?_
            refine WO.getI (j := 4) (n := 56) hA (x_15 hw) rfl fiX5_reading_X1 (by decide) rfl fkX5_reading_86 dX5_reading_53 rfl ?_
            refine WO.bipush (x := (8 : Int32)) (n := 58) hA dX5_reading_56 (by decide) rfl ?_
            refine WO.icmp_lt (tg := 64) (n := 61) hA dX5_reading_58 (by decide) rfl (fun _ => ?_) (fun _ => ?_)
            · refine WO.aload_n (n := 65) hA dX5_reading_64 0 rfl rfl ?_
              refine WO.getR (j := 3) (p := 15) (n := 68) hA (x_0 hw) rfl fiX5_reading_X5 (by decide) rfl fkX5_reading_31 dX5_reading_65 rfl ?_
              refine WO.iload_n (n := 69) hA dX5_reading_68 1 rfl rfl ?_
              refine WO.iload_n (n := 70) hA dX5_reading_69 2 rfl rfl ?_
              refine WO.iload_n (n := 71) hA dX5_reading_70 3 rfl rfl ?_
              refine WO.iload (n := 73) hA dX5_reading_71 4 rfl rfl ?_
              refine WO.iconst (x := (1 : Int32)) (n := 74) hA dX5_reading_73 (by decide) rfl ?_
              refine WO.icmp_ne (tg := 81) (n := 77) hA dX5_reading_74 (by decide) rfl (fun _ => ?_) (fun _ => ?_)
              · refine WO.iconst (x := (1 : Int32)) (n := 78) hA dX5_reading_77 (by decide) rfl ?_
                refine WO.goto (n := 82) hA dX5_reading_78 (by decide) ?_
                refine WO.callVi (As := [.int x1, .int x2, .int x3, .int (1 : Int32)]) (rest := []) (n := 85) hA (c_X1_note v.2.1 w hw x1 x2 x3 (1 : Int32) M5) gX5_reading_X1_note rfl (x_15 hw) rfl mdX1_note ⟨rfl, rfl, Nat.le_of_ble_eq_true rfl, Nat.le_of_ble_eq_true rfl⟩ rfl rfl (Nat.le_of_ble_eq_true rfl) dX5_reading_82 rfl (fun r8 M7 => ?_)
                exact WO.iret hA dX5_reading_85
              · refine WO.iconst (x := (0 : Int32)) (n := 82) hA dX5_reading_81 (by decide) rfl ?_
                refine WO.callVi (As := [.int x1, .int x2, .int x3, .int (0 : Int32)]) (rest := []) (n := 85) hA (c_X1_note v.2.1 w hw x1 x2 x3 (0 : Int32) M5) gX5_reading_X1_note rfl (x_15 hw) rfl mdX1_note ⟨rfl, rfl, Nat.le_of_ble_eq_true rfl, Nat.le_of_ble_eq_true rfl⟩ rfl rfl (Nat.le_of_ble_eq_true rfl) dX5_reading_82 rfl (fun r10 M9 => ?_)
                exact WO.iret hA dX5_reading_85
            · refine WO.bipush (x := (-4 : Int32)) (n := 63) hA dX5_reading_61 (by decide) rfl ?_
              exact WO.iret hA dX5_reading_63
          · refine WO.bipush (x := (-2 : Int32)) (n := 48) hA dX5_reading_46 (by decide) rfl ?_
            exact WO.iret hA dX5_reading_48
/- X5_back -/
abbrev rmX5_back : Room := { frames := 0, cells := 0, slots := 0, locals := 0 }
theorem mdX5_back : yX5_back.cls = RX5 ∧ yX5_back.cls ≠ "java/lang/invoke/MethodHandle" ∧ yX5_back.cls ≠ "java/lang/invoke/VarHandle" ∧ (parseMethodDescriptor yX5_back.desc).map (fun d => d.parameters.length) = some 1 := by decide +kernel
theorem fkX5_back_31 : Cond.fieldLink RX5 31 (TX5 3).1 (TX5 3).2.1 (TX5 3).2.2.1 ∈ wsX5_back := by decide +kernel
theorem fiX5_back_X5 : ∀ q ∈ u_ws RX5 TX5 10, q ∈ wsX5_back := by decide +kernel
theorem fkX5_back_86 : Cond.fieldLink RX5 86 (TX1 4).1 (TX1 4).2.1 (TX1 4).2.2.1 ∈ wsX5_back := by decide +kernel
theorem fiX5_back_X1 : ∀ q ∈ u_ws RX1 TX1 5, q ∈ wsX5_back := by decide +kernel
noncomputable def f_X5_back (x1 : Int32) (M : Mem) : Option (Int32 × Mem) := if x1 < 0 then (some ((-2 : Int32), M)) else (if x1 ≤ (M 15 4) then (mlt (mu M 15 4 ((M 15 4) - x1)) (fun M1 => some ((M1 15 4), M1))) else (some ((-2 : Int32), M)))
set_option maxHeartbeats 4000000 in
set_option maxRecDepth 100000 in
theorem c_X5_back (l : Launch) (w : Cw) (hw : w.2.2.2.2.2 = shX) (x1 : Int32) (M : Mem) : Ok l w eI yX5_back wsX5_back rmX5_back [.ref (w.2.1 0), .int x1] M (f_X5_back x1 M) := by
  refine Ok.of (cc := cX5_back) (nL := 2) (ret := (some .int)) (lv := [(0, .ref (w.2.1 0)), (1, .int x1)]) (by decide) rfl (Nat.le_of_ble_eq_true rfl) rfl (fun v hv hA => ?_)
  subst hv
  have hA : Act v w RX5 wsX5_back cX5_back 2 (some .int) := hA
  unfold f_X5_back
  refine WO.iload_n (n := 1) hA dX5_back_0 1 rfl rfl ?_
  refine WO.if_lt (tg := 15) (n := 4) hA dX5_back_1 (by decide) rfl (fun _ => ?_) (fun _ => ?_)
  · refine WO.bipush (x := (-2 : Int32)) (n := 17) hA dX5_back_15 (by decide) rfl ?_
    exact WO.iret hA dX5_back_17
  · refine WO.iload_n (n := 5) hA dX5_back_4 1 rfl rfl ?_
    refine WO.aload_n (n := 6) hA dX5_back_5 0 rfl rfl ?_
    refine WO.getR (j := 3) (p := 15) (n := 9) hA (x_0 hw) rfl fiX5_back_X5 (by decide) rfl fkX5_back_31 dX5_back_6 rfl ?_
    refine WO.getI (j := 4) (n := 12) hA (x_15 hw) rfl fiX5_back_X1 (by decide) rfl fkX5_back_86 dX5_back_9 rfl ?_
    refine WO.icmp_le (tg := 18) (n := 15) hA dX5_back_12 (by decide) rfl (fun _ => ?_) (fun _ => ?_)
    · refine WO.aload_n (n := 19) hA dX5_back_18 0 rfl rfl ?_
      refine WO.getR (j := 3) (p := 15) (n := 22) hA (x_0 hw) rfl fiX5_back_X5 (by decide) rfl fkX5_back_31 dX5_back_19 rfl ?_
      refine WO.dup (n := 23) hA dX5_back_22 rfl rfl ?_
      refine WO.getI (j := 4) (n := 26) hA (x_15 hw) rfl fiX5_back_X1 (by decide) rfl fkX5_back_86 dX5_back_23 rfl ?_
      refine WO.iload_n (n := 27) hA dX5_back_26 1 rfl rfl ?_
      refine WO.isub (n := 28) hA dX5_back_27 rfl ?_
      refine WO.putI (j := 4) (n := 31) hA (x_15 hw) rfl fiX5_back_X1 tyX1 tyX1_ok nmX1 (by decide) rfl fkX5_back_86 rfl rfl rfl rfl dX5_back_28 rfl ?_
      refine WO.mem (fun M1 => ?_)
      refine WO.aload_n (n := 32) hA dX5_back_31 0 rfl rfl ?_
      refine WO.getR (j := 3) (p := 15) (n := 35) hA (x_0 hw) rfl fiX5_back_X5 (by decide) rfl fkX5_back_31 dX5_back_32 rfl ?_
      refine WO.getI (j := 4) (n := 38) hA (x_15 hw) rfl fiX5_back_X1 (by decide) rfl fkX5_back_86 dX5_back_35 rfl ?_
      exact WO.iret hA dX5_back_38
    · refine WO.bipush (x := (-2 : Int32)) (n := 17) hA dX5_back_15 (by decide) rfl ?_
      exact WO.iret hA dX5_back_17
/- X5_depths -/
abbrev rmX5_depths : Room := { frames := 4, cells := 0, slots := 0, locals := 90 }
theorem mdX5_depths : yX5_depths.cls = RX5 ∧ yX5_depths.cls ≠ "java/lang/invoke/MethodHandle" ∧ yX5_depths.cls ≠ "java/lang/invoke/VarHandle" ∧ (parseMethodDescriptor yX5_depths.desc).map (fun d => d.parameters.length) = some 1 := by decide +kernel
theorem fkX5_depths_12 : Cond.fieldLink RX5 12 (TX5 0).1 (TX5 0).2.1 (TX5 0).2.2.1 ∈ wsX5_depths := by decide +kernel
theorem fiX5_depths_X5 : ∀ q ∈ u_ws RX5 TX5 10, q ∈ wsX5_depths := by decide +kernel
theorem fkX5_depths_18 : Cond.fieldLink RX5 18 (TX5 1).1 (TX5 1).2.1 (TX5 1).2.2.1 ∈ wsX5_depths := by decide +kernel
theorem fkX5_depths_98 : Cond.fieldLink RX5 98 (TX3 1).1 (TX3 1).2.1 (TX3 1).2.2.1 ∈ wsX5_depths := by decide +kernel
theorem fiX5_depths_X3 : ∀ q ∈ u_ws RX3 TX3 10, q ∈ wsX5_depths := by decide +kernel
theorem fkX5_depths_31 : Cond.fieldLink RX5 31 (TX5 3).1 (TX5 3).2.1 (TX5 3).2.2.1 ∈ wsX5_depths := by decide +kernel
noncomputable def f_X5_depths_L28 (x1 : Int32) (kx : Int32 → Mem → Option (Int32 × Mem)) : Nat → Int32 → Int32 → Mem → Option (Int32 × Mem)
  | 0, _, _, _ => none
  | n + 1, x2, x3, M => if (9 : Int32) < x3 then (kx x2 M) else (grd x1 6 (mlt (mu M 9 x1.toNatClampNeg x3) (fun M4 => bd (f_X1_bitIfAllHold 7 x3 M4) (fun r6 M5 => ilt (x2 ||| r6) (fun x_7 => f_X5_depths_L28 x1 kx n x_7 (x3 + (1 : Int32)) M5)))))
noncomputable def f_X5_depths (x1 : Int32) (M : Mem) : Option (Int32 × Mem) := bd (f_X3_hasHouse 1 x1 M) (fun r2 M1 => if r2 = 0 then (some ((-1 : Int32), M1)) else (bd (f_X3_become 7 1 M1) (fun _ M3 => f_X5_depths_L28 x1 (fun e8 M9 => some (e8, M9)) FU (0 : Int32) (1 : Int32) M3)))
set_option maxHeartbeats 4000000 in
set_option maxRecDepth 100000 in
theorem w_X5_depths_L28 {v : Av} {w : Cw} (hw : w.2.2.2.2.2 = shX) (hA : Act v w RX5 wsX5_depths cX5_depths 4 (some .int)) (x1 : Int32) (kx : Int32 → Mem → Option (Int32 × Mem)) (hk : ∀ (y2 : Int32) (M : Mem), WO v w rmX5_depths 4 eI (kx y2 M) 65 [(2, .int y2)] [] M) : ∀ (n : Nat) (x2 : Int32) (x3 : Int32) (M : Mem), WO v w rmX5_depths 4 eI (f_X5_depths_L28 x1 kx n x2 x3 M) 28 [(0, .ref (w.2.1 0)), (1, .int x1), (2, .int x2), (3, .int x3)] [] M := by
  intro n
  induction n with
  | zero => intro x2 x3 M; exact WO.nothing
  | succ n ih =>
    intro x2 x3 M
    rw [f_X5_depths_L28]
    refine WO.iload_n (n := 29) hA dX5_depths_28 3 rfl rfl ?_
    refine WO.bipush (x := (9 : Int32)) (n := 31) hA dX5_depths_29 (by decide) rfl ?_
    refine WO.icmp_gt (tg := 65) (n := 34) hA dX5_depths_31 (by decide) rfl (fun _ => ?_) (fun _ => ?_)
    · refine WO.sub (lv' := [(2, .int x2)]) [2] rfl ?_
      exact hk x2 M
    · refine WO.aload_n (n := 35) hA dX5_depths_34 0 rfl rfl ?_
      refine WO.getR (j := 1) (p := 7) (n := 38) hA (x_0 hw) rfl fiX5_depths_X5 (by decide) rfl fkX5_depths_18 dX5_depths_35 rfl ?_
      refine WO.getR (j := 1) (p := 9) (n := 41) hA (st_0 hw st7) rfl fiX5_depths_X3 (by decide) rfl fkX5_depths_98 dX5_depths_38 rfl ?_
      refine WO.iload_n (n := 42) hA dX5_depths_41 1 rfl rfl ?_
      refine WO.iload_n (n := 43) hA dX5_depths_42 3 rfl rfl ?_
      refine WO.iast (n := 44) hA (st_2 hw st7) dX5_depths_43 rfl (fun _ => ?_)
      refine WO.mem (fun M4 => ?_)
      refine WO.iload_n (n := 45) hA dX5_depths_44 2 rfl rfl ?_
      refine WO.aload_n (n := 46) hA dX5_depths_45 0 rfl rfl ?_
      refine WO.getR (j := 3) (p := 15) (n := 49) hA (x_0 hw) rfl fiX5_depths_X5 (by decide) rfl fkX5_depths_31 dX5_depths_46 rfl ?_
      refine WO.aload_n (n := 50) hA dX5_depths_49 0 rfl rfl ?_
      refine WO.getR (j := 1) (p := 7) (n := 53) hA (x_0 hw) rfl fiX5_depths_X5 (by decide) rfl fkX5_depths_18 dX5_depths_50 rfl ?_
      refine WO.iload_n (n := 54) hA dX5_depths_53 3 rfl rfl ?_
      refine WO.callVi (As := [.ref (w.2.1 7), .int x3]) (rest := [.int x2]) (n := 57) hA (c_X1_bitIfAllHold v.2.1 w hw 7 x3 st7 M4) gX5_depths_X1_bitIfAllHold rfl (x_15 hw) rfl mdX1_bitIfAllHold ⟨rfl, rfl, Nat.le_of_ble_eq_true rfl, Nat.le_of_ble_eq_true rfl⟩ rfl rfl (Nat.le_of_ble_eq_true rfl) dX5_depths_54 rfl (fun r6 M5 => ?_)
      refine WO.ior (n := 58) hA dX5_depths_57 rfl ?_
      refine WO.top (fun x_7 => ?_)
      refine WO.istore_n (i := 2) (lv' := [(2, .int x_7), (0, .ref (w.2.1 0)), (1, .int x1), (3, .int x3)]) (n := 59) hA dX5_depths_58 rfl (by decide) rfl rfl ?_
      refine WO.iinc (y := (1 : Int32)) (lv' := [(3, .int (x3 + (1 : Int32))), (2, .int x_7), (0, .ref (w.2.1 0)), (1, .int x1)]) (n := 62) hA dX5_depths_59 3 rfl (by decide) (by decide) rfl rfl ?_
      refine WO.goto (n := 28) hA dX5_depths_62 (by decide) ?_
      refine WO.sub (lv' := [(0, .ref (w.2.1 0)), (1, .int x1), (2, .int x_7), (3, .int (x3 + (1 : Int32)))]) [2, 3, 1, 0] rfl ?_
      exact ih x_7 (x3 + (1 : Int32)) M5
set_option maxHeartbeats 4000000 in
set_option maxRecDepth 100000 in
theorem c_X5_depths (l : Launch) (w : Cw) (hw : w.2.2.2.2.2 = shX) (x1 : Int32) (M : Mem) : Ok l w eI yX5_depths wsX5_depths rmX5_depths [.ref (w.2.1 0), .int x1] M (f_X5_depths x1 M) := by
  refine Ok.of (cc := cX5_depths) (nL := 4) (ret := (some .int)) (lv := [(0, .ref (w.2.1 0)), (1, .int x1)]) (by decide) rfl (Nat.le_of_ble_eq_true rfl) rfl (fun v hv hA => ?_)
  subst hv
  have hA : Act v w RX5 wsX5_depths cX5_depths 4 (some .int) := hA
  unfold f_X5_depths
  refine WO.aload_n (n := 1) hA dX5_depths_0 0 rfl rfl ?_
  refine WO.getR (j := 0) (p := 1) (n := 4) hA (x_0 hw) rfl fiX5_depths_X5 (by decide) rfl fkX5_depths_12 dX5_depths_1 rfl ?_
  refine WO.iload_n (n := 5) hA dX5_depths_4 1 rfl rfl ?_
  refine WO.callVi (As := [.int x1]) (rest := []) (n := 8) hA (c_X3_hasHouse v.2.1 w hw 1 x1 st1 M) gX5_depths_X3_hasHouse rfl (st_0 hw st1) rfl mdX3_hasHouse ⟨rfl, rfl, Nat.le_of_ble_eq_true rfl, Nat.le_of_ble_eq_true rfl⟩ rfl rfl (Nat.le_of_ble_eq_true rfl) dX5_depths_5 rfl (fun r2 M1 => ?_)
  refine WO.if_ne (tg := 13) (n := 11) hA dX5_depths_8 (by decide) rfl (fun _ => ?_) (fun _ => ?_)
  · refine WO.iconst (x := (-1 : Int32)) (n := 12) hA dX5_depths_11 (by decide) rfl ?_
    exact WO.iret hA dX5_depths_12
  · refine WO.aload_n (n := 14) hA dX5_depths_13 0 rfl rfl ?_
    refine WO.getR (j := 1) (p := 7) (n := 17) hA (x_0 hw) rfl fiX5_depths_X5 (by decide) rfl fkX5_depths_18 dX5_depths_14 rfl ?_
    refine WO.aload_n (n := 18) hA dX5_depths_17 0 rfl rfl ?_
    refine WO.getR (j := 0) (p := 1) (n := 21) hA (x_0 hw) rfl fiX5_depths_X5 (by decide) rfl fkX5_depths_12 dX5_depths_18 rfl ?_
    refine WO.callVv (As := [.ref (w.2.1 1)]) (rest := []) (n := 24) hA (c_X3_become v.2.1 w hw 7 1 st7 st1 M1) gX5_depths_X3_become rfl (st_0 hw st7) rfl mdX3_become ⟨rfl, rfl, Nat.le_of_ble_eq_true rfl, Nat.le_of_ble_eq_true rfl⟩ rfl rfl (Nat.le_of_ble_eq_true rfl) dX5_depths_21 rfl (fun M3 => ?_)
    refine WO.iconst (x := (0 : Int32)) (n := 25) hA dX5_depths_24 (by decide) rfl ?_
    refine WO.istore_n (i := 2) (lv' := [(2, .int (0 : Int32)), (0, .ref (w.2.1 0)), (1, .int x1)]) (n := 26) hA dX5_depths_25 rfl (by decide) rfl rfl ?_
    refine WO.iconst (x := (1 : Int32)) (n := 27) hA dX5_depths_26 (by decide) rfl ?_
    refine WO.istore_n (i := 3) (lv' := [(3, .int (1 : Int32)), (2, .int (0 : Int32)), (0, .ref (w.2.1 0)), (1, .int x1)]) (n := 28) hA dX5_depths_27 rfl (by decide) rfl rfl ?_
    refine WO.sub (lv' := [(0, .ref (w.2.1 0)), (1, .int x1), (2, .int (0 : Int32)), (3, .int (1 : Int32))]) [2, 3, 1, 0] rfl ?_
    refine w_X5_depths_L28 hw hA x1 _ (fun e8 M9 => ?_) _ _ _ _
    refine WO.iload_n (n := 66) hA dX5_depths_65 0 rfl rfl ?_
    exact WO.iret hA dX5_depths_66
/- X5_kinds -/
abbrev rmX5_kinds : Room := { frames := 4, cells := 0, slots := 0, locals := 90 }
theorem mdX5_kinds : yX5_kinds.cls = RX5 ∧ yX5_kinds.cls ≠ "java/lang/invoke/MethodHandle" ∧ yX5_kinds.cls ≠ "java/lang/invoke/VarHandle" ∧ (parseMethodDescriptor yX5_kinds.desc).map (fun d => d.parameters.length) = some 1 := by decide +kernel
theorem fkX5_kinds_12 : Cond.fieldLink RX5 12 (TX5 0).1 (TX5 0).2.1 (TX5 0).2.2.1 ∈ wsX5_kinds := by decide +kernel
theorem fiX5_kinds_X5 : ∀ q ∈ u_ws RX5 TX5 10, q ∈ wsX5_kinds := by decide +kernel
theorem fkX5_kinds_18 : Cond.fieldLink RX5 18 (TX5 1).1 (TX5 1).2.1 (TX5 1).2.2.1 ∈ wsX5_kinds := by decide +kernel
theorem fkX5_kinds_95 : Cond.fieldLink RX5 95 (TX3 0).1 (TX3 0).2.1 (TX3 0).2.2.1 ∈ wsX5_kinds := by decide +kernel
theorem fiX5_kinds_X3 : ∀ q ∈ u_ws RX3 TX3 10, q ∈ wsX5_kinds := by decide +kernel
theorem fkX5_kinds_31 : Cond.fieldLink RX5 31 (TX5 3).1 (TX5 3).2.1 (TX5 3).2.2.1 ∈ wsX5_kinds := by decide +kernel
noncomputable def f_X5_kinds_L28 (x1 : Int32) (kx : Int32 → Mem → Option (Int32 × Mem)) : Nat → Int32 → Int32 → Mem → Option (Int32 × Mem)
  | 0, _, _, _ => none
  | n + 1, x2, x3, M => if (2 : Int32) < x3 then (kx x2 M) else (grd x1 6 (mlt (mu M 8 x1.toNatClampNeg x3) (fun M4 => bd (f_X1_bitIfAllHold 7 x3 M4) (fun r6 M5 => ilt (x2 ||| r6) (fun x_7 => f_X5_kinds_L28 x1 kx n x_7 (x3 + (1 : Int32)) M5)))))
noncomputable def f_X5_kinds (x1 : Int32) (M : Mem) : Option (Int32 × Mem) := bd (f_X3_hasHouse 1 x1 M) (fun r2 M1 => if r2 = 0 then (some ((-1 : Int32), M1)) else (bd (f_X3_become 7 1 M1) (fun _ M3 => f_X5_kinds_L28 x1 (fun e8 M9 => some (e8, M9)) FU (0 : Int32) (0 : Int32) M3)))
set_option maxHeartbeats 4000000 in
set_option maxRecDepth 100000 in
theorem w_X5_kinds_L28 {v : Av} {w : Cw} (hw : w.2.2.2.2.2 = shX) (hA : Act v w RX5 wsX5_kinds cX5_kinds 4 (some .int)) (x1 : Int32) (kx : Int32 → Mem → Option (Int32 × Mem)) (hk : ∀ (y2 : Int32) (M : Mem), WO v w rmX5_kinds 4 eI (kx y2 M) 64 [(2, .int y2)] [] M) : ∀ (n : Nat) (x2 : Int32) (x3 : Int32) (M : Mem), WO v w rmX5_kinds 4 eI (f_X5_kinds_L28 x1 kx n x2 x3 M) 28 [(0, .ref (w.2.1 0)), (1, .int x1), (2, .int x2), (3, .int x3)] [] M := by
  intro n
  induction n with
  | zero => intro x2 x3 M; exact WO.nothing
  | succ n ih =>
    intro x2 x3 M
    rw [f_X5_kinds_L28]
    refine WO.iload_n (n := 29) hA dX5_kinds_28 3 rfl rfl ?_
    refine WO.iconst (x := (2 : Int32)) (n := 30) hA dX5_kinds_29 (by decide) rfl ?_
    refine WO.icmp_gt (tg := 64) (n := 33) hA dX5_kinds_30 (by decide) rfl (fun _ => ?_) (fun _ => ?_)
    · refine WO.sub (lv' := [(2, .int x2)]) [2] rfl ?_
      exact hk x2 M
    · refine WO.aload_n (n := 34) hA dX5_kinds_33 0 rfl rfl ?_
      refine WO.getR (j := 1) (p := 7) (n := 37) hA (x_0 hw) rfl fiX5_kinds_X5 (by decide) rfl fkX5_kinds_18 dX5_kinds_34 rfl ?_
      refine WO.getR (j := 0) (p := 8) (n := 40) hA (st_0 hw st7) rfl fiX5_kinds_X3 (by decide) rfl fkX5_kinds_95 dX5_kinds_37 rfl ?_
      refine WO.iload_n (n := 41) hA dX5_kinds_40 1 rfl rfl ?_
      refine WO.iload_n (n := 42) hA dX5_kinds_41 3 rfl rfl ?_
      refine WO.iast (n := 43) hA (st_1 hw st7) dX5_kinds_42 rfl (fun _ => ?_)
      refine WO.mem (fun M4 => ?_)
      refine WO.iload_n (n := 44) hA dX5_kinds_43 2 rfl rfl ?_
      refine WO.aload_n (n := 45) hA dX5_kinds_44 0 rfl rfl ?_
      refine WO.getR (j := 3) (p := 15) (n := 48) hA (x_0 hw) rfl fiX5_kinds_X5 (by decide) rfl fkX5_kinds_31 dX5_kinds_45 rfl ?_
      refine WO.aload_n (n := 49) hA dX5_kinds_48 0 rfl rfl ?_
      refine WO.getR (j := 1) (p := 7) (n := 52) hA (x_0 hw) rfl fiX5_kinds_X5 (by decide) rfl fkX5_kinds_18 dX5_kinds_49 rfl ?_
      refine WO.iload_n (n := 53) hA dX5_kinds_52 3 rfl rfl ?_
      refine WO.callVi (As := [.ref (w.2.1 7), .int x3]) (rest := [.int x2]) (n := 56) hA (c_X1_bitIfAllHold v.2.1 w hw 7 x3 st7 M4) gX5_kinds_X1_bitIfAllHold rfl (x_15 hw) rfl mdX1_bitIfAllHold ⟨rfl, rfl, Nat.le_of_ble_eq_true rfl, Nat.le_of_ble_eq_true rfl⟩ rfl rfl (Nat.le_of_ble_eq_true rfl) dX5_kinds_53 rfl (fun r6 M5 => ?_)
      refine WO.ior (n := 57) hA dX5_kinds_56 rfl ?_
      refine WO.top (fun x_7 => ?_)
      refine WO.istore_n (i := 2) (lv' := [(2, .int x_7), (0, .ref (w.2.1 0)), (1, .int x1), (3, .int x3)]) (n := 58) hA dX5_kinds_57 rfl (by decide) rfl rfl ?_
      refine WO.iinc (y := (1 : Int32)) (lv' := [(3, .int (x3 + (1 : Int32))), (2, .int x_7), (0, .ref (w.2.1 0)), (1, .int x1)]) (n := 61) hA dX5_kinds_58 3 rfl (by decide) (by decide) rfl rfl ?_
      refine WO.goto (n := 28) hA dX5_kinds_61 (by decide) ?_
      refine WO.sub (lv' := [(0, .ref (w.2.1 0)), (1, .int x1), (2, .int x_7), (3, .int (x3 + (1 : Int32)))]) [2, 3, 1, 0] rfl ?_
      exact ih x_7 (x3 + (1 : Int32)) M5
set_option maxHeartbeats 4000000 in
set_option maxRecDepth 100000 in
theorem c_X5_kinds (l : Launch) (w : Cw) (hw : w.2.2.2.2.2 = shX) (x1 : Int32) (M : Mem) : Ok l w eI yX5_kinds wsX5_kinds rmX5_kinds [.ref (w.2.1 0), .int x1] M (f_X5_kinds x1 M) := by
  refine Ok.of (cc := cX5_kinds) (nL := 4) (ret := (some .int)) (lv := [(0, .ref (w.2.1 0)), (1, .int x1)]) (by decide) rfl (Nat.le_of_ble_eq_true rfl) rfl (fun v hv hA => ?_)
  subst hv
  have hA : Act v w RX5 wsX5_kinds cX5_kinds 4 (some .int) := hA
  unfold f_X5_kinds
  refine WO.aload_n (n := 1) hA dX5_kinds_0 0 rfl rfl ?_
  refine WO.getR (j := 0) (p := 1) (n := 4) hA (x_0 hw) rfl fiX5_kinds_X5 (by decide) rfl fkX5_kinds_12 dX5_kinds_1 rfl ?_
  refine WO.iload_n (n := 5) hA dX5_kinds_4 1 rfl rfl ?_
  refine WO.callVi (As := [.int x1]) (rest := []) (n := 8) hA (c_X3_hasHouse v.2.1 w hw 1 x1 st1 M) gX5_kinds_X3_hasHouse rfl (st_0 hw st1) rfl mdX3_hasHouse ⟨rfl, rfl, Nat.le_of_ble_eq_true rfl, Nat.le_of_ble_eq_true rfl⟩ rfl rfl (Nat.le_of_ble_eq_true rfl) dX5_kinds_5 rfl (fun r2 M1 => ?_)
  refine WO.if_ne (tg := 13) (n := 11) hA dX5_kinds_8 (by decide) rfl (fun _ => ?_) (fun _ => ?_)
  · refine WO.iconst (x := (-1 : Int32)) (n := 12) hA dX5_kinds_11 (by decide) rfl ?_
    exact WO.iret hA dX5_kinds_12
  · refine WO.aload_n (n := 14) hA dX5_kinds_13 0 rfl rfl ?_
    refine WO.getR (j := 1) (p := 7) (n := 17) hA (x_0 hw) rfl fiX5_kinds_X5 (by decide) rfl fkX5_kinds_18 dX5_kinds_14 rfl ?_
    refine WO.aload_n (n := 18) hA dX5_kinds_17 0 rfl rfl ?_
    refine WO.getR (j := 0) (p := 1) (n := 21) hA (x_0 hw) rfl fiX5_kinds_X5 (by decide) rfl fkX5_kinds_12 dX5_kinds_18 rfl ?_
    refine WO.callVv (As := [.ref (w.2.1 1)]) (rest := []) (n := 24) hA (c_X3_become v.2.1 w hw 7 1 st7 st1 M1) gX5_kinds_X3_become rfl (st_0 hw st7) rfl mdX3_become ⟨rfl, rfl, Nat.le_of_ble_eq_true rfl, Nat.le_of_ble_eq_true rfl⟩ rfl rfl (Nat.le_of_ble_eq_true rfl) dX5_kinds_21 rfl (fun M3 => ?_)
    refine WO.iconst (x := (0 : Int32)) (n := 25) hA dX5_kinds_24 (by decide) rfl ?_
    refine WO.istore_n (i := 2) (lv' := [(2, .int (0 : Int32)), (0, .ref (w.2.1 0)), (1, .int x1)]) (n := 26) hA dX5_kinds_25 rfl (by decide) rfl rfl ?_
    refine WO.iconst (x := (0 : Int32)) (n := 27) hA dX5_kinds_26 (by decide) rfl ?_
    refine WO.istore_n (i := 3) (lv' := [(3, .int (0 : Int32)), (2, .int (0 : Int32)), (0, .ref (w.2.1 0)), (1, .int x1)]) (n := 28) hA dX5_kinds_27 rfl (by decide) rfl rfl ?_
    refine WO.sub (lv' := [(0, .ref (w.2.1 0)), (1, .int x1), (2, .int (0 : Int32)), (3, .int (0 : Int32))]) [2, 3, 1, 0] rfl ?_
    refine w_X5_kinds_L28 hw hA x1 _ (fun e8 M9 => ?_) _ _ _ _
    refine WO.iload_n (n := 65) hA dX5_kinds_64 0 rfl rfl ?_
    exact WO.iret hA dX5_kinds_65
/- X5_louds -/
abbrev rmX5_louds : Room := { frames := 4, cells := 0, slots := 0, locals := 90 }
theorem mdX5_louds : yX5_louds.cls = RX5 ∧ yX5_louds.cls ≠ "java/lang/invoke/MethodHandle" ∧ yX5_louds.cls ≠ "java/lang/invoke/VarHandle" ∧ (parseMethodDescriptor yX5_louds.desc).map (fun d => d.parameters.length) = some 1 := by decide +kernel
theorem fkX5_louds_12 : Cond.fieldLink RX5 12 (TX5 0).1 (TX5 0).2.1 (TX5 0).2.2.1 ∈ wsX5_louds := by decide +kernel
theorem fiX5_louds_X5 : ∀ q ∈ u_ws RX5 TX5 10, q ∈ wsX5_louds := by decide +kernel
theorem fkX5_louds_18 : Cond.fieldLink RX5 18 (TX5 1).1 (TX5 1).2.1 (TX5 1).2.2.1 ∈ wsX5_louds := by decide +kernel
theorem fkX5_louds_113 : Cond.fieldLink RX5 113 (TX3 2).1 (TX3 2).2.1 (TX3 2).2.2.1 ∈ wsX5_louds := by decide +kernel
theorem fiX5_louds_X3 : ∀ q ∈ u_ws RX3 TX3 10, q ∈ wsX5_louds := by decide +kernel
theorem fkX5_louds_31 : Cond.fieldLink RX5 31 (TX5 3).1 (TX5 3).2.1 (TX5 3).2.2.1 ∈ wsX5_louds := by decide +kernel
noncomputable def f_X5_louds_L28 (x1 : Int32) (kx : Int32 → Mem → Option (Int32 × Mem)) : Nat → Int32 → Int32 → Mem → Option (Int32 × Mem)
  | 0, _, _, _ => none
  | n + 1, x2, x3, M => if (9 : Int32) < x3 then (kx x2 M) else (grd x1 4 (mlt (mu M 10 x1.toNatClampNeg x3) (fun M4 => bd (f_X1_bitIfAllHold 7 x3 M4) (fun r6 M5 => ilt (x2 ||| r6) (fun x_7 => f_X5_louds_L28 x1 kx n x_7 (x3 + (1 : Int32)) M5)))))
noncomputable def f_X5_louds (x1 : Int32) (M : Mem) : Option (Int32 × Mem) := bd (f_X3_hasClock 1 x1 M) (fun r2 M1 => if r2 = 0 then (some ((-1 : Int32), M1)) else (bd (f_X3_become 7 1 M1) (fun _ M3 => f_X5_louds_L28 x1 (fun e8 M9 => some (e8, M9)) FU (0 : Int32) (1 : Int32) M3)))
set_option maxHeartbeats 4000000 in
set_option maxRecDepth 100000 in
theorem w_X5_louds_L28 {v : Av} {w : Cw} (hw : w.2.2.2.2.2 = shX) (hA : Act v w RX5 wsX5_louds cX5_louds 4 (some .int)) (x1 : Int32) (kx : Int32 → Mem → Option (Int32 × Mem)) (hk : ∀ (y2 : Int32) (M : Mem), WO v w rmX5_louds 4 eI (kx y2 M) 65 [(2, .int y2)] [] M) : ∀ (n : Nat) (x2 : Int32) (x3 : Int32) (M : Mem), WO v w rmX5_louds 4 eI (f_X5_louds_L28 x1 kx n x2 x3 M) 28 [(0, .ref (w.2.1 0)), (1, .int x1), (2, .int x2), (3, .int x3)] [] M := by
  intro n
  induction n with
  | zero => intro x2 x3 M; exact WO.nothing
  | succ n ih =>
    intro x2 x3 M
    rw [f_X5_louds_L28]
    refine WO.iload_n (n := 29) hA dX5_louds_28 3 rfl rfl ?_
    refine WO.bipush (x := (9 : Int32)) (n := 31) hA dX5_louds_29 (by decide) rfl ?_
    refine WO.icmp_gt (tg := 65) (n := 34) hA dX5_louds_31 (by decide) rfl (fun _ => ?_) (fun _ => ?_)
    · refine WO.sub (lv' := [(2, .int x2)]) [2] rfl ?_
      exact hk x2 M
    · refine WO.aload_n (n := 35) hA dX5_louds_34 0 rfl rfl ?_
      refine WO.getR (j := 1) (p := 7) (n := 38) hA (x_0 hw) rfl fiX5_louds_X5 (by decide) rfl fkX5_louds_18 dX5_louds_35 rfl ?_
      refine WO.getR (j := 2) (p := 10) (n := 41) hA (st_0 hw st7) rfl fiX5_louds_X3 (by decide) rfl fkX5_louds_113 dX5_louds_38 rfl ?_
      refine WO.iload_n (n := 42) hA dX5_louds_41 1 rfl rfl ?_
      refine WO.iload_n (n := 43) hA dX5_louds_42 3 rfl rfl ?_
      refine WO.iast (n := 44) hA (st_3 hw st7) dX5_louds_43 rfl (fun _ => ?_)
      refine WO.mem (fun M4 => ?_)
      refine WO.iload_n (n := 45) hA dX5_louds_44 2 rfl rfl ?_
      refine WO.aload_n (n := 46) hA dX5_louds_45 0 rfl rfl ?_
      refine WO.getR (j := 3) (p := 15) (n := 49) hA (x_0 hw) rfl fiX5_louds_X5 (by decide) rfl fkX5_louds_31 dX5_louds_46 rfl ?_
      refine WO.aload_n (n := 50) hA dX5_louds_49 0 rfl rfl ?_
      refine WO.getR (j := 1) (p := 7) (n := 53) hA (x_0 hw) rfl fiX5_louds_X5 (by decide) rfl fkX5_louds_18 dX5_louds_50 rfl ?_
      refine WO.iload_n (n := 54) hA dX5_louds_53 3 rfl rfl ?_
      refine WO.callVi (As := [.ref (w.2.1 7), .int x3]) (rest := [.int x2]) (n := 57) hA (c_X1_bitIfAllHold v.2.1 w hw 7 x3 st7 M4) gX5_louds_X1_bitIfAllHold rfl (x_15 hw) rfl mdX1_bitIfAllHold ⟨rfl, rfl, Nat.le_of_ble_eq_true rfl, Nat.le_of_ble_eq_true rfl⟩ rfl rfl (Nat.le_of_ble_eq_true rfl) dX5_louds_54 rfl (fun r6 M5 => ?_)
      refine WO.ior (n := 58) hA dX5_louds_57 rfl ?_
      refine WO.top (fun x_7 => ?_)
      refine WO.istore_n (i := 2) (lv' := [(2, .int x_7), (0, .ref (w.2.1 0)), (1, .int x1), (3, .int x3)]) (n := 59) hA dX5_louds_58 rfl (by decide) rfl rfl ?_
      refine WO.iinc (y := (1 : Int32)) (lv' := [(3, .int (x3 + (1 : Int32))), (2, .int x_7), (0, .ref (w.2.1 0)), (1, .int x1)]) (n := 62) hA dX5_louds_59 3 rfl (by decide) (by decide) rfl rfl ?_
      refine WO.goto (n := 28) hA dX5_louds_62 (by decide) ?_
      refine WO.sub (lv' := [(0, .ref (w.2.1 0)), (1, .int x1), (2, .int x_7), (3, .int (x3 + (1 : Int32)))]) [2, 3, 1, 0] rfl ?_
      exact ih x_7 (x3 + (1 : Int32)) M5
set_option maxHeartbeats 4000000 in
set_option maxRecDepth 100000 in
theorem c_X5_louds (l : Launch) (w : Cw) (hw : w.2.2.2.2.2 = shX) (x1 : Int32) (M : Mem) : Ok l w eI yX5_louds wsX5_louds rmX5_louds [.ref (w.2.1 0), .int x1] M (f_X5_louds x1 M) := by
  refine Ok.of (cc := cX5_louds) (nL := 4) (ret := (some .int)) (lv := [(0, .ref (w.2.1 0)), (1, .int x1)]) (by decide) rfl (Nat.le_of_ble_eq_true rfl) rfl (fun v hv hA => ?_)
  subst hv
  have hA : Act v w RX5 wsX5_louds cX5_louds 4 (some .int) := hA
  unfold f_X5_louds
  refine WO.aload_n (n := 1) hA dX5_louds_0 0 rfl rfl ?_
  refine WO.getR (j := 0) (p := 1) (n := 4) hA (x_0 hw) rfl fiX5_louds_X5 (by decide) rfl fkX5_louds_12 dX5_louds_1 rfl ?_
  refine WO.iload_n (n := 5) hA dX5_louds_4 1 rfl rfl ?_
  refine WO.callVi (As := [.int x1]) (rest := []) (n := 8) hA (c_X3_hasClock v.2.1 w hw 1 x1 st1 M) gX5_louds_X3_hasClock rfl (st_0 hw st1) rfl mdX3_hasClock ⟨rfl, rfl, Nat.le_of_ble_eq_true rfl, Nat.le_of_ble_eq_true rfl⟩ rfl rfl (Nat.le_of_ble_eq_true rfl) dX5_louds_5 rfl (fun r2 M1 => ?_)
  refine WO.if_ne (tg := 13) (n := 11) hA dX5_louds_8 (by decide) rfl (fun _ => ?_) (fun _ => ?_)
  · refine WO.iconst (x := (-1 : Int32)) (n := 12) hA dX5_louds_11 (by decide) rfl ?_
    exact WO.iret hA dX5_louds_12
  · refine WO.aload_n (n := 14) hA dX5_louds_13 0 rfl rfl ?_
    refine WO.getR (j := 1) (p := 7) (n := 17) hA (x_0 hw) rfl fiX5_louds_X5 (by decide) rfl fkX5_louds_18 dX5_louds_14 rfl ?_
    refine WO.aload_n (n := 18) hA dX5_louds_17 0 rfl rfl ?_
    refine WO.getR (j := 0) (p := 1) (n := 21) hA (x_0 hw) rfl fiX5_louds_X5 (by decide) rfl fkX5_louds_12 dX5_louds_18 rfl ?_
    refine WO.callVv (As := [.ref (w.2.1 1)]) (rest := []) (n := 24) hA (c_X3_become v.2.1 w hw 7 1 st7 st1 M1) gX5_louds_X3_become rfl (st_0 hw st7) rfl mdX3_become ⟨rfl, rfl, Nat.le_of_ble_eq_true rfl, Nat.le_of_ble_eq_true rfl⟩ rfl rfl (Nat.le_of_ble_eq_true rfl) dX5_louds_21 rfl (fun M3 => ?_)
    refine WO.iconst (x := (0 : Int32)) (n := 25) hA dX5_louds_24 (by decide) rfl ?_
    refine WO.istore_n (i := 2) (lv' := [(2, .int (0 : Int32)), (0, .ref (w.2.1 0)), (1, .int x1)]) (n := 26) hA dX5_louds_25 rfl (by decide) rfl rfl ?_
    refine WO.iconst (x := (1 : Int32)) (n := 27) hA dX5_louds_26 (by decide) rfl ?_
    refine WO.istore_n (i := 3) (lv' := [(3, .int (1 : Int32)), (2, .int (0 : Int32)), (0, .ref (w.2.1 0)), (1, .int x1)]) (n := 28) hA dX5_louds_27 rfl (by decide) rfl rfl ?_
    refine WO.sub (lv' := [(0, .ref (w.2.1 0)), (1, .int x1), (2, .int (0 : Int32)), (3, .int (1 : Int32))]) [2, 3, 1, 0] rfl ?_
    refine w_X5_louds_L28 hw hA x1 _ (fun e8 M9 => ?_) _ _ _ _
    refine WO.iload_n (n := 66) hA dX5_louds_65 0 rfl rfl ?_
    exact WO.iret hA dX5_louds_66
/- X5_walls -/
abbrev rmX5_walls : Room := { frames := 4, cells := 0, slots := 0, locals := 90 }
theorem mdX5_walls : yX5_walls.cls = RX5 ∧ yX5_walls.cls ≠ "java/lang/invoke/MethodHandle" ∧ yX5_walls.cls ≠ "java/lang/invoke/VarHandle" ∧ (parseMethodDescriptor yX5_walls.desc).map (fun d => d.parameters.length) = some 0 := by decide +kernel
theorem fkX5_walls_12 : Cond.fieldLink RX5 12 (TX5 0).1 (TX5 0).2.1 (TX5 0).2.2.1 ∈ wsX5_walls := by decide +kernel
theorem fiX5_walls_X5 : ∀ q ∈ u_ws RX5 TX5 10, q ∈ wsX5_walls := by decide +kernel
theorem fkX5_walls_18 : Cond.fieldLink RX5 18 (TX5 1).1 (TX5 1).2.1 (TX5 1).2.2.1 ∈ wsX5_walls := by decide +kernel
theorem fkX5_walls_137 : Cond.fieldLink RX5 137 (TX3 7).1 (TX3 7).2.1 (TX3 7).2.2.1 ∈ wsX5_walls := by decide +kernel
theorem fiX5_walls_X3 : ∀ q ∈ u_ws RX3 TX3 10, q ∈ wsX5_walls := by decide +kernel
theorem fkX5_walls_31 : Cond.fieldLink RX5 31 (TX5 3).1 (TX5 3).2.1 (TX5 3).2.2.1 ∈ wsX5_walls := by decide +kernel
noncomputable def f_X5_walls_L28 (kx : Int32 → Mem → Option (Int32 × Mem)) : Nat → Int32 → Int32 → Mem → Option (Int32 × Mem)
  | 0, _, _, _ => none
  | n + 1, x1, x2, M => if (3 : Int32) < x2 then (kx x1 M) else (mlt (mu M 7 7 x2) (fun M4 => bd (f_X1_bitIfAllHold 7 x2 M4) (fun r6 M5 => ilt (x1 ||| r6) (fun x_7 => f_X5_walls_L28 kx n x_7 (x2 + (1 : Int32)) M5))))
noncomputable def f_X5_walls (M : Mem) : Option (Int32 × Mem) := bd (f_X3_stands 1 M) (fun r2 M1 => if r2 = 0 then (some ((-3 : Int32), M1)) else (bd (f_X3_become 7 1 M1) (fun _ M3 => f_X5_walls_L28 (fun e8 M9 => some (e8, M9)) FU (0 : Int32) (0 : Int32) M3)))
set_option maxHeartbeats 4000000 in
set_option maxRecDepth 100000 in
theorem w_X5_walls_L28 {v : Av} {w : Cw} (hw : w.2.2.2.2.2 = shX) (hA : Act v w RX5 wsX5_walls cX5_walls 3 (some .int)) (kx : Int32 → Mem → Option (Int32 × Mem)) (hk : ∀ (y1 : Int32) (M : Mem), WO v w rmX5_walls 3 eI (kx y1 M) 62 [(1, .int y1)] [] M) : ∀ (n : Nat) (x1 : Int32) (x2 : Int32) (M : Mem), WO v w rmX5_walls 3 eI (f_X5_walls_L28 kx n x1 x2 M) 28 [(0, .ref (w.2.1 0)), (1, .int x1), (2, .int x2)] [] M := by
  intro n
  induction n with
  | zero => intro x1 x2 M; exact WO.nothing
  | succ n ih =>
    intro x1 x2 M
    rw [f_X5_walls_L28]
    refine WO.iload_n (n := 29) hA dX5_walls_28 2 rfl rfl ?_
    refine WO.iconst (x := (3 : Int32)) (n := 30) hA dX5_walls_29 (by decide) rfl ?_
    refine WO.icmp_gt (tg := 62) (n := 33) hA dX5_walls_30 (by decide) rfl (fun _ => ?_) (fun _ => ?_)
    · refine WO.sub (lv' := [(1, .int x1)]) [1] rfl ?_
      exact hk x1 M
    · refine WO.aload_n (n := 34) hA dX5_walls_33 0 rfl rfl ?_
      refine WO.getR (j := 1) (p := 7) (n := 37) hA (x_0 hw) rfl fiX5_walls_X5 (by decide) rfl fkX5_walls_18 dX5_walls_34 rfl ?_
      refine WO.iload_n (n := 38) hA dX5_walls_37 2 rfl rfl ?_
      refine WO.putI (j := 7) (n := 41) hA (st_0 hw st7) rfl fiX5_walls_X3 tyX3 tyX3_ok nmX3 (by decide) rfl fkX5_walls_137 rfl rfl rfl rfl dX5_walls_38 rfl ?_
      refine WO.mem (fun M4 => ?_)
      refine WO.iload_n (n := 42) hA dX5_walls_41 1 rfl rfl ?_
      refine WO.aload_n (n := 43) hA dX5_walls_42 0 rfl rfl ?_
      refine WO.getR (j := 3) (p := 15) (n := 46) hA (x_0 hw) rfl fiX5_walls_X5 (by decide) rfl fkX5_walls_31 dX5_walls_43 rfl ?_
      refine WO.aload_n (n := 47) hA dX5_walls_46 0 rfl rfl ?_
      refine WO.getR (j := 1) (p := 7) (n := 50) hA (x_0 hw) rfl fiX5_walls_X5 (by decide) rfl fkX5_walls_18 dX5_walls_47 rfl ?_
      refine WO.iload_n (n := 51) hA dX5_walls_50 2 rfl rfl ?_
      refine WO.callVi (As := [.ref (w.2.1 7), .int x2]) (rest := [.int x1]) (n := 54) hA (c_X1_bitIfAllHold v.2.1 w hw 7 x2 st7 M4) gX5_walls_X1_bitIfAllHold rfl (x_15 hw) rfl mdX1_bitIfAllHold ⟨rfl, rfl, Nat.le_of_ble_eq_true rfl, Nat.le_of_ble_eq_true rfl⟩ rfl rfl (Nat.le_of_ble_eq_true rfl) dX5_walls_51 rfl (fun r6 M5 => ?_)
      refine WO.ior (n := 55) hA dX5_walls_54 rfl ?_
      refine WO.top (fun x_7 => ?_)
      refine WO.istore_n (i := 1) (lv' := [(1, .int x_7), (0, .ref (w.2.1 0)), (2, .int x2)]) (n := 56) hA dX5_walls_55 rfl (by decide) rfl rfl ?_
      refine WO.iinc (y := (1 : Int32)) (lv' := [(2, .int (x2 + (1 : Int32))), (1, .int x_7), (0, .ref (w.2.1 0))]) (n := 59) hA dX5_walls_56 2 rfl (by decide) (by decide) rfl rfl ?_
      refine WO.goto (n := 28) hA dX5_walls_59 (by decide) ?_
      refine WO.sub (lv' := [(0, .ref (w.2.1 0)), (1, .int x_7), (2, .int (x2 + (1 : Int32)))]) [2, 1, 0] rfl ?_
      exact ih x_7 (x2 + (1 : Int32)) M5
set_option maxHeartbeats 4000000 in
set_option maxRecDepth 100000 in
theorem c_X5_walls (l : Launch) (w : Cw) (hw : w.2.2.2.2.2 = shX) (M : Mem) : Ok l w eI yX5_walls wsX5_walls rmX5_walls [.ref (w.2.1 0)] M (f_X5_walls M) := by
  refine Ok.of (cc := cX5_walls) (nL := 3) (ret := (some .int)) (lv := [(0, .ref (w.2.1 0))]) (by decide) rfl (Nat.le_of_ble_eq_true rfl) rfl (fun v hv hA => ?_)
  subst hv
  have hA : Act v w RX5 wsX5_walls cX5_walls 3 (some .int) := hA
  unfold f_X5_walls
  refine WO.aload_n (n := 1) hA dX5_walls_0 0 rfl rfl ?_
  refine WO.getR (j := 0) (p := 1) (n := 4) hA (x_0 hw) rfl fiX5_walls_X5 (by decide) rfl fkX5_walls_12 dX5_walls_1 rfl ?_
  refine WO.callVi (As := []) (rest := []) (n := 7) hA (c_X3_stands v.2.1 w hw 1 st1 M) gX5_walls_X3_stands rfl (st_0 hw st1) rfl mdX3_stands ⟨rfl, rfl, Nat.le_of_ble_eq_true rfl, Nat.le_of_ble_eq_true rfl⟩ rfl rfl (Nat.le_of_ble_eq_true rfl) dX5_walls_4 rfl (fun r2 M1 => ?_)
  refine WO.if_ne (tg := 13) (n := 10) hA dX5_walls_7 (by decide) rfl (fun _ => ?_) (fun _ => ?_)
  · refine WO.bipush (x := (-3 : Int32)) (n := 12) hA dX5_walls_10 (by decide) rfl ?_
    exact WO.iret hA dX5_walls_12
  · refine WO.aload_n (n := 14) hA dX5_walls_13 0 rfl rfl ?_
    refine WO.getR (j := 1) (p := 7) (n := 17) hA (x_0 hw) rfl fiX5_walls_X5 (by decide) rfl fkX5_walls_18 dX5_walls_14 rfl ?_
    refine WO.aload_n (n := 18) hA dX5_walls_17 0 rfl rfl ?_
    refine WO.getR (j := 0) (p := 1) (n := 21) hA (x_0 hw) rfl fiX5_walls_X5 (by decide) rfl fkX5_walls_12 dX5_walls_18 rfl ?_
    refine WO.callVv (As := [.ref (w.2.1 1)]) (rest := []) (n := 24) hA (c_X3_become v.2.1 w hw 7 1 st7 st1 M1) gX5_walls_X3_become rfl (st_0 hw st7) rfl mdX3_become ⟨rfl, rfl, Nat.le_of_ble_eq_true rfl, Nat.le_of_ble_eq_true rfl⟩ rfl rfl (Nat.le_of_ble_eq_true rfl) dX5_walls_21 rfl (fun M3 => ?_)
    refine WO.iconst (x := (0 : Int32)) (n := 25) hA dX5_walls_24 (by decide) rfl ?_
    refine WO.istore_n (i := 1) (lv' := [(1, .int (0 : Int32)), (0, .ref (w.2.1 0))]) (n := 26) hA dX5_walls_25 rfl (by decide) rfl rfl ?_
    refine WO.iconst (x := (0 : Int32)) (n := 27) hA dX5_walls_26 (by decide) rfl ?_
    refine WO.istore_n (i := 2) (lv' := [(2, .int (0 : Int32)), (1, .int (0 : Int32)), (0, .ref (w.2.1 0))]) (n := 28) hA dX5_walls_27 rfl (by decide) rfl rfl ?_
    refine WO.sub (lv' := [(0, .ref (w.2.1 0)), (1, .int (0 : Int32)), (2, .int (0 : Int32))]) [2, 1, 0] rfl ?_
    refine w_X5_walls_L28 hw hA _ (fun e8 M9 => ?_) _ _ _ _
    refine WO.iload_n (n := 63) hA dX5_walls_62 0 rfl rfl ?_
    exact WO.iret hA dX5_walls_63
/- X5_commonDivisor -/
abbrev rmX5_commonDivisor : Room := { frames := 0, cells := 0, slots := 0, locals := 0 }
theorem mdX5_commonDivisor : yX5_commonDivisor.cls ≠ "java/lang/invoke/MethodHandle" ∧ yX5_commonDivisor.cls ≠ "java/lang/invoke/VarHandle" ∧ (parseMethodDescriptor yX5_commonDivisor.desc).map (fun d => d.parameters.length) = some 2 := by decide +kernel
noncomputable def f_X5_commonDivisor_L2 (x0 : Int32) (x1 : Int32) (kx : Mem → Option (Int32 × Mem)) : Nat → Int32 → Mem → Option (Int32 × Mem)
  | 0, _, _ => none
  | n + 1, x2, M => if x2 ≤ (1 : Int32) then (kx  M) else (dvc x2 (if (x0 - x0 / x2 * x2) = 0 then (dvc x2 (if (x1 - x1 / x2 * x2) = 0 then (some (x2, M)) else (f_X5_commonDivisor_L2 x0 x1 kx n (x2 + (-1 : Int32)) M))) else (f_X5_commonDivisor_L2 x0 x1 kx n (x2 + (-1 : Int32)) M)))
noncomputable def f_X5_commonDivisor (x0 : Int32) (x1 : Int32) (M : Mem) : Option (Int32 × Mem) := f_X5_commonDivisor_L2 x0 x1 (fun  M1 => some ((1 : Int32), M1)) FU x1 M
set_option maxHeartbeats 4000000 in
set_option maxRecDepth 100000 in
theorem w_X5_commonDivisor_L2 {v : Av} {w : Cw} (hw : w.2.2.2.2.2 = shX) (hA : Act v w RX5 wsX5_commonDivisor cX5_commonDivisor 3 (some .int)) (x0 : Int32) (x1 : Int32) (kx : Mem → Option (Int32 × Mem)) (hk : ∀ (M : Mem), WO v w rmX5_commonDivisor 3 eI (kx M) 27 [] [] M) : ∀ (n : Nat) (x2 : Int32) (M : Mem), WO v w rmX5_commonDivisor 3 eI (f_X5_commonDivisor_L2 x0 x1 kx n x2 M) 2 [(0, .int x0), (1, .int x1), (2, .int x2)] [] M := by
  intro n
  induction n with
  | zero => intro x2 M; exact WO.nothing
  | succ n ih =>
    intro x2 M
    rw [f_X5_commonDivisor_L2]
    refine WO.iload_n (n := 3) hA dX5_commonDivisor_2 2 rfl rfl ?_
    refine WO.iconst (x := (1 : Int32)) (n := 4) hA dX5_commonDivisor_3 (by decide) rfl ?_
    refine WO.icmp_le (tg := 27) (n := 7) hA dX5_commonDivisor_4 (by decide) rfl (fun _ => ?_) (fun _ => ?_)
    · refine WO.sub (lv' := []) [] rfl ?_
      exact hk  M
    · refine WO.iload_n (n := 8) hA dX5_commonDivisor_7 0 rfl rfl ?_
      refine WO.iload_n (n := 9) hA dX5_commonDivisor_8 2 rfl rfl ?_
      refine WO.irem (n := 10) hA dX5_commonDivisor_9 rfl ?_
      refine WO.if_ne (tg := 21) (n := 13) hA dX5_commonDivisor_10 (by decide) rfl (fun _ => ?_) (fun _ => ?_)
      · refine WO.iload_n (n := 14) hA dX5_commonDivisor_13 1 rfl rfl ?_
        refine WO.iload_n (n := 15) hA dX5_commonDivisor_14 2 rfl rfl ?_
        refine WO.irem (n := 16) hA dX5_commonDivisor_15 rfl ?_
        refine WO.if_ne (tg := 21) (n := 19) hA dX5_commonDivisor_16 (by decide) rfl (fun _ => ?_) (fun _ => ?_)
        · refine WO.iload_n (n := 20) hA dX5_commonDivisor_19 2 rfl rfl ?_
          exact WO.iret hA dX5_commonDivisor_20
        · refine WO.iinc (y := (-1 : Int32)) (lv' := [(2, .int (x2 + (-1 : Int32))), (0, .int x0), (1, .int x1)]) (n := 24) hA dX5_commonDivisor_21 2 rfl (by decide) (by decide) rfl rfl ?_
          refine WO.goto (n := 2) hA dX5_commonDivisor_24 (by decide) ?_
          refine WO.sub (lv' := [(0, .int x0), (1, .int x1), (2, .int (x2 + (-1 : Int32)))]) [1, 2, 0] rfl ?_
          exact ih (x2 + (-1 : Int32)) M
      · refine WO.iinc (y := (-1 : Int32)) (lv' := [(2, .int (x2 + (-1 : Int32))), (0, .int x0), (1, .int x1)]) (n := 24) hA dX5_commonDivisor_21 2 rfl (by decide) (by decide) rfl rfl ?_
        refine WO.goto (n := 2) hA dX5_commonDivisor_24 (by decide) ?_
        refine WO.sub (lv' := [(0, .int x0), (1, .int x1), (2, .int (x2 + (-1 : Int32)))]) [1, 2, 0] rfl ?_
        exact ih (x2 + (-1 : Int32)) M
set_option maxHeartbeats 4000000 in
set_option maxRecDepth 100000 in
theorem c_X5_commonDivisor (l : Launch) (w : Cw) (hw : w.2.2.2.2.2 = shX) (x0 : Int32) (x1 : Int32) (M : Mem) : Ok l w eI yX5_commonDivisor wsX5_commonDivisor rmX5_commonDivisor [.int x0, .int x1] M (f_X5_commonDivisor x0 x1 M) := by
  refine Ok.of (cc := cX5_commonDivisor) (nL := 3) (ret := (some .int)) (lv := [(0, .int x0), (1, .int x1)]) (by decide) rfl (Nat.le_of_ble_eq_true rfl) rfl (fun v hv hA => ?_)
  subst hv
  have hA : Act v w RX5 wsX5_commonDivisor cX5_commonDivisor 3 (some .int) := hA
  unfold f_X5_commonDivisor
  refine WO.iload_n (n := 1) hA dX5_commonDivisor_0 1 rfl rfl ?_
  refine WO.istore_n (i := 2) (lv' := [(2, .int x1), (0, .int x0), (1, .int x1)]) (n := 2) hA dX5_commonDivisor_1 rfl (by decide) rfl rfl ?_
  refine WO.sub (lv' := [(0, .int x0), (1, .int x1), (2, .int x1)]) [1, 2, 0] rfl ?_
  refine w_X5_commonDivisor_L2 hw hA x0 x1 _ (fun  M1 => ?_) _ _ _
  refine WO.iconst (x := (1 : Int32)) (n := 28) hA dX5_commonDivisor_27 (by decide) rfl ?_
  exact WO.iret hA dX5_commonDivisor_28
