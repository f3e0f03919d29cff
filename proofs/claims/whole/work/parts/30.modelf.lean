/- X6_settle -/
abbrev rmX6_settle : Room := { frames := 8, cells := 0, slots := 0, locals := 178 }
theorem mdX6_settle : yX6_settle.cls = RX6 ∧ yX6_settle.cls ≠ "java/lang/invoke/MethodHandle" ∧ yX6_settle.cls ≠ "java/lang/invoke/VarHandle" ∧ (parseMethodDescriptor yX6_settle.desc).map (fun d => d.parameters.length) = some 0 := by decide +kernel
theorem fkX6_settle_68 : Cond.fieldLink RX6 68 (TX6 6).1 (TX6 6).2.1 (TX6 6).2.2.1 ∈ wsX6_settle := by decide +kernel
theorem fiX6_settle_X6 : ∀ q ∈ u_ws RX6 TX6 30, q ∈ wsX6_settle := by decide +kernel
noncomputable def f_X6_settle_L19 (kx : Int32 → Mem → Option (Int32 × Mem)) : Nat → Int32 → Int32 → Mem → Option (Int32 × Mem)
  | 0, _, _, _ => none
  | n + 1, x1, x2, M => if (99 : Int32) < x2 then (kx x1 M) else (if x1 = (-9 : Int32) then (bd (f_X6_isSettled M) (fun r3 M2 => if r3 = 0 then (f_X6_settle_L19 kx n (-9 : Int32) (x2 + (1 : Int32)) M2) else (f_X6_settle_L19 kx n x2 (x2 + (1 : Int32)) M2))) else (kx x1 M))
noncomputable def f_X6_settle (M : Mem) : Option (Int32 × Mem) := if (M 0 6) = 0 then (some ((-3 : Int32), M)) else (bd (f_X6_keep M) (fun _ M1 => f_X6_settle_L19 (fun e4 M5 => bd (f_X6_putBack M5) (fun _ M6 => some (e4, M6))) FU (-9 : Int32) (0 : Int32) M1))
set_option maxHeartbeats 4000000 in
set_option maxRecDepth 100000 in
theorem w_X6_settle_L19 {v : Av} {w : Cw} (hw : w.2.2.2.2.2 = shM) (hA : Act v w RX6 wsX6_settle cX6_settle 3 (some .int)) (kx : Int32 → Mem → Option (Int32 × Mem)) (hk : ∀ (y1 : Int32) (M : Mem), WO v w rmX6_settle 3 eI (kx y1 M) 51 [(0, .ref (w.2.1 0)), (1, .int y1)] [] M) : ∀ (n : Nat) (x1 : Int32) (x2 : Int32) (M : Mem), WO v w rmX6_settle 3 eI (f_X6_settle_L19 kx n x1 x2 M) 19 [(0, .ref (w.2.1 0)), (1, .int x1), (2, .int x2)] [] M := by
  intro n
  induction n with
  | zero => intro x1 x2 M; exact WO.nothing
  | succ n ih =>
    intro x1 x2 M
    rw [f_X6_settle_L19]
    refine WO.iload_n (n := 20) hA dX6_settle_19 2 rfl rfl ?_
    refine WO.bipush (x := (99 : Int32)) (n := 22) hA dX6_settle_20 (by decide) rfl ?_
    refine WO.icmp_gt (tg := 51) (n := 25) hA dX6_settle_22 (by decide) rfl (fun _ => ?_) (fun _ => ?_)
    · refine WO.sub (lv' := [(0, .ref (w.2.1 0)), (1, .int x1)]) [0, 1] rfl ?_
      exact hk x1 M
    · refine WO.iload_n (n := 26) hA dX6_settle_25 1 rfl rfl ?_
      refine WO.bipush (x := (-9 : Int32)) (n := 28) hA dX6_settle_26 (by decide) rfl ?_
      refine WO.icmp_ne (tg := 51) (n := 31) hA dX6_settle_28 (by decide) rfl (fun _ => ?_) (fun _ => ?_)
      · refine WO.aload_n (n := 32) hA dX6_settle_31 0 rfl rfl ?_
        refine WO.callVi (As := []) (rest := []) (n := 35) hA (c_X6_isSettled v.2.1 w hw M) gX6_settle_X6_isSettled rfl (m_0 hw) rfl mdX6_isSettled ⟨rfl, rfl, Nat.le_of_ble_eq_true rfl, Nat.le_of_ble_eq_true rfl⟩ rfl rfl (Nat.le_of_ble_eq_true rfl) dX6_settle_32 rfl (fun r3 M2 => ?_)
        refine WO.if_eq (tg := 42) (n := 38) hA dX6_settle_35 (by decide) rfl (fun _ => ?_) (fun _ => ?_)
        · refine WO.bipush (x := (-9 : Int32)) (n := 44) hA dX6_settle_42 (by decide) rfl ?_
          refine WO.istore_n (i := 1) (lv' := [(1, .int (-9 : Int32)), (0, .ref (w.2.1 0)), (2, .int x2)]) (n := 45) hA dX6_settle_44 rfl (by decide) rfl rfl ?_
          refine WO.iinc (y := (1 : Int32)) (lv' := [(2, .int (x2 + (1 : Int32))), (1, .int (-9 : Int32)), (0, .ref (w.2.1 0))]) (n := 48) hA dX6_settle_45 2 rfl (by decide) (by decide) rfl rfl ?_
          refine WO.goto (n := 19) hA dX6_settle_48 (by decide) ?_
          refine WO.sub (lv' := [(0, .ref (w.2.1 0)), (1, .int (-9 : Int32)), (2, .int (x2 + (1 : Int32)))]) [2, 1, 0] rfl ?_
          exact ih (-9 : Int32) (x2 + (1 : Int32)) M2
        · refine WO.iload_n (n := 39) hA dX6_settle_38 2 rfl rfl ?_
          refine WO.goto (n := 44) hA dX6_settle_39 (by decide) ?_
          refine WO.istore_n (i := 1) (lv' := [(1, .int x2), (0, .ref (w.2.1 0)), (2, .int x2)]) (n := 45) hA dX6_settle_44 rfl (by decide) rfl rfl ?_
          refine WO.iinc (y := (1 : Int32)) (lv' := [(2, .int (x2 + (1 : Int32))), (1, .int x2), (0, .ref (w.2.1 0))]) (n := 48) hA dX6_settle_45 2 rfl (by decide) (by decide) rfl rfl ?_
          refine WO.goto (n := 19) hA dX6_settle_48 (by decide) ?_
          refine WO.sub (lv' := [(0, .ref (w.2.1 0)), (1, .int x2), (2, .int (x2 + (1 : Int32)))]) [2, 1, 0] rfl ?_
          exact ih x2 (x2 + (1 : Int32)) M2
      · refine WO.sub (lv' := [(0, .ref (w.2.1 0)), (1, .int x1)]) [0, 1] rfl ?_
        exact hk x1 M
set_option maxHeartbeats 4000000 in
set_option maxRecDepth 100000 in
theorem c_X6_settle (l : Launch) (w : Cw) (hw : w.2.2.2.2.2 = shM) (M : Mem) : Ok l w eI yX6_settle wsX6_settle rmX6_settle [.ref (w.2.1 0)] M (f_X6_settle M) := by
  refine Ok.of (cc := cX6_settle) (nL := 3) (ret := (some .int)) (lv := [(0, .ref (w.2.1 0))]) (by decide) rfl (Nat.le_of_ble_eq_true rfl) rfl (fun v hv hA => ?_)
  subst hv
  have hA : Act v w RX6 wsX6_settle cX6_settle 3 (some .int) := hA
  unfold f_X6_settle
  refine WO.aload_n (n := 1) hA dX6_settle_0 0 rfl rfl ?_
  refine WO.getI (j := 6) (n := 4) hA (m_0 hw) rfl fiX6_settle_X6 (by decide) rfl fkX6_settle_68 dX6_settle_1 rfl ?_
  refine WO.if_ne (tg := 10) (n := 7) hA dX6_settle_4 (by decide) rfl (fun _ => ?_) (fun _ => ?_)
  · refine WO.bipush (x := (-3 : Int32)) (n := 9) hA dX6_settle_7 (by decide) rfl ?_
    exact WO.iret hA dX6_settle_9
  · refine WO.aload_n (n := 11) hA dX6_settle_10 0 rfl rfl ?_
    refine WO.callVv (As := []) (rest := []) (n := 14) hA (c_X6_keep v.2.1 w hw M) gX6_settle_X6_keep rfl (m_0 hw) rfl mdX6_keep ⟨rfl, rfl, Nat.le_of_ble_eq_true rfl, Nat.le_of_ble_eq_true rfl⟩ rfl rfl (Nat.le_of_ble_eq_true rfl) dX6_settle_11 rfl (fun M1 => ?_)
    refine WO.bipush (x := (-9 : Int32)) (n := 16) hA dX6_settle_14 (by decide) rfl ?_
    refine WO.istore_n (i := 1) (lv' := [(1, .int (-9 : Int32)), (0, .ref (w.2.1 0))]) (n := 17) hA dX6_settle_16 rfl (by decide) rfl rfl ?_
    refine WO.iconst (x := (0 : Int32)) (n := 18) hA dX6_settle_17 (by decide) rfl ?_
    refine WO.istore_n (i := 2) (lv' := [(2, .int (0 : Int32)), (1, .int (-9 : Int32)), (0, .ref (w.2.1 0))]) (n := 19) hA dX6_settle_18 rfl (by decide) rfl rfl ?_
    refine WO.sub (lv' := [(0, .ref (w.2.1 0)), (1, .int (-9 : Int32)), (2, .int (0 : Int32))]) [2, 1, 0] rfl ?_
    refine w_X6_settle_L19 hw hA _ (fun e4 M5 => ?_) _ _ _ _
    refine WO.aload_n (n := 52) hA dX6_settle_51 0 rfl rfl ?_
    refine WO.callVv (As := []) (rest := []) (n := 55) hA (c_X6_putBack v.2.1 w hw M5) gX6_settle_X6_putBack rfl (m_0 hw) rfl mdX6_putBack ⟨rfl, rfl, Nat.le_of_ble_eq_true rfl, Nat.le_of_ble_eq_true rfl⟩ rfl rfl (Nat.le_of_ble_eq_true rfl) dX6_settle_52 rfl (fun M6 => ?_)
    refine WO.iload_n (n := 56) hA dX6_settle_55 1 rfl rfl ?_
    exact WO.iret hA dX6_settle_56
/- X6_wakersBy -/
abbrev rmX6_wakersBy : Room := { frames := 5, cells := 0, slots := 0, locals := 113 }
theorem mdX6_wakersBy : yX6_wakersBy.cls = RX6 ∧ yX6_wakersBy.cls ≠ "java/lang/invoke/MethodHandle" ∧ yX6_wakersBy.cls ≠ "java/lang/invoke/VarHandle" ∧ (parseMethodDescriptor yX6_wakersBy.desc).map (fun d => d.parameters.length) = some 1 := by decide +kernel
theorem fkX6_wakersBy_71 : Cond.fieldLink RX6 71 (TX6 7).1 (TX6 7).2.1 (TX6 7).2.2.1 ∈ wsX6_wakersBy := by decide +kernel
theorem fiX6_wakersBy_X6 : ∀ q ∈ u_ws RX6 TX6 30, q ∈ wsX6_wakersBy := by decide +kernel
theorem fkX6_wakersBy_43 : Cond.fieldLink RX6 43 (TX6 24).1 (TX6 24).2.1 (TX6 24).2.2.1 ∈ wsX6_wakersBy := by decide +kernel
theorem fkX6_wakersBy_68 : Cond.fieldLink RX6 68 (TX6 6).1 (TX6 6).2.1 (TX6 6).2.2.1 ∈ wsX6_wakersBy := by decide +kernel
noncomputable def f_X6_wakersBy_L12 (kx : Int32 → Mem → Option (Int32 × Mem)) : Nat → Int32 → Int32 → Int32 → Mem → Option (Int32 × Mem)
  | 0, _, _, _, _ => none
  | n + 1, x2, x3, x4, M => if x4 < 0 then (kx x3 M) else (dvc (M 0 6) (grd x4 4 (mlt (mu M 12 x4.toNatClampNeg (x2 - x2 / (M 0 6) * (M 0 6))) (fun M2 => dvc (M2 0 6) (ilt (x2 / (M2 0 6)) (fun x_3 => grd x4 4 (bd (f_X6_wakersOf x4 (M2 12 x4.toNatClampNeg) M2) (fun r5 M4 => ilt (x3 ||| r5) (fun x_6 => f_X6_wakersBy_L12 kx n x_3 x_6 (x4 + (-1 : Int32)) M4)))))))))
noncomputable def f_X6_wakersBy (x1 : Int32) (M : Mem) : Option (Int32 × Mem) := ilt ((M 0 7) - (1 : Int32)) (fun x_1 => f_X6_wakersBy_L12 (fun e7 M8 => some (e7, M8)) FU x1 (0 : Int32) x_1 M)
set_option maxHeartbeats 4000000 in
set_option maxRecDepth 100000 in
theorem w_X6_wakersBy_L12 {v : Av} {w : Cw} (hw : w.2.2.2.2.2 = shM) (hA : Act v w RX6 wsX6_wakersBy cX6_wakersBy 5 (some .int)) (kx : Int32 → Mem → Option (Int32 × Mem)) (hk : ∀ (y3 : Int32) (M : Mem), WO v w rmX6_wakersBy 5 eI (kx y3 M) 59 [(3, .int y3)] [] M) : ∀ (n : Nat) (x2 : Int32) (x3 : Int32) (x4 : Int32) (M : Mem), WO v w rmX6_wakersBy 5 eI (f_X6_wakersBy_L12 kx n x2 x3 x4 M) 12 [(0, .ref (w.2.1 0)), (2, .int x2), (3, .int x3), (4, .int x4)] [] M := by
  intro n
  induction n with
  | zero => intro x2 x3 x4 M; exact WO.nothing
  | succ n ih =>
    intro x2 x3 x4 M
    rw [f_X6_wakersBy_L12]
    refine WO.iload (n := 14) hA dX6_wakersBy_12 3 rfl rfl ?_
    refine WO.if_lt (tg := 59) (n := 17) hA dX6_wakersBy_14 (by decide) rfl (fun _ => ?_) (fun _ => ?_)
    · refine WO.sub (lv' := [(3, .int x3)]) [2] rfl ?_
      exact hk x3 M
    · refine WO.aload_n (n := 18) hA dX6_wakersBy_17 0 rfl rfl ?_
      refine WO.getR (j := 24) (p := 12) (n := 21) hA (m_0 hw) rfl fiX6_wakersBy_X6 (by decide) rfl fkX6_wakersBy_43 dX6_wakersBy_18 rfl ?_
      refine WO.iload (n := 23) hA dX6_wakersBy_21 3 rfl rfl ?_
      refine WO.iload_n (n := 24) hA dX6_wakersBy_23 1 rfl rfl ?_
      refine WO.aload_n (n := 25) hA dX6_wakersBy_24 0 rfl rfl ?_
      refine WO.getI (j := 6) (n := 28) hA (m_0 hw) rfl fiX6_wakersBy_X6 (by decide) rfl fkX6_wakersBy_68 dX6_wakersBy_25 rfl ?_
      refine WO.irem (n := 29) hA dX6_wakersBy_28 rfl ?_
      refine WO.iast (n := 30) hA (m_12 hw) dX6_wakersBy_29 rfl (fun _ => ?_)
      refine WO.mem (fun M2 => ?_)
      refine WO.iload_n (n := 31) hA dX6_wakersBy_30 1 rfl rfl ?_
      refine WO.aload_n (n := 32) hA dX6_wakersBy_31 0 rfl rfl ?_
      refine WO.getI (j := 6) (n := 35) hA (m_0 hw) rfl fiX6_wakersBy_X6 (by decide) rfl fkX6_wakersBy_68 dX6_wakersBy_32 rfl ?_
      refine WO.idiv (n := 36) hA dX6_wakersBy_35 rfl ?_
      refine WO.top (fun x_3 => ?_)
      refine WO.istore_n (i := 2) (lv' := [(2, .int x_3), (0, .ref (w.2.1 0)), (3, .int x3), (4, .int x4)]) (n := 37) hA dX6_wakersBy_36 rfl (by decide) rfl rfl ?_
      refine WO.iload_n (n := 38) hA dX6_wakersBy_37 2 rfl rfl ?_
      refine WO.aload_n (n := 39) hA dX6_wakersBy_38 1 rfl rfl ?_
      refine WO.iload (n := 41) hA dX6_wakersBy_39 3 rfl rfl ?_
      refine WO.aload_n (n := 42) hA dX6_wakersBy_41 1 rfl rfl ?_
      refine WO.getR (j := 24) (p := 12) (n := 45) hA (m_0 hw) rfl fiX6_wakersBy_X6 (by decide) rfl fkX6_wakersBy_43 dX6_wakersBy_42 rfl ?_
      refine WO.iload (n := 47) hA dX6_wakersBy_45 3 rfl rfl ?_
      refine WO.iald (n := 48) hA (m_12 hw) dX6_wakersBy_47 rfl (fun _ => ?_)
      refine WO.callVi (As := [.int x4, .int (M2 12 x4.toNatClampNeg)]) (rest := [.int x3]) (n := 51) hA (c_X6_wakersOf v.2.1 w hw x4 (M2 12 x4.toNatClampNeg) M2) gX6_wakersBy_X6_wakersOf rfl (m_0 hw) rfl mdX6_wakersOf ⟨rfl, rfl, Nat.le_of_ble_eq_true rfl, Nat.le_of_ble_eq_true rfl⟩ rfl rfl (Nat.le_of_ble_eq_true rfl) dX6_wakersBy_48 rfl (fun r5 M4 => ?_)
      refine WO.ior (n := 52) hA dX6_wakersBy_51 rfl ?_
      refine WO.top (fun x_6 => ?_)
      refine WO.istore_n (i := 3) (lv' := [(3, .int x_6), (2, .int x_3), (0, .ref (w.2.1 0)), (4, .int x4)]) (n := 53) hA dX6_wakersBy_52 rfl (by decide) rfl rfl ?_
      refine WO.iinc (y := (-1 : Int32)) (lv' := [(4, .int (x4 + (-1 : Int32))), (3, .int x_6), (2, .int x_3), (0, .ref (w.2.1 0))]) (n := 56) hA dX6_wakersBy_53 3 rfl (by decide) (by decide) rfl rfl ?_
      refine WO.goto (n := 12) hA dX6_wakersBy_56 (by decide) ?_
      refine WO.sub (lv' := [(0, .ref (w.2.1 0)), (2, .int x_3), (3, .int x_6), (4, .int (x4 + (-1 : Int32)))]) [3, 2, 1, 0] rfl ?_
      exact ih x_3 x_6 (x4 + (-1 : Int32)) M4
set_option maxHeartbeats 4000000 in
set_option maxRecDepth 100000 in
theorem c_X6_wakersBy (l : Launch) (w : Cw) (hw : w.2.2.2.2.2 = shM) (x1 : Int32) (M : Mem) : Ok l w eI yX6_wakersBy wsX6_wakersBy rmX6_wakersBy [.ref (w.2.1 0), .int x1] M (f_X6_wakersBy x1 M) := by
  refine Ok.of (cc := cX6_wakersBy) (nL := 5) (ret := (some .int)) (lv := [(0, .ref (w.2.1 0)), (1, .int x1)]) (by decide) rfl (Nat.le_of_ble_eq_true rfl) rfl (fun v hv hA => ?_)
  subst hv
  have hA : Act v w RX6 wsX6_wakersBy cX6_wakersBy 5 (some .int) := hA
  unfold f_X6_wakersBy
  refine WO.iload_n (n := 1) hA dX6_wakersBy_0 1 rfl rfl ?_
  refine WO.istore_n (i := 2) (lv' := [(2, .int x1), (0, .ref (w.2.1 0)), (1, .int x1)]) (n := 2) hA dX6_wakersBy_1 rfl (by decide) rfl rfl ?_
  refine WO.iconst (x := (0 : Int32)) (n := 3) hA dX6_wakersBy_2 (by decide) rfl ?_
  refine WO.istore_n (i := 3) (lv' := [(3, .int (0 : Int32)), (2, .int x1), (0, .ref (w.2.1 0)), (1, .int x1)]) (n := 4) hA dX6_wakersBy_3 rfl (by decide) rfl rfl ?_
  refine WO.aload_n (n := 5) hA dX6_wakersBy_4 2 rfl rfl ?_
  refine WO.getI (j := 7) (n := 8) hA (m_0 hw) rfl fiX6_wakersBy_X6 (by decide) rfl fkX6_wakersBy_71 dX6_wakersBy_5 rfl ?_
  refine WO.iconst (x := (1 : Int32)) (n := 9) hA dX6_wakersBy_8 (by decide) rfl ?_
  refine WO.isub (n := 10) hA dX6_wakersBy_9 rfl ?_
  refine WO.top (fun x_1 => ?_)
  refine WO.istore (lv' := [(4, .int x_1), (3, .int (0 : Int32)), (2, .int x1), (0, .ref (w.2.1 0)), (1, .int x1)]) (n := 12) hA dX6_wakersBy_10 (by decide) rfl rfl ?_
  refine WO.sub (lv' := [(0, .ref (w.2.1 0)), (2, .int x1), (3, .int (0 : Int32)), (4, .int x_1)]) [3, 2, 1, 0] rfl ?_
  refine w_X6_wakersBy_L12 hw hA _ (fun e7 M8 => ?_) _ _ _ _ _
  refine WO.iload_n (n := 60) hA dX6_wakersBy_59 0 rfl rfl ?_
  exact WO.iret hA dX6_wakersBy_60
/- X6_still -/
abbrev rmX6_still : Room := { frames := 6, cells := 0, slots := 0, locals := 137 }
theorem mdX6_still : yX6_still.cls = RX6 ∧ yX6_still.cls ≠ "java/lang/invoke/MethodHandle" ∧ yX6_still.cls ≠ "java/lang/invoke/VarHandle" ∧ (parseMethodDescriptor yX6_still.desc).map (fun d => d.parameters.length) = some 1 := by decide +kernel
theorem fkX6_still_68 : Cond.fieldLink RX6 68 (TX6 6).1 (TX6 6).2.1 (TX6 6).2.2.1 ∈ wsX6_still := by decide +kernel
theorem fiX6_still_X6 : ∀ q ∈ u_ws RX6 TX6 30, q ∈ wsX6_still := by decide +kernel
theorem fkX6_still_71 : Cond.fieldLink RX6 71 (TX6 7).1 (TX6 7).2.1 (TX6 7).2.2.1 ∈ wsX6_still := by decide +kernel
theorem fkX6_still_43 : Cond.fieldLink RX6 43 (TX6 24).1 (TX6 24).2.1 (TX6 24).2.2.1 ∈ wsX6_still := by decide +kernel
noncomputable def f_X6_still_L26 (x1 : Int32) (kx : Int32 → Mem → Option (Int32 × Mem)) : Nat → Int32 → Int32 → Mem → Option (Int32 × Mem)
  | 0, _, _, _ => none
  | n + 1, x2, x3, M => if (M 0 7) ≤ x3 then (kx x2 M) else (ilt (x2 * (M 0 6)) (fun x_3 => f_X6_still_L26 x1 kx n x_3 (x3 + (1 : Int32)) M))
noncomputable def f_X6_still_L56 (x1 : Int32) (x2 : Int32) (kx : Int32 → Int32 → Mem → Option (Int32 × Mem)) : Nat → Int32 → Int32 → Int32 → Mem → Option (Int32 × Mem)
  | 0, _, _, _, _ => none
  | n + 1, x3, x4, x5, M => if x2 ≤ x5 then (kx x3 x4 M) else (bd (f_X6_wakersBy x5 M) (fun r7 M6 => bd (f_X6_size r7 M6) (fun r9 M8 => if x3 = (-9 : Int32) then (f_X6_still_L56 x1 x2 kx n x5 r9 (x5 + (1 : Int32)) M8) else (if x4 ≤ r9 then (f_X6_still_L56 x1 x2 kx n x3 x4 (x5 + (1 : Int32)) M8) else (f_X6_still_L56 x1 x2 kx n x5 r9 (x5 + (1 : Int32)) M8)))))
noncomputable def f_X6_still (x1 : Int32) (M : Mem) : Option (Int32 × Mem) := bd (f_X6_within x1 (-1 : Int32) (3 : Int32) M) (fun r2 M1 => if r2 = 0 then (some ((-2 : Int32), M1)) else (if (M1 0 6) = 0 then (some ((-3 : Int32), M1)) else (f_X6_still_L26 x1 (fun e4 M5 => f_X6_still_L56 x1 e4 (fun e10 e11 M12 => if x1 = (-1 : Int32) then (some (e11, M12)) else (bd (f_X6_wakersBy e10 M12) (fun r14 M13 => bd (f_X6_isClock x1 M13) (fun r16 M15 => if r16 = 0 then (some ((-9 : Int32), M15)) else (grd x1 4 (some ((M15 12 x1.toNatClampNeg), M15))))))) FU (-9 : Int32) (0 : Int32) (0 : Int32) M5) FU (1 : Int32) (0 : Int32) M1)))
set_option maxHeartbeats 4000000 in
set_option maxRecDepth 100000 in
theorem w_X6_still_L26 {v : Av} {w : Cw} (hw : w.2.2.2.2.2 = shM) (hA : Act v w RX6 wsX6_still cX6_still 7 (some .int)) (x1 : Int32) (kx : Int32 → Mem → Option (Int32 × Mem)) (hk : ∀ (y2 : Int32) (M : Mem), WO v w rmX6_still 7 eI (kx y2 M) 47 [(0, .ref (w.2.1 0)), (1, .int x1), (2, .int y2)] [] M) : ∀ (n : Nat) (x2 : Int32) (x3 : Int32) (M : Mem), WO v w rmX6_still 7 eI (f_X6_still_L26 x1 kx n x2 x3 M) 26 [(0, .ref (w.2.1 0)), (1, .int x1), (2, .int x2), (3, .int x3)] [] M := by
  intro n
  induction n with
  | zero => intro x2 x3 M; exact WO.nothing
  | succ n ih =>
    intro x2 x3 M
    rw [f_X6_still_L26]
    refine WO.iload_n (n := 27) hA dX6_still_26 3 rfl rfl ?_
    refine WO.aload_n (n := 28) hA dX6_still_27 0 rfl rfl ?_
    refine WO.getI (j := 7) (n := 31) hA (m_0 hw) rfl fiX6_still_X6 (by decide) rfl fkX6_still_71 dX6_still_28 rfl ?_
    refine WO.icmp_ge (tg := 47) (n := 34) hA dX6_still_31 (by decide) rfl (fun _ => ?_) (fun _ => ?_)
    · refine WO.sub (lv' := [(0, .ref (w.2.1 0)), (1, .int x1), (2, .int x2)]) [0, 1, 2] rfl ?_
      exact hk x2 M
    · refine WO.iload_n (n := 35) hA dX6_still_34 2 rfl rfl ?_
      refine WO.aload_n (n := 36) hA dX6_still_35 0 rfl rfl ?_
      refine WO.getI (j := 6) (n := 39) hA (m_0 hw) rfl fiX6_still_X6 (by decide) rfl fkX6_still_68 dX6_still_36 rfl ?_
      refine WO.imul (n := 40) hA dX6_still_39 rfl ?_
      refine WO.top (fun x_3 => ?_)
      refine WO.istore_n (i := 2) (lv' := [(2, .int x_3), (0, .ref (w.2.1 0)), (1, .int x1), (3, .int x3)]) (n := 41) hA dX6_still_40 rfl (by decide) rfl rfl ?_
      refine WO.iinc (y := (1 : Int32)) (lv' := [(3, .int (x3 + (1 : Int32))), (2, .int x_3), (0, .ref (w.2.1 0)), (1, .int x1)]) (n := 44) hA dX6_still_41 3 rfl (by decide) (by decide) rfl rfl ?_
      refine WO.goto (n := 26) hA dX6_still_44 (by decide) ?_
      refine WO.sub (lv' := [(0, .ref (w.2.1 0)), (1, .int x1), (2, .int x_3), (3, .int (x3 + (1 : Int32)))]) [2, 3, 1, 0] rfl ?_
      exact ih x_3 (x3 + (1 : Int32)) M
set_option maxHeartbeats 4000000 in
set_option maxRecDepth 100000 in
theorem w_X6_still_L56 {v : Av} {w : Cw} (hw : w.2.2.2.2.2 = shM) (hA : Act v w RX6 wsX6_still cX6_still 7 (some .int)) (x1 : Int32) (x2 : Int32) (kx : Int32 → Int32 → Mem → Option (Int32 × Mem)) (hk : ∀ (y3 : Int32) (y4 : Int32) (M : Mem), WO v w rmX6_still 7 eI (kx y3 y4 M) 99 [(0, .ref (w.2.1 0)), (1, .int x1), (3, .int y3), (4, .int y4)] [] M) : ∀ (n : Nat) (x3 : Int32) (x4 : Int32) (x5 : Int32) (M : Mem), WO v w rmX6_still 7 eI (f_X6_still_L56 x1 x2 kx n x3 x4 x5 M) 56 [(0, .ref (w.2.1 0)), (1, .int x1), (2, .int x2), (3, .int x3), (4, .int x4), (5, .int x5)] [] M := by
  intro n
  induction n with
  | zero => intro x3 x4 x5 M; exact WO.nothing
  | succ n ih =>
    intro x3 x4 x5 M
    rw [f_X6_still_L56]
    refine WO.iload (n := 58) hA dX6_still_56 5 rfl rfl ?_
    refine WO.iload_n (n := 59) hA dX6_still_58 2 rfl rfl ?_
    refine WO.icmp_ge (tg := 99) (n := 62) hA dX6_still_59 (by decide) rfl (fun _ => ?_) (fun _ => ?_)
    · refine WO.sub (lv' := [(0, .ref (w.2.1 0)), (1, .int x1), (3, .int x3), (4, .int x4)]) [0, 1, 3, 4] rfl ?_
      exact hk x3 x4 M
    · refine WO.aload_n (n := 63) hA dX6_still_62 0 rfl rfl ?_
      refine WO.iload (n := 65) hA dX6_still_63 5 rfl rfl ?_
      refine WO.callVi (As := [.int x5]) (rest := []) (n := 68) hA (c_X6_wakersBy v.2.1 w hw x5 M) gX6_still_X6_wakersBy rfl (m_0 hw) rfl mdX6_wakersBy ⟨rfl, rfl, Nat.le_of_ble_eq_true rfl, Nat.le_of_ble_eq_true rfl⟩ rfl rfl (Nat.le_of_ble_eq_true rfl) dX6_still_65 rfl (fun r7 M6 => ?_)
      refine WO.callSi (As := [.int r7]) (rest := []) (n := 71) hA (c_X6_size v.2.1 w hw r7 M6) gX6_still_X6_size rfl mdX6_size ⟨rfl, rfl, Nat.le_of_ble_eq_true rfl, Nat.le_of_ble_eq_true rfl⟩ rfl rfl (Nat.le_of_ble_eq_true rfl) dX6_still_68 rfl (fun r9 M8 => ?_)
      refine WO.istore (lv' := [(6, .int r9), (0, .ref (w.2.1 0)), (1, .int x1), (2, .int x2), (3, .int x3), (4, .int x4), (5, .int x5)]) (n := 73) hA dX6_still_71 (by decide) rfl rfl ?_
      refine WO.iload_n (n := 74) hA dX6_still_73 4 rfl rfl ?_
      refine WO.bipush (x := (-9 : Int32)) (n := 76) hA dX6_still_74 (by decide) rfl ?_
      refine WO.icmp_eq (tg := 86) (n := 79) hA dX6_still_76 (by decide) rfl (fun _ => ?_) (fun _ => ?_)
      · refine WO.iload (n := 88) hA dX6_still_86 6 rfl rfl ?_
        refine WO.istore_n (i := 3) (lv' := [(3, .int x5), (6, .int r9), (0, .ref (w.2.1 0)), (1, .int x1), (2, .int x2), (4, .int x4), (5, .int x5)]) (n := 89) hA dX6_still_88 rfl (by decide) rfl rfl ?_
        refine WO.iload (n := 91) hA dX6_still_89 1 rfl rfl ?_
        refine WO.istore (lv' := [(4, .int r9), (3, .int x5), (6, .int r9), (0, .ref (w.2.1 0)), (1, .int x1), (2, .int x2), (5, .int x5)]) (n := 93) hA dX6_still_91 (by decide) rfl rfl ?_
        refine WO.iinc (y := (1 : Int32)) (lv' := [(5, .int (x5 + (1 : Int32))), (4, .int r9), (3, .int x5), (6, .int r9), (0, .ref (w.2.1 0)), (1, .int x1), (2, .int x2)]) (n := 96) hA dX6_still_93 6 rfl (by decide) (by decide) rfl rfl ?_
        refine WO.goto (n := 56) hA dX6_still_96 (by decide) ?_
        refine WO.sub (lv' := [(0, .ref (w.2.1 0)), (1, .int x1), (2, .int x2), (3, .int x5), (4, .int r9), (5, .int (x5 + (1 : Int32)))]) [4, 5, 6, 2, 1, 0] rfl ?_
        exact ih x5 r9 (x5 + (1 : Int32)) M8
      · refine WO.iload (n := 81) hA dX6_still_79 0 rfl rfl ?_
        refine WO.iload (n := 83) hA dX6_still_81 5 rfl rfl ?_
        refine WO.icmp_ge (tg := 93) (n := 86) hA dX6_still_83 (by decide) rfl (fun _ => ?_) (fun _ => ?_)
        · refine WO.iinc (y := (1 : Int32)) (lv' := [(5, .int (x5 + (1 : Int32))), (6, .int r9), (0, .ref (w.2.1 0)), (1, .int x1), (2, .int x2), (3, .int x3), (4, .int x4)]) (n := 96) hA dX6_still_93 6 rfl (by decide) (by decide) rfl rfl ?_
          refine WO.goto (n := 56) hA dX6_still_96 (by decide) ?_
          refine WO.sub (lv' := [(0, .ref (w.2.1 0)), (1, .int x1), (2, .int x2), (3, .int x3), (4, .int x4), (5, .int (x5 + (1 : Int32)))]) [2, 3, 4, 5, 6, 0] rfl ?_
          exact ih x3 x4 (x5 + (1 : Int32)) M8
        · refine WO.iload (n := 88) hA dX6_still_86 6 rfl rfl ?_
          refine WO.istore_n (i := 3) (lv' := [(3, .int x5), (6, .int r9), (0, .ref (w.2.1 0)), (1, .int x1), (2, .int x2), (4, .int x4), (5, .int x5)]) (n := 89) hA dX6_still_88 rfl (by decide) rfl rfl ?_
          refine WO.iload (n := 91) hA dX6_still_89 1 rfl rfl ?_
          refine WO.istore (lv' := [(4, .int r9), (3, .int x5), (6, .int r9), (0, .ref (w.2.1 0)), (1, .int x1), (2, .int x2), (5, .int x5)]) (n := 93) hA dX6_still_91 (by decide) rfl rfl ?_
          refine WO.iinc (y := (1 : Int32)) (lv' := [(5, .int (x5 + (1 : Int32))), (4, .int r9), (3, .int x5), (6, .int r9), (0, .ref (w.2.1 0)), (1, .int x1), (2, .int x2)]) (n := 96) hA dX6_still_93 6 rfl (by decide) (by decide) rfl rfl ?_
          refine WO.goto (n := 56) hA dX6_still_96 (by decide) ?_
          refine WO.sub (lv' := [(0, .ref (w.2.1 0)), (1, .int x1), (2, .int x2), (3, .int x5), (4, .int r9), (5, .int (x5 + (1 : Int32)))]) [4, 5, 6, 2, 1, 0] rfl ?_
          exact ih x5 r9 (x5 + (1 : Int32)) M8
set_option maxHeartbeats 4000000 in
set_option maxRecDepth 100000 in
theorem c_X6_still (l : Launch) (w : Cw) (hw : w.2.2.2.2.2 = shM) (x1 : Int32) (M : Mem) : Ok l w eI yX6_still wsX6_still rmX6_still [.ref (w.2.1 0), .int x1] M (f_X6_still x1 M) := by
  refine Ok.of (cc := cX6_still) (nL := 7) (ret := (some .int)) (lv := [(0, .ref (w.2.1 0)), (1, .int x1)]) (by decide) rfl (Nat.le_of_ble_eq_true rfl) rfl (fun v hv hA => ?_)
  subst hv
  have hA : Act v w RX6 wsX6_still cX6_still 7 (some .int) := hA
  unfold f_X6_still
  refine WO.iload_n (n := 1) hA dX6_still_0 1 rfl rfl ?_
  refine WO.iconst (x := (-1 : Int32)) (n := 2) hA dX6_still_1 (by decide) rfl ?_
  refine WO.iconst (x := (3 : Int32)) (n := 3) hA dX6_still_2 (by decide) rfl ?_
  refine WO.callSi (As := [.int x1, .int (-1 : Int32), .int (3 : Int32)]) (rest := []) (n := 6) hA (c_X6_within v.2.1 w hw x1 (-1 : Int32) (3 : Int32) M) gX6_still_X6_within rfl mdX6_within ⟨rfl, rfl, Nat.le_of_ble_eq_true rfl, Nat.le_of_ble_eq_true rfl⟩ rfl rfl (Nat.le_of_ble_eq_true rfl) dX6_still_3 rfl (fun r2 M1 => ?_)
  refine WO.if_ne (tg := 12) (n := 9) hA dX6_still_6 (by decide) rfl (fun _ => ?_) (fun _ => ?_)
  · refine WO.bipush (x := (-2 : Int32)) (n := 11) hA dX6_still_9 (by decide) rfl ?_
    exact WO.iret hA dX6_still_11
  · refine WO.aload_n (n := 13) hA dX6_still_12 0 rfl rfl ?_
    refine WO.getI (j := 6) (n := 16) hA (m_0 hw) rfl fiX6_still_X6 (by decide) rfl fkX6_still_68 dX6_still_13 rfl ?_
    refine WO.if_ne (tg := 22) (n := 19) hA dX6_still_16 (by decide) rfl (fun _ => ?_) (fun _ => ?_)
    · refine WO.bipush (x := (-3 : Int32)) (n := 21) hA dX6_still_19 (by decide) rfl ?_
      exact WO.iret hA dX6_still_21
    · refine WO.iconst (x := (1 : Int32)) (n := 23) hA dX6_still_22 (by decide) rfl ?_
      refine WO.istore_n (i := 2) (lv' := [(2, .int (1 : Int32)), (0, .ref (w.2.1 0)), (1, .int x1)]) (n := 24) hA dX6_still_23 rfl (by decide) rfl rfl ?_
      refine WO.iconst (x := (0 : Int32)) (n := 25) hA dX6_still_24 (by decide) rfl ?_
      refine WO.istore_n (i := 3) (lv' := [(3, .int (0 : Int32)), (2, .int (1 : Int32)), (0, .ref (w.2.1 0)), (1, .int x1)]) (n := 26) hA dX6_still_25 rfl (by decide) rfl rfl ?_
      refine WO.sub (lv' := [(0, .ref (w.2.1 0)), (1, .int x1), (2, .int (1 : Int32)), (3, .int (0 : Int32))]) [2, 3, 1, 0] rfl ?_
      refine w_X6_still_L26 hw hA x1 _ (fun e4 M5 => ?_) _ _ _ _
      refine WO.bipush (x := (-9 : Int32)) (n := 49) hA dX6_still_47 (by decide) rfl ?_
      refine WO.istore_n (i := 3) (lv' := [(3, .int (-9 : Int32)), (0, .ref (w.2.1 0)), (1, .int x1), (2, .int e4)]) (n := 50) hA dX6_still_49 rfl (by decide) rfl rfl ?_
      refine WO.iconst (x := (0 : Int32)) (n := 51) hA dX6_still_50 (by decide) rfl ?_
      refine WO.istore (lv' := [(4, .int (0 : Int32)), (3, .int (-9 : Int32)), (0, .ref (w.2.1 0)), (1, .int x1), (2, .int e4)]) (n := 53) hA dX6_still_51 (by decide) rfl rfl ?_
      refine WO.iconst (x := (0 : Int32)) (n := 54) hA dX6_still_53 (by decide) rfl ?_
      refine WO.istore (lv' := [(5, .int (0 : Int32)), (4, .int (0 : Int32)), (3, .int (-9 : Int32)), (0, .ref (w.2.1 0)), (1, .int x1), (2, .int e4)]) (n := 56) hA dX6_still_54 (by decide) rfl rfl ?_
      refine WO.sub (lv' := [(0, .ref (w.2.1 0)), (1, .int x1), (2, .int e4), (3, .int (-9 : Int32)), (4, .int (0 : Int32)), (5, .int (0 : Int32))]) [3, 4, 5, 2, 1, 0] rfl ?_
      refine w_X6_still_L56 hw hA x1 e4 _ (fun e10 e11 M12 => ?_) _ _ _ _ _
      refine WO.iload_n (n := 100) hA dX6_still_99 1 rfl rfl ?_
      refine WO.iconst (x := (-1 : Int32)) (n := 101) hA dX6_still_100 (by decide) rfl ?_
      refine WO.icmp_ne (tg := 107) (n := 104) hA dX6_still_101 (by decide) rfl (fun _ => ?_) (fun _ => ?_)
      · refine WO.iload (n := 106) hA dX6_still_104 3 rfl rfl ?_
        exact WO.iret hA dX6_still_106
      · refine WO.aload_n (n := 108) hA dX6_still_107 0 rfl rfl ?_
        refine WO.iload_n (n := 109) hA dX6_still_108 2 rfl rfl ?_
        refine WO.callVi (As := [.int e10]) (rest := []) (n := 112) hA (c_X6_wakersBy v.2.1 w hw e10 M12) gX6_still_X6_wakersBy rfl (m_0 hw) rfl mdX6_wakersBy ⟨rfl, rfl, Nat.le_of_ble_eq_true rfl, Nat.le_of_ble_eq_true rfl⟩ rfl rfl (Nat.le_of_ble_eq_true rfl) dX6_still_109 rfl (fun r14 M13 => ?_)
        refine WO.pop (n := 113) hA dX6_still_112 rfl rfl ?_
        refine WO.aload_n (n := 114) hA dX6_still_113 0 rfl rfl ?_
        refine WO.iload_n (n := 115) hA dX6_still_114 1 rfl rfl ?_
        refine WO.callVi (As := [.int x1]) (rest := []) (n := 118) hA (c_X6_isClock v.2.1 w hw x1 M13) gX6_still_X6_isClock rfl (m_0 hw) rfl mdX6_isClock ⟨rfl, rfl, Nat.le_of_ble_eq_true rfl, Nat.le_of_ble_eq_true rfl⟩ rfl rfl (Nat.le_of_ble_eq_true rfl) dX6_still_115 rfl (fun r16 M15 => ?_)
        refine WO.if_eq (tg := 130) (n := 121) hA dX6_still_118 (by decide) rfl (fun _ => ?_) (fun _ => ?_)
        · refine WO.bipush (x := (-9 : Int32)) (n := 132) hA dX6_still_130 (by decide) rfl ?_
          exact WO.iret hA dX6_still_132
        · refine WO.aload_n (n := 122) hA dX6_still_121 0 rfl rfl ?_
          refine WO.getR (j := 24) (p := 12) (n := 125) hA (m_0 hw) rfl fiX6_still_X6 (by decide) rfl fkX6_still_43 dX6_still_122 rfl ?_
          refine WO.iload_n (n := 126) hA dX6_still_125 1 rfl rfl ?_
          refine WO.iald (n := 127) hA (m_12 hw) dX6_still_126 rfl (fun _ => ?_)
          refine WO.goto (n := 132) hA dX6_still_127 (by decide) ?_
          exact WO.iret hA dX6_still_132
/- X6_hush -/
abbrev rmX6_hush : Room := { frames := 4, cells := 0, slots := 0, locals := 89 }
theorem mdX6_hush : yX6_hush.cls = RX6 ∧ yX6_hush.cls ≠ "java/lang/invoke/MethodHandle" ∧ yX6_hush.cls ≠ "java/lang/invoke/VarHandle" ∧ (parseMethodDescriptor yX6_hush.desc).map (fun d => d.parameters.length) = some 1 := by decide +kernel
theorem fkX6_hush_114 : Cond.fieldLink RX6 114 (TX6 9).1 (TX6 9).2.1 (TX6 9).2.2.1 ∈ wsX6_hush := by decide +kernel
theorem fiX6_hush_X6 : ∀ q ∈ u_ws RX6 TX6 30, q ∈ wsX6_hush := by decide +kernel
theorem fkX6_hush_71 : Cond.fieldLink RX6 71 (TX6 7).1 (TX6 7).2.1 (TX6 7).2.2.1 ∈ wsX6_hush := by decide +kernel
theorem fkX6_hush_28 : Cond.fieldLink RX6 28 (TX6 13).1 (TX6 13).2.1 (TX6 13).2.2.1 ∈ wsX6_hush := by decide +kernel
noncomputable def f_X6_hush_L23 (x1 : Int32) (x2 : Int32) (kx : Int32 → Int32 → Mem → Option (Int32 × Mem)) : Nat → Int32 → Int32 → Int32 → Mem → Option (Int32 × Mem)
  | 0, _, _, _, _ => none
  | n + 1, x3, x4, x5, M => if (M 0 7) ≤ x5 then (kx x3 x4 M) else (grd x5 4 (bd (f_X6_wakesFrom x1 x5 (M 7 x5.toNatClampNeg) M) (fun r5 M4 => if r5 = 0 then (f_X6_hush_L23 x1 x2 kx n x3 x4 (x5 + (1 : Int32)) M4) else (bd (f_X6_isOf x2 x5 M4) (fun r7 M6 => if r7 = 0 then (ilt (x3 ||| ((1 : Int32) <<< (x5 &&& 31))) (fun x_8 => mlt (mu M6 0 9 ((M6 0 9) ||| ((1 : Int32) <<< (x5 &&& 31)))) (fun M9 => if x4 = 0 then (f_X6_hush_L23 x1 x2 kx n x_8 (0 : Int32) (x5 + (1 : Int32)) M9) else (grd x5 4 (bd (f_X6_wakesFrom x1 x5 (M9 7 x5.toNatClampNeg) M9) (fun r11 M10 => if r11 = 0 then (f_X6_hush_L23 x1 x2 kx n x_8 (1 : Int32) (x5 + (1 : Int32)) M10) else (f_X6_hush_L23 x1 x2 kx n x_8 (0 : Int32) (x5 + (1 : Int32)) M10))))))) else (ilt (x3 ||| (0 : Int32)) (fun x_12 => mlt (mu M6 0 9 ((M6 0 9) ||| ((1 : Int32) <<< (x5 &&& 31)))) (fun M13 => if x4 = 0 then (f_X6_hush_L23 x1 x2 kx n x_12 (0 : Int32) (x5 + (1 : Int32)) M13) else (grd x5 4 (bd (f_X6_wakesFrom x1 x5 (M13 7 x5.toNatClampNeg) M13) (fun r15 M14 => if r15 = 0 then (f_X6_hush_L23 x1 x2 kx n x_12 (1 : Int32) (x5 + (1 : Int32)) M14) else (f_X6_hush_L23 x1 x2 kx n x_12 (0 : Int32) (x5 + (1 : Int32)) M14))))))))))))
noncomputable def f_X6_hush (x1 : Int32) (M : Mem) : Option (Int32 × Mem) := bd (f_X6_isHouse x1 M) (fun r2 M1 => if r2 = 0 then (some ((-1 : Int32), M1)) else (ilt (M1 0 9) (fun x_3 => f_X6_hush_L23 x1 x_3 (fun e16 e17 M18 => mlt (mu M18 0 9 x_3) (fun M19 => if e17 = 0 then (some ((-9 : Int32), M19)) else (some (e16, M19)))) FU (0 : Int32) (1 : Int32) (0 : Int32) M1)))
set_option maxHeartbeats 4000000 in
set_option maxRecDepth 100000 in
theorem w_X6_hush_L23 {v : Av} {w : Cw} (hw : w.2.2.2.2.2 = shM) (hA : Act v w RX6 wsX6_hush cX6_hush 6 (some .int)) (x1 : Int32) (x2 : Int32) (kx : Int32 → Int32 → Mem → Option (Int32 × Mem)) (hk : ∀ (y3 : Int32) (y4 : Int32) (M : Mem), WO v w rmX6_hush 6 eI (kx y3 y4 M) 117 [(0, .ref (w.2.1 0)), (2, .int x2), (3, .int y3), (4, .int y4)] [] M) : ∀ (n : Nat) (x3 : Int32) (x4 : Int32) (x5 : Int32) (M : Mem), WO v w rmX6_hush 6 eI (f_X6_hush_L23 x1 x2 kx n x3 x4 x5 M) 23 [(0, .ref (w.2.1 0)), (1, .int x1), (2, .int x2), (3, .int x3), (4, .int x4), (5, .int x5)] [] M := by
  intro n
  induction n with
  | zero => intro x3 x4 x5 M; exact WO.nothing
  | succ n ih =>
    intro x3 x4 x5 M
    rw [f_X6_hush_L23]
    refine WO.iload (n := 25) hA dX6_hush_23 5 rfl rfl ?_
    refine WO.aload_n (n := 26) hA dX6_hush_25 0 rfl rfl ?_
    refine WO.getI (j := 7) (n := 29) hA (m_0 hw) rfl fiX6_hush_X6 (by decide) rfl fkX6_hush_71 dX6_hush_26 rfl ?_
    refine WO.icmp_ge (tg := 117) (n := 32) hA dX6_hush_29 (by decide) rfl (fun _ => ?_) (fun _ => ?_)
    · refine WO.sub (lv' := [(0, .ref (w.2.1 0)), (2, .int x2), (3, .int x3), (4, .int x4)]) [0, 2, 3, 4] rfl ?_
      exact hk x3 x4 M
    · refine WO.aload_n (n := 33) hA dX6_hush_32 0 rfl rfl ?_
      refine WO.iload_n (n := 34) hA dX6_hush_33 1 rfl rfl ?_
      refine WO.iload (n := 36) hA dX6_hush_34 5 rfl rfl ?_
      refine WO.aload_n (n := 37) hA dX6_hush_36 0 rfl rfl ?_
      refine WO.getR (j := 13) (p := 7) (n := 40) hA (m_0 hw) rfl fiX6_hush_X6 (by decide) rfl fkX6_hush_28 dX6_hush_37 rfl ?_
      refine WO.iload (n := 42) hA dX6_hush_40 5 rfl rfl ?_
      refine WO.iald (n := 43) hA (m_7 hw) dX6_hush_42 rfl (fun _ => ?_)
      refine WO.callVi (As := [.int x1, .int x5, .int (M 7 x5.toNatClampNeg)]) (rest := []) (n := 46) hA (c_X6_wakesFrom v.2.1 w hw x1 x5 (M 7 x5.toNatClampNeg) M) gX6_hush_X6_wakesFrom rfl (m_0 hw) rfl mdX6_wakesFrom ⟨rfl, rfl, Nat.le_of_ble_eq_true rfl, Nat.le_of_ble_eq_true rfl⟩ rfl rfl (Nat.le_of_ble_eq_true rfl) dX6_hush_43 rfl (fun r5 M4 => ?_)
      refine WO.if_eq (tg := 111) (n := 49) hA dX6_hush_46 (by decide) rfl (fun _ => ?_) (fun _ => ?_)
      · refine WO.iinc (y := (1 : Int32)) (lv' := [(5, .int (x5 + (1 : Int32))), (0, .ref (w.2.1 0)), (1, .int x1), (2, .int x2), (3, .int x3), (4, .int x4)]) (n := 114) hA dX6_hush_111 5 rfl (by decide) (by decide) rfl rfl ?_
        refine WO.goto (n := 23) hA dX6_hush_114 (by decide) ?_
        refine WO.sub (lv' := [(0, .ref (w.2.1 0)), (1, .int x1), (2, .int x2), (3, .int x3), (4, .int x4), (5, .int (x5 + (1 : Int32)))]) [1, 2, 3, 4, 5, 0] rfl ?_
        exact ih x3 x4 (x5 + (1 : Int32)) M4
      · refine WO.iload_n (n := 50) hA dX6_hush_49 3 rfl rfl ?_
        refine WO.iload_n (n := 51) hA dX6_hush_50 2 rfl rfl ?_
        refine WO.iload (n := 53) hA dX6_hush_51 5 rfl rfl ?_
        refine WO.callSi (As := [.int x2, .int x5]) (rest := [.int x3]) (n := 56) hA (c_X6_isOf v.2.1 w hw x2 x5 M4) gX6_hush_X6_isOf rfl mdX6_isOf ⟨rfl, rfl, Nat.le_of_ble_eq_true rfl, Nat.le_of_ble_eq_true rfl⟩ rfl rfl (Nat.le_of_ble_eq_true rfl) dX6_hush_53 rfl (fun r7 M6 => ?_)
        refine WO.if_eq (tg := 63) (n := 59) hA dX6_hush_56 (by decide) rfl (fun _ => ?_) (fun _ => ?_)
        · refine WO.iconst (x := (1 : Int32)) (n := 64) hA dX6_hush_63 (by decide) rfl ?_
          refine WO.iload (n := 66) hA dX6_hush_64 5 rfl rfl ?_
          refine WO.ishl (n := 67) hA dX6_hush_66 rfl ?_
          refine WO.ior (n := 68) hA dX6_hush_67 rfl ?_
          refine WO.top (fun x_8 => ?_)
          refine WO.istore_n (i := 3) (lv' := [(3, .int x_8), (0, .ref (w.2.1 0)), (1, .int x1), (2, .int x2), (4, .int x4), (5, .int x5)]) (n := 69) hA dX6_hush_68 rfl (by decide) rfl rfl ?_
          refine WO.aload_n (n := 70) hA dX6_hush_69 1 rfl rfl ?_
          refine WO.dup (n := 71) hA dX6_hush_70 rfl rfl ?_
          refine WO.getI (j := 9) (n := 74) hA (m_0 hw) rfl fiX6_hush_X6 (by decide) rfl fkX6_hush_114 dX6_hush_71 rfl ?_
          refine WO.iconst (x := (1 : Int32)) (n := 75) hA dX6_hush_74 (by decide) rfl ?_
          refine WO.iload (n := 77) hA dX6_hush_75 5 rfl rfl ?_
          refine WO.ishl (n := 78) hA dX6_hush_77 rfl ?_
          refine WO.ior (n := 79) hA dX6_hush_78 rfl ?_
          refine WO.putI (j := 9) (n := 82) hA (m_0 hw) rfl fiX6_hush_X6 tyX6 tyX6_ok nmX6 (by decide) rfl fkX6_hush_114 rfl rfl rfl rfl dX6_hush_79 rfl ?_
          refine WO.mem (fun M9 => ?_)
          refine WO.iload (n := 84) hA dX6_hush_82 4 rfl rfl ?_
          refine WO.if_eq (tg := 108) (n := 87) hA dX6_hush_84 (by decide) rfl (fun _ => ?_) (fun _ => ?_)
          · refine WO.iconst (x := (0 : Int32)) (n := 109) hA dX6_hush_108 (by decide) rfl ?_
            refine WO.istore (lv' := [(4, .int (0 : Int32)), (3, .int x_8), (0, .ref (w.2.1 0)), (1, .int x1), (2, .int x2), (5, .int x5)]) (n := 111) hA dX6_hush_109 (by decide) rfl rfl ?_
            refine WO.iinc (y := (1 : Int32)) (lv' := [(5, .int (x5 + (1 : Int32))), (4, .int (0 : Int32)), (3, .int x_8), (0, .ref (w.2.1 0)), (1, .int x1), (2, .int x2)]) (n := 114) hA dX6_hush_111 5 rfl (by decide) (by decide) rfl rfl ?_
            refine WO.goto (n := 23) hA dX6_hush_114 (by decide) ?_
            refine WO.sub (lv' := [(0, .ref (w.2.1 0)), (1, .int x1), (2, .int x2), (3, .int x_8), (4, .int (0 : Int32)), (5, .int (x5 + (1 : Int32)))]) [3, 4, 5, 2, 1, 0] rfl ?_
            exact ih x_8 (0 : Int32) (x5 + (1 : Int32)) M9
          · refine WO.aload_n (n := 88) hA dX6_hush_87 1 rfl rfl ?_
            refine WO.iload_n (n := 89) hA dX6_hush_88 2 rfl rfl ?_
            refine WO.iload (n := 91) hA dX6_hush_89 5 rfl rfl ?_
            refine WO.aload_n (n := 92) hA dX6_hush_91 1 rfl rfl ?_
            refine WO.getR (j := 13) (p := 7) (n := 95) hA (m_0 hw) rfl fiX6_hush_X6 (by decide) rfl fkX6_hush_28 dX6_hush_92 rfl ?_
            refine WO.iload (n := 97) hA dX6_hush_95 5 rfl rfl ?_
            refine WO.iald (n := 98) hA (m_7 hw) dX6_hush_97 rfl (fun _ => ?_)
            refine WO.callVi (As := [.int x1, .int x5, .int (M9 7 x5.toNatClampNeg)]) (rest := []) (n := 101) hA (c_X6_wakesFrom v.2.1 w hw x1 x5 (M9 7 x5.toNatClampNeg) M9) gX6_hush_X6_wakesFrom rfl (m_0 hw) rfl mdX6_wakesFrom ⟨rfl, rfl, Nat.le_of_ble_eq_true rfl, Nat.le_of_ble_eq_true rfl⟩ rfl rfl (Nat.le_of_ble_eq_true rfl) dX6_hush_98 rfl (fun r11 M10 => ?_)
            refine WO.if_ne (tg := 108) (n := 104) hA dX6_hush_101 (by decide) rfl (fun _ => ?_) (fun _ => ?_)
            · refine WO.iconst (x := (1 : Int32)) (n := 105) hA dX6_hush_104 (by decide) rfl ?_
              refine WO.goto (n := 109) hA dX6_hush_105 (by decide) ?_
              refine WO.istore (lv' := [(4, .int (1 : Int32)), (3, .int x_8), (0, .ref (w.2.1 0)), (1, .int x1), (2, .int x2), (5, .int x5)]) (n := 111) hA dX6_hush_109 (by decide) rfl rfl ?_
              refine WO.iinc (y := (1 : Int32)) (lv' := [(5, .int (x5 + (1 : Int32))), (4, .int (1 : Int32)), (3, .int x_8), (0, .ref (w.2.1 0)), (1, .int x1), (2, .int x2)]) (n := 114) hA dX6_hush_111 5 rfl (by decide) (by decide) rfl rfl ?_
              refine WO.goto (n := 23) hA dX6_hush_114 (by decide) ?_
              refine WO.sub (lv' := [(0, .ref (w.2.1 0)), (1, .int x1), (2, .int x2), (3, .int x_8), (4, .int (1 : Int32)), (5, .int (x5 + (1 : Int32)))]) [3, 4, 5, 2, 1, 0] rfl ?_
              exact ih x_8 (1 : Int32) (x5 + (1 : Int32)) M10
            · refine WO.iconst (x := (0 : Int32)) (n := 109) hA dX6_hush_108 (by decide) rfl ?_
              refine WO.istore (lv' := [(4, .int (0 : Int32)), (3, .int x_8), (0, .ref (w.2.1 0)), (1, .int x1), (2, .int x2), (5, .int x5)]) (n := 111) hA dX6_hush_109 (by decide) rfl rfl ?_
              refine WO.iinc (y := (1 : Int32)) (lv' := [(5, .int (x5 + (1 : Int32))), (4, .int (0 : Int32)), (3, .int x_8), (0, .ref (w.2.1 0)), (1, .int x1), (2, .int x2)]) (n := 114) hA dX6_hush_111 5 rfl (by decide) (by decide) rfl rfl ?_
              refine WO.goto (n := 23) hA dX6_hush_114 (by decide) ?_
              refine WO.sub (lv' := [(0, .ref (w.2.1 0)), (1, .int x1), (2, .int x2), (3, .int x_8), (4, .int (0 : Int32)), (5, .int (x5 + (1 : Int32)))]) [3, 4, 5, 2, 1, 0] rfl ?_
              exact ih x_8 (0 : Int32) (x5 + (1 : Int32)) M10
        · refine WO.iconst (x := (0 : Int32)) (n := 60) hA dX6_hush_59 (by decide) rfl ?_
          refine WO.goto (n := 67) hA dX6_hush_60 (by decide) ?_
          refine WO.ior (n := 68) hA dX6_hush_67 rfl ?_
          refine WO.top (fun x_12 => ?_)
          refine WO.istore_n (i := 3) (lv' := [(3, .int x_12), (0, .ref (w.2.1 0)), (1, .int x1), (2, .int x2), (4, .int x4), (5, .int x5)]) (n := 69) hA dX6_hush_68 rfl (by decide) rfl rfl ?_
          refine WO.aload_n (n := 70) hA dX6_hush_69 1 rfl rfl ?_
          refine WO.dup (n := 71) hA dX6_hush_70 rfl rfl ?_
          refine WO.getI (j := 9) (n := 74) hA (m_0 hw) rfl fiX6_hush_X6 (by decide) rfl fkX6_hush_114 dX6_hush_71 rfl ?_
          refine WO.iconst (x := (1 : Int32)) (n := 75) hA dX6_hush_74 (by decide) rfl ?_
          refine WO.iload (n := 77) hA dX6_hush_75 5 rfl rfl ?_
          refine WO.ishl (n := 78) hA dX6_hush_77 rfl ?_
          refine WO.ior (n := 79) hA dX6_hush_78 rfl ?_
          refine WO.putI (j := 9) (n := 82) hA (m_0 hw) rfl fiX6_hush_X6 tyX6 tyX6_ok nmX6 (by decide) rfl fkX6_hush_114 rfl rfl rfl rfl dX6_hush_79 rfl ?_
          refine WO.mem (fun M13 => ?_)
          refine WO.iload (n := 84) hA dX6_hush_82 4 rfl rfl ?_
          refine WO.if_eq (tg := 108) (n := 87) hA dX6_hush_84 (by decide) rfl (fun _ => ?_) (fun _ => ?_)
          · refine WO.iconst (x := (0 : Int32)) (n := 109) hA dX6_hush_108 (by decide) rfl ?_
            refine WO.istore (lv' := [(4, .int (0 : Int32)), (3, .int x_12), (0, .ref (w.2.1 0)), (1, .int x1), (2, .int x2), (5, .int x5)]) (n := 111) hA dX6_hush_109 (by decide) rfl rfl ?_
            refine WO.iinc (y := (1 : Int32)) (lv' := [(5, .int (x5 + (1 : Int32))), (4, .int (0 : Int32)), (3, .int x_12), (0, .ref (w.2.1 0)), (1, .int x1), (2, .int x2)]) (n := 114) hA dX6_hush_111 5 rfl (by decide) (by decide) rfl rfl ?_
            refine WO.goto (n := 23) hA dX6_hush_114 (by decide) ?_
            refine WO.sub (lv' := [(0, .ref (w.2.1 0)), (1, .int x1), (2, .int x2), (3, .int x_12), (4, .int (0 : Int32)), (5, .int (x5 + (1 : Int32)))]) [3, 4, 5, 2, 1, 0] rfl ?_
            exact ih x_12 (0 : Int32) (x5 + (1 : Int32)) M13
          · refine WO.aload_n (n := 88) hA dX6_hush_87 1 rfl rfl ?_
            refine WO.iload_n (n := 89) hA dX6_hush_88 2 rfl rfl ?_
            refine WO.iload (n := 91) hA dX6_hush_89 5 rfl rfl ?_
            refine WO.aload_n (n := 92) hA dX6_hush_91 1 rfl rfl ?_
            refine WO.getR (j := 13) (p := 7) (n := 95) hA (m_0 hw) rfl fiX6_hush_X6 (by decide) rfl fkX6_hush_28 dX6_hush_92 rfl ?_
            refine WO.iload (n := 97) hA dX6_hush_95 5 rfl rfl ?_
            refine WO.iald (n := 98) hA (m_7 hw) dX6_hush_97 rfl (fun _ => ?_)
            refine WO.callVi (As := [.int x1, .int x5, .int (M13 7 x5.toNatClampNeg)]) (rest := []) (n := 101) hA (c_X6_wakesFrom v.2.1 w hw x1 x5 (M13 7 x5.toNatClampNeg) M13) gX6_hush_X6_wakesFrom rfl (m_0 hw) rfl mdX6_wakesFrom ⟨rfl, rfl, Nat.le_of_ble_eq_true rfl, Nat.le_of_ble_eq_true rfl⟩ rfl rfl (Nat.le_of_ble_eq_true rfl) dX6_hush_98 rfl (fun r15 M14 => ?_)
            refine WO.if_ne (tg := 108) (n := 104) hA dX6_hush_101 (by decide) rfl (fun _ => ?_) (fun _ => ?_)
            · refine WO.iconst (x := (1 : Int32)) (n := 105) hA dX6_hush_104 (by decide) rfl ?_
              refine WO.goto (n := 109) hA dX6_hush_105 (by decide) ?_
              refine WO.istore (lv' := [(4, .int (1 : Int32)), (3, .int x_12), (0, .ref (w.2.1 0)), (1, .int x1), (2, .int x2), (5, .int x5)]) (n := 111) hA dX6_hush_109 (by decide) rfl rfl ?_
              refine WO.iinc (y := (1 : Int32)) (lv' := [(5, .int (x5 + (1 : Int32))), (4, .int (1 : Int32)), (3, .int x_12), (0, .ref (w.2.1 0)), (1, .int x1), (2, .int x2)]) (n := 114) hA dX6_hush_111 5 rfl (by decide) (by decide) rfl rfl ?_
              refine WO.goto (n := 23) hA dX6_hush_114 (by decide) ?_
              refine WO.sub (lv' := [(0, .ref (w.2.1 0)), (1, .int x1), (2, .int x2), (3, .int x_12), (4, .int (1 : Int32)), (5, .int (x5 + (1 : Int32)))]) [3, 4, 5, 2, 1, 0] rfl ?_
              exact ih x_12 (1 : Int32) (x5 + (1 : Int32)) M14
            · refine WO.iconst (x := (0 : Int32)) (n := 109) hA dX6_hush_108 (by decide) rfl ?_
              refine WO.istore (lv' := [(4, .int (0 : Int32)), (3, .int x_12), (0, .ref (w.2.1 0)), (1, .int x1), (2, .int x2), (5, .int x5)]) (n := 111) hA dX6_hush_109 (by decide) rfl rfl ?_
              refine WO.iinc (y := (1 : Int32)) (lv' := [(5, .int (x5 + (1 : Int32))), (4, .int (0 : Int32)), (3, .int x_12), (0, .ref (w.2.1 0)), (1, .int x1), (2, .int x2)]) (n := 114) hA dX6_hush_111 5 rfl (by decide) (by decide) rfl rfl ?_
              refine WO.goto (n := 23) hA dX6_hush_114 (by decide) ?_
              refine WO.sub (lv' := [(0, .ref (w.2.1 0)), (1, .int x1), (2, .int x2), (3, .int x_12), (4, .int (0 : Int32)), (5, .int (x5 + (1 : Int32)))]) [3, 4, 5, 2, 1, 0] rfl ?_
              exact ih x_12 (0 : Int32) (x5 + (1 : Int32)) M14
set_option maxHeartbeats 4000000 in
set_option maxRecDepth 100000 in
theorem c_X6_hush (l : Launch) (w : Cw) (hw : w.2.2.2.2.2 = shM) (x1 : Int32) (M : Mem) : Ok l w eI yX6_hush wsX6_hush rmX6_hush [.ref (w.2.1 0), .int x1] M (f_X6_hush x1 M) := by
  refine Ok.of (cc := cX6_hush) (nL := 6) (ret := (some .int)) (lv := [(0, .ref (w.2.1 0)), (1, .int x1)]) (by decide) rfl (Nat.le_of_ble_eq_true rfl) rfl (fun v hv hA => ?_)
  subst hv
  have hA : Act v w RX6 wsX6_hush cX6_hush 6 (some .int) := hA
  unfold f_X6_hush
  refine WO.aload_n (n := 1) hA dX6_hush_0 0 rfl rfl ?_
  refine WO.iload_n (n := 2) hA dX6_hush_1 1 rfl rfl ?_
  refine WO.callVi (As := [.int x1]) (rest := []) (n := 5) hA (c_X6_isHouse v.2.1 w hw x1 M) gX6_hush_X6_isHouse rfl (m_0 hw) rfl mdX6_isHouse ⟨rfl, rfl, Nat.le_of_ble_eq_true rfl, Nat.le_of_ble_eq_true rfl⟩ rfl rfl (Nat.le_of_ble_eq_true rfl) dX6_hush_2 rfl (fun r2 M1 => ?_)
  refine WO.if_ne (tg := 10) (n := 8) hA dX6_hush_5 (by decide) rfl (fun _ => ?_) (fun _ => ?_)
  · refine WO.iconst (x := (-1 : Int32)) (n := 9) hA dX6_hush_8 (by decide) rfl ?_
    exact WO.iret hA dX6_hush_9
  · refine WO.aload_n (n := 11) hA dX6_hush_10 0 rfl rfl ?_
    refine WO.getI (j := 9) (n := 14) hA (m_0 hw) rfl fiX6_hush_X6 (by decide) rfl fkX6_hush_114 dX6_hush_11 rfl ?_
    refine WO.top (fun x_3 => ?_)
    refine WO.istore_n (i := 2) (lv' := [(2, .int x_3), (0, .ref (w.2.1 0)), (1, .int x1)]) (n := 15) hA dX6_hush_14 rfl (by decide) rfl rfl ?_
    refine WO.iconst (x := (0 : Int32)) (n := 16) hA dX6_hush_15 (by decide) rfl ?_
    refine WO.istore_n (i := 3) (lv' := [(3, .int (0 : Int32)), (2, .int x_3), (0, .ref (w.2.1 0)), (1, .int x1)]) (n := 17) hA dX6_hush_16 rfl (by decide) rfl rfl ?_
    refine WO.iconst (x := (1 : Int32)) (n := 18) hA dX6_hush_17 (by decide) rfl ?_
    refine WO.istore (lv' := [(4, .int (1 : Int32)), (3, .int (0 : Int32)), (2, .int x_3), (0, .ref (w.2.1 0)), (1, .int x1)]) (n := 20) hA dX6_hush_18 (by decide) rfl rfl ?_
    refine WO.iconst (x := (0 : Int32)) (n := 21) hA dX6_hush_20 (by decide) rfl ?_
    refine WO.istore (lv' := [(5, .int (0 : Int32)), (4, .int (1 : Int32)), (3, .int (0 : Int32)), (2, .int x_3), (0, .ref (w.2.1 0)), (1, .int x1)]) (n := 23) hA dX6_hush_21 (by decide) rfl rfl ?_
    refine WO.sub (lv' := [(0, .ref (w.2.1 0)), (1, .int x1), (2, .int x_3), (3, .int (0 : Int32)), (4, .int (1 : Int32)), (5, .int (0 : Int32))]) [4, 5, 3, 2, 1, 0] rfl ?_
    refine w_X6_hush_L23 hw hA x1 x_3 _ (fun e16 e17 M18 => ?_) _ _ _ _ _
    refine WO.aload_n (n := 118) hA dX6_hush_117 0 rfl rfl ?_
    refine WO.iload_n (n := 119) hA dX6_hush_118 1 rfl rfl ?_
    refine WO.putI (j := 9) (n := 122) hA (m_0 hw) rfl fiX6_hush_X6 tyX6 tyX6_ok nmX6 (by decide) rfl fkX6_hush_114 rfl rfl rfl rfl dX6_hush_119 rfl ?_
    refine WO.mem (fun M19 => ?_)
    refine WO.iload (n := 124) hA dX6_hush_122 3 rfl rfl ?_
    refine WO.if_eq (tg := 131) (n := 127) hA dX6_hush_124 (by decide) rfl (fun _ => ?_) (fun _ => ?_)
    · refine WO.bipush (x := (-9 : Int32)) (n := 133) hA dX6_hush_131 (by decide) rfl ?_
      exact WO.iret hA dX6_hush_133
    · refine WO.iload_n (n := 128) hA dX6_hush_127 2 rfl rfl ?_
      refine WO.goto (n := 133) hA dX6_hush_128 (by decide) ?_
      exact WO.iret hA dX6_hush_133
/- X6_reading -/
abbrev rmX6_reading : Room := { frames := 1, cells := 0, slots := 0, locals := 22 }
theorem mdX6_reading : yX6_reading.cls = RX6 ∧ yX6_reading.cls ≠ "java/lang/invoke/MethodHandle" ∧ yX6_reading.cls ≠ "java/lang/invoke/VarHandle" ∧ (parseMethodDescriptor yX6_reading.desc).map (fun d => d.parameters.length) = some 4 := by decide +kernel
theorem fkX6_reading_120 : Cond.fieldLink RX6 120 (TX6 25).1 (TX6 25).2.1 (TX6 25).2.2.1 ∈ wsX6_reading := by decide +kernel
theorem fiX6_reading_X6 : ∀ q ∈ u_ws RX6 TX6 30, q ∈ wsX6_reading := by decide +kernel
theorem fkX6_reading_46 : Cond.fieldLink RX6 46 (TX6 26).1 (TX6 26).2.1 (TX6 26).2.2.1 ∈ wsX6_reading := by decide +kernel
theorem fkX6_reading_49 : Cond.fieldLink RX6 49 (TX6 27).1 (TX6 27).2.1 (TX6 27).2.2.1 ∈ wsX6_reading := by decide +kernel
theorem fkX6_reading_52 : Cond.fieldLink RX6 52 (TX6 28).1 (TX6 28).2.1 (TX6 28).2.2.1 ∈ wsX6_reading := by decide +kernel
theorem fkX6_reading_55 : Cond.fieldLink RX6 55 (TX6 29).1 (TX6 29).2.1 (TX6 29).2.2.1 ∈ wsX6_reading := by decide +kernel
noncomputable def f_X6_reading (x1 : Int32) (x2 : Int32) (x3 : Int32) (x4 : Int32) (M : Mem) : Option (Int32 × Mem) := bd (f_X6_isClock x1 M) (fun r2 M1 => if r2 = 0 then (some ((-1 : Int32), M1)) else (bd (f_X6_isHouse x2 M1) (fun r4 M3 => if r4 = 0 then (some ((-1 : Int32), M3)) else (bd (f_X6_isHouse x3 M3) (fun r6 M5 => if r6 = 0 then (some ((-1 : Int32), M5)) else (bd (f_X6_within x4 (0 : Int32) (1 : Int32) M5) (fun r8 M7 => if r8 = 0 then (some ((-2 : Int32), M7)) else (if (M7 0 25) = (8 : Int32) then (some ((-4 : Int32), M7)) else (grd (M7 0 25) 8 (mlt (mu M7 13 (M7 0 25).toNatClampNeg x1) (fun M9 => grd (M9 0 25) 8 (mlt (mu M9 14 (M9 0 25).toNatClampNeg x2) (fun M10 => grd (M10 0 25) 8 (mlt (mu M10 15 (M10 0 25).toNatClampNeg x3) (fun M11 => grd (M11 0 25) 8 (mlt (mu M11 16 (M11 0 25).toNatClampNeg x4) (fun M12 => mlt (mu M12 0 25 ((M12 0 25) + (1 : Int32))) (fun M13 => some (((M13 0 25) - (1 : Int32)), M13)))))))))))))))))))
set_option maxHeartbeats 4000000 in
set_option maxRecDepth 100000 in
theorem c_X6_reading (l : Launch) (w : Cw) (hw : w.2.2.2.2.2 = shM) (x1 : Int32) (x2 : Int32) (x3 : Int32) (x4 : Int32) (M : Mem) : Ok l w eI yX6_reading wsX6_reading rmX6_reading [.ref (w.2.1 0), .int x1, .int x2, .int x3, .int x4] M (f_X6_reading x1 x2 x3 x4 M) := by
  refine Ok.of (cc := cX6_reading) (nL := 5) (ret := (some .int)) (lv := [(0, .ref (w.2.1 0)), (1, .int x1), (2, .int x2), (3, .int x3), (4, .int x4)]) (by decide) rfl (Nat.le_of_ble_eq_true rfl) rfl (fun v hv hA => ?_)
  subst hv
  have hA : Act v w RX6 wsX6_reading cX6_reading 5 (some .int) := hA
  unfold f_X6_reading
  refine WO.aload_n (n := 1) hA dX6_reading_0 0 rfl rfl ?_
  refine WO.iload_n (n := 2) hA dX6_reading_1 1 rfl rfl ?_
  refine WO.callVi (As := [.int x1]) (rest := []) (n := 5) hA (c_X6_isClock v.2.1 w hw x1 M) gX6_reading_X6_isClock rfl (m_0 hw) rfl mdX6_isClock ⟨rfl, rfl, Nat.le_of_ble_eq_true rfl, Nat.le_of_ble_eq_true rfl⟩ rfl rfl (Nat.le_of_ble_eq_true rfl) dX6_reading_2 rfl (fun r2 M1 => ?_)
  refine WO.if_eq (tg := 24) (n := 8) hA dX6_reading_5 (by decide) rfl (fun _ => ?_) (fun _ => ?_)
  · refine WO.iconst (x := (-1 : Int32)) (n := 25) hA dX6_reading_24 (by decide) rfl ?_
    exact WO.iret hA dX6_reading_25
  · refine WO.aload_n (n := 9) hA dX6_reading_8 0 rfl rfl ?_
    refine WO.iload_n (n := 10) hA dX6_reading_9 2 rfl rfl ?_
    refine WO.callVi (As := [.int x2]) (rest := []) (n := 13) hA (c_X6_isHouse v.2.1 w hw x2 M1) gX6_reading_X6_isHouse rfl (m_0 hw) rfl mdX6_isHouse ⟨rfl, rfl, Nat.le_of_ble_eq_true rfl, Nat.le_of_ble_eq_true rfl⟩ rfl rfl (Nat.le_of_ble_eq_true rfl) dX6_reading_10 rfl (fun r4 M3 => ?_)
    refine WO.if_eq (tg := 24) (n := 16) hA dX6_reading_13 (by decide) rfl (fun _ => ?_) (fun _ => ?_)
    · refine WO.iconst (x := (-1 : Int32)) (n := 25) hA dX6_reading_24 (by decide) rfl ?_
      exact WO.iret hA dX6_reading_25
    · refine WO.aload_n (n := 17) hA dX6_reading_16 0 rfl rfl ?_
      refine WO.iload_n (n := 18) hA dX6_reading_17 3 rfl rfl ?_
      refine WO.callVi (As := [.int x3]) (rest := []) (n := 21) hA (c_X6_isHouse v.2.1 w hw x3 M3) gX6_reading_X6_isHouse rfl (m_0 hw) rfl mdX6_isHouse ⟨rfl, rfl, Nat.le_of_ble_eq_true rfl, Nat.le_of_ble_eq_true rfl⟩ rfl rfl (Nat.le_of_ble_eq_true rfl) dX6_reading_18 rfl (fun r6 M5 => ?_)
      refine WO.if_ne (tg := 26) (n := 24) hA dX6_reading_21 (by decide) rfl (fun _ => ?_) (fun _ => ?_)
      · refine WO.iconst (x := (-1 : Int32)) (n := 25) hA dX6_reading_24 (by decide) rfl ?_
        exact WO.iret hA dX6_reading_25
      · refine WO.iload (n := 28) hA dX6_reading_26 4 rfl rfl ?_
        refine WO.iconst (x := (0 : Int32)) (n := 29) hA dX6_reading_28 (by decide) rfl ?_
        refine WO.iconst (x := (1 : Int32)) (n := 30) hA dX6_reading_29 (by decide) rfl ?_
        refine WO.callSi (As := [.int x4, .int (0 : Int32), .int (1 : Int32)]) (rest := []) (n := 33) hA (c_X6_within v.2.1 w hw x4 (0 : Int32) (1 : Int32) M5) gX6_reading_X6_within rfl mdX6_within ⟨rfl, rfl, Nat.le_of_ble_eq_true rfl, Nat.le_of_ble_eq_true rfl⟩ rfl rfl (Nat.le_of_ble_eq_true rfl) dX6_reading_30 rfl (fun r8 M7 => ?_)
        refine WO.if_ne (tg := 39) (n := 36) hA dX6_reading_33 (by decide) rfl (fun _ => ?_) (fun _ => ?_)
        · refine WO.bipush (x := (-2 : Int32)) (n := 38) hA dX6_reading_36 (by decide) rfl ?_
          exact WO.iret hA dX6_reading_38
        · refine WO.aload_n (n := 40) hA dX6_reading_39 0 rfl rfl ?_
          refine WO.getI (j := 25) (n := 43) hA (m_0 hw) rfl fiX6_reading_X6 (by decide) rfl fkX6_reading_120 dX6_reading_40 rfl ?_
          refine WO.bipush (x := (8 : Int32)) (n := 45) hA dX6_reading_43 (by decide) rfl ?_
          refine WO.icmp_ne (tg := 51) (n := 48) hA dX6_reading_45 (by decide) rfl (fun _ => ?_) (fun _ => ?_)
          · refine WO.bipush (x := (-4 : Int32)) (n := 50) hA dX6_reading_48 (by decide) rfl ?_
            exact WO.iret hA dX6_reading_50
          · refine WO.aload_n (n := 52) hA dX6_reading_51 0 rfl rfl ?_
            refine WO.getR (j := 26) (p := 13) (n := 55) hA (m_0 hw) rfl fiX6_reading_X6 (by decide) rfl fkX6_reading_46 dX6_reading_52 rfl ?_
            refine WO.aload_n (n := 56) hA dX6_reading_55 0 rfl rfl ?_
            refine WO.getI (j := 25) (n := 59) hA (m_0 hw) rfl fiX6_reading_X6 (by decide) rfl fkX6_reading_120 dX6_reading_56 rfl ?_
            refine WO.iload_n (n := 60) hA dX6_reading_59 1 rfl rfl ?_
            refine WO.iast (n := 61) hA (m_13 hw) dX6_reading_60 rfl (fun _ => ?_)
            refine WO.mem (fun M9 => ?_)
            refine WO.aload_n (n := 62) hA dX6_reading_61 0 rfl rfl ?_
            refine WO.getR (j := 27) (p := 14) (n := 65) hA (m_0 hw) rfl fiX6_reading_X6 (by decide) rfl fkX6_reading_49 dX6_reading_62 rfl ?_
            refine WO.aload_n (n := 66) hA dX6_reading_65 0 rfl rfl ?_
            refine WO.getI (j := 25) (n := 69) hA (m_0 hw) rfl fiX6_reading_X6 (by decide) rfl fkX6_reading_120 dX6_reading_66 rfl ?_
            refine WO.iload_n (n := 70) hA dX6_reading_69 2 rfl rfl ?_
            refine WO.iast (n := 71) hA (m_14 hw) dX6_reading_70 rfl (fun _ => ?_)
            refine WO.mem (fun M10 => ?_)
            refine WO.aload_n (n := 72) hA dX6_reading_71 0 rfl rfl ?_
            refine WO.getR (j := 28) (p := 15) (n := 75) hA (m_0 hw) rfl fiX6_reading_X6 (by decide) rfl fkX6_reading_52 dX6_reading_72 rfl ?_
            refine WO.aload_n (n := 76) hA dX6_reading_75 0 rfl rfl ?_
            refine WO.getI (j := 25) (n := 79) hA (m_0 hw) rfl fiX6_reading_X6 (by decide) rfl fkX6_reading_120 dX6_reading_76 rfl ?_
            refine WO.iload_n (n := 80) hA dX6_reading_79 3 rfl rfl ?_
            refine WO.iast (n := 81) hA (m_15 hw) dX6_reading_80 rfl (fun _ => ?_)
            refine WO.mem (fun M11 => ?_)
            refine WO.aload_n (n := 82) hA dX6_reading_81 0 rfl rfl ?_
            refine WO.getR (j := 29) (p := 16) (n := 85) hA (m_0 hw) rfl fiX6_reading_X6 (by decide) rfl fkX6_reading_55 dX6_reading_82 rfl ?_
            refine WO.aload_n (n := 86) hA dX6_reading_85 0 rfl rfl ?_
            refine WO.getI (j := 25) (n := 89) hA (m_0 hw) rfl fiX6_reading_X6 (by decide) rfl fkX6_reading_120 dX6_reading_86 rfl ?_
            refine WO.iload (n := 91) hA dX6_reading_89 4 rfl rfl ?_
            refine WO.iast (n := 92) hA (m_16 hw) dX6_reading_91 rfl (fun _ => ?_)
            refine WO.mem (fun M12 => ?_)
            refine WO.aload_n (n := 93) hA dX6_reading_92 0 rfl rfl ?_
            refine WO.dup (n := 94) hA dX6_reading_93 rfl rfl ?_
            refine WO.getI (j := 25) (n := 97) hA (m_0 hw) rfl fiX6_reading_X6 (by decide) rfl fkX6_reading_120 dX6_reading_94 rfl ?_
            refine WO.iconst (x := (1 : Int32)) (n := 98) hA dX6_reading_97 (by decide) rfl ?_
            refine WO.iadd (n := 99) hA dX6_reading_98 rfl ?_
            refine WO.putI (j := 25) (n := 102) hA (m_0 hw) rfl fiX6_reading_X6 tyX6 tyX6_ok nmX6 (by decide) rfl fkX6_reading_120 rfl rfl rfl rfl dX6_reading_99 rfl ?_
            refine WO.mem (fun M13 => ?_)
            refine WO.aload_n (n := 103) hA dX6_reading_102 0 rfl rfl ?_
            refine WO.getI (j := 25) (n := 106) hA (m_0 hw) rfl fiX6_reading_X6 (by decide) rfl fkX6_reading_120 dX6_reading_103 rfl ?_
            refine WO.iconst (x := (1 : Int32)) (n := 107) hA dX6_reading_106 (by decide) rfl ?_
            refine WO.isub (n := 108) hA dX6_reading_107 rfl ?_
            exact WO.iret hA dX6_reading_108
/- X6_back -/
abbrev rmX6_back : Room := { frames := 1, cells := 0, slots := 0, locals := 22 }
theorem mdX6_back : yX6_back.cls = RX6 ∧ yX6_back.cls ≠ "java/lang/invoke/MethodHandle" ∧ yX6_back.cls ≠ "java/lang/invoke/VarHandle" ∧ (parseMethodDescriptor yX6_back.desc).map (fun d => d.parameters.length) = some 1 := by decide +kernel
theorem fkX6_back_120 : Cond.fieldLink RX6 120 (TX6 25).1 (TX6 25).2.1 (TX6 25).2.2.1 ∈ wsX6_back := by decide +kernel
theorem fiX6_back_X6 : ∀ q ∈ u_ws RX6 TX6 30, q ∈ wsX6_back := by decide +kernel
noncomputable def f_X6_back (x1 : Int32) (M : Mem) : Option (Int32 × Mem) := bd (f_X6_within x1 (0 : Int32) (M 0 25) M) (fun r2 M1 => if r2 = 0 then (some ((-2 : Int32), M1)) else (mlt (mu M1 0 25 ((M1 0 25) - x1)) (fun M3 => some ((M3 0 25), M3))))
set_option maxHeartbeats 4000000 in
set_option maxRecDepth 100000 in
theorem c_X6_back (l : Launch) (w : Cw) (hw : w.2.2.2.2.2 = shM) (x1 : Int32) (M : Mem) : Ok l w eI yX6_back wsX6_back rmX6_back [.ref (w.2.1 0), .int x1] M (f_X6_back x1 M) := by
  refine Ok.of (cc := cX6_back) (nL := 2) (ret := (some .int)) (lv := [(0, .ref (w.2.1 0)), (1, .int x1)]) (by decide) rfl (Nat.le_of_ble_eq_true rfl) rfl (fun v hv hA => ?_)
  subst hv
  have hA : Act v w RX6 wsX6_back cX6_back 2 (some .int) := hA
  unfold f_X6_back
  refine WO.iload_n (n := 1) hA dX6_back_0 1 rfl rfl ?_
  refine WO.iconst (x := (0 : Int32)) (n := 2) hA dX6_back_1 (by decide) rfl ?_
  refine WO.aload_n (n := 3) hA dX6_back_2 0 rfl rfl ?_
  refine WO.getI (j := 25) (n := 6) hA (m_0 hw) rfl fiX6_back_X6 (by decide) rfl fkX6_back_120 dX6_back_3 rfl ?_
  refine WO.callSi (As := [.int x1, .int (0 : Int32), .int (M 0 25)]) (rest := []) (n := 9) hA (c_X6_within v.2.1 w hw x1 (0 : Int32) (M 0 25) M) gX6_back_X6_within rfl mdX6_within ⟨rfl, rfl, Nat.le_of_ble_eq_true rfl, Nat.le_of_ble_eq_true rfl⟩ rfl rfl (Nat.le_of_ble_eq_true rfl) dX6_back_6 rfl (fun r2 M1 => ?_)
  refine WO.if_ne (tg := 15) (n := 12) hA dX6_back_9 (by decide) rfl (fun _ => ?_) (fun _ => ?_)
  · refine WO.bipush (x := (-2 : Int32)) (n := 14) hA dX6_back_12 (by decide) rfl ?_
    exact WO.iret hA dX6_back_14
  · refine WO.aload_n (n := 16) hA dX6_back_15 0 rfl rfl ?_
    refine WO.dup (n := 17) hA dX6_back_16 rfl rfl ?_
    refine WO.getI (j := 25) (n := 20) hA (m_0 hw) rfl fiX6_back_X6 (by decide) rfl fkX6_back_120 dX6_back_17 rfl ?_
    refine WO.iload_n (n := 21) hA dX6_back_20 1 rfl rfl ?_
    refine WO.isub (n := 22) hA dX6_back_21 rfl ?_
    refine WO.putI (j := 25) (n := 25) hA (m_0 hw) rfl fiX6_back_X6 tyX6 tyX6_ok nmX6 (by decide) rfl fkX6_back_120 rfl rfl rfl rfl dX6_back_22 rfl ?_
    refine WO.mem (fun M3 => ?_)
    refine WO.aload_n (n := 26) hA dX6_back_25 0 rfl rfl ?_
    refine WO.getI (j := 25) (n := 29) hA (m_0 hw) rfl fiX6_back_X6 (by decide) rfl fkX6_back_120 dX6_back_26 rfl ?_
    exact WO.iret hA dX6_back_29
/- X6_areSo -/
abbrev rmX6_areSo : Room := { frames := 4, cells := 0, slots := 0, locals := 89 }
theorem mdX6_areSo : yX6_areSo.cls = RX6 ∧ yX6_areSo.cls ≠ "java/lang/invoke/MethodHandle" ∧ yX6_areSo.cls ≠ "java/lang/invoke/VarHandle" ∧ (parseMethodDescriptor yX6_areSo.desc).map (fun d => d.parameters.length) = some 0 := by decide +kernel
theorem fkX6_areSo_120 : Cond.fieldLink RX6 120 (TX6 25).1 (TX6 25).2.1 (TX6 25).2.2.1 ∈ wsX6_areSo := by decide +kernel
theorem fiX6_areSo_X6 : ∀ q ∈ u_ws RX6 TX6 30, q ∈ wsX6_areSo := by decide +kernel
theorem fkX6_areSo_52 : Cond.fieldLink RX6 52 (TX6 28).1 (TX6 28).2.1 (TX6 28).2.2.1 ∈ wsX6_areSo := by decide +kernel
theorem fkX6_areSo_46 : Cond.fieldLink RX6 46 (TX6 26).1 (TX6 26).2.1 (TX6 26).2.2.1 ∈ wsX6_areSo := by decide +kernel
theorem fkX6_areSo_49 : Cond.fieldLink RX6 49 (TX6 27).1 (TX6 27).2.1 (TX6 27).2.2.1 ∈ wsX6_areSo := by decide +kernel
theorem fkX6_areSo_55 : Cond.fieldLink RX6 55 (TX6 29).1 (TX6 29).2.1 (TX6 29).2.2.1 ∈ wsX6_areSo := by decide +kernel
noncomputable def f_X6_areSo_L2 (kx : Mem → Option (Int32 × Mem)) : Nat → Int32 → Mem → Option (Int32 × Mem)
  | 0, _, _ => none
  | n + 1, x1, M => if (M 0 25) ≤ x1 then (kx  M) else (grd x1 8 (grd x1 8 (grd x1 8 (bd (f_X6_wakesFrom (M 15 x1.toNatClampNeg) (M 13 x1.toNatClampNeg) (M 14 x1.toNatClampNeg) M) (fun r2 M1 => if r2 = 0 then (grd x1 8 (if (0 : Int32) = (M1 16 x1.toNatClampNeg) then (f_X6_areSo_L2 kx n (x1 + (1 : Int32)) M1) else (some ((0 : Int32), M1)))) else (grd x1 8 (if (1 : Int32) = (M1 16 x1.toNatClampNeg) then (f_X6_areSo_L2 kx n (x1 + (1 : Int32)) M1) else (some ((0 : Int32), M1)))))))))
noncomputable def f_X6_areSo (M : Mem) : Option (Int32 × Mem) := f_X6_areSo_L2 (fun  M3 => some ((1 : Int32), M3)) FU (0 : Int32) M
set_option maxHeartbeats 4000000 in
set_option maxRecDepth 100000 in
theorem w_X6_areSo_L2 {v : Av} {w : Cw} (hw : w.2.2.2.2.2 = shM) (hA : Act v w RX6 wsX6_areSo cX6_areSo 3 (some .boolean)) (kx : Mem → Option (Int32 × Mem)) (hk : ∀ (M : Mem), WO v w rmX6_areSo 3 eI (kx M) 59 [] [] M) : ∀ (n : Nat) (x1 : Int32) (M : Mem), WO v w rmX6_areSo 3 eI (f_X6_areSo_L2 kx n x1 M) 2 [(0, .ref (w.2.1 0)), (1, .int x1)] [] M := by
  intro n
  induction n with
  | zero => intro x1 M; exact WO.nothing
  | succ n ih =>
    intro x1 M
    rw [f_X6_areSo_L2]
    refine WO.iload_n (n := 3) hA dX6_areSo_2 1 rfl rfl ?_
    refine WO.aload_n (n := 4) hA dX6_areSo_3 0 rfl rfl ?_
    refine WO.getI (j := 25) (n := 7) hA (m_0 hw) rfl fiX6_areSo_X6 (by decide) rfl fkX6_areSo_120 dX6_areSo_4 rfl ?_
    refine WO.icmp_ge (tg := 59) (n := 10) hA dX6_areSo_7 (by decide) rfl (fun _ => ?_) (fun _ => ?_)
    · refine WO.sub (lv' := []) [] rfl ?_
      exact hk  M
    · refine WO.aload_n (n := 11) hA dX6_areSo_10 0 rfl rfl ?_
      refine WO.aload_n (n := 12) hA dX6_areSo_11 0 rfl rfl ?_
      refine WO.getR (j := 28) (p := 15) (n := 15) hA (m_0 hw) rfl fiX6_areSo_X6 (by decide) rfl fkX6_areSo_52 dX6_areSo_12 rfl ?_
      refine WO.iload_n (n := 16) hA dX6_areSo_15 1 rfl rfl ?_
      refine WO.iald (n := 17) hA (m_15 hw) dX6_areSo_16 rfl (fun _ => ?_)
      refine WO.aload_n (n := 18) hA dX6_areSo_17 0 rfl rfl ?_
      refine WO.getR (j := 26) (p := 13) (n := 21) hA (m_0 hw) rfl fiX6_areSo_X6 (by decide) rfl fkX6_areSo_46 dX6_areSo_18 rfl ?_
      refine WO.iload_n (n := 22) hA dX6_areSo_21 1 rfl rfl ?_
      refine WO.iald (n := 23) hA (m_13 hw) dX6_areSo_22 rfl (fun _ => ?_)
      refine WO.aload_n (n := 24) hA dX6_areSo_23 0 rfl rfl ?_
      refine WO.getR (j := 27) (p := 14) (n := 27) hA (m_0 hw) rfl fiX6_areSo_X6 (by decide) rfl fkX6_areSo_49 dX6_areSo_24 rfl ?_
      refine WO.iload_n (n := 28) hA dX6_areSo_27 1 rfl rfl ?_
      refine WO.iald (n := 29) hA (m_14 hw) dX6_areSo_28 rfl (fun _ => ?_)
      refine WO.callVi (As := [.int (M 15 x1.toNatClampNeg), .int (M 13 x1.toNatClampNeg), .int (M 14 x1.toNatClampNeg)]) (rest := []) (n := 32) hA (c_X6_wakesFrom v.2.1 w hw (M 15 x1.toNatClampNeg) (M 13 x1.toNatClampNeg) (M 14 x1.toNatClampNeg) M) gX6_areSo_X6_wakesFrom rfl (m_0 hw) rfl mdX6_wakesFrom ⟨rfl, rfl, Nat.le_of_ble_eq_true rfl, Nat.le_of_ble_eq_true rfl⟩ rfl rfl (Nat.le_of_ble_eq_true rfl) dX6_areSo_29 rfl (fun r2 M1 => ?_)
      refine WO.if_eq (tg := 39) (n := 35) hA dX6_areSo_32 (by decide) rfl (fun _ => ?_) (fun _ => ?_)
      · refine WO.iconst (x := (0 : Int32)) (n := 40) hA dX6_areSo_39 (by decide) rfl ?_
        refine WO.istore_n (i := 2) (lv' := [(2, .int (0 : Int32)), (0, .ref (w.2.1 0)), (1, .int x1)]) (n := 41) hA dX6_areSo_40 rfl (by decide) rfl rfl ?_
        refine WO.iload_n (n := 42) hA dX6_areSo_41 0 rfl rfl ?_
        refine WO.aload_n (n := 43) hA dX6_areSo_42 1 rfl rfl ?_
        refine WO.getR (j := 29) (p := 16) (n := 46) hA (m_0 hw) rfl fiX6_areSo_X6 (by decide) rfl fkX6_areSo_55 dX6_areSo_43 rfl ?_
        refine WO.iload_n (n := 47) hA dX6_areSo_46 2 rfl rfl ?_
        refine WO.iald (n := 48) hA (m_16 hw) dX6_areSo_47 rfl (fun _ => ?_)
        refine WO.icmp_eq (tg := 53) (n := 51) hA dX6_areSo_48 (by decide) rfl (fun _ => ?_) (fun _ => ?_)
        · refine WO.iinc (y := (1 : Int32)) (lv' := [(1, .int (x1 + (1 : Int32))), (2, .int (0 : Int32)), (0, .ref (w.2.1 0))]) (n := 56) hA dX6_areSo_53 2 rfl (by decide) (by decide) rfl rfl ?_
          refine WO.goto (n := 2) hA dX6_areSo_56 (by decide) ?_
          refine WO.sub (lv' := [(0, .ref (w.2.1 0)), (1, .int (x1 + (1 : Int32)))]) [2, 0] rfl ?_
          exact ih (x1 + (1 : Int32)) M1
        · refine WO.iconst (x := (0 : Int32)) (n := 52) hA dX6_areSo_51 (by decide) rfl ?_
          exact WO.zretc hA (by decide) dX6_areSo_52
      · refine WO.iconst (x := (1 : Int32)) (n := 36) hA dX6_areSo_35 (by decide) rfl ?_
        refine WO.goto (n := 40) hA dX6_areSo_36 (by decide) ?_
        refine WO.istore_n (i := 2) (lv' := [(2, .int (1 : Int32)), (0, .ref (w.2.1 0)), (1, .int x1)]) (n := 41) hA dX6_areSo_40 rfl (by decide) rfl rfl ?_
        refine WO.iload_n (n := 42) hA dX6_areSo_41 0 rfl rfl ?_
        refine WO.aload_n (n := 43) hA dX6_areSo_42 1 rfl rfl ?_
        refine WO.getR (j := 29) (p := 16) (n := 46) hA (m_0 hw) rfl fiX6_areSo_X6 (by decide) rfl fkX6_areSo_55 dX6_areSo_43 rfl ?_
        refine WO.iload_n (n := 47) hA dX6_areSo_46 2 rfl rfl ?_
        refine WO.iald (n := 48) hA (m_16 hw) dX6_areSo_47 rfl (fun _ => ?_)
        refine WO.icmp_eq (tg := 53) (n := 51) hA dX6_areSo_48 (by decide) rfl (fun _ => ?_) (fun _ => ?_)
        · refine WO.iinc (y := (1 : Int32)) (lv' := [(1, .int (x1 + (1 : Int32))), (2, .int (1 : Int32)), (0, .ref (w.2.1 0))]) (n := 56) hA dX6_areSo_53 2 rfl (by decide) (by decide) rfl rfl ?_
          refine WO.goto (n := 2) hA dX6_areSo_56 (by decide) ?_
          refine WO.sub (lv' := [(0, .ref (w.2.1 0)), (1, .int (x1 + (1 : Int32)))]) [2, 0] rfl ?_
          exact ih (x1 + (1 : Int32)) M1
        · refine WO.iconst (x := (0 : Int32)) (n := 52) hA dX6_areSo_51 (by decide) rfl ?_
          exact WO.zretc hA (by decide) dX6_areSo_52
set_option maxHeartbeats 4000000 in
set_option maxRecDepth 100000 in
theorem c_X6_areSo (l : Launch) (w : Cw) (hw : w.2.2.2.2.2 = shM) (M : Mem) : Ok l w eI yX6_areSo wsX6_areSo rmX6_areSo [.ref (w.2.1 0)] M (f_X6_areSo M) := by
  refine Ok.of (cc := cX6_areSo) (nL := 3) (ret := (some .boolean)) (lv := [(0, .ref (w.2.1 0))]) (by decide) rfl (Nat.le_of_ble_eq_true rfl) rfl (fun v hv hA => ?_)
  subst hv
  have hA : Act v w RX6 wsX6_areSo cX6_areSo 3 (some .boolean) := hA
  unfold f_X6_areSo
  refine WO.iconst (x := (0 : Int32)) (n := 1) hA dX6_areSo_0 (by decide) rfl ?_
  refine WO.istore_n (i := 1) (lv' := [(1, .int (0 : Int32)), (0, .ref (w.2.1 0))]) (n := 2) hA dX6_areSo_1 rfl (by decide) rfl rfl ?_
  refine WO.sub (lv' := [(0, .ref (w.2.1 0)), (1, .int (0 : Int32))]) [1, 0] rfl ?_
  refine w_X6_areSo_L2 hw hA _ (fun  M3 => ?_) _ _ _
  refine WO.iconst (x := (1 : Int32)) (n := 60) hA dX6_areSo_59 (by decide) rfl ?_
  exact WO.zretc hA (by decide) dX6_areSo_60
/- X6_depths -/
abbrev rmX6_depths : Room := { frames := 5, cells := 0, slots := 0, locals := 111 }
theorem mdX6_depths : yX6_depths.cls = RX6 ∧ yX6_depths.cls ≠ "java/lang/invoke/MethodHandle" ∧ yX6_depths.cls ≠ "java/lang/invoke/VarHandle" ∧ (parseMethodDescriptor yX6_depths.desc).map (fun d => d.parameters.length) = some 1 := by decide +kernel
theorem fkX6_depths_22 : Cond.fieldLink RX6 22 (TX6 11).1 (TX6 11).2.1 (TX6 11).2.2.1 ∈ wsX6_depths := by decide +kernel
theorem fiX6_depths_X6 : ∀ q ∈ u_ws RX6 TX6 30, q ∈ wsX6_depths := by decide +kernel
noncomputable def f_X6_depths_L22 (x1 : Int32) (x2 : Int32) (kx : Int32 → Mem → Option (Int32 × Mem)) : Nat → Int32 → Int32 → Mem → Option (Int32 × Mem)
  | 0, _, _, _ => none
  | n + 1, x3, x4, M => if (9 : Int32) < x4 then (kx x3 M) else (grd x1 6 (mlt (mu M 5 x1.toNatClampNeg x4) (fun M4 => bd (f_X6_areSo M4) (fun r6 M5 => if r6 = 0 then (ilt (x3 ||| (0 : Int32)) (fun x_7 => f_X6_depths_L22 x1 x2 kx n x_7 (x4 + (1 : Int32)) M5)) else (ilt (x3 ||| ((1 : Int32) <<< (x4 &&& 31))) (fun x_8 => f_X6_depths_L22 x1 x2 kx n x_8 (x4 + (1 : Int32)) M5))))))
noncomputable def f_X6_depths (x1 : Int32) (M : Mem) : Option (Int32 × Mem) := bd (f_X6_isHouse x1 M) (fun r2 M1 => if r2 = 0 then (some ((-1 : Int32), M1)) else (grd x1 6 (ilt (M1 5 x1.toNatClampNeg) (fun x_3 => f_X6_depths_L22 x1 x_3 (fun e9 M10 => grd x1 6 (mlt (mu M10 5 x1.toNatClampNeg x_3) (fun M11 => some (e9, M11)))) FU (0 : Int32) (1 : Int32) M1))))
set_option maxHeartbeats 4000000 in
set_option maxRecDepth 100000 in
theorem w_X6_depths_L22 {v : Av} {w : Cw} (hw : w.2.2.2.2.2 = shM) (hA : Act v w RX6 wsX6_depths cX6_depths 5 (some .int)) (x1 : Int32) (x2 : Int32) (kx : Int32 → Mem → Option (Int32 × Mem)) (hk : ∀ (y3 : Int32) (M : Mem), WO v w rmX6_depths 5 eI (kx y3 M) 61 [(0, .ref (w.2.1 0)), (1, .int x1), (2, .int x2), (3, .int y3)] [] M) : ∀ (n : Nat) (x3 : Int32) (x4 : Int32) (M : Mem), WO v w rmX6_depths 5 eI (f_X6_depths_L22 x1 x2 kx n x3 x4 M) 22 [(0, .ref (w.2.1 0)), (1, .int x1), (2, .int x2), (3, .int x3), (4, .int x4)] [] M := by
  intro n
  induction n with
  | zero => intro x3 x4 M; exact WO.nothing
  | succ n ih =>
    intro x3 x4 M
    rw [f_X6_depths_L22]
    refine WO.iload (n := 24) hA dX6_depths_22 4 rfl rfl ?_
    refine WO.bipush (x := (9 : Int32)) (n := 26) hA dX6_depths_24 (by decide) rfl ?_
    refine WO.icmp_gt (tg := 61) (n := 29) hA dX6_depths_26 (by decide) rfl (fun _ => ?_) (fun _ => ?_)
    · refine WO.sub (lv' := [(0, .ref (w.2.1 0)), (1, .int x1), (2, .int x2), (3, .int x3)]) [0, 1, 2, 3] rfl ?_
      exact hk x3 M
    · refine WO.aload_n (n := 30) hA dX6_depths_29 0 rfl rfl ?_
      refine WO.getR (j := 11) (p := 5) (n := 33) hA (m_0 hw) rfl fiX6_depths_X6 (by decide) rfl fkX6_depths_22 dX6_depths_30 rfl ?_
      refine WO.iload_n (n := 34) hA dX6_depths_33 1 rfl rfl ?_
      refine WO.iload (n := 36) hA dX6_depths_34 4 rfl rfl ?_
      refine WO.iast (n := 37) hA (m_5 hw) dX6_depths_36 rfl (fun _ => ?_)
      refine WO.mem (fun M4 => ?_)
      refine WO.iload_n (n := 38) hA dX6_depths_37 3 rfl rfl ?_
      refine WO.aload_n (n := 39) hA dX6_depths_38 0 rfl rfl ?_
      refine WO.callVi (As := []) (rest := [.int x3]) (n := 42) hA (c_X6_areSo v.2.1 w hw M4) gX6_depths_X6_areSo rfl (m_0 hw) rfl mdX6_areSo ⟨rfl, rfl, Nat.le_of_ble_eq_true rfl, Nat.le_of_ble_eq_true rfl⟩ rfl rfl (Nat.le_of_ble_eq_true rfl) dX6_depths_39 rfl (fun r6 M5 => ?_)
      refine WO.if_eq (tg := 52) (n := 45) hA dX6_depths_42 (by decide) rfl (fun _ => ?_) (fun _ => ?_)
      · refine WO.iconst (x := (0 : Int32)) (n := 53) hA dX6_depths_52 (by decide) rfl ?_
        refine WO.ior (n := 54) hA dX6_depths_53 rfl ?_
        refine WO.top (fun x_7 => ?_)
        refine WO.istore_n (i := 3) (lv' := [(3, .int x_7), (0, .ref (w.2.1 0)), (1, .int x1), (2, .int x2), (4, .int x4)]) (n := 55) hA dX6_depths_54 rfl (by decide) rfl rfl ?_
        refine WO.iinc (y := (1 : Int32)) (lv' := [(4, .int (x4 + (1 : Int32))), (3, .int x_7), (0, .ref (w.2.1 0)), (1, .int x1), (2, .int x2)]) (n := 58) hA dX6_depths_55 4 rfl (by decide) (by decide) rfl rfl ?_
        refine WO.goto (n := 22) hA dX6_depths_58 (by decide) ?_
        refine WO.sub (lv' := [(0, .ref (w.2.1 0)), (1, .int x1), (2, .int x2), (3, .int x_7), (4, .int (x4 + (1 : Int32)))]) [2, 3, 4, 1, 0] rfl ?_
        exact ih x_7 (x4 + (1 : Int32)) M5
      · refine WO.iconst (x := (1 : Int32)) (n := 46) hA dX6_depths_45 (by decide) rfl ?_
        refine WO.iload (n := 48) hA dX6_depths_46 4 rfl rfl ?_
        refine WO.ishl (n := 49) hA dX6_depths_48 rfl ?_
        refine WO.goto (n := 53) hA dX6_depths_49 (by decide) ?_
        refine WO.ior (n := 54) hA dX6_depths_53 rfl ?_
        refine WO.top (fun x_8 => ?_)
        refine WO.istore_n (i := 3) (lv' := [(3, .int x_8), (0, .ref (w.2.1 0)), (1, .int x1), (2, .int x2), (4, .int x4)]) (n := 55) hA dX6_depths_54 rfl (by decide) rfl rfl ?_
        refine WO.iinc (y := (1 : Int32)) (lv' := [(4, .int (x4 + (1 : Int32))), (3, .int x_8), (0, .ref (w.2.1 0)), (1, .int x1), (2, .int x2)]) (n := 58) hA dX6_depths_55 4 rfl (by decide) (by decide) rfl rfl ?_
        refine WO.goto (n := 22) hA dX6_depths_58 (by decide) ?_
        refine WO.sub (lv' := [(0, .ref (w.2.1 0)), (1, .int x1), (2, .int x2), (3, .int x_8), (4, .int (x4 + (1 : Int32)))]) [2, 3, 4, 1, 0] rfl ?_
        exact ih x_8 (x4 + (1 : Int32)) M5
set_option maxHeartbeats 4000000 in
set_option maxRecDepth 100000 in
theorem c_X6_depths (l : Launch) (w : Cw) (hw : w.2.2.2.2.2 = shM) (x1 : Int32) (M : Mem) : Ok l w eI yX6_depths wsX6_depths rmX6_depths [.ref (w.2.1 0), .int x1] M (f_X6_depths x1 M) := by
  refine Ok.of (cc := cX6_depths) (nL := 5) (ret := (some .int)) (lv := [(0, .ref (w.2.1 0)), (1, .int x1)]) (by decide) rfl (Nat.le_of_ble_eq_true rfl) rfl (fun v hv hA => ?_)
  subst hv
  have hA : Act v w RX6 wsX6_depths cX6_depths 5 (some .int) := hA
  unfold f_X6_depths
  refine WO.aload_n (n := 1) hA dX6_depths_0 0 rfl rfl ?_
  refine WO.iload_n (n := 2) hA dX6_depths_1 1 rfl rfl ?_
  refine WO.callVi (As := [.int x1]) (rest := []) (n := 5) hA (c_X6_isHouse v.2.1 w hw x1 M) gX6_depths_X6_isHouse rfl (m_0 hw) rfl mdX6_isHouse ⟨rfl, rfl, Nat.le_of_ble_eq_true rfl, Nat.le_of_ble_eq_true rfl⟩ rfl rfl (Nat.le_of_ble_eq_true rfl) dX6_depths_2 rfl (fun r2 M1 => ?_)
  refine WO.if_ne (tg := 10) (n := 8) hA dX6_depths_5 (by decide) rfl (fun _ => ?_) (fun _ => ?_)
  · refine WO.iconst (x := (-1 : Int32)) (n := 9) hA dX6_depths_8 (by decide) rfl ?_
    exact WO.iret hA dX6_depths_9
  · refine WO.aload_n (n := 11) hA dX6_depths_10 0 rfl rfl ?_
    refine WO.getR (j := 11) (p := 5) (n := 14) hA (m_0 hw) rfl fiX6_depths_X6 (by decide) rfl fkX6_depths_22 dX6_depths_11 rfl ?_
    refine WO.iload_n (n := 15) hA dX6_depths_14 1 rfl rfl ?_
    refine WO.iald (n := 16) hA (m_5 hw) dX6_depths_15 rfl (fun _ => ?_)
    refine WO.top (fun x_3 => ?_)
    refine WO.istore_n (i := 2) (lv' := [(2, .int x_3), (0, .ref (w.2.1 0)), (1, .int x1)]) (n := 17) hA dX6_depths_16 rfl (by decide) rfl rfl ?_
    refine WO.iconst (x := (0 : Int32)) (n := 18) hA dX6_depths_17 (by decide) rfl ?_
    refine WO.istore_n (i := 3) (lv' := [(3, .int (0 : Int32)), (2, .int x_3), (0, .ref (w.2.1 0)), (1, .int x1)]) (n := 19) hA dX6_depths_18 rfl (by decide) rfl rfl ?_
    refine WO.iconst (x := (1 : Int32)) (n := 20) hA dX6_depths_19 (by decide) rfl ?_
    refine WO.istore (lv' := [(4, .int (1 : Int32)), (3, .int (0 : Int32)), (2, .int x_3), (0, .ref (w.2.1 0)), (1, .int x1)]) (n := 22) hA dX6_depths_20 (by decide) rfl rfl ?_
    refine WO.sub (lv' := [(0, .ref (w.2.1 0)), (1, .int x1), (2, .int x_3), (3, .int (0 : Int32)), (4, .int (1 : Int32))]) [3, 4, 2, 1, 0] rfl ?_
    refine w_X6_depths_L22 hw hA x1 x_3 _ (fun e9 M10 => ?_) _ _ _ _
    refine WO.aload_n (n := 62) hA dX6_depths_61 0 rfl rfl ?_
    refine WO.getR (j := 11) (p := 5) (n := 65) hA (m_0 hw) rfl fiX6_depths_X6 (by decide) rfl fkX6_depths_22 dX6_depths_62 rfl ?_
    refine WO.iload_n (n := 66) hA dX6_depths_65 1 rfl rfl ?_
    refine WO.iload_n (n := 67) hA dX6_depths_66 2 rfl rfl ?_
    refine WO.iast (n := 68) hA (m_5 hw) dX6_depths_67 rfl (fun _ => ?_)
    refine WO.mem (fun M11 => ?_)
    refine WO.iload_n (n := 69) hA dX6_depths_68 3 rfl rfl ?_
    exact WO.iret hA dX6_depths_69
