/- X6_kinds -/
abbrev rmX6_kinds : Room := { frames := 5, cells := 0, slots := 0, locals := 111 }
theorem mdX6_kinds : yX6_kinds.cls = RX6 ∧ yX6_kinds.cls ≠ "java/lang/invoke/MethodHandle" ∧ yX6_kinds.cls ≠ "java/lang/invoke/VarHandle" ∧ (parseMethodDescriptor yX6_kinds.desc).map (fun d => d.parameters.length) = some 1 := by decide +kernel
theorem fkX6_kinds_19 : Cond.fieldLink RX6 19 (TX6 10).1 (TX6 10).2.1 (TX6 10).2.2.1 ∈ wsX6_kinds := by decide +kernel
theorem fiX6_kinds_X6 : ∀ q ∈ u_ws RX6 TX6 30, q ∈ wsX6_kinds := by decide +kernel
noncomputable def f_X6_kinds_L22 (x1 : Int32) (x2 : Int32) (kx : Int32 → Mem → Option (Int32 × Mem)) : Nat → Int32 → Int32 → Mem → Option (Int32 × Mem)
  | 0, _, _, _ => none
  | n + 1, x3, x4, M => if (3 : Int32) ≤ x4 then (kx x3 M) else (grd x1 6 (mlt (mu M 4 x1.toNatClampNeg x4) (fun M4 => bd (f_X6_areSo M4) (fun r6 M5 => if r6 = 0 then (ilt (x3 ||| (0 : Int32)) (fun x_7 => f_X6_kinds_L22 x1 x2 kx n x_7 (x4 + (1 : Int32)) M5)) else (ilt (x3 ||| ((1 : Int32) <<< (x4 &&& 31))) (fun x_8 => f_X6_kinds_L22 x1 x2 kx n x_8 (x4 + (1 : Int32)) M5))))))
noncomputable def f_X6_kinds (x1 : Int32) (M : Mem) : Option (Int32 × Mem) := bd (f_X6_isHouse x1 M) (fun r2 M1 => if r2 = 0 then (some ((-1 : Int32), M1)) else (grd x1 6 (ilt (M1 4 x1.toNatClampNeg) (fun x_3 => f_X6_kinds_L22 x1 x_3 (fun e9 M10 => grd x1 6 (mlt (mu M10 4 x1.toNatClampNeg x_3) (fun M11 => some (e9, M11)))) FU (0 : Int32) (0 : Int32) M1))))
set_option maxHeartbeats 4000000 in
set_option maxRecDepth 100000 in
theorem w_X6_kinds_L22 {v : Av} {w : Cw} (hw : w.2.2.2.2.2 = shM) (hA : Act v w RX6 wsX6_kinds cX6_kinds 5 (some .int)) (x1 : Int32) (x2 : Int32) (kx : Int32 → Mem → Option (Int32 × Mem)) (hk : ∀ (y3 : Int32) (M : Mem), WO v w rmX6_kinds 5 eI (kx y3 M) 60 [(0, .ref (w.2.1 0)), (1, .int x1), (2, .int x2), (3, .int y3)] [] M) : ∀ (n : Nat) (x3 : Int32) (x4 : Int32) (M : Mem), WO v w rmX6_kinds 5 eI (f_X6_kinds_L22 x1 x2 kx n x3 x4 M) 22 [(0, .ref (w.2.1 0)), (1, .int x1), (2, .int x2), (3, .int x3), (4, .int x4)] [] M := by
  intro n
  induction n with
  | zero => intro x3 x4 M; exact WO.nothing
  | succ n ih =>
    intro x3 x4 M
    rw [f_X6_kinds_L22]
    refine WO.iload (n := 24) hA dX6_kinds_22 4 rfl rfl ?_
    refine WO.iconst (x := (3 : Int32)) (n := 25) hA dX6_kinds_24 (by decide) rfl ?_
    refine WO.icmp_ge (tg := 60) (n := 28) hA dX6_kinds_25 (by decide) rfl (fun _ => ?_) (fun _ => ?_)
    · refine WO.sub (lv' := [(0, .ref (w.2.1 0)), (1, .int x1), (2, .int x2), (3, .int x3)]) [0, 1, 2, 3] rfl ?_
      exact hk x3 M
    · refine WO.aload_n (n := 29) hA dX6_kinds_28 0 rfl rfl ?_
      refine WO.getR (j := 10) (p := 4) (n := 32) hA (m_0 hw) rfl fiX6_kinds_X6 (by decide) rfl fkX6_kinds_19 dX6_kinds_29 rfl ?_
      refine WO.iload_n (n := 33) hA dX6_kinds_32 1 rfl rfl ?_
      refine WO.iload (n := 35) hA dX6_kinds_33 4 rfl rfl ?_
      refine WO.iast (n := 36) hA (m_4 hw) dX6_kinds_35 rfl (fun _ => ?_)
      refine WO.mem (fun M4 => ?_)
      refine WO.iload_n (n := 37) hA dX6_kinds_36 3 rfl rfl ?_
      refine WO.aload_n (n := 38) hA dX6_kinds_37 0 rfl rfl ?_
      refine WO.callVi (As := []) (rest := [.int x3]) (n := 41) hA (c_X6_areSo v.2.1 w hw M4) gX6_kinds_X6_areSo rfl (m_0 hw) rfl mdX6_areSo ⟨rfl, rfl, Nat.le_of_ble_eq_true rfl, Nat.le_of_ble_eq_true rfl⟩ rfl rfl (Nat.le_of_ble_eq_true rfl) dX6_kinds_38 rfl (fun r6 M5 => ?_)
      refine WO.if_eq (tg := 51) (n := 44) hA dX6_kinds_41 (by decide) rfl (fun _ => ?_) (fun _ => ?_)
      · refine WO.iconst (x := (0 : Int32)) (n := 52) hA dX6_kinds_51 (by decide) rfl ?_
        refine WO.ior (n := 53) hA dX6_kinds_52 rfl ?_
        refine WO.top (fun x_7 => ?_)
        refine WO.istore_n (i := 3) (lv' := [(3, .int x_7), (0, .ref (w.2.1 0)), (1, .int x1), (2, .int x2), (4, .int x4)]) (n := 54) hA dX6_kinds_53 rfl (by decide) rfl rfl ?_
        refine WO.iinc (y := (1 : Int32)) (lv' := [(4, .int (x4 + (1 : Int32))), (3, .int x_7), (0, .ref (w.2.1 0)), (1, .int x1), (2, .int x2)]) (n := 57) hA dX6_kinds_54 4 rfl (by decide) (by decide) rfl rfl ?_
        refine WO.goto (n := 22) hA dX6_kinds_57 (by decide) ?_
        refine WO.sub (lv' := [(0, .ref (w.2.1 0)), (1, .int x1), (2, .int x2), (3, .int x_7), (4, .int (x4 + (1 : Int32)))]) [2, 3, 4, 1, 0] rfl ?_
        exact ih x_7 (x4 + (1 : Int32)) M5
      · refine WO.iconst (x := (1 : Int32)) (n := 45) hA dX6_kinds_44 (by decide) rfl ?_
        refine WO.iload (n := 47) hA dX6_kinds_45 4 rfl rfl ?_
        refine WO.ishl (n := 48) hA dX6_kinds_47 rfl ?_
        refine WO.goto (n := 52) hA dX6_kinds_48 (by decide) ?_
        refine WO.ior (n := 53) hA dX6_kinds_52 rfl ?_
        refine WO.top (fun x_8 => ?_)
        refine WO.istore_n (i := 3) (lv' := [(3, .int x_8), (0, .ref (w.2.1 0)), (1, .int x1), (2, .int x2), (4, .int x4)]) (n := 54) hA dX6_kinds_53 rfl (by decide) rfl rfl ?_
        refine WO.iinc (y := (1 : Int32)) (lv' := [(4, .int (x4 + (1 : Int32))), (3, .int x_8), (0, .ref (w.2.1 0)), (1, .int x1), (2, .int x2)]) (n := 57) hA dX6_kinds_54 4 rfl (by decide) (by decide) rfl rfl ?_
        refine WO.goto (n := 22) hA dX6_kinds_57 (by decide) ?_
        refine WO.sub (lv' := [(0, .ref (w.2.1 0)), (1, .int x1), (2, .int x2), (3, .int x_8), (4, .int (x4 + (1 : Int32)))]) [2, 3, 4, 1, 0] rfl ?_
        exact ih x_8 (x4 + (1 : Int32)) M5
set_option maxHeartbeats 4000000 in
set_option maxRecDepth 100000 in
theorem c_X6_kinds (l : Launch) (w : Cw) (hw : w.2.2.2.2.2 = shM) (x1 : Int32) (M : Mem) : Ok l w eI yX6_kinds wsX6_kinds rmX6_kinds [.ref (w.2.1 0), .int x1] M (f_X6_kinds x1 M) := by
  refine Ok.of (cc := cX6_kinds) (nL := 5) (ret := (some .int)) (lv := [(0, .ref (w.2.1 0)), (1, .int x1)]) (by decide) rfl (Nat.le_of_ble_eq_true rfl) rfl (fun v hv hA => ?_)
  subst hv
  have hA : Act v w RX6 wsX6_kinds cX6_kinds 5 (some .int) := hA
  unfold f_X6_kinds
  refine WO.aload_n (n := 1) hA dX6_kinds_0 0 rfl rfl ?_
  refine WO.iload_n (n := 2) hA dX6_kinds_1 1 rfl rfl ?_
  refine WO.callVi (As := [.int x1]) (rest := []) (n := 5) hA (c_X6_isHouse v.2.1 w hw x1 M) gX6_kinds_X6_isHouse rfl (m_0 hw) rfl mdX6_isHouse ⟨rfl, rfl, Nat.le_of_ble_eq_true rfl, Nat.le_of_ble_eq_true rfl⟩ rfl rfl (Nat.le_of_ble_eq_true rfl) dX6_kinds_2 rfl (fun r2 M1 => ?_)
  refine WO.if_ne (tg := 10) (n := 8) hA dX6_kinds_5 (by decide) rfl (fun _ => ?_) (fun _ => ?_)
  · refine WO.iconst (x := (-1 : Int32)) (n := 9) hA dX6_kinds_8 (by decide) rfl ?_
    exact WO.iret hA dX6_kinds_9
  · refine WO.aload_n (n := 11) hA dX6_kinds_10 0 rfl rfl ?_
    refine WO.getR (j := 10) (p := 4) (n := 14) hA (m_0 hw) rfl fiX6_kinds_X6 (by decide) rfl fkX6_kinds_19 dX6_kinds_11 rfl ?_
    refine WO.iload_n (n := 15) hA dX6_kinds_14 1 rfl rfl ?_
    refine WO.iald (n := 16) hA (m_4 hw) dX6_kinds_15 rfl (fun _ => ?_)
    refine WO.top (fun x_3 => ?_)
    refine WO.istore_n (i := 2) (lv' := [(2, .int x_3), (0, .ref (w.2.1 0)), (1, .int x1)]) (n := 17) hA dX6_kinds_16 rfl (by decide) rfl rfl ?_
    refine WO.iconst (x := (0 : Int32)) (n := 18) hA dX6_kinds_17 (by decide) rfl ?_
    refine WO.istore_n (i := 3) (lv' := [(3, .int (0 : Int32)), (2, .int x_3), (0, .ref (w.2.1 0)), (1, .int x1)]) (n := 19) hA dX6_kinds_18 rfl (by decide) rfl rfl ?_
    refine WO.iconst (x := (0 : Int32)) (n := 20) hA dX6_kinds_19 (by decide) rfl ?_
    refine WO.istore (lv' := [(4, .int (0 : Int32)), (3, .int (0 : Int32)), (2, .int x_3), (0, .ref (w.2.1 0)), (1, .int x1)]) (n := 22) hA dX6_kinds_20 (by decide) rfl rfl ?_
    refine WO.sub (lv' := [(0, .ref (w.2.1 0)), (1, .int x1), (2, .int x_3), (3, .int (0 : Int32)), (4, .int (0 : Int32))]) [3, 4, 2, 1, 0] rfl ?_
    refine w_X6_kinds_L22 hw hA x1 x_3 _ (fun e9 M10 => ?_) _ _ _ _
    refine WO.aload_n (n := 61) hA dX6_kinds_60 0 rfl rfl ?_
    refine WO.getR (j := 10) (p := 4) (n := 64) hA (m_0 hw) rfl fiX6_kinds_X6 (by decide) rfl fkX6_kinds_19 dX6_kinds_61 rfl ?_
    refine WO.iload_n (n := 65) hA dX6_kinds_64 1 rfl rfl ?_
    refine WO.iload_n (n := 66) hA dX6_kinds_65 2 rfl rfl ?_
    refine WO.iast (n := 67) hA (m_4 hw) dX6_kinds_66 rfl (fun _ => ?_)
    refine WO.mem (fun M11 => ?_)
    refine WO.iload_n (n := 68) hA dX6_kinds_67 3 rfl rfl ?_
    exact WO.iret hA dX6_kinds_68
/- X6_louds -/
abbrev rmX6_louds : Room := { frames := 5, cells := 0, slots := 0, locals := 111 }
theorem mdX6_louds : yX6_louds.cls = RX6 ∧ yX6_louds.cls ≠ "java/lang/invoke/MethodHandle" ∧ yX6_louds.cls ≠ "java/lang/invoke/VarHandle" ∧ (parseMethodDescriptor yX6_louds.desc).map (fun d => d.parameters.length) = some 1 := by decide +kernel
theorem fkX6_louds_25 : Cond.fieldLink RX6 25 (TX6 12).1 (TX6 12).2.1 (TX6 12).2.2.1 ∈ wsX6_louds := by decide +kernel
theorem fiX6_louds_X6 : ∀ q ∈ u_ws RX6 TX6 30, q ∈ wsX6_louds := by decide +kernel
noncomputable def f_X6_louds_L22 (x1 : Int32) (x2 : Int32) (kx : Int32 → Mem → Option (Int32 × Mem)) : Nat → Int32 → Int32 → Mem → Option (Int32 × Mem)
  | 0, _, _, _ => none
  | n + 1, x3, x4, M => if (9 : Int32) < x4 then (kx x3 M) else (grd x1 4 (mlt (mu M 6 x1.toNatClampNeg x4) (fun M4 => bd (f_X6_areSo M4) (fun r6 M5 => if r6 = 0 then (ilt (x3 ||| (0 : Int32)) (fun x_7 => f_X6_louds_L22 x1 x2 kx n x_7 (x4 + (1 : Int32)) M5)) else (ilt (x3 ||| ((1 : Int32) <<< (x4 &&& 31))) (fun x_8 => f_X6_louds_L22 x1 x2 kx n x_8 (x4 + (1 : Int32)) M5))))))
noncomputable def f_X6_louds (x1 : Int32) (M : Mem) : Option (Int32 × Mem) := bd (f_X6_isClock x1 M) (fun r2 M1 => if r2 = 0 then (some ((-1 : Int32), M1)) else (grd x1 4 (ilt (M1 6 x1.toNatClampNeg) (fun x_3 => f_X6_louds_L22 x1 x_3 (fun e9 M10 => grd x1 4 (mlt (mu M10 6 x1.toNatClampNeg x_3) (fun M11 => some (e9, M11)))) FU (0 : Int32) (1 : Int32) M1))))
set_option maxHeartbeats 4000000 in
set_option maxRecDepth 100000 in
theorem w_X6_louds_L22 {v : Av} {w : Cw} (hw : w.2.2.2.2.2 = shM) (hA : Act v w RX6 wsX6_louds cX6_louds 5 (some .int)) (x1 : Int32) (x2 : Int32) (kx : Int32 → Mem → Option (Int32 × Mem)) (hk : ∀ (y3 : Int32) (M : Mem), WO v w rmX6_louds 5 eI (kx y3 M) 61 [(0, .ref (w.2.1 0)), (1, .int x1), (2, .int x2), (3, .int y3)] [] M) : ∀ (n : Nat) (x3 : Int32) (x4 : Int32) (M : Mem), WO v w rmX6_louds 5 eI (f_X6_louds_L22 x1 x2 kx n x3 x4 M) 22 [(0, .ref (w.2.1 0)), (1, .int x1), (2, .int x2), (3, .int x3), (4, .int x4)] [] M := by
  intro n
  induction n with
  | zero => intro x3 x4 M; exact WO.nothing
  | succ n ih =>
    intro x3 x4 M
    rw [f_X6_louds_L22]
    refine WO.iload (n := 24) hA dX6_louds_22 4 rfl rfl ?_
    refine WO.bipush (x := (9 : Int32)) (n := 26) hA dX6_louds_24 (by decide) rfl ?_
    refine WO.icmp_gt (tg := 61) (n := 29) hA dX6_louds_26 (by decide) rfl (fun _ => ?_) (fun _ => ?_)
    · refine WO.sub (lv' := [(0, .ref (w.2.1 0)), (1, .int x1), (2, .int x2), (3, .int x3)]) [0, 1, 2, 3] rfl ?_
      exact hk x3 M
    · refine WO.aload_n (n := 30) hA dX6_louds_29 0 rfl rfl ?_
      refine WO.getR (j := 12) (p := 6) (n := 33) hA (m_0 hw) rfl fiX6_louds_X6 (by decide) rfl fkX6_louds_25 dX6_louds_30 rfl ?_
      refine WO.iload_n (n := 34) hA dX6_louds_33 1 rfl rfl ?_
      refine WO.iload (n := 36) hA dX6_louds_34 4 rfl rfl ?_
      refine WO.iast (n := 37) hA (m_6 hw) dX6_louds_36 rfl (fun _ => ?_)
      refine WO.mem (fun M4 => ?_)
      refine WO.iload_n (n := 38) hA dX6_louds_37 3 rfl rfl ?_
      refine WO.aload_n (n := 39) hA dX6_louds_38 0 rfl rfl ?_
      refine WO.callVi (As := []) (rest := [.int x3]) (n := 42) hA (c_X6_areSo v.2.1 w hw M4) gX6_louds_X6_areSo rfl (m_0 hw) rfl mdX6_areSo ⟨rfl, rfl, Nat.le_of_ble_eq_true rfl, Nat.le_of_ble_eq_true rfl⟩ rfl rfl (Nat.le_of_ble_eq_true rfl) dX6_louds_39 rfl (fun r6 M5 => ?_)
      refine WO.if_eq (tg := 52) (n := 45) hA dX6_louds_42 (by decide) rfl (fun _ => ?_) (fun _ => ?_)
      · refine WO.iconst (x := (0 : Int32)) (n := 53) hA dX6_louds_52 (by decide) rfl ?_
        refine WO.ior (n := 54) hA dX6_louds_53 rfl ?_
        refine WO.top (fun x_7 => ?_)
        refine WO.istore_n (i := 3) (lv' := [(3, .int x_7), (0, .ref (w.2.1 0)), (1, .int x1), (2, .int x2), (4, .int x4)]) (n := 55) hA dX6_louds_54 rfl (by decide) rfl rfl ?_
        refine WO.iinc (y := (1 : Int32)) (lv' := [(4, .int (x4 + (1 : Int32))), (3, .int x_7), (0, .ref (w.2.1 0)), (1, .int x1), (2, .int x2)]) (n := 58) hA dX6_louds_55 4 rfl (by decide) (by decide) rfl rfl ?_
        refine WO.goto (n := 22) hA dX6_louds_58 (by decide) ?_
        refine WO.sub (lv' := [(0, .ref (w.2.1 0)), (1, .int x1), (2, .int x2), (3, .int x_7), (4, .int (x4 + (1 : Int32)))]) [2, 3, 4, 1, 0] rfl ?_
        exact ih x_7 (x4 + (1 : Int32)) M5
      · refine WO.iconst (x := (1 : Int32)) (n := 46) hA dX6_louds_45 (by decide) rfl ?_
        refine WO.iload (n := 48) hA dX6_louds_46 4 rfl rfl ?_
        refine WO.ishl (n := 49) hA dX6_louds_48 rfl ?_
        refine WO.goto (n := 53) hA dX6_louds_49 (by decide) ?_
        refine WO.ior (n := 54) hA dX6_louds_53 rfl ?_
        refine WO.top (fun x_8 => ?_)
        refine WO.istore_n (i := 3) (lv' := [(3, .int x_8), (0, .ref (w.2.1 0)), (1, .int x1), (2, .int x2), (4, .int x4)]) (n := 55) hA dX6_louds_54 rfl (by decide) rfl rfl ?_
        refine WO.iinc (y := (1 : Int32)) (lv' := [(4, .int (x4 + (1 : Int32))), (3, .int x_8), (0, .ref (w.2.1 0)), (1, .int x1), (2, .int x2)]) (n := 58) hA dX6_louds_55 4 rfl (by decide) (by decide) rfl rfl ?_
        refine WO.goto (n := 22) hA dX6_louds_58 (by decide) ?_
        refine WO.sub (lv' := [(0, .ref (w.2.1 0)), (1, .int x1), (2, .int x2), (3, .int x_8), (4, .int (x4 + (1 : Int32)))]) [2, 3, 4, 1, 0] rfl ?_
        exact ih x_8 (x4 + (1 : Int32)) M5
set_option maxHeartbeats 4000000 in
set_option maxRecDepth 100000 in
theorem c_X6_louds (l : Launch) (w : Cw) (hw : w.2.2.2.2.2 = shM) (x1 : Int32) (M : Mem) : Ok l w eI yX6_louds wsX6_louds rmX6_louds [.ref (w.2.1 0), .int x1] M (f_X6_louds x1 M) := by
  refine Ok.of (cc := cX6_louds) (nL := 5) (ret := (some .int)) (lv := [(0, .ref (w.2.1 0)), (1, .int x1)]) (by decide) rfl (Nat.le_of_ble_eq_true rfl) rfl (fun v hv hA => ?_)
  subst hv
  have hA : Act v w RX6 wsX6_louds cX6_louds 5 (some .int) := hA
  unfold f_X6_louds
  refine WO.aload_n (n := 1) hA dX6_louds_0 0 rfl rfl ?_
  refine WO.iload_n (n := 2) hA dX6_louds_1 1 rfl rfl ?_
  refine WO.callVi (As := [.int x1]) (rest := []) (n := 5) hA (c_X6_isClock v.2.1 w hw x1 M) gX6_louds_X6_isClock rfl (m_0 hw) rfl mdX6_isClock ⟨rfl, rfl, Nat.le_of_ble_eq_true rfl, Nat.le_of_ble_eq_true rfl⟩ rfl rfl (Nat.le_of_ble_eq_true rfl) dX6_louds_2 rfl (fun r2 M1 => ?_)
  refine WO.if_ne (tg := 10) (n := 8) hA dX6_louds_5 (by decide) rfl (fun _ => ?_) (fun _ => ?_)
  · refine WO.iconst (x := (-1 : Int32)) (n := 9) hA dX6_louds_8 (by decide) rfl ?_
    exact WO.iret hA dX6_louds_9
  · refine WO.aload_n (n := 11) hA dX6_louds_10 0 rfl rfl ?_
    refine WO.getR (j := 12) (p := 6) (n := 14) hA (m_0 hw) rfl fiX6_louds_X6 (by decide) rfl fkX6_louds_25 dX6_louds_11 rfl ?_
    refine WO.iload_n (n := 15) hA dX6_louds_14 1 rfl rfl ?_
    refine WO.iald (n := 16) hA (m_6 hw) dX6_louds_15 rfl (fun _ => ?_)
    refine WO.top (fun x_3 => ?_)
    refine WO.istore_n (i := 2) (lv' := [(2, .int x_3), (0, .ref (w.2.1 0)), (1, .int x1)]) (n := 17) hA dX6_louds_16 rfl (by decide) rfl rfl ?_
    refine WO.iconst (x := (0 : Int32)) (n := 18) hA dX6_louds_17 (by decide) rfl ?_
    refine WO.istore_n (i := 3) (lv' := [(3, .int (0 : Int32)), (2, .int x_3), (0, .ref (w.2.1 0)), (1, .int x1)]) (n := 19) hA dX6_louds_18 rfl (by decide) rfl rfl ?_
    refine WO.iconst (x := (1 : Int32)) (n := 20) hA dX6_louds_19 (by decide) rfl ?_
    refine WO.istore (lv' := [(4, .int (1 : Int32)), (3, .int (0 : Int32)), (2, .int x_3), (0, .ref (w.2.1 0)), (1, .int x1)]) (n := 22) hA dX6_louds_20 (by decide) rfl rfl ?_
    refine WO.sub (lv' := [(0, .ref (w.2.1 0)), (1, .int x1), (2, .int x_3), (3, .int (0 : Int32)), (4, .int (1 : Int32))]) [3, 4, 2, 1, 0] rfl ?_
    refine w_X6_louds_L22 hw hA x1 x_3 _ (fun e9 M10 => ?_) _ _ _ _
    refine WO.aload_n (n := 62) hA dX6_louds_61 0 rfl rfl ?_
    refine WO.getR (j := 12) (p := 6) (n := 65) hA (m_0 hw) rfl fiX6_louds_X6 (by decide) rfl fkX6_louds_25 dX6_louds_62 rfl ?_
    refine WO.iload_n (n := 66) hA dX6_louds_65 1 rfl rfl ?_
    refine WO.iload_n (n := 67) hA dX6_louds_66 2 rfl rfl ?_
    refine WO.iast (n := 68) hA (m_6 hw) dX6_louds_67 rfl (fun _ => ?_)
    refine WO.mem (fun M11 => ?_)
    refine WO.iload_n (n := 69) hA dX6_louds_68 3 rfl rfl ?_
    exact WO.iret hA dX6_louds_69
/- X6_walls -/
abbrev rmX6_walls : Room := { frames := 5, cells := 0, slots := 0, locals := 111 }
theorem mdX6_walls : yX6_walls.cls = RX6 ∧ yX6_walls.cls ≠ "java/lang/invoke/MethodHandle" ∧ yX6_walls.cls ≠ "java/lang/invoke/VarHandle" ∧ (parseMethodDescriptor yX6_walls.desc).map (fun d => d.parameters.length) = some 0 := by decide +kernel
theorem fkX6_walls_68 : Cond.fieldLink RX6 68 (TX6 6).1 (TX6 6).2.1 (TX6 6).2.2.1 ∈ wsX6_walls := by decide +kernel
theorem fiX6_walls_X6 : ∀ q ∈ u_ws RX6 TX6 30, q ∈ wsX6_walls := by decide +kernel
theorem fkX6_walls_105 : Cond.fieldLink RX6 105 (TX6 5).1 (TX6 5).2.1 (TX6 5).2.2.1 ∈ wsX6_walls := by decide +kernel
noncomputable def f_X6_walls_L19 (x1 : Int32) (kx : Int32 → Mem → Option (Int32 × Mem)) : Nat → Int32 → Int32 → Mem → Option (Int32 × Mem)
  | 0, _, _, _ => none
  | n + 1, x2, x3, M => if (3 : Int32) < x3 then (kx x2 M) else (mlt (mu M 0 5 x3) (fun M2 => bd (f_X6_areSo M2) (fun r4 M3 => if r4 = 0 then (ilt (x2 ||| (0 : Int32)) (fun x_5 => f_X6_walls_L19 x1 kx n x_5 (x3 + (1 : Int32)) M3)) else (ilt (x2 ||| ((1 : Int32) <<< (x3 &&& 31))) (fun x_6 => f_X6_walls_L19 x1 kx n x_6 (x3 + (1 : Int32)) M3)))))
noncomputable def f_X6_walls (M : Mem) : Option (Int32 × Mem) := if (M 0 6) = 0 then (some ((-3 : Int32), M)) else (ilt (M 0 5) (fun x_1 => f_X6_walls_L19 x_1 (fun e7 M8 => mlt (mu M8 0 5 x_1) (fun M9 => some (e7, M9))) FU (0 : Int32) (0 : Int32) M))
set_option maxHeartbeats 4000000 in
set_option maxRecDepth 100000 in
theorem w_X6_walls_L19 {v : Av} {w : Cw} (hw : w.2.2.2.2.2 = shM) (hA : Act v w RX6 wsX6_walls cX6_walls 4 (some .int)) (x1 : Int32) (kx : Int32 → Mem → Option (Int32 × Mem)) (hk : ∀ (y2 : Int32) (M : Mem), WO v w rmX6_walls 4 eI (kx y2 M) 52 [(0, .ref (w.2.1 0)), (1, .int x1), (2, .int y2)] [] M) : ∀ (n : Nat) (x2 : Int32) (x3 : Int32) (M : Mem), WO v w rmX6_walls 4 eI (f_X6_walls_L19 x1 kx n x2 x3 M) 19 [(0, .ref (w.2.1 0)), (1, .int x1), (2, .int x2), (3, .int x3)] [] M := by
  intro n
  induction n with
  | zero => intro x2 x3 M; exact WO.nothing
  | succ n ih =>
    intro x2 x3 M
    rw [f_X6_walls_L19]
    refine WO.iload_n (n := 20) hA dX6_walls_19 3 rfl rfl ?_
    refine WO.iconst (x := (3 : Int32)) (n := 21) hA dX6_walls_20 (by decide) rfl ?_
    refine WO.icmp_gt (tg := 52) (n := 24) hA dX6_walls_21 (by decide) rfl (fun _ => ?_) (fun _ => ?_)
    · refine WO.sub (lv' := [(0, .ref (w.2.1 0)), (1, .int x1), (2, .int x2)]) [0, 1, 2] rfl ?_
      exact hk x2 M
    · refine WO.aload_n (n := 25) hA dX6_walls_24 0 rfl rfl ?_
      refine WO.iload_n (n := 26) hA dX6_walls_25 3 rfl rfl ?_
      refine WO.putI (j := 5) (n := 29) hA (m_0 hw) rfl fiX6_walls_X6 tyX6 tyX6_ok nmX6 (by decide) rfl fkX6_walls_105 rfl rfl rfl rfl dX6_walls_26 rfl ?_
      refine WO.mem (fun M2 => ?_)
      refine WO.iload_n (n := 30) hA dX6_walls_29 2 rfl rfl ?_
      refine WO.aload_n (n := 31) hA dX6_walls_30 0 rfl rfl ?_
      refine WO.callVi (As := []) (rest := [.int x2]) (n := 34) hA (c_X6_areSo v.2.1 w hw M2) gX6_walls_X6_areSo rfl (m_0 hw) rfl mdX6_areSo ⟨rfl, rfl, Nat.le_of_ble_eq_true rfl, Nat.le_of_ble_eq_true rfl⟩ rfl rfl (Nat.le_of_ble_eq_true rfl) dX6_walls_31 rfl (fun r4 M3 => ?_)
      refine WO.if_eq (tg := 43) (n := 37) hA dX6_walls_34 (by decide) rfl (fun _ => ?_) (fun _ => ?_)
      · refine WO.iconst (x := (0 : Int32)) (n := 44) hA dX6_walls_43 (by decide) rfl ?_
        refine WO.ior (n := 45) hA dX6_walls_44 rfl ?_
        refine WO.top (fun x_5 => ?_)
        refine WO.istore_n (i := 2) (lv' := [(2, .int x_5), (0, .ref (w.2.1 0)), (1, .int x1), (3, .int x3)]) (n := 46) hA dX6_walls_45 rfl (by decide) rfl rfl ?_
        refine WO.iinc (y := (1 : Int32)) (lv' := [(3, .int (x3 + (1 : Int32))), (2, .int x_5), (0, .ref (w.2.1 0)), (1, .int x1)]) (n := 49) hA dX6_walls_46 3 rfl (by decide) (by decide) rfl rfl ?_
        refine WO.goto (n := 19) hA dX6_walls_49 (by decide) ?_
        refine WO.sub (lv' := [(0, .ref (w.2.1 0)), (1, .int x1), (2, .int x_5), (3, .int (x3 + (1 : Int32)))]) [2, 3, 1, 0] rfl ?_
        exact ih x_5 (x3 + (1 : Int32)) M3
      · refine WO.iconst (x := (1 : Int32)) (n := 38) hA dX6_walls_37 (by decide) rfl ?_
        refine WO.iload_n (n := 39) hA dX6_walls_38 3 rfl rfl ?_
        refine WO.ishl (n := 40) hA dX6_walls_39 rfl ?_
        refine WO.goto (n := 44) hA dX6_walls_40 (by decide) ?_
        refine WO.ior (n := 45) hA dX6_walls_44 rfl ?_
        refine WO.top (fun x_6 => ?_)
        refine WO.istore_n (i := 2) (lv' := [(2, .int x_6), (0, .ref (w.2.1 0)), (1, .int x1), (3, .int x3)]) (n := 46) hA dX6_walls_45 rfl (by decide) rfl rfl ?_
        refine WO.iinc (y := (1 : Int32)) (lv' := [(3, .int (x3 + (1 : Int32))), (2, .int x_6), (0, .ref (w.2.1 0)), (1, .int x1)]) (n := 49) hA dX6_walls_46 3 rfl (by decide) (by decide) rfl rfl ?_
        refine WO.goto (n := 19) hA dX6_walls_49 (by decide) ?_
        refine WO.sub (lv' := [(0, .ref (w.2.1 0)), (1, .int x1), (2, .int x_6), (3, .int (x3 + (1 : Int32)))]) [2, 3, 1, 0] rfl ?_
        exact ih x_6 (x3 + (1 : Int32)) M3
set_option maxHeartbeats 4000000 in
set_option maxRecDepth 100000 in
theorem c_X6_walls (l : Launch) (w : Cw) (hw : w.2.2.2.2.2 = shM) (M : Mem) : Ok l w eI yX6_walls wsX6_walls rmX6_walls [.ref (w.2.1 0)] M (f_X6_walls M) := by
  refine Ok.of (cc := cX6_walls) (nL := 4) (ret := (some .int)) (lv := [(0, .ref (w.2.1 0))]) (by decide) rfl (Nat.le_of_ble_eq_true rfl) rfl (fun v hv hA => ?_)
  subst hv
  have hA : Act v w RX6 wsX6_walls cX6_walls 4 (some .int) := hA
  unfold f_X6_walls
  refine WO.aload_n (n := 1) hA dX6_walls_0 0 rfl rfl ?_
  refine WO.getI (j := 6) (n := 4) hA (m_0 hw) rfl fiX6_walls_X6 (by decide) rfl fkX6_walls_68 dX6_walls_1 rfl ?_
  refine WO.if_ne (tg := 10) (n := 7) hA dX6_walls_4 (by decide) rfl (fun _ => ?_) (fun _ => ?_)
  · refine WO.bipush (x := (-3 : Int32)) (n := 9) hA dX6_walls_7 (by decide) rfl ?_
    exact WO.iret hA dX6_walls_9
  · refine WO.aload_n (n := 11) hA dX6_walls_10 0 rfl rfl ?_
    refine WO.getI (j := 5) (n := 14) hA (m_0 hw) rfl fiX6_walls_X6 (by decide) rfl fkX6_walls_105 dX6_walls_11 rfl ?_
    refine WO.top (fun x_1 => ?_)
    refine WO.istore_n (i := 1) (lv' := [(1, .int x_1), (0, .ref (w.2.1 0))]) (n := 15) hA dX6_walls_14 rfl (by decide) rfl rfl ?_
    refine WO.iconst (x := (0 : Int32)) (n := 16) hA dX6_walls_15 (by decide) rfl ?_
    refine WO.istore_n (i := 2) (lv' := [(2, .int (0 : Int32)), (1, .int x_1), (0, .ref (w.2.1 0))]) (n := 17) hA dX6_walls_16 rfl (by decide) rfl rfl ?_
    refine WO.iconst (x := (0 : Int32)) (n := 18) hA dX6_walls_17 (by decide) rfl ?_
    refine WO.istore_n (i := 3) (lv' := [(3, .int (0 : Int32)), (2, .int (0 : Int32)), (1, .int x_1), (0, .ref (w.2.1 0))]) (n := 19) hA dX6_walls_18 rfl (by decide) rfl rfl ?_
    refine WO.sub (lv' := [(0, .ref (w.2.1 0)), (1, .int x_1), (2, .int (0 : Int32)), (3, .int (0 : Int32))]) [3, 2, 1, 0] rfl ?_
    refine w_X6_walls_L19 hw hA x_1 _ (fun e7 M8 => ?_) _ _ _ _
    refine WO.aload_n (n := 53) hA dX6_walls_52 0 rfl rfl ?_
    refine WO.iload_n (n := 54) hA dX6_walls_53 1 rfl rfl ?_
    refine WO.putI (j := 5) (n := 57) hA (m_0 hw) rfl fiX6_walls_X6 tyX6 tyX6_ok nmX6 (by decide) rfl fkX6_walls_105 rfl rfl rfl rfl dX6_walls_54 rfl ?_
    refine WO.mem (fun M9 => ?_)
    refine WO.iload_n (n := 58) hA dX6_walls_57 2 rfl rfl ?_
    exact WO.iret hA dX6_walls_58
/- X6_inLeastTerms -/
abbrev rmX6_inLeastTerms : Room := { frames := 0, cells := 0, slots := 0, locals := 0 }
theorem mdX6_inLeastTerms : yX6_inLeastTerms.cls ≠ "java/lang/invoke/MethodHandle" ∧ yX6_inLeastTerms.cls ≠ "java/lang/invoke/VarHandle" ∧ (parseMethodDescriptor yX6_inLeastTerms.desc).map (fun d => d.parameters.length) = some 3 := by decide +kernel
noncomputable def f_X6_inLeastTerms_L6 (x0 : Int64) (x2 : Int64) (x4 : Int32) (kx : Int64 → Mem → Option (Int64 × Mem)) : Nat → Int64 → Int64 → Mem → Option (Int64 × Mem)
  | 0, _, _, _ => none
  | n + 1, x5, x7, M => if (lg_cmp x7 (0 : Int64)) = 0 then (kx x5 M) else (dvcl x7 (llt (x5 - x5 / x7 * x7) (fun x_1 => f_X6_inLeastTerms_L6 x0 x2 x4 kx n x7 x_1 M)))
noncomputable def f_X6_inLeastTerms (x0 : Int64) (x2 : Int64) (x4 : Int32) (M : Mem) : Option (Int64 × Mem) := f_X6_inLeastTerms_L6 x0 x2 x4 (fun e2 M3 => if x4 = 0 then (dvcl e2 (some ((x0 / e2), M3))) else (dvcl e2 (some ((x2 / e2), M3)))) FU x0 x2 M
set_option maxHeartbeats 4000000 in
set_option maxRecDepth 100000 in
theorem w_X6_inLeastTerms_L6 {v : Av} {w : Cw} (hw : w.2.2.2.2.2 = shM) (hA : Act v w RX6 wsX6_inLeastTerms cX6_inLeastTerms 11 (some .long)) (x0 : Int64) (x2 : Int64) (x4 : Int32) (kx : Int64 → Mem → Option (Int64 × Mem)) (hk : ∀ (y5 : Int64) (M : Mem), WO v w rmX6_inLeastTerms 11 eL (kx y5 M) 31 [(0, .long x0), (2, .long x2), (4, .int x4), (5, .long y5)] [] M) : ∀ (n : Nat) (x5 : Int64) (x7 : Int64) (M : Mem), WO v w rmX6_inLeastTerms 11 eL (f_X6_inLeastTerms_L6 x0 x2 x4 kx n x5 x7 M) 6 [(0, .long x0), (2, .long x2), (4, .int x4), (5, .long x5), (7, .long x7)] [] M := by
  intro n
  induction n with
  | zero => intro x5 x7 M; exact WO.nothing
  | succ n ih =>
    intro x5 x7 M
    rw [f_X6_inLeastTerms_L6]
    refine WO.lload (n := 8) hA dX6_inLeastTerms_6 4 rfl rfl ?_
    refine WO.lconst (x := (0 : Int64)) (n := 9) hA dX6_inLeastTerms_8 (by decide) rfl ?_
    refine WO.lcmp (n := 10) hA dX6_inLeastTerms_9 rfl ?_
    refine WO.if_eq (tg := 31) (n := 13) hA dX6_inLeastTerms_10 (by decide) rfl (fun _ => ?_) (fun _ => ?_)
    · refine WO.sub (lv' := [(0, .long x0), (2, .long x2), (4, .int x4), (5, .long x5)]) [0, 1, 2, 3] rfl ?_
      exact hk x5 M
    · refine WO.lload (n := 15) hA dX6_inLeastTerms_13 3 rfl rfl ?_
      refine WO.lload (n := 17) hA dX6_inLeastTerms_15 4 rfl rfl ?_
      refine WO.lrem (n := 18) hA dX6_inLeastTerms_17 rfl ?_
      refine WO.topl (fun x_1 => ?_)
      refine WO.lstore (lv' := [(9, .long x_1), (0, .long x0), (2, .long x2), (4, .int x4), (5, .long x5), (7, .long x7)]) (n := 20) hA dX6_inLeastTerms_18 (by decide) rfl rfl ?_
      refine WO.lload (n := 22) hA dX6_inLeastTerms_20 5 rfl rfl ?_
      refine WO.lstore (lv' := [(5, .long x7), (9, .long x_1), (0, .long x0), (2, .long x2), (4, .int x4), (7, .long x7)]) (n := 24) hA dX6_inLeastTerms_22 (by decide) rfl rfl ?_
      refine WO.lload (n := 26) hA dX6_inLeastTerms_24 1 rfl rfl ?_
      refine WO.lstore (lv' := [(7, .long x_1), (5, .long x7), (9, .long x_1), (0, .long x0), (2, .long x2), (4, .int x4)]) (n := 28) hA dX6_inLeastTerms_26 (by decide) rfl rfl ?_
      refine WO.goto (n := 6) hA dX6_inLeastTerms_28 (by decide) ?_
      refine WO.sub (lv' := [(0, .long x0), (2, .long x2), (4, .int x4), (5, .long x7), (7, .long x_1)]) [3, 4, 5, 1, 0] rfl ?_
      exact ih x7 x_1 M
set_option maxHeartbeats 4000000 in
set_option maxRecDepth 100000 in
theorem c_X6_inLeastTerms (l : Launch) (w : Cw) (hw : w.2.2.2.2.2 = shM) (x0 : Int64) (x2 : Int64) (x4 : Int32) (M : Mem) : Ok l w eL yX6_inLeastTerms wsX6_inLeastTerms rmX6_inLeastTerms [.long x0, .long x2, .int x4] M (f_X6_inLeastTerms x0 x2 x4 M) := by
  refine Ok.of (cc := cX6_inLeastTerms) (nL := 11) (ret := (some .long)) (lv := [(0, .long x0), (2, .long x2), (4, .int x4)]) (by decide) rfl (Nat.le_of_ble_eq_true rfl) rfl (fun v hv hA => ?_)
  subst hv
  have hA : Act v w RX6 wsX6_inLeastTerms cX6_inLeastTerms 11 (some .long) := hA
  unfold f_X6_inLeastTerms
  refine WO.lload_n (n := 1) hA dX6_inLeastTerms_0 0 rfl rfl ?_
  refine WO.lstore (lv' := [(5, .long x0), (0, .long x0), (2, .long x2), (4, .int x4)]) (n := 3) hA dX6_inLeastTerms_1 (by decide) rfl rfl ?_
  refine WO.lload_n (n := 4) hA dX6_inLeastTerms_3 2 rfl rfl ?_
  refine WO.lstore (lv' := [(7, .long x2), (5, .long x0), (0, .long x0), (2, .long x2), (4, .int x4)]) (n := 6) hA dX6_inLeastTerms_4 (by decide) rfl rfl ?_
  refine WO.sub (lv' := [(0, .long x0), (2, .long x2), (4, .int x4), (5, .long x0), (7, .long x2)]) [2, 3, 4, 1, 0] rfl ?_
  refine w_X6_inLeastTerms_L6 hw hA x0 x2 x4 _ (fun e2 M3 => ?_) _ _ _ _
  refine WO.iload (n := 33) hA dX6_inLeastTerms_31 2 rfl rfl ?_
  refine WO.if_ne (tg := 43) (n := 36) hA dX6_inLeastTerms_33 (by decide) rfl (fun _ => ?_) (fun _ => ?_)
  · refine WO.lload_n (n := 37) hA dX6_inLeastTerms_36 0 rfl rfl ?_
    refine WO.lload (n := 39) hA dX6_inLeastTerms_37 3 rfl rfl ?_
    refine WO.ldiv (n := 40) hA dX6_inLeastTerms_39 rfl ?_
    refine WO.goto (n := 47) hA dX6_inLeastTerms_40 (by decide) ?_
    exact WO.lret hA dX6_inLeastTerms_47
  · refine WO.lload_n (n := 44) hA dX6_inLeastTerms_43 1 rfl rfl ?_
    refine WO.lload (n := 46) hA dX6_inLeastTerms_44 3 rfl rfl ?_
    refine WO.ldiv (n := 47) hA dX6_inLeastTerms_46 rfl ?_
    exact WO.lret hA dX6_inLeastTerms_47
/- X6_odds -/
abbrev rmX6_odds : Room := { frames := 4, cells := 0, slots := 0, locals := 89 }
theorem mdX6_odds : yX6_odds.cls = RX6 ∧ yX6_odds.cls ≠ "java/lang/invoke/MethodHandle" ∧ yX6_odds.cls ≠ "java/lang/invoke/VarHandle" ∧ (parseMethodDescriptor yX6_odds.desc).map (fun d => d.parameters.length) = some 2 := by decide +kernel
theorem kkX6_odds_62 : Jvm.Cond.constantLong RX6 62 (-9223372036854775808 : Int64) ∈ wsX6_odds := by decide +kernel
theorem fkX6_odds_71 : Cond.fieldLink RX6 71 (TX6 7).1 (TX6 7).2.1 (TX6 7).2.2.1 ∈ wsX6_odds := by decide +kernel
theorem fiX6_odds_X6 : ∀ q ∈ u_ws RX6 TX6 30, q ∈ wsX6_odds := by decide +kernel
theorem fkX6_odds_68 : Cond.fieldLink RX6 68 (TX6 6).1 (TX6 6).2.1 (TX6 6).2.2.1 ∈ wsX6_odds := by decide +kernel
noncomputable def f_X6_odds_L38 (x1 : Int32) (x2 : Int32) (x4 : Int32) (kx : Int32 → Mem → Option (Int64 × Mem)) : Nat → Int32 → Int32 → Mem → Option (Int64 × Mem)
  | 0, _, _, _ => none
  | n + 1, x3, x5, M => if (M 0 6) ≤ x5 then (kx x3 M) else (bd (f_X6_wakesFrom x1 x4 x5 M) (fun r6 M5 => if r6 = 0 then (ilt (x3 + (0 : Int32)) (fun x_7 => f_X6_odds_L38 x1 x2 x4 kx n x_7 (x5 + (1 : Int32)) M5)) else (ilt (x3 + (1 : Int32)) (fun x_8 => f_X6_odds_L38 x1 x2 x4 kx n x_8 (x5 + (1 : Int32)) M5))))
noncomputable def f_X6_odds_L26 (x1 : Int32) (x2 : Int32) (kx : Int32 → Mem → Option (Int64 × Mem)) : Nat → Int32 → Int32 → Mem → Option (Int64 × Mem)
  | 0, _, _, _ => none
  | n + 1, x3, x4, M => if (M 0 7) ≤ x4 then (kx x3 M) else (f_X6_odds_L38 x1 x2 x4 (fun e9 M10 => f_X6_odds_L26 x1 x2 kx n e9 (x4 + (1 : Int32)) M10) FU x3 (0 : Int32) M)
noncomputable def f_X6_odds (x1 : Int32) (x2 : Int32) (M : Mem) : Option (Int64 × Mem) := bd (f_X6_isHouse x1 M) (fun r2 M1 => if r2 = 0 then (some ((-9223372036854775808 : Int64), M1)) else (bd (f_X6_within x2 (0 : Int32) (1 : Int32) M1) (fun r4 M3 => if r4 = 0 then (some ((-9223372036854775808 : Int64), M3)) else (f_X6_odds_L26 x1 x2 (fun e11 M12 => bd (f_X6_inLeastTerms ((e11).toInt64) ((((M12 0 7) * (M12 0 6))).toInt64) x2 M12) (fun r14 M13 => some (r14, M13))) FU (0 : Int32) (0 : Int32) M3))))
set_option maxHeartbeats 4000000 in
set_option maxRecDepth 100000 in
theorem w_X6_odds_L38 {v : Av} {w : Cw} (hw : w.2.2.2.2.2 = shM) (hA : Act v w RX6 wsX6_odds cX6_odds 6 (some .long)) (x1 : Int32) (x2 : Int32) (x4 : Int32) (kx : Int32 → Mem → Option (Int64 × Mem)) (hk : ∀ (y3 : Int32) (M : Mem), WO v w rmX6_odds 6 eL (kx y3 M) 73 [(0, .ref (w.2.1 0)), (1, .int x1), (2, .int x2), (3, .int y3), (4, .int x4)] [] M) : ∀ (n : Nat) (x3 : Int32) (x5 : Int32) (M : Mem), WO v w rmX6_odds 6 eL (f_X6_odds_L38 x1 x2 x4 kx n x3 x5 M) 38 [(0, .ref (w.2.1 0)), (1, .int x1), (2, .int x2), (3, .int x3), (4, .int x4), (5, .int x5)] [] M := by
  intro n
  induction n with
  | zero => intro x3 x5 M; exact WO.nothing
  | succ n ih =>
    intro x3 x5 M
    rw [f_X6_odds_L38]
    refine WO.iload (n := 40) hA dX6_odds_38 5 rfl rfl ?_
    refine WO.aload_n (n := 41) hA dX6_odds_40 0 rfl rfl ?_
    refine WO.getI (j := 6) (n := 44) hA (m_0 hw) rfl fiX6_odds_X6 (by decide) rfl fkX6_odds_68 dX6_odds_41 rfl ?_
    refine WO.icmp_ge (tg := 73) (n := 47) hA dX6_odds_44 (by decide) rfl (fun _ => ?_) (fun _ => ?_)
    · refine WO.sub (lv' := [(0, .ref (w.2.1 0)), (1, .int x1), (2, .int x2), (3, .int x3), (4, .int x4)]) [0, 1, 2, 3, 4] rfl ?_
      exact hk x3 M
    · refine WO.iload_n (n := 48) hA dX6_odds_47 3 rfl rfl ?_
      refine WO.aload_n (n := 49) hA dX6_odds_48 0 rfl rfl ?_
      refine WO.iload_n (n := 50) hA dX6_odds_49 1 rfl rfl ?_
      refine WO.iload (n := 52) hA dX6_odds_50 4 rfl rfl ?_
      refine WO.iload (n := 54) hA dX6_odds_52 5 rfl rfl ?_
      refine WO.callVi (As := [.int x1, .int x4, .int x5]) (rest := [.int x3]) (n := 57) hA (c_X6_wakesFrom v.2.1 w hw x1 x4 x5 M) gX6_odds_X6_wakesFrom rfl (m_0 hw) rfl mdX6_wakesFrom ⟨rfl, rfl, Nat.le_of_ble_eq_true rfl, Nat.le_of_ble_eq_true rfl⟩ rfl rfl (Nat.le_of_ble_eq_true rfl) dX6_odds_54 rfl (fun r6 M5 => ?_)
      refine WO.if_eq (tg := 64) (n := 60) hA dX6_odds_57 (by decide) rfl (fun _ => ?_) (fun _ => ?_)
      · refine WO.iconst (x := (0 : Int32)) (n := 65) hA dX6_odds_64 (by decide) rfl ?_
        refine WO.iadd (n := 66) hA dX6_odds_65 rfl ?_
        refine WO.top (fun x_7 => ?_)
        refine WO.istore_n (i := 3) (lv' := [(3, .int x_7), (0, .ref (w.2.1 0)), (1, .int x1), (2, .int x2), (4, .int x4), (5, .int x5)]) (n := 67) hA dX6_odds_66 rfl (by decide) rfl rfl ?_
        refine WO.iinc (y := (1 : Int32)) (lv' := [(5, .int (x5 + (1 : Int32))), (3, .int x_7), (0, .ref (w.2.1 0)), (1, .int x1), (2, .int x2), (4, .int x4)]) (n := 70) hA dX6_odds_67 5 rfl (by decide) (by decide) rfl rfl ?_
        refine WO.goto (n := 38) hA dX6_odds_70 (by decide) ?_
        refine WO.sub (lv' := [(0, .ref (w.2.1 0)), (1, .int x1), (2, .int x2), (3, .int x_7), (4, .int x4), (5, .int (x5 + (1 : Int32)))]) [2, 3, 4, 1, 5, 0] rfl ?_
        exact ih x_7 (x5 + (1 : Int32)) M5
      · refine WO.iconst (x := (1 : Int32)) (n := 61) hA dX6_odds_60 (by decide) rfl ?_
        refine WO.goto (n := 65) hA dX6_odds_61 (by decide) ?_
        refine WO.iadd (n := 66) hA dX6_odds_65 rfl ?_
        refine WO.top (fun x_8 => ?_)
        refine WO.istore_n (i := 3) (lv' := [(3, .int x_8), (0, .ref (w.2.1 0)), (1, .int x1), (2, .int x2), (4, .int x4), (5, .int x5)]) (n := 67) hA dX6_odds_66 rfl (by decide) rfl rfl ?_
        refine WO.iinc (y := (1 : Int32)) (lv' := [(5, .int (x5 + (1 : Int32))), (3, .int x_8), (0, .ref (w.2.1 0)), (1, .int x1), (2, .int x2), (4, .int x4)]) (n := 70) hA dX6_odds_67 5 rfl (by decide) (by decide) rfl rfl ?_
        refine WO.goto (n := 38) hA dX6_odds_70 (by decide) ?_
        refine WO.sub (lv' := [(0, .ref (w.2.1 0)), (1, .int x1), (2, .int x2), (3, .int x_8), (4, .int x4), (5, .int (x5 + (1 : Int32)))]) [2, 3, 4, 1, 5, 0] rfl ?_
        exact ih x_8 (x5 + (1 : Int32)) M5
set_option maxHeartbeats 4000000 in
set_option maxRecDepth 100000 in
theorem w_X6_odds_L26 {v : Av} {w : Cw} (hw : w.2.2.2.2.2 = shM) (hA : Act v w RX6 wsX6_odds cX6_odds 6 (some .long)) (x1 : Int32) (x2 : Int32) (kx : Int32 → Mem → Option (Int64 × Mem)) (hk : ∀ (y3 : Int32) (M : Mem), WO v w rmX6_odds 6 eL (kx y3 M) 79 [(0, .ref (w.2.1 0)), (2, .int x2), (3, .int y3)] [] M) : ∀ (n : Nat) (x3 : Int32) (x4 : Int32) (M : Mem), WO v w rmX6_odds 6 eL (f_X6_odds_L26 x1 x2 kx n x3 x4 M) 26 [(0, .ref (w.2.1 0)), (1, .int x1), (2, .int x2), (3, .int x3), (4, .int x4)] [] M := by
  intro n
  induction n with
  | zero => intro x3 x4 M; exact WO.nothing
  | succ n ih =>
    intro x3 x4 M
    rw [f_X6_odds_L26]
    refine WO.iload (n := 28) hA dX6_odds_26 4 rfl rfl ?_
    refine WO.aload_n (n := 29) hA dX6_odds_28 0 rfl rfl ?_
    refine WO.getI (j := 7) (n := 32) hA (m_0 hw) rfl fiX6_odds_X6 (by decide) rfl fkX6_odds_71 dX6_odds_29 rfl ?_
    refine WO.icmp_ge (tg := 79) (n := 35) hA dX6_odds_32 (by decide) rfl (fun _ => ?_) (fun _ => ?_)
    · refine WO.sub (lv' := [(0, .ref (w.2.1 0)), (2, .int x2), (3, .int x3)]) [0, 2, 3] rfl ?_
      exact hk x3 M
    · refine WO.iconst (x := (0 : Int32)) (n := 36) hA dX6_odds_35 (by decide) rfl ?_
      refine WO.istore (lv' := [(5, .int (0 : Int32)), (0, .ref (w.2.1 0)), (1, .int x1), (2, .int x2), (3, .int x3), (4, .int x4)]) (n := 38) hA dX6_odds_36 (by decide) rfl rfl ?_
      refine WO.sub (lv' := [(0, .ref (w.2.1 0)), (1, .int x1), (2, .int x2), (3, .int x3), (4, .int x4), (5, .int (0 : Int32))]) [1, 2, 3, 4, 5, 0] rfl ?_
      refine w_X6_odds_L38 hw hA x1 x2 x4 _ (fun e9 M10 => ?_) _ _ _ _
      refine WO.iinc (y := (1 : Int32)) (lv' := [(4, .int (x4 + (1 : Int32))), (0, .ref (w.2.1 0)), (1, .int x1), (2, .int x2), (3, .int e9)]) (n := 76) hA dX6_odds_73 4 rfl (by decide) (by decide) rfl rfl ?_
      refine WO.goto (n := 26) hA dX6_odds_76 (by decide) ?_
      refine WO.sub (lv' := [(0, .ref (w.2.1 0)), (1, .int x1), (2, .int x2), (3, .int e9), (4, .int (x4 + (1 : Int32)))]) [1, 2, 3, 4, 0] rfl ?_
      exact ih e9 (x4 + (1 : Int32)) M10
set_option maxHeartbeats 4000000 in
set_option maxRecDepth 100000 in
theorem c_X6_odds (l : Launch) (w : Cw) (hw : w.2.2.2.2.2 = shM) (x1 : Int32) (x2 : Int32) (M : Mem) : Ok l w eL yX6_odds wsX6_odds rmX6_odds [.ref (w.2.1 0), .int x1, .int x2] M (f_X6_odds x1 x2 M) := by
  refine Ok.of (cc := cX6_odds) (nL := 6) (ret := (some .long)) (lv := [(0, .ref (w.2.1 0)), (1, .int x1), (2, .int x2)]) (by decide) rfl (Nat.le_of_ble_eq_true rfl) rfl (fun v hv hA => ?_)
  subst hv
  have hA : Act v w RX6 wsX6_odds cX6_odds 6 (some .long) := hA
  unfold f_X6_odds
  refine WO.aload_n (n := 1) hA dX6_odds_0 0 rfl rfl ?_
  refine WO.iload_n (n := 2) hA dX6_odds_1 1 rfl rfl ?_
  refine WO.callVi (As := [.int x1]) (rest := []) (n := 5) hA (c_X6_isHouse v.2.1 w hw x1 M) gX6_odds_X6_isHouse rfl (m_0 hw) rfl mdX6_isHouse ⟨rfl, rfl, Nat.le_of_ble_eq_true rfl, Nat.le_of_ble_eq_true rfl⟩ rfl rfl (Nat.le_of_ble_eq_true rfl) dX6_odds_2 rfl (fun r2 M1 => ?_)
  refine WO.if_eq (tg := 17) (n := 8) hA dX6_odds_5 (by decide) rfl (fun _ => ?_) (fun _ => ?_)
  · refine WO.ldc2 (n := 20) hA kkX6_odds_62 dX6_odds_17 rfl ?_
    exact WO.lret hA dX6_odds_20
  · refine WO.iload_n (n := 9) hA dX6_odds_8 2 rfl rfl ?_
    refine WO.iconst (x := (0 : Int32)) (n := 10) hA dX6_odds_9 (by decide) rfl ?_
    refine WO.iconst (x := (1 : Int32)) (n := 11) hA dX6_odds_10 (by decide) rfl ?_
    refine WO.callSi (As := [.int x2, .int (0 : Int32), .int (1 : Int32)]) (rest := []) (n := 14) hA (c_X6_within v.2.1 w hw x2 (0 : Int32) (1 : Int32) M1) gX6_odds_X6_within rfl mdX6_within ⟨rfl, rfl, Nat.le_of_ble_eq_true rfl, Nat.le_of_ble_eq_true rfl⟩ rfl rfl (Nat.le_of_ble_eq_true rfl) dX6_odds_11 rfl (fun r4 M3 => ?_)
    refine WO.if_ne (tg := 21) (n := 17) hA dX6_odds_14 (by decide) rfl (fun _ => ?_) (fun _ => ?_)
    · refine WO.ldc2 (n := 20) hA kkX6_odds_62 dX6_odds_17 rfl ?_
      exact WO.lret hA dX6_odds_20
    · refine WO.iconst (x := (0 : Int32)) (n := 22) hA dX6_odds_21 (by decide) rfl ?_
      refine WO.istore_n (i := 3) (lv' := [(3, .int (0 : Int32)), (0, .ref (w.2.1 0)), (1, .int x1), (2, .int x2)]) (n := 23) hA dX6_odds_22 rfl (by decide) rfl rfl ?_
      refine WO.iconst (x := (0 : Int32)) (n := 24) hA dX6_odds_23 (by decide) rfl ?_
      refine WO.istore (lv' := [(4, .int (0 : Int32)), (3, .int (0 : Int32)), (0, .ref (w.2.1 0)), (1, .int x1), (2, .int x2)]) (n := 26) hA dX6_odds_24 (by decide) rfl rfl ?_
      refine WO.sub (lv' := [(0, .ref (w.2.1 0)), (1, .int x1), (2, .int x2), (3, .int (0 : Int32)), (4, .int (0 : Int32))]) [2, 3, 4, 1, 0] rfl ?_
      refine w_X6_odds_L26 hw hA x1 x2 _ (fun e11 M12 => ?_) _ _ _ _
      refine WO.iload_n (n := 80) hA dX6_odds_79 2 rfl rfl ?_
      refine WO.i2l (n := 81) hA dX6_odds_80 rfl ?_
      refine WO.aload_n (n := 82) hA dX6_odds_81 0 rfl rfl ?_
      refine WO.getI (j := 7) (n := 85) hA (m_0 hw) rfl fiX6_odds_X6 (by decide) rfl fkX6_odds_71 dX6_odds_82 rfl ?_
      refine WO.aload_n (n := 86) hA dX6_odds_85 0 rfl rfl ?_
      refine WO.getI (j := 6) (n := 89) hA (m_0 hw) rfl fiX6_odds_X6 (by decide) rfl fkX6_odds_68 dX6_odds_86 rfl ?_
      refine WO.imul (n := 90) hA dX6_odds_89 rfl ?_
      refine WO.i2l (n := 91) hA dX6_odds_90 rfl ?_
      refine WO.iload_n (n := 92) hA dX6_odds_91 1 rfl rfl ?_
      refine WO.callSl (As := [.long ((e11).toInt64), .long ((((M12 0 7) * (M12 0 6))).toInt64), .int x2]) (rest := []) (n := 95) hA (c_X6_inLeastTerms v.2.1 w hw ((e11).toInt64) ((((M12 0 7) * (M12 0 6))).toInt64) x2 M12) gX6_odds_X6_inLeastTerms rfl mdX6_inLeastTerms ⟨rfl, rfl, Nat.le_of_ble_eq_true rfl, Nat.le_of_ble_eq_true rfl⟩ rfl rfl (Nat.le_of_ble_eq_true rfl) dX6_odds_92 rfl (fun r14 M13 => ?_)
      exact WO.lret hA dX6_odds_95
/- X6_sheet -/
abbrev rmX6_sheet : Room := { frames := 2, cells := 0, slots := 0, locals := 42 }
theorem mdX6_sheet : yX6_sheet.cls = RX6 ∧ yX6_sheet.cls ≠ "java/lang/invoke/MethodHandle" ∧ yX6_sheet.cls ≠ "java/lang/invoke/VarHandle" ∧ (parseMethodDescriptor yX6_sheet.desc).map (fun d => d.parameters.length) = some 3 := by decide +kernel
theorem fkX6_sheet_58 : Cond.fieldLink RX6 58 (TX6 0).1 (TX6 0).2.1 (TX6 0).2.2.1 ∈ wsX6_sheet := by decide +kernel
theorem fiX6_sheet_X6 : ∀ q ∈ u_ws RX6 TX6 30, q ∈ wsX6_sheet := by decide +kernel
theorem fkX6_sheet_9 : Cond.fieldLink RX6 9 (TX6 2).1 (TX6 2).2.1 (TX6 2).2.2.1 ∈ wsX6_sheet := by decide +kernel
theorem fkX6_sheet_13 : Cond.fieldLink RX6 13 (TX6 3).1 (TX6 3).2.1 (TX6 3).2.2.1 ∈ wsX6_sheet := by decide +kernel
theorem fkX6_sheet_16 : Cond.fieldLink RX6 16 (TX6 4).1 (TX6 4).2.1 (TX6 4).2.2.1 ∈ wsX6_sheet := by decide +kernel
noncomputable def f_X6_sheet_L57 (x1 : Int32) (kx : Mem → Option (Int32 × Mem)) : Nat → Int32 → Mem → Option (Int32 × Mem)
  | 0, _, _ => none
  | n + 1, x4, M => if (60 : Int32) ≤ x4 then (kx  M) else (grd (((60 : Int32) * x1) + x4) 240 (mlt (mu M 3 (((60 : Int32) * x1) + x4).toNatClampNeg (0 : Int32)) (fun M8 => f_X6_sheet_L57 x1 kx n (x4 + (1 : Int32)) M8)))
noncomputable def f_X6_sheet (x1 : Int32) (x2 : Int32) (x3 : Int32) (M : Mem) : Option (Int32 × Mem) := mlt (mu M 0 0 (0 : Int32)) (fun M1 => bd (f_X6_isSheet x1 M1) (fun r3 M2 => if r3 = 0 then (some ((-1 : Int32), M2)) else (bd (f_X6_isSort x2 M2) (fun r5 M4 => if r5 = 0 then (some ((-2 : Int32), M4)) else (if x3 ≤ (60 : Int32) then (if 0 ≤ x3 then (grd x1 4 (mlt (mu M4 1 x1.toNatClampNeg x2) (fun M6 => grd x1 4 (mlt (mu M6 2 x1.toNatClampNeg x3) (fun M7 => f_X6_sheet_L57 x1 (fun  M9 => some ((1 : Int32), M9)) FU (0 : Int32) M7))))) else (bd (f_X6_fails (4 : Int32) M4) (fun r11 M10 => some (r11, M10)))) else (some ((-2 : Int32), M4)))))))
set_option maxHeartbeats 4000000 in
set_option maxRecDepth 100000 in
theorem w_X6_sheet_L57 {v : Av} {w : Cw} (hw : w.2.2.2.2.2 = shM) (hA : Act v w RX6 wsX6_sheet cX6_sheet 5 (some .int)) (x1 : Int32) (kx : Mem → Option (Int32 × Mem)) (hk : ∀ (M : Mem), WO v w rmX6_sheet 5 eI (kx M) 83 [] [] M) : ∀ (n : Nat) (x4 : Int32) (M : Mem), WO v w rmX6_sheet 5 eI (f_X6_sheet_L57 x1 kx n x4 M) 57 [(0, .ref (w.2.1 0)), (1, .int x1), (4, .int x4)] [] M := by
  intro n
  induction n with
  | zero => intro x4 M; exact WO.nothing
  | succ n ih =>
    intro x4 M
    rw [f_X6_sheet_L57]
    refine WO.iload (n := 59) hA dX6_sheet_57 2 rfl rfl ?_
    refine WO.bipush (x := (60 : Int32)) (n := 61) hA dX6_sheet_59 (by decide) rfl ?_
    refine WO.icmp_ge (tg := 83) (n := 64) hA dX6_sheet_61 (by decide) rfl (fun _ => ?_) (fun _ => ?_)
    · refine WO.sub (lv' := []) [] rfl ?_
      exact hk  M
    · refine WO.aload_n (n := 65) hA dX6_sheet_64 0 rfl rfl ?_
      refine WO.getR (j := 4) (p := 3) (n := 68) hA (m_0 hw) rfl fiX6_sheet_X6 (by decide) rfl fkX6_sheet_16 dX6_sheet_65 rfl ?_
      refine WO.bipush (x := (60 : Int32)) (n := 70) hA dX6_sheet_68 (by decide) rfl ?_
      refine WO.iload_n (n := 71) hA dX6_sheet_70 1 rfl rfl ?_
      refine WO.imul (n := 72) hA dX6_sheet_71 rfl ?_
      refine WO.iload (n := 74) hA dX6_sheet_72 2 rfl rfl ?_
      refine WO.iadd (n := 75) hA dX6_sheet_74 rfl ?_
      refine WO.iconst (x := (0 : Int32)) (n := 76) hA dX6_sheet_75 (by decide) rfl ?_
      refine WO.iast (n := 77) hA (m_3 hw) dX6_sheet_76 rfl (fun _ => ?_)
      refine WO.mem (fun M8 => ?_)
      refine WO.iinc (y := (1 : Int32)) (lv' := [(4, .int (x4 + (1 : Int32))), (0, .ref (w.2.1 0)), (1, .int x1)]) (n := 80) hA dX6_sheet_77 2 rfl (by decide) (by decide) rfl rfl ?_
      refine WO.goto (n := 57) hA dX6_sheet_80 (by decide) ?_
      refine WO.sub (lv' := [(0, .ref (w.2.1 0)), (1, .int x1), (4, .int (x4 + (1 : Int32)))]) [1, 2, 0] rfl ?_
      exact ih (x4 + (1 : Int32)) M8
set_option maxHeartbeats 4000000 in
set_option maxRecDepth 100000 in
theorem c_X6_sheet (l : Launch) (w : Cw) (hw : w.2.2.2.2.2 = shM) (x1 : Int32) (x2 : Int32) (x3 : Int32) (M : Mem) : Ok l w eI yX6_sheet wsX6_sheet rmX6_sheet [.ref (w.2.1 0), .int x1, .int x2, .int x3] M (f_X6_sheet x1 x2 x3 M) := by
  refine Ok.of (cc := cX6_sheet) (nL := 5) (ret := (some .int)) (lv := [(0, .ref (w.2.1 0)), (1, .int x1), (2, .int x2), (3, .int x3)]) (by decide) rfl (Nat.le_of_ble_eq_true rfl) rfl (fun v hv hA => ?_)
  subst hv
  have hA : Act v w RX6 wsX6_sheet cX6_sheet 5 (some .int) := hA
  unfold f_X6_sheet
  refine WO.aload_n (n := 1) hA dX6_sheet_0 0 rfl rfl ?_
  refine WO.iconst (x := (0 : Int32)) (n := 2) hA dX6_sheet_1 (by decide) rfl ?_
  refine WO.putI (j := 0) (n := 5) hA (m_0 hw) rfl fiX6_sheet_X6 tyX6 tyX6_ok nmX6 (by decide) rfl fkX6_sheet_58 rfl rfl rfl rfl dX6_sheet_2 rfl ?_
  refine WO.mem (fun M1 => ?_)
  refine WO.iload_n (n := 6) hA dX6_sheet_5 1 rfl rfl ?_
  refine WO.callSi (As := [.int x1]) (rest := []) (n := 9) hA (c_X6_isSheet v.2.1 w hw x1 M1) gX6_sheet_X6_isSheet rfl mdX6_isSheet ⟨rfl, rfl, Nat.le_of_ble_eq_true rfl, Nat.le_of_ble_eq_true rfl⟩ rfl rfl (Nat.le_of_ble_eq_true rfl) dX6_sheet_6 rfl (fun r3 M2 => ?_)
  refine WO.if_ne (tg := 14) (n := 12) hA dX6_sheet_9 (by decide) rfl (fun _ => ?_) (fun _ => ?_)
  · refine WO.iconst (x := (-1 : Int32)) (n := 13) hA dX6_sheet_12 (by decide) rfl ?_
    exact WO.iret hA dX6_sheet_13
  · refine WO.iload_n (n := 15) hA dX6_sheet_14 2 rfl rfl ?_
    refine WO.callSi (As := [.int x2]) (rest := []) (n := 18) hA (c_X6_isSort v.2.1 w hw x2 M2) gX6_sheet_X6_isSort rfl mdX6_isSort ⟨rfl, rfl, Nat.le_of_ble_eq_true rfl, Nat.le_of_ble_eq_true rfl⟩ rfl rfl (Nat.le_of_ble_eq_true rfl) dX6_sheet_15 rfl (fun r5 M4 => ?_)
    refine WO.if_eq (tg := 27) (n := 21) hA dX6_sheet_18 (by decide) rfl (fun _ => ?_) (fun _ => ?_)
    · refine WO.bipush (x := (-2 : Int32)) (n := 29) hA dX6_sheet_27 (by decide) rfl ?_
      exact WO.iret hA dX6_sheet_29
    · refine WO.iload_n (n := 22) hA dX6_sheet_21 3 rfl rfl ?_
      refine WO.bipush (x := (60 : Int32)) (n := 24) hA dX6_sheet_22 (by decide) rfl ?_
      refine WO.icmp_le (tg := 30) (n := 27) hA dX6_sheet_24 (by decide) rfl (fun _ => ?_) (fun _ => ?_)
      · refine WO.iload_n (n := 31) hA dX6_sheet_30 3 rfl rfl ?_
        refine WO.if_ge (tg := 40) (n := 34) hA dX6_sheet_31 (by decide) rfl (fun _ => ?_) (fun _ => ?_)
        · refine WO.aload_n (n := 41) hA dX6_sheet_40 0 rfl rfl ?_
          refine WO.getR (j := 2) (p := 1) (n := 44) hA (m_0 hw) rfl fiX6_sheet_X6 (by decide) rfl fkX6_sheet_9 dX6_sheet_41 rfl ?_
          refine WO.iload_n (n := 45) hA dX6_sheet_44 1 rfl rfl ?_
          refine WO.iload_n (n := 46) hA dX6_sheet_45 2 rfl rfl ?_
          refine WO.iast (n := 47) hA (m_1 hw) dX6_sheet_46 rfl (fun _ => ?_)
          refine WO.mem (fun M6 => ?_)
          refine WO.aload_n (n := 48) hA dX6_sheet_47 0 rfl rfl ?_
          refine WO.getR (j := 3) (p := 2) (n := 51) hA (m_0 hw) rfl fiX6_sheet_X6 (by decide) rfl fkX6_sheet_13 dX6_sheet_48 rfl ?_
          refine WO.iload_n (n := 52) hA dX6_sheet_51 1 rfl rfl ?_
          refine WO.iload_n (n := 53) hA dX6_sheet_52 3 rfl rfl ?_
          refine WO.iast (n := 54) hA (m_2 hw) dX6_sheet_53 rfl (fun _ => ?_)
          refine WO.mem (fun M7 => ?_)
          refine WO.iconst (x := (0 : Int32)) (n := 55) hA dX6_sheet_54 (by decide) rfl ?_
          refine WO.istore (lv' := [(4, .int (0 : Int32)), (0, .ref (w.2.1 0)), (1, .int x1), (2, .int x2), (3, .int x3)]) (n := 57) hA dX6_sheet_55 (by decide) rfl rfl ?_
          refine WO.sub (lv' := [(0, .ref (w.2.1 0)), (1, .int x1), (4, .int (0 : Int32))]) [1, 2, 0] rfl ?_
          refine w_X6_sheet_L57 hw hA x1 _ (fun  M9 => ?_) _ _ _
          refine WO.iconst (x := (1 : Int32)) (n := 84) hA dX6_sheet_83 (by decide) rfl ?_
          exact WO.iret hA dX6_sheet_84
        · refine WO.aload_n (n := 35) hA dX6_sheet_34 0 rfl rfl ?_
          refine WO.iconst (x := (4 : Int32)) (n := 36) hA dX6_sheet_35 (by decide) rfl ?_
          refine WO.callVi (As := [.int (4 : Int32)]) (rest := []) (n := 39) hA (c_X6_fails v.2.1 w hw (4 : Int32) M4) gX6_sheet_X6_fails rfl (m_0 hw) rfl mdX6_fails ⟨rfl, rfl, Nat.le_of_ble_eq_true rfl, Nat.le_of_ble_eq_true rfl⟩ rfl rfl (Nat.le_of_ble_eq_true rfl) dX6_sheet_36 rfl (fun r11 M10 => ?_)
          exact WO.iret hA dX6_sheet_39
      · refine WO.bipush (x := (-2 : Int32)) (n := 29) hA dX6_sheet_27 (by decide) rfl ?_
        exact WO.iret hA dX6_sheet_29
/- X6_lose -/
abbrev rmX6_lose : Room := { frames := 2, cells := 0, slots := 0, locals := 42 }
theorem mdX6_lose : yX6_lose.cls = RX6 ∧ yX6_lose.cls ≠ "java/lang/invoke/MethodHandle" ∧ yX6_lose.cls ≠ "java/lang/invoke/VarHandle" ∧ (parseMethodDescriptor yX6_lose.desc).map (fun d => d.parameters.length) = some 1 := by decide +kernel
theorem fkX6_lose_9 : Cond.fieldLink RX6 9 (TX6 2).1 (TX6 2).2.1 (TX6 2).2.2.1 ∈ wsX6_lose := by decide +kernel
theorem fiX6_lose_X6 : ∀ q ∈ u_ws RX6 TX6 30, q ∈ wsX6_lose := by decide +kernel
noncomputable def f_X6_lose (x1 : Int32) (M : Mem) : Option (Int32 × Mem) := bd (f_X6_isSheet x1 M) (fun r2 M1 => if r2 = 0 then (some ((-1 : Int32), M1)) else (grd x1 4 (if (M1 1 x1.toNatClampNeg) = (-9 : Int32) then (grd x1 4 (mlt (mu M1 1 x1.toNatClampNeg (-9 : Int32)) (fun M3 => some ((0 : Int32), M3)))) else (grd x1 4 (mlt (mu M1 1 x1.toNatClampNeg (-9 : Int32)) (fun M4 => some ((1 : Int32), M4)))))))
set_option maxHeartbeats 4000000 in
set_option maxRecDepth 100000 in
theorem c_X6_lose (l : Launch) (w : Cw) (hw : w.2.2.2.2.2 = shM) (x1 : Int32) (M : Mem) : Ok l w eI yX6_lose wsX6_lose rmX6_lose [.ref (w.2.1 0), .int x1] M (f_X6_lose x1 M) := by
  refine Ok.of (cc := cX6_lose) (nL := 3) (ret := (some .int)) (lv := [(0, .ref (w.2.1 0)), (1, .int x1)]) (by decide) rfl (Nat.le_of_ble_eq_true rfl) rfl (fun v hv hA => ?_)
  subst hv
  have hA : Act v w RX6 wsX6_lose cX6_lose 3 (some .int) := hA
  unfold f_X6_lose
  refine WO.iload_n (n := 1) hA dX6_lose_0 1 rfl rfl ?_
  refine WO.callSi (As := [.int x1]) (rest := []) (n := 4) hA (c_X6_isSheet v.2.1 w hw x1 M) gX6_lose_X6_isSheet rfl mdX6_isSheet ⟨rfl, rfl, Nat.le_of_ble_eq_true rfl, Nat.le_of_ble_eq_true rfl⟩ rfl rfl (Nat.le_of_ble_eq_true rfl) dX6_lose_1 rfl (fun r2 M1 => ?_)
  refine WO.if_ne (tg := 9) (n := 7) hA dX6_lose_4 (by decide) rfl (fun _ => ?_) (fun _ => ?_)
  · refine WO.iconst (x := (-1 : Int32)) (n := 8) hA dX6_lose_7 (by decide) rfl ?_
    exact WO.iret hA dX6_lose_8
  · refine WO.aload_n (n := 10) hA dX6_lose_9 0 rfl rfl ?_
    refine WO.getR (j := 2) (p := 1) (n := 13) hA (m_0 hw) rfl fiX6_lose_X6 (by decide) rfl fkX6_lose_9 dX6_lose_10 rfl ?_
    refine WO.iload_n (n := 14) hA dX6_lose_13 1 rfl rfl ?_
    refine WO.iald (n := 15) hA (m_1 hw) dX6_lose_14 rfl (fun _ => ?_)
    refine WO.bipush (x := (-9 : Int32)) (n := 17) hA dX6_lose_15 (by decide) rfl ?_
    refine WO.icmp_ne (tg := 24) (n := 20) hA dX6_lose_17 (by decide) rfl (fun _ => ?_) (fun _ => ?_)
    · refine WO.iconst (x := (0 : Int32)) (n := 21) hA dX6_lose_20 (by decide) rfl ?_
      refine WO.goto (n := 25) hA dX6_lose_21 (by decide) ?_
      refine WO.istore_n (i := 2) (lv' := [(2, .int (0 : Int32)), (0, .ref (w.2.1 0)), (1, .int x1)]) (n := 26) hA dX6_lose_25 rfl (by decide) rfl rfl ?_
      refine WO.aload_n (n := 27) hA dX6_lose_26 1 rfl rfl ?_
      refine WO.getR (j := 2) (p := 1) (n := 30) hA (m_0 hw) rfl fiX6_lose_X6 (by decide) rfl fkX6_lose_9 dX6_lose_27 rfl ?_
      refine WO.iload_n (n := 31) hA dX6_lose_30 2 rfl rfl ?_
      refine WO.bipush (x := (-9 : Int32)) (n := 33) hA dX6_lose_31 (by decide) rfl ?_
      refine WO.iast (n := 34) hA (m_1 hw) dX6_lose_33 rfl (fun _ => ?_)
      refine WO.mem (fun M3 => ?_)
      refine WO.iload_n (n := 35) hA dX6_lose_34 0 rfl rfl ?_
      exact WO.iret hA dX6_lose_35
    · refine WO.iconst (x := (1 : Int32)) (n := 25) hA dX6_lose_24 (by decide) rfl ?_
      refine WO.istore_n (i := 2) (lv' := [(2, .int (1 : Int32)), (0, .ref (w.2.1 0)), (1, .int x1)]) (n := 26) hA dX6_lose_25 rfl (by decide) rfl rfl ?_
      refine WO.aload_n (n := 27) hA dX6_lose_26 1 rfl rfl ?_
      refine WO.getR (j := 2) (p := 1) (n := 30) hA (m_0 hw) rfl fiX6_lose_X6 (by decide) rfl fkX6_lose_9 dX6_lose_27 rfl ?_
      refine WO.iload_n (n := 31) hA dX6_lose_30 2 rfl rfl ?_
      refine WO.bipush (x := (-9 : Int32)) (n := 33) hA dX6_lose_31 (by decide) rfl ?_
      refine WO.iast (n := 34) hA (m_1 hw) dX6_lose_33 rfl (fun _ => ?_)
      refine WO.mem (fun M4 => ?_)
      refine WO.iload_n (n := 35) hA dX6_lose_34 0 rfl rfl ?_
      exact WO.iret hA dX6_lose_35
/- X6_put -/
abbrev rmX6_put : Room := { frames := 2, cells := 0, slots := 0, locals := 42 }
theorem mdX6_put : yX6_put.cls = RX6 ∧ yX6_put.cls ≠ "java/lang/invoke/MethodHandle" ∧ yX6_put.cls ≠ "java/lang/invoke/VarHandle" ∧ (parseMethodDescriptor yX6_put.desc).map (fun d => d.parameters.length) = some 3 := by decide +kernel
theorem fkX6_put_58 : Cond.fieldLink RX6 58 (TX6 0).1 (TX6 0).2.1 (TX6 0).2.2.1 ∈ wsX6_put := by decide +kernel
theorem fiX6_put_X6 : ∀ q ∈ u_ws RX6 TX6 30, q ∈ wsX6_put := by decide +kernel
theorem fkX6_put_9 : Cond.fieldLink RX6 9 (TX6 2).1 (TX6 2).2.1 (TX6 2).2.2.1 ∈ wsX6_put := by decide +kernel
theorem fkX6_put_13 : Cond.fieldLink RX6 13 (TX6 3).1 (TX6 3).2.1 (TX6 3).2.2.1 ∈ wsX6_put := by decide +kernel
theorem fkX6_put_16 : Cond.fieldLink RX6 16 (TX6 4).1 (TX6 4).2.1 (TX6 4).2.2.1 ∈ wsX6_put := by decide +kernel
noncomputable def f_X6_put (x1 : Int32) (x2 : Int32) (x3 : Int32) (M : Mem) : Option (Int32 × Mem) := mlt (mu M 0 0 (0 : Int32)) (fun M1 => bd (f_X6_isSheet x1 M1) (fun r3 M2 => if r3 = 0 then (some ((-1 : Int32), M2)) else (grd x1 4 (if (M2 1 x1.toNatClampNeg) = (-9 : Int32) then (bd (f_X6_fails (1 : Int32) M2) (fun r5 M4 => some (r5, M4))) else (grd x1 4 (bd (f_X6_within x2 (0 : Int32) ((M2 2 x1.toNatClampNeg) - (1 : Int32)) M2) (fun r7 M6 => if r7 = 0 then (bd (f_X6_fails (3 : Int32) M6) (fun r9 M8 => some (r9, M8))) else (grd x1 4 (if (M6 1 x1.toNatClampNeg) = 0 then (grd (((60 : Int32) * x1) + x2) 240 (mlt (mu M6 3 (((60 : Int32) * x1) + x2).toNatClampNeg ((x3).toInt8.toInt32)) (fun M10 => some ((1 : Int32), M10)))) else (grd x1 4 (if (M6 1 x1.toNatClampNeg) = (1 : Int32) then (grd (((60 : Int32) * x1) + x2) 240 (mlt (mu M6 3 (((60 : Int32) * x1) + x2).toNatClampNeg ((x3).toInt16.toInt32)) (fun M11 => some ((1 : Int32), M11)))) else (grd (((60 : Int32) * x1) + x2) 240 (mlt (mu M6 3 (((60 : Int32) * x1) + x2).toNatClampNeg x3) (fun M12 => some ((1 : Int32), M12)))))))))))))))
set_option maxHeartbeats 4000000 in
set_option maxRecDepth 100000 in
theorem c_X6_put (l : Launch) (w : Cw) (hw : w.2.2.2.2.2 = shM) (x1 : Int32) (x2 : Int32) (x3 : Int32) (M : Mem) : Ok l w eI yX6_put wsX6_put rmX6_put [.ref (w.2.1 0), .int x1, .int x2, .int x3] M (f_X6_put x1 x2 x3 M) := by
  refine Ok.of (cc := cX6_put) (nL := 4) (ret := (some .int)) (lv := [(0, .ref (w.2.1 0)), (1, .int x1), (2, .int x2), (3, .int x3)]) (by decide) rfl (Nat.le_of_ble_eq_true rfl) rfl (fun v hv hA => ?_)
  subst hv
  have hA : Act v w RX6 wsX6_put cX6_put 4 (some .int) := hA
  unfold f_X6_put
  refine WO.aload_n (n := 1) hA dX6_put_0 0 rfl rfl ?_
  refine WO.iconst (x := (0 : Int32)) (n := 2) hA dX6_put_1 (by decide) rfl ?_
  refine WO.putI (j := 0) (n := 5) hA (m_0 hw) rfl fiX6_put_X6 tyX6 tyX6_ok nmX6 (by decide) rfl fkX6_put_58 rfl rfl rfl rfl dX6_put_2 rfl ?_
  refine WO.mem (fun M1 => ?_)
  refine WO.iload_n (n := 6) hA dX6_put_5 1 rfl rfl ?_
  refine WO.callSi (As := [.int x1]) (rest := []) (n := 9) hA (c_X6_isSheet v.2.1 w hw x1 M1) gX6_put_X6_isSheet rfl mdX6_isSheet ⟨rfl, rfl, Nat.le_of_ble_eq_true rfl, Nat.le_of_ble_eq_true rfl⟩ rfl rfl (Nat.le_of_ble_eq_true rfl) dX6_put_6 rfl (fun r3 M2 => ?_)
  refine WO.if_ne (tg := 14) (n := 12) hA dX6_put_9 (by decide) rfl (fun _ => ?_) (fun _ => ?_)
  · refine WO.iconst (x := (-1 : Int32)) (n := 13) hA dX6_put_12 (by decide) rfl ?_
    exact WO.iret hA dX6_put_13
  · refine WO.aload_n (n := 15) hA dX6_put_14 0 rfl rfl ?_
    refine WO.getR (j := 2) (p := 1) (n := 18) hA (m_0 hw) rfl fiX6_put_X6 (by decide) rfl fkX6_put_9 dX6_put_15 rfl ?_
    refine WO.iload_n (n := 19) hA dX6_put_18 1 rfl rfl ?_
    refine WO.iald (n := 20) hA (m_1 hw) dX6_put_19 rfl (fun _ => ?_)
    refine WO.bipush (x := (-9 : Int32)) (n := 22) hA dX6_put_20 (by decide) rfl ?_
    refine WO.icmp_ne (tg := 31) (n := 25) hA dX6_put_22 (by decide) rfl (fun _ => ?_) (fun _ => ?_)
    · refine WO.aload_n (n := 26) hA dX6_put_25 0 rfl rfl ?_
      refine WO.iconst (x := (1 : Int32)) (n := 27) hA dX6_put_26 (by decide) rfl ?_
      refine WO.callVi (As := [.int (1 : Int32)]) (rest := []) (n := 30) hA (c_X6_fails v.2.1 w hw (1 : Int32) M2) gX6_put_X6_fails rfl (m_0 hw) rfl mdX6_fails ⟨rfl, rfl, Nat.le_of_ble_eq_true rfl, Nat.le_of_ble_eq_true rfl⟩ rfl rfl (Nat.le_of_ble_eq_true rfl) dX6_put_27 rfl (fun r5 M4 => ?_)
      exact WO.iret hA dX6_put_30
    · refine WO.iload_n (n := 32) hA dX6_put_31 2 rfl rfl ?_
      refine WO.iconst (x := (0 : Int32)) (n := 33) hA dX6_put_32 (by decide) rfl ?_
      refine WO.aload_n (n := 34) hA dX6_put_33 0 rfl rfl ?_
      refine WO.getR (j := 3) (p := 2) (n := 37) hA (m_0 hw) rfl fiX6_put_X6 (by decide) rfl fkX6_put_13 dX6_put_34 rfl ?_
      refine WO.iload_n (n := 38) hA dX6_put_37 1 rfl rfl ?_
      refine WO.iald (n := 39) hA (m_2 hw) dX6_put_38 rfl (fun _ => ?_)
      refine WO.iconst (x := (1 : Int32)) (n := 40) hA dX6_put_39 (by decide) rfl ?_
      refine WO.isub (n := 41) hA dX6_put_40 rfl ?_
      refine WO.callSi (As := [.int x2, .int (0 : Int32), .int ((M2 2 x1.toNatClampNeg) - (1 : Int32))]) (rest := []) (n := 44) hA (c_X6_within v.2.1 w hw x2 (0 : Int32) ((M2 2 x1.toNatClampNeg) - (1 : Int32)) M2) gX6_put_X6_within rfl mdX6_within ⟨rfl, rfl, Nat.le_of_ble_eq_true rfl, Nat.le_of_ble_eq_true rfl⟩ rfl rfl (Nat.le_of_ble_eq_true rfl) dX6_put_41 rfl (fun r7 M6 => ?_)
      refine WO.if_ne (tg := 53) (n := 47) hA dX6_put_44 (by decide) rfl (fun _ => ?_) (fun _ => ?_)
      · refine WO.aload_n (n := 48) hA dX6_put_47 0 rfl rfl ?_
        refine WO.iconst (x := (3 : Int32)) (n := 49) hA dX6_put_48 (by decide) rfl ?_
        refine WO.callVi (As := [.int (3 : Int32)]) (rest := []) (n := 52) hA (c_X6_fails v.2.1 w hw (3 : Int32) M6) gX6_put_X6_fails rfl (m_0 hw) rfl mdX6_fails ⟨rfl, rfl, Nat.le_of_ble_eq_true rfl, Nat.le_of_ble_eq_true rfl⟩ rfl rfl (Nat.le_of_ble_eq_true rfl) dX6_put_49 rfl (fun r9 M8 => ?_)
        exact WO.iret hA dX6_put_52
      · refine WO.aload_n (n := 54) hA dX6_put_53 0 rfl rfl ?_
        refine WO.getR (j := 4) (p := 3) (n := 57) hA (m_0 hw) rfl fiX6_put_X6 (by decide) rfl fkX6_put_16 dX6_put_54 rfl ?_
        refine WO.bipush (x := (60 : Int32)) (n := 59) hA dX6_put_57 (by decide) rfl ?_
        refine WO.iload_n (n := 60) hA dX6_put_59 1 rfl rfl ?_
        refine WO.imul (n := 61) hA dX6_put_60 rfl ?_
        refine WO.iload_n (n := 62) hA dX6_put_61 2 rfl rfl ?_
        refine WO.iadd (n := 63) hA dX6_put_62 rfl ?_
        refine WO.aload_n (n := 64) hA dX6_put_63 0 rfl rfl ?_
        refine WO.getR (j := 2) (p := 1) (n := 67) hA (m_0 hw) rfl fiX6_put_X6 (by decide) rfl fkX6_put_9 dX6_put_64 rfl ?_
        refine WO.iload_n (n := 68) hA dX6_put_67 1 rfl rfl ?_
        refine WO.iald (n := 69) hA (m_1 hw) dX6_put_68 rfl (fun _ => ?_)
        refine WO.if_ne (tg := 77) (n := 72) hA dX6_put_69 (by decide) rfl (fun _ => ?_) (fun _ => ?_)
        · refine WO.iload_n (n := 73) hA dX6_put_72 3 rfl rfl ?_
          refine WO.i2b (n := 74) hA dX6_put_73 rfl ?_
          refine WO.goto (n := 93) hA dX6_put_74 (by decide) ?_
          refine WO.iast (n := 94) hA (m_3 hw) dX6_put_93 rfl (fun _ => ?_)
          refine WO.mem (fun M10 => ?_)
          refine WO.iconst (x := (1 : Int32)) (n := 95) hA dX6_put_94 (by decide) rfl ?_
          exact WO.iret hA dX6_put_95
        · refine WO.aload_n (n := 78) hA dX6_put_77 0 rfl rfl ?_
          refine WO.getR (j := 2) (p := 1) (n := 81) hA (m_0 hw) rfl fiX6_put_X6 (by decide) rfl fkX6_put_9 dX6_put_78 rfl ?_
          refine WO.iload_n (n := 82) hA dX6_put_81 1 rfl rfl ?_
          refine WO.iald (n := 83) hA (m_1 hw) dX6_put_82 rfl (fun _ => ?_)
          refine WO.iconst (x := (1 : Int32)) (n := 84) hA dX6_put_83 (by decide) rfl ?_
          refine WO.icmp_ne (tg := 92) (n := 87) hA dX6_put_84 (by decide) rfl (fun _ => ?_) (fun _ => ?_)
          · refine WO.iload_n (n := 88) hA dX6_put_87 3 rfl rfl ?_
            refine WO.i2s (n := 89) hA dX6_put_88 rfl ?_
            refine WO.goto (n := 93) hA dX6_put_89 (by decide) ?_
            refine WO.iast (n := 94) hA (m_3 hw) dX6_put_93 rfl (fun _ => ?_)
            refine WO.mem (fun M11 => ?_)
            refine WO.iconst (x := (1 : Int32)) (n := 95) hA dX6_put_94 (by decide) rfl ?_
            exact WO.iret hA dX6_put_95
          · refine WO.iload_n (n := 93) hA dX6_put_92 3 rfl rfl ?_
            refine WO.iast (n := 94) hA (m_3 hw) dX6_put_93 rfl (fun _ => ?_)
            refine WO.mem (fun M12 => ?_)
            refine WO.iconst (x := (1 : Int32)) (n := 95) hA dX6_put_94 (by decide) rfl ?_
            exact WO.iret hA dX6_put_95
/- X6_cell -/
abbrev rmX6_cell : Room := { frames := 2, cells := 0, slots := 0, locals := 42 }
theorem mdX6_cell : yX6_cell.cls = RX6 ∧ yX6_cell.cls ≠ "java/lang/invoke/MethodHandle" ∧ yX6_cell.cls ≠ "java/lang/invoke/VarHandle" ∧ (parseMethodDescriptor yX6_cell.desc).map (fun d => d.parameters.length) = some 3 := by decide +kernel
theorem fkX6_cell_58 : Cond.fieldLink RX6 58 (TX6 0).1 (TX6 0).2.1 (TX6 0).2.2.1 ∈ wsX6_cell := by decide +kernel
theorem fiX6_cell_X6 : ∀ q ∈ u_ws RX6 TX6 30, q ∈ wsX6_cell := by decide +kernel
theorem kkX6_cell_62 : Jvm.Cond.constantLong RX6 62 (-9223372036854775808 : Int64) ∈ wsX6_cell := by decide +kernel
theorem fkX6_cell_9 : Cond.fieldLink RX6 9 (TX6 2).1 (TX6 2).2.1 (TX6 2).2.2.1 ∈ wsX6_cell := by decide +kernel
theorem fkX6_cell_13 : Cond.fieldLink RX6 13 (TX6 3).1 (TX6 3).2.1 (TX6 3).2.2.1 ∈ wsX6_cell := by decide +kernel
theorem fkX6_cell_16 : Cond.fieldLink RX6 16 (TX6 4).1 (TX6 4).2.1 (TX6 4).2.2.1 ∈ wsX6_cell := by decide +kernel
noncomputable def f_X6_cell (x1 : Int32) (x2 : Int32) (x3 : Int32) (M : Mem) : Option (Int64 × Mem) := mlt (mu M 0 0 (0 : Int32)) (fun M1 => bd (f_X6_isSheet x1 M1) (fun r3 M2 => if r3 = 0 then (some ((-9223372036854775808 : Int64), M2)) else (bd (f_X6_isSort x3 M2) (fun r5 M4 => if r5 = 0 then (some ((-9223372036854775808 : Int64), M4)) else (grd x1 4 (if (M4 1 x1.toNatClampNeg) = (-9 : Int32) then (grd x1 4 (if (M4 1 x1.toNatClampNeg) = (-9 : Int32) then (bd (f_X6_lost (1 : Int32) M4) (fun r7 M6 => some (r7, M6))) else (grd x1 4 (bd (f_X6_within x2 (0 : Int32) ((M4 2 x1.toNatClampNeg) - (1 : Int32)) M4) (fun r9 M8 => if r9 = 0 then (bd (f_X6_lost (3 : Int32) M8) (fun r11 M10 => some (r11, M10))) else (grd (((60 : Int32) * x1) + x2) 240 (some ((((M8 3 (((60 : Int32) * x1) + x2).toNatClampNeg)).toInt64), M8)))))))) else (grd x1 4 (if (M4 1 x1.toNatClampNeg) = x3 then (grd x1 4 (if (M4 1 x1.toNatClampNeg) = (-9 : Int32) then (bd (f_X6_lost (1 : Int32) M4) (fun r13 M12 => some (r13, M12))) else (grd x1 4 (bd (f_X6_within x2 (0 : Int32) ((M4 2 x1.toNatClampNeg) - (1 : Int32)) M4) (fun r15 M14 => if r15 = 0 then (bd (f_X6_lost (3 : Int32) M14) (fun r17 M16 => some (r17, M16))) else (grd (((60 : Int32) * x1) + x2) 240 (some ((((M14 3 (((60 : Int32) * x1) + x2).toNatClampNeg)).toInt64), M14)))))))) else (bd (f_X6_lost (2 : Int32) M4) (fun r19 M18 => some (r19, M18)))))))))))
set_option maxHeartbeats 4000000 in
set_option maxRecDepth 100000 in
theorem c_X6_cell (l : Launch) (w : Cw) (hw : w.2.2.2.2.2 = shM) (x1 : Int32) (x2 : Int32) (x3 : Int32) (M : Mem) : Ok l w eL yX6_cell wsX6_cell rmX6_cell [.ref (w.2.1 0), .int x1, .int x2, .int x3] M (f_X6_cell x1 x2 x3 M) := by
  refine Ok.of (cc := cX6_cell) (nL := 4) (ret := (some .long)) (lv := [(0, .ref (w.2.1 0)), (1, .int x1), (2, .int x2), (3, .int x3)]) (by decide) rfl (Nat.le_of_ble_eq_true rfl) rfl (fun v hv hA => ?_)
  subst hv
  have hA : Act v w RX6 wsX6_cell cX6_cell 4 (some .long) := hA
  unfold f_X6_cell
  refine WO.aload_n (n := 1) hA dX6_cell_0 0 rfl rfl ?_
  refine WO.iconst (x := (0 : Int32)) (n := 2) hA dX6_cell_1 (by decide) rfl ?_
  refine WO.putI (j := 0) (n := 5) hA (m_0 hw) rfl fiX6_cell_X6 tyX6 tyX6_ok nmX6 (by decide) rfl fkX6_cell_58 rfl rfl rfl rfl dX6_cell_2 rfl ?_
  refine WO.mem (fun M1 => ?_)
  refine WO.iload_n (n := 6) hA dX6_cell_5 1 rfl rfl ?_
  refine WO.callSi (As := [.int x1]) (rest := []) (n := 9) hA (c_X6_isSheet v.2.1 w hw x1 M1) gX6_cell_X6_isSheet rfl mdX6_isSheet ⟨rfl, rfl, Nat.le_of_ble_eq_true rfl, Nat.le_of_ble_eq_true rfl⟩ rfl rfl (Nat.le_of_ble_eq_true rfl) dX6_cell_6 rfl (fun r3 M2 => ?_)
  refine WO.if_eq (tg := 19) (n := 12) hA dX6_cell_9 (by decide) rfl (fun _ => ?_) (fun _ => ?_)
  · refine WO.ldc2 (n := 22) hA kkX6_cell_62 dX6_cell_19 rfl ?_
    exact WO.lret hA dX6_cell_22
  · refine WO.iload_n (n := 13) hA dX6_cell_12 3 rfl rfl ?_
    refine WO.callSi (As := [.int x3]) (rest := []) (n := 16) hA (c_X6_isSort v.2.1 w hw x3 M2) gX6_cell_X6_isSort rfl mdX6_isSort ⟨rfl, rfl, Nat.le_of_ble_eq_true rfl, Nat.le_of_ble_eq_true rfl⟩ rfl rfl (Nat.le_of_ble_eq_true rfl) dX6_cell_13 rfl (fun r5 M4 => ?_)
    refine WO.if_ne (tg := 23) (n := 19) hA dX6_cell_16 (by decide) rfl (fun _ => ?_) (fun _ => ?_)
    · refine WO.ldc2 (n := 22) hA kkX6_cell_62 dX6_cell_19 rfl ?_
      exact WO.lret hA dX6_cell_22
    · refine WO.aload_n (n := 24) hA dX6_cell_23 0 rfl rfl ?_
      refine WO.getR (j := 2) (p := 1) (n := 27) hA (m_0 hw) rfl fiX6_cell_X6 (by decide) rfl fkX6_cell_9 dX6_cell_24 rfl ?_
      refine WO.iload_n (n := 28) hA dX6_cell_27 1 rfl rfl ?_
      refine WO.iald (n := 29) hA (m_1 hw) dX6_cell_28 rfl (fun _ => ?_)
      refine WO.bipush (x := (-9 : Int32)) (n := 31) hA dX6_cell_29 (by decide) rfl ?_
      refine WO.icmp_eq (tg := 50) (n := 34) hA dX6_cell_31 (by decide) rfl (fun _ => ?_) (fun _ => ?_)
      · refine WO.aload_n (n := 51) hA dX6_cell_50 0 rfl rfl ?_
        refine WO.getR (j := 2) (p := 1) (n := 54) hA (m_0 hw) rfl fiX6_cell_X6 (by decide) rfl fkX6_cell_9 dX6_cell_51 rfl ?_
        refine WO.iload_n (n := 55) hA dX6_cell_54 1 rfl rfl ?_
        refine WO.iald (n := 56) hA (m_1 hw) dX6_cell_55 rfl (fun _ => ?_)
        refine WO.bipush (x := (-9 : Int32)) (n := 58) hA dX6_cell_56 (by decide) rfl ?_
        refine WO.icmp_ne (tg := 67) (n := 61) hA dX6_cell_58 (by decide) rfl (fun _ => ?_) (fun _ => ?_)
        · refine WO.aload_n (n := 62) hA dX6_cell_61 0 rfl rfl ?_
          refine WO.iconst (x := (1 : Int32)) (n := 63) hA dX6_cell_62 (by decide) rfl ?_
          refine WO.callVl (As := [.int (1 : Int32)]) (rest := []) (n := 66) hA (c_X6_lost v.2.1 w hw (1 : Int32) M4) gX6_cell_X6_lost rfl (m_0 hw) rfl mdX6_lost ⟨rfl, rfl, Nat.le_of_ble_eq_true rfl, Nat.le_of_ble_eq_true rfl⟩ rfl rfl (Nat.le_of_ble_eq_true rfl) dX6_cell_63 rfl (fun r7 M6 => ?_)
          exact WO.lret hA dX6_cell_66
        · refine WO.iload_n (n := 68) hA dX6_cell_67 2 rfl rfl ?_
          refine WO.iconst (x := (0 : Int32)) (n := 69) hA dX6_cell_68 (by decide) rfl ?_
          refine WO.aload_n (n := 70) hA dX6_cell_69 0 rfl rfl ?_
          refine WO.getR (j := 3) (p := 2) (n := 73) hA (m_0 hw) rfl fiX6_cell_X6 (by decide) rfl fkX6_cell_13 dX6_cell_70 rfl ?_
          refine WO.iload_n (n := 74) hA dX6_cell_73 1 rfl rfl ?_
          refine WO.iald (n := 75) hA (m_2 hw) dX6_cell_74 rfl (fun _ => ?_)
          refine WO.iconst (x := (1 : Int32)) (n := 76) hA dX6_cell_75 (by decide) rfl ?_
          refine WO.isub (n := 77) hA dX6_cell_76 rfl ?_
          refine WO.callSi (As := [.int x2, .int (0 : Int32), .int ((M4 2 x1.toNatClampNeg) - (1 : Int32))]) (rest := []) (n := 80) hA (c_X6_within v.2.1 w hw x2 (0 : Int32) ((M4 2 x1.toNatClampNeg) - (1 : Int32)) M4) gX6_cell_X6_within rfl mdX6_within ⟨rfl, rfl, Nat.le_of_ble_eq_true rfl, Nat.le_of_ble_eq_true rfl⟩ rfl rfl (Nat.le_of_ble_eq_true rfl) dX6_cell_77 rfl (fun r9 M8 => ?_)
          refine WO.if_ne (tg := 89) (n := 83) hA dX6_cell_80 (by decide) rfl (fun _ => ?_) (fun _ => ?_)
          · refine WO.aload_n (n := 84) hA dX6_cell_83 0 rfl rfl ?_
            refine WO.iconst (x := (3 : Int32)) (n := 85) hA dX6_cell_84 (by decide) rfl ?_
            refine WO.callVl (As := [.int (3 : Int32)]) (rest := []) (n := 88) hA (c_X6_lost v.2.1 w hw (3 : Int32) M8) gX6_cell_X6_lost rfl (m_0 hw) rfl mdX6_lost ⟨rfl, rfl, Nat.le_of_ble_eq_true rfl, Nat.le_of_ble_eq_true rfl⟩ rfl rfl (Nat.le_of_ble_eq_true rfl) dX6_cell_85 rfl (fun r11 M10 => ?_)
            exact WO.lret hA dX6_cell_88
          · refine WO.aload_n (n := 90) hA dX6_cell_89 0 rfl rfl ?_
            refine WO.getR (j := 4) (p := 3) (n := 93) hA (m_0 hw) rfl fiX6_cell_X6 (by decide) rfl fkX6_cell_16 dX6_cell_90 rfl ?_
            refine WO.bipush (x := (60 : Int32)) (n := 95) hA dX6_cell_93 (by decide) rfl ?_
            refine WO.iload_n (n := 96) hA dX6_cell_95 1 rfl rfl ?_
            refine WO.imul (n := 97) hA dX6_cell_96 rfl ?_
            refine WO.iload_n (n := 98) hA dX6_cell_97 2 rfl rfl ?_
            refine WO.iadd (n := 99) hA dX6_cell_98 rfl ?_
            refine WO.iald (n := 100) hA (m_3 hw) dX6_cell_99 rfl (fun _ => ?_)
            refine WO.i2l (n := 101) hA dX6_cell_100 rfl ?_
            exact WO.lret hA dX6_cell_101
      · refine WO.aload_n (n := 35) hA dX6_cell_34 0 rfl rfl ?_
        refine WO.getR (j := 2) (p := 1) (n := 38) hA (m_0 hw) rfl fiX6_cell_X6 (by decide) rfl fkX6_cell_9 dX6_cell_35 rfl ?_
        refine WO.iload_n (n := 39) hA dX6_cell_38 1 rfl rfl ?_
        refine WO.iald (n := 40) hA (m_1 hw) dX6_cell_39 rfl (fun _ => ?_)
        refine WO.iload_n (n := 41) hA dX6_cell_40 3 rfl rfl ?_
        refine WO.icmp_eq (tg := 50) (n := 44) hA dX6_cell_41 (by decide) rfl (fun _ => ?_) (fun _ => ?_)
        · refine WO.aload_n (n := 51) hA dX6_cell_50 0 rfl rfl ?_
          refine WO.getR (j := 2) (p := 1) (n := 54) hA (m_0 hw) rfl fiX6_cell_X6 (by decide) rfl fkX6_cell_9 dX6_cell_51 rfl ?_
          refine WO.iload_n (n := 55) hA dX6_cell_54 1 rfl rfl ?_
          refine WO.iald (n := 56) hA (m_1 hw) dX6_cell_55 rfl (fun _ => ?_)
          refine WO.bipush (x := (-9 : Int32)) (n := 58) hA dX6_cell_56 (by decide) rfl ?_
          refine WO.icmp_ne (tg := 67) (n := 61) hA dX6_cell_58 (by decide) rfl (fun _ => ?_) (fun _ => ?_)
          · refine WO.aload_n (n := 62) hA dX6_cell_61 0 rfl rfl ?_
            refine WO.iconst (x := (1 : Int32)) (n := 63) hA dX6_cell_62 (by decide) rfl ?_
            refine WO.callVl (As := [.int (1 : Int32)]) (rest := []) (n := 66) hA (c_X6_lost v.2.1 w hw (1 : Int32) M4) gX6_cell_X6_lost rfl (m_0 hw) rfl mdX6_lost ⟨rfl, rfl, Nat.le_of_ble_eq_true rfl, Nat.le_of_ble_eq_true rfl⟩ rfl rfl (Nat.le_of_ble_eq_true rfl) dX6_cell_63 rfl (fun r13 M12 => ?_)
            exact WO.lret hA dX6_cell_66
          · refine WO.iload_n (n := 68) hA dX6_cell_67 2 rfl rfl ?_
            refine WO.iconst (x := (0 : Int32)) (n := 69) hA dX6_cell_68 (by decide) rfl ?_
            refine WO.aload_n (n := 70) hA dX6_cell_69 0 rfl rfl ?_
            refine WO.getR (j := 3) (p := 2) (n := 73) hA (m_0 hw) rfl fiX6_cell_X6 (by decide) rfl fkX6_cell_13 dX6_cell_70 rfl ?_
            refine WO.iload_n (n := 74) hA dX6_cell_73 1 rfl rfl ?_
            refine WO.iald (n := 75) hA (m_2 hw) dX6_cell_74 rfl (fun _ => ?_)
            refine WO.iconst (x := (1 : Int32)) (n := 76) hA dX6_cell_75 (by decide) rfl ?_
            refine WO.isub (n := 77) hA dX6_cell_76 rfl ?_
            refine WO.callSi (As := [.int x2, .int (0 : Int32), .int ((M4 2 x1.toNatClampNeg) - (1 : Int32))]) (rest := []) (n := 80) hA (c_X6_within v.2.1 w hw x2 (0 : Int32) ((M4 2 x1.toNatClampNeg) - (1 : Int32)) M4) gX6_cell_X6_within rfl mdX6_within ⟨rfl, rfl, Nat.le_of_ble_eq_true rfl, Nat.le_of_ble_eq_true rfl⟩ rfl rfl (Nat.le_of_ble_eq_true rfl) dX6_cell_77 rfl (fun r15 M14 => ?_)
            refine WO.if_ne (tg := 89) (n := 83) hA dX6_cell_80 (by decide) rfl (fun _ => ?_) (fun _ => ?_)
            · refine WO.aload_n (n := 84) hA dX6_cell_83 0 rfl rfl ?_
              refine WO.iconst (x := (3 : Int32)) (n := 85) hA dX6_cell_84 (by decide) rfl ?_
              refine WO.callVl (As := [.int (3 : Int32)]) (rest := []) (n := 88) hA (c_X6_lost v.2.1 w hw (3 : Int32) M14) gX6_cell_X6_lost rfl (m_0 hw) rfl mdX6_lost ⟨rfl, rfl, Nat.le_of_ble_eq_true rfl, Nat.le_of_ble_eq_true rfl⟩ rfl rfl (Nat.le_of_ble_eq_true rfl) dX6_cell_85 rfl (fun r17 M16 => ?_)
              exact WO.lret hA dX6_cell_88
            · refine WO.aload_n (n := 90) hA dX6_cell_89 0 rfl rfl ?_
              refine WO.getR (j := 4) (p := 3) (n := 93) hA (m_0 hw) rfl fiX6_cell_X6 (by decide) rfl fkX6_cell_16 dX6_cell_90 rfl ?_
              refine WO.bipush (x := (60 : Int32)) (n := 95) hA dX6_cell_93 (by decide) rfl ?_
              refine WO.iload_n (n := 96) hA dX6_cell_95 1 rfl rfl ?_
              refine WO.imul (n := 97) hA dX6_cell_96 rfl ?_
              refine WO.iload_n (n := 98) hA dX6_cell_97 2 rfl rfl ?_
              refine WO.iadd (n := 99) hA dX6_cell_98 rfl ?_
              refine WO.iald (n := 100) hA (m_3 hw) dX6_cell_99 rfl (fun _ => ?_)
              refine WO.i2l (n := 101) hA dX6_cell_100 rfl ?_
              exact WO.lret hA dX6_cell_101
        · refine WO.aload_n (n := 45) hA dX6_cell_44 0 rfl rfl ?_
          refine WO.iconst (x := (2 : Int32)) (n := 46) hA dX6_cell_45 (by decide) rfl ?_
          refine WO.callVl (As := [.int (2 : Int32)]) (rest := []) (n := 49) hA (c_X6_lost v.2.1 w hw (2 : Int32) M4) gX6_cell_X6_lost rfl (m_0 hw) rfl mdX6_lost ⟨rfl, rfl, Nat.le_of_ble_eq_true rfl, Nat.le_of_ble_eq_true rfl⟩ rfl rfl (Nat.le_of_ble_eq_true rfl) dX6_cell_46 rfl (fun r19 M18 => ?_)
          exact WO.lret hA dX6_cell_49
