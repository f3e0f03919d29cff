/- X6_oneNight -/
abbrev rmX6_oneNight : Room := { frames := 6, cells := 0, slots := 0, locals := 136 }
theorem mdX6_oneNight : yX6_oneNight.cls = RX6 ∧ yX6_oneNight.cls ≠ "java/lang/invoke/MethodHandle" ∧ yX6_oneNight.cls ≠ "java/lang/invoke/VarHandle" ∧ (parseMethodDescriptor yX6_oneNight.desc).map (fun d => d.parameters.length) = some 0 := by decide +kernel
theorem fkX6_oneNight_71 : Cond.fieldLink RX6 71 (TX6 7).1 (TX6 7).2.1 (TX6 7).2.2.1 ∈ wsX6_oneNight := by decide +kernel
theorem fiX6_oneNight_X6 : ∀ q ∈ u_ws RX6 TX6 30, q ∈ wsX6_oneNight := by decide +kernel
noncomputable def f_X6_oneNight_L2 (kx : Mem → Option (Unit × Mem)) : Nat → Int32 → Mem → Option (Unit × Mem)
  | 0, _, _ => none
  | n + 1, x1, M => if (M 0 7) ≤ x1 then (kx  M) else (bd (f_X6_strikes x1 M) (fun r2 M1 => f_X6_oneNight_L2 kx n (x1 + (1 : Int32)) M1))
noncomputable def f_X6_oneNight (M : Mem) : Option (Unit × Mem) := f_X6_oneNight_L2 (fun  M3 => some ((), M3)) FU (0 : Int32) M
set_option maxHeartbeats 4000000 in
set_option maxRecDepth 100000 in
theorem w_X6_oneNight_L2 {v : Av} {w : Cw} (hw : w.2.2.2.2.2 = shM) (hA : Act v w RX6 wsX6_oneNight cX6_oneNight 2 none) (kx : Mem → Option (Unit × Mem)) (hk : ∀ (M : Mem), WO v w rmX6_oneNight 2 eV (kx M) 22 [] [] M) : ∀ (n : Nat) (x1 : Int32) (M : Mem), WO v w rmX6_oneNight 2 eV (f_X6_oneNight_L2 kx n x1 M) 2 [(0, .ref (w.2.1 0)), (1, .int x1)] [] M := by
  intro n
  induction n with
  | zero => intro x1 M; exact WO.nothing
  | succ n ih =>
    intro x1 M
    rw [f_X6_oneNight_L2]
    refine WO.iload_n (n := 3) hA dX6_oneNight_2 1 rfl rfl ?_
    refine WO.aload_n (n := 4) hA dX6_oneNight_3 0 rfl rfl ?_
    refine WO.getI (j := 7) (n := 7) hA (m_0 hw) rfl fiX6_oneNight_X6 (by decide) rfl fkX6_oneNight_71 dX6_oneNight_4 rfl ?_
    refine WO.icmp_ge (tg := 22) (n := 10) hA dX6_oneNight_7 (by decide) rfl (fun _ => ?_) (fun _ => ?_)
    · refine WO.sub (lv' := []) [] rfl ?_
      exact hk  M
    · refine WO.aload_n (n := 11) hA dX6_oneNight_10 0 rfl rfl ?_
      refine WO.iload_n (n := 12) hA dX6_oneNight_11 1 rfl rfl ?_
      refine WO.callVi (As := [.int x1]) (rest := []) (n := 15) hA (c_X6_strikes v.2.1 w hw x1 M) gX6_oneNight_X6_strikes rfl (m_0 hw) rfl mdX6_strikes ⟨rfl, rfl, Nat.le_of_ble_eq_true rfl, Nat.le_of_ble_eq_true rfl⟩ rfl rfl (Nat.le_of_ble_eq_true rfl) dX6_oneNight_12 rfl (fun r2 M1 => ?_)
      refine WO.pop (n := 16) hA dX6_oneNight_15 rfl rfl ?_
      refine WO.iinc (y := (1 : Int32)) (lv' := [(1, .int (x1 + (1 : Int32))), (0, .ref (w.2.1 0))]) (n := 19) hA dX6_oneNight_16 1 rfl (by decide) (by decide) rfl rfl ?_
      refine WO.goto (n := 2) hA dX6_oneNight_19 (by decide) ?_
      refine WO.sub (lv' := [(0, .ref (w.2.1 0)), (1, .int (x1 + (1 : Int32)))]) [1, 0] rfl ?_
      exact ih (x1 + (1 : Int32)) M1
set_option maxHeartbeats 4000000 in
set_option maxRecDepth 100000 in
theorem c_X6_oneNight (l : Launch) (w : Cw) (hw : w.2.2.2.2.2 = shM) (M : Mem) : Ok l w eV yX6_oneNight wsX6_oneNight rmX6_oneNight [.ref (w.2.1 0)] M (f_X6_oneNight M) := by
  refine Ok.of (cc := cX6_oneNight) (nL := 2) (ret := none) (lv := [(0, .ref (w.2.1 0))]) (by decide) rfl (Nat.le_of_ble_eq_true rfl) rfl (fun v hv hA => ?_)
  subst hv
  have hA : Act v w RX6 wsX6_oneNight cX6_oneNight 2 none := hA
  unfold f_X6_oneNight
  refine WO.iconst (x := (0 : Int32)) (n := 1) hA dX6_oneNight_0 (by decide) rfl ?_
  refine WO.istore_n (i := 1) (lv' := [(1, .int (0 : Int32)), (0, .ref (w.2.1 0))]) (n := 2) hA dX6_oneNight_1 rfl (by decide) rfl rfl ?_
  refine WO.sub (lv' := [(0, .ref (w.2.1 0)), (1, .int (0 : Int32))]) [1, 0] rfl ?_
  refine w_X6_oneNight_L2 hw hA _ (fun  M3 => ?_) _ _ _
  exact WO.vret hA dX6_oneNight_22
/- X6_stroke -/
abbrev rmX6_stroke : Room := { frames := 6, cells := 0, slots := 0, locals := 136 }
theorem mdX6_stroke : yX6_stroke.cls = RX6 ∧ yX6_stroke.cls ≠ "java/lang/invoke/MethodHandle" ∧ yX6_stroke.cls ≠ "java/lang/invoke/VarHandle" ∧ (parseMethodDescriptor yX6_stroke.desc).map (fun d => d.parameters.length) = some 1 := by decide +kernel
noncomputable def f_X6_stroke (x1 : Int32) (M : Mem) : Option (Int32 × Mem) := bd (f_X6_isClock x1 M) (fun r2 M1 => if r2 = 0 then (some ((-1 : Int32), M1)) else (bd (f_X6_strikes x1 M1) (fun r4 M3 => some (r4, M3))))
set_option maxHeartbeats 4000000 in
set_option maxRecDepth 100000 in
theorem c_X6_stroke (l : Launch) (w : Cw) (hw : w.2.2.2.2.2 = shM) (x1 : Int32) (M : Mem) : Ok l w eI yX6_stroke wsX6_stroke rmX6_stroke [.ref (w.2.1 0), .int x1] M (f_X6_stroke x1 M) := by
  refine Ok.of (cc := cX6_stroke) (nL := 2) (ret := (some .int)) (lv := [(0, .ref (w.2.1 0)), (1, .int x1)]) (by decide) rfl (Nat.le_of_ble_eq_true rfl) rfl (fun v hv hA => ?_)
  subst hv
  have hA : Act v w RX6 wsX6_stroke cX6_stroke 2 (some .int) := hA
  unfold f_X6_stroke
  refine WO.aload_n (n := 1) hA dX6_stroke_0 0 rfl rfl ?_
  refine WO.iload_n (n := 2) hA dX6_stroke_1 1 rfl rfl ?_
  refine WO.callVi (As := [.int x1]) (rest := []) (n := 5) hA (c_X6_isClock v.2.1 w hw x1 M) gX6_stroke_X6_isClock rfl (m_0 hw) rfl mdX6_isClock ⟨rfl, rfl, Nat.le_of_ble_eq_true rfl, Nat.le_of_ble_eq_true rfl⟩ rfl rfl (Nat.le_of_ble_eq_true rfl) dX6_stroke_2 rfl (fun r2 M1 => ?_)
  refine WO.if_eq (tg := 16) (n := 8) hA dX6_stroke_5 (by decide) rfl (fun _ => ?_) (fun _ => ?_)
  · refine WO.iconst (x := (-1 : Int32)) (n := 17) hA dX6_stroke_16 (by decide) rfl ?_
    exact WO.iret hA dX6_stroke_17
  · refine WO.aload_n (n := 9) hA dX6_stroke_8 0 rfl rfl ?_
    refine WO.iload_n (n := 10) hA dX6_stroke_9 1 rfl rfl ?_
    refine WO.callVi (As := [.int x1]) (rest := []) (n := 13) hA (c_X6_strikes v.2.1 w hw x1 M1) gX6_stroke_X6_strikes rfl (m_0 hw) rfl mdX6_strikes ⟨rfl, rfl, Nat.le_of_ble_eq_true rfl, Nat.le_of_ble_eq_true rfl⟩ rfl rfl (Nat.le_of_ble_eq_true rfl) dX6_stroke_10 rfl (fun r4 M3 => ?_)
    refine WO.goto (n := 17) hA dX6_stroke_13 (by decide) ?_
    exact WO.iret hA dX6_stroke_17
/- X6_keep -/
abbrev rmX6_keep : Room := { frames := 0, cells := 0, slots := 0, locals := 0 }
theorem mdX6_keep : yX6_keep.cls = RX6 ∧ yX6_keep.cls ≠ "java/lang/invoke/MethodHandle" ∧ yX6_keep.cls ≠ "java/lang/invoke/VarHandle" ∧ (parseMethodDescriptor yX6_keep.desc).map (fun d => d.parameters.length) = some 0 := by decide +kernel
theorem fkX6_keep_71 : Cond.fieldLink RX6 71 (TX6 7).1 (TX6 7).2.1 (TX6 7).2.2.1 ∈ wsX6_keep := by decide +kernel
theorem fiX6_keep_X6 : ∀ q ∈ u_ws RX6 TX6 30, q ∈ wsX6_keep := by decide +kernel
theorem fkX6_keep_37 : Cond.fieldLink RX6 37 (TX6 22).1 (TX6 22).2.1 (TX6 22).2.2.1 ∈ wsX6_keep := by decide +kernel
theorem fkX6_keep_28 : Cond.fieldLink RX6 28 (TX6 13).1 (TX6 13).2.1 (TX6 13).2.2.1 ∈ wsX6_keep := by decide +kernel
noncomputable def f_X6_keep_L2 (kx : Mem → Option (Unit × Mem)) : Nat → Int32 → Mem → Option (Unit × Mem)
  | 0, _, _ => none
  | n + 1, x1, M => if (M 0 7) ≤ x1 then (kx  M) else (grd x1 4 (grd x1 4 (mlt (mu M 10 x1.toNatClampNeg (M 7 x1.toNatClampNeg)) (fun M1 => f_X6_keep_L2 kx n (x1 + (1 : Int32)) M1))))
noncomputable def f_X6_keep (M : Mem) : Option (Unit × Mem) := f_X6_keep_L2 (fun  M2 => some ((), M2)) FU (0 : Int32) M
set_option maxHeartbeats 4000000 in
set_option maxRecDepth 100000 in
theorem w_X6_keep_L2 {v : Av} {w : Cw} (hw : w.2.2.2.2.2 = shM) (hA : Act v w RX6 wsX6_keep cX6_keep 2 none) (kx : Mem → Option (Unit × Mem)) (hk : ∀ (M : Mem), WO v w rmX6_keep 2 eV (kx M) 28 [] [] M) : ∀ (n : Nat) (x1 : Int32) (M : Mem), WO v w rmX6_keep 2 eV (f_X6_keep_L2 kx n x1 M) 2 [(0, .ref (w.2.1 0)), (1, .int x1)] [] M := by
  intro n
  induction n with
  | zero => intro x1 M; exact WO.nothing
  | succ n ih =>
    intro x1 M
    rw [f_X6_keep_L2]
    refine WO.iload_n (n := 3) hA dX6_keep_2 1 rfl rfl ?_
    refine WO.aload_n (n := 4) hA dX6_keep_3 0 rfl rfl ?_
    refine WO.getI (j := 7) (n := 7) hA (m_0 hw) rfl fiX6_keep_X6 (by decide) rfl fkX6_keep_71 dX6_keep_4 rfl ?_
    refine WO.icmp_ge (tg := 28) (n := 10) hA dX6_keep_7 (by decide) rfl (fun _ => ?_) (fun _ => ?_)
    · refine WO.sub (lv' := []) [] rfl ?_
      exact hk  M
    · refine WO.aload_n (n := 11) hA dX6_keep_10 0 rfl rfl ?_
      refine WO.getR (j := 22) (p := 10) (n := 14) hA (m_0 hw) rfl fiX6_keep_X6 (by decide) rfl fkX6_keep_37 dX6_keep_11 rfl ?_
      refine WO.iload_n (n := 15) hA dX6_keep_14 1 rfl rfl ?_
      refine WO.aload_n (n := 16) hA dX6_keep_15 0 rfl rfl ?_
      refine WO.getR (j := 13) (p := 7) (n := 19) hA (m_0 hw) rfl fiX6_keep_X6 (by decide) rfl fkX6_keep_28 dX6_keep_16 rfl ?_
      refine WO.iload_n (n := 20) hA dX6_keep_19 1 rfl rfl ?_
      refine WO.iald (n := 21) hA (m_7 hw) dX6_keep_20 rfl (fun _ => ?_)
      refine WO.iast (n := 22) hA (m_10 hw) dX6_keep_21 rfl (fun _ => ?_)
      refine WO.mem (fun M1 => ?_)
      refine WO.iinc (y := (1 : Int32)) (lv' := [(1, .int (x1 + (1 : Int32))), (0, .ref (w.2.1 0))]) (n := 25) hA dX6_keep_22 1 rfl (by decide) (by decide) rfl rfl ?_
      refine WO.goto (n := 2) hA dX6_keep_25 (by decide) ?_
      refine WO.sub (lv' := [(0, .ref (w.2.1 0)), (1, .int (x1 + (1 : Int32)))]) [1, 0] rfl ?_
      exact ih (x1 + (1 : Int32)) M1
set_option maxHeartbeats 4000000 in
set_option maxRecDepth 100000 in
theorem c_X6_keep (l : Launch) (w : Cw) (hw : w.2.2.2.2.2 = shM) (M : Mem) : Ok l w eV yX6_keep wsX6_keep rmX6_keep [.ref (w.2.1 0)] M (f_X6_keep M) := by
  refine Ok.of (cc := cX6_keep) (nL := 2) (ret := none) (lv := [(0, .ref (w.2.1 0))]) (by decide) rfl (Nat.le_of_ble_eq_true rfl) rfl (fun v hv hA => ?_)
  subst hv
  have hA : Act v w RX6 wsX6_keep cX6_keep 2 none := hA
  unfold f_X6_keep
  refine WO.iconst (x := (0 : Int32)) (n := 1) hA dX6_keep_0 (by decide) rfl ?_
  refine WO.istore_n (i := 1) (lv' := [(1, .int (0 : Int32)), (0, .ref (w.2.1 0))]) (n := 2) hA dX6_keep_1 rfl (by decide) rfl rfl ?_
  refine WO.sub (lv' := [(0, .ref (w.2.1 0)), (1, .int (0 : Int32))]) [1, 0] rfl ?_
  refine w_X6_keep_L2 hw hA _ (fun  M2 => ?_) _ _ _
  exact WO.vret hA dX6_keep_28
/- X6_putBack -/
abbrev rmX6_putBack : Room := { frames := 0, cells := 0, slots := 0, locals := 0 }
theorem mdX6_putBack : yX6_putBack.cls = RX6 ∧ yX6_putBack.cls ≠ "java/lang/invoke/MethodHandle" ∧ yX6_putBack.cls ≠ "java/lang/invoke/VarHandle" ∧ (parseMethodDescriptor yX6_putBack.desc).map (fun d => d.parameters.length) = some 0 := by decide +kernel
theorem fkX6_putBack_71 : Cond.fieldLink RX6 71 (TX6 7).1 (TX6 7).2.1 (TX6 7).2.2.1 ∈ wsX6_putBack := by decide +kernel
theorem fiX6_putBack_X6 : ∀ q ∈ u_ws RX6 TX6 30, q ∈ wsX6_putBack := by decide +kernel
theorem fkX6_putBack_28 : Cond.fieldLink RX6 28 (TX6 13).1 (TX6 13).2.1 (TX6 13).2.2.1 ∈ wsX6_putBack := by decide +kernel
theorem fkX6_putBack_37 : Cond.fieldLink RX6 37 (TX6 22).1 (TX6 22).2.1 (TX6 22).2.2.1 ∈ wsX6_putBack := by decide +kernel
noncomputable def f_X6_putBack_L2 (kx : Mem → Option (Unit × Mem)) : Nat → Int32 → Mem → Option (Unit × Mem)
  | 0, _, _ => none
  | n + 1, x1, M => if (M 0 7) ≤ x1 then (kx  M) else (grd x1 4 (grd x1 4 (mlt (mu M 7 x1.toNatClampNeg (M 10 x1.toNatClampNeg)) (fun M1 => f_X6_putBack_L2 kx n (x1 + (1 : Int32)) M1))))
noncomputable def f_X6_putBack (M : Mem) : Option (Unit × Mem) := f_X6_putBack_L2 (fun  M2 => some ((), M2)) FU (0 : Int32) M
set_option maxHeartbeats 4000000 in
set_option maxRecDepth 100000 in
theorem w_X6_putBack_L2 {v : Av} {w : Cw} (hw : w.2.2.2.2.2 = shM) (hA : Act v w RX6 wsX6_putBack cX6_putBack 2 none) (kx : Mem → Option (Unit × Mem)) (hk : ∀ (M : Mem), WO v w rmX6_putBack 2 eV (kx M) 28 [] [] M) : ∀ (n : Nat) (x1 : Int32) (M : Mem), WO v w rmX6_putBack 2 eV (f_X6_putBack_L2 kx n x1 M) 2 [(0, .ref (w.2.1 0)), (1, .int x1)] [] M := by
  intro n
  induction n with
  | zero => intro x1 M; exact WO.nothing
  | succ n ih =>
    intro x1 M
    rw [f_X6_putBack_L2]
    refine WO.iload_n (n := 3) hA dX6_putBack_2 1 rfl rfl ?_
    refine WO.aload_n (n := 4) hA dX6_putBack_3 0 rfl rfl ?_
    refine WO.getI (j := 7) (n := 7) hA (m_0 hw) rfl fiX6_putBack_X6 (by decide) rfl fkX6_putBack_71 dX6_putBack_4 rfl ?_
    refine WO.icmp_ge (tg := 28) (n := 10) hA dX6_putBack_7 (by decide) rfl (fun _ => ?_) (fun _ => ?_)
    · refine WO.sub (lv' := []) [] rfl ?_
      exact hk  M
    · refine WO.aload_n (n := 11) hA dX6_putBack_10 0 rfl rfl ?_
      refine WO.getR (j := 13) (p := 7) (n := 14) hA (m_0 hw) rfl fiX6_putBack_X6 (by decide) rfl fkX6_putBack_28 dX6_putBack_11 rfl ?_
      refine WO.iload_n (n := 15) hA dX6_putBack_14 1 rfl rfl ?_
      refine WO.aload_n (n := 16) hA dX6_putBack_15 0 rfl rfl ?_
      refine WO.getR (j := 22) (p := 10) (n := 19) hA (m_0 hw) rfl fiX6_putBack_X6 (by decide) rfl fkX6_putBack_37 dX6_putBack_16 rfl ?_
      refine WO.iload_n (n := 20) hA dX6_putBack_19 1 rfl rfl ?_
      refine WO.iald (n := 21) hA (m_10 hw) dX6_putBack_20 rfl (fun _ => ?_)
      refine WO.iast (n := 22) hA (m_7 hw) dX6_putBack_21 rfl (fun _ => ?_)
      refine WO.mem (fun M1 => ?_)
      refine WO.iinc (y := (1 : Int32)) (lv' := [(1, .int (x1 + (1 : Int32))), (0, .ref (w.2.1 0))]) (n := 25) hA dX6_putBack_22 1 rfl (by decide) (by decide) rfl rfl ?_
      refine WO.goto (n := 2) hA dX6_putBack_25 (by decide) ?_
      refine WO.sub (lv' := [(0, .ref (w.2.1 0)), (1, .int (x1 + (1 : Int32)))]) [1, 0] rfl ?_
      exact ih (x1 + (1 : Int32)) M1
set_option maxHeartbeats 4000000 in
set_option maxRecDepth 100000 in
theorem c_X6_putBack (l : Launch) (w : Cw) (hw : w.2.2.2.2.2 = shM) (M : Mem) : Ok l w eV yX6_putBack wsX6_putBack rmX6_putBack [.ref (w.2.1 0)] M (f_X6_putBack M) := by
  refine Ok.of (cc := cX6_putBack) (nL := 2) (ret := none) (lv := [(0, .ref (w.2.1 0))]) (by decide) rfl (Nat.le_of_ble_eq_true rfl) rfl (fun v hv hA => ?_)
  subst hv
  have hA : Act v w RX6 wsX6_putBack cX6_putBack 2 none := hA
  unfold f_X6_putBack
  refine WO.iconst (x := (0 : Int32)) (n := 1) hA dX6_putBack_0 (by decide) rfl ?_
  refine WO.istore_n (i := 1) (lv' := [(1, .int (0 : Int32)), (0, .ref (w.2.1 0))]) (n := 2) hA dX6_putBack_1 rfl (by decide) rfl rfl ?_
  refine WO.sub (lv' := [(0, .ref (w.2.1 0)), (1, .int (0 : Int32))]) [1, 0] rfl ?_
  refine w_X6_putBack_L2 hw hA _ (fun  M2 => ?_) _ _ _
  exact WO.vret hA dX6_putBack_28
/- X6_elsewhere -/
abbrev rmX6_elsewhere : Room := { frames := 0, cells := 0, slots := 0, locals := 0 }
theorem mdX6_elsewhere : yX6_elsewhere.cls = RX6 ∧ yX6_elsewhere.cls ≠ "java/lang/invoke/MethodHandle" ∧ yX6_elsewhere.cls ≠ "java/lang/invoke/VarHandle" ∧ (parseMethodDescriptor yX6_elsewhere.desc).map (fun d => d.parameters.length) = some 0 := by decide +kernel
theorem fkX6_elsewhere_71 : Cond.fieldLink RX6 71 (TX6 7).1 (TX6 7).2.1 (TX6 7).2.2.1 ∈ wsX6_elsewhere := by decide +kernel
theorem fiX6_elsewhere_X6 : ∀ q ∈ u_ws RX6 TX6 30, q ∈ wsX6_elsewhere := by decide +kernel
theorem fkX6_elsewhere_28 : Cond.fieldLink RX6 28 (TX6 13).1 (TX6 13).2.1 (TX6 13).2.2.1 ∈ wsX6_elsewhere := by decide +kernel
theorem fkX6_elsewhere_37 : Cond.fieldLink RX6 37 (TX6 22).1 (TX6 22).2.1 (TX6 22).2.2.1 ∈ wsX6_elsewhere := by decide +kernel
noncomputable def f_X6_elsewhere_L4 (kx : Int32 → Mem → Option (Int32 × Mem)) : Nat → Int32 → Int32 → Mem → Option (Int32 × Mem)
  | 0, _, _, _ => none
  | n + 1, x1, x2, M => if (M 0 7) ≤ x2 then (kx x1 M) else (grd x2 4 (grd x2 4 (if (M 7 x2.toNatClampNeg) = (M 10 x2.toNatClampNeg) then (ilt (x1 + (0 : Int32)) (fun x_1 => f_X6_elsewhere_L4 kx n x_1 (x2 + (1 : Int32)) M)) else (ilt (x1 + (1 : Int32)) (fun x_2 => f_X6_elsewhere_L4 kx n x_2 (x2 + (1 : Int32)) M)))))
noncomputable def f_X6_elsewhere (M : Mem) : Option (Int32 × Mem) := f_X6_elsewhere_L4 (fun e3 M4 => some (e3, M4)) FU (0 : Int32) (0 : Int32) M
set_option maxHeartbeats 4000000 in
set_option maxRecDepth 100000 in
theorem w_X6_elsewhere_L4 {v : Av} {w : Cw} (hw : w.2.2.2.2.2 = shM) (hA : Act v w RX6 wsX6_elsewhere cX6_elsewhere 3 (some .int)) (kx : Int32 → Mem → Option (Int32 × Mem)) (hk : ∀ (y1 : Int32) (M : Mem), WO v w rmX6_elsewhere 3 eI (kx y1 M) 41 [(1, .int y1)] [] M) : ∀ (n : Nat) (x1 : Int32) (x2 : Int32) (M : Mem), WO v w rmX6_elsewhere 3 eI (f_X6_elsewhere_L4 kx n x1 x2 M) 4 [(0, .ref (w.2.1 0)), (1, .int x1), (2, .int x2)] [] M := by
  intro n
  induction n with
  | zero => intro x1 x2 M; exact WO.nothing
  | succ n ih =>
    intro x1 x2 M
    rw [f_X6_elsewhere_L4]
    refine WO.iload_n (n := 5) hA dX6_elsewhere_4 2 rfl rfl ?_
    refine WO.aload_n (n := 6) hA dX6_elsewhere_5 0 rfl rfl ?_
    refine WO.getI (j := 7) (n := 9) hA (m_0 hw) rfl fiX6_elsewhere_X6 (by decide) rfl fkX6_elsewhere_71 dX6_elsewhere_6 rfl ?_
    refine WO.icmp_ge (tg := 41) (n := 12) hA dX6_elsewhere_9 (by decide) rfl (fun _ => ?_) (fun _ => ?_)
    · refine WO.sub (lv' := [(1, .int x1)]) [1] rfl ?_
      exact hk x1 M
    · refine WO.iload_n (n := 13) hA dX6_elsewhere_12 1 rfl rfl ?_
      refine WO.aload_n (n := 14) hA dX6_elsewhere_13 0 rfl rfl ?_
      refine WO.getR (j := 13) (p := 7) (n := 17) hA (m_0 hw) rfl fiX6_elsewhere_X6 (by decide) rfl fkX6_elsewhere_28 dX6_elsewhere_14 rfl ?_
      refine WO.iload_n (n := 18) hA dX6_elsewhere_17 2 rfl rfl ?_
      refine WO.iald (n := 19) hA (m_7 hw) dX6_elsewhere_18 rfl (fun _ => ?_)
      refine WO.aload_n (n := 20) hA dX6_elsewhere_19 0 rfl rfl ?_
      refine WO.getR (j := 22) (p := 10) (n := 23) hA (m_0 hw) rfl fiX6_elsewhere_X6 (by decide) rfl fkX6_elsewhere_37 dX6_elsewhere_20 rfl ?_
      refine WO.iload_n (n := 24) hA dX6_elsewhere_23 2 rfl rfl ?_
      refine WO.iald (n := 25) hA (m_10 hw) dX6_elsewhere_24 rfl (fun _ => ?_)
      refine WO.icmp_ne (tg := 32) (n := 28) hA dX6_elsewhere_25 (by decide) rfl (fun _ => ?_) (fun _ => ?_)
      · refine WO.iconst (x := (0 : Int32)) (n := 29) hA dX6_elsewhere_28 (by decide) rfl ?_
        refine WO.goto (n := 33) hA dX6_elsewhere_29 (by decide) ?_
        refine WO.iadd (n := 34) hA dX6_elsewhere_33 rfl ?_
        refine WO.top (fun x_1 => ?_)
        refine WO.istore_n (i := 1) (lv' := [(1, .int x_1), (0, .ref (w.2.1 0)), (2, .int x2)]) (n := 35) hA dX6_elsewhere_34 rfl (by decide) rfl rfl ?_
        refine WO.iinc (y := (1 : Int32)) (lv' := [(2, .int (x2 + (1 : Int32))), (1, .int x_1), (0, .ref (w.2.1 0))]) (n := 38) hA dX6_elsewhere_35 2 rfl (by decide) (by decide) rfl rfl ?_
        refine WO.goto (n := 4) hA dX6_elsewhere_38 (by decide) ?_
        refine WO.sub (lv' := [(0, .ref (w.2.1 0)), (1, .int x_1), (2, .int (x2 + (1 : Int32)))]) [2, 1, 0] rfl ?_
        exact ih x_1 (x2 + (1 : Int32)) M
      · refine WO.iconst (x := (1 : Int32)) (n := 33) hA dX6_elsewhere_32 (by decide) rfl ?_
        refine WO.iadd (n := 34) hA dX6_elsewhere_33 rfl ?_
        refine WO.top (fun x_2 => ?_)
        refine WO.istore_n (i := 1) (lv' := [(1, .int x_2), (0, .ref (w.2.1 0)), (2, .int x2)]) (n := 35) hA dX6_elsewhere_34 rfl (by decide) rfl rfl ?_
        refine WO.iinc (y := (1 : Int32)) (lv' := [(2, .int (x2 + (1 : Int32))), (1, .int x_2), (0, .ref (w.2.1 0))]) (n := 38) hA dX6_elsewhere_35 2 rfl (by decide) (by decide) rfl rfl ?_
        refine WO.goto (n := 4) hA dX6_elsewhere_38 (by decide) ?_
        refine WO.sub (lv' := [(0, .ref (w.2.1 0)), (1, .int x_2), (2, .int (x2 + (1 : Int32)))]) [2, 1, 0] rfl ?_
        exact ih x_2 (x2 + (1 : Int32)) M
set_option maxHeartbeats 4000000 in
set_option maxRecDepth 100000 in
theorem c_X6_elsewhere (l : Launch) (w : Cw) (hw : w.2.2.2.2.2 = shM) (M : Mem) : Ok l w eI yX6_elsewhere wsX6_elsewhere rmX6_elsewhere [.ref (w.2.1 0)] M (f_X6_elsewhere M) := by
  refine Ok.of (cc := cX6_elsewhere) (nL := 3) (ret := (some .int)) (lv := [(0, .ref (w.2.1 0))]) (by decide) rfl (Nat.le_of_ble_eq_true rfl) rfl (fun v hv hA => ?_)
  subst hv
  have hA : Act v w RX6 wsX6_elsewhere cX6_elsewhere 3 (some .int) := hA
  unfold f_X6_elsewhere
  refine WO.iconst (x := (0 : Int32)) (n := 1) hA dX6_elsewhere_0 (by decide) rfl ?_
  refine WO.istore_n (i := 1) (lv' := [(1, .int (0 : Int32)), (0, .ref (w.2.1 0))]) (n := 2) hA dX6_elsewhere_1 rfl (by decide) rfl rfl ?_
  refine WO.iconst (x := (0 : Int32)) (n := 3) hA dX6_elsewhere_2 (by decide) rfl ?_
  refine WO.istore_n (i := 2) (lv' := [(2, .int (0 : Int32)), (1, .int (0 : Int32)), (0, .ref (w.2.1 0))]) (n := 4) hA dX6_elsewhere_3 rfl (by decide) rfl rfl ?_
  refine WO.sub (lv' := [(0, .ref (w.2.1 0)), (1, .int (0 : Int32)), (2, .int (0 : Int32))]) [2, 1, 0] rfl ?_
  refine w_X6_elsewhere_L4 hw hA _ (fun e3 M4 => ?_) _ _ _ _
  refine WO.iload_n (n := 42) hA dX6_elsewhere_41 0 rfl rfl ?_
  exact WO.iret hA dX6_elsewhere_42
/- X6_nights -/
abbrev rmX6_nights : Room := { frames := 7, cells := 0, slots := 0, locals := 157 }
theorem mdX6_nights : yX6_nights.cls = RX6 ∧ yX6_nights.cls ≠ "java/lang/invoke/MethodHandle" ∧ yX6_nights.cls ≠ "java/lang/invoke/VarHandle" ∧ (parseMethodDescriptor yX6_nights.desc).map (fun d => d.parameters.length) = some 1 := by decide +kernel
theorem fkX6_nights_68 : Cond.fieldLink RX6 68 (TX6 6).1 (TX6 6).2.1 (TX6 6).2.2.1 ∈ wsX6_nights := by decide +kernel
theorem fiX6_nights_X6 : ∀ q ∈ u_ws RX6 TX6 30, q ∈ wsX6_nights := by decide +kernel
theorem fkX6_nights_117 : Cond.fieldLink RX6 117 (TX6 8).1 (TX6 8).2.1 (TX6 8).2.2.1 ∈ wsX6_nights := by decide +kernel
noncomputable def f_X6_nights_L29 (x1 : Int32) (kx : Mem → Option (Int32 × Mem)) : Nat → Int32 → Mem → Option (Int32 × Mem)
  | 0, _, _ => none
  | n + 1, x2, M => if x1 ≤ x2 then (kx  M) else (bd (f_X6_oneNight M) (fun _ M4 => f_X6_nights_L29 x1 kx n (x2 + (1 : Int32)) M4))
noncomputable def f_X6_nights (x1 : Int32) (M : Mem) : Option (Int32 × Mem) := bd (f_X6_within x1 (1 : Int32) (60 : Int32) M) (fun r2 M1 => if r2 = 0 then (some ((-2 : Int32), M1)) else (if (M1 0 6) = 0 then (some ((-3 : Int32), M1)) else (bd (f_X6_keep M1) (fun _ M3 => f_X6_nights_L29 x1 (fun  M5 => mlt (mu M5 0 8 ((M5 0 8) + x1)) (fun M6 => bd (f_X6_elsewhere M6) (fun r8 M7 => some (r8, M7)))) FU (0 : Int32) M3))))
set_option maxHeartbeats 4000000 in
set_option maxRecDepth 100000 in
theorem w_X6_nights_L29 {v : Av} {w : Cw} (hw : w.2.2.2.2.2 = shM) (hA : Act v w RX6 wsX6_nights cX6_nights 3 (some .int)) (x1 : Int32) (kx : Mem → Option (Int32 × Mem)) (hk : ∀ (M : Mem), WO v w rmX6_nights 3 eI (kx M) 44 [(0, .ref (w.2.1 0)), (1, .int x1)] [] M) : ∀ (n : Nat) (x2 : Int32) (M : Mem), WO v w rmX6_nights 3 eI (f_X6_nights_L29 x1 kx n x2 M) 29 [(0, .ref (w.2.1 0)), (1, .int x1), (2, .int x2)] [] M := by
  intro n
  induction n with
  | zero => intro x2 M; exact WO.nothing
  | succ n ih =>
    intro x2 M
    rw [f_X6_nights_L29]
    refine WO.iload_n (n := 30) hA dX6_nights_29 2 rfl rfl ?_
    refine WO.iload_n (n := 31) hA dX6_nights_30 1 rfl rfl ?_
    refine WO.icmp_ge (tg := 44) (n := 34) hA dX6_nights_31 (by decide) rfl (fun _ => ?_) (fun _ => ?_)
    · refine WO.sub (lv' := [(0, .ref (w.2.1 0)), (1, .int x1)]) [0, 1] rfl ?_
      exact hk  M
    · refine WO.aload_n (n := 35) hA dX6_nights_34 0 rfl rfl ?_
      refine WO.callVv (As := []) (rest := []) (n := 38) hA (c_X6_oneNight v.2.1 w hw M) gX6_nights_X6_oneNight rfl (m_0 hw) rfl mdX6_oneNight ⟨rfl, rfl, Nat.le_of_ble_eq_true rfl, Nat.le_of_ble_eq_true rfl⟩ rfl rfl (Nat.le_of_ble_eq_true rfl) dX6_nights_35 rfl (fun M4 => ?_)
      refine WO.iinc (y := (1 : Int32)) (lv' := [(2, .int (x2 + (1 : Int32))), (0, .ref (w.2.1 0)), (1, .int x1)]) (n := 41) hA dX6_nights_38 2 rfl (by decide) (by decide) rfl rfl ?_
      refine WO.goto (n := 29) hA dX6_nights_41 (by decide) ?_
      refine WO.sub (lv' := [(0, .ref (w.2.1 0)), (1, .int x1), (2, .int (x2 + (1 : Int32)))]) [1, 2, 0] rfl ?_
      exact ih (x2 + (1 : Int32)) M4
set_option maxHeartbeats 4000000 in
set_option maxRecDepth 100000 in
theorem c_X6_nights (l : Launch) (w : Cw) (hw : w.2.2.2.2.2 = shM) (x1 : Int32) (M : Mem) : Ok l w eI yX6_nights wsX6_nights rmX6_nights [.ref (w.2.1 0), .int x1] M (f_X6_nights x1 M) := by
  refine Ok.of (cc := cX6_nights) (nL := 3) (ret := (some .int)) (lv := [(0, .ref (w.2.1 0)), (1, .int x1)]) (by decide) rfl (Nat.le_of_ble_eq_true rfl) rfl (fun v hv hA => ?_)
  subst hv
  have hA : Act v w RX6 wsX6_nights cX6_nights 3 (some .int) := hA
  unfold f_X6_nights
  refine WO.iload_n (n := 1) hA dX6_nights_0 1 rfl rfl ?_
  refine WO.iconst (x := (1 : Int32)) (n := 2) hA dX6_nights_1 (by decide) rfl ?_
  refine WO.bipush (x := (60 : Int32)) (n := 4) hA dX6_nights_2 (by decide) rfl ?_
  refine WO.callSi (As := [.int x1, .int (1 : Int32), .int (60 : Int32)]) (rest := []) (n := 7) hA (c_X6_within v.2.1 w hw x1 (1 : Int32) (60 : Int32) M) gX6_nights_X6_within rfl mdX6_within ⟨rfl, rfl, Nat.le_of_ble_eq_true rfl, Nat.le_of_ble_eq_true rfl⟩ rfl rfl (Nat.le_of_ble_eq_true rfl) dX6_nights_4 rfl (fun r2 M1 => ?_)
  refine WO.if_ne (tg := 13) (n := 10) hA dX6_nights_7 (by decide) rfl (fun _ => ?_) (fun _ => ?_)
  · refine WO.bipush (x := (-2 : Int32)) (n := 12) hA dX6_nights_10 (by decide) rfl ?_
    exact WO.iret hA dX6_nights_12
  · refine WO.aload_n (n := 14) hA dX6_nights_13 0 rfl rfl ?_
    refine WO.getI (j := 6) (n := 17) hA (m_0 hw) rfl fiX6_nights_X6 (by decide) rfl fkX6_nights_68 dX6_nights_14 rfl ?_
    refine WO.if_ne (tg := 23) (n := 20) hA dX6_nights_17 (by decide) rfl (fun _ => ?_) (fun _ => ?_)
    · refine WO.bipush (x := (-3 : Int32)) (n := 22) hA dX6_nights_20 (by decide) rfl ?_
      exact WO.iret hA dX6_nights_22
    · refine WO.aload_n (n := 24) hA dX6_nights_23 0 rfl rfl ?_
      refine WO.callVv (As := []) (rest := []) (n := 27) hA (c_X6_keep v.2.1 w hw M1) gX6_nights_X6_keep rfl (m_0 hw) rfl mdX6_keep ⟨rfl, rfl, Nat.le_of_ble_eq_true rfl, Nat.le_of_ble_eq_true rfl⟩ rfl rfl (Nat.le_of_ble_eq_true rfl) dX6_nights_24 rfl (fun M3 => ?_)
      refine WO.iconst (x := (0 : Int32)) (n := 28) hA dX6_nights_27 (by decide) rfl ?_
      refine WO.istore_n (i := 2) (lv' := [(2, .int (0 : Int32)), (0, .ref (w.2.1 0)), (1, .int x1)]) (n := 29) hA dX6_nights_28 rfl (by decide) rfl rfl ?_
      refine WO.sub (lv' := [(0, .ref (w.2.1 0)), (1, .int x1), (2, .int (0 : Int32))]) [1, 2, 0] rfl ?_
      refine w_X6_nights_L29 hw hA x1 _ (fun  M5 => ?_) _ _ _
      refine WO.aload_n (n := 45) hA dX6_nights_44 0 rfl rfl ?_
      refine WO.dup (n := 46) hA dX6_nights_45 rfl rfl ?_
      refine WO.getI (j := 8) (n := 49) hA (m_0 hw) rfl fiX6_nights_X6 (by decide) rfl fkX6_nights_117 dX6_nights_46 rfl ?_
      refine WO.iload_n (n := 50) hA dX6_nights_49 1 rfl rfl ?_
      refine WO.iadd (n := 51) hA dX6_nights_50 rfl ?_
      refine WO.putI (j := 8) (n := 54) hA (m_0 hw) rfl fiX6_nights_X6 tyX6 tyX6_ok nmX6 (by decide) rfl fkX6_nights_117 rfl rfl rfl rfl dX6_nights_51 rfl ?_
      refine WO.mem (fun M6 => ?_)
      refine WO.aload_n (n := 55) hA dX6_nights_54 0 rfl rfl ?_
      refine WO.callVi (As := []) (rest := []) (n := 58) hA (c_X6_elsewhere v.2.1 w hw M6) gX6_nights_X6_elsewhere rfl (m_0 hw) rfl mdX6_elsewhere ⟨rfl, rfl, Nat.le_of_ble_eq_true rfl, Nat.le_of_ble_eq_true rfl⟩ rfl rfl (Nat.le_of_ble_eq_true rfl) dX6_nights_55 rfl (fun r8 M7 => ?_)
      exact WO.iret hA dX6_nights_58
/- X6_stuff -/
abbrev rmX6_stuff : Room := { frames := 1, cells := 0, slots := 0, locals := 22 }
theorem mdX6_stuff : yX6_stuff.cls = RX6 ∧ yX6_stuff.cls ≠ "java/lang/invoke/MethodHandle" ∧ yX6_stuff.cls ≠ "java/lang/invoke/VarHandle" ∧ (parseMethodDescriptor yX6_stuff.desc).map (fun d => d.parameters.length) = some 1 := by decide +kernel
theorem fkX6_stuff_114 : Cond.fieldLink RX6 114 (TX6 9).1 (TX6 9).2.1 (TX6 9).2.2.1 ∈ wsX6_stuff := by decide +kernel
theorem fiX6_stuff_X6 : ∀ q ∈ u_ws RX6 TX6 30, q ∈ wsX6_stuff := by decide +kernel
noncomputable def f_X6_stuff (x1 : Int32) (M : Mem) : Option (Int32 × Mem) := bd (f_X6_isClock x1 M) (fun r2 M1 => if r2 = 0 then (some ((-1 : Int32), M1)) else (bd (f_X6_isOf (M1 0 9) x1 M1) (fun r4 M3 => if r4 = 0 then (mlt (mu M3 0 9 ((M3 0 9) ||| ((1 : Int32) <<< (x1 &&& 31)))) (fun M5 => bd (f_X6_size (M5 0 9) M5) (fun r7 M6 => some (r7, M6)))) else (some ((-3 : Int32), M3)))))
set_option maxHeartbeats 4000000 in
set_option maxRecDepth 100000 in
theorem c_X6_stuff (l : Launch) (w : Cw) (hw : w.2.2.2.2.2 = shM) (x1 : Int32) (M : Mem) : Ok l w eI yX6_stuff wsX6_stuff rmX6_stuff [.ref (w.2.1 0), .int x1] M (f_X6_stuff x1 M) := by
  refine Ok.of (cc := cX6_stuff) (nL := 2) (ret := (some .int)) (lv := [(0, .ref (w.2.1 0)), (1, .int x1)]) (by decide) rfl (Nat.le_of_ble_eq_true rfl) rfl (fun v hv hA => ?_)
  subst hv
  have hA : Act v w RX6 wsX6_stuff cX6_stuff 2 (some .int) := hA
  unfold f_X6_stuff
  refine WO.aload_n (n := 1) hA dX6_stuff_0 0 rfl rfl ?_
  refine WO.iload_n (n := 2) hA dX6_stuff_1 1 rfl rfl ?_
  refine WO.callVi (As := [.int x1]) (rest := []) (n := 5) hA (c_X6_isClock v.2.1 w hw x1 M) gX6_stuff_X6_isClock rfl (m_0 hw) rfl mdX6_isClock ⟨rfl, rfl, Nat.le_of_ble_eq_true rfl, Nat.le_of_ble_eq_true rfl⟩ rfl rfl (Nat.le_of_ble_eq_true rfl) dX6_stuff_2 rfl (fun r2 M1 => ?_)
  refine WO.if_ne (tg := 10) (n := 8) hA dX6_stuff_5 (by decide) rfl (fun _ => ?_) (fun _ => ?_)
  · refine WO.iconst (x := (-1 : Int32)) (n := 9) hA dX6_stuff_8 (by decide) rfl ?_
    exact WO.iret hA dX6_stuff_9
  · refine WO.aload_n (n := 11) hA dX6_stuff_10 0 rfl rfl ?_
    refine WO.getI (j := 9) (n := 14) hA (m_0 hw) rfl fiX6_stuff_X6 (by decide) rfl fkX6_stuff_114 dX6_stuff_11 rfl ?_
    refine WO.iload_n (n := 15) hA dX6_stuff_14 1 rfl rfl ?_
    refine WO.callSi (As := [.int (M1 0 9), .int x1]) (rest := []) (n := 18) hA (c_X6_isOf v.2.1 w hw (M1 0 9) x1 M1) gX6_stuff_X6_isOf rfl mdX6_isOf ⟨rfl, rfl, Nat.le_of_ble_eq_true rfl, Nat.le_of_ble_eq_true rfl⟩ rfl rfl (Nat.le_of_ble_eq_true rfl) dX6_stuff_15 rfl (fun r4 M3 => ?_)
    refine WO.if_eq (tg := 24) (n := 21) hA dX6_stuff_18 (by decide) rfl (fun _ => ?_) (fun _ => ?_)
    · refine WO.aload_n (n := 25) hA dX6_stuff_24 0 rfl rfl ?_
      refine WO.dup (n := 26) hA dX6_stuff_25 rfl rfl ?_
      refine WO.getI (j := 9) (n := 29) hA (m_0 hw) rfl fiX6_stuff_X6 (by decide) rfl fkX6_stuff_114 dX6_stuff_26 rfl ?_
      refine WO.iconst (x := (1 : Int32)) (n := 30) hA dX6_stuff_29 (by decide) rfl ?_
      refine WO.iload_n (n := 31) hA dX6_stuff_30 1 rfl rfl ?_
      refine WO.ishl (n := 32) hA dX6_stuff_31 rfl ?_
      refine WO.ior (n := 33) hA dX6_stuff_32 rfl ?_
      refine WO.putI (j := 9) (n := 36) hA (m_0 hw) rfl fiX6_stuff_X6 tyX6 tyX6_ok nmX6 (by decide) rfl fkX6_stuff_114 rfl rfl rfl rfl dX6_stuff_33 rfl ?_
      refine WO.mem (fun M5 => ?_)
      refine WO.aload_n (n := 37) hA dX6_stuff_36 0 rfl rfl ?_
      refine WO.getI (j := 9) (n := 40) hA (m_0 hw) rfl fiX6_stuff_X6 (by decide) rfl fkX6_stuff_114 dX6_stuff_37 rfl ?_
      refine WO.callSi (As := [.int (M5 0 9)]) (rest := []) (n := 43) hA (c_X6_size v.2.1 w hw (M5 0 9) M5) gX6_stuff_X6_size rfl mdX6_size ⟨rfl, rfl, Nat.le_of_ble_eq_true rfl, Nat.le_of_ble_eq_true rfl⟩ rfl rfl (Nat.le_of_ble_eq_true rfl) dX6_stuff_40 rfl (fun r7 M6 => ?_)
      exact WO.iret hA dX6_stuff_43
    · refine WO.bipush (x := (-3 : Int32)) (n := 23) hA dX6_stuff_21 (by decide) rfl ?_
      exact WO.iret hA dX6_stuff_23
/- X6_ease -/
abbrev rmX6_ease : Room := { frames := 1, cells := 0, slots := 0, locals := 22 }
theorem mdX6_ease : yX6_ease.cls = RX6 ∧ yX6_ease.cls ≠ "java/lang/invoke/MethodHandle" ∧ yX6_ease.cls ≠ "java/lang/invoke/VarHandle" ∧ (parseMethodDescriptor yX6_ease.desc).map (fun d => d.parameters.length) = some 1 := by decide +kernel
theorem fkX6_ease_114 : Cond.fieldLink RX6 114 (TX6 9).1 (TX6 9).2.1 (TX6 9).2.2.1 ∈ wsX6_ease := by decide +kernel
theorem fiX6_ease_X6 : ∀ q ∈ u_ws RX6 TX6 30, q ∈ wsX6_ease := by decide +kernel
noncomputable def f_X6_ease (x1 : Int32) (M : Mem) : Option (Int32 × Mem) := bd (f_X6_isClock x1 M) (fun r2 M1 => if r2 = 0 then (some ((-1 : Int32), M1)) else (bd (f_X6_isOf (M1 0 9) x1 M1) (fun r4 M3 => if r4 = 0 then (some ((-3 : Int32), M3)) else (mlt (mu M3 0 9 ((M3 0 9) &&& (((1 : Int32) <<< (x1 &&& 31)) ^^^ (-1 : Int32)))) (fun M5 => bd (f_X6_size (M5 0 9) M5) (fun r7 M6 => some (r7, M6)))))))
set_option maxHeartbeats 4000000 in
set_option maxRecDepth 100000 in
theorem c_X6_ease (l : Launch) (w : Cw) (hw : w.2.2.2.2.2 = shM) (x1 : Int32) (M : Mem) : Ok l w eI yX6_ease wsX6_ease rmX6_ease [.ref (w.2.1 0), .int x1] M (f_X6_ease x1 M) := by
  refine Ok.of (cc := cX6_ease) (nL := 2) (ret := (some .int)) (lv := [(0, .ref (w.2.1 0)), (1, .int x1)]) (by decide) rfl (Nat.le_of_ble_eq_true rfl) rfl (fun v hv hA => ?_)
  subst hv
  have hA : Act v w RX6 wsX6_ease cX6_ease 2 (some .int) := hA
  unfold f_X6_ease
  refine WO.aload_n (n := 1) hA dX6_ease_0 0 rfl rfl ?_
  refine WO.iload_n (n := 2) hA dX6_ease_1 1 rfl rfl ?_
  refine WO.callVi (As := [.int x1]) (rest := []) (n := 5) hA (c_X6_isClock v.2.1 w hw x1 M) gX6_ease_X6_isClock rfl (m_0 hw) rfl mdX6_isClock ⟨rfl, rfl, Nat.le_of_ble_eq_true rfl, Nat.le_of_ble_eq_true rfl⟩ rfl rfl (Nat.le_of_ble_eq_true rfl) dX6_ease_2 rfl (fun r2 M1 => ?_)
  refine WO.if_ne (tg := 10) (n := 8) hA dX6_ease_5 (by decide) rfl (fun _ => ?_) (fun _ => ?_)
  · refine WO.iconst (x := (-1 : Int32)) (n := 9) hA dX6_ease_8 (by decide) rfl ?_
    exact WO.iret hA dX6_ease_9
  · refine WO.aload_n (n := 11) hA dX6_ease_10 0 rfl rfl ?_
    refine WO.getI (j := 9) (n := 14) hA (m_0 hw) rfl fiX6_ease_X6 (by decide) rfl fkX6_ease_114 dX6_ease_11 rfl ?_
    refine WO.iload_n (n := 15) hA dX6_ease_14 1 rfl rfl ?_
    refine WO.callSi (As := [.int (M1 0 9), .int x1]) (rest := []) (n := 18) hA (c_X6_isOf v.2.1 w hw (M1 0 9) x1 M1) gX6_ease_X6_isOf rfl mdX6_isOf ⟨rfl, rfl, Nat.le_of_ble_eq_true rfl, Nat.le_of_ble_eq_true rfl⟩ rfl rfl (Nat.le_of_ble_eq_true rfl) dX6_ease_15 rfl (fun r4 M3 => ?_)
    refine WO.if_ne (tg := 24) (n := 21) hA dX6_ease_18 (by decide) rfl (fun _ => ?_) (fun _ => ?_)
    · refine WO.bipush (x := (-3 : Int32)) (n := 23) hA dX6_ease_21 (by decide) rfl ?_
      exact WO.iret hA dX6_ease_23
    · refine WO.aload_n (n := 25) hA dX6_ease_24 0 rfl rfl ?_
      refine WO.dup (n := 26) hA dX6_ease_25 rfl rfl ?_
      refine WO.getI (j := 9) (n := 29) hA (m_0 hw) rfl fiX6_ease_X6 (by decide) rfl fkX6_ease_114 dX6_ease_26 rfl ?_
      refine WO.iconst (x := (1 : Int32)) (n := 30) hA dX6_ease_29 (by decide) rfl ?_
      refine WO.iload_n (n := 31) hA dX6_ease_30 1 rfl rfl ?_
      refine WO.ishl (n := 32) hA dX6_ease_31 rfl ?_
      refine WO.iconst (x := (-1 : Int32)) (n := 33) hA dX6_ease_32 (by decide) rfl ?_
      refine WO.ixor (n := 34) hA dX6_ease_33 rfl ?_
      refine WO.iand (n := 35) hA dX6_ease_34 rfl ?_
      refine WO.putI (j := 9) (n := 38) hA (m_0 hw) rfl fiX6_ease_X6 tyX6 tyX6_ok nmX6 (by decide) rfl fkX6_ease_114 rfl rfl rfl rfl dX6_ease_35 rfl ?_
      refine WO.mem (fun M5 => ?_)
      refine WO.aload_n (n := 39) hA dX6_ease_38 0 rfl rfl ?_
      refine WO.getI (j := 9) (n := 42) hA (m_0 hw) rfl fiX6_ease_X6 (by decide) rfl fkX6_ease_114 dX6_ease_39 rfl ?_
      refine WO.callSi (As := [.int (M5 0 9)]) (rest := []) (n := 45) hA (c_X6_size v.2.1 w hw (M5 0 9) M5) gX6_ease_X6_size rfl mdX6_size ⟨rfl, rfl, Nat.le_of_ble_eq_true rfl, Nat.le_of_ble_eq_true rfl⟩ rfl rfl (Nat.le_of_ble_eq_true rfl) dX6_ease_42 rfl (fun r7 M6 => ?_)
      exact WO.iret hA dX6_ease_45
/- X6_carry -/
abbrev rmX6_carry : Room := { frames := 1, cells := 0, slots := 0, locals := 21 }
theorem mdX6_carry : yX6_carry.cls = RX6 ∧ yX6_carry.cls ≠ "java/lang/invoke/MethodHandle" ∧ yX6_carry.cls ≠ "java/lang/invoke/VarHandle" ∧ (parseMethodDescriptor yX6_carry.desc).map (fun d => d.parameters.length) = some 2 := by decide +kernel
theorem fkX6_carry_28 : Cond.fieldLink RX6 28 (TX6 13).1 (TX6 13).2.1 (TX6 13).2.2.1 ∈ wsX6_carry := by decide +kernel
theorem fiX6_carry_X6 : ∀ q ∈ u_ws RX6 TX6 30, q ∈ wsX6_carry := by decide +kernel
noncomputable def f_X6_carry (x1 : Int32) (x2 : Int32) (M : Mem) : Option (Int32 × Mem) := bd (f_X6_isClock x1 M) (fun r2 M1 => if r2 = 0 then (some ((-1 : Int32), M1)) else (bd (f_X6_isHouse x2 M1) (fun r4 M3 => if r4 = 0 then (some ((-1 : Int32), M3)) else (grd x1 4 (ilt (M3 7 x1.toNatClampNeg) (fun x_5 => grd x1 4 (mlt (mu M3 7 x1.toNatClampNeg x2) (fun M6 => some (x_5, M6)))))))))
set_option maxHeartbeats 4000000 in
set_option maxRecDepth 100000 in
theorem c_X6_carry (l : Launch) (w : Cw) (hw : w.2.2.2.2.2 = shM) (x1 : Int32) (x2 : Int32) (M : Mem) : Ok l w eI yX6_carry wsX6_carry rmX6_carry [.ref (w.2.1 0), .int x1, .int x2] M (f_X6_carry x1 x2 M) := by
  refine Ok.of (cc := cX6_carry) (nL := 4) (ret := (some .int)) (lv := [(0, .ref (w.2.1 0)), (1, .int x1), (2, .int x2)]) (by decide) rfl (Nat.le_of_ble_eq_true rfl) rfl (fun v hv hA => ?_)
  subst hv
  have hA : Act v w RX6 wsX6_carry cX6_carry 4 (some .int) := hA
  unfold f_X6_carry
  refine WO.aload_n (n := 1) hA dX6_carry_0 0 rfl rfl ?_
  refine WO.iload_n (n := 2) hA dX6_carry_1 1 rfl rfl ?_
  refine WO.callVi (As := [.int x1]) (rest := []) (n := 5) hA (c_X6_isClock v.2.1 w hw x1 M) gX6_carry_X6_isClock rfl (m_0 hw) rfl mdX6_isClock ⟨rfl, rfl, Nat.le_of_ble_eq_true rfl, Nat.le_of_ble_eq_true rfl⟩ rfl rfl (Nat.le_of_ble_eq_true rfl) dX6_carry_2 rfl (fun r2 M1 => ?_)
  refine WO.if_eq (tg := 16) (n := 8) hA dX6_carry_5 (by decide) rfl (fun _ => ?_) (fun _ => ?_)
  · refine WO.iconst (x := (-1 : Int32)) (n := 17) hA dX6_carry_16 (by decide) rfl ?_
    exact WO.iret hA dX6_carry_17
  · refine WO.aload_n (n := 9) hA dX6_carry_8 0 rfl rfl ?_
    refine WO.iload_n (n := 10) hA dX6_carry_9 2 rfl rfl ?_
    refine WO.callVi (As := [.int x2]) (rest := []) (n := 13) hA (c_X6_isHouse v.2.1 w hw x2 M1) gX6_carry_X6_isHouse rfl (m_0 hw) rfl mdX6_isHouse ⟨rfl, rfl, Nat.le_of_ble_eq_true rfl, Nat.le_of_ble_eq_true rfl⟩ rfl rfl (Nat.le_of_ble_eq_true rfl) dX6_carry_10 rfl (fun r4 M3 => ?_)
    refine WO.if_ne (tg := 18) (n := 16) hA dX6_carry_13 (by decide) rfl (fun _ => ?_) (fun _ => ?_)
    · refine WO.iconst (x := (-1 : Int32)) (n := 17) hA dX6_carry_16 (by decide) rfl ?_
      exact WO.iret hA dX6_carry_17
    · refine WO.aload_n (n := 19) hA dX6_carry_18 0 rfl rfl ?_
      refine WO.getR (j := 13) (p := 7) (n := 22) hA (m_0 hw) rfl fiX6_carry_X6 (by decide) rfl fkX6_carry_28 dX6_carry_19 rfl ?_
      refine WO.iload_n (n := 23) hA dX6_carry_22 1 rfl rfl ?_
      refine WO.iald (n := 24) hA (m_7 hw) dX6_carry_23 rfl (fun _ => ?_)
      refine WO.top (fun x_5 => ?_)
      refine WO.istore_n (i := 3) (lv' := [(3, .int x_5), (0, .ref (w.2.1 0)), (1, .int x1), (2, .int x2)]) (n := 25) hA dX6_carry_24 rfl (by decide) rfl rfl ?_
      refine WO.aload_n (n := 26) hA dX6_carry_25 1 rfl rfl ?_
      refine WO.getR (j := 13) (p := 7) (n := 29) hA (m_0 hw) rfl fiX6_carry_X6 (by decide) rfl fkX6_carry_28 dX6_carry_26 rfl ?_
      refine WO.iload_n (n := 30) hA dX6_carry_29 2 rfl rfl ?_
      refine WO.iload_n (n := 31) hA dX6_carry_30 3 rfl rfl ?_
      refine WO.iast (n := 32) hA (m_7 hw) dX6_carry_31 rfl (fun _ => ?_)
      refine WO.mem (fun M6 => ?_)
      refine WO.iload_n (n := 33) hA dX6_carry_32 0 rfl rfl ?_
      exact WO.iret hA dX6_carry_33
/- X6_does -/
abbrev rmX6_does : Room := { frames := 7, cells := 0, slots := 0, locals := 157 }
theorem mdX6_does : yX6_does.cls = RX6 ∧ yX6_does.cls ≠ "java/lang/invoke/MethodHandle" ∧ yX6_does.cls ≠ "java/lang/invoke/VarHandle" ∧ (parseMethodDescriptor yX6_does.desc).map (fun d => d.parameters.length) = some 2 := by decide +kernel
theorem fkX6_does_114 : Cond.fieldLink RX6 114 (TX6 9).1 (TX6 9).2.1 (TX6 9).2.2.1 ∈ wsX6_does := by decide +kernel
theorem fiX6_does_X6 : ∀ q ∈ u_ws RX6 TX6 30, q ∈ wsX6_does := by decide +kernel
theorem fkX6_does_28 : Cond.fieldLink RX6 28 (TX6 13).1 (TX6 13).2.1 (TX6 13).2.2.1 ∈ wsX6_does := by decide +kernel
noncomputable def f_X6_does_L7 (x1 : Int32) (kx : Mem → Option (Int32 × Mem)) : Nat → Int32 → Mem → Option (Int32 × Mem)
  | 0, _, _ => none
  | n + 1, x3, M => if x1 ≤ x3 then (kx  M) else (bd (f_X6_oneNight M) (fun _ M1 => f_X6_does_L7 x1 kx n (x3 + (1 : Int32)) M1))
noncomputable def f_X6_does (x1 : Int32) (x2 : Int32) (M : Mem) : Option (Int32 × Mem) := if x2 = (3 : Int32) then (f_X6_does_L7 x1 (fun  M2 => some ((1 : Int32), M2)) FU (0 : Int32) M) else (if x2 < (10 : Int32) then (if x2 = 0 then (bd (f_X6_strikes x1 M) (fun r4 M3 => some ((1 : Int32), M3))) else (bd (f_X6_isOf (M 0 9) x1 M) (fun r6 M5 => if x2 = (2 : Int32) then (if r6 = (1 : Int32) then (mlt (mu M5 0 9 ((M5 0 9) ^^^ ((1 : Int32) <<< (x1 &&& 31)))) (fun M7 => some ((1 : Int32), M7))) else (some ((0 : Int32), M5))) else (if r6 = (0 : Int32) then (mlt (mu M5 0 9 ((M5 0 9) ^^^ ((1 : Int32) <<< (x1 &&& 31)))) (fun M8 => some ((1 : Int32), M8))) else (some ((0 : Int32), M5)))))) else (bd (f_X6_isClock (x2 - (10 : Int32)) M) (fun r10 M9 => if r10 = 0 then (some ((0 : Int32), M9)) else (grd (x2 - (10 : Int32)) 4 (mlt (mu M9 7 (x2 - (10 : Int32)).toNatClampNeg x1) (fun M11 => some ((1 : Int32), M11)))))))
set_option maxHeartbeats 4000000 in
set_option maxRecDepth 100000 in
theorem w_X6_does_L7 {v : Av} {w : Cw} (hw : w.2.2.2.2.2 = shM) (hA : Act v w RX6 wsX6_does cX6_does 4 (some .boolean)) (x1 : Int32) (kx : Mem → Option (Int32 × Mem)) (hk : ∀ (M : Mem), WO v w rmX6_does 4 eI (kx M) 22 [] [] M) : ∀ (n : Nat) (x3 : Int32) (M : Mem), WO v w rmX6_does 4 eI (f_X6_does_L7 x1 kx n x3 M) 7 [(0, .ref (w.2.1 0)), (1, .int x1), (3, .int x3)] [] M := by
  intro n
  induction n with
  | zero => intro x3 M; exact WO.nothing
  | succ n ih =>
    intro x3 M
    rw [f_X6_does_L7]
    refine WO.iload_n (n := 8) hA dX6_does_7 2 rfl rfl ?_
    refine WO.iload_n (n := 9) hA dX6_does_8 1 rfl rfl ?_
    refine WO.icmp_ge (tg := 22) (n := 12) hA dX6_does_9 (by decide) rfl (fun _ => ?_) (fun _ => ?_)
    · refine WO.sub (lv' := []) [] rfl ?_
      exact hk  M
    · refine WO.aload_n (n := 13) hA dX6_does_12 0 rfl rfl ?_
      refine WO.callVv (As := []) (rest := []) (n := 16) hA (c_X6_oneNight v.2.1 w hw M) gX6_does_X6_oneNight rfl (m_0 hw) rfl mdX6_oneNight ⟨rfl, rfl, Nat.le_of_ble_eq_true rfl, Nat.le_of_ble_eq_true rfl⟩ rfl rfl (Nat.le_of_ble_eq_true rfl) dX6_does_13 rfl (fun M1 => ?_)
      refine WO.iinc (y := (1 : Int32)) (lv' := [(3, .int (x3 + (1 : Int32))), (0, .ref (w.2.1 0)), (1, .int x1)]) (n := 19) hA dX6_does_16 2 rfl (by decide) (by decide) rfl rfl ?_
      refine WO.goto (n := 7) hA dX6_does_19 (by decide) ?_
      refine WO.sub (lv' := [(0, .ref (w.2.1 0)), (1, .int x1), (3, .int (x3 + (1 : Int32)))]) [1, 2, 0] rfl ?_
      exact ih (x3 + (1 : Int32)) M1
set_option maxHeartbeats 4000000 in
set_option maxRecDepth 100000 in
theorem c_X6_does (l : Launch) (w : Cw) (hw : w.2.2.2.2.2 = shM) (x1 : Int32) (x2 : Int32) (M : Mem) : Ok l w eI yX6_does wsX6_does rmX6_does [.ref (w.2.1 0), .int x1, .int x2] M (f_X6_does x1 x2 M) := by
  refine Ok.of (cc := cX6_does) (nL := 4) (ret := (some .boolean)) (lv := [(0, .ref (w.2.1 0)), (1, .int x1), (2, .int x2)]) (by decide) rfl (Nat.le_of_ble_eq_true rfl) rfl (fun v hv hA => ?_)
  subst hv
  have hA : Act v w RX6 wsX6_does cX6_does 4 (some .boolean) := hA
  unfold f_X6_does
  refine WO.iload_n (n := 1) hA dX6_does_0 2 rfl rfl ?_
  refine WO.iconst (x := (3 : Int32)) (n := 2) hA dX6_does_1 (by decide) rfl ?_
  refine WO.icmp_ne (tg := 24) (n := 5) hA dX6_does_2 (by decide) rfl (fun _ => ?_) (fun _ => ?_)
  · refine WO.iconst (x := (0 : Int32)) (n := 6) hA dX6_does_5 (by decide) rfl ?_
    refine WO.istore_n (i := 3) (lv' := [(3, .int (0 : Int32)), (0, .ref (w.2.1 0)), (1, .int x1), (2, .int x2)]) (n := 7) hA dX6_does_6 rfl (by decide) rfl rfl ?_
    refine WO.sub (lv' := [(0, .ref (w.2.1 0)), (1, .int x1), (3, .int (0 : Int32))]) [1, 2, 0] rfl ?_
    refine w_X6_does_L7 hw hA x1 _ (fun  M2 => ?_) _ _ _
    refine WO.iconst (x := (1 : Int32)) (n := 23) hA dX6_does_22 (by decide) rfl ?_
    exact WO.zretc hA (by decide) dX6_does_23
  · refine WO.iload_n (n := 25) hA dX6_does_24 2 rfl rfl ?_
    refine WO.bipush (x := (10 : Int32)) (n := 27) hA dX6_does_25 (by decide) rfl ?_
    refine WO.icmp_lt (tg := 55) (n := 30) hA dX6_does_27 (by decide) rfl (fun _ => ?_) (fun _ => ?_)
    · refine WO.iload_n (n := 56) hA dX6_does_55 2 rfl rfl ?_
      refine WO.if_ne (tg := 67) (n := 59) hA dX6_does_56 (by decide) rfl (fun _ => ?_) (fun _ => ?_)
      · refine WO.aload_n (n := 60) hA dX6_does_59 0 rfl rfl ?_
        refine WO.iload_n (n := 61) hA dX6_does_60 1 rfl rfl ?_
        refine WO.callVi (As := [.int x1]) (rest := []) (n := 64) hA (c_X6_strikes v.2.1 w hw x1 M) gX6_does_X6_strikes rfl (m_0 hw) rfl mdX6_strikes ⟨rfl, rfl, Nat.le_of_ble_eq_true rfl, Nat.le_of_ble_eq_true rfl⟩ rfl rfl (Nat.le_of_ble_eq_true rfl) dX6_does_61 rfl (fun r4 M3 => ?_)
        refine WO.pop (n := 65) hA dX6_does_64 rfl rfl ?_
        refine WO.iconst (x := (1 : Int32)) (n := 66) hA dX6_does_65 (by decide) rfl ?_
        exact WO.zretc hA (by decide) dX6_does_66
      · refine WO.aload_n (n := 68) hA dX6_does_67 0 rfl rfl ?_
        refine WO.getI (j := 9) (n := 71) hA (m_0 hw) rfl fiX6_does_X6 (by decide) rfl fkX6_does_114 dX6_does_68 rfl ?_
        refine WO.iload_n (n := 72) hA dX6_does_71 1 rfl rfl ?_
        refine WO.callSi (As := [.int (M 0 9), .int x1]) (rest := []) (n := 75) hA (c_X6_isOf v.2.1 w hw (M 0 9) x1 M) gX6_does_X6_isOf rfl mdX6_isOf ⟨rfl, rfl, Nat.le_of_ble_eq_true rfl, Nat.le_of_ble_eq_true rfl⟩ rfl rfl (Nat.le_of_ble_eq_true rfl) dX6_does_72 rfl (fun r6 M5 => ?_)
        refine WO.iload_n (n := 76) hA dX6_does_75 2 rfl rfl ?_
        refine WO.iconst (x := (2 : Int32)) (n := 77) hA dX6_does_76 (by decide) rfl ?_
        refine WO.icmp_ne (tg := 84) (n := 80) hA dX6_does_77 (by decide) rfl (fun _ => ?_) (fun _ => ?_)
        · refine WO.iconst (x := (1 : Int32)) (n := 81) hA dX6_does_80 (by decide) rfl ?_
          refine WO.goto (n := 85) hA dX6_does_81 (by decide) ?_
          refine WO.icmp_eq (tg := 90) (n := 88) hA dX6_does_85 (by decide) rfl (fun _ => ?_) (fun _ => ?_)
          · refine WO.aload_n (n := 91) hA dX6_does_90 0 rfl rfl ?_
            refine WO.dup (n := 92) hA dX6_does_91 rfl rfl ?_
            refine WO.getI (j := 9) (n := 95) hA (m_0 hw) rfl fiX6_does_X6 (by decide) rfl fkX6_does_114 dX6_does_92 rfl ?_
            refine WO.iconst (x := (1 : Int32)) (n := 96) hA dX6_does_95 (by decide) rfl ?_
            refine WO.iload_n (n := 97) hA dX6_does_96 1 rfl rfl ?_
            refine WO.ishl (n := 98) hA dX6_does_97 rfl ?_
            refine WO.ixor (n := 99) hA dX6_does_98 rfl ?_
            refine WO.putI (j := 9) (n := 102) hA (m_0 hw) rfl fiX6_does_X6 tyX6 tyX6_ok nmX6 (by decide) rfl fkX6_does_114 rfl rfl rfl rfl dX6_does_99 rfl ?_
            refine WO.mem (fun M7 => ?_)
            refine WO.iconst (x := (1 : Int32)) (n := 103) hA dX6_does_102 (by decide) rfl ?_
            exact WO.zretc hA (by decide) dX6_does_103
          · refine WO.iconst (x := (0 : Int32)) (n := 89) hA dX6_does_88 (by decide) rfl ?_
            exact WO.zretc hA (by decide) dX6_does_89
        · refine WO.iconst (x := (0 : Int32)) (n := 85) hA dX6_does_84 (by decide) rfl ?_
          refine WO.icmp_eq (tg := 90) (n := 88) hA dX6_does_85 (by decide) rfl (fun _ => ?_) (fun _ => ?_)
          · refine WO.aload_n (n := 91) hA dX6_does_90 0 rfl rfl ?_
            refine WO.dup (n := 92) hA dX6_does_91 rfl rfl ?_
            refine WO.getI (j := 9) (n := 95) hA (m_0 hw) rfl fiX6_does_X6 (by decide) rfl fkX6_does_114 dX6_does_92 rfl ?_
            refine WO.iconst (x := (1 : Int32)) (n := 96) hA dX6_does_95 (by decide) rfl ?_
            refine WO.iload_n (n := 97) hA dX6_does_96 1 rfl rfl ?_
            refine WO.ishl (n := 98) hA dX6_does_97 rfl ?_
            refine WO.ixor (n := 99) hA dX6_does_98 rfl ?_
            refine WO.putI (j := 9) (n := 102) hA (m_0 hw) rfl fiX6_does_X6 tyX6 tyX6_ok nmX6 (by decide) rfl fkX6_does_114 rfl rfl rfl rfl dX6_does_99 rfl ?_
            refine WO.mem (fun M8 => ?_)
            refine WO.iconst (x := (1 : Int32)) (n := 103) hA dX6_does_102 (by decide) rfl ?_
            exact WO.zretc hA (by decide) dX6_does_103
          · refine WO.iconst (x := (0 : Int32)) (n := 89) hA dX6_does_88 (by decide) rfl ?_
            exact WO.zretc hA (by decide) dX6_does_89
    · refine WO.aload_n (n := 31) hA dX6_does_30 0 rfl rfl ?_
      refine WO.iload_n (n := 32) hA dX6_does_31 2 rfl rfl ?_
      refine WO.bipush (x := (10 : Int32)) (n := 34) hA dX6_does_32 (by decide) rfl ?_
      refine WO.isub (n := 35) hA dX6_does_34 rfl ?_
      refine WO.callVi (As := [.int (x2 - (10 : Int32))]) (rest := []) (n := 38) hA (c_X6_isClock v.2.1 w hw (x2 - (10 : Int32)) M) gX6_does_X6_isClock rfl (m_0 hw) rfl mdX6_isClock ⟨rfl, rfl, Nat.le_of_ble_eq_true rfl, Nat.le_of_ble_eq_true rfl⟩ rfl rfl (Nat.le_of_ble_eq_true rfl) dX6_does_35 rfl (fun r10 M9 => ?_)
      refine WO.if_ne (tg := 43) (n := 41) hA dX6_does_38 (by decide) rfl (fun _ => ?_) (fun _ => ?_)
      · refine WO.iconst (x := (0 : Int32)) (n := 42) hA dX6_does_41 (by decide) rfl ?_
        exact WO.zretc hA (by decide) dX6_does_42
      · refine WO.aload_n (n := 44) hA dX6_does_43 0 rfl rfl ?_
        refine WO.getR (j := 13) (p := 7) (n := 47) hA (m_0 hw) rfl fiX6_does_X6 (by decide) rfl fkX6_does_28 dX6_does_44 rfl ?_
        refine WO.iload_n (n := 48) hA dX6_does_47 2 rfl rfl ?_
        refine WO.bipush (x := (10 : Int32)) (n := 50) hA dX6_does_48 (by decide) rfl ?_
        refine WO.isub (n := 51) hA dX6_does_50 rfl ?_
        refine WO.iload_n (n := 52) hA dX6_does_51 1 rfl rfl ?_
        refine WO.iast (n := 53) hA (m_7 hw) dX6_does_52 rfl (fun _ => ?_)
        refine WO.mem (fun M11 => ?_)
        refine WO.iconst (x := (1 : Int32)) (n := 54) hA dX6_does_53 (by decide) rfl ?_
        exact WO.zretc hA (by decide) dX6_does_54
/- X6_goSeason -/
abbrev rmX6_goSeason : Room := { frames := 8, cells := 0, slots := 0, locals := 180 }
theorem mdX6_goSeason : yX6_goSeason.cls = RX6 ∧ yX6_goSeason.cls ≠ "java/lang/invoke/MethodHandle" ∧ yX6_goSeason.cls ≠ "java/lang/invoke/VarHandle" ∧ (parseMethodDescriptor yX6_goSeason.desc).map (fun d => d.parameters.length) = some 2 := by decide +kernel
theorem fkX6_goSeason_167 : Cond.fieldLink RX6 167 (TX6 20).1 (TX6 20).2.1 (TX6 20).2.2.1 ∈ wsX6_goSeason := by decide +kernel
theorem fiX6_goSeason_X6 : ∀ q ∈ u_ws RX6 TX6 30, q ∈ wsX6_goSeason := by decide +kernel
theorem fkX6_goSeason_164 : Cond.fieldLink RX6 164 (TX6 21).1 (TX6 21).2.1 (TX6 21).2.2.1 ∈ wsX6_goSeason := by decide +kernel
theorem fkX6_goSeason_16 : Cond.fieldLink RX6 16 (TX6 4).1 (TX6 4).2.1 (TX6 4).2.2.1 ∈ wsX6_goSeason := by decide +kernel
noncomputable def f_X6_goSeason_L12 (x1 : Int32) (x2 : Int32) (kx : Mem → Option (Int32 × Mem)) : Nat → Int32 → Mem → Option (Int32 × Mem)
  | 0, _, _ => none
  | n + 1, x3, M => if x2 ≤ x3 then (kx  M) else (grd (x1 + ((2 : Int32) * x3)) 240 (grd ((x1 + ((2 : Int32) * x3)) + (1 : Int32)) 240 (bd (f_X6_does (M 3 (x1 + ((2 : Int32) * x3)).toNatClampNeg) (M 3 ((x1 + ((2 : Int32) * x3)) + (1 : Int32)).toNatClampNeg) M) (fun r4 M3 => if r4 = 0 then (some (x3, M3)) else (f_X6_goSeason_L12 x1 x2 kx n (x3 + (1 : Int32)) M3)))))
noncomputable def f_X6_goSeason (x1 : Int32) (x2 : Int32) (M : Mem) : Option (Int32 × Mem) := mlt (mu M 0 20 (0 : Int32)) (fun M1 => mlt (mu M1 0 21 (0 : Int32)) (fun M2 => f_X6_goSeason_L12 x1 x2 (fun  M5 => some ((-9 : Int32), M5)) FU (0 : Int32) M2))
set_option maxHeartbeats 4000000 in
set_option maxRecDepth 100000 in
theorem w_X6_goSeason_L12 {v : Av} {w : Cw} (hw : w.2.2.2.2.2 = shM) (hA : Act v w RX6 wsX6_goSeason cX6_goSeason 4 (some .int)) (x1 : Int32) (x2 : Int32) (kx : Mem → Option (Int32 × Mem)) (hk : ∀ (M : Mem), WO v w rmX6_goSeason 4 eI (kx M) 54 [] [] M) : ∀ (n : Nat) (x3 : Int32) (M : Mem), WO v w rmX6_goSeason 4 eI (f_X6_goSeason_L12 x1 x2 kx n x3 M) 12 [(0, .ref (w.2.1 0)), (1, .int x1), (2, .int x2), (3, .int x3)] [] M := by
  intro n
  induction n with
  | zero => intro x3 M; exact WO.nothing
  | succ n ih =>
    intro x3 M
    rw [f_X6_goSeason_L12]
    refine WO.iload_n (n := 13) hA dX6_goSeason_12 3 rfl rfl ?_
    refine WO.iload_n (n := 14) hA dX6_goSeason_13 2 rfl rfl ?_
    refine WO.icmp_ge (tg := 54) (n := 17) hA dX6_goSeason_14 (by decide) rfl (fun _ => ?_) (fun _ => ?_)
    · refine WO.sub (lv' := []) [] rfl ?_
      exact hk  M
    · refine WO.aload_n (n := 18) hA dX6_goSeason_17 0 rfl rfl ?_
      refine WO.aload_n (n := 19) hA dX6_goSeason_18 0 rfl rfl ?_
      refine WO.getR (j := 4) (p := 3) (n := 22) hA (m_0 hw) rfl fiX6_goSeason_X6 (by decide) rfl fkX6_goSeason_16 dX6_goSeason_19 rfl ?_
      refine WO.iload_n (n := 23) hA dX6_goSeason_22 1 rfl rfl ?_
      refine WO.iconst (x := (2 : Int32)) (n := 24) hA dX6_goSeason_23 (by decide) rfl ?_
      refine WO.iload_n (n := 25) hA dX6_goSeason_24 3 rfl rfl ?_
      refine WO.imul (n := 26) hA dX6_goSeason_25 rfl ?_
      refine WO.iadd (n := 27) hA dX6_goSeason_26 rfl ?_
      refine WO.iald (n := 28) hA (m_3 hw) dX6_goSeason_27 rfl (fun _ => ?_)
      refine WO.aload_n (n := 29) hA dX6_goSeason_28 0 rfl rfl ?_
      refine WO.getR (j := 4) (p := 3) (n := 32) hA (m_0 hw) rfl fiX6_goSeason_X6 (by decide) rfl fkX6_goSeason_16 dX6_goSeason_29 rfl ?_
      refine WO.iload_n (n := 33) hA dX6_goSeason_32 1 rfl rfl ?_
      refine WO.iconst (x := (2 : Int32)) (n := 34) hA dX6_goSeason_33 (by decide) rfl ?_
      refine WO.iload_n (n := 35) hA dX6_goSeason_34 3 rfl rfl ?_
      refine WO.imul (n := 36) hA dX6_goSeason_35 rfl ?_
      refine WO.iadd (n := 37) hA dX6_goSeason_36 rfl ?_
      refine WO.iconst (x := (1 : Int32)) (n := 38) hA dX6_goSeason_37 (by decide) rfl ?_
      refine WO.iadd (n := 39) hA dX6_goSeason_38 rfl ?_
      refine WO.iald (n := 40) hA (m_3 hw) dX6_goSeason_39 rfl (fun _ => ?_)
      refine WO.callVi (As := [.int (M 3 (x1 + ((2 : Int32) * x3)).toNatClampNeg), .int (M 3 ((x1 + ((2 : Int32) * x3)) + (1 : Int32)).toNatClampNeg)]) (rest := []) (n := 43) hA (c_X6_does v.2.1 w hw (M 3 (x1 + ((2 : Int32) * x3)).toNatClampNeg) (M 3 ((x1 + ((2 : Int32) * x3)) + (1 : Int32)).toNatClampNeg) M) gX6_goSeason_X6_does rfl (m_0 hw) rfl mdX6_does ⟨rfl, rfl, Nat.le_of_ble_eq_true rfl, Nat.le_of_ble_eq_true rfl⟩ rfl rfl (Nat.le_of_ble_eq_true rfl) dX6_goSeason_40 rfl (fun r4 M3 => ?_)
      refine WO.if_ne (tg := 48) (n := 46) hA dX6_goSeason_43 (by decide) rfl (fun _ => ?_) (fun _ => ?_)
      · refine WO.iload_n (n := 47) hA dX6_goSeason_46 3 rfl rfl ?_
        exact WO.iret hA dX6_goSeason_47
      · refine WO.iinc (y := (1 : Int32)) (lv' := [(3, .int (x3 + (1 : Int32))), (0, .ref (w.2.1 0)), (1, .int x1), (2, .int x2)]) (n := 51) hA dX6_goSeason_48 3 rfl (by decide) (by decide) rfl rfl ?_
        refine WO.goto (n := 12) hA dX6_goSeason_51 (by decide) ?_
        refine WO.sub (lv' := [(0, .ref (w.2.1 0)), (1, .int x1), (2, .int x2), (3, .int (x3 + (1 : Int32)))]) [1, 2, 3, 0] rfl ?_
        exact ih (x3 + (1 : Int32)) M3
set_option maxHeartbeats 4000000 in
set_option maxRecDepth 100000 in
theorem c_X6_goSeason (l : Launch) (w : Cw) (hw : w.2.2.2.2.2 = shM) (x1 : Int32) (x2 : Int32) (M : Mem) : Ok l w eI yX6_goSeason wsX6_goSeason rmX6_goSeason [.ref (w.2.1 0), .int x1, .int x2] M (f_X6_goSeason x1 x2 M) := by
  refine Ok.of (cc := cX6_goSeason) (nL := 4) (ret := (some .int)) (lv := [(0, .ref (w.2.1 0)), (1, .int x1), (2, .int x2)]) (by decide) rfl (Nat.le_of_ble_eq_true rfl) rfl (fun v hv hA => ?_)
  subst hv
  have hA : Act v w RX6 wsX6_goSeason cX6_goSeason 4 (some .int) := hA
  unfold f_X6_goSeason
  refine WO.aload_n (n := 1) hA dX6_goSeason_0 0 rfl rfl ?_
  refine WO.iconst (x := (0 : Int32)) (n := 2) hA dX6_goSeason_1 (by decide) rfl ?_
  refine WO.putI (j := 20) (n := 5) hA (m_0 hw) rfl fiX6_goSeason_X6 tyX6 tyX6_ok nmX6 (by decide) rfl fkX6_goSeason_167 rfl rfl rfl rfl dX6_goSeason_2 rfl ?_
  refine WO.mem (fun M1 => ?_)
  refine WO.aload_n (n := 6) hA dX6_goSeason_5 0 rfl rfl ?_
  refine WO.iconst (x := (0 : Int32)) (n := 7) hA dX6_goSeason_6 (by decide) rfl ?_
  refine WO.putI (j := 21) (n := 10) hA (m_0 hw) rfl fiX6_goSeason_X6 tyX6 tyX6_ok nmX6 (by decide) rfl fkX6_goSeason_164 rfl rfl rfl rfl dX6_goSeason_7 rfl ?_
  refine WO.mem (fun M2 => ?_)
  refine WO.iconst (x := (0 : Int32)) (n := 11) hA dX6_goSeason_10 (by decide) rfl ?_
  refine WO.istore_n (i := 3) (lv' := [(3, .int (0 : Int32)), (0, .ref (w.2.1 0)), (1, .int x1), (2, .int x2)]) (n := 12) hA dX6_goSeason_11 rfl (by decide) rfl rfl ?_
  refine WO.sub (lv' := [(0, .ref (w.2.1 0)), (1, .int x1), (2, .int x2), (3, .int (0 : Int32))]) [1, 2, 3, 0] rfl ?_
  refine w_X6_goSeason_L12 hw hA x1 x2 _ (fun  M5 => ?_) _ _ _
  refine WO.bipush (x := (-9 : Int32)) (n := 56) hA dX6_goSeason_54 (by decide) rfl ?_
  exact WO.iret hA dX6_goSeason_56
/- X6_refusesPair -/
abbrev rmX6_refusesPair : Room := { frames := 1, cells := 0, slots := 0, locals := 22 }
theorem mdX6_refusesPair : yX6_refusesPair.cls = RX6 ∧ yX6_refusesPair.cls ≠ "java/lang/invoke/MethodHandle" ∧ yX6_refusesPair.cls ≠ "java/lang/invoke/VarHandle" ∧ (parseMethodDescriptor yX6_refusesPair.desc).map (fun d => d.parameters.length) = some 2 := by decide +kernel
noncomputable def f_X6_refusesPair (x1 : Int32) (x2 : Int32) (M : Mem) : Option (Int32 × Mem) := bd (f_X6_within x2 (10 : Int32) (13 : Int32) M) (fun r2 M1 => bd (f_X6_within x2 (0 : Int32) (3 : Int32) M1) (fun r4 M3 => if r4 = 0 then (if r2 = 0 then (some ((-2 : Int32), M3)) else (if x2 = (3 : Int32) then (bd (f_X6_within x1 (0 : Int32) (9 : Int32) M3) (fun r6 M5 => if r6 = 0 then (some ((-2 : Int32), M5)) else (if r2 = 0 then (if x2 = (3 : Int32) then (some ((0 : Int32), M5)) else (bd (f_X6_isClock x1 M5) (fun r8 M7 => if r8 = 0 then (some ((-1 : Int32), M7)) else (some ((0 : Int32), M7))))) else (bd (f_X6_isHouse x1 M5) (fun r10 M9 => if r10 = 0 then (some ((-1 : Int32), M9)) else (some ((0 : Int32), M9))))))) else (if r2 = 0 then (if x2 = (3 : Int32) then (some ((0 : Int32), M3)) else (bd (f_X6_isClock x1 M3) (fun r12 M11 => if r12 = 0 then (some ((-1 : Int32), M11)) else (some ((0 : Int32), M11))))) else (bd (f_X6_isHouse x1 M3) (fun r14 M13 => if r14 = 0 then (some ((-1 : Int32), M13)) else (some ((0 : Int32), M13))))))) else (if x2 = (3 : Int32) then (bd (f_X6_within x1 (0 : Int32) (9 : Int32) M3) (fun r16 M15 => if r16 = 0 then (some ((-2 : Int32), M15)) else (if r2 = 0 then (if x2 = (3 : Int32) then (some ((0 : Int32), M15)) else (bd (f_X6_isClock x1 M15) (fun r18 M17 => if r18 = 0 then (some ((-1 : Int32), M17)) else (some ((0 : Int32), M17))))) else (bd (f_X6_isHouse x1 M15) (fun r20 M19 => if r20 = 0 then (some ((-1 : Int32), M19)) else (some ((0 : Int32), M19))))))) else (if r2 = 0 then (if x2 = (3 : Int32) then (some ((0 : Int32), M3)) else (bd (f_X6_isClock x1 M3) (fun r22 M21 => if r22 = 0 then (some ((-1 : Int32), M21)) else (some ((0 : Int32), M21))))) else (bd (f_X6_isHouse x1 M3) (fun r24 M23 => if r24 = 0 then (some ((-1 : Int32), M23)) else (some ((0 : Int32), M23))))))))
set_option maxHeartbeats 4000000 in
set_option maxRecDepth 100000 in
theorem c_X6_refusesPair (l : Launch) (w : Cw) (hw : w.2.2.2.2.2 = shM) (x1 : Int32) (x2 : Int32) (M : Mem) : Ok l w eI yX6_refusesPair wsX6_refusesPair rmX6_refusesPair [.ref (w.2.1 0), .int x1, .int x2] M (f_X6_refusesPair x1 x2 M) := by
  refine Ok.of (cc := cX6_refusesPair) (nL := 4) (ret := (some .int)) (lv := [(0, .ref (w.2.1 0)), (1, .int x1), (2, .int x2)]) (by decide) rfl (Nat.le_of_ble_eq_true rfl) rfl (fun v hv hA => ?_)
  subst hv
  have hA : Act v w RX6 wsX6_refusesPair cX6_refusesPair 4 (some .int) := hA
  unfold f_X6_refusesPair
  refine WO.iload_n (n := 1) hA dX6_refusesPair_0 2 rfl rfl ?_
  refine WO.bipush (x := (10 : Int32)) (n := 3) hA dX6_refusesPair_1 (by decide) rfl ?_
  refine WO.bipush (x := (13 : Int32)) (n := 5) hA dX6_refusesPair_3 (by decide) rfl ?_
  refine WO.callSi (As := [.int x2, .int (10 : Int32), .int (13 : Int32)]) (rest := []) (n := 8) hA (c_X6_within v.2.1 w hw x2 (10 : Int32) (13 : Int32) M) gX6_refusesPair_X6_within rfl mdX6_within ⟨rfl, rfl, Nat.le_of_ble_eq_true rfl, Nat.le_of_ble_eq_true rfl⟩ rfl rfl (Nat.le_of_ble_eq_true rfl) dX6_refusesPair_5 rfl (fun r2 M1 => ?_)
  refine WO.istore_n (i := 3) (lv' := [(3, .int r2), (0, .ref (w.2.1 0)), (1, .int x1), (2, .int x2)]) (n := 9) hA dX6_refusesPair_8 rfl (by decide) rfl rfl ?_
  refine WO.iload_n (n := 10) hA dX6_refusesPair_9 3 rfl rfl ?_
  refine WO.iconst (x := (0 : Int32)) (n := 11) hA dX6_refusesPair_10 (by decide) rfl ?_
  refine WO.iconst (x := (3 : Int32)) (n := 12) hA dX6_refusesPair_11 (by decide) rfl ?_
  refine WO.callSi (As := [.int x2, .int (0 : Int32), .int (3 : Int32)]) (rest := []) (n := 15) hA (c_X6_within v.2.1 w hw x2 (0 : Int32) (3 : Int32) M1) gX6_refusesPair_X6_within rfl mdX6_within ⟨rfl, rfl, Nat.le_of_ble_eq_true rfl, Nat.le_of_ble_eq_true rfl⟩ rfl rfl (Nat.le_of_ble_eq_true rfl) dX6_refusesPair_12 rfl (fun r4 M3 => ?_)
  refine WO.if_ne (tg := 22) (n := 18) hA dX6_refusesPair_15 (by decide) rfl (fun _ => ?_) (fun _ => ?_)
  · refine WO.iload_n (n := 19) hA dX6_refusesPair_18 0 rfl rfl ?_
    refine WO.if_eq (tg := 37) (n := 22) hA dX6_refusesPair_19 (by decide) rfl (fun _ => ?_) (fun _ => ?_)
    · refine WO.bipush (x := (-2 : Int32)) (n := 39) hA dX6_refusesPair_37 (by decide) rfl ?_
      exact WO.iret hA dX6_refusesPair_39
    · refine WO.iload_n (n := 23) hA dX6_refusesPair_22 3 rfl rfl ?_
      refine WO.iconst (x := (3 : Int32)) (n := 24) hA dX6_refusesPair_23 (by decide) rfl ?_
      refine WO.icmp_ne (tg := 40) (n := 27) hA dX6_refusesPair_24 (by decide) rfl (fun _ => ?_) (fun _ => ?_)
      · refine WO.iload_n (n := 28) hA dX6_refusesPair_27 2 rfl rfl ?_
        refine WO.iconst (x := (0 : Int32)) (n := 29) hA dX6_refusesPair_28 (by decide) rfl ?_
        refine WO.bipush (x := (9 : Int32)) (n := 31) hA dX6_refusesPair_29 (by decide) rfl ?_
        refine WO.callSi (As := [.int x1, .int (0 : Int32), .int (9 : Int32)]) (rest := []) (n := 34) hA (c_X6_within v.2.1 w hw x1 (0 : Int32) (9 : Int32) M3) gX6_refusesPair_X6_within rfl mdX6_within ⟨rfl, rfl, Nat.le_of_ble_eq_true rfl, Nat.le_of_ble_eq_true rfl⟩ rfl rfl (Nat.le_of_ble_eq_true rfl) dX6_refusesPair_31 rfl (fun r6 M5 => ?_)
        refine WO.if_ne (tg := 40) (n := 37) hA dX6_refusesPair_34 (by decide) rfl (fun _ => ?_) (fun _ => ?_)
        · refine WO.bipush (x := (-2 : Int32)) (n := 39) hA dX6_refusesPair_37 (by decide) rfl ?_
          exact WO.iret hA dX6_refusesPair_39
        · refine WO.iload_n (n := 41) hA dX6_refusesPair_40 0 rfl rfl ?_
          refine WO.if_eq (tg := 58) (n := 44) hA dX6_refusesPair_41 (by decide) rfl (fun _ => ?_) (fun _ => ?_)
          · refine WO.iload_n (n := 59) hA dX6_refusesPair_58 3 rfl rfl ?_
            refine WO.iconst (x := (3 : Int32)) (n := 60) hA dX6_refusesPair_59 (by decide) rfl ?_
            refine WO.icmp_eq (tg := 71) (n := 63) hA dX6_refusesPair_60 (by decide) rfl (fun _ => ?_) (fun _ => ?_)
            · refine WO.iconst (x := (0 : Int32)) (n := 72) hA dX6_refusesPair_71 (by decide) rfl ?_
              refine WO.goto (n := 76) hA dX6_refusesPair_72 (by decide) ?_
              exact WO.iret hA dX6_refusesPair_76
            · refine WO.aload_n (n := 64) hA dX6_refusesPair_63 1 rfl rfl ?_
              refine WO.iload_n (n := 65) hA dX6_refusesPair_64 2 rfl rfl ?_
              refine WO.callVi (As := [.int x1]) (rest := []) (n := 68) hA (c_X6_isClock v.2.1 w hw x1 M5) gX6_refusesPair_X6_isClock rfl (m_0 hw) rfl mdX6_isClock ⟨rfl, rfl, Nat.le_of_ble_eq_true rfl, Nat.le_of_ble_eq_true rfl⟩ rfl rfl (Nat.le_of_ble_eq_true rfl) dX6_refusesPair_65 rfl (fun r8 M7 => ?_)
              refine WO.if_eq (tg := 75) (n := 71) hA dX6_refusesPair_68 (by decide) rfl (fun _ => ?_) (fun _ => ?_)
              · refine WO.iconst (x := (-1 : Int32)) (n := 76) hA dX6_refusesPair_75 (by decide) rfl ?_
                exact WO.iret hA dX6_refusesPair_76
              · refine WO.iconst (x := (0 : Int32)) (n := 72) hA dX6_refusesPair_71 (by decide) rfl ?_
                refine WO.goto (n := 76) hA dX6_refusesPair_72 (by decide) ?_
                exact WO.iret hA dX6_refusesPair_76
          · refine WO.aload_n (n := 45) hA dX6_refusesPair_44 1 rfl rfl ?_
            refine WO.iload_n (n := 46) hA dX6_refusesPair_45 2 rfl rfl ?_
            refine WO.callVi (As := [.int x1]) (rest := []) (n := 49) hA (c_X6_isHouse v.2.1 w hw x1 M5) gX6_refusesPair_X6_isHouse rfl (m_0 hw) rfl mdX6_isHouse ⟨rfl, rfl, Nat.le_of_ble_eq_true rfl, Nat.le_of_ble_eq_true rfl⟩ rfl rfl (Nat.le_of_ble_eq_true rfl) dX6_refusesPair_46 rfl (fun r10 M9 => ?_)
            refine WO.if_eq (tg := 56) (n := 52) hA dX6_refusesPair_49 (by decide) rfl (fun _ => ?_) (fun _ => ?_)
            · refine WO.iconst (x := (-1 : Int32)) (n := 57) hA dX6_refusesPair_56 (by decide) rfl ?_
              exact WO.iret hA dX6_refusesPair_57
            · refine WO.iconst (x := (0 : Int32)) (n := 53) hA dX6_refusesPair_52 (by decide) rfl ?_
              refine WO.goto (n := 57) hA dX6_refusesPair_53 (by decide) ?_
              exact WO.iret hA dX6_refusesPair_57
      · refine WO.iload_n (n := 41) hA dX6_refusesPair_40 0 rfl rfl ?_
        refine WO.if_eq (tg := 58) (n := 44) hA dX6_refusesPair_41 (by decide) rfl (fun _ => ?_) (fun _ => ?_)
        · refine WO.iload_n (n := 59) hA dX6_refusesPair_58 3 rfl rfl ?_
          refine WO.iconst (x := (3 : Int32)) (n := 60) hA dX6_refusesPair_59 (by decide) rfl ?_
          refine WO.icmp_eq (tg := 71) (n := 63) hA dX6_refusesPair_60 (by decide) rfl (fun _ => ?_) (fun _ => ?_)
          · refine WO.iconst (x := (0 : Int32)) (n := 72) hA dX6_refusesPair_71 (by decide) rfl ?_
            refine WO.goto (n := 76) hA dX6_refusesPair_72 (by decide) ?_
            exact WO.iret hA dX6_refusesPair_76
          · refine WO.aload_n (n := 64) hA dX6_refusesPair_63 1 rfl rfl ?_
            refine WO.iload_n (n := 65) hA dX6_refusesPair_64 2 rfl rfl ?_
            refine WO.callVi (As := [.int x1]) (rest := []) (n := 68) hA (c_X6_isClock v.2.1 w hw x1 M3) gX6_refusesPair_X6_isClock rfl (m_0 hw) rfl mdX6_isClock ⟨rfl, rfl, Nat.le_of_ble_eq_true rfl, Nat.le_of_ble_eq_true rfl⟩ rfl rfl (Nat.le_of_ble_eq_true rfl) dX6_refusesPair_65 rfl (fun r12 M11 => ?_)
            refine WO.if_eq (tg := 75) (n := 71) hA dX6_refusesPair_68 (by decide) rfl (fun _ => ?_) (fun _ => ?_)
            · refine WO.iconst (x := (-1 : Int32)) (n := 76) hA dX6_refusesPair_75 (by decide) rfl ?_
              exact WO.iret hA dX6_refusesPair_76
            · refine WO.iconst (x := (0 : Int32)) (n := 72) hA dX6_refusesPair_71 (by decide) rfl ?_
              refine WO.goto (n := 76) hA dX6_refusesPair_72 (by decide) ?_
              exact WO.iret hA dX6_refusesPair_76
        · refine WO.aload_n (n := 45) hA dX6_refusesPair_44 1 rfl rfl ?_
          refine WO.iload_n (n := 46) hA dX6_refusesPair_45 2 rfl rfl ?_
          refine WO.callVi (As := [.int x1]) (rest := []) (n := 49) hA (c_X6_isHouse v.2.1 w hw x1 M3) gX6_refusesPair_X6_isHouse rfl (m_0 hw) rfl mdX6_isHouse ⟨rfl, rfl, Nat.le_of_ble_eq_true rfl, Nat.le_of_ble_eq_true rfl⟩ rfl rfl (Nat.le_of_ble_eq_true rfl) dX6_refusesPair_46 rfl (fun r14 M13 => ?_)
          refine WO.if_eq (tg := 56) (n := 52) hA dX6_refusesPair_49 (by decide) rfl (fun _ => ?_) (fun _ => ?_)
          · refine WO.iconst (x := (-1 : Int32)) (n := 57) hA dX6_refusesPair_56 (by decide) rfl ?_
            exact WO.iret hA dX6_refusesPair_57
          · refine WO.iconst (x := (0 : Int32)) (n := 53) hA dX6_refusesPair_52 (by decide) rfl ?_
            refine WO.goto (n := 57) hA dX6_refusesPair_53 (by decide) ?_
            exact WO.iret hA dX6_refusesPair_57
  · refine WO.iload_n (n := 23) hA dX6_refusesPair_22 3 rfl rfl ?_
    refine WO.iconst (x := (3 : Int32)) (n := 24) hA dX6_refusesPair_23 (by decide) rfl ?_
    refine WO.icmp_ne (tg := 40) (n := 27) hA dX6_refusesPair_24 (by decide) rfl (fun _ => ?_) (fun _ => ?_)
    · refine WO.iload_n (n := 28) hA dX6_refusesPair_27 2 rfl rfl ?_
      refine WO.iconst (x := (0 : Int32)) (n := 29) hA dX6_refusesPair_28 (by decide) rfl ?_
      refine WO.bipush (x := (9 : Int32)) (n := 31) hA dX6_refusesPair_29 (by decide) rfl ?_
      refine WO.callSi (As := [.int x1, .int (0 : Int32), .int (9 : Int32)]) (rest := []) (n := 34) hA (c_X6_within v.2.1 w hw x1 (0 : Int32) (9 : Int32) M3) gX6_refusesPair_X6_within rfl mdX6_within ⟨rfl, rfl, Nat.le_of_ble_eq_true rfl, Nat.le_of_ble_eq_true rfl⟩ rfl rfl (Nat.le_of_ble_eq_true rfl) dX6_refusesPair_31 rfl (fun r16 M15 => ?_)
      refine WO.if_ne (tg := 40) (n := 37) hA dX6_refusesPair_34 (by decide) rfl (fun _ => ?_) (fun _ => ?_)
      · refine WO.bipush (x := (-2 : Int32)) (n := 39) hA dX6_refusesPair_37 (by decide) rfl ?_
        exact WO.iret hA dX6_refusesPair_39
      · refine WO.iload_n (n := 41) hA dX6_refusesPair_40 0 rfl rfl ?_
        refine WO.if_eq (tg := 58) (n := 44) hA dX6_refusesPair_41 (by decide) rfl (fun _ => ?_) (fun _ => ?_)
        · refine WO.iload_n (n := 59) hA dX6_refusesPair_58 3 rfl rfl ?_
          refine WO.iconst (x := (3 : Int32)) (n := 60) hA dX6_refusesPair_59 (by decide) rfl ?_
          refine WO.icmp_eq (tg := 71) (n := 63) hA dX6_refusesPair_60 (by decide) rfl (fun _ => ?_) (fun _ => ?_)
          · refine WO.iconst (x := (0 : Int32)) (n := 72) hA dX6_refusesPair_71 (by decide) rfl ?_
            refine WO.goto (n := 76) hA dX6_refusesPair_72 (by decide) ?_
            exact WO.iret hA dX6_refusesPair_76
          · refine WO.aload_n (n := 64) hA dX6_refusesPair_63 1 rfl rfl ?_
            refine WO.iload_n (n := 65) hA dX6_refusesPair_64 2 rfl rfl ?_
            refine WO.callVi (As := [.int x1]) (rest := []) (n := 68) hA (c_X6_isClock v.2.1 w hw x1 M15) gX6_refusesPair_X6_isClock rfl (m_0 hw) rfl mdX6_isClock ⟨rfl, rfl, Nat.le_of_ble_eq_true rfl, Nat.le_of_ble_eq_true rfl⟩ rfl rfl (Nat.le_of_ble_eq_true rfl) dX6_refusesPair_65 rfl (fun r18 M17 => ?_)
            refine WO.if_eq (tg := 75) (n := 71) hA dX6_refusesPair_68 (by decide) rfl (fun _ => ?_) (fun _ => ?_)
            · refine WO.iconst (x := (-1 : Int32)) (n := 76) hA dX6_refusesPair_75 (by decide) rfl ?_
              exact WO.iret hA dX6_refusesPair_76
            · refine WO.iconst (x := (0 : Int32)) (n := 72) hA dX6_refusesPair_71 (by decide) rfl ?_
              refine WO.goto (n := 76) hA dX6_refusesPair_72 (by decide) ?_
              exact WO.iret hA dX6_refusesPair_76
        · refine WO.aload_n (n := 45) hA dX6_refusesPair_44 1 rfl rfl ?_
          refine WO.iload_n (n := 46) hA dX6_refusesPair_45 2 rfl rfl ?_
          refine WO.callVi (As := [.int x1]) (rest := []) (n := 49) hA (c_X6_isHouse v.2.1 w hw x1 M15) gX6_refusesPair_X6_isHouse rfl (m_0 hw) rfl mdX6_isHouse ⟨rfl, rfl, Nat.le_of_ble_eq_true rfl, Nat.le_of_ble_eq_true rfl⟩ rfl rfl (Nat.le_of_ble_eq_true rfl) dX6_refusesPair_46 rfl (fun r20 M19 => ?_)
          refine WO.if_eq (tg := 56) (n := 52) hA dX6_refusesPair_49 (by decide) rfl (fun _ => ?_) (fun _ => ?_)
          · refine WO.iconst (x := (-1 : Int32)) (n := 57) hA dX6_refusesPair_56 (by decide) rfl ?_
            exact WO.iret hA dX6_refusesPair_57
          · refine WO.iconst (x := (0 : Int32)) (n := 53) hA dX6_refusesPair_52 (by decide) rfl ?_
            refine WO.goto (n := 57) hA dX6_refusesPair_53 (by decide) ?_
            exact WO.iret hA dX6_refusesPair_57
    · refine WO.iload_n (n := 41) hA dX6_refusesPair_40 0 rfl rfl ?_
      refine WO.if_eq (tg := 58) (n := 44) hA dX6_refusesPair_41 (by decide) rfl (fun _ => ?_) (fun _ => ?_)
      · refine WO.iload_n (n := 59) hA dX6_refusesPair_58 3 rfl rfl ?_
        refine WO.iconst (x := (3 : Int32)) (n := 60) hA dX6_refusesPair_59 (by decide) rfl ?_
        refine WO.icmp_eq (tg := 71) (n := 63) hA dX6_refusesPair_60 (by decide) rfl (fun _ => ?_) (fun _ => ?_)
        · refine WO.iconst (x := (0 : Int32)) (n := 72) hA dX6_refusesPair_71 (by decide) rfl ?_
          refine WO.goto (n := 76) hA dX6_refusesPair_72 (by decide) ?_
          exact WO.iret hA dX6_refusesPair_76
        · refine WO.aload_n (n := 64) hA dX6_refusesPair_63 1 rfl rfl ?_
          refine WO.iload_n (n := 65) hA dX6_refusesPair_64 2 rfl rfl ?_
          refine WO.callVi (As := [.int x1]) (rest := []) (n := 68) hA (c_X6_isClock v.2.1 w hw x1 M3) gX6_refusesPair_X6_isClock rfl (m_0 hw) rfl mdX6_isClock ⟨rfl, rfl, Nat.le_of_ble_eq_true rfl, Nat.le_of_ble_eq_true rfl⟩ rfl rfl (Nat.le_of_ble_eq_true rfl) dX6_refusesPair_65 rfl (fun r22 M21 => ?_)
          refine WO.if_eq (tg := 75) (n := 71) hA dX6_refusesPair_68 (by decide) rfl (fun _ => ?_) (fun _ => ?_)
          · refine WO.iconst (x := (-1 : Int32)) (n := 76) hA dX6_refusesPair_75 (by decide) rfl ?_
            exact WO.iret hA dX6_refusesPair_76
          · refine WO.iconst (x := (0 : Int32)) (n := 72) hA dX6_refusesPair_71 (by decide) rfl ?_
            refine WO.goto (n := 76) hA dX6_refusesPair_72 (by decide) ?_
            exact WO.iret hA dX6_refusesPair_76
      · refine WO.aload_n (n := 45) hA dX6_refusesPair_44 1 rfl rfl ?_
        refine WO.iload_n (n := 46) hA dX6_refusesPair_45 2 rfl rfl ?_
        refine WO.callVi (As := [.int x1]) (rest := []) (n := 49) hA (c_X6_isHouse v.2.1 w hw x1 M3) gX6_refusesPair_X6_isHouse rfl (m_0 hw) rfl mdX6_isHouse ⟨rfl, rfl, Nat.le_of_ble_eq_true rfl, Nat.le_of_ble_eq_true rfl⟩ rfl rfl (Nat.le_of_ble_eq_true rfl) dX6_refusesPair_46 rfl (fun r24 M23 => ?_)
        refine WO.if_eq (tg := 56) (n := 52) hA dX6_refusesPair_49 (by decide) rfl (fun _ => ?_) (fun _ => ?_)
        · refine WO.iconst (x := (-1 : Int32)) (n := 57) hA dX6_refusesPair_56 (by decide) rfl ?_
          exact WO.iret hA dX6_refusesPair_57
        · refine WO.iconst (x := (0 : Int32)) (n := 53) hA dX6_refusesPair_52 (by decide) rfl ?_
          refine WO.goto (n := 57) hA dX6_refusesPair_53 (by decide) ?_
          exact WO.iret hA dX6_refusesPair_57
