/-! ===== constructors that make arrays ===== -/
theorem vin4 {i : Int32} (h : ¬ i < 0 ∧ i.toNatClampNeg < 4) : vp_in i 4 := fun q => q.elim h.1 (fun q => Nat.not_le.mpr h.2 q)
def segSt (cA : Nat → ClassId) (a : Nat → Nat) : va_W := [(a 0, .inr (3, [.ref (a 1), .ref (a 2), .ref (a 3), .ref (a 4), .ref (a 5), .int 0, .int 0, .int 0, .int 0, .int 0])), (a 1, .inl (cA 0, 6, .inl (fun _ => 0))), (a 2, .inl (cA 0, 6, .inl (fun _ => 0))), (a 3, .inl (cA 0, 4, .inl (fun _ => 0))), (a 4, .inl (cA 0, 4, .inl (fun _ => 0))), (a 5, .inl (cA 1, 4, .inl (fun _ => 0)))]
theorem fiX3_init : ∀ q ∈ u_ws RX3 TX3 10, q ∈ wsX3_init := by decide +kernel
set_option maxHeartbeats 4000000 in
set_option maxRecDepth 100000 in
theorem mk_X3 (l : Launch) (D : va_G) (cA : Nat → ClassId) : Mk l D cA yX3_init wsX3_init { frames := 1, cells := 5, slots := 24, locals := 12 } 3 [.null, .null, .null, .null, .null, .int 0, .int 0, .int 0, .int 0, .int 0] (segSt cA) (fun _ => True) := by
  refine Mk.of (cc := cX3_init) (nL := 1) (by decide) rfl rfl (by decide) ?_
  intro v A q0 _ hA hin hF _
  refine CO.aload_n (n := 1) hA dX3_init_0 0 rfl rfl ?_
  refine CO.objInit (n := 4) hA (by decide +kernel) (by decide +kernel) (List.mem_cons_of_mem _ (List.mem_append_left _ (List.mem_of_getElem? (i := 2) rfl))) dX3_init_1 (by decide) (by decide) rfl ?_
  refine CO.aload_n (n := 5) hA dX3_init_4 0 rfl rfl ?_
  refine CO.bipush (x := 6) (n := 7) hA dX3_init_5 (by decide) rfl ?_
  refine CO.newarr (t := 0) (N := 6) (n := 9) hA hF rfl rfl rfl (by decide) (by decide) (by decide) (by decide) (by decide) (by decide +kernel) dX3_init_7 rfl (fun q1 => ?_)
  refine CO.putF (C := RX3) (T := TX3) (N := 10) (r := 0) (j := 0) (n := 12) (ws' := [(q0, .inr (3, [.ref q1, .null, .null, .null, .null, .int 0, .int 0, .int 0, .int 0, .int 0])), (q1, .inl (cA 0, 6, .inl (fun _ => 0)))]) hA hin rfl rfl fiX3_init tyX3 tyX3_ok nmX3 (by decide) (by decide +kernel) rfl rfl rfl rfl rfl (Nat.le_of_ble_eq_true rfl) dX3_init_9 rfl rfl ?_
  refine CO.aload_n (n := 13) hA dX3_init_12 0 rfl rfl ?_
  refine CO.bipush (x := 6) (n := 15) hA dX3_init_13 (by decide) rfl ?_
  refine CO.newarr (t := 0) (N := 6) (n := 17) hA hF rfl rfl rfl (by decide) (by decide) (by decide) (by decide) (by decide) (by decide +kernel) dX3_init_15 rfl (fun q2 => ?_)
  refine CO.putF (C := RX3) (T := TX3) (N := 10) (r := 0) (j := 1) (n := 20) (ws' := [(q0, .inr (3, [.ref q1, .ref q2, .null, .null, .null, .int 0, .int 0, .int 0, .int 0, .int 0])), (q1, .inl (cA 0, 6, .inl (fun _ => 0))), (q2, .inl (cA 0, 6, .inl (fun _ => 0)))]) hA hin rfl rfl fiX3_init tyX3 tyX3_ok nmX3 (by decide) (by decide +kernel) rfl rfl rfl rfl rfl (Nat.le_of_ble_eq_true rfl) dX3_init_17 rfl rfl ?_
  refine CO.aload_n (n := 21) hA dX3_init_20 0 rfl rfl ?_
  refine CO.iconst (x := 4) (n := 22) hA dX3_init_21 (by decide) rfl ?_
  refine CO.newarr (t := 0) (N := 4) (n := 24) hA hF rfl rfl rfl (by decide) (by decide) (by decide) (by decide) (by decide) (by decide +kernel) dX3_init_22 rfl (fun q3 => ?_)
  refine CO.putF (C := RX3) (T := TX3) (N := 10) (r := 0) (j := 2) (n := 27) (ws' := [(q0, .inr (3, [.ref q1, .ref q2, .ref q3, .null, .null, .int 0, .int 0, .int 0, .int 0, .int 0])), (q1, .inl (cA 0, 6, .inl (fun _ => 0))), (q2, .inl (cA 0, 6, .inl (fun _ => 0))), (q3, .inl (cA 0, 4, .inl (fun _ => 0)))]) hA hin rfl rfl fiX3_init tyX3 tyX3_ok nmX3 (by decide) (by decide +kernel) rfl rfl rfl rfl rfl (Nat.le_of_ble_eq_true rfl) dX3_init_24 rfl rfl ?_
  refine CO.aload_n (n := 28) hA dX3_init_27 0 rfl rfl ?_
  refine CO.iconst (x := 4) (n := 29) hA dX3_init_28 (by decide) rfl ?_
  refine CO.newarr (t := 0) (N := 4) (n := 31) hA hF rfl rfl rfl (by decide) (by decide) (by decide) (by decide) (by decide) (by decide +kernel) dX3_init_29 rfl (fun q4 => ?_)
  refine CO.putF (C := RX3) (T := TX3) (N := 10) (r := 0) (j := 3) (n := 34) (ws' := [(q0, .inr (3, [.ref q1, .ref q2, .ref q3, .ref q4, .null, .int 0, .int 0, .int 0, .int 0, .int 0])), (q1, .inl (cA 0, 6, .inl (fun _ => 0))), (q2, .inl (cA 0, 6, .inl (fun _ => 0))), (q3, .inl (cA 0, 4, .inl (fun _ => 0))), (q4, .inl (cA 0, 4, .inl (fun _ => 0)))]) hA hin rfl rfl fiX3_init tyX3 tyX3_ok nmX3 (by decide) (by decide +kernel) rfl rfl rfl rfl rfl (Nat.le_of_ble_eq_true rfl) dX3_init_31 rfl rfl ?_
  refine CO.aload_n (n := 35) hA dX3_init_34 0 rfl rfl ?_
  refine CO.iconst (x := 4) (n := 36) hA dX3_init_35 (by decide) rfl ?_
  refine CO.newarr (t := 1) (N := 4) (n := 38) hA hF rfl rfl rfl (by decide) (by decide) (by decide) (by decide) (by decide) (by decide +kernel) dX3_init_36 rfl (fun q5 => ?_)
  refine CO.putF (C := RX3) (T := TX3) (N := 10) (r := 0) (j := 4) (n := 41) (ws' := [(q0, .inr (3, [.ref q1, .ref q2, .ref q3, .ref q4, .ref q5, .int 0, .int 0, .int 0, .int 0, .int 0])), (q1, .inl (cA 0, 6, .inl (fun _ => 0))), (q2, .inl (cA 0, 6, .inl (fun _ => 0))), (q3, .inl (cA 0, 4, .inl (fun _ => 0))), (q4, .inl (cA 0, 4, .inl (fun _ => 0))), (q5, .inl (cA 1, 4, .inl (fun _ => 0)))]) hA hin rfl rfl fiX3_init tyX3 tyX3_ok nmX3 (by decide) (by decide +kernel) rfl rfl rfl rfl rfl (Nat.le_of_ble_eq_true rfl) dX3_init_38 rfl rfl ?_
  exact CO.done hA (fun k => [q0, q1, q2, q3, q4, q5].getD k 0) rfl (fun H h => h) (fun h => h) dX3_init_41
def segTx (cA : Nat → ClassId) (a : Nat → Nat) : va_W := [(a 0, .inr (4, [.ref (a 1), .int 0, .int 0])), (a 1, .inl (cA 0, 60, .inl (fun _ => 0)))]
theorem fiX4_init : ∀ q ∈ u_ws RX4 TX4 3, q ∈ wsX4_init := by decide +kernel
set_option maxHeartbeats 4000000 in
set_option maxRecDepth 100000 in
theorem mk_X4 (l : Launch) (D : va_G) (cA : Nat → ClassId) : Mk l D cA yX4_init wsX4_init { frames := 1, cells := 1, slots := 60, locals := 12 } 4 [.null, .int 0, .int 0] (segTx cA) (fun _ => True) := by
  refine Mk.of (cc := cX4_init) (nL := 1) (by decide) rfl rfl (by decide) ?_
  intro v A q0 _ hA hin hF _
  refine CO.aload_n (n := 1) hA dX4_init_0 0 rfl rfl ?_
  refine CO.objInit (n := 4) hA (by decide +kernel) (by decide +kernel) (List.mem_cons_of_mem _ (List.mem_append_left _ (List.mem_of_getElem? (i := 2) rfl))) dX4_init_1 (by decide) (by decide) rfl ?_
  refine CO.aload_n (n := 5) hA dX4_init_4 0 rfl rfl ?_
  refine CO.bipush (x := 60) (n := 7) hA dX4_init_5 (by decide) rfl ?_
  refine CO.newarr (t := 0) (N := 60) (n := 9) hA hF rfl rfl rfl (by decide) (by decide) (by decide) (by decide) (by decide) (by decide +kernel) dX4_init_7 rfl (fun q1 => ?_)
  refine CO.putF (C := RX4) (T := TX4) (N := 3) (r := 0) (j := 0) (n := 12) (ws' := [(q0, .inr (4, [.ref q1, .int 0, .int 0])), (q1, .inl (cA 0, 60, .inl (fun _ => 0)))]) hA hin rfl rfl fiX4_init tyX4 tyX4_ok nmX4 (by decide) (by decide +kernel) rfl rfl rfl rfl rfl (Nat.le_of_ble_eq_true rfl) dX4_init_9 rfl rfl ?_
  exact CO.done hA (fun k => [q0, q1].getD k 0) rfl (fun H h => h) (fun h => h) dX4_init_12
def segRd (cA : Nat → ClassId) (a : Nat → Nat) : va_W := [(a 0, .inr (1, [.ref (a 1), .ref (a 2), .ref (a 3), .ref (a 4), .int 0])), (a 1, .inl (cA 0, 8, .inl (fun _ => 0))), (a 2, .inl (cA 0, 8, .inl (fun _ => 0))), (a 3, .inl (cA 0, 8, .inl (fun _ => 0))), (a 4, .inl (cA 1, 8, .inl (fun _ => 0)))]
theorem fiX1_init : ∀ q ∈ u_ws RX1 TX1 5, q ∈ wsX1_init := by decide +kernel
set_option maxHeartbeats 4000000 in
set_option maxRecDepth 100000 in
theorem mk_X1 (l : Launch) (D : va_G) (cA : Nat → ClassId) : Mk l D cA yX1_init wsX1_init { frames := 1, cells := 4, slots := 32, locals := 12 } 1 [.null, .null, .null, .null, .int 0] (segRd cA) (fun _ => True) := by
  refine Mk.of (cc := cX1_init) (nL := 1) (by decide) rfl rfl (by decide) ?_
  intro v A q0 _ hA hin hF _
  refine CO.aload_n (n := 1) hA dX1_init_0 0 rfl rfl ?_
  refine CO.objInit (n := 4) hA (by decide +kernel) (by decide +kernel) (List.mem_cons_of_mem _ (List.mem_append_left _ (List.mem_of_getElem? (i := 2) rfl))) dX1_init_1 (by decide) (by decide) rfl ?_
  refine CO.aload_n (n := 5) hA dX1_init_4 0 rfl rfl ?_
  refine CO.bipush (x := 8) (n := 7) hA dX1_init_5 (by decide) rfl ?_
  refine CO.newarr (t := 0) (N := 8) (n := 9) hA hF rfl rfl rfl (by decide) (by decide) (by decide) (by decide) (by decide) (by decide +kernel) dX1_init_7 rfl (fun q1 => ?_)
  refine CO.putF (C := RX1) (T := TX1) (N := 5) (r := 0) (j := 0) (n := 12) (ws' := [(q0, .inr (1, [.ref q1, .null, .null, .null, .int 0])), (q1, .inl (cA 0, 8, .inl (fun _ => 0)))]) hA hin rfl rfl fiX1_init tyX1 tyX1_ok nmX1 (by decide) (by decide +kernel) rfl rfl rfl rfl rfl (Nat.le_of_ble_eq_true rfl) dX1_init_9 rfl rfl ?_
  refine CO.aload_n (n := 13) hA dX1_init_12 0 rfl rfl ?_
  refine CO.bipush (x := 8) (n := 15) hA dX1_init_13 (by decide) rfl ?_
  refine CO.newarr (t := 0) (N := 8) (n := 17) hA hF rfl rfl rfl (by decide) (by decide) (by decide) (by decide) (by decide) (by decide +kernel) dX1_init_15 rfl (fun q2 => ?_)
  refine CO.putF (C := RX1) (T := TX1) (N := 5) (r := 0) (j := 1) (n := 20) (ws' := [(q0, .inr (1, [.ref q1, .ref q2, .null, .null, .int 0])), (q1, .inl (cA 0, 8, .inl (fun _ => 0))), (q2, .inl (cA 0, 8, .inl (fun _ => 0)))]) hA hin rfl rfl fiX1_init tyX1 tyX1_ok nmX1 (by decide) (by decide +kernel) rfl rfl rfl rfl rfl (Nat.le_of_ble_eq_true rfl) dX1_init_17 rfl rfl ?_
  refine CO.aload_n (n := 21) hA dX1_init_20 0 rfl rfl ?_
  refine CO.bipush (x := 8) (n := 23) hA dX1_init_21 (by decide) rfl ?_
  refine CO.newarr (t := 0) (N := 8) (n := 25) hA hF rfl rfl rfl (by decide) (by decide) (by decide) (by decide) (by decide) (by decide +kernel) dX1_init_23 rfl (fun q3 => ?_)
  refine CO.putF (C := RX1) (T := TX1) (N := 5) (r := 0) (j := 2) (n := 28) (ws' := [(q0, .inr (1, [.ref q1, .ref q2, .ref q3, .null, .int 0])), (q1, .inl (cA 0, 8, .inl (fun _ => 0))), (q2, .inl (cA 0, 8, .inl (fun _ => 0))), (q3, .inl (cA 0, 8, .inl (fun _ => 0)))]) hA hin rfl rfl fiX1_init tyX1 tyX1_ok nmX1 (by decide) (by decide +kernel) rfl rfl rfl rfl rfl (Nat.le_of_ble_eq_true rfl) dX1_init_25 rfl rfl ?_
  refine CO.aload_n (n := 29) hA dX1_init_28 0 rfl rfl ?_
  refine CO.bipush (x := 8) (n := 31) hA dX1_init_29 (by decide) rfl ?_
  refine CO.newarr (t := 1) (N := 8) (n := 33) hA hF rfl rfl rfl (by decide) (by decide) (by decide) (by decide) (by decide) (by decide +kernel) dX1_init_31 rfl (fun q4 => ?_)
  refine CO.putF (C := RX1) (T := TX1) (N := 5) (r := 0) (j := 3) (n := 36) (ws' := [(q0, .inr (1, [.ref q1, .ref q2, .ref q3, .ref q4, .int 0])), (q1, .inl (cA 0, 8, .inl (fun _ => 0))), (q2, .inl (cA 0, 8, .inl (fun _ => 0))), (q3, .inl (cA 0, 8, .inl (fun _ => 0))), (q4, .inl (cA 1, 8, .inl (fun _ => 0)))]) hA hin rfl rfl fiX1_init tyX1 tyX1_ok nmX1 (by decide) (by decide +kernel) rfl rfl rfl rfl rfl (Nat.le_of_ble_eq_true rfl) dX1_init_33 rfl rfl ?_
  exact CO.done hA (fun k => [q0, q1, q2, q3, q4].getD k 0) rfl (fun H h => h) (fun h => h) dX1_init_36
def segSh (cA : Nat → ClassId) (a : Nat → Nat) : va_W := [(a 0, .inr (2, [.ref (a 1), .int 0, .int 0, .int 0])), (a 1, .inl (cA 0, 60, .inl (fun _ => 0)))]
theorem fiX2_init : ∀ q ∈ u_ws RX2 TX2 4, q ∈ wsX2_init := by decide +kernel
set_option maxHeartbeats 4000000 in
set_option maxRecDepth 100000 in
theorem mk_X2 (l : Launch) (D : va_G) (cA : Nat → ClassId) : Mk l D cA yX2_init wsX2_init { frames := 1, cells := 1, slots := 60, locals := 12 } 2 [.null, .int 0, .int 0, .int 0] (segSh cA) (fun _ => True) := by
  refine Mk.of (cc := cX2_init) (nL := 1) (by decide) rfl rfl (by decide) ?_
  intro v A q0 _ hA hin hF _
  refine CO.aload_n (n := 1) hA dX2_init_0 0 rfl rfl ?_
  refine CO.objInit (n := 4) hA (by decide +kernel) (by decide +kernel) (List.mem_cons_of_mem _ (List.mem_append_left _ (List.mem_of_getElem? (i := 2) rfl))) dX2_init_1 (by decide) (by decide) rfl ?_
  refine CO.aload_n (n := 5) hA dX2_init_4 0 rfl rfl ?_
  refine CO.bipush (x := 60) (n := 7) hA dX2_init_5 (by decide) rfl ?_
  refine CO.newarr (t := 0) (N := 60) (n := 9) hA hF rfl rfl rfl (by decide) (by decide) (by decide) (by decide) (by decide) (by decide +kernel) dX2_init_7 rfl (fun q1 => ?_)
  refine CO.putF (C := RX2) (T := TX2) (N := 4) (r := 0) (j := 0) (n := 12) (ws' := [(q0, .inr (2, [.ref q1, .int 0, .int 0, .int 0])), (q1, .inl (cA 0, 60, .inl (fun _ => 0)))]) hA hin rfl rfl fiX2_init tyX2 tyX2_ok nmX2 (by decide) (by decide +kernel) rfl rfl rfl rfl rfl (Nat.le_of_ble_eq_true rfl) dX2_init_9 rfl rfl ?_
  exact CO.done hA (fun k => [q0, q1].getD k 0) rfl (fun H h => h) (fun h => h) dX2_init_12
