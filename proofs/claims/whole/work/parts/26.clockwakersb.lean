/- X5_ofClock -/
abbrev rmX5_ofClock : Room := { frames := 4, cells := 0, slots := 0, locals := 92 }
theorem mdX5_ofClock : yX5_ofClock.cls = RX5 ∧ yX5_ofClock.cls ≠ "java/lang/invoke/MethodHandle" ∧ yX5_ofClock.cls ≠ "java/lang/invoke/VarHandle" ∧ (parseMethodDescriptor yX5_ofClock.desc).map (fun d => d.parameters.length) = some 2 := by decide +kernel
theorem fkX5_ofClock_12 : Cond.fieldLink RX5 12 (TX5 0).1 (TX5 0).2.1 (TX5 0).2.2.1 ∈ wsX5_ofClock := by decide +kernel
theorem fiX5_ofClock_X5 : ∀ q ∈ u_ws RX5 TX5 10, q ∈ wsX5_ofClock := by decide +kernel
theorem fkX5_ofClock_113 : Cond.fieldLink RX5 113 (TX3 2).1 (TX3 2).2.1 (TX3 2).2.2.1 ∈ wsX5_ofClock := by decide +kernel
theorem fiX5_ofClock_X3 : ∀ q ∈ u_ws RX3 TX3 10, q ∈ wsX5_ofClock := by decide +kernel
theorem fkX5_ofClock_119 : Cond.fieldLink RX5 119 (TX3 3).1 (TX3 3).2.1 (TX3 3).2.2.1 ∈ wsX5_ofClock := by decide +kernel
theorem fkX5_ofClock_122 : Cond.fieldLink RX5 122 (TX3 4).1 (TX3 4).2.1 (TX3 4).2.2.1 ∈ wsX5_ofClock := by decide +kernel
noncomputable def f_X5_ofClock (x1 : Int32) (x2 : Int32) (M : Mem) : Option (Int32 × Mem) := bd (f_X3_hasClock 1 x1 M) (fun r2 M1 => if r2 = 0 then (some ((-1 : Int32), M1)) else (if x2 = (0 : Int32) then (grd x1 4 (some ((M1 4 x1.toNatClampNeg), M1))) else if x2 = (1 : Int32) then (bd (f_X3_sound 1 x1 M1) (fun r6 M5 => some (r6, M5))) else if x2 = (2 : Int32) then (grd x1 4 (some ((M1 5 x1.toNatClampNeg), M1))) else if x2 = (3 : Int32) then (grd x1 4 (if (M1 6 x1.toNatClampNeg) = 0 then (some ((0 : Int32), M1)) else (some ((1 : Int32), M1)))) else if x2 = (4 : Int32) then (grd x1 4 (bd (f_X3_wakers 1 x1 (M1 5 x1.toNatClampNeg) M1) (fun r11 M10 => some (r11, M10)))) else if x2 = (5 : Int32) then (grd x1 4 (bd (f_X3_owner 1 x1 (M1 5 x1.toNatClampNeg) M1) (fun r14 M13 => some (r14, M13)))) else (some ((-2 : Int32), M1))))
set_option maxHeartbeats 4000000 in
set_option maxRecDepth 100000 in
theorem c_X5_ofClock (l : Launch) (w : Cw) (hw : w.2.2.2.2.2 = shX) (x1 : Int32) (x2 : Int32) (M : Mem) : Ok l w eI yX5_ofClock wsX5_ofClock rmX5_ofClock [.ref (w.2.1 0), .int x1, .int x2] M (f_X5_ofClock x1 x2 M) := by
  refine Ok.of (cc := cX5_ofClock) (nL := 3) (ret := (some .int)) (lv := [(0, .ref (w.2.1 0)), (1, .int x1), (2, .int x2)]) (by decide) rfl (Nat.le_of_ble_eq_true rfl) rfl (fun v hv hA => ?_)
  subst hv
  have hA : Act v w RX5 wsX5_ofClock cX5_ofClock 3 (some .int) := hA
  unfold f_X5_ofClock
  refine WO.aload_n (n := 1) hA dX5_ofClock_0 0 rfl rfl ?_
  refine WO.getR (j := 0) (p := 1) (n := 4) hA (x_0 hw) rfl fiX5_ofClock_X5 (by decide) rfl fkX5_ofClock_12 dX5_ofClock_1 rfl ?_
  refine WO.iload_n (n := 5) hA dX5_ofClock_4 1 rfl rfl ?_
  refine WO.callVi (As := [.int x1]) (rest := []) (n := 8) hA (c_X3_hasClock v.2.1 w hw 1 x1 st1 M) gX5_ofClock_X3_hasClock rfl (st_0 hw st1) rfl mdX3_hasClock ⟨rfl, rfl, Nat.le_of_ble_eq_true rfl, Nat.le_of_ble_eq_true rfl⟩ rfl rfl (Nat.le_of_ble_eq_true rfl) dX5_ofClock_5 rfl (fun r2 M1 => ?_)
  refine WO.if_ne (tg := 13) (n := 11) hA dX5_ofClock_8 (by decide) rfl (fun _ => ?_) (fun _ => ?_)
  · refine WO.iconst (x := (-1 : Int32)) (n := 12) hA dX5_ofClock_11 (by decide) rfl ?_
    exact WO.iret hA dX5_ofClock_12
  · refine WO.iload_n (n := 14) hA dX5_ofClock_13 2 rfl rfl ?_
    refine WO.ite (fun hs3 => ?_) (fun hs3 => ?_)
    · refine WO.tin (n := 52) hA (0 : Int32) hs3 dX5_ofClock_14 (by decide) (by decide) rfl (by decide) ?_
      refine WO.aload_n (n := 53) hA dX5_ofClock_52 0 rfl rfl ?_
      refine WO.getR (j := 0) (p := 1) (n := 56) hA (x_0 hw) rfl fiX5_ofClock_X5 (by decide) rfl fkX5_ofClock_12 dX5_ofClock_53 rfl ?_
      refine WO.getR (j := 2) (p := 4) (n := 59) hA (st_0 hw st1) rfl fiX5_ofClock_X3 (by decide) rfl fkX5_ofClock_113 dX5_ofClock_56 rfl ?_
      refine WO.iload_n (n := 60) hA dX5_ofClock_59 1 rfl rfl ?_
      refine WO.iald (n := 61) hA (st_3 hw st1) dX5_ofClock_60 rfl (fun _ => ?_)
      exact WO.iret hA dX5_ofClock_61
    · refine WO.ite (fun hs4 => ?_) (fun hs4 => ?_)
      · refine WO.tin (n := 62) hA (1 : Int32) hs4 dX5_ofClock_14 (by decide) (by decide) rfl (by decide) ?_
        refine WO.aload_n (n := 63) hA dX5_ofClock_62 0 rfl rfl ?_
        refine WO.getR (j := 0) (p := 1) (n := 66) hA (x_0 hw) rfl fiX5_ofClock_X5 (by decide) rfl fkX5_ofClock_12 dX5_ofClock_63 rfl ?_
        refine WO.iload_n (n := 67) hA dX5_ofClock_66 1 rfl rfl ?_
        refine WO.callVi (As := [.int x1]) (rest := []) (n := 70) hA (c_X3_sound v.2.1 w hw 1 x1 st1 M1) gX5_ofClock_X3_sound rfl (st_0 hw st1) rfl mdX3_sound ⟨rfl, rfl, Nat.le_of_ble_eq_true rfl, Nat.le_of_ble_eq_true rfl⟩ rfl rfl (Nat.le_of_ble_eq_true rfl) dX5_ofClock_67 rfl (fun r6 M5 => ?_)
        exact WO.iret hA dX5_ofClock_70
      · refine WO.ite (fun hs7 => ?_) (fun hs7 => ?_)
        · refine WO.tin (n := 71) hA (2 : Int32) hs7 dX5_ofClock_14 (by decide) (by decide) rfl (by decide) ?_
          refine WO.aload_n (n := 72) hA dX5_ofClock_71 0 rfl rfl ?_
          refine WO.getR (j := 0) (p := 1) (n := 75) hA (x_0 hw) rfl fiX5_ofClock_X5 (by decide) rfl fkX5_ofClock_12 dX5_ofClock_72 rfl ?_
          refine WO.getR (j := 3) (p := 5) (n := 78) hA (st_0 hw st1) rfl fiX5_ofClock_X3 (by decide) rfl fkX5_ofClock_119 dX5_ofClock_75 rfl ?_
          refine WO.iload_n (n := 79) hA dX5_ofClock_78 1 rfl rfl ?_
          refine WO.iald (n := 80) hA (st_4 hw st1) dX5_ofClock_79 rfl (fun _ => ?_)
          exact WO.iret hA dX5_ofClock_80
        · refine WO.ite (fun hs8 => ?_) (fun hs8 => ?_)
          · refine WO.tin (n := 81) hA (3 : Int32) hs8 dX5_ofClock_14 (by decide) (by decide) rfl (by decide) ?_
            refine WO.aload_n (n := 82) hA dX5_ofClock_81 0 rfl rfl ?_
            refine WO.getR (j := 0) (p := 1) (n := 85) hA (x_0 hw) rfl fiX5_ofClock_X5 (by decide) rfl fkX5_ofClock_12 dX5_ofClock_82 rfl ?_
            refine WO.getR (j := 4) (p := 6) (n := 88) hA (st_0 hw st1) rfl fiX5_ofClock_X3 (by decide) rfl fkX5_ofClock_122 dX5_ofClock_85 rfl ?_
            refine WO.iload_n (n := 89) hA dX5_ofClock_88 1 rfl rfl ?_
            refine WO.zald (n := 90) hA (st_5 hw st1) dX5_ofClock_89 rfl (fun _ => ?_)
            refine WO.if_eq (tg := 97) (n := 93) hA dX5_ofClock_90 (by decide) rfl (fun _ => ?_) (fun _ => ?_)
            · refine WO.iconst (x := (0 : Int32)) (n := 98) hA dX5_ofClock_97 (by decide) rfl ?_
              exact WO.iret hA dX5_ofClock_98
            · refine WO.iconst (x := (1 : Int32)) (n := 94) hA dX5_ofClock_93 (by decide) rfl ?_
              refine WO.goto (n := 98) hA dX5_ofClock_94 (by decide) ?_
              exact WO.iret hA dX5_ofClock_98
          · refine WO.ite (fun hs9 => ?_) (fun hs9 => ?_)
            · refine WO.tin (n := 99) hA (4 : Int32) hs9 dX5_ofClock_14 (by decide) (by decide) rfl (by decide) ?_
              refine WO.aload_n (n := 100) hA dX5_ofClock_99 0 rfl rfl ?_
              refine WO.getR (j := 0) (p := 1) (n := 103) hA (x_0 hw) rfl fiX5_ofClock_X5 (by decide) rfl fkX5_ofClock_12 dX5_ofClock_100 rfl ?_
              refine WO.iload_n (n := 104) hA dX5_ofClock_103 1 rfl rfl ?_
              refine WO.aload_n (n := 105) hA dX5_ofClock_104 0 rfl rfl ?_
              refine WO.getR (j := 0) (p := 1) (n := 108) hA (x_0 hw) rfl fiX5_ofClock_X5 (by decide) rfl fkX5_ofClock_12 dX5_ofClock_105 rfl ?_
              refine WO.getR (j := 3) (p := 5) (n := 111) hA (st_0 hw st1) rfl fiX5_ofClock_X3 (by decide) rfl fkX5_ofClock_119 dX5_ofClock_108 rfl ?_
              refine WO.iload_n (n := 112) hA dX5_ofClock_111 1 rfl rfl ?_
              refine WO.iald (n := 113) hA (st_4 hw st1) dX5_ofClock_112 rfl (fun _ => ?_)
              refine WO.callVi (As := [.int x1, .int (M1 5 x1.toNatClampNeg)]) (rest := []) (n := 116) hA (c_X3_wakers v.2.1 w hw 1 x1 (M1 5 x1.toNatClampNeg) st1 M1) gX5_ofClock_X3_wakers rfl (st_0 hw st1) rfl mdX3_wakers ⟨rfl, rfl, Nat.le_of_ble_eq_true rfl, Nat.le_of_ble_eq_true rfl⟩ rfl rfl (Nat.le_of_ble_eq_true rfl) dX5_ofClock_113 rfl (fun r11 M10 => ?_)
              exact WO.iret hA dX5_ofClock_116
            · refine WO.ite (fun hs12 => ?_) (fun hs12 => ?_)
              · refine WO.tin (n := 117) hA (5 : Int32) hs12 dX5_ofClock_14 (by decide) (by decide) rfl (by decide) ?_
                refine WO.aload_n (n := 118) hA dX5_ofClock_117 0 rfl rfl ?_
                refine WO.getR (j := 0) (p := 1) (n := 121) hA (x_0 hw) rfl fiX5_ofClock_X5 (by decide) rfl fkX5_ofClock_12 dX5_ofClock_118 rfl ?_
                refine WO.iload_n (n := 122) hA dX5_ofClock_121 1 rfl rfl ?_
                refine WO.aload_n (n := 123) hA dX5_ofClock_122 0 rfl rfl ?_
                refine WO.getR (j := 0) (p := 1) (n := 126) hA (x_0 hw) rfl fiX5_ofClock_X5 (by decide) rfl fkX5_ofClock_12 dX5_ofClock_123 rfl ?_
                refine WO.getR (j := 3) (p := 5) (n := 129) hA (st_0 hw st1) rfl fiX5_ofClock_X3 (by decide) rfl fkX5_ofClock_119 dX5_ofClock_126 rfl ?_
                refine WO.iload_n (n := 130) hA dX5_ofClock_129 1 rfl rfl ?_
                refine WO.iald (n := 131) hA (st_4 hw st1) dX5_ofClock_130 rfl (fun _ => ?_)
                refine WO.callVi (As := [.int x1, .int (M1 5 x1.toNatClampNeg)]) (rest := []) (n := 134) hA (c_X3_owner v.2.1 w hw 1 x1 (M1 5 x1.toNatClampNeg) st1 M1) gX5_ofClock_X3_owner rfl (st_0 hw st1) rfl mdX3_owner ⟨rfl, rfl, Nat.le_of_ble_eq_true rfl, Nat.le_of_ble_eq_true rfl⟩ rfl rfl (Nat.le_of_ble_eq_true rfl) dX5_ofClock_131 rfl (fun r14 M13 => ?_)
                exact WO.iret hA dX5_ofClock_134
              · refine WO.tout (n := 135) hA dX5_ofClock_14 (by have ehs3 := lv_neT (a := 0) hs3 (by decide); have ehs4 := lv_neT (a := 1) hs4 (by decide); have ehs7 := lv_neT (a := 2) hs7 (by decide); have ehs8 := lv_neT (a := 3) hs8 (by decide); have ehs9 := lv_neT (a := 4) hs9 (by decide); have ehs12 := lv_neT (a := 5) hs12 (by decide); omega) (by decide) ?_
                refine WO.bipush (x := (-2 : Int32)) (n := 137) hA dX5_ofClock_135 (by decide) rfl ?_
                exact WO.iret hA dX5_ofClock_137
/- X5_drowse -/
abbrev rmX5_drowse : Room := { frames := 1, cells := 0, slots := 0, locals := 21 }
theorem mdX5_drowse : yX5_drowse.cls = RX5 ∧ yX5_drowse.cls ≠ "java/lang/invoke/MethodHandle" ∧ yX5_drowse.cls ≠ "java/lang/invoke/VarHandle" ∧ (parseMethodDescriptor yX5_drowse.desc).map (fun d => d.parameters.length) = some 2 := by decide +kernel
theorem fkX5_drowse_12 : Cond.fieldLink RX5 12 (TX5 0).1 (TX5 0).2.1 (TX5 0).2.2.1 ∈ wsX5_drowse := by decide +kernel
theorem fiX5_drowse_X5 : ∀ q ∈ u_ws RX5 TX5 10, q ∈ wsX5_drowse := by decide +kernel
theorem fkX5_drowse_98 : Cond.fieldLink RX5 98 (TX3 1).1 (TX3 1).2.1 (TX3 1).2.2.1 ∈ wsX5_drowse := by decide +kernel
theorem fiX5_drowse_X3 : ∀ q ∈ u_ws RX3 TX3 10, q ∈ wsX5_drowse := by decide +kernel
noncomputable def f_X5_drowse (x1 : Int32) (x2 : Int32) (M : Mem) : Option (Int32 × Mem) := bd (f_X3_hasHouse 1 x1 M) (fun r2 M1 => if r2 = 0 then (some ((-1 : Int32), M1)) else (if x2 < (1 : Int32) then (some ((-2 : Int32), M1)) else (if x2 ≤ (9 : Int32) then (grd x1 6 (ilt (M1 3 x1.toNatClampNeg) (fun x_3 => grd x1 6 (mlt (mu M1 3 x1.toNatClampNeg x2) (fun M4 => some (x_3, M4)))))) else (some ((-2 : Int32), M1)))))
set_option maxHeartbeats 4000000 in
set_option maxRecDepth 100000 in
theorem c_X5_drowse (l : Launch) (w : Cw) (hw : w.2.2.2.2.2 = shX) (x1 : Int32) (x2 : Int32) (M : Mem) : Ok l w eI yX5_drowse wsX5_drowse rmX5_drowse [.ref (w.2.1 0), .int x1, .int x2] M (f_X5_drowse x1 x2 M) := by
  refine Ok.of (cc := cX5_drowse) (nL := 4) (ret := (some .int)) (lv := [(0, .ref (w.2.1 0)), (1, .int x1), (2, .int x2)]) (by decide) rfl (Nat.le_of_ble_eq_true rfl) rfl (fun v hv hA => ?_)
  subst hv
  have hA : Act v w RX5 wsX5_drowse cX5_drowse 4 (some .int) := hA
  unfold f_X5_drowse
  refine WO.aload_n (n := 1) hA dX5_drowse_0 0 rfl rfl ?_
  refine WO.getR (j := 0) (p := 1) (n := 4) hA (x_0 hw) rfl fiX5_drowse_X5 (by decide) rfl fkX5_drowse_12 dX5_drowse_1 rfl ?_
  refine WO.iload_n (n := 5) hA dX5_drowse_4 1 rfl rfl ?_
  refine WO.callVi (As := [.int x1]) (rest := []) (n := 8) hA (c_X3_hasHouse v.2.1 w hw 1 x1 st1 M) gX5_drowse_X3_hasHouse rfl (st_0 hw st1) rfl mdX3_hasHouse ⟨rfl, rfl, Nat.le_of_ble_eq_true rfl, Nat.le_of_ble_eq_true rfl⟩ rfl rfl (Nat.le_of_ble_eq_true rfl) dX5_drowse_5 rfl (fun r2 M1 => ?_)
  refine WO.if_ne (tg := 13) (n := 11) hA dX5_drowse_8 (by decide) rfl (fun _ => ?_) (fun _ => ?_)
  · refine WO.iconst (x := (-1 : Int32)) (n := 12) hA dX5_drowse_11 (by decide) rfl ?_
    exact WO.iret hA dX5_drowse_12
  · refine WO.iload_n (n := 14) hA dX5_drowse_13 2 rfl rfl ?_
    refine WO.iconst (x := (1 : Int32)) (n := 15) hA dX5_drowse_14 (by decide) rfl ?_
    refine WO.icmp_lt (tg := 24) (n := 18) hA dX5_drowse_15 (by decide) rfl (fun _ => ?_) (fun _ => ?_)
    · refine WO.bipush (x := (-2 : Int32)) (n := 26) hA dX5_drowse_24 (by decide) rfl ?_
      exact WO.iret hA dX5_drowse_26
    · refine WO.iload_n (n := 19) hA dX5_drowse_18 2 rfl rfl ?_
      refine WO.bipush (x := (9 : Int32)) (n := 21) hA dX5_drowse_19 (by decide) rfl ?_
      refine WO.icmp_le (tg := 27) (n := 24) hA dX5_drowse_21 (by decide) rfl (fun _ => ?_) (fun _ => ?_)
      · refine WO.aload_n (n := 28) hA dX5_drowse_27 0 rfl rfl ?_
        refine WO.getR (j := 0) (p := 1) (n := 31) hA (x_0 hw) rfl fiX5_drowse_X5 (by decide) rfl fkX5_drowse_12 dX5_drowse_28 rfl ?_
        refine WO.getR (j := 1) (p := 3) (n := 34) hA (st_0 hw st1) rfl fiX5_drowse_X3 (by decide) rfl fkX5_drowse_98 dX5_drowse_31 rfl ?_
        refine WO.iload_n (n := 35) hA dX5_drowse_34 1 rfl rfl ?_
        refine WO.iald (n := 36) hA (st_2 hw st1) dX5_drowse_35 rfl (fun _ => ?_)
        refine WO.top (fun x_3 => ?_)
        refine WO.istore_n (i := 3) (lv' := [(3, .int x_3), (0, .ref (w.2.1 0)), (1, .int x1), (2, .int x2)]) (n := 37) hA dX5_drowse_36 rfl (by decide) rfl rfl ?_
        refine WO.aload_n (n := 38) hA dX5_drowse_37 1 rfl rfl ?_
        refine WO.getR (j := 0) (p := 1) (n := 41) hA (x_0 hw) rfl fiX5_drowse_X5 (by decide) rfl fkX5_drowse_12 dX5_drowse_38 rfl ?_
        refine WO.getR (j := 1) (p := 3) (n := 44) hA (st_0 hw st1) rfl fiX5_drowse_X3 (by decide) rfl fkX5_drowse_98 dX5_drowse_41 rfl ?_
        refine WO.iload_n (n := 45) hA dX5_drowse_44 2 rfl rfl ?_
        refine WO.iload_n (n := 46) hA dX5_drowse_45 3 rfl rfl ?_
        refine WO.iast (n := 47) hA (st_2 hw st1) dX5_drowse_46 rfl (fun _ => ?_)
        refine WO.mem (fun M4 => ?_)
        refine WO.iload_n (n := 48) hA dX5_drowse_47 0 rfl rfl ?_
        exact WO.iret hA dX5_drowse_48
      · refine WO.bipush (x := (-2 : Int32)) (n := 26) hA dX5_drowse_24 (by decide) rfl ?_
        exact WO.iret hA dX5_drowse_26
/- X5_tune -/
abbrev rmX5_tune : Room := { frames := 1, cells := 0, slots := 0, locals := 21 }
theorem mdX5_tune : yX5_tune.cls = RX5 ∧ yX5_tune.cls ≠ "java/lang/invoke/MethodHandle" ∧ yX5_tune.cls ≠ "java/lang/invoke/VarHandle" ∧ (parseMethodDescriptor yX5_tune.desc).map (fun d => d.parameters.length) = some 2 := by decide +kernel
theorem fkX5_tune_12 : Cond.fieldLink RX5 12 (TX5 0).1 (TX5 0).2.1 (TX5 0).2.2.1 ∈ wsX5_tune := by decide +kernel
theorem fiX5_tune_X5 : ∀ q ∈ u_ws RX5 TX5 10, q ∈ wsX5_tune := by decide +kernel
theorem fkX5_tune_113 : Cond.fieldLink RX5 113 (TX3 2).1 (TX3 2).2.1 (TX3 2).2.2.1 ∈ wsX5_tune := by decide +kernel
theorem fiX5_tune_X3 : ∀ q ∈ u_ws RX3 TX3 10, q ∈ wsX5_tune := by decide +kernel
noncomputable def f_X5_tune (x1 : Int32) (x2 : Int32) (M : Mem) : Option (Int32 × Mem) := bd (f_X3_hasClock 1 x1 M) (fun r2 M1 => if r2 = 0 then (some ((-1 : Int32), M1)) else (if x2 < (1 : Int32) then (some ((-2 : Int32), M1)) else (if x2 ≤ (9 : Int32) then (grd x1 4 (ilt (M1 4 x1.toNatClampNeg) (fun x_3 => grd x1 4 (mlt (mu M1 4 x1.toNatClampNeg x2) (fun M4 => some (x_3, M4)))))) else (some ((-2 : Int32), M1)))))
set_option maxHeartbeats 4000000 in
set_option maxRecDepth 100000 in
theorem c_X5_tune (l : Launch) (w : Cw) (hw : w.2.2.2.2.2 = shX) (x1 : Int32) (x2 : Int32) (M : Mem) : Ok l w eI yX5_tune wsX5_tune rmX5_tune [.ref (w.2.1 0), .int x1, .int x2] M (f_X5_tune x1 x2 M) := by
  refine Ok.of (cc := cX5_tune) (nL := 4) (ret := (some .int)) (lv := [(0, .ref (w.2.1 0)), (1, .int x1), (2, .int x2)]) (by decide) rfl (Nat.le_of_ble_eq_true rfl) rfl (fun v hv hA => ?_)
  subst hv
  have hA : Act v w RX5 wsX5_tune cX5_tune 4 (some .int) := hA
  unfold f_X5_tune
  refine WO.aload_n (n := 1) hA dX5_tune_0 0 rfl rfl ?_
  refine WO.getR (j := 0) (p := 1) (n := 4) hA (x_0 hw) rfl fiX5_tune_X5 (by decide) rfl fkX5_tune_12 dX5_tune_1 rfl ?_
  refine WO.iload_n (n := 5) hA dX5_tune_4 1 rfl rfl ?_
  refine WO.callVi (As := [.int x1]) (rest := []) (n := 8) hA (c_X3_hasClock v.2.1 w hw 1 x1 st1 M) gX5_tune_X3_hasClock rfl (st_0 hw st1) rfl mdX3_hasClock ⟨rfl, rfl, Nat.le_of_ble_eq_true rfl, Nat.le_of_ble_eq_true rfl⟩ rfl rfl (Nat.le_of_ble_eq_true rfl) dX5_tune_5 rfl (fun r2 M1 => ?_)
  refine WO.if_ne (tg := 13) (n := 11) hA dX5_tune_8 (by decide) rfl (fun _ => ?_) (fun _ => ?_)
  · refine WO.iconst (x := (-1 : Int32)) (n := 12) hA dX5_tune_11 (by decide) rfl ?_
    exact WO.iret hA dX5_tune_12
  · refine WO.iload_n (n := 14) hA dX5_tune_13 2 rfl rfl ?_
    refine WO.iconst (x := (1 : Int32)) (n := 15) hA dX5_tune_14 (by decide) rfl ?_
    refine WO.icmp_lt (tg := 24) (n := 18) hA dX5_tune_15 (by decide) rfl (fun _ => ?_) (fun _ => ?_)
    · refine WO.bipush (x := (-2 : Int32)) (n := 26) hA dX5_tune_24 (by decide) rfl ?_
      exact WO.iret hA dX5_tune_26
    · refine WO.iload_n (n := 19) hA dX5_tune_18 2 rfl rfl ?_
      refine WO.bipush (x := (9 : Int32)) (n := 21) hA dX5_tune_19 (by decide) rfl ?_
      refine WO.icmp_le (tg := 27) (n := 24) hA dX5_tune_21 (by decide) rfl (fun _ => ?_) (fun _ => ?_)
      · refine WO.aload_n (n := 28) hA dX5_tune_27 0 rfl rfl ?_
        refine WO.getR (j := 0) (p := 1) (n := 31) hA (x_0 hw) rfl fiX5_tune_X5 (by decide) rfl fkX5_tune_12 dX5_tune_28 rfl ?_
        refine WO.getR (j := 2) (p := 4) (n := 34) hA (st_0 hw st1) rfl fiX5_tune_X3 (by decide) rfl fkX5_tune_113 dX5_tune_31 rfl ?_
        refine WO.iload_n (n := 35) hA dX5_tune_34 1 rfl rfl ?_
        refine WO.iald (n := 36) hA (st_3 hw st1) dX5_tune_35 rfl (fun _ => ?_)
        refine WO.top (fun x_3 => ?_)
        refine WO.istore_n (i := 3) (lv' := [(3, .int x_3), (0, .ref (w.2.1 0)), (1, .int x1), (2, .int x2)]) (n := 37) hA dX5_tune_36 rfl (by decide) rfl rfl ?_
        refine WO.aload_n (n := 38) hA dX5_tune_37 1 rfl rfl ?_
        refine WO.getR (j := 0) (p := 1) (n := 41) hA (x_0 hw) rfl fiX5_tune_X5 (by decide) rfl fkX5_tune_12 dX5_tune_38 rfl ?_
        refine WO.getR (j := 2) (p := 4) (n := 44) hA (st_0 hw st1) rfl fiX5_tune_X3 (by decide) rfl fkX5_tune_113 dX5_tune_41 rfl ?_
        refine WO.iload_n (n := 45) hA dX5_tune_44 2 rfl rfl ?_
        refine WO.iload_n (n := 46) hA dX5_tune_45 3 rfl rfl ?_
        refine WO.iast (n := 47) hA (st_3 hw st1) dX5_tune_46 rfl (fun _ => ?_)
        refine WO.mem (fun M4 => ?_)
        refine WO.iload_n (n := 48) hA dX5_tune_47 0 rfl rfl ?_
        exact WO.iret hA dX5_tune_48
      · refine WO.bipush (x := (-2 : Int32)) (n := 26) hA dX5_tune_24 (by decide) rfl ?_
        exact WO.iret hA dX5_tune_26
/- X5_wall -/
abbrev rmX5_wall : Room := { frames := 1, cells := 0, slots := 0, locals := 20 }
theorem mdX5_wall : yX5_wall.cls = RX5 ∧ yX5_wall.cls ≠ "java/lang/invoke/MethodHandle" ∧ yX5_wall.cls ≠ "java/lang/invoke/VarHandle" ∧ (parseMethodDescriptor yX5_wall.desc).map (fun d => d.parameters.length) = some 1 := by decide +kernel
theorem fkX5_wall_12 : Cond.fieldLink RX5 12 (TX5 0).1 (TX5 0).2.1 (TX5 0).2.2.1 ∈ wsX5_wall := by decide +kernel
theorem fiX5_wall_X5 : ∀ q ∈ u_ws RX5 TX5 10, q ∈ wsX5_wall := by decide +kernel
theorem fkX5_wall_137 : Cond.fieldLink RX5 137 (TX3 7).1 (TX3 7).2.1 (TX3 7).2.2.1 ∈ wsX5_wall := by decide +kernel
theorem fiX5_wall_X3 : ∀ q ∈ u_ws RX3 TX3 10, q ∈ wsX5_wall := by decide +kernel
noncomputable def f_X5_wall (x1 : Int32) (M : Mem) : Option (Int32 × Mem) := if x1 < 0 then (some ((-2 : Int32), M)) else (if x1 ≤ (3 : Int32) then (bd (f_X3_stands 1 M) (fun r2 M1 => if r2 = 0 then (some ((-3 : Int32), M1)) else (ilt (M1 1 7) (fun x_3 => mlt (mu M1 1 7 x1) (fun M4 => some (x_3, M4)))))) else (some ((-2 : Int32), M)))
set_option maxHeartbeats 4000000 in
set_option maxRecDepth 100000 in
theorem c_X5_wall (l : Launch) (w : Cw) (hw : w.2.2.2.2.2 = shX) (x1 : Int32) (M : Mem) : Ok l w eI yX5_wall wsX5_wall rmX5_wall [.ref (w.2.1 0), .int x1] M (f_X5_wall x1 M) := by
  refine Ok.of (cc := cX5_wall) (nL := 3) (ret := (some .int)) (lv := [(0, .ref (w.2.1 0)), (1, .int x1)]) (by decide) rfl (Nat.le_of_ble_eq_true rfl) rfl (fun v hv hA => ?_)
  subst hv
  have hA : Act v w RX5 wsX5_wall cX5_wall 3 (some .int) := hA
  unfold f_X5_wall
  refine WO.iload_n (n := 1) hA dX5_wall_0 1 rfl rfl ?_
  refine WO.if_lt (tg := 9) (n := 4) hA dX5_wall_1 (by decide) rfl (fun _ => ?_) (fun _ => ?_)
  · refine WO.bipush (x := (-2 : Int32)) (n := 11) hA dX5_wall_9 (by decide) rfl ?_
    exact WO.iret hA dX5_wall_11
  · refine WO.iload_n (n := 5) hA dX5_wall_4 1 rfl rfl ?_
    refine WO.iconst (x := (3 : Int32)) (n := 6) hA dX5_wall_5 (by decide) rfl ?_
    refine WO.icmp_le (tg := 12) (n := 9) hA dX5_wall_6 (by decide) rfl (fun _ => ?_) (fun _ => ?_)
    · refine WO.aload_n (n := 13) hA dX5_wall_12 0 rfl rfl ?_
      refine WO.getR (j := 0) (p := 1) (n := 16) hA (x_0 hw) rfl fiX5_wall_X5 (by decide) rfl fkX5_wall_12 dX5_wall_13 rfl ?_
      refine WO.callVi (As := []) (rest := []) (n := 19) hA (c_X3_stands v.2.1 w hw 1 st1 M) gX5_wall_X3_stands rfl (st_0 hw st1) rfl mdX3_stands ⟨rfl, rfl, Nat.le_of_ble_eq_true rfl, Nat.le_of_ble_eq_true rfl⟩ rfl rfl (Nat.le_of_ble_eq_true rfl) dX5_wall_16 rfl (fun r2 M1 => ?_)
      refine WO.if_ne (tg := 25) (n := 22) hA dX5_wall_19 (by decide) rfl (fun _ => ?_) (fun _ => ?_)
      · refine WO.bipush (x := (-3 : Int32)) (n := 24) hA dX5_wall_22 (by decide) rfl ?_
        exact WO.iret hA dX5_wall_24
      · refine WO.aload_n (n := 26) hA dX5_wall_25 0 rfl rfl ?_
        refine WO.getR (j := 0) (p := 1) (n := 29) hA (x_0 hw) rfl fiX5_wall_X5 (by decide) rfl fkX5_wall_12 dX5_wall_26 rfl ?_
        refine WO.getI (j := 7) (n := 32) hA (st_0 hw st1) rfl fiX5_wall_X3 (by decide) rfl fkX5_wall_137 dX5_wall_29 rfl ?_
        refine WO.top (fun x_3 => ?_)
        refine WO.istore_n (i := 2) (lv' := [(2, .int x_3), (0, .ref (w.2.1 0)), (1, .int x1)]) (n := 33) hA dX5_wall_32 rfl (by decide) rfl rfl ?_
        refine WO.aload_n (n := 34) hA dX5_wall_33 1 rfl rfl ?_
        refine WO.getR (j := 0) (p := 1) (n := 37) hA (x_0 hw) rfl fiX5_wall_X5 (by decide) rfl fkX5_wall_12 dX5_wall_34 rfl ?_
        refine WO.iload_n (n := 38) hA dX5_wall_37 2 rfl rfl ?_
        refine WO.putI (j := 7) (n := 41) hA (st_0 hw st1) rfl fiX5_wall_X3 tyX3 tyX3_ok nmX3 (by decide) rfl fkX5_wall_137 rfl rfl rfl rfl dX5_wall_38 rfl ?_
        refine WO.mem (fun M4 => ?_)
        refine WO.iload_n (n := 42) hA dX5_wall_41 0 rfl rfl ?_
        exact WO.iret hA dX5_wall_42
    · refine WO.bipush (x := (-2 : Int32)) (n := 11) hA dX5_wall_9 (by decide) rfl ?_
      exact WO.iret hA dX5_wall_11
/- X5_hears -/
abbrev rmX5_hears : Room := { frames := 2, cells := 0, slots := 0, locals := 44 }
theorem mdX5_hears : yX5_hears.cls = RX5 ∧ yX5_hears.cls ≠ "java/lang/invoke/MethodHandle" ∧ yX5_hears.cls ≠ "java/lang/invoke/VarHandle" ∧ (parseMethodDescriptor yX5_hears.desc).map (fun d => d.parameters.length) = some 2 := by decide +kernel
theorem fkX5_hears_12 : Cond.fieldLink RX5 12 (TX5 0).1 (TX5 0).2.1 (TX5 0).2.2.1 ∈ wsX5_hears := by decide +kernel
theorem fiX5_hears_X5 : ∀ q ∈ u_ws RX5 TX5 10, q ∈ wsX5_hears := by decide +kernel
theorem kkX5_hears_140 : Jvm.Cond.constantLong RX5 140 (-9223372036854775808 : Int64) ∈ wsX5_hears := by decide +kernel
theorem fkX5_hears_119 : Cond.fieldLink RX5 119 (TX3 3).1 (TX3 3).2.1 (TX3 3).2.2.1 ∈ wsX5_hears := by decide +kernel
theorem fiX5_hears_X3 : ∀ q ∈ u_ws RX3 TX3 10, q ∈ wsX5_hears := by decide +kernel
noncomputable def f_X5_hears (x1 : Int32) (x2 : Int32) (M : Mem) : Option (Int64 × Mem) := bd (f_X3_hasHouse 1 x1 M) (fun r2 M1 => if r2 = 0 then (some ((-9223372036854775808 : Int64), M1)) else (bd (f_X3_hasClock 1 x2 M1) (fun r4 M3 => if r4 = 0 then (some ((-9223372036854775808 : Int64), M3)) else (bd (f_X3_sound 1 x2 M3) (fun r6 M5 => grd x2 4 (bd (f_X3_heard 1 x1 r6 (M5 5 x2.toNatClampNeg) M5) (fun r8 M7 => some (((r8).toInt64), M7))))))))
set_option maxHeartbeats 4000000 in
set_option maxRecDepth 100000 in
theorem c_X5_hears (l : Launch) (w : Cw) (hw : w.2.2.2.2.2 = shX) (x1 : Int32) (x2 : Int32) (M : Mem) : Ok l w eL yX5_hears wsX5_hears rmX5_hears [.ref (w.2.1 0), .int x1, .int x2] M (f_X5_hears x1 x2 M) := by
  refine Ok.of (cc := cX5_hears) (nL := 3) (ret := (some .long)) (lv := [(0, .ref (w.2.1 0)), (1, .int x1), (2, .int x2)]) (by decide) rfl (Nat.le_of_ble_eq_true rfl) rfl (fun v hv hA => ?_)
  subst hv
  have hA : Act v w RX5 wsX5_hears cX5_hears 3 (some .long) := hA
  unfold f_X5_hears
  refine WO.aload_n (n := 1) hA dX5_hears_0 0 rfl rfl ?_
  refine WO.getR (j := 0) (p := 1) (n := 4) hA (x_0 hw) rfl fiX5_hears_X5 (by decide) rfl fkX5_hears_12 dX5_hears_1 rfl ?_
  refine WO.iload_n (n := 5) hA dX5_hears_4 1 rfl rfl ?_
  refine WO.callVi (As := [.int x1]) (rest := []) (n := 8) hA (c_X3_hasHouse v.2.1 w hw 1 x1 st1 M) gX5_hears_X3_hasHouse rfl (st_0 hw st1) rfl mdX3_hasHouse ⟨rfl, rfl, Nat.le_of_ble_eq_true rfl, Nat.le_of_ble_eq_true rfl⟩ rfl rfl (Nat.le_of_ble_eq_true rfl) dX5_hears_5 rfl (fun r2 M1 => ?_)
  refine WO.if_eq (tg := 22) (n := 11) hA dX5_hears_8 (by decide) rfl (fun _ => ?_) (fun _ => ?_)
  · refine WO.ldc2 (n := 25) hA kkX5_hears_140 dX5_hears_22 rfl ?_
    exact WO.lret hA dX5_hears_25
  · refine WO.aload_n (n := 12) hA dX5_hears_11 0 rfl rfl ?_
    refine WO.getR (j := 0) (p := 1) (n := 15) hA (x_0 hw) rfl fiX5_hears_X5 (by decide) rfl fkX5_hears_12 dX5_hears_12 rfl ?_
    refine WO.iload_n (n := 16) hA dX5_hears_15 2 rfl rfl ?_
    refine WO.callVi (As := [.int x2]) (rest := []) (n := 19) hA (c_X3_hasClock v.2.1 w hw 1 x2 st1 M1) gX5_hears_X3_hasClock rfl (st_0 hw st1) rfl mdX3_hasClock ⟨rfl, rfl, Nat.le_of_ble_eq_true rfl, Nat.le_of_ble_eq_true rfl⟩ rfl rfl (Nat.le_of_ble_eq_true rfl) dX5_hears_16 rfl (fun r4 M3 => ?_)
    refine WO.if_ne (tg := 26) (n := 22) hA dX5_hears_19 (by decide) rfl (fun _ => ?_) (fun _ => ?_)
    · refine WO.ldc2 (n := 25) hA kkX5_hears_140 dX5_hears_22 rfl ?_
      exact WO.lret hA dX5_hears_25
    · refine WO.aload_n (n := 27) hA dX5_hears_26 0 rfl rfl ?_
      refine WO.getR (j := 0) (p := 1) (n := 30) hA (x_0 hw) rfl fiX5_hears_X5 (by decide) rfl fkX5_hears_12 dX5_hears_27 rfl ?_
      refine WO.iload_n (n := 31) hA dX5_hears_30 1 rfl rfl ?_
      refine WO.aload_n (n := 32) hA dX5_hears_31 0 rfl rfl ?_
      refine WO.getR (j := 0) (p := 1) (n := 35) hA (x_0 hw) rfl fiX5_hears_X5 (by decide) rfl fkX5_hears_12 dX5_hears_32 rfl ?_
      refine WO.iload_n (n := 36) hA dX5_hears_35 2 rfl rfl ?_
      refine WO.callVi (As := [.int x2]) (rest := [.int x1, .ref (w.2.1 1)]) (n := 39) hA (c_X3_sound v.2.1 w hw 1 x2 st1 M3) gX5_hears_X3_sound rfl (st_0 hw st1) rfl mdX3_sound ⟨rfl, rfl, Nat.le_of_ble_eq_true rfl, Nat.le_of_ble_eq_true rfl⟩ rfl rfl (Nat.le_of_ble_eq_true rfl) dX5_hears_36 rfl (fun r6 M5 => ?_)
      refine WO.aload_n (n := 40) hA dX5_hears_39 0 rfl rfl ?_
      refine WO.getR (j := 0) (p := 1) (n := 43) hA (x_0 hw) rfl fiX5_hears_X5 (by decide) rfl fkX5_hears_12 dX5_hears_40 rfl ?_
      refine WO.getR (j := 3) (p := 5) (n := 46) hA (st_0 hw st1) rfl fiX5_hears_X3 (by decide) rfl fkX5_hears_119 dX5_hears_43 rfl ?_
      refine WO.iload_n (n := 47) hA dX5_hears_46 2 rfl rfl ?_
      refine WO.iald (n := 48) hA (st_4 hw st1) dX5_hears_47 rfl (fun _ => ?_)
      refine WO.callVi (As := [.int x1, .int r6, .int (M5 5 x2.toNatClampNeg)]) (rest := []) (n := 51) hA (c_X3_heard v.2.1 w hw 1 x1 r6 (M5 5 x2.toNatClampNeg) st1 M5) gX5_hears_X3_heard rfl (st_0 hw st1) rfl mdX3_heard ⟨rfl, rfl, Nat.le_of_ble_eq_true rfl, Nat.le_of_ble_eq_true rfl⟩ rfl rfl (Nat.le_of_ble_eq_true rfl) dX5_hears_48 rfl (fun r8 M7 => ?_)
      refine WO.i2l (n := 52) hA dX5_hears_51 rfl ?_
      exact WO.lret hA dX5_hears_52
/- X5_stroke -/
abbrev rmX5_stroke : Room := { frames := 4, cells := 0, slots := 0, locals := 93 }
theorem mdX5_stroke : yX5_stroke.cls = RX5 ∧ yX5_stroke.cls ≠ "java/lang/invoke/MethodHandle" ∧ yX5_stroke.cls ≠ "java/lang/invoke/VarHandle" ∧ (parseMethodDescriptor yX5_stroke.desc).map (fun d => d.parameters.length) = some 1 := by decide +kernel
theorem fkX5_stroke_12 : Cond.fieldLink RX5 12 (TX5 0).1 (TX5 0).2.1 (TX5 0).2.2.1 ∈ wsX5_stroke := by decide +kernel
theorem fiX5_stroke_X5 : ∀ q ∈ u_ws RX5 TX5 10, q ∈ wsX5_stroke := by decide +kernel
noncomputable def f_X5_stroke (x1 : Int32) (M : Mem) : Option (Int32 × Mem) := bd (f_X3_hasClock 1 x1 M) (fun r2 M1 => if r2 = 0 then (some ((-1 : Int32), M1)) else (bd (f_X3_strike 1 x1 M1) (fun r4 M3 => some (r4, M3))))
set_option maxHeartbeats 4000000 in
set_option maxRecDepth 100000 in
theorem c_X5_stroke (l : Launch) (w : Cw) (hw : w.2.2.2.2.2 = shX) (x1 : Int32) (M : Mem) : Ok l w eI yX5_stroke wsX5_stroke rmX5_stroke [.ref (w.2.1 0), .int x1] M (f_X5_stroke x1 M) := by
  refine Ok.of (cc := cX5_stroke) (nL := 2) (ret := (some .int)) (lv := [(0, .ref (w.2.1 0)), (1, .int x1)]) (by decide) rfl (Nat.le_of_ble_eq_true rfl) rfl (fun v hv hA => ?_)
  subst hv
  have hA : Act v w RX5 wsX5_stroke cX5_stroke 2 (some .int) := hA
  unfold f_X5_stroke
  refine WO.aload_n (n := 1) hA dX5_stroke_0 0 rfl rfl ?_
  refine WO.getR (j := 0) (p := 1) (n := 4) hA (x_0 hw) rfl fiX5_stroke_X5 (by decide) rfl fkX5_stroke_12 dX5_stroke_1 rfl ?_
  refine WO.iload_n (n := 5) hA dX5_stroke_4 1 rfl rfl ?_
  refine WO.callVi (As := [.int x1]) (rest := []) (n := 8) hA (c_X3_hasClock v.2.1 w hw 1 x1 st1 M) gX5_stroke_X3_hasClock rfl (st_0 hw st1) rfl mdX3_hasClock ⟨rfl, rfl, Nat.le_of_ble_eq_true rfl, Nat.le_of_ble_eq_true rfl⟩ rfl rfl (Nat.le_of_ble_eq_true rfl) dX5_stroke_5 rfl (fun r2 M1 => ?_)
  refine WO.if_eq (tg := 22) (n := 11) hA dX5_stroke_8 (by decide) rfl (fun _ => ?_) (fun _ => ?_)
  · refine WO.iconst (x := (-1 : Int32)) (n := 23) hA dX5_stroke_22 (by decide) rfl ?_
    exact WO.iret hA dX5_stroke_23
  · refine WO.aload_n (n := 12) hA dX5_stroke_11 0 rfl rfl ?_
    refine WO.getR (j := 0) (p := 1) (n := 15) hA (x_0 hw) rfl fiX5_stroke_X5 (by decide) rfl fkX5_stroke_12 dX5_stroke_12 rfl ?_
    refine WO.iload_n (n := 16) hA dX5_stroke_15 1 rfl rfl ?_
    refine WO.callVi (As := [.int x1]) (rest := []) (n := 19) hA (c_X3_strike v.2.1 w hw 1 x1 st1 M1) gX5_stroke_X3_strike rfl (st_0 hw st1) rfl mdX3_strike ⟨rfl, rfl, Nat.le_of_ble_eq_true rfl, Nat.le_of_ble_eq_true rfl⟩ rfl rfl (Nat.le_of_ble_eq_true rfl) dX5_stroke_16 rfl (fun r4 M3 => ?_)
    refine WO.goto (n := 23) hA dX5_stroke_19 (by decide) ?_
    exact WO.iret hA dX5_stroke_23
/- X5_nights -/
abbrev rmX5_nights : Room := { frames := 5, cells := 0, slots := 0, locals := 116 }
theorem mdX5_nights : yX5_nights.cls = RX5 ∧ yX5_nights.cls ≠ "java/lang/invoke/MethodHandle" ∧ yX5_nights.cls ≠ "java/lang/invoke/VarHandle" ∧ (parseMethodDescriptor yX5_nights.desc).map (fun d => d.parameters.length) = some 1 := by decide +kernel
theorem fkX5_nights_12 : Cond.fieldLink RX5 12 (TX5 0).1 (TX5 0).2.1 (TX5 0).2.2.1 ∈ wsX5_nights := by decide +kernel
theorem fiX5_nights_X5 : ∀ q ∈ u_ws RX5 TX5 10, q ∈ wsX5_nights := by decide +kernel
theorem fkX5_nights_18 : Cond.fieldLink RX5 18 (TX5 1).1 (TX5 1).2.1 (TX5 1).2.2.1 ∈ wsX5_nights := by decide +kernel
theorem fkX5_nights_83 : Cond.fieldLink RX5 83 (TX5 7).1 (TX5 7).2.1 (TX5 7).2.2.1 ∈ wsX5_nights := by decide +kernel
theorem fkX5_nights_89 : Cond.fieldLink RX5 89 (TX3 6).1 (TX3 6).2.1 (TX3 6).2.2.1 ∈ wsX5_nights := by decide +kernel
theorem fiX5_nights_X3 : ∀ q ∈ u_ws RX3 TX3 10, q ∈ wsX5_nights := by decide +kernel
theorem fkX5_nights_119 : Cond.fieldLink RX5 119 (TX3 3).1 (TX3 3).2.1 (TX3 3).2.2.1 ∈ wsX5_nights := by decide +kernel
noncomputable def f_X5_nights_L60 (kx : Int32 → Mem → Option (Int32 × Mem)) : Nat → Int32 → Int32 → Mem → Option (Int32 × Mem)
  | 0, _, _, _ => none
  | n + 1, x2, x3, M => if (M 1 6) ≤ x3 then (kx x2 M) else (grd x3 4 (grd x3 4 (if (M 5 x3.toNatClampNeg) = (M 11 x3.toNatClampNeg) then (f_X5_nights_L60 kx n x2 (x3 + (1 : Int32)) M) else (f_X5_nights_L60 kx n (x2 + (1 : Int32)) (x3 + (1 : Int32)) M))))
noncomputable def f_X5_nights (x1 : Int32) (M : Mem) : Option (Int32 × Mem) := if x1 < (1 : Int32) then (some ((-2 : Int32), M)) else (if x1 ≤ (60 : Int32) then (bd (f_X3_stands 1 M) (fun r2 M1 => if r2 = 0 then (some ((-3 : Int32), M1)) else (bd (f_X3_become 7 1 M1) (fun _ M3 => bd (f_X3_passNights 1 x1 M3) (fun _ M4 => mlt (mu M4 0 7 ((M4 0 7) + x1)) (fun M5 => f_X5_nights_L60 (fun e6 M7 => some (e6, M7)) FU (0 : Int32) (0 : Int32) M5)))))) else (some ((-2 : Int32), M)))
set_option maxHeartbeats 4000000 in
set_option maxRecDepth 100000 in
theorem w_X5_nights_L60 {v : Av} {w : Cw} (hw : w.2.2.2.2.2 = shX) (hA : Act v w RX5 wsX5_nights cX5_nights 4 (some .int)) (kx : Int32 → Mem → Option (Int32 × Mem)) (hk : ∀ (y2 : Int32) (M : Mem), WO v w rmX5_nights 4 eI (kx y2 M) 101 [(2, .int y2)] [] M) : ∀ (n : Nat) (x2 : Int32) (x3 : Int32) (M : Mem), WO v w rmX5_nights 4 eI (f_X5_nights_L60 kx n x2 x3 M) 60 [(0, .ref (w.2.1 0)), (2, .int x2), (3, .int x3)] [] M := by
  intro n
  induction n with
  | zero => intro x2 x3 M; exact WO.nothing
  | succ n ih =>
    intro x2 x3 M
    rw [f_X5_nights_L60]
    refine WO.iload_n (n := 61) hA dX5_nights_60 2 rfl rfl ?_
    refine WO.aload_n (n := 62) hA dX5_nights_61 0 rfl rfl ?_
    refine WO.getR (j := 0) (p := 1) (n := 65) hA (x_0 hw) rfl fiX5_nights_X5 (by decide) rfl fkX5_nights_12 dX5_nights_62 rfl ?_
    refine WO.getI (j := 6) (n := 68) hA (st_0 hw st1) rfl fiX5_nights_X3 (by decide) rfl fkX5_nights_89 dX5_nights_65 rfl ?_
    refine WO.icmp_ge (tg := 101) (n := 71) hA dX5_nights_68 (by decide) rfl (fun _ => ?_) (fun _ => ?_)
    · refine WO.sub (lv' := [(2, .int x2)]) [1] rfl ?_
      exact hk x2 M
    · refine WO.aload_n (n := 72) hA dX5_nights_71 0 rfl rfl ?_
      refine WO.getR (j := 0) (p := 1) (n := 75) hA (x_0 hw) rfl fiX5_nights_X5 (by decide) rfl fkX5_nights_12 dX5_nights_72 rfl ?_
      refine WO.getR (j := 3) (p := 5) (n := 78) hA (st_0 hw st1) rfl fiX5_nights_X3 (by decide) rfl fkX5_nights_119 dX5_nights_75 rfl ?_
      refine WO.iload_n (n := 79) hA dX5_nights_78 2 rfl rfl ?_
      refine WO.iald (n := 80) hA (st_4 hw st1) dX5_nights_79 rfl (fun _ => ?_)
      refine WO.aload_n (n := 81) hA dX5_nights_80 0 rfl rfl ?_
      refine WO.getR (j := 1) (p := 7) (n := 84) hA (x_0 hw) rfl fiX5_nights_X5 (by decide) rfl fkX5_nights_18 dX5_nights_81 rfl ?_
      refine WO.getR (j := 3) (p := 11) (n := 87) hA (st_0 hw st7) rfl fiX5_nights_X3 (by decide) rfl fkX5_nights_119 dX5_nights_84 rfl ?_
      refine WO.iload_n (n := 88) hA dX5_nights_87 2 rfl rfl ?_
      refine WO.iald (n := 89) hA (st_4 hw st7) dX5_nights_88 rfl (fun _ => ?_)
      refine WO.icmp_eq (tg := 95) (n := 92) hA dX5_nights_89 (by decide) rfl (fun _ => ?_) (fun _ => ?_)
      · refine WO.iinc (y := (1 : Int32)) (lv' := [(3, .int (x3 + (1 : Int32))), (0, .ref (w.2.1 0)), (2, .int x2)]) (n := 98) hA dX5_nights_95 2 rfl (by decide) (by decide) rfl rfl ?_
        refine WO.goto (n := 60) hA dX5_nights_98 (by decide) ?_
        refine WO.sub (lv' := [(0, .ref (w.2.1 0)), (2, .int x2), (3, .int (x3 + (1 : Int32)))]) [1, 2, 0] rfl ?_
        exact ih x2 (x3 + (1 : Int32)) M
      · refine WO.iinc (y := (1 : Int32)) (lv' := [(2, .int (x2 + (1 : Int32))), (0, .ref (w.2.1 0)), (3, .int x3)]) (n := 95) hA dX5_nights_92 1 rfl (by decide) (by decide) rfl rfl ?_
        refine WO.iinc (y := (1 : Int32)) (lv' := [(3, .int (x3 + (1 : Int32))), (2, .int (x2 + (1 : Int32))), (0, .ref (w.2.1 0))]) (n := 98) hA dX5_nights_95 2 rfl (by decide) (by decide) rfl rfl ?_
        refine WO.goto (n := 60) hA dX5_nights_98 (by decide) ?_
        refine WO.sub (lv' := [(0, .ref (w.2.1 0)), (2, .int (x2 + (1 : Int32))), (3, .int (x3 + (1 : Int32)))]) [2, 1, 0] rfl ?_
        exact ih (x2 + (1 : Int32)) (x3 + (1 : Int32)) M
set_option maxHeartbeats 4000000 in
set_option maxRecDepth 100000 in
theorem c_X5_nights (l : Launch) (w : Cw) (hw : w.2.2.2.2.2 = shX) (x1 : Int32) (M : Mem) : Ok l w eI yX5_nights wsX5_nights rmX5_nights [.ref (w.2.1 0), .int x1] M (f_X5_nights x1 M) := by
  refine Ok.of (cc := cX5_nights) (nL := 4) (ret := (some .int)) (lv := [(0, .ref (w.2.1 0)), (1, .int x1)]) (by decide) rfl (Nat.le_of_ble_eq_true rfl) rfl (fun v hv hA => ?_)
  subst hv
  have hA : Act v w RX5 wsX5_nights cX5_nights 4 (some .int) := hA
  unfold f_X5_nights
  refine WO.iload_n (n := 1) hA dX5_nights_0 1 rfl rfl ?_
  refine WO.iconst (x := (1 : Int32)) (n := 2) hA dX5_nights_1 (by decide) rfl ?_
  refine WO.icmp_lt (tg := 11) (n := 5) hA dX5_nights_2 (by decide) rfl (fun _ => ?_) (fun _ => ?_)
  · refine WO.bipush (x := (-2 : Int32)) (n := 13) hA dX5_nights_11 (by decide) rfl ?_
    exact WO.iret hA dX5_nights_13
  · refine WO.iload_n (n := 6) hA dX5_nights_5 1 rfl rfl ?_
    refine WO.bipush (x := (60 : Int32)) (n := 8) hA dX5_nights_6 (by decide) rfl ?_
    refine WO.icmp_le (tg := 14) (n := 11) hA dX5_nights_8 (by decide) rfl (fun _ => ?_) (fun _ => ?_)
    · refine WO.aload_n (n := 15) hA dX5_nights_14 0 rfl rfl ?_
      refine WO.getR (j := 0) (p := 1) (n := 18) hA (x_0 hw) rfl fiX5_nights_X5 (by decide) rfl fkX5_nights_12 dX5_nights_15 rfl ?_
      refine WO.callVi (As := []) (rest := []) (n := 21) hA (c_X3_stands v.2.1 w hw 1 st1 M) gX5_nights_X3_stands rfl (st_0 hw st1) rfl mdX3_stands ⟨rfl, rfl, Nat.le_of_ble_eq_true rfl, Nat.le_of_ble_eq_true rfl⟩ rfl rfl (Nat.le_of_ble_eq_true rfl) dX5_nights_18 rfl (fun r2 M1 => ?_)
      refine WO.if_ne (tg := 27) (n := 24) hA dX5_nights_21 (by decide) rfl (fun _ => ?_) (fun _ => ?_)
      · refine WO.bipush (x := (-3 : Int32)) (n := 26) hA dX5_nights_24 (by decide) rfl ?_
        exact WO.iret hA dX5_nights_26
      · refine WO.aload_n (n := 28) hA dX5_nights_27 0 rfl rfl ?_
        refine WO.getR (j := 1) (p := 7) (n := 31) hA (x_0 hw) rfl fiX5_nights_X5 (by decide) rfl fkX5_nights_18 dX5_nights_28 rfl ?_
        refine WO.aload_n (n := 32) hA dX5_nights_31 0 rfl rfl ?_
        refine WO.getR (j := 0) (p := 1) (n := 35) hA (x_0 hw) rfl fiX5_nights_X5 (by decide) rfl fkX5_nights_12 dX5_nights_32 rfl ?_
        refine WO.callVv (As := [.ref (w.2.1 1)]) (rest := []) (n := 38) hA (c_X3_become v.2.1 w hw 7 1 st7 st1 M1) gX5_nights_X3_become rfl (st_0 hw st7) rfl mdX3_become ⟨rfl, rfl, Nat.le_of_ble_eq_true rfl, Nat.le_of_ble_eq_true rfl⟩ rfl rfl (Nat.le_of_ble_eq_true rfl) dX5_nights_35 rfl (fun M3 => ?_)
        refine WO.aload_n (n := 39) hA dX5_nights_38 0 rfl rfl ?_
        refine WO.getR (j := 0) (p := 1) (n := 42) hA (x_0 hw) rfl fiX5_nights_X5 (by decide) rfl fkX5_nights_12 dX5_nights_39 rfl ?_
        refine WO.iload_n (n := 43) hA dX5_nights_42 1 rfl rfl ?_
        refine WO.callVv (As := [.int x1]) (rest := []) (n := 46) hA (c_X3_passNights v.2.1 w hw 1 x1 st1 M3) gX5_nights_X3_passNights rfl (st_0 hw st1) rfl mdX3_passNights ⟨rfl, rfl, Nat.le_of_ble_eq_true rfl, Nat.le_of_ble_eq_true rfl⟩ rfl rfl (Nat.le_of_ble_eq_true rfl) dX5_nights_43 rfl (fun M4 => ?_)
        refine WO.aload_n (n := 47) hA dX5_nights_46 0 rfl rfl ?_
        refine WO.dup (n := 48) hA dX5_nights_47 rfl rfl ?_
        refine WO.getI (j := 7) (n := 51) hA (x_0 hw) rfl fiX5_nights_X5 (by decide) rfl fkX5_nights_83 dX5_nights_48 rfl ?_
        refine WO.iload_n (n := 52) hA dX5_nights_51 1 rfl rfl ?_
        refine WO.iadd (n := 53) hA dX5_nights_52 rfl ?_
        refine WO.putI (j := 7) (n := 56) hA (x_0 hw) rfl fiX5_nights_X5 tyX5 tyX5_ok nmX5 (by decide) rfl fkX5_nights_83 rfl rfl rfl rfl dX5_nights_53 rfl ?_
        refine WO.mem (fun M5 => ?_)
        refine WO.iconst (x := (0 : Int32)) (n := 57) hA dX5_nights_56 (by decide) rfl ?_
        refine WO.istore_n (i := 2) (lv' := [(2, .int (0 : Int32)), (0, .ref (w.2.1 0)), (1, .int x1)]) (n := 58) hA dX5_nights_57 rfl (by decide) rfl rfl ?_
        refine WO.iconst (x := (0 : Int32)) (n := 59) hA dX5_nights_58 (by decide) rfl ?_
        refine WO.istore_n (i := 3) (lv' := [(3, .int (0 : Int32)), (2, .int (0 : Int32)), (0, .ref (w.2.1 0)), (1, .int x1)]) (n := 60) hA dX5_nights_59 rfl (by decide) rfl rfl ?_
        refine WO.sub (lv' := [(0, .ref (w.2.1 0)), (2, .int (0 : Int32)), (3, .int (0 : Int32))]) [2, 1, 0] rfl ?_
        refine w_X5_nights_L60 hw hA _ (fun e6 M7 => ?_) _ _ _ _
        refine WO.iload_n (n := 102) hA dX5_nights_101 0 rfl rfl ?_
        exact WO.iret hA dX5_nights_102
    · refine WO.bipush (x := (-2 : Int32)) (n := 13) hA dX5_nights_11 (by decide) rfl ?_
      exact WO.iret hA dX5_nights_13
/- X5_stuff -/
abbrev rmX5_stuff : Room := { frames := 1, cells := 0, slots := 0, locals := 22 }
theorem mdX5_stuff : yX5_stuff.cls = RX5 ∧ yX5_stuff.cls ≠ "java/lang/invoke/MethodHandle" ∧ yX5_stuff.cls ≠ "java/lang/invoke/VarHandle" ∧ (parseMethodDescriptor yX5_stuff.desc).map (fun d => d.parameters.length) = some 1 := by decide +kernel
theorem fkX5_stuff_12 : Cond.fieldLink RX5 12 (TX5 0).1 (TX5 0).2.1 (TX5 0).2.2.1 ∈ wsX5_stuff := by decide +kernel
theorem fiX5_stuff_X5 : ∀ q ∈ u_ws RX5 TX5 10, q ∈ wsX5_stuff := by decide +kernel
theorem fkX5_stuff_122 : Cond.fieldLink RX5 122 (TX3 4).1 (TX3 4).2.1 (TX3 4).2.2.1 ∈ wsX5_stuff := by decide +kernel
theorem fiX5_stuff_X3 : ∀ q ∈ u_ws RX3 TX3 10, q ∈ wsX5_stuff := by decide +kernel
noncomputable def f_X5_stuff (x1 : Int32) (M : Mem) : Option (Int32 × Mem) := bd (f_X3_hasClock 1 x1 M) (fun r2 M1 => if r2 = 0 then (some ((-1 : Int32), M1)) else (grd x1 4 (if (M1 6 x1.toNatClampNeg) = 0 then (grd x1 4 (mlt (mu M1 6 x1.toNatClampNeg ((1 : Int32) &&& 1)) (fun M3 => bd (f_X3_stuffedClocks 1 M3) (fun r5 M4 => bd (f_J6_bitCount_0f7a4 r5 M4) (fun r7 M6 => some (r7, M6)))))) else (some ((-3 : Int32), M1)))))
set_option maxHeartbeats 4000000 in
set_option maxRecDepth 100000 in
theorem c_X5_stuff (l : Launch) (w : Cw) (hw : w.2.2.2.2.2 = shX) (x1 : Int32) (M : Mem) : Ok l w eI yX5_stuff wsX5_stuff rmX5_stuff [.ref (w.2.1 0), .int x1] M (f_X5_stuff x1 M) := by
  refine Ok.of (cc := cX5_stuff) (nL := 2) (ret := (some .int)) (lv := [(0, .ref (w.2.1 0)), (1, .int x1)]) (by decide) rfl (Nat.le_of_ble_eq_true rfl) rfl (fun v hv hA => ?_)
  subst hv
  have hA : Act v w RX5 wsX5_stuff cX5_stuff 2 (some .int) := hA
  unfold f_X5_stuff
  refine WO.aload_n (n := 1) hA dX5_stuff_0 0 rfl rfl ?_
  refine WO.getR (j := 0) (p := 1) (n := 4) hA (x_0 hw) rfl fiX5_stuff_X5 (by decide) rfl fkX5_stuff_12 dX5_stuff_1 rfl ?_
  refine WO.iload_n (n := 5) hA dX5_stuff_4 1 rfl rfl ?_
  refine WO.callVi (As := [.int x1]) (rest := []) (n := 8) hA (c_X3_hasClock v.2.1 w hw 1 x1 st1 M) gX5_stuff_X3_hasClock rfl (st_0 hw st1) rfl mdX3_hasClock ⟨rfl, rfl, Nat.le_of_ble_eq_true rfl, Nat.le_of_ble_eq_true rfl⟩ rfl rfl (Nat.le_of_ble_eq_true rfl) dX5_stuff_5 rfl (fun r2 M1 => ?_)
  refine WO.if_ne (tg := 13) (n := 11) hA dX5_stuff_8 (by decide) rfl (fun _ => ?_) (fun _ => ?_)
  · refine WO.iconst (x := (-1 : Int32)) (n := 12) hA dX5_stuff_11 (by decide) rfl ?_
    exact WO.iret hA dX5_stuff_12
  · refine WO.aload_n (n := 14) hA dX5_stuff_13 0 rfl rfl ?_
    refine WO.getR (j := 0) (p := 1) (n := 17) hA (x_0 hw) rfl fiX5_stuff_X5 (by decide) rfl fkX5_stuff_12 dX5_stuff_14 rfl ?_
    refine WO.getR (j := 4) (p := 6) (n := 20) hA (st_0 hw st1) rfl fiX5_stuff_X3 (by decide) rfl fkX5_stuff_122 dX5_stuff_17 rfl ?_
    refine WO.iload_n (n := 21) hA dX5_stuff_20 1 rfl rfl ?_
    refine WO.zald (n := 22) hA (st_5 hw st1) dX5_stuff_21 rfl (fun _ => ?_)
    refine WO.if_eq (tg := 28) (n := 25) hA dX5_stuff_22 (by decide) rfl (fun _ => ?_) (fun _ => ?_)
    · refine WO.aload_n (n := 29) hA dX5_stuff_28 0 rfl rfl ?_
      refine WO.getR (j := 0) (p := 1) (n := 32) hA (x_0 hw) rfl fiX5_stuff_X5 (by decide) rfl fkX5_stuff_12 dX5_stuff_29 rfl ?_
      refine WO.getR (j := 4) (p := 6) (n := 35) hA (st_0 hw st1) rfl fiX5_stuff_X3 (by decide) rfl fkX5_stuff_122 dX5_stuff_32 rfl ?_
      refine WO.iload_n (n := 36) hA dX5_stuff_35 1 rfl rfl ?_
      refine WO.iconst (x := (1 : Int32)) (n := 37) hA dX5_stuff_36 (by decide) rfl ?_
      refine WO.zast (n := 38) hA (st_5 hw st1) dX5_stuff_37 rfl (fun _ => ?_)
      refine WO.mem (fun M3 => ?_)
      refine WO.aload_n (n := 39) hA dX5_stuff_38 0 rfl rfl ?_
      refine WO.getR (j := 0) (p := 1) (n := 42) hA (x_0 hw) rfl fiX5_stuff_X5 (by decide) rfl fkX5_stuff_12 dX5_stuff_39 rfl ?_
      refine WO.callVi (As := []) (rest := []) (n := 45) hA (c_X3_stuffedClocks v.2.1 w hw 1 st1 M3) gX5_stuff_X3_stuffedClocks rfl (st_0 hw st1) rfl mdX3_stuffedClocks ⟨rfl, rfl, Nat.le_of_ble_eq_true rfl, Nat.le_of_ble_eq_true rfl⟩ rfl rfl (Nat.le_of_ble_eq_true rfl) dX5_stuff_42 rfl (fun r5 M4 => ?_)
      refine WO.callSi (As := [.int r5]) (rest := []) (n := 48) hA (c_J6_bitCount_0f7a4 v.2.1 w r5 M4) gX5_stuff_J6_bitCount_0f7a4 rfl mdJ6_bitCount_0f7a4 ⟨rfl, rfl, Nat.le_of_ble_eq_true rfl, Nat.le_of_ble_eq_true rfl⟩ rfl rfl (Nat.le_of_ble_eq_true rfl) dX5_stuff_45 rfl (fun r7 M6 => ?_)
      exact WO.iret hA dX5_stuff_48
    · refine WO.bipush (x := (-3 : Int32)) (n := 27) hA dX5_stuff_25 (by decide) rfl ?_
      exact WO.iret hA dX5_stuff_27
/- X5_ease -/
abbrev rmX5_ease : Room := { frames := 1, cells := 0, slots := 0, locals := 22 }
theorem mdX5_ease : yX5_ease.cls = RX5 ∧ yX5_ease.cls ≠ "java/lang/invoke/MethodHandle" ∧ yX5_ease.cls ≠ "java/lang/invoke/VarHandle" ∧ (parseMethodDescriptor yX5_ease.desc).map (fun d => d.parameters.length) = some 1 := by decide +kernel
theorem fkX5_ease_12 : Cond.fieldLink RX5 12 (TX5 0).1 (TX5 0).2.1 (TX5 0).2.2.1 ∈ wsX5_ease := by decide +kernel
theorem fiX5_ease_X5 : ∀ q ∈ u_ws RX5 TX5 10, q ∈ wsX5_ease := by decide +kernel
theorem fkX5_ease_122 : Cond.fieldLink RX5 122 (TX3 4).1 (TX3 4).2.1 (TX3 4).2.2.1 ∈ wsX5_ease := by decide +kernel
theorem fiX5_ease_X3 : ∀ q ∈ u_ws RX3 TX3 10, q ∈ wsX5_ease := by decide +kernel
noncomputable def f_X5_ease (x1 : Int32) (M : Mem) : Option (Int32 × Mem) := bd (f_X3_hasClock 1 x1 M) (fun r2 M1 => if r2 = 0 then (some ((-1 : Int32), M1)) else (grd x1 4 (if (M1 6 x1.toNatClampNeg) = 0 then (some ((-3 : Int32), M1)) else (grd x1 4 (mlt (mu M1 6 x1.toNatClampNeg ((0 : Int32) &&& 1)) (fun M3 => bd (f_X3_stuffedClocks 1 M3) (fun r5 M4 => bd (f_J6_bitCount_0f7a4 r5 M4) (fun r7 M6 => some (r7, M6)))))))))
set_option maxHeartbeats 4000000 in
set_option maxRecDepth 100000 in
theorem c_X5_ease (l : Launch) (w : Cw) (hw : w.2.2.2.2.2 = shX) (x1 : Int32) (M : Mem) : Ok l w eI yX5_ease wsX5_ease rmX5_ease [.ref (w.2.1 0), .int x1] M (f_X5_ease x1 M) := by
  refine Ok.of (cc := cX5_ease) (nL := 2) (ret := (some .int)) (lv := [(0, .ref (w.2.1 0)), (1, .int x1)]) (by decide) rfl (Nat.le_of_ble_eq_true rfl) rfl (fun v hv hA => ?_)
  subst hv
  have hA : Act v w RX5 wsX5_ease cX5_ease 2 (some .int) := hA
  unfold f_X5_ease
  refine WO.aload_n (n := 1) hA dX5_ease_0 0 rfl rfl ?_
  refine WO.getR (j := 0) (p := 1) (n := 4) hA (x_0 hw) rfl fiX5_ease_X5 (by decide) rfl fkX5_ease_12 dX5_ease_1 rfl ?_
  refine WO.iload_n (n := 5) hA dX5_ease_4 1 rfl rfl ?_
  refine WO.callVi (As := [.int x1]) (rest := []) (n := 8) hA (c_X3_hasClock v.2.1 w hw 1 x1 st1 M) gX5_ease_X3_hasClock rfl (st_0 hw st1) rfl mdX3_hasClock ⟨rfl, rfl, Nat.le_of_ble_eq_true rfl, Nat.le_of_ble_eq_true rfl⟩ rfl rfl (Nat.le_of_ble_eq_true rfl) dX5_ease_5 rfl (fun r2 M1 => ?_)
  refine WO.if_ne (tg := 13) (n := 11) hA dX5_ease_8 (by decide) rfl (fun _ => ?_) (fun _ => ?_)
  · refine WO.iconst (x := (-1 : Int32)) (n := 12) hA dX5_ease_11 (by decide) rfl ?_
    exact WO.iret hA dX5_ease_12
  · refine WO.aload_n (n := 14) hA dX5_ease_13 0 rfl rfl ?_
    refine WO.getR (j := 0) (p := 1) (n := 17) hA (x_0 hw) rfl fiX5_ease_X5 (by decide) rfl fkX5_ease_12 dX5_ease_14 rfl ?_
    refine WO.getR (j := 4) (p := 6) (n := 20) hA (st_0 hw st1) rfl fiX5_ease_X3 (by decide) rfl fkX5_ease_122 dX5_ease_17 rfl ?_
    refine WO.iload_n (n := 21) hA dX5_ease_20 1 rfl rfl ?_
    refine WO.zald (n := 22) hA (st_5 hw st1) dX5_ease_21 rfl (fun _ => ?_)
    refine WO.if_ne (tg := 28) (n := 25) hA dX5_ease_22 (by decide) rfl (fun _ => ?_) (fun _ => ?_)
    · refine WO.bipush (x := (-3 : Int32)) (n := 27) hA dX5_ease_25 (by decide) rfl ?_
      exact WO.iret hA dX5_ease_27
    · refine WO.aload_n (n := 29) hA dX5_ease_28 0 rfl rfl ?_
      refine WO.getR (j := 0) (p := 1) (n := 32) hA (x_0 hw) rfl fiX5_ease_X5 (by decide) rfl fkX5_ease_12 dX5_ease_29 rfl ?_
      refine WO.getR (j := 4) (p := 6) (n := 35) hA (st_0 hw st1) rfl fiX5_ease_X3 (by decide) rfl fkX5_ease_122 dX5_ease_32 rfl ?_
      refine WO.iload_n (n := 36) hA dX5_ease_35 1 rfl rfl ?_
      refine WO.iconst (x := (0 : Int32)) (n := 37) hA dX5_ease_36 (by decide) rfl ?_
      refine WO.zast (n := 38) hA (st_5 hw st1) dX5_ease_37 rfl (fun _ => ?_)
      refine WO.mem (fun M3 => ?_)
      refine WO.aload_n (n := 39) hA dX5_ease_38 0 rfl rfl ?_
      refine WO.getR (j := 0) (p := 1) (n := 42) hA (x_0 hw) rfl fiX5_ease_X5 (by decide) rfl fkX5_ease_12 dX5_ease_39 rfl ?_
      refine WO.callVi (As := []) (rest := []) (n := 45) hA (c_X3_stuffedClocks v.2.1 w hw 1 st1 M3) gX5_ease_X3_stuffedClocks rfl (st_0 hw st1) rfl mdX3_stuffedClocks ⟨rfl, rfl, Nat.le_of_ble_eq_true rfl, Nat.le_of_ble_eq_true rfl⟩ rfl rfl (Nat.le_of_ble_eq_true rfl) dX5_ease_42 rfl (fun r5 M4 => ?_)
      refine WO.callSi (As := [.int r5]) (rest := []) (n := 48) hA (c_J6_bitCount_0f7a4 v.2.1 w r5 M4) gX5_ease_J6_bitCount_0f7a4 rfl mdJ6_bitCount_0f7a4 ⟨rfl, rfl, Nat.le_of_ble_eq_true rfl, Nat.le_of_ble_eq_true rfl⟩ rfl rfl (Nat.le_of_ble_eq_true rfl) dX5_ease_45 rfl (fun r7 M6 => ?_)
      exact WO.iret hA dX5_ease_48
/- X5_carry -/
abbrev rmX5_carry : Room := { frames := 1, cells := 0, slots := 0, locals := 21 }
theorem mdX5_carry : yX5_carry.cls = RX5 ∧ yX5_carry.cls ≠ "java/lang/invoke/MethodHandle" ∧ yX5_carry.cls ≠ "java/lang/invoke/VarHandle" ∧ (parseMethodDescriptor yX5_carry.desc).map (fun d => d.parameters.length) = some 2 := by decide +kernel
theorem fkX5_carry_12 : Cond.fieldLink RX5 12 (TX5 0).1 (TX5 0).2.1 (TX5 0).2.2.1 ∈ wsX5_carry := by decide +kernel
theorem fiX5_carry_X5 : ∀ q ∈ u_ws RX5 TX5 10, q ∈ wsX5_carry := by decide +kernel
theorem fkX5_carry_119 : Cond.fieldLink RX5 119 (TX3 3).1 (TX3 3).2.1 (TX3 3).2.2.1 ∈ wsX5_carry := by decide +kernel
theorem fiX5_carry_X3 : ∀ q ∈ u_ws RX3 TX3 10, q ∈ wsX5_carry := by decide +kernel
noncomputable def f_X5_carry (x1 : Int32) (x2 : Int32) (M : Mem) : Option (Int32 × Mem) := bd (f_X3_hasClock 1 x1 M) (fun r2 M1 => if r2 = 0 then (some ((-1 : Int32), M1)) else (bd (f_X3_hasHouse 1 x2 M1) (fun r4 M3 => if r4 = 0 then (some ((-1 : Int32), M3)) else (grd x1 4 (ilt (M3 5 x1.toNatClampNeg) (fun x_5 => grd x1 4 (mlt (mu M3 5 x1.toNatClampNeg x2) (fun M6 => some (x_5, M6)))))))))
set_option maxHeartbeats 4000000 in
set_option maxRecDepth 100000 in
theorem c_X5_carry (l : Launch) (w : Cw) (hw : w.2.2.2.2.2 = shX) (x1 : Int32) (x2 : Int32) (M : Mem) : Ok l w eI yX5_carry wsX5_carry rmX5_carry [.ref (w.2.1 0), .int x1, .int x2] M (f_X5_carry x1 x2 M) := by
  refine Ok.of (cc := cX5_carry) (nL := 4) (ret := (some .int)) (lv := [(0, .ref (w.2.1 0)), (1, .int x1), (2, .int x2)]) (by decide) rfl (Nat.le_of_ble_eq_true rfl) rfl (fun v hv hA => ?_)
  subst hv
  have hA : Act v w RX5 wsX5_carry cX5_carry 4 (some .int) := hA
  unfold f_X5_carry
  refine WO.aload_n (n := 1) hA dX5_carry_0 0 rfl rfl ?_
  refine WO.getR (j := 0) (p := 1) (n := 4) hA (x_0 hw) rfl fiX5_carry_X5 (by decide) rfl fkX5_carry_12 dX5_carry_1 rfl ?_
  refine WO.iload_n (n := 5) hA dX5_carry_4 1 rfl rfl ?_
  refine WO.callVi (As := [.int x1]) (rest := []) (n := 8) hA (c_X3_hasClock v.2.1 w hw 1 x1 st1 M) gX5_carry_X3_hasClock rfl (st_0 hw st1) rfl mdX3_hasClock ⟨rfl, rfl, Nat.le_of_ble_eq_true rfl, Nat.le_of_ble_eq_true rfl⟩ rfl rfl (Nat.le_of_ble_eq_true rfl) dX5_carry_5 rfl (fun r2 M1 => ?_)
  refine WO.if_eq (tg := 22) (n := 11) hA dX5_carry_8 (by decide) rfl (fun _ => ?_) (fun _ => ?_)
  · refine WO.iconst (x := (-1 : Int32)) (n := 23) hA dX5_carry_22 (by decide) rfl ?_
    exact WO.iret hA dX5_carry_23
  · refine WO.aload_n (n := 12) hA dX5_carry_11 0 rfl rfl ?_
    refine WO.getR (j := 0) (p := 1) (n := 15) hA (x_0 hw) rfl fiX5_carry_X5 (by decide) rfl fkX5_carry_12 dX5_carry_12 rfl ?_
    refine WO.iload_n (n := 16) hA dX5_carry_15 2 rfl rfl ?_
    refine WO.callVi (As := [.int x2]) (rest := []) (n := 19) hA (c_X3_hasHouse v.2.1 w hw 1 x2 st1 M1) gX5_carry_X3_hasHouse rfl (st_0 hw st1) rfl mdX3_hasHouse ⟨rfl, rfl, Nat.le_of_ble_eq_true rfl, Nat.le_of_ble_eq_true rfl⟩ rfl rfl (Nat.le_of_ble_eq_true rfl) dX5_carry_16 rfl (fun r4 M3 => ?_)
    refine WO.if_ne (tg := 24) (n := 22) hA dX5_carry_19 (by decide) rfl (fun _ => ?_) (fun _ => ?_)
    · refine WO.iconst (x := (-1 : Int32)) (n := 23) hA dX5_carry_22 (by decide) rfl ?_
      exact WO.iret hA dX5_carry_23
    · refine WO.aload_n (n := 25) hA dX5_carry_24 0 rfl rfl ?_
      refine WO.getR (j := 0) (p := 1) (n := 28) hA (x_0 hw) rfl fiX5_carry_X5 (by decide) rfl fkX5_carry_12 dX5_carry_25 rfl ?_
      refine WO.getR (j := 3) (p := 5) (n := 31) hA (st_0 hw st1) rfl fiX5_carry_X3 (by decide) rfl fkX5_carry_119 dX5_carry_28 rfl ?_
      refine WO.iload_n (n := 32) hA dX5_carry_31 1 rfl rfl ?_
      refine WO.iald (n := 33) hA (st_4 hw st1) dX5_carry_32 rfl (fun _ => ?_)
      refine WO.top (fun x_5 => ?_)
      refine WO.istore_n (i := 3) (lv' := [(3, .int x_5), (0, .ref (w.2.1 0)), (1, .int x1), (2, .int x2)]) (n := 34) hA dX5_carry_33 rfl (by decide) rfl rfl ?_
      refine WO.aload_n (n := 35) hA dX5_carry_34 1 rfl rfl ?_
      refine WO.getR (j := 0) (p := 1) (n := 38) hA (x_0 hw) rfl fiX5_carry_X5 (by decide) rfl fkX5_carry_12 dX5_carry_35 rfl ?_
      refine WO.getR (j := 3) (p := 5) (n := 41) hA (st_0 hw st1) rfl fiX5_carry_X3 (by decide) rfl fkX5_carry_119 dX5_carry_38 rfl ?_
      refine WO.iload_n (n := 42) hA dX5_carry_41 2 rfl rfl ?_
      refine WO.iload_n (n := 43) hA dX5_carry_42 3 rfl rfl ?_
      refine WO.iast (n := 44) hA (st_4 hw st1) dX5_carry_43 rfl (fun _ => ?_)
      refine WO.mem (fun M6 => ?_)
      refine WO.iload_n (n := 45) hA dX5_carry_44 0 rfl rfl ?_
      exact WO.iret hA dX5_carry_45
/- X5_answerOfTrial -/
abbrev rmX5_answerOfTrial : Room := { frames := 1, cells := 0, slots := 0, locals := 22 }
theorem mdX5_answerOfTrial : yX5_answerOfTrial.cls = RX5 ∧ yX5_answerOfTrial.cls ≠ "java/lang/invoke/MethodHandle" ∧ yX5_answerOfTrial.cls ≠ "java/lang/invoke/VarHandle" ∧ (parseMethodDescriptor yX5_answerOfTrial.desc).map (fun d => d.parameters.length) = some 1 := by decide +kernel
theorem fkX5_answerOfTrial_18 : Cond.fieldLink RX5 18 (TX5 1).1 (TX5 1).2.1 (TX5 1).2.2.1 ∈ wsX5_answerOfTrial := by decide +kernel
theorem fiX5_answerOfTrial_X5 : ∀ q ∈ u_ws RX5 TX5 10, q ∈ wsX5_answerOfTrial := by decide +kernel
theorem fkX5_answerOfTrial_119 : Cond.fieldLink RX5 119 (TX3 3).1 (TX3 3).2.1 (TX3 3).2.2.1 ∈ wsX5_answerOfTrial := by decide +kernel
theorem fiX5_answerOfTrial_X3 : ∀ q ∈ u_ws RX3 TX3 10, q ∈ wsX5_answerOfTrial := by decide +kernel
theorem fkX5_answerOfTrial_187 : Cond.fieldLink RX5 187 (TX3 8).1 (TX3 8).2.1 (TX3 8).2.2.1 ∈ wsX5_answerOfTrial := by decide +kernel
theorem fkX5_answerOfTrial_270 : Cond.fieldLink RX5 270 (TX3 9).1 (TX3 9).2.1 (TX3 9).2.2.1 ∈ wsX5_answerOfTrial := by decide +kernel
noncomputable def f_X5_answerOfTrial (x1 : Int32) (M : Mem) : Option (Int32 × Mem) := if x1 = (0 : Int32) then (bd (f_X3_stuffedClocks 7 M) (fun r3 M2 => some (r3, M2))) else if x1 = (1 : Int32) then (bd (f_X3_hasClock 7 (x1 - (10 : Int32)) M) (fun r6 M5 => if r6 = 0 then (some ((-9 : Int32), M5)) else (grd (x1 - (10 : Int32)) 4 (some ((M5 11 (x1 - (10 : Int32)).toNatClampNeg), M5))))) else if x1 = (2 : Int32) then (some ((M 7 8), M)) else if x1 = (3 : Int32) then (some ((M 7 9), M)) else if x1 = (4 : Int32) then (bd (f_X3_housesWithClocks 7 M) (fun r11 M10 => some (r11, M10))) else (bd (f_X3_hasClock 7 (x1 - (10 : Int32)) M) (fun r13 M12 => if r13 = 0 then (some ((-9 : Int32), M12)) else (grd (x1 - (10 : Int32)) 4 (some ((M12 11 (x1 - (10 : Int32)).toNatClampNeg), M12)))))
set_option maxHeartbeats 4000000 in
set_option maxRecDepth 100000 in
theorem c_X5_answerOfTrial (l : Launch) (w : Cw) (hw : w.2.2.2.2.2 = shX) (x1 : Int32) (M : Mem) : Ok l w eI yX5_answerOfTrial wsX5_answerOfTrial rmX5_answerOfTrial [.ref (w.2.1 0), .int x1] M (f_X5_answerOfTrial x1 M) := by
  refine Ok.of (cc := cX5_answerOfTrial) (nL := 2) (ret := (some .int)) (lv := [(0, .ref (w.2.1 0)), (1, .int x1)]) (by decide) rfl (Nat.le_of_ble_eq_true rfl) rfl (fun v hv hA => ?_)
  subst hv
  have hA : Act v w RX5 wsX5_answerOfTrial cX5_answerOfTrial 2 (some .int) := hA
  unfold f_X5_answerOfTrial
  refine WO.iload_n (n := 1) hA dX5_answerOfTrial_0 1 rfl rfl ?_
  refine WO.ite (fun hs1 => ?_) (fun hs1 => ?_)
  · refine WO.tin (n := 36) hA (0 : Int32) hs1 dX5_answerOfTrial_1 (by decide) (by decide) rfl (by decide) ?_
    refine WO.aload_n (n := 37) hA dX5_answerOfTrial_36 0 rfl rfl ?_
    refine WO.getR (j := 1) (p := 7) (n := 40) hA (x_0 hw) rfl fiX5_answerOfTrial_X5 (by decide) rfl fkX5_answerOfTrial_18 dX5_answerOfTrial_37 rfl ?_
    refine WO.callVi (As := []) (rest := []) (n := 43) hA (c_X3_stuffedClocks v.2.1 w hw 7 st7 M) gX5_answerOfTrial_X3_stuffedClocks rfl (st_0 hw st7) rfl mdX3_stuffedClocks ⟨rfl, rfl, Nat.le_of_ble_eq_true rfl, Nat.le_of_ble_eq_true rfl⟩ rfl rfl (Nat.le_of_ble_eq_true rfl) dX5_answerOfTrial_40 rfl (fun r3 M2 => ?_)
    exact WO.iret hA dX5_answerOfTrial_43
  · refine WO.ite (fun hs4 => ?_) (fun hs4 => ?_)
    · refine WO.tin (n := 68) hA (1 : Int32) hs4 dX5_answerOfTrial_1 (by decide) (by decide) rfl (by decide) ?_
      refine WO.aload_n (n := 69) hA dX5_answerOfTrial_68 0 rfl rfl ?_
      refine WO.getR (j := 1) (p := 7) (n := 72) hA (x_0 hw) rfl fiX5_answerOfTrial_X5 (by decide) rfl fkX5_answerOfTrial_18 dX5_answerOfTrial_69 rfl ?_
      refine WO.iload_n (n := 73) hA dX5_answerOfTrial_72 1 rfl rfl ?_
      refine WO.bipush (x := (10 : Int32)) (n := 75) hA dX5_answerOfTrial_73 (by decide) rfl ?_
      refine WO.isub (n := 76) hA dX5_answerOfTrial_75 rfl ?_
      refine WO.callVi (As := [.int (x1 - (10 : Int32))]) (rest := []) (n := 79) hA (c_X3_hasClock v.2.1 w hw 7 (x1 - (10 : Int32)) st7 M) gX5_answerOfTrial_X3_hasClock rfl (st_0 hw st7) rfl mdX3_hasClock ⟨rfl, rfl, Nat.le_of_ble_eq_true rfl, Nat.le_of_ble_eq_true rfl⟩ rfl rfl (Nat.le_of_ble_eq_true rfl) dX5_answerOfTrial_76 rfl (fun r6 M5 => ?_)
      refine WO.if_eq (tg := 97) (n := 82) hA dX5_answerOfTrial_79 (by decide) rfl (fun _ => ?_) (fun _ => ?_)
      · refine WO.bipush (x := (-9 : Int32)) (n := 99) hA dX5_answerOfTrial_97 (by decide) rfl ?_
        exact WO.iret hA dX5_answerOfTrial_99
      · refine WO.aload_n (n := 83) hA dX5_answerOfTrial_82 0 rfl rfl ?_
        refine WO.getR (j := 1) (p := 7) (n := 86) hA (x_0 hw) rfl fiX5_answerOfTrial_X5 (by decide) rfl fkX5_answerOfTrial_18 dX5_answerOfTrial_83 rfl ?_
        refine WO.getR (j := 3) (p := 11) (n := 89) hA (st_0 hw st7) rfl fiX5_answerOfTrial_X3 (by decide) rfl fkX5_answerOfTrial_119 dX5_answerOfTrial_86 rfl ?_
        refine WO.iload_n (n := 90) hA dX5_answerOfTrial_89 1 rfl rfl ?_
        refine WO.bipush (x := (10 : Int32)) (n := 92) hA dX5_answerOfTrial_90 (by decide) rfl ?_
        refine WO.isub (n := 93) hA dX5_answerOfTrial_92 rfl ?_
        refine WO.iald (n := 94) hA (st_4 hw st7) dX5_answerOfTrial_93 rfl (fun _ => ?_)
        refine WO.goto (n := 99) hA dX5_answerOfTrial_94 (by decide) ?_
        exact WO.iret hA dX5_answerOfTrial_99
    · refine WO.ite (fun hs7 => ?_) (fun hs7 => ?_)
      · refine WO.tin (n := 44) hA (2 : Int32) hs7 dX5_answerOfTrial_1 (by decide) (by decide) rfl (by decide) ?_
        refine WO.aload_n (n := 45) hA dX5_answerOfTrial_44 0 rfl rfl ?_
        refine WO.getR (j := 1) (p := 7) (n := 48) hA (x_0 hw) rfl fiX5_answerOfTrial_X5 (by decide) rfl fkX5_answerOfTrial_18 dX5_answerOfTrial_45 rfl ?_
        refine WO.getI (j := 8) (n := 51) hA (st_0 hw st7) rfl fiX5_answerOfTrial_X3 (by decide) rfl fkX5_answerOfTrial_187 dX5_answerOfTrial_48 rfl ?_
        exact WO.iret hA dX5_answerOfTrial_51
      · refine WO.ite (fun hs8 => ?_) (fun hs8 => ?_)
        · refine WO.tin (n := 52) hA (3 : Int32) hs8 dX5_answerOfTrial_1 (by decide) (by decide) rfl (by decide) ?_
          refine WO.aload_n (n := 53) hA dX5_answerOfTrial_52 0 rfl rfl ?_
          refine WO.getR (j := 1) (p := 7) (n := 56) hA (x_0 hw) rfl fiX5_answerOfTrial_X5 (by decide) rfl fkX5_answerOfTrial_18 dX5_answerOfTrial_53 rfl ?_
          refine WO.getI (j := 9) (n := 59) hA (st_0 hw st7) rfl fiX5_answerOfTrial_X3 (by decide) rfl fkX5_answerOfTrial_270 dX5_answerOfTrial_56 rfl ?_
          exact WO.iret hA dX5_answerOfTrial_59
        · refine WO.ite (fun hs9 => ?_) (fun hs9 => ?_)
          · refine WO.tin (n := 60) hA (4 : Int32) hs9 dX5_answerOfTrial_1 (by decide) (by decide) rfl (by decide) ?_
            refine WO.aload_n (n := 61) hA dX5_answerOfTrial_60 0 rfl rfl ?_
            refine WO.getR (j := 1) (p := 7) (n := 64) hA (x_0 hw) rfl fiX5_answerOfTrial_X5 (by decide) rfl fkX5_answerOfTrial_18 dX5_answerOfTrial_61 rfl ?_
            refine WO.callVi (As := []) (rest := []) (n := 67) hA (c_X3_housesWithClocks v.2.1 w hw 7 st7 M) gX5_answerOfTrial_X3_housesWithClocks rfl (st_0 hw st7) rfl mdX3_housesWithClocks ⟨rfl, rfl, Nat.le_of_ble_eq_true rfl, Nat.le_of_ble_eq_true rfl⟩ rfl rfl (Nat.le_of_ble_eq_true rfl) dX5_answerOfTrial_64 rfl (fun r11 M10 => ?_)
            exact WO.iret hA dX5_answerOfTrial_67
          · refine WO.tout (n := 68) hA dX5_answerOfTrial_1 (by have ehs1 := lv_neT (a := 0) hs1 (by decide); have ehs4 := lv_neT (a := 1) hs4 (by decide); have ehs7 := lv_neT (a := 2) hs7 (by decide); have ehs8 := lv_neT (a := 3) hs8 (by decide); have ehs9 := lv_neT (a := 4) hs9 (by decide); omega) (by decide) ?_
            refine WO.aload_n (n := 69) hA dX5_answerOfTrial_68 0 rfl rfl ?_
            refine WO.getR (j := 1) (p := 7) (n := 72) hA (x_0 hw) rfl fiX5_answerOfTrial_X5 (by decide) rfl fkX5_answerOfTrial_18 dX5_answerOfTrial_69 rfl ?_
            refine WO.iload_n (n := 73) hA dX5_answerOfTrial_72 1 rfl rfl ?_
            refine WO.bipush (x := (10 : Int32)) (n := 75) hA dX5_answerOfTrial_73 (by decide) rfl ?_
            refine WO.isub (n := 76) hA dX5_answerOfTrial_75 rfl ?_
            refine WO.callVi (As := [.int (x1 - (10 : Int32))]) (rest := []) (n := 79) hA (c_X3_hasClock v.2.1 w hw 7 (x1 - (10 : Int32)) st7 M) gX5_answerOfTrial_X3_hasClock rfl (st_0 hw st7) rfl mdX3_hasClock ⟨rfl, rfl, Nat.le_of_ble_eq_true rfl, Nat.le_of_ble_eq_true rfl⟩ rfl rfl (Nat.le_of_ble_eq_true rfl) dX5_answerOfTrial_76 rfl (fun r13 M12 => ?_)
            refine WO.if_eq (tg := 97) (n := 82) hA dX5_answerOfTrial_79 (by decide) rfl (fun _ => ?_) (fun _ => ?_)
            · refine WO.bipush (x := (-9 : Int32)) (n := 99) hA dX5_answerOfTrial_97 (by decide) rfl ?_
              exact WO.iret hA dX5_answerOfTrial_99
            · refine WO.aload_n (n := 83) hA dX5_answerOfTrial_82 0 rfl rfl ?_
              refine WO.getR (j := 1) (p := 7) (n := 86) hA (x_0 hw) rfl fiX5_answerOfTrial_X5 (by decide) rfl fkX5_answerOfTrial_18 dX5_answerOfTrial_83 rfl ?_
              refine WO.getR (j := 3) (p := 11) (n := 89) hA (st_0 hw st7) rfl fiX5_answerOfTrial_X3 (by decide) rfl fkX5_answerOfTrial_119 dX5_answerOfTrial_86 rfl ?_
              refine WO.iload_n (n := 90) hA dX5_answerOfTrial_89 1 rfl rfl ?_
              refine WO.bipush (x := (10 : Int32)) (n := 92) hA dX5_answerOfTrial_90 (by decide) rfl ?_
              refine WO.isub (n := 93) hA dX5_answerOfTrial_92 rfl ?_
              refine WO.iald (n := 94) hA (st_4 hw st7) dX5_answerOfTrial_93 rfl (fun _ => ?_)
              refine WO.goto (n := 99) hA dX5_answerOfTrial_94 (by decide) ?_
              exact WO.iret hA dX5_answerOfTrial_99
/- X5_isAskedOfSeason -/
abbrev rmX5_isAskedOfSeason : Room := { frames := 0, cells := 0, slots := 0, locals := 0 }
theorem mdX5_isAskedOfSeason : yX5_isAskedOfSeason.cls ≠ "java/lang/invoke/MethodHandle" ∧ yX5_isAskedOfSeason.cls ≠ "java/lang/invoke/VarHandle" ∧ (parseMethodDescriptor yX5_isAskedOfSeason.desc).map (fun d => d.parameters.length) = some 1 := by decide +kernel
noncomputable def f_X5_isAskedOfSeason (x0 : Int32) (M : Mem) : Option (Int32 × Mem) := if x0 < 0 then (if x0 < (10 : Int32) then (some ((0 : Int32), M)) else (if (14 : Int32) ≤ x0 then (some ((0 : Int32), M)) else (some ((1 : Int32), M)))) else (if x0 ≤ (4 : Int32) then (some ((1 : Int32), M)) else (if x0 < (10 : Int32) then (some ((0 : Int32), M)) else (if (14 : Int32) ≤ x0 then (some ((0 : Int32), M)) else (some ((1 : Int32), M)))))
set_option maxHeartbeats 4000000 in
set_option maxRecDepth 100000 in
theorem c_X5_isAskedOfSeason (l : Launch) (w : Cw) (hw : w.2.2.2.2.2 = shX) (x0 : Int32) (M : Mem) : Ok l w eI yX5_isAskedOfSeason wsX5_isAskedOfSeason rmX5_isAskedOfSeason [.int x0] M (f_X5_isAskedOfSeason x0 M) := by
  refine Ok.of (cc := cX5_isAskedOfSeason) (nL := 1) (ret := (some .boolean)) (lv := [(0, .int x0)]) (by decide) rfl (Nat.le_of_ble_eq_true rfl) rfl (fun v hv hA => ?_)
  subst hv
  have hA : Act v w RX5 wsX5_isAskedOfSeason cX5_isAskedOfSeason 1 (some .boolean) := hA
  unfold f_X5_isAskedOfSeason
  refine WO.iload_n (n := 1) hA dX5_isAskedOfSeason_0 0 rfl rfl ?_
  refine WO.if_lt (tg := 9) (n := 4) hA dX5_isAskedOfSeason_1 (by decide) rfl (fun _ => ?_) (fun _ => ?_)
  · refine WO.iload_n (n := 10) hA dX5_isAskedOfSeason_9 0 rfl rfl ?_
    refine WO.bipush (x := (10 : Int32)) (n := 12) hA dX5_isAskedOfSeason_10 (by decide) rfl ?_
    refine WO.icmp_lt (tg := 25) (n := 15) hA dX5_isAskedOfSeason_12 (by decide) rfl (fun _ => ?_) (fun _ => ?_)
    · refine WO.iconst (x := (0 : Int32)) (n := 26) hA dX5_isAskedOfSeason_25 (by decide) rfl ?_
      exact WO.zretc hA (by decide) dX5_isAskedOfSeason_26
    · refine WO.iload_n (n := 16) hA dX5_isAskedOfSeason_15 0 rfl rfl ?_
      refine WO.bipush (x := (14 : Int32)) (n := 18) hA dX5_isAskedOfSeason_16 (by decide) rfl ?_
      refine WO.icmp_ge (tg := 25) (n := 21) hA dX5_isAskedOfSeason_18 (by decide) rfl (fun _ => ?_) (fun _ => ?_)
      · refine WO.iconst (x := (0 : Int32)) (n := 26) hA dX5_isAskedOfSeason_25 (by decide) rfl ?_
        exact WO.zretc hA (by decide) dX5_isAskedOfSeason_26
      · refine WO.iconst (x := (1 : Int32)) (n := 22) hA dX5_isAskedOfSeason_21 (by decide) rfl ?_
        refine WO.goto (n := 26) hA dX5_isAskedOfSeason_22 (by decide) ?_
        exact WO.zretc hA (by decide) dX5_isAskedOfSeason_26
  · refine WO.iload_n (n := 5) hA dX5_isAskedOfSeason_4 0 rfl rfl ?_
    refine WO.iconst (x := (4 : Int32)) (n := 6) hA dX5_isAskedOfSeason_5 (by decide) rfl ?_
    refine WO.icmp_le (tg := 21) (n := 9) hA dX5_isAskedOfSeason_6 (by decide) rfl (fun _ => ?_) (fun _ => ?_)
    · refine WO.iconst (x := (1 : Int32)) (n := 22) hA dX5_isAskedOfSeason_21 (by decide) rfl ?_
      refine WO.goto (n := 26) hA dX5_isAskedOfSeason_22 (by decide) ?_
      exact WO.zretc hA (by decide) dX5_isAskedOfSeason_26
    · refine WO.iload_n (n := 10) hA dX5_isAskedOfSeason_9 0 rfl rfl ?_
      refine WO.bipush (x := (10 : Int32)) (n := 12) hA dX5_isAskedOfSeason_10 (by decide) rfl ?_
      refine WO.icmp_lt (tg := 25) (n := 15) hA dX5_isAskedOfSeason_12 (by decide) rfl (fun _ => ?_) (fun _ => ?_)
      · refine WO.iconst (x := (0 : Int32)) (n := 26) hA dX5_isAskedOfSeason_25 (by decide) rfl ?_
        exact WO.zretc hA (by decide) dX5_isAskedOfSeason_26
      · refine WO.iload_n (n := 16) hA dX5_isAskedOfSeason_15 0 rfl rfl ?_
        refine WO.bipush (x := (14 : Int32)) (n := 18) hA dX5_isAskedOfSeason_16 (by decide) rfl ?_
        refine WO.icmp_ge (tg := 25) (n := 21) hA dX5_isAskedOfSeason_18 (by decide) rfl (fun _ => ?_) (fun _ => ?_)
        · refine WO.iconst (x := (0 : Int32)) (n := 26) hA dX5_isAskedOfSeason_25 (by decide) rfl ?_
          exact WO.zretc hA (by decide) dX5_isAskedOfSeason_26
        · refine WO.iconst (x := (1 : Int32)) (n := 22) hA dX5_isAskedOfSeason_21 (by decide) rfl ?_
          refine WO.goto (n := 26) hA dX5_isAskedOfSeason_22 (by decide) ?_
          exact WO.zretc hA (by decide) dX5_isAskedOfSeason_26
/- X5_canCarry -/
abbrev rmX5_canCarry : Room := { frames := 1, cells := 0, slots := 0, locals := 21 }
theorem mdX5_canCarry : yX5_canCarry.cls = RX5 ∧ yX5_canCarry.cls ≠ "java/lang/invoke/MethodHandle" ∧ yX5_canCarry.cls ≠ "java/lang/invoke/VarHandle" ∧ (parseMethodDescriptor yX5_canCarry.desc).map (fun d => d.parameters.length) = some 2 := by decide +kernel
theorem fkX5_canCarry_18 : Cond.fieldLink RX5 18 (TX5 1).1 (TX5 1).2.1 (TX5 1).2.2.1 ∈ wsX5_canCarry := by decide +kernel
theorem fiX5_canCarry_X5 : ∀ q ∈ u_ws RX5 TX5 10, q ∈ wsX5_canCarry := by decide +kernel
theorem fkX5_canCarry_119 : Cond.fieldLink RX5 119 (TX3 3).1 (TX3 3).2.1 (TX3 3).2.2.1 ∈ wsX5_canCarry := by decide +kernel
theorem fiX5_canCarry_X3 : ∀ q ∈ u_ws RX3 TX3 10, q ∈ wsX5_canCarry := by decide +kernel
noncomputable def f_X5_canCarry (x1 : Int32) (x2 : Int32) (M : Mem) : Option (Int32 × Mem) := bd (f_X3_hasClock 7 x1 M) (fun r2 M1 => if r2 = 0 then (some ((0 : Int32), M1)) else (grd x1 4 (mlt (mu M1 11 x1.toNatClampNeg x2) (fun M3 => some ((1 : Int32), M3)))))
set_option maxHeartbeats 4000000 in
set_option maxRecDepth 100000 in
theorem c_X5_canCarry (l : Launch) (w : Cw) (hw : w.2.2.2.2.2 = shX) (x1 : Int32) (x2 : Int32) (M : Mem) : Ok l w eI yX5_canCarry wsX5_canCarry rmX5_canCarry [.ref (w.2.1 0), .int x1, .int x2] M (f_X5_canCarry x1 x2 M) := by
  refine Ok.of (cc := cX5_canCarry) (nL := 3) (ret := (some .boolean)) (lv := [(0, .ref (w.2.1 0)), (1, .int x1), (2, .int x2)]) (by decide) rfl (Nat.le_of_ble_eq_true rfl) rfl (fun v hv hA => ?_)
  subst hv
  have hA : Act v w RX5 wsX5_canCarry cX5_canCarry 3 (some .boolean) := hA
  unfold f_X5_canCarry
  refine WO.aload_n (n := 1) hA dX5_canCarry_0 0 rfl rfl ?_
  refine WO.getR (j := 1) (p := 7) (n := 4) hA (x_0 hw) rfl fiX5_canCarry_X5 (by decide) rfl fkX5_canCarry_18 dX5_canCarry_1 rfl ?_
  refine WO.iload_n (n := 5) hA dX5_canCarry_4 1 rfl rfl ?_
  refine WO.callVi (As := [.int x1]) (rest := []) (n := 8) hA (c_X3_hasClock v.2.1 w hw 7 x1 st7 M) gX5_canCarry_X3_hasClock rfl (st_0 hw st7) rfl mdX3_hasClock ⟨rfl, rfl, Nat.le_of_ble_eq_true rfl, Nat.le_of_ble_eq_true rfl⟩ rfl rfl (Nat.le_of_ble_eq_true rfl) dX5_canCarry_5 rfl (fun r2 M1 => ?_)
  refine WO.if_ne (tg := 13) (n := 11) hA dX5_canCarry_8 (by decide) rfl (fun _ => ?_) (fun _ => ?_)
  · refine WO.iconst (x := (0 : Int32)) (n := 12) hA dX5_canCarry_11 (by decide) rfl ?_
    exact WO.zretc hA (by decide) dX5_canCarry_12
  · refine WO.aload_n (n := 14) hA dX5_canCarry_13 0 rfl rfl ?_
    refine WO.getR (j := 1) (p := 7) (n := 17) hA (x_0 hw) rfl fiX5_canCarry_X5 (by decide) rfl fkX5_canCarry_18 dX5_canCarry_14 rfl ?_
    refine WO.getR (j := 3) (p := 11) (n := 20) hA (st_0 hw st7) rfl fiX5_canCarry_X3 (by decide) rfl fkX5_canCarry_119 dX5_canCarry_17 rfl ?_
    refine WO.iload_n (n := 21) hA dX5_canCarry_20 1 rfl rfl ?_
    refine WO.iload_n (n := 22) hA dX5_canCarry_21 2 rfl rfl ?_
    refine WO.iast (n := 23) hA (st_4 hw st7) dX5_canCarry_22 rfl (fun _ => ?_)
    refine WO.mem (fun M3 => ?_)
    refine WO.iconst (x := (1 : Int32)) (n := 24) hA dX5_canCarry_23 (by decide) rfl ?_
    exact WO.zretc hA (by decide) dX5_canCarry_24
