/- X6_ofHouse -/
abbrev rmX6_ofHouse : Room := { frames := 4, cells := 0, slots := 0, locals := 89 }
theorem mdX6_ofHouse : yX6_ofHouse.cls = RX6 ∧ yX6_ofHouse.cls ≠ "java/lang/invoke/MethodHandle" ∧ yX6_ofHouse.cls ≠ "java/lang/invoke/VarHandle" ∧ (parseMethodDescriptor yX6_ofHouse.desc).map (fun d => d.parameters.length) = some 2 := by decide +kernel
theorem fkX6_ofHouse_19 : Cond.fieldLink RX6 19 (TX6 10).1 (TX6 10).2.1 (TX6 10).2.2.1 ∈ wsX6_ofHouse := by decide +kernel
theorem fiX6_ofHouse_X6 : ∀ q ∈ u_ws RX6 TX6 30, q ∈ wsX6_ofHouse := by decide +kernel
theorem fkX6_ofHouse_22 : Cond.fieldLink RX6 22 (TX6 11).1 (TX6 11).2.1 (TX6 11).2.2.1 ∈ wsX6_ofHouse := by decide +kernel
theorem fkX6_ofHouse_71 : Cond.fieldLink RX6 71 (TX6 7).1 (TX6 7).2.1 (TX6 7).2.2.1 ∈ wsX6_ofHouse := by decide +kernel
theorem fkX6_ofHouse_28 : Cond.fieldLink RX6 28 (TX6 13).1 (TX6 13).2.1 (TX6 13).2.2.1 ∈ wsX6_ofHouse := by decide +kernel
noncomputable def f_X6_ofHouse_L67 (x1 : Int32) (x2 : Int32) (kx : Int32 → Mem → Option (Int32 × Mem)) : Nat → Int32 → Int32 → Mem → Option (Int32 × Mem)
  | 0, _, _, _ => none
  | n + 1, x3, x4, M => if (M 0 7) ≤ x4 then (kx x3 M) else (if x2 = (3 : Int32) then (grd x4 4 (if (M 7 x4.toNatClampNeg) = x1 then (if (1 : Int32) = 0 then (ilt (x3 ||| (0 : Int32)) (fun x_7 => f_X6_ofHouse_L67 x1 x2 kx n x_7 (x4 + (1 : Int32)) M)) else (ilt (x3 ||| ((1 : Int32) <<< (x4 &&& 31))) (fun x_8 => f_X6_ofHouse_L67 x1 x2 kx n x_8 (x4 + (1 : Int32)) M))) else (if (0 : Int32) = 0 then (ilt (x3 ||| (0 : Int32)) (fun x_9 => f_X6_ofHouse_L67 x1 x2 kx n x_9 (x4 + (1 : Int32)) M)) else (ilt (x3 ||| ((1 : Int32) <<< (x4 &&& 31))) (fun x_10 => f_X6_ofHouse_L67 x1 x2 kx n x_10 (x4 + (1 : Int32)) M))))) else (grd x4 4 (bd (f_X6_wakesFrom x1 x4 (M 7 x4.toNatClampNeg) M) (fun r12 M11 => if r12 = 0 then (ilt (x3 ||| (0 : Int32)) (fun x_13 => f_X6_ofHouse_L67 x1 x2 kx n x_13 (x4 + (1 : Int32)) M11)) else (ilt (x3 ||| ((1 : Int32) <<< (x4 &&& 31))) (fun x_14 => f_X6_ofHouse_L67 x1 x2 kx n x_14 (x4 + (1 : Int32)) M11))))))
noncomputable def f_X6_ofHouse (x1 : Int32) (x2 : Int32) (M : Mem) : Option (Int32 × Mem) := bd (f_X6_isHouse x1 M) (fun r2 M1 => if r2 = 0 then (some ((-1 : Int32), M1)) else (bd (f_X6_within x2 (3 : Int32) (4 : Int32) M1) (fun r4 M3 => if r4 = 0 then (if x2 = 0 then (grd x1 6 (some ((M3 4 x1.toNatClampNeg), M3))) else (if x2 = (1 : Int32) then (grd x1 6 (some ((M3 5 x1.toNatClampNeg), M3))) else (if x2 = (2 : Int32) then (bd (f_X6_needsOf x1 M3) (fun r6 M5 => some (r6, M5))) else (some ((-2 : Int32), M3))))) else (f_X6_ofHouse_L67 x1 x2 (fun e15 M16 => some (e15, M16)) FU (0 : Int32) (0 : Int32) M3))))
set_option maxHeartbeats 4000000 in
set_option maxRecDepth 100000 in
theorem w_X6_ofHouse_L67 {v : Av} {w : Cw} (hw : w.2.2.2.2.2 = shM) (hA : Act v w RX6 wsX6_ofHouse cX6_ofHouse 6 (some .int)) (x1 : Int32) (x2 : Int32) (kx : Int32 → Mem → Option (Int32 × Mem)) (hk : ∀ (y3 : Int32) (M : Mem), WO v w rmX6_ofHouse 6 eI (kx y3 M) 138 [(3, .int y3)] [] M) : ∀ (n : Nat) (x3 : Int32) (x4 : Int32) (M : Mem), WO v w rmX6_ofHouse 6 eI (f_X6_ofHouse_L67 x1 x2 kx n x3 x4 M) 67 [(0, .ref (w.2.1 0)), (1, .int x1), (2, .int x2), (3, .int x3), (4, .int x4)] [] M := by
  intro n
  induction n with
  | zero => intro x3 x4 M; exact WO.nothing
  | succ n ih =>
    intro x3 x4 M
    rw [f_X6_ofHouse_L67]
    refine WO.iload (n := 69) hA dX6_ofHouse_67 4 rfl rfl ?_
    refine WO.aload_n (n := 70) hA dX6_ofHouse_69 0 rfl rfl ?_
    refine WO.getI (j := 7) (n := 73) hA (m_0 hw) rfl fiX6_ofHouse_X6 (by decide) rfl fkX6_ofHouse_71 dX6_ofHouse_70 rfl ?_
    refine WO.icmp_ge (tg := 138) (n := 76) hA dX6_ofHouse_73 (by decide) rfl (fun _ => ?_) (fun _ => ?_)
    · refine WO.sub (lv' := [(3, .int x3)]) [3] rfl ?_
      exact hk x3 M
    · refine WO.iload_n (n := 77) hA dX6_ofHouse_76 2 rfl rfl ?_
      refine WO.iconst (x := (3 : Int32)) (n := 78) hA dX6_ofHouse_77 (by decide) rfl ?_
      refine WO.icmp_ne (tg := 100) (n := 81) hA dX6_ofHouse_78 (by decide) rfl (fun _ => ?_) (fun _ => ?_)
      · refine WO.aload_n (n := 82) hA dX6_ofHouse_81 0 rfl rfl ?_
        refine WO.getR (j := 13) (p := 7) (n := 85) hA (m_0 hw) rfl fiX6_ofHouse_X6 (by decide) rfl fkX6_ofHouse_28 dX6_ofHouse_82 rfl ?_
        refine WO.iload (n := 87) hA dX6_ofHouse_85 4 rfl rfl ?_
        refine WO.iald (n := 88) hA (m_7 hw) dX6_ofHouse_87 rfl (fun _ => ?_)
        refine WO.iload_n (n := 89) hA dX6_ofHouse_88 1 rfl rfl ?_
        refine WO.icmp_ne (tg := 96) (n := 92) hA dX6_ofHouse_89 (by decide) rfl (fun _ => ?_) (fun _ => ?_)
        · refine WO.iconst (x := (1 : Int32)) (n := 93) hA dX6_ofHouse_92 (by decide) rfl ?_
          refine WO.goto (n := 114) hA dX6_ofHouse_93 (by decide) ?_
          refine WO.istore (lv' := [(5, .int (1 : Int32)), (0, .ref (w.2.1 0)), (1, .int x1), (2, .int x2), (3, .int x3), (4, .int x4)]) (n := 116) hA dX6_ofHouse_114 (by decide) rfl rfl ?_
          refine WO.iload_n (n := 117) hA dX6_ofHouse_116 4 rfl rfl ?_
          refine WO.iload (n := 119) hA dX6_ofHouse_117 0 rfl rfl ?_
          refine WO.if_eq (tg := 129) (n := 122) hA dX6_ofHouse_119 (by decide) rfl (fun _ => ?_) (fun _ => ?_)
          · refine WO.iconst (x := (0 : Int32)) (n := 130) hA dX6_ofHouse_129 (by decide) rfl ?_
            refine WO.ior (n := 131) hA dX6_ofHouse_130 rfl ?_
            refine WO.top (fun x_7 => ?_)
            refine WO.istore_n (i := 3) (lv' := [(3, .int x_7), (5, .int (1 : Int32)), (0, .ref (w.2.1 0)), (1, .int x1), (2, .int x2), (4, .int x4)]) (n := 132) hA dX6_ofHouse_131 rfl (by decide) rfl rfl ?_
            refine WO.iinc (y := (1 : Int32)) (lv' := [(4, .int (x4 + (1 : Int32))), (3, .int x_7), (5, .int (1 : Int32)), (0, .ref (w.2.1 0)), (1, .int x1), (2, .int x2)]) (n := 135) hA dX6_ofHouse_132 5 rfl (by decide) (by decide) rfl rfl ?_
            refine WO.goto (n := 67) hA dX6_ofHouse_135 (by decide) ?_
            refine WO.sub (lv' := [(0, .ref (w.2.1 0)), (1, .int x1), (2, .int x2), (3, .int x_7), (4, .int (x4 + (1 : Int32)))]) [3, 4, 5, 1, 0] rfl ?_
            exact ih x_7 (x4 + (1 : Int32)) M
          · refine WO.iconst (x := (1 : Int32)) (n := 123) hA dX6_ofHouse_122 (by decide) rfl ?_
            refine WO.iload (n := 125) hA dX6_ofHouse_123 5 rfl rfl ?_
            refine WO.ishl (n := 126) hA dX6_ofHouse_125 rfl ?_
            refine WO.goto (n := 130) hA dX6_ofHouse_126 (by decide) ?_
            refine WO.ior (n := 131) hA dX6_ofHouse_130 rfl ?_
            refine WO.top (fun x_8 => ?_)
            refine WO.istore_n (i := 3) (lv' := [(3, .int x_8), (5, .int (1 : Int32)), (0, .ref (w.2.1 0)), (1, .int x1), (2, .int x2), (4, .int x4)]) (n := 132) hA dX6_ofHouse_131 rfl (by decide) rfl rfl ?_
            refine WO.iinc (y := (1 : Int32)) (lv' := [(4, .int (x4 + (1 : Int32))), (3, .int x_8), (5, .int (1 : Int32)), (0, .ref (w.2.1 0)), (1, .int x1), (2, .int x2)]) (n := 135) hA dX6_ofHouse_132 5 rfl (by decide) (by decide) rfl rfl ?_
            refine WO.goto (n := 67) hA dX6_ofHouse_135 (by decide) ?_
            refine WO.sub (lv' := [(0, .ref (w.2.1 0)), (1, .int x1), (2, .int x2), (3, .int x_8), (4, .int (x4 + (1 : Int32)))]) [3, 4, 5, 1, 0] rfl ?_
            exact ih x_8 (x4 + (1 : Int32)) M
        · refine WO.iconst (x := (0 : Int32)) (n := 97) hA dX6_ofHouse_96 (by decide) rfl ?_
          refine WO.goto (n := 114) hA dX6_ofHouse_97 (by decide) ?_
          refine WO.istore (lv' := [(5, .int (0 : Int32)), (0, .ref (w.2.1 0)), (1, .int x1), (2, .int x2), (3, .int x3), (4, .int x4)]) (n := 116) hA dX6_ofHouse_114 (by decide) rfl rfl ?_
          refine WO.iload_n (n := 117) hA dX6_ofHouse_116 4 rfl rfl ?_
          refine WO.iload (n := 119) hA dX6_ofHouse_117 0 rfl rfl ?_
          refine WO.if_eq (tg := 129) (n := 122) hA dX6_ofHouse_119 (by decide) rfl (fun _ => ?_) (fun _ => ?_)
          · refine WO.iconst (x := (0 : Int32)) (n := 130) hA dX6_ofHouse_129 (by decide) rfl ?_
            refine WO.ior (n := 131) hA dX6_ofHouse_130 rfl ?_
            refine WO.top (fun x_9 => ?_)
            refine WO.istore_n (i := 3) (lv' := [(3, .int x_9), (5, .int (0 : Int32)), (0, .ref (w.2.1 0)), (1, .int x1), (2, .int x2), (4, .int x4)]) (n := 132) hA dX6_ofHouse_131 rfl (by decide) rfl rfl ?_
            refine WO.iinc (y := (1 : Int32)) (lv' := [(4, .int (x4 + (1 : Int32))), (3, .int x_9), (5, .int (0 : Int32)), (0, .ref (w.2.1 0)), (1, .int x1), (2, .int x2)]) (n := 135) hA dX6_ofHouse_132 5 rfl (by decide) (by decide) rfl rfl ?_
            refine WO.goto (n := 67) hA dX6_ofHouse_135 (by decide) ?_
            refine WO.sub (lv' := [(0, .ref (w.2.1 0)), (1, .int x1), (2, .int x2), (3, .int x_9), (4, .int (x4 + (1 : Int32)))]) [3, 4, 5, 1, 0] rfl ?_
            exact ih x_9 (x4 + (1 : Int32)) M
          · refine WO.iconst (x := (1 : Int32)) (n := 123) hA dX6_ofHouse_122 (by decide) rfl ?_
            refine WO.iload (n := 125) hA dX6_ofHouse_123 5 rfl rfl ?_
            refine WO.ishl (n := 126) hA dX6_ofHouse_125 rfl ?_
            refine WO.goto (n := 130) hA dX6_ofHouse_126 (by decide) ?_
            refine WO.ior (n := 131) hA dX6_ofHouse_130 rfl ?_
            refine WO.top (fun x_10 => ?_)
            refine WO.istore_n (i := 3) (lv' := [(3, .int x_10), (5, .int (0 : Int32)), (0, .ref (w.2.1 0)), (1, .int x1), (2, .int x2), (4, .int x4)]) (n := 132) hA dX6_ofHouse_131 rfl (by decide) rfl rfl ?_
            refine WO.iinc (y := (1 : Int32)) (lv' := [(4, .int (x4 + (1 : Int32))), (3, .int x_10), (5, .int (0 : Int32)), (0, .ref (w.2.1 0)), (1, .int x1), (2, .int x2)]) (n := 135) hA dX6_ofHouse_132 5 rfl (by decide) (by decide) rfl rfl ?_
            refine WO.goto (n := 67) hA dX6_ofHouse_135 (by decide) ?_
            refine WO.sub (lv' := [(0, .ref (w.2.1 0)), (1, .int x1), (2, .int x2), (3, .int x_10), (4, .int (x4 + (1 : Int32)))]) [3, 4, 5, 1, 0] rfl ?_
            exact ih x_10 (x4 + (1 : Int32)) M
      · refine WO.aload_n (n := 101) hA dX6_ofHouse_100 0 rfl rfl ?_
        refine WO.iload_n (n := 102) hA dX6_ofHouse_101 1 rfl rfl ?_
        refine WO.iload (n := 104) hA dX6_ofHouse_102 4 rfl rfl ?_
        refine WO.aload_n (n := 105) hA dX6_ofHouse_104 0 rfl rfl ?_
        refine WO.getR (j := 13) (p := 7) (n := 108) hA (m_0 hw) rfl fiX6_ofHouse_X6 (by decide) rfl fkX6_ofHouse_28 dX6_ofHouse_105 rfl ?_
        refine WO.iload (n := 110) hA dX6_ofHouse_108 4 rfl rfl ?_
        refine WO.iald (n := 111) hA (m_7 hw) dX6_ofHouse_110 rfl (fun _ => ?_)
        refine WO.callVi (As := [.int x1, .int x4, .int (M 7 x4.toNatClampNeg)]) (rest := []) (n := 114) hA (c_X6_wakesFrom v.2.1 w hw x1 x4 (M 7 x4.toNatClampNeg) M) gX6_ofHouse_X6_wakesFrom rfl (m_0 hw) rfl mdX6_wakesFrom ⟨rfl, rfl, Nat.le_of_ble_eq_true rfl, Nat.le_of_ble_eq_true rfl⟩ rfl rfl (Nat.le_of_ble_eq_true rfl) dX6_ofHouse_111 rfl (fun r12 M11 => ?_)
        refine WO.istore (lv' := [(5, .int r12), (0, .ref (w.2.1 0)), (1, .int x1), (2, .int x2), (3, .int x3), (4, .int x4)]) (n := 116) hA dX6_ofHouse_114 (by decide) rfl rfl ?_
        refine WO.iload_n (n := 117) hA dX6_ofHouse_116 4 rfl rfl ?_
        refine WO.iload (n := 119) hA dX6_ofHouse_117 0 rfl rfl ?_
        refine WO.if_eq (tg := 129) (n := 122) hA dX6_ofHouse_119 (by decide) rfl (fun _ => ?_) (fun _ => ?_)
        · refine WO.iconst (x := (0 : Int32)) (n := 130) hA dX6_ofHouse_129 (by decide) rfl ?_
          refine WO.ior (n := 131) hA dX6_ofHouse_130 rfl ?_
          refine WO.top (fun x_13 => ?_)
          refine WO.istore_n (i := 3) (lv' := [(3, .int x_13), (5, .int r12), (0, .ref (w.2.1 0)), (1, .int x1), (2, .int x2), (4, .int x4)]) (n := 132) hA dX6_ofHouse_131 rfl (by decide) rfl rfl ?_
          refine WO.iinc (y := (1 : Int32)) (lv' := [(4, .int (x4 + (1 : Int32))), (3, .int x_13), (5, .int r12), (0, .ref (w.2.1 0)), (1, .int x1), (2, .int x2)]) (n := 135) hA dX6_ofHouse_132 5 rfl (by decide) (by decide) rfl rfl ?_
          refine WO.goto (n := 67) hA dX6_ofHouse_135 (by decide) ?_
          refine WO.sub (lv' := [(0, .ref (w.2.1 0)), (1, .int x1), (2, .int x2), (3, .int x_13), (4, .int (x4 + (1 : Int32)))]) [3, 4, 5, 1, 0] rfl ?_
          exact ih x_13 (x4 + (1 : Int32)) M11
        · refine WO.iconst (x := (1 : Int32)) (n := 123) hA dX6_ofHouse_122 (by decide) rfl ?_
          refine WO.iload (n := 125) hA dX6_ofHouse_123 5 rfl rfl ?_
          refine WO.ishl (n := 126) hA dX6_ofHouse_125 rfl ?_
          refine WO.goto (n := 130) hA dX6_ofHouse_126 (by decide) ?_
          refine WO.ior (n := 131) hA dX6_ofHouse_130 rfl ?_
          refine WO.top (fun x_14 => ?_)
          refine WO.istore_n (i := 3) (lv' := [(3, .int x_14), (5, .int r12), (0, .ref (w.2.1 0)), (1, .int x1), (2, .int x2), (4, .int x4)]) (n := 132) hA dX6_ofHouse_131 rfl (by decide) rfl rfl ?_
          refine WO.iinc (y := (1 : Int32)) (lv' := [(4, .int (x4 + (1 : Int32))), (3, .int x_14), (5, .int r12), (0, .ref (w.2.1 0)), (1, .int x1), (2, .int x2)]) (n := 135) hA dX6_ofHouse_132 5 rfl (by decide) (by decide) rfl rfl ?_
          refine WO.goto (n := 67) hA dX6_ofHouse_135 (by decide) ?_
          refine WO.sub (lv' := [(0, .ref (w.2.1 0)), (1, .int x1), (2, .int x2), (3, .int x_14), (4, .int (x4 + (1 : Int32)))]) [3, 4, 5, 1, 0] rfl ?_
          exact ih x_14 (x4 + (1 : Int32)) M11
set_option maxHeartbeats 4000000 in
set_option maxRecDepth 100000 in
theorem c_X6_ofHouse (l : Launch) (w : Cw) (hw : w.2.2.2.2.2 = shM) (x1 : Int32) (x2 : Int32) (M : Mem) : Ok l w eI yX6_ofHouse wsX6_ofHouse rmX6_ofHouse [.ref (w.2.1 0), .int x1, .int x2] M (f_X6_ofHouse x1 x2 M) := by
  refine Ok.of (cc := cX6_ofHouse) (nL := 6) (ret := (some .int)) (lv := [(0, .ref (w.2.1 0)), (1, .int x1), (2, .int x2)]) (by decide) rfl (Nat.le_of_ble_eq_true rfl) rfl (fun v hv hA => ?_)
  subst hv
  have hA : Act v w RX6 wsX6_ofHouse cX6_ofHouse 6 (some .int) := hA
  unfold f_X6_ofHouse
  refine WO.aload_n (n := 1) hA dX6_ofHouse_0 0 rfl rfl ?_
  refine WO.iload_n (n := 2) hA dX6_ofHouse_1 1 rfl rfl ?_
  refine WO.callVi (As := [.int x1]) (rest := []) (n := 5) hA (c_X6_isHouse v.2.1 w hw x1 M) gX6_ofHouse_X6_isHouse rfl (m_0 hw) rfl mdX6_isHouse ⟨rfl, rfl, Nat.le_of_ble_eq_true rfl, Nat.le_of_ble_eq_true rfl⟩ rfl rfl (Nat.le_of_ble_eq_true rfl) dX6_ofHouse_2 rfl (fun r2 M1 => ?_)
  refine WO.if_ne (tg := 10) (n := 8) hA dX6_ofHouse_5 (by decide) rfl (fun _ => ?_) (fun _ => ?_)
  · refine WO.iconst (x := (-1 : Int32)) (n := 9) hA dX6_ofHouse_8 (by decide) rfl ?_
    exact WO.iret hA dX6_ofHouse_9
  · refine WO.iload_n (n := 11) hA dX6_ofHouse_10 2 rfl rfl ?_
    refine WO.iconst (x := (3 : Int32)) (n := 12) hA dX6_ofHouse_11 (by decide) rfl ?_
    refine WO.iconst (x := (4 : Int32)) (n := 13) hA dX6_ofHouse_12 (by decide) rfl ?_
    refine WO.callSi (As := [.int x2, .int (3 : Int32), .int (4 : Int32)]) (rest := []) (n := 16) hA (c_X6_within v.2.1 w hw x2 (3 : Int32) (4 : Int32) M1) gX6_ofHouse_X6_within rfl mdX6_within ⟨rfl, rfl, Nat.le_of_ble_eq_true rfl, Nat.le_of_ble_eq_true rfl⟩ rfl rfl (Nat.le_of_ble_eq_true rfl) dX6_ofHouse_13 rfl (fun r4 M3 => ?_)
    refine WO.if_ne (tg := 62) (n := 19) hA dX6_ofHouse_16 (by decide) rfl (fun _ => ?_) (fun _ => ?_)
    · refine WO.iload_n (n := 20) hA dX6_ofHouse_19 2 rfl rfl ?_
      refine WO.if_ne (tg := 32) (n := 23) hA dX6_ofHouse_20 (by decide) rfl (fun _ => ?_) (fun _ => ?_)
      · refine WO.aload_n (n := 24) hA dX6_ofHouse_23 0 rfl rfl ?_
        refine WO.getR (j := 10) (p := 4) (n := 27) hA (m_0 hw) rfl fiX6_ofHouse_X6 (by decide) rfl fkX6_ofHouse_19 dX6_ofHouse_24 rfl ?_
        refine WO.iload_n (n := 28) hA dX6_ofHouse_27 1 rfl rfl ?_
        refine WO.iald (n := 29) hA (m_4 hw) dX6_ofHouse_28 rfl (fun _ => ?_)
        refine WO.goto (n := 61) hA dX6_ofHouse_29 (by decide) ?_
        exact WO.iret hA dX6_ofHouse_61
      · refine WO.iload_n (n := 33) hA dX6_ofHouse_32 2 rfl rfl ?_
        refine WO.iconst (x := (1 : Int32)) (n := 34) hA dX6_ofHouse_33 (by decide) rfl ?_
        refine WO.icmp_ne (tg := 46) (n := 37) hA dX6_ofHouse_34 (by decide) rfl (fun _ => ?_) (fun _ => ?_)
        · refine WO.aload_n (n := 38) hA dX6_ofHouse_37 0 rfl rfl ?_
          refine WO.getR (j := 11) (p := 5) (n := 41) hA (m_0 hw) rfl fiX6_ofHouse_X6 (by decide) rfl fkX6_ofHouse_22 dX6_ofHouse_38 rfl ?_
          refine WO.iload_n (n := 42) hA dX6_ofHouse_41 1 rfl rfl ?_
          refine WO.iald (n := 43) hA (m_5 hw) dX6_ofHouse_42 rfl (fun _ => ?_)
          refine WO.goto (n := 61) hA dX6_ofHouse_43 (by decide) ?_
          exact WO.iret hA dX6_ofHouse_61
        · refine WO.iload_n (n := 47) hA dX6_ofHouse_46 2 rfl rfl ?_
          refine WO.iconst (x := (2 : Int32)) (n := 48) hA dX6_ofHouse_47 (by decide) rfl ?_
          refine WO.icmp_ne (tg := 59) (n := 51) hA dX6_ofHouse_48 (by decide) rfl (fun _ => ?_) (fun _ => ?_)
          · refine WO.aload_n (n := 52) hA dX6_ofHouse_51 0 rfl rfl ?_
            refine WO.iload_n (n := 53) hA dX6_ofHouse_52 1 rfl rfl ?_
            refine WO.callVi (As := [.int x1]) (rest := []) (n := 56) hA (c_X6_needsOf v.2.1 w hw x1 M3) gX6_ofHouse_X6_needsOf rfl (m_0 hw) rfl mdX6_needsOf ⟨rfl, rfl, Nat.le_of_ble_eq_true rfl, Nat.le_of_ble_eq_true rfl⟩ rfl rfl (Nat.le_of_ble_eq_true rfl) dX6_ofHouse_53 rfl (fun r6 M5 => ?_)
            refine WO.goto (n := 61) hA dX6_ofHouse_56 (by decide) ?_
            exact WO.iret hA dX6_ofHouse_61
          · refine WO.bipush (x := (-2 : Int32)) (n := 61) hA dX6_ofHouse_59 (by decide) rfl ?_
            exact WO.iret hA dX6_ofHouse_61
    · refine WO.iconst (x := (0 : Int32)) (n := 63) hA dX6_ofHouse_62 (by decide) rfl ?_
      refine WO.istore_n (i := 3) (lv' := [(3, .int (0 : Int32)), (0, .ref (w.2.1 0)), (1, .int x1), (2, .int x2)]) (n := 64) hA dX6_ofHouse_63 rfl (by decide) rfl rfl ?_
      refine WO.iconst (x := (0 : Int32)) (n := 65) hA dX6_ofHouse_64 (by decide) rfl ?_
      refine WO.istore (lv' := [(4, .int (0 : Int32)), (3, .int (0 : Int32)), (0, .ref (w.2.1 0)), (1, .int x1), (2, .int x2)]) (n := 67) hA dX6_ofHouse_65 (by decide) rfl rfl ?_
      refine WO.sub (lv' := [(0, .ref (w.2.1 0)), (1, .int x1), (2, .int x2), (3, .int (0 : Int32)), (4, .int (0 : Int32))]) [2, 3, 4, 1, 0] rfl ?_
      refine w_X6_ofHouse_L67 hw hA x1 x2 _ (fun e15 M16 => ?_) _ _ _ _
      refine WO.iload_n (n := 139) hA dX6_ofHouse_138 0 rfl rfl ?_
      exact WO.iret hA dX6_ofHouse_139
/- X6_ofClock -/
abbrev rmX6_ofClock : Room := { frames := 5, cells := 0, slots := 0, locals := 114 }
theorem mdX6_ofClock : yX6_ofClock.cls = RX6 ∧ yX6_ofClock.cls ≠ "java/lang/invoke/MethodHandle" ∧ yX6_ofClock.cls ≠ "java/lang/invoke/VarHandle" ∧ (parseMethodDescriptor yX6_ofClock.desc).map (fun d => d.parameters.length) = some 2 := by decide +kernel
theorem fkX6_ofClock_25 : Cond.fieldLink RX6 25 (TX6 12).1 (TX6 12).2.1 (TX6 12).2.2.1 ∈ wsX6_ofClock := by decide +kernel
theorem fiX6_ofClock_X6 : ∀ q ∈ u_ws RX6 TX6 30, q ∈ wsX6_ofClock := by decide +kernel
theorem fkX6_ofClock_28 : Cond.fieldLink RX6 28 (TX6 13).1 (TX6 13).2.1 (TX6 13).2.2.1 ∈ wsX6_ofClock := by decide +kernel
theorem fkX6_ofClock_114 : Cond.fieldLink RX6 114 (TX6 9).1 (TX6 9).2.1 (TX6 9).2.2.1 ∈ wsX6_ofClock := by decide +kernel
noncomputable def f_X6_ofClock (x1 : Int32) (x2 : Int32) (M : Mem) : Option (Int32 × Mem) := bd (f_X6_isClock x1 M) (fun r2 M1 => if r2 = 0 then (some ((-1 : Int32), M1)) else (if x2 = (0 : Int32) then (grd x1 4 (some ((M1 6 x1.toNatClampNeg), M1))) else if x2 = (1 : Int32) then (bd (f_X6_soundOf x1 M1) (fun r6 M5 => some (r6, M5))) else if x2 = (2 : Int32) then (grd x1 4 (some ((M1 7 x1.toNatClampNeg), M1))) else if x2 = (3 : Int32) then (some ((((M1 0 9) >>> (x1 &&& 31)) &&& (1 : Int32)), M1)) else if x2 = (4 : Int32) then (grd x1 4 (bd (f_X6_wakersOf x1 (M1 7 x1.toNatClampNeg) M1) (fun r11 M10 => some (r11, M10)))) else if x2 = (5 : Int32) then (grd x1 4 (bd (f_X6_ownerFrom x1 (M1 7 x1.toNatClampNeg) M1) (fun r14 M13 => some (r14, M13)))) else (some ((-2 : Int32), M1))))
set_option maxHeartbeats 4000000 in
set_option maxRecDepth 100000 in
theorem c_X6_ofClock (l : Launch) (w : Cw) (hw : w.2.2.2.2.2 = shM) (x1 : Int32) (x2 : Int32) (M : Mem) : Ok l w eI yX6_ofClock wsX6_ofClock rmX6_ofClock [.ref (w.2.1 0), .int x1, .int x2] M (f_X6_ofClock x1 x2 M) := by
  refine Ok.of (cc := cX6_ofClock) (nL := 3) (ret := (some .int)) (lv := [(0, .ref (w.2.1 0)), (1, .int x1), (2, .int x2)]) (by decide) rfl (Nat.le_of_ble_eq_true rfl) rfl (fun v hv hA => ?_)
  subst hv
  have hA : Act v w RX6 wsX6_ofClock cX6_ofClock 3 (some .int) := hA
  unfold f_X6_ofClock
  refine WO.aload_n (n := 1) hA dX6_ofClock_0 0 rfl rfl ?_
  refine WO.iload_n (n := 2) hA dX6_ofClock_1 1 rfl rfl ?_
  refine WO.callVi (As := [.int x1]) (rest := []) (n := 5) hA (c_X6_isClock v.2.1 w hw x1 M) gX6_ofClock_X6_isClock rfl (m_0 hw) rfl mdX6_isClock ⟨rfl, rfl, Nat.le_of_ble_eq_true rfl, Nat.le_of_ble_eq_true rfl⟩ rfl rfl (Nat.le_of_ble_eq_true rfl) dX6_ofClock_2 rfl (fun r2 M1 => ?_)
  refine WO.if_ne (tg := 10) (n := 8) hA dX6_ofClock_5 (by decide) rfl (fun _ => ?_) (fun _ => ?_)
  · refine WO.iconst (x := (-1 : Int32)) (n := 9) hA dX6_ofClock_8 (by decide) rfl ?_
    exact WO.iret hA dX6_ofClock_9
  · refine WO.iload_n (n := 11) hA dX6_ofClock_10 2 rfl rfl ?_
    refine WO.ite (fun hs3 => ?_) (fun hs3 => ?_)
    · refine WO.tin (n := 48) hA (0 : Int32) hs3 dX6_ofClock_11 (by decide) (by decide) rfl (by decide) ?_
      refine WO.aload_n (n := 49) hA dX6_ofClock_48 0 rfl rfl ?_
      refine WO.getR (j := 12) (p := 6) (n := 52) hA (m_0 hw) rfl fiX6_ofClock_X6 (by decide) rfl fkX6_ofClock_25 dX6_ofClock_49 rfl ?_
      refine WO.iload_n (n := 53) hA dX6_ofClock_52 1 rfl rfl ?_
      refine WO.iald (n := 54) hA (m_6 hw) dX6_ofClock_53 rfl (fun _ => ?_)
      exact WO.iret hA dX6_ofClock_54
    · refine WO.ite (fun hs4 => ?_) (fun hs4 => ?_)
      · refine WO.tin (n := 55) hA (1 : Int32) hs4 dX6_ofClock_11 (by decide) (by decide) rfl (by decide) ?_
        refine WO.aload_n (n := 56) hA dX6_ofClock_55 0 rfl rfl ?_
        refine WO.iload_n (n := 57) hA dX6_ofClock_56 1 rfl rfl ?_
        refine WO.callVi (As := [.int x1]) (rest := []) (n := 60) hA (c_X6_soundOf v.2.1 w hw x1 M1) gX6_ofClock_X6_soundOf rfl (m_0 hw) rfl mdX6_soundOf ⟨rfl, rfl, Nat.le_of_ble_eq_true rfl, Nat.le_of_ble_eq_true rfl⟩ rfl rfl (Nat.le_of_ble_eq_true rfl) dX6_ofClock_57 rfl (fun r6 M5 => ?_)
        exact WO.iret hA dX6_ofClock_60
      · refine WO.ite (fun hs7 => ?_) (fun hs7 => ?_)
        · refine WO.tin (n := 61) hA (2 : Int32) hs7 dX6_ofClock_11 (by decide) (by decide) rfl (by decide) ?_
          refine WO.aload_n (n := 62) hA dX6_ofClock_61 0 rfl rfl ?_
          refine WO.getR (j := 13) (p := 7) (n := 65) hA (m_0 hw) rfl fiX6_ofClock_X6 (by decide) rfl fkX6_ofClock_28 dX6_ofClock_62 rfl ?_
          refine WO.iload_n (n := 66) hA dX6_ofClock_65 1 rfl rfl ?_
          refine WO.iald (n := 67) hA (m_7 hw) dX6_ofClock_66 rfl (fun _ => ?_)
          exact WO.iret hA dX6_ofClock_67
        · refine WO.ite (fun hs8 => ?_) (fun hs8 => ?_)
          · refine WO.tin (n := 68) hA (3 : Int32) hs8 dX6_ofClock_11 (by decide) (by decide) rfl (by decide) ?_
            refine WO.aload_n (n := 69) hA dX6_ofClock_68 0 rfl rfl ?_
            refine WO.getI (j := 9) (n := 72) hA (m_0 hw) rfl fiX6_ofClock_X6 (by decide) rfl fkX6_ofClock_114 dX6_ofClock_69 rfl ?_
            refine WO.iload_n (n := 73) hA dX6_ofClock_72 1 rfl rfl ?_
            refine WO.ishr (n := 74) hA dX6_ofClock_73 rfl ?_
            refine WO.iconst (x := (1 : Int32)) (n := 75) hA dX6_ofClock_74 (by decide) rfl ?_
            refine WO.iand (n := 76) hA dX6_ofClock_75 rfl ?_
            exact WO.iret hA dX6_ofClock_76
          · refine WO.ite (fun hs9 => ?_) (fun hs9 => ?_)
            · refine WO.tin (n := 77) hA (4 : Int32) hs9 dX6_ofClock_11 (by decide) (by decide) rfl (by decide) ?_
              refine WO.aload_n (n := 78) hA dX6_ofClock_77 0 rfl rfl ?_
              refine WO.iload_n (n := 79) hA dX6_ofClock_78 1 rfl rfl ?_
              refine WO.aload_n (n := 80) hA dX6_ofClock_79 0 rfl rfl ?_
              refine WO.getR (j := 13) (p := 7) (n := 83) hA (m_0 hw) rfl fiX6_ofClock_X6 (by decide) rfl fkX6_ofClock_28 dX6_ofClock_80 rfl ?_
              refine WO.iload_n (n := 84) hA dX6_ofClock_83 1 rfl rfl ?_
              refine WO.iald (n := 85) hA (m_7 hw) dX6_ofClock_84 rfl (fun _ => ?_)
              refine WO.callVi (As := [.int x1, .int (M1 7 x1.toNatClampNeg)]) (rest := []) (n := 88) hA (c_X6_wakersOf v.2.1 w hw x1 (M1 7 x1.toNatClampNeg) M1) gX6_ofClock_X6_wakersOf rfl (m_0 hw) rfl mdX6_wakersOf ⟨rfl, rfl, Nat.le_of_ble_eq_true rfl, Nat.le_of_ble_eq_true rfl⟩ rfl rfl (Nat.le_of_ble_eq_true rfl) dX6_ofClock_85 rfl (fun r11 M10 => ?_)
              exact WO.iret hA dX6_ofClock_88
            · refine WO.ite (fun hs12 => ?_) (fun hs12 => ?_)
              · refine WO.tin (n := 89) hA (5 : Int32) hs12 dX6_ofClock_11 (by decide) (by decide) rfl (by decide) ?_
                refine WO.aload_n (n := 90) hA dX6_ofClock_89 0 rfl rfl ?_
                refine WO.iload_n (n := 91) hA dX6_ofClock_90 1 rfl rfl ?_
                refine WO.aload_n (n := 92) hA dX6_ofClock_91 0 rfl rfl ?_
                refine WO.getR (j := 13) (p := 7) (n := 95) hA (m_0 hw) rfl fiX6_ofClock_X6 (by decide) rfl fkX6_ofClock_28 dX6_ofClock_92 rfl ?_
                refine WO.iload_n (n := 96) hA dX6_ofClock_95 1 rfl rfl ?_
                refine WO.iald (n := 97) hA (m_7 hw) dX6_ofClock_96 rfl (fun _ => ?_)
                refine WO.callVi (As := [.int x1, .int (M1 7 x1.toNatClampNeg)]) (rest := []) (n := 100) hA (c_X6_ownerFrom v.2.1 w hw x1 (M1 7 x1.toNatClampNeg) M1) gX6_ofClock_X6_ownerFrom rfl (m_0 hw) rfl mdX6_ownerFrom ⟨rfl, rfl, Nat.le_of_ble_eq_true rfl, Nat.le_of_ble_eq_true rfl⟩ rfl rfl (Nat.le_of_ble_eq_true rfl) dX6_ofClock_97 rfl (fun r14 M13 => ?_)
                exact WO.iret hA dX6_ofClock_100
              · refine WO.tout (n := 101) hA dX6_ofClock_11 (by have ehs3 := lv_neT (a := 0) hs3 (by decide); have ehs4 := lv_neT (a := 1) hs4 (by decide); have ehs7 := lv_neT (a := 2) hs7 (by decide); have ehs8 := lv_neT (a := 3) hs8 (by decide); have ehs9 := lv_neT (a := 4) hs9 (by decide); have ehs12 := lv_neT (a := 5) hs12 (by decide); omega) (by decide) ?_
                refine WO.bipush (x := (-2 : Int32)) (n := 103) hA dX6_ofClock_101 (by decide) rfl ?_
                exact WO.iret hA dX6_ofClock_103
/- X6_drowse -/
abbrev rmX6_drowse : Room := { frames := 1, cells := 0, slots := 0, locals := 22 }
theorem mdX6_drowse : yX6_drowse.cls = RX6 ∧ yX6_drowse.cls ≠ "java/lang/invoke/MethodHandle" ∧ yX6_drowse.cls ≠ "java/lang/invoke/VarHandle" ∧ (parseMethodDescriptor yX6_drowse.desc).map (fun d => d.parameters.length) = some 2 := by decide +kernel
theorem fkX6_drowse_22 : Cond.fieldLink RX6 22 (TX6 11).1 (TX6 11).2.1 (TX6 11).2.2.1 ∈ wsX6_drowse := by decide +kernel
theorem fiX6_drowse_X6 : ∀ q ∈ u_ws RX6 TX6 30, q ∈ wsX6_drowse := by decide +kernel
noncomputable def f_X6_drowse (x1 : Int32) (x2 : Int32) (M : Mem) : Option (Int32 × Mem) := bd (f_X6_isHouse x1 M) (fun r2 M1 => if r2 = 0 then (some ((-1 : Int32), M1)) else (bd (f_X6_within x2 (1 : Int32) (9 : Int32) M1) (fun r4 M3 => if r4 = 0 then (some ((-2 : Int32), M3)) else (grd x1 6 (ilt (M3 5 x1.toNatClampNeg) (fun x_5 => grd x1 6 (mlt (mu M3 5 x1.toNatClampNeg x2) (fun M6 => some (x_5, M6)))))))))
set_option maxHeartbeats 4000000 in
set_option maxRecDepth 100000 in
theorem c_X6_drowse (l : Launch) (w : Cw) (hw : w.2.2.2.2.2 = shM) (x1 : Int32) (x2 : Int32) (M : Mem) : Ok l w eI yX6_drowse wsX6_drowse rmX6_drowse [.ref (w.2.1 0), .int x1, .int x2] M (f_X6_drowse x1 x2 M) := by
  refine Ok.of (cc := cX6_drowse) (nL := 4) (ret := (some .int)) (lv := [(0, .ref (w.2.1 0)), (1, .int x1), (2, .int x2)]) (by decide) rfl (Nat.le_of_ble_eq_true rfl) rfl (fun v hv hA => ?_)
  subst hv
  have hA : Act v w RX6 wsX6_drowse cX6_drowse 4 (some .int) := hA
  unfold f_X6_drowse
  refine WO.aload_n (n := 1) hA dX6_drowse_0 0 rfl rfl ?_
  refine WO.iload_n (n := 2) hA dX6_drowse_1 1 rfl rfl ?_
  refine WO.callVi (As := [.int x1]) (rest := []) (n := 5) hA (c_X6_isHouse v.2.1 w hw x1 M) gX6_drowse_X6_isHouse rfl (m_0 hw) rfl mdX6_isHouse ⟨rfl, rfl, Nat.le_of_ble_eq_true rfl, Nat.le_of_ble_eq_true rfl⟩ rfl rfl (Nat.le_of_ble_eq_true rfl) dX6_drowse_2 rfl (fun r2 M1 => ?_)
  refine WO.if_ne (tg := 10) (n := 8) hA dX6_drowse_5 (by decide) rfl (fun _ => ?_) (fun _ => ?_)
  · refine WO.iconst (x := (-1 : Int32)) (n := 9) hA dX6_drowse_8 (by decide) rfl ?_
    exact WO.iret hA dX6_drowse_9
  · refine WO.iload_n (n := 11) hA dX6_drowse_10 2 rfl rfl ?_
    refine WO.iconst (x := (1 : Int32)) (n := 12) hA dX6_drowse_11 (by decide) rfl ?_
    refine WO.bipush (x := (9 : Int32)) (n := 14) hA dX6_drowse_12 (by decide) rfl ?_
    refine WO.callSi (As := [.int x2, .int (1 : Int32), .int (9 : Int32)]) (rest := []) (n := 17) hA (c_X6_within v.2.1 w hw x2 (1 : Int32) (9 : Int32) M1) gX6_drowse_X6_within rfl mdX6_within ⟨rfl, rfl, Nat.le_of_ble_eq_true rfl, Nat.le_of_ble_eq_true rfl⟩ rfl rfl (Nat.le_of_ble_eq_true rfl) dX6_drowse_14 rfl (fun r4 M3 => ?_)
    refine WO.if_ne (tg := 23) (n := 20) hA dX6_drowse_17 (by decide) rfl (fun _ => ?_) (fun _ => ?_)
    · refine WO.bipush (x := (-2 : Int32)) (n := 22) hA dX6_drowse_20 (by decide) rfl ?_
      exact WO.iret hA dX6_drowse_22
    · refine WO.aload_n (n := 24) hA dX6_drowse_23 0 rfl rfl ?_
      refine WO.getR (j := 11) (p := 5) (n := 27) hA (m_0 hw) rfl fiX6_drowse_X6 (by decide) rfl fkX6_drowse_22 dX6_drowse_24 rfl ?_
      refine WO.iload_n (n := 28) hA dX6_drowse_27 1 rfl rfl ?_
      refine WO.iald (n := 29) hA (m_5 hw) dX6_drowse_28 rfl (fun _ => ?_)
      refine WO.top (fun x_5 => ?_)
      refine WO.istore_n (i := 3) (lv' := [(3, .int x_5), (0, .ref (w.2.1 0)), (1, .int x1), (2, .int x2)]) (n := 30) hA dX6_drowse_29 rfl (by decide) rfl rfl ?_
      refine WO.aload_n (n := 31) hA dX6_drowse_30 1 rfl rfl ?_
      refine WO.getR (j := 11) (p := 5) (n := 34) hA (m_0 hw) rfl fiX6_drowse_X6 (by decide) rfl fkX6_drowse_22 dX6_drowse_31 rfl ?_
      refine WO.iload_n (n := 35) hA dX6_drowse_34 2 rfl rfl ?_
      refine WO.iload_n (n := 36) hA dX6_drowse_35 3 rfl rfl ?_
      refine WO.iast (n := 37) hA (m_5 hw) dX6_drowse_36 rfl (fun _ => ?_)
      refine WO.mem (fun M6 => ?_)
      refine WO.iload_n (n := 38) hA dX6_drowse_37 0 rfl rfl ?_
      exact WO.iret hA dX6_drowse_38
/- X6_tune -/
abbrev rmX6_tune : Room := { frames := 1, cells := 0, slots := 0, locals := 22 }
theorem mdX6_tune : yX6_tune.cls = RX6 ∧ yX6_tune.cls ≠ "java/lang/invoke/MethodHandle" ∧ yX6_tune.cls ≠ "java/lang/invoke/VarHandle" ∧ (parseMethodDescriptor yX6_tune.desc).map (fun d => d.parameters.length) = some 2 := by decide +kernel
theorem fkX6_tune_25 : Cond.fieldLink RX6 25 (TX6 12).1 (TX6 12).2.1 (TX6 12).2.2.1 ∈ wsX6_tune := by decide +kernel
theorem fiX6_tune_X6 : ∀ q ∈ u_ws RX6 TX6 30, q ∈ wsX6_tune := by decide +kernel
noncomputable def f_X6_tune (x1 : Int32) (x2 : Int32) (M : Mem) : Option (Int32 × Mem) := bd (f_X6_isClock x1 M) (fun r2 M1 => if r2 = 0 then (some ((-1 : Int32), M1)) else (bd (f_X6_within x2 (1 : Int32) (9 : Int32) M1) (fun r4 M3 => if r4 = 0 then (some ((-2 : Int32), M3)) else (grd x1 4 (ilt (M3 6 x1.toNatClampNeg) (fun x_5 => grd x1 4 (mlt (mu M3 6 x1.toNatClampNeg x2) (fun M6 => some (x_5, M6)))))))))
set_option maxHeartbeats 4000000 in
set_option maxRecDepth 100000 in
theorem c_X6_tune (l : Launch) (w : Cw) (hw : w.2.2.2.2.2 = shM) (x1 : Int32) (x2 : Int32) (M : Mem) : Ok l w eI yX6_tune wsX6_tune rmX6_tune [.ref (w.2.1 0), .int x1, .int x2] M (f_X6_tune x1 x2 M) := by
  refine Ok.of (cc := cX6_tune) (nL := 4) (ret := (some .int)) (lv := [(0, .ref (w.2.1 0)), (1, .int x1), (2, .int x2)]) (by decide) rfl (Nat.le_of_ble_eq_true rfl) rfl (fun v hv hA => ?_)
  subst hv
  have hA : Act v w RX6 wsX6_tune cX6_tune 4 (some .int) := hA
  unfold f_X6_tune
  refine WO.aload_n (n := 1) hA dX6_tune_0 0 rfl rfl ?_
  refine WO.iload_n (n := 2) hA dX6_tune_1 1 rfl rfl ?_
  refine WO.callVi (As := [.int x1]) (rest := []) (n := 5) hA (c_X6_isClock v.2.1 w hw x1 M) gX6_tune_X6_isClock rfl (m_0 hw) rfl mdX6_isClock ⟨rfl, rfl, Nat.le_of_ble_eq_true rfl, Nat.le_of_ble_eq_true rfl⟩ rfl rfl (Nat.le_of_ble_eq_true rfl) dX6_tune_2 rfl (fun r2 M1 => ?_)
  refine WO.if_ne (tg := 10) (n := 8) hA dX6_tune_5 (by decide) rfl (fun _ => ?_) (fun _ => ?_)
  · refine WO.iconst (x := (-1 : Int32)) (n := 9) hA dX6_tune_8 (by decide) rfl ?_
    exact WO.iret hA dX6_tune_9
  · refine WO.iload_n (n := 11) hA dX6_tune_10 2 rfl rfl ?_
    refine WO.iconst (x := (1 : Int32)) (n := 12) hA dX6_tune_11 (by decide) rfl ?_
    refine WO.bipush (x := (9 : Int32)) (n := 14) hA dX6_tune_12 (by decide) rfl ?_
    refine WO.callSi (As := [.int x2, .int (1 : Int32), .int (9 : Int32)]) (rest := []) (n := 17) hA (c_X6_within v.2.1 w hw x2 (1 : Int32) (9 : Int32) M1) gX6_tune_X6_within rfl mdX6_within ⟨rfl, rfl, Nat.le_of_ble_eq_true rfl, Nat.le_of_ble_eq_true rfl⟩ rfl rfl (Nat.le_of_ble_eq_true rfl) dX6_tune_14 rfl (fun r4 M3 => ?_)
    refine WO.if_ne (tg := 23) (n := 20) hA dX6_tune_17 (by decide) rfl (fun _ => ?_) (fun _ => ?_)
    · refine WO.bipush (x := (-2 : Int32)) (n := 22) hA dX6_tune_20 (by decide) rfl ?_
      exact WO.iret hA dX6_tune_22
    · refine WO.aload_n (n := 24) hA dX6_tune_23 0 rfl rfl ?_
      refine WO.getR (j := 12) (p := 6) (n := 27) hA (m_0 hw) rfl fiX6_tune_X6 (by decide) rfl fkX6_tune_25 dX6_tune_24 rfl ?_
      refine WO.iload_n (n := 28) hA dX6_tune_27 1 rfl rfl ?_
      refine WO.iald (n := 29) hA (m_6 hw) dX6_tune_28 rfl (fun _ => ?_)
      refine WO.top (fun x_5 => ?_)
      refine WO.istore_n (i := 3) (lv' := [(3, .int x_5), (0, .ref (w.2.1 0)), (1, .int x1), (2, .int x2)]) (n := 30) hA dX6_tune_29 rfl (by decide) rfl rfl ?_
      refine WO.aload_n (n := 31) hA dX6_tune_30 1 rfl rfl ?_
      refine WO.getR (j := 12) (p := 6) (n := 34) hA (m_0 hw) rfl fiX6_tune_X6 (by decide) rfl fkX6_tune_25 dX6_tune_31 rfl ?_
      refine WO.iload_n (n := 35) hA dX6_tune_34 2 rfl rfl ?_
      refine WO.iload_n (n := 36) hA dX6_tune_35 3 rfl rfl ?_
      refine WO.iast (n := 37) hA (m_6 hw) dX6_tune_36 rfl (fun _ => ?_)
      refine WO.mem (fun M6 => ?_)
      refine WO.iload_n (n := 38) hA dX6_tune_37 0 rfl rfl ?_
      exact WO.iret hA dX6_tune_38
/- X6_wall -/
abbrev rmX6_wall : Room := { frames := 1, cells := 0, slots := 0, locals := 22 }
theorem mdX6_wall : yX6_wall.cls = RX6 ∧ yX6_wall.cls ≠ "java/lang/invoke/MethodHandle" ∧ yX6_wall.cls ≠ "java/lang/invoke/VarHandle" ∧ (parseMethodDescriptor yX6_wall.desc).map (fun d => d.parameters.length) = some 1 := by decide +kernel
theorem fkX6_wall_68 : Cond.fieldLink RX6 68 (TX6 6).1 (TX6 6).2.1 (TX6 6).2.2.1 ∈ wsX6_wall := by decide +kernel
theorem fiX6_wall_X6 : ∀ q ∈ u_ws RX6 TX6 30, q ∈ wsX6_wall := by decide +kernel
theorem fkX6_wall_105 : Cond.fieldLink RX6 105 (TX6 5).1 (TX6 5).2.1 (TX6 5).2.2.1 ∈ wsX6_wall := by decide +kernel
noncomputable def f_X6_wall (x1 : Int32) (M : Mem) : Option (Int32 × Mem) := bd (f_X6_within x1 (0 : Int32) (3 : Int32) M) (fun r2 M1 => if r2 = 0 then (some ((-2 : Int32), M1)) else (if (M1 0 6) = 0 then (some ((-3 : Int32), M1)) else (ilt (M1 0 5) (fun x_3 => mlt (mu M1 0 5 x1) (fun M4 => some (x_3, M4))))))
set_option maxHeartbeats 4000000 in
set_option maxRecDepth 100000 in
theorem c_X6_wall (l : Launch) (w : Cw) (hw : w.2.2.2.2.2 = shM) (x1 : Int32) (M : Mem) : Ok l w eI yX6_wall wsX6_wall rmX6_wall [.ref (w.2.1 0), .int x1] M (f_X6_wall x1 M) := by
  refine Ok.of (cc := cX6_wall) (nL := 3) (ret := (some .int)) (lv := [(0, .ref (w.2.1 0)), (1, .int x1)]) (by decide) rfl (Nat.le_of_ble_eq_true rfl) rfl (fun v hv hA => ?_)
  subst hv
  have hA : Act v w RX6 wsX6_wall cX6_wall 3 (some .int) := hA
  unfold f_X6_wall
  refine WO.iload_n (n := 1) hA dX6_wall_0 1 rfl rfl ?_
  refine WO.iconst (x := (0 : Int32)) (n := 2) hA dX6_wall_1 (by decide) rfl ?_
  refine WO.iconst (x := (3 : Int32)) (n := 3) hA dX6_wall_2 (by decide) rfl ?_
  refine WO.callSi (As := [.int x1, .int (0 : Int32), .int (3 : Int32)]) (rest := []) (n := 6) hA (c_X6_within v.2.1 w hw x1 (0 : Int32) (3 : Int32) M) gX6_wall_X6_within rfl mdX6_within ⟨rfl, rfl, Nat.le_of_ble_eq_true rfl, Nat.le_of_ble_eq_true rfl⟩ rfl rfl (Nat.le_of_ble_eq_true rfl) dX6_wall_3 rfl (fun r2 M1 => ?_)
  refine WO.if_ne (tg := 12) (n := 9) hA dX6_wall_6 (by decide) rfl (fun _ => ?_) (fun _ => ?_)
  · refine WO.bipush (x := (-2 : Int32)) (n := 11) hA dX6_wall_9 (by decide) rfl ?_
    exact WO.iret hA dX6_wall_11
  · refine WO.aload_n (n := 13) hA dX6_wall_12 0 rfl rfl ?_
    refine WO.getI (j := 6) (n := 16) hA (m_0 hw) rfl fiX6_wall_X6 (by decide) rfl fkX6_wall_68 dX6_wall_13 rfl ?_
    refine WO.if_ne (tg := 22) (n := 19) hA dX6_wall_16 (by decide) rfl (fun _ => ?_) (fun _ => ?_)
    · refine WO.bipush (x := (-3 : Int32)) (n := 21) hA dX6_wall_19 (by decide) rfl ?_
      exact WO.iret hA dX6_wall_21
    · refine WO.aload_n (n := 23) hA dX6_wall_22 0 rfl rfl ?_
      refine WO.getI (j := 5) (n := 26) hA (m_0 hw) rfl fiX6_wall_X6 (by decide) rfl fkX6_wall_105 dX6_wall_23 rfl ?_
      refine WO.top (fun x_3 => ?_)
      refine WO.istore_n (i := 2) (lv' := [(2, .int x_3), (0, .ref (w.2.1 0)), (1, .int x1)]) (n := 27) hA dX6_wall_26 rfl (by decide) rfl rfl ?_
      refine WO.aload_n (n := 28) hA dX6_wall_27 1 rfl rfl ?_
      refine WO.iload_n (n := 29) hA dX6_wall_28 2 rfl rfl ?_
      refine WO.putI (j := 5) (n := 32) hA (m_0 hw) rfl fiX6_wall_X6 tyX6 tyX6_ok nmX6 (by decide) rfl fkX6_wall_105 rfl rfl rfl rfl dX6_wall_29 rfl ?_
      refine WO.mem (fun M4 => ?_)
      refine WO.iload_n (n := 33) hA dX6_wall_32 0 rfl rfl ?_
      exact WO.iret hA dX6_wall_33
/- X6_hears -/
abbrev rmX6_hears : Room := { frames := 3, cells := 0, slots := 0, locals := 65 }
theorem mdX6_hears : yX6_hears.cls = RX6 ∧ yX6_hears.cls ≠ "java/lang/invoke/MethodHandle" ∧ yX6_hears.cls ≠ "java/lang/invoke/VarHandle" ∧ (parseMethodDescriptor yX6_hears.desc).map (fun d => d.parameters.length) = some 2 := by decide +kernel
theorem kkX6_hears_62 : Jvm.Cond.constantLong RX6 62 (-9223372036854775808 : Int64) ∈ wsX6_hears := by decide +kernel
theorem fkX6_hears_28 : Cond.fieldLink RX6 28 (TX6 13).1 (TX6 13).2.1 (TX6 13).2.2.1 ∈ wsX6_hears := by decide +kernel
theorem fiX6_hears_X6 : ∀ q ∈ u_ws RX6 TX6 30, q ∈ wsX6_hears := by decide +kernel
noncomputable def f_X6_hears (x1 : Int32) (x2 : Int32) (M : Mem) : Option (Int64 × Mem) := bd (f_X6_isHouse x1 M) (fun r2 M1 => if r2 = 0 then (some ((-9223372036854775808 : Int64), M1)) else (bd (f_X6_isClock x2 M1) (fun r4 M3 => if r4 = 0 then (some ((-9223372036854775808 : Int64), M3)) else (grd x2 4 (bd (f_X6_heardFrom x1 x2 (M3 7 x2.toNatClampNeg) M3) (fun r6 M5 => some (((r6).toInt64), M5)))))))
set_option maxHeartbeats 4000000 in
set_option maxRecDepth 100000 in
theorem c_X6_hears (l : Launch) (w : Cw) (hw : w.2.2.2.2.2 = shM) (x1 : Int32) (x2 : Int32) (M : Mem) : Ok l w eL yX6_hears wsX6_hears rmX6_hears [.ref (w.2.1 0), .int x1, .int x2] M (f_X6_hears x1 x2 M) := by
  refine Ok.of (cc := cX6_hears) (nL := 3) (ret := (some .long)) (lv := [(0, .ref (w.2.1 0)), (1, .int x1), (2, .int x2)]) (by decide) rfl (Nat.le_of_ble_eq_true rfl) rfl (fun v hv hA => ?_)
  subst hv
  have hA : Act v w RX6 wsX6_hears cX6_hears 3 (some .long) := hA
  unfold f_X6_hears
  refine WO.aload_n (n := 1) hA dX6_hears_0 0 rfl rfl ?_
  refine WO.iload_n (n := 2) hA dX6_hears_1 1 rfl rfl ?_
  refine WO.callVi (As := [.int x1]) (rest := []) (n := 5) hA (c_X6_isHouse v.2.1 w hw x1 M) gX6_hears_X6_isHouse rfl (m_0 hw) rfl mdX6_isHouse ⟨rfl, rfl, Nat.le_of_ble_eq_true rfl, Nat.le_of_ble_eq_true rfl⟩ rfl rfl (Nat.le_of_ble_eq_true rfl) dX6_hears_2 rfl (fun r2 M1 => ?_)
  refine WO.if_eq (tg := 32) (n := 8) hA dX6_hears_5 (by decide) rfl (fun _ => ?_) (fun _ => ?_)
  · refine WO.ldc2 (n := 35) hA kkX6_hears_62 dX6_hears_32 rfl ?_
    exact WO.lret hA dX6_hears_35
  · refine WO.aload_n (n := 9) hA dX6_hears_8 0 rfl rfl ?_
    refine WO.iload_n (n := 10) hA dX6_hears_9 2 rfl rfl ?_
    refine WO.callVi (As := [.int x2]) (rest := []) (n := 13) hA (c_X6_isClock v.2.1 w hw x2 M1) gX6_hears_X6_isClock rfl (m_0 hw) rfl mdX6_isClock ⟨rfl, rfl, Nat.le_of_ble_eq_true rfl, Nat.le_of_ble_eq_true rfl⟩ rfl rfl (Nat.le_of_ble_eq_true rfl) dX6_hears_10 rfl (fun r4 M3 => ?_)
    refine WO.if_eq (tg := 32) (n := 16) hA dX6_hears_13 (by decide) rfl (fun _ => ?_) (fun _ => ?_)
    · refine WO.ldc2 (n := 35) hA kkX6_hears_62 dX6_hears_32 rfl ?_
      exact WO.lret hA dX6_hears_35
    · refine WO.aload_n (n := 17) hA dX6_hears_16 0 rfl rfl ?_
      refine WO.iload_n (n := 18) hA dX6_hears_17 1 rfl rfl ?_
      refine WO.iload_n (n := 19) hA dX6_hears_18 2 rfl rfl ?_
      refine WO.aload_n (n := 20) hA dX6_hears_19 0 rfl rfl ?_
      refine WO.getR (j := 13) (p := 7) (n := 23) hA (m_0 hw) rfl fiX6_hears_X6 (by decide) rfl fkX6_hears_28 dX6_hears_20 rfl ?_
      refine WO.iload_n (n := 24) hA dX6_hears_23 2 rfl rfl ?_
      refine WO.iald (n := 25) hA (m_7 hw) dX6_hears_24 rfl (fun _ => ?_)
      refine WO.callVi (As := [.int x1, .int x2, .int (M3 7 x2.toNatClampNeg)]) (rest := []) (n := 28) hA (c_X6_heardFrom v.2.1 w hw x1 x2 (M3 7 x2.toNatClampNeg) M3) gX6_hears_X6_heardFrom rfl (m_0 hw) rfl mdX6_heardFrom ⟨rfl, rfl, Nat.le_of_ble_eq_true rfl, Nat.le_of_ble_eq_true rfl⟩ rfl rfl (Nat.le_of_ble_eq_true rfl) dX6_hears_25 rfl (fun r6 M5 => ?_)
      refine WO.i2l (n := 29) hA dX6_hears_28 rfl ?_
      refine WO.goto (n := 35) hA dX6_hears_29 (by decide) ?_
      exact WO.lret hA dX6_hears_35
/- X6_strikes -/
abbrev rmX6_strikes : Room := { frames := 5, cells := 0, slots := 0, locals := 114 }
theorem mdX6_strikes : yX6_strikes.cls = RX6 ∧ yX6_strikes.cls ≠ "java/lang/invoke/MethodHandle" ∧ yX6_strikes.cls ≠ "java/lang/invoke/VarHandle" ∧ (parseMethodDescriptor yX6_strikes.desc).map (fun d => d.parameters.length) = some 1 := by decide +kernel
theorem fkX6_strikes_28 : Cond.fieldLink RX6 28 (TX6 13).1 (TX6 13).2.1 (TX6 13).2.2.1 ∈ wsX6_strikes := by decide +kernel
theorem fiX6_strikes_X6 : ∀ q ∈ u_ws RX6 TX6 30, q ∈ wsX6_strikes := by decide +kernel
theorem fkX6_strikes_164 : Cond.fieldLink RX6 164 (TX6 21).1 (TX6 21).2.1 (TX6 21).2.2.1 ∈ wsX6_strikes := by decide +kernel
theorem fkX6_strikes_167 : Cond.fieldLink RX6 167 (TX6 20).1 (TX6 20).2.1 (TX6 20).2.2.1 ∈ wsX6_strikes := by decide +kernel
noncomputable def f_X6_strikes (x1 : Int32) (M : Mem) : Option (Int32 × Mem) := grd x1 4 (bd (f_X6_ownerFrom x1 (M 7 x1.toNatClampNeg) M) (fun r2 M1 => if r2 = (-9 : Int32) then (mlt (mu M1 0 21 ((M1 0 21) + (1 : Int32))) (fun M3 => if r2 = (-9 : Int32) then (mlt (mu M3 0 20 ((M3 0 20) + (0 : Int32))) (fun M4 => if r2 = (-9 : Int32) then (grd x1 4 (grd x1 4 (mlt (mu M4 7 x1.toNatClampNeg (M4 7 x1.toNatClampNeg)) (fun M5 => some (r2, M5))))) else (grd x1 4 (mlt (mu M4 7 x1.toNatClampNeg r2) (fun M6 => some (r2, M6)))))) else (grd x1 4 (if r2 = (M3 7 x1.toNatClampNeg) then (mlt (mu M3 0 20 ((M3 0 20) + (0 : Int32))) (fun M7 => if r2 = (-9 : Int32) then (grd x1 4 (grd x1 4 (mlt (mu M7 7 x1.toNatClampNeg (M7 7 x1.toNatClampNeg)) (fun M8 => some (r2, M8))))) else (grd x1 4 (mlt (mu M7 7 x1.toNatClampNeg r2) (fun M9 => some (r2, M9)))))) else (mlt (mu M3 0 20 ((M3 0 20) + (1 : Int32))) (fun M10 => if r2 = (-9 : Int32) then (grd x1 4 (grd x1 4 (mlt (mu M10 7 x1.toNatClampNeg (M10 7 x1.toNatClampNeg)) (fun M11 => some (r2, M11))))) else (grd x1 4 (mlt (mu M10 7 x1.toNatClampNeg r2) (fun M12 => some (r2, M12)))))))))) else (mlt (mu M1 0 21 ((M1 0 21) + (0 : Int32))) (fun M13 => if r2 = (-9 : Int32) then (mlt (mu M13 0 20 ((M13 0 20) + (0 : Int32))) (fun M14 => if r2 = (-9 : Int32) then (grd x1 4 (grd x1 4 (mlt (mu M14 7 x1.toNatClampNeg (M14 7 x1.toNatClampNeg)) (fun M15 => some (r2, M15))))) else (grd x1 4 (mlt (mu M14 7 x1.toNatClampNeg r2) (fun M16 => some (r2, M16)))))) else (grd x1 4 (if r2 = (M13 7 x1.toNatClampNeg) then (mlt (mu M13 0 20 ((M13 0 20) + (0 : Int32))) (fun M17 => if r2 = (-9 : Int32) then (grd x1 4 (grd x1 4 (mlt (mu M17 7 x1.toNatClampNeg (M17 7 x1.toNatClampNeg)) (fun M18 => some (r2, M18))))) else (grd x1 4 (mlt (mu M17 7 x1.toNatClampNeg r2) (fun M19 => some (r2, M19)))))) else (mlt (mu M13 0 20 ((M13 0 20) + (1 : Int32))) (fun M20 => if r2 = (-9 : Int32) then (grd x1 4 (grd x1 4 (mlt (mu M20 7 x1.toNatClampNeg (M20 7 x1.toNatClampNeg)) (fun M21 => some (r2, M21))))) else (grd x1 4 (mlt (mu M20 7 x1.toNatClampNeg r2) (fun M22 => some (r2, M22))))))))))))
set_option maxHeartbeats 4000000 in
set_option maxRecDepth 100000 in
theorem c_X6_strikes (l : Launch) (w : Cw) (hw : w.2.2.2.2.2 = shM) (x1 : Int32) (M : Mem) : Ok l w eI yX6_strikes wsX6_strikes rmX6_strikes [.ref (w.2.1 0), .int x1] M (f_X6_strikes x1 M) := by
  refine Ok.of (cc := cX6_strikes) (nL := 3) (ret := (some .int)) (lv := [(0, .ref (w.2.1 0)), (1, .int x1)]) (by decide) rfl (Nat.le_of_ble_eq_true rfl) rfl (fun v hv hA => ?_)
  subst hv
  have hA : Act v w RX6 wsX6_strikes cX6_strikes 3 (some .int) := hA
  unfold f_X6_strikes
  refine WO.aload_n (n := 1) hA dX6_strikes_0 0 rfl rfl ?_
  refine WO.iload_n (n := 2) hA dX6_strikes_1 1 rfl rfl ?_
  refine WO.aload_n (n := 3) hA dX6_strikes_2 0 rfl rfl ?_
  refine WO.getR (j := 13) (p := 7) (n := 6) hA (m_0 hw) rfl fiX6_strikes_X6 (by decide) rfl fkX6_strikes_28 dX6_strikes_3 rfl ?_
  refine WO.iload_n (n := 7) hA dX6_strikes_6 1 rfl rfl ?_
  refine WO.iald (n := 8) hA (m_7 hw) dX6_strikes_7 rfl (fun _ => ?_)
  refine WO.callVi (As := [.int x1, .int (M 7 x1.toNatClampNeg)]) (rest := []) (n := 11) hA (c_X6_ownerFrom v.2.1 w hw x1 (M 7 x1.toNatClampNeg) M) gX6_strikes_X6_ownerFrom rfl (m_0 hw) rfl mdX6_ownerFrom ⟨rfl, rfl, Nat.le_of_ble_eq_true rfl, Nat.le_of_ble_eq_true rfl⟩ rfl rfl (Nat.le_of_ble_eq_true rfl) dX6_strikes_8 rfl (fun r2 M1 => ?_)
  refine WO.istore_n (i := 2) (lv' := [(2, .int r2), (0, .ref (w.2.1 0)), (1, .int x1)]) (n := 12) hA dX6_strikes_11 rfl (by decide) rfl rfl ?_
  refine WO.aload_n (n := 13) hA dX6_strikes_12 1 rfl rfl ?_
  refine WO.dup (n := 14) hA dX6_strikes_13 rfl rfl ?_
  refine WO.getI (j := 21) (n := 17) hA (m_0 hw) rfl fiX6_strikes_X6 (by decide) rfl fkX6_strikes_164 dX6_strikes_14 rfl ?_
  refine WO.iload_n (n := 18) hA dX6_strikes_17 0 rfl rfl ?_
  refine WO.bipush (x := (-9 : Int32)) (n := 20) hA dX6_strikes_18 (by decide) rfl ?_
  refine WO.icmp_ne (tg := 27) (n := 23) hA dX6_strikes_20 (by decide) rfl (fun _ => ?_) (fun _ => ?_)
  · refine WO.iconst (x := (1 : Int32)) (n := 24) hA dX6_strikes_23 (by decide) rfl ?_
    refine WO.goto (n := 28) hA dX6_strikes_24 (by decide) ?_
    refine WO.iadd (n := 29) hA dX6_strikes_28 rfl ?_
    refine WO.putI (j := 21) (n := 32) hA (m_0 hw) rfl fiX6_strikes_X6 tyX6 tyX6_ok nmX6 (by decide) rfl fkX6_strikes_164 rfl rfl rfl rfl dX6_strikes_29 rfl ?_
    refine WO.mem (fun M3 => ?_)
    refine WO.aload_n (n := 33) hA dX6_strikes_32 1 rfl rfl ?_
    refine WO.dup (n := 34) hA dX6_strikes_33 rfl rfl ?_
    refine WO.getI (j := 20) (n := 37) hA (m_0 hw) rfl fiX6_strikes_X6 (by decide) rfl fkX6_strikes_167 dX6_strikes_34 rfl ?_
    refine WO.iload_n (n := 38) hA dX6_strikes_37 0 rfl rfl ?_
    refine WO.bipush (x := (-9 : Int32)) (n := 40) hA dX6_strikes_38 (by decide) rfl ?_
    refine WO.icmp_eq (tg := 57) (n := 43) hA dX6_strikes_40 (by decide) rfl (fun _ => ?_) (fun _ => ?_)
    · refine WO.iconst (x := (0 : Int32)) (n := 58) hA dX6_strikes_57 (by decide) rfl ?_
      refine WO.iadd (n := 59) hA dX6_strikes_58 rfl ?_
      refine WO.putI (j := 20) (n := 62) hA (m_0 hw) rfl fiX6_strikes_X6 tyX6 tyX6_ok nmX6 (by decide) rfl fkX6_strikes_167 rfl rfl rfl rfl dX6_strikes_59 rfl ?_
      refine WO.mem (fun M4 => ?_)
      refine WO.aload_n (n := 63) hA dX6_strikes_62 1 rfl rfl ?_
      refine WO.getR (j := 13) (p := 7) (n := 66) hA (m_0 hw) rfl fiX6_strikes_X6 (by decide) rfl fkX6_strikes_28 dX6_strikes_63 rfl ?_
      refine WO.iload_n (n := 67) hA dX6_strikes_66 2 rfl rfl ?_
      refine WO.iload_n (n := 68) hA dX6_strikes_67 0 rfl rfl ?_
      refine WO.bipush (x := (-9 : Int32)) (n := 70) hA dX6_strikes_68 (by decide) rfl ?_
      refine WO.icmp_ne (tg := 82) (n := 73) hA dX6_strikes_70 (by decide) rfl (fun _ => ?_) (fun _ => ?_)
      · refine WO.aload_n (n := 74) hA dX6_strikes_73 1 rfl rfl ?_
        refine WO.getR (j := 13) (p := 7) (n := 77) hA (m_0 hw) rfl fiX6_strikes_X6 (by decide) rfl fkX6_strikes_28 dX6_strikes_74 rfl ?_
        refine WO.iload_n (n := 78) hA dX6_strikes_77 2 rfl rfl ?_
        refine WO.iald (n := 79) hA (m_7 hw) dX6_strikes_78 rfl (fun _ => ?_)
        refine WO.goto (n := 83) hA dX6_strikes_79 (by decide) ?_
        refine WO.iast (n := 84) hA (m_7 hw) dX6_strikes_83 rfl (fun _ => ?_)
        refine WO.mem (fun M5 => ?_)
        refine WO.iload_n (n := 85) hA dX6_strikes_84 0 rfl rfl ?_
        exact WO.iret hA dX6_strikes_85
      · refine WO.iload_n (n := 83) hA dX6_strikes_82 0 rfl rfl ?_
        refine WO.iast (n := 84) hA (m_7 hw) dX6_strikes_83 rfl (fun _ => ?_)
        refine WO.mem (fun M6 => ?_)
        refine WO.iload_n (n := 85) hA dX6_strikes_84 0 rfl rfl ?_
        exact WO.iret hA dX6_strikes_85
    · refine WO.iload_n (n := 44) hA dX6_strikes_43 0 rfl rfl ?_
      refine WO.aload_n (n := 45) hA dX6_strikes_44 1 rfl rfl ?_
      refine WO.getR (j := 13) (p := 7) (n := 48) hA (m_0 hw) rfl fiX6_strikes_X6 (by decide) rfl fkX6_strikes_28 dX6_strikes_45 rfl ?_
      refine WO.iload_n (n := 49) hA dX6_strikes_48 2 rfl rfl ?_
      refine WO.iald (n := 50) hA (m_7 hw) dX6_strikes_49 rfl (fun _ => ?_)
      refine WO.icmp_eq (tg := 57) (n := 53) hA dX6_strikes_50 (by decide) rfl (fun _ => ?_) (fun _ => ?_)
      · refine WO.iconst (x := (0 : Int32)) (n := 58) hA dX6_strikes_57 (by decide) rfl ?_
        refine WO.iadd (n := 59) hA dX6_strikes_58 rfl ?_
        refine WO.putI (j := 20) (n := 62) hA (m_0 hw) rfl fiX6_strikes_X6 tyX6 tyX6_ok nmX6 (by decide) rfl fkX6_strikes_167 rfl rfl rfl rfl dX6_strikes_59 rfl ?_
        refine WO.mem (fun M7 => ?_)
        refine WO.aload_n (n := 63) hA dX6_strikes_62 1 rfl rfl ?_
        refine WO.getR (j := 13) (p := 7) (n := 66) hA (m_0 hw) rfl fiX6_strikes_X6 (by decide) rfl fkX6_strikes_28 dX6_strikes_63 rfl ?_
        refine WO.iload_n (n := 67) hA dX6_strikes_66 2 rfl rfl ?_
        refine WO.iload_n (n := 68) hA dX6_strikes_67 0 rfl rfl ?_
        refine WO.bipush (x := (-9 : Int32)) (n := 70) hA dX6_strikes_68 (by decide) rfl ?_
        refine WO.icmp_ne (tg := 82) (n := 73) hA dX6_strikes_70 (by decide) rfl (fun _ => ?_) (fun _ => ?_)
        · refine WO.aload_n (n := 74) hA dX6_strikes_73 1 rfl rfl ?_
          refine WO.getR (j := 13) (p := 7) (n := 77) hA (m_0 hw) rfl fiX6_strikes_X6 (by decide) rfl fkX6_strikes_28 dX6_strikes_74 rfl ?_
          refine WO.iload_n (n := 78) hA dX6_strikes_77 2 rfl rfl ?_
          refine WO.iald (n := 79) hA (m_7 hw) dX6_strikes_78 rfl (fun _ => ?_)
          refine WO.goto (n := 83) hA dX6_strikes_79 (by decide) ?_
          refine WO.iast (n := 84) hA (m_7 hw) dX6_strikes_83 rfl (fun _ => ?_)
          refine WO.mem (fun M8 => ?_)
          refine WO.iload_n (n := 85) hA dX6_strikes_84 0 rfl rfl ?_
          exact WO.iret hA dX6_strikes_85
        · refine WO.iload_n (n := 83) hA dX6_strikes_82 0 rfl rfl ?_
          refine WO.iast (n := 84) hA (m_7 hw) dX6_strikes_83 rfl (fun _ => ?_)
          refine WO.mem (fun M9 => ?_)
          refine WO.iload_n (n := 85) hA dX6_strikes_84 0 rfl rfl ?_
          exact WO.iret hA dX6_strikes_85
      · refine WO.iconst (x := (1 : Int32)) (n := 54) hA dX6_strikes_53 (by decide) rfl ?_
        refine WO.goto (n := 58) hA dX6_strikes_54 (by decide) ?_
        refine WO.iadd (n := 59) hA dX6_strikes_58 rfl ?_
        refine WO.putI (j := 20) (n := 62) hA (m_0 hw) rfl fiX6_strikes_X6 tyX6 tyX6_ok nmX6 (by decide) rfl fkX6_strikes_167 rfl rfl rfl rfl dX6_strikes_59 rfl ?_
        refine WO.mem (fun M10 => ?_)
        refine WO.aload_n (n := 63) hA dX6_strikes_62 1 rfl rfl ?_
        refine WO.getR (j := 13) (p := 7) (n := 66) hA (m_0 hw) rfl fiX6_strikes_X6 (by decide) rfl fkX6_strikes_28 dX6_strikes_63 rfl ?_
        refine WO.iload_n (n := 67) hA dX6_strikes_66 2 rfl rfl ?_
        refine WO.iload_n (n := 68) hA dX6_strikes_67 0 rfl rfl ?_
        refine WO.bipush (x := (-9 : Int32)) (n := 70) hA dX6_strikes_68 (by decide) rfl ?_
        refine WO.icmp_ne (tg := 82) (n := 73) hA dX6_strikes_70 (by decide) rfl (fun _ => ?_) (fun _ => ?_)
        · refine WO.aload_n (n := 74) hA dX6_strikes_73 1 rfl rfl ?_
          refine WO.getR (j := 13) (p := 7) (n := 77) hA (m_0 hw) rfl fiX6_strikes_X6 (by decide) rfl fkX6_strikes_28 dX6_strikes_74 rfl ?_
          refine WO.iload_n (n := 78) hA dX6_strikes_77 2 rfl rfl ?_
          refine WO.iald (n := 79) hA (m_7 hw) dX6_strikes_78 rfl (fun _ => ?_)
          refine WO.goto (n := 83) hA dX6_strikes_79 (by decide) ?_
          refine WO.iast (n := 84) hA (m_7 hw) dX6_strikes_83 rfl (fun _ => ?_)
          refine WO.mem (fun M11 => ?_)
          refine WO.iload_n (n := 85) hA dX6_strikes_84 0 rfl rfl ?_
          exact WO.iret hA dX6_strikes_85
        · refine WO.iload_n (n := 83) hA dX6_strikes_82 0 rfl rfl ?_
          refine WO.iast (n := 84) hA (m_7 hw) dX6_strikes_83 rfl (fun _ => ?_)
          refine WO.mem (fun M12 => ?_)
          refine WO.iload_n (n := 85) hA dX6_strikes_84 0 rfl rfl ?_
          exact WO.iret hA dX6_strikes_85
  · refine WO.iconst (x := (0 : Int32)) (n := 28) hA dX6_strikes_27 (by decide) rfl ?_
    refine WO.iadd (n := 29) hA dX6_strikes_28 rfl ?_
    refine WO.putI (j := 21) (n := 32) hA (m_0 hw) rfl fiX6_strikes_X6 tyX6 tyX6_ok nmX6 (by decide) rfl fkX6_strikes_164 rfl rfl rfl rfl dX6_strikes_29 rfl ?_
    refine WO.mem (fun M13 => ?_)
    refine WO.aload_n (n := 33) hA dX6_strikes_32 1 rfl rfl ?_
    refine WO.dup (n := 34) hA dX6_strikes_33 rfl rfl ?_
    refine WO.getI (j := 20) (n := 37) hA (m_0 hw) rfl fiX6_strikes_X6 (by decide) rfl fkX6_strikes_167 dX6_strikes_34 rfl ?_
    refine WO.iload_n (n := 38) hA dX6_strikes_37 0 rfl rfl ?_
    refine WO.bipush (x := (-9 : Int32)) (n := 40) hA dX6_strikes_38 (by decide) rfl ?_
    refine WO.icmp_eq (tg := 57) (n := 43) hA dX6_strikes_40 (by decide) rfl (fun _ => ?_) (fun _ => ?_)
    · refine WO.iconst (x := (0 : Int32)) (n := 58) hA dX6_strikes_57 (by decide) rfl ?_
      refine WO.iadd (n := 59) hA dX6_strikes_58 rfl ?_
      refine WO.putI (j := 20) (n := 62) hA (m_0 hw) rfl fiX6_strikes_X6 tyX6 tyX6_ok nmX6 (by decide) rfl fkX6_strikes_167 rfl rfl rfl rfl dX6_strikes_59 rfl ?_
      refine WO.mem (fun M14 => ?_)
      refine WO.aload_n (n := 63) hA dX6_strikes_62 1 rfl rfl ?_
      refine WO.getR (j := 13) (p := 7) (n := 66) hA (m_0 hw) rfl fiX6_strikes_X6 (by decide) rfl fkX6_strikes_28 dX6_strikes_63 rfl ?_
      refine WO.iload_n (n := 67) hA dX6_strikes_66 2 rfl rfl ?_
      refine WO.iload_n (n := 68) hA dX6_strikes_67 0 rfl rfl ?_
      refine WO.bipush (x := (-9 : Int32)) (n := 70) hA dX6_strikes_68 (by decide) rfl ?_
      refine WO.icmp_ne (tg := 82) (n := 73) hA dX6_strikes_70 (by decide) rfl (fun _ => ?_) (fun _ => ?_)
      · refine WO.aload_n (n := 74) hA dX6_strikes_73 1 rfl rfl ?_
        refine WO.getR (j := 13) (p := 7) (n := 77) hA (m_0 hw) rfl fiX6_strikes_X6 (by decide) rfl fkX6_strikes_28 dX6_strikes_74 rfl ?_
        refine WO.iload_n (n := 78) hA dX6_strikes_77 2 rfl rfl ?_
        refine WO.iald (n := 79) hA (m_7 hw) dX6_strikes_78 rfl (fun _ => ?_)
        refine WO.goto (n := 83) hA dX6_strikes_79 (by decide) ?_
        refine WO.iast (n := 84) hA (m_7 hw) dX6_strikes_83 rfl (fun _ => ?_)
        refine WO.mem (fun M15 => ?_)
        refine WO.iload_n (n := 85) hA dX6_strikes_84 0 rfl rfl ?_
        exact WO.iret hA dX6_strikes_85
      · refine WO.iload_n (n := 83) hA dX6_strikes_82 0 rfl rfl ?_
        refine WO.iast (n := 84) hA (m_7 hw) dX6_strikes_83 rfl (fun _ => ?_)
        refine WO.mem (fun M16 => ?_)
        refine WO.iload_n (n := 85) hA dX6_strikes_84 0 rfl rfl ?_
        exact WO.iret hA dX6_strikes_85
    · refine WO.iload_n (n := 44) hA dX6_strikes_43 0 rfl rfl ?_
      refine WO.aload_n (n := 45) hA dX6_strikes_44 1 rfl rfl ?_
      refine WO.getR (j := 13) (p := 7) (n := 48) hA (m_0 hw) rfl fiX6_strikes_X6 (by decide) rfl fkX6_strikes_28 dX6_strikes_45 rfl ?_
      refine WO.iload_n (n := 49) hA dX6_strikes_48 2 rfl rfl ?_
      refine WO.iald (n := 50) hA (m_7 hw) dX6_strikes_49 rfl (fun _ => ?_)
      refine WO.icmp_eq (tg := 57) (n := 53) hA dX6_strikes_50 (by decide) rfl (fun _ => ?_) (fun _ => ?_)
      · refine WO.iconst (x := (0 : Int32)) (n := 58) hA dX6_strikes_57 (by decide) rfl ?_
        refine WO.iadd (n := 59) hA dX6_strikes_58 rfl ?_
        refine WO.putI (j := 20) (n := 62) hA (m_0 hw) rfl fiX6_strikes_X6 tyX6 tyX6_ok nmX6 (by decide) rfl fkX6_strikes_167 rfl rfl rfl rfl dX6_strikes_59 rfl ?_
        refine WO.mem (fun M17 => ?_)
        refine WO.aload_n (n := 63) hA dX6_strikes_62 1 rfl rfl ?_
        refine WO.getR (j := 13) (p := 7) (n := 66) hA (m_0 hw) rfl fiX6_strikes_X6 (by decide) rfl fkX6_strikes_28 dX6_strikes_63 rfl ?_
        refine WO.iload_n (n := 67) hA dX6_strikes_66 2 rfl rfl ?_
        refine WO.iload_n (n := 68) hA dX6_strikes_67 0 rfl rfl ?_
        refine WO.bipush (x := (-9 : Int32)) (n := 70) hA dX6_strikes_68 (by decide) rfl ?_
        refine WO.icmp_ne (tg := 82) (n := 73) hA dX6_strikes_70 (by decide) rfl (fun _ => ?_) (fun _ => ?_)
        · refine WO.aload_n (n := 74) hA dX6_strikes_73 1 rfl rfl ?_
          refine WO.getR (j := 13) (p := 7) (n := 77) hA (m_0 hw) rfl fiX6_strikes_X6 (by decide) rfl fkX6_strikes_28 dX6_strikes_74 rfl ?_
          refine WO.iload_n (n := 78) hA dX6_strikes_77 2 rfl rfl ?_
          refine WO.iald (n := 79) hA (m_7 hw) dX6_strikes_78 rfl (fun _ => ?_)
          refine WO.goto (n := 83) hA dX6_strikes_79 (by decide) ?_
          refine WO.iast (n := 84) hA (m_7 hw) dX6_strikes_83 rfl (fun _ => ?_)
          refine WO.mem (fun M18 => ?_)
          refine WO.iload_n (n := 85) hA dX6_strikes_84 0 rfl rfl ?_
          exact WO.iret hA dX6_strikes_85
        · refine WO.iload_n (n := 83) hA dX6_strikes_82 0 rfl rfl ?_
          refine WO.iast (n := 84) hA (m_7 hw) dX6_strikes_83 rfl (fun _ => ?_)
          refine WO.mem (fun M19 => ?_)
          refine WO.iload_n (n := 85) hA dX6_strikes_84 0 rfl rfl ?_
          exact WO.iret hA dX6_strikes_85
      · refine WO.iconst (x := (1 : Int32)) (n := 54) hA dX6_strikes_53 (by decide) rfl ?_
        refine WO.goto (n := 58) hA dX6_strikes_54 (by decide) ?_
        refine WO.iadd (n := 59) hA dX6_strikes_58 rfl ?_
        refine WO.putI (j := 20) (n := 62) hA (m_0 hw) rfl fiX6_strikes_X6 tyX6 tyX6_ok nmX6 (by decide) rfl fkX6_strikes_167 rfl rfl rfl rfl dX6_strikes_59 rfl ?_
        refine WO.mem (fun M20 => ?_)
        refine WO.aload_n (n := 63) hA dX6_strikes_62 1 rfl rfl ?_
        refine WO.getR (j := 13) (p := 7) (n := 66) hA (m_0 hw) rfl fiX6_strikes_X6 (by decide) rfl fkX6_strikes_28 dX6_strikes_63 rfl ?_
        refine WO.iload_n (n := 67) hA dX6_strikes_66 2 rfl rfl ?_
        refine WO.iload_n (n := 68) hA dX6_strikes_67 0 rfl rfl ?_
        refine WO.bipush (x := (-9 : Int32)) (n := 70) hA dX6_strikes_68 (by decide) rfl ?_
        refine WO.icmp_ne (tg := 82) (n := 73) hA dX6_strikes_70 (by decide) rfl (fun _ => ?_) (fun _ => ?_)
        · refine WO.aload_n (n := 74) hA dX6_strikes_73 1 rfl rfl ?_
          refine WO.getR (j := 13) (p := 7) (n := 77) hA (m_0 hw) rfl fiX6_strikes_X6 (by decide) rfl fkX6_strikes_28 dX6_strikes_74 rfl ?_
          refine WO.iload_n (n := 78) hA dX6_strikes_77 2 rfl rfl ?_
          refine WO.iald (n := 79) hA (m_7 hw) dX6_strikes_78 rfl (fun _ => ?_)
          refine WO.goto (n := 83) hA dX6_strikes_79 (by decide) ?_
          refine WO.iast (n := 84) hA (m_7 hw) dX6_strikes_83 rfl (fun _ => ?_)
          refine WO.mem (fun M21 => ?_)
          refine WO.iload_n (n := 85) hA dX6_strikes_84 0 rfl rfl ?_
          exact WO.iret hA dX6_strikes_85
        · refine WO.iload_n (n := 83) hA dX6_strikes_82 0 rfl rfl ?_
          refine WO.iast (n := 84) hA (m_7 hw) dX6_strikes_83 rfl (fun _ => ?_)
          refine WO.mem (fun M22 => ?_)
          refine WO.iload_n (n := 85) hA dX6_strikes_84 0 rfl rfl ?_
          exact WO.iret hA dX6_strikes_85
