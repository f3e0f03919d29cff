/- X6_tellSeason -/
abbrev rmX6_tellSeason : Room := { frames := 1, cells := 0, slots := 0, locals := 21 }
theorem mdX6_tellSeason : yX6_tellSeason.cls = RX6 ∧ yX6_tellSeason.cls ≠ "java/lang/invoke/MethodHandle" ∧ yX6_tellSeason.cls ≠ "java/lang/invoke/VarHandle" ∧ (parseMethodDescriptor yX6_tellSeason.desc).map (fun d => d.parameters.length) = some 1 := by decide +kernel
theorem fkX6_tellSeason_71 : Cond.fieldLink RX6 71 (TX6 7).1 (TX6 7).2.1 (TX6 7).2.2.1 ∈ wsX6_tellSeason := by decide +kernel
theorem fiX6_tellSeason_X6 : ∀ q ∈ u_ws RX6 TX6 30, q ∈ wsX6_tellSeason := by decide +kernel
theorem fkX6_tellSeason_28 : Cond.fieldLink RX6 28 (TX6 13).1 (TX6 13).2.1 (TX6 13).2.2.1 ∈ wsX6_tellSeason := by decide +kernel
theorem fkX6_tellSeason_114 : Cond.fieldLink RX6 114 (TX6 9).1 (TX6 9).2.1 (TX6 9).2.2.1 ∈ wsX6_tellSeason := by decide +kernel
theorem fkX6_tellSeason_167 : Cond.fieldLink RX6 167 (TX6 20).1 (TX6 20).2.1 (TX6 20).2.2.1 ∈ wsX6_tellSeason := by decide +kernel
theorem fkX6_tellSeason_164 : Cond.fieldLink RX6 164 (TX6 21).1 (TX6 21).2.1 (TX6 21).2.2.1 ∈ wsX6_tellSeason := by decide +kernel
noncomputable def f_X6_tellSeason_L69 (kx : Int32 → Mem → Option (Int32 × Mem)) : Nat → Int32 → Int32 → Mem → Option (Int32 × Mem)
  | 0, _, _, _ => none
  | n + 1, x2, x3, M => if (M 0 7) ≤ x3 then (kx x2 M) else (grd x3 4 (ilt (x2 ||| ((1 : Int32) <<< ((M 7 x3.toNatClampNeg) &&& 31))) (fun x_1 => f_X6_tellSeason_L69 kx n x_1 (x3 + (1 : Int32)) M)))
noncomputable def f_X6_tellSeason (x1 : Int32) (M : Mem) : Option (Int32 × Mem) := if x1 < (10 : Int32) then (if (4 : Int32) ≤ x1 then (f_X6_tellSeason_L69 (fun e2 M3 => some (e2, M3)) FU (0 : Int32) (0 : Int32) M) else (if x1 = 0 then (some ((M 0 9), M)) else (if x1 = (2 : Int32) then (some ((M 0 20), M)) else (some ((M 0 21), M))))) else (bd (f_X6_isClock (x1 - (10 : Int32)) M) (fun r5 M4 => if r5 = 0 then (some ((-9 : Int32), M4)) else (grd (x1 - (10 : Int32)) 4 (some ((M4 7 (x1 - (10 : Int32)).toNatClampNeg), M4)))))
set_option maxHeartbeats 4000000 in
set_option maxRecDepth 100000 in
theorem w_X6_tellSeason_L69 {v : Av} {w : Cw} (hw : w.2.2.2.2.2 = shM) (hA : Act v w RX6 wsX6_tellSeason cX6_tellSeason 4 (some .int)) (kx : Int32 → Mem → Option (Int32 × Mem)) (hk : ∀ (y2 : Int32) (M : Mem), WO v w rmX6_tellSeason 4 eI (kx y2 M) 94 [(2, .int y2)] [] M) : ∀ (n : Nat) (x2 : Int32) (x3 : Int32) (M : Mem), WO v w rmX6_tellSeason 4 eI (f_X6_tellSeason_L69 kx n x2 x3 M) 69 [(0, .ref (w.2.1 0)), (2, .int x2), (3, .int x3)] [] M := by
  intro n
  induction n with
  | zero => intro x2 x3 M; exact WO.nothing
  | succ n ih =>
    intro x2 x3 M
    rw [f_X6_tellSeason_L69]
    refine WO.iload_n (n := 70) hA dX6_tellSeason_69 2 rfl rfl ?_
    refine WO.aload_n (n := 71) hA dX6_tellSeason_70 0 rfl rfl ?_
    refine WO.getI (j := 7) (n := 74) hA (m_0 hw) rfl fiX6_tellSeason_X6 (by decide) rfl fkX6_tellSeason_71 dX6_tellSeason_71 rfl ?_
    refine WO.icmp_ge (tg := 94) (n := 77) hA dX6_tellSeason_74 (by decide) rfl (fun _ => ?_) (fun _ => ?_)
    · refine WO.sub (lv' := [(2, .int x2)]) [1] rfl ?_
      exact hk x2 M
    · refine WO.iload_n (n := 78) hA dX6_tellSeason_77 1 rfl rfl ?_
      refine WO.iconst (x := (1 : Int32)) (n := 79) hA dX6_tellSeason_78 (by decide) rfl ?_
      refine WO.aload_n (n := 80) hA dX6_tellSeason_79 0 rfl rfl ?_
      refine WO.getR (j := 13) (p := 7) (n := 83) hA (m_0 hw) rfl fiX6_tellSeason_X6 (by decide) rfl fkX6_tellSeason_28 dX6_tellSeason_80 rfl ?_
      refine WO.iload_n (n := 84) hA dX6_tellSeason_83 2 rfl rfl ?_
      refine WO.iald (n := 85) hA (m_7 hw) dX6_tellSeason_84 rfl (fun _ => ?_)
      refine WO.ishl (n := 86) hA dX6_tellSeason_85 rfl ?_
      refine WO.ior (n := 87) hA dX6_tellSeason_86 rfl ?_
      refine WO.top (fun x_1 => ?_)
      refine WO.istore_n (i := 2) (lv' := [(2, .int x_1), (0, .ref (w.2.1 0)), (3, .int x3)]) (n := 88) hA dX6_tellSeason_87 rfl (by decide) rfl rfl ?_
      refine WO.iinc (y := (1 : Int32)) (lv' := [(3, .int (x3 + (1 : Int32))), (2, .int x_1), (0, .ref (w.2.1 0))]) (n := 91) hA dX6_tellSeason_88 2 rfl (by decide) (by decide) rfl rfl ?_
      refine WO.goto (n := 69) hA dX6_tellSeason_91 (by decide) ?_
      refine WO.sub (lv' := [(0, .ref (w.2.1 0)), (2, .int x_1), (3, .int (x3 + (1 : Int32)))]) [2, 1, 0] rfl ?_
      exact ih x_1 (x3 + (1 : Int32)) M
set_option maxHeartbeats 4000000 in
set_option maxRecDepth 100000 in
theorem c_X6_tellSeason (l : Launch) (w : Cw) (hw : w.2.2.2.2.2 = shM) (x1 : Int32) (M : Mem) : Ok l w eI yX6_tellSeason wsX6_tellSeason rmX6_tellSeason [.ref (w.2.1 0), .int x1] M (f_X6_tellSeason x1 M) := by
  refine Ok.of (cc := cX6_tellSeason) (nL := 4) (ret := (some .int)) (lv := [(0, .ref (w.2.1 0)), (1, .int x1)]) (by decide) rfl (Nat.le_of_ble_eq_true rfl) rfl (fun v hv hA => ?_)
  subst hv
  have hA : Act v w RX6 wsX6_tellSeason cX6_tellSeason 4 (some .int) := hA
  unfold f_X6_tellSeason
  refine WO.iload_n (n := 1) hA dX6_tellSeason_0 1 rfl rfl ?_
  refine WO.bipush (x := (10 : Int32)) (n := 3) hA dX6_tellSeason_1 (by decide) rfl ?_
  refine WO.icmp_lt (tg := 32) (n := 6) hA dX6_tellSeason_3 (by decide) rfl (fun _ => ?_) (fun _ => ?_)
  · refine WO.iload_n (n := 33) hA dX6_tellSeason_32 1 rfl rfl ?_
    refine WO.iconst (x := (4 : Int32)) (n := 34) hA dX6_tellSeason_33 (by decide) rfl ?_
    refine WO.icmp_ge (tg := 65) (n := 37) hA dX6_tellSeason_34 (by decide) rfl (fun _ => ?_) (fun _ => ?_)
    · refine WO.iconst (x := (0 : Int32)) (n := 66) hA dX6_tellSeason_65 (by decide) rfl ?_
      refine WO.istore_n (i := 2) (lv' := [(2, .int (0 : Int32)), (0, .ref (w.2.1 0)), (1, .int x1)]) (n := 67) hA dX6_tellSeason_66 rfl (by decide) rfl rfl ?_
      refine WO.iconst (x := (0 : Int32)) (n := 68) hA dX6_tellSeason_67 (by decide) rfl ?_
      refine WO.istore_n (i := 3) (lv' := [(3, .int (0 : Int32)), (2, .int (0 : Int32)), (0, .ref (w.2.1 0)), (1, .int x1)]) (n := 69) hA dX6_tellSeason_68 rfl (by decide) rfl rfl ?_
      refine WO.sub (lv' := [(0, .ref (w.2.1 0)), (2, .int (0 : Int32)), (3, .int (0 : Int32))]) [2, 1, 0] rfl ?_
      refine w_X6_tellSeason_L69 hw hA _ (fun e2 M3 => ?_) _ _ _ _
      refine WO.iload_n (n := 95) hA dX6_tellSeason_94 0 rfl rfl ?_
      exact WO.iret hA dX6_tellSeason_95
    · refine WO.iload_n (n := 38) hA dX6_tellSeason_37 1 rfl rfl ?_
      refine WO.if_ne (tg := 48) (n := 41) hA dX6_tellSeason_38 (by decide) rfl (fun _ => ?_) (fun _ => ?_)
      · refine WO.aload_n (n := 42) hA dX6_tellSeason_41 0 rfl rfl ?_
        refine WO.getI (j := 9) (n := 45) hA (m_0 hw) rfl fiX6_tellSeason_X6 (by decide) rfl fkX6_tellSeason_114 dX6_tellSeason_42 rfl ?_
        refine WO.goto (n := 64) hA dX6_tellSeason_45 (by decide) ?_
        exact WO.iret hA dX6_tellSeason_64
      · refine WO.iload_n (n := 49) hA dX6_tellSeason_48 1 rfl rfl ?_
        refine WO.iconst (x := (2 : Int32)) (n := 50) hA dX6_tellSeason_49 (by decide) rfl ?_
        refine WO.icmp_ne (tg := 60) (n := 53) hA dX6_tellSeason_50 (by decide) rfl (fun _ => ?_) (fun _ => ?_)
        · refine WO.aload_n (n := 54) hA dX6_tellSeason_53 0 rfl rfl ?_
          refine WO.getI (j := 20) (n := 57) hA (m_0 hw) rfl fiX6_tellSeason_X6 (by decide) rfl fkX6_tellSeason_167 dX6_tellSeason_54 rfl ?_
          refine WO.goto (n := 64) hA dX6_tellSeason_57 (by decide) ?_
          exact WO.iret hA dX6_tellSeason_64
        · refine WO.aload_n (n := 61) hA dX6_tellSeason_60 0 rfl rfl ?_
          refine WO.getI (j := 21) (n := 64) hA (m_0 hw) rfl fiX6_tellSeason_X6 (by decide) rfl fkX6_tellSeason_164 dX6_tellSeason_61 rfl ?_
          exact WO.iret hA dX6_tellSeason_64
  · refine WO.aload_n (n := 7) hA dX6_tellSeason_6 0 rfl rfl ?_
    refine WO.iload_n (n := 8) hA dX6_tellSeason_7 1 rfl rfl ?_
    refine WO.bipush (x := (10 : Int32)) (n := 10) hA dX6_tellSeason_8 (by decide) rfl ?_
    refine WO.isub (n := 11) hA dX6_tellSeason_10 rfl ?_
    refine WO.callVi (As := [.int (x1 - (10 : Int32))]) (rest := []) (n := 14) hA (c_X6_isClock v.2.1 w hw (x1 - (10 : Int32)) M) gX6_tellSeason_X6_isClock rfl (m_0 hw) rfl mdX6_isClock ⟨rfl, rfl, Nat.le_of_ble_eq_true rfl, Nat.le_of_ble_eq_true rfl⟩ rfl rfl (Nat.le_of_ble_eq_true rfl) dX6_tellSeason_11 rfl (fun r5 M4 => ?_)
    refine WO.if_eq (tg := 29) (n := 17) hA dX6_tellSeason_14 (by decide) rfl (fun _ => ?_) (fun _ => ?_)
    · refine WO.bipush (x := (-9 : Int32)) (n := 31) hA dX6_tellSeason_29 (by decide) rfl ?_
      exact WO.iret hA dX6_tellSeason_31
    · refine WO.aload_n (n := 18) hA dX6_tellSeason_17 0 rfl rfl ?_
      refine WO.getR (j := 13) (p := 7) (n := 21) hA (m_0 hw) rfl fiX6_tellSeason_X6 (by decide) rfl fkX6_tellSeason_28 dX6_tellSeason_18 rfl ?_
      refine WO.iload_n (n := 22) hA dX6_tellSeason_21 1 rfl rfl ?_
      refine WO.bipush (x := (10 : Int32)) (n := 24) hA dX6_tellSeason_22 (by decide) rfl ?_
      refine WO.isub (n := 25) hA dX6_tellSeason_24 rfl ?_
      refine WO.iald (n := 26) hA (m_7 hw) dX6_tellSeason_25 rfl (fun _ => ?_)
      refine WO.goto (n := 31) hA dX6_tellSeason_26 (by decide) ?_
      exact WO.iret hA dX6_tellSeason_31
/- X6_season -/
abbrev rmX6_season : Room := { frames := 9, cells := 0, slots := 0, locals := 203 }
theorem mdX6_season : yX6_season.cls = RX6 ∧ yX6_season.cls ≠ "java/lang/invoke/MethodHandle" ∧ yX6_season.cls ≠ "java/lang/invoke/VarHandle" ∧ (parseMethodDescriptor yX6_season.desc).map (fun d => d.parameters.length) = some 5 := by decide +kernel
theorem fkX6_season_58 : Cond.fieldLink RX6 58 (TX6 0).1 (TX6 0).2.1 (TX6 0).2.2.1 ∈ wsX6_season := by decide +kernel
theorem fiX6_season_X6 : ∀ q ∈ u_ws RX6 TX6 30, q ∈ wsX6_season := by decide +kernel
theorem fkX6_season_68 : Cond.fieldLink RX6 68 (TX6 6).1 (TX6 6).2.1 (TX6 6).2.2.1 ∈ wsX6_season := by decide +kernel
theorem fkX6_season_16 : Cond.fieldLink RX6 16 (TX6 4).1 (TX6 4).2.1 (TX6 4).2.2.1 ∈ wsX6_season := by decide +kernel
theorem fkX6_season_114 : Cond.fieldLink RX6 114 (TX6 9).1 (TX6 9).2.1 (TX6 9).2.2.1 ∈ wsX6_season := by decide +kernel
noncomputable def f_X6_season_L103 (x4 : Int32) (x5 : Int32) (x7 : Int32) (kx : Mem → Option (Int32 × Mem)) : Nat → Int32 → Mem → Option (Int32 × Mem)
  | 0, _, _ => none
  | n + 1, x8, M => if x4 ≤ x8 then (kx  M) else (grd (x7 + ((2 : Int32) * x8)) 240 (grd ((x7 + ((2 : Int32) * x8)) + (1 : Int32)) 240 (bd (f_X6_refusesPair (M 3 (x7 + ((2 : Int32) * x8)).toNatClampNeg) (M 3 ((x7 + ((2 : Int32) * x8)) + (1 : Int32)).toNatClampNeg) M) (fun r16 M15 => if r16 = 0 then (f_X6_season_L103 x4 x5 x7 kx n (x8 + (1 : Int32)) M15) else (some (r16, M15))))))
noncomputable def f_X6_season (x1 : Int32) (x2 : Int32) (x3 : Int32) (x4 : Int32) (x5 : Int32) (M : Mem) : Option (Int32 × Mem) := mlt (mu M 0 0 (0 : Int32)) (fun M1 => bd (f_X6_isSheet x1 M1) (fun r3 M2 => if r3 = 0 then (some ((-1 : Int32), M2)) else (bd (f_X6_isSort x2 M2) (fun r5 M4 => if r5 = 0 then (some ((-2 : Int32), M4)) else (bd (f_X6_within x4 (0 : Int32) (20 : Int32) M4) (fun r7 M6 => if r7 = 0 then (some ((-2 : Int32), M6)) else (bd (f_X6_within x5 (0 : Int32) (4 : Int32) M6) (fun r9 M8 => if r9 = 0 then (bd (f_X6_within x5 (10 : Int32) (13 : Int32) M8) (fun r11 M10 => if r11 = 0 then (some ((-2 : Int32), M10)) else (bd (f_X6_against x1 x2 x3 ((2 : Int32) * x4) M10) (fun r13 M12 => if r13 = 0 then (if (M12 0 6) = 0 then (some ((-3 : Int32), M12)) else (ilt (((60 : Int32) * x1) + x3) (fun x_14 => f_X6_season_L103 x4 x5 x_14 (fun  M17 => bd (f_X6_keep M17) (fun _ M18 => ilt (M18 0 9) (fun x_19 => bd (f_X6_goSeason x_14 x4 M18) (fun r21 M20 => bd (f_X6_tellSeason x5 M20) (fun r23 M22 => bd (f_X6_putBack M22) (fun _ M24 => mlt (mu M24 0 9 x_19) (fun M25 => if x5 = (1 : Int32) then (some (r21, M25)) else (if r21 = (-9 : Int32) then (some (r23, M25)) else (some (((-100 : Int32) - r21), M25)))))))))) FU (0 : Int32) M12))) else (bd (f_X6_fails r13 M12) (fun r27 M26 => some (r27, M26))))))) else (bd (f_X6_against x1 x2 x3 ((2 : Int32) * x4) M8) (fun r29 M28 => if r29 = 0 then (if (M28 0 6) = 0 then (some ((-3 : Int32), M28)) else (ilt (((60 : Int32) * x1) + x3) (fun x_30 => f_X6_season_L103 x4 x5 x_30 (fun  M31 => bd (f_X6_keep M31) (fun _ M32 => ilt (M32 0 9) (fun x_33 => bd (f_X6_goSeason x_30 x4 M32) (fun r35 M34 => bd (f_X6_tellSeason x5 M34) (fun r37 M36 => bd (f_X6_putBack M36) (fun _ M38 => mlt (mu M38 0 9 x_33) (fun M39 => if x5 = (1 : Int32) then (some (r35, M39)) else (if r35 = (-9 : Int32) then (some (r37, M39)) else (some (((-100 : Int32) - r35), M39)))))))))) FU (0 : Int32) M28))) else (bd (f_X6_fails r29 M28) (fun r41 M40 => some (r41, M40)))))))))))))
set_option maxHeartbeats 4000000 in
set_option maxRecDepth 100000 in
theorem w_X6_season_L103 {v : Av} {w : Cw} (hw : w.2.2.2.2.2 = shM) (hA : Act v w RX6 wsX6_season cX6_season 11 (some .int)) (x4 : Int32) (x5 : Int32) (x7 : Int32) (kx : Mem → Option (Int32 × Mem)) (hk : ∀ (M : Mem), WO v w rmX6_season 11 eI (kx M) 156 [(0, .ref (w.2.1 0)), (4, .int x4), (5, .int x5), (7, .int x7)] [] M) : ∀ (n : Nat) (x8 : Int32) (M : Mem), WO v w rmX6_season 11 eI (f_X6_season_L103 x4 x5 x7 kx n x8 M) 103 [(0, .ref (w.2.1 0)), (4, .int x4), (5, .int x5), (7, .int x7), (8, .int x8)] [] M := by
  intro n
  induction n with
  | zero => intro x8 M; exact WO.nothing
  | succ n ih =>
    intro x8 M
    rw [f_X6_season_L103]
    refine WO.iload (n := 105) hA dX6_season_103 4 rfl rfl ?_
    refine WO.iload (n := 107) hA dX6_season_105 1 rfl rfl ?_
    refine WO.icmp_ge (tg := 156) (n := 110) hA dX6_season_107 (by decide) rfl (fun _ => ?_) (fun _ => ?_)
    · refine WO.sub (lv' := [(0, .ref (w.2.1 0)), (4, .int x4), (5, .int x5), (7, .int x7)]) [0, 1, 2, 3] rfl ?_
      exact hk  M
    · refine WO.aload_n (n := 111) hA dX6_season_110 0 rfl rfl ?_
      refine WO.aload_n (n := 112) hA dX6_season_111 0 rfl rfl ?_
      refine WO.getR (j := 4) (p := 3) (n := 115) hA (m_0 hw) rfl fiX6_season_X6 (by decide) rfl fkX6_season_16 dX6_season_112 rfl ?_
      refine WO.iload (n := 117) hA dX6_season_115 3 rfl rfl ?_
      refine WO.iconst (x := (2 : Int32)) (n := 118) hA dX6_season_117 (by decide) rfl ?_
      refine WO.iload (n := 120) hA dX6_season_118 4 rfl rfl ?_
      refine WO.imul (n := 121) hA dX6_season_120 rfl ?_
      refine WO.iadd (n := 122) hA dX6_season_121 rfl ?_
      refine WO.iald (n := 123) hA (m_3 hw) dX6_season_122 rfl (fun _ => ?_)
      refine WO.aload_n (n := 124) hA dX6_season_123 0 rfl rfl ?_
      refine WO.getR (j := 4) (p := 3) (n := 127) hA (m_0 hw) rfl fiX6_season_X6 (by decide) rfl fkX6_season_16 dX6_season_124 rfl ?_
      refine WO.iload (n := 129) hA dX6_season_127 3 rfl rfl ?_
      refine WO.iconst (x := (2 : Int32)) (n := 130) hA dX6_season_129 (by decide) rfl ?_
      refine WO.iload (n := 132) hA dX6_season_130 4 rfl rfl ?_
      refine WO.imul (n := 133) hA dX6_season_132 rfl ?_
      refine WO.iadd (n := 134) hA dX6_season_133 rfl ?_
      refine WO.iconst (x := (1 : Int32)) (n := 135) hA dX6_season_134 (by decide) rfl ?_
      refine WO.iadd (n := 136) hA dX6_season_135 rfl ?_
      refine WO.iald (n := 137) hA (m_3 hw) dX6_season_136 rfl (fun _ => ?_)
      refine WO.callVi (As := [.int (M 3 (x7 + ((2 : Int32) * x8)).toNatClampNeg), .int (M 3 ((x7 + ((2 : Int32) * x8)) + (1 : Int32)).toNatClampNeg)]) (rest := []) (n := 140) hA (c_X6_refusesPair v.2.1 w hw (M 3 (x7 + ((2 : Int32) * x8)).toNatClampNeg) (M 3 ((x7 + ((2 : Int32) * x8)) + (1 : Int32)).toNatClampNeg) M) gX6_season_X6_refusesPair rfl (m_0 hw) rfl mdX6_refusesPair ⟨rfl, rfl, Nat.le_of_ble_eq_true rfl, Nat.le_of_ble_eq_true rfl⟩ rfl rfl (Nat.le_of_ble_eq_true rfl) dX6_season_137 rfl (fun r16 M15 => ?_)
      refine WO.istore (lv' := [(9, .int r16), (0, .ref (w.2.1 0)), (4, .int x4), (5, .int x5), (7, .int x7), (8, .int x8)]) (n := 142) hA dX6_season_140 (by decide) rfl rfl ?_
      refine WO.iload (n := 144) hA dX6_season_142 0 rfl rfl ?_
      refine WO.if_eq (tg := 150) (n := 147) hA dX6_season_144 (by decide) rfl (fun _ => ?_) (fun _ => ?_)
      · refine WO.iinc (y := (1 : Int32)) (lv' := [(8, .int (x8 + (1 : Int32))), (9, .int r16), (0, .ref (w.2.1 0)), (4, .int x4), (5, .int x5), (7, .int x7)]) (n := 153) hA dX6_season_150 5 rfl (by decide) (by decide) rfl rfl ?_
        refine WO.goto (n := 103) hA dX6_season_153 (by decide) ?_
        refine WO.sub (lv' := [(0, .ref (w.2.1 0)), (4, .int x4), (5, .int x5), (7, .int x7), (8, .int (x8 + (1 : Int32)))]) [2, 3, 4, 5, 0] rfl ?_
        exact ih (x8 + (1 : Int32)) M15
      · refine WO.iload (n := 149) hA dX6_season_147 0 rfl rfl ?_
        exact WO.iret hA dX6_season_149
set_option maxHeartbeats 4000000 in
set_option maxRecDepth 100000 in
theorem c_X6_season (l : Launch) (w : Cw) (hw : w.2.2.2.2.2 = shM) (x1 : Int32) (x2 : Int32) (x3 : Int32) (x4 : Int32) (x5 : Int32) (M : Mem) : Ok l w eI yX6_season wsX6_season rmX6_season [.ref (w.2.1 0), .int x1, .int x2, .int x3, .int x4, .int x5] M (f_X6_season x1 x2 x3 x4 x5 M) := by
  refine Ok.of (cc := cX6_season) (nL := 11) (ret := (some .int)) (lv := [(0, .ref (w.2.1 0)), (1, .int x1), (2, .int x2), (3, .int x3), (4, .int x4), (5, .int x5)]) (by decide) rfl (Nat.le_of_ble_eq_true rfl) rfl (fun v hv hA => ?_)
  subst hv
  have hA : Act v w RX6 wsX6_season cX6_season 11 (some .int) := hA
  unfold f_X6_season
  refine WO.aload_n (n := 1) hA dX6_season_0 0 rfl rfl ?_
  refine WO.iconst (x := (0 : Int32)) (n := 2) hA dX6_season_1 (by decide) rfl ?_
  refine WO.putI (j := 0) (n := 5) hA (m_0 hw) rfl fiX6_season_X6 tyX6 tyX6_ok nmX6 (by decide) rfl fkX6_season_58 rfl rfl rfl rfl dX6_season_2 rfl ?_
  refine WO.mem (fun M1 => ?_)
  refine WO.iload_n (n := 6) hA dX6_season_5 1 rfl rfl ?_
  refine WO.callSi (As := [.int x1]) (rest := []) (n := 9) hA (c_X6_isSheet v.2.1 w hw x1 M1) gX6_season_X6_isSheet rfl mdX6_isSheet ⟨rfl, rfl, Nat.le_of_ble_eq_true rfl, Nat.le_of_ble_eq_true rfl⟩ rfl rfl (Nat.le_of_ble_eq_true rfl) dX6_season_6 rfl (fun r3 M2 => ?_)
  refine WO.if_ne (tg := 14) (n := 12) hA dX6_season_9 (by decide) rfl (fun _ => ?_) (fun _ => ?_)
  · refine WO.iconst (x := (-1 : Int32)) (n := 13) hA dX6_season_12 (by decide) rfl ?_
    exact WO.iret hA dX6_season_13
  · refine WO.iload_n (n := 15) hA dX6_season_14 2 rfl rfl ?_
    refine WO.callSi (As := [.int x2]) (rest := []) (n := 18) hA (c_X6_isSort v.2.1 w hw x2 M2) gX6_season_X6_isSort rfl mdX6_isSort ⟨rfl, rfl, Nat.le_of_ble_eq_true rfl, Nat.le_of_ble_eq_true rfl⟩ rfl rfl (Nat.le_of_ble_eq_true rfl) dX6_season_15 rfl (fun r5 M4 => ?_)
    refine WO.if_eq (tg := 54) (n := 21) hA dX6_season_18 (by decide) rfl (fun _ => ?_) (fun _ => ?_)
    · refine WO.bipush (x := (-2 : Int32)) (n := 56) hA dX6_season_54 (by decide) rfl ?_
      exact WO.iret hA dX6_season_56
    · refine WO.iload (n := 23) hA dX6_season_21 4 rfl rfl ?_
      refine WO.iconst (x := (0 : Int32)) (n := 24) hA dX6_season_23 (by decide) rfl ?_
      refine WO.bipush (x := (20 : Int32)) (n := 26) hA dX6_season_24 (by decide) rfl ?_
      refine WO.callSi (As := [.int x4, .int (0 : Int32), .int (20 : Int32)]) (rest := []) (n := 29) hA (c_X6_within v.2.1 w hw x4 (0 : Int32) (20 : Int32) M4) gX6_season_X6_within rfl mdX6_within ⟨rfl, rfl, Nat.le_of_ble_eq_true rfl, Nat.le_of_ble_eq_true rfl⟩ rfl rfl (Nat.le_of_ble_eq_true rfl) dX6_season_26 rfl (fun r7 M6 => ?_)
      refine WO.if_eq (tg := 54) (n := 32) hA dX6_season_29 (by decide) rfl (fun _ => ?_) (fun _ => ?_)
      · refine WO.bipush (x := (-2 : Int32)) (n := 56) hA dX6_season_54 (by decide) rfl ?_
        exact WO.iret hA dX6_season_56
      · refine WO.iload (n := 34) hA dX6_season_32 5 rfl rfl ?_
        refine WO.iconst (x := (0 : Int32)) (n := 35) hA dX6_season_34 (by decide) rfl ?_
        refine WO.iconst (x := (4 : Int32)) (n := 36) hA dX6_season_35 (by decide) rfl ?_
        refine WO.callSi (As := [.int x5, .int (0 : Int32), .int (4 : Int32)]) (rest := []) (n := 39) hA (c_X6_within v.2.1 w hw x5 (0 : Int32) (4 : Int32) M6) gX6_season_X6_within rfl mdX6_within ⟨rfl, rfl, Nat.le_of_ble_eq_true rfl, Nat.le_of_ble_eq_true rfl⟩ rfl rfl (Nat.le_of_ble_eq_true rfl) dX6_season_36 rfl (fun r9 M8 => ?_)
        refine WO.if_ne (tg := 57) (n := 42) hA dX6_season_39 (by decide) rfl (fun _ => ?_) (fun _ => ?_)
        · refine WO.iload (n := 44) hA dX6_season_42 5 rfl rfl ?_
          refine WO.bipush (x := (10 : Int32)) (n := 46) hA dX6_season_44 (by decide) rfl ?_
          refine WO.bipush (x := (13 : Int32)) (n := 48) hA dX6_season_46 (by decide) rfl ?_
          refine WO.callSi (As := [.int x5, .int (10 : Int32), .int (13 : Int32)]) (rest := []) (n := 51) hA (c_X6_within v.2.1 w hw x5 (10 : Int32) (13 : Int32) M8) gX6_season_X6_within rfl mdX6_within ⟨rfl, rfl, Nat.le_of_ble_eq_true rfl, Nat.le_of_ble_eq_true rfl⟩ rfl rfl (Nat.le_of_ble_eq_true rfl) dX6_season_48 rfl (fun r11 M10 => ?_)
          refine WO.if_ne (tg := 57) (n := 54) hA dX6_season_51 (by decide) rfl (fun _ => ?_) (fun _ => ?_)
          · refine WO.bipush (x := (-2 : Int32)) (n := 56) hA dX6_season_54 (by decide) rfl ?_
            exact WO.iret hA dX6_season_56
          · refine WO.aload_n (n := 58) hA dX6_season_57 0 rfl rfl ?_
            refine WO.iload_n (n := 59) hA dX6_season_58 1 rfl rfl ?_
            refine WO.iload_n (n := 60) hA dX6_season_59 2 rfl rfl ?_
            refine WO.iload_n (n := 61) hA dX6_season_60 3 rfl rfl ?_
            refine WO.iconst (x := (2 : Int32)) (n := 62) hA dX6_season_61 (by decide) rfl ?_
            refine WO.iload (n := 64) hA dX6_season_62 4 rfl rfl ?_
            refine WO.imul (n := 65) hA dX6_season_64 rfl ?_
            refine WO.callVi (As := [.int x1, .int x2, .int x3, .int ((2 : Int32) * x4)]) (rest := []) (n := 68) hA (c_X6_against v.2.1 w hw x1 x2 x3 ((2 : Int32) * x4) M10) gX6_season_X6_against rfl (m_0 hw) rfl mdX6_against ⟨rfl, rfl, Nat.le_of_ble_eq_true rfl, Nat.le_of_ble_eq_true rfl⟩ rfl rfl (Nat.le_of_ble_eq_true rfl) dX6_season_65 rfl (fun r13 M12 => ?_)
            refine WO.istore (lv' := [(6, .int r13), (0, .ref (w.2.1 0)), (1, .int x1), (2, .int x2), (3, .int x3), (4, .int x4), (5, .int x5)]) (n := 70) hA dX6_season_68 (by decide) rfl rfl ?_
            refine WO.iload (n := 72) hA dX6_season_70 0 rfl rfl ?_
            refine WO.if_eq (tg := 82) (n := 75) hA dX6_season_72 (by decide) rfl (fun _ => ?_) (fun _ => ?_)
            · refine WO.aload_n (n := 83) hA dX6_season_82 1 rfl rfl ?_
              refine WO.getI (j := 6) (n := 86) hA (m_0 hw) rfl fiX6_season_X6 (by decide) rfl fkX6_season_68 dX6_season_83 rfl ?_
              refine WO.if_ne (tg := 92) (n := 89) hA dX6_season_86 (by decide) rfl (fun _ => ?_) (fun _ => ?_)
              · refine WO.bipush (x := (-3 : Int32)) (n := 91) hA dX6_season_89 (by decide) rfl ?_
                exact WO.iret hA dX6_season_91
              · refine WO.bipush (x := (60 : Int32)) (n := 94) hA dX6_season_92 (by decide) rfl ?_
                refine WO.iload_n (n := 95) hA dX6_season_94 2 rfl rfl ?_
                refine WO.imul (n := 96) hA dX6_season_95 rfl ?_
                refine WO.iload_n (n := 97) hA dX6_season_96 4 rfl rfl ?_
                refine WO.iadd (n := 98) hA dX6_season_97 rfl ?_
                refine WO.top (fun x_14 => ?_)
                refine WO.istore (lv' := [(7, .int x_14), (6, .int r13), (0, .ref (w.2.1 0)), (1, .int x1), (2, .int x2), (3, .int x3), (4, .int x4), (5, .int x5)]) (n := 100) hA dX6_season_98 (by decide) rfl rfl ?_
                refine WO.iconst (x := (0 : Int32)) (n := 101) hA dX6_season_100 (by decide) rfl ?_
                refine WO.istore (lv' := [(8, .int (0 : Int32)), (7, .int x_14), (6, .int r13), (0, .ref (w.2.1 0)), (1, .int x1), (2, .int x2), (3, .int x3), (4, .int x4), (5, .int x5)]) (n := 103) hA dX6_season_101 (by decide) rfl rfl ?_
                refine WO.sub (lv' := [(0, .ref (w.2.1 0)), (4, .int x4), (5, .int x5), (7, .int x_14), (8, .int (0 : Int32))]) [3, 7, 8, 1, 0] rfl ?_
                refine w_X6_season_L103 hw hA x4 x5 x_14 _ (fun  M17 => ?_) _ _ _
                refine WO.aload_n (n := 157) hA dX6_season_156 0 rfl rfl ?_
                refine WO.callVv (As := []) (rest := []) (n := 160) hA (c_X6_keep v.2.1 w hw M17) gX6_season_X6_keep rfl (m_0 hw) rfl mdX6_keep ⟨rfl, rfl, Nat.le_of_ble_eq_true rfl, Nat.le_of_ble_eq_true rfl⟩ rfl rfl (Nat.le_of_ble_eq_true rfl) dX6_season_157 rfl (fun M18 => ?_)
                refine WO.aload_n (n := 161) hA dX6_season_160 0 rfl rfl ?_
                refine WO.getI (j := 9) (n := 164) hA (m_0 hw) rfl fiX6_season_X6 (by decide) rfl fkX6_season_114 dX6_season_161 rfl ?_
                refine WO.top (fun x_19 => ?_)
                refine WO.istore (lv' := [(8, .int x_19), (0, .ref (w.2.1 0)), (4, .int x4), (5, .int x5), (7, .int x_14)]) (n := 166) hA dX6_season_164 (by decide) rfl rfl ?_
                refine WO.aload_n (n := 167) hA dX6_season_166 1 rfl rfl ?_
                refine WO.iload (n := 169) hA dX6_season_167 4 rfl rfl ?_
                refine WO.iload (n := 171) hA dX6_season_169 2 rfl rfl ?_
                refine WO.callVi (As := [.int x_14, .int x4]) (rest := []) (n := 174) hA (c_X6_goSeason v.2.1 w hw x_14 x4 M18) gX6_season_X6_goSeason rfl (m_0 hw) rfl mdX6_goSeason ⟨rfl, rfl, Nat.le_of_ble_eq_true rfl, Nat.le_of_ble_eq_true rfl⟩ rfl rfl (Nat.le_of_ble_eq_true rfl) dX6_season_171 rfl (fun r21 M20 => ?_)
                refine WO.istore (lv' := [(9, .int r21), (8, .int x_19), (0, .ref (w.2.1 0)), (4, .int x4), (5, .int x5), (7, .int x_14)]) (n := 176) hA dX6_season_174 (by decide) rfl rfl ?_
                refine WO.aload_n (n := 177) hA dX6_season_176 2 rfl rfl ?_
                refine WO.iload (n := 179) hA dX6_season_177 4 rfl rfl ?_
                refine WO.callVi (As := [.int x5]) (rest := []) (n := 182) hA (c_X6_tellSeason v.2.1 w hw x5 M20) gX6_season_X6_tellSeason rfl (m_0 hw) rfl mdX6_tellSeason ⟨rfl, rfl, Nat.le_of_ble_eq_true rfl, Nat.le_of_ble_eq_true rfl⟩ rfl rfl (Nat.le_of_ble_eq_true rfl) dX6_season_179 rfl (fun r23 M22 => ?_)
                refine WO.istore (lv' := [(10, .int r23), (9, .int r21), (8, .int x_19), (0, .ref (w.2.1 0)), (4, .int x4), (5, .int x5), (7, .int x_14)]) (n := 184) hA dX6_season_182 (by decide) rfl rfl ?_
                refine WO.aload_n (n := 185) hA dX6_season_184 3 rfl rfl ?_
                refine WO.callVv (As := []) (rest := []) (n := 188) hA (c_X6_putBack v.2.1 w hw M22) gX6_season_X6_putBack rfl (m_0 hw) rfl mdX6_putBack ⟨rfl, rfl, Nat.le_of_ble_eq_true rfl, Nat.le_of_ble_eq_true rfl⟩ rfl rfl (Nat.le_of_ble_eq_true rfl) dX6_season_185 rfl (fun M24 => ?_)
                refine WO.aload_n (n := 189) hA dX6_season_188 3 rfl rfl ?_
                refine WO.iload (n := 191) hA dX6_season_189 2 rfl rfl ?_
                refine WO.putI (j := 9) (n := 194) hA (m_0 hw) rfl fiX6_season_X6 tyX6 tyX6_ok nmX6 (by decide) rfl fkX6_season_114 rfl rfl rfl rfl dX6_season_191 rfl ?_
                refine WO.mem (fun M25 => ?_)
                refine WO.iload (n := 196) hA dX6_season_194 5 rfl rfl ?_
                refine WO.iconst (x := (1 : Int32)) (n := 197) hA dX6_season_196 (by decide) rfl ?_
                refine WO.icmp_ne (tg := 205) (n := 200) hA dX6_season_197 (by decide) rfl (fun _ => ?_) (fun _ => ?_)
                · refine WO.iload (n := 202) hA dX6_season_200 1 rfl rfl ?_
                  refine WO.goto (n := 222) hA dX6_season_202 (by decide) ?_
                  exact WO.iret hA dX6_season_222
                · refine WO.iload (n := 207) hA dX6_season_205 1 rfl rfl ?_
                  refine WO.bipush (x := (-9 : Int32)) (n := 209) hA dX6_season_207 (by decide) rfl ?_
                  refine WO.icmp_ne (tg := 217) (n := 212) hA dX6_season_209 (by decide) rfl (fun _ => ?_) (fun _ => ?_)
                  · refine WO.iload (n := 214) hA dX6_season_212 0 rfl rfl ?_
                    refine WO.goto (n := 222) hA dX6_season_214 (by decide) ?_
                    exact WO.iret hA dX6_season_222
                  · refine WO.bipush (x := (-100 : Int32)) (n := 219) hA dX6_season_217 (by decide) rfl ?_
                    refine WO.iload (n := 221) hA dX6_season_219 1 rfl rfl ?_
                    refine WO.isub (n := 222) hA dX6_season_221 rfl ?_
                    exact WO.iret hA dX6_season_222
            · refine WO.aload_n (n := 76) hA dX6_season_75 1 rfl rfl ?_
              refine WO.iload (n := 78) hA dX6_season_76 0 rfl rfl ?_
              refine WO.callVi (As := [.int r13]) (rest := []) (n := 81) hA (c_X6_fails v.2.1 w hw r13 M12) gX6_season_X6_fails rfl (m_0 hw) rfl mdX6_fails ⟨rfl, rfl, Nat.le_of_ble_eq_true rfl, Nat.le_of_ble_eq_true rfl⟩ rfl rfl (Nat.le_of_ble_eq_true rfl) dX6_season_78 rfl (fun r27 M26 => ?_)
              exact WO.iret hA dX6_season_81
        · refine WO.aload_n (n := 58) hA dX6_season_57 0 rfl rfl ?_
          refine WO.iload_n (n := 59) hA dX6_season_58 1 rfl rfl ?_
          refine WO.iload_n (n := 60) hA dX6_season_59 2 rfl rfl ?_
          refine WO.iload_n (n := 61) hA dX6_season_60 3 rfl rfl ?_
          refine WO.iconst (x := (2 : Int32)) (n := 62) hA dX6_season_61 (by decide) rfl ?_
          refine WO.iload (n := 64) hA dX6_season_62 4 rfl rfl ?_
          refine WO.imul (n := 65) hA dX6_season_64 rfl ?_
          refine WO.callVi (As := [.int x1, .int x2, .int x3, .int ((2 : Int32) * x4)]) (rest := []) (n := 68) hA (c_X6_against v.2.1 w hw x1 x2 x3 ((2 : Int32) * x4) M8) gX6_season_X6_against rfl (m_0 hw) rfl mdX6_against ⟨rfl, rfl, Nat.le_of_ble_eq_true rfl, Nat.le_of_ble_eq_true rfl⟩ rfl rfl (Nat.le_of_ble_eq_true rfl) dX6_season_65 rfl (fun r29 M28 => ?_)
          refine WO.istore (lv' := [(6, .int r29), (0, .ref (w.2.1 0)), (1, .int x1), (2, .int x2), (3, .int x3), (4, .int x4), (5, .int x5)]) (n := 70) hA dX6_season_68 (by decide) rfl rfl ?_
          refine WO.iload (n := 72) hA dX6_season_70 0 rfl rfl ?_
          refine WO.if_eq (tg := 82) (n := 75) hA dX6_season_72 (by decide) rfl (fun _ => ?_) (fun _ => ?_)
          · refine WO.aload_n (n := 83) hA dX6_season_82 1 rfl rfl ?_
            refine WO.getI (j := 6) (n := 86) hA (m_0 hw) rfl fiX6_season_X6 (by decide) rfl fkX6_season_68 dX6_season_83 rfl ?_
            refine WO.if_ne (tg := 92) (n := 89) hA dX6_season_86 (by decide) rfl (fun _ => ?_) (fun _ => ?_)
            · refine WO.bipush (x := (-3 : Int32)) (n := 91) hA dX6_season_89 (by decide) rfl ?_
              exact WO.iret hA dX6_season_91
            · refine WO.bipush (x := (60 : Int32)) (n := 94) hA dX6_season_92 (by decide) rfl ?_
              refine WO.iload_n (n := 95) hA dX6_season_94 2 rfl rfl ?_
              refine WO.imul (n := 96) hA dX6_season_95 rfl ?_
              refine WO.iload_n (n := 97) hA dX6_season_96 4 rfl rfl ?_
              refine WO.iadd (n := 98) hA dX6_season_97 rfl ?_
              refine WO.top (fun x_30 => ?_)
              refine WO.istore (lv' := [(7, .int x_30), (6, .int r29), (0, .ref (w.2.1 0)), (1, .int x1), (2, .int x2), (3, .int x3), (4, .int x4), (5, .int x5)]) (n := 100) hA dX6_season_98 (by decide) rfl rfl ?_
              refine WO.iconst (x := (0 : Int32)) (n := 101) hA dX6_season_100 (by decide) rfl ?_
              refine WO.istore (lv' := [(8, .int (0 : Int32)), (7, .int x_30), (6, .int r29), (0, .ref (w.2.1 0)), (1, .int x1), (2, .int x2), (3, .int x3), (4, .int x4), (5, .int x5)]) (n := 103) hA dX6_season_101 (by decide) rfl rfl ?_
              refine WO.sub (lv' := [(0, .ref (w.2.1 0)), (4, .int x4), (5, .int x5), (7, .int x_30), (8, .int (0 : Int32))]) [3, 7, 8, 1, 0] rfl ?_
              refine w_X6_season_L103 hw hA x4 x5 x_30 _ (fun  M31 => ?_) _ _ _
              refine WO.aload_n (n := 157) hA dX6_season_156 0 rfl rfl ?_
              refine WO.callVv (As := []) (rest := []) (n := 160) hA (c_X6_keep v.2.1 w hw M31) gX6_season_X6_keep rfl (m_0 hw) rfl mdX6_keep ⟨rfl, rfl, Nat.le_of_ble_eq_true rfl, Nat.le_of_ble_eq_true rfl⟩ rfl rfl (Nat.le_of_ble_eq_true rfl) dX6_season_157 rfl (fun M32 => ?_)
              refine WO.aload_n (n := 161) hA dX6_season_160 0 rfl rfl ?_
              refine WO.getI (j := 9) (n := 164) hA (m_0 hw) rfl fiX6_season_X6 (by decide) rfl fkX6_season_114 dX6_season_161 rfl ?_
              refine WO.top (fun x_33 => ?_)
              refine WO.istore (lv' := [(8, .int x_33), (0, .ref (w.2.1 0)), (4, .int x4), (5, .int x5), (7, .int x_30)]) (n := 166) hA dX6_season_164 (by decide) rfl rfl ?_
              refine WO.aload_n (n := 167) hA dX6_season_166 1 rfl rfl ?_
              refine WO.iload (n := 169) hA dX6_season_167 4 rfl rfl ?_
              refine WO.iload (n := 171) hA dX6_season_169 2 rfl rfl ?_
              refine WO.callVi (As := [.int x_30, .int x4]) (rest := []) (n := 174) hA (c_X6_goSeason v.2.1 w hw x_30 x4 M32) gX6_season_X6_goSeason rfl (m_0 hw) rfl mdX6_goSeason ⟨rfl, rfl, Nat.le_of_ble_eq_true rfl, Nat.le_of_ble_eq_true rfl⟩ rfl rfl (Nat.le_of_ble_eq_true rfl) dX6_season_171 rfl (fun r35 M34 => ?_)
              refine WO.istore (lv' := [(9, .int r35), (8, .int x_33), (0, .ref (w.2.1 0)), (4, .int x4), (5, .int x5), (7, .int x_30)]) (n := 176) hA dX6_season_174 (by decide) rfl rfl ?_
              refine WO.aload_n (n := 177) hA dX6_season_176 2 rfl rfl ?_
              refine WO.iload (n := 179) hA dX6_season_177 4 rfl rfl ?_
              refine WO.callVi (As := [.int x5]) (rest := []) (n := 182) hA (c_X6_tellSeason v.2.1 w hw x5 M34) gX6_season_X6_tellSeason rfl (m_0 hw) rfl mdX6_tellSeason ⟨rfl, rfl, Nat.le_of_ble_eq_true rfl, Nat.le_of_ble_eq_true rfl⟩ rfl rfl (Nat.le_of_ble_eq_true rfl) dX6_season_179 rfl (fun r37 M36 => ?_)
              refine WO.istore (lv' := [(10, .int r37), (9, .int r35), (8, .int x_33), (0, .ref (w.2.1 0)), (4, .int x4), (5, .int x5), (7, .int x_30)]) (n := 184) hA dX6_season_182 (by decide) rfl rfl ?_
              refine WO.aload_n (n := 185) hA dX6_season_184 3 rfl rfl ?_
              refine WO.callVv (As := []) (rest := []) (n := 188) hA (c_X6_putBack v.2.1 w hw M36) gX6_season_X6_putBack rfl (m_0 hw) rfl mdX6_putBack ⟨rfl, rfl, Nat.le_of_ble_eq_true rfl, Nat.le_of_ble_eq_true rfl⟩ rfl rfl (Nat.le_of_ble_eq_true rfl) dX6_season_185 rfl (fun M38 => ?_)
              refine WO.aload_n (n := 189) hA dX6_season_188 3 rfl rfl ?_
              refine WO.iload (n := 191) hA dX6_season_189 2 rfl rfl ?_
              refine WO.putI (j := 9) (n := 194) hA (m_0 hw) rfl fiX6_season_X6 tyX6 tyX6_ok nmX6 (by decide) rfl fkX6_season_114 rfl rfl rfl rfl dX6_season_191 rfl ?_
              refine WO.mem (fun M39 => ?_)
              refine WO.iload (n := 196) hA dX6_season_194 5 rfl rfl ?_
              refine WO.iconst (x := (1 : Int32)) (n := 197) hA dX6_season_196 (by decide) rfl ?_
              refine WO.icmp_ne (tg := 205) (n := 200) hA dX6_season_197 (by decide) rfl (fun _ => ?_) (fun _ => ?_)
              · refine WO.iload (n := 202) hA dX6_season_200 1 rfl rfl ?_
                refine WO.goto (n := 222) hA dX6_season_202 (by decide) ?_
                exact WO.iret hA dX6_season_222
              · refine WO.iload (n := 207) hA dX6_season_205 1 rfl rfl ?_
                refine WO.bipush (x := (-9 : Int32)) (n := 209) hA dX6_season_207 (by decide) rfl ?_
                refine WO.icmp_ne (tg := 217) (n := 212) hA dX6_season_209 (by decide) rfl (fun _ => ?_) (fun _ => ?_)
                · refine WO.iload (n := 214) hA dX6_season_212 0 rfl rfl ?_
                  refine WO.goto (n := 222) hA dX6_season_214 (by decide) ?_
                  exact WO.iret hA dX6_season_222
                · refine WO.bipush (x := (-100 : Int32)) (n := 219) hA dX6_season_217 (by decide) rfl ?_
                  refine WO.iload (n := 221) hA dX6_season_219 1 rfl rfl ?_
                  refine WO.isub (n := 222) hA dX6_season_221 rfl ?_
                  exact WO.iret hA dX6_season_222
          · refine WO.aload_n (n := 76) hA dX6_season_75 1 rfl rfl ?_
            refine WO.iload (n := 78) hA dX6_season_76 0 rfl rfl ?_
            refine WO.callVi (As := [.int r29]) (rest := []) (n := 81) hA (c_X6_fails v.2.1 w hw r29 M28) gX6_season_X6_fails rfl (m_0 hw) rfl mdX6_fails ⟨rfl, rfl, Nat.le_of_ble_eq_true rfl, Nat.le_of_ble_eq_true rfl⟩ rfl rfl (Nat.le_of_ble_eq_true rfl) dX6_season_78 rfl (fun r41 M40 => ?_)
            exact WO.iret hA dX6_season_81
/- X6_nextFrom -/
abbrev rmX6_nextFrom : Room := { frames := 5, cells := 0, slots := 0, locals := 114 }
theorem mdX6_nextFrom : yX6_nextFrom.cls = RX6 ∧ yX6_nextFrom.cls ≠ "java/lang/invoke/MethodHandle" ∧ yX6_nextFrom.cls ≠ "java/lang/invoke/VarHandle" ∧ (parseMethodDescriptor yX6_nextFrom.desc).map (fun d => d.parameters.length) = some 2 := by decide +kernel
noncomputable def f_X6_nextFrom (x1 : Int32) (x2 : Int32) (M : Mem) : Option (Int32 × Mem) := bd (f_X6_ownerFrom x1 x2 M) (fun r2 M1 => if r2 = (-9 : Int32) then (some (x2, M1)) else (some (r2, M1)))
set_option maxHeartbeats 4000000 in
set_option maxRecDepth 100000 in
theorem c_X6_nextFrom (l : Launch) (w : Cw) (hw : w.2.2.2.2.2 = shM) (x1 : Int32) (x2 : Int32) (M : Mem) : Ok l w eI yX6_nextFrom wsX6_nextFrom rmX6_nextFrom [.ref (w.2.1 0), .int x1, .int x2] M (f_X6_nextFrom x1 x2 M) := by
  refine Ok.of (cc := cX6_nextFrom) (nL := 4) (ret := (some .int)) (lv := [(0, .ref (w.2.1 0)), (1, .int x1), (2, .int x2)]) (by decide) rfl (Nat.le_of_ble_eq_true rfl) rfl (fun v hv hA => ?_)
  subst hv
  have hA : Act v w RX6 wsX6_nextFrom cX6_nextFrom 4 (some .int) := hA
  unfold f_X6_nextFrom
  refine WO.aload_n (n := 1) hA dX6_nextFrom_0 0 rfl rfl ?_
  refine WO.iload_n (n := 2) hA dX6_nextFrom_1 1 rfl rfl ?_
  refine WO.iload_n (n := 3) hA dX6_nextFrom_2 2 rfl rfl ?_
  refine WO.callVi (As := [.int x1, .int x2]) (rest := []) (n := 6) hA (c_X6_ownerFrom v.2.1 w hw x1 x2 M) gX6_nextFrom_X6_ownerFrom rfl (m_0 hw) rfl mdX6_ownerFrom ⟨rfl, rfl, Nat.le_of_ble_eq_true rfl, Nat.le_of_ble_eq_true rfl⟩ rfl rfl (Nat.le_of_ble_eq_true rfl) dX6_nextFrom_3 rfl (fun r2 M1 => ?_)
  refine WO.istore_n (i := 3) (lv' := [(3, .int r2), (0, .ref (w.2.1 0)), (1, .int x1), (2, .int x2)]) (n := 7) hA dX6_nextFrom_6 rfl (by decide) rfl rfl ?_
  refine WO.iload_n (n := 8) hA dX6_nextFrom_7 0 rfl rfl ?_
  refine WO.bipush (x := (-9 : Int32)) (n := 10) hA dX6_nextFrom_8 (by decide) rfl ?_
  refine WO.icmp_ne (tg := 17) (n := 13) hA dX6_nextFrom_10 (by decide) rfl (fun _ => ?_) (fun _ => ?_)
  · refine WO.iload_n (n := 14) hA dX6_nextFrom_13 3 rfl rfl ?_
    refine WO.goto (n := 18) hA dX6_nextFrom_14 (by decide) ?_
    exact WO.iret hA dX6_nextFrom_18
  · refine WO.iload_n (n := 18) hA dX6_nextFrom_17 0 rfl rfl ?_
    exact WO.iret hA dX6_nextFrom_18
/- X6_round -/
abbrev rmX6_round : Room := { frames := 6, cells := 0, slots := 0, locals := 137 }
theorem mdX6_round : yX6_round.cls = RX6 ∧ yX6_round.cls ≠ "java/lang/invoke/MethodHandle" ∧ yX6_round.cls ≠ "java/lang/invoke/VarHandle" ∧ (parseMethodDescriptor yX6_round.desc).map (fun d => d.parameters.length) = some 2 := by decide +kernel
theorem fkX6_round_28 : Cond.fieldLink RX6 28 (TX6 13).1 (TX6 13).2.1 (TX6 13).2.2.1 ∈ wsX6_round := by decide +kernel
theorem fiX6_round_X6 : ∀ q ∈ u_ws RX6 TX6 30, q ∈ wsX6_round := by decide +kernel
theorem fkX6_round_68 : Cond.fieldLink RX6 68 (TX6 6).1 (TX6 6).2.1 (TX6 6).2.2.1 ∈ wsX6_round := by decide +kernel
noncomputable def f_X6_round_L32 (x1 : Int32) (x2 : Int32) (kx : Int32 → Mem → Option (Int32 × Mem)) : Nat → Int32 → Int32 → Mem → Option (Int32 × Mem)
  | 0, _, _, _ => none
  | n + 1, x3, x4, M => if (M 0 6) ≤ x4 then (kx x3 M) else (bd (f_X6_nextFrom x1 x3 M) (fun r7 M6 => f_X6_round_L32 x1 x2 kx n r7 (x4 + (1 : Int32)) M6))
noncomputable def f_X6_round_L65 (x1 : Int32) (x2 : Int32) (x3 : Int32) (kx : Int32 → Mem → Option (Int32 × Mem)) : Nat → Int32 → Int32 → Mem → Option (Int32 × Mem)
  | 0, _, _, _ => none
  | n + 1, x4, x5, M => if x5 = x3 then (kx x4 M) else (bd (f_X6_nextFrom x1 x5 M) (fun r13 M12 => f_X6_round_L65 x1 x2 x3 kx n (x4 + (1 : Int32)) r13 M12))
noncomputable def f_X6_round_L101 (x1 : Int32) (x2 : Int32) (x4 : Int32) (x5 : Int32) (kx : Int32 → Mem → Option (Int32 × Mem)) : Nat → Int32 → Int32 → Mem → Option (Int32 × Mem)
  | 0, _, _, _ => none
  | n + 1, x6, x7, M => if x4 ≤ x7 then (kx x6 M) else (bd (f_X6_nextFrom x1 x6 M) (fun r18 M17 => f_X6_round_L101 x1 x2 x4 x5 kx n r18 (x7 + (1 : Int32)) M17))
noncomputable def f_X6_round_L126 (x1 : Int32) (x2 : Int32) (x4 : Int32) (kx : Int32 → Mem → Option (Int32 × Mem)) : Nat → Int32 → Int32 → Int32 → Mem → Option (Int32 × Mem)
  | 0, _, _, _, _ => none
  | n + 1, x5, x6, x7, M => if x5 = x6 then (kx x7 M) else (bd (f_X6_nextFrom x1 x5 M) (fun r22 M21 => bd (f_X6_nextFrom x1 x6 M21) (fun r24 M23 => f_X6_round_L126 x1 x2 x4 kx n r22 r24 (x7 + (1 : Int32)) M23)))
noncomputable def f_X6_round (x1 : Int32) (x2 : Int32) (M : Mem) : Option (Int32 × Mem) := bd (f_X6_isClock x1 M) (fun r2 M1 => if r2 = 0 then (some ((-1 : Int32), M1)) else (bd (f_X6_within x2 (0 : Int32) (1 : Int32) M1) (fun r4 M3 => if r4 = 0 then (some ((-2 : Int32), M3)) else (grd x1 4 (ilt (M3 7 x1.toNatClampNeg) (fun x_5 => f_X6_round_L32 x1 x2 (fun e8 M9 => bd (f_X6_nextFrom x1 e8 M9) (fun r11 M10 => f_X6_round_L65 x1 x2 e8 (fun e14 M15 => grd x1 4 (ilt (M15 7 x1.toNatClampNeg) (fun x_16 => f_X6_round_L101 x1 x2 e14 x_16 (fun e19 M20 => f_X6_round_L126 x1 x2 e14 (fun e25 M26 => if x2 = 0 then (some (e25, M26)) else (some (e14, M26))) FU x_16 e19 (0 : Int32) M20) FU x_16 (0 : Int32) M15))) FU (1 : Int32) r11 M10)) FU x_5 (0 : Int32) M3))))))
set_option maxHeartbeats 4000000 in
set_option maxRecDepth 100000 in
theorem w_X6_round_L32 {v : Av} {w : Cw} (hw : w.2.2.2.2.2 = shM) (hA : Act v w RX6 wsX6_round cX6_round 8 (some .int)) (x1 : Int32) (x2 : Int32) (kx : Int32 → Mem → Option (Int32 × Mem)) (hk : ∀ (y3 : Int32) (M : Mem), WO v w rmX6_round 8 eI (kx y3 M) 54 [(0, .ref (w.2.1 0)), (1, .int x1), (2, .int x2), (3, .int y3)] [] M) : ∀ (n : Nat) (x3 : Int32) (x4 : Int32) (M : Mem), WO v w rmX6_round 8 eI (f_X6_round_L32 x1 x2 kx n x3 x4 M) 32 [(0, .ref (w.2.1 0)), (1, .int x1), (2, .int x2), (3, .int x3), (4, .int x4)] [] M := by
  intro n
  induction n with
  | zero => intro x3 x4 M; exact WO.nothing
  | succ n ih =>
    intro x3 x4 M
    rw [f_X6_round_L32]
    refine WO.iload (n := 34) hA dX6_round_32 4 rfl rfl ?_
    refine WO.aload_n (n := 35) hA dX6_round_34 0 rfl rfl ?_
    refine WO.getI (j := 6) (n := 38) hA (m_0 hw) rfl fiX6_round_X6 (by decide) rfl fkX6_round_68 dX6_round_35 rfl ?_
    refine WO.icmp_ge (tg := 54) (n := 41) hA dX6_round_38 (by decide) rfl (fun _ => ?_) (fun _ => ?_)
    · refine WO.sub (lv' := [(0, .ref (w.2.1 0)), (1, .int x1), (2, .int x2), (3, .int x3)]) [0, 1, 2, 3] rfl ?_
      exact hk x3 M
    · refine WO.aload_n (n := 42) hA dX6_round_41 0 rfl rfl ?_
      refine WO.iload_n (n := 43) hA dX6_round_42 1 rfl rfl ?_
      refine WO.iload_n (n := 44) hA dX6_round_43 3 rfl rfl ?_
      refine WO.callVi (As := [.int x1, .int x3]) (rest := []) (n := 47) hA (c_X6_nextFrom v.2.1 w hw x1 x3 M) gX6_round_X6_nextFrom rfl (m_0 hw) rfl mdX6_nextFrom ⟨rfl, rfl, Nat.le_of_ble_eq_true rfl, Nat.le_of_ble_eq_true rfl⟩ rfl rfl (Nat.le_of_ble_eq_true rfl) dX6_round_44 rfl (fun r7 M6 => ?_)
      refine WO.istore_n (i := 3) (lv' := [(3, .int r7), (0, .ref (w.2.1 0)), (1, .int x1), (2, .int x2), (4, .int x4)]) (n := 48) hA dX6_round_47 rfl (by decide) rfl rfl ?_
      refine WO.iinc (y := (1 : Int32)) (lv' := [(4, .int (x4 + (1 : Int32))), (3, .int r7), (0, .ref (w.2.1 0)), (1, .int x1), (2, .int x2)]) (n := 51) hA dX6_round_48 4 rfl (by decide) (by decide) rfl rfl ?_
      refine WO.goto (n := 32) hA dX6_round_51 (by decide) ?_
      refine WO.sub (lv' := [(0, .ref (w.2.1 0)), (1, .int x1), (2, .int x2), (3, .int r7), (4, .int (x4 + (1 : Int32)))]) [2, 3, 4, 1, 0] rfl ?_
      exact ih r7 (x4 + (1 : Int32)) M6
set_option maxHeartbeats 4000000 in
set_option maxRecDepth 100000 in
theorem w_X6_round_L65 {v : Av} {w : Cw} (hw : w.2.2.2.2.2 = shM) (hA : Act v w RX6 wsX6_round cX6_round 8 (some .int)) (x1 : Int32) (x2 : Int32) (x3 : Int32) (kx : Int32 → Mem → Option (Int32 × Mem)) (hk : ∀ (y4 : Int32) (M : Mem), WO v w rmX6_round 8 eI (kx y4 M) 86 [(0, .ref (w.2.1 0)), (1, .int x1), (2, .int x2), (4, .int y4)] [] M) : ∀ (n : Nat) (x4 : Int32) (x5 : Int32) (M : Mem), WO v w rmX6_round 8 eI (f_X6_round_L65 x1 x2 x3 kx n x4 x5 M) 65 [(0, .ref (w.2.1 0)), (1, .int x1), (2, .int x2), (3, .int x3), (4, .int x4), (5, .int x5)] [] M := by
  intro n
  induction n with
  | zero => intro x4 x5 M; exact WO.nothing
  | succ n ih =>
    intro x4 x5 M
    rw [f_X6_round_L65]
    refine WO.iload (n := 67) hA dX6_round_65 5 rfl rfl ?_
    refine WO.iload_n (n := 68) hA dX6_round_67 3 rfl rfl ?_
    refine WO.icmp_eq (tg := 86) (n := 71) hA dX6_round_68 (by decide) rfl (fun _ => ?_) (fun _ => ?_)
    · refine WO.sub (lv' := [(0, .ref (w.2.1 0)), (1, .int x1), (2, .int x2), (4, .int x4)]) [0, 1, 2, 4] rfl ?_
      exact hk x4 M
    · refine WO.iinc (y := (1 : Int32)) (lv' := [(4, .int (x4 + (1 : Int32))), (0, .ref (w.2.1 0)), (1, .int x1), (2, .int x2), (3, .int x3), (5, .int x5)]) (n := 74) hA dX6_round_71 4 rfl (by decide) (by decide) rfl rfl ?_
      refine WO.aload_n (n := 75) hA dX6_round_74 1 rfl rfl ?_
      refine WO.iload_n (n := 76) hA dX6_round_75 2 rfl rfl ?_
      refine WO.iload (n := 78) hA dX6_round_76 5 rfl rfl ?_
      refine WO.callVi (As := [.int x1, .int x5]) (rest := []) (n := 81) hA (c_X6_nextFrom v.2.1 w hw x1 x5 M) gX6_round_X6_nextFrom rfl (m_0 hw) rfl mdX6_nextFrom ⟨rfl, rfl, Nat.le_of_ble_eq_true rfl, Nat.le_of_ble_eq_true rfl⟩ rfl rfl (Nat.le_of_ble_eq_true rfl) dX6_round_78 rfl (fun r13 M12 => ?_)
      refine WO.istore (lv' := [(5, .int r13), (4, .int (x4 + (1 : Int32))), (0, .ref (w.2.1 0)), (1, .int x1), (2, .int x2), (3, .int x3)]) (n := 83) hA dX6_round_81 (by decide) rfl rfl ?_
      refine WO.goto (n := 65) hA dX6_round_83 (by decide) ?_
      refine WO.sub (lv' := [(0, .ref (w.2.1 0)), (1, .int x1), (2, .int x2), (3, .int x3), (4, .int (x4 + (1 : Int32))), (5, .int r13)]) [2, 3, 4, 5, 1, 0] rfl ?_
      exact ih (x4 + (1 : Int32)) r13 M12
set_option maxHeartbeats 4000000 in
set_option maxRecDepth 100000 in
theorem w_X6_round_L101 {v : Av} {w : Cw} (hw : w.2.2.2.2.2 = shM) (hA : Act v w RX6 wsX6_round cX6_round 8 (some .int)) (x1 : Int32) (x2 : Int32) (x4 : Int32) (x5 : Int32) (kx : Int32 → Mem → Option (Int32 × Mem)) (hk : ∀ (y6 : Int32) (M : Mem), WO v w rmX6_round 8 eI (kx y6 M) 123 [(0, .ref (w.2.1 0)), (1, .int x1), (2, .int x2), (4, .int x4), (5, .int x5), (6, .int y6)] [] M) : ∀ (n : Nat) (x6 : Int32) (x7 : Int32) (M : Mem), WO v w rmX6_round 8 eI (f_X6_round_L101 x1 x2 x4 x5 kx n x6 x7 M) 101 [(0, .ref (w.2.1 0)), (1, .int x1), (2, .int x2), (4, .int x4), (5, .int x5), (6, .int x6), (7, .int x7)] [] M := by
  intro n
  induction n with
  | zero => intro x6 x7 M; exact WO.nothing
  | succ n ih =>
    intro x6 x7 M
    rw [f_X6_round_L101]
    refine WO.iload (n := 103) hA dX6_round_101 6 rfl rfl ?_
    refine WO.iload (n := 105) hA dX6_round_103 3 rfl rfl ?_
    refine WO.icmp_ge (tg := 123) (n := 108) hA dX6_round_105 (by decide) rfl (fun _ => ?_) (fun _ => ?_)
    · refine WO.sub (lv' := [(0, .ref (w.2.1 0)), (1, .int x1), (2, .int x2), (4, .int x4), (5, .int x5), (6, .int x6)]) [0, 1, 2, 3, 4, 5] rfl ?_
      exact hk x6 M
    · refine WO.aload_n (n := 109) hA dX6_round_108 0 rfl rfl ?_
      refine WO.iload_n (n := 110) hA dX6_round_109 1 rfl rfl ?_
      refine WO.iload (n := 112) hA dX6_round_110 5 rfl rfl ?_
      refine WO.callVi (As := [.int x1, .int x6]) (rest := []) (n := 115) hA (c_X6_nextFrom v.2.1 w hw x1 x6 M) gX6_round_X6_nextFrom rfl (m_0 hw) rfl mdX6_nextFrom ⟨rfl, rfl, Nat.le_of_ble_eq_true rfl, Nat.le_of_ble_eq_true rfl⟩ rfl rfl (Nat.le_of_ble_eq_true rfl) dX6_round_112 rfl (fun r18 M17 => ?_)
      refine WO.istore (lv' := [(6, .int r18), (0, .ref (w.2.1 0)), (1, .int x1), (2, .int x2), (4, .int x4), (5, .int x5), (7, .int x7)]) (n := 117) hA dX6_round_115 (by decide) rfl rfl ?_
      refine WO.iinc (y := (1 : Int32)) (lv' := [(7, .int (x7 + (1 : Int32))), (6, .int r18), (0, .ref (w.2.1 0)), (1, .int x1), (2, .int x2), (4, .int x4), (5, .int x5)]) (n := 120) hA dX6_round_117 6 rfl (by decide) (by decide) rfl rfl ?_
      refine WO.goto (n := 101) hA dX6_round_120 (by decide) ?_
      refine WO.sub (lv' := [(0, .ref (w.2.1 0)), (1, .int x1), (2, .int x2), (4, .int x4), (5, .int x5), (6, .int r18), (7, .int (x7 + (1 : Int32)))]) [2, 3, 4, 5, 6, 1, 0] rfl ?_
      exact ih r18 (x7 + (1 : Int32)) M17
set_option maxHeartbeats 4000000 in
set_option maxRecDepth 100000 in
theorem w_X6_round_L126 {v : Av} {w : Cw} (hw : w.2.2.2.2.2 = shM) (hA : Act v w RX6 wsX6_round cX6_round 8 (some .int)) (x1 : Int32) (x2 : Int32) (x4 : Int32) (kx : Int32 → Mem → Option (Int32 × Mem)) (hk : ∀ (y7 : Int32) (M : Mem), WO v w rmX6_round 8 eI (kx y7 M) 157 [(2, .int x2), (4, .int x4), (7, .int y7)] [] M) : ∀ (n : Nat) (x5 : Int32) (x6 : Int32) (x7 : Int32) (M : Mem), WO v w rmX6_round 8 eI (f_X6_round_L126 x1 x2 x4 kx n x5 x6 x7 M) 126 [(0, .ref (w.2.1 0)), (1, .int x1), (2, .int x2), (4, .int x4), (5, .int x5), (6, .int x6), (7, .int x7)] [] M := by
  intro n
  induction n with
  | zero => intro x5 x6 x7 M; exact WO.nothing
  | succ n ih =>
    intro x5 x6 x7 M
    rw [f_X6_round_L126]
    refine WO.iload (n := 128) hA dX6_round_126 4 rfl rfl ?_
    refine WO.iload (n := 130) hA dX6_round_128 5 rfl rfl ?_
    refine WO.icmp_eq (tg := 157) (n := 133) hA dX6_round_130 (by decide) rfl (fun _ => ?_) (fun _ => ?_)
    · refine WO.sub (lv' := [(2, .int x2), (4, .int x4), (7, .int x7)]) [2, 3, 6] rfl ?_
      exact hk x7 M
    · refine WO.aload_n (n := 134) hA dX6_round_133 0 rfl rfl ?_
      refine WO.iload_n (n := 135) hA dX6_round_134 1 rfl rfl ?_
      refine WO.iload (n := 137) hA dX6_round_135 4 rfl rfl ?_
      refine WO.callVi (As := [.int x1, .int x5]) (rest := []) (n := 140) hA (c_X6_nextFrom v.2.1 w hw x1 x5 M) gX6_round_X6_nextFrom rfl (m_0 hw) rfl mdX6_nextFrom ⟨rfl, rfl, Nat.le_of_ble_eq_true rfl, Nat.le_of_ble_eq_true rfl⟩ rfl rfl (Nat.le_of_ble_eq_true rfl) dX6_round_137 rfl (fun r22 M21 => ?_)
      refine WO.istore (lv' := [(5, .int r22), (0, .ref (w.2.1 0)), (1, .int x1), (2, .int x2), (4, .int x4), (6, .int x6), (7, .int x7)]) (n := 142) hA dX6_round_140 (by decide) rfl rfl ?_
      refine WO.aload_n (n := 143) hA dX6_round_142 1 rfl rfl ?_
      refine WO.iload_n (n := 144) hA dX6_round_143 2 rfl rfl ?_
      refine WO.iload (n := 146) hA dX6_round_144 5 rfl rfl ?_
      refine WO.callVi (As := [.int x1, .int x6]) (rest := []) (n := 149) hA (c_X6_nextFrom v.2.1 w hw x1 x6 M21) gX6_round_X6_nextFrom rfl (m_0 hw) rfl mdX6_nextFrom ⟨rfl, rfl, Nat.le_of_ble_eq_true rfl, Nat.le_of_ble_eq_true rfl⟩ rfl rfl (Nat.le_of_ble_eq_true rfl) dX6_round_146 rfl (fun r24 M23 => ?_)
      refine WO.istore (lv' := [(6, .int r24), (5, .int r22), (0, .ref (w.2.1 0)), (1, .int x1), (2, .int x2), (4, .int x4), (7, .int x7)]) (n := 151) hA dX6_round_149 (by decide) rfl rfl ?_
      refine WO.iinc (y := (1 : Int32)) (lv' := [(7, .int (x7 + (1 : Int32))), (6, .int r24), (5, .int r22), (0, .ref (w.2.1 0)), (1, .int x1), (2, .int x2), (4, .int x4)]) (n := 154) hA dX6_round_151 6 rfl (by decide) (by decide) rfl rfl ?_
      refine WO.goto (n := 126) hA dX6_round_154 (by decide) ?_
      refine WO.sub (lv' := [(0, .ref (w.2.1 0)), (1, .int x1), (2, .int x2), (4, .int x4), (5, .int r22), (6, .int r24), (7, .int (x7 + (1 : Int32)))]) [3, 4, 5, 6, 2, 1, 0] rfl ?_
      exact ih r22 r24 (x7 + (1 : Int32)) M23
set_option maxHeartbeats 4000000 in
set_option maxRecDepth 100000 in
theorem c_X6_round (l : Launch) (w : Cw) (hw : w.2.2.2.2.2 = shM) (x1 : Int32) (x2 : Int32) (M : Mem) : Ok l w eI yX6_round wsX6_round rmX6_round [.ref (w.2.1 0), .int x1, .int x2] M (f_X6_round x1 x2 M) := by
  refine Ok.of (cc := cX6_round) (nL := 8) (ret := (some .int)) (lv := [(0, .ref (w.2.1 0)), (1, .int x1), (2, .int x2)]) (by decide) rfl (Nat.le_of_ble_eq_true rfl) rfl (fun v hv hA => ?_)
  subst hv
  have hA : Act v w RX6 wsX6_round cX6_round 8 (some .int) := hA
  unfold f_X6_round
  refine WO.aload_n (n := 1) hA dX6_round_0 0 rfl rfl ?_
  refine WO.iload_n (n := 2) hA dX6_round_1 1 rfl rfl ?_
  refine WO.callVi (As := [.int x1]) (rest := []) (n := 5) hA (c_X6_isClock v.2.1 w hw x1 M) gX6_round_X6_isClock rfl (m_0 hw) rfl mdX6_isClock ⟨rfl, rfl, Nat.le_of_ble_eq_true rfl, Nat.le_of_ble_eq_true rfl⟩ rfl rfl (Nat.le_of_ble_eq_true rfl) dX6_round_2 rfl (fun r2 M1 => ?_)
  refine WO.if_ne (tg := 10) (n := 8) hA dX6_round_5 (by decide) rfl (fun _ => ?_) (fun _ => ?_)
  · refine WO.iconst (x := (-1 : Int32)) (n := 9) hA dX6_round_8 (by decide) rfl ?_
    exact WO.iret hA dX6_round_9
  · refine WO.iload_n (n := 11) hA dX6_round_10 2 rfl rfl ?_
    refine WO.iconst (x := (0 : Int32)) (n := 12) hA dX6_round_11 (by decide) rfl ?_
    refine WO.iconst (x := (1 : Int32)) (n := 13) hA dX6_round_12 (by decide) rfl ?_
    refine WO.callSi (As := [.int x2, .int (0 : Int32), .int (1 : Int32)]) (rest := []) (n := 16) hA (c_X6_within v.2.1 w hw x2 (0 : Int32) (1 : Int32) M1) gX6_round_X6_within rfl mdX6_within ⟨rfl, rfl, Nat.le_of_ble_eq_true rfl, Nat.le_of_ble_eq_true rfl⟩ rfl rfl (Nat.le_of_ble_eq_true rfl) dX6_round_13 rfl (fun r4 M3 => ?_)
    refine WO.if_ne (tg := 22) (n := 19) hA dX6_round_16 (by decide) rfl (fun _ => ?_) (fun _ => ?_)
    · refine WO.bipush (x := (-2 : Int32)) (n := 21) hA dX6_round_19 (by decide) rfl ?_
      exact WO.iret hA dX6_round_21
    · refine WO.aload_n (n := 23) hA dX6_round_22 0 rfl rfl ?_
      refine WO.getR (j := 13) (p := 7) (n := 26) hA (m_0 hw) rfl fiX6_round_X6 (by decide) rfl fkX6_round_28 dX6_round_23 rfl ?_
      refine WO.iload_n (n := 27) hA dX6_round_26 1 rfl rfl ?_
      refine WO.iald (n := 28) hA (m_7 hw) dX6_round_27 rfl (fun _ => ?_)
      refine WO.top (fun x_5 => ?_)
      refine WO.istore_n (i := 3) (lv' := [(3, .int x_5), (0, .ref (w.2.1 0)), (1, .int x1), (2, .int x2)]) (n := 29) hA dX6_round_28 rfl (by decide) rfl rfl ?_
      refine WO.iconst (x := (0 : Int32)) (n := 30) hA dX6_round_29 (by decide) rfl ?_
      refine WO.istore (lv' := [(4, .int (0 : Int32)), (3, .int x_5), (0, .ref (w.2.1 0)), (1, .int x1), (2, .int x2)]) (n := 32) hA dX6_round_30 (by decide) rfl rfl ?_
      refine WO.sub (lv' := [(0, .ref (w.2.1 0)), (1, .int x1), (2, .int x2), (3, .int x_5), (4, .int (0 : Int32))]) [2, 3, 4, 1, 0] rfl ?_
      refine w_X6_round_L32 hw hA x1 x2 _ (fun e8 M9 => ?_) _ _ _ _
      refine WO.iconst (x := (1 : Int32)) (n := 55) hA dX6_round_54 (by decide) rfl ?_
      refine WO.istore (lv' := [(4, .int (1 : Int32)), (0, .ref (w.2.1 0)), (1, .int x1), (2, .int x2), (3, .int e8)]) (n := 57) hA dX6_round_55 (by decide) rfl rfl ?_
      refine WO.aload_n (n := 58) hA dX6_round_57 1 rfl rfl ?_
      refine WO.iload_n (n := 59) hA dX6_round_58 2 rfl rfl ?_
      refine WO.iload_n (n := 60) hA dX6_round_59 4 rfl rfl ?_
      refine WO.callVi (As := [.int x1, .int e8]) (rest := []) (n := 63) hA (c_X6_nextFrom v.2.1 w hw x1 e8 M9) gX6_round_X6_nextFrom rfl (m_0 hw) rfl mdX6_nextFrom ⟨rfl, rfl, Nat.le_of_ble_eq_true rfl, Nat.le_of_ble_eq_true rfl⟩ rfl rfl (Nat.le_of_ble_eq_true rfl) dX6_round_60 rfl (fun r11 M10 => ?_)
      refine WO.istore (lv' := [(5, .int r11), (4, .int (1 : Int32)), (0, .ref (w.2.1 0)), (1, .int x1), (2, .int x2), (3, .int e8)]) (n := 65) hA dX6_round_63 (by decide) rfl rfl ?_
      refine WO.sub (lv' := [(0, .ref (w.2.1 0)), (1, .int x1), (2, .int x2), (3, .int e8), (4, .int (1 : Int32)), (5, .int r11)]) [2, 3, 4, 5, 1, 0] rfl ?_
      refine w_X6_round_L65 hw hA x1 x2 e8 _ (fun e14 M15 => ?_) _ _ _ _
      refine WO.aload_n (n := 87) hA dX6_round_86 0 rfl rfl ?_
      refine WO.getR (j := 13) (p := 7) (n := 90) hA (m_0 hw) rfl fiX6_round_X6 (by decide) rfl fkX6_round_28 dX6_round_87 rfl ?_
      refine WO.iload_n (n := 91) hA dX6_round_90 1 rfl rfl ?_
      refine WO.iald (n := 92) hA (m_7 hw) dX6_round_91 rfl (fun _ => ?_)
      refine WO.top (fun x_16 => ?_)
      refine WO.istore (lv' := [(5, .int x_16), (0, .ref (w.2.1 0)), (1, .int x1), (2, .int x2), (4, .int e14)]) (n := 94) hA dX6_round_92 (by decide) rfl rfl ?_
      refine WO.iload (n := 96) hA dX6_round_94 0 rfl rfl ?_
      refine WO.istore (lv' := [(6, .int x_16), (5, .int x_16), (0, .ref (w.2.1 0)), (1, .int x1), (2, .int x2), (4, .int e14)]) (n := 98) hA dX6_round_96 (by decide) rfl rfl ?_
      refine WO.iconst (x := (0 : Int32)) (n := 99) hA dX6_round_98 (by decide) rfl ?_
      refine WO.istore (lv' := [(7, .int (0 : Int32)), (6, .int x_16), (5, .int x_16), (0, .ref (w.2.1 0)), (1, .int x1), (2, .int x2), (4, .int e14)]) (n := 101) hA dX6_round_99 (by decide) rfl rfl ?_
      refine WO.sub (lv' := [(0, .ref (w.2.1 0)), (1, .int x1), (2, .int x2), (4, .int e14), (5, .int x_16), (6, .int x_16), (7, .int (0 : Int32))]) [3, 4, 5, 6, 2, 1, 0] rfl ?_
      refine w_X6_round_L101 hw hA x1 x2 e14 x_16 _ (fun e19 M20 => ?_) _ _ _ _
      refine WO.iconst (x := (0 : Int32)) (n := 124) hA dX6_round_123 (by decide) rfl ?_
      refine WO.istore (lv' := [(7, .int (0 : Int32)), (0, .ref (w.2.1 0)), (1, .int x1), (2, .int x2), (4, .int e14), (5, .int x_16), (6, .int e19)]) (n := 126) hA dX6_round_124 (by decide) rfl rfl ?_
      refine WO.sub (lv' := [(0, .ref (w.2.1 0)), (1, .int x1), (2, .int x2), (4, .int e14), (5, .int x_16), (6, .int e19), (7, .int (0 : Int32))]) [1, 2, 3, 4, 5, 6, 0] rfl ?_
      refine w_X6_round_L126 hw hA x1 x2 e14 _ (fun e25 M26 => ?_) _ _ _ _ _
      refine WO.iload_n (n := 158) hA dX6_round_157 0 rfl rfl ?_
      refine WO.if_ne (tg := 166) (n := 161) hA dX6_round_158 (by decide) rfl (fun _ => ?_) (fun _ => ?_)
      · refine WO.iload (n := 163) hA dX6_round_161 2 rfl rfl ?_
        refine WO.goto (n := 168) hA dX6_round_163 (by decide) ?_
        exact WO.iret hA dX6_round_168
      · refine WO.iload (n := 168) hA dX6_round_166 1 rfl rfl ?_
        exact WO.iret hA dX6_round_168
/- X6_from -/
abbrev rmX6_from : Room := { frames := 5, cells := 0, slots := 0, locals := 114 }
theorem mdX6_from : yX6_from.cls = RX6 ∧ yX6_from.cls ≠ "java/lang/invoke/MethodHandle" ∧ yX6_from.cls ≠ "java/lang/invoke/VarHandle" ∧ (parseMethodDescriptor yX6_from.desc).map (fun d => d.parameters.length) = some 2 := by decide +kernel
theorem fkX6_from_68 : Cond.fieldLink RX6 68 (TX6 6).1 (TX6 6).2.1 (TX6 6).2.2.1 ∈ wsX6_from := by decide +kernel
theorem fiX6_from_X6 : ∀ q ∈ u_ws RX6 TX6 30, q ∈ wsX6_from := by decide +kernel
noncomputable def f_X6_from_L23 (x1 : Int32) (x2 : Int32) (kx : Int32 → Mem → Option (Int32 × Mem)) : Nat → Int32 → Int32 → Mem → Option (Int32 × Mem)
  | 0, _, _, _ => none
  | n + 1, x3, x4, M => if (M 0 6) ≤ x4 then (kx x3 M) else (bd (f_X6_ownerFrom x2 x4 M) (fun r6 M5 => if r6 = x1 then (ilt (x3 ||| ((1 : Int32) <<< (x4 &&& 31))) (fun x_7 => f_X6_from_L23 x1 x2 kx n x_7 (x4 + (1 : Int32)) M5)) else (ilt (x3 ||| (0 : Int32)) (fun x_8 => f_X6_from_L23 x1 x2 kx n x_8 (x4 + (1 : Int32)) M5))))
noncomputable def f_X6_from (x1 : Int32) (x2 : Int32) (M : Mem) : Option (Int32 × Mem) := bd (f_X6_isHouse x1 M) (fun r2 M1 => if r2 = 0 then (some ((-1 : Int32), M1)) else (bd (f_X6_isClock x2 M1) (fun r4 M3 => if r4 = 0 then (some ((-1 : Int32), M3)) else (f_X6_from_L23 x1 x2 (fun e9 M10 => some (e9, M10)) FU (0 : Int32) (0 : Int32) M3))))
set_option maxHeartbeats 4000000 in
set_option maxRecDepth 100000 in
theorem w_X6_from_L23 {v : Av} {w : Cw} (hw : w.2.2.2.2.2 = shM) (hA : Act v w RX6 wsX6_from cX6_from 5 (some .int)) (x1 : Int32) (x2 : Int32) (kx : Int32 → Mem → Option (Int32 × Mem)) (hk : ∀ (y3 : Int32) (M : Mem), WO v w rmX6_from 5 eI (kx y3 M) 60 [(3, .int y3)] [] M) : ∀ (n : Nat) (x3 : Int32) (x4 : Int32) (M : Mem), WO v w rmX6_from 5 eI (f_X6_from_L23 x1 x2 kx n x3 x4 M) 23 [(0, .ref (w.2.1 0)), (1, .int x1), (2, .int x2), (3, .int x3), (4, .int x4)] [] M := by
  intro n
  induction n with
  | zero => intro x3 x4 M; exact WO.nothing
  | succ n ih =>
    intro x3 x4 M
    rw [f_X6_from_L23]
    refine WO.iload (n := 25) hA dX6_from_23 4 rfl rfl ?_
    refine WO.aload_n (n := 26) hA dX6_from_25 0 rfl rfl ?_
    refine WO.getI (j := 6) (n := 29) hA (m_0 hw) rfl fiX6_from_X6 (by decide) rfl fkX6_from_68 dX6_from_26 rfl ?_
    refine WO.icmp_ge (tg := 60) (n := 32) hA dX6_from_29 (by decide) rfl (fun _ => ?_) (fun _ => ?_)
    · refine WO.sub (lv' := [(3, .int x3)]) [3] rfl ?_
      exact hk x3 M
    · refine WO.iload_n (n := 33) hA dX6_from_32 3 rfl rfl ?_
      refine WO.aload_n (n := 34) hA dX6_from_33 0 rfl rfl ?_
      refine WO.iload_n (n := 35) hA dX6_from_34 2 rfl rfl ?_
      refine WO.iload (n := 37) hA dX6_from_35 4 rfl rfl ?_
      refine WO.callVi (As := [.int x2, .int x4]) (rest := [.int x3]) (n := 40) hA (c_X6_ownerFrom v.2.1 w hw x2 x4 M) gX6_from_X6_ownerFrom rfl (m_0 hw) rfl mdX6_ownerFrom ⟨rfl, rfl, Nat.le_of_ble_eq_true rfl, Nat.le_of_ble_eq_true rfl⟩ rfl rfl (Nat.le_of_ble_eq_true rfl) dX6_from_37 rfl (fun r6 M5 => ?_)
      refine WO.iload_n (n := 41) hA dX6_from_40 1 rfl rfl ?_
      refine WO.icmp_ne (tg := 51) (n := 44) hA dX6_from_41 (by decide) rfl (fun _ => ?_) (fun _ => ?_)
      · refine WO.iconst (x := (1 : Int32)) (n := 45) hA dX6_from_44 (by decide) rfl ?_
        refine WO.iload (n := 47) hA dX6_from_45 4 rfl rfl ?_
        refine WO.ishl (n := 48) hA dX6_from_47 rfl ?_
        refine WO.goto (n := 52) hA dX6_from_48 (by decide) ?_
        refine WO.ior (n := 53) hA dX6_from_52 rfl ?_
        refine WO.top (fun x_7 => ?_)
        refine WO.istore_n (i := 3) (lv' := [(3, .int x_7), (0, .ref (w.2.1 0)), (1, .int x1), (2, .int x2), (4, .int x4)]) (n := 54) hA dX6_from_53 rfl (by decide) rfl rfl ?_
        refine WO.iinc (y := (1 : Int32)) (lv' := [(4, .int (x4 + (1 : Int32))), (3, .int x_7), (0, .ref (w.2.1 0)), (1, .int x1), (2, .int x2)]) (n := 57) hA dX6_from_54 4 rfl (by decide) (by decide) rfl rfl ?_
        refine WO.goto (n := 23) hA dX6_from_57 (by decide) ?_
        refine WO.sub (lv' := [(0, .ref (w.2.1 0)), (1, .int x1), (2, .int x2), (3, .int x_7), (4, .int (x4 + (1 : Int32)))]) [2, 3, 4, 1, 0] rfl ?_
        exact ih x_7 (x4 + (1 : Int32)) M5
      · refine WO.iconst (x := (0 : Int32)) (n := 52) hA dX6_from_51 (by decide) rfl ?_
        refine WO.ior (n := 53) hA dX6_from_52 rfl ?_
        refine WO.top (fun x_8 => ?_)
        refine WO.istore_n (i := 3) (lv' := [(3, .int x_8), (0, .ref (w.2.1 0)), (1, .int x1), (2, .int x2), (4, .int x4)]) (n := 54) hA dX6_from_53 rfl (by decide) rfl rfl ?_
        refine WO.iinc (y := (1 : Int32)) (lv' := [(4, .int (x4 + (1 : Int32))), (3, .int x_8), (0, .ref (w.2.1 0)), (1, .int x1), (2, .int x2)]) (n := 57) hA dX6_from_54 4 rfl (by decide) (by decide) rfl rfl ?_
        refine WO.goto (n := 23) hA dX6_from_57 (by decide) ?_
        refine WO.sub (lv' := [(0, .ref (w.2.1 0)), (1, .int x1), (2, .int x2), (3, .int x_8), (4, .int (x4 + (1 : Int32)))]) [2, 3, 4, 1, 0] rfl ?_
        exact ih x_8 (x4 + (1 : Int32)) M5
set_option maxHeartbeats 4000000 in
set_option maxRecDepth 100000 in
theorem c_X6_from (l : Launch) (w : Cw) (hw : w.2.2.2.2.2 = shM) (x1 : Int32) (x2 : Int32) (M : Mem) : Ok l w eI yX6_from wsX6_from rmX6_from [.ref (w.2.1 0), .int x1, .int x2] M (f_X6_from x1 x2 M) := by
  refine Ok.of (cc := cX6_from) (nL := 5) (ret := (some .int)) (lv := [(0, .ref (w.2.1 0)), (1, .int x1), (2, .int x2)]) (by decide) rfl (Nat.le_of_ble_eq_true rfl) rfl (fun v hv hA => ?_)
  subst hv
  have hA : Act v w RX6 wsX6_from cX6_from 5 (some .int) := hA
  unfold f_X6_from
  refine WO.aload_n (n := 1) hA dX6_from_0 0 rfl rfl ?_
  refine WO.iload_n (n := 2) hA dX6_from_1 1 rfl rfl ?_
  refine WO.callVi (As := [.int x1]) (rest := []) (n := 5) hA (c_X6_isHouse v.2.1 w hw x1 M) gX6_from_X6_isHouse rfl (m_0 hw) rfl mdX6_isHouse ⟨rfl, rfl, Nat.le_of_ble_eq_true rfl, Nat.le_of_ble_eq_true rfl⟩ rfl rfl (Nat.le_of_ble_eq_true rfl) dX6_from_2 rfl (fun r2 M1 => ?_)
  refine WO.if_eq (tg := 16) (n := 8) hA dX6_from_5 (by decide) rfl (fun _ => ?_) (fun _ => ?_)
  · refine WO.iconst (x := (-1 : Int32)) (n := 17) hA dX6_from_16 (by decide) rfl ?_
    exact WO.iret hA dX6_from_17
  · refine WO.aload_n (n := 9) hA dX6_from_8 0 rfl rfl ?_
    refine WO.iload_n (n := 10) hA dX6_from_9 2 rfl rfl ?_
    refine WO.callVi (As := [.int x2]) (rest := []) (n := 13) hA (c_X6_isClock v.2.1 w hw x2 M1) gX6_from_X6_isClock rfl (m_0 hw) rfl mdX6_isClock ⟨rfl, rfl, Nat.le_of_ble_eq_true rfl, Nat.le_of_ble_eq_true rfl⟩ rfl rfl (Nat.le_of_ble_eq_true rfl) dX6_from_10 rfl (fun r4 M3 => ?_)
    refine WO.if_ne (tg := 18) (n := 16) hA dX6_from_13 (by decide) rfl (fun _ => ?_) (fun _ => ?_)
    · refine WO.iconst (x := (-1 : Int32)) (n := 17) hA dX6_from_16 (by decide) rfl ?_
      exact WO.iret hA dX6_from_17
    · refine WO.iconst (x := (0 : Int32)) (n := 19) hA dX6_from_18 (by decide) rfl ?_
      refine WO.istore_n (i := 3) (lv' := [(3, .int (0 : Int32)), (0, .ref (w.2.1 0)), (1, .int x1), (2, .int x2)]) (n := 20) hA dX6_from_19 rfl (by decide) rfl rfl ?_
      refine WO.iconst (x := (0 : Int32)) (n := 21) hA dX6_from_20 (by decide) rfl ?_
      refine WO.istore (lv' := [(4, .int (0 : Int32)), (3, .int (0 : Int32)), (0, .ref (w.2.1 0)), (1, .int x1), (2, .int x2)]) (n := 23) hA dX6_from_21 (by decide) rfl rfl ?_
      refine WO.sub (lv' := [(0, .ref (w.2.1 0)), (1, .int x1), (2, .int x2), (3, .int (0 : Int32)), (4, .int (0 : Int32))]) [2, 3, 4, 1, 0] rfl ?_
      refine w_X6_from_L23 hw hA x1 x2 _ (fun e9 M10 => ?_) _ _ _ _
      refine WO.iload_n (n := 61) hA dX6_from_60 0 rfl rfl ?_
      exact WO.iret hA dX6_from_61
/- X6_isSettled -/
abbrev rmX6_isSettled : Room := { frames := 7, cells := 0, slots := 0, locals := 157 }
theorem mdX6_isSettled : yX6_isSettled.cls = RX6 ∧ yX6_isSettled.cls ≠ "java/lang/invoke/MethodHandle" ∧ yX6_isSettled.cls ≠ "java/lang/invoke/VarHandle" ∧ (parseMethodDescriptor yX6_isSettled.desc).map (fun d => d.parameters.length) = some 0 := by decide +kernel
theorem fkX6_isSettled_71 : Cond.fieldLink RX6 71 (TX6 7).1 (TX6 7).2.1 (TX6 7).2.2.1 ∈ wsX6_isSettled := by decide +kernel
theorem fiX6_isSettled_X6 : ∀ q ∈ u_ws RX6 TX6 30, q ∈ wsX6_isSettled := by decide +kernel
theorem fkX6_isSettled_40 : Cond.fieldLink RX6 40 (TX6 23).1 (TX6 23).2.1 (TX6 23).2.2.1 ∈ wsX6_isSettled := by decide +kernel
theorem fkX6_isSettled_28 : Cond.fieldLink RX6 28 (TX6 13).1 (TX6 13).2.1 (TX6 13).2.2.1 ∈ wsX6_isSettled := by decide +kernel
noncomputable def f_X6_isSettled_L2 (kx : Mem → Option (Int32 × Mem)) : Nat → Int32 → Mem → Option (Int32 × Mem)
  | 0, _, _ => none
  | n + 1, x1, M => if (M 0 7) ≤ x1 then (kx  M) else (grd x1 4 (grd x1 4 (mlt (mu M 11 x1.toNatClampNeg (M 7 x1.toNatClampNeg)) (fun M1 => f_X6_isSettled_L2 kx n (x1 + (1 : Int32)) M1))))
noncomputable def f_X6_isSettled_L34 (kx : Mem → Option (Int32 × Mem)) : Nat → Int32 → Mem → Option (Int32 × Mem)
  | 0, _, _ => none
  | n + 1, x1, M => if (M 0 7) ≤ x1 then (kx  M) else (grd x1 4 (grd x1 4 (if (M 7 x1.toNatClampNeg) = (M 11 x1.toNatClampNeg) then (f_X6_isSettled_L34 kx n (x1 + (1 : Int32)) M) else (some ((0 : Int32), M)))))
noncomputable def f_X6_isSettled (M : Mem) : Option (Int32 × Mem) := f_X6_isSettled_L2 (fun  M2 => bd (f_X6_oneNight M2) (fun _ M3 => f_X6_isSettled_L34 (fun  M4 => some ((1 : Int32), M4)) FU (0 : Int32) M3)) FU (0 : Int32) M
set_option maxHeartbeats 4000000 in
set_option maxRecDepth 100000 in
theorem w_X6_isSettled_L2 {v : Av} {w : Cw} (hw : w.2.2.2.2.2 = shM) (hA : Act v w RX6 wsX6_isSettled cX6_isSettled 2 (some .boolean)) (kx : Mem → Option (Int32 × Mem)) (hk : ∀ (M : Mem), WO v w rmX6_isSettled 2 eI (kx M) 28 [(0, .ref (w.2.1 0))] [] M) : ∀ (n : Nat) (x1 : Int32) (M : Mem), WO v w rmX6_isSettled 2 eI (f_X6_isSettled_L2 kx n x1 M) 2 [(0, .ref (w.2.1 0)), (1, .int x1)] [] M := by
  intro n
  induction n with
  | zero => intro x1 M; exact WO.nothing
  | succ n ih =>
    intro x1 M
    rw [f_X6_isSettled_L2]
    refine WO.iload_n (n := 3) hA dX6_isSettled_2 1 rfl rfl ?_
    refine WO.aload_n (n := 4) hA dX6_isSettled_3 0 rfl rfl ?_
    refine WO.getI (j := 7) (n := 7) hA (m_0 hw) rfl fiX6_isSettled_X6 (by decide) rfl fkX6_isSettled_71 dX6_isSettled_4 rfl ?_
    refine WO.icmp_ge (tg := 28) (n := 10) hA dX6_isSettled_7 (by decide) rfl (fun _ => ?_) (fun _ => ?_)
    · refine WO.sub (lv' := [(0, .ref (w.2.1 0))]) [0] rfl ?_
      exact hk  M
    · refine WO.aload_n (n := 11) hA dX6_isSettled_10 0 rfl rfl ?_
      refine WO.getR (j := 23) (p := 11) (n := 14) hA (m_0 hw) rfl fiX6_isSettled_X6 (by decide) rfl fkX6_isSettled_40 dX6_isSettled_11 rfl ?_
      refine WO.iload_n (n := 15) hA dX6_isSettled_14 1 rfl rfl ?_
      refine WO.aload_n (n := 16) hA dX6_isSettled_15 0 rfl rfl ?_
      refine WO.getR (j := 13) (p := 7) (n := 19) hA (m_0 hw) rfl fiX6_isSettled_X6 (by decide) rfl fkX6_isSettled_28 dX6_isSettled_16 rfl ?_
      refine WO.iload_n (n := 20) hA dX6_isSettled_19 1 rfl rfl ?_
      refine WO.iald (n := 21) hA (m_7 hw) dX6_isSettled_20 rfl (fun _ => ?_)
      refine WO.iast (n := 22) hA (m_11 hw) dX6_isSettled_21 rfl (fun _ => ?_)
      refine WO.mem (fun M1 => ?_)
      refine WO.iinc (y := (1 : Int32)) (lv' := [(1, .int (x1 + (1 : Int32))), (0, .ref (w.2.1 0))]) (n := 25) hA dX6_isSettled_22 1 rfl (by decide) (by decide) rfl rfl ?_
      refine WO.goto (n := 2) hA dX6_isSettled_25 (by decide) ?_
      refine WO.sub (lv' := [(0, .ref (w.2.1 0)), (1, .int (x1 + (1 : Int32)))]) [1, 0] rfl ?_
      exact ih (x1 + (1 : Int32)) M1
set_option maxHeartbeats 4000000 in
set_option maxRecDepth 100000 in
theorem w_X6_isSettled_L34 {v : Av} {w : Cw} (hw : w.2.2.2.2.2 = shM) (hA : Act v w RX6 wsX6_isSettled cX6_isSettled 2 (some .boolean)) (kx : Mem → Option (Int32 × Mem)) (hk : ∀ (M : Mem), WO v w rmX6_isSettled 2 eI (kx M) 65 [] [] M) : ∀ (n : Nat) (x1 : Int32) (M : Mem), WO v w rmX6_isSettled 2 eI (f_X6_isSettled_L34 kx n x1 M) 34 [(0, .ref (w.2.1 0)), (1, .int x1)] [] M := by
  intro n
  induction n with
  | zero => intro x1 M; exact WO.nothing
  | succ n ih =>
    intro x1 M
    rw [f_X6_isSettled_L34]
    refine WO.iload_n (n := 35) hA dX6_isSettled_34 1 rfl rfl ?_
    refine WO.aload_n (n := 36) hA dX6_isSettled_35 0 rfl rfl ?_
    refine WO.getI (j := 7) (n := 39) hA (m_0 hw) rfl fiX6_isSettled_X6 (by decide) rfl fkX6_isSettled_71 dX6_isSettled_36 rfl ?_
    refine WO.icmp_ge (tg := 65) (n := 42) hA dX6_isSettled_39 (by decide) rfl (fun _ => ?_) (fun _ => ?_)
    · refine WO.sub (lv' := []) [] rfl ?_
      exact hk  M
    · refine WO.aload_n (n := 43) hA dX6_isSettled_42 0 rfl rfl ?_
      refine WO.getR (j := 13) (p := 7) (n := 46) hA (m_0 hw) rfl fiX6_isSettled_X6 (by decide) rfl fkX6_isSettled_28 dX6_isSettled_43 rfl ?_
      refine WO.iload_n (n := 47) hA dX6_isSettled_46 1 rfl rfl ?_
      refine WO.iald (n := 48) hA (m_7 hw) dX6_isSettled_47 rfl (fun _ => ?_)
      refine WO.aload_n (n := 49) hA dX6_isSettled_48 0 rfl rfl ?_
      refine WO.getR (j := 23) (p := 11) (n := 52) hA (m_0 hw) rfl fiX6_isSettled_X6 (by decide) rfl fkX6_isSettled_40 dX6_isSettled_49 rfl ?_
      refine WO.iload_n (n := 53) hA dX6_isSettled_52 1 rfl rfl ?_
      refine WO.iald (n := 54) hA (m_11 hw) dX6_isSettled_53 rfl (fun _ => ?_)
      refine WO.icmp_eq (tg := 59) (n := 57) hA dX6_isSettled_54 (by decide) rfl (fun _ => ?_) (fun _ => ?_)
      · refine WO.iinc (y := (1 : Int32)) (lv' := [(1, .int (x1 + (1 : Int32))), (0, .ref (w.2.1 0))]) (n := 62) hA dX6_isSettled_59 1 rfl (by decide) (by decide) rfl rfl ?_
        refine WO.goto (n := 34) hA dX6_isSettled_62 (by decide) ?_
        refine WO.sub (lv' := [(0, .ref (w.2.1 0)), (1, .int (x1 + (1 : Int32)))]) [1, 0] rfl ?_
        exact ih (x1 + (1 : Int32)) M
      · refine WO.iconst (x := (0 : Int32)) (n := 58) hA dX6_isSettled_57 (by decide) rfl ?_
        exact WO.zretc hA (by decide) dX6_isSettled_58
set_option maxHeartbeats 4000000 in
set_option maxRecDepth 100000 in
theorem c_X6_isSettled (l : Launch) (w : Cw) (hw : w.2.2.2.2.2 = shM) (M : Mem) : Ok l w eI yX6_isSettled wsX6_isSettled rmX6_isSettled [.ref (w.2.1 0)] M (f_X6_isSettled M) := by
  refine Ok.of (cc := cX6_isSettled) (nL := 2) (ret := (some .boolean)) (lv := [(0, .ref (w.2.1 0))]) (by decide) rfl (Nat.le_of_ble_eq_true rfl) rfl (fun v hv hA => ?_)
  subst hv
  have hA : Act v w RX6 wsX6_isSettled cX6_isSettled 2 (some .boolean) := hA
  unfold f_X6_isSettled
  refine WO.iconst (x := (0 : Int32)) (n := 1) hA dX6_isSettled_0 (by decide) rfl ?_
  refine WO.istore_n (i := 1) (lv' := [(1, .int (0 : Int32)), (0, .ref (w.2.1 0))]) (n := 2) hA dX6_isSettled_1 rfl (by decide) rfl rfl ?_
  refine WO.sub (lv' := [(0, .ref (w.2.1 0)), (1, .int (0 : Int32))]) [1, 0] rfl ?_
  refine w_X6_isSettled_L2 hw hA _ (fun  M2 => ?_) _ _ _
  refine WO.aload_n (n := 29) hA dX6_isSettled_28 0 rfl rfl ?_
  refine WO.callVv (As := []) (rest := []) (n := 32) hA (c_X6_oneNight v.2.1 w hw M2) gX6_isSettled_X6_oneNight rfl (m_0 hw) rfl mdX6_oneNight ⟨rfl, rfl, Nat.le_of_ble_eq_true rfl, Nat.le_of_ble_eq_true rfl⟩ rfl rfl (Nat.le_of_ble_eq_true rfl) dX6_isSettled_29 rfl (fun M3 => ?_)
  refine WO.iconst (x := (0 : Int32)) (n := 33) hA dX6_isSettled_32 (by decide) rfl ?_
  refine WO.istore_n (i := 1) (lv' := [(1, .int (0 : Int32)), (0, .ref (w.2.1 0))]) (n := 34) hA dX6_isSettled_33 rfl (by decide) rfl rfl ?_
  refine WO.sub (lv' := [(0, .ref (w.2.1 0)), (1, .int (0 : Int32))]) [1, 0] rfl ?_
  refine w_X6_isSettled_L34 hw hA _ (fun  M4 => ?_) _ _ _
  refine WO.iconst (x := (1 : Int32)) (n := 66) hA dX6_isSettled_65 (by decide) rfl ?_
  exact WO.zretc hA (by decide) dX6_isSettled_66
