/- X6_readStreet -/
abbrev rmX6_readStreet : Room := { frames := 3, cells := 0, slots := 0, locals := 68 }
theorem mdX6_readStreet : yX6_readStreet.cls = RX6 ∧ yX6_readStreet.cls ≠ "java/lang/invoke/MethodHandle" ∧ yX6_readStreet.cls ≠ "java/lang/invoke/VarHandle" ∧ (parseMethodDescriptor yX6_readStreet.desc).map (fun d => d.parameters.length) = some 1 := by decide +kernel
theorem fkX6_readStreet_108 : Cond.fieldLink RX6 108 (TX6 16).1 (TX6 16).2.1 (TX6 16).2.2.1 ∈ wsX6_readStreet := by decide +kernel
theorem fiX6_readStreet_X6 : ∀ q ∈ u_ws RX6 TX6 30, q ∈ wsX6_readStreet := by decide +kernel
theorem fkX6_readStreet_111 : Cond.fieldLink RX6 111 (TX6 17).1 (TX6 17).2.1 (TX6 17).2.2.1 ∈ wsX6_readStreet := by decide +kernel
theorem fkX6_readStreet_102 : Cond.fieldLink RX6 102 (TX6 15).1 (TX6 15).2.1 (TX6 15).2.2.1 ∈ wsX6_readStreet := by decide +kernel
theorem fkX6_readStreet_74 : Cond.fieldLink RX6 74 (TX6 14).1 (TX6 14).2.1 (TX6 14).2.2.1 ∈ wsX6_readStreet := by decide +kernel
noncomputable def f_X6_readStreet_L91 (x1 : Int32) (kx : Mem → Option (Int32 × Mem)) : Nat → Mem → Option (Int32 × Mem)
  | 0, _ => none
  | n + 1, M => if (M 0 17) = 0 then (bd (f_X6_isSign x1 (44 : Int32) M) (fun r13 M12 => if r13 = 0 then (kx  M12) else (bd (f_X6_readTheClock x1 M12) (fun r15 M14 => if r15 = 0 then (kx  M14) else (f_X6_readStreet_L91 x1 kx n  M14))))) else (if (4 : Int32) ≤ (M 0 17) then (if (M 0 14) = x1 then (some ((1 : Int32), M)) else (some ((0 : Int32), M))) else (if x1 ≤ (M 0 14) then (if (M 0 14) = x1 then (some ((1 : Int32), M)) else (some ((0 : Int32), M))) else (bd (f_X6_isSign x1 (44 : Int32) M) (fun r17 M16 => if r17 = 0 then (kx  M16) else (bd (f_X6_readTheClock x1 M16) (fun r19 M18 => if r19 = 0 then (kx  M18) else (f_X6_readStreet_L91 x1 kx n  M18)))))))
noncomputable def f_X6_readStreet_L44 (x1 : Int32) (kx : Mem → Option (Int32 × Mem)) : Nat → Mem → Option (Int32 × Mem)
  | 0, _ => none
  | n + 1, M => if (M 0 16) < (2 : Int32) then (bd (f_X6_isSign x1 (59 : Int32) M) (fun r9 M8 => if r9 = 0 then (kx  M8) else (bd (f_X6_readTheHouse x1 M8) (fun r11 M10 => if r11 = 0 then (kx  M10) else (f_X6_readStreet_L44 x1 kx n  M10))))) else (if (6 : Int32) ≤ (M 0 16) then (f_X6_readStreet_L91 x1 (fun  M20 => some ((0 : Int32), M20)) FU  M) else (bd (f_X6_isNext x1 (59 : Int32) M) (fun r22 M21 => if r22 = 0 then (f_X6_readStreet_L91 x1 (fun  M23 => some ((0 : Int32), M23)) FU  M21) else (bd (f_X6_isSign x1 (59 : Int32) M21) (fun r25 M24 => if r25 = 0 then (kx  M24) else (bd (f_X6_readTheHouse x1 M24) (fun r27 M26 => if r27 = 0 then (kx  M26) else (f_X6_readStreet_L44 x1 kx n  M26))))))))
noncomputable def f_X6_readStreet (x1 : Int32) (M : Mem) : Option (Int32 × Mem) := mlt (mu M 0 16 (0 : Int32)) (fun M1 => mlt (mu M1 0 17 (0 : Int32)) (fun M2 => bd (f_X6_isSign x1 (99 : Int32) M2) (fun r4 M3 => if r4 = 0 then (some ((0 : Int32), M3)) else (bd (f_X6_digit x1 (0 : Int32) (3 : Int32) M3) (fun r6 M5 => mlt (mu M5 0 15 r6) (fun M7 => if (M7 0 15) = (-9 : Int32) then (some ((0 : Int32), M7)) else (f_X6_readStreet_L44 x1 (fun  M28 => some ((0 : Int32), M28)) FU  M7)))))))
set_option maxHeartbeats 4000000 in
set_option maxRecDepth 100000 in
theorem w_X6_readStreet_L91 {v : Av} {w : Cw} (hw : w.2.2.2.2.2 = shM) (hA : Act v w RX6 wsX6_readStreet cX6_readStreet 2 (some .boolean)) (x1 : Int32) (kx : Mem → Option (Int32 × Mem)) (hk : ∀ (M : Mem), WO v w rmX6_readStreet 2 eI (kx M) 132 [] [] M) : ∀ (n : Nat) (M : Mem), WO v w rmX6_readStreet 2 eI (f_X6_readStreet_L91 x1 kx n M) 91 [(0, .ref (w.2.1 0)), (1, .int x1)] [] M := by
  intro n
  induction n with
  | zero => intro M; exact WO.nothing
  | succ n ih =>
    intro M
    rw [f_X6_readStreet_L91]
    refine WO.aload_n (n := 92) hA dX6_readStreet_91 0 rfl rfl ?_
    refine WO.getI (j := 17) (n := 95) hA (m_0 hw) rfl fiX6_readStreet_X6 (by decide) rfl fkX6_readStreet_111 dX6_readStreet_92 rfl ?_
    refine WO.if_eq (tg := 114) (n := 98) hA dX6_readStreet_95 (by decide) rfl (fun _ => ?_) (fun _ => ?_)
    · refine WO.aload_n (n := 115) hA dX6_readStreet_114 0 rfl rfl ?_
      refine WO.iload_n (n := 116) hA dX6_readStreet_115 1 rfl rfl ?_
      refine WO.bipush (x := (44 : Int32)) (n := 118) hA dX6_readStreet_116 (by decide) rfl ?_
      refine WO.callVi (As := [.int x1, .int (44 : Int32)]) (rest := []) (n := 121) hA (c_X6_isSign v.2.1 w hw x1 (44 : Int32) M) gX6_readStreet_X6_isSign rfl (m_0 hw) rfl mdX6_isSign ⟨rfl, rfl, Nat.le_of_ble_eq_true rfl, Nat.le_of_ble_eq_true rfl⟩ rfl rfl (Nat.le_of_ble_eq_true rfl) dX6_readStreet_118 rfl (fun r13 M12 => ?_)
      refine WO.if_eq (tg := 132) (n := 124) hA dX6_readStreet_121 (by decide) rfl (fun _ => ?_) (fun _ => ?_)
      · refine WO.sub (lv' := []) [] rfl ?_
        exact hk  M12
      · refine WO.aload_n (n := 125) hA dX6_readStreet_124 0 rfl rfl ?_
        refine WO.iload_n (n := 126) hA dX6_readStreet_125 1 rfl rfl ?_
        refine WO.callVi (As := [.int x1]) (rest := []) (n := 129) hA (c_X6_readTheClock v.2.1 w hw x1 M12) gX6_readStreet_X6_readTheClock rfl (m_0 hw) rfl mdX6_readTheClock ⟨rfl, rfl, Nat.le_of_ble_eq_true rfl, Nat.le_of_ble_eq_true rfl⟩ rfl rfl (Nat.le_of_ble_eq_true rfl) dX6_readStreet_126 rfl (fun r15 M14 => ?_)
        refine WO.if_ne (tg := 91) (n := 132) hA dX6_readStreet_129 (by decide) rfl (fun _ => ?_) (fun _ => ?_)
        · refine WO.sub (lv' := []) [] rfl ?_
          exact hk  M14
        · exact ih  M14
    · refine WO.aload_n (n := 99) hA dX6_readStreet_98 0 rfl rfl ?_
      refine WO.getI (j := 17) (n := 102) hA (m_0 hw) rfl fiX6_readStreet_X6 (by decide) rfl fkX6_readStreet_111 dX6_readStreet_99 rfl ?_
      refine WO.iconst (x := (4 : Int32)) (n := 103) hA dX6_readStreet_102 (by decide) rfl ?_
      refine WO.icmp_ge (tg := 134) (n := 106) hA dX6_readStreet_103 (by decide) rfl (fun _ => ?_) (fun _ => ?_)
      · refine WO.aload_n (n := 135) hA dX6_readStreet_134 0 rfl rfl ?_
        refine WO.getI (j := 14) (n := 138) hA (m_0 hw) rfl fiX6_readStreet_X6 (by decide) rfl fkX6_readStreet_74 dX6_readStreet_135 rfl ?_
        refine WO.iload_n (n := 139) hA dX6_readStreet_138 1 rfl rfl ?_
        refine WO.icmp_ne (tg := 146) (n := 142) hA dX6_readStreet_139 (by decide) rfl (fun _ => ?_) (fun _ => ?_)
        · refine WO.iconst (x := (1 : Int32)) (n := 143) hA dX6_readStreet_142 (by decide) rfl ?_
          refine WO.goto (n := 147) hA dX6_readStreet_143 (by decide) ?_
          exact WO.zretc hA (by decide) dX6_readStreet_147
        · refine WO.iconst (x := (0 : Int32)) (n := 147) hA dX6_readStreet_146 (by decide) rfl ?_
          exact WO.zretc hA (by decide) dX6_readStreet_147
      · refine WO.aload_n (n := 107) hA dX6_readStreet_106 0 rfl rfl ?_
        refine WO.getI (j := 14) (n := 110) hA (m_0 hw) rfl fiX6_readStreet_X6 (by decide) rfl fkX6_readStreet_74 dX6_readStreet_107 rfl ?_
        refine WO.iload_n (n := 111) hA dX6_readStreet_110 1 rfl rfl ?_
        refine WO.icmp_ge (tg := 134) (n := 114) hA dX6_readStreet_111 (by decide) rfl (fun _ => ?_) (fun _ => ?_)
        · refine WO.aload_n (n := 135) hA dX6_readStreet_134 0 rfl rfl ?_
          refine WO.getI (j := 14) (n := 138) hA (m_0 hw) rfl fiX6_readStreet_X6 (by decide) rfl fkX6_readStreet_74 dX6_readStreet_135 rfl ?_
          refine WO.iload_n (n := 139) hA dX6_readStreet_138 1 rfl rfl ?_
          refine WO.icmp_ne (tg := 146) (n := 142) hA dX6_readStreet_139 (by decide) rfl (fun _ => ?_) (fun _ => ?_)
          · refine WO.iconst (x := (1 : Int32)) (n := 143) hA dX6_readStreet_142 (by decide) rfl ?_
            refine WO.goto (n := 147) hA dX6_readStreet_143 (by decide) ?_
            exact WO.zretc hA (by decide) dX6_readStreet_147
          · refine WO.iconst (x := (0 : Int32)) (n := 147) hA dX6_readStreet_146 (by decide) rfl ?_
            exact WO.zretc hA (by decide) dX6_readStreet_147
        · refine WO.aload_n (n := 115) hA dX6_readStreet_114 0 rfl rfl ?_
          refine WO.iload_n (n := 116) hA dX6_readStreet_115 1 rfl rfl ?_
          refine WO.bipush (x := (44 : Int32)) (n := 118) hA dX6_readStreet_116 (by decide) rfl ?_
          refine WO.callVi (As := [.int x1, .int (44 : Int32)]) (rest := []) (n := 121) hA (c_X6_isSign v.2.1 w hw x1 (44 : Int32) M) gX6_readStreet_X6_isSign rfl (m_0 hw) rfl mdX6_isSign ⟨rfl, rfl, Nat.le_of_ble_eq_true rfl, Nat.le_of_ble_eq_true rfl⟩ rfl rfl (Nat.le_of_ble_eq_true rfl) dX6_readStreet_118 rfl (fun r17 M16 => ?_)
          refine WO.if_eq (tg := 132) (n := 124) hA dX6_readStreet_121 (by decide) rfl (fun _ => ?_) (fun _ => ?_)
          · refine WO.sub (lv' := []) [] rfl ?_
            exact hk  M16
          · refine WO.aload_n (n := 125) hA dX6_readStreet_124 0 rfl rfl ?_
            refine WO.iload_n (n := 126) hA dX6_readStreet_125 1 rfl rfl ?_
            refine WO.callVi (As := [.int x1]) (rest := []) (n := 129) hA (c_X6_readTheClock v.2.1 w hw x1 M16) gX6_readStreet_X6_readTheClock rfl (m_0 hw) rfl mdX6_readTheClock ⟨rfl, rfl, Nat.le_of_ble_eq_true rfl, Nat.le_of_ble_eq_true rfl⟩ rfl rfl (Nat.le_of_ble_eq_true rfl) dX6_readStreet_126 rfl (fun r19 M18 => ?_)
            refine WO.if_ne (tg := 91) (n := 132) hA dX6_readStreet_129 (by decide) rfl (fun _ => ?_) (fun _ => ?_)
            · refine WO.sub (lv' := []) [] rfl ?_
              exact hk  M18
            · exact ih  M18
set_option maxHeartbeats 4000000 in
set_option maxRecDepth 100000 in
theorem w_X6_readStreet_L44 {v : Av} {w : Cw} (hw : w.2.2.2.2.2 = shM) (hA : Act v w RX6 wsX6_readStreet cX6_readStreet 2 (some .boolean)) (x1 : Int32) (kx : Mem → Option (Int32 × Mem)) (hk : ∀ (M : Mem), WO v w rmX6_readStreet 2 eI (kx M) 89 [] [] M) : ∀ (n : Nat) (M : Mem), WO v w rmX6_readStreet 2 eI (f_X6_readStreet_L44 x1 kx n M) 44 [(0, .ref (w.2.1 0)), (1, .int x1)] [] M := by
  intro n
  induction n with
  | zero => intro M; exact WO.nothing
  | succ n ih =>
    intro M
    rw [f_X6_readStreet_L44]
    refine WO.aload_n (n := 45) hA dX6_readStreet_44 0 rfl rfl ?_
    refine WO.getI (j := 16) (n := 48) hA (m_0 hw) rfl fiX6_readStreet_X6 (by decide) rfl fkX6_readStreet_108 dX6_readStreet_45 rfl ?_
    refine WO.iconst (x := (2 : Int32)) (n := 49) hA dX6_readStreet_48 (by decide) rfl ?_
    refine WO.icmp_lt (tg := 71) (n := 52) hA dX6_readStreet_49 (by decide) rfl (fun _ => ?_) (fun _ => ?_)
    · refine WO.aload_n (n := 72) hA dX6_readStreet_71 0 rfl rfl ?_
      refine WO.iload_n (n := 73) hA dX6_readStreet_72 1 rfl rfl ?_
      refine WO.bipush (x := (59 : Int32)) (n := 75) hA dX6_readStreet_73 (by decide) rfl ?_
      refine WO.callVi (As := [.int x1, .int (59 : Int32)]) (rest := []) (n := 78) hA (c_X6_isSign v.2.1 w hw x1 (59 : Int32) M) gX6_readStreet_X6_isSign rfl (m_0 hw) rfl mdX6_isSign ⟨rfl, rfl, Nat.le_of_ble_eq_true rfl, Nat.le_of_ble_eq_true rfl⟩ rfl rfl (Nat.le_of_ble_eq_true rfl) dX6_readStreet_75 rfl (fun r9 M8 => ?_)
      refine WO.if_eq (tg := 89) (n := 81) hA dX6_readStreet_78 (by decide) rfl (fun _ => ?_) (fun _ => ?_)
      · refine WO.sub (lv' := []) [] rfl ?_
        exact hk  M8
      · refine WO.aload_n (n := 82) hA dX6_readStreet_81 0 rfl rfl ?_
        refine WO.iload_n (n := 83) hA dX6_readStreet_82 1 rfl rfl ?_
        refine WO.callVi (As := [.int x1]) (rest := []) (n := 86) hA (c_X6_readTheHouse v.2.1 w hw x1 M8) gX6_readStreet_X6_readTheHouse rfl (m_0 hw) rfl mdX6_readTheHouse ⟨rfl, rfl, Nat.le_of_ble_eq_true rfl, Nat.le_of_ble_eq_true rfl⟩ rfl rfl (Nat.le_of_ble_eq_true rfl) dX6_readStreet_83 rfl (fun r11 M10 => ?_)
        refine WO.if_ne (tg := 44) (n := 89) hA dX6_readStreet_86 (by decide) rfl (fun _ => ?_) (fun _ => ?_)
        · refine WO.sub (lv' := []) [] rfl ?_
          exact hk  M10
        · exact ih  M10
    · refine WO.aload_n (n := 53) hA dX6_readStreet_52 0 rfl rfl ?_
      refine WO.getI (j := 16) (n := 56) hA (m_0 hw) rfl fiX6_readStreet_X6 (by decide) rfl fkX6_readStreet_108 dX6_readStreet_53 rfl ?_
      refine WO.bipush (x := (6 : Int32)) (n := 58) hA dX6_readStreet_56 (by decide) rfl ?_
      refine WO.icmp_ge (tg := 91) (n := 61) hA dX6_readStreet_58 (by decide) rfl (fun _ => ?_) (fun _ => ?_)
      · refine w_X6_readStreet_L91 hw hA x1 _ (fun  M20 => ?_) _  _
        refine WO.iconst (x := (0 : Int32)) (n := 133) hA dX6_readStreet_132 (by decide) rfl ?_
        exact WO.zretc hA (by decide) dX6_readStreet_133
      · refine WO.aload_n (n := 62) hA dX6_readStreet_61 0 rfl rfl ?_
        refine WO.iload_n (n := 63) hA dX6_readStreet_62 1 rfl rfl ?_
        refine WO.bipush (x := (59 : Int32)) (n := 65) hA dX6_readStreet_63 (by decide) rfl ?_
        refine WO.callVi (As := [.int x1, .int (59 : Int32)]) (rest := []) (n := 68) hA (c_X6_isNext v.2.1 w hw x1 (59 : Int32) M) gX6_readStreet_X6_isNext rfl (m_0 hw) rfl mdX6_isNext ⟨rfl, rfl, Nat.le_of_ble_eq_true rfl, Nat.le_of_ble_eq_true rfl⟩ rfl rfl (Nat.le_of_ble_eq_true rfl) dX6_readStreet_65 rfl (fun r22 M21 => ?_)
        refine WO.if_eq (tg := 91) (n := 71) hA dX6_readStreet_68 (by decide) rfl (fun _ => ?_) (fun _ => ?_)
        · refine w_X6_readStreet_L91 hw hA x1 _ (fun  M23 => ?_) _  _
          refine WO.iconst (x := (0 : Int32)) (n := 133) hA dX6_readStreet_132 (by decide) rfl ?_
          exact WO.zretc hA (by decide) dX6_readStreet_133
        · refine WO.aload_n (n := 72) hA dX6_readStreet_71 0 rfl rfl ?_
          refine WO.iload_n (n := 73) hA dX6_readStreet_72 1 rfl rfl ?_
          refine WO.bipush (x := (59 : Int32)) (n := 75) hA dX6_readStreet_73 (by decide) rfl ?_
          refine WO.callVi (As := [.int x1, .int (59 : Int32)]) (rest := []) (n := 78) hA (c_X6_isSign v.2.1 w hw x1 (59 : Int32) M21) gX6_readStreet_X6_isSign rfl (m_0 hw) rfl mdX6_isSign ⟨rfl, rfl, Nat.le_of_ble_eq_true rfl, Nat.le_of_ble_eq_true rfl⟩ rfl rfl (Nat.le_of_ble_eq_true rfl) dX6_readStreet_75 rfl (fun r25 M24 => ?_)
          refine WO.if_eq (tg := 89) (n := 81) hA dX6_readStreet_78 (by decide) rfl (fun _ => ?_) (fun _ => ?_)
          · refine WO.sub (lv' := []) [] rfl ?_
            exact hk  M24
          · refine WO.aload_n (n := 82) hA dX6_readStreet_81 0 rfl rfl ?_
            refine WO.iload_n (n := 83) hA dX6_readStreet_82 1 rfl rfl ?_
            refine WO.callVi (As := [.int x1]) (rest := []) (n := 86) hA (c_X6_readTheHouse v.2.1 w hw x1 M24) gX6_readStreet_X6_readTheHouse rfl (m_0 hw) rfl mdX6_readTheHouse ⟨rfl, rfl, Nat.le_of_ble_eq_true rfl, Nat.le_of_ble_eq_true rfl⟩ rfl rfl (Nat.le_of_ble_eq_true rfl) dX6_readStreet_83 rfl (fun r27 M26 => ?_)
            refine WO.if_ne (tg := 44) (n := 89) hA dX6_readStreet_86 (by decide) rfl (fun _ => ?_) (fun _ => ?_)
            · refine WO.sub (lv' := []) [] rfl ?_
              exact hk  M26
            · exact ih  M26
set_option maxHeartbeats 4000000 in
set_option maxRecDepth 100000 in
theorem c_X6_readStreet (l : Launch) (w : Cw) (hw : w.2.2.2.2.2 = shM) (x1 : Int32) (M : Mem) : Ok l w eI yX6_readStreet wsX6_readStreet rmX6_readStreet [.ref (w.2.1 0), .int x1] M (f_X6_readStreet x1 M) := by
  refine Ok.of (cc := cX6_readStreet) (nL := 2) (ret := (some .boolean)) (lv := [(0, .ref (w.2.1 0)), (1, .int x1)]) (by decide) rfl (Nat.le_of_ble_eq_true rfl) rfl (fun v hv hA => ?_)
  subst hv
  have hA : Act v w RX6 wsX6_readStreet cX6_readStreet 2 (some .boolean) := hA
  unfold f_X6_readStreet
  refine WO.aload_n (n := 1) hA dX6_readStreet_0 0 rfl rfl ?_
  refine WO.iconst (x := (0 : Int32)) (n := 2) hA dX6_readStreet_1 (by decide) rfl ?_
  refine WO.putI (j := 16) (n := 5) hA (m_0 hw) rfl fiX6_readStreet_X6 tyX6 tyX6_ok nmX6 (by decide) rfl fkX6_readStreet_108 rfl rfl rfl rfl dX6_readStreet_2 rfl ?_
  refine WO.mem (fun M1 => ?_)
  refine WO.aload_n (n := 6) hA dX6_readStreet_5 0 rfl rfl ?_
  refine WO.iconst (x := (0 : Int32)) (n := 7) hA dX6_readStreet_6 (by decide) rfl ?_
  refine WO.putI (j := 17) (n := 10) hA (m_0 hw) rfl fiX6_readStreet_X6 tyX6 tyX6_ok nmX6 (by decide) rfl fkX6_readStreet_111 rfl rfl rfl rfl dX6_readStreet_7 rfl ?_
  refine WO.mem (fun M2 => ?_)
  refine WO.aload_n (n := 11) hA dX6_readStreet_10 0 rfl rfl ?_
  refine WO.iload_n (n := 12) hA dX6_readStreet_11 1 rfl rfl ?_
  refine WO.bipush (x := (99 : Int32)) (n := 14) hA dX6_readStreet_12 (by decide) rfl ?_
  refine WO.callVi (As := [.int x1, .int (99 : Int32)]) (rest := []) (n := 17) hA (c_X6_isSign v.2.1 w hw x1 (99 : Int32) M2) gX6_readStreet_X6_isSign rfl (m_0 hw) rfl mdX6_isSign ⟨rfl, rfl, Nat.le_of_ble_eq_true rfl, Nat.le_of_ble_eq_true rfl⟩ rfl rfl (Nat.le_of_ble_eq_true rfl) dX6_readStreet_14 rfl (fun r4 M3 => ?_)
  refine WO.if_ne (tg := 22) (n := 20) hA dX6_readStreet_17 (by decide) rfl (fun _ => ?_) (fun _ => ?_)
  · refine WO.iconst (x := (0 : Int32)) (n := 21) hA dX6_readStreet_20 (by decide) rfl ?_
    exact WO.zretc hA (by decide) dX6_readStreet_21
  · refine WO.aload_n (n := 23) hA dX6_readStreet_22 0 rfl rfl ?_
    refine WO.aload_n (n := 24) hA dX6_readStreet_23 0 rfl rfl ?_
    refine WO.iload_n (n := 25) hA dX6_readStreet_24 1 rfl rfl ?_
    refine WO.iconst (x := (0 : Int32)) (n := 26) hA dX6_readStreet_25 (by decide) rfl ?_
    refine WO.iconst (x := (3 : Int32)) (n := 27) hA dX6_readStreet_26 (by decide) rfl ?_
    refine WO.callVi (As := [.int x1, .int (0 : Int32), .int (3 : Int32)]) (rest := [.ref (w.2.1 0)]) (n := 30) hA (c_X6_digit v.2.1 w hw x1 (0 : Int32) (3 : Int32) M3) gX6_readStreet_X6_digit rfl (m_0 hw) rfl mdX6_digit ⟨rfl, rfl, Nat.le_of_ble_eq_true rfl, Nat.le_of_ble_eq_true rfl⟩ rfl rfl (Nat.le_of_ble_eq_true rfl) dX6_readStreet_27 rfl (fun r6 M5 => ?_)
    refine WO.putI (j := 15) (n := 33) hA (m_0 hw) rfl fiX6_readStreet_X6 tyX6 tyX6_ok nmX6 (by decide) rfl fkX6_readStreet_102 rfl rfl rfl rfl dX6_readStreet_30 rfl ?_
    refine WO.mem (fun M7 => ?_)
    refine WO.aload_n (n := 34) hA dX6_readStreet_33 0 rfl rfl ?_
    refine WO.getI (j := 15) (n := 37) hA (m_0 hw) rfl fiX6_readStreet_X6 (by decide) rfl fkX6_readStreet_102 dX6_readStreet_34 rfl ?_
    refine WO.bipush (x := (-9 : Int32)) (n := 39) hA dX6_readStreet_37 (by decide) rfl ?_
    refine WO.icmp_ne (tg := 44) (n := 42) hA dX6_readStreet_39 (by decide) rfl (fun _ => ?_) (fun _ => ?_)
    · refine WO.iconst (x := (0 : Int32)) (n := 43) hA dX6_readStreet_42 (by decide) rfl ?_
      exact WO.zretc hA (by decide) dX6_readStreet_43
    · refine w_X6_readStreet_L44 hw hA x1 _ (fun  M28 => ?_) _  _
      refine WO.iconst (x := (0 : Int32)) (n := 90) hA dX6_readStreet_89 (by decide) rfl ?_
      exact WO.zretc hA (by decide) dX6_readStreet_90
/- X6_takeStreet -/
abbrev rmX6_takeStreet : Room := { frames := 0, cells := 0, slots := 0, locals := 0 }
theorem mdX6_takeStreet : yX6_takeStreet.cls = RX6 ∧ yX6_takeStreet.cls ≠ "java/lang/invoke/MethodHandle" ∧ yX6_takeStreet.cls ≠ "java/lang/invoke/VarHandle" ∧ (parseMethodDescriptor yX6_takeStreet.desc).map (fun d => d.parameters.length) = some 0 := by decide +kernel
theorem fkX6_takeStreet_102 : Cond.fieldLink RX6 102 (TX6 15).1 (TX6 15).2.1 (TX6 15).2.2.1 ∈ wsX6_takeStreet := by decide +kernel
theorem fiX6_takeStreet_X6 : ∀ q ∈ u_ws RX6 TX6 30, q ∈ wsX6_takeStreet := by decide +kernel
theorem fkX6_takeStreet_105 : Cond.fieldLink RX6 105 (TX6 5).1 (TX6 5).2.1 (TX6 5).2.2.1 ∈ wsX6_takeStreet := by decide +kernel
theorem fkX6_takeStreet_108 : Cond.fieldLink RX6 108 (TX6 16).1 (TX6 16).2.1 (TX6 16).2.2.1 ∈ wsX6_takeStreet := by decide +kernel
theorem fkX6_takeStreet_68 : Cond.fieldLink RX6 68 (TX6 6).1 (TX6 6).2.1 (TX6 6).2.2.1 ∈ wsX6_takeStreet := by decide +kernel
theorem fkX6_takeStreet_19 : Cond.fieldLink RX6 19 (TX6 10).1 (TX6 10).2.1 (TX6 10).2.2.1 ∈ wsX6_takeStreet := by decide +kernel
theorem fkX6_takeStreet_31 : Cond.fieldLink RX6 31 (TX6 18).1 (TX6 18).2.1 (TX6 18).2.2.1 ∈ wsX6_takeStreet := by decide +kernel
theorem fkX6_takeStreet_22 : Cond.fieldLink RX6 22 (TX6 11).1 (TX6 11).2.1 (TX6 11).2.2.1 ∈ wsX6_takeStreet := by decide +kernel
theorem fkX6_takeStreet_111 : Cond.fieldLink RX6 111 (TX6 17).1 (TX6 17).2.1 (TX6 17).2.2.1 ∈ wsX6_takeStreet := by decide +kernel
theorem fkX6_takeStreet_71 : Cond.fieldLink RX6 71 (TX6 7).1 (TX6 7).2.1 (TX6 7).2.2.1 ∈ wsX6_takeStreet := by decide +kernel
theorem fkX6_takeStreet_25 : Cond.fieldLink RX6 25 (TX6 12).1 (TX6 12).2.1 (TX6 12).2.2.1 ∈ wsX6_takeStreet := by decide +kernel
theorem fkX6_takeStreet_34 : Cond.fieldLink RX6 34 (TX6 19).1 (TX6 19).2.1 (TX6 19).2.2.1 ∈ wsX6_takeStreet := by decide +kernel
theorem fkX6_takeStreet_28 : Cond.fieldLink RX6 28 (TX6 13).1 (TX6 13).2.1 (TX6 13).2.2.1 ∈ wsX6_takeStreet := by decide +kernel
theorem fkX6_takeStreet_114 : Cond.fieldLink RX6 114 (TX6 9).1 (TX6 9).2.1 (TX6 9).2.2.1 ∈ wsX6_takeStreet := by decide +kernel
theorem fkX6_takeStreet_117 : Cond.fieldLink RX6 117 (TX6 8).1 (TX6 8).2.1 (TX6 8).2.2.1 ∈ wsX6_takeStreet := by decide +kernel
theorem fkX6_takeStreet_120 : Cond.fieldLink RX6 120 (TX6 25).1 (TX6 25).2.1 (TX6 25).2.2.1 ∈ wsX6_takeStreet := by decide +kernel
noncomputable def f_X6_takeStreet_L18 (kx : Mem → Option (Unit × Mem)) : Nat → Int32 → Mem → Option (Unit × Mem)
  | 0, _, _ => none
  | n + 1, x1, M => if (M 0 6) ≤ x1 then (kx  M) else (grd ((2 : Int32) * x1) 12 (grd x1 6 (mlt (mu M 4 x1.toNatClampNeg (M 8 ((2 : Int32) * x1).toNatClampNeg)) (fun M3 => grd (((2 : Int32) * x1) + (1 : Int32)) 12 (grd x1 6 (mlt (mu M3 5 x1.toNatClampNeg (M3 8 (((2 : Int32) * x1) + (1 : Int32)).toNatClampNeg)) (fun M4 => f_X6_takeStreet_L18 kx n (x1 + (1 : Int32)) M4)))))))
noncomputable def f_X6_takeStreet_L72 (kx : Mem → Option (Unit × Mem)) : Nat → Int32 → Mem → Option (Unit × Mem)
  | 0, _, _ => none
  | n + 1, x1, M => if (M 0 7) ≤ x1 then (kx  M) else (grd ((2 : Int32) * x1) 8 (grd x1 4 (mlt (mu M 6 x1.toNatClampNeg (M 9 ((2 : Int32) * x1).toNatClampNeg)) (fun M7 => grd (((2 : Int32) * x1) + (1 : Int32)) 8 (grd x1 4 (mlt (mu M7 7 x1.toNatClampNeg (M7 9 (((2 : Int32) * x1) + (1 : Int32)).toNatClampNeg)) (fun M8 => f_X6_takeStreet_L72 kx n (x1 + (1 : Int32)) M8)))))))
noncomputable def f_X6_takeStreet (M : Mem) : Option (Unit × Mem) := mlt (mu M 0 5 (M 0 15)) (fun M1 => mlt (mu M1 0 6 (M1 0 16)) (fun M2 => f_X6_takeStreet_L18 (fun  M5 => mlt (mu M5 0 7 (M5 0 17)) (fun M6 => f_X6_takeStreet_L72 (fun  M9 => mlt (mu M9 0 9 (0 : Int32)) (fun M10 => mlt (mu M10 0 8 (0 : Int32)) (fun M11 => mlt (mu M11 0 25 (0 : Int32)) (fun M12 => some ((), M12))))) FU (0 : Int32) M6)) FU (0 : Int32) M2))
set_option maxHeartbeats 4000000 in
set_option maxRecDepth 100000 in
theorem w_X6_takeStreet_L18 {v : Av} {w : Cw} (hw : w.2.2.2.2.2 = shM) (hA : Act v w RX6 wsX6_takeStreet cX6_takeStreet 2 none) (kx : Mem → Option (Unit × Mem)) (hk : ∀ (M : Mem), WO v w rmX6_takeStreet 2 eV (kx M) 62 [(0, .ref (w.2.1 0))] [] M) : ∀ (n : Nat) (x1 : Int32) (M : Mem), WO v w rmX6_takeStreet 2 eV (f_X6_takeStreet_L18 kx n x1 M) 18 [(0, .ref (w.2.1 0)), (1, .int x1)] [] M := by
  intro n
  induction n with
  | zero => intro x1 M; exact WO.nothing
  | succ n ih =>
    intro x1 M
    rw [f_X6_takeStreet_L18]
    refine WO.iload_n (n := 19) hA dX6_takeStreet_18 1 rfl rfl ?_
    refine WO.aload_n (n := 20) hA dX6_takeStreet_19 0 rfl rfl ?_
    refine WO.getI (j := 6) (n := 23) hA (m_0 hw) rfl fiX6_takeStreet_X6 (by decide) rfl fkX6_takeStreet_68 dX6_takeStreet_20 rfl ?_
    refine WO.icmp_ge (tg := 62) (n := 26) hA dX6_takeStreet_23 (by decide) rfl (fun _ => ?_) (fun _ => ?_)
    · refine WO.sub (lv' := [(0, .ref (w.2.1 0))]) [0] rfl ?_
      exact hk  M
    · refine WO.aload_n (n := 27) hA dX6_takeStreet_26 0 rfl rfl ?_
      refine WO.getR (j := 10) (p := 4) (n := 30) hA (m_0 hw) rfl fiX6_takeStreet_X6 (by decide) rfl fkX6_takeStreet_19 dX6_takeStreet_27 rfl ?_
      refine WO.iload_n (n := 31) hA dX6_takeStreet_30 1 rfl rfl ?_
      refine WO.aload_n (n := 32) hA dX6_takeStreet_31 0 rfl rfl ?_
      refine WO.getR (j := 18) (p := 8) (n := 35) hA (m_0 hw) rfl fiX6_takeStreet_X6 (by decide) rfl fkX6_takeStreet_31 dX6_takeStreet_32 rfl ?_
      refine WO.iconst (x := (2 : Int32)) (n := 36) hA dX6_takeStreet_35 (by decide) rfl ?_
      refine WO.iload_n (n := 37) hA dX6_takeStreet_36 1 rfl rfl ?_
      refine WO.imul (n := 38) hA dX6_takeStreet_37 rfl ?_
      refine WO.iald (n := 39) hA (m_8 hw) dX6_takeStreet_38 rfl (fun _ => ?_)
      refine WO.iast (n := 40) hA (m_4 hw) dX6_takeStreet_39 rfl (fun _ => ?_)
      refine WO.mem (fun M3 => ?_)
      refine WO.aload_n (n := 41) hA dX6_takeStreet_40 0 rfl rfl ?_
      refine WO.getR (j := 11) (p := 5) (n := 44) hA (m_0 hw) rfl fiX6_takeStreet_X6 (by decide) rfl fkX6_takeStreet_22 dX6_takeStreet_41 rfl ?_
      refine WO.iload_n (n := 45) hA dX6_takeStreet_44 1 rfl rfl ?_
      refine WO.aload_n (n := 46) hA dX6_takeStreet_45 0 rfl rfl ?_
      refine WO.getR (j := 18) (p := 8) (n := 49) hA (m_0 hw) rfl fiX6_takeStreet_X6 (by decide) rfl fkX6_takeStreet_31 dX6_takeStreet_46 rfl ?_
      refine WO.iconst (x := (2 : Int32)) (n := 50) hA dX6_takeStreet_49 (by decide) rfl ?_
      refine WO.iload_n (n := 51) hA dX6_takeStreet_50 1 rfl rfl ?_
      refine WO.imul (n := 52) hA dX6_takeStreet_51 rfl ?_
      refine WO.iconst (x := (1 : Int32)) (n := 53) hA dX6_takeStreet_52 (by decide) rfl ?_
      refine WO.iadd (n := 54) hA dX6_takeStreet_53 rfl ?_
      refine WO.iald (n := 55) hA (m_8 hw) dX6_takeStreet_54 rfl (fun _ => ?_)
      refine WO.iast (n := 56) hA (m_5 hw) dX6_takeStreet_55 rfl (fun _ => ?_)
      refine WO.mem (fun M4 => ?_)
      refine WO.iinc (y := (1 : Int32)) (lv' := [(1, .int (x1 + (1 : Int32))), (0, .ref (w.2.1 0))]) (n := 59) hA dX6_takeStreet_56 1 rfl (by decide) (by decide) rfl rfl ?_
      refine WO.goto (n := 18) hA dX6_takeStreet_59 (by decide) ?_
      refine WO.sub (lv' := [(0, .ref (w.2.1 0)), (1, .int (x1 + (1 : Int32)))]) [1, 0] rfl ?_
      exact ih (x1 + (1 : Int32)) M4
set_option maxHeartbeats 4000000 in
set_option maxRecDepth 100000 in
theorem w_X6_takeStreet_L72 {v : Av} {w : Cw} (hw : w.2.2.2.2.2 = shM) (hA : Act v w RX6 wsX6_takeStreet cX6_takeStreet 2 none) (kx : Mem → Option (Unit × Mem)) (hk : ∀ (M : Mem), WO v w rmX6_takeStreet 2 eV (kx M) 116 [(0, .ref (w.2.1 0))] [] M) : ∀ (n : Nat) (x1 : Int32) (M : Mem), WO v w rmX6_takeStreet 2 eV (f_X6_takeStreet_L72 kx n x1 M) 72 [(0, .ref (w.2.1 0)), (1, .int x1)] [] M := by
  intro n
  induction n with
  | zero => intro x1 M; exact WO.nothing
  | succ n ih =>
    intro x1 M
    rw [f_X6_takeStreet_L72]
    refine WO.iload_n (n := 73) hA dX6_takeStreet_72 1 rfl rfl ?_
    refine WO.aload_n (n := 74) hA dX6_takeStreet_73 0 rfl rfl ?_
    refine WO.getI (j := 7) (n := 77) hA (m_0 hw) rfl fiX6_takeStreet_X6 (by decide) rfl fkX6_takeStreet_71 dX6_takeStreet_74 rfl ?_
    refine WO.icmp_ge (tg := 116) (n := 80) hA dX6_takeStreet_77 (by decide) rfl (fun _ => ?_) (fun _ => ?_)
    · refine WO.sub (lv' := [(0, .ref (w.2.1 0))]) [0] rfl ?_
      exact hk  M
    · refine WO.aload_n (n := 81) hA dX6_takeStreet_80 0 rfl rfl ?_
      refine WO.getR (j := 12) (p := 6) (n := 84) hA (m_0 hw) rfl fiX6_takeStreet_X6 (by decide) rfl fkX6_takeStreet_25 dX6_takeStreet_81 rfl ?_
      refine WO.iload_n (n := 85) hA dX6_takeStreet_84 1 rfl rfl ?_
      refine WO.aload_n (n := 86) hA dX6_takeStreet_85 0 rfl rfl ?_
      refine WO.getR (j := 19) (p := 9) (n := 89) hA (m_0 hw) rfl fiX6_takeStreet_X6 (by decide) rfl fkX6_takeStreet_34 dX6_takeStreet_86 rfl ?_
      refine WO.iconst (x := (2 : Int32)) (n := 90) hA dX6_takeStreet_89 (by decide) rfl ?_
      refine WO.iload_n (n := 91) hA dX6_takeStreet_90 1 rfl rfl ?_
      refine WO.imul (n := 92) hA dX6_takeStreet_91 rfl ?_
      refine WO.iald (n := 93) hA (m_9 hw) dX6_takeStreet_92 rfl (fun _ => ?_)
      refine WO.iast (n := 94) hA (m_6 hw) dX6_takeStreet_93 rfl (fun _ => ?_)
      refine WO.mem (fun M7 => ?_)
      refine WO.aload_n (n := 95) hA dX6_takeStreet_94 0 rfl rfl ?_
      refine WO.getR (j := 13) (p := 7) (n := 98) hA (m_0 hw) rfl fiX6_takeStreet_X6 (by decide) rfl fkX6_takeStreet_28 dX6_takeStreet_95 rfl ?_
      refine WO.iload_n (n := 99) hA dX6_takeStreet_98 1 rfl rfl ?_
      refine WO.aload_n (n := 100) hA dX6_takeStreet_99 0 rfl rfl ?_
      refine WO.getR (j := 19) (p := 9) (n := 103) hA (m_0 hw) rfl fiX6_takeStreet_X6 (by decide) rfl fkX6_takeStreet_34 dX6_takeStreet_100 rfl ?_
      refine WO.iconst (x := (2 : Int32)) (n := 104) hA dX6_takeStreet_103 (by decide) rfl ?_
      refine WO.iload_n (n := 105) hA dX6_takeStreet_104 1 rfl rfl ?_
      refine WO.imul (n := 106) hA dX6_takeStreet_105 rfl ?_
      refine WO.iconst (x := (1 : Int32)) (n := 107) hA dX6_takeStreet_106 (by decide) rfl ?_
      refine WO.iadd (n := 108) hA dX6_takeStreet_107 rfl ?_
      refine WO.iald (n := 109) hA (m_9 hw) dX6_takeStreet_108 rfl (fun _ => ?_)
      refine WO.iast (n := 110) hA (m_7 hw) dX6_takeStreet_109 rfl (fun _ => ?_)
      refine WO.mem (fun M8 => ?_)
      refine WO.iinc (y := (1 : Int32)) (lv' := [(1, .int (x1 + (1 : Int32))), (0, .ref (w.2.1 0))]) (n := 113) hA dX6_takeStreet_110 1 rfl (by decide) (by decide) rfl rfl ?_
      refine WO.goto (n := 72) hA dX6_takeStreet_113 (by decide) ?_
      refine WO.sub (lv' := [(0, .ref (w.2.1 0)), (1, .int (x1 + (1 : Int32)))]) [1, 0] rfl ?_
      exact ih (x1 + (1 : Int32)) M8
set_option maxHeartbeats 4000000 in
set_option maxRecDepth 100000 in
theorem c_X6_takeStreet (l : Launch) (w : Cw) (hw : w.2.2.2.2.2 = shM) (M : Mem) : Ok l w eV yX6_takeStreet wsX6_takeStreet rmX6_takeStreet [.ref (w.2.1 0)] M (f_X6_takeStreet M) := by
  refine Ok.of (cc := cX6_takeStreet) (nL := 2) (ret := none) (lv := [(0, .ref (w.2.1 0))]) (by decide) rfl (Nat.le_of_ble_eq_true rfl) rfl (fun v hv hA => ?_)
  subst hv
  have hA : Act v w RX6 wsX6_takeStreet cX6_takeStreet 2 none := hA
  unfold f_X6_takeStreet
  refine WO.aload_n (n := 1) hA dX6_takeStreet_0 0 rfl rfl ?_
  refine WO.aload_n (n := 2) hA dX6_takeStreet_1 0 rfl rfl ?_
  refine WO.getI (j := 15) (n := 5) hA (m_0 hw) rfl fiX6_takeStreet_X6 (by decide) rfl fkX6_takeStreet_102 dX6_takeStreet_2 rfl ?_
  refine WO.putI (j := 5) (n := 8) hA (m_0 hw) rfl fiX6_takeStreet_X6 tyX6 tyX6_ok nmX6 (by decide) rfl fkX6_takeStreet_105 rfl rfl rfl rfl dX6_takeStreet_5 rfl ?_
  refine WO.mem (fun M1 => ?_)
  refine WO.aload_n (n := 9) hA dX6_takeStreet_8 0 rfl rfl ?_
  refine WO.aload_n (n := 10) hA dX6_takeStreet_9 0 rfl rfl ?_
  refine WO.getI (j := 16) (n := 13) hA (m_0 hw) rfl fiX6_takeStreet_X6 (by decide) rfl fkX6_takeStreet_108 dX6_takeStreet_10 rfl ?_
  refine WO.putI (j := 6) (n := 16) hA (m_0 hw) rfl fiX6_takeStreet_X6 tyX6 tyX6_ok nmX6 (by decide) rfl fkX6_takeStreet_68 rfl rfl rfl rfl dX6_takeStreet_13 rfl ?_
  refine WO.mem (fun M2 => ?_)
  refine WO.iconst (x := (0 : Int32)) (n := 17) hA dX6_takeStreet_16 (by decide) rfl ?_
  refine WO.istore_n (i := 1) (lv' := [(1, .int (0 : Int32)), (0, .ref (w.2.1 0))]) (n := 18) hA dX6_takeStreet_17 rfl (by decide) rfl rfl ?_
  refine WO.sub (lv' := [(0, .ref (w.2.1 0)), (1, .int (0 : Int32))]) [1, 0] rfl ?_
  refine w_X6_takeStreet_L18 hw hA _ (fun  M5 => ?_) _ _ _
  refine WO.aload_n (n := 63) hA dX6_takeStreet_62 0 rfl rfl ?_
  refine WO.aload_n (n := 64) hA dX6_takeStreet_63 0 rfl rfl ?_
  refine WO.getI (j := 17) (n := 67) hA (m_0 hw) rfl fiX6_takeStreet_X6 (by decide) rfl fkX6_takeStreet_111 dX6_takeStreet_64 rfl ?_
  refine WO.putI (j := 7) (n := 70) hA (m_0 hw) rfl fiX6_takeStreet_X6 tyX6 tyX6_ok nmX6 (by decide) rfl fkX6_takeStreet_71 rfl rfl rfl rfl dX6_takeStreet_67 rfl ?_
  refine WO.mem (fun M6 => ?_)
  refine WO.iconst (x := (0 : Int32)) (n := 71) hA dX6_takeStreet_70 (by decide) rfl ?_
  refine WO.istore_n (i := 1) (lv' := [(1, .int (0 : Int32)), (0, .ref (w.2.1 0))]) (n := 72) hA dX6_takeStreet_71 rfl (by decide) rfl rfl ?_
  refine WO.sub (lv' := [(0, .ref (w.2.1 0)), (1, .int (0 : Int32))]) [1, 0] rfl ?_
  refine w_X6_takeStreet_L72 hw hA _ (fun  M9 => ?_) _ _ _
  refine WO.aload_n (n := 117) hA dX6_takeStreet_116 0 rfl rfl ?_
  refine WO.iconst (x := (0 : Int32)) (n := 118) hA dX6_takeStreet_117 (by decide) rfl ?_
  refine WO.putI (j := 9) (n := 121) hA (m_0 hw) rfl fiX6_takeStreet_X6 tyX6 tyX6_ok nmX6 (by decide) rfl fkX6_takeStreet_114 rfl rfl rfl rfl dX6_takeStreet_118 rfl ?_
  refine WO.mem (fun M10 => ?_)
  refine WO.aload_n (n := 122) hA dX6_takeStreet_121 0 rfl rfl ?_
  refine WO.iconst (x := (0 : Int32)) (n := 123) hA dX6_takeStreet_122 (by decide) rfl ?_
  refine WO.putI (j := 8) (n := 126) hA (m_0 hw) rfl fiX6_takeStreet_X6 tyX6 tyX6_ok nmX6 (by decide) rfl fkX6_takeStreet_117 rfl rfl rfl rfl dX6_takeStreet_123 rfl ?_
  refine WO.mem (fun M11 => ?_)
  refine WO.aload_n (n := 127) hA dX6_takeStreet_126 0 rfl rfl ?_
  refine WO.iconst (x := (0 : Int32)) (n := 128) hA dX6_takeStreet_127 (by decide) rfl ?_
  refine WO.putI (j := 25) (n := 131) hA (m_0 hw) rfl fiX6_takeStreet_X6 tyX6 tyX6_ok nmX6 (by decide) rfl fkX6_takeStreet_120 rfl rfl rfl rfl dX6_takeStreet_128 rfl ?_
  refine WO.mem (fun M12 => ?_)
  exact WO.vret hA dX6_takeStreet_131
/- X6_street -/
abbrev rmX6_street : Room := { frames := 4, cells := 0, slots := 0, locals := 89 }
theorem mdX6_street : yX6_street.cls = RX6 ∧ yX6_street.cls ≠ "java/lang/invoke/MethodHandle" ∧ yX6_street.cls ≠ "java/lang/invoke/VarHandle" ∧ (parseMethodDescriptor yX6_street.desc).map (fun d => d.parameters.length) = some 4 := by decide +kernel
theorem fkX6_street_58 : Cond.fieldLink RX6 58 (TX6 0).1 (TX6 0).2.1 (TX6 0).2.2.1 ∈ wsX6_street := by decide +kernel
theorem fiX6_street_X6 : ∀ q ∈ u_ws RX6 TX6 30, q ∈ wsX6_street := by decide +kernel
theorem fkX6_street_74 : Cond.fieldLink RX6 74 (TX6 14).1 (TX6 14).2.1 (TX6 14).2.2.1 ∈ wsX6_street := by decide +kernel
theorem fkX6_street_71 : Cond.fieldLink RX6 71 (TX6 7).1 (TX6 7).2.1 (TX6 7).2.2.1 ∈ wsX6_street := by decide +kernel
noncomputable def f_X6_street (x1 : Int32) (x2 : Int32) (x3 : Int32) (x4 : Int32) (M : Mem) : Option (Int32 × Mem) := mlt (mu M 0 0 (0 : Int32)) (fun M1 => bd (f_X6_isSheet x1 M1) (fun r3 M2 => if r3 = 0 then (some ((-1 : Int32), M2)) else (bd (f_X6_isSort x2 M2) (fun r5 M4 => if r5 = 0 then (some ((-2 : Int32), M4)) else (bd (f_X6_against x1 x2 x3 x4 M4) (fun r7 M6 => if r7 = 0 then (ilt (((60 : Int32) * x1) + x3) (fun x_8 => mlt (mu M6 0 14 x_8) (fun M9 => bd (f_X6_readStreet (x_8 + x4) M9) (fun r11 M10 => if r11 = 0 then (some (((-100 : Int32) - ((M10 0 14) - x_8)), M10)) else (bd (f_X6_takeStreet M10) (fun _ M12 => some ((M12 0 7), M12))))))) else (bd (f_X6_fails r7 M6) (fun r14 M13 => some (r14, M13)))))))))
set_option maxHeartbeats 4000000 in
set_option maxRecDepth 100000 in
theorem c_X6_street (l : Launch) (w : Cw) (hw : w.2.2.2.2.2 = shM) (x1 : Int32) (x2 : Int32) (x3 : Int32) (x4 : Int32) (M : Mem) : Ok l w eI yX6_street wsX6_street rmX6_street [.ref (w.2.1 0), .int x1, .int x2, .int x3, .int x4] M (f_X6_street x1 x2 x3 x4 M) := by
  refine Ok.of (cc := cX6_street) (nL := 7) (ret := (some .int)) (lv := [(0, .ref (w.2.1 0)), (1, .int x1), (2, .int x2), (3, .int x3), (4, .int x4)]) (by decide) rfl (Nat.le_of_ble_eq_true rfl) rfl (fun v hv hA => ?_)
  subst hv
  have hA : Act v w RX6 wsX6_street cX6_street 7 (some .int) := hA
  unfold f_X6_street
  refine WO.aload_n (n := 1) hA dX6_street_0 0 rfl rfl ?_
  refine WO.iconst (x := (0 : Int32)) (n := 2) hA dX6_street_1 (by decide) rfl ?_
  refine WO.putI (j := 0) (n := 5) hA (m_0 hw) rfl fiX6_street_X6 tyX6 tyX6_ok nmX6 (by decide) rfl fkX6_street_58 rfl rfl rfl rfl dX6_street_2 rfl ?_
  refine WO.mem (fun M1 => ?_)
  refine WO.iload_n (n := 6) hA dX6_street_5 1 rfl rfl ?_
  refine WO.callSi (As := [.int x1]) (rest := []) (n := 9) hA (c_X6_isSheet v.2.1 w hw x1 M1) gX6_street_X6_isSheet rfl mdX6_isSheet ⟨rfl, rfl, Nat.le_of_ble_eq_true rfl, Nat.le_of_ble_eq_true rfl⟩ rfl rfl (Nat.le_of_ble_eq_true rfl) dX6_street_6 rfl (fun r3 M2 => ?_)
  refine WO.if_ne (tg := 14) (n := 12) hA dX6_street_9 (by decide) rfl (fun _ => ?_) (fun _ => ?_)
  · refine WO.iconst (x := (-1 : Int32)) (n := 13) hA dX6_street_12 (by decide) rfl ?_
    exact WO.iret hA dX6_street_13
  · refine WO.iload_n (n := 15) hA dX6_street_14 2 rfl rfl ?_
    refine WO.callSi (As := [.int x2]) (rest := []) (n := 18) hA (c_X6_isSort v.2.1 w hw x2 M2) gX6_street_X6_isSort rfl mdX6_isSort ⟨rfl, rfl, Nat.le_of_ble_eq_true rfl, Nat.le_of_ble_eq_true rfl⟩ rfl rfl (Nat.le_of_ble_eq_true rfl) dX6_street_15 rfl (fun r5 M4 => ?_)
    refine WO.if_ne (tg := 24) (n := 21) hA dX6_street_18 (by decide) rfl (fun _ => ?_) (fun _ => ?_)
    · refine WO.bipush (x := (-2 : Int32)) (n := 23) hA dX6_street_21 (by decide) rfl ?_
      exact WO.iret hA dX6_street_23
    · refine WO.aload_n (n := 25) hA dX6_street_24 0 rfl rfl ?_
      refine WO.iload_n (n := 26) hA dX6_street_25 1 rfl rfl ?_
      refine WO.iload_n (n := 27) hA dX6_street_26 2 rfl rfl ?_
      refine WO.iload_n (n := 28) hA dX6_street_27 3 rfl rfl ?_
      refine WO.iload (n := 30) hA dX6_street_28 4 rfl rfl ?_
      refine WO.callVi (As := [.int x1, .int x2, .int x3, .int x4]) (rest := []) (n := 33) hA (c_X6_against v.2.1 w hw x1 x2 x3 x4 M4) gX6_street_X6_against rfl (m_0 hw) rfl mdX6_against ⟨rfl, rfl, Nat.le_of_ble_eq_true rfl, Nat.le_of_ble_eq_true rfl⟩ rfl rfl (Nat.le_of_ble_eq_true rfl) dX6_street_30 rfl (fun r7 M6 => ?_)
      refine WO.istore (lv' := [(5, .int r7), (0, .ref (w.2.1 0)), (1, .int x1), (2, .int x2), (3, .int x3), (4, .int x4)]) (n := 35) hA dX6_street_33 (by decide) rfl rfl ?_
      refine WO.iload (n := 37) hA dX6_street_35 0 rfl rfl ?_
      refine WO.if_eq (tg := 47) (n := 40) hA dX6_street_37 (by decide) rfl (fun _ => ?_) (fun _ => ?_)
      · refine WO.bipush (x := (60 : Int32)) (n := 49) hA dX6_street_47 (by decide) rfl ?_
        refine WO.iload_n (n := 50) hA dX6_street_49 2 rfl rfl ?_
        refine WO.imul (n := 51) hA dX6_street_50 rfl ?_
        refine WO.iload_n (n := 52) hA dX6_street_51 4 rfl rfl ?_
        refine WO.iadd (n := 53) hA dX6_street_52 rfl ?_
        refine WO.top (fun x_8 => ?_)
        refine WO.istore (lv' := [(6, .int x_8), (5, .int r7), (0, .ref (w.2.1 0)), (1, .int x1), (2, .int x2), (3, .int x3), (4, .int x4)]) (n := 55) hA dX6_street_53 (by decide) rfl rfl ?_
        refine WO.aload_n (n := 56) hA dX6_street_55 2 rfl rfl ?_
        refine WO.iload (n := 58) hA dX6_street_56 0 rfl rfl ?_
        refine WO.putI (j := 14) (n := 61) hA (m_0 hw) rfl fiX6_street_X6 tyX6 tyX6_ok nmX6 (by decide) rfl fkX6_street_74 rfl rfl rfl rfl dX6_street_58 rfl ?_
        refine WO.mem (fun M9 => ?_)
        refine WO.aload_n (n := 62) hA dX6_street_61 2 rfl rfl ?_
        refine WO.iload (n := 64) hA dX6_street_62 0 rfl rfl ?_
        refine WO.iload (n := 66) hA dX6_street_64 6 rfl rfl ?_
        refine WO.iadd (n := 67) hA dX6_street_66 rfl ?_
        refine WO.callVi (As := [.int (x_8 + x4)]) (rest := []) (n := 70) hA (c_X6_readStreet v.2.1 w hw (x_8 + x4) M9) gX6_street_X6_readStreet rfl (m_0 hw) rfl mdX6_readStreet ⟨rfl, rfl, Nat.le_of_ble_eq_true rfl, Nat.le_of_ble_eq_true rfl⟩ rfl rfl (Nat.le_of_ble_eq_true rfl) dX6_street_67 rfl (fun r11 M10 => ?_)
        refine WO.if_ne (tg := 84) (n := 73) hA dX6_street_70 (by decide) rfl (fun _ => ?_) (fun _ => ?_)
        · refine WO.bipush (x := (-100 : Int32)) (n := 75) hA dX6_street_73 (by decide) rfl ?_
          refine WO.aload_n (n := 76) hA dX6_street_75 2 rfl rfl ?_
          refine WO.getI (j := 14) (n := 79) hA (m_0 hw) rfl fiX6_street_X6 (by decide) rfl fkX6_street_74 dX6_street_76 rfl ?_
          refine WO.iload (n := 81) hA dX6_street_79 0 rfl rfl ?_
          refine WO.isub (n := 82) hA dX6_street_81 rfl ?_
          refine WO.isub (n := 83) hA dX6_street_82 rfl ?_
          exact WO.iret hA dX6_street_83
        · refine WO.aload_n (n := 85) hA dX6_street_84 2 rfl rfl ?_
          refine WO.callVv (As := []) (rest := []) (n := 88) hA (c_X6_takeStreet v.2.1 w hw M10) gX6_street_X6_takeStreet rfl (m_0 hw) rfl mdX6_takeStreet ⟨rfl, rfl, Nat.le_of_ble_eq_true rfl, Nat.le_of_ble_eq_true rfl⟩ rfl rfl (Nat.le_of_ble_eq_true rfl) dX6_street_85 rfl (fun M12 => ?_)
          refine WO.aload_n (n := 89) hA dX6_street_88 2 rfl rfl ?_
          refine WO.getI (j := 7) (n := 92) hA (m_0 hw) rfl fiX6_street_X6 (by decide) rfl fkX6_street_71 dX6_street_89 rfl ?_
          exact WO.iret hA dX6_street_92
      · refine WO.aload_n (n := 41) hA dX6_street_40 1 rfl rfl ?_
        refine WO.iload (n := 43) hA dX6_street_41 0 rfl rfl ?_
        refine WO.callVi (As := [.int r7]) (rest := []) (n := 46) hA (c_X6_fails v.2.1 w hw r7 M6) gX6_street_X6_fails rfl (m_0 hw) rfl mdX6_fails ⟨rfl, rfl, Nat.le_of_ble_eq_true rfl, Nat.le_of_ble_eq_true rfl⟩ rfl rfl (Nat.le_of_ble_eq_true rfl) dX6_street_43 rfl (fun r14 M13 => ?_)
        exact WO.iret hA dX6_street_46
/- X6_needsOf -/
abbrev rmX6_needsOf : Room := { frames := 0, cells := 0, slots := 0, locals := 0 }
theorem mdX6_needsOf : yX6_needsOf.cls = RX6 ∧ yX6_needsOf.cls ≠ "java/lang/invoke/MethodHandle" ∧ yX6_needsOf.cls ≠ "java/lang/invoke/VarHandle" ∧ (parseMethodDescriptor yX6_needsOf.desc).map (fun d => d.parameters.length) = some 1 := by decide +kernel
theorem fkX6_needsOf_19 : Cond.fieldLink RX6 19 (TX6 10).1 (TX6 10).2.1 (TX6 10).2.2.1 ∈ wsX6_needsOf := by decide +kernel
theorem fiX6_needsOf_X6 : ∀ q ∈ u_ws RX6 TX6 30, q ∈ wsX6_needsOf := by decide +kernel
theorem fkX6_needsOf_22 : Cond.fieldLink RX6 22 (TX6 11).1 (TX6 11).2.1 (TX6 11).2.2.1 ∈ wsX6_needsOf := by decide +kernel
noncomputable def f_X6_needsOf (x1 : Int32) (M : Mem) : Option (Int32 × Mem) := grd x1 6 (if (M 4 x1.toNatClampNeg) = 0 then (grd x1 6 (some ((M 5 x1.toNatClampNeg), M))) else (grd x1 6 (if (M 4 x1.toNatClampNeg) = (1 : Int32) then (grd x1 6 (some (((M 5 x1.toNatClampNeg) - (1 : Int32)), M))) else (grd x1 6 (some (((M 5 x1.toNatClampNeg) / (2 : Int32)), M))))))
set_option maxHeartbeats 4000000 in
set_option maxRecDepth 100000 in
theorem c_X6_needsOf (l : Launch) (w : Cw) (hw : w.2.2.2.2.2 = shM) (x1 : Int32) (M : Mem) : Ok l w eI yX6_needsOf wsX6_needsOf rmX6_needsOf [.ref (w.2.1 0), .int x1] M (f_X6_needsOf x1 M) := by
  refine Ok.of (cc := cX6_needsOf) (nL := 2) (ret := (some .int)) (lv := [(0, .ref (w.2.1 0)), (1, .int x1)]) (by decide) rfl (Nat.le_of_ble_eq_true rfl) rfl (fun v hv hA => ?_)
  subst hv
  have hA : Act v w RX6 wsX6_needsOf cX6_needsOf 2 (some .int) := hA
  unfold f_X6_needsOf
  refine WO.aload_n (n := 1) hA dX6_needsOf_0 0 rfl rfl ?_
  refine WO.getR (j := 10) (p := 4) (n := 4) hA (m_0 hw) rfl fiX6_needsOf_X6 (by decide) rfl fkX6_needsOf_19 dX6_needsOf_1 rfl ?_
  refine WO.iload_n (n := 5) hA dX6_needsOf_4 1 rfl rfl ?_
  refine WO.iald (n := 6) hA (m_4 hw) dX6_needsOf_5 rfl (fun _ => ?_)
  refine WO.if_ne (tg := 18) (n := 9) hA dX6_needsOf_6 (by decide) rfl (fun _ => ?_) (fun _ => ?_)
  · refine WO.aload_n (n := 10) hA dX6_needsOf_9 0 rfl rfl ?_
    refine WO.getR (j := 11) (p := 5) (n := 13) hA (m_0 hw) rfl fiX6_needsOf_X6 (by decide) rfl fkX6_needsOf_22 dX6_needsOf_10 rfl ?_
    refine WO.iload_n (n := 14) hA dX6_needsOf_13 1 rfl rfl ?_
    refine WO.iald (n := 15) hA (m_5 hw) dX6_needsOf_14 rfl (fun _ => ?_)
    refine WO.goto (n := 47) hA dX6_needsOf_15 (by decide) ?_
    exact WO.iret hA dX6_needsOf_47
  · refine WO.aload_n (n := 19) hA dX6_needsOf_18 0 rfl rfl ?_
    refine WO.getR (j := 10) (p := 4) (n := 22) hA (m_0 hw) rfl fiX6_needsOf_X6 (by decide) rfl fkX6_needsOf_19 dX6_needsOf_19 rfl ?_
    refine WO.iload_n (n := 23) hA dX6_needsOf_22 1 rfl rfl ?_
    refine WO.iald (n := 24) hA (m_4 hw) dX6_needsOf_23 rfl (fun _ => ?_)
    refine WO.iconst (x := (1 : Int32)) (n := 25) hA dX6_needsOf_24 (by decide) rfl ?_
    refine WO.icmp_ne (tg := 39) (n := 28) hA dX6_needsOf_25 (by decide) rfl (fun _ => ?_) (fun _ => ?_)
    · refine WO.aload_n (n := 29) hA dX6_needsOf_28 0 rfl rfl ?_
      refine WO.getR (j := 11) (p := 5) (n := 32) hA (m_0 hw) rfl fiX6_needsOf_X6 (by decide) rfl fkX6_needsOf_22 dX6_needsOf_29 rfl ?_
      refine WO.iload_n (n := 33) hA dX6_needsOf_32 1 rfl rfl ?_
      refine WO.iald (n := 34) hA (m_5 hw) dX6_needsOf_33 rfl (fun _ => ?_)
      refine WO.iconst (x := (1 : Int32)) (n := 35) hA dX6_needsOf_34 (by decide) rfl ?_
      refine WO.isub (n := 36) hA dX6_needsOf_35 rfl ?_
      refine WO.goto (n := 47) hA dX6_needsOf_36 (by decide) ?_
      exact WO.iret hA dX6_needsOf_47
    · refine WO.aload_n (n := 40) hA dX6_needsOf_39 0 rfl rfl ?_
      refine WO.getR (j := 11) (p := 5) (n := 43) hA (m_0 hw) rfl fiX6_needsOf_X6 (by decide) rfl fkX6_needsOf_22 dX6_needsOf_40 rfl ?_
      refine WO.iload_n (n := 44) hA dX6_needsOf_43 1 rfl rfl ?_
      refine WO.iald (n := 45) hA (m_5 hw) dX6_needsOf_44 rfl (fun _ => ?_)
      refine WO.iconst (x := (2 : Int32)) (n := 46) hA dX6_needsOf_45 (by decide) rfl ?_
      refine WO.idivc (n := 47) hA dX6_needsOf_46 (by decide) rfl ?_
      exact WO.iret hA dX6_needsOf_47
/- X6_soundOf -/
abbrev rmX6_soundOf : Room := { frames := 1, cells := 0, slots := 0, locals := 21 }
theorem mdX6_soundOf : yX6_soundOf.cls = RX6 ∧ yX6_soundOf.cls ≠ "java/lang/invoke/MethodHandle" ∧ yX6_soundOf.cls ≠ "java/lang/invoke/VarHandle" ∧ (parseMethodDescriptor yX6_soundOf.desc).map (fun d => d.parameters.length) = some 1 := by decide +kernel
theorem fkX6_soundOf_114 : Cond.fieldLink RX6 114 (TX6 9).1 (TX6 9).2.1 (TX6 9).2.2.1 ∈ wsX6_soundOf := by decide +kernel
theorem fiX6_soundOf_X6 : ∀ q ∈ u_ws RX6 TX6 30, q ∈ wsX6_soundOf := by decide +kernel
theorem fkX6_soundOf_25 : Cond.fieldLink RX6 25 (TX6 12).1 (TX6 12).2.1 (TX6 12).2.2.1 ∈ wsX6_soundOf := by decide +kernel
noncomputable def f_X6_soundOf (x1 : Int32) (M : Mem) : Option (Int32 × Mem) := bd (f_X6_isOf (M 0 9) x1 M) (fun r2 M1 => if r2 = 0 then (grd x1 4 (some ((M1 6 x1.toNatClampNeg), M1))) else (grd x1 4 (some (((M1 6 x1.toNatClampNeg) / (2 : Int32)), M1))))
set_option maxHeartbeats 4000000 in
set_option maxRecDepth 100000 in
theorem c_X6_soundOf (l : Launch) (w : Cw) (hw : w.2.2.2.2.2 = shM) (x1 : Int32) (M : Mem) : Ok l w eI yX6_soundOf wsX6_soundOf rmX6_soundOf [.ref (w.2.1 0), .int x1] M (f_X6_soundOf x1 M) := by
  refine Ok.of (cc := cX6_soundOf) (nL := 2) (ret := (some .int)) (lv := [(0, .ref (w.2.1 0)), (1, .int x1)]) (by decide) rfl (Nat.le_of_ble_eq_true rfl) rfl (fun v hv hA => ?_)
  subst hv
  have hA : Act v w RX6 wsX6_soundOf cX6_soundOf 2 (some .int) := hA
  unfold f_X6_soundOf
  refine WO.aload_n (n := 1) hA dX6_soundOf_0 0 rfl rfl ?_
  refine WO.getI (j := 9) (n := 4) hA (m_0 hw) rfl fiX6_soundOf_X6 (by decide) rfl fkX6_soundOf_114 dX6_soundOf_1 rfl ?_
  refine WO.iload_n (n := 5) hA dX6_soundOf_4 1 rfl rfl ?_
  refine WO.callSi (As := [.int (M 0 9), .int x1]) (rest := []) (n := 8) hA (c_X6_isOf v.2.1 w hw (M 0 9) x1 M) gX6_soundOf_X6_isOf rfl mdX6_isOf ⟨rfl, rfl, Nat.le_of_ble_eq_true rfl, Nat.le_of_ble_eq_true rfl⟩ rfl rfl (Nat.le_of_ble_eq_true rfl) dX6_soundOf_5 rfl (fun r2 M1 => ?_)
  refine WO.if_eq (tg := 22) (n := 11) hA dX6_soundOf_8 (by decide) rfl (fun _ => ?_) (fun _ => ?_)
  · refine WO.aload_n (n := 23) hA dX6_soundOf_22 0 rfl rfl ?_
    refine WO.getR (j := 12) (p := 6) (n := 26) hA (m_0 hw) rfl fiX6_soundOf_X6 (by decide) rfl fkX6_soundOf_25 dX6_soundOf_23 rfl ?_
    refine WO.iload_n (n := 27) hA dX6_soundOf_26 1 rfl rfl ?_
    refine WO.iald (n := 28) hA (m_6 hw) dX6_soundOf_27 rfl (fun _ => ?_)
    exact WO.iret hA dX6_soundOf_28
  · refine WO.aload_n (n := 12) hA dX6_soundOf_11 0 rfl rfl ?_
    refine WO.getR (j := 12) (p := 6) (n := 15) hA (m_0 hw) rfl fiX6_soundOf_X6 (by decide) rfl fkX6_soundOf_25 dX6_soundOf_12 rfl ?_
    refine WO.iload_n (n := 16) hA dX6_soundOf_15 1 rfl rfl ?_
    refine WO.iald (n := 17) hA (m_6 hw) dX6_soundOf_16 rfl (fun _ => ?_)
    refine WO.iconst (x := (2 : Int32)) (n := 18) hA dX6_soundOf_17 (by decide) rfl ?_
    refine WO.idivc (n := 19) hA dX6_soundOf_18 (by decide) rfl ?_
    refine WO.goto (n := 28) hA dX6_soundOf_19 (by decide) ?_
    exact WO.iret hA dX6_soundOf_28
/- X6_heardFrom -/
abbrev rmX6_heardFrom : Room := { frames := 2, cells := 0, slots := 0, locals := 42 }
theorem mdX6_heardFrom : yX6_heardFrom.cls = RX6 ∧ yX6_heardFrom.cls ≠ "java/lang/invoke/MethodHandle" ∧ yX6_heardFrom.cls ≠ "java/lang/invoke/VarHandle" ∧ (parseMethodDescriptor yX6_heardFrom.desc).map (fun d => d.parameters.length) = some 3 := by decide +kernel
theorem fkX6_heardFrom_105 : Cond.fieldLink RX6 105 (TX6 5).1 (TX6 5).2.1 (TX6 5).2.2.1 ∈ wsX6_heardFrom := by decide +kernel
theorem fiX6_heardFrom_X6 : ∀ q ∈ u_ws RX6 TX6 30, q ∈ wsX6_heardFrom := by decide +kernel
noncomputable def f_X6_heardFrom (x1 : Int32) (x2 : Int32) (x3 : Int32) (M : Mem) : Option (Int32 × Mem) := bd (f_X6_soundOf x2 M) (fun r2 M1 => if x3 ≤ x1 then (some ((r2 - ((M1 0 5) * (x1 - x3))), M1)) else (some ((r2 - ((M1 0 5) * (x3 - x1))), M1)))
set_option maxHeartbeats 4000000 in
set_option maxRecDepth 100000 in
theorem c_X6_heardFrom (l : Launch) (w : Cw) (hw : w.2.2.2.2.2 = shM) (x1 : Int32) (x2 : Int32) (x3 : Int32) (M : Mem) : Ok l w eI yX6_heardFrom wsX6_heardFrom rmX6_heardFrom [.ref (w.2.1 0), .int x1, .int x2, .int x3] M (f_X6_heardFrom x1 x2 x3 M) := by
  refine Ok.of (cc := cX6_heardFrom) (nL := 4) (ret := (some .int)) (lv := [(0, .ref (w.2.1 0)), (1, .int x1), (2, .int x2), (3, .int x3)]) (by decide) rfl (Nat.le_of_ble_eq_true rfl) rfl (fun v hv hA => ?_)
  subst hv
  have hA : Act v w RX6 wsX6_heardFrom cX6_heardFrom 4 (some .int) := hA
  unfold f_X6_heardFrom
  refine WO.aload_n (n := 1) hA dX6_heardFrom_0 0 rfl rfl ?_
  refine WO.iload_n (n := 2) hA dX6_heardFrom_1 2 rfl rfl ?_
  refine WO.callVi (As := [.int x2]) (rest := []) (n := 5) hA (c_X6_soundOf v.2.1 w hw x2 M) gX6_heardFrom_X6_soundOf rfl (m_0 hw) rfl mdX6_soundOf ⟨rfl, rfl, Nat.le_of_ble_eq_true rfl, Nat.le_of_ble_eq_true rfl⟩ rfl rfl (Nat.le_of_ble_eq_true rfl) dX6_heardFrom_2 rfl (fun r2 M1 => ?_)
  refine WO.aload_n (n := 6) hA dX6_heardFrom_5 0 rfl rfl ?_
  refine WO.getI (j := 5) (n := 9) hA (m_0 hw) rfl fiX6_heardFrom_X6 (by decide) rfl fkX6_heardFrom_105 dX6_heardFrom_6 rfl ?_
  refine WO.iload_n (n := 10) hA dX6_heardFrom_9 1 rfl rfl ?_
  refine WO.iload_n (n := 11) hA dX6_heardFrom_10 3 rfl rfl ?_
  refine WO.icmp_ge (tg := 20) (n := 14) hA dX6_heardFrom_11 (by decide) rfl (fun _ => ?_) (fun _ => ?_)
  · refine WO.iload_n (n := 21) hA dX6_heardFrom_20 1 rfl rfl ?_
    refine WO.iload_n (n := 22) hA dX6_heardFrom_21 3 rfl rfl ?_
    refine WO.isub (n := 23) hA dX6_heardFrom_22 rfl ?_
    refine WO.imul (n := 24) hA dX6_heardFrom_23 rfl ?_
    refine WO.isub (n := 25) hA dX6_heardFrom_24 rfl ?_
    exact WO.iret hA dX6_heardFrom_25
  · refine WO.iload_n (n := 15) hA dX6_heardFrom_14 3 rfl rfl ?_
    refine WO.iload_n (n := 16) hA dX6_heardFrom_15 1 rfl rfl ?_
    refine WO.isub (n := 17) hA dX6_heardFrom_16 rfl ?_
    refine WO.goto (n := 23) hA dX6_heardFrom_17 (by decide) ?_
    refine WO.imul (n := 24) hA dX6_heardFrom_23 rfl ?_
    refine WO.isub (n := 25) hA dX6_heardFrom_24 rfl ?_
    exact WO.iret hA dX6_heardFrom_25
/- X6_wakesFrom -/
abbrev rmX6_wakesFrom : Room := { frames := 3, cells := 0, slots := 0, locals := 65 }
theorem mdX6_wakesFrom : yX6_wakesFrom.cls = RX6 ∧ yX6_wakesFrom.cls ≠ "java/lang/invoke/MethodHandle" ∧ yX6_wakesFrom.cls ≠ "java/lang/invoke/VarHandle" ∧ (parseMethodDescriptor yX6_wakesFrom.desc).map (fun d => d.parameters.length) = some 3 := by decide +kernel
noncomputable def f_X6_wakesFrom (x1 : Int32) (x2 : Int32) (x3 : Int32) (M : Mem) : Option (Int32 × Mem) := bd (f_X6_heardFrom x1 x2 x3 M) (fun r2 M1 => bd (f_X6_needsOf x1 M1) (fun r4 M3 => if r2 < r4 then (some ((0 : Int32), M3)) else (if r2 ≤ 0 then (some ((0 : Int32), M3)) else (some ((1 : Int32), M3)))))
set_option maxHeartbeats 4000000 in
set_option maxRecDepth 100000 in
theorem c_X6_wakesFrom (l : Launch) (w : Cw) (hw : w.2.2.2.2.2 = shM) (x1 : Int32) (x2 : Int32) (x3 : Int32) (M : Mem) : Ok l w eI yX6_wakesFrom wsX6_wakesFrom rmX6_wakesFrom [.ref (w.2.1 0), .int x1, .int x2, .int x3] M (f_X6_wakesFrom x1 x2 x3 M) := by
  refine Ok.of (cc := cX6_wakesFrom) (nL := 5) (ret := (some .boolean)) (lv := [(0, .ref (w.2.1 0)), (1, .int x1), (2, .int x2), (3, .int x3)]) (by decide) rfl (Nat.le_of_ble_eq_true rfl) rfl (fun v hv hA => ?_)
  subst hv
  have hA : Act v w RX6 wsX6_wakesFrom cX6_wakesFrom 5 (some .boolean) := hA
  unfold f_X6_wakesFrom
  refine WO.aload_n (n := 1) hA dX6_wakesFrom_0 0 rfl rfl ?_
  refine WO.iload_n (n := 2) hA dX6_wakesFrom_1 1 rfl rfl ?_
  refine WO.iload_n (n := 3) hA dX6_wakesFrom_2 2 rfl rfl ?_
  refine WO.iload_n (n := 4) hA dX6_wakesFrom_3 3 rfl rfl ?_
  refine WO.callVi (As := [.int x1, .int x2, .int x3]) (rest := []) (n := 7) hA (c_X6_heardFrom v.2.1 w hw x1 x2 x3 M) gX6_wakesFrom_X6_heardFrom rfl (m_0 hw) rfl mdX6_heardFrom ⟨rfl, rfl, Nat.le_of_ble_eq_true rfl, Nat.le_of_ble_eq_true rfl⟩ rfl rfl (Nat.le_of_ble_eq_true rfl) dX6_wakesFrom_4 rfl (fun r2 M1 => ?_)
  refine WO.istore (lv' := [(4, .int r2), (0, .ref (w.2.1 0)), (1, .int x1), (2, .int x2), (3, .int x3)]) (n := 9) hA dX6_wakesFrom_7 (by decide) rfl rfl ?_
  refine WO.iload (n := 11) hA dX6_wakesFrom_9 0 rfl rfl ?_
  refine WO.aload_n (n := 12) hA dX6_wakesFrom_11 1 rfl rfl ?_
  refine WO.iload_n (n := 13) hA dX6_wakesFrom_12 2 rfl rfl ?_
  refine WO.callVi (As := [.int x1]) (rest := [.int r2]) (n := 16) hA (c_X6_needsOf v.2.1 w hw x1 M1) gX6_wakesFrom_X6_needsOf rfl (m_0 hw) rfl mdX6_needsOf ⟨rfl, rfl, Nat.le_of_ble_eq_true rfl, Nat.le_of_ble_eq_true rfl⟩ rfl rfl (Nat.le_of_ble_eq_true rfl) dX6_wakesFrom_13 rfl (fun r4 M3 => ?_)
  refine WO.icmp_lt (tg := 28) (n := 19) hA dX6_wakesFrom_16 (by decide) rfl (fun _ => ?_) (fun _ => ?_)
  · refine WO.iconst (x := (0 : Int32)) (n := 29) hA dX6_wakesFrom_28 (by decide) rfl ?_
    exact WO.zretc hA (by decide) dX6_wakesFrom_29
  · refine WO.iload (n := 21) hA dX6_wakesFrom_19 0 rfl rfl ?_
    refine WO.if_le (tg := 28) (n := 24) hA dX6_wakesFrom_21 (by decide) rfl (fun _ => ?_) (fun _ => ?_)
    · refine WO.iconst (x := (0 : Int32)) (n := 29) hA dX6_wakesFrom_28 (by decide) rfl ?_
      exact WO.zretc hA (by decide) dX6_wakesFrom_29
    · refine WO.iconst (x := (1 : Int32)) (n := 25) hA dX6_wakesFrom_24 (by decide) rfl ?_
      refine WO.goto (n := 29) hA dX6_wakesFrom_25 (by decide) ?_
      exact WO.zretc hA (by decide) dX6_wakesFrom_29
/- X6_ownerFrom -/
abbrev rmX6_ownerFrom : Room := { frames := 4, cells := 0, slots := 0, locals := 89 }
theorem mdX6_ownerFrom : yX6_ownerFrom.cls = RX6 ∧ yX6_ownerFrom.cls ≠ "java/lang/invoke/MethodHandle" ∧ yX6_ownerFrom.cls ≠ "java/lang/invoke/VarHandle" ∧ (parseMethodDescriptor yX6_ownerFrom.desc).map (fun d => d.parameters.length) = some 2 := by decide +kernel
theorem fkX6_ownerFrom_68 : Cond.fieldLink RX6 68 (TX6 6).1 (TX6 6).2.1 (TX6 6).2.2.1 ∈ wsX6_ownerFrom := by decide +kernel
theorem fiX6_ownerFrom_X6 : ∀ q ∈ u_ws RX6 TX6 30, q ∈ wsX6_ownerFrom := by decide +kernel
noncomputable def f_X6_ownerFrom_L6 (x1 : Int32) (x2 : Int32) (kx : Int32 → Mem → Option (Int32 × Mem)) : Nat → Int32 → Int32 → Mem → Option (Int32 × Mem)
  | 0, _, _, _ => none
  | n + 1, x3, x4, M => if (M 0 6) ≤ x4 then (kx x3 M) else (bd (f_X6_wakesFrom x4 x1 x2 M) (fun r2 M1 => if r2 = 0 then (f_X6_ownerFrom_L6 x1 x2 kx n x3 (x4 + (1 : Int32)) M1) else (bd (f_X6_heardFrom x4 x1 x2 M1) (fun r4 M3 => bd (f_X6_needsOf x4 M3) (fun r6 M5 => ilt (r4 - r6) (fun x_7 => if x3 = (-9 : Int32) then (f_X6_ownerFrom_L6 x1 x2 kx n x4 (x4 + (1 : Int32)) M5) else (bd (f_X6_heardFrom x3 x1 x2 M5) (fun r9 M8 => bd (f_X6_needsOf x3 M8) (fun r11 M10 => if x_7 ≤ (r9 - r11) then (f_X6_ownerFrom_L6 x1 x2 kx n x3 (x4 + (1 : Int32)) M10) else (f_X6_ownerFrom_L6 x1 x2 kx n x4 (x4 + (1 : Int32)) M10))))))))))
noncomputable def f_X6_ownerFrom (x1 : Int32) (x2 : Int32) (M : Mem) : Option (Int32 × Mem) := f_X6_ownerFrom_L6 x1 x2 (fun e12 M13 => some (e12, M13)) FU (-9 : Int32) (0 : Int32) M
set_option maxHeartbeats 4000000 in
set_option maxRecDepth 100000 in
theorem w_X6_ownerFrom_L6 {v : Av} {w : Cw} (hw : w.2.2.2.2.2 = shM) (hA : Act v w RX6 wsX6_ownerFrom cX6_ownerFrom 6 (some .int)) (x1 : Int32) (x2 : Int32) (kx : Int32 → Mem → Option (Int32 × Mem)) (hk : ∀ (y3 : Int32) (M : Mem), WO v w rmX6_ownerFrom 6 eI (kx y3 M) 80 [(3, .int y3)] [] M) : ∀ (n : Nat) (x3 : Int32) (x4 : Int32) (M : Mem), WO v w rmX6_ownerFrom 6 eI (f_X6_ownerFrom_L6 x1 x2 kx n x3 x4 M) 6 [(0, .ref (w.2.1 0)), (1, .int x1), (2, .int x2), (3, .int x3), (4, .int x4)] [] M := by
  intro n
  induction n with
  | zero => intro x3 x4 M; exact WO.nothing
  | succ n ih =>
    intro x3 x4 M
    rw [f_X6_ownerFrom_L6]
    refine WO.iload (n := 8) hA dX6_ownerFrom_6 4 rfl rfl ?_
    refine WO.aload_n (n := 9) hA dX6_ownerFrom_8 0 rfl rfl ?_
    refine WO.getI (j := 6) (n := 12) hA (m_0 hw) rfl fiX6_ownerFrom_X6 (by decide) rfl fkX6_ownerFrom_68 dX6_ownerFrom_9 rfl ?_
    refine WO.icmp_ge (tg := 80) (n := 15) hA dX6_ownerFrom_12 (by decide) rfl (fun _ => ?_) (fun _ => ?_)
    · refine WO.sub (lv' := [(3, .int x3)]) [3] rfl ?_
      exact hk x3 M
    · refine WO.aload_n (n := 16) hA dX6_ownerFrom_15 0 rfl rfl ?_
      refine WO.iload (n := 18) hA dX6_ownerFrom_16 4 rfl rfl ?_
      refine WO.iload_n (n := 19) hA dX6_ownerFrom_18 1 rfl rfl ?_
      refine WO.iload_n (n := 20) hA dX6_ownerFrom_19 2 rfl rfl ?_
      refine WO.callVi (As := [.int x4, .int x1, .int x2]) (rest := []) (n := 23) hA (c_X6_wakesFrom v.2.1 w hw x4 x1 x2 M) gX6_ownerFrom_X6_wakesFrom rfl (m_0 hw) rfl mdX6_wakesFrom ⟨rfl, rfl, Nat.le_of_ble_eq_true rfl, Nat.le_of_ble_eq_true rfl⟩ rfl rfl (Nat.le_of_ble_eq_true rfl) dX6_ownerFrom_20 rfl (fun r2 M1 => ?_)
      refine WO.if_eq (tg := 74) (n := 26) hA dX6_ownerFrom_23 (by decide) rfl (fun _ => ?_) (fun _ => ?_)
      · refine WO.iinc (y := (1 : Int32)) (lv' := [(4, .int (x4 + (1 : Int32))), (0, .ref (w.2.1 0)), (1, .int x1), (2, .int x2), (3, .int x3)]) (n := 77) hA dX6_ownerFrom_74 4 rfl (by decide) (by decide) rfl rfl ?_
        refine WO.goto (n := 6) hA dX6_ownerFrom_77 (by decide) ?_
        refine WO.sub (lv' := [(0, .ref (w.2.1 0)), (1, .int x1), (2, .int x2), (3, .int x3), (4, .int (x4 + (1 : Int32)))]) [1, 2, 3, 4, 0] rfl ?_
        exact ih x3 (x4 + (1 : Int32)) M1
      · refine WO.aload_n (n := 27) hA dX6_ownerFrom_26 0 rfl rfl ?_
        refine WO.iload (n := 29) hA dX6_ownerFrom_27 4 rfl rfl ?_
        refine WO.iload_n (n := 30) hA dX6_ownerFrom_29 1 rfl rfl ?_
        refine WO.iload_n (n := 31) hA dX6_ownerFrom_30 2 rfl rfl ?_
        refine WO.callVi (As := [.int x4, .int x1, .int x2]) (rest := []) (n := 34) hA (c_X6_heardFrom v.2.1 w hw x4 x1 x2 M1) gX6_ownerFrom_X6_heardFrom rfl (m_0 hw) rfl mdX6_heardFrom ⟨rfl, rfl, Nat.le_of_ble_eq_true rfl, Nat.le_of_ble_eq_true rfl⟩ rfl rfl (Nat.le_of_ble_eq_true rfl) dX6_ownerFrom_31 rfl (fun r4 M3 => ?_)
        refine WO.aload_n (n := 35) hA dX6_ownerFrom_34 0 rfl rfl ?_
        refine WO.iload (n := 37) hA dX6_ownerFrom_35 4 rfl rfl ?_
        refine WO.callVi (As := [.int x4]) (rest := [.int r4]) (n := 40) hA (c_X6_needsOf v.2.1 w hw x4 M3) gX6_ownerFrom_X6_needsOf rfl (m_0 hw) rfl mdX6_needsOf ⟨rfl, rfl, Nat.le_of_ble_eq_true rfl, Nat.le_of_ble_eq_true rfl⟩ rfl rfl (Nat.le_of_ble_eq_true rfl) dX6_ownerFrom_37 rfl (fun r6 M5 => ?_)
        refine WO.isub (n := 41) hA dX6_ownerFrom_40 rfl ?_
        refine WO.top (fun x_7 => ?_)
        refine WO.istore (lv' := [(5, .int x_7), (0, .ref (w.2.1 0)), (1, .int x1), (2, .int x2), (3, .int x3), (4, .int x4)]) (n := 43) hA dX6_ownerFrom_41 (by decide) rfl rfl ?_
        refine WO.iload_n (n := 44) hA dX6_ownerFrom_43 4 rfl rfl ?_
        refine WO.bipush (x := (-9 : Int32)) (n := 46) hA dX6_ownerFrom_44 (by decide) rfl ?_
        refine WO.icmp_eq (tg := 67) (n := 49) hA dX6_ownerFrom_46 (by decide) rfl (fun _ => ?_) (fun _ => ?_)
        · refine WO.iload (n := 69) hA dX6_ownerFrom_67 5 rfl rfl ?_
          refine WO.goto (n := 73) hA dX6_ownerFrom_69 (by decide) ?_
          refine WO.istore_n (i := 3) (lv' := [(3, .int x4), (5, .int x_7), (0, .ref (w.2.1 0)), (1, .int x1), (2, .int x2), (4, .int x4)]) (n := 74) hA dX6_ownerFrom_73 rfl (by decide) rfl rfl ?_
          refine WO.iinc (y := (1 : Int32)) (lv' := [(4, .int (x4 + (1 : Int32))), (3, .int x4), (5, .int x_7), (0, .ref (w.2.1 0)), (1, .int x1), (2, .int x2)]) (n := 77) hA dX6_ownerFrom_74 5 rfl (by decide) (by decide) rfl rfl ?_
          refine WO.goto (n := 6) hA dX6_ownerFrom_77 (by decide) ?_
          refine WO.sub (lv' := [(0, .ref (w.2.1 0)), (1, .int x1), (2, .int x2), (3, .int x4), (4, .int (x4 + (1 : Int32)))]) [3, 4, 5, 1, 0] rfl ?_
          exact ih x4 (x4 + (1 : Int32)) M5
        · refine WO.iload (n := 51) hA dX6_ownerFrom_49 0 rfl rfl ?_
          refine WO.aload_n (n := 52) hA dX6_ownerFrom_51 1 rfl rfl ?_
          refine WO.iload_n (n := 53) hA dX6_ownerFrom_52 4 rfl rfl ?_
          refine WO.iload_n (n := 54) hA dX6_ownerFrom_53 2 rfl rfl ?_
          refine WO.iload_n (n := 55) hA dX6_ownerFrom_54 3 rfl rfl ?_
          refine WO.callVi (As := [.int x3, .int x1, .int x2]) (rest := [.int x_7]) (n := 58) hA (c_X6_heardFrom v.2.1 w hw x3 x1 x2 M5) gX6_ownerFrom_X6_heardFrom rfl (m_0 hw) rfl mdX6_heardFrom ⟨rfl, rfl, Nat.le_of_ble_eq_true rfl, Nat.le_of_ble_eq_true rfl⟩ rfl rfl (Nat.le_of_ble_eq_true rfl) dX6_ownerFrom_55 rfl (fun r9 M8 => ?_)
          refine WO.aload_n (n := 59) hA dX6_ownerFrom_58 1 rfl rfl ?_
          refine WO.iload_n (n := 60) hA dX6_ownerFrom_59 4 rfl rfl ?_
          refine WO.callVi (As := [.int x3]) (rest := [.int r9, .int x_7]) (n := 63) hA (c_X6_needsOf v.2.1 w hw x3 M8) gX6_ownerFrom_X6_needsOf rfl (m_0 hw) rfl mdX6_needsOf ⟨rfl, rfl, Nat.le_of_ble_eq_true rfl, Nat.le_of_ble_eq_true rfl⟩ rfl rfl (Nat.le_of_ble_eq_true rfl) dX6_ownerFrom_60 rfl (fun r11 M10 => ?_)
          refine WO.isub (n := 64) hA dX6_ownerFrom_63 rfl ?_
          refine WO.icmp_le (tg := 72) (n := 67) hA dX6_ownerFrom_64 (by decide) rfl (fun _ => ?_) (fun _ => ?_)
          · refine WO.iload_n (n := 73) hA dX6_ownerFrom_72 4 rfl rfl ?_
            refine WO.istore_n (i := 3) (lv' := [(3, .int x3), (5, .int x_7), (0, .ref (w.2.1 0)), (1, .int x1), (2, .int x2), (4, .int x4)]) (n := 74) hA dX6_ownerFrom_73 rfl (by decide) rfl rfl ?_
            refine WO.iinc (y := (1 : Int32)) (lv' := [(4, .int (x4 + (1 : Int32))), (3, .int x3), (5, .int x_7), (0, .ref (w.2.1 0)), (1, .int x1), (2, .int x2)]) (n := 77) hA dX6_ownerFrom_74 5 rfl (by decide) (by decide) rfl rfl ?_
            refine WO.goto (n := 6) hA dX6_ownerFrom_77 (by decide) ?_
            refine WO.sub (lv' := [(0, .ref (w.2.1 0)), (1, .int x1), (2, .int x2), (3, .int x3), (4, .int (x4 + (1 : Int32)))]) [3, 4, 5, 1, 0] rfl ?_
            exact ih x3 (x4 + (1 : Int32)) M10
          · refine WO.iload (n := 69) hA dX6_ownerFrom_67 5 rfl rfl ?_
            refine WO.goto (n := 73) hA dX6_ownerFrom_69 (by decide) ?_
            refine WO.istore_n (i := 3) (lv' := [(3, .int x4), (5, .int x_7), (0, .ref (w.2.1 0)), (1, .int x1), (2, .int x2), (4, .int x4)]) (n := 74) hA dX6_ownerFrom_73 rfl (by decide) rfl rfl ?_
            refine WO.iinc (y := (1 : Int32)) (lv' := [(4, .int (x4 + (1 : Int32))), (3, .int x4), (5, .int x_7), (0, .ref (w.2.1 0)), (1, .int x1), (2, .int x2)]) (n := 77) hA dX6_ownerFrom_74 5 rfl (by decide) (by decide) rfl rfl ?_
            refine WO.goto (n := 6) hA dX6_ownerFrom_77 (by decide) ?_
            refine WO.sub (lv' := [(0, .ref (w.2.1 0)), (1, .int x1), (2, .int x2), (3, .int x4), (4, .int (x4 + (1 : Int32)))]) [3, 4, 5, 1, 0] rfl ?_
            exact ih x4 (x4 + (1 : Int32)) M10
set_option maxHeartbeats 4000000 in
set_option maxRecDepth 100000 in
theorem c_X6_ownerFrom (l : Launch) (w : Cw) (hw : w.2.2.2.2.2 = shM) (x1 : Int32) (x2 : Int32) (M : Mem) : Ok l w eI yX6_ownerFrom wsX6_ownerFrom rmX6_ownerFrom [.ref (w.2.1 0), .int x1, .int x2] M (f_X6_ownerFrom x1 x2 M) := by
  refine Ok.of (cc := cX6_ownerFrom) (nL := 6) (ret := (some .int)) (lv := [(0, .ref (w.2.1 0)), (1, .int x1), (2, .int x2)]) (by decide) rfl (Nat.le_of_ble_eq_true rfl) rfl (fun v hv hA => ?_)
  subst hv
  have hA : Act v w RX6 wsX6_ownerFrom cX6_ownerFrom 6 (some .int) := hA
  unfold f_X6_ownerFrom
  refine WO.bipush (x := (-9 : Int32)) (n := 2) hA dX6_ownerFrom_0 (by decide) rfl ?_
  refine WO.istore_n (i := 3) (lv' := [(3, .int (-9 : Int32)), (0, .ref (w.2.1 0)), (1, .int x1), (2, .int x2)]) (n := 3) hA dX6_ownerFrom_2 rfl (by decide) rfl rfl ?_
  refine WO.iconst (x := (0 : Int32)) (n := 4) hA dX6_ownerFrom_3 (by decide) rfl ?_
  refine WO.istore (lv' := [(4, .int (0 : Int32)), (3, .int (-9 : Int32)), (0, .ref (w.2.1 0)), (1, .int x1), (2, .int x2)]) (n := 6) hA dX6_ownerFrom_4 (by decide) rfl rfl ?_
  refine WO.sub (lv' := [(0, .ref (w.2.1 0)), (1, .int x1), (2, .int x2), (3, .int (-9 : Int32)), (4, .int (0 : Int32))]) [2, 3, 4, 1, 0] rfl ?_
  refine w_X6_ownerFrom_L6 hw hA x1 x2 _ (fun e12 M13 => ?_) _ _ _ _
  refine WO.iload_n (n := 81) hA dX6_ownerFrom_80 0 rfl rfl ?_
  exact WO.iret hA dX6_ownerFrom_81
/- X6_wakersOf -/
abbrev rmX6_wakersOf : Room := { frames := 4, cells := 0, slots := 0, locals := 89 }
theorem mdX6_wakersOf : yX6_wakersOf.cls = RX6 ∧ yX6_wakersOf.cls ≠ "java/lang/invoke/MethodHandle" ∧ yX6_wakersOf.cls ≠ "java/lang/invoke/VarHandle" ∧ (parseMethodDescriptor yX6_wakersOf.desc).map (fun d => d.parameters.length) = some 2 := by decide +kernel
theorem fkX6_wakersOf_68 : Cond.fieldLink RX6 68 (TX6 6).1 (TX6 6).2.1 (TX6 6).2.2.1 ∈ wsX6_wakersOf := by decide +kernel
theorem fiX6_wakersOf_X6 : ∀ q ∈ u_ws RX6 TX6 30, q ∈ wsX6_wakersOf := by decide +kernel
noncomputable def f_X6_wakersOf_L5 (x1 : Int32) (x2 : Int32) (kx : Int32 → Mem → Option (Int32 × Mem)) : Nat → Int32 → Int32 → Mem → Option (Int32 × Mem)
  | 0, _, _, _ => none
  | n + 1, x3, x4, M => if (M 0 6) ≤ x4 then (kx x3 M) else (bd (f_X6_wakesFrom x4 x1 x2 M) (fun r2 M1 => if r2 = 0 then (ilt (x3 ||| (0 : Int32)) (fun x_3 => f_X6_wakersOf_L5 x1 x2 kx n x_3 (x4 + (1 : Int32)) M1)) else (ilt (x3 ||| ((1 : Int32) <<< (x4 &&& 31))) (fun x_4 => f_X6_wakersOf_L5 x1 x2 kx n x_4 (x4 + (1 : Int32)) M1))))
noncomputable def f_X6_wakersOf (x1 : Int32) (x2 : Int32) (M : Mem) : Option (Int32 × Mem) := f_X6_wakersOf_L5 x1 x2 (fun e5 M6 => some (e5, M6)) FU (0 : Int32) (0 : Int32) M
set_option maxHeartbeats 4000000 in
set_option maxRecDepth 100000 in
theorem w_X6_wakersOf_L5 {v : Av} {w : Cw} (hw : w.2.2.2.2.2 = shM) (hA : Act v w RX6 wsX6_wakersOf cX6_wakersOf 5 (some .int)) (x1 : Int32) (x2 : Int32) (kx : Int32 → Mem → Option (Int32 × Mem)) (hk : ∀ (y3 : Int32) (M : Mem), WO v w rmX6_wakersOf 5 eI (kx y3 M) 42 [(3, .int y3)] [] M) : ∀ (n : Nat) (x3 : Int32) (x4 : Int32) (M : Mem), WO v w rmX6_wakersOf 5 eI (f_X6_wakersOf_L5 x1 x2 kx n x3 x4 M) 5 [(0, .ref (w.2.1 0)), (1, .int x1), (2, .int x2), (3, .int x3), (4, .int x4)] [] M := by
  intro n
  induction n with
  | zero => intro x3 x4 M; exact WO.nothing
  | succ n ih =>
    intro x3 x4 M
    rw [f_X6_wakersOf_L5]
    refine WO.iload (n := 7) hA dX6_wakersOf_5 4 rfl rfl ?_
    refine WO.aload_n (n := 8) hA dX6_wakersOf_7 0 rfl rfl ?_
    refine WO.getI (j := 6) (n := 11) hA (m_0 hw) rfl fiX6_wakersOf_X6 (by decide) rfl fkX6_wakersOf_68 dX6_wakersOf_8 rfl ?_
    refine WO.icmp_ge (tg := 42) (n := 14) hA dX6_wakersOf_11 (by decide) rfl (fun _ => ?_) (fun _ => ?_)
    · refine WO.sub (lv' := [(3, .int x3)]) [3] rfl ?_
      exact hk x3 M
    · refine WO.iload_n (n := 15) hA dX6_wakersOf_14 3 rfl rfl ?_
      refine WO.aload_n (n := 16) hA dX6_wakersOf_15 0 rfl rfl ?_
      refine WO.iload (n := 18) hA dX6_wakersOf_16 4 rfl rfl ?_
      refine WO.iload_n (n := 19) hA dX6_wakersOf_18 1 rfl rfl ?_
      refine WO.iload_n (n := 20) hA dX6_wakersOf_19 2 rfl rfl ?_
      refine WO.callVi (As := [.int x4, .int x1, .int x2]) (rest := [.int x3]) (n := 23) hA (c_X6_wakesFrom v.2.1 w hw x4 x1 x2 M) gX6_wakersOf_X6_wakesFrom rfl (m_0 hw) rfl mdX6_wakesFrom ⟨rfl, rfl, Nat.le_of_ble_eq_true rfl, Nat.le_of_ble_eq_true rfl⟩ rfl rfl (Nat.le_of_ble_eq_true rfl) dX6_wakersOf_20 rfl (fun r2 M1 => ?_)
      refine WO.if_eq (tg := 33) (n := 26) hA dX6_wakersOf_23 (by decide) rfl (fun _ => ?_) (fun _ => ?_)
      · refine WO.iconst (x := (0 : Int32)) (n := 34) hA dX6_wakersOf_33 (by decide) rfl ?_
        refine WO.ior (n := 35) hA dX6_wakersOf_34 rfl ?_
        refine WO.top (fun x_3 => ?_)
        refine WO.istore_n (i := 3) (lv' := [(3, .int x_3), (0, .ref (w.2.1 0)), (1, .int x1), (2, .int x2), (4, .int x4)]) (n := 36) hA dX6_wakersOf_35 rfl (by decide) rfl rfl ?_
        refine WO.iinc (y := (1 : Int32)) (lv' := [(4, .int (x4 + (1 : Int32))), (3, .int x_3), (0, .ref (w.2.1 0)), (1, .int x1), (2, .int x2)]) (n := 39) hA dX6_wakersOf_36 4 rfl (by decide) (by decide) rfl rfl ?_
        refine WO.goto (n := 5) hA dX6_wakersOf_39 (by decide) ?_
        refine WO.sub (lv' := [(0, .ref (w.2.1 0)), (1, .int x1), (2, .int x2), (3, .int x_3), (4, .int (x4 + (1 : Int32)))]) [2, 3, 4, 1, 0] rfl ?_
        exact ih x_3 (x4 + (1 : Int32)) M1
      · refine WO.iconst (x := (1 : Int32)) (n := 27) hA dX6_wakersOf_26 (by decide) rfl ?_
        refine WO.iload (n := 29) hA dX6_wakersOf_27 4 rfl rfl ?_
        refine WO.ishl (n := 30) hA dX6_wakersOf_29 rfl ?_
        refine WO.goto (n := 34) hA dX6_wakersOf_30 (by decide) ?_
        refine WO.ior (n := 35) hA dX6_wakersOf_34 rfl ?_
        refine WO.top (fun x_4 => ?_)
        refine WO.istore_n (i := 3) (lv' := [(3, .int x_4), (0, .ref (w.2.1 0)), (1, .int x1), (2, .int x2), (4, .int x4)]) (n := 36) hA dX6_wakersOf_35 rfl (by decide) rfl rfl ?_
        refine WO.iinc (y := (1 : Int32)) (lv' := [(4, .int (x4 + (1 : Int32))), (3, .int x_4), (0, .ref (w.2.1 0)), (1, .int x1), (2, .int x2)]) (n := 39) hA dX6_wakersOf_36 4 rfl (by decide) (by decide) rfl rfl ?_
        refine WO.goto (n := 5) hA dX6_wakersOf_39 (by decide) ?_
        refine WO.sub (lv' := [(0, .ref (w.2.1 0)), (1, .int x1), (2, .int x2), (3, .int x_4), (4, .int (x4 + (1 : Int32)))]) [2, 3, 4, 1, 0] rfl ?_
        exact ih x_4 (x4 + (1 : Int32)) M1
set_option maxHeartbeats 4000000 in
set_option maxRecDepth 100000 in
theorem c_X6_wakersOf (l : Launch) (w : Cw) (hw : w.2.2.2.2.2 = shM) (x1 : Int32) (x2 : Int32) (M : Mem) : Ok l w eI yX6_wakersOf wsX6_wakersOf rmX6_wakersOf [.ref (w.2.1 0), .int x1, .int x2] M (f_X6_wakersOf x1 x2 M) := by
  refine Ok.of (cc := cX6_wakersOf) (nL := 5) (ret := (some .int)) (lv := [(0, .ref (w.2.1 0)), (1, .int x1), (2, .int x2)]) (by decide) rfl (Nat.le_of_ble_eq_true rfl) rfl (fun v hv hA => ?_)
  subst hv
  have hA : Act v w RX6 wsX6_wakersOf cX6_wakersOf 5 (some .int) := hA
  unfold f_X6_wakersOf
  refine WO.iconst (x := (0 : Int32)) (n := 1) hA dX6_wakersOf_0 (by decide) rfl ?_
  refine WO.istore_n (i := 3) (lv' := [(3, .int (0 : Int32)), (0, .ref (w.2.1 0)), (1, .int x1), (2, .int x2)]) (n := 2) hA dX6_wakersOf_1 rfl (by decide) rfl rfl ?_
  refine WO.iconst (x := (0 : Int32)) (n := 3) hA dX6_wakersOf_2 (by decide) rfl ?_
  refine WO.istore (lv' := [(4, .int (0 : Int32)), (3, .int (0 : Int32)), (0, .ref (w.2.1 0)), (1, .int x1), (2, .int x2)]) (n := 5) hA dX6_wakersOf_3 (by decide) rfl rfl ?_
  refine WO.sub (lv' := [(0, .ref (w.2.1 0)), (1, .int x1), (2, .int x2), (3, .int (0 : Int32)), (4, .int (0 : Int32))]) [2, 3, 4, 1, 0] rfl ?_
  refine w_X6_wakersOf_L5 hw hA x1 x2 _ (fun e5 M6 => ?_) _ _ _ _
  refine WO.iload_n (n := 43) hA dX6_wakersOf_42 0 rfl rfl ?_
  exact WO.iret hA dX6_wakersOf_43
