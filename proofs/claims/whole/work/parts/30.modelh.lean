/- X6_copy -/
abbrev rmX6_copy : Room := { frames := 2, cells := 0, slots := 0, locals := 42 }
theorem mdX6_copy : yX6_copy.cls = RX6 ∧ yX6_copy.cls ≠ "java/lang/invoke/MethodHandle" ∧ yX6_copy.cls ≠ "java/lang/invoke/VarHandle" ∧ (parseMethodDescriptor yX6_copy.desc).map (fun d => d.parameters.length) = some 5 := by decide +kernel
theorem fkX6_copy_58 : Cond.fieldLink RX6 58 (TX6 0).1 (TX6 0).2.1 (TX6 0).2.2.1 ∈ wsX6_copy := by decide +kernel
theorem fiX6_copy_X6 : ∀ q ∈ u_ws RX6 TX6 30, q ∈ wsX6_copy := by decide +kernel
theorem fkX6_copy_9 : Cond.fieldLink RX6 9 (TX6 2).1 (TX6 2).2.1 (TX6 2).2.2.1 ∈ wsX6_copy := by decide +kernel
theorem fkX6_copy_13 : Cond.fieldLink RX6 13 (TX6 3).1 (TX6 3).2.1 (TX6 3).2.2.1 ∈ wsX6_copy := by decide +kernel
theorem fkX6_copy_16 : Cond.fieldLink RX6 16 (TX6 4).1 (TX6 4).2.1 (TX6 4).2.2.1 ∈ wsX6_copy := by decide +kernel
noncomputable def f_X6_copy_L166 (x1 : Int32) (x2 : Int32) (x3 : Int32) (x4 : Int32) (x5 : Int32) (x7 : Int32) (kx : Mem → Option (Int32 × Mem)) : Nat → Int32 → Mem → Option (Int32 × Mem)
  | 0, _, _ => none
  | n + 1, x8, M => if x5 ≤ x8 then (kx  M) else (if x7 = 0 then (grd ((((60 : Int32) * x1) + x2) + x8) 240 (grd ((((60 : Int32) * x3) + x4) + x8) 240 (mlt (mu M 3 ((((60 : Int32) * x3) + x4) + x8).toNatClampNeg (M 3 ((((60 : Int32) * x1) + x2) + x8).toNatClampNeg)) (fun M14 => f_X6_copy_L166 x1 x2 x3 x4 x5 x7 kx n (x8 + (1 : Int32)) M14)))) else (ilt ((x5 - (1 : Int32)) - x8) (fun x_15 => grd ((((60 : Int32) * x1) + x2) + x_15) 240 (grd ((((60 : Int32) * x3) + x4) + x_15) 240 (mlt (mu M 3 ((((60 : Int32) * x3) + x4) + x_15).toNatClampNeg (M 3 ((((60 : Int32) * x1) + x2) + x_15).toNatClampNeg)) (fun M16 => f_X6_copy_L166 x1 x2 x3 x4 x5 x7 kx n (x8 + (1 : Int32)) M16))))))
noncomputable def f_X6_copy (x1 : Int32) (x2 : Int32) (x3 : Int32) (x4 : Int32) (x5 : Int32) (M : Mem) : Option (Int32 × Mem) := mlt (mu M 0 0 (0 : Int32)) (fun M1 => bd (f_X6_isSheet x1 M1) (fun r3 M2 => if r3 = 0 then (some ((-1 : Int32), M2)) else (bd (f_X6_isSheet x3 M2) (fun r5 M4 => if r5 = 0 then (some ((-1 : Int32), M4)) else (grd x1 4 (if (M4 1 x1.toNatClampNeg) = (-9 : Int32) then (bd (f_X6_fails (1 : Int32) M4) (fun r7 M6 => some (r7, M6))) else (grd x3 4 (if (M4 1 x3.toNatClampNeg) = (-9 : Int32) then (bd (f_X6_fails (1 : Int32) M4) (fun r9 M8 => some (r9, M8))) else (grd x1 4 (grd x3 4 (if (M4 1 x1.toNatClampNeg) = (M4 1 x3.toNatClampNeg) then (if x2 < 0 then (if (0 : Int32) = 0 then (bd (f_X6_fails (3 : Int32) M4) (fun r11 M10 => some (r11, M10))) else (grd x1 4 (if ((M4 2 x1.toNatClampNeg) - x2) < x5 then (bd (f_X6_fails (3 : Int32) M4) (fun r13 M12 => some (r13, M12))) else (grd x3 4 (if x5 ≤ ((M4 2 x3.toNatClampNeg) - x4) then (if x4 ≤ x2 then (f_X6_copy_L166 x1 x2 x3 x4 x5 (0 : Int32) (fun  M17 => some (x5, M17)) FU (0 : Int32) M4) else (f_X6_copy_L166 x1 x2 x3 x4 x5 (1 : Int32) (fun  M18 => some (x5, M18)) FU (0 : Int32) M4)) else (bd (f_X6_fails (3 : Int32) M4) (fun r20 M19 => some (r20, M19)))))))) else (if x4 < 0 then (if (0 : Int32) = 0 then (bd (f_X6_fails (3 : Int32) M4) (fun r22 M21 => some (r22, M21))) else (grd x1 4 (if ((M4 2 x1.toNatClampNeg) - x2) < x5 then (bd (f_X6_fails (3 : Int32) M4) (fun r24 M23 => some (r24, M23))) else (grd x3 4 (if x5 ≤ ((M4 2 x3.toNatClampNeg) - x4) then (if x4 ≤ x2 then (f_X6_copy_L166 x1 x2 x3 x4 x5 (0 : Int32) (fun  M25 => some (x5, M25)) FU (0 : Int32) M4) else (f_X6_copy_L166 x1 x2 x3 x4 x5 (1 : Int32) (fun  M26 => some (x5, M26)) FU (0 : Int32) M4)) else (bd (f_X6_fails (3 : Int32) M4) (fun r28 M27 => some (r28, M27)))))))) else (if x5 < 0 then (if (0 : Int32) = 0 then (bd (f_X6_fails (3 : Int32) M4) (fun r30 M29 => some (r30, M29))) else (grd x1 4 (if ((M4 2 x1.toNatClampNeg) - x2) < x5 then (bd (f_X6_fails (3 : Int32) M4) (fun r32 M31 => some (r32, M31))) else (grd x3 4 (if x5 ≤ ((M4 2 x3.toNatClampNeg) - x4) then (if x4 ≤ x2 then (f_X6_copy_L166 x1 x2 x3 x4 x5 (0 : Int32) (fun  M33 => some (x5, M33)) FU (0 : Int32) M4) else (f_X6_copy_L166 x1 x2 x3 x4 x5 (1 : Int32) (fun  M34 => some (x5, M34)) FU (0 : Int32) M4)) else (bd (f_X6_fails (3 : Int32) M4) (fun r36 M35 => some (r36, M35)))))))) else (grd x1 4 (if (M4 2 x1.toNatClampNeg) < x2 then (if (0 : Int32) = 0 then (bd (f_X6_fails (3 : Int32) M4) (fun r38 M37 => some (r38, M37))) else (grd x1 4 (if ((M4 2 x1.toNatClampNeg) - x2) < x5 then (bd (f_X6_fails (3 : Int32) M4) (fun r40 M39 => some (r40, M39))) else (grd x3 4 (if x5 ≤ ((M4 2 x3.toNatClampNeg) - x4) then (if x4 ≤ x2 then (f_X6_copy_L166 x1 x2 x3 x4 x5 (0 : Int32) (fun  M41 => some (x5, M41)) FU (0 : Int32) M4) else (f_X6_copy_L166 x1 x2 x3 x4 x5 (1 : Int32) (fun  M42 => some (x5, M42)) FU (0 : Int32) M4)) else (bd (f_X6_fails (3 : Int32) M4) (fun r44 M43 => some (r44, M43)))))))) else (grd x3 4 (if (M4 2 x3.toNatClampNeg) < x4 then (if (0 : Int32) = 0 then (bd (f_X6_fails (3 : Int32) M4) (fun r46 M45 => some (r46, M45))) else (grd x1 4 (if ((M4 2 x1.toNatClampNeg) - x2) < x5 then (bd (f_X6_fails (3 : Int32) M4) (fun r48 M47 => some (r48, M47))) else (grd x3 4 (if x5 ≤ ((M4 2 x3.toNatClampNeg) - x4) then (if x4 ≤ x2 then (f_X6_copy_L166 x1 x2 x3 x4 x5 (0 : Int32) (fun  M49 => some (x5, M49)) FU (0 : Int32) M4) else (f_X6_copy_L166 x1 x2 x3 x4 x5 (1 : Int32) (fun  M50 => some (x5, M50)) FU (0 : Int32) M4)) else (bd (f_X6_fails (3 : Int32) M4) (fun r52 M51 => some (r52, M51)))))))) else (if (1 : Int32) = 0 then (bd (f_X6_fails (3 : Int32) M4) (fun r54 M53 => some (r54, M53))) else (grd x1 4 (if ((M4 2 x1.toNatClampNeg) - x2) < x5 then (bd (f_X6_fails (3 : Int32) M4) (fun r56 M55 => some (r56, M55))) else (grd x3 4 (if x5 ≤ ((M4 2 x3.toNatClampNeg) - x4) then (if x4 ≤ x2 then (f_X6_copy_L166 x1 x2 x3 x4 x5 (0 : Int32) (fun  M57 => some (x5, M57)) FU (0 : Int32) M4) else (f_X6_copy_L166 x1 x2 x3 x4 x5 (1 : Int32) (fun  M58 => some (x5, M58)) FU (0 : Int32) M4)) else (bd (f_X6_fails (3 : Int32) M4) (fun r60 M59 => some (r60, M59))))))))))))))) else (bd (f_X6_fails (2 : Int32) M4) (fun r62 M61 => some (r62, M61))))))))))))))
set_option maxHeartbeats 4000000 in
set_option maxRecDepth 100000 in
theorem w_X6_copy_L166 {v : Av} {w : Cw} (hw : w.2.2.2.2.2 = shM) (hA : Act v w RX6 wsX6_copy cX6_copy 10 (some .int)) (x1 : Int32) (x2 : Int32) (x3 : Int32) (x4 : Int32) (x5 : Int32) (x7 : Int32) (kx : Mem → Option (Int32 × Mem)) (hk : ∀ (M : Mem), WO v w rmX6_copy 10 eI (kx M) 227 [(5, .int x5)] [] M) : ∀ (n : Nat) (x8 : Int32) (M : Mem), WO v w rmX6_copy 10 eI (f_X6_copy_L166 x1 x2 x3 x4 x5 x7 kx n x8 M) 166 [(0, .ref (w.2.1 0)), (1, .int x1), (2, .int x2), (3, .int x3), (4, .int x4), (5, .int x5), (7, .int x7), (8, .int x8)] [] M := by
  intro n
  induction n with
  | zero => intro x8 M; exact WO.nothing
  | succ n ih =>
    intro x8 M
    rw [f_X6_copy_L166]
    refine WO.iload (n := 168) hA dX6_copy_166 7 rfl rfl ?_
    refine WO.iload (n := 170) hA dX6_copy_168 5 rfl rfl ?_
    refine WO.icmp_ge (tg := 227) (n := 173) hA dX6_copy_170 (by decide) rfl (fun _ => ?_) (fun _ => ?_)
    · refine WO.sub (lv' := [(5, .int x5)]) [5] rfl ?_
      exact hk  M
    · refine WO.iload (n := 175) hA dX6_copy_173 6 rfl rfl ?_
      refine WO.if_eq (tg := 188) (n := 178) hA dX6_copy_175 (by decide) rfl (fun _ => ?_) (fun _ => ?_)
      · refine WO.iload (n := 190) hA dX6_copy_188 7 rfl rfl ?_
        refine WO.istore (lv' := [(9, .int x8), (0, .ref (w.2.1 0)), (1, .int x1), (2, .int x2), (3, .int x3), (4, .int x4), (5, .int x5), (7, .int x7), (8, .int x8)]) (n := 192) hA dX6_copy_190 (by decide) rfl rfl ?_
        refine WO.aload_n (n := 193) hA dX6_copy_192 1 rfl rfl ?_
        refine WO.getR (j := 4) (p := 3) (n := 196) hA (m_0 hw) rfl fiX6_copy_X6 (by decide) rfl fkX6_copy_16 dX6_copy_193 rfl ?_
        refine WO.bipush (x := (60 : Int32)) (n := 198) hA dX6_copy_196 (by decide) rfl ?_
        refine WO.iload_n (n := 199) hA dX6_copy_198 4 rfl rfl ?_
        refine WO.imul (n := 200) hA dX6_copy_199 rfl ?_
        refine WO.iload (n := 202) hA dX6_copy_200 5 rfl rfl ?_
        refine WO.iadd (n := 203) hA dX6_copy_202 rfl ?_
        refine WO.iload (n := 205) hA dX6_copy_203 0 rfl rfl ?_
        refine WO.iadd (n := 206) hA dX6_copy_205 rfl ?_
        refine WO.aload_n (n := 207) hA dX6_copy_206 1 rfl rfl ?_
        refine WO.getR (j := 4) (p := 3) (n := 210) hA (m_0 hw) rfl fiX6_copy_X6 (by decide) rfl fkX6_copy_16 dX6_copy_207 rfl ?_
        refine WO.bipush (x := (60 : Int32)) (n := 212) hA dX6_copy_210 (by decide) rfl ?_
        refine WO.iload_n (n := 213) hA dX6_copy_212 2 rfl rfl ?_
        refine WO.imul (n := 214) hA dX6_copy_213 rfl ?_
        refine WO.iload_n (n := 215) hA dX6_copy_214 3 rfl rfl ?_
        refine WO.iadd (n := 216) hA dX6_copy_215 rfl ?_
        refine WO.iload (n := 218) hA dX6_copy_216 0 rfl rfl ?_
        refine WO.iadd (n := 219) hA dX6_copy_218 rfl ?_
        refine WO.iald (n := 220) hA (m_3 hw) dX6_copy_219 rfl (fun _ => ?_)
        refine WO.iast (n := 221) hA (m_3 hw) dX6_copy_220 rfl (fun _ => ?_)
        refine WO.mem (fun M14 => ?_)
        refine WO.iinc (y := (1 : Int32)) (lv' := [(8, .int (x8 + (1 : Int32))), (9, .int x8), (0, .ref (w.2.1 0)), (1, .int x1), (2, .int x2), (3, .int x3), (4, .int x4), (5, .int x5), (7, .int x7)]) (n := 224) hA dX6_copy_221 8 rfl (by decide) (by decide) rfl rfl ?_
        refine WO.goto (n := 166) hA dX6_copy_224 (by decide) ?_
        refine WO.sub (lv' := [(0, .ref (w.2.1 0)), (1, .int x1), (2, .int x2), (3, .int x3), (4, .int x4), (5, .int x5), (7, .int x7), (8, .int (x8 + (1 : Int32)))]) [2, 3, 4, 5, 6, 7, 8, 0] rfl ?_
        exact ih (x8 + (1 : Int32)) M14
      · refine WO.iload (n := 180) hA dX6_copy_178 5 rfl rfl ?_
        refine WO.iconst (x := (1 : Int32)) (n := 181) hA dX6_copy_180 (by decide) rfl ?_
        refine WO.isub (n := 182) hA dX6_copy_181 rfl ?_
        refine WO.iload (n := 184) hA dX6_copy_182 7 rfl rfl ?_
        refine WO.isub (n := 185) hA dX6_copy_184 rfl ?_
        refine WO.goto (n := 190) hA dX6_copy_185 (by decide) ?_
        refine WO.top (fun x_15 => ?_)
        refine WO.istore (lv' := [(9, .int x_15), (0, .ref (w.2.1 0)), (1, .int x1), (2, .int x2), (3, .int x3), (4, .int x4), (5, .int x5), (7, .int x7), (8, .int x8)]) (n := 192) hA dX6_copy_190 (by decide) rfl rfl ?_
        refine WO.aload_n (n := 193) hA dX6_copy_192 1 rfl rfl ?_
        refine WO.getR (j := 4) (p := 3) (n := 196) hA (m_0 hw) rfl fiX6_copy_X6 (by decide) rfl fkX6_copy_16 dX6_copy_193 rfl ?_
        refine WO.bipush (x := (60 : Int32)) (n := 198) hA dX6_copy_196 (by decide) rfl ?_
        refine WO.iload_n (n := 199) hA dX6_copy_198 4 rfl rfl ?_
        refine WO.imul (n := 200) hA dX6_copy_199 rfl ?_
        refine WO.iload (n := 202) hA dX6_copy_200 5 rfl rfl ?_
        refine WO.iadd (n := 203) hA dX6_copy_202 rfl ?_
        refine WO.iload (n := 205) hA dX6_copy_203 0 rfl rfl ?_
        refine WO.iadd (n := 206) hA dX6_copy_205 rfl ?_
        refine WO.aload_n (n := 207) hA dX6_copy_206 1 rfl rfl ?_
        refine WO.getR (j := 4) (p := 3) (n := 210) hA (m_0 hw) rfl fiX6_copy_X6 (by decide) rfl fkX6_copy_16 dX6_copy_207 rfl ?_
        refine WO.bipush (x := (60 : Int32)) (n := 212) hA dX6_copy_210 (by decide) rfl ?_
        refine WO.iload_n (n := 213) hA dX6_copy_212 2 rfl rfl ?_
        refine WO.imul (n := 214) hA dX6_copy_213 rfl ?_
        refine WO.iload_n (n := 215) hA dX6_copy_214 3 rfl rfl ?_
        refine WO.iadd (n := 216) hA dX6_copy_215 rfl ?_
        refine WO.iload (n := 218) hA dX6_copy_216 0 rfl rfl ?_
        refine WO.iadd (n := 219) hA dX6_copy_218 rfl ?_
        refine WO.iald (n := 220) hA (m_3 hw) dX6_copy_219 rfl (fun _ => ?_)
        refine WO.iast (n := 221) hA (m_3 hw) dX6_copy_220 rfl (fun _ => ?_)
        refine WO.mem (fun M16 => ?_)
        refine WO.iinc (y := (1 : Int32)) (lv' := [(8, .int (x8 + (1 : Int32))), (9, .int x_15), (0, .ref (w.2.1 0)), (1, .int x1), (2, .int x2), (3, .int x3), (4, .int x4), (5, .int x5), (7, .int x7)]) (n := 224) hA dX6_copy_221 8 rfl (by decide) (by decide) rfl rfl ?_
        refine WO.goto (n := 166) hA dX6_copy_224 (by decide) ?_
        refine WO.sub (lv' := [(0, .ref (w.2.1 0)), (1, .int x1), (2, .int x2), (3, .int x3), (4, .int x4), (5, .int x5), (7, .int x7), (8, .int (x8 + (1 : Int32)))]) [2, 3, 4, 5, 6, 7, 8, 0] rfl ?_
        exact ih (x8 + (1 : Int32)) M16
set_option maxHeartbeats 4000000 in
set_option maxRecDepth 100000 in
theorem c_X6_copy (l : Launch) (w : Cw) (hw : w.2.2.2.2.2 = shM) (x1 : Int32) (x2 : Int32) (x3 : Int32) (x4 : Int32) (x5 : Int32) (M : Mem) : Ok l w eI yX6_copy wsX6_copy rmX6_copy [.ref (w.2.1 0), .int x1, .int x2, .int x3, .int x4, .int x5] M (f_X6_copy x1 x2 x3 x4 x5 M) := by
  refine Ok.of (cc := cX6_copy) (nL := 10) (ret := (some .int)) (lv := [(0, .ref (w.2.1 0)), (1, .int x1), (2, .int x2), (3, .int x3), (4, .int x4), (5, .int x5)]) (by decide) rfl (Nat.le_of_ble_eq_true rfl) rfl (fun v hv hA => ?_)
  subst hv
  have hA : Act v w RX6 wsX6_copy cX6_copy 10 (some .int) := hA
  unfold f_X6_copy
  refine WO.aload_n (n := 1) hA dX6_copy_0 0 rfl rfl ?_
  refine WO.iconst (x := (0 : Int32)) (n := 2) hA dX6_copy_1 (by decide) rfl ?_
  refine WO.putI (j := 0) (n := 5) hA (m_0 hw) rfl fiX6_copy_X6 tyX6 tyX6_ok nmX6 (by decide) rfl fkX6_copy_58 rfl rfl rfl rfl dX6_copy_2 rfl ?_
  refine WO.mem (fun M1 => ?_)
  refine WO.iload_n (n := 6) hA dX6_copy_5 1 rfl rfl ?_
  refine WO.callSi (As := [.int x1]) (rest := []) (n := 9) hA (c_X6_isSheet v.2.1 w hw x1 M1) gX6_copy_X6_isSheet rfl mdX6_isSheet ⟨rfl, rfl, Nat.le_of_ble_eq_true rfl, Nat.le_of_ble_eq_true rfl⟩ rfl rfl (Nat.le_of_ble_eq_true rfl) dX6_copy_6 rfl (fun r3 M2 => ?_)
  refine WO.if_eq (tg := 19) (n := 12) hA dX6_copy_9 (by decide) rfl (fun _ => ?_) (fun _ => ?_)
  · refine WO.iconst (x := (-1 : Int32)) (n := 20) hA dX6_copy_19 (by decide) rfl ?_
    exact WO.iret hA dX6_copy_20
  · refine WO.iload_n (n := 13) hA dX6_copy_12 3 rfl rfl ?_
    refine WO.callSi (As := [.int x3]) (rest := []) (n := 16) hA (c_X6_isSheet v.2.1 w hw x3 M2) gX6_copy_X6_isSheet rfl mdX6_isSheet ⟨rfl, rfl, Nat.le_of_ble_eq_true rfl, Nat.le_of_ble_eq_true rfl⟩ rfl rfl (Nat.le_of_ble_eq_true rfl) dX6_copy_13 rfl (fun r5 M4 => ?_)
    refine WO.if_ne (tg := 21) (n := 19) hA dX6_copy_16 (by decide) rfl (fun _ => ?_) (fun _ => ?_)
    · refine WO.iconst (x := (-1 : Int32)) (n := 20) hA dX6_copy_19 (by decide) rfl ?_
      exact WO.iret hA dX6_copy_20
    · refine WO.aload_n (n := 22) hA dX6_copy_21 0 rfl rfl ?_
      refine WO.getR (j := 2) (p := 1) (n := 25) hA (m_0 hw) rfl fiX6_copy_X6 (by decide) rfl fkX6_copy_9 dX6_copy_22 rfl ?_
      refine WO.iload_n (n := 26) hA dX6_copy_25 1 rfl rfl ?_
      refine WO.iald (n := 27) hA (m_1 hw) dX6_copy_26 rfl (fun _ => ?_)
      refine WO.bipush (x := (-9 : Int32)) (n := 29) hA dX6_copy_27 (by decide) rfl ?_
      refine WO.icmp_eq (tg := 43) (n := 32) hA dX6_copy_29 (by decide) rfl (fun _ => ?_) (fun _ => ?_)
      · refine WO.aload_n (n := 44) hA dX6_copy_43 0 rfl rfl ?_
        refine WO.iconst (x := (1 : Int32)) (n := 45) hA dX6_copy_44 (by decide) rfl ?_
        refine WO.callVi (As := [.int (1 : Int32)]) (rest := []) (n := 48) hA (c_X6_fails v.2.1 w hw (1 : Int32) M4) gX6_copy_X6_fails rfl (m_0 hw) rfl mdX6_fails ⟨rfl, rfl, Nat.le_of_ble_eq_true rfl, Nat.le_of_ble_eq_true rfl⟩ rfl rfl (Nat.le_of_ble_eq_true rfl) dX6_copy_45 rfl (fun r7 M6 => ?_)
        exact WO.iret hA dX6_copy_48
      · refine WO.aload_n (n := 33) hA dX6_copy_32 0 rfl rfl ?_
        refine WO.getR (j := 2) (p := 1) (n := 36) hA (m_0 hw) rfl fiX6_copy_X6 (by decide) rfl fkX6_copy_9 dX6_copy_33 rfl ?_
        refine WO.iload_n (n := 37) hA dX6_copy_36 3 rfl rfl ?_
        refine WO.iald (n := 38) hA (m_1 hw) dX6_copy_37 rfl (fun _ => ?_)
        refine WO.bipush (x := (-9 : Int32)) (n := 40) hA dX6_copy_38 (by decide) rfl ?_
        refine WO.icmp_ne (tg := 49) (n := 43) hA dX6_copy_40 (by decide) rfl (fun _ => ?_) (fun _ => ?_)
        · refine WO.aload_n (n := 44) hA dX6_copy_43 0 rfl rfl ?_
          refine WO.iconst (x := (1 : Int32)) (n := 45) hA dX6_copy_44 (by decide) rfl ?_
          refine WO.callVi (As := [.int (1 : Int32)]) (rest := []) (n := 48) hA (c_X6_fails v.2.1 w hw (1 : Int32) M4) gX6_copy_X6_fails rfl (m_0 hw) rfl mdX6_fails ⟨rfl, rfl, Nat.le_of_ble_eq_true rfl, Nat.le_of_ble_eq_true rfl⟩ rfl rfl (Nat.le_of_ble_eq_true rfl) dX6_copy_45 rfl (fun r9 M8 => ?_)
          exact WO.iret hA dX6_copy_48
        · refine WO.aload_n (n := 50) hA dX6_copy_49 0 rfl rfl ?_
          refine WO.getR (j := 2) (p := 1) (n := 53) hA (m_0 hw) rfl fiX6_copy_X6 (by decide) rfl fkX6_copy_9 dX6_copy_50 rfl ?_
          refine WO.iload_n (n := 54) hA dX6_copy_53 1 rfl rfl ?_
          refine WO.iald (n := 55) hA (m_1 hw) dX6_copy_54 rfl (fun _ => ?_)
          refine WO.aload_n (n := 56) hA dX6_copy_55 0 rfl rfl ?_
          refine WO.getR (j := 2) (p := 1) (n := 59) hA (m_0 hw) rfl fiX6_copy_X6 (by decide) rfl fkX6_copy_9 dX6_copy_56 rfl ?_
          refine WO.iload_n (n := 60) hA dX6_copy_59 3 rfl rfl ?_
          refine WO.iald (n := 61) hA (m_1 hw) dX6_copy_60 rfl (fun _ => ?_)
          refine WO.icmp_eq (tg := 70) (n := 64) hA dX6_copy_61 (by decide) rfl (fun _ => ?_) (fun _ => ?_)
          · refine WO.iload_n (n := 71) hA dX6_copy_70 2 rfl rfl ?_
            refine WO.if_lt (tg := 109) (n := 74) hA dX6_copy_71 (by decide) rfl (fun _ => ?_) (fun _ => ?_)
            · refine WO.iconst (x := (0 : Int32)) (n := 110) hA dX6_copy_109 (by decide) rfl ?_
              refine WO.istore (lv' := [(6, .int (0 : Int32)), (0, .ref (w.2.1 0)), (1, .int x1), (2, .int x2), (3, .int x3), (4, .int x4), (5, .int x5)]) (n := 112) hA dX6_copy_110 (by decide) rfl rfl ?_
              refine WO.iload (n := 114) hA dX6_copy_112 0 rfl rfl ?_
              refine WO.if_eq (tg := 144) (n := 117) hA dX6_copy_114 (by decide) rfl (fun _ => ?_) (fun _ => ?_)
              · refine WO.aload_n (n := 145) hA dX6_copy_144 1 rfl rfl ?_
                refine WO.iconst (x := (3 : Int32)) (n := 146) hA dX6_copy_145 (by decide) rfl ?_
                refine WO.callVi (As := [.int (3 : Int32)]) (rest := []) (n := 149) hA (c_X6_fails v.2.1 w hw (3 : Int32) M4) gX6_copy_X6_fails rfl (m_0 hw) rfl mdX6_fails ⟨rfl, rfl, Nat.le_of_ble_eq_true rfl, Nat.le_of_ble_eq_true rfl⟩ rfl rfl (Nat.le_of_ble_eq_true rfl) dX6_copy_146 rfl (fun r11 M10 => ?_)
                exact WO.iret hA dX6_copy_149
              · refine WO.iload (n := 119) hA dX6_copy_117 6 rfl rfl ?_
                refine WO.aload_n (n := 120) hA dX6_copy_119 1 rfl rfl ?_
                refine WO.getR (j := 3) (p := 2) (n := 123) hA (m_0 hw) rfl fiX6_copy_X6 (by decide) rfl fkX6_copy_13 dX6_copy_120 rfl ?_
                refine WO.iload_n (n := 124) hA dX6_copy_123 2 rfl rfl ?_
                refine WO.iald (n := 125) hA (m_2 hw) dX6_copy_124 rfl (fun _ => ?_)
                refine WO.iload_n (n := 126) hA dX6_copy_125 3 rfl rfl ?_
                refine WO.isub (n := 127) hA dX6_copy_126 rfl ?_
                refine WO.icmp_gt (tg := 144) (n := 130) hA dX6_copy_127 (by decide) rfl (fun _ => ?_) (fun _ => ?_)
                · refine WO.aload_n (n := 145) hA dX6_copy_144 1 rfl rfl ?_
                  refine WO.iconst (x := (3 : Int32)) (n := 146) hA dX6_copy_145 (by decide) rfl ?_
                  refine WO.callVi (As := [.int (3 : Int32)]) (rest := []) (n := 149) hA (c_X6_fails v.2.1 w hw (3 : Int32) M4) gX6_copy_X6_fails rfl (m_0 hw) rfl mdX6_fails ⟨rfl, rfl, Nat.le_of_ble_eq_true rfl, Nat.le_of_ble_eq_true rfl⟩ rfl rfl (Nat.le_of_ble_eq_true rfl) dX6_copy_146 rfl (fun r13 M12 => ?_)
                  exact WO.iret hA dX6_copy_149
                · refine WO.iload (n := 132) hA dX6_copy_130 6 rfl rfl ?_
                  refine WO.aload_n (n := 133) hA dX6_copy_132 1 rfl rfl ?_
                  refine WO.getR (j := 3) (p := 2) (n := 136) hA (m_0 hw) rfl fiX6_copy_X6 (by decide) rfl fkX6_copy_13 dX6_copy_133 rfl ?_
                  refine WO.iload_n (n := 137) hA dX6_copy_136 4 rfl rfl ?_
                  refine WO.iald (n := 138) hA (m_2 hw) dX6_copy_137 rfl (fun _ => ?_)
                  refine WO.iload (n := 140) hA dX6_copy_138 5 rfl rfl ?_
                  refine WO.isub (n := 141) hA dX6_copy_140 rfl ?_
                  refine WO.icmp_le (tg := 150) (n := 144) hA dX6_copy_141 (by decide) rfl (fun _ => ?_) (fun _ => ?_)
                  · refine WO.iload_n (n := 151) hA dX6_copy_150 3 rfl rfl ?_
                    refine WO.iload (n := 153) hA dX6_copy_151 5 rfl rfl ?_
                    refine WO.icmp_ge (tg := 160) (n := 156) hA dX6_copy_153 (by decide) rfl (fun _ => ?_) (fun _ => ?_)
                    · refine WO.iconst (x := (0 : Int32)) (n := 161) hA dX6_copy_160 (by decide) rfl ?_
                      refine WO.istore (lv' := [(7, .int (0 : Int32)), (6, .int (0 : Int32)), (0, .ref (w.2.1 0)), (1, .int x1), (2, .int x2), (3, .int x3), (4, .int x4), (5, .int x5)]) (n := 163) hA dX6_copy_161 (by decide) rfl rfl ?_
                      refine WO.iconst (x := (0 : Int32)) (n := 164) hA dX6_copy_163 (by decide) rfl ?_
                      refine WO.istore (lv' := [(8, .int (0 : Int32)), (7, .int (0 : Int32)), (6, .int (0 : Int32)), (0, .ref (w.2.1 0)), (1, .int x1), (2, .int x2), (3, .int x3), (4, .int x4), (5, .int x5)]) (n := 166) hA dX6_copy_164 (by decide) rfl rfl ?_
                      refine WO.sub (lv' := [(0, .ref (w.2.1 0)), (1, .int x1), (2, .int x2), (3, .int x3), (4, .int x4), (5, .int x5), (7, .int (0 : Int32)), (8, .int (0 : Int32))]) [3, 4, 5, 6, 7, 8, 1, 0] rfl ?_
                      refine w_X6_copy_L166 hw hA x1 x2 x3 x4 x5 (0 : Int32) _ (fun  M17 => ?_) _ _ _
                      refine WO.iload (n := 229) hA dX6_copy_227 0 rfl rfl ?_
                      exact WO.iret hA dX6_copy_229
                    · refine WO.iconst (x := (1 : Int32)) (n := 157) hA dX6_copy_156 (by decide) rfl ?_
                      refine WO.goto (n := 161) hA dX6_copy_157 (by decide) ?_
                      refine WO.istore (lv' := [(7, .int (1 : Int32)), (6, .int (0 : Int32)), (0, .ref (w.2.1 0)), (1, .int x1), (2, .int x2), (3, .int x3), (4, .int x4), (5, .int x5)]) (n := 163) hA dX6_copy_161 (by decide) rfl rfl ?_
                      refine WO.iconst (x := (0 : Int32)) (n := 164) hA dX6_copy_163 (by decide) rfl ?_
                      refine WO.istore (lv' := [(8, .int (0 : Int32)), (7, .int (1 : Int32)), (6, .int (0 : Int32)), (0, .ref (w.2.1 0)), (1, .int x1), (2, .int x2), (3, .int x3), (4, .int x4), (5, .int x5)]) (n := 166) hA dX6_copy_164 (by decide) rfl rfl ?_
                      refine WO.sub (lv' := [(0, .ref (w.2.1 0)), (1, .int x1), (2, .int x2), (3, .int x3), (4, .int x4), (5, .int x5), (7, .int (1 : Int32)), (8, .int (0 : Int32))]) [3, 4, 5, 6, 7, 8, 1, 0] rfl ?_
                      refine w_X6_copy_L166 hw hA x1 x2 x3 x4 x5 (1 : Int32) _ (fun  M18 => ?_) _ _ _
                      refine WO.iload (n := 229) hA dX6_copy_227 0 rfl rfl ?_
                      exact WO.iret hA dX6_copy_229
                  · refine WO.aload_n (n := 145) hA dX6_copy_144 1 rfl rfl ?_
                    refine WO.iconst (x := (3 : Int32)) (n := 146) hA dX6_copy_145 (by decide) rfl ?_
                    refine WO.callVi (As := [.int (3 : Int32)]) (rest := []) (n := 149) hA (c_X6_fails v.2.1 w hw (3 : Int32) M4) gX6_copy_X6_fails rfl (m_0 hw) rfl mdX6_fails ⟨rfl, rfl, Nat.le_of_ble_eq_true rfl, Nat.le_of_ble_eq_true rfl⟩ rfl rfl (Nat.le_of_ble_eq_true rfl) dX6_copy_146 rfl (fun r20 M19 => ?_)
                    exact WO.iret hA dX6_copy_149
            · refine WO.iload (n := 76) hA dX6_copy_74 4 rfl rfl ?_
              refine WO.if_lt (tg := 109) (n := 79) hA dX6_copy_76 (by decide) rfl (fun _ => ?_) (fun _ => ?_)
              · refine WO.iconst (x := (0 : Int32)) (n := 110) hA dX6_copy_109 (by decide) rfl ?_
                refine WO.istore (lv' := [(6, .int (0 : Int32)), (0, .ref (w.2.1 0)), (1, .int x1), (2, .int x2), (3, .int x3), (4, .int x4), (5, .int x5)]) (n := 112) hA dX6_copy_110 (by decide) rfl rfl ?_
                refine WO.iload (n := 114) hA dX6_copy_112 0 rfl rfl ?_
                refine WO.if_eq (tg := 144) (n := 117) hA dX6_copy_114 (by decide) rfl (fun _ => ?_) (fun _ => ?_)
                · refine WO.aload_n (n := 145) hA dX6_copy_144 1 rfl rfl ?_
                  refine WO.iconst (x := (3 : Int32)) (n := 146) hA dX6_copy_145 (by decide) rfl ?_
                  refine WO.callVi (As := [.int (3 : Int32)]) (rest := []) (n := 149) hA (c_X6_fails v.2.1 w hw (3 : Int32) M4) gX6_copy_X6_fails rfl (m_0 hw) rfl mdX6_fails ⟨rfl, rfl, Nat.le_of_ble_eq_true rfl, Nat.le_of_ble_eq_true rfl⟩ rfl rfl (Nat.le_of_ble_eq_true rfl) dX6_copy_146 rfl (fun r22 M21 => ?_)
                  exact WO.iret hA dX6_copy_149
                · refine WO.iload (n := 119) hA dX6_copy_117 6 rfl rfl ?_
                  refine WO.aload_n (n := 120) hA dX6_copy_119 1 rfl rfl ?_
                  refine WO.getR (j := 3) (p := 2) (n := 123) hA (m_0 hw) rfl fiX6_copy_X6 (by decide) rfl fkX6_copy_13 dX6_copy_120 rfl ?_
                  refine WO.iload_n (n := 124) hA dX6_copy_123 2 rfl rfl ?_
                  refine WO.iald (n := 125) hA (m_2 hw) dX6_copy_124 rfl (fun _ => ?_)
                  refine WO.iload_n (n := 126) hA dX6_copy_125 3 rfl rfl ?_
                  refine WO.isub (n := 127) hA dX6_copy_126 rfl ?_
                  refine WO.icmp_gt (tg := 144) (n := 130) hA dX6_copy_127 (by decide) rfl (fun _ => ?_) (fun _ => ?_)
                  · refine WO.aload_n (n := 145) hA dX6_copy_144 1 rfl rfl ?_
                    refine WO.iconst (x := (3 : Int32)) (n := 146) hA dX6_copy_145 (by decide) rfl ?_
                    refine WO.callVi (As := [.int (3 : Int32)]) (rest := []) (n := 149) hA (c_X6_fails v.2.1 w hw (3 : Int32) M4) gX6_copy_X6_fails rfl (m_0 hw) rfl mdX6_fails ⟨rfl, rfl, Nat.le_of_ble_eq_true rfl, Nat.le_of_ble_eq_true rfl⟩ rfl rfl (Nat.le_of_ble_eq_true rfl) dX6_copy_146 rfl (fun r24 M23 => ?_)
                    exact WO.iret hA dX6_copy_149
                  · refine WO.iload (n := 132) hA dX6_copy_130 6 rfl rfl ?_
                    refine WO.aload_n (n := 133) hA dX6_copy_132 1 rfl rfl ?_
                    refine WO.getR (j := 3) (p := 2) (n := 136) hA (m_0 hw) rfl fiX6_copy_X6 (by decide) rfl fkX6_copy_13 dX6_copy_133 rfl ?_
                    refine WO.iload_n (n := 137) hA dX6_copy_136 4 rfl rfl ?_
                    refine WO.iald (n := 138) hA (m_2 hw) dX6_copy_137 rfl (fun _ => ?_)
                    refine WO.iload (n := 140) hA dX6_copy_138 5 rfl rfl ?_
                    refine WO.isub (n := 141) hA dX6_copy_140 rfl ?_
                    refine WO.icmp_le (tg := 150) (n := 144) hA dX6_copy_141 (by decide) rfl (fun _ => ?_) (fun _ => ?_)
                    · refine WO.iload_n (n := 151) hA dX6_copy_150 3 rfl rfl ?_
                      refine WO.iload (n := 153) hA dX6_copy_151 5 rfl rfl ?_
                      refine WO.icmp_ge (tg := 160) (n := 156) hA dX6_copy_153 (by decide) rfl (fun _ => ?_) (fun _ => ?_)
                      · refine WO.iconst (x := (0 : Int32)) (n := 161) hA dX6_copy_160 (by decide) rfl ?_
                        refine WO.istore (lv' := [(7, .int (0 : Int32)), (6, .int (0 : Int32)), (0, .ref (w.2.1 0)), (1, .int x1), (2, .int x2), (3, .int x3), (4, .int x4), (5, .int x5)]) (n := 163) hA dX6_copy_161 (by decide) rfl rfl ?_
                        refine WO.iconst (x := (0 : Int32)) (n := 164) hA dX6_copy_163 (by decide) rfl ?_
                        refine WO.istore (lv' := [(8, .int (0 : Int32)), (7, .int (0 : Int32)), (6, .int (0 : Int32)), (0, .ref (w.2.1 0)), (1, .int x1), (2, .int x2), (3, .int x3), (4, .int x4), (5, .int x5)]) (n := 166) hA dX6_copy_164 (by decide) rfl rfl ?_
                        refine WO.sub (lv' := [(0, .ref (w.2.1 0)), (1, .int x1), (2, .int x2), (3, .int x3), (4, .int x4), (5, .int x5), (7, .int (0 : Int32)), (8, .int (0 : Int32))]) [3, 4, 5, 6, 7, 8, 1, 0] rfl ?_
                        refine w_X6_copy_L166 hw hA x1 x2 x3 x4 x5 (0 : Int32) _ (fun  M25 => ?_) _ _ _
                        refine WO.iload (n := 229) hA dX6_copy_227 0 rfl rfl ?_
                        exact WO.iret hA dX6_copy_229
                      · refine WO.iconst (x := (1 : Int32)) (n := 157) hA dX6_copy_156 (by decide) rfl ?_
                        refine WO.goto (n := 161) hA dX6_copy_157 (by decide) ?_
                        refine WO.istore (lv' := [(7, .int (1 : Int32)), (6, .int (0 : Int32)), (0, .ref (w.2.1 0)), (1, .int x1), (2, .int x2), (3, .int x3), (4, .int x4), (5, .int x5)]) (n := 163) hA dX6_copy_161 (by decide) rfl rfl ?_
                        refine WO.iconst (x := (0 : Int32)) (n := 164) hA dX6_copy_163 (by decide) rfl ?_
                        refine WO.istore (lv' := [(8, .int (0 : Int32)), (7, .int (1 : Int32)), (6, .int (0 : Int32)), (0, .ref (w.2.1 0)), (1, .int x1), (2, .int x2), (3, .int x3), (4, .int x4), (5, .int x5)]) (n := 166) hA dX6_copy_164 (by decide) rfl rfl ?_
                        refine WO.sub (lv' := [(0, .ref (w.2.1 0)), (1, .int x1), (2, .int x2), (3, .int x3), (4, .int x4), (5, .int x5), (7, .int (1 : Int32)), (8, .int (0 : Int32))]) [3, 4, 5, 6, 7, 8, 1, 0] rfl ?_
                        refine w_X6_copy_L166 hw hA x1 x2 x3 x4 x5 (1 : Int32) _ (fun  M26 => ?_) _ _ _
                        refine WO.iload (n := 229) hA dX6_copy_227 0 rfl rfl ?_
                        exact WO.iret hA dX6_copy_229
                    · refine WO.aload_n (n := 145) hA dX6_copy_144 1 rfl rfl ?_
                      refine WO.iconst (x := (3 : Int32)) (n := 146) hA dX6_copy_145 (by decide) rfl ?_
                      refine WO.callVi (As := [.int (3 : Int32)]) (rest := []) (n := 149) hA (c_X6_fails v.2.1 w hw (3 : Int32) M4) gX6_copy_X6_fails rfl (m_0 hw) rfl mdX6_fails ⟨rfl, rfl, Nat.le_of_ble_eq_true rfl, Nat.le_of_ble_eq_true rfl⟩ rfl rfl (Nat.le_of_ble_eq_true rfl) dX6_copy_146 rfl (fun r28 M27 => ?_)
                      exact WO.iret hA dX6_copy_149
              · refine WO.iload (n := 81) hA dX6_copy_79 5 rfl rfl ?_
                refine WO.if_lt (tg := 109) (n := 84) hA dX6_copy_81 (by decide) rfl (fun _ => ?_) (fun _ => ?_)
                · refine WO.iconst (x := (0 : Int32)) (n := 110) hA dX6_copy_109 (by decide) rfl ?_
                  refine WO.istore (lv' := [(6, .int (0 : Int32)), (0, .ref (w.2.1 0)), (1, .int x1), (2, .int x2), (3, .int x3), (4, .int x4), (5, .int x5)]) (n := 112) hA dX6_copy_110 (by decide) rfl rfl ?_
                  refine WO.iload (n := 114) hA dX6_copy_112 0 rfl rfl ?_
                  refine WO.if_eq (tg := 144) (n := 117) hA dX6_copy_114 (by decide) rfl (fun _ => ?_) (fun _ => ?_)
                  · refine WO.aload_n (n := 145) hA dX6_copy_144 1 rfl rfl ?_
                    refine WO.iconst (x := (3 : Int32)) (n := 146) hA dX6_copy_145 (by decide) rfl ?_
                    refine WO.callVi (As := [.int (3 : Int32)]) (rest := []) (n := 149) hA (c_X6_fails v.2.1 w hw (3 : Int32) M4) gX6_copy_X6_fails rfl (m_0 hw) rfl mdX6_fails ⟨rfl, rfl, Nat.le_of_ble_eq_true rfl, Nat.le_of_ble_eq_true rfl⟩ rfl rfl (Nat.le_of_ble_eq_true rfl) dX6_copy_146 rfl (fun r30 M29 => ?_)
                    exact WO.iret hA dX6_copy_149
                  · refine WO.iload (n := 119) hA dX6_copy_117 6 rfl rfl ?_
                    refine WO.aload_n (n := 120) hA dX6_copy_119 1 rfl rfl ?_
                    refine WO.getR (j := 3) (p := 2) (n := 123) hA (m_0 hw) rfl fiX6_copy_X6 (by decide) rfl fkX6_copy_13 dX6_copy_120 rfl ?_
                    refine WO.iload_n (n := 124) hA dX6_copy_123 2 rfl rfl ?_
                    refine WO.iald (n := 125) hA (m_2 hw) dX6_copy_124 rfl (fun _ => ?_)
                    refine WO.iload_n (n := 126) hA dX6_copy_125 3 rfl rfl ?_
                    refine WO.isub (n := 127) hA dX6_copy_126 rfl ?_
                    refine WO.icmp_gt (tg := 144) (n := 130) hA dX6_copy_127 (by decide) rfl (fun _ => ?_) (fun _ => ?_)
                    · refine WO.aload_n (n := 145) hA dX6_copy_144 1 rfl rfl ?_
                      refine WO.iconst (x := (3 : Int32)) (n := 146) hA dX6_copy_145 (by decide) rfl ?_
                      refine WO.callVi (As := [.int (3 : Int32)]) (rest := []) (n := 149) hA (c_X6_fails v.2.1 w hw (3 : Int32) M4) gX6_copy_X6_fails rfl (m_0 hw) rfl mdX6_fails ⟨rfl, rfl, Nat.le_of_ble_eq_true rfl, Nat.le_of_ble_eq_true rfl⟩ rfl rfl (Nat.le_of_ble_eq_true rfl) dX6_copy_146 rfl (fun r32 M31 => ?_)
                      exact WO.iret hA dX6_copy_149
                    · refine WO.iload (n := 132) hA dX6_copy_130 6 rfl rfl ?_
                      refine WO.aload_n (n := 133) hA dX6_copy_132 1 rfl rfl ?_
                      refine WO.getR (j := 3) (p := 2) (n := 136) hA (m_0 hw) rfl fiX6_copy_X6 (by decide) rfl fkX6_copy_13 dX6_copy_133 rfl ?_
                      refine WO.iload_n (n := 137) hA dX6_copy_136 4 rfl rfl ?_
                      refine WO.iald (n := 138) hA (m_2 hw) dX6_copy_137 rfl (fun _ => ?_)
                      refine WO.iload (n := 140) hA dX6_copy_138 5 rfl rfl ?_
                      refine WO.isub (n := 141) hA dX6_copy_140 rfl ?_
                      refine WO.icmp_le (tg := 150) (n := 144) hA dX6_copy_141 (by decide) rfl (fun _ => ?_) (fun _ => ?_)
                      · refine WO.iload_n (n := 151) hA dX6_copy_150 3 rfl rfl ?_
                        refine WO.iload (n := 153) hA dX6_copy_151 5 rfl rfl ?_
                        refine WO.icmp_ge (tg := 160) (n := 156) hA dX6_copy_153 (by decide) rfl (fun _ => ?_) (fun _ => ?_)
                        · refine WO.iconst (x := (0 : Int32)) (n := 161) hA dX6_copy_160 (by decide) rfl ?_
                          refine WO.istore (lv' := [(7, .int (0 : Int32)), (6, .int (0 : Int32)), (0, .ref (w.2.1 0)), (1, .int x1), (2, .int x2), (3, .int x3), (4, .int x4), (5, .int x5)]) (n := 163) hA dX6_copy_161 (by decide) rfl rfl ?_
                          refine WO.iconst (x := (0 : Int32)) (n := 164) hA dX6_copy_163 (by decide) rfl ?_
                          refine WO.istore (lv' := [(8, .int (0 : Int32)), (7, .int (0 : Int32)), (6, .int (0 : Int32)), (0, .ref (w.2.1 0)), (1, .int x1), (2, .int x2), (3, .int x3), (4, .int x4), (5, .int x5)]) (n := 166) hA dX6_copy_164 (by decide) rfl rfl ?_
                          refine WO.sub (lv' := [(0, .ref (w.2.1 0)), (1, .int x1), (2, .int x2), (3, .int x3), (4, .int x4), (5, .int x5), (7, .int (0 : Int32)), (8, .int (0 : Int32))]) [3, 4, 5, 6, 7, 8, 1, 0] rfl ?_
                          refine w_X6_copy_L166 hw hA x1 x2 x3 x4 x5 (0 : Int32) _ (fun  M33 => ?_) _ _ _
                          refine WO.iload (n := 229) hA dX6_copy_227 0 rfl rfl ?_
                          exact WO.iret hA dX6_copy_229
                        · refine WO.iconst (x := (1 : Int32)) (n := 157) hA dX6_copy_156 (by decide) rfl ?_
                          refine WO.goto (n := 161) hA dX6_copy_157 (by decide) ?_
                          refine WO.istore (lv' := [(7, .int (1 : Int32)), (6, .int (0 : Int32)), (0, .ref (w.2.1 0)), (1, .int x1), (2, .int x2), (3, .int x3), (4, .int x4), (5, .int x5)]) (n := 163) hA dX6_copy_161 (by decide) rfl rfl ?_
                          refine WO.iconst (x := (0 : Int32)) (n := 164) hA dX6_copy_163 (by decide) rfl ?_
                          refine WO.istore (lv' := [(8, .int (0 : Int32)), (7, .int (1 : Int32)), (6, .int (0 : Int32)), (0, .ref (w.2.1 0)), (1, .int x1), (2, .int x2), (3, .int x3), (4, .int x4), (5, .int x5)]) (n := 166) hA dX6_copy_164 (by decide) rfl rfl ?_
                          refine WO.sub (lv' := [(0, .ref (w.2.1 0)), (1, .int x1), (2, .int x2), (3, .int x3), (4, .int x4), (5, .int x5), (7, .int (1 : Int32)), (8, .int (0 : Int32))]) [3, 4, 5, 6, 7, 8, 1, 0] rfl ?_
                          refine w_X6_copy_L166 hw hA x1 x2 x3 x4 x5 (1 : Int32) _ (fun  M34 => ?_) _ _ _
                          refine WO.iload (n := 229) hA dX6_copy_227 0 rfl rfl ?_
                          exact WO.iret hA dX6_copy_229
                      · refine WO.aload_n (n := 145) hA dX6_copy_144 1 rfl rfl ?_
                        refine WO.iconst (x := (3 : Int32)) (n := 146) hA dX6_copy_145 (by decide) rfl ?_
                        refine WO.callVi (As := [.int (3 : Int32)]) (rest := []) (n := 149) hA (c_X6_fails v.2.1 w hw (3 : Int32) M4) gX6_copy_X6_fails rfl (m_0 hw) rfl mdX6_fails ⟨rfl, rfl, Nat.le_of_ble_eq_true rfl, Nat.le_of_ble_eq_true rfl⟩ rfl rfl (Nat.le_of_ble_eq_true rfl) dX6_copy_146 rfl (fun r36 M35 => ?_)
                        exact WO.iret hA dX6_copy_149
                · refine WO.iload_n (n := 85) hA dX6_copy_84 2 rfl rfl ?_
                  refine WO.aload_n (n := 86) hA dX6_copy_85 0 rfl rfl ?_
                  refine WO.getR (j := 3) (p := 2) (n := 89) hA (m_0 hw) rfl fiX6_copy_X6 (by decide) rfl fkX6_copy_13 dX6_copy_86 rfl ?_
                  refine WO.iload_n (n := 90) hA dX6_copy_89 1 rfl rfl ?_
                  refine WO.iald (n := 91) hA (m_2 hw) dX6_copy_90 rfl (fun _ => ?_)
                  refine WO.icmp_gt (tg := 109) (n := 94) hA dX6_copy_91 (by decide) rfl (fun _ => ?_) (fun _ => ?_)
                  · refine WO.iconst (x := (0 : Int32)) (n := 110) hA dX6_copy_109 (by decide) rfl ?_
                    refine WO.istore (lv' := [(6, .int (0 : Int32)), (0, .ref (w.2.1 0)), (1, .int x1), (2, .int x2), (3, .int x3), (4, .int x4), (5, .int x5)]) (n := 112) hA dX6_copy_110 (by decide) rfl rfl ?_
                    refine WO.iload (n := 114) hA dX6_copy_112 0 rfl rfl ?_
                    refine WO.if_eq (tg := 144) (n := 117) hA dX6_copy_114 (by decide) rfl (fun _ => ?_) (fun _ => ?_)
                    · refine WO.aload_n (n := 145) hA dX6_copy_144 1 rfl rfl ?_
                      refine WO.iconst (x := (3 : Int32)) (n := 146) hA dX6_copy_145 (by decide) rfl ?_
                      refine WO.callVi (As := [.int (3 : Int32)]) (rest := []) (n := 149) hA (c_X6_fails v.2.1 w hw (3 : Int32) M4) gX6_copy_X6_fails rfl (m_0 hw) rfl mdX6_fails ⟨rfl, rfl, Nat.le_of_ble_eq_true rfl, Nat.le_of_ble_eq_true rfl⟩ rfl rfl (Nat.le_of_ble_eq_true rfl) dX6_copy_146 rfl (fun r38 M37 => ?_)
                      exact WO.iret hA dX6_copy_149
                    · refine WO.iload (n := 119) hA dX6_copy_117 6 rfl rfl ?_
                      refine WO.aload_n (n := 120) hA dX6_copy_119 1 rfl rfl ?_
                      refine WO.getR (j := 3) (p := 2) (n := 123) hA (m_0 hw) rfl fiX6_copy_X6 (by decide) rfl fkX6_copy_13 dX6_copy_120 rfl ?_
                      refine WO.iload_n (n := 124) hA dX6_copy_123 2 rfl rfl ?_
                      refine WO.iald (n := 125) hA (m_2 hw) dX6_copy_124 rfl (fun _ => ?_)
                      refine WO.iload_n (n := 126) hA dX6_copy_125 3 rfl rfl ?_
                      refine WO.isub (n := 127) hA dX6_copy_126 rfl ?_
                      refine WO.icmp_gt (tg := 144) (n := 130) hA dX6_copy_127 (by decide) rfl (fun _ => ?_) (fun _ => ?_)
                      · refine WO.aload_n (n := 145) hA dX6_copy_144 1 rfl rfl ?_
                        refine WO.iconst (x := (3 : Int32)) (n := 146) hA dX6_copy_145 (by decide) rfl ?_
                        refine WO.callVi (As := [.int (3 : Int32)]) (rest := []) (n := 149) hA (c_X6_fails v.2.1 w hw (3 : Int32) M4) gX6_copy_X6_fails rfl (m_0 hw) rfl mdX6_fails ⟨rfl, rfl, Nat.le_of_ble_eq_true rfl, Nat.le_of_ble_eq_true rfl⟩ rfl rfl (Nat.le_of_ble_eq_true rfl) dX6_copy_146 rfl (fun r40 M39 => ?_)
                        exact WO.iret hA dX6_copy_149
                      · refine WO.iload (n := 132) hA dX6_copy_130 6 rfl rfl ?_
                        refine WO.aload_n (n := 133) hA dX6_copy_132 1 rfl rfl ?_
                        refine WO.getR (j := 3) (p := 2) (n := 136) hA (m_0 hw) rfl fiX6_copy_X6 (by decide) rfl fkX6_copy_13 dX6_copy_133 rfl ?_
                        refine WO.iload_n (n := 137) hA dX6_copy_136 4 rfl rfl ?_
                        refine WO.iald (n := 138) hA (m_2 hw) dX6_copy_137 rfl (fun _ => ?_)
                        refine WO.iload (n := 140) hA dX6_copy_138 5 rfl rfl ?_
                        refine WO.isub (n := 141) hA dX6_copy_140 rfl ?_
                        refine WO.icmp_le (tg := 150) (n := 144) hA dX6_copy_141 (by decide) rfl (fun _ => ?_) (fun _ => ?_)
                        · refine WO.iload_n (n := 151) hA dX6_copy_150 3 rfl rfl ?_
                          refine WO.iload (n := 153) hA dX6_copy_151 5 rfl rfl ?_
                          refine WO.icmp_ge (tg := 160) (n := 156) hA dX6_copy_153 (by decide) rfl (fun _ => ?_) (fun _ => ?_)
                          · refine WO.iconst (x := (0 : Int32)) (n := 161) hA dX6_copy_160 (by decide) rfl ?_
                            refine WO.istore (lv' := [(7, .int (0 : Int32)), (6, .int (0 : Int32)), (0, .ref (w.2.1 0)), (1, .int x1), (2, .int x2), (3, .int x3), (4, .int x4), (5, .int x5)]) (n := 163) hA dX6_copy_161 (by decide) rfl rfl ?_
                            refine WO.iconst (x := (0 : Int32)) (n := 164) hA dX6_copy_163 (by decide) rfl ?_
                            refine WO.istore (lv' := [(8, .int (0 : Int32)), (7, .int (0 : Int32)), (6, .int (0 : Int32)), (0, .ref (w.2.1 0)), (1, .int x1), (2, .int x2), (3, .int x3), (4, .int x4), (5, .int x5)]) (n := 166) hA dX6_copy_164 (by decide) rfl rfl ?_
                            refine WO.sub (lv' := [(0, .ref (w.2.1 0)), (1, .int x1), (2, .int x2), (3, .int x3), (4, .int x4), (5, .int x5), (7, .int (0 : Int32)), (8, .int (0 : Int32))]) [3, 4, 5, 6, 7, 8, 1, 0] rfl ?_
                            refine w_X6_copy_L166 hw hA x1 x2 x3 x4 x5 (0 : Int32) _ (fun  M41 => ?_) _ _ _
                            refine WO.iload (n := 229) hA dX6_copy_227 0 rfl rfl ?_
                            exact WO.iret hA dX6_copy_229
                          · refine WO.iconst (x := (1 : Int32)) (n := 157) hA dX6_copy_156 (by decide) rfl ?_
                            refine WO.goto (n := 161) hA dX6_copy_157 (by decide) ?_
                            refine WO.istore (lv' := [(7, .int (1 : Int32)), (6, .int (0 : Int32)), (0, .ref (w.2.1 0)), (1, .int x1), (2, .int x2), (3, .int x3), (4, .int x4), (5, .int x5)]) (n := 163) hA dX6_copy_161 (by decide) rfl rfl ?_
                            refine WO.iconst (x := (0 : Int32)) (n := 164) hA dX6_copy_163 (by decide) rfl ?_
                            refine WO.istore (lv' := [(8, .int (0 : Int32)), (7, .int (1 : Int32)), (6, .int (0 : Int32)), (0, .ref (w.2.1 0)), (1, .int x1), (2, .int x2), (3, .int x3), (4, .int x4), (5, .int x5)]) (n := 166) hA dX6_copy_164 (by decide) rfl rfl ?_
                            refine WO.sub (lv' := [(0, .ref (w.2.1 0)), (1, .int x1), (2, .int x2), (3, .int x3), (4, .int x4), (5, .int x5), (7, .int (1 : Int32)), (8, .int (0 : Int32))]) [3, 4, 5, 6, 7, 8, 1, 0] rfl ?_
                            refine w_X6_copy_L166 hw hA x1 x2 x3 x4 x5 (1 : Int32) _ (fun  M42 => ?_) _ _ _
                            refine WO.iload (n := 229) hA dX6_copy_227 0 rfl rfl ?_
                            exact WO.iret hA dX6_copy_229
                        · refine WO.aload_n (n := 145) hA dX6_copy_144 1 rfl rfl ?_
                          refine WO.iconst (x := (3 : Int32)) (n := 146) hA dX6_copy_145 (by decide) rfl ?_
                          refine WO.callVi (As := [.int (3 : Int32)]) (rest := []) (n := 149) hA (c_X6_fails v.2.1 w hw (3 : Int32) M4) gX6_copy_X6_fails rfl (m_0 hw) rfl mdX6_fails ⟨rfl, rfl, Nat.le_of_ble_eq_true rfl, Nat.le_of_ble_eq_true rfl⟩ rfl rfl (Nat.le_of_ble_eq_true rfl) dX6_copy_146 rfl (fun r44 M43 => ?_)
                          exact WO.iret hA dX6_copy_149
                  · refine WO.iload (n := 96) hA dX6_copy_94 4 rfl rfl ?_
                    refine WO.aload_n (n := 97) hA dX6_copy_96 0 rfl rfl ?_
                    refine WO.getR (j := 3) (p := 2) (n := 100) hA (m_0 hw) rfl fiX6_copy_X6 (by decide) rfl fkX6_copy_13 dX6_copy_97 rfl ?_
                    refine WO.iload_n (n := 101) hA dX6_copy_100 3 rfl rfl ?_
                    refine WO.iald (n := 102) hA (m_2 hw) dX6_copy_101 rfl (fun _ => ?_)
                    refine WO.icmp_gt (tg := 109) (n := 105) hA dX6_copy_102 (by decide) rfl (fun _ => ?_) (fun _ => ?_)
                    · refine WO.iconst (x := (0 : Int32)) (n := 110) hA dX6_copy_109 (by decide) rfl ?_
                      refine WO.istore (lv' := [(6, .int (0 : Int32)), (0, .ref (w.2.1 0)), (1, .int x1), (2, .int x2), (3, .int x3), (4, .int x4), (5, .int x5)]) (n := 112) hA dX6_copy_110 (by decide) rfl rfl ?_
                      refine WO.iload (n := 114) hA dX6_copy_112 0 rfl rfl ?_
                      refine WO.if_eq (tg := 144) (n := 117) hA dX6_copy_114 (by decide) rfl (fun _ => ?_) (fun _ => ?_)
                      · refine WO.aload_n (n := 145) hA dX6_copy_144 1 rfl rfl ?_
                        refine WO.iconst (x := (3 : Int32)) (n := 146) hA dX6_copy_145 (by decide) rfl ?_
                        refine WO.callVi (As := [.int (3 : Int32)]) (rest := []) (n := 149) hA (c_X6_fails v.2.1 w hw (3 : Int32) M4) gX6_copy_X6_fails rfl (m_0 hw) rfl mdX6_fails ⟨rfl, rfl, Nat.le_of_ble_eq_true rfl, Nat.le_of_ble_eq_true rfl⟩ rfl rfl (Nat.le_of_ble_eq_true rfl) dX6_copy_146 rfl (fun r46 M45 => ?_)
                        exact WO.iret hA dX6_copy_149
                      · refine WO.iload (n := 119) hA dX6_copy_117 6 rfl rfl ?_
                        refine WO.aload_n (n := 120) hA dX6_copy_119 1 rfl rfl ?_
                        refine WO.getR (j := 3) (p := 2) (n := 123) hA (m_0 hw) rfl fiX6_copy_X6 (by decide) rfl fkX6_copy_13 dX6_copy_120 rfl ?_
                        refine WO.iload_n (n := 124) hA dX6_copy_123 2 rfl rfl ?_
                        refine WO.iald (n := 125) hA (m_2 hw) dX6_copy_124 rfl (fun _ => ?_)
                        refine WO.iload_n (n := 126) hA dX6_copy_125 3 rfl rfl ?_
                        refine WO.isub (n := 127) hA dX6_copy_126 rfl ?_
                        refine WO.icmp_gt (tg := 144) (n := 130) hA dX6_copy_127 (by decide) rfl (fun _ => ?_) (fun _ => ?_)
                        · refine WO.aload_n (n := 145) hA dX6_copy_144 1 rfl rfl ?_
                          refine WO.iconst (x := (3 : Int32)) (n := 146) hA dX6_copy_145 (by decide) rfl ?_
                          refine WO.callVi (As := [.int (3 : Int32)]) (rest := []) (n := 149) hA (c_X6_fails v.2.1 w hw (3 : Int32) M4) gX6_copy_X6_fails rfl (m_0 hw) rfl mdX6_fails ⟨rfl, rfl, Nat.le_of_ble_eq_true rfl, Nat.le_of_ble_eq_true rfl⟩ rfl rfl (Nat.le_of_ble_eq_true rfl) dX6_copy_146 rfl (fun r48 M47 => ?_)
                          exact WO.iret hA dX6_copy_149
                        · refine WO.iload (n := 132) hA dX6_copy_130 6 rfl rfl ?_
                          refine WO.aload_n (n := 133) hA dX6_copy_132 1 rfl rfl ?_
                          refine WO.getR (j := 3) (p := 2) (n := 136) hA (m_0 hw) rfl fiX6_copy_X6 (by decide) rfl fkX6_copy_13 dX6_copy_133 rfl ?_
                          refine WO.iload_n (n := 137) hA dX6_copy_136 4 rfl rfl ?_
                          refine WO.iald (n := 138) hA (m_2 hw) dX6_copy_137 rfl (fun _ => ?_)
                          refine WO.iload (n := 140) hA dX6_copy_138 5 rfl rfl ?_
                          refine WO.isub (n := 141) hA dX6_copy_140 rfl ?_
                          refine WO.icmp_le (tg := 150) (n := 144) hA dX6_copy_141 (by decide) rfl (fun _ => ?_) (fun _ => ?_)
                          · refine WO.iload_n (n := 151) hA dX6_copy_150 3 rfl rfl ?_
                            refine WO.iload (n := 153) hA dX6_copy_151 5 rfl rfl ?_
                            refine WO.icmp_ge (tg := 160) (n := 156) hA dX6_copy_153 (by decide) rfl (fun _ => ?_) (fun _ => ?_)
                            · refine WO.iconst (x := (0 : Int32)) (n := 161) hA dX6_copy_160 (by decide) rfl ?_
                              refine WO.istore (lv' := [(7, .int (0 : Int32)), (6, .int (0 : Int32)), (0, .ref (w.2.1 0)), (1, .int x1), (2, .int x2), (3, .int x3), (4, .int x4), (5, .int x5)]) (n := 163) hA dX6_copy_161 (by decide) rfl rfl ?_
                              refine WO.iconst (x := (0 : Int32)) (n := 164) hA dX6_copy_163 (by decide) rfl ?_
                              refine WO.istore (lv' := [(8, .int (0 : Int32)), (7, .int (0 : Int32)), (6, .int (0 : Int32)), (0, .ref (w.2.1 0)), (1, .int x1), (2, .int x2), (3, .int x3), (4, .int x4), (5, .int x5)]) (n := 166) hA dX6_copy_164 (by decide) rfl rfl ?_
                              refine WO.sub (lv' := [(0, .ref (w.2.1 0)), (1, .int x1), (2, .int x2), (3, .int x3), (4, .int x4), (5, .int x5), (7, .int (0 : Int32)), (8, .int (0 : Int32))]) [3, 4, 5, 6, 7, 8, 1, 0] rfl ?_
                              refine w_X6_copy_L166 hw hA x1 x2 x3 x4 x5 (0 : Int32) _ (fun  M49 => ?_) _ _ _
                              refine WO.iload (n := 229) hA dX6_copy_227 0 rfl rfl ?_
                              exact WO.iret hA dX6_copy_229
                            · refine WO.iconst (x := (1 : Int32)) (n := 157) hA dX6_copy_156 (by decide) rfl ?_
                              refine WO.goto (n := 161) hA dX6_copy_157 (by decide) ?_
                              refine WO.istore (lv' := [(7, .int (1 : Int32)), (6, .int (0 : Int32)), (0, .ref (w.2.1 0)), (1, .int x1), (2, .int x2), (3, .int x3), (4, .int x4), (5, .int x5)]) (n := 163) hA dX6_copy_161 (by decide) rfl rfl ?_
                              refine WO.iconst (x := (0 : Int32)) (n := 164) hA dX6_copy_163 (by decide) rfl ?_
                              refine WO.istore (lv' := [(8, .int (0 : Int32)), (7, .int (1 : Int32)), (6, .int (0 : Int32)), (0, .ref (w.2.1 0)), (1, .int x1), (2, .int x2), (3, .int x3), (4, .int x4), (5, .int x5)]) (n := 166) hA dX6_copy_164 (by decide) rfl rfl ?_
                              refine WO.sub (lv' := [(0, .ref (w.2.1 0)), (1, .int x1), (2, .int x2), (3, .int x3), (4, .int x4), (5, .int x5), (7, .int (1 : Int32)), (8, .int (0 : Int32))]) [3, 4, 5, 6, 7, 8, 1, 0] rfl ?_
                              refine w_X6_copy_L166 hw hA x1 x2 x3 x4 x5 (1 : Int32) _ (fun  M50 => ?_) _ _ _
                              refine WO.iload (n := 229) hA dX6_copy_227 0 rfl rfl ?_
                              exact WO.iret hA dX6_copy_229
                          · refine WO.aload_n (n := 145) hA dX6_copy_144 1 rfl rfl ?_
                            refine WO.iconst (x := (3 : Int32)) (n := 146) hA dX6_copy_145 (by decide) rfl ?_
                            refine WO.callVi (As := [.int (3 : Int32)]) (rest := []) (n := 149) hA (c_X6_fails v.2.1 w hw (3 : Int32) M4) gX6_copy_X6_fails rfl (m_0 hw) rfl mdX6_fails ⟨rfl, rfl, Nat.le_of_ble_eq_true rfl, Nat.le_of_ble_eq_true rfl⟩ rfl rfl (Nat.le_of_ble_eq_true rfl) dX6_copy_146 rfl (fun r52 M51 => ?_)
                            exact WO.iret hA dX6_copy_149
                    · refine WO.iconst (x := (1 : Int32)) (n := 106) hA dX6_copy_105 (by decide) rfl ?_
                      refine WO.goto (n := 110) hA dX6_copy_106 (by decide) ?_
                      refine WO.istore (lv' := [(6, .int (1 : Int32)), (0, .ref (w.2.1 0)), (1, .int x1), (2, .int x2), (3, .int x3), (4, .int x4), (5, .int x5)]) (n := 112) hA dX6_copy_110 (by decide) rfl rfl ?_
                      refine WO.iload (n := 114) hA dX6_copy_112 0 rfl rfl ?_
                      refine WO.if_eq (tg := 144) (n := 117) hA dX6_copy_114 (by decide) rfl (fun _ => ?_) (fun _ => ?_)
                      · refine WO.aload_n (n := 145) hA dX6_copy_144 1 rfl rfl ?_
                        refine WO.iconst (x := (3 : Int32)) (n := 146) hA dX6_copy_145 (by decide) rfl ?_
                        refine WO.callVi (As := [.int (3 : Int32)]) (rest := []) (n := 149) hA (c_X6_fails v.2.1 w hw (3 : Int32) M4) gX6_copy_X6_fails rfl (m_0 hw) rfl mdX6_fails ⟨rfl, rfl, Nat.le_of_ble_eq_true rfl, Nat.le_of_ble_eq_true rfl⟩ rfl rfl (Nat.le_of_ble_eq_true rfl) dX6_copy_146 rfl (fun r54 M53 => ?_)
                        exact WO.iret hA dX6_copy_149
                      · refine WO.iload (n := 119) hA dX6_copy_117 6 rfl rfl ?_
                        refine WO.aload_n (n := 120) hA dX6_copy_119 1 rfl rfl ?_
                        refine WO.getR (j := 3) (p := 2) (n := 123) hA (m_0 hw) rfl fiX6_copy_X6 (by decide) rfl fkX6_copy_13 dX6_copy_120 rfl ?_
                        refine WO.iload_n (n := 124) hA dX6_copy_123 2 rfl rfl ?_
                        refine WO.iald (n := 125) hA (m_2 hw) dX6_copy_124 rfl (fun _ => ?_)
                        refine WO.iload_n (n := 126) hA dX6_copy_125 3 rfl rfl ?_
                        refine WO.isub (n := 127) hA dX6_copy_126 rfl ?_
                        refine WO.icmp_gt (tg := 144) (n := 130) hA dX6_copy_127 (by decide) rfl (fun _ => ?_) (fun _ => ?_)
                        · refine WO.aload_n (n := 145) hA dX6_copy_144 1 rfl rfl ?_
                          refine WO.iconst (x := (3 : Int32)) (n := 146) hA dX6_copy_145 (by decide) rfl ?_
                          refine WO.callVi (As := [.int (3 : Int32)]) (rest := []) (n := 149) hA (c_X6_fails v.2.1 w hw (3 : Int32) M4) gX6_copy_X6_fails rfl (m_0 hw) rfl mdX6_fails ⟨rfl, rfl, Nat.le_of_ble_eq_true rfl, Nat.le_of_ble_eq_true rfl⟩ rfl rfl (Nat.le_of_ble_eq_true rfl) dX6_copy_146 rfl (fun r56 M55 => ?_)
                          exact WO.iret hA dX6_copy_149
                        · refine WO.iload (n := 132) hA dX6_copy_130 6 rfl rfl ?_
                          refine WO.aload_n (n := 133) hA dX6_copy_132 1 rfl rfl ?_
                          refine WO.getR (j := 3) (p := 2) (n := 136) hA (m_0 hw) rfl fiX6_copy_X6 (by decide) rfl fkX6_copy_13 dX6_copy_133 rfl ?_
                          refine WO.iload_n (n := 137) hA dX6_copy_136 4 rfl rfl ?_
                          refine WO.iald (n := 138) hA (m_2 hw) dX6_copy_137 rfl (fun _ => ?_)
                          refine WO.iload (n := 140) hA dX6_copy_138 5 rfl rfl ?_
                          refine WO.isub (n := 141) hA dX6_copy_140 rfl ?_
                          refine WO.icmp_le (tg := 150) (n := 144) hA dX6_copy_141 (by decide) rfl (fun _ => ?_) (fun _ => ?_)
                          · refine WO.iload_n (n := 151) hA dX6_copy_150 3 rfl rfl ?_
                            refine WO.iload (n := 153) hA dX6_copy_151 5 rfl rfl ?_
                            refine WO.icmp_ge (tg := 160) (n := 156) hA dX6_copy_153 (by decide) rfl (fun _ => ?_) (fun _ => ?_)
                            · refine WO.iconst (x := (0 : Int32)) (n := 161) hA dX6_copy_160 (by decide) rfl ?_
                              refine WO.istore (lv' := [(7, .int (0 : Int32)), (6, .int (1 : Int32)), (0, .ref (w.2.1 0)), (1, .int x1), (2, .int x2), (3, .int x3), (4, .int x4), (5, .int x5)]) (n := 163) hA dX6_copy_161 (by decide) rfl rfl ?_
                              refine WO.iconst (x := (0 : Int32)) (n := 164) hA dX6_copy_163 (by decide) rfl ?_
                              refine WO.istore (lv' := [(8, .int (0 : Int32)), (7, .int (0 : Int32)), (6, .int (1 : Int32)), (0, .ref (w.2.1 0)), (1, .int x1), (2, .int x2), (3, .int x3), (4, .int x4), (5, .int x5)]) (n := 166) hA dX6_copy_164 (by decide) rfl rfl ?_
                              refine WO.sub (lv' := [(0, .ref (w.2.1 0)), (1, .int x1), (2, .int x2), (3, .int x3), (4, .int x4), (5, .int x5), (7, .int (0 : Int32)), (8, .int (0 : Int32))]) [3, 4, 5, 6, 7, 8, 1, 0] rfl ?_
                              refine w_X6_copy_L166 hw hA x1 x2 x3 x4 x5 (0 : Int32) _ (fun  M57 => ?_) _ _ _
                              refine WO.iload (n := 229) hA dX6_copy_227 0 rfl rfl ?_
                              exact WO.iret hA dX6_copy_229
                            · refine WO.iconst (x := (1 : Int32)) (n := 157) hA dX6_copy_156 (by decide) rfl ?_
                              refine WO.goto (n := 161) hA dX6_copy_157 (by decide) ?_
                              refine WO.istore (lv' := [(7, .int (1 : Int32)), (6, .int (1 : Int32)), (0, .ref (w.2.1 0)), (1, .int x1), (2, .int x2), (3, .int x3), (4, .int x4), (5, .int x5)]) (n := 163) hA dX6_copy_161 (by decide) rfl rfl ?_
                              refine WO.iconst (x := (0 : Int32)) (n := 164) hA dX6_copy_163 (by decide) rfl ?_
                              refine WO.istore (lv' := [(8, .int (0 : Int32)), (7, .int (1 : Int32)), (6, .int (1 : Int32)), (0, .ref (w.2.1 0)), (1, .int x1), (2, .int x2), (3, .int x3), (4, .int x4), (5, .int x5)]) (n := 166) hA dX6_copy_164 (by decide) rfl rfl ?_
                              refine WO.sub (lv' := [(0, .ref (w.2.1 0)), (1, .int x1), (2, .int x2), (3, .int x3), (4, .int x4), (5, .int x5), (7, .int (1 : Int32)), (8, .int (0 : Int32))]) [3, 4, 5, 6, 7, 8, 1, 0] rfl ?_
                              refine w_X6_copy_L166 hw hA x1 x2 x3 x4 x5 (1 : Int32) _ (fun  M58 => ?_) _ _ _
                              refine WO.iload (n := 229) hA dX6_copy_227 0 rfl rfl ?_
                              exact WO.iret hA dX6_copy_229
                          · refine WO.aload_n (n := 145) hA dX6_copy_144 1 rfl rfl ?_
                            refine WO.iconst (x := (3 : Int32)) (n := 146) hA dX6_copy_145 (by decide) rfl ?_
                            refine WO.callVi (As := [.int (3 : Int32)]) (rest := []) (n := 149) hA (c_X6_fails v.2.1 w hw (3 : Int32) M4) gX6_copy_X6_fails rfl (m_0 hw) rfl mdX6_fails ⟨rfl, rfl, Nat.le_of_ble_eq_true rfl, Nat.le_of_ble_eq_true rfl⟩ rfl rfl (Nat.le_of_ble_eq_true rfl) dX6_copy_146 rfl (fun r60 M59 => ?_)
                            exact WO.iret hA dX6_copy_149
          · refine WO.aload_n (n := 65) hA dX6_copy_64 0 rfl rfl ?_
            refine WO.iconst (x := (2 : Int32)) (n := 66) hA dX6_copy_65 (by decide) rfl ?_
            refine WO.callVi (As := [.int (2 : Int32)]) (rest := []) (n := 69) hA (c_X6_fails v.2.1 w hw (2 : Int32) M4) gX6_copy_X6_fails rfl (m_0 hw) rfl mdX6_fails ⟨rfl, rfl, Nat.le_of_ble_eq_true rfl, Nat.le_of_ble_eq_true rfl⟩ rfl rfl (Nat.le_of_ble_eq_true rfl) dX6_copy_66 rfl (fun r62 M61 => ?_)
            exact WO.iret hA dX6_copy_69
/- X6_begins -/
abbrev rmX6_begins : Room := { frames := 0, cells := 0, slots := 0, locals := 0 }
theorem mdX6_begins : yX6_begins.cls = RX6 ∧ yX6_begins.cls ≠ "java/lang/invoke/MethodHandle" ∧ yX6_begins.cls ≠ "java/lang/invoke/VarHandle" ∧ (parseMethodDescriptor yX6_begins.desc).map (fun d => d.parameters.length) = some 1 := by decide +kernel
theorem fkX6_begins_222 : Cond.fieldLink RX6 222 (TX6 1).1 (TX6 1).2.1 (TX6 1).2.2.1 ∈ wsX6_begins := by decide +kernel
theorem fiX6_begins_X6 : ∀ q ∈ u_ws RX6 TX6 30, q ∈ wsX6_begins := by decide +kernel
noncomputable def f_X6_begins (x1 : Int32) (M : Mem) : Option (Unit × Mem) := mlt (mu M 0 1 (((31 : Int32) * (M 0 1)) + x1)) (fun M1 => some ((), M1))
set_option maxHeartbeats 4000000 in
set_option maxRecDepth 100000 in
theorem c_X6_begins (l : Launch) (w : Cw) (hw : w.2.2.2.2.2 = shM) (x1 : Int32) (M : Mem) : Ok l w eV yX6_begins wsX6_begins rmX6_begins [.ref (w.2.1 0), .int x1] M (f_X6_begins x1 M) := by
  refine Ok.of (cc := cX6_begins) (nL := 2) (ret := none) (lv := [(0, .ref (w.2.1 0)), (1, .int x1)]) (by decide) rfl (Nat.le_of_ble_eq_true rfl) rfl (fun v hv hA => ?_)
  subst hv
  have hA : Act v w RX6 wsX6_begins cX6_begins 2 none := hA
  unfold f_X6_begins
  refine WO.aload_n (n := 1) hA dX6_begins_0 0 rfl rfl ?_
  refine WO.bipush (x := (31 : Int32)) (n := 3) hA dX6_begins_1 (by decide) rfl ?_
  refine WO.aload_n (n := 4) hA dX6_begins_3 0 rfl rfl ?_
  refine WO.getI (j := 1) (n := 7) hA (m_0 hw) rfl fiX6_begins_X6 (by decide) rfl fkX6_begins_222 dX6_begins_4 rfl ?_
  refine WO.imul (n := 8) hA dX6_begins_7 rfl ?_
  refine WO.iload_n (n := 9) hA dX6_begins_8 1 rfl rfl ?_
  refine WO.iadd (n := 10) hA dX6_begins_9 rfl ?_
  refine WO.putI (j := 1) (n := 13) hA (m_0 hw) rfl fiX6_begins_X6 tyX6 tyX6_ok nmX6 (by decide) rfl fkX6_begins_222 rfl rfl rfl rfl dX6_begins_10 rfl ?_
  refine WO.mem (fun M1 => ?_)
  exact WO.vret hA dX6_begins_13
/- X6_tell -/
abbrev rmX6_tell : Room := { frames := 1, cells := 0, slots := 0, locals := 21 }
theorem mdX6_tell : yX6_tell.cls = RX6 ∧ yX6_tell.cls ≠ "java/lang/invoke/MethodHandle" ∧ yX6_tell.cls ≠ "java/lang/invoke/VarHandle" ∧ (parseMethodDescriptor yX6_tell.desc).map (fun d => d.parameters.length) = some 1 := by decide +kernel
theorem fkX6_tell_22 : Cond.fieldLink RX6 22 (TX6 11).1 (TX6 11).2.1 (TX6 11).2.2.1 ∈ wsX6_tell := by decide +kernel
theorem fiX6_tell_X6 : ∀ q ∈ u_ws RX6 TX6 30, q ∈ wsX6_tell := by decide +kernel
theorem fkX6_tell_19 : Cond.fieldLink RX6 19 (TX6 10).1 (TX6 10).2.1 (TX6 10).2.2.1 ∈ wsX6_tell := by decide +kernel
noncomputable def f_X6_tell (x1 : Int32) (M : Mem) : Option (Int32 × Mem) := bd (f_X6_isHouse x1 M) (fun r2 M1 => if r2 = 0 then (some ((-1 : Int32), M1)) else (grd x1 6 (ilt (M1 5 x1.toNatClampNeg) (fun x_3 => grd x1 6 (if (M1 4 x1.toNatClampNeg) = (1 : Int32) then (bd (f_X6_begins (2 : Int32) M1) (fun _ M5 => bd (f_X6_begins (1 : Int32) M5) (fun _ M6 => some ((x_3 + (100 : Int32)), M6)))) else if (M1 4 x1.toNatClampNeg) = (2 : Int32) then (bd (f_X6_begins (3 : Int32) M1) (fun _ M8 => bd (f_X6_begins (2 : Int32) M8) (fun _ M9 => bd (f_X6_begins (1 : Int32) M9) (fun _ M10 => bd (f_X6_begins (1 : Int32) M10) (fun _ M11 => some ((((2 : Int32) * x_3) + (100 : Int32)), M11)))))) else (bd (f_X6_begins (1 : Int32) M1) (fun _ M12 => some (x_3, M12))))))))
set_option maxHeartbeats 4000000 in
set_option maxRecDepth 100000 in
theorem c_X6_tell (l : Launch) (w : Cw) (hw : w.2.2.2.2.2 = shM) (x1 : Int32) (M : Mem) : Ok l w eI yX6_tell wsX6_tell rmX6_tell [.ref (w.2.1 0), .int x1] M (f_X6_tell x1 M) := by
  refine Ok.of (cc := cX6_tell) (nL := 3) (ret := (some .int)) (lv := [(0, .ref (w.2.1 0)), (1, .int x1)]) (by decide) rfl (Nat.le_of_ble_eq_true rfl) rfl (fun v hv hA => ?_)
  subst hv
  have hA : Act v w RX6 wsX6_tell cX6_tell 3 (some .int) := hA
  unfold f_X6_tell
  refine WO.aload_n (n := 1) hA dX6_tell_0 0 rfl rfl ?_
  refine WO.iload_n (n := 2) hA dX6_tell_1 1 rfl rfl ?_
  refine WO.callVi (As := [.int x1]) (rest := []) (n := 5) hA (c_X6_isHouse v.2.1 w hw x1 M) gX6_tell_X6_isHouse rfl (m_0 hw) rfl mdX6_isHouse ⟨rfl, rfl, Nat.le_of_ble_eq_true rfl, Nat.le_of_ble_eq_true rfl⟩ rfl rfl (Nat.le_of_ble_eq_true rfl) dX6_tell_2 rfl (fun r2 M1 => ?_)
  refine WO.if_ne (tg := 10) (n := 8) hA dX6_tell_5 (by decide) rfl (fun _ => ?_) (fun _ => ?_)
  · refine WO.iconst (x := (-1 : Int32)) (n := 9) hA dX6_tell_8 (by decide) rfl ?_
    exact WO.iret hA dX6_tell_9
  · refine WO.aload_n (n := 11) hA dX6_tell_10 0 rfl rfl ?_
    refine WO.getR (j := 11) (p := 5) (n := 14) hA (m_0 hw) rfl fiX6_tell_X6 (by decide) rfl fkX6_tell_22 dX6_tell_11 rfl ?_
    refine WO.iload_n (n := 15) hA dX6_tell_14 1 rfl rfl ?_
    refine WO.iald (n := 16) hA (m_5 hw) dX6_tell_15 rfl (fun _ => ?_)
    refine WO.top (fun x_3 => ?_)
    refine WO.istore_n (i := 2) (lv' := [(2, .int x_3), (0, .ref (w.2.1 0)), (1, .int x1)]) (n := 17) hA dX6_tell_16 rfl (by decide) rfl rfl ?_
    refine WO.aload_n (n := 18) hA dX6_tell_17 1 rfl rfl ?_
    refine WO.getR (j := 10) (p := 4) (n := 21) hA (m_0 hw) rfl fiX6_tell_X6 (by decide) rfl fkX6_tell_19 dX6_tell_18 rfl ?_
    refine WO.iload_n (n := 22) hA dX6_tell_21 2 rfl rfl ?_
    refine WO.iald (n := 23) hA (m_4 hw) dX6_tell_22 rfl (fun _ => ?_)
    refine WO.ite (fun hs4 => ?_) (fun hs4 => ?_)
    · refine WO.lsw (n := 48) hA dX6_tell_23 (by decide) (by rw [hs4]; decide +kernel : _ = (25 : Int)) (by decide) ?_
      refine WO.aload_n (n := 49) hA dX6_tell_48 1 rfl rfl ?_
      refine WO.iconst (x := (2 : Int32)) (n := 50) hA dX6_tell_49 (by decide) rfl ?_
      refine WO.callVv (As := [.int (2 : Int32)]) (rest := []) (n := 53) hA (c_X6_begins v.2.1 w hw (2 : Int32) M1) gX6_tell_X6_begins rfl (m_0 hw) rfl mdX6_begins ⟨rfl, rfl, Nat.le_of_ble_eq_true rfl, Nat.le_of_ble_eq_true rfl⟩ rfl rfl (Nat.le_of_ble_eq_true rfl) dX6_tell_50 rfl (fun M5 => ?_)
      refine WO.aload_n (n := 54) hA dX6_tell_53 1 rfl rfl ?_
      refine WO.iconst (x := (1 : Int32)) (n := 55) hA dX6_tell_54 (by decide) rfl ?_
      refine WO.callVv (As := [.int (1 : Int32)]) (rest := []) (n := 58) hA (c_X6_begins v.2.1 w hw (1 : Int32) M5) gX6_tell_X6_begins rfl (m_0 hw) rfl mdX6_begins ⟨rfl, rfl, Nat.le_of_ble_eq_true rfl, Nat.le_of_ble_eq_true rfl⟩ rfl rfl (Nat.le_of_ble_eq_true rfl) dX6_tell_55 rfl (fun M6 => ?_)
      refine WO.iload_n (n := 59) hA dX6_tell_58 0 rfl rfl ?_
      refine WO.bipush (x := (100 : Int32)) (n := 61) hA dX6_tell_59 (by decide) rfl ?_
      refine WO.iadd (n := 62) hA dX6_tell_61 rfl ?_
      exact WO.iret hA dX6_tell_62
    · refine WO.ite (fun hs7 => ?_) (fun hs7 => ?_)
      · refine WO.lsw (n := 63) hA dX6_tell_23 (by decide) (by rw [hs7]; decide +kernel : _ = (40 : Int)) (by decide) ?_
        refine WO.aload_n (n := 64) hA dX6_tell_63 1 rfl rfl ?_
        refine WO.iconst (x := (3 : Int32)) (n := 65) hA dX6_tell_64 (by decide) rfl ?_
        refine WO.callVv (As := [.int (3 : Int32)]) (rest := []) (n := 68) hA (c_X6_begins v.2.1 w hw (3 : Int32) M1) gX6_tell_X6_begins rfl (m_0 hw) rfl mdX6_begins ⟨rfl, rfl, Nat.le_of_ble_eq_true rfl, Nat.le_of_ble_eq_true rfl⟩ rfl rfl (Nat.le_of_ble_eq_true rfl) dX6_tell_65 rfl (fun M8 => ?_)
        refine WO.aload_n (n := 69) hA dX6_tell_68 1 rfl rfl ?_
        refine WO.iconst (x := (2 : Int32)) (n := 70) hA dX6_tell_69 (by decide) rfl ?_
        refine WO.callVv (As := [.int (2 : Int32)]) (rest := []) (n := 73) hA (c_X6_begins v.2.1 w hw (2 : Int32) M8) gX6_tell_X6_begins rfl (m_0 hw) rfl mdX6_begins ⟨rfl, rfl, Nat.le_of_ble_eq_true rfl, Nat.le_of_ble_eq_true rfl⟩ rfl rfl (Nat.le_of_ble_eq_true rfl) dX6_tell_70 rfl (fun M9 => ?_)
        refine WO.aload_n (n := 74) hA dX6_tell_73 1 rfl rfl ?_
        refine WO.iconst (x := (1 : Int32)) (n := 75) hA dX6_tell_74 (by decide) rfl ?_
        refine WO.callVv (As := [.int (1 : Int32)]) (rest := []) (n := 78) hA (c_X6_begins v.2.1 w hw (1 : Int32) M9) gX6_tell_X6_begins rfl (m_0 hw) rfl mdX6_begins ⟨rfl, rfl, Nat.le_of_ble_eq_true rfl, Nat.le_of_ble_eq_true rfl⟩ rfl rfl (Nat.le_of_ble_eq_true rfl) dX6_tell_75 rfl (fun M10 => ?_)
        refine WO.aload_n (n := 79) hA dX6_tell_78 1 rfl rfl ?_
        refine WO.iconst (x := (1 : Int32)) (n := 80) hA dX6_tell_79 (by decide) rfl ?_
        refine WO.callVv (As := [.int (1 : Int32)]) (rest := []) (n := 83) hA (c_X6_begins v.2.1 w hw (1 : Int32) M10) gX6_tell_X6_begins rfl (m_0 hw) rfl mdX6_begins ⟨rfl, rfl, Nat.le_of_ble_eq_true rfl, Nat.le_of_ble_eq_true rfl⟩ rfl rfl (Nat.le_of_ble_eq_true rfl) dX6_tell_80 rfl (fun M11 => ?_)
        refine WO.iconst (x := (2 : Int32)) (n := 84) hA dX6_tell_83 (by decide) rfl ?_
        refine WO.iload_n (n := 85) hA dX6_tell_84 0 rfl rfl ?_
        refine WO.imul (n := 86) hA dX6_tell_85 rfl ?_
        refine WO.bipush (x := (100 : Int32)) (n := 88) hA dX6_tell_86 (by decide) rfl ?_
        refine WO.iadd (n := 89) hA dX6_tell_88 rfl ?_
        exact WO.iret hA dX6_tell_89
      · refine WO.lsw (off := 67) (n := 90) hA dX6_tell_23 (by decide) ((lv_osw hs4 (by decide)).trans ((lv_osw hs7 (by decide)).trans rfl)) (by decide) ?_
        refine WO.aload_n (n := 91) hA dX6_tell_90 1 rfl rfl ?_
        refine WO.iconst (x := (1 : Int32)) (n := 92) hA dX6_tell_91 (by decide) rfl ?_
        refine WO.callVv (As := [.int (1 : Int32)]) (rest := []) (n := 95) hA (c_X6_begins v.2.1 w hw (1 : Int32) M1) gX6_tell_X6_begins rfl (m_0 hw) rfl mdX6_begins ⟨rfl, rfl, Nat.le_of_ble_eq_true rfl, Nat.le_of_ble_eq_true rfl⟩ rfl rfl (Nat.le_of_ble_eq_true rfl) dX6_tell_92 rfl (fun M12 => ?_)
        refine WO.iload_n (n := 96) hA dX6_tell_95 0 rfl rfl ?_
        exact WO.iret hA dX6_tell_96
