/-! ===== the law: its loop, its start ===== -/
set_option maxHeartbeats 4000000 in
set_option maxRecDepth 100000 in
theorem loopL {p : Program} {l : Launch} {e : Env} {s : State} {m : MethodId} {below : List Frame} {meth : Method} {c : Code} {D : va_G} {cA : Nat → ClassId} {A : Nat → Prop} {ax am : Nat → Nat} {b L : Nat} {xs : Nat → Int32} (hC : LC (p, l, e, s, m, #[Value.ref b], below, meth, c) D cA A b L xs) (hAx : ∀ q, A q → s.heap.size ≤ q) : ∀ (k i : Nat) (M N : Mem), L - i < k → i ≤ 3078 → Inv M N → LO (p, l, e, s, m, #[Value.ref b], below, meth, c) D cA A (lw_Z below #[Value.ref b] s) ax am b i 18 [] M N := by
  intro k
  induction k with
  | zero => intro i M N h; omega
  | succ k ih =>
    intro i M N hk hi hI
    have hC0 := hC
    obtain ⟨hA, hX, hbl, hbA, hL⟩ := hC0
    refine CO.iload_n (n := 19) hA dL_law_18 0 rfl rfl ?_
    refine CO.aload_n (n := 20) hA dL_law_19 3 rfl rfl ?_
    refine CO.slen (n := 21) hA hX hbl hbA dL_law_20 rfl ?_
    refine CO.bipush (x := 6) (n := 23) hA dL_law_21 (by decide) rfl ?_
    refine CO.isub (n := 24) hA dL_law_23 rfl ?_
    refine CO.icmp_gt (tg := 1289) (n := 27) hA dL_law_24 rfl rfl (fun hgt => ?_) (fun hle => ?_)
    · refine CO.iconst (x := 1) (n := 1290) hA dL_law_1289 (by decide) rfl ?_
      intro H locs ls hP hD hS hl
      refine va_forget (fun q hq => hAx _ (hS.2.2 q hq)) ?_
      refine W.widen (k := 600000) (n := 7302250) (by decide) (by decide) ?_
      exact lw_ret hA.1 hA.2.1 hA.2.2.1 hA.2.2.2.1 dL_law_1290
    · have hi6 : i + 6 ≤ L := by
        rw [I_6, I_sub, I_lt (by omega) (by omega)] at hle
        omega
      refine CO.aload_n (n := 28) hA dL_law_27 3 rfl rfl ?_
      refine CO.iload_n (n := 29) hA dL_law_28 0 rfl rfl ?_
      refine CO.sld (n := 30) hA hX hbl hbA (by omega) hL dL_law_29 rfl ?_
      refine CO.bipush (x := 63) (n := 32) hA dL_law_30 (by decide) rfl ?_
      refine CO.iand (n := 33) hA dL_law_32 rfl ?_
      have next : ∀ M N, Inv M N → LO (p, l, e, s, m, #[Value.ref b], below, meth, c) D cA A (lw_Z below #[Value.ref b] s) ax am b i 1283 [] M N := fun M N hI => by
        refine CO.iinc (n := 1286) (y := I ((i + 6 : Nat) : Int)) (lv' := lvL ax am b (i + 6)) hA dL_law_1283 0 rfl ?_ (by decide) rfl rfl ?_
        · show I (i : Int) + I 6 = _
          rw [I_add]
          congr 1
        · refine CO.goto (n := 18) hA dL_law_1286 rfl ?_
          exact ih (i + 6) M N (by omega) (by omega) hI
      generalize xs i &&& 63 = x
      by_cases h : x.toInt < 0 ∨ 35 < x.toInt
      · exact CO.tabOut (n := 1283) hA dL_law_33 h rfl (next M N hI)
      · obtain ⟨j, hj, rfl⟩ : ∃ j : Nat, j ≤ 35 ∧ x = I j := by
          refine ⟨x.toInt.toNat, by omega, ?_⟩
          unfold I
          rw [Int.toNat_of_nonneg (by omega), Int32.ofInt_toInt]
        rcases (show j = 0 ∨ j = 1 ∨ j = 2 ∨ j = 3 ∨ j = 4 ∨ j = 5 ∨ j = 6 ∨ j = 7 ∨ j = 8 ∨ j = 9 ∨ j = 10 ∨ j = 11 ∨ j = 12 ∨ j = 13 ∨ j = 14 ∨ j = 15 ∨ j = 16 ∨ j = 17 ∨ j = 18 ∨ j = 19 ∨ j = 20 ∨ j = 21 ∨ j = 22 ∨ j = 23 ∨ j = 24 ∨ j = 25 ∨ j = 26 ∨ j = 27 ∨ j = 28 ∨ j = 29 ∨ j = 30 ∨ j = 31 ∨ j = 32 ∨ j = 33 ∨ j = 34 ∨ j = 35 by omega) with rfl | rfl | rfl | rfl | rfl | rfl | rfl | rfl | rfl | rfl | rfl | rfl | rfl | rfl | rfl | rfl | rfl | rfl | rfl | rfl | rfl | rfl | rfl | rfl | rfl | rfl | rfl | rfl | rfl | rfl | rfl | rfl | rfl | rfl | rfl | rfl
        · exact CO.tabIn (n := 192) (off := 159) hA dL_law_33 (by decide) (by decide) rfl rfl (case_0 hC hi6 hI next)
        · exact CO.tabIn (n := 245) (off := 212) hA dL_law_33 (by decide) (by decide) rfl rfl (case_1 hC hi6 hI next)
        · exact CO.tabIn (n := 278) (off := 245) hA dL_law_33 (by decide) (by decide) rfl rfl (case_2 hC hi6 hI next)
        · exact CO.tabIn (n := 311) (off := 278) hA dL_law_33 (by decide) (by decide) rfl rfl (case_3 hC hi6 hI next)
        · exact CO.tabIn (n := 344) (off := 311) hA dL_law_33 (by decide) (by decide) rfl rfl (case_4 hC hi6 hI next)
        · exact CO.tabIn (n := 377) (off := 344) hA dL_law_33 (by decide) (by decide) rfl rfl (case_5 hC hi6 hI next)
        · exact CO.tabIn (n := 400) (off := 367) hA dL_law_33 (by decide) (by decide) rfl rfl (case_6 hC hi6 hI next)
        · exact CO.tabIn (n := 434) (off := 401) hA dL_law_33 (by decide) (by decide) rfl rfl (case_7 hC hi6 hI next)
        · exact CO.tabIn (n := 457) (off := 424) hA dL_law_33 (by decide) (by decide) rfl rfl (case_8 hC hi6 hI next)
        · exact CO.tabIn (n := 480) (off := 447) hA dL_law_33 (by decide) (by decide) rfl rfl (case_9 hC hi6 hI next)
        · exact CO.tabIn (n := 503) (off := 470) hA dL_law_33 (by decide) (by decide) rfl rfl (case_10 hC hi6 hI next)
        · exact CO.tabIn (n := 526) (off := 493) hA dL_law_33 (by decide) (by decide) rfl rfl (case_11 hC hi6 hI next)
        · exact CO.tabIn (n := 559) (off := 526) hA dL_law_33 (by decide) (by decide) rfl rfl (case_12 hC hi6 hI next)
        · exact CO.tabIn (n := 622) (off := 589) hA dL_law_33 (by decide) (by decide) rfl rfl (case_13 hC hi6 hI next)
        · exact CO.tabIn (n := 655) (off := 622) hA dL_law_33 (by decide) (by decide) rfl rfl (case_14 hC hi6 hI next)
        · exact CO.tabIn (n := 688) (off := 655) hA dL_law_33 (by decide) (by decide) rfl rfl (case_15 hC hi6 hI next)
        · exact CO.tabIn (n := 701) (off := 668) hA dL_law_33 (by decide) (by decide) rfl rfl (case_16 hC hi6 hI next)
        · exact CO.tabIn (n := 724) (off := 691) hA dL_law_33 (by decide) (by decide) rfl rfl (case_17 hC hi6 hI next)
        · exact CO.tabIn (n := 747) (off := 714) hA dL_law_33 (by decide) (by decide) rfl rfl (case_18 hC hi6 hI next)
        · exact CO.tabIn (n := 800) (off := 767) hA dL_law_33 (by decide) (by decide) rfl rfl (case_19 hC hi6 hI next)
        · exact CO.tabIn (n := 823) (off := 790) hA dL_law_33 (by decide) (by decide) rfl rfl (case_20 hC hi6 hI next)
        · exact CO.tabIn (n := 846) (off := 813) hA dL_law_33 (by decide) (by decide) rfl rfl (case_21 hC hi6 hI next)
        · exact CO.tabIn (n := 869) (off := 836) hA dL_law_33 (by decide) (by decide) rfl rfl (case_22 hC hi6 hI next)
        · exact CO.tabIn (n := 892) (off := 859) hA dL_law_33 (by decide) (by decide) rfl rfl (case_23 hC hi6 hI next)
        · exact CO.tabIn (n := 905) (off := 872) hA dL_law_33 (by decide) (by decide) rfl rfl (case_24 hC hi6 hI next)
        · exact CO.tabIn (n := 939) (off := 906) hA dL_law_33 (by decide) (by decide) rfl rfl (case_25 hC hi6 hI next)
        · exact CO.tabIn (n := 982) (off := 949) hA dL_law_33 (by decide) (by decide) rfl rfl (case_26 hC hi6 hI next)
        · exact CO.tabIn (n := 1005) (off := 972) hA dL_law_33 (by decide) (by decide) rfl rfl (case_27 hC hi6 hI next)
        · exact CO.tabIn (n := 1048) (off := 1015) hA dL_law_33 (by decide) (by decide) rfl rfl (case_28 hC hi6 hI next)
        · exact CO.tabIn (n := 1092) (off := 1059) hA dL_law_33 (by decide) (by decide) rfl rfl (case_29 hC hi6 hI next)
        · exact CO.tabIn (n := 1155) (off := 1122) hA dL_law_33 (by decide) (by decide) rfl rfl (case_30 hC hi6 hI next)
        · exact CO.tabIn (n := 1178) (off := 1145) hA dL_law_33 (by decide) (by decide) rfl rfl (case_31 hC hi6 hI next)
        · exact CO.tabIn (n := 1201) (off := 1168) hA dL_law_33 (by decide) (by decide) rfl rfl (case_32 hC hi6 hI next)
        · exact CO.tabIn (n := 1234) (off := 1201) hA dL_law_33 (by decide) (by decide) rfl rfl (case_33 hC hi6 hI next)
        · exact CO.tabIn (n := 1247) (off := 1214) hA dL_law_33 (by decide) (by decide) rfl rfl (case_34 hC hi6 hI next)
        · exact CO.tabIn (n := 1260) (off := 1227) hA dL_law_33 (by decide) (by decide) rfl rfl (case_35 hC hi6 hI next)
theorem df_X5 : ∀ j, j < 10 → defaultValue (tyX5 j) = vp_V [.null, .null, .null, .null, .null, .null, .null, .int 0, .int 0, .int 0] j := fun j hj => by
  rcases (show j = 0 ∨ j = 1 ∨ j = 2 ∨ j = 3 ∨ j = 4 ∨ j = 5 ∨ j = 6 ∨ j = 7 ∨ j = 8 ∨ j = 9 by omega) with rfl | rfl | rfl | rfl | rfl | rfl | rfl | rfl | rfl | rfl <;> rfl
theorem df_X6 : ∀ j, j < 30 → defaultValue (tyX6 j) = vp_V [.int 0, .int 0, .null, .null, .null, .int 0, .int 0, .int 0, .int 0, .int 0, .null, .null, .null, .null, .int 0, .int 0, .int 0, .int 0, .null, .null, .int 0, .int 0, .null, .null, .null, .int 0, .null, .null, .null, .null] j := fun j hj => by
  rcases (show j = 0 ∨ j = 1 ∨ j = 2 ∨ j = 3 ∨ j = 4 ∨ j = 5 ∨ j = 6 ∨ j = 7 ∨ j = 8 ∨ j = 9 ∨ j = 10 ∨ j = 11 ∨ j = 12 ∨ j = 13 ∨ j = 14 ∨ j = 15 ∨ j = 16 ∨ j = 17 ∨ j = 18 ∨ j = 19 ∨ j = 20 ∨ j = 21 ∨ j = 22 ∨ j = 23 ∨ j = 24 ∨ j = 25 ∨ j = 26 ∨ j = 27 ∨ j = 28 ∨ j = 29 by omega) with rfl | rfl | rfl | rfl | rfl | rfl | rfl | rfl | rfl | rfl | rfl | rfl | rfl | rfl | rfl | rfl | rfl | rfl | rfl | rfl | rfl | rfl | rfl | rfl | rfl | rfl | rfl | rfl | rfl | rfl <;> rfl
def NN0 : Mem := fun r => match r with
  | 1 => upd (upd (upd (upd (fun _ => 0) 0 (-9)) 1 (-9)) 2 (-9)) 3 (-9)
  | _ => fun _ => 0
theorem segMo_eq (cA : Nat → ClassId) (a : Nat → Nat) : segMo cA a = w_list a cA NN0 0 shM := rfl
theorem Inv0 : Inv (fun _ _ => 0) NN0 := by
  refine ⟨⟨(0, 0, 0, fun _ _ => 0), 0, fun _ _ => 0, fun _ _ => 0, ⟨⟨by decide, by decide, by decide, fun h hh => absurd hh (Nat.not_lt_zero h), fun h hh => absurd hh (Nat.not_lt_zero h)⟩, Or.inl ⟨rfl, rfl⟩⟩, ⟨rfl, rfl, rfl, fun h hh => absurd hh (Nat.not_lt_zero h), fun h hh => absurd hh (Nat.not_lt_zero h)⟩, ⟨rfl, rfl, rfl, fun h hh => absurd hh (Nat.not_lt_zero h), fun h hh => absurd hh (Nat.not_lt_zero h), rfl⟩, ⟨by decide, rfl, rfl, fun h hh => absurd hh (Nat.not_lt_zero h)⟩, fun k hk => ⟨⟨Nat.zero_le _, Nat.zero_le _, Nat.zero_le _⟩, ⟨rfl, rfl, rfl⟩, ?_, rfl, fun i _ => rfl⟩, rfl, rfl⟩, rfl⟩
  rcases (show k = 0 ∨ k = 1 ∨ k = 2 ∨ k = 3 by omega) with rfl | rfl | rfl | rfl <;> rfl
set_option maxHeartbeats 4000000 in
set_option maxRecDepth 100000 in
theorem law_K {s : State} {a : Array Value} (hts : ∀ w ∈ lw_tbl, w.before a s = true) : ∃ (D : va_G) (cA : Nat → ClassId), va_K D vwCl (w_tys cA) s := by
  obtain ⟨c0, iS0, hKn0⟩ := u_known (C := RX0) (T := TX0) (N := 3) (n := 3) hts inX0 (hts (.instantiable RX0 3) (List.mem_of_getElem? (i := 168) (by decide +kernel)))
  obtain ⟨c1, iS1, hKn1⟩ := u_known (C := RX1) (T := TX1) (N := 5) (n := 5) hts inX1 (hts (.instantiable RX1 5) (List.mem_of_getElem? (i := 145) (by decide +kernel)))
  obtain ⟨c2, iS2, hKn2⟩ := u_known (C := RX2) (T := TX2) (N := 4) (n := 4) hts inX2 (hts (.instantiable RX2 4) (List.mem_of_getElem? (i := 188) (by decide +kernel)))
  obtain ⟨c3, iS3, hKn3⟩ := u_known (C := RX3) (T := TX3) (N := 10) (n := 10) hts inX3 (hts (.instantiable RX3 10) (List.mem_of_getElem? (i := 75) (by decide +kernel)))
  obtain ⟨c4, iS4, hKn4⟩ := u_known (C := RX4) (T := TX4) (N := 3) (n := 3) hts inX4 (hts (.instantiable RX4 3) (List.mem_of_getElem? (i := 129) (by decide +kernel)))
  obtain ⟨c5, iS5, hKn5⟩ := u_known (C := RX5) (T := TX5) (N := 10) (n := 10) hts inX5 (hts (.instantiable RX5 10) (List.mem_of_getElem? (i := 67) (by decide +kernel)))
  obtain ⟨c6, iS6, hKn6⟩ := u_known (C := RX6) (T := TX6) (N := 30) (n := 30) hts inX6 (hts (.instantiable RX6 30) (List.mem_of_getElem? (i := 636) (by decide +kernel)))
  obtain ⟨d0, k0, m0, f0, g0, e0⟩ := Cond.arrayClass_spec (hts (.arrayClass .int) (List.mem_of_getElem? (i := 126) (by decide +kernel)))
  obtain ⟨d1, k1, m1, f1, g1, e1⟩ := Cond.arrayClass_spec (hts (.arrayClass .boolean) (List.mem_of_getElem? (i := 127) (by decide +kernel)))
  obtain ⟨m2, d2, k2, f2, _, g2, e2, h2⟩ := Cond.arrayOver_spec (hts (.arrayOver (.object "ClockWakers$Sheet")) (List.mem_of_getElem? (i := 187) (by decide +kernel)))
  obtain ⟨m3, d3, k3, f3, _, g3, e3, h3⟩ := arrayOverA_spec (hts (.arrayOver (.array .int)) (List.mem_of_getElem? (i := 174) (by decide +kernel)))
  refine ⟨(fun k => match k with | 0 => c0 | 1 => c1 | 2 => c2 | 3 => c3 | 4 => c4 | 5 => c5 | _ => c6, fun k => match k with | 0 => iS0 | 1 => iS1 | 2 => iS2 | 3 => iS3 | 4 => iS4 | 5 => iS5 | _ => iS6), (fun t => match t with | 0 => d0 | 1 => d1 | 2 => d2 | _ => d3), ?_, ?_⟩
  · intro k q hq
    match k, hq with
    | 0, hq => cases hq; exact hKn0
    | 1, hq => cases hq; exact hKn1
    | 2, hq => cases hq; exact hKn2
    | 3, hq => cases hq; exact hKn3
    | 4, hq => cases hq; exact hKn4
    | 5, hq => cases hq; exact hKn5
    | 6, hq => cases hq; exact hKn6
    | k + 7, hq => simp [vwCl] at hq
  · intro k q hq
    match k, hq with
    | 0, hq => cases hq; exact ⟨fun n z => ⟨fun k h => (by cases h), k0, g0, m0, e0⟩, f0⟩
    | 1, hq => cases hq; exact ⟨fun n z => ⟨fun k h => (by cases h), k1, g1, m1, e1⟩, f1⟩
    | 2, hq => cases hq; exact ⟨fun n z => ⟨fun k h => (by cases h), k2, g2, m2, e2⟩, k2, m2, g2, e2, f2, h2⟩
    | 3, hq => cases hq; exact ⟨fun n z => ⟨fun k h => (by cases h), k3, g3, m3, e3⟩, h3⟩
    | k + 4, hq => simp [w_tys] at hq
theorem law_Z {s U : State} {a : Array Value} (hts : ∀ w ∈ lw_tbl, w.before a s = true) (hW : s.WarmedH U.vm) : ZX U :=
  ⟨va_Nw.warmM hW (va_Nw.of rfl (hts (.methodLinkNest RX5 11 yX3_init RX5) (List.mem_of_getElem? (i := 76) (by decide +kernel)))), va_Nw.warmM hW (va_Nw.of rfl (hts (.methodLinkNest RX5 23 yX4_init RX5) (List.mem_of_getElem? (i := 130) (by decide +kernel)))), va_Nw.warmM hW (va_Nw.of rfl (hts (.methodLinkNest RX5 30 yX1_init RX5) (List.mem_of_getElem? (i := 146) (by decide +kernel)))), va_Nw.warmM hW (va_Nw.of rfl (hts (.methodLinkNest RX5 37 yX0_init RX5) (List.mem_of_getElem? (i := 169) (by decide +kernel)))), va_Nw.warmM hW (va_Nw.of rfl (hts (.methodLinkNest RX5 44 yX2_init RX5) (List.mem_of_getElem? (i := 189) (by decide +kernel)))), va_AO.moved hW.alike (va_AO.of (hts (.arrayOver (.object "ClockWakers$Sheet")) (List.mem_of_getElem? (i := 187) (by decide +kernel)))), va_AOA.warm hW (hts (.arrayOver (.array .int)) (List.mem_of_getElem? (i := 174) (by decide +kernel)))⟩
theorem law_Z1 (U : State) (g : JFrame) (mk : MethodId) (a : Array Value) (h : ZX U) : ZX (U.calling g mk a) := ⟨va_Nw.same rfl rfl h.1, va_Nw.same rfl rfl h.2.1, va_Nw.same rfl rfl h.2.2.1, va_Nw.same rfl rfl h.2.2.2.1, va_Nw.same rfl rfl h.2.2.2.2.1, va_AO.moved (u := U) (U := U.calling g mk a) (Vm.Alike.refl U.vm) h.2.2.2.2.2.1, va_AOA.same (u := U) (U := U.calling g mk a) rfl h.2.2.2.2.2.2⟩
set_option maxHeartbeats 4000000 in
set_option maxRecDepth 100000 in
theorem whole_start {p : Program} {e : Env} {s : State} {m : MethodId} {below : List Frame} {meth : Method} {c : Code} (l : Launch) {b L : Nat} {xs : Nat → Int32} (hL : L ≤ 3072) (C0 : lw_At p s m meth c b L xs) : W p l e room_1 s m #[Value.ref b] below meth c s.heap [] 0 0 (lw_Z below #[Value.ref b] s) (entryFrame m ([Value.ref b] : List Value).toArray 4) := by
  obtain ⟨hx, hb, hr, hml, hown, hts, hX, hbl, hlocks, hgv⟩ := C0
  obtain ⟨D, cA, hK⟩ := law_K hts
  have hF : ∀ q : Nat, s.heap.size ≤ q → (fun q : Nat => s.heap.size ≤ q) q := fun _ h => h
  have hA : Act (p, l, e, s, m, #[Value.ref b], below, meth, c) (cwD D cA (fun q : Nat => s.heap.size ≤ q)) RL wsL_law cL_law 4 ret := ⟨hx, hb, hr, hlocks, hml, hown, fun w hw => hts w (wsL_law_in w hw), hK⟩
  have hC : LC (p, l, e, s, m, #[Value.ref b], below, meth, c) D cA (fun q : Nat => s.heap.size ≤ q) b L xs := ⟨hA, hX, hbl, Nat.not_le.mpr hbl, hL⟩
  have start : CO (p, l, e, s, m, #[Value.ref b], below, meth, c) (cwD D cA (fun q : Nat => s.heap.size ≤ q)) room_1 4 (lw_Z below #[Value.ref b] s) 0 0 0 [(0, .ref b)] [] [] := by
    refine CO.make (n := 7) (i := 7) (j := 9) hA hF (mk_X5 l D cA) (C := RX5) (T := TX5) (N := 10) rfl inlX5 tyX5 tyX5_ok df_X5 (List.mem_append_left _ (by decide +kernel)) (by decide +kernel) (by decide +kernel) (by decide +kernel) gL_law_X5_init rfl rfl rfl (by decide +kernel) (by decide +kernel) (by decide) (by decide) law_Z1 (fun U hW => law_Z hts hW) (fun _ => (by decide : (1 : Nat) ≤ 8)) dL_law_0 dL_law_3 dL_law_4 rfl (fun ax => ?_)
    refine CO.astore_n (n := 8) (i := 1) (lv' := [(1, .ref (ax 0)), (0, .ref b)]) hA dL_law_7 rfl (by decide) rfl rfl ?_
    refine CO.make (n := 15) (i := 10) (j := 12) hA hF (mk_X6 l D cA) (C := RX6) (T := TX6) (N := 30) rfl inlX6 tyX6 tyX6_ok df_X6 (by decide +kernel) (by decide +kernel) (by decide +kernel) (by decide +kernel) gL_law_X6_init rfl rfl rfl (by decide +kernel) (by decide +kernel) (by decide) (by decide) (fun _ _ _ _ h => h) (fun _ _ => trivial) (fun _ => (by decide : (1 : Nat) ≤ 8)) dL_law_8 dL_law_11 dL_law_12 rfl (fun am => ?_)
    refine CO.astore_n (n := 16) (i := 2) (lv' := [(2, .ref (am 0)), (1, .ref (ax 0)), (0, .ref b)]) hA dL_law_15 rfl (by decide) rfl rfl ?_
    refine CO.iconst (x := I ((0 : Nat) : Int)) (n := 17) hA dL_law_16 rfl rfl ?_
    refine CO.istore_n (n := 18) (i := 3) (lv' := lvL ax am b 0) hA dL_law_17 rfl (by decide) rfl rfl ?_
    exact loopL hC (fun _ h => h) (L + 1) 0 (fun _ _ => 0) NN0 (by omega) (by decide) Inv0
  have hl := lv_entry ([.ref b]) (n := 4) (Nat.le_of_ble_eq_true rfl)
  rw [lg_entry_eq]
  exact start s.heap [] _ (fun k q h => by simp at h) ⟨fun i j p q h => by simp at h, fun k q h => by simp at h⟩ va_S.rf hl
