/-! ===== the law: rows ===== -/
section LR
variable {v : Av} {w : Cw} {rm : Room} {nL : Nat} {Q : State → Prop} {cells slots pc n : Nat} {lv : List (Nat × Value)} {st : List Value} {ws : va_W} {own : String} {Ts : List Cond} {cc : ByteArray} {ret : Option FieldType}
theorem CO.iload_n (hA : Act v w own Ts cc nL ret) {c : Fin 4} {x : Int32} (hd : decode cc pc = .ok (.iload_n c, 1)) (q : Nat) (hq : lv[q]? = some ((c : Nat), .int x)) (hn : pc + 1 = n) (k : CO v w rm nL Q cells slots n lv (.int x :: st) ws) : CO v w rm nL Q cells slots pc lv st ws := by
  subst hn
  intro H locs ls hP hD hS hl
  exact lv_iload_n hA.1 hA.2.1 hd rfl (lv_at hl q hq) (k H locs ls hP hD hS hl)
theorem CO.iadd (hA : Act v w own Ts cc nL ret) {x y : Int32} (hd : decode cc pc = .ok (.iadd, 1)) (hn : pc + 1 = n) (k : CO v w rm nL Q cells slots n lv (.int (x + y) :: st) ws) : CO v w rm nL Q cells slots pc lv (.int y :: .int x :: st) ws := by
  subst hn
  intro H locs ls hP hD hS hl
  exact lv_iadd hA.1 hA.2.1 hd (k H locs ls hP hD hS hl)
theorem CO.isub (hA : Act v w own Ts cc nL ret) {x y : Int32} (hd : decode cc pc = .ok (.isub, 1)) (hn : pc + 1 = n) (k : CO v w rm nL Q cells slots n lv (.int (x - y) :: st) ws) : CO v w rm nL Q cells slots pc lv (.int y :: .int x :: st) ws := by
  subst hn
  intro H locs ls hP hD hS hl
  exact lv_isub hA.1 hA.2.1 hd (k H locs ls hP hD hS hl)
theorem CO.iand (hA : Act v w own Ts cc nL ret) {x y : Int32} (hd : decode cc pc = .ok (.iand, 1)) (hn : pc + 1 = n) (k : CO v w rm nL Q cells slots n lv (.int (x &&& y) :: st) ws) : CO v w rm nL Q cells slots pc lv (.int y :: .int x :: st) ws := by
  subst hn
  intro H locs ls hP hD hS hl
  exact lv_iand hA.1 hA.2.1 hd (k H locs ls hP hD hS hl)
theorem CO.istore_n (hA : Act v w own Ts cc nL ret) {c : Fin 4} {i : Nat} {x : Int32} {lv' : List (Nat × Value)} (hd : decode cc pc = .ok (.istore_n c, 1)) (hi : (c : Nat) = i) (hi2 : i < nL) (hl' : (i, Value.int x) :: lv.filter (fun q => !(q.1 == i) && !(q.1 + 1 == i && q.2.category == 2)) = lv') (hn : pc + 1 = n) (k : CO v w rm nL Q cells slots n lv' st ws) : CO v w rm nL Q cells slots pc lv (.int x :: st) ws := by
  subst hn
  intro H locs ls hP hD hS hl
  exact lv_istore_n hA.1 hA.2.1 hd hi hl hi2 hl' (fun ls' hls => k H locs ls' hP hD hS hls)
theorem CO.astore_n (hA : Act v w own Ts cc nL ret) {c : Fin 4} {i : Nat} {x : Nat} {lv' : List (Nat × Value)} (hd : decode cc pc = .ok (.astore_n c, 1)) (hi : (c : Nat) = i) (hi2 : i < nL) (hl' : (i, Value.ref x) :: lv.filter (fun q => !(q.1 == i) && !(q.1 + 1 == i && q.2.category == 2)) = lv') (hn : pc + 1 = n) (k : CO v w rm nL Q cells slots n lv' st ws) : CO v w rm nL Q cells slots pc lv (.ref x :: st) ws := by
  subst hn
  intro H locs ls hP hD hS hl
  exact lv_astore_n hA.1 hA.2.1 hd hi hl hi2 hl' (fun ls' hls => k H locs ls' hP hD hS hls)
theorem CO.iinc (hA : Act v w own Ts cc nL ret) {i : Nat} {c : Int} {x y : Int32} {lv' : List (Nat × Value)} (hd : decode cc pc = .ok (.iinc i c, 3)) (q : Nat) (hq : lv[q]? = some (i, .int x)) (hc : x + Int32.ofInt c = y) (hi2 : i < nL) (hl' : (i, Value.int y) :: lv.filter (fun q => !(q.1 == i) && !(q.1 + 1 == i && q.2.category == 2)) = lv') (hn : pc + 3 = n) (k : CO v w rm nL Q cells slots n lv' st ws) : CO v w rm nL Q cells slots pc lv st ws := by
  subst hn
  intro H locs ls hP hD hS hl
  exact lv_iinc hA.1 hA.2.1 hd hl hq hc hi2 hl' (fun ls' hls => k H locs ls' hP hD hS hls)
theorem CO.goto (hA : Act v w own Ts cc nL ret) {off : Int} (hd : decode cc pc = .ok (.goto off, 3)) (ht : (pc : Int) + off = (n : Int)) (k : CO v w rm nL Q cells slots n lv st ws) : CO v w rm nL Q cells slots pc lv st ws := by
  intro H locs ls hP hD hS hl
  exact lv_goto hA.1 hA.2.1 hd ht (k H locs ls hP hD hS hl)
theorem CO.same_i (hA : Act v w own Ts cc nL ret) {x : Int32} {off : Int} (hd : decode cc pc = .ok (.if_icmp .eq off, 3)) (ht : (pc : Int) + off = (n : Int)) (k : CO v w rm nL Q cells slots n lv st ws) : CO v w rm nL Q cells slots pc lv (.int x :: .int x :: st) ws := by
  intro H locs ls hP hD hS hl
  exact lv_icmp_eq hA.1 hA.2.1 hd ht (fun _ => k H locs ls hP hD hS hl) (fun h => absurd rfl h)
theorem CO.same_l (hA : Act v w own Ts cc nL ret) {x : Int64} {off : Int} (hd0 : decode cc pc = .ok (.lcmp, 1)) (hd : decode cc (pc + 1) = .ok (.ifCond .eq off, 3)) (ht : ((pc + 1 : Nat) : Int) + off = (n : Int)) (k : CO v w rm nL Q cells slots n lv st ws) : CO v w rm nL Q cells slots pc lv (.long x :: .long x :: st) ws := by
  intro H locs ls hP hD hS hl
  refine W.lcmp hA.1 hA.2.1 hd0 ?_
  refine lv_if_eq hA.1 hA.2.1 hd ht (fun _ => k H locs ls hP hD hS hl) (fun h => absurd ?_ h)
  unfold lg_cmp
  simp
theorem CO.icmp_gt (hA : Act v w own Ts cc nL ret) {x y : Int32} {off : Int} {tg : Nat} (hd : decode cc pc = .ok (.if_icmp .gt off, 3)) (ht : (pc : Int) + off = (tg : Int)) (hn : pc + 3 = n) (k1 : y < x → CO v w rm nL Q cells slots tg lv st ws) (k2 : ¬ y < x → CO v w rm nL Q cells slots n lv st ws) : CO v w rm nL Q cells slots pc lv (.int y :: .int x :: st) ws := by
  subst hn
  intro H locs ls hP hD hS hl
  exact lv_icmp_gt hA.1 hA.2.1 hd ht (fun h => k1 h H locs ls hP hD hS hl) (fun h => k2 h H locs ls hP hD hS hl)
theorem CO.swap {a b : va_W} (k : CO v w rm nL Q cells slots pc lv st (b ++ a)) : CO v w rm nL Q cells slots pc lv st (a ++ b) := by
  intro H locs ls hP hD hS hl
  exact k H locs ls (va_P.swap (a := []) (b := a) (c := b) hP) (va_D.swap (a := []) (b := a) (c := b) hD) hS hl
/-- the script's i-th int -/
theorem CO.sld (hA : Act v w own Ts cc nL ret) {b L i : Nat} {xs : Nat → Int32} (hX : va_X b L xs v.2.2.2.1 v.2.2.2.1.heap) (hbl : b < v.2.2.2.1.heap.size) (hbA : ¬ w.2.2.2.2.1 b) (hi : i < L) (hL : L ≤ 3072) (hd : decode cc pc = .ok (.iaload, 1)) (hn : pc + 1 = n) (k : CO v w rm nL Q cells slots n lv (.int (xs i) :: st) ws) : CO v w rm nL Q cells slots pc lv (.int (I i) :: .ref b :: st) ws := by
  subst hn
  intro H locs ls hP hD hS hl
  have e : (I (i : Int)).toNatClampNeg = i := I_tn (by omega)
  refine va_sld hA.1 hA.2.1 hX hbl hbA hS ?_ hd ?_
  · intro q
    rcases q with q | q
    · rw [I_0, I_lt (by omega) (by omega)] at q; omega
    · rw [e] at q; omega
  · rw [e]
    exact k H locs ls hP hD hS hl
theorem CO.slen (hA : Act v w own Ts cc nL ret) {b L : Nat} {xs : Nat → Int32} (hX : va_X b L xs v.2.2.2.1 v.2.2.2.1.heap) (hbl : b < v.2.2.2.1.heap.size) (hbA : ¬ w.2.2.2.2.1 b) (hd : decode cc pc = .ok (.arraylength, 1)) (hn : pc + 1 = n) (k : CO v w rm nL Q cells slots n lv (.int (I L) :: st) ws) : CO v w rm nL Q cells slots pc lv (.ref b :: st) ws := by
  subst hn
  intro H locs ls hP hD hS hl
  refine va_slen hA.1 hA.2.1 hX hbl hbA hS hd ?_
  have e : Int32.ofNat L = I (L : Int) := by unfold I; rw [Int32.ofInt_eq_ofNat]
  rw [e]
  exact k H locs ls hP hD hS hl
theorem CO.tabOut (hA : Act v w own Ts cc nL ret) {dflt lo hi : Int} {offs : Array Int} {len : Nat} {x : Int32} (hd : decode cc pc = .ok (.tableswitch dflt lo hi offs, len)) (h : x.toInt < lo ∨ hi < x.toInt) (ht : (pc : Int) + dflt = (n : Int)) (k : CO v w rm nL Q cells slots n lv st ws) : CO v w rm nL Q cells slots pc lv (.int x :: st) ws := by
  intro H locs ls hP hD hS hl
  exact lv_tableOut hA.1 hA.2.1 hd h ht (k H locs ls hP hD hS hl)
theorem CO.tabIn (hA : Act v w own Ts cc nL ret) {dflt lo hi off : Int} {offs : Array Int} {len : Nat} {x : Int32} (hd : decode cc pc = .ok (.tableswitch dflt lo hi offs, len)) (h1 : ¬ x.toInt < lo) (h2 : ¬ hi < x.toInt) (ho : offs[(x.toInt - lo).toNat]? = some off) (ht : (pc : Int) + off = (n : Int)) (k : CO v w rm nL Q cells slots n lv st ws) : CO v w rm nL Q cells slots pc lv (.int x :: st) ws := by
  intro H locs ls hP hD hS hl
  exact lv_tableIn hA.1 hA.2.1 hd h1 h2 ho ht (k H locs ls hP hD hS hl)
end LR
/-- a call: the callee's world is the whole -/
theorem CO.callV {v : Av} {D : va_G} {cA : Nat → ClassId} {A : Nat → Prop} {rm : Room} {nL : Nat} {Q : State → Prop} {cells slots pc n : Nat} {lv : List (Nat × Value)} {st : List Value} {own : String} {Ts : List Cond} {cc : ByteArray} {ret : Option FieldType} (hA : Act v (cwD D cA A) own Ts cc nL ret) {ad : Nat → Nat} {rs : va_W} {sh : List Sh} {M M' : Mem} {α : Type} {enc' : α → Option Value} {a : α} {o1 : Option (α × Mem)} {y : MethodName} {wy ws' : List Cond} {rm' : Room} {bytes : ByteArray} {maxL i r ci m : Nat} {ret' : Option FieldType} {fl : List (Option Nat)} {q : vw_C} {As rest : List Value}
    (hM : Ok v.2.1 (D, ad, cA, rs, A, sh) enc' y wy rm' (.ref (ad r) :: As) M o1) (ho : o1 = some (a, M')) (hG : GoodIn Ts (wsV own i q.1 y wy)) (hw : wy = Cond.code y bytes maxL ret' :: ws') (hs : sh[r]? = some (.inl (ci, fl))) (hc : vwCl[ci]? = some q)
    (hy : y.cls = q.1 ∧ y.cls ≠ "java/lang/invoke/MethodHandle" ∧ y.cls ≠ "java/lang/invoke/VarHandle" ∧ (parseMethodDescriptor y.desc).map (fun d => d.parameters.length) = some m)
    (hrm : rm'.cells = 0 ∧ rm'.slots = 0 ∧ rm'.frames + 1 ≤ rm.frames ∧ 8 + (maxL + 11) + rm'.locals ≤ rm.locals) (hlen : As.length = m) (hst : st = As.reverse ++ .ref (ad r) :: rest) (hro : (rest.map fun v => v.category).sum ≤ 8) (hd : decode cc pc = .ok (.invokevirtual i, 3)) (hn : pc + 3 = n) (hcs : cells ≤ rm.cells ∧ slots ≤ rm.slots)
    (k : CO v (cwD D cA A) rm nL Q cells slots n lv ((enc' a).toList ++ rest) (w_list ad cA M' 0 sh ++ rs)) : CO v (cwD D cA A) rm nL Q cells slots pc lv st (w_list ad cA M 0 sh ++ rs) := by
  subst hn
  intro H locs ls hP hD hS hl
  have hts := hA.2.2.2.2.2.2.1
  have hK := hA.2.2.2.2.2.2.2
  have hrun : va_Run v.1 v.2.1 v.2.2.1 rm v.2.2.2.1 v.2.2.2.2.1 v.2.2.2.2.2.1 v.2.2.2.2.2.2.1 v.2.2.2.2.2.2.2.1 v.2.2.2.2.2.2.2.2 H locs cells slots 0 0 (F0 v.2.2.2.2.1 pc ls st) rest (Qo (D, ad, cA, rs, A, sh) enc' a M' (Value.ref (ad r) :: As).toArray) A := va_runV (C := q.1) (b := ad r) (As := As) ⟨hA.1, hA.2.1, hA.2.2.2.2.1, hA.2.2.2.2.2.1, hts⟩ (hM a M' ho) (cwV m hts hG hw hrm.1 hrm.2.1 hy hrm.2.2) ⟨Wok_blind, va_recv hK hP hc (wd_get (w := (D, ad, cA, rs, A, sh)) (M := M) hs), fun U hU hW => ⟨rfl, by rw [hU]; exact hP, va_K.moved hW.alike hK, hD⟩⟩ rfl hlen hl.1 hst (lv_room hro) hd ⟨hcs.1, hcs.2⟩
  intro T hT X
  obtain ⟨vv, st₀, t, T', L, h0, X', hL, e1, e2, ⟨⟨hv, hP1, hK1, hD1⟩, hz, hk⟩, stp⟩ := hrun T hT X
  cases hv
  rw [h0] at hz hk
  obtain ⟨t2, a1, b1⟩ := k T'.heap (locs ++ L) ls (by rw [e1]; exact hP1) hD1
    ⟨Nat.le_trans hS.1 (by rw [e1]; exact hz), fun q h1 h2 => by rw [e1, hk q (Nat.lt_of_lt_of_le h1 hS.1) h2]; exact hS.2.1 q h1 h2, fun q hq => by
      rcases List.mem_append.mp hq with h | h
      · exact hS.2.2 q h
      · exact hL q h⟩ hl T' rfl X'
  exact ⟨t2, stp t2 a1, b1⟩
/-- what stands through the whole law -/
def LC (v : Av) (D : va_G) (cA : Nat → ClassId) (A : Nat → Prop) (b L : Nat) (xs : Nat → Int32) : Prop := Act v (cwD D cA A) RL wsL_law cL_law 4 ret ∧ va_X b L xs v.2.2.2.1 v.2.2.2.1.heap ∧ b < v.2.2.2.1.heap.size ∧ ¬ A b ∧ L ≤ 3072
abbrev lvL (ax am : Nat → Nat) (b i : Nat) : List (Nat × Value) := [(3, .int (I i)), (2, .ref (am 0)), (1, .ref (ax 0)), (0, .ref b)]
abbrev LO (v : Av) (D : va_G) (cA : Nat → ClassId) (A : Nat → Prop) (Q : State → Prop) (ax am : Nat → Nat) (b i : Nat) (pc : Nat) (st : List Value) (M N : Mem) : Prop := CO v (cwD D cA A) room_1 4 Q 55 845 pc (lvL ax am b i) st (w_list ax cA M 0 shX ++ w_list am cA N 0 shM)
/-- an argument: the script's int at i + k -/
theorem CO.arg {v : Av} {D : va_G} {cA : Nat → ClassId} {A : Nat → Prop} {Q : State → Prop} {b L : Nat} {xs : Nat → Int32} (hC : LC v D cA A b L xs) {ax am : Nat → Nat} {i k pc n : Nat} {c : Int} {st : List Value} {ws : va_W} (hi : i + k < L) (hk : Int32.ofInt c = I k) (d1 : decode cL_law pc = .ok (.aload_n 0, 1)) (d2 : decode cL_law (pc + 1) = .ok (.iload_n 3, 1)) (d3 : decode cL_law (pc + 1 + 1) = .ok (.iconst c, 1)) (d4 : decode cL_law (pc + 1 + 1 + 1) = .ok (.iadd, 1)) (d5 : decode cL_law (pc + 1 + 1 + 1 + 1) = .ok (.iaload, 1)) (hn : pc + 1 + 1 + 1 + 1 + 1 = n) (kk : CO v (cwD D cA A) room_1 4 Q 55 845 n (lvL ax am b i) (.int (xs (i + k)) :: st) ws) : CO v (cwD D cA A) room_1 4 Q 55 845 pc (lvL ax am b i) st ws := by
  subst hn
  obtain ⟨hA, hX, hbl, hbA, hL⟩ := hC
  refine CO.aload_n hA d1 3 rfl rfl ?_
  refine CO.iload_n hA d2 0 rfl rfl ?_
  refine CO.iconst hA d3 hk rfl ?_
  refine CO.iadd hA d4 rfl ?_
  rw [I_add, show ((i : Int) + (k : Int)) = ((i + k : Nat) : Int) from (Int.natCast_add _ _).symm]
  exact CO.sld hA hX hbl hbA hi hL d5 rfl kk
