/-! ===== names for what is computed; calls by the kind of their answer; shapes ===== -/
def ilt {β : Type} (x : Int32) (k : Int32 → β) : β := k x
def llt {β : Type} (x : Int64) (k : Int64 → β) : β := k x
def mlt {β : Type} (M : Mem) (k : Mem → β) : β := k M
theorem FU_ex : ∃ n : Nat, 3000 ≤ n := ⟨3000, Nat.le_refl _⟩
/-- more turns than any loop here takes -/
noncomputable def FU : Nat := Classical.choose FU_ex
theorem FU_ge : 3000 ≤ FU := Classical.choose_spec FU_ex
def iabs (x : Int32) : Int32 := if 0 ≤ x then x else 0 - x
section RX
variable {α : Type} {v : Av} {w : Cw} {rm : Room} {nL : Nat} {enc : α → Option Value} {o oa ob : Option (α × Mem)} {pc n : Nat} {lv : List (Nat × Value)} {st : List Value} {M : Mem} {own : String} {Ts : List Cond} {cc : ByteArray} {ret : Option FieldType}
theorem WO.top {x : Int32} {kf : Int32 → Option (α × Mem)} (k : ∀ x', WO v w rm nL enc (kf x') pc lv (.int x' :: st) M) : WO v w rm nL enc (ilt x kf) pc lv (.int x :: st) M := k x
theorem WO.topl {x : Int64} {kf : Int64 → Option (α × Mem)} (k : ∀ x', WO v w rm nL enc (kf x') pc lv (.long x' :: st) M) : WO v w rm nL enc (llt x kf) pc lv (.long x :: st) M := k x
theorem WO.mem {kf : Mem → Option (α × Mem)} (k : ∀ M', WO v w rm nL enc (kf M') pc lv st M') : WO v w rm nL enc (mlt M kf) pc lv st M := k M
theorem WO.callVi (hA : Act v w own Ts cc nL ret) {o1 : Option (Int32 × Mem)} {k1 : Int32 → Mem → Option (α × Mem)} {y : MethodName} {ws ws' : List Cond} {rm' : Room} {bytes : ByteArray} {maxL i m : Nat} {r ci : Nat} {fl : List (Option Nat)} {q : vw_C} {ret' : Option FieldType} {As rest : List Value}
    (hM : Ok v.2.1 w eI y ws rm' (.ref (w.2.1 r) :: As) M o1) (hG : GoodIn Ts (wsV own i q.1 y ws)) (hw : ws = Cond.code y bytes maxL ret' :: ws') (hs : w.2.2.2.2.2[r]? = some (.inl (ci, fl))) (hc : vwCl[ci]? = some q)
    (hy : y.cls = q.1 ∧ y.cls ≠ "java/lang/invoke/MethodHandle" ∧ y.cls ≠ "java/lang/invoke/VarHandle" ∧ (parseMethodDescriptor y.desc).map (fun d => d.parameters.length) = some m)
    (hrm : rm'.cells = 0 ∧ rm'.slots = 0 ∧ rm'.frames + 1 ≤ rm.frames ∧ 8 + (maxL + 11) + rm'.locals ≤ rm.locals) (hlen : As.length = m) (hst : st = As.reverse ++ .ref (w.2.1 r) :: rest) (hro : (rest.map fun v => v.category).sum ≤ 8) (hd : decode cc pc = .ok (.invokevirtual i, 3)) (hn : pc + 3 = n)
    (k : ∀ b M1, WO v w rm nL enc (k1 b M1) n lv (.int b :: rest) M1) : WO v w rm nL enc (bd o1 k1) pc lv st M := WO.callV hA hM hG hw hs hc hy hrm hlen hst hro hd hn (fun b M1 => k b M1)
theorem WO.callVl (hA : Act v w own Ts cc nL ret) {o1 : Option (Int64 × Mem)} {k1 : Int64 → Mem → Option (α × Mem)} {y : MethodName} {ws ws' : List Cond} {rm' : Room} {bytes : ByteArray} {maxL i m : Nat} {r ci : Nat} {fl : List (Option Nat)} {q : vw_C} {ret' : Option FieldType} {As rest : List Value}
    (hM : Ok v.2.1 w eL y ws rm' (.ref (w.2.1 r) :: As) M o1) (hG : GoodIn Ts (wsV own i q.1 y ws)) (hw : ws = Cond.code y bytes maxL ret' :: ws') (hs : w.2.2.2.2.2[r]? = some (.inl (ci, fl))) (hc : vwCl[ci]? = some q)
    (hy : y.cls = q.1 ∧ y.cls ≠ "java/lang/invoke/MethodHandle" ∧ y.cls ≠ "java/lang/invoke/VarHandle" ∧ (parseMethodDescriptor y.desc).map (fun d => d.parameters.length) = some m)
    (hrm : rm'.cells = 0 ∧ rm'.slots = 0 ∧ rm'.frames + 1 ≤ rm.frames ∧ 8 + (maxL + 11) + rm'.locals ≤ rm.locals) (hlen : As.length = m) (hst : st = As.reverse ++ .ref (w.2.1 r) :: rest) (hro : (rest.map fun v => v.category).sum ≤ 8) (hd : decode cc pc = .ok (.invokevirtual i, 3)) (hn : pc + 3 = n)
    (k : ∀ b M1, WO v w rm nL enc (k1 b M1) n lv (.long b :: rest) M1) : WO v w rm nL enc (bd o1 k1) pc lv st M := WO.callV hA hM hG hw hs hc hy hrm hlen hst hro hd hn (fun b M1 => k b M1)
theorem WO.callVv (hA : Act v w own Ts cc nL ret) {o1 : Option (Unit × Mem)} {k1 : Unit → Mem → Option (α × Mem)} {y : MethodName} {ws ws' : List Cond} {rm' : Room} {bytes : ByteArray} {maxL i m : Nat} {r ci : Nat} {fl : List (Option Nat)} {q : vw_C} {ret' : Option FieldType} {As rest : List Value}
    (hM : Ok v.2.1 w eV y ws rm' (.ref (w.2.1 r) :: As) M o1) (hG : GoodIn Ts (wsV own i q.1 y ws)) (hw : ws = Cond.code y bytes maxL ret' :: ws') (hs : w.2.2.2.2.2[r]? = some (.inl (ci, fl))) (hc : vwCl[ci]? = some q)
    (hy : y.cls = q.1 ∧ y.cls ≠ "java/lang/invoke/MethodHandle" ∧ y.cls ≠ "java/lang/invoke/VarHandle" ∧ (parseMethodDescriptor y.desc).map (fun d => d.parameters.length) = some m)
    (hrm : rm'.cells = 0 ∧ rm'.slots = 0 ∧ rm'.frames + 1 ≤ rm.frames ∧ 8 + (maxL + 11) + rm'.locals ≤ rm.locals) (hlen : As.length = m) (hst : st = As.reverse ++ .ref (w.2.1 r) :: rest) (hro : (rest.map fun v => v.category).sum ≤ 8) (hd : decode cc pc = .ok (.invokevirtual i, 3)) (hn : pc + 3 = n)
    (k : ∀ M1, WO v w rm nL enc (k1 () M1) n lv rest M1) : WO v w rm nL enc (bd o1 k1) pc lv st M := WO.callV hA hM hG hw hs hc hy hrm hlen hst hro hd hn (fun _ M1 => k M1)
theorem WO.callSi (hA : Act v w own Ts cc nL ret) {o1 : Option (Int32 × Mem)} {k1 : Int32 → Mem → Option (α × Mem)} {y : MethodName} {ws ws' : List Cond} {rm' : Room} {bytes : ByteArray} {maxL i m : Nat} {ret' : Option FieldType} {As rest : List Value}
    (hM : Ok v.2.1 w eI y ws rm' As M o1) (hG : GoodIn Ts (va_wsS own i y ws)) (hw : ws = Cond.code y bytes maxL ret' :: ws')
    (hy : y.cls ≠ "java/lang/invoke/MethodHandle" ∧ y.cls ≠ "java/lang/invoke/VarHandle" ∧ (parseMethodDescriptor y.desc).map (fun d => d.parameters.length) = some m)
    (hrm : rm'.cells = 0 ∧ rm'.slots = 0 ∧ rm'.frames + 1 ≤ rm.frames ∧ 8 + (maxL + 11) + rm'.locals ≤ rm.locals) (hlen : As.length = m) (hst : st = As.reverse ++ rest) (hro : (rest.map fun v => v.category).sum ≤ 8) (hd : decode cc pc = .ok (.invokestatic i, 3)) (hn : pc + 3 = n)
    (k : ∀ b M1, WO v w rm nL enc (k1 b M1) n lv (.int b :: rest) M1) : WO v w rm nL enc (bd o1 k1) pc lv st M := WO.callS hA hM hG hw hy hrm hlen hst hro hd hn (fun b M1 => k b M1)
theorem WO.callSl (hA : Act v w own Ts cc nL ret) {o1 : Option (Int64 × Mem)} {k1 : Int64 → Mem → Option (α × Mem)} {y : MethodName} {ws ws' : List Cond} {rm' : Room} {bytes : ByteArray} {maxL i m : Nat} {ret' : Option FieldType} {As rest : List Value}
    (hM : Ok v.2.1 w eL y ws rm' As M o1) (hG : GoodIn Ts (va_wsS own i y ws)) (hw : ws = Cond.code y bytes maxL ret' :: ws')
    (hy : y.cls ≠ "java/lang/invoke/MethodHandle" ∧ y.cls ≠ "java/lang/invoke/VarHandle" ∧ (parseMethodDescriptor y.desc).map (fun d => d.parameters.length) = some m)
    (hrm : rm'.cells = 0 ∧ rm'.slots = 0 ∧ rm'.frames + 1 ≤ rm.frames ∧ 8 + (maxL + 11) + rm'.locals ≤ rm.locals) (hlen : As.length = m) (hst : st = As.reverse ++ rest) (hro : (rest.map fun v => v.category).sum ≤ 8) (hd : decode cc pc = .ok (.invokestatic i, 3)) (hn : pc + 3 = n)
    (k : ∀ b M1, WO v w rm nL enc (k1 b M1) n lv (.long b :: rest) M1) : WO v w rm nL enc (bd o1 k1) pc lv st M := WO.callS hA hM hG hw hy hrm hlen hst hro hd hn (fun b M1 => k b M1)
theorem WO.callSv (hA : Act v w own Ts cc nL ret) {o1 : Option (Unit × Mem)} {k1 : Unit → Mem → Option (α × Mem)} {y : MethodName} {ws ws' : List Cond} {rm' : Room} {bytes : ByteArray} {maxL i m : Nat} {ret' : Option FieldType} {As rest : List Value}
    (hM : Ok v.2.1 w eV y ws rm' As M o1) (hG : GoodIn Ts (va_wsS own i y ws)) (hw : ws = Cond.code y bytes maxL ret' :: ws')
    (hy : y.cls ≠ "java/lang/invoke/MethodHandle" ∧ y.cls ≠ "java/lang/invoke/VarHandle" ∧ (parseMethodDescriptor y.desc).map (fun d => d.parameters.length) = some m)
    (hrm : rm'.cells = 0 ∧ rm'.slots = 0 ∧ rm'.frames + 1 ≤ rm.frames ∧ 8 + (maxL + 11) + rm'.locals ≤ rm.locals) (hlen : As.length = m) (hst : st = As.reverse ++ rest) (hro : (rest.map fun v => v.category).sum ≤ 8) (hd : decode cc pc = .ok (.invokestatic i, 3)) (hn : pc + 3 = n)
    (k : ∀ M1, WO v w rm nL enc (k1 () M1) n lv rest M1) : WO v w rm nL enc (bd o1 k1) pc lv st M := WO.callS hA hM hG hw hy hrm hlen hst hro hd hn (fun _ M1 => k M1)
end RX
def gSh (k : Nat) : Nat := 29 + 2 * k
def gWk (k : Nat) : Nat := 24 + k
/-- the class's objects and rows: 0 itself, 1 and 7 its streets, 13 the text, 15 the readings, 20 the arrangement, 28 the sheets, 37 strokesUntil -/
def shX : List Sh := [.inl (5, [some 1, some 7, some 13, some 15, some 20, some 28, some 37, none, none, none]), .inl (3, [some (1 + 1), some (1 + 2), some (1 + 3), some (1 + 4), some (1 + 5), none, none, none, none, none]), .inr (0, 6, none), .inr (0, 6, none), .inr (0, 4, none), .inr (0, 4, none), .inr (1, 4, none), .inl (3, [some (7 + 1), some (7 + 2), some (7 + 3), some (7 + 4), some (7 + 5), none, none, none, none, none]), .inr (0, 6, none), .inr (0, 6, none), .inr (0, 4, none), .inr (0, 4, none), .inr (1, 4, none), .inl (4, [some 14, none, none]), .inr (0, 60, none), .inl (1, [some 16, some 17, some 18, some 19, none]), .inr (0, 8, none), .inr (0, 8, none), .inr (0, 8, none), .inr (1, 8, none), .inl (0, [some 21, some 22, some 23]), .inr (0, 4, none), .inr (0, 4, none), .inr (3, 4, some gWk), .inr (0, 6, none), .inr (0, 6, none), .inr (0, 6, none), .inr (0, 6, none), .inr (2, 4, some gSh), .inl (2, [some (29 + 1), none, none, none]), .inr (0, 60, none), .inl (2, [some (31 + 1), none, none, none]), .inr (0, 60, none), .inl (2, [some (33 + 1), none, none, none]), .inr (0, 60, none), .inl (2, [some (35 + 1), none, none, none]), .inr (0, 60, none), .inr (0, 6, none)]
/-- the reference's -/
def shM : List Sh := [.inl (6, [none, none, some 1, some 2, some 3, none, none, none, none, none, some 4, some 5, some 6, some 7, none, none, none, none, some 8, some 9, none, none, some 10, some 11, some 12, none, some 13, some 14, some 15, some 16]), .inr (0, 4, none), .inr (0, 4, none), .inr (0, 240, none), .inr (0, 6, none), .inr (0, 6, none), .inr (0, 4, none), .inr (0, 4, none), .inr (0, 12, none), .inr (0, 8, none), .inr (0, 4, none), .inr (0, 4, none), .inr (0, 4, none), .inr (0, 8, none), .inr (0, 8, none), .inr (0, 8, none), .inr (0, 8, none)]
def isSt (a : Nat) : Prop := a = 1 ∨ a = 7
def isShe (a : Nat) : Prop := a = 29 ∨ a = 31 ∨ a = 33 ∨ a = 35
theorem st1 : isSt 1 := Or.inl rfl
theorem st7 : isSt 7 := Or.inr rfl
theorem x_0 {w : Cw} (hw : w.2.2.2.2.2 = shX) : w.2.2.2.2.2[0]? = some (.inl (5, [some 1, some 7, some 13, some 15, some 20, some 28, some 37, none, none, none])) := by rw [hw]; rfl
theorem x_13 {w : Cw} (hw : w.2.2.2.2.2 = shX) : w.2.2.2.2.2[13]? = some (.inl (4, [some 14, none, none])) := by rw [hw]; rfl
theorem x_14 {w : Cw} (hw : w.2.2.2.2.2 = shX) : w.2.2.2.2.2[14]? = some (.inr (0, 60, none)) := by rw [hw]; rfl
theorem x_15 {w : Cw} (hw : w.2.2.2.2.2 = shX) : w.2.2.2.2.2[15]? = some (.inl (1, [some 16, some 17, some 18, some 19, none])) := by rw [hw]; rfl
theorem x_16 {w : Cw} (hw : w.2.2.2.2.2 = shX) : w.2.2.2.2.2[16]? = some (.inr (0, 8, none)) := by rw [hw]; rfl
theorem x_17 {w : Cw} (hw : w.2.2.2.2.2 = shX) : w.2.2.2.2.2[17]? = some (.inr (0, 8, none)) := by rw [hw]; rfl
theorem x_18 {w : Cw} (hw : w.2.2.2.2.2 = shX) : w.2.2.2.2.2[18]? = some (.inr (0, 8, none)) := by rw [hw]; rfl
theorem x_19 {w : Cw} (hw : w.2.2.2.2.2 = shX) : w.2.2.2.2.2[19]? = some (.inr (1, 8, none)) := by rw [hw]; rfl
theorem x_20 {w : Cw} (hw : w.2.2.2.2.2 = shX) : w.2.2.2.2.2[20]? = some (.inl (0, [some 21, some 22, some 23])) := by rw [hw]; rfl
theorem x_21 {w : Cw} (hw : w.2.2.2.2.2 = shX) : w.2.2.2.2.2[21]? = some (.inr (0, 4, none)) := by rw [hw]; rfl
theorem x_22 {w : Cw} (hw : w.2.2.2.2.2 = shX) : w.2.2.2.2.2[22]? = some (.inr (0, 4, none)) := by rw [hw]; rfl
theorem x_23 {w : Cw} (hw : w.2.2.2.2.2 = shX) : w.2.2.2.2.2[23]? = some (.inr (3, 4, some gWk)) := by rw [hw]; rfl
theorem x_28 {w : Cw} (hw : w.2.2.2.2.2 = shX) : w.2.2.2.2.2[28]? = some (.inr (2, 4, some gSh)) := by rw [hw]; rfl
theorem x_37 {w : Cw} (hw : w.2.2.2.2.2 = shX) : w.2.2.2.2.2[37]? = some (.inr (0, 6, none)) := by rw [hw]; rfl
theorem st_0 {w : Cw} (hw : w.2.2.2.2.2 = shX) {a : Nat} (ha : isSt a) : w.2.2.2.2.2[a]? = some (.inl (3, [some (a + 1), some (a + 2), some (a + 3), some (a + 4), some (a + 5), none, none, none, none, none])) := by rw [hw]; rcases ha with rfl | rfl <;> rfl
theorem st_1 {w : Cw} (hw : w.2.2.2.2.2 = shX) {a : Nat} (ha : isSt a) : w.2.2.2.2.2[a + 1]? = some (.inr (0, 6, none)) := by rw [hw]; rcases ha with rfl | rfl <;> rfl
theorem st_2 {w : Cw} (hw : w.2.2.2.2.2 = shX) {a : Nat} (ha : isSt a) : w.2.2.2.2.2[a + 2]? = some (.inr (0, 6, none)) := by rw [hw]; rcases ha with rfl | rfl <;> rfl
theorem st_3 {w : Cw} (hw : w.2.2.2.2.2 = shX) {a : Nat} (ha : isSt a) : w.2.2.2.2.2[a + 3]? = some (.inr (0, 4, none)) := by rw [hw]; rcases ha with rfl | rfl <;> rfl
theorem st_4 {w : Cw} (hw : w.2.2.2.2.2 = shX) {a : Nat} (ha : isSt a) : w.2.2.2.2.2[a + 4]? = some (.inr (0, 4, none)) := by rw [hw]; rcases ha with rfl | rfl <;> rfl
theorem st_5 {w : Cw} (hw : w.2.2.2.2.2 = shX) {a : Nat} (ha : isSt a) : w.2.2.2.2.2[a + 5]? = some (.inr (1, 4, none)) := by rw [hw]; rcases ha with rfl | rfl <;> rfl
theorem she_0 {w : Cw} (hw : w.2.2.2.2.2 = shX) {a : Nat} (ha : isShe a) : w.2.2.2.2.2[a]? = some (.inl (2, [some (a + 1), none, none, none])) := by rw [hw]; rcases ha with rfl | rfl | rfl | rfl <;> rfl
theorem she_1 {w : Cw} (hw : w.2.2.2.2.2 = shX) {a : Nat} (ha : isShe a) : w.2.2.2.2.2[a + 1]? = some (.inr (0, 60, none)) := by rw [hw]; rcases ha with rfl | rfl | rfl | rfl <;> rfl
theorem she_of {i : Nat} (h : i < 4) : isShe (gSh i) := by unfold isShe gSh; omega
theorem wk_of {w : Cw} (hw : w.2.2.2.2.2 = shX) {i : Nat} (h : i < 4) : w.2.2.2.2.2[gWk i]? = some (.inr (0, 6, none)) := by rw [hw]; rcases (show i = 0 ∨ i = 1 ∨ i = 2 ∨ i = 3 by omega) with rfl | rfl | rfl | rfl <;> rfl
theorem m_0 {w : Cw} (hw : w.2.2.2.2.2 = shM) : w.2.2.2.2.2[0]? = some (.inl (6, [none, none, some 1, some 2, some 3, none, none, none, none, none, some 4, some 5, some 6, some 7, none, none, none, none, some 8, some 9, none, none, some 10, some 11, some 12, none, some 13, some 14, some 15, some 16])) := by rw [hw]; rfl
theorem m_1 {w : Cw} (hw : w.2.2.2.2.2 = shM) : w.2.2.2.2.2[1]? = some (.inr (0, 4, none)) := by rw [hw]; rfl
theorem m_2 {w : Cw} (hw : w.2.2.2.2.2 = shM) : w.2.2.2.2.2[2]? = some (.inr (0, 4, none)) := by rw [hw]; rfl
theorem m_3 {w : Cw} (hw : w.2.2.2.2.2 = shM) : w.2.2.2.2.2[3]? = some (.inr (0, 240, none)) := by rw [hw]; rfl
theorem m_4 {w : Cw} (hw : w.2.2.2.2.2 = shM) : w.2.2.2.2.2[4]? = some (.inr (0, 6, none)) := by rw [hw]; rfl
theorem m_5 {w : Cw} (hw : w.2.2.2.2.2 = shM) : w.2.2.2.2.2[5]? = some (.inr (0, 6, none)) := by rw [hw]; rfl
theorem m_6 {w : Cw} (hw : w.2.2.2.2.2 = shM) : w.2.2.2.2.2[6]? = some (.inr (0, 4, none)) := by rw [hw]; rfl
theorem m_7 {w : Cw} (hw : w.2.2.2.2.2 = shM) : w.2.2.2.2.2[7]? = some (.inr (0, 4, none)) := by rw [hw]; rfl
theorem m_8 {w : Cw} (hw : w.2.2.2.2.2 = shM) : w.2.2.2.2.2[8]? = some (.inr (0, 12, none)) := by rw [hw]; rfl
theorem m_9 {w : Cw} (hw : w.2.2.2.2.2 = shM) : w.2.2.2.2.2[9]? = some (.inr (0, 8, none)) := by rw [hw]; rfl
theorem m_10 {w : Cw} (hw : w.2.2.2.2.2 = shM) : w.2.2.2.2.2[10]? = some (.inr (0, 4, none)) := by rw [hw]; rfl
theorem m_11 {w : Cw} (hw : w.2.2.2.2.2 = shM) : w.2.2.2.2.2[11]? = some (.inr (0, 4, none)) := by rw [hw]; rfl
theorem m_12 {w : Cw} (hw : w.2.2.2.2.2 = shM) : w.2.2.2.2.2[12]? = some (.inr (0, 4, none)) := by rw [hw]; rfl
theorem m_13 {w : Cw} (hw : w.2.2.2.2.2 = shM) : w.2.2.2.2.2[13]? = some (.inr (0, 8, none)) := by rw [hw]; rfl
theorem m_14 {w : Cw} (hw : w.2.2.2.2.2 = shM) : w.2.2.2.2.2[14]? = some (.inr (0, 8, none)) := by rw [hw]; rfl
theorem m_15 {w : Cw} (hw : w.2.2.2.2.2 = shM) : w.2.2.2.2.2[15]? = some (.inr (0, 8, none)) := by rw [hw]; rfl
theorem m_16 {w : Cw} (hw : w.2.2.2.2.2 = shM) : w.2.2.2.2.2[16]? = some (.inr (0, 8, none)) := by rw [hw]; rfl
