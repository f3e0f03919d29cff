/-! ===== new int[4][6], turn by turn: rows of my own, over the short library ===== -/
theorem mq_cg {c : ClassId} {N : Nat} {f g : Nat → Value} (h : ∀ j, j < N → f j = g j) : arrV c N f = arrV c N g := by
  have e : (fun j : Fin N => f j.val) = fun j : Fin N => g j.val := funext fun j => h j.val j.isLt
  unfold arrV
  rw [e]
/-- a row of six noughts -/
abbrev mq_z (cy : ClassId) : Cell := arrV cy 6 (fun _ => .int 0)
/-- what the outer array at h holds when k rows are in it -/
def mq_f (h k : Nat) : Nat → Value := fun j => if j < k then .ref (h + 1 + j) else .null
/-- a turn: a row is made, and put into place k of the outer array at h -/
def mq_t (cA cy : ClassId) (h k : Nat) (V : State) : State := (V.pushCell (mq_z cy)).setCell h (arrV cA 4 (mq_f h (k + 1)))
/-- from U on, k turns are behind V -/
def mq_I (cA cy : ClassId) (U : State) (k : Nat) (V : State) : Prop :=
  V.heap.size = U.heap.size + 1 + k ∧ V.heap[U.heap.size]? = some (arrV cA 4 (mq_f U.heap.size k)) ∧ (∀ j, j < k → V.heap[U.heap.size + 1 + j]? = some (mq_z cy)) ∧ (∀ x, x < U.heap.size → V.heap[x]? = U.heap[x]?) ∧ V.vm = U.vm ∧ V.slotsUsed = U.slotsUsed + 4 + 6 * k
theorem mq_store (cA : ClassId) (h k : Nat) : (arrV cA 4 (mq_f h k)).setSlot k (.ref (h + 1 + k)) = arrV cA 4 (mq_f h (k + 1)) := by
  rw [arrV_store]
  refine mq_cg fun j _ => ?_
  unfold updV mq_f
  by_cases e : j = k
  · subst e
    rw [if_pos rfl, if_pos (Nat.lt_succ_self j)]
  · rw [if_neg e]
    by_cases q : j < k
    · rw [if_pos q, if_pos (by omega)]
    · rw [if_neg q, if_neg (by omega)]
theorem mq_I0 (cA cy : ClassId) (U : State) : mq_I cA cy U 0 (U.pushCell (arrV cA 4 (mq_f U.heap.size 0))) := by
  refine ⟨by rw [State.heap_size_pushCell], State.heap_pushCell_size _ _, fun j hj => absurd hj (Nat.not_lt_zero j), fun x hx => State.heap_pushCell_of_lt _ _ hx, rfl, ?_⟩
  show U.slotsUsed + (arrV cA 4 (mq_f U.heap.size 0)).slots.size = _
  rw [arrV_size]
theorem mq_I1 {cA cy : ClassId} {U V : State} {k : Nat} (h : mq_I cA cy U k V) : mq_I cA cy U (k + 1) (mq_t cA cy U.heap.size k V) := by
  obtain ⟨h1, h2, h3, h4, h5, h6⟩ := h
  have hlt : U.heap.size < (V.pushCell (mq_z cy)).heap.size := by rw [State.heap_size_pushCell]; omega
  have oth : ∀ x, x ≠ U.heap.size → x < V.heap.size → (mq_t cA cy U.heap.size k V).heap[x]? = V.heap[x]? := fun x hx hl =>
    (heapAt_setCell_ne _ (Ne.symm hx)).trans (State.heap_pushCell_of_lt _ _ hl)
  refine ⟨?_, heapAt_setCell_self _ hlt, fun j hj => ?_, fun x hx => ?_, h5, ?_⟩
  · show ((V.pushCell (mq_z cy)).setCell _ _).heap.size = _
    rw [size_setCell, State.heap_size_pushCell, h1]
    omega
  · by_cases e : j = k
    · subst e
      rw [← h1]
      exact (heapAt_setCell_ne _ (show U.heap.size ≠ V.heap.size by omega)).trans (State.heap_pushCell_size _ _)
    · rw [oth _ (by omega) (by omega)]
      exact h3 j (by omega)
  · rw [oth x (by omega) (by omega)]
    exact h4 x hx
  · show V.slotsUsed + (mq_z cy).slots.size = _
    rw [arrV_size, h6]
    omega
section MQW
variable {E : CtlPost} {e : Env} {d : Bool} {acts : List Action} {cA cy ci : ClassId} {kA kY : Class}
/-- a row of its own -/
theorem mq_row {V : State} (hy : V.vm.classes[cy]? = some kY) (hyk : kY.kind = .array ci .int) (hl : ¬ 6 > e.platform.arrayLengthLimit) (hh : ¬ 6 * componentBytes .int > e.platform.maxHeapBytes) (hc : V.heap.size < e.platform.maxCells) (hs : V.slotsUsed + 6 ≤ e.platform.maxSlots) {Q : Addr → Pre}
    (k : ∀ acts', Q V.heap.size d acts' (V.pushCell (mq_z cy))) : wp (multianewarray.make cy [6]) Q E e d acts V := by
  have e6 : (6 : Int32).toNatClampNeg = 6 := by decide
  have n6 : ¬ (6 : Int32) < 0 := by decide
  rw [multianewarray.make]
  simp only [wp_bind', W.ite, n6, if_false, wp_pure', W.theClass, hy, hyk, Option.some.injEq, exists_eq_left', e6]
  refine W.newArray_of hy hyk hl hh hc hs rfl fun acts' => ?_
  have q := k acts'
  rw [show mq_z cy = _ from (arrV_new cy 6 (.int 0)).symm] at q
  exact q
/-- a turn of the loop -/
theorem mq_turn {U V : State} {k : Nat} (hI : mq_I cA cy U k V) (hk : k < 4) (hA : U.vm.classes[cA]? = some kA) (hAk : kA.kind = .array cy (.array .int)) (hy : U.vm.classes[cy]? = some kY) (hyk : kY.kind = .array ci .int) (hl : ¬ 6 > e.platform.arrayLengthLimit) (hh : ¬ 6 * componentBytes .int > e.platform.maxHeapBytes) (hc : U.heap.size + 5 ≤ e.platform.maxCells) (hs : U.slotsUsed + 28 ≤ e.platform.maxSlots)
    {β : Type} {g : Unit → Sem β} {Q : β → Pre} (kk : ∀ d' acts', wp (g ()) Q E e d' acts' (mq_t cA cy U.heap.size k V)) : wp (multianewarray.make cy [6]) (fun x => wp (Jvm.writeLoc U.heap.size k (.ref x) >>= g) Q E e) E e d acts V := by
  obtain ⟨h1, h2, -, -, h5, h6⟩ := hI
  refine mq_row (by rw [h5]; exact hy) hyk hl hh (by omega) (by omega) fun acts' => ?_
  rw [wp_bind', W.writeLoc]
  refine ⟨arrV cA 4 (mq_f U.heap.size k), (State.heap_pushCell_of_lt _ _ (show U.heap.size < V.heap.size by omega)).trans h2, ?_, by rw [arrV_size]; exact hk, ?_, ?_⟩
  · intro q
    cases q
  · show State.fitsSlot (V.pushCell (mq_z cy)) cA .none k (.ref V.heap.size) = true
    have hA' : V.vm.classes[cA]? = some kA := by
      rw [h5]
      exact hA
    simp [State.fitsSlot, State.slotType?, hA', hAk, fits]
  · rw [h1, mq_store]
    exact kk _ _
/-- the four turns behind the outer array -/
def mq_4 (cA cy : ClassId) (U : State) : State := mq_t cA cy U.heap.size 3 (mq_t cA cy U.heap.size 2 (mq_t cA cy U.heap.size 1 (mq_t cA cy U.heap.size 0 (U.pushCell (arrV cA 4 (mq_f U.heap.size 0))))))
theorem mq_I4 (cA cy : ClassId) (U : State) : mq_I cA cy U 4 (mq_4 cA cy U) := mq_I1 (mq_I1 (mq_I1 (mq_I1 (mq_I0 cA cy U))))
theorem mq_t_top (cA cy : ClassId) (h k : Nat) (V : State) (f : JFrame) : mq_t cA cy h k (V.setTop f) = (mq_t cA cy h k V).setTop f := by
  unfold mq_t
  rw [State.pushCell_setTop, State.setCell_setTop]
theorem mq_4_top (cA cy : ClassId) (U : State) (f : JFrame) : mq_4 cA cy (U.setTop f) = (mq_4 cA cy U).setTop f := by
  unfold mq_4
  rw [State.heap_setTop, State.pushCell_setTop, mq_t_top, mq_t_top, mq_t_top, mq_t_top]
theorem mq_all {U : State} (hA : U.vm.classes[cA]? = some kA) (hAk : kA.kind = .array cy (.array .int)) (hy : U.vm.classes[cy]? = some kY) (hyk : kY.kind = .array ci .int) (hl : ¬ 6 > e.platform.arrayLengthLimit) (hh : ¬ 6 * componentBytes .int > e.platform.maxHeapBytes) (hl4 : ¬ 4 > e.platform.arrayLengthLimit) (hh4 : ¬ 4 * componentBytes (.array .int) > e.platform.maxHeapBytes) (hc : U.heap.size + 5 ≤ e.platform.maxCells) (hs : U.slotsUsed + 28 ≤ e.platform.maxSlots)
    {Q : Addr → Pre} (kk : ∀ d' acts', Q U.heap.size d' acts' (mq_4 cA cy U)) : wp (multianewarray.make cA [4, 6]) Q E e d acts U := by
  have e4 : (4 : Int32).toNatClampNeg = 4 := by decide
  have n4 : ¬ (4 : Int32) < 0 := by decide
  have z4 : ((4 : Int32) == 0) = false := by decide
  have r4 : List.range' 0 4 1 = [0, 1, 2, 3] := by decide
  rw [multianewarray.make]
  simp only [wp_bind', W.ite, n4, if_false, wp_pure', W.theClass, hA, hAk, Option.some.injEq, exists_eq_left', e4]
  refine W.newArray_of hA hAk hl4 hh4 (by omega) (by omega) rfl fun acts0 => ?_
  have q0 : ({ cls := cA, slots := Array.replicate 4 .null, vm := .none } : Cell) = arrV cA 4 (mq_f U.heap.size 0) := by
    rw [arrV_new]
    refine mq_cg fun j _ => ?_
    unfold mq_f
    rw [if_neg (Nat.not_lt_zero j)]
  rw [q0]
  simp only [z4, Bool.false_eq_true, if_false]
  rw [wp_bind', Std.Legacy.Range.forIn_eq_forIn_range']
  simp only [Std.Legacy.Range.size, Nat.sub_zero, Nat.add_sub_cancel, Nat.div_one, r4, List.forIn_cons, List.forIn_nil, wp_bind', wp_pure']
  refine mq_turn (mq_I0 cA cy U) (by decide) hA hAk hy hyk hl hh hc hs fun d1 acts1 => ?_
  simp only [wp_bind', wp_pure']
  refine mq_turn (mq_I1 (mq_I0 cA cy U)) (by decide) hA hAk hy hyk hl hh hc hs fun d2 acts2 => ?_
  simp only [wp_bind', wp_pure']
  refine mq_turn (mq_I1 (mq_I1 (mq_I0 cA cy U))) (by decide) hA hAk hy hyk hl hh hc hs fun d3 acts3 => ?_
  simp only [wp_bind', wp_pure']
  refine mq_turn (mq_I1 (mq_I1 (mq_I1 (mq_I0 cA cy U)))) (by decide) hA hAk hy hyk hl hh hc hs fun d4 acts4 => ?_
  simp only [wp_bind', wp_pure']
  exact kk _ _
end MQW
section MQS
variable {p : Program} {l : Launch} {e : Env} {R : Room} {s : State} {m : MethodId} {args : Array Value} {below : List Frame} {meth : Method} {c : Code} {H : Heap} {locs : List Loc} {cells slots : Nat} {Q : State → Prop}
theorem mq_X1 {cA cy : ClassId} {U V : State} {k : Nat} (hI : mq_I cA cy U k V) (X : Stand p l e R s m args below meth c V locs cells slots) : Stand p l e R s m args below meth c (mq_t cA cy U.heap.size k V) (locs ++ [⟨U.heap.size, k⟩]) (cells + 1) (slots + 6) := by
  obtain ⟨h1, h2, -⟩ := hI
  have h := (X.pushed (mq_z cy)).stored (a := U.heap.size) (cell := arrV cA 4 (mq_f U.heap.size k)) ((State.heap_pushCell_of_lt _ _ (show U.heap.size < V.heap.size by omega)).trans h2) k (.ref (U.heap.size + 1 + k))
  rw [arrV_size, mq_store] at h
  exact h
theorem mq_X4 {cA : ClassId} (cy : ClassId) {U : State} (X : Stand p l e R s m args below meth c U locs cells slots) : Stand p l e R s m args below meth c (mq_4 cA cy U) (locs ++ [⟨U.heap.size, 0⟩] ++ [⟨U.heap.size, 1⟩] ++ [⟨U.heap.size, 2⟩] ++ [⟨U.heap.size, 3⟩]) (cells + 1 + 4) (slots + 4 + 4 * 6) := by
  have X0 := X.pushed (arrV cA 4 (mq_f U.heap.size 0))
  rw [arrV_size] at X0
  have I0 := mq_I0 cA cy U
  exact mq_X1 (mq_I1 (mq_I1 (mq_I1 I0))) (mq_X1 (mq_I1 (mq_I1 I0)) (mq_X1 (mq_I1 I0) (mq_X1 I0 X0)))
/-- the instruction, over any heap -/
theorem mq_new {cc : ByteArray} {pc : Nat} {ls : Array Slot} {rest : List Value} (hexec : p.tables.exec = Jvm.exec) (hb : c.code = cc) {own : String} {index : Nat} (hown : s.vm.findClass own = some m.cls) (hclink : (Cond.classLink own index ("[" ++ (FieldType.array .int).toString)).before args s = true) (hover : (Cond.arrayOver (.array .int)).before args s = true) (harr : (Cond.arrayClass .int).before args s = true)
    (hcells : cells + (1 + 4) ≤ R.cells) (hslots : slots + (4 + 4 * 6) ≤ R.slots) (hdg : decode cc pc = .ok (.multianewarray index 2, 4))
    (kk : ∀ (cA cy : ClassId) (H1 : Heap), s.vm.findClass ("[" ++ (FieldType.array .int).toString) = some cA → s.vm.findClass ("[" ++ FieldType.int.toString) = some cy → H1.size = H.size + 5 → H1[H.size]? = some (arrV cA 4 (mq_f H.size 4)) → (∀ j, j < 4 → H1[H.size + 1 + j]? = some (mq_z cy)) → (∀ x, x < H.size → H1[x]? = H[x]?) →
      W p l e R s m args below meth c H1 (locs ++ [⟨H.size, 0⟩] ++ [⟨H.size, 1⟩] ++ [⟨H.size, 2⟩] ++ [⟨H.size, 3⟩]) (cells + 1 + 4) (slots + 4 + 4 * 6) Q (F0 m (pc + 4) ls (.ref H.size :: rest))) : W p l e R s m args below meth c H locs cells slots Q (F0 m pc ls (.int 6 :: .int 4 :: rest)) := by
  intro T hT X
  subst hT
  subst hb
  have hpl : e.platform.magicAccessors = ({} : Platform).magicAccessors := by rw [X.admits.platform]
  obtain ⟨cy, cA, kA, hcy, -, hkA, hkindA, hnA⟩ := arrayOverA_spec hover
  obtain ⟨cy2, kY, ci, hcy2, hkY, hkindY⟩ := Cond.arrayClass_spec harr
  have ey : cy2 = cy := Option.some.inj (hcy2.symm.trans hcy)
  subst ey
  obtain ⟨c0, hf0, hcl⟩ := Cond.classLink_spec hown hclink e.platform hpl
  have eA : c0 = cA := Option.some.inj (hf0.symm.trans hnA)
  subst eA
  obtain ⟨hg1, hw1, hr1⟩ := State.classEntry (e := e) X.warmed hcl
  generalize T.vm.noted m.cls index (.cls c0) = vm1 at hg1 hw1 hr1
  have hal : s.vm.Alike vm1 := hw1.alike
  obtain ⟨kA1, hkA1, heA⟩ := hal.2.2 _ _ hkA
  obtain ⟨kY1, hkY1, heY⟩ := hal.2.2 _ _ hkY
  have hkindA1 : kA1.kind = .array cy2 (.array .int) := by rw [heA]; exact hkindA
  have hkindY1 : kY1.kind = .array ci .int := by rw [heY]; exact hkindY
  have X4 := mq_X4 (cA := c0) cy2 (X.noted hw1)
  obtain ⟨i1, i2, i3, i4, -, -⟩ := mq_I4 c0 cy2 (T.setVm vm1)
  obtain ⟨ha, hb'⟩ := X.roomAbove hcells hslots
  obtain ⟨t, a1, b1⟩ := kk c0 cy2 (mq_4 c0 cy2 (T.setVm vm1)).heap hnA hcy2 i1 i2 i3 i4 (mq_4 c0 cy2 (T.setVm vm1)) rfl X4
  refine ⟨t, ?_, b1⟩
  have hl6 : ¬ 6 > e.platform.arrayLengthLimit := by rw [Launch.admits_arrayLengthLimit X.admits]; omega
  have hl4 : ¬ 4 > e.platform.arrayLengthLimit := by rw [Launch.admits_arrayLengthLimit X.admits]; omega
  have hh6 : ¬ 6 * componentBytes .int > e.platform.maxHeapBytes := by rw [Launch.admits_maxHeapBytes X.admits]; decide
  have hh4 : ¬ 4 * componentBytes (.array .int) > e.platform.maxHeapBytes := by rw [Launch.admits_maxHeapBytes X.admits]; decide
  jvm_step X.here [hexec, hdg]
  simp only [multianewarray.sem, wp_bind', W.resolveClassAt_links (State.method?_setTop (F0 m pc ls (.int 6 :: .int 4 :: rest)) X.here.top) hg1]
  rw [W.popN, if_neg (by decide)]
  refine ⟨F0 m pc ls (.int 6 :: .int 4 :: rest), State.topJava?_setTop' (s := T.setVm vm1) _ X.here.top, [.int 4, .int 6], rest, rfl, rfl, ?_⟩
  simp only [List.mapM_cons, List.mapM_nil, wp_bind', wp_pure']
  have eS : ((T.setTop (F0 m pc ls (.int 6 :: .int 4 :: rest))).setVm vm1).setTop (F0 m pc ls rest) = (T.setVm vm1).setTop (F0 m pc ls rest) := by
    show ((T.setVm vm1).setTop (F0 m pc ls (.int 6 :: .int 4 :: rest))).setTop (F0 m pc ls rest) = _
    rw [State.setTop_setTop]
  show wp (multianewarray.make c0 [4, 6]) _ _ _ _ _ (((T.setTop (F0 m pc ls (.int 6 :: .int 4 :: rest))).setVm vm1).setTop (F0 m pc ls rest))
  rw [eS]
  refine mq_all (U := (T.setVm vm1).setTop (F0 m pc ls rest)) hkA1 hkindA1 hkY1 hkindY1 hl6 hh6 hl4 hh4 ha hb' fun d' acts' => ?_
  rw [mq_4_top, State.heap_setTop]
  simp only [wp_bind', W.mark, W.pushRef, State.topJava?_setTop' _ X4.here.top, Option.some.injEq, exists_eq_left', State.setTop_setTop]
  intro acts
  simp [jvm, X4.here.top]
  exact a1
end MQS
theorem mq_D {A : Nat → Prop} {ws tl : va_W} {h : Nat} (hD : va_D A ws) (hlt : ∀ (k : Nat) (x : Nat × va_E), ws[k]? = some x → x.1 < h) (ht : ∀ (k : Nat) (x : Nat × va_E), tl[k]? = some x → x.1 = h + k) (hA : ∀ q, h ≤ q → A q) : va_D A (ws ++ tl) := by
  have spl : ∀ (k : Nat) (x : Nat × va_E), (ws ++ tl)[k]? = some x → (k < ws.length ∧ ws[k]? = some x) ∨ (ws.length ≤ k ∧ x.1 = h + (k - ws.length)) := fun k x hx => by
    by_cases hl : k < ws.length
    · rw [List.getElem?_append_left hl] at hx
      exact Or.inl ⟨hl, hx⟩
    · rw [List.getElem?_append_right (by omega)] at hx
      exact Or.inr ⟨by omega, ht _ _ hx⟩
  refine ⟨fun i j x y hi hj e => ?_, fun k x hx => ?_⟩
  · rcases spl i x hi with ⟨a1, a2⟩ | ⟨a1, a2⟩ <;> rcases spl j y hj with ⟨b1, b2⟩ | ⟨b1, b2⟩
    · exact hD.1 i j x y a2 b2 e
    · have := hlt i x a2
      omega
    · have := hlt j y b2
      omega
    · omega
  · rcases spl k x hx with ⟨-, a2⟩ | ⟨-, a2⟩
    · exact hD.2 k x a2
    · exact hA _ (by omega)
