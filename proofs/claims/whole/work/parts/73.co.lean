/-! ===== constructors: a world that grows ===== -/
theorem ra_uni {U : State} {c1 c2 : ClassId} {ty : FieldType} (h1 : va_RA U c1 ty) (h2 : va_RA U c2 ty) : c1 = c2 := by
  cases ty with
  | object C =>
    obtain ⟨_, _, _, _, _, a⟩ := h1
    obtain ⟨_, _, _, _, _, b⟩ := h2
    exact Option.some.inj (a.symm.trans b)
  | _ =>
    unfold va_RA at h1 h2
    exact Option.some.inj (h1.symm.trans h2)
def CO (v : Av) (w : Cw) (rm : Room) (nL : Nat) (Q : State → Prop) (cells slots pc : Nat) (lv : List (Nat × Value)) (st : List Value) (ws : va_W) : Prop :=
  ∀ (H : Heap) (locs : List Loc) (ls : Array Slot), va_P w.1 vwCl ws H → va_D w.2.2.2.2.1 ws → va_S w.2.2.2.2.1 v.2.2.2.1.heap H locs → lv_has ls nL lv →
    W v.1 v.2.1 v.2.2.1 rm v.2.2.2.1 v.2.2.2.2.1 v.2.2.2.2.2.1 v.2.2.2.2.2.2.1 v.2.2.2.2.2.2.2.1 v.2.2.2.2.2.2.2.2 H locs cells slots Q (F0 v.2.2.2.2.1 pc ls st)
section CR
variable {v : Av} {w : Cw} {rm : Room} {nL : Nat} {Q : State → Prop} {cells slots pc n : Nat} {lv : List (Nat × Value)} {st : List Value} {ws : va_W} {own : String} {Ts : List Cond} {cc : ByteArray} {ret : Option FieldType}
theorem CO.iconst (hA : Act v w own Ts cc nL ret) {c : Int} {x : Int32} (hd : decode cc pc = .ok (.iconst c, 1)) (hv : Int32.ofInt c = x) (hn : pc + 1 = n) (k : CO v w rm nL Q cells slots n lv (.int x :: st) ws) : CO v w rm nL Q cells slots pc lv st ws := by
  subst hn
  intro H locs ls hP hD hS hl
  exact lv_iconst hA.1 hA.2.1 hd hv (k H locs ls hP hD hS hl)
theorem CO.bipush (hA : Act v w own Ts cc nL ret) {c : Int} {x : Int32} (hd : decode cc pc = .ok (.bipush c, 2)) (hv : (Int8.ofInt c).toInt32 = x) (hn : pc + 2 = n) (k : CO v w rm nL Q cells slots n lv (.int x :: st) ws) : CO v w rm nL Q cells slots pc lv st ws := by
  subst hn
  intro H locs ls hP hD hS hl
  exact lv_bipush hA.1 hA.2.1 hd hv (k H locs ls hP hD hS hl)
theorem CO.sipush (hA : Act v w own Ts cc nL ret) {c : Int} {x : Int32} (hd : decode cc pc = .ok (.sipush c, 3)) (hv : (Int16.ofInt c).toInt32 = x) (hn : pc + 3 = n) (k : CO v w rm nL Q cells slots n lv (.int x :: st) ws) : CO v w rm nL Q cells slots pc lv st ws := by
  subst hn
  intro H locs ls hP hD hS hl
  exact lv_sipush hA.1 hA.2.1 hd hv (k H locs ls hP hD hS hl)
theorem CO.aload_n (hA : Act v w own Ts cc nL ret) {c : Fin 4} {x : Nat} (hd : decode cc pc = .ok (.aload_n c, 1)) (q : Nat) (hq : lv[q]? = some ((c : Nat), .ref x)) (hn : pc + 1 = n) (k : CO v w rm nL Q cells slots n lv (.ref x :: st) ws) : CO v w rm nL Q cells slots pc lv st ws := by
  subst hn
  intro H locs ls hP hD hS hl
  exact lv_aload_n hA.1 hA.2.1 hd rfl (lv_at hl q hq) (k H locs ls hP hD hS hl)
theorem CO.dup (hA : Act v w own Ts cc nL ret) {x : Value} (hx : x.category = 1) (hd : decode cc pc = .ok (.dup, 1)) (hn : pc + 1 = n) (k : CO v w rm nL Q cells slots n lv (x :: x :: st) ws) : CO v w rm nL Q cells slots pc lv (x :: st) ws := by
  subst hn
  intro H locs ls hP hD hS hl
  exact lv_dup hA.1 hA.2.1 hd hx (k H locs ls hP hD hS hl)
theorem CO.objInit (hA : Act v w own Ts cc nL ret) {i : Nat} {a : Nat} (h1 : Cond.methodLink own i objectInit ∈ Ts) (h2 : Cond.instanceMethod objectInit ∈ Ts) (h3 : Cond.code objectInit ⟨#[0xb1]⟩ 1 none ∈ Ts) (hd : decode cc pc = .ok (.invokespecial i, 3)) (hf : 1 ≤ rm.frames) (hlo : 12 ≤ rm.locals) (hn : pc + 3 = n) (k : CO v w rm nL Q cells slots n lv [] ws) : CO v w rm nL Q cells slots pc lv [.ref a] ws := by
  subst hn
  intro H locs ls hP hD hS hl
  refine W.objInit hA.1 hA.2.1 hA.2.2.2.2.2.1 (hA.2.2.2.2.2.2.1 _ h1) (hA.2.2.2.2.2.2.1 _ h2) (hA.2.2.2.2.2.2.1 _ h3) rfl (by rw [hA.2.2.2.2.1]; exact hl.1) rfl hd hf hlo ?_
  exact k H locs ls hP hD hS hl
theorem CO.newarr (hA : Act v w own Ts cc nL ret) (hF : ∀ q, v.2.2.2.1.heap.size ≤ q → w.2.2.2.2.1 q) {atype : ArrayType} {ty : FieldType} {x : Int32} {N t : Nat} (hty : newarray.typeOf atype = ty) (ht : (w_tys w.2.2.1)[t]? = some (w.2.2.1 t, ty)) (hz : defaultValue ty = .int 0) (hx : ¬ x < 0) (hN : x.toNatClampNeg = N) (hby : N * componentBytes ty ≤ 536870912) (hc : cells + 1 ≤ rm.cells) (hsl : slots + N ≤ rm.slots) (har : Cond.arrayClass ty ∈ Ts) (hd : decode cc pc = .ok (.newarray atype, 2)) (hn : pc + 2 = n) (k : ∀ q, CO v w rm nL Q (cells + 1) (slots + N) n lv (.ref q :: st) (ws ++ [(q, .inl (w.2.2.1 t, N, .inl (fun _ => 0)))])) : CO v w rm nL Q cells slots pc lv (.int x :: st) ws := by
  subst hn
  subst hty
  intro H locs ls hP hD hS hl
  refine va_newa (a0 := (N, .inl (fun _ => 0))) hA.1 hA.2.1 (hA.2.2.2.2.2.2.1 _ har) rfl hA.2.2.2.2.2.2.2 hP hD hS hF (fun c => ?_) hx hN hby hc hsl hd (fun q cA H1 hK1 hP1 hD1 hS1 => ?_)
  · rw [vp_cell_i, hz]
  · have e : cA = w.2.2.1 t := ra_uni (hK1.2 4 (cA, newarray.typeOf atype) rfl).2 (hA.2.2.2.2.2.2.2.2 t _ ht).2
    subst e
    exact k q H1 locs ls hP1 hD1 hS1 hl
theorem CO.putF (hA : Act v w own Ts cc nL ret) (hin2 : v.2.2.2.2.2.2.2.1.name = "<init>") {C : String} {T : u_T} {N ci i r j a : Nat} {fs : List Value} {x : Value} {ty : FieldType} (hs : ws[r]? = some (a, .inr (ci, fs))) (hc : vwCl[ci]? = some (C, T, N)) (hin : ∀ q ∈ u_ws C T N, q ∈ Ts) (ty0 : Nat → FieldType) (hty : ∀ k, k < N → parseFieldDescriptor (T k).2.2.1 = some (ty0 k)) (hnm : ∀ a, a < N → ∀ b, b < N → a ≠ b → (T a).2.1 ≠ (T b).2.1) (hj : j < N) (hlk : Cond.fieldLink own i (T j).1 (T j).2.1 (T j).2.2.1 ∈ Ts) (hfin : (T j).2.2.2 = true) (hde : (T j).1 = own) (ht : ty0 j = ty) (hnr : narrow ty x = x) (hfit : fits ty x = true) (hl0 : j < fs.length) (hd : decode cc pc = .ok (.putfield i, 3)) (hn : pc + 3 = n) {ws' : va_W} (hw : ws.set r (a, .inr (ci, fs.set j x)) = ws') (k : CO v w rm nL Q cells slots n lv st ws') : CO v w rm nL Q cells slots pc lv (x :: .ref a :: st) ws := by
  subst hn
  subst hw
  intro H locs ls hP hD hS hl
  refine va_putF (D := w.1) (ci := ci) (C := C) (T := T) (N := N) hA.1 hA.2.1 hA.2.2.2.2.2.2.1 hin ty0 hty hnm hA.2.2.2.2.2.1 hA.2.2.2.2.2.2.2 hP hD hS r hs hc j hj (hA.2.2.2.2.2.2.1 _ hlk) (fun _ h => h) hfin hin2 hde (by rw [hty j hj, ht]) hnr hfit hl0 hd (fun H1 locs1 hP1 hD1 hS1 => ?_)
  exact k H1 locs1 ls hP1 hD1 hS1 hl
theorem CO.iast (hA : Act v w own Ts cc nL ret) {r a N : Nat} {f : Nat → Int32} {i x : Int32} (hs : ws[r]? = some (a, .inl (w.2.2.1 0, N, .inl f))) (hi : vp_in i N) (hd : decode cc pc = .ok (.iastore, 1)) (hn : pc + 1 = n) {ws' : va_W} (hw : ws.set r (a, .inl (w.2.2.1 0, N, .inl (upd f i.toNatClampNeg x))) = ws') (k : CO v w rm nL Q cells slots n lv st ws') : CO v w rm nL Q cells slots pc lv (.int x :: .int i :: .ref a :: st) ws := by
  subst hn
  subst hw
  intro H locs ls hP hD hS hl
  refine va_iast hA.1 hA.2.1 hA.2.2.2.2.2.2.2 hP hD hS r 0 hs rfl hi hd (fun H1 locs1 hP1 hD1 hS1 => ?_)
  exact k H1 locs1 ls hP1 hD1 hS1 hl
end CR
/-- a constructor's contract: out of a blank object it makes the cells seg, at the addresses u -/
def Mk (l : Launch) (D : va_G) (cA : Nat → ClassId) (y : MethodName) (wy : List Cond) (rm : Room) (ci : Nat) (fs : List Value) (seg : (Nat → Nat) → va_W) (Z : State → Prop) : Prop :=
  ∀ (q sz : Nat), Met l y wy rm (va_Pc [.ref q] (fun U => Z U ∧ U.heap.size = sz ∧ va_P D vwCl [(q, .inr (ci, fs))] U.heap ∧ va_K D vwCl (w_tys cA) U ∧ va_D (fun _ => True) [(q, .inr (ci, fs))])) (va_Qv (fun u : Nat → Nat => u 0 = q) (fun u t => va_P D vwCl (seg u) t.heap ∧ va_D (va_A [(q, .inr (ci, fs))] sz) (seg u)) (va_A [(q, .inr (ci, fs))] sz)) rm.cells rm.slots (va_A [(q, .inr (ci, fs))] sz)
abbrev cwD (D : va_G) (cA : Nat → ClassId) (A : Nat → Prop) : Cw := (D, (fun _ => 0), cA, [], A, [])
def QM (v : Av) (D : va_G) (A : Nat → Prop) (seg : (Nat → Nat) → va_W) (q mc ms : Nat) : State → Prop := MQ v.2.2.2.2.2.2.1 (va_Qv (fun u : Nat → Nat => u 0 = q) (fun u t => va_P D vwCl (seg u) t.heap ∧ va_D A (seg u)) A) v.2.2.2.2.2.1 v.2.2.2.1 mc ms A
theorem Mk.of {l : Launch} {D : va_G} {cA : Nat → ClassId} {y : MethodName} {wy ws' : List Cond} {rm : Room} {ci : Nat} {fs : List Value} {seg : (Nat → Nat) → va_W} {Z : State → Prop} {cc : ByteArray} {nL : Nat} (hy : plainName y.cls = true) (hw : wy = Cond.code y cc nL none :: ws') (hnm : y.name = "<init>") (hnL : 1 ≤ nL)
    (k : ∀ (v : Av) (A : Nat → Prop) (q : Nat), v.2.1 = l → Act v (cwD D cA A) y.cls wy cc nL none → v.2.2.2.2.2.2.2.1.name = "<init>" → (∀ x, v.2.2.2.1.heap.size ≤ x → A x) → Z v.2.2.2.1 → CO v (cwD D cA A) rm nL (QM v D A seg q rm.cells rm.slots) 0 0 0 [(0, .ref q)] [] [(q, .inr (ci, fs))]) : Mk l D cA y wy rm ci fs seg Z := by
  intro q sz
  refine Met.ofW (cc := cc) (maxL := nL) (ret := none) hy hw ?_
  intro p e s m args below meth c s₁ B hml hv
  obtain ⟨rfl, hZ, hsz, hP, hK, hD⟩ := hv
  subst hsz
  have hl := lv_entry [.ref q] (n := nL) hnL
  rw [lg_entry_eq]
  exact k (p, l, e, s, m, [Value.ref q].toArray, below, meth, c) (va_A [(q, .inr (ci, fs))] s.heap.size) q rfl ⟨B.exec, B.bytes, B.returns, B.notSynchronized, hml, findClass_of_methodNamed B.named, atoms_spec (ws := wy) B.pre, hK⟩ ((name_of_methodNamed B.named B.method).1.trans hnm) (fun x hx => Or.inr hx) hZ s.heap [] _ hP hD.self va_S.rf hl
theorem CO.done {v : Av} {D : va_G} {cA : Nat → ClassId} {A : Nat → Prop} {rm : Room} {nL : Nat} {seg : (Nat → Nat) → va_W} {q pc mc ms : Nat} {lv : List (Nat × Value)} {ws : va_W} {own : String} {Ts : List Cond} {cc : ByteArray} (hA : Act v (cwD D cA A) own Ts cc nL none) (u : Nat → Nat) (hu : u 0 = q) (hP' : ∀ H, va_P D vwCl ws H → va_P D vwCl (seg u) H) (hD' : va_D A ws → va_D A (seg u)) (hd : decode cc pc = .ok (.return_, 1)) : CO v (cwD D cA A) rm nL (QM v D A seg q mc ms) mc ms pc lv [] ws := by
  intro H locs ls hP hD hS hl
  exact W.vret hA.1 hA.2.1 hA.2.2.1 (fun t ht hW => ⟨⟨u, rfl, hu, by rw [ht]; exact hP' _ hP, hD' hD⟩, hS.F ht⟩) hS.2.2 hd hA.2.2.2.1
theorem nd_up : ∀ (m k : Nat), va_nd (List.range' k m) = true
  | 0, _ => rfl
  | m + 1, k => by
    rw [List.range'_succ, va_nd, nd_up m (k + 1), Bool.and_true]
    apply decide_eq_true
    intro h
    rw [List.mem_range'_1] at h
    omega
theorem rg_map (ws : va_W) (x : Nat × va_E) : (List.range' 0 ws.length).map (fun i => (ws ++ [x])[i]?) = ws.map some := by
  apply List.ext_getElem?
  intro i
  rw [List.getElem?_map, List.getElem?_map]
  by_cases h : i < ws.length
  · rw [List.getElem?_range' h, Option.map_some, Nat.zero_add, Nat.one_mul, List.getElem?_append_left h, List.getElem?_eq_getElem h]
    rfl
  · rw [List.getElem?_eq_none (by rw [List.length_range']; omega), List.getElem?_eq_none (by omega)]
    rfl
theorem lst_map (ws : va_W) (x : Nat × va_E) : ([ws.length] : List Nat).map (fun i => (ws ++ [x])[i]?) = [x].map some := by
  rw [List.map_cons, List.map_nil, List.getElem?_append_right (Nat.le_refl _), Nat.sub_self]
  rfl
theorem CO.makeN {v : Av} {w : Cw} {rm : Room} {nL : Nat} {Q : State → Prop} {cells slots pc n : Nat} {lv : List (Nat × Value)} {st : List Value} {ws : va_W} {own : String} {Ts : List Cond} {cc : ByteArray} {ret : Option FieldType} (hA : Act v w own Ts cc nL ret) (hF : ∀ q, v.2.2.2.1.heap.size ≤ q → w.2.2.2.2.1 q) {y : MethodName} {wy ws' : List Cond} {rm' : Room} {ci : Nat} {fs : List Value} {seg : (Nat → Nat) → va_W} {Z : State → Prop} (hM : Mk v.2.1 w.1 w.2.2.1 y wy rm' ci fs seg Z) {C : String} {T : u_T} {N i j maxL : Nat} {bytes : ByteArray} (hc : vwCl[ci]? = some (C, T, N)) (hin : ∀ q ∈ u_ws C T N, q ∈ Ts) (ty0 : Nat → FieldType) (hty : ∀ k, k < N → parseFieldDescriptor (T k).2.2.1 = some (ty0 k)) (hfs : ∀ j, j < N → defaultValue (ty0 j) = vp_V fs j) (hcl : Cond.classLink own i C ∈ Ts) (hinst : Cond.instantiable C N ∈ Ts) (hini : Cond.initialized C ∈ Ts) {host : String} (hlk : va_Nw (.methodLinkNest own j y host) v.2.2.2.1) (hG : GoodIn Ts wy) (hwy : wy = Cond.code y bytes maxL none :: ws') (hyc : y.cls = C) (hyn : y.name = "<init>") (hyd : y.cls ≠ "java/lang/invoke/MethodHandle" ∧ y.cls ≠ "java/lang/invoke/VarHandle" ∧ (parseMethodDescriptor y.desc).map (fun d => d.parameters.length) = some 0) (him : Cond.instanceMethod y ∈ Ts) (hrm : rm'.frames + 1 ≤ rm.frames ∧ 8 + (maxL + 11) + rm'.locals ≤ rm.locals) (hcs : cells + 1 + rm'.cells ≤ rm.cells ∧ slots + N + rm'.slots ≤ rm.slots) (hZ1 : ∀ (U : State) (g : JFrame) (mk : MethodId) (a : Array Value), Z U → Z (U.calling g mk a)) (hZ2 : ∀ U : State, v.2.2.2.1.WarmedH U.vm → Z U) (hro : ∀ q : Nat, ((Value.ref q :: st).map fun v => v.category).sum ≤ 8) (d1 : decode cc pc = .ok (.new i, 3)) (d2 : decode cc (pc + 3) = .ok (.dup, 1)) (d3 : decode cc (pc + 3 + 1) = .ok (.invokespecial j, 3)) (hn : pc + 3 + 1 + 3 = n)
    (k : ∀ u : Nat → Nat, CO v w rm nL Q (cells + 1 + rm'.cells) (slots + N + rm'.slots) n lv (.ref (u 0) :: st) (ws ++ seg u)) : CO v w rm nL Q cells slots pc lv st ws := by
  subst hn
  intro H locs ls hP hD hS hl
  have hts := hA.2.2.2.2.2.2.1
  have hK := hA.2.2.2.2.2.2.2
  refine va_new (ci := ci) (fs := fs) (C := C) (T := T) (N := N) hA.1 hA.2.1 hts hin ty0 hty hA.2.2.2.2.2.1 (hts _ hcl) (hts _ hinst) (hts _ hini) hK hP hD hS hF hc hfs (by omega) (by omega) d1 (fun q H1 hP1 hD1 hS1 => ?_)
  refine lv_dup hA.1 hA.2.1 d2 rfl ?_
  have hPc : va_P w.1 vwCl [(q, .inr (ci, fs))] H1 := fun k x hx => hP1 (ws.length + k) x (by rw [List.getElem?_append_right (by omega), show ws.length + k - ws.length = k by omega]; exact hx)
  have hDc : va_D (fun _ => True) ([(q, .inr (ci, fs))] : va_W) := ⟨fun i j x z hi hj _ => by
    have h1 := (List.getElem?_eq_some_iff.mp hi).1
    have h2 := (List.getElem?_eq_some_iff.mp hj).1
    simp only [List.length_cons, List.length_nil] at h1 h2
    omega, fun _ _ _ => trivial⟩
  have hFc := va_free (wc := [(q, .inr (ci, fs))]) hD1 hS1 hF [ws.length] (lst_map ws _)
  refine va_callv (va_runIN (As := []) (rest := .ref q :: st) ⟨hA.1, hA.2.1, hA.2.2.2.2.1, hA.2.2.2.2.2.1, hts⟩ (hM q H1.size) ⟨va_cnB 0 hts hG hwy rfl rfl hlk (by rw [hyc]; exact hts _ hini) hyd hrm, hyn, hts _ him⟩ ⟨fun a U g mk qq => by obtain ⟨q0, qz, q1, qP, qK, qD⟩ := qq; exact ⟨q0, hZ1 _ _ _ _ qz, q1, qP, va_K.moved (u := U) (U := U.calling g mk a) (Vm.Alike.refl U.vm) qK, qD⟩, fun U hU hW => ⟨rfl, hZ2 U hW, by rw [hU], by rw [hU]; exact hPc, va_K.moved hW.alike hK, hDc⟩⟩ rfl rfl hl.1 rfl (lv_room (hro q)) d3 ⟨by omega, by omega⟩) hS1 (fun x _ h => hFc x h) hFc (fun u t H2 locs2 ht hvm hpost hB hz1 hk1 hS2 => ?_)
  obtain ⟨hP2, hD2⟩ := hB
  rw [ht] at hP2
  obtain ⟨hP3, hD3⟩ := va_join (wr := ws) (w1 := seg u) hP1 hD1 [ws.length] (List.range' 0 ws.length) (lst_map ws _) (rg_map ws _) (nd_up _ _) (fun i hi hj => by rw [List.mem_range'_1] at hi; rw [List.mem_singleton] at hj; omega) hk1 hFc hP2 hD2
  have h9 := k u H2 locs2 ls hP3 hD3 hS2 hl
  rw [hpost] at h9
  exact h9
theorem CO.make {v : Av} {w : Cw} {rm : Room} {nL : Nat} {Q : State → Prop} {cells slots pc n : Nat} {lv : List (Nat × Value)} {st : List Value} {ws : va_W} {own : String} {Ts : List Cond} {cc : ByteArray} {ret : Option FieldType} (hA : Act v w own Ts cc nL ret) (hF : ∀ q, v.2.2.2.1.heap.size ≤ q → w.2.2.2.2.1 q) {y : MethodName} {wy ws' : List Cond} {rm' : Room} {ci : Nat} {fs : List Value} {seg : (Nat → Nat) → va_W} {Z : State → Prop} (hM : Mk v.2.1 w.1 w.2.2.1 y wy rm' ci fs seg Z) {C : String} {T : u_T} {N i j maxL : Nat} {bytes : ByteArray} (hc : vwCl[ci]? = some (C, T, N)) (hin : ∀ q ∈ u_ws C T N, q ∈ Ts) (ty0 : Nat → FieldType) (hty : ∀ k, k < N → parseFieldDescriptor (T k).2.2.1 = some (ty0 k)) (hfs : ∀ j, j < N → defaultValue (ty0 j) = vp_V fs j) (hcl : Cond.classLink own i C ∈ Ts) (hinst : Cond.instantiable C N ∈ Ts) (hini : Cond.initialized C ∈ Ts) (hlk : Cond.methodLink own j y ∈ Ts) (hG : GoodIn Ts wy) (hwy : wy = Cond.code y bytes maxL none :: ws') (hyc : y.cls = C) (hyn : y.name = "<init>") (hyd : y.cls ≠ "java/lang/invoke/MethodHandle" ∧ y.cls ≠ "java/lang/invoke/VarHandle" ∧ (parseMethodDescriptor y.desc).map (fun d => d.parameters.length) = some 0) (him : Cond.instanceMethod y ∈ Ts) (hrm : rm'.frames + 1 ≤ rm.frames ∧ 8 + (maxL + 11) + rm'.locals ≤ rm.locals) (hcs : cells + 1 + rm'.cells ≤ rm.cells ∧ slots + N + rm'.slots ≤ rm.slots) (hZ1 : ∀ (U : State) (g : JFrame) (mk : MethodId) (a : Array Value), Z U → Z (U.calling g mk a)) (hZ2 : ∀ U : State, v.2.2.2.1.WarmedH U.vm → Z U) (hro : ∀ q : Nat, ((Value.ref q :: st).map fun v => v.category).sum ≤ 8) (d1 : decode cc pc = .ok (.new i, 3)) (d2 : decode cc (pc + 3) = .ok (.dup, 1)) (d3 : decode cc (pc + 3 + 1) = .ok (.invokespecial j, 3)) (hn : pc + 3 + 1 + 3 = n)
    (k : ∀ u : Nat → Nat, CO v w rm nL Q (cells + 1 + rm'.cells) (slots + N + rm'.slots) n lv (.ref (u 0) :: st) (ws ++ seg u)) : CO v w rm nL Q cells slots pc lv st ws := by
  subst hn
  intro H locs ls hP hD hS hl
  have hts := hA.2.2.2.2.2.2.1
  have hK := hA.2.2.2.2.2.2.2
  refine va_new (ci := ci) (fs := fs) (C := C) (T := T) (N := N) hA.1 hA.2.1 hts hin ty0 hty hA.2.2.2.2.2.1 (hts _ hcl) (hts _ hinst) (hts _ hini) hK hP hD hS hF hc hfs (by omega) (by omega) d1 (fun q H1 hP1 hD1 hS1 => ?_)
  refine lv_dup hA.1 hA.2.1 d2 rfl ?_
  have hPc : va_P w.1 vwCl [(q, .inr (ci, fs))] H1 := fun k x hx => hP1 (ws.length + k) x (by rw [List.getElem?_append_right (by omega), show ws.length + k - ws.length = k by omega]; exact hx)
  have hDc : va_D (fun _ => True) ([(q, .inr (ci, fs))] : va_W) := ⟨fun i j x z hi hj _ => by
    have h1 := (List.getElem?_eq_some_iff.mp hi).1
    have h2 := (List.getElem?_eq_some_iff.mp hj).1
    simp only [List.length_cons, List.length_nil] at h1 h2
    omega, fun _ _ _ => trivial⟩
  have hFc := va_free (wc := [(q, .inr (ci, fs))]) hD1 hS1 hF [ws.length] (lst_map ws _)
  refine va_callv (va_runI (As := []) (rest := .ref q :: st) ⟨hA.1, hA.2.1, hA.2.2.2.2.1, hA.2.2.2.2.2.1, hts⟩ (hM q H1.size) (cwI 0 hts hG hwy rfl rfl (by rw [hyc]; exact hts _ hini) (hts _ hlk) (hts _ him) hyn hyd hrm) ⟨fun a U g mk qq => by obtain ⟨q0, qz, q1, qP, qK, qD⟩ := qq; exact ⟨q0, hZ1 _ _ _ _ qz, q1, qP, va_K.moved (u := U) (U := U.calling g mk a) (Vm.Alike.refl U.vm) qK, qD⟩, fun U hU hW => ⟨rfl, hZ2 U hW, by rw [hU], by rw [hU]; exact hPc, va_K.moved hW.alike hK, hDc⟩⟩ rfl rfl hl.1 rfl (lv_room (hro q)) d3 ⟨by omega, by omega⟩) hS1 (fun x _ h => hFc x h) hFc (fun u t H2 locs2 ht hvm hpost hB hz1 hk1 hS2 => ?_)
  obtain ⟨hP2, hD2⟩ := hB
  rw [ht] at hP2
  obtain ⟨hP3, hD3⟩ := va_join (wr := ws) (w1 := seg u) hP1 hD1 [ws.length] (List.range' 0 ws.length) (lst_map ws _) (rg_map ws _) (nd_up _ _) (fun i hi hj => by rw [List.mem_range'_1] at hi; rw [List.mem_singleton] at hj; omega) hk1 hFc hP2 hD2
  have h9 := k u H2 locs2 ls hP3 hD3 hS2 hl
  rw [hpost] at h9
  exact h9
