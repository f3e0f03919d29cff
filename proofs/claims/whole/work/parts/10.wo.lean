/-! ===== memory as numbers: object or array number, place in it, value; the world that a memory is ===== -/
abbrev Mem : Type := Nat → Nat → Int32
def mset (M : Mem) (r : Nat) (f : Nat → Int32) : Mem := fun q => if q = r then f else M q
def mu (M : Mem) (r k : Nat) (v : Int32) : Mem := mset M r (upd (M r) k v)
theorem mset_eq (M : Mem) (r : Nat) (f : Nat → Int32) : mset M r f r = f := if_pos rfl
theorem mset_ne (M : Mem) {r q : Nat} (f : Nat → Int32) (h : q ≠ r) : mset M r f q = M q := if_neg h
/-- an object (its class's number; its fields: none is an int, some p the object or array p), or an array (kind, length; of references: to which) -/
abbrev Sh : Type := (Nat × List (Option Nat)) ⊕ (Nat × Nat × Option (Nat → Nat))
def w_f1 (adr : Nat → Nat) (x : Int32) (o : Option Nat) : Value := match o with
  | none => .int x
  | some p => .ref (adr p)
def w_fs (adr : Nat → Nat) (f : Nat → Int32) : Nat → List (Option Nat) → List Value
  | _, [] => []
  | k, o :: t => w_f1 adr (f k) o :: w_fs adr f (k + 1) t
def w_cell (adr : Nat → Nat) (cA : Nat → ClassId) (M : Mem) (r : Nat) (s : Sh) : Nat × va_E := (adr r, match s with
  | .inl (ci, fl) => .inr (ci, w_fs adr (M r) 0 fl)
  | .inr (t, n, none) => .inl (cA t, n, .inl (M r))
  | .inr (t, n, some g) => .inl (cA t, n, .inr (.inr (.inr (.inr (fun k => some (adr (g k))))))))
def w_list (adr : Nat → Nat) (cA : Nat → ClassId) (M : Mem) : Nat → List Sh → va_W
  | _, [] => []
  | r, s :: t => w_cell adr cA M r s :: w_list adr cA M (r + 1) t
theorem w_get (adr : Nat → Nat) (cA : Nat → ClassId) (M : Mem) : ∀ (sh : List Sh) (r k : Nat), (w_list adr cA M r sh)[k]? = (sh[k]?).map (w_cell adr cA M (r + k))
  | [], r, k => by simp [w_list]
  | s :: t, r, 0 => by simp [w_list]
  | s :: t, r, k + 1 => by
    rw [w_list, List.getElem?_cons_succ, List.getElem?_cons_succ, w_get adr cA M t (r + 1) k]
    rw [show r + 1 + k = r + (k + 1) by omega]
theorem w_len (adr : Nat → Nat) (cA : Nat → ClassId) (M : Mem) : ∀ (sh : List Sh) (r : Nat), (w_list adr cA M r sh).length = sh.length
  | [], _ => rfl
  | _ :: t, r => by rw [w_list, List.length_cons, List.length_cons, w_len adr cA M t (r + 1)]
theorem w_cellcg {adr : Nat → Nat} {cA : Nat → ClassId} {M M' : Mem} {r : Nat} (h : M' r = M r) (s : Sh) : w_cell adr cA M' r s = w_cell adr cA M r s := by
  unfold w_cell
  rw [h]
theorem w_cg {adr : Nat → Nat} {cA : Nat → ClassId} {M M' : Mem} : ∀ (sh : List Sh) (r : Nat), (∀ q, r ≤ q → M' q = M q) → w_list adr cA M' r sh = w_list adr cA M r sh
  | [], _, _ => rfl
  | s :: t, r, h => by rw [w_list, w_list, w_cellcg (h r (Nat.le_refl _)), w_cg t (r + 1) (fun q hq => h q (by omega))]
theorem w_set {adr : Nat → Nat} {cA : Nat → ClassId} {M M' : Mem} : ∀ (sh : List Sh) (r k : Nat) (s : Sh), sh[k]? = some s → (∀ q, q ≠ r + k → M' q = M q) → (w_list adr cA M r sh).set k (w_cell adr cA M' (r + k) s) = w_list adr cA M' r sh
  | [], r, k, s, h, _ => by simp at h
  | s0 :: t, r, 0, s, h, hm => by
    simp at h
    subst h
    rw [w_list, w_list, List.set_cons_zero, w_cg t (r + 1) (fun q hq => hm q (by omega))]
    rfl
  | s0 :: t, r, k + 1, s, h, hm => by
    rw [List.getElem?_cons_succ] at h
    rw [w_list, w_list, List.set_cons_succ, w_cellcg (hm r (by omega)), show r + (k + 1) = (r + 1) + k by omega, w_set t (r + 1) k s h (fun q hq => hm q (by omega))]
theorem w_fget (adr : Nat → Nat) (f : Nat → Int32) : ∀ (fl : List (Option Nat)) (k j : Nat), (w_fs adr f k fl)[j]? = (fl[j]?).map (w_f1 adr (f (k + j)))
  | [], k, j => by simp [w_fs]
  | o :: t, k, 0 => by simp [w_fs]
  | o :: t, k, j + 1 => by
    rw [w_fs, List.getElem?_cons_succ, List.getElem?_cons_succ, w_fget adr f t (k + 1) j, show k + 1 + j = k + (j + 1) by omega]
theorem w_flen (adr : Nat → Nat) (f : Nat → Int32) : ∀ (fl : List (Option Nat)) (k : Nat), (w_fs adr f k fl).length = fl.length
  | [], _ => rfl
  | _ :: t, k => by rw [w_fs, List.length_cons, List.length_cons, w_flen adr f t (k + 1)]
theorem w_fcg {adr : Nat → Nat} {f g : Nat → Int32} : ∀ (fl : List (Option Nat)) (k : Nat), (∀ q, k ≤ q → g q = f q) → w_fs adr g k fl = w_fs adr f k fl
  | [], _, _ => rfl
  | o :: t, k, h => by rw [w_fs, w_fs, h k (Nat.le_refl _), w_fcg t (k + 1) (fun q hq => h q (by omega))]
theorem w_fset {adr : Nat → Nat} {f : Nat → Int32} {v : Int32} : ∀ (fl : List (Option Nat)) (k j : Nat), fl[j]? = some none → (w_fs adr f k fl).set j (.int v) = w_fs adr (upd f (k + j) v) k fl
  | [], k, j, h => by simp at h
  | o :: t, k, 0, h => by
    simp at h
    subst h
    rw [w_fs, w_fs, List.set_cons_zero, w_fcg (f := f) (g := upd f (k + 0) v) t (k + 1) (fun q hq => by simp [upd]; omega)]
    simp [w_f1, upd]
  | o :: t, k, j + 1, h => by
    rw [List.getElem?_cons_succ] at h
    rw [w_fs, w_fs, List.set_cons_succ, w_fset t (k + 1) j h, show k + 1 + j = k + (j + 1) by omega]
    congr 2
    simp [upd]
abbrev Cw : Type := va_G × (Nat → Nat) × (Nat → ClassId) × va_W × (Nat → Prop) × List Sh
def wd (w : Cw) (M : Mem) : va_W := w_list w.2.1 w.2.2.1 M 0 w.2.2.2.2.2 ++ w.2.2.2.1
def w_tys (cA : Nat → ClassId) : List (ClassId × FieldType) := [(cA 0, .int), (cA 1, .boolean), (cA 2, .object "ClockWakers$Sheet"), (cA 3, .array .int)]
theorem wd_get {w : Cw} {M : Mem} {r : Nat} {s : Sh} (h : w.2.2.2.2.2[r]? = some s) : (wd w M)[r]? = some (w_cell w.2.1 w.2.2.1 M r s) := by
  have hl : r < (w_list w.2.1 w.2.2.1 M 0 w.2.2.2.2.2).length := by rw [w_len]; exact (List.getElem?_eq_some_iff.mp h).1
  unfold wd
  rw [List.getElem?_append_left hl, w_get, h]
  simp
theorem wd_set {w : Cw} {M M' : Mem} {r : Nat} {s : Sh} (h : w.2.2.2.2.2[r]? = some s) (hm : ∀ q, q ≠ r → M' q = M q) : (wd w M).set r (w_cell w.2.1 w.2.2.1 M' r s) = wd w M' := by
  have hl : r < (w_list w.2.1 w.2.2.1 M 0 w.2.2.2.2.2).length := by rw [w_len]; exact (List.getElem?_eq_some_iff.mp h).1
  unfold wd
  rw [List.set_append_left _ _ hl]
  have := w_set (adr := w.2.1) (cA := w.2.2.1) (M := M) (M' := M') w.2.2.2.2.2 0 r s h (fun q hq => hm q (by omega))
  rw [show 0 + r = r by omega] at this
  rw [this]
/-- the state holds the world -/
def Wok (w : Cw) (M : Mem) (U : State) : Prop := va_P w.1 vwCl (wd w M) U.heap ∧ va_K w.1 vwCl (w_tys w.2.2.1) U ∧ va_D w.2.2.2.2.1 (wd w M)
def Qo {α : Type} (w : Cw) (enc : α → Option Value) (a : α) (M' : Mem) : Array Value → State → Outcome → State → Prop := fun _ st oc t => (oc = .returned (enc a) ∧ Wok w M' t) ∧ va_F w.2.2.2.2.1 st t
/-- a method's contract: where its function gives an answer and a memory, the method returns that answer and the world is that memory -/
def Ok {α : Type} (l : Launch) (w : Cw) (enc : α → Option Value) (y : MethodName) (ws : List Cond) (rm : Room) (av : List Value) (M : Mem) (o : Option (α × Mem)) : Prop :=
  ∀ a M', o = some (a, M') → Met l y ws rm (va_Pc av (Wok w M)) (Qo w enc a M') 0 0 w.2.2.2.2.1
abbrev eI : Int32 → Option Value := fun x => some (.int x)
abbrev eL : Int64 → Option Value := fun x => some (.long x)
abbrev eV : Unit → Option Value := fun _ => none
abbrev Av : Type := Program × Launch × Env × State × MethodId × Array Value × List Frame × Method × Code
def Act (v : Av) (w : Cw) (own : String) (Ts : List Cond) (cc : ByteArray) (nL : Nat) (ret : Option FieldType) : Prop :=
  v.1.tables.exec = Jvm.exec ∧ v.2.2.2.2.2.2.2.2.code = cc ∧ v.2.2.2.2.2.2.2.1.sig.returnType = ret ∧ v.2.2.2.2.2.2.2.1.locks = false ∧ v.2.2.2.2.2.2.2.2.maxLocals = nL ∧ v.2.2.2.1.vm.findClass own = some v.2.2.2.2.1.cls ∧ (∀ q ∈ Ts, q.before v.2.2.2.2.2.1 v.2.2.2.1 = true) ∧ va_K w.1 vwCl (w_tys w.2.2.1) v.2.2.2.1
def Wv (v : Av) (rm : Room) (H : Heap) (locs : List Loc) (Q : State → Prop) (g : JFrame) : Prop := W v.1 v.2.1 v.2.2.1 rm v.2.2.2.1 v.2.2.2.2.1 v.2.2.2.2.2.1 v.2.2.2.2.2.2.1 v.2.2.2.2.2.2.2.1 v.2.2.2.2.2.2.2.2 H locs 0 0 Q g
/-- at pc, with these locals and this stack: where o gives an answer and a memory, the method ends so -/
def WO {α : Type} (v : Av) (w : Cw) (rm : Room) (nL : Nat) (enc : α → Option Value) (o : Option (α × Mem)) (pc : Nat) (lv : List (Nat × Value)) (st : List Value) (M : Mem) : Prop :=
  ∀ a M', o = some (a, M') → ∀ (H : Heap) (locs : List Loc) (ls : Array Slot), va_P w.1 vwCl (wd w M) H → va_D w.2.2.2.2.1 (wd w M) → va_S w.2.2.2.2.1 v.2.2.2.1.heap H locs → lv_has ls nL lv →
    Wv v rm H locs (MQ v.2.2.2.2.2.2.1 (Qo w enc a M') v.2.2.2.2.2.1 v.2.2.2.1 0 0 w.2.2.2.2.1) (F0 v.2.2.2.2.1 pc ls st)
theorem Ok.of {α : Type} {l : Launch} {w : Cw} {enc : α → Option Value} {y : MethodName} {ws ws' : List Cond} {rm : Room} {av : List Value} {M : Mem} {o : Option (α × Mem)} {cc : ByteArray} {nL : Nat} {ret : Option FieldType} {lv : List (Nat × Value)}
    (hy : plainName y.cls = true) (hw : ws = Cond.code y cc nL ret :: ws') (hn : (lg_sl av).length ≤ nL) (hlv : lv_args 0 av = lv)
    (k : ∀ v : Av, v.2.1 = l → Act v w y.cls ws cc nL ret → WO v w rm nL enc o 0 lv [] M) : Ok l w enc y ws rm av M o := by
  intro a M' ho
  refine Met.ofW (cc := cc) (maxL := nL) (ret := ret) hy hw ?_
  intro p e s m args below meth c s₁ B hml hv
  obtain ⟨rfl, hP, hK, hD⟩ := hv
  have hK0 := hK
  have hl := lv_entry av (n := nL) hn
  rw [lg_entry_eq]
  rw [hlv] at hl
  exact k (p, l, e, s, m, av.toArray, below, meth, c) rfl ⟨B.exec, B.bytes, B.returns, B.notSynchronized, hml, findClass_of_methodNamed B.named, atoms_spec (ws := ws) B.pre, hK⟩ a M' ho s.heap [] _ hP hD va_S.rf hl
