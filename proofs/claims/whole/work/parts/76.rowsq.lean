/-! ===== rows of arrays (new int[4][6] by part 76.a) ===== -/
def va_AOA (ty : FieldType) (U : State) : Prop := (Cond.arrayOver (.array ty)).before #[] U = true
theorem va_AOA.use {ty : FieldType} {A : Array Value} {U : State} (h : va_AOA ty U) : (Cond.arrayOver (.array ty)).before A U = true := h
theorem va_AOA.warm {ty : FieldType} {s U : State} (hW : s.WarmedH U.vm) (h : va_AOA ty s) : va_AOA ty U := by
  have h1 : (Cond.arrayOver (.array ty)).before #[] (s.setVm U.vm) = true := by rw [Cond.arrayOver_setVmC hW.alike]; exact h
  exact h1
theorem va_AOA.same {ty : FieldType} {u U : State} (h : u.vm = U.vm) (hZ : va_AOA ty u) : va_AOA ty U := by
  unfold va_AOA Cond.before Cond.holds at hZ ⊢
  simp only [Cond.value] at hZ ⊢
  rw [← h]
  exact hZ
section CQ
variable {v : Av} {w : Cw} {rm : Room} {nL : Nat} {Q : State → Prop} {cells slots pc n : Nat} {lv : List (Nat × Value)} {st : List Value} {ws : va_W} {own : String} {Ts : List Cond} {cc : ByteArray} {ret : Option FieldType}
theorem CO.mna (hA : Act v w own Ts cc nL ret) (hF : ∀ q, v.2.2.2.1.heap.size ≤ q → w.2.2.2.2.1 q) {i : Nat} (hcl : Cond.classLink own i "[[I" ∈ Ts) (har : Cond.arrayClass .int ∈ Ts) (hov : va_AOA .int v.2.2.2.1) (hc : cells + (1 + 4) ≤ rm.cells) (hsl : slots + (4 + 4 * 6) ≤ rm.slots) (hd : decode cc pc = .ok (.multianewarray i 2, 4)) (hn : pc + 4 = n) (k : ∀ (q : Nat) (r : Nat → Nat), CO v w rm nL Q (cells + 1 + 4) (slots + 4 + 4 * 6) n lv (.ref q :: st) (ws ++ [(q, .inl (w.2.2.1 3, 4, .inr (.inr (.inr (.inr (fun i => if i < 4 then some (r i) else none)))))), (r 0, .inl (w.2.2.1 0, 6, .inl (fun _ => 0))), (r 1, .inl (w.2.2.1 0, 6, .inl (fun _ => 0))), (r 2, .inl (w.2.2.1 0, 6, .inl (fun _ => 0))), (r 3, .inl (w.2.2.1 0, 6, .inl (fun _ => 0)))])) : CO v w rm nL Q cells slots pc lv (.int 6 :: .int 4 :: st) ws := by
  subst hn
  intro H locs ls hP hD hS hl
  have hK := hA.2.2.2.2.2.2.2
  refine mq_new hA.1 hA.2.1 hA.2.2.2.2.2.1 (hA.2.2.2.2.2.2.1 _ hcl) (va_AOA.use hov) (hA.2.2.2.2.2.2.1 _ har) hc hsl hd (fun cA cy H1 f1 f2 z1 z2 z3 z4 => ?_)
  have eA : cA = w.2.2.1 3 := Option.some.inj (f1.symm.trans (hK.2 3 (w.2.2.1 3, .array .int) rfl).2)
  have ey : cy = w.2.2.1 0 := Option.some.inj (f2.symm.trans (hK.2 0 (w.2.2.1 0, .int) rfl).2)
  subst eA
  subst ey
  have hlt : ∀ (k : Nat) (x : Nat × va_E), ws[k]? = some x → x.1 < H.size := fun k x hx => (hP k x hx).lt
  have hlo : ∀ q ∈ locs ++ [⟨H.size, 0⟩] ++ [⟨H.size, 1⟩] ++ [⟨H.size, 2⟩] ++ [⟨H.size, 3⟩], w.2.2.2.2.1 q.base := fun q hq => by
    have h9 : q ∈ locs ∨ q.base = H.size := by
      simp only [List.mem_append, List.mem_singleton] at hq
      rcases hq with (((h | h) | h) | h) | h
      · exact Or.inl h
      · exact Or.inr (by rw [h])
      · exact Or.inr (by rw [h])
      · exact Or.inr (by rw [h])
      · exact Or.inr (by rw [h])
    rcases h9 with h | h
    · exact hS.2.2 q h
    · rw [h]
      exact hF _ hS.1
  have zo : H1[H.size]? = some (vp_cell (w.2.2.1 3) (4, .inr (.inr (.inr (.inr (fun i => if i < 4 then some (H.size + 1 + i) else none)))))) := by
    rw [z2, vp_cell_q]
    refine congrArg some (mq_cg fun j hj => ?_)
    unfold mq_f
    rw [if_pos hj, if_pos hj]
    rfl
  have zi : ∀ j, j < 4 → H1[H.size + 1 + j]? = some (vp_cell (w.2.2.1 0) (6, .inl (fun _ => 0))) := fun j hj => by
    rw [vp_cell_i]
    exact z3 j hj
  refine k H.size (fun i => H.size + 1 + i) H1 _ ls ((hP.kept (fun k9 x hx => z4 x.1 (hlt k9 x hx))).app (fun k9 x hx => ?_)) (mq_D hD hlt (fun k9 x hx => ?_) (fun q hq => hF q (Nat.le_trans hS.1 hq))) ⟨Nat.le_trans hS.1 (by omega), fun x h1 h2 => (z4 x (Nat.lt_of_lt_of_le h1 hS.1)).trans (hS.2.1 x h1 h2), hlo⟩ hl
  · match k9, hx with
    | 0, hx => cases hx; exact zo
    | 1, hx => cases hx; exact zi 0 (by decide)
    | 2, hx => cases hx; exact zi 1 (by decide)
    | 3, hx => cases hx; exact zi 2 (by decide)
    | 4, hx => cases hx; exact zi 3 (by decide)
    | k9 + 5, hx => cases hx
  · match k9, hx with
    | 0, hx => cases hx; rfl
    | 1, hx => cases hx; rfl
    | 2, hx => cases hx; rfl
    | 3, hx => cases hx; rfl
    | 4, hx => cases hx; rfl
    | k9 + 5, hx => cases hx
theorem CO.newq (hA : Act v w own Ts cc nL ret) (hF : ∀ q, v.2.2.2.1.heap.size ≤ q → w.2.2.2.2.1 q) {i : Nat} (hcl : Cond.classLink own i "ClockWakers$Sheet" ∈ Ts) (hov : va_AO "ClockWakers$Sheet" v.2.2.2.1) (hc : cells + 1 ≤ rm.cells) (hsl : slots + 4 ≤ rm.slots) (hd : decode cc pc = .ok (.anewarray i, 3)) (hn : pc + 3 = n) (k : ∀ q : Nat, CO v w rm nL Q (cells + 1) (slots + 4) n lv (.ref q :: st) (ws ++ [(q, .inl (w.2.2.1 2, 4, .inr (.inr (.inr (.inr (fun _ => none))))))])) : CO v w rm nL Q cells slots pc lv (.int 4 :: st) ws := by
  subst hn
  intro H locs ls hP hD hS hl
  have hK := hA.2.2.2.2.2.2.2
  refine va_newq (N' := 4) hA.1 hA.2.1 hA.2.2.2.2.2.1 (hA.2.2.2.2.2.2.1 _ hcl) hov hK hP hD hS hF (by decide) (by decide) (by decide) hc hsl hd (fun q cA H1 hK1 hP1 hD1 hS1 => ?_)
  have e : cA = w.2.2.1 2 := ra_uni (hK1.2 4 (cA, .object "ClockWakers$Sheet") rfl).2 (hK.2 2 (w.2.2.1 2, .object "ClockWakers$Sheet") rfl).2
  subst e
  exact k q H1 locs ls hP1 hD1 hS1 hl
theorem CO.astq (hA : Act v w own Ts cc nL ret) {r a qk b : Nat} {vs : List Value} {f : Nat → Option Nat} {i : Int32} {j : Nat} (ha : ws[r]? = some (a, .inl (w.2.2.1 2, 4, .inr (.inr (.inr (.inr f)))))) (hv : ws[qk]? = some (b, .inr (2, vs))) (hi : vp_in i 4) (hj : i.toNatClampNeg = j) (hd : decode cc pc = .ok (.aastore, 1)) (hn : pc + 1 = n) {ws' : va_W} (hw : ws.set r (a, .inl (w.2.2.1 2, 4, .inr (.inr (.inr (.inr (va_up f j (some b))))))) = ws') (k : CO v w rm nL Q cells slots n lv st ws') : CO v w rm nL Q cells slots pc lv (.ref b :: .int i :: .ref a :: st) ws := by
  subst hn
  subst hw
  subst hj
  intro H locs ls hP hD hS hl
  refine va_astq (r := (RX2, TX2, 4)) hA.1 hA.2.1 hA.2.2.2.2.2.2.2 hP hD hS r 2 qk 2 ha rfl hv rfl hi hd (fun H1 locs1 hP1 hD1 hS1 => ?_)
  exact k H1 locs1 ls hP1 hD1 hS1 hl
end CQ
theorem q4_cg {c : ClassId} {f g : Nat → Option Nat} (h0 : f 0 = g 0) (h1 : f 1 = g 1) (h2 : f 2 = g 2) (h3 : f 3 = g 3) : vp_cell c (4, .inr (.inr (.inr (.inr f)))) = vp_cell c (4, .inr (.inr (.inr (.inr g)))) := by
  rw [vp_cell_q, vp_cell_q]
  have e : (fun j : Fin 4 => va_rf (f j.val)) = fun j : Fin 4 => va_rf (g j.val) := funext fun j => by
    have hj := j.isLt
    rcases (show j.val = 0 ∨ j.val = 1 ∨ j.val = 2 ∨ j.val = 3 by omega) with e | e | e | e <;> rw [e]
    · rw [h0]
    · rw [h1]
    · rw [h2]
    · rw [h3]
  unfold arrV
  rw [e]
theorem at_q4 {D : va_G} {cl : List vw_C} {a : Nat} {c : ClassId} {f g : Nat → Option Nat} {H : Heap} (h : va_at D cl (a, .inl (c, 4, .inr (.inr (.inr (.inr f))))) H) (h0 : f 0 = g 0) (h1 : f 1 = g 1) (h2 : f 2 = g 2) (h3 : f 3 = g 3) : va_at D cl (a, .inl (c, 4, .inr (.inr (.inr (.inr g))))) H := by
  show H[a]? = some (vp_cell c (4, .inr (.inr (.inr (.inr g)))))
  rw [← q4_cg h0 h1 h2 h3]
  exact h
theorem P_set {D : va_G} {cl : List vw_C} {ws : va_W} {H : Heap} (hP : va_P D cl ws H) (i : Nat) {x : Nat × va_E} (hx : va_at D cl x H) : va_P D cl (ws.set i x) H := by
  intro k q hk
  by_cases h : i = k
  · subst h
    rw [List.getElem?_set_self' ] at hk
    cases h9 : ws[i]? with
    | none => rw [h9] at hk; cases hk
    | some z => rw [h9] at hk; cases hk; exact hx
  · rw [List.getElem?_set_ne h] at hk
    exact hP k q hk
