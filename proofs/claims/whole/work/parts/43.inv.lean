/-! ===== what holds between the class's memory M and the reference's N ===== -/
def okS (S : St) : Prop := (S.1 = 0 ∧ S.2.1 = 0) ∨ (2 ≤ S.1 ∧ 1 ≤ S.2.1)
/-- readings: 0 clock, 1 place, 2 house, 3 woke -/
def rdR (M N : Mem) (S : St) (n : Nat) (Q : Nat → Nat → Nat) : Prop := n ≤ 8 ∧ M 15 4 = I n ∧ N 0 25 = I n ∧ ∀ r, r < n → (Q 0 r < S.2.1 ∧ Q 1 r < S.1 ∧ Q 2 r < S.1 ∧ Q 3 r ≤ 1) ∧ (M 16 r = I (Q 0 r) ∧ M 17 r = I (Q 1 r) ∧ M 18 r = I (Q 2 r) ∧ M 19 r = I (Q 3 r)) ∧ N 13 r = I (Q 0 r) ∧ N 14 r = I (Q 1 r) ∧ N 15 r = I (Q 2 r) ∧ N 16 r = I (Q 3 r)
/-- sheets: 0 has, 1 lane, 2 length -/
def shR (M N : Mem) (Z : Nat → Nat → Nat) : Prop := ∀ k, k < 4 → (Z 0 k ≤ 1 ∧ Z 1 k ≤ 2 ∧ Z 2 k ≤ 60) ∧ (M (gSh k) 1 = I (Z 0 k) ∧ M (gSh k) 2 = I (Z 1 k) ∧ M (gSh k) 3 = I (Z 2 k)) ∧ N 1 k = (if Z 0 k = 1 then I (Z 1 k) else (-9 : Int32)) ∧ N 2 k = I (Z 2 k) ∧ ∀ i, i < 60 → M (gSh k + 1) i = N 3 (60 * k + i)
def Rel (S : St) (n : Nat) (Q Z : Nat → Nat → Nat) (M N : Mem) : Prop := (wf S ∧ okS S) ∧ cR M 1 S ∧ mR N S ∧ rdR M N S n Q ∧ shR M N Z ∧ M 0 7 = N 0 8 ∧ M 0 8 = N 0 1
def Inv (M N : Mem) : Prop := (∃ S n Q Z, Rel S n Q Z M N) ∧ M 0 9 = N 0 0
/-- both answer alike, and what holds goes on holding -/
def Ag {α : Type} (o1 o2 : Option (α × Mem)) : Prop := ∃ r M' N', o1 = some (r, M') ∧ o2 = some (r, N') ∧ Inv M' N'
theorem Ag.mk {α : Type} {M N : Mem} (r : α) (h : Inv M N) : Ag (some (r, M)) (some (r, N)) := ⟨r, M, N, rfl, rfl, h⟩
theorem mu_f {M : Mem} {r k j : Nat} {v : Int32} (h : j ≠ k) : mu M r k v r j = M r j := by rw [mu_eq, upd_ne h]
theorem mu_v (M : Mem) (r k : Nat) (v : Int32) : mu M r k v r k = v := by rw [mu_eq, upd_eq]
/-- one memory's row is another's, where the row's number is other -/
theorem mu_nn {M : Mem} {r q k j : Nat} {v : Int32} (h : q ≠ r) : mu M r k v q j = M q j := by rw [mu_ne h]
theorem cR_fr {M M' : Mem} {a : Nat} {S : St} (h : cR M a S) (h0 : M' a 5 = M a 5 ∧ M' a 6 = M a 6 ∧ M' a 7 = M a 7) (hm : ∀ r, a < r → r < a + 6 → M' r = M r) : cR M' a S := by
  obtain ⟨h1, h2, h3, h4, h5⟩ := h
  refine ⟨by rw [h0.1]; exact h1, by rw [h0.2.1]; exact h2, by rw [h0.2.2]; exact h3, fun q hq => ?_, fun q hq => ?_⟩
  · rw [hm (a + 1) (by omega) (by omega), hm (a + 2) (by omega) (by omega)]; exact h4 q hq
  · rw [hm (a + 3) (by omega) (by omega), hm (a + 4) (by omega) (by omega), hm (a + 5) (by omega) (by omega)]; exact h5 q hq
theorem mR_fr {N N' : Mem} {S : St} (h : mR N S) (h0 : N' 0 5 = N 0 5 ∧ N' 0 6 = N 0 6 ∧ N' 0 7 = N 0 7 ∧ N' 0 9 = N 0 9) (hm : ∀ r, 4 ≤ r → r < 8 → N' r = N r) : mR N' S := by
  obtain ⟨h1, h2, h3, h4, h5, h6⟩ := h
  refine ⟨by rw [h0.2.1]; exact h1, by rw [h0.2.2.1]; exact h2, by rw [h0.1]; exact h3, fun q hq => ?_, fun q hq => ?_, by rw [h0.2.2.2]; exact h6⟩
  · rw [hm 4 (by omega) (by omega), hm 5 (by omega) (by omega)]; exact h4 q hq
  · rw [hm 6 (by omega) (by omega), hm 7 (by omega) (by omega)]; exact h5 q hq
theorem rdR_fr {M M' N N' : Mem} {S S' : St} {n : Nat} {Q : Nat → Nat → Nat} (h : rdR M N S n Q) (h0 : M' 15 4 = M 15 4) (h1 : N' 0 25 = N 0 25) (hm : ∀ r, 16 ≤ r → r < 20 → M' r = M r) (hn : ∀ r, 13 ≤ r → r < 17 → N' r = N r) (e1 : S'.1 = S.1) (e2 : S'.2.1 = S.2.1) : rdR M' N' S' n Q := by
  obtain ⟨a1, a2, a3, a4⟩ := h
  refine ⟨a1, by rw [h0]; exact a2, by rw [h1]; exact a3, fun r hr => ?_⟩
  rw [hm 16 (by omega) (by omega), hm 17 (by omega) (by omega), hm 18 (by omega) (by omega), hm 19 (by omega) (by omega), hn 13 (by omega) (by omega), hn 14 (by omega) (by omega), hn 15 (by omega) (by omega), hn 16 (by omega) (by omega), e1, e2]
  exact a4 r hr
theorem shR_fr {M M' N N' : Mem} {Z : Nat → Nat → Nat} (h : shR M N Z) (hm : ∀ r, 29 ≤ r → r < 37 → M' r = M r) (hn : ∀ r, 1 ≤ r → r < 4 → N' r = N r) : shR M' N' Z := by
  intro k hk
  have e : gSh k = 29 + 2 * k := rfl
  rw [hm (gSh k) (by omega) (by omega), hm (gSh k + 1) (by omega) (by omega), hn 1 (by omega) (by omega), hn 2 (by omega) (by omega), hn 3 (by omega) (by omega)]
  exact h k hk
theorem Rel_fr {S : St} {n : Nat} {Q Z : Nat → Nat → Nat} {M M' N N' : Mem} (h : Rel S n Q Z M N) (a : M' 0 7 = M 0 7 ∧ M' 0 8 = M 0 8) (hm : ∀ r, (1 ≤ r ∧ r < 7) ∨ (15 ≤ r ∧ r < 20) ∨ (29 ≤ r ∧ r < 37) → M' r = M r) (b : N' 0 1 = N 0 1 ∧ N' 0 5 = N 0 5 ∧ N' 0 6 = N 0 6 ∧ N' 0 7 = N 0 7 ∧ N' 0 8 = N 0 8 ∧ N' 0 9 = N 0 9 ∧ N' 0 25 = N 0 25) (hn : ∀ r, (1 ≤ r ∧ r < 8) ∨ (13 ≤ r ∧ r < 17) → N' r = N r) : Rel S n Q Z M' N' := by
  obtain ⟨h1, h2, h3, h4, h5, h6, h7⟩ := h
  refine ⟨h1, cR_fr h2 ?_ (fun r _ _ => hm r (by omega)), mR_fr h3 ⟨b.2.1, b.2.2.1, b.2.2.2.1, b.2.2.2.2.2.1⟩ (fun r _ _ => hn r (by omega)), rdR_fr h4 (by rw [hm 15 (by omega)]) b.2.2.2.2.2.2 (fun r _ _ => hm r (by omega)) (fun r _ _ => hn r (by omega)) rfl rfl, shR_fr h5 (fun r _ _ => hm r (by omega)) (fun r _ _ => hn r (by omega)), by rw [a.1, b.2.2.2.2.1]; exact h6, by rw [a.2, b.1]; exact h7⟩
  rw [hm 1 (by omega)]
  exact ⟨rfl, rfl, rfl⟩
/-- the fault: it alone changes -/
theorem Rel_fault {S : St} {n : Nat} {Q Z : Nat → Nat → Nat} {M N : Mem} (h : Rel S n Q Z M N) (x y : Int32) : Rel S n Q Z (mu M 0 9 x) (mu N 0 0 y) :=
  Rel_fr h ⟨mu_f (by decide), mu_f (by decide)⟩ (fun r hr => mu_ne (by omega)) ⟨mu_f (by decide), mu_f (by decide), mu_f (by decide), mu_f (by decide), mu_f (by decide), mu_f (by decide), mu_f (by decide)⟩ (fun r hr => mu_ne (by omega))
theorem Inv_fault {S : St} {n : Nat} {Q Z : Nat → Nat → Nat} {M N : Mem} (h : Rel S n Q Z M N) (x : Int32) : Inv (mu M 0 9 x) (mu N 0 0 x) := ⟨⟨S, n, Q, Z, Rel_fault h x x⟩, by rw [mu_v, mu_v]⟩
/-- one number of a street changes -/
def sU (S : St) (j i v : Nat) : St := (S.1, S.2.1, S.2.2.1, fun p q => if p = j ∧ q = i then v else S.2.2.2 p q)
theorem wf_su {S : St} (h : wf S) {j i v : Nat} (h0 : j = 0 → v ≤ 2) (h1 : j = 1 → 1 ≤ v ∧ v ≤ 9) (h2 : j = 2 → 1 ≤ v ∧ v ≤ 9) (h3 : j = 3 → v < S.1) (h4 : j = 4 → v ≤ 1) : wf (sU S j i v) := by
  obtain ⟨a1, a2, a3, a4, a5⟩ := h
  refine ⟨a1, a2, a3, fun q hq => ?_, fun q hq => ?_⟩
  · have := a4 q hq
    simp only [sU]
    refine ⟨?_, ?_, ?_⟩ <;> split <;> omega
  · have := a5 q hq
    simp only [sU]
    refine ⟨?_, ?_, ?_, ?_⟩ <;> split <;> omega
theorem okS_su {S : St} (h : okS S) (j i v : Nat) : okS (sU S j i v) := h
theorem cell_su {M : Mem} {F : Nat → Nat → Nat} {b j j' i q v : Nat} (h : M (b + j') q = I (F j' q)) : mu M (b + j) i (I v) (b + j') q = I ((if j' = j ∧ q = i then v else F j' q : Nat) : Int) := by
  by_cases hj : j' = j
  · subst hj
    by_cases hi : q = i
    · subst hi
      rw [mu_v, if_pos ⟨rfl, rfl⟩]
    · rw [mu_f hi, if_neg (fun x => hi x.2)]
      exact h
  · rw [mu_nn (by omega), if_neg (fun x => hj x.1)]
    exact h
theorem cR_su {M : Mem} {a : Nat} {S : St} (h : cR M a S) (j i v : Nat) : cR (mu M ((a + 1) + j) i (I v)) a (sU S j i v) := by
  obtain ⟨h1, h2, h3, h4, h5⟩ := h
  refine ⟨by rw [mu_nn (by omega)]; exact h1, by rw [mu_nn (by omega)]; exact h2, by rw [mu_nn (by omega)]; exact h3, fun q hq => ⟨?_, ?_⟩, fun q hq => ⟨?_, ?_, ?_⟩⟩
  · exact cell_su (j' := 0) (F := S.2.2.2) (h4 q hq).1
  · exact cell_su (j' := 1) (F := S.2.2.2) (h4 q hq).2
  · exact cell_su (j' := 2) (F := S.2.2.2) (h5 q hq).1
  · exact cell_su (j' := 3) (F := S.2.2.2) (h5 q hq).2.1
  · exact cell_su (j' := 4) (F := S.2.2.2) (h5 q hq).2.2
theorem mR_su {N : Mem} {S : St} (h : mR N S) {j : Nat} (hj : j ≤ 3) (i v : Nat) : mR (mu N (4 + j) i (I v)) (sU S j i v) := by
  obtain ⟨h1, h2, h3, h4, h5, h6⟩ := h
  refine ⟨by rw [mu_nn (by omega)]; exact h1, by rw [mu_nn (by omega)]; exact h2, by rw [mu_nn (by omega)]; exact h3, fun q hq => ⟨?_, ?_⟩, fun q hq => ⟨?_, ?_⟩, ?_⟩
  · exact cell_su (j' := 0) (F := S.2.2.2) (h4 q hq).1
  · exact cell_su (j' := 1) (F := S.2.2.2) (h4 q hq).2
  · exact cell_su (j' := 2) (F := S.2.2.2) (h5 q hq).1
  · exact cell_su (j' := 3) (F := S.2.2.2) (h5 q hq).2
  · rw [mu_nn (by omega), h6]
    congr 2
    apply mk_cg
    intro q hq
    simp only [sU]
    rw [if_neg (by omega)]
theorem Rel_su {S : St} {n : Nat} {Q Z : Nat → Nat → Nat} {M N : Mem} (h : Rel S n Q Z M N) {j i v : Nat} (hj : j ≤ 3) (h0 : j = 0 → v ≤ 2) (h1 : j = 1 → 1 ≤ v ∧ v ≤ 9) (h2 : j = 2 → 1 ≤ v ∧ v ≤ 9) (h3 : j = 3 → v < S.1) : Rel (sU S j i v) n Q Z (mu M (2 + j) i (I v)) (mu N (4 + j) i (I v)) := by
  obtain ⟨⟨a1, a2⟩, a3, a4, a5, a6, a7, a8⟩ := h
  refine ⟨⟨wf_su a1 h0 h1 h2 h3 (by omega), okS_su a2 j i v⟩, cR_su a3 j i v, mR_su a4 hj i v, rdR_fr a5 ?_ ?_ (fun r _ _ => mu_ne (by omega)) (fun r _ _ => mu_ne (by omega)) rfl rfl, shR_fr a6 (fun r _ _ => mu_ne (by omega)) (fun r _ _ => mu_ne (by omega)), ?_, ?_⟩
  · exact mu_nn (by omega)
  · exact mu_nn (by omega)
  · rw [mu_nn (by omega), mu_nn (by omega)]; exact a7
  · rw [mu_nn (by omega), mu_nn (by omega)]; exact a8
theorem mR_st {N : Mem} {S : St} (h : mR N S) {c v : Nat} {x : Int32} (hx : x = I ((mk ((sU S 4 c v).2.2.2 4) S.2.1 : Nat) : Int)) : mR (mu N 0 9 x) (sU S 4 c v) := by
  obtain ⟨h1, h2, h3, h4, h5, h6⟩ := h
  refine ⟨by rw [mu_f (by decide)]; exact h1, by rw [mu_f (by decide)]; exact h2, by rw [mu_f (by decide)]; exact h3, fun q hq => ?_, fun q hq => ?_, by rw [mu_v]; exact hx⟩
  · rw [mu_nn (by omega), mu_nn (by omega)]; exact h4 q hq
  · rw [mu_nn (by omega), mu_nn (by omega)]; exact h5 q hq
theorem Rel_st {S : St} {n : Nat} {Q Z : Nat → Nat → Nat} {M N : Mem} (h : Rel S n Q Z M N) {c v : Nat} (hv : v ≤ 1) {x : Int32} (hx : x = I ((mk ((sU S 4 c v).2.2.2 4) S.2.1 : Nat) : Int)) : Rel (sU S 4 c v) n Q Z (mu M 6 c (I v)) (mu N 0 9 x) := by
  obtain ⟨⟨a1, a2⟩, a3, a4, a5, a6, a7, a8⟩ := h
  refine ⟨⟨wf_su a1 (by omega) (by omega) (by omega) (by omega) (fun _ => hv), okS_su a2 4 c v⟩, cR_su a3 4 c v, mR_st a4 hx, rdR_fr a5 ?_ ?_ (fun r _ _ => mu_ne (by omega)) (fun r _ _ => mu_ne (by omega)) rfl rfl, shR_fr a6 (fun r _ _ => mu_ne (by omega)) (fun r _ _ => mu_ne (by omega)), ?_, ?_⟩
  · exact mu_nn (by omega)
  · exact mu_f (by decide)
  · rw [mu_nn (by omega), mu_f (by decide)]; exact a7
  · rw [mu_nn (by omega), mu_f (by decide)]; exact a8
theorem Inv_of {S : St} {n : Nat} {Q Z : Nat → Nat → Nat} {M N M' N' : Mem} (h : Rel S n Q Z M' N') (e : M 0 9 = N 0 0) (e1 : M' 0 9 = M 0 9) (e2 : N' 0 0 = N 0 0) : Inv M' N' := ⟨⟨S, n, Q, Z, h⟩, by rw [e1, e2]; exact e⟩
/-- is it a house; is it a clock -/
theorem hs_cases {M N : Mem} {a : Nat} {S : St} (hR : cR M a S) (hN : mR N S) (hS : wf S) (x : Int32) : (f_X3_hasHouse a x M = some (0, M) ∧ f_X6_isHouse x N = some (0, N)) ∨ ∃ h, h < S.1 ∧ x = I h ∧ f_X3_hasHouse a x M = some (1, M) ∧ f_X6_isHouse x N = some (1, N) := by
  have h1 := hS.1
  unfold f_X3_hasHouse f_X6_isHouse
  rw [hR.1, hN.1]
  by_cases h0 : x < 0
  · left
    rw [if_pos h0, if_pos h0]
    exact ⟨rfl, rfl⟩
  · rw [if_neg h0, if_neg h0]
    by_cases h2 : I (S.1 : Int) ≤ x
    · left
      rw [if_pos h2, if_pos h2]
      exact ⟨rfl, rfl⟩
    · right
      obtain ⟨n, rfl, hn⟩ := I_of h0
      refine ⟨n, ?_, rfl, by rw [if_neg h2], by rw [if_neg h2]⟩
      rw [Int32.le_iff_toInt_le, I_ti (by omega), I_ti2 hn] at h2
      omega
theorem ck_cases {M N : Mem} {a : Nat} {S : St} (hR : cR M a S) (hN : mR N S) (hS : wf S) (x : Int32) : (f_X3_hasClock a x M = some (0, M) ∧ f_X6_isClock x N = some (0, N)) ∨ ∃ h, h < S.2.1 ∧ x = I h ∧ f_X3_hasClock a x M = some (1, M) ∧ f_X6_isClock x N = some (1, N) := by
  have h1 := hS.2.1
  unfold f_X3_hasClock f_X6_isClock
  rw [hR.2.1, hN.2.1]
  by_cases h0 : x < 0
  · left
    rw [if_pos h0, if_pos h0]
    exact ⟨rfl, rfl⟩
  · rw [if_neg h0, if_neg h0]
    by_cases h2 : I (S.2.1 : Int) ≤ x
    · left
      rw [if_pos h2, if_pos h2]
      exact ⟨rfl, rfl⟩
    · right
      obtain ⟨n, rfl, hn⟩ := I_of h0
      refine ⟨n, ?_, rfl, by rw [if_neg h2], by rw [if_neg h2]⟩
      rw [Int32.le_iff_toInt_le, I_ti (by omega), I_ti2 hn] at h2
      omega
/-- a number between lo and hi, or not: how the class asks, how the reference does -/
theorem rg_cases (x lo hi : Int32) {l h : Nat} (el : lo = I l) (eh : hi = I h) (hl : l ≤ 1000) (hh : h ≤ 1000) : (x < lo ∨ (¬ x < lo ∧ hi < x)) ∨ (¬ x < lo ∧ ¬ hi < x ∧ ∃ v : Nat, x = I v ∧ l ≤ v ∧ v ≤ h) := by
  subst el
  subst eh
  by_cases h0 : x < I l
  · exact Or.inl (Or.inl h0)
  · by_cases h1 : I h < x
    · exact Or.inl (Or.inr ⟨h0, h1⟩)
    · refine Or.inr ⟨h0, h1, ?_⟩
      rw [Int32.lt_iff_toInt_lt, I_ti (by omega)] at h0 h1
      refine ⟨x.toInt.toNat, ?_, by omega, by omega⟩
      unfold I
      rw [Int.toNat_of_nonneg (by omega), Int32.ofInt_toInt]
theorem nle {x y : Int32} (h : x < y) : ¬ y ≤ x := by
  rw [Int32.lt_iff_toInt_lt] at h
  rw [Int32.le_iff_toInt_le]
  omega
theorem yle {x y : Int32} (h : ¬ x < y) : y ≤ x := by
  rw [Int32.lt_iff_toInt_lt] at h
  rw [Int32.le_iff_toInt_le]
  omega
theorem w_in {x lo hi : Int32} {N : Mem} (h0 : ¬ x < lo) (h1 : ¬ hi < x) : f_X6_within x lo hi N = some (1, N) := by unfold f_X6_within; rw [if_neg h0, if_neg h1]
theorem w_out {x lo hi : Int32} {N : Mem} (h : x < lo ∨ (¬ x < lo ∧ hi < x)) : f_X6_within x lo hi N = some (0, N) := by
  unfold f_X6_within
  rcases h with h | ⟨h, h2⟩
  · rw [if_pos h]
  · rw [if_neg h, if_pos h2]
theorem i10 : ¬ ((1 : Int32) = 0) := by decide
theorem c_stands {M : Mem} {a : Nat} {S : St} (hR : cR M a S) (hS : wf S) : f_X3_stands a M = some (if S.1 = 0 then 0 else 1, M) := by
  have h1 := hS.1
  unfold f_X3_stands
  rw [hR.1, I_0, t_le (by omega) (by omega)]
  by_cases h : S.1 = 0
  · rw [if_pos (by omega), if_pos h]
  · rw [if_neg (by omega), if_neg h]
theorem m_stands {N : Mem} {S : St} (hR : mR N S) (hS : wf S) : N 0 6 = 0 ↔ S.1 = 0 := by
  have h1 := hS.1
  rw [hR.1, I_0, I_eq (by omega) (by omega)]
  omega
