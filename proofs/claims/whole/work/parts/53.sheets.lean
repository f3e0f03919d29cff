/-! ===== sheets ===== -/
theorem zck1 {β : Type} {o : Option β} : zck (1 : Int32) o = o := by unfold zck; rw [if_pos (by decide)]
theorem zck0 {β : Type} {o : Option β} : zck (0 : Int32) o = o := by unfold zck; rw [if_pos (by decide)]
theorem she_cases (M N : Mem) (x : Int32) : (f_X5_isSheet x M = some (0, M) ∧ f_X6_isSheet x N = some (0, N)) ∨ ∃ k : Nat, k < 4 ∧ x = I k ∧ f_X5_isSheet x M = some (1, M) ∧ f_X6_isSheet x N = some (1, N) := by
  unfold f_X5_isSheet f_X6_isSheet
  rcases rg_cases x 0 3 (l := 0) (h := 3) I_0 I_3 (by decide) (by decide) with h3 | ⟨h3, h4, v, rfl, h5, h6⟩
  · left
    rw [w_out h3, bd_some, zck0]
    refine ⟨?_, rfl⟩
    rcases h3 with h3 | ⟨h3, h4⟩
    · rw [if_pos h3]
    · rw [if_neg h3, if_pos (by
        rw [Int32.lt_iff_toInt_lt] at h4
        rw [Int32.le_iff_toInt_le]
        have e3 : (3 : Int32).toInt = 3 := by decide
        have e4 : (4 : Int32).toInt = 4 := by decide
        omega)]
  · right
    refine ⟨v, by omega, rfl, ?_, by rw [w_in h3 h4, bd_some, zck1]⟩
    rw [if_neg h3, I_4, t_le (by omega) (by omega), if_neg (by omega)]
theorem lan_cases (M N : Mem) (x : Int32) : (f_X5_isLane x M = some (0, M) ∧ f_X6_isSort x N = some (0, N)) ∨ ∃ k : Nat, k ≤ 2 ∧ x = I k ∧ f_X5_isLane x M = some (1, M) ∧ f_X6_isSort x N = some (1, N) := by
  unfold f_X5_isLane f_X6_isSort
  rcases rg_cases x 0 2 (l := 0) (h := 2) I_0 I_2 (by decide) (by decide) with h3 | ⟨h3, h4, v, rfl, h5, h6⟩
  · left
    rw [w_out h3, bd_some, zck0]
    refine ⟨?_, rfl⟩
    rcases h3 with h3 | ⟨h3, h4⟩
    · rw [if_pos h3]
    · rw [if_neg h3, if_pos h4]
  · right
    refine ⟨v, by omega, rfl, ?_, by rw [w_in h3 h4, bd_some, zck1]⟩
    rw [if_neg h3, if_neg h4]
theorem q_faulty (k : Int32) (M : Mem) : f_X5_faulty k M = some ((-10 : Int32) - k, mu M 0 9 k) := rfl
theorem n_fails (k : Int32) (M : Mem) : f_X6_fails k M = some ((-10 : Int32) - k, mu M 0 0 k) := rfl
theorem n_lost (k : Int32) (M : Mem) : f_X6_lost k M = some ((-9223372036854775808 : Int64), mu M 0 0 k) := rfl
theorem shR_up {M M' N N' : Mem} {Z : Nat → Nat → Nat} (h : shR M N Z) {k : Nat} (hk : k < 4) (z : Nat → Nat) (hz : z 0 ≤ 1 ∧ z 1 ≤ 2 ∧ z 2 ≤ 60) (hm : ∀ r, 29 ≤ r → r < 37 → r ≠ gSh k → r ≠ gSh k + 1 → M' r = M r) (h1 : ∀ j, j ≠ k → N' 1 j = N 1 j ∧ N' 2 j = N 2 j) (h3 : ∀ q, (q < 60 * k ∨ 60 * k + 60 ≤ q) → N' 3 q = N 3 q) (new : M' (gSh k) 1 = I (z 0) ∧ M' (gSh k) 2 = I (z 1) ∧ M' (gSh k) 3 = I (z 2)) (n1 : N' 1 k = if z 0 = 1 then I (z 1) else (-9 : Int32)) (n2 : N' 2 k = I (z 2)) (n3 : ∀ i, i < 60 → M' (gSh k + 1) i = N' 3 (60 * k + i)) : shR M' N' (fun p q => if q = k then z p else Z p q) := by
  intro j hj
  have ek : gSh k = 29 + 2 * k := rfl
  have ej : gSh j = 29 + 2 * j := rfl
  by_cases e : j = k
  · subst e
    simp only [if_pos]
    exact ⟨hz, new, n1, n2, n3⟩
  · simp only [if_neg e]
    obtain ⟨a1, a2, a3, a4, a5⟩ := h j hj
    rw [hm (gSh j) (by omega) (by omega) (by omega) (by omega), (h1 j e).1, (h1 j e).2]
    refine ⟨a1, a2, a3, a4, fun i hi => ?_⟩
    rw [hm (gSh j + 1) (by omega) (by omega) (by omega) (by omega), h3 (60 * j + i) (by omega)]
    exact a5 i hi
theorem Rel_sh {S : St} {n : Nat} {Q Z Z' : Nat → Nat → Nat} {M M' N N' : Mem} (h : Rel S n Q Z M N) (hm : ∀ r, r < 7 ∨ (15 ≤ r ∧ r < 20) → M' r = M r) (hn : ∀ r, r = 0 ∨ (4 ≤ r ∧ r < 8) ∨ (13 ≤ r ∧ r < 17) → N' r = N r) (hz : shR M' N' Z') : Rel S n Q Z' M' N' := by
  obtain ⟨h1, h2, h3, h4, h5, h6, h7⟩ := h
  refine ⟨h1, cR_fr h2 ?_ (fun r _ _ => hm r (by omega)), mR_fr h3 ?_ (fun r _ _ => hn r (by omega)), rdR_fr h4 (by rw [hm 15 (by omega)]) (by rw [hn 0 (by omega)]) (fun r _ _ => hm r (by omega)) (fun r _ _ => hn r (by omega)) rfl rfl, hz, by rw [hm 0 (by omega), hn 0 (by omega)]; exact h6, by rw [hm 0 (by omega), hn 0 (by omega)]; exact h7⟩
  · rw [hm 1 (by omega)]; exact ⟨rfl, rfl, rfl⟩
  · rw [hn 0 (by omega)]; exact ⟨rfl, rfl, rfl, rfl⟩
theorem p_lose {M N : Mem} (h : Inv M N) (x1 : Int32) : Ag (f_X5_lose x1 M) (f_X6_lose x1 N) := by
  have h0 := h
  obtain ⟨⟨S, n, Q, Z, hr⟩, e9⟩ := h
  unfold f_X5_lose f_X6_lose
  rcases she_cases M N x1 with ⟨h1, h2⟩ | ⟨k, hk, rfl, h1, h2⟩
  · rw [h1, h2, bd_some, bd_some, if_pos rfl, if_pos rfl]; exact Ag.mk _ h0
  have ek : gSh k = 29 + 2 * k := rfl
  obtain ⟨⟨a1, a2, a3⟩, ⟨m1, m2, m3⟩, n1, n2, n3⟩ := hr.2.2.2.2.1 k hk
  rw [h1, h2, bd_some, bd_some, if_neg i10, if_neg i10]
  simp only [grd_ok (show k < 4 by omega) (show 4 ≤ 1000 by decide), I_tn (show k ≤ 2000000000 by omega), mlt_eq, m1, n1]
  have fin : Inv (mu M (gSh k) 1 0) (mu N 1 k (-9)) := by
    refine Inv_of (M := M) (N := N) (Rel_sh hr (fun r h1 => mu_ne (by omega)) (fun r h1 => mu_ne (by omega)) (shR_up hr.2.2.2.2.1 hk (fun p => if p = 0 then 0 else Z p k) ⟨by simp, a2, a3⟩ (fun r _ _ h1 _ => mu_ne h1) (fun j hj => ⟨mu_f hj, mu_nn (by decide)⟩) (fun q hq => mu_nn (by decide)) ⟨by rw [mu_v]; exact I_0, by rw [mu_f (by decide)]; exact m2, by rw [mu_f (by decide)]; exact m3⟩ (by rw [mu_v]; rfl) (by rw [mu_nn (by decide)]; exact n2) (fun i hi => by rw [mu_nn (by omega), mu_nn (by decide)]; exact n3 i hi))) e9 (mu_nn (by omega)) (mu_nn (by decide))
  rcases (show Z 0 k = 0 ∨ Z 0 k = 1 by omega) with e | e
  · rw [e, if_pos (show I ((0 : Nat) : Int) = 0 by decide), if_neg (show ¬ (0 : Nat) = 1 by decide), if_pos rfl]
    exact Ag.mk _ fin
  · have hne : ¬ I ((Z 1 k : Nat) : Int) = (-9 : Int32) := fun q => by rw [I_n9, I_eq (by omega) (by omega)] at q; omega
    rw [e, if_neg (show ¬ I ((1 : Nat) : Int) = 0 by decide), if_pos (show (1 : Nat) = 1 from rfl), if_neg hne]
    exact Ag.mk _ fin
theorem q_fill {a m : Nat} (hm : m ≤ 1000) {x : Int32} {kx : Mem → Option (Unit × Mem)} : ∀ (f i : Nat) (M : Mem), i ≤ m → m - i < f → (∀ q, q < i → M a q = x) → ∃ M', f_J7_fill_53178_L5 a m x (I m) kx f (I i) M = kx M' ∧ (∀ q, q < m → M' a q = x) ∧ ∀ r, r ≠ a → M' r = M r := by
  intro f
  induction f with
  | zero => intro i M _ h; omega
  | succ f ih =>
    intro i M hi hf hq
    rw [f_J7_fill_53178_L5, t_le (by omega) (by omega)]
    by_cases e : i = m
    · subst e
      rw [if_pos (by omega)]
      exact ⟨M, rfl, hq, fun _ _ => rfl⟩
    · rw [if_neg (by omega), grd_ok (by omega) hm, mlt_eq, I_tn (by omega), I_succ]
      obtain ⟨M', k1, k2, k3⟩ := ih (i + 1) (mu M a i x) (by omega) (by omega) (fun q h => by
        by_cases e2 : q = i
        · subst e2; rw [mu_v]
        · rw [mu_f e2]; exact hq q (by omega))
      exact ⟨M', k1, k2, fun r hr => by rw [k3 r hr, mu_ne hr]⟩
theorem q_fillA (a m : Nat) (hm : m ≤ 1000) (x : Int32) (M : Mem) : ∃ M', f_J7_fill_53178 a m x M = some ((), M') ∧ (∀ q, q < m → M' a q = x) ∧ ∀ r, r ≠ a → M' r = M r := by
  have b3 := FU_ge
  unfold f_J7_fill_53178
  rw [ilt_eq, show Int32.ofNat m = I m from (Int32.ofInt_eq_ofNat).symm]
  exact q_fill hm (kx := fun M3 => some ((), M3)) FU 0 M (Nat.zero_le _) (by omega) (fun q h => by omega)
theorem ix (k a : Nat) : (60 : Int32) * I (k : Int) + I (a : Int) = I ((60 * k + a : Nat) : Int) := by
  rw [I_60, I_mul, I_add]
  congr 1
theorem n_fill {k : Nat} (hk : k < 4) {kx : Mem → Option (Int32 × Mem)} : ∀ (f i : Nat) (N : Mem), i ≤ 60 → 60 - i < f → (∀ q, q < i → N 3 (60 * k + q) = 0) → ∃ N', f_X6_sheet_L57 (I k) kx f (I i) N = kx N' ∧ (∀ q, q < 60 → N' 3 (60 * k + q) = 0) ∧ (∀ q, (q < 60 * k ∨ 60 * k + 60 ≤ q) → N' 3 q = N 3 q) ∧ ∀ r, r ≠ 3 → N' r = N r := by
  intro f
  induction f with
  | zero => intro i N _ h; omega
  | succ f ih =>
    intro i N hi hf hq
    rw [f_X6_sheet_L57, ix]
    by_cases e : i = 60
    · subst e
      rw [if_pos (show (60 : Int32) ≤ I ((60 : Nat) : Int) by decide)]
      exact ⟨N, rfl, hq, fun _ _ => rfl, fun _ _ => rfl⟩
    · rw [if_neg (show ¬ (60 : Int32) ≤ I (i : Int) from fun q => by rw [I_60, I_le (by omega) (by omega)] at q; omega), grd_ok (by omega) (by decide), mlt_eq, I_tn (by omega), I_succ]
      obtain ⟨N', k1, k2, k3, k4⟩ := ih (i + 1) (mu N 3 (60 * k + i) 0) (by omega) (by omega) (fun q h => by
        by_cases e2 : q = i
        · subst e2; rw [mu_v]
        · rw [mu_f (by omega)]; exact hq q (by omega))
      exact ⟨N', k1, k2, fun q h => by rw [k3 q h, mu_f (by omega)], fun r hr => by rw [k4 r hr, mu_ne hr]⟩
theorem p_sheet {M N : Mem} (h : Inv M N) (x1 x2 x3 : Int32) : Ag (f_X5_sheet x1 x2 x3 M) (f_X6_sheet x1 x2 x3 N) := by
  obtain ⟨⟨S, n, Q, Z, hr0⟩, e9⟩ := h
  have hr := Rel_fault hr0 0 0
  have h0 := Inv_fault hr0 0
  unfold f_X5_sheet f_X6_sheet
  rw [mlt_eq, mlt_eq]
  generalize mu M 0 9 0 = M at hr h0 ⊢
  generalize mu N 0 0 0 = N at hr h0 ⊢
  have b3 := FU_ge
  rcases she_cases M N x1 with ⟨h1, h2⟩ | ⟨k, hk, rfl, h1, h2⟩
  · rw [h1, h2, bd_some, bd_some, if_pos rfl, if_pos rfl]; exact Ag.mk _ h0
  rw [h1, h2, bd_some, bd_some, if_neg i10, if_neg i10]
  rcases lan_cases M N x2 with ⟨h1, h2⟩ | ⟨l, hl, rfl, h1, h2⟩
  · rw [h1, h2, bd_some, bd_some, if_pos rfl, if_pos rfl]; exact Ag.mk _ h0
  rw [h1, h2, bd_some, bd_some, if_neg i10, if_neg i10]
  by_cases g1 : x3 ≤ 60
  · rw [if_pos g1, if_pos g1]
    by_cases g2 : 0 ≤ x3
    · rw [if_pos g2, if_pos g2]
      have ek : gSh k = 29 + 2 * k := rfl
      obtain ⟨v, rfl, hv⟩ := I_of (x := x3) (fun q => nle q g2)
      have hv2 : v ≤ 60 := by
        rw [Int32.le_iff_toInt_le, I_ti2 hv] at g1
        have e60 : (60 : Int32).toInt = 60 := by decide
        omega
      obtain ⟨⟨a1, a2, a3⟩, ⟨m1, m2, m3⟩, n1, n2, n3⟩ := hr.2.2.2.2.1 k hk
      unfold f_X2_renew
      simp only [grd_ok (show k < 4 by omega) (show 4 ≤ 1000 by decide), I_tn (show k ≤ 2000000000 by omega), mlt_eq]
      obtain ⟨M1, k1, k2, k3⟩ := q_fillA (gSh k + 1) 60 (by decide) 0 (mu (mu (mu M (gSh k) 1 1) (gSh k) 2 (I l)) (gSh k) 3 (I v))
      obtain ⟨N1, c1, c2, c3, c4⟩ := n_fill hk (kx := fun M9 => some ((1 : Int32), M9)) FU 0 (mu (mu N 1 k (I l)) 2 k (I v)) (by decide) (by omega) (fun q h => by omega)
      rw [k1, bd_some, bd_some]
      refine ⟨1, M1, N1, rfl, c1, ?_⟩
      refine Inv_of (M := M) (N := N) (Rel_sh hr (fun r h1 => ?_) (fun r h1 => ?_) (shR_up hr.2.2.2.2.1 hk (fun p => if p = 0 then 1 else if p = 1 then l else v) ⟨by simp, hl, hv2⟩ (fun r _ _ h1 h2 => ?_) (fun j hj => ⟨?_, ?_⟩) (fun q hq => ?_) ⟨?_, ?_, ?_⟩ ?_ ?_ (fun i hi => by rw [k2 i hi, c2 i hi]))) h0.2 ?_ ?_
      · rw [k3 r (by omega), mu_ne (by omega), mu_ne (by omega), mu_ne (by omega)]
      · rw [c4 r (by omega), mu_ne (by omega), mu_ne (by omega)]
      · rw [k3 r h2, mu_ne h1, mu_ne h1, mu_ne h1]
      · rw [c4 1 (by decide), mu_nn (by decide), mu_f hj]
      · rw [c4 2 (by decide), mu_f hj, mu_nn (by decide)]
      · rw [c3 q hq, mu_nn (by decide), mu_nn (by decide)]
      · rw [k3 _ (by omega), mu_f (by decide), mu_f (by decide), mu_v]; exact I_1
      · rw [k3 _ (by omega), mu_f (by decide), mu_v]; rfl
      · rw [k3 _ (by omega), mu_v]; rfl
      · rw [c4 1 (by decide), mu_nn (by decide), mu_v]; rfl
      · rw [c4 2 (by decide), mu_v]; rfl
      · rw [k3 0 (by omega), mu_nn (by omega), mu_nn (by omega), mu_nn (by omega)]
      · rw [c4 0 (by decide), mu_nn (by decide), mu_nn (by decide)]
    · rw [if_neg g2, if_neg g2, q_faulty, n_fails, bd_some, bd_some]
      exact Ag.mk _ (Inv_fault hr 4)
  · rw [if_neg g1, if_neg g1]; exact Ag.mk _ h0
/-- one cell, asked for -/
theorem in1 {L : Nat} (hL : L ≤ 60) (x : Int32) : (x < 0 ∨ (¬ x < 0 ∧ (I (L : Int) - 1) < x)) ∨ (¬ x < 0 ∧ ¬ (I (L : Int) - 1) < x ∧ ∃ a : Nat, x = I a ∧ a < L) := by
  rw [show I (L : Int) - 1 = I ((L : Int) - 1) by rw [I_1, I_sub]]
  by_cases h0 : x < 0
  · exact Or.inl (Or.inl h0)
  · obtain ⟨a, rfl, ha⟩ := I_of h0
    by_cases h1 : I ((L : Int) - 1) < I (a : Int)
    · exact Or.inl (Or.inr ⟨h0, h1⟩)
    · refine Or.inr ⟨h0, h1, a, rfl, ?_⟩
      rw [Int32.lt_iff_toInt_lt, I_ti (by omega), I_ti2 ha] at h1
      omega
theorem q_lacks1 {M : Mem} {g L : Nat} (hL : L ≤ 60) (h3 : M g 3 = I L) (x : Int32) : f_X2_lacks g x 1 M = some (if x < 0 ∨ (¬ x < 0 ∧ (I (L : Int) - 1) < x) then 1 else 0, M) := by
  unfold f_X2_lacks
  rw [h3]
  by_cases h0 : x < 0
  · rw [if_pos h0, if_pos (Or.inl h0)]
  · rw [if_neg h0]
    obtain ⟨a, rfl, ha⟩ := I_of h0
    have key : (I (L : Int) - 1) < I (a : Int) ↔ L ≤ a := by
      rw [I_1, I_sub, Int32.lt_iff_toInt_lt, I_ti (by omega), I_ti2 ha]
      omega
    by_cases h1 : I (L : Int) < I (a : Int)
    · rw [if_pos h1, if_pos (Or.inr ⟨h0, key.mpr (by
        rw [Int32.lt_iff_toInt_lt, I_ti (by omega), I_ti2 ha] at h1
        omega)⟩)]
    · have h2 : a ≤ L := by
        rw [Int32.lt_iff_toInt_lt, I_ti (by omega), I_ti2 ha] at h1
        omega
      rw [if_neg h1, if_neg (show ¬ (1 : Int32) < 0 by decide), I_sub]
      by_cases h4 : L ≤ a
      · rw [if_neg (fun q => by rw [I_1, I_le (by omega) (by omega)] at q; omega), if_pos (Or.inr ⟨h0, key.mpr h4⟩)]
      · rw [if_pos (by rw [I_1, I_le (by omega) (by omega)]; omega), if_neg (fun q => by
          rcases q with q | q
          · exact h0 q
          · exact h4 (key.mp q.2))]
theorem p_put {M N : Mem} (h : Inv M N) (x1 x2 x3 : Int32) : Ag (f_X5_put x1 x2 x3 M) (f_X6_put x1 x2 x3 N) := by
  obtain ⟨⟨S, n, Q, Z, hr0⟩, e9⟩ := h
  have hr := Rel_fault hr0 0 0
  have h0 := Inv_fault hr0 0
  unfold f_X5_put f_X6_put
  rw [mlt_eq, mlt_eq]
  generalize mu M 0 9 0 = M at hr h0 ⊢
  generalize mu N 0 0 0 = N at hr h0 ⊢
  rcases she_cases M N x1 with ⟨h1, h2⟩ | ⟨k, hk, rfl, h1, h2⟩
  · rw [h1, h2, bd_some, bd_some, if_pos rfl, if_pos rfl]; exact Ag.mk _ h0
  have ek : gSh k = 29 + 2 * k := rfl
  obtain ⟨⟨a1, a2, a3⟩, ⟨m1, m2, m3⟩, n1, n2, n3⟩ := hr.2.2.2.2.1 k hk
  rw [h1, h2, bd_some, bd_some, if_neg i10, if_neg i10]
  simp only [grd_ok (show k < 4 by omega) (show 4 ≤ 1000 by decide), I_tn (show k ≤ 2000000000 by omega), m1, n1, n2]
  rcases (show Z 0 k = 0 ∨ Z 0 k = 1 by omega) with e | e
  · rw [e, if_pos (show I ((0 : Nat) : Int) = 0 by decide), if_neg (show ¬ (0 : Nat) = 1 by decide), if_pos rfl, q_faulty, n_fails, bd_some, bd_some]
    exact Ag.mk _ (Inv_fault hr 1)
  · have hne : ¬ I ((Z 1 k : Nat) : Int) = (-9 : Int32) := fun q => by rw [I_n9, I_eq (by omega) (by omega)] at q; omega
    rw [e, if_neg (show ¬ I ((1 : Nat) : Int) = 0 by decide), if_pos (show (1 : Nat) = 1 from rfl), if_neg hne, q_lacks1 a3 m3, bd_some]
    rcases in1 a3 x2 with g | ⟨g1, g2, a, rfl, ha⟩
    · rw [if_pos g, if_neg i10, w_out g, bd_some, if_pos rfl, q_faulty, n_fails, bd_some, bd_some]
      exact Ag.mk _ (Inv_fault hr 3)
    · have hg : ¬ (I (a : Int) < 0 ∨ (¬ I (a : Int) < 0 ∧ (I ((Z 2 k : Nat) : Int) - 1) < I (a : Int))) := by
        intro q
        rcases q with q | q
        · exact g1 q
        · exact g2 q.2
      rw [if_neg hg, if_pos rfl, w_in g1 g2, bd_some, if_neg i10]
      simp only [ix, grd_ok (show 60 * k + a < 240 by omega) (show 240 ≤ 1000 by decide), I_tn (show 60 * k + a ≤ 2000000000 by omega), I_tn (show a ≤ 2000000000 by omega), mlt_eq, n1, e, if_pos, grd_ok (show a < 60 by omega) (show 60 ≤ 1000 by decide)]
      unfold f_X2_cut
      rw [m2]
      have fin : ∀ v : Int32, Ag (some ((1 : Int32), mu M (gSh k + 1) a v)) (some ((1 : Int32), mu N 3 (60 * k + a) v)) := fun v => by
        refine Ag.mk _ (Inv_of (M := M) (N := N) (Rel_sh hr (fun r h1 => mu_ne (by omega)) (fun r h1 => mu_ne (by omega)) (shR_up hr.2.2.2.2.1 hk (fun p => Z p k) ⟨a1, a2, a3⟩ (fun r _ _ _ h1 => mu_ne h1) (fun j hj => ⟨mu_nn (by decide), mu_nn (by decide)⟩) (fun q hq => mu_f (by omega)) ⟨by rw [mu_nn (by omega)]; exact m1, by rw [mu_nn (by omega)]; exact m2, by rw [mu_nn (by omega)]; exact m3⟩ (by rw [mu_nn (by decide)]; exact n1) (by rw [mu_nn (by decide)]; exact n2) (fun i hi => ?_))) h0.2 (mu_nn (by omega)) (mu_nn (by decide)))
        by_cases q : i = a
        · subst q; rw [mu_v, mu_v]
        · rw [mu_f q, mu_f (by omega)]; exact n3 i hi
      by_cases q0 : I ((Z 1 k : Nat) : Int) = 0
      · rw [if_pos q0, if_pos q0, bd_some]; exact fin _
      · rw [if_neg q0, if_neg q0]
        by_cases q1 : I ((Z 1 k : Nat) : Int) = 1
        · rw [if_pos q1, if_pos q1, bd_some]; exact fin _
        · rw [if_neg q1, if_neg q1, bd_some]; exact fin _
theorem q_faultAs {M : Mem} {g b l : Nat} (hb : b ≤ 1) (h1 : M g 1 = I b) (h2 : M g 2 = I l) (x : Int32) : f_X2_faultAs g x M = some (if b = 0 then 1 else if I (l : Int) = x then 0 else 2, M) := by
  unfold f_X2_faultAs
  rw [h1, h2]
  rcases (show b = 0 ∨ b = 1 by omega) with e | e
  · rw [e, if_pos (show I ((0 : Nat) : Int) = 0 by decide), if_pos rfl]
  · rw [e, if_neg (show ¬ I ((1 : Nat) : Int) = 0 by decide), if_neg (show ¬ (1 : Nat) = 0 by decide)]
    by_cases q : I (l : Int) = x
    · rw [if_pos q, if_pos q]
    · rw [if_neg q, if_neg q]
theorem Inv_lost {S : St} {n : Nat} {Q Z : Nat → Nat → Nat} {M N : Mem} (h : Rel S n Q Z M N) (y x : Int32) : Inv (mu (mu M 0 9 y) 0 9 x) (mu N 0 0 x) := by
  refine ⟨⟨S, n, Q, Z, ?_⟩, by rw [mu_v, mu_v]⟩
  exact Rel_fr h ⟨by rw [mu_f (by decide), mu_f (by decide)], by rw [mu_f (by decide), mu_f (by decide)]⟩ (fun r hr => by rw [mu_ne (by omega), mu_ne (by omega)]) ⟨mu_f (by decide), mu_f (by decide), mu_f (by decide), mu_f (by decide), mu_f (by decide), mu_f (by decide), mu_f (by decide)⟩ (fun r hr => mu_ne (by omega))
