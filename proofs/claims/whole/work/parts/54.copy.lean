/-! ===== cell, copy ===== -/
theorem Rel_x {S : St} {n : Nat} {Q Z : Nat → Nat → Nat} {M N : Mem} (h : Rel S n Q Z M N) (x : Int32) : Rel S n Q Z (mu M 0 9 x) N := Rel_fr h ⟨mu_f (by decide), mu_f (by decide)⟩ (fun r hr => mu_ne (by omega)) ⟨rfl, rfl, rfl, rfl, rfl, rfl, rfl⟩ (fun _ _ => rfl)
theorem Inv_x {S : St} {n : Nat} {Q Z : Nat → Nat → Nat} {M N : Mem} (h : Rel S n Q Z M N) {x : Int32} (e : N 0 0 = x) : Inv (mu M 0 9 x) N := ⟨⟨S, n, Q, Z, Rel_x h x⟩, by rw [mu_v, e]⟩
theorem p_cell {M N : Mem} (h : Inv M N) (x1 x2 x3 : Int32) : Ag (f_X5_cell x1 x2 x3 M) (f_X6_cell x1 x2 x3 N) := by
  obtain ⟨⟨S, n, Q, Z, hr0⟩, e9⟩ := h
  have hr := Rel_fault hr0 0 0
  have h0 := Inv_fault hr0 0
  have hN0 : mu N 0 0 0 0 0 = 0 := mu_v _ _ _ _
  unfold f_X5_cell f_X6_cell
  rw [mlt_eq, mlt_eq]
  generalize mu M 0 9 0 = M at hr h0 ⊢
  generalize mu N 0 0 0 = N at hr h0 hN0 ⊢
  rcases she_cases M N x1 with ⟨h1, h2⟩ | ⟨k, hk, rfl, h1, h2⟩
  · rw [h1, h2, bd_some, bd_some, if_pos rfl, if_pos rfl]; exact Ag.mk _ h0
  rw [h1, h2, bd_some, bd_some, if_neg i10, if_neg i10]
  rcases lan_cases M N x3 with ⟨h1, h2⟩ | ⟨l, hl, rfl, h1, h2⟩
  · rw [h1, h2, bd_some, bd_some, if_pos rfl, if_pos rfl]; exact Ag.mk _ h0
  rw [h1, h2, bd_some, bd_some, if_neg i10, if_neg i10]
  have ek : gSh k = 29 + 2 * k := rfl
  obtain ⟨⟨a1, a2, a3⟩, ⟨m1, m2, m3⟩, n1, n2, n3⟩ := hr.2.2.2.2.1 k hk
  simp only [grd_ok (show k < 4 by omega) (show 4 ≤ 1000 by decide), I_tn (show k ≤ 2000000000 by omega), n1, n2]
  rw [q_faultAs a1 m1 m2, bd_some, mlt_eq, mu_v]
  rcases (show Z 0 k = 0 ∨ Z 0 k = 1 by omega) with e | e
  · rw [e, if_pos rfl, if_neg i10, if_neg i10, if_neg (show ¬ (0 : Nat) = 1 by decide), if_pos rfl, if_pos rfl, n_lost, bd_some]
    exact Ag.mk _ (Inv_fault hr 1)
  · have hne : ¬ I ((Z 1 k : Nat) : Int) = (-9 : Int32) := fun q => by rw [I_n9, I_eq (by omega) (by omega)] at q; omega
    rw [e, if_neg (show ¬ (1 : Nat) = 0 by decide), if_pos (show (1 : Nat) = 1 from rfl), if_neg hne, if_neg hne]
    by_cases q : I ((Z 1 k : Nat) : Int) = I l
    · rw [if_pos q, if_pos q, if_pos rfl]
      rw [q_lacks1 (M := mu M 0 9 0) a3 (by rw [mu_nn (by omega)]; exact m3), bd_some, mu_v, mlt_eq, mu_v]
      rcases in1 a3 x2 with g | ⟨g1, g2, a, rfl, ha⟩
      · rw [if_pos g, if_neg i10, w_out g, bd_some, if_pos rfl, n_lost, bd_some, if_neg (show ¬ (3 : Int32) = 0 by decide)]
        exact Ag.mk _ (Inv_lost hr 0 3)
      · have hg : ¬ (I (a : Int) < 0 ∨ (¬ I (a : Int) < 0 ∧ (I ((Z 2 k : Nat) : Int) - 1) < I (a : Int))) := by
          intro q
          rcases q with q | q
          · exact g1 q
          · exact g2 q.2
        rw [if_neg hg, if_pos rfl, if_pos rfl, w_in g1 g2, bd_some, if_neg i10, ix, grd_ok (by omega) (by decide), grd_ok (by omega) (by decide), I_tn (by omega), I_tn (by omega), mu_nn (by omega), n3 a (by omega)]
        exact Ag.mk _ (Inv_x hr hN0)
    · rw [if_neg q, if_neg q, if_neg (show ¬ (2 : Int32) = 0 by decide), if_neg (show ¬ (2 : Int32) = 0 by decide), n_lost, bd_some]
      exact Ag.mk _ (Inv_fault hr 2)
/-- n cells from i on are there -/
def inL (L : Nat) (i n : Int32) : Prop := ∃ a m : Nat, i = I a ∧ n = I m ∧ a + m ≤ L
theorem lk_iff {L : Nat} (hL : L ≤ 60) (i n : Int32) : (¬ i < 0 ∧ ¬ I (L : Int) < i ∧ ¬ n < 0 ∧ n ≤ I (L : Int) - i) ↔ inL L i n := by
  constructor
  · rintro ⟨h1, h2, h3, h4⟩
    obtain ⟨a, rfl, ha⟩ := I_of h1
    obtain ⟨m, rfl, hm⟩ := I_of h3
    have h2' : a ≤ L := by
      rw [Int32.lt_iff_toInt_lt, I_ti (by omega), I_ti2 ha] at h2
      omega
    refine ⟨a, m, rfl, rfl, ?_⟩
    rw [I_sub, Int32.le_iff_toInt_le, I_ti2 hm, I_ti (by omega)] at h4
    omega
  · rintro ⟨a, m, rfl, rfl, h⟩
    refine ⟨?_, ?_, ?_, ?_⟩
    · rw [I_0, I_lt (by omega) (by omega)]; omega
    · rw [I_lt (by omega) (by omega)]; omega
    · rw [I_0, I_lt (by omega) (by omega)]; omega
    · rw [I_sub, I_le (by omega) (by omega)]; omega
theorem q_lacks {M : Mem} {g L : Nat} (hL : L ≤ 60) (h3 : M g 3 = I L) (i n : Int32) : (inL L i n ∧ f_X2_lacks g i n M = some (0, M)) ∨ (¬ inL L i n ∧ f_X2_lacks g i n M = some (1, M)) := by
  unfold f_X2_lacks
  rw [h3, ← lk_iff hL]
  by_cases h1 : i < 0
  · right; rw [if_pos h1]; exact ⟨fun q => q.1 h1, rfl⟩
  · rw [if_neg h1]
    by_cases h2 : I (L : Int) < i
    · right; rw [if_pos h2]; exact ⟨fun q => q.2.1 h2, rfl⟩
    · rw [if_neg h2]
      by_cases h4 : n < 0
      · right; rw [if_pos h4]; exact ⟨fun q => q.2.2.1 h4, rfl⟩
      · rw [if_neg h4]
        by_cases h5 : n ≤ I (L : Int) - i
        · left; rw [if_pos h5]; exact ⟨⟨h1, h2, h4, h5⟩, rfl⟩
        · right; rw [if_neg h5]; exact ⟨fun q => h5 q.2.2.2, rfl⟩
/-- the reference's loop: cell after cell, up or down -/
theorem n_copy {k o i j m : Nat} (hk : k < 4) (ho : o < 4) (hi : i + m ≤ 60) (hj : j + m ≤ 60) {N0 : Mem} {d : Nat} (hd : d ≤ 1) (safe : k = o → (d = 0 → j ≤ i) ∧ (d = 1 → i < j)) {kx : Mem → Option (Int32 × Mem)} : ∀ (f c : Nat) (N : Mem), c ≤ m → m - c < f → (∀ r, r ≠ 3 → N r = N0 r) → (∀ q, N 3 q = if (if d = 0 then 60 * o + j ≤ q ∧ q < 60 * o + j + c else 60 * o + j + (m - c) ≤ q ∧ q < 60 * o + j + m) then N0 3 (60 * k + i + (q - (60 * o + j))) else N0 3 q) → ∃ N', f_X6_copy_L166 (I k) (I i) (I o) (I j) (I m) (I d) kx f (I c) N = kx N' ∧ (∀ r, r ≠ 3 → N' r = N0 r) ∧ ∀ q, N' 3 q = if 60 * o + j ≤ q ∧ q < 60 * o + j + m then N0 3 (60 * k + i + (q - (60 * o + j))) else N0 3 q := by
  intro f
  induction f with
  | zero => intro c N _ h; omega
  | succ f ih =>
    intro c N hc hf hr hq
    rw [f_X6_copy_L166, t_le (by omega) (by omega)]
    by_cases e : c = m
    · subst e
      rw [if_pos (by omega)]
      refine ⟨N, rfl, hr, fun q => ?_⟩
      rw [hq q]
      rcases (show d = 0 ∨ d = 1 by omega) with rfl | rfl
      · simp only [if_pos]
      · simp only [if_neg (show ¬ (1 : Nat) = 0 by decide), Nat.sub_self, Nat.add_zero]
    · rw [if_neg (by omega), ix, ix, I_add, I_add, show (((60 * k + i : Nat) : Int) + (c : Int)) = ((60 * k + i + c : Nat) : Int) by omega, show (((60 * o + j : Nat) : Int) + (c : Int)) = ((60 * o + j + c : Nat) : Int) by omega]
      rcases (show d = 0 ∨ d = 1 by omega) with rfl | rfl
      · simp only [if_pos] at hq
        rw [if_pos (show I ((0 : Nat) : Int) = 0 by decide), grd_ok (by omega) (by decide), grd_ok (by omega) (by decide), mlt_eq, I_tn (by omega), I_tn (by omega), I_succ]
        have hsrc : N 3 (60 * k + i + c) = N0 3 (60 * k + i + c) := by
          rw [hq, if_neg]
          by_cases e2 : k = o
          · have := (safe e2).1 rfl
            subst e2
            omega
          · omega
        rw [hsrc]
        obtain ⟨N', k1, k2, k3⟩ := ih (c + 1) (mu N 3 (60 * o + j + c) (N0 3 (60 * k + i + c))) (by omega) (by omega) (fun r h => by rw [mu_ne h]; exact hr r h) (fun q => by
          simp only [if_pos]
          by_cases e2 : q = 60 * o + j + c
          · subst e2
            rw [mu_v, if_pos (by omega)]
            congr 1
            omega
          · rw [mu_f e2, hq q]
            by_cases e3 : 60 * o + j ≤ q ∧ q < 60 * o + j + c
            · rw [if_pos e3, if_pos (by omega)]
            · rw [if_neg e3, if_neg (by omega)])
        exact ⟨N', k1, k2, k3⟩
      · simp only [if_neg (show ¬ (1 : Nat) = 0 by decide)] at hq
        rw [if_neg (show ¬ I ((1 : Nat) : Int) = 0 by decide), ilt_eq, I_1, I_sub, I_sub, show ((m : Int) - 1 - (c : Int)) = ((m - 1 - c : Nat) : Int) by omega, I_add, I_add, show (((60 * k + i : Nat) : Int) + ((m - 1 - c : Nat) : Int)) = ((60 * k + i + (m - 1 - c) : Nat) : Int) by omega, show (((60 * o + j : Nat) : Int) + ((m - 1 - c : Nat) : Int)) = ((60 * o + j + (m - 1 - c) : Nat) : Int) by omega, grd_ok (by omega) (by decide), grd_ok (by omega) (by decide), mlt_eq, I_tn (by omega), I_tn (by omega), I_add, show ((c : Int) + 1) = ((c + 1 : Nat) : Int) by omega]
        have hsrc : N 3 (60 * k + i + (m - 1 - c)) = N0 3 (60 * k + i + (m - 1 - c)) := by
          rw [hq, if_neg]
          by_cases e2 : k = o
          · have := (safe e2).2 rfl
            subst e2
            omega
          · omega
        rw [hsrc]
        obtain ⟨N', k1, k2, k3⟩ := ih (c + 1) (mu N 3 (60 * o + j + (m - 1 - c)) (N0 3 (60 * k + i + (m - 1 - c)))) (by omega) (by omega) (fun r h => by rw [mu_ne h]; exact hr r h) (fun q => by
          simp only [if_neg (show ¬ (1 : Nat) = 0 by decide)]
          by_cases e2 : q = 60 * o + j + (m - 1 - c)
          · subst e2
            rw [mu_v, if_pos (by omega)]
            congr 1
            omega
          · rw [mu_f e2, hq q]
            by_cases e3 : 60 * o + j + (m - c) ≤ q ∧ q < 60 * o + j + m
            · rw [if_pos e3, if_pos (by omega)]
            · rw [if_neg e3, if_neg (by omega)])
        exact ⟨N', k1, k2, k3⟩
theorem f_copy_bad {k o : Nat} (hk : k < 4) (ho : o < 4) {N : Mem} {Z : Nat → Nat → Nat} {i j n : Int32} (hL1 : Z 2 k ≤ 60) (hL2 : Z 2 o ≤ 60) (n1 : N 2 k = I (Z 2 k)) (n2 : N 2 o = I (Z 2 o)) (hb : ¬ (inL (Z 2 k) i n ∧ inL (Z 2 o) j n)) : (i < 0 ∨ j < 0 ∨ n < 0 ∨ N 2 k < i ∨ N 2 o < j) ∨ ((¬ i < 0 ∧ ¬ j < 0 ∧ ¬ n < 0 ∧ ¬ N 2 k < i ∧ ¬ N 2 o < j) ∧ (N 2 k - i < n ∨ (¬ N 2 k - i < n ∧ ¬ n ≤ N 2 o - j))) := by
  rw [n1, n2]
  by_cases c1 : i < 0
  · exact Or.inl (Or.inl c1)
  by_cases c2 : j < 0
  · exact Or.inl (Or.inr (Or.inl c2))
  by_cases c3 : n < 0
  · exact Or.inl (Or.inr (Or.inr (Or.inl c3)))
  by_cases c4 : I ((Z 2 k : Nat) : Int) < i
  · exact Or.inl (Or.inr (Or.inr (Or.inr (Or.inl c4))))
  by_cases c5 : I ((Z 2 o : Nat) : Int) < j
  · exact Or.inl (Or.inr (Or.inr (Or.inr (Or.inr c5))))
  right
  refine ⟨⟨c1, c2, c3, c4, c5⟩, ?_⟩
  by_cases c6 : I ((Z 2 k : Nat) : Int) - i < n
  · exact Or.inl c6
  · right
    refine ⟨c6, fun q => hb ⟨(lk_iff hL1 i n).mp ⟨c1, c4, c3, yle c6⟩, (lk_iff hL2 j n).mp ⟨c2, c5, c3, q⟩⟩⟩
theorem p_copy {M N : Mem} (h : Inv M N) (x1 x2 x3 x4 x5 : Int32) : Ag (f_X5_copy x1 x2 x3 x4 x5 M) (f_X6_copy x1 x2 x3 x4 x5 N) := by
  obtain ⟨⟨S, n, Q, Z, hr0⟩, e9⟩ := h
  have hr := Rel_fault hr0 0 0
  have h0 := Inv_fault hr0 0
  unfold f_X5_copy f_X6_copy
  rw [mlt_eq, mlt_eq]
  generalize mu M 0 9 0 = M at hr h0 ⊢
  generalize mu N 0 0 0 = N at hr h0 ⊢
  have b3 := FU_ge
  rcases she_cases M N x1 with ⟨h1, h2⟩ | ⟨k, hk, rfl, h1, h2⟩
  · rw [h1, h2, bd_some, bd_some, if_pos rfl, if_pos rfl]; exact Ag.mk _ h0
  rw [h1, h2, bd_some, bd_some, if_neg i10, if_neg i10]
  rcases she_cases M N x3 with ⟨h1, h2⟩ | ⟨o, ho, rfl, h1, h2⟩
  · rw [h1, h2, bd_some, bd_some, if_pos rfl, if_pos rfl]; exact Ag.mk _ h0
  rw [h1, h2, bd_some, bd_some, if_neg i10, if_neg i10]
  have ek : gSh k = 29 + 2 * k := rfl
  have eo : gSh o = 29 + 2 * o := rfl
  obtain ⟨⟨a1, a2, a3⟩, ⟨m1, m2, m3⟩, n1, n2, n3⟩ := hr.2.2.2.2.1 k hk
  obtain ⟨⟨c1, c2, c3⟩, ⟨o1, o2, o3⟩, p1, p2, p3⟩ := hr.2.2.2.2.1 o ho
  simp only [grd_ok (show k < 4 by omega) (show 4 ≤ 1000 by decide), grd_ok (show o < 4 by omega) (show 4 ≤ 1000 by decide), I_tn (show k ≤ 2000000000 by omega), I_tn (show o ≤ 2000000000 by omega), m1, o1, n1, p1, m2, o2]
  rcases (show Z 0 k = 0 ∨ Z 0 k = 1 by omega) with e | e
  · rw [e, if_pos (show I ((0 : Nat) : Int) = 0 by decide), if_neg (show ¬ (0 : Nat) = 1 by decide), if_pos rfl, q_faulty, n_fails, bd_some, bd_some]
    exact Ag.mk _ (Inv_fault hr 1)
  have hne : ¬ I ((Z 1 k : Nat) : Int) = (-9 : Int32) := fun q => by rw [I_n9, I_eq (by omega) (by omega)] at q; omega
  rw [e, if_neg (show ¬ I ((1 : Nat) : Int) = 0 by decide), if_pos (show (1 : Nat) = 1 from rfl), if_neg hne]
  rcases (show Z 0 o = 0 ∨ Z 0 o = 1 by omega) with e | e
  · rw [e, if_pos (show I ((0 : Nat) : Int) = 0 by decide), if_neg (show ¬ (0 : Nat) = 1 by decide), if_pos rfl, q_faulty, n_fails, bd_some, bd_some]
    exact Ag.mk _ (Inv_fault hr 1)
  have hne2 : ¬ I ((Z 1 o : Nat) : Int) = (-9 : Int32) := fun q => by rw [I_n9, I_eq (by omega) (by omega)] at q; omega
  rw [e, if_neg (show ¬ I ((1 : Nat) : Int) = 0 by decide), if_pos (show (1 : Nat) = 1 from rfl), if_neg hne2]
  by_cases hl : I ((Z 1 k : Nat) : Int) = I ((Z 1 o : Nat) : Int)
  · rw [if_pos hl, if_pos hl]
    by_cases hgood : inL (Z 2 k) x2 x5 ∧ inL (Z 2 o) x4 x5
    · have g2 : f_X2_lacks (gSh k) x2 x5 M = some (0, M) := by
        rcases q_lacks a3 m3 x2 x5 with ⟨_, g⟩ | ⟨g, _⟩
        · exact g
        · exact absurd hgood.1 g
      have g4 : f_X2_lacks (gSh o) x4 x5 M = some (0, M) := by
        rcases q_lacks c3 o3 x4 x5 with ⟨_, g⟩ | ⟨g, _⟩
        · exact g
        · exact absurd hgood.2 g
      obtain ⟨⟨i, m, rfl, rfl, him⟩, ⟨j, m', rfl, em, hjm⟩⟩ := hgood
      have hm' : m' ≤ 60 := by omega
      have emm : m = m' := by
        rw [I_eq (by omega) (by omega)] at em
        omega
      subst emm
      rw [g2, bd_some, if_pos rfl, g4, bd_some, if_pos rfl]
      unfold cpk
      have z1 : ¬ I (i : Int) < 0 := by rw [I_0, I_lt (by omega) (by omega)]; omega
      have z2 : ¬ I (j : Int) < 0 := by rw [I_0, I_lt (by omega) (by omega)]; omega
      have z3 : ¬ I (m : Int) < 0 := by rw [I_0, I_lt (by omega) (by omega)]; omega
      rw [if_pos ⟨⟨z1, z2, z3⟩, by rw [I_tn (by omega), I_tn (by omega)]; omega, by rw [I_tn (by omega), I_tn (by omega)]; omega⟩, mlt_eq, I_tn (by omega), I_tn (by omega), I_tn (by omega)]
      have z4 : ¬ N 2 k < I (i : Int) := by rw [n2, I_lt (by omega) (by omega)]; omega
      have z5 : ¬ N 2 o < I (j : Int) := by rw [p2, I_lt (by omega) (by omega)]; omega
      have z6 : ¬ N 2 k - I (i : Int) < I (m : Int) := by rw [n2, I_sub, I_lt (by omega) (by omega)]; omega
      have z7 : I (m : Int) ≤ N 2 o - I (j : Int) := by rw [p2, I_sub, I_le (by omega) (by omega)]; omega
      simp only [if_neg z1, if_neg z2, if_neg z3, if_neg z4, if_neg z5, if_neg z6, if_pos z7, if_neg i10]
      have fin : ∀ N' : Mem, (∀ r, r ≠ 3 → N' r = N r) → (∀ q, N' 3 q = if 60 * o + j ≤ q ∧ q < 60 * o + j + m then N 3 (60 * k + i + (q - (60 * o + j))) else N 3 q) → Inv (mset M (gSh o + 1) (va_cpy (M (gSh k + 1)) (M (gSh o + 1)) i j m)) N' := fun N' hr3 hq3 => by
        have ms : ∀ r, r ≠ gSh o + 1 → mset M (gSh o + 1) (va_cpy (M (gSh k + 1)) (M (gSh o + 1)) i j m) r = M r := fun r h => mset_ne _ _ h
        refine Inv_of (M := M) (N := N) (Rel_sh hr (fun r h1 => ms r (by omega)) (fun r h1 => hr3 r (by omega)) (shR_up hr.2.2.2.2.1 ho (fun p => Z p o) ⟨c1, c2, c3⟩ (fun r _ _ _ h1 => ms r h1) (fun q hq => ⟨by rw [hr3 1 (by decide)], by rw [hr3 2 (by decide)]⟩) (fun q hq => by rw [hq3 q, if_neg (by omega)]) ⟨by rw [ms _ (by omega)]; exact o1, by rw [ms _ (by omega)]; exact o2, by rw [ms _ (by omega)]; exact o3⟩ (by rw [hr3 1 (by decide)]; exact p1) (by rw [hr3 2 (by decide)]; exact p2) (fun q hq => ?_))) h0.2 (by rw [ms 0 (by omega)]) (by rw [hr3 0 (by decide)])
        rw [mset_eq, hq3]
        unfold va_cpy
        by_cases e : j ≤ q ∧ q < j + m
        · rw [if_pos e, if_pos (by omega), n3 _ (by omega)]
          congr 1
          omega
        · rw [if_neg e, if_neg (by omega), p3 q hq]
      by_cases hd : I (j : Int) ≤ I (i : Int)
      · simp only [if_pos hd]
        obtain ⟨N', l1, l2, l3⟩ := n_copy (d := 0) hk ho (show i + m ≤ 60 by omega) (show j + m ≤ 60 by omega) (N0 := N) (by decide) (fun _ => ⟨fun _ => by rw [I_le (by omega) (by omega)] at hd; omega, fun h => by omega⟩) (kx := fun M17 => some (I (m : Int), M17)) FU 0 N (Nat.zero_le _) (by omega) (fun _ _ => rfl) (fun q => by simp only [if_pos]; rw [if_neg (by omega)])
        refine ⟨_, _, N', rfl, ?_, fin N' l2 l3⟩
        exact l1
      · simp only [if_neg hd]
        obtain ⟨N', l1, l2, l3⟩ := n_copy (d := 1) hk ho (show i + m ≤ 60 by omega) (show j + m ≤ 60 by omega) (N0 := N) (by decide) (fun _ => ⟨fun h => by omega, fun _ => by rw [I_le (by omega) (by omega)] at hd; omega⟩) (kx := fun M17 => some (I (m : Int), M17)) FU 0 N (Nat.zero_le _) (by omega) (fun _ _ => rfl) (fun q => by simp only [if_neg (show ¬ (1 : Nat) = 0 by decide)]; rw [if_neg (by omega)])
        refine ⟨_, _, N', rfl, ?_, fin N' l2 l3⟩
        exact l1
    · have hcl : (bd (f_X2_lacks (gSh k) x2 x5 M) fun r13 M12 => if r13 = 0 then bd (f_X2_lacks (gSh o) x4 x5 M12) fun r15 M14 => if r15 = 0 then cpk x2 x4 x5 60 60 (mlt (mset M14 (gSh o + 1) (va_cpy (M14 (gSh k + 1)) (M14 (gSh o + 1)) x2.toNatClampNeg x4.toNatClampNeg x5.toNatClampNeg)) fun M16 => some (x5, M16)) else bd (f_X5_faulty 3 M14) fun r18 M17 => some (r18, M17) else bd (f_X5_faulty 3 M12) fun r20 M19 => some (r20, M19)) = some ((-10 : Int32) - 3, mu M 0 9 3) := by
        rcases q_lacks a3 m3 x2 x5 with ⟨g1, g2⟩ | ⟨g1, g2⟩
        · rw [g2, bd_some, if_pos rfl]
          rcases q_lacks c3 o3 x4 x5 with ⟨g3, g4⟩ | ⟨g3, g4⟩
          · exact absurd ⟨g1, g3⟩ hgood
          · rw [g4, bd_some, if_neg i10, q_faulty, bd_some]
        · rw [g2, bd_some, if_neg i10, q_faulty, bd_some]
      rw [hcl]
      have fin : Ag (some ((-10 : Int32) - 3, mu M 0 9 3)) (some ((-10 : Int32) - 3, mu N 0 0 3)) := Ag.mk _ (Inv_fault hr 3)
      simp only [n_fails, bd_some, if_neg i10]
      rcases f_copy_bad hk ho a3 c3 n2 p2 hgood with hb | ⟨⟨z1, z2, z3, z4, z5⟩, hb⟩
      · by_cases d1 : x2 < 0
        · simp only [if_pos d1]; exact fin
        simp only [if_neg d1]
        by_cases d2 : x4 < 0
        · simp only [if_pos d2]; exact fin
        simp only [if_neg d2]
        by_cases d3 : x5 < 0
        · simp only [if_pos d3]; exact fin
        simp only [if_neg d3]
        by_cases d4 : N 2 k < x2
        · simp only [if_pos d4]; exact fin
        simp only [if_neg d4]
        by_cases d5 : N 2 o < x4
        · simp only [if_pos d5]; exact fin
        · rcases hb with hb | hb | hb | hb | hb
          · exact absurd hb d1
          · exact absurd hb d2
          · exact absurd hb d3
          · exact absurd hb d4
          · exact absurd hb d5
      · simp only [if_neg z1, if_neg z2, if_neg z3, if_neg z4, if_neg z5]
        rcases hb with hb | ⟨hb1, hb2⟩
        · simp only [if_pos hb]; exact fin
        · simp only [if_neg hb1, if_neg hb2]; exact fin
  · rw [if_neg hl, if_neg hl, q_faulty, n_fails, bd_some, bd_some]
    exact Ag.mk _ (Inv_fault hr 2)
