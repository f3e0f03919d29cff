/-! ===== season ===== -/
noncomputable def cSea (x1 x2 x3 x4 x5 : Int32) (M : Mem) : Option (Int32 × Mem) := (grd x1 4 (bd (f_X2_faultAs (gSh x1.toNatClampNeg) x2 M) (fun r10 M9 => if r10 = 0 then (bd (f_X2_lacks (gSh x1.toNatClampNeg) x3 ((2 : Int32) * x4) M9) (fun r12 M11 => if r12 = 0 then (if r10 = 0 then (bd (f_X3_stands 1 M11) (fun r14 M13 => if r14 = 0 then (some ((-3 : Int32), M13)) else (bd (f_X5_refusalOfActs (gSh x1.toNatClampNeg) x3 x4 M13) (fun r16 M15 => if r16 = 0 then (bd (f_X5_playOnTrial (gSh x1.toNatClampNeg) x3 x4 M15) (fun r18 M17 => if x5 = (1 : Int32) then (some (r18, M17)) else (if r18 = (-9 : Int32) then (bd (f_X5_answerOfTrial x5 M17) (fun r20 M19 => some (r20, M19))) else (some (((-100 : Int32) - r18), M17))))) else (some (r16, M15)))))) else (bd (f_X5_faulty r10 M11) (fun r22 M21 => some (r22, M21)))) else (if (3 : Int32) = 0 then (bd (f_X3_stands 1 M11) (fun r24 M23 => if r24 = 0 then (some ((-3 : Int32), M23)) else (bd (f_X5_refusalOfActs (gSh x1.toNatClampNeg) x3 x4 M23) (fun r26 M25 => if r26 = 0 then (bd (f_X5_playOnTrial (gSh x1.toNatClampNeg) x3 x4 M25) (fun r28 M27 => if x5 = (1 : Int32) then (some (r28, M27)) else (if r28 = (-9 : Int32) then (bd (f_X5_answerOfTrial x5 M27) (fun r30 M29 => some (r30, M29))) else (some (((-100 : Int32) - r28), M27))))) else (some (r26, M25)))))) else (bd (f_X5_faulty (3 : Int32) M11) (fun r32 M31 => some (r32, M31)))))) else (if r10 = 0 then (bd (f_X3_stands 1 M9) (fun r34 M33 => if r34 = 0 then (some ((-3 : Int32), M33)) else (bd (f_X5_refusalOfActs (gSh x1.toNatClampNeg) x3 x4 M33) (fun r36 M35 => if r36 = 0 then (bd (f_X5_playOnTrial (gSh x1.toNatClampNeg) x3 x4 M35) (fun r38 M37 => if x5 = (1 : Int32) then (some (r38, M37)) else (if r38 = (-9 : Int32) then (bd (f_X5_answerOfTrial x5 M37) (fun r40 M39 => some (r40, M39))) else (some (((-100 : Int32) - r38), M37))))) else (some (r36, M35)))))) else (bd (f_X5_faulty r10 M9) (fun r42 M41 => some (r42, M41)))))))
noncomputable def mSea (x1 x2 x3 x4 x5 : Int32) (N : Mem) : Option (Int32 × Mem) := (bd (f_X6_against x1 x2 x3 ((2 : Int32) * x4) N) (fun r29 M28 => if r29 = 0 then (if (M28 0 6) = 0 then (some ((-3 : Int32), M28)) else (ilt (((60 : Int32) * x1) + x3) (fun x_30 => f_X6_season_L103 x4 x5 x_30 (fun  M31 => bd (f_X6_keep M31) (fun _ M32 => ilt (M32 0 9) (fun x_33 => bd (f_X6_goSeason x_30 x4 M32) (fun r35 M34 => bd (f_X6_tellSeason x5 M34) (fun r37 M36 => bd (f_X6_putBack M36) (fun _ M38 => mlt (mu M38 0 9 x_33) (fun M39 => if x5 = (1 : Int32) then (some (r35, M39)) else (if r35 = (-9 : Int32) then (some (r37, M39)) else (some (((-100 : Int32) - r35), M39)))))))))) FU (0 : Int32) M28))) else (bd (f_X6_fails r29 M28) (fun r41 M40 => some (r41, M40)))))

theorem n_against {k : Nat} (hk : k < 4) {N : Mem} {b l L : Nat} (hb : b ≤ 1) (hl : l ≤ 2) (hL : L ≤ 60) (n1 : N 1 k = if b = 1 then I l else (-9 : Int32)) (n2 : N 2 k = I L) (x2 x3 x4 : Int32) : (b = 0 ∧ f_X6_against (I k) x2 x3 x4 N = some (1, N)) ∨ (b = 1 ∧ ¬ I (l : Int) = x2 ∧ f_X6_against (I k) x2 x3 x4 N = some (2, N)) ∨ (b = 1 ∧ I (l : Int) = x2 ∧ x4 < 0 ∧ f_X6_against (I k) x2 x3 x4 N = some (4, N)) ∨ (b = 1 ∧ I (l : Int) = x2 ∧ ¬ x4 < 0 ∧ ¬ inL L x3 x4 ∧ f_X6_against (I k) x2 x3 x4 N = some (3, N)) ∨ (b = 1 ∧ I (l : Int) = x2 ∧ inL L x3 x4 ∧ f_X6_against (I k) x2 x3 x4 N = some (0, N)) := by
  unfold f_X6_against
  simp only [grd_ok (show k < 4 by omega) (show 4 ≤ 1000 by decide), I_tn (show k ≤ 2000000000 by omega), n1, n2]
  rcases (show b = 0 ∨ b = 1 by omega) with rfl | rfl
  · left
    rw [if_neg (show ¬ (0 : Nat) = 1 by decide), if_pos rfl, if_pos rfl]
    exact ⟨rfl, rfl⟩
  · have hne : ¬ I (l : Int) = (-9 : Int32) := fun q => by rw [I_n9, I_eq (by omega) (by omega)] at q; omega
    right
    rw [if_pos (show (1 : Nat) = 1 from rfl), if_neg hne, if_neg hne]
    by_cases e : I (l : Int) = x2
    · right
      rw [if_pos e]
      by_cases g0 : x4 < 0
      · left
        rw [if_neg (nle g0)]
        exact ⟨rfl, e, g0, rfl⟩
      · right
        rw [if_pos (yle g0)]
        rw [← lk_iff hL]
        by_cases g1 : x3 < 0
        · left; rw [if_pos g1]; exact ⟨rfl, e, g0, fun q => q.1 g1, rfl⟩
        · rw [if_neg g1]
          by_cases g2 : I (L : Int) < x3
          · left; rw [if_pos g2]; exact ⟨rfl, e, g0, fun q => q.2.1 g2, rfl⟩
          · rw [if_neg g2]
            by_cases g3 : x4 ≤ I (L : Int) - x3
            · right; rw [if_pos g3]; exact ⟨rfl, e, ⟨g1, g2, g0, g3⟩, rfl⟩
            · left; rw [if_neg g3]; exact ⟨rfl, e, g0, fun q => g3 q.2.2.2, rfl⟩
    · left
      rw [if_neg e]
      exact ⟨rfl, e, rfl⟩
/-- an act that is none of the refused ones -/
def Vl (S : St) (x y : Int32) : Prop := ((y = 0 ∨ y = 1 ∨ y = 2) ∧ ∃ c, c < S.2.1 ∧ x = I c) ∨ (y = 3 ∧ ∃ m : Nat, m ≤ 9 ∧ x = I m) ∨ ∃ j : Nat, j < 4 ∧ y = I ((10 + j : Nat) : Int) ∧ ∃ h, h < S.1 ∧ x = I h
theorem rf_pair {M N : Mem} {S : St} (hR : cR M 1 S) (hN : mR N S) (hS : wf S) (x y : Int32) : ∃ r : Int32, f_X5_refusalOfAct x y M = some (r, M) ∧ f_X6_refusesPair x y N = some (r, N) ∧ (r = 0 → Vl S x y) := by
  unfold f_X5_refusalOfAct f_X6_refusesPair
  have e10 : (10 : Int32) = I ((10 : Nat) : Int) := by decide
  have e13 : (13 : Int32) = I ((13 : Nat) : Int) := by decide
  have clk : ∀ y0 : Int32, (y0 = 0 ∨ y0 = 1 ∨ y0 = 2) → ∃ r : Int32, (bd (f_X3_hasClock 1 x M) fun r3 M2 => if r3 = 0 then some ((-1 : Int32), M2) else some ((0 : Int32), M2)) = some (r, M) ∧ (bd (f_X6_isClock x N) fun r3 M2 => if r3 = 0 then some ((-1 : Int32), M2) else some ((0 : Int32), M2)) = some (r, N) ∧ (r = 0 → Vl S x y0) := fun y0 hy => by
    rcases ck_cases hR hN hS x with ⟨h1, h2⟩ | ⟨c, hc, rfl, h1, h2⟩
    · rw [h1, h2, bd_some, bd_some, if_pos rfl, if_pos rfl]
      exact ⟨-1, rfl, rfl, fun q => absurd q (by decide)⟩
    · rw [h1, h2, bd_some, bd_some, if_neg i10, if_neg i10]
      exact ⟨0, rfl, rfl, fun _ => Or.inl ⟨hy, c, hc, rfl⟩⟩
  rcases rg_cases y 10 13 (l := 10) (h := 13) e10 e13 (by decide) (by decide) with h3 | ⟨h3, h4, v, rfl, h5, h6⟩
  · rw [w_out h3, bd_some]
    rcases rg_cases y 0 3 (l := 0) (h := 3) I_0 I_3 (by decide) (by decide) with g3 | ⟨g3, g4, v, rfl, g5, g6⟩
    · rw [w_out g3, bd_some, if_pos rfl, if_pos rfl]
      have n0 : ¬ y = 0 := fun q => by subst q; revert g3; decide
      have n1 : ¬ y = 1 := fun q => by subst q; revert g3; decide
      have n2 : ¬ y = 2 := fun q => by subst q; revert g3; decide
      have n3 : ¬ y = 3 := fun q => by subst q; revert g3; decide
      rw [if_neg n0, if_neg n1, if_neg n2, if_neg n3]
      refine ⟨-2, ?_, rfl, fun q => absurd q (by decide)⟩
      rcases h3 with h3 | ⟨h3, h4⟩
      · rw [if_pos h3]
      · rw [if_neg h3, if_neg (show ¬ y < 14 from fun q => by
          rw [Int32.lt_iff_toInt_lt, show (14 : Int32).toInt = 14 by decide] at q
          rw [Int32.lt_iff_toInt_lt, show (13 : Int32).toInt = 13 by decide] at h4
          omega)]
    · rw [w_in g3 g4, bd_some, if_neg i10]
      rcases (show v = 0 ∨ v = 1 ∨ v = 2 ∨ v = 3 by omega) with rfl | rfl | rfl | rfl
      · rw [if_pos (by decide), if_neg (show ¬ I ((0 : Nat) : Int) = 3 by decide), if_pos rfl]
        exact clk _ (Or.inl (by decide))
      · rw [if_neg (show ¬ I ((1 : Nat) : Int) = 0 by decide), if_pos (by decide), if_neg (show ¬ I ((1 : Nat) : Int) = 3 by decide), if_pos rfl]
        exact clk _ (Or.inr (Or.inl (by decide)))
      · rw [if_neg (show ¬ I ((2 : Nat) : Int) = 0 by decide), if_neg (show ¬ I ((2 : Nat) : Int) = 1 by decide), if_pos (by decide), if_neg (show ¬ I ((2 : Nat) : Int) = 3 by decide), if_pos rfl]
        exact clk _ (Or.inr (Or.inr (by decide)))
      · rw [if_neg (show ¬ I ((3 : Nat) : Int) = 0 by decide), if_neg (show ¬ I ((3 : Nat) : Int) = 1 by decide), if_neg (show ¬ I ((3 : Nat) : Int) = 2 by decide), if_pos (show I ((3 : Nat) : Int) = 3 by decide), if_pos (show I ((3 : Nat) : Int) = 3 by decide)]
        rcases rg_cases x 0 9 (l := 0) (h := 9) I_0 I_9 (by decide) (by decide) with k3 | ⟨k3, k4, u, rfl, k5, k6⟩
        · rw [w_out k3, bd_some, if_pos rfl]
          refine ⟨-2, ?_, rfl, fun q => absurd q (by decide)⟩
          rcases k3 with k3 | ⟨k3, k4⟩
          · rw [if_pos k3]
          · rw [if_neg k3, if_pos k4]
        · rw [w_in k3 k4, bd_some, if_neg i10, if_pos rfl, if_pos (show I ((3 : Nat) : Int) = 3 by decide), if_neg k3, if_neg k4]
          exact ⟨0, rfl, rfl, fun _ => Or.inr (Or.inl ⟨by decide, u, by omega, rfl⟩)⟩
  · rw [w_in h3 h4, bd_some]
    have hv : ∀ q : Nat, q ≤ 9 → ¬ I (v : Int) = I (q : Int) := fun q hq e => by rw [I_eq (by omega) (by omega)] at e; omega
    rw [w_out (show I (v : Int) < 0 ∨ (¬ I (v : Int) < 0 ∧ (3 : Int32) < I (v : Int)) from Or.inr ⟨by rw [I_0, I_lt (by omega) (by omega)]; omega, by rw [I_3, I_lt (by omega) (by omega)]; omega⟩), bd_some, if_pos rfl, if_neg i10, if_neg (show ¬ I (v : Int) = 3 from hv 3 (by decide)), if_neg i10, if_neg (show ¬ I (v : Int) = 0 from hv 0 (by decide)), if_neg (show ¬ I (v : Int) = 1 from hv 1 (by decide)), if_neg (show ¬ I (v : Int) = 2 from hv 2 (by decide)), if_neg (show ¬ I (v : Int) = 3 from hv 3 (by decide)), if_neg h3, if_pos (show I (v : Int) < 14 by rw [show (14 : Int32) = I 14 by decide, I_lt (by omega) (by omega)]; omega)]
    rcases hs_cases hR hN hS x with ⟨h1, h2⟩ | ⟨c, hc, rfl, h1, h2⟩
    · rw [h1, h2, bd_some, bd_some, if_pos rfl, if_pos rfl]
      exact ⟨-1, rfl, rfl, fun q => absurd q (by decide)⟩
    · rw [h1, h2, bd_some, bd_some, if_neg i10, if_neg i10]
      exact ⟨0, rfl, rfl, fun _ => Or.inr (Or.inr ⟨v - 10, by omega, by congr 2; omega, c, hc, rfl⟩)⟩
theorem ix2 (a i : Nat) : I (a : Int) + (2 : Int32) * I (i : Int) = I ((a + 2 * i : Nat) : Int) := by
  rw [I_2, I_mul, I_add]
  congr 1
/-- the refusals, pair after pair -/
theorem rf_all {M N : Mem} {S : St} (hR : cR M 1 S) (hN : mR N S) (hS : wf S) {k a n : Nat} (hk : k < 4) (han : a + 2 * n ≤ 60) (hcl : ∀ i, i < 60 → M (gSh k + 1) i = N 3 (60 * k + i)) {x5 : Int32} {kx : Mem → Option (Int32 × Mem)} : ∀ (j f f' i : Nat), i + j = n → j < f → j < f' → ∃ r : Int32, f_X5_refusalOfActs_L3 (gSh k) (I a) (I n) (fun M3 => some ((0 : Int32), M3)) f (I i) M = some (r, M) ∧ ((r = 0 ∧ f_X6_season_L103 (I n) x5 (I ((60 * k + a : Nat) : Int)) kx f' (I i) N = kx N ∧ ∀ q, i ≤ q → q < n → Vl S (N 3 (60 * k + (a + 2 * q))) (N 3 (60 * k + (a + 2 * q + 1)))) ∨ (¬ r = 0 ∧ f_X6_season_L103 (I n) x5 (I ((60 * k + a : Nat) : Int)) kx f' (I i) N = some (r, N))) := by
  intro j
  induction j with
  | zero =>
    intro f f' i hi hf hf'
    obtain ⟨f, rfl⟩ : ∃ m, f = m + 1 := ⟨f - 1, by omega⟩
    obtain ⟨f', rfl⟩ : ∃ m, f' = m + 1 := ⟨f' - 1, by omega⟩
    rw [f_X5_refusalOfActs_L3, f_X6_season_L103, t_le (by omega) (by omega), t_le (by omega) (by omega), if_pos (by omega), if_pos (by omega)]
    exact ⟨0, rfl, Or.inl ⟨rfl, rfl, fun q h1 h2 => by omega⟩⟩
  | succ j ih =>
    intro f f' i hi hf hf'
    obtain ⟨f, rfl⟩ : ∃ m, f = m + 1 := ⟨f - 1, by omega⟩
    obtain ⟨f', rfl⟩ : ∃ m, f' = m + 1 := ⟨f' - 1, by omega⟩
    rw [f_X5_refusalOfActs_L3, f_X6_season_L103, t_le (by omega) (by omega), t_le (by omega) (by omega), if_neg (by omega), if_neg (by omega), ix2, ix2, I_succ, I_succ, I_succ, grd_ok (by omega) (by decide), grd_ok (by omega) (by decide), grd_ok (by omega) (by decide), grd_ok (by omega) (by decide), I_tn (by omega), I_tn (by omega), I_tn (by omega), I_tn (by omega), hcl _ (by omega), hcl _ (by omega), show 60 * k + a + 2 * i = 60 * k + (a + 2 * i) by omega, show 60 * k + (a + 2 * i) + 1 = 60 * k + (a + 2 * i + 1) by omega]
    obtain ⟨r, r1, r2, r3⟩ := rf_pair hR hN hS (N 3 (60 * k + (a + 2 * i))) (N 3 (60 * k + (a + 2 * i + 1)))
    rw [r1, r2, bd_some, bd_some]
    by_cases e : r = 0
    · rw [if_pos e, if_pos e]
      obtain ⟨r', s1, s2⟩ := ih f f' (i + 1) (by omega) (by omega) (by omega)
      refine ⟨r', s1, ?_⟩
      rcases s2 with ⟨t1, t2, t3⟩ | ⟨t1, t2⟩
      · refine Or.inl ⟨t1, t2, fun q h1 h2 => ?_⟩
        by_cases e2 : q = i
        · subst e2; exact r3 e
        · exact t3 q (by omega) h2
      · exact Or.inr ⟨t1, t2⟩
    · rw [if_neg e, if_neg e]
      exact ⟨r, rfl, Or.inr ⟨e, rfl⟩⟩
/-- the class's trial and the reference's street, while a season is played -/
def J (S : St) (M N : Mem) : Prop := cR M 7 S ∧ mR N S ∧ wf S ∧ M 7 8 = N 0 20 ∧ M 7 9 = N 0 21
theorem n_doesN {S : St} (hS : wf S) {kx : Mem → Option (Int32 × Mem)} {z u : Int32} {m : Nat} (hm : m ≤ 2000) : ∀ (n i : Nat) (N : Mem), i ≤ m → m - i < n → mR N (nts S i) → N 0 20 = z + cns S i → N 0 21 = u + uns S i → ∃ N', f_X6_does_L7 (I m) kx n (I i) N = kx N' ∧ mR N' (nts S m) ∧ (∀ r, r ≠ 0 → r ≠ 7 → N' r = N r) ∧ (∀ k, k ≠ 20 → k ≠ 21 → N' 0 k = N 0 k) ∧ N' 0 20 = z + cns S m ∧ N' 0 21 = u + uns S m := by
  intro n
  induction n with
  | zero => intro i M _ h; omega
  | succ n ih =>
    intro i N hi hn hR h8 h9
    rw [f_X6_does_L7, t_le (by omega) (by omega)]
    by_cases h : i = m
    · subst h
      rw [if_pos (by omega)]
      exact ⟨N, rfl, hR, fun _ _ _ => rfl, fun _ _ _ => rfl, h8, h9⟩
    · rw [if_neg (by omega)]
      obtain ⟨N1, k1, k2, k3, k4, k5, k6⟩ := n_oneNight hR (nts_wf hS i)
      rw [k1, bd_some, I_succ]
      obtain ⟨N2, l1, l2, l3, l4, l5, l6⟩ := ih (i + 1) N1 (by omega) (by omega) k2 (by rw [k5, h8, add_as]; rfl) (by rw [k6, h9, add_as]; rfl)
      exact ⟨N2, l1, l2, fun r h1 h2 => by rw [l3 r h1 h2, k3 r h1 h2], fun k h1 h2 => by rw [l4 k h1 h2, k4 k h1 h2], l5, l6⟩
theorem n_isOf2 {N : Mem} {S : St} (hR : mR N S) (hS : wf S) {c : Nat} (hc : c < S.2.1) : f_X6_isOf (N 0 9) (I c) N = some (I (S.2.2.2 4 c), N) := n_isOf hR hS hc
theorem act1 {S S0 : St} {M N : Mem} (hJ : J S M N) (d1 : S.1 = S0.1) (d2 : S.2.1 = S0.2.1) {x y : Int32} (hv : Vl S0 x y) : ∃ (r : Int32) (M' N' : Mem) (S' : St), f_X5_canAct x y M = some (r, M') ∧ f_X6_does x y N = some (r, N') ∧ J S' M' N' ∧ S'.1 = S0.1 ∧ S'.2.1 = S0.2.1 ∧ (∀ q, q < 7 ∨ 13 ≤ q → M' q = M q) ∧ (∀ q, q ≠ 0 → q ≠ 7 → N' q = N q) ∧ ∀ q, q ≠ 9 → q ≠ 20 → q ≠ 21 → N' 0 q = N 0 q := by
  obtain ⟨hR, hN, hS, h8, h9⟩ := hJ
  have b1 := hS.1
  have b2 := hS.2.1
  have b3 := FU_ge
  unfold f_X5_canAct f_X6_does
  rcases hv with ⟨hy, c, hc, rfl⟩ | ⟨rfl, m, hm, rfl⟩ | ⟨j, hj, rfl, h, hh, rfl⟩
  · rw [← d2] at hc
    have q4 := (hS.2.2.2.2 c hc).2.2.2
    rcases hy with rfl | rfl | rfl
    · rw [if_pos rfl, if_neg (by decide), if_pos (by decide), if_pos rfl]
      obtain ⟨M1, k1, k2, k3, k4, k5⟩ := q_strike hR hS hc
      obtain ⟨N1, l1, l2, l3, l4, l5, l6⟩ := n_strikes hN hS hc
      rw [k1, l1, bd_some, bd_some]
      exact ⟨1, M1, N1, sk1 S c, rfl, rfl, ⟨k2, l2, sk1_wf hS hc, by rw [k4, l5, h8], by rw [k5, l6, h9]⟩, d1, d2, fun q hq => k3 q (by omega) (by omega), fun q h1 h2 => l3 q h1 h2, fun q h1 h2 h3 => l4 q h2 h3⟩
    · rw [if_neg (show ¬ (1 : Int32) = 0 by decide), if_pos rfl, if_neg (by decide), if_pos (by decide), n_isOf2 hN hS hc, bd_some, if_neg (by decide)]
      unfold f_X5_canTurn
      rw [grd_ok (by omega) (by decide), grd_ok (by omega) (by decide), I_tn (by omega), show M 12 c = I (S.2.2.2 4 c) from (hR.2.2.2.2 c hc).2.2]
      rcases (show S.2.2.2 4 c = 0 ∨ S.2.2.2 4 c = 1 by omega) with e | e
      · rw [e, if_neg (show ¬ I ((0 : Nat) : Int) = 1 by decide), if_pos (show I ((0 : Nat) : Int) = 0 by decide), mlt_eq, mlt_eq, bd_some, zck1]
        have hmk := mk_su (S.2.2.2 4) c 1 S.2.1 hc
        rw [e] at hmk
        have hx : N 0 9 ^^^ ((1 : Int32) <<< (I (c : Int) &&& 31)) = I ((mk ((sU S 4 c 1).2.2.2 4) S.2.1 : Nat) : Int) := by
          rw [hN.2.2.2.2.2, bt_xor0 _ (st_16 hS) c (by omega) (by rw [st_bit hS hc, e])]
          congr 2
          show _ = mk (fun q => if 4 = 4 ∧ q = c then 1 else S.2.2.2 4 q) S.2.1
          omega
        have hc1 := cR_su hR 4 c 1
        refine ⟨1, _, _, sU S 4 c 1, rfl, rfl, ⟨hc1, mR_st hN hx, wf_su hS (by omega) (by omega) (by omega) (by omega) (by omega), ?_, ?_⟩, d1, d2, fun q hq => mu_ne (by omega), fun q h1 h2 => mu_ne h1, fun q h1 h2 h3 => mu_f h1⟩
        · rw [mu_nn (by decide), mu_f (by decide)]; exact h8
        · rw [mu_nn (by decide), mu_f (by decide)]; exact h9
      · rw [e, if_pos (show I ((1 : Nat) : Int) = 1 by decide), if_neg (show ¬ I ((1 : Nat) : Int) = 0 by decide), bd_some, zck0]
        exact ⟨0, M, N, S, rfl, rfl, ⟨hR, hN, hS, h8, h9⟩, d1, d2, fun _ _ => rfl, fun _ _ _ => rfl, fun _ _ _ _ => rfl⟩
    · rw [if_neg (show ¬ (2 : Int32) = 0 by decide), if_neg (show ¬ (2 : Int32) = 1 by decide), if_pos rfl, if_neg (by decide), if_pos (by decide), n_isOf2 hN hS hc, bd_some, if_pos rfl]
      unfold f_X5_canTurn
      rw [grd_ok (by omega) (by decide), grd_ok (by omega) (by decide), I_tn (by omega), show M 12 c = I (S.2.2.2 4 c) from (hR.2.2.2.2 c hc).2.2]
      rcases (show S.2.2.2 4 c = 0 ∨ S.2.2.2 4 c = 1 by omega) with e | e
      · rw [e, if_pos (show I ((0 : Nat) : Int) = 0 by decide), if_neg (show ¬ I ((0 : Nat) : Int) = 1 by decide), bd_some, zck0]
        exact ⟨0, M, N, S, rfl, rfl, ⟨hR, hN, hS, h8, h9⟩, d1, d2, fun _ _ => rfl, fun _ _ _ => rfl, fun _ _ _ _ => rfl⟩
      · rw [e, if_neg (show ¬ I ((1 : Nat) : Int) = 0 by decide), if_pos (show I ((1 : Nat) : Int) = 1 by decide), mlt_eq, mlt_eq, bd_some, zck1]
        have hmk := mk_su (S.2.2.2 4) c 0 S.2.1 hc
        rw [e] at hmk
        have hx : N 0 9 ^^^ ((1 : Int32) <<< (I (c : Int) &&& 31)) = I ((mk ((sU S 4 c 0).2.2.2 4) S.2.1 : Nat) : Int) := by
          rw [hN.2.2.2.2.2, bt_xor1 _ (st_16 hS) c (by omega) (by rw [st_bit hS hc, e])]
          congr 2
          show _ = mk (fun q => if 4 = 4 ∧ q = c then 0 else S.2.2.2 4 q) S.2.1
          omega
        have hc1 := cR_su hR 4 c 0
        refine ⟨1, _, _, sU S 4 c 0, rfl, rfl, ⟨hc1, mR_st hN hx, wf_su hS (by omega) (by omega) (by omega) (by omega) (by omega), ?_, ?_⟩, d1, d2, fun q hq => mu_ne (by omega), fun q h1 h2 => mu_ne h1, fun q h1 h2 h3 => mu_f h1⟩
        · rw [mu_nn (by decide), mu_f (by decide)]; exact h8
        · rw [mu_nn (by decide), mu_f (by decide)]; exact h9
  · rw [if_neg (show ¬ (3 : Int32) = 0 by decide), if_neg (show ¬ (3 : Int32) = 1 by decide), if_neg (show ¬ (3 : Int32) = 2 by decide), if_pos rfl, if_pos rfl]
    obtain ⟨M1, k1, k2, k3, k4, k5⟩ := q_passNights (a := 7) hS (m := m) (by omega) hR
    obtain ⟨N1, l1, l2, l3, l4, l5, l6⟩ := n_doesN hS (kx := fun M2 => some ((1 : Int32), M2)) (m := m) (by omega) FU 0 N (Nat.zero_le _) (by omega) hN (add_0 _).symm (add_0 _).symm
    rw [k1, bd_some]
    have n1 := nts_1 S m
    exact ⟨1, M1, N1, nts S m, rfl, l1, ⟨k2, l2, nts_wf hS m, by rw [k4, l5, h8], by rw [k5, l6, h9]⟩, by rw [n1.1, d1], by rw [n1.2.1, d2], fun q hq => k3 q (by omega) (by omega), fun q h1 h2 => l3 q h1 h2, fun q h1 h2 h3 => l4 q h2 h3⟩
  · rw [← d1] at hh
    have hv : ∀ q : Nat, q ≤ 9 → ¬ I ((10 + j : Nat) : Int) = I (q : Int) := fun q hq e => by rw [I_eq (by omega) (by omega)] at e; omega
    rw [if_neg (show ¬ I ((10 + j : Nat) : Int) = 0 from hv 0 (by decide)), if_neg (show ¬ I ((10 + j : Nat) : Int) = 1 from hv 1 (by decide)), if_neg (show ¬ I ((10 + j : Nat) : Int) = 2 from hv 2 (by decide)), if_neg (show ¬ I ((10 + j : Nat) : Int) = 3 from hv 3 (by decide)), if_neg (show ¬ I ((10 + j : Nat) : Int) = 3 from hv 3 (by decide)), if_neg (show ¬ I ((10 + j : Nat) : Int) < 10 from fun q => by rw [show (10 : Int32) = I 10 by decide, I_lt (by omega) (by omega)] at q; omega), show I ((10 + j : Nat) : Int) - 10 = I (j : Int) by rw [show (10 : Int32) = I 10 by decide, I_sub]; congr 1; omega]
    unfold f_X5_canCarry
    rcases ck_cases hR hN hS (I j) with ⟨h1, h2⟩ | ⟨c, hc, e, h1, h2⟩
    · rw [h1, h2, bd_some, bd_some, if_pos rfl, if_pos rfl, bd_some, zck0]
      exact ⟨0, M, N, S, rfl, rfl, ⟨hR, hN, hS, h8, h9⟩, d1, d2, fun _ _ => rfl, fun _ _ _ => rfl, fun _ _ _ _ => rfl⟩
    · have ej : j = c := by rw [I_eq (by omega) (by omega)] at e; omega
      subst ej
      rw [h1, h2, bd_some, bd_some, if_neg i10, if_neg i10, grd_ok (by omega) (by decide), grd_ok (by omega) (by decide), I_tn (by omega), mlt_eq, mlt_eq, bd_some, zck1]
      refine ⟨1, _, _, sU S 3 j h, rfl, rfl, ⟨cR_su hR 3 j h, mR_su hN (j := 3) (by decide) j h, wf_su hS (by omega) (by omega) (by omega) (fun _ => hh) (by omega), ?_, ?_⟩, d1, d2, fun q hq => mu_ne (by omega), fun q h1 h2 => mu_ne h2, fun q h1 h2 h3 => mu_nn (by decide)⟩
      · rw [mu_nn (by decide), mu_nn (by decide)]; exact h8
      · rw [mu_nn (by decide), mu_nn (by decide)]; exact h9
theorem play {S0 : St} {k a n : Nat} (hk : k < 4) (han : a + 2 * n ≤ 60) {pr : Nat → Int32} (hvl : ∀ q, q < n → Vl S0 (pr (a + 2 * q)) (pr (a + 2 * q + 1))) : ∀ (j f f' i : Nat) (S : St) (M N : Mem), i + j = n → j < f → j < f' → J S M N → S.1 = S0.1 → S.2.1 = S0.2.1 → (∀ q, q < 60 → M (gSh k + 1) q = pr q) → (∀ q, q < 60 → N 3 (60 * k + q) = pr q) → ∃ (r : Int32) (M' N' : Mem) (S' : St), f_X5_playOnTrial_L14 (gSh k) (I a) (I n) (fun M4 => some ((-9 : Int32), M4)) f (I i) M = some (r, M') ∧ f_X6_goSeason_L12 (I ((60 * k + a : Nat) : Int)) (I n) (fun M5 => some ((-9 : Int32), M5)) f' (I i) N = some (r, N') ∧ J S' M' N' ∧ S'.1 = S0.1 ∧ S'.2.1 = S0.2.1 ∧ (∀ q, q < 7 ∨ 13 ≤ q → M' q = M q) ∧ (∀ q, q ≠ 0 → q ≠ 7 → N' q = N q) ∧ ∀ q, q ≠ 9 → q ≠ 20 → q ≠ 21 → N' 0 q = N 0 q := by
  have ek : gSh k = 29 + 2 * k := rfl
  intro j
  induction j with
  | zero =>
    intro f f' i S M N hi hf hf' hJ d1 d2 _ _
    obtain ⟨f, rfl⟩ : ∃ m, f = m + 1 := ⟨f - 1, by omega⟩
    obtain ⟨f', rfl⟩ : ∃ m, f' = m + 1 := ⟨f' - 1, by omega⟩
    rw [f_X5_playOnTrial_L14, f_X6_goSeason_L12, t_le (by omega) (by omega), t_le (by omega) (by omega), if_pos (by omega), if_pos (by omega)]
    exact ⟨-9, M, N, S, rfl, rfl, hJ, d1, d2, fun _ _ => rfl, fun _ _ _ => rfl, fun _ _ _ _ => rfl⟩
  | succ j ih =>
    intro f f' i S M N hi hf hf' hJ d1 d2 hM hN
    obtain ⟨f, rfl⟩ : ∃ m, f = m + 1 := ⟨f - 1, by omega⟩
    obtain ⟨f', rfl⟩ : ∃ m, f' = m + 1 := ⟨f' - 1, by omega⟩
    rw [f_X5_playOnTrial_L14, f_X6_goSeason_L12, t_le (by omega) (by omega), t_le (by omega) (by omega), if_neg (by omega), if_neg (by omega), ix2, ix2, I_succ, I_succ, I_succ, grd_ok (by omega) (by decide), grd_ok (by omega) (by decide), grd_ok (by omega) (by decide), grd_ok (by omega) (by decide), I_tn (by omega), I_tn (by omega), I_tn (by omega), I_tn (by omega), hM _ (by omega), hM _ (by omega), show 60 * k + a + 2 * i = 60 * k + (a + 2 * i) by omega, show 60 * k + (a + 2 * i) + 1 = 60 * k + (a + 2 * i + 1) by omega, hN _ (by omega), hN _ (by omega)]
    obtain ⟨r, M1, N1, S1, k1, k2, k3, k4, k5, k6, k7, k8⟩ := act1 hJ d1 d2 (hvl i (by omega))
    rw [k1, k2, bd_some, bd_some]
    by_cases e : r = 0
    · rw [if_pos e, if_pos e]
      exact ⟨I i, M1, N1, S1, rfl, rfl, k3, k4, k5, k6, k7, k8⟩
    · rw [if_neg e, if_neg e]
      obtain ⟨r', M2, N2, S2, l1, l2, l3, l4, l5, l6, l7, l8⟩ := ih f f' (i + 1) S1 M1 N1 (by omega) (by omega) (by omega) k3 k4 k5 (fun q hq => by rw [k6 _ (by omega)]; exact hM q hq) (fun q hq => by rw [k7 3 (by decide) (by decide)]; exact hN q hq)
      exact ⟨r', M2, N2, S2, l1, l2, l3, l4, l5, fun q hq => by rw [l6 q hq, k6 q hq], fun q h1 h2 => by rw [l7 q h1 h2, k7 q h1 h2], fun q h1 h2 h3 => by rw [l8 q h1 h2 h3, k8 q h1 h2 h3]⟩
/-- the houses in which clocks stand -/
def hwS (p : Nat → Nat) : Nat → Int32
  | 0 => 0
  | i + 1 => hwS p i ||| ((1 : Int32) <<< (I (p i) &&& 31))
theorem tell1 {S : St} {M N : Mem} (hJ : J S M N) {z : Nat} (hz : z ≤ 4 ∨ (10 ≤ z ∧ z ≤ 13)) : ∃ t : Int32, f_X6_tellSeason (I z) N = some (t, N) ∧ (z ≠ 1 → f_X5_answerOfTrial (I z) M = some (t, M)) := by
  obtain ⟨hR, hN, hS, h8, h9⟩ := hJ
  have b1 := hS.1
  have b2 := hS.2.1
  unfold f_X6_tellSeason f_X5_answerOfTrial
  have hv : ∀ q : Nat, q ≤ 9 → z ≠ q → ¬ I (z : Int) = I (q : Int) := fun q hq ne e => by rw [I_eq (by omega) (by omega)] at e; omega
  rcases hz with hz | hz
  · rw [if_pos (show I (z : Int) < 10 by rw [show (10 : Int32) = I 10 by decide, I_lt (by omega) (by omega)]; omega)]
    rcases (show z = 0 ∨ z = 1 ∨ z = 2 ∨ z = 3 ∨ z = 4 by omega) with rfl | rfl | rfl | rfl | rfl
    · rw [if_neg (by decide), if_pos (by decide), if_pos (by decide), q_stuffedClocks hR hS, bd_some, hN.2.2.2.2.2]
      exact ⟨_, rfl, fun _ => rfl⟩
    · rw [if_neg (by decide), if_neg (by decide), if_neg (by decide)]
      exact ⟨_, rfl, fun q => absurd rfl q⟩
    · rw [if_neg (by decide), if_neg (by decide), if_pos (by decide), if_neg (by decide), if_neg (by decide), if_pos (by decide), h8]
      exact ⟨_, rfl, fun _ => rfl⟩
    · rw [if_neg (by decide), if_neg (by decide), if_neg (by decide), if_neg (by decide), if_neg (by decide), if_neg (by decide), if_pos (by decide), h9]
      exact ⟨_, rfl, fun _ => rfl⟩
    · rw [if_pos (by decide), if_neg (by decide), if_neg (by decide), if_neg (by decide), if_neg (by decide), if_pos (by decide)]
      have e1 : f_X6_tellSeason_L69 (fun e2 M3 => some (e2, M3)) FU 0 0 N = some (hwS (S.2.2.2 3) S.2.1, N) := by
        refine lp0 (fun n x st => f_X6_tellSeason_L69 (fun e3 M4 => some (e3, M4)) n st x N) (fun st => some (st, N)) S.2.1 (by omega) (fun i => hwS (S.2.2.2 3) i) (fun n i hi => ?_) (fun n => ?_)
        · try dsimp only
          rw [f_X6_tellSeason_L69, hN.2.1, t_le (by omega) (by omega), if_neg (by omega), grd_ok (by omega) (by decide), I_tn (by omega), (hN.2.2.2.2.1 i hi).2, ilt_eq, I_succ, hwS]
        · try dsimp only
          rw [f_X6_tellSeason_L69, hN.2.1, t_le (by omega) (by omega), if_pos (by omega)]
      have e2 : f_X3_housesWithClocks 7 M = some (hwS (S.2.2.2 3) S.2.1, M) := by
        unfold f_X3_housesWithClocks
        refine lp0 (fun n x st => f_X3_housesWithClocks_L4 7 (fun e3 M4 => some (e3, M4)) n st x M) (fun st => some (st, M)) S.2.1 (by omega) (fun i => hwS (S.2.2.2 3) i) (fun n i hi => ?_) (fun n => ?_)
        · try dsimp only
          rw [f_X3_housesWithClocks_L4, hR.2.1, t_le (by omega) (by omega), if_neg (by omega), grd_ok (by omega) (by decide), I_tn (by omega), (hR.2.2.2.2 i hi).2.1, ilt_eq, I_succ, hwS]
        · try dsimp only
          rw [f_X3_housesWithClocks_L4, hR.2.1, t_le (by omega) (by omega), if_pos (by omega)]
      rw [e1, e2, bd_some]
      exact ⟨_, rfl, fun _ => rfl⟩
  · rw [if_neg (show ¬ I (z : Int) < 10 from fun q => by rw [show (10 : Int32) = I 10 by decide, I_lt (by omega) (by omega)] at q; omega), if_neg (show ¬ I (z : Int) = 0 from hv 0 (by decide) (by omega)), if_neg (show ¬ I (z : Int) = 1 from hv 1 (by decide) (by omega)), if_neg (show ¬ I (z : Int) = 2 from hv 2 (by decide) (by omega)), if_neg (show ¬ I (z : Int) = 3 from hv 3 (by decide) (by omega)), if_neg (show ¬ I (z : Int) = 4 from hv 4 (by decide) (by omega)), show I (z : Int) - 10 = I ((z - 10 : Nat) : Int) by rw [show (10 : Int32) = I 10 by decide, I_sub]; congr 1; omega]
    rcases ck_cases hR hN hS (I ((z - 10 : Nat) : Int)) with ⟨h1, h2⟩ | ⟨c, hc, e, h1, h2⟩
    · rw [h1, h2, bd_some, bd_some, if_pos rfl, if_pos rfl]
      exact ⟨_, rfl, fun _ => rfl⟩
    · have ej : z - 10 = c := by rw [I_eq (by omega) (by omega)] at e; omega
      rw [h1, h2, bd_some, bd_some, if_neg i10, if_neg i10, ej, grd_ok (by omega) (by decide), grd_ok (by omega) (by decide), I_tn (by omega), (hN.2.2.2.2.1 c hc).2, show M 11 c = I (S.2.2.2 3 c) from (hR.2.2.2.2 c hc).2.1]
      exact ⟨_, rfl, fun _ => rfl⟩
theorem sea {M N : Mem} {S : St} {nn : Nat} {Q Z : Nat → Nat → Nat} (hr : Rel S nn Q Z M N) (h0 : Inv M N) {k l n z : Nat} (hk : k < 4) (hl : l ≤ 2) (hn : n ≤ 20) (hz : z ≤ 4 ∨ (10 ≤ z ∧ z ≤ 13)) (x3 : Int32) : Ag (cSea (I k) (I l) x3 (I n) (I z) M) (mSea (I k) (I l) x3 (I n) (I z) N) := by
  have hS := hr.1.1
  have hR := hr.2.1
  have hN := hr.2.2.1
  have b1 := hS.1
  have b2 := hS.2.1
  have b3 := FU_ge
  have ek : gSh k = 29 + 2 * k := rfl
  obtain ⟨⟨a1, a2, a3⟩, ⟨m1, m2, m3⟩, n1, n2, n3⟩ := hr.2.2.2.2.1 k hk
  unfold cSea mSea
  have e2n : (2 : Int32) * I (n : Int) = I ((2 * n : Nat) : Int) := by rw [I_2, I_mul]; congr 1
  rw [grd_ok (by omega) (by decide), I_tn (by omega), q_faultAs a1 m1 m2, bd_some, e2n]
  have hnn : ¬ I ((2 * n : Nat) : Int) < 0 := by rw [I_0, I_lt (by omega) (by omega)]; omega
  rcases n_against hk a1 a2 a3 n1 n2 (I l) x3 (I ((2 * n : Nat) : Int)) with ⟨e, g⟩ | ⟨e, e2, g⟩ | ⟨e, e2, e3, g⟩ | ⟨e, e2, e3, e4, g⟩ | ⟨e, e2, e3, g⟩
  · rw [g, bd_some, e, if_pos rfl, if_neg i10, if_neg i10, if_neg i10, q_faulty, n_fails, bd_some, bd_some]
    exact Ag.mk _ (Inv_fault hr 1)
  · rw [g, bd_some, e, if_neg (show ¬ (1 : Nat) = 0 by decide), if_neg e2, if_neg (show ¬ (2 : Int32) = 0 by decide), if_neg (show ¬ (2 : Int32) = 0 by decide), if_neg (show ¬ (2 : Int32) = 0 by decide), q_faulty, n_fails, bd_some, bd_some]
    exact Ag.mk _ (Inv_fault hr 2)
  · exact absurd e3 hnn
  · have hlk : f_X2_lacks (gSh k) x3 (I ((2 * n : Nat) : Int)) M = some (1, M) := by
      rcases q_lacks a3 m3 x3 (I ((2 * n : Nat) : Int)) with ⟨q, _⟩ | ⟨_, q⟩
      · exact absurd q e4
      · exact q
    rw [g, bd_some, e, if_neg (show ¬ (1 : Nat) = 0 by decide), if_pos e2, if_pos rfl, hlk, bd_some, if_neg i10, if_neg (show ¬ (3 : Int32) = 0 by decide), if_neg (show ¬ (3 : Int32) = 0 by decide), q_faulty, n_fails, bd_some, bd_some]
    exact Ag.mk _ (Inv_fault hr 3)
  · have hlk : f_X2_lacks (gSh k) x3 (I ((2 * n : Nat) : Int)) M = some (0, M) := by
      rcases q_lacks a3 m3 x3 (I ((2 * n : Nat) : Int)) with ⟨_, q⟩ | ⟨q, _⟩
      · exact q
      · exact absurd e3 q
    obtain ⟨a, m, rfl, em, ham⟩ := e3
    have emm : 2 * n = m := by rw [I_eq (by omega) (by omega)] at em; omega
    subst emm
    rw [g, bd_some, e, if_neg (show ¬ (1 : Nat) = 0 by decide), if_pos e2, if_pos rfl, hlk, bd_some, if_pos rfl, if_pos rfl, if_pos rfl, c_stands hR hS, bd_some]
    by_cases hzz : S.1 = 0
    · rw [if_pos hzz, if_pos rfl, if_pos ((m_stands hN hS).mpr hzz)]; exact Ag.mk _ h0
    rw [if_neg hzz, if_neg i10, if_neg (fun q => hzz ((m_stands hN hS).mp q)), ilt_eq, ix]
    unfold f_X5_refusalOfActs
    obtain ⟨r, r1, r2⟩ := rf_all hR hN hS hk (show a + 2 * n ≤ 60 by omega) n3 (x5 := I z) (kx := fun M31 => bd (f_X6_keep M31) (fun _ M32 => ilt (M32 0 9) (fun x_33 => bd (f_X6_goSeason (I ((60 * k + a : Nat) : Int)) (I n) M32) (fun r35 M34 => bd (f_X6_tellSeason (I z) M34) (fun r37 M36 => bd (f_X6_putBack M36) (fun _ M38 => mlt (mu M38 0 9 x_33) (fun M39 => if I (z : Int) = (1 : Int32) then (some (r35, M39)) else (if r35 = (-9 : Int32) then (some (r37, M39)) else (some (((-100 : Int32) - r35), M39)))))))))) n FU FU 0 (by omega) (by omega) (by omega)
    have r1' : f_X5_refusalOfActs_L3 (gSh k) (I a) (I n) (fun M3 => some ((0 : Int32), M3)) FU 0 M = some (r, M) := r1
    rw [r1', bd_some]
    rcases r2 with ⟨s1, s2, s3⟩ | ⟨s1, s2⟩
    · have s2' : f_X6_season_L103 (I n) (I z) (I ((60 * k + a : Nat) : Int)) (fun M31 => bd (f_X6_keep M31) (fun _ M32 => ilt (M32 0 9) (fun x_33 => bd (f_X6_goSeason (I ((60 * k + a : Nat) : Int)) (I n) M32) (fun r35 M34 => bd (f_X6_tellSeason (I z) M34) (fun r37 M36 => bd (f_X6_putBack M36) (fun _ M38 => mlt (mu M38 0 9 x_33) (fun M39 => if I (z : Int) = (1 : Int32) then (some (r35, M39)) else (if r35 = (-9 : Int32) then (some (r37, M39)) else (some (((-100 : Int32) - r35), M39)))))))))) FU 0 N = _ := s2
      rw [if_pos s1, s2']
      unfold f_X5_playOnTrial f_X6_goSeason
      obtain ⟨M1, k1, k2, k3, k4, k5⟩ := q_become (a := 7) (b := 1) (by decide) hS hR
      obtain ⟨N1, c1, c2, c3⟩ := n_keep hN hS
      have hN1 : mR N1 S := mR_fr hN (by rw [c3 0 (by decide)]; exact ⟨rfl, rfl, rfl, rfl⟩) (fun r h1 h2 => c3 r (by omega))
      have hN2 : mR (mu (mu N1 0 20 0) 0 21 0) S := mR_fr hN1 (by refine ⟨?_, ?_, ?_, ?_⟩ <;> rw [mu_f (by decide), mu_f (by decide)]) (fun r h1 h2 => by rw [mu_ne (by omega), mu_ne (by omega)])
      rw [k1, bd_some, c1, bd_some, ilt_eq, mlt_eq, mlt_eq]
      obtain ⟨r', M2, N2, S2, l1, l2, l3, l4, l5, l6, l7, l8⟩ := play hk (show a + 2 * n ≤ 60 by omega) (pr := fun q => N 3 (60 * k + q)) (fun q hq => s3 q (Nat.zero_le _) hq) n FU FU 0 S M1 (mu (mu N1 0 20 0) 0 21 0) (by omega) (by omega) (by omega) ⟨k2, hN2, hS, by rw [k4, mu_f (by decide), mu_v], by rw [k5, mu_v]⟩ rfl rfl (fun q hq => by rw [k3 _ (by omega)]; exact n3 q hq) (fun q hq => by rw [mu_nn (by decide), mu_nn (by decide), c3 3 (by decide)])
      have l1' : f_X5_playOnTrial_L14 (gSh k) (I a) (I n) (fun M4 => some ((-9 : Int32), M4)) FU 0 M1 = some (r', M2) := l1
      have l2' : f_X6_goSeason_L12 (I ((60 * k + a : Nat) : Int)) (I n) (fun M5 => some ((-9 : Int32), M5)) FU 0 (mu (mu N1 0 20 0) 0 21 0) = some (r', N2) := l2
      obtain ⟨t, t1, t2⟩ := tell1 l3 hz
      rw [l1', l2', bd_some, bd_some, t1, bd_some]
      obtain ⟨N3, p1, p2, p3⟩ := n_putBack (N := N2) (C := S.2.1) b2 (by rw [l3.2.1.2.1, l5]) (p := fun c => I (S.2.2.2 3 c)) (fun c hc => by rw [l7 10 (by decide) (by decide), mu_nn (by decide), mu_nn (by decide)]; exact c2 c hc)
      rw [p1, bd_some, mlt_eq]
      have mr : ∀ r, r < 7 ∨ 13 ≤ r → M2 r = M r := fun r h => by rw [l6 r h, k3 r (by omega)]
      have n0 : ∀ q, q ≠ 20 → q ≠ 21 → mu N3 0 9 (N1 0 9) 0 q = N 0 q := fun q h1 h2 => by
        by_cases e9 : q = 9
        · subst e9; rw [mu_v, c3 0 (by decide)]
        · rw [mu_f e9, p3 0 (by decide), l8 q e9 h1 h2, mu_f h2, mu_f h1, c3 0 (by decide)]
      have nr : ∀ q, q ≠ 0 → q ≠ 7 → q ≠ 10 → mu N3 0 9 (N1 0 9) q = N q := fun q h1 h2 h3 => by rw [mu_ne h1, p3 q h2, l7 q h1 h2, mu_ne h1, mu_ne h1, c3 q h3]
      have hNf : mR (mu N3 0 9 (N1 0 9)) S := by
        obtain ⟨g1, g2, g3, g4, g5, g6⟩ := hN
        refine ⟨by rw [n0 6 (by decide) (by decide)]; exact g1, by rw [n0 7 (by decide) (by decide)]; exact g2, by rw [n0 5 (by decide) (by decide)]; exact g3, fun q hq => ?_, fun q hq => ⟨?_, ?_⟩, by rw [n0 9 (by decide) (by decide)]; exact g6⟩
        · rw [nr 4 (by decide) (by decide) (by decide), nr 5 (by decide) (by decide) (by decide)]; exact g4 q hq
        · rw [nr 6 (by decide) (by decide) (by decide)]; exact (g5 q hq).1
        · rw [mu_nn (by decide)]; exact p2 q hq
      have fin : Inv M2 (mu N3 0 9 (N1 0 9)) := by
        refine Inv_of (S := S) (Rel_mk hr hS rfl rfl (cR_fr hR (by rw [mr 1 (by omega)]; exact ⟨rfl, rfl, rfl⟩) (fun r h1 h2 => mr r (by omega))) hNf (by rw [mr 0 (by omega)]) (by rw [mr 0 (by omega), n0 8 (by decide) (by decide)]; exact hr.2.2.2.2.2.1) (fun r h1 => mr r (by omega)) ⟨n0 1 (by decide) (by decide), n0 25 (by decide) (by decide)⟩ (fun r h1 => nr r (by omega) (by omega) (by omega))) h0.2 (by rw [mr 0 (by omega)]) (n0 0 (by decide) (by decide))
      by_cases z1 : z = 1
      · subst z1
        rw [if_pos (show I ((1 : Nat) : Int) = 1 by decide), if_pos (show I ((1 : Nat) : Int) = 1 by decide)]
        exact Ag.mk _ fin
      · have hz1 : ¬ I (z : Int) = 1 := fun q => by rw [I_1, I_eq (by omega) (by omega)] at q; omega
        rw [if_neg hz1, if_neg hz1]
        by_cases e9 : r' = -9
        · rw [if_pos e9, if_pos e9, t2 z1, bd_some]
          exact Ag.mk _ fin
        · rw [if_neg e9, if_neg e9]
          exact Ag.mk _ fin
    · have s2' : f_X6_season_L103 (I n) (I z) (I ((60 * k + a : Nat) : Int)) (fun M31 => bd (f_X6_keep M31) (fun _ M32 => ilt (M32 0 9) (fun x_33 => bd (f_X6_goSeason (I ((60 * k + a : Nat) : Int)) (I n) M32) (fun r35 M34 => bd (f_X6_tellSeason (I z) M34) (fun r37 M36 => bd (f_X6_putBack M36) (fun _ M38 => mlt (mu M38 0 9 x_33) (fun M39 => if I (z : Int) = (1 : Int32) then (some (r35, M39)) else (if r35 = (-9 : Int32) then (some (r37, M39)) else (some (((-100 : Int32) - r35), M39)))))))))) FU 0 N = _ := s2
      rw [if_neg s1, s2']
      exact Ag.mk _ h0
theorem asked (M N : Mem) (x : Int32) : (f_X5_isAskedOfSeason x M = some (0, M) ∧ f_X6_within x 0 4 N = some (0, N) ∧ f_X6_within x 10 13 N = some (0, N)) ∨ ∃ z : Nat, (z ≤ 4 ∨ (10 ≤ z ∧ z ≤ 13)) ∧ x = I z ∧ f_X5_isAskedOfSeason x M = some (1, M) ∧ (f_X6_within x 0 4 N = some (1, N) ∨ (f_X6_within x 0 4 N = some (0, N) ∧ f_X6_within x 10 13 N = some (1, N))) := by
  unfold f_X5_isAskedOfSeason
  have e10 : (10 : Int32) = I ((10 : Nat) : Int) := by decide
  have e13 : (13 : Int32) = I ((13 : Nat) : Int) := by decide
  rcases rg_cases x 0 4 (l := 0) (h := 4) I_0 I_4 (by decide) (by decide) with h3 | ⟨h3, h4, v, rfl, h5, h6⟩
  · rcases rg_cases x 10 13 (l := 10) (h := 13) e10 e13 (by decide) (by decide) with g3 | ⟨g3, g4, v, rfl, g5, g6⟩
    · left
      refine ⟨?_, w_out h3, w_out g3⟩
      have hb : (if x < 10 then some ((0 : Int32), M) else if 14 ≤ x then some (0, M) else some (1, M)) = some (0, M) := by
        rcases g3 with g3 | ⟨g3, g4⟩
        · rw [if_pos g3]
        · rw [if_neg g3, if_pos (show (14 : Int32) ≤ x by
            rw [Int32.le_iff_toInt_le, show (14 : Int32).toInt = 14 by decide]
            rw [Int32.lt_iff_toInt_lt, show (13 : Int32).toInt = 13 by decide] at g4
            omega)]
      rcases h3 with h3 | ⟨h3, h4⟩
      · rw [if_pos h3]; exact hb
      · rw [if_neg h3, if_neg (nle h4)]; exact hb
    · right
      refine ⟨v, Or.inr ⟨g5, g6⟩, rfl, ?_, Or.inr ⟨w_out h3, w_in g3 g4⟩⟩
      rw [if_neg (show ¬ I (v : Int) < 0 by rw [I_0, I_lt (by omega) (by omega)]; omega), if_neg (show ¬ I (v : Int) ≤ 4 by rw [I_4, I_le (by omega) (by omega)]; omega), if_neg g3, if_neg (show ¬ (14 : Int32) ≤ I (v : Int) by rw [show (14 : Int32) = I 14 by decide, I_le (by omega) (by omega)]; omega)]
  · right
    refine ⟨v, Or.inl h6, rfl, ?_, Or.inl (w_in h3 h4)⟩
    rw [if_neg h3, if_pos (yle h4)]
theorem p_season {M N : Mem} (h : Inv M N) (x1 x2 x3 x4 x5 : Int32) : Ag (f_X5_season x1 x2 x3 x4 x5 M) (f_X6_season x1 x2 x3 x4 x5 N) := by
  obtain ⟨⟨S, n, Q, Z, hr0⟩, e9⟩ := h
  have hr := Rel_fault hr0 0 0
  have h0 := Inv_fault hr0 0
  unfold f_X5_season f_X6_season
  rw [mlt_eq, mlt_eq]
  generalize mu M 0 9 0 = M at hr h0 ⊢
  generalize mu N 0 0 0 = N at hr h0 ⊢
  rcases she_cases M N x1 with ⟨h1, h2⟩ | ⟨k, hk, rfl, h1, h2⟩
  · rw [h1, h2, bd_some, bd_some, if_pos rfl, if_pos rfl]; exact Ag.mk _ h0
  rw [h1, h2, bd_some, bd_some, if_neg i10, if_neg i10]
  rcases lan_cases M N x2 with ⟨h1, h2⟩ | ⟨l, hl, rfl, h1, h2⟩
  · rw [h1, h2, bd_some, bd_some, if_pos rfl, if_pos rfl]; exact Ag.mk _ h0
  rw [h1, h2, bd_some, bd_some, if_neg i10, if_neg i10]
  rcases rg_cases x4 0 20 (l := 0) (h := 20) I_0 (by decide) (by decide) (by decide) with h3 | ⟨h3, h4, m, rfl, h5, h6⟩
  · rw [w_out h3, bd_some, if_pos rfl]
    rcases h3 with h3 | ⟨h3, h4⟩
    · rw [if_pos h3]; exact Ag.mk _ h0
    · rw [if_neg h3, if_pos h4]; exact Ag.mk _ h0
  rw [w_in h3 h4, bd_some, if_neg i10, if_neg h3, if_neg h4]
  rcases asked M N x5 with ⟨h1, h2, h7⟩ | ⟨z, hz, rfl, h1, h2⟩
  · rw [h1, h2, bd_some, bd_some, if_pos rfl, if_pos rfl, h7, bd_some, if_pos rfl]; exact Ag.mk _ h0
  have main := sea hr h0 hk hl h6 hz x3
  rcases h2 with h2 | ⟨h2, h7⟩
  · rw [h1, h2, bd_some, bd_some, if_neg i10, if_neg i10]
    exact main
  · rw [h1, h2, bd_some, bd_some, if_neg i10, if_pos rfl, h7, bd_some, if_neg i10]
    exact main

