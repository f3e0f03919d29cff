/-! ===== become; the trial street ===== -/
theorem and1 {v : Nat} (h : v ≤ 1) : I (v : Int) &&& 1 = I v := by
  rcases (show v = 0 ∨ v = 1 by omega) with rfl | rfl <;> decide
theorem q_clear (a : Nat) (M : Mem) : ∃ M', f_X3_clear a M = some ((), M') ∧ (∀ r, r ≠ a → M' r = M r) ∧ M' a 5 = 0 ∧ M' a 6 = 0 ∧ M' a 7 = 0 ∧ M' a 8 = 0 ∧ M' a 9 = 0 := by
  unfold f_X3_clear
  simp only [mlt_eq]
  refine ⟨_, rfl, fun r hr => ?_, ?_, ?_, ?_, ?_, ?_⟩
  · rw [mu_ne hr, mu_ne hr, mu_ne hr, mu_ne hr, mu_ne hr]
  · rw [mu_f (by decide), mu_f (by decide), mu_f (by decide), mu_f (by decide), mu_v]
  · rw [mu_f (by decide), mu_f (by decide), mu_f (by decide), mu_v]
  · rw [mu_f (by decide), mu_f (by decide), mu_v]
  · rw [mu_f (by decide), mu_v]
  · rw [mu_v]
theorem q_become1 {a b : Nat} (hab : a + 6 ≤ b ∨ b + 6 ≤ a) {S : St} (hS : wf S) {kx : Mem → Option (Unit × Mem)} : ∀ (n i : Nat) (M : Mem), i ≤ S.1 → S.1 - i < n → M a 5 = I S.1 → (∀ h, h < S.1 → M (b + 1) h = I (S.2.2.2 0 h) ∧ M (b + 2) h = I (S.2.2.2 1 h)) → (∀ h, h < i → M (a + 1) h = I (S.2.2.2 0 h) ∧ M (a + 2) h = I (S.2.2.2 1 h)) → ∃ M', f_X3_become_L30 a b kx n (I i) M = kx M' ∧ (∀ h, h < S.1 → M' (a + 1) h = I (S.2.2.2 0 h) ∧ M' (a + 2) h = I (S.2.2.2 1 h)) ∧ ∀ r, r ≠ a + 1 → r ≠ a + 2 → M' r = M r := by
  intro n
  induction n with
  | zero => intro i M _ h; omega
  | succ n ih =>
    intro i M hi hn h5 hb ha
    have b1 := hS.1
    rw [f_X3_become_L30, h5, t_le (by omega) (by omega)]
    by_cases h : i = S.1
    · subst h
      rw [if_pos (by omega)]
      exact ⟨M, rfl, ha, fun _ _ _ => rfl⟩
    · rw [if_neg (by omega)]
      simp only [grd_ok (show i < 6 by omega) (show 6 ≤ 1000 by decide), mlt_eq, I_succ, I_tn (show i ≤ 2000000000 by omega)]
      have hbi := hb i (by omega)
      rw [hbi.1, mu_nn (by omega), hbi.2]
      obtain ⟨M', k1, k2, k3⟩ := ih (i + 1) (mu (mu M (a + 1) i (I (S.2.2.2 0 i))) (a + 2) i (I (S.2.2.2 1 i))) (by omega) (by omega) (by rw [mu_nn (by omega), mu_nn (by omega)]; exact h5) (fun h hh => by
          rw [mu_nn (by omega), mu_nn (by omega), mu_nn (by omega), mu_nn (by omega)]; exact hb h hh) (fun h hh => by
          by_cases hq : h = i
          · subst hq
            rw [mu_nn (by omega), mu_v, mu_v]
            exact ⟨rfl, rfl⟩
          · rw [mu_nn (by omega), mu_f hq, mu_f hq, mu_nn (by omega)]
            exact ha h (by omega))
      exact ⟨M', k1, k2, fun r h1 h2 => by rw [k3 r h1 h2, mu_ne h2, mu_ne h1]⟩
theorem q_become2 {a b : Nat} (hab : a + 6 ≤ b ∨ b + 6 ≤ a) {S : St} (hS : wf S) {kx : Mem → Option (Unit × Mem)} : ∀ (n i : Nat) (M : Mem), i ≤ S.2.1 → S.2.1 - i < n → M a 6 = I S.2.1 → (∀ h, h < S.2.1 → M (b + 3) h = I (S.2.2.2 2 h) ∧ M (b + 4) h = I (S.2.2.2 3 h) ∧ M (b + 5) h = I (S.2.2.2 4 h)) → (∀ h, h < i → M (a + 3) h = I (S.2.2.2 2 h) ∧ M (a + 4) h = I (S.2.2.2 3 h) ∧ M (a + 5) h = I (S.2.2.2 4 h)) → ∃ M', f_X3_become_L70 a b kx n (I i) M = kx M' ∧ (∀ h, h < S.2.1 → M' (a + 3) h = I (S.2.2.2 2 h) ∧ M' (a + 4) h = I (S.2.2.2 3 h) ∧ M' (a + 5) h = I (S.2.2.2 4 h)) ∧ ∀ r, r ≠ a + 3 → r ≠ a + 4 → r ≠ a + 5 → M' r = M r := by
  intro n
  induction n with
  | zero => intro i M _ h; omega
  | succ n ih =>
    intro i M hi hn h5 hb ha
    have b1 := hS.2.1
    rw [f_X3_become_L70, h5, t_le (by omega) (by omega)]
    by_cases h : i = S.2.1
    · subst h
      rw [if_pos (by omega)]
      exact ⟨M, rfl, ha, fun _ _ _ _ => rfl⟩
    · rw [if_neg (by omega)]
      simp only [grd_ok (show i < 4 by omega) (show 4 ≤ 1000 by decide), mlt_eq, I_succ, I_tn (show i ≤ 2000000000 by omega)]
      have hbi := hb i (by omega)
      have hv := (hS.2.2.2.2 i (by omega)).2.2.2
      rw [hbi.1]
      rw [show mu M (a + 3) i (I (S.2.2.2 2 i)) (b + 4) i = I (S.2.2.2 3 i) by rw [mu_nn (by omega)]; exact hbi.2.1]
      rw [show mu (mu M (a + 3) i (I (S.2.2.2 2 i))) (a + 4) i (I (S.2.2.2 3 i)) (b + 5) i = I (S.2.2.2 4 i) by rw [mu_nn (by omega), mu_nn (by omega)]; exact hbi.2.2]
      rw [and1 hv]
      obtain ⟨M', k1, k2, k3⟩ := ih (i + 1) (mu (mu (mu M (a + 3) i (I (S.2.2.2 2 i))) (a + 4) i (I (S.2.2.2 3 i))) (a + 5) i (I (S.2.2.2 4 i))) (by omega) (by omega) (by rw [mu_nn (by omega), mu_nn (by omega), mu_nn (by omega)]; exact h5) (fun h hh => by
          rw [mu_ne (by omega), mu_ne (by omega), mu_ne (by omega), mu_ne (by omega), mu_ne (by omega), mu_ne (by omega), mu_ne (by omega), mu_ne (by omega), mu_ne (by omega)]; exact hb h hh) (fun h hh => by
          by_cases hq : h = i
          · subst hq
            refine ⟨?_, ?_, ?_⟩
            · rw [mu_nn (by omega), mu_nn (by omega), mu_v]
            · rw [mu_nn (by omega), mu_v]
            · rw [mu_v]
          · have := ha h (by omega)
            refine ⟨?_, ?_, ?_⟩
            · rw [mu_nn (by omega), mu_nn (by omega), mu_f hq]; exact this.1
            · rw [mu_nn (by omega), mu_f hq, mu_nn (by omega)]; exact this.2.1
            · rw [mu_f hq, mu_nn (by omega), mu_nn (by omega)]; exact this.2.2)
      exact ⟨M', k1, k2, fun r h1 h2 h3 => by rw [k3 r h1 h2 h3, mu_ne h3, mu_ne h2, mu_ne h1]⟩
/-- become: the other street's numbers, its strokes counted from 0 -/
theorem q_become {a b : Nat} (hab : a + 6 ≤ b ∨ b + 6 ≤ a) {S : St} (hS : wf S) {M : Mem} (hR : cR M b S) : ∃ M', f_X3_become a b M = some ((), M') ∧ cR M' a S ∧ (∀ r, r < a ∨ a + 6 ≤ r → M' r = M r) ∧ M' a 8 = 0 ∧ M' a 9 = 0 := by
  have b1 := hS.1
  have b2 := hS.2.1
  have b3 := FU_ge
  obtain ⟨M0, c1, c2, c5, c6, c7, c8, c9⟩ := q_clear a M
  unfold f_X3_become
  rw [c1, bd_some]
  simp only [mlt_eq]
  have e1 : M0 b = M b := c2 b (by omega)
  have e2 : mu M0 a 5 (M0 b 5) b = M b := by rw [mu_ne (by omega), e1]
  have e3 : mu (mu M0 a 5 (M0 b 5)) a 6 (mu M0 a 5 (M0 b 5) b 6) b = M b := by rw [mu_ne (by omega), e2]
  rw [e3, e2, e1, hR.1, hR.2.1, hR.2.2.1]
  generalize hG : mu (mu (mu M0 a 5 (I S.1)) a 6 (I S.2.1)) a 7 (I S.2.2.1) = G
  have g5 : G a 5 = I S.1 := by rw [← hG, mu_f (by decide), mu_f (by decide), mu_v]
  have g6 : G a 6 = I S.2.1 := by rw [← hG, mu_f (by decide), mu_v]
  have g7 : G a 7 = I S.2.2.1 := by rw [← hG, mu_v]
  have g8 : G a 8 = 0 := by rw [← hG, mu_f (by decide), mu_f (by decide), mu_f (by decide)]; exact c8
  have g9 : G a 9 = 0 := by rw [← hG, mu_f (by decide), mu_f (by decide), mu_f (by decide)]; exact c9
  have gr : ∀ r, r ≠ a → G r = M r := fun r hr => by rw [← hG, mu_ne hr, mu_ne hr, mu_ne hr, c2 r hr]
  obtain ⟨M1, k1, k2, k3⟩ := q_become1 hab hS (kx := fun M7 => f_X3_become_L70 a b (fun M11 => some ((), M11)) FU 0 M7) FU 0 G (Nat.zero_le _) (by omega) g5 (fun h hh => by rw [gr _ (by omega), gr _ (by omega)]; exact hR.2.2.2.1 h hh) (fun h hh => by omega)
  obtain ⟨M2, l1, l2, l3⟩ := q_become2 hab hS (kx := fun M11 => some ((), M11)) FU 0 M1 (Nat.zero_le _) (by omega) (by rw [k3 a (by omega) (by omega)]; exact g6) (fun h hh => by rw [k3 _ (by omega) (by omega), k3 _ (by omega) (by omega), k3 _ (by omega) (by omega), gr _ (by omega), gr _ (by omega), gr _ (by omega)]; exact hR.2.2.2.2 h hh) (fun h hh => by omega)
  refine ⟨M2, k1.trans l1, ⟨?_, ?_, ?_, fun h hh => ?_, fun h hh => l2 h hh⟩, fun r hr => ?_, ?_, ?_⟩
  · rw [l3 a (by omega) (by omega) (by omega), k3 a (by omega) (by omega)]; exact g5
  · rw [l3 a (by omega) (by omega) (by omega), k3 a (by omega) (by omega)]; exact g6
  · rw [l3 a (by omega) (by omega) (by omega), k3 a (by omega) (by omega)]; exact g7
  · rw [l3 _ (by omega) (by omega) (by omega), l3 _ (by omega) (by omega) (by omega)]; exact k2 h hh
  · rw [l3 r (by omega) (by omega) (by omega), k3 r (by omega) (by omega), gr r (by omega)]
  · rw [l3 a (by omega) (by omega) (by omega), k3 a (by omega) (by omega)]; exact g8
  · rw [l3 a (by omega) (by omega) (by omega), k3 a (by omega) (by omega)]; exact g9
/-- nights -/
def nts (S : St) : Nat → St
  | 0 => S
  | k + 1 => ng (nts S k) (nts S k).2.1
def cns (S : St) : Nat → Int32
  | 0 => 0
  | k + 1 => cns S k + cn (nts S k) (nts S k).2.1
def uns (S : St) : Nat → Int32
  | 0 => 0
  | k + 1 => uns S k + un (nts S k) (nts S k).2.1
theorem nts_1 (S : St) : ∀ i, (nts S i).1 = S.1 ∧ (nts S i).2.1 = S.2.1 ∧ (nts S i).2.2.1 = S.2.2.1 ∧ ∀ j q, j ≠ 3 → (nts S i).2.2.2 j q = S.2.2.2 j q
  | 0 => ⟨rfl, rfl, rfl, fun _ _ _ => rfl⟩
  | i + 1 => by
    obtain ⟨h1, h2, h3, h4⟩ := nts_1 S i
    obtain ⟨g1, g2, g3, g4⟩ := ng_1 (nts S i) (nts S i).2.1
    exact ⟨g1.trans h1, g2.trans h2, g3.trans h3, fun j q hj => (g4 j q hj).trans (h4 j q hj)⟩
theorem nts_wf {S : St} (hS : wf S) : ∀ i, wf (nts S i)
  | 0 => hS
  | i + 1 => ng_wf (nts_wf hS i) _ (Nat.le_refl _)
theorem q_nights {a : Nat} {S : St} (hS : wf S) {kx : Mem → Option (Unit × Mem)} {z u : Int32} {m : Nat} (hm : m ≤ 2000) : ∀ (n i : Nat) (M : Mem), i ≤ m → m - i < n → cR M a (nts S i) → M a 8 = z + cns S i → M a 9 = u + uns S i → ∃ M', f_X3_passNights_L2 a (I m) kx n (I i) M = kx M' ∧ cR M' a (nts S m) ∧ (∀ r, r ≠ a → r ≠ a + 4 → M' r = M r) ∧ M' a 8 = z + cns S m ∧ M' a 9 = u + uns S m := by
  intro n
  induction n with
  | zero => intro i M _ h; omega
  | succ n ih =>
    intro i M hi hn hR h8 h9
    have hw := nts_wf hS i
    have b2 := hw.2.1
    have b3 := FU_ge
    rw [f_X3_passNights_L2, t_le (by omega) (by omega)]
    by_cases h : i = m
    · subst h
      rw [if_pos (by omega)]
      exact ⟨M, rfl, hR, fun _ _ _ => rfl, h8, h9⟩
    · rw [if_neg (by omega)]
      obtain ⟨M1, k1, k2, k3, k4, k5⟩ := q_night hw (kx := fun M3 => f_X3_passNights_L2 a (I m) kx n (I i + 1) M3) (x1 := I m) (x2 := I i) (z := z + cns S i) (u := u + uns S i) FU 0 M (Nat.zero_le _) (by omega) hR (by rw [h8]; exact (add_0 _).symm) (by rw [h9]; exact (add_0 _).symm)
      obtain ⟨M2, l1, l2, l3, l4, l5⟩ := ih (i + 1) M1 (by omega) (by omega) k2 (by rw [k4, add_as]; rfl) (by rw [k5, add_as]; rfl)
      refine ⟨M2, ?_, l2, fun r h1 h2 => by rw [l3 r h1 h2, k3 r h1 h2], l4, l5⟩
      rw [← l1, ← I_succ]
      exact k1
theorem q_passNights {a : Nat} {S : St} (hS : wf S) {m : Nat} (hm : m ≤ 2000) {M : Mem} (hR : cR M a S) : ∃ M', f_X3_passNights a (I m) M = some ((), M') ∧ cR M' a (nts S m) ∧ (∀ r, r ≠ a → r ≠ a + 4 → M' r = M r) ∧ M' a 8 = M a 8 + cns S m ∧ M' a 9 = M a 9 + uns S m := by
  have b3 := FU_ge
  unfold f_X3_passNights
  exact q_nights hS hm (kx := fun M4 => some ((), M4)) FU 0 M (Nat.zero_le _) (by omega) hR (add_0 _).symm (add_0 _).symm
/-- the street of both changes, the rest stays -/
theorem Rel_mk {S S' : St} {n : Nat} {Q Z : Nat → Nat → Nat} {M M' N N' : Mem} (h : Rel S n Q Z M N) (hS : wf S') (e1 : S'.1 = S.1) (e2 : S'.2.1 = S.2.1) (hR : cR M' 1 S') (hN : mR N' S') (a : M' 0 8 = M 0 8) (a7 : M' 0 7 = N' 0 8) (hm : ∀ r, (15 ≤ r ∧ r < 20) ∨ (29 ≤ r ∧ r < 37) → M' r = M r) (b : N' 0 1 = N 0 1 ∧ N' 0 25 = N 0 25) (hn : ∀ r, (1 ≤ r ∧ r < 4) ∨ (13 ≤ r ∧ r < 17) → N' r = N r) : Rel S' n Q Z M' N' := by
  obtain ⟨h1, h2, h3, h4, h5, h6, h7⟩ := h
  refine ⟨⟨hS, ?_⟩, hR, hN, rdR_fr h4 (by rw [hm 15 (by omega)]) b.2 (fun r _ _ => hm r (by omega)) (fun r _ _ => hn r (by omega)) e1 e2, shR_fr h5 (fun r _ _ => hm r (by omega)) (fun r _ _ => hn r (by omega)), a7, by rw [a, b.1]; exact h7⟩
  unfold okS
  rw [e1, e2]
  exact h1.2
theorem p_stroke {M N : Mem} (h : Inv M N) (x1 : Int32) : Ag (f_X5_stroke x1 M) (f_X6_stroke x1 N) := by
  have h0 := h
  obtain ⟨⟨S, n, Q, Z, hr⟩, e9⟩ := h
  have hS := hr.1.1
  have hR := hr.2.1
  have hN := hr.2.2.1
  unfold f_X5_stroke f_X6_stroke
  rcases ck_cases hR hN hS x1 with ⟨h1, h2⟩ | ⟨k, hk, rfl, h1, h2⟩
  · rw [h1, h2, bd_some, bd_some, if_pos rfl, if_pos rfl]; exact Ag.mk _ h0
  · rw [h1, h2, bd_some, bd_some, if_neg i10, if_neg i10]
    obtain ⟨M1, k1, k2, k3, -, -⟩ := q_strike hR hS hk
    obtain ⟨N1, l1, l2, l3, l4, -, -⟩ := n_strikes hN hS hk
    rw [k1, l1, bd_some, bd_some]
    refine Ag.mk _ (Inv_of (Rel_mk hr (sk1_wf hS hk) rfl rfl k2 l2 (by rw [k3 0 (by decide) (by decide)]) ?_ (fun r hr => k3 r (by omega) (by omega)) ⟨l4 1 (by decide) (by decide), l4 25 (by decide) (by decide)⟩ (fun r hr => l3 r (by omega) (by omega))) e9 (by rw [k3 0 (by decide) (by decide)]) (l4 0 (by decide) (by decide)))
    rw [k3 0 (by decide) (by decide), l4 8 (by decide) (by decide)]
    exact hr.2.2.2.2.2.1
