/-! ===== still ===== -/
theorem I_or (a b : Nat) : I (a : Int) ||| I (b : Int) = I ((a ||| b : Nat) : Int) := by
  unfold I
  rw [Int32.ofInt_eq_ofNat, Int32.ofInt_eq_ofNat, Int32.ofInt_eq_ofNat]
  apply Int32.toBitVec_inj.1
  show BitVec.ofNat 32 a ||| BitVec.ofNat 32 b = BitVec.ofNat 32 (a ||| b)
  apply BitVec.eq_of_getLsbD_eq
  intro i hi
  simp [hi]
/-- who wakes by clock c at place p, as a number -/
def wN (S : St) (c p : Nat) : Nat := mk (fun h => if wk S h (sd S c) p then 1 else 0) S.1
theorem wN_bs {S : St} (hS : wf S) (c p : Nat) : bs (fun h => wk S h (sd S c) p) S.1 = I (wN S c p) ∧ wN S c p < 2 ^ S.1 := bs_mk S.1 hS.1
def ru (S : St) (q : Nat → Nat) : Nat → Nat
  | 0 => 0
  | i + 1 => ru S q i ||| wN S i (q i)
theorem ru_lt {S : St} (hS : wf S) (q : Nat → Nat) : ∀ i, ru S q i < 2 ^ S.1
  | 0 => Nat.two_pow_pos _
  | i + 1 => Nat.or_lt_two_pow (ru_lt hS q i) (wN_bs hS i (q i)).2
theorem ru_cg {S : St} {q q' : Nat → Nat} : ∀ i, (∀ c, c < i → q c = q' c) → ru S q i = ru S q' i
  | 0, _ => rfl
  | i + 1, h => by rw [ru, ru, ru_cg i (fun c hc => h c (by omega)), h i (by omega)]
theorem p64 {S : St} (hS : wf S) {x : Nat} (h : x < 2 ^ S.1) : x < 64 := by
  have : 2 ^ S.1 ≤ 2 ^ 6 := Nat.pow_le_pow_right (by decide) hS.1
  omega
/-- the row of number m: the last clock's house goes round first -/
def dg (H : Nat) : Nat → Nat → Nat → Nat
  | 0, _, _ => 0
  | i + 1, m, c => if c = i then m % H else dg H i (m / H) c
theorem dg_lt {H : Nat} (hH : 0 < H) : ∀ i m c, dg H i m c < H
  | 0, _, _ => hH
  | i + 1, m, c => by
    rw [dg]
    split
    · exact Nat.mod_lt _ hH
    · exact dg_lt hH i _ c
theorem dg_0 (H : Nat) : ∀ i c, dg H i 0 c = 0
  | 0, _ => rfl
  | i + 1, c => by
    rw [dg]
    split
    · exact Nat.zero_mod H
    · rw [Nat.zero_div]; exact dg_0 H i c
theorem q_step {H : Nat} (hH : 0 < H) (hH6 : H ≤ 6) : ∀ (i f m : Nat) (M : Mem), i ≤ 4 → i < f → (∀ c, c < i → M 22 c = I (dg H i m c)) → ∃ M', f_X0_stepRow_L4 (I H) (fun M4 => some ((), M4)) f (I ((i : Int) - 1)) M = some ((), M') ∧ (∀ c, c < i → M' 22 c = I (dg H i (m + 1) c)) ∧ (∀ c, i ≤ c → M' 22 c = M 22 c) ∧ ∀ r, r ≠ 22 → M' r = M r := by
  intro i
  induction i with
  | zero =>
    intro f m M _ hf _
    obtain ⟨f, rfl⟩ : ∃ k, f = k + 1 := ⟨f - 1, by omega⟩
    rw [f_X0_stepRow_L4, I_0, t_lt (by omega) (by omega), if_pos (by omega)]
    exact ⟨M, rfl, fun c hc => by omega, fun _ _ => rfl, fun _ _ => rfl⟩
  | succ i ih =>
    intro f m M hi hf hr
    obtain ⟨f, rfl⟩ : ∃ k, f = k + 1 := ⟨f - 1, by omega⟩
    have h0 := hr i (by omega)
    rw [dg, if_pos rfl] at h0
    have hlt := Nat.mod_lt m hH
    rw [f_X0_stepRow_L4, show (((i + 1 : Nat) : Int) - 1) = (i : Int) by omega, if_neg (show ¬ I (i : Int) < 0 from fun q => by rw [I_0, I_lt (by omega) (by omega)] at q; omega)]
    simp only [grd_ok (show i < 4 by omega) (show 4 ≤ 1000 by decide), I_tn (show i ≤ 2000000000 by omega), mlt_eq, h0, I_succ, mu_v]
    rw [t_le (by omega) (by omega)]
    have hm := Nat.div_add_mod m H
    have hm2 := Nat.div_add_mod (m + 1) H
    by_cases hc : H ≤ m % H + 1
    · rw [if_pos (by omega)]
      have e1 : (m + 1) % H = 0 := by
        have : m + 1 = H * (m / H + 1) := by rw [Nat.mul_add]; omega
        rw [this]
        exact Nat.mul_mod_right _ _
      have e2 : (m + 1) / H = m / H + 1 := by
        have : m + 1 = H * (m / H + 1) := by rw [Nat.mul_add]; omega
        rw [this]
        exact Nat.mul_div_cancel_left _ hH
      obtain ⟨M', k1, k2, k3, k4⟩ := ih f (m / H) (mu (mu M 22 i (I ((m % H + 1 : Nat) : Int))) 22 i 0) (by omega) (by omega) (fun c hc2 => by
        rw [mu_f (by omega), mu_f (by omega), hr c (by omega), dg, if_neg (by omega)])
      rw [show I (i : Int) + (-1 : Int32) = I ((i : Int) - 1) by rw [I_n1, I_add]; rfl]
      refine ⟨M', k1, fun c hc2 => ?_, fun c hc2 => ?_, fun r h => by rw [k4 r h, mu_ne h, mu_ne h]⟩
      · rw [dg]
        by_cases e : c = i
        · subst e
          rw [if_pos rfl, k3 c (Nat.le_refl _), mu_v, e1]
          exact I_0
        · rw [if_neg e, e2]
          exact k2 c (by omega)
      · rw [k3 c (by omega), mu_f (by omega), mu_f (by omega)]
    · rw [if_neg (by omega)]
      have e2 : (m + 1) / H = m / H := by
        have : m + 1 = (m % H + 1) + H * (m / H) := by omega
        rw [this, Nat.add_mul_div_left _ _ hH, Nat.div_eq_of_lt (by omega)]
        omega
      have e1 : (m + 1) % H = m % H + 1 := by
        rw [e2] at hm2
        omega
      refine ⟨_, rfl, fun c hc2 => ?_, fun c hc2 => mu_f (by omega), fun r h => mu_ne h⟩
      rw [dg]
      by_cases e : c = i
      · subst e
        rw [if_pos rfl, mu_v, e1]
      · rw [if_neg e, e2, mu_f e, hr c (by omega), dg, if_neg e]
theorem q_stepRow {H C m : Nat} (hH : 0 < H) (hH6 : H ≤ 6) (hC : C ≤ 4) {M : Mem} (hr : ∀ c, c < C → M 22 c = I (dg H C m c)) : ∃ M', f_X0_stepRow (I C) (I H) M = some ((), M') ∧ (∀ c, c < C → M' 22 c = I (dg H C (m + 1) c)) ∧ ∀ r, r ≠ 22 → M' r = M r := by
  have b3 := FU_ge
  unfold f_X0_stepRow
  rw [ilt_eq, I_1, I_sub]
  obtain ⟨M', k1, k2, -, k4⟩ := q_step hH hH6 C FU m M hC (by omega) hr
  exact ⟨M', k1, k2, k4⟩
theorem q_wakersOfRow {S : St} (hS : wf S) (hH : 0 < S.1) {m : Nat} {M : Mem} (hr : ∀ c, c < S.2.1 → M 22 c = I (dg S.1 S.2.1 m c)) (hw : ∀ c, c < S.2.1 → ∀ p, p < S.1 → M (gWk c) p = I (wN S c p)) : f_X0_wakersOfRow (I S.2.1) M = some (I (ru S (dg S.1 S.2.1 m) S.2.1), M) := by
  have b1 := hS.1
  have b2 := hS.2.1
  unfold f_X0_wakersOfRow
  rw [show (0 : Int32) = I ((ru S (dg S.1 S.2.1 m) 0 : Nat) : Int) from I_0]
  refine lp0 (fun n x st => f_X0_wakersOfRow_L4 (I S.2.1) (fun e3 M4 => some (e3, M4)) n st x M) (fun st => some (st, M)) S.2.1 (by omega) (fun i => I ((ru S (dg S.1 S.2.1 m) i : Nat) : Int)) (fun n i hi => ?_) (fun n => ?_)
  · try dsimp only
    have hd := dg_lt hH S.2.1 m i
    rw [f_X0_wakersOfRow_L4, t_le (by omega) (by omega), if_neg (by omega), grd_ok (by omega) (by decide), grd_ok (by omega) (by decide), I_tn (by omega), hr i hi, grd_ok (by omega) (by decide), I_tn (by omega), hw i hi _ hd, ilt_eq, I_or, I_succ, ru]
  · try dsimp only
    rw [f_X0_wakersOfRow_L4, t_le (by omega) (by omega), if_pos (by omega)]
theorem q_tab1 {S : St} (hS : wf S) {c : Nat} (hc : c < S.2.1) {x2 : Int32} {kx : Mem → Option (Int32 × Mem)} : ∀ (f i : Nat) (M : Mem), i ≤ S.1 → S.1 - i < f → cR M 1 S → (∀ p, p < i → M (gWk c) p = I (wN S c p)) → ∃ M', f_X0_findStillest_L29 1 x2 (I c) kx f (I i) M = kx M' ∧ (∀ p, p < S.1 → M' (gWk c) p = I (wN S c p)) ∧ ∀ r, r ≠ gWk c → M' r = M r := by
  have b1 := hS.1
  have b2 := hS.2.1
  have ec : gWk c = 24 + c := rfl
  intro f
  induction f with
  | zero => intro i M _ h; omega
  | succ f ih =>
    intro i M hi hf hR hp
    rw [f_X0_findStillest_L29, hR.1, t_le (by omega) (by omega)]
    by_cases e : i = S.1
    · rw [if_pos (by omega)]
      exact ⟨M, rfl, fun p h => hp p (by omega), fun _ _ => rfl⟩
    · rw [if_neg (by omega), grd_ok (by omega) (by decide), q_wakers hR hS hc (by omega), bd_some, grd_ok (by omega) (by decide), mlt_eq, I_tn (by omega), I_tn (by omega), (wN_bs hS c i).1, I_succ]
      obtain ⟨M', k1, k2, k3⟩ := ih (i + 1) (mu M (gWk c) i (I (wN S c i))) (by omega) (by omega) (cR_fr hR ⟨mu_nn (by omega), mu_nn (by omega), mu_nn (by omega)⟩ (fun r h1 h2 => mu_ne (by omega))) (fun p h => by
        by_cases e2 : p = i
        · subst e2; rw [mu_v]
        · rw [mu_f e2]; exact hp p (by omega))
      exact ⟨M', k1, k2, fun r h => by rw [k3 r h, mu_ne h]⟩
theorem q_tab {S : St} (hS : wf S) {kx : Int32 → Mem → Option (Int32 × Mem)} : ∀ (f i : Nat) (M : Mem), i ≤ S.2.1 → S.2.1 - i < f → cR M 1 S → (∀ c, c < i → M 22 c = 0 ∧ ∀ p, p < S.1 → M (gWk c) p = I (wN S c p)) → ∃ M', f_X0_findStillest_L4 1 kx f (I ((S.1 ^ i : Nat) : Int)) (I i) M = kx (I ((S.1 ^ S.2.1 : Nat) : Int)) M' ∧ cR M' 1 S ∧ (∀ c, c < S.2.1 → M' 22 c = 0 ∧ ∀ p, p < S.1 → M' (gWk c) p = I (wN S c p)) ∧ ∀ r, r < 22 ∨ 28 ≤ r → M' r = M r := by
  have b1 := hS.1
  have b2 := hS.2.1
  have b3 := FU_ge
  intro f
  induction f with
  | zero => intro i M _ h; omega
  | succ f ih =>
    intro i M hi hf hR hp
    rw [f_X0_findStillest_L4, hR.2.1, t_le (by omega) (by omega)]
    by_cases e : i = S.2.1
    · rw [if_pos (by omega), e]
      refine ⟨M, rfl, hR, fun c h => hp c (by omega), fun _ _ => rfl⟩
    · have ei : gWk i = 24 + i := rfl
      rw [if_neg (by omega), ilt_eq, grd_ok (by omega) (by decide), mlt_eq, I_tn (by omega), hR.1, I_mul, show (((S.1 ^ i : Nat) : Int) * (S.1 : Int)) = ((S.1 ^ (i + 1) : Nat) : Int) by rw [Nat.pow_succ, Int.natCast_mul]]
      have hR1 : cR (mu M 22 i 0) 1 S := cR_fr hR ⟨mu_nn (by omega), mu_nn (by omega), mu_nn (by omega)⟩ (fun r h1 h2 => mu_ne (by omega))
      obtain ⟨M1, k1, k2, k3⟩ := q_tab1 hS (c := i) (by omega) (x2 := I ((S.1 ^ (i + 1) : Nat) : Int)) (kx := fun M7 => f_X0_findStillest_L4 1 kx f (I ((S.1 ^ (i + 1) : Nat) : Int)) (I (i : Int) + 1) M7) FU 0 (mu M 22 i 0) (Nat.zero_le _) (by omega) hR1 (fun p h => by omega)
      have hR2 : cR M1 1 S := cR_fr hR1 (by rw [k3 1 (by omega)]; exact ⟨rfl, rfl, rfl⟩) (fun r h1 h2 => k3 r (by omega))
      obtain ⟨M2, l1, l2, l3, l4⟩ := ih (i + 1) M1 (by omega) (by omega) hR2 (fun c h => by
        have ec : gWk c = 24 + c := rfl
        by_cases e2 : c = i
        · subst e2
          refine ⟨?_, fun p hp2 => k2 p hp2⟩
          rw [k3 22 (by omega), mu_v]
        · obtain ⟨g1, g2⟩ := hp c (by omega)
          refine ⟨?_, fun p hp2 => ?_⟩
          · rw [k3 22 (by omega), mu_f e2]; exact g1
          · rw [k3 (gWk c) (by omega), mu_nn (by omega)]; exact g2 p hp2)
      refine ⟨M2, ?_, l2, l3, fun r h => by rw [l4 r h, k3 r (by omega), mu_ne (by omega)]⟩
      rw [← l1, ← I_succ]
      exact k1
/-- the best row's number and how many wake by it, among the first k -/
def pcS (S : St) (k : Nat) : Nat := pcb 6 (ru S (dg S.1 S.2.1 k) S.2.1)
def bst (S : St) : Nat → Nat × Nat
  | 0 => (0, S.1 + 1)
  | k + 1 => if (bst S k).2 ≤ pcS S k then bst S k else (k, pcS S k)
theorem pcb_le : ∀ H, H ≤ 6 → ∀ m, m < 64 → m < 2 ^ H → pcb 6 m ≤ H := by decide +kernel
theorem pcS_le {S : St} (hS : wf S) (k : Nat) : pcS S k ≤ S.1 := pcb_le S.1 hS.1 _ (p64 hS (ru_lt hS _ _)) (ru_lt hS _ _)
theorem bst_le {S : St} (hS : wf S) : ∀ k, (bst S k).2 ≤ S.1 + 1
  | 0 => Nat.le_refl _
  | k + 1 => by
    have h1 := bst_le hS k
    have h2 := pcS_le hS k
    rw [bst]
    split
    · exact h1
    · show pcS S k ≤ _; omega
theorem bst_lt (S : St) : ∀ k, 0 < k → (bst S k).1 < k
  | 0, h => by omega
  | k + 1, _ => by
    rw [bst]
    split
    · rcases Nat.eq_zero_or_pos k with h | h
      · subst h; simp [bst]
      · have := bst_lt S k h; omega
    · show k < k + 1; omega
theorem q_best {S : St} (hS : wf S) (hH : 0 < S.1) {R : Nat} (hR6 : R ≤ 2000) : ∀ (f k : Nat) (M : Mem), k ≤ R → R - k < f → cR M 1 S → (∀ c, c < S.2.1 → M 22 c = I (dg S.1 S.2.1 k c)) → (∀ c, c < S.2.1 → ∀ p, p < S.1 → M (gWk c) p = I (wN S c p)) → (0 < k → ∀ c, c < S.2.1 → M 21 c = I (dg S.1 S.2.1 (bst S k).1 c)) → ∃ M', f_X0_findStillest_L76 1 (I R) (fun e18 M19 => some (e18, M19)) f (I (bst S k).2) (I k) M = some (I (bst S R).2, M') ∧ (0 < R → ∀ c, c < S.2.1 → M' 21 c = I (dg S.1 S.2.1 (bst S R).1 c)) ∧ ∀ r, r ≠ 21 → r ≠ 22 → M' r = M r := by
  have b1 := hS.1
  have b2 := hS.2.1
  intro f
  induction f with
  | zero => intro i M _ h; omega
  | succ f ih =>
    intro k M hk hf hR hr hw hb
    rw [f_X0_findStillest_L76, t_le (by omega) (by omega)]
    by_cases e : k = R
    · rw [if_pos (by omega), e]
      exact ⟨M, rfl, fun h => by rw [← e]; exact hb (by omega), fun _ _ _ => rfl⟩
    · have hlt := bst_le hS k
      have hpl := pcS_le hS k
      have h64 := p64 hS (ru_lt hS (dg S.1 S.2.1 k) S.2.1)
      rw [if_neg (by omega), hR.2.1, q_wakersOfRow hS hH hr hw, bd_some, q_bitCount h64, bd_some, show pcb 6 (ru S (dg S.1 S.2.1 k) S.2.1) = pcS S k from rfl, t_le (by omega) (by omega), hR.2.1, hR.1, I_succ]
      have hstep : ∀ (M1 : Mem), (∀ r, r ≠ 21 → M1 r = M r) → (∀ c, c < S.2.1 → M1 21 c = I (dg S.1 S.2.1 (bst S (k + 1)).1 c)) → ∃ M', (bd (f_X0_stepRow (I S.2.1) (I S.1) M1) fun _ M15 => f_X0_findStillest_L76 1 (I R) (fun e18 M19 => some (e18, M19)) f (I (bst S (k + 1)).2) (I ((k + 1 : Nat) : Int)) M15) = some (I (bst S R).2, M') ∧ (0 < R → ∀ c, c < S.2.1 → M' 21 c = I (dg S.1 S.2.1 (bst S R).1 c)) ∧ ∀ r, r ≠ 21 → r ≠ 22 → M' r = M r := fun M1 g1 g2 => by
        obtain ⟨M2, s1, s2, s3⟩ := q_stepRow hH b1 b2 (m := k) (M := M1) (fun c hc => by rw [g1 22 (by decide)]; exact hr c hc)
        rw [s1, bd_some]
        obtain ⟨M3, t1, t2, t3⟩ := ih (k + 1) M2 (by omega) (by omega) (cR_fr hR (by rw [s3 1 (by decide), g1 1 (by decide)]; exact ⟨rfl, rfl, rfl⟩) (fun r h1 h2 => by rw [s3 r (by omega), g1 r (by omega)])) s2 (fun c hc p hp => by
          have ec : gWk c = 24 + c := rfl
          rw [s3 _ (by omega), g1 _ (by omega)]; exact hw c hc p hp) (fun _ c hc => by rw [s3 21 (by decide)]; exact g2 c hc)
        exact ⟨M3, t1, t2, fun r h1 h2 => by rw [t3 r h1 h2, s3 r h2, g1 r h1]⟩
      by_cases hc : (bst S k).2 ≤ pcS S k
      · have hbk : bst S (k + 1) = bst S k := by rw [bst, if_pos hc]
        rw [if_pos (by omega)]
        have := hstep M (fun _ _ => rfl) (fun c h => by
          rw [hbk]
          refine hb ?_ c h
          rcases Nat.eq_zero_or_pos k with z | z
          · subst z
            have : (bst S 0).2 = S.1 + 1 := rfl
            omega
          · exact z)
        rw [hbk] at this
        exact this
      · have hbk : bst S (k + 1) = (k, pcS S k) := by rw [bst, if_neg hc]
        rw [if_neg (by omega)]
        unfold cpk
        rw [show (0 : Int32).toNatClampNeg = 0 from rfl, I_tn (by omega), if_pos ⟨⟨by decide, by decide, by rw [I_0, I_lt (by omega) (by omega)]; omega⟩, by omega, by omega⟩, mlt_eq]
        have e1 : mset M 21 (va_cpy (M 22) (M 21) 0 0 S.2.1) 1 = M 1 := mset_ne _ _ (by decide)
        rw [e1, hR.2.1, hR.1]
        have := hstep (mset M 21 (va_cpy (M 22) (M 21) 0 0 S.2.1)) (fun r h => mset_ne _ _ h) (fun c h => by
          rw [mset_eq, hbk]
          unfold va_cpy
          rw [if_pos (by omega), Nat.zero_add, Nat.sub_zero]
          exact hr c h)
        rw [hbk] at this
        exact this
theorem q_find {S : St} (hS : wf S) (hH : 0 < S.1) {M : Mem} (hR : cR M 1 S) : ∃ M', f_X0_findStillest 1 M = some (I (bst S (S.1 ^ S.2.1)).2, M') ∧ (∀ c, c < S.2.1 → M' 21 c = I (dg S.1 S.2.1 (bst S (S.1 ^ S.2.1)).1 c)) ∧ ∀ r, r < 21 ∨ 28 ≤ r → M' r = M r := by
  have b1 := hS.1
  have b2 := hS.2.1
  have b3 := FU_ge
  have hpw : S.1 ^ S.2.1 ≤ 1296 := by
    have h1 : S.1 ^ S.2.1 ≤ 6 ^ S.2.1 := Nat.pow_le_pow_left b1 _
    have h2 : 6 ^ S.2.1 ≤ 6 ^ 4 := Nat.pow_le_pow_right (by decide) b2
    omega
  unfold f_X0_findStillest
  obtain ⟨M1, k1, k2, k3, k4⟩ := q_tab hS (kx := fun e8 M9 => ilt ((M9 1 5) + (1 : Int32)) (fun x_10 => f_X0_findStillest_L76 1 e8 (fun e18 M19 => some (e18, M19)) FU x_10 (0 : Int32) M9)) FU 0 M (Nat.zero_le _) (by omega) hR (fun c h => by omega)
  obtain ⟨M2, l1, l2, l3⟩ := q_best hS hH (R := S.1 ^ S.2.1) (by omega) FU 0 M1 (Nat.zero_le _) (by omega) k2 (fun c hc => by rw [(k3 c hc).1, dg_0]; exact I_0) (fun c hc => (k3 c hc).2) (fun h => by omega)
  refine ⟨M2, ?_, l2 (Nat.pow_pos hH), fun r h => by rw [l3 r (by omega) (by omega), k4 r (by omega)]⟩
  refine Eq.trans k1 ?_
  rw [ilt_eq, k2.1, I_succ]
  exact l1
theorem n_by {S : St} (hS : wf S) (hH : 0 < S.1) {kx : Int32 → Mem → Option (Int32 × Mem)} : ∀ (i f m acc : Nat) (N : Mem), i ≤ S.2.1 → i < f → m ≤ 100000 → mR N S → ∃ N', f_X6_wakersBy_L12 kx f (I m) (I acc) (I ((i : Int) - 1)) N = kx (I ((acc ||| ru S (dg S.1 i m) i : Nat) : Int)) N' ∧ (∀ c, c < i → N' 12 c = I (dg S.1 i m c)) ∧ (∀ c, i ≤ c → N' 12 c = N 12 c) ∧ ∀ r, r ≠ 12 → N' r = N r := by
  have b1 := hS.1
  have b2 := hS.2.1
  intro i
  induction i with
  | zero =>
    intro f m acc N _ hf _ hR
    obtain ⟨f, rfl⟩ : ∃ k, f = k + 1 := ⟨f - 1, by omega⟩
    rw [f_X6_wakersBy_L12, I_0, t_lt (by omega) (by omega), if_pos (by omega)]
    refine ⟨N, ?_, fun c h => by omega, fun _ _ => rfl, fun _ _ => rfl⟩
    rw [ru, Nat.or_zero]
  | succ i ih =>
    intro f m acc N hi hf hm hR
    obtain ⟨f, rfl⟩ : ∃ k, f = k + 1 := ⟨f - 1, by omega⟩
    have hlt := Nat.mod_lt m hH
    have hdl := Nat.div_le_self m S.1
    have hne : ¬ I (S.1 : Int) = 0 := fun q => by rw [I_0, I_eq (by omega) (by omega)] at q; omega
    rw [f_X6_wakersBy_L12, show (((i + 1 : Nat) : Int) - 1) = (i : Int) by omega, if_neg (show ¬ I (i : Int) < 0 from fun q => by rw [I_0, I_lt (by omega) (by omega)] at q; omega), hR.1]
    unfold dvc
    have hR2 : mR (mu N 12 i (I ((m % S.1 : Nat) : Int))) S := mR_fr hR ⟨mu_nn (by decide), mu_nn (by decide), mu_nn (by decide), mu_nn (by decide)⟩ (fun r h1 h2 => mu_ne (by omega))
    rw [if_neg hne, grd_ok (by omega) (by decide), mlt_eq, I_tn (by omega), I_mod (by omega) (by omega), hR2.1, if_neg hne, ilt_eq, I_div (by omega) (by omega), grd_ok (by omega) (by decide), mu_v, n_wakersOf hR2 hS (by omega) (by omega), bd_some, ilt_eq, (wN_bs hS i (m % S.1)).1, I_or, show I (i : Int) + (-1 : Int32) = I ((i : Int) - 1) by rw [I_n1, I_add]; rfl]
    obtain ⟨N', k1, k2, k3, k4⟩ := ih f (m / S.1) (acc ||| wN S i (m % S.1)) _ (by omega) (by omega) (by omega) hR2
    refine ⟨N', ?_, fun c hc => ?_, fun c hc => by rw [k3 c (by omega), mu_f (by omega)], fun r h => by rw [k4 r h, mu_ne h]⟩
    · rw [k1]
      congr 3
      rw [ru]
      have e1 : ru S (dg S.1 (i + 1) m) i = ru S (dg S.1 i (m / S.1)) i := ru_cg i (fun c hc => by rw [dg, if_neg (by omega)])
      have e2 : dg S.1 (i + 1) m i = m % S.1 := by rw [dg, if_pos rfl]
      rw [e1, e2, Nat.or_assoc, Nat.or_comm (wN S i (m % S.1))]
    · rw [dg]
      by_cases e : c = i
      · subst e
        rw [if_pos rfl, k3 c (Nat.le_refl _), mu_v]
      · rw [if_neg e]
        exact k2 c (by omega)
theorem n_wakersBy {S : St} (hS : wf S) (hH : 0 < S.1) {m : Nat} (hm : m ≤ 100000) {N : Mem} (hR : mR N S) : ∃ N', f_X6_wakersBy (I m) N = some (I ((ru S (dg S.1 S.2.1 m) S.2.1 : Nat) : Int), N') ∧ (∀ c, c < S.2.1 → N' 12 c = I (dg S.1 S.2.1 m c)) ∧ ∀ r, r ≠ 12 → N' r = N r := by
  have b2 := hS.2.1
  have b3 := FU_ge
  unfold f_X6_wakersBy
  rw [ilt_eq, hR.2.1, I_1, I_sub]
  obtain ⟨N', k1, k2, -, k4⟩ := n_by hS hH (kx := fun e7 M8 => some (e7, M8)) S.2.1 FU m 0 N (Nat.le_refl _) (by omega) hm hR
  rw [Nat.zero_or] at k1
  exact ⟨N', k1, k2, k4⟩
theorem n_pow {S : St} (hS : wf S) {N : Mem} (hR : mR N S) {x1 : Int32} {kx : Int32 → Mem → Option (Int32 × Mem)} : f_X6_still_L26 x1 kx FU 1 0 N = kx (I ((S.1 ^ S.2.1 : Nat) : Int)) N := by
  have b2 := hS.2.1
  rw [show (1 : Int32) = I ((S.1 ^ 0 : Nat) : Int) from I_1]
  refine lp0 (fun n x st => f_X6_still_L26 x1 kx n st x N) (fun st => kx st N) S.2.1 (by omega) (fun i => I ((S.1 ^ i : Nat) : Int)) (fun n i hi => ?_) (fun n => ?_)
  · try dsimp only
    rw [f_X6_still_L26, hR.2.1, t_le (by omega) (by omega), if_neg (by omega), ilt_eq, hR.1, I_mul, show (((S.1 ^ i : Nat) : Int) * (S.1 : Int)) = ((S.1 ^ (i + 1) : Nat) : Int) by rw [Nat.pow_succ, Int.natCast_mul], I_succ]
  · try dsimp only
    rw [f_X6_still_L26, hR.2.1, t_le (by omega) (by omega), if_pos (by omega)]
theorem n_best {S : St} (hS : wf S) (hH : 0 < S.1) {x1 : Int32} {kx : Int32 → Int32 → Mem → Option (Int32 × Mem)} {R : Nat} (hR6 : R ≤ 2000) (hR0 : 0 < R) : ∀ (f k : Nat) (N : Mem), k ≤ R → R - k < f → mR N S → ∃ N', f_X6_still_L56 x1 (I R) kx f (if k = 0 then (-9 : Int32) else I (bst S k).1) (if k = 0 then 0 else I (bst S k).2) (I k) N = kx (I (bst S R).1) (I (bst S R).2) N' ∧ ∀ r, r ≠ 12 → N' r = N r := by
  have b1 := hS.1
  intro f
  induction f with
  | zero => intro i M _ h; omega
  | succ f ih =>
    intro k N hk hf hR
    rw [f_X6_still_L56, t_le (by omega) (by omega)]
    by_cases e : k = R
    · rw [if_pos (by omega), if_neg (by omega), if_neg (by omega), e]
      exact ⟨N, rfl, fun _ _ => rfl⟩
    · have hlt := bst_le hS k
      have hpl := pcS_le hS k
      obtain ⟨N1, k1, k2, k3⟩ := n_wakersBy hS hH (m := k) (by omega) hR
      have hR1 : mR N1 S := mR_fr hR (by rw [k3 0 (by decide)]; exact ⟨rfl, rfl, rfl, rfl⟩) (fun r h1 h2 => k3 r (by omega))
      obtain ⟨N2, l1, l2⟩ := ih (k + 1) N1 (by omega) (by omega) hR1
      rw [if_neg (show ¬ k + 1 = 0 by omega), if_neg (show ¬ k + 1 = 0 by omega)] at l1
      refine ⟨N2, ?_, fun r h => by rw [l2 r h, k3 r h]⟩
      rw [if_neg (by omega), k1, bd_some, n_size (p64 hS (ru_lt hS _ _)), bd_some, show pcb 6 (ru S (dg S.1 S.2.1 k) S.2.1) = pcS S k from rfl, I_succ, ← l1, bst]
      by_cases z : k = 0
      · subst z
        have : (bst S 0).2 = S.1 + 1 := rfl
        rw [if_pos rfl, if_pos rfl, if_neg (show ¬ (bst S 0).2 ≤ pcS S 0 by omega)]
      · have hb := bst_lt S k (by omega)
        rw [if_neg z, if_neg z, if_neg (show ¬ I ((bst S k).1 : Int) = -9 from fun q => by rw [I_n9, I_eq (by omega) (by omega)] at q; omega), t_le (by omega) (by omega)]
        by_cases hc : (bst S k).2 ≤ pcS S k
        · rw [if_pos (by omega), if_pos hc]
        · rw [if_neg (by omega), if_neg hc]
theorem p_still {M N : Mem} (h : Inv M N) (x1 : Int32) : Ag (f_X5_still x1 M) (f_X6_still x1 N) := by
  have h0 := h
  obtain ⟨⟨S, n, Q, Z, hr⟩, e9⟩ := h
  have hS := hr.1.1
  have hR := hr.2.1
  have hN := hr.2.2.1
  have b1 := hS.1
  have b2 := hS.2.1
  have b3 := FU_ge
  unfold f_X5_still f_X6_still
  have hrg : (x1 < -1 ∨ (¬ x1 < -1 ∧ (3 : Int32) < x1)) ∨ (¬ x1 < -1 ∧ ¬ (3 : Int32) < x1 ∧ ∃ z : Int, x1 = I z ∧ -1 ≤ z ∧ z ≤ 3) := by
    by_cases g1 : x1 < -1
    · exact Or.inl (Or.inl g1)
    · by_cases g2 : (3 : Int32) < x1
      · exact Or.inl (Or.inr ⟨g1, g2⟩)
      · refine Or.inr ⟨g1, g2, x1.toInt, (Int32.ofInt_toInt x1).symm, ?_, ?_⟩
        · rw [Int32.lt_iff_toInt_lt, show (-1 : Int32).toInt = -1 by decide] at g1; omega
        · rw [Int32.lt_iff_toInt_lt, show (3 : Int32).toInt = 3 by decide] at g2; omega
  rcases hrg with h3 | ⟨h3, h4, z, rfl, h5, h6⟩
  · rw [w_out h3, bd_some, if_pos rfl]
    rcases h3 with h3 | ⟨h3, h4⟩
    · rw [if_pos h3]; exact Ag.mk _ h0
    · rw [if_neg h3, if_neg (show ¬ x1 < 4 from fun q => by
        rw [Int32.lt_iff_toInt_lt, show (4 : Int32).toInt = 4 by decide] at q
        rw [Int32.lt_iff_toInt_lt, show (3 : Int32).toInt = 3 by decide] at h4
        omega)]; exact Ag.mk _ h0
  rw [w_in h3 h4, bd_some, if_neg i10, if_neg h3, if_pos (show I z < 4 by rw [I_4, I_lt (by omega) (by omega)]; omega), c_stands hR hS, bd_some]
  by_cases hz : S.1 = 0
  · rw [if_pos hz, if_pos rfl, if_pos ((m_stands hN hS).mpr hz)]; exact Ag.mk _ h0
  have hH : 0 < S.1 := by omega
  have hpw : S.1 ^ S.2.1 ≤ 1296 := by
    have h1 : S.1 ^ S.2.1 ≤ 6 ^ S.2.1 := Nat.pow_le_pow_left b1 _
    have h2 : 6 ^ S.2.1 ≤ 6 ^ 4 := Nat.pow_le_pow_right (by decide) b2
    omega
  have hpp : 0 < S.1 ^ S.2.1 := Nat.pow_pos hH
  rw [if_neg hz, if_neg i10, if_neg (fun q => hz ((m_stands hN hS).mp q)), n_pow hS hN, hR.2.1]
  obtain ⟨N1, c1, c2⟩ := n_best hS hH (x1 := I z) (kx := fun e10 e11 M12 => if I z = (-1 : Int32) then (some (e11, M12)) else (bd (f_X6_wakersBy e10 M12) (fun r14 M13 => bd (f_X6_isClock (I z) M13) (fun r16 M15 => if r16 = 0 then (some ((-9 : Int32), M15)) else (grd (I z) 4 (some ((M15 12 (I z).toNatClampNeg), M15))))))) (R := S.1 ^ S.2.1) (by omega) hpp FU 0 N (Nat.zero_le _) (by omega) hN
  rw [if_pos rfl, if_pos rfl] at c1
  have c1' : f_X6_still_L56 (I z) (I ((S.1 ^ S.2.1 : Nat) : Int)) (fun e10 e11 M12 => if I z = (-1 : Int32) then (some (e11, M12)) else (bd (f_X6_wakersBy e10 M12) (fun r14 M13 => bd (f_X6_isClock (I z) M13) (fun r16 M15 => if r16 = 0 then (some ((-9 : Int32), M15)) else (grd (I z) 4 (some ((M15 12 (I z).toNatClampNeg), M15))))))) FU (-9) 0 0 N = _ := c1
  rw [c1']
  have hN1 : mR N1 S := mR_fr hN (by rw [c2 0 (by decide)]; exact ⟨rfl, rfl, rfl, rfl⟩) (fun r h1 h2 => c2 r (by omega))
  have hbl := bst_lt S (S.1 ^ S.2.1) hpp
  obtain ⟨N2, d1, d2, d3⟩ := n_wakersBy hS hH (m := (bst S (S.1 ^ S.2.1)).1) (by omega) hN1
  obtain ⟨M1, k1, k2, k3⟩ := q_find hS hH hR
  have finM : ∀ N', (∀ r, r ≠ 12 → N' r = N r) → Inv M1 N' := fun N' hn => by
    exact Inv_of (Rel_fr hr (by rw [k3 0 (by omega)]; exact ⟨rfl, rfl⟩) (fun r h1 => k3 r (by omega)) (by rw [hn 0 (by decide)]; exact ⟨rfl, rfl, rfl, rfl, rfl, rfl, rfl⟩) (fun r h1 => hn r (by omega))) e9 (by rw [k3 0 (by omega)]) (by rw [hn 0 (by decide)])
  have finM0 : ∀ N', (∀ r, r ≠ 12 → N' r = N r) → Inv M N' := fun N' hn => by
    exact Inv_of (Rel_fr hr ⟨rfl, rfl⟩ (fun _ _ => rfl) (by rw [hn 0 (by decide)]; exact ⟨rfl, rfl, rfl, rfl, rfl, rfl, rfl⟩) (fun r h1 => hn r (by omega))) e9 rfl (by rw [hn 0 (by decide)])
  have n2 : ∀ r, r ≠ 12 → N2 r = N r := fun r h => by rw [d3 r h, c2 r h]
  have hN2 : mR N2 S := mR_fr hN1 (by rw [d3 0 (by decide)]; exact ⟨rfl, rfl, rfl, rfl⟩) (fun r h1 h2 => d3 r (by omega))
  rw [t_lt (by omega) (by omega)]
  by_cases hm1 : z = -1
  · subst hm1
    rw [if_pos (by omega), k1, bd_some, if_neg (show ¬ (0 : Int32) ≤ I (-1) by decide), if_pos (show I (-1) = -1 by decide)]
    exact Ag.mk _ (finM N1 c2)
  · obtain ⟨j, rfl⟩ : ∃ j : Nat, z = j := ⟨z.toNat, by omega⟩
    rw [if_neg (show ¬ I (j : Int) = -1 from fun q => by rw [I_n1, I_eq (by omega) (by omega)] at q; omega), d1, bd_some]
    have hic : f_X6_isClock (I j) N2 = some (if j < S.2.1 then 1 else 0, N2) := by
      unfold f_X6_isClock
      rw [hN2.2.1, I_0, t_lt (by omega) (by omega), if_neg (by omega), t_le (by omega) (by omega)]
      by_cases q : j < S.2.1
      · rw [if_neg (by omega), if_pos q]
      · rw [if_pos (by omega), if_neg q]
    rw [hic, bd_some]
    by_cases q : j < S.2.1
    · rw [if_pos (by omega), if_pos q, if_neg i10, k1, bd_some, if_pos (show (0 : Int32) ≤ I (j : Int) by rw [I_0, I_le (by omega) (by omega)]; omega), grd_ok (by omega) (by decide), grd_ok (by omega) (by decide), I_tn (by omega), k2 j q, d2 j q]
      exact Ag.mk _ (finM N2 n2)
    · rw [if_neg (by omega), if_neg q, if_pos rfl]
      exact Ag.mk _ (finM0 N2 n2)
