/-! ===== round; the first theorem is out of kit/laws/COUNTS.to-paste ===== -/
theorem fb_holes : ∀ (m n : Nat) (f : Nat → Nat), (∀ i, i < n → f i < m) → (∀ i j, i < j → j < n → f i ≠ f j) → n ≤ m := by
  intro m
  induction m with
  | zero =>
    intro n f h1 _
    rcases Nat.eq_zero_or_pos n with h | h
    · omega
    · exact absurd (h1 0 h) (Nat.not_lt_zero _)
  | succ m ih =>
    intro n f h1 h2
    by_cases hx : ∃ i, i < n ∧ f i = m
    · obtain ⟨a, ha, hfa⟩ := hx
      have hg := ih (n - 1) (fun i => if i < a then f i else f (i + 1)) (by
        intro i hi
        by_cases q : i < a
        · simp only [if_pos q]
          have b1 := h1 i (by omega)
          have b2 := h2 i a q ha
          omega
        · simp only [if_neg q]
          have b1 := h1 (i + 1) (by omega)
          have b2 := h2 a (i + 1) (by omega) (by omega)
          omega) (by
        intro i j hij hj
        by_cases q : i < a
        · by_cases r : j < a
          · simp only [if_pos q, if_pos r]
            exact h2 i j hij (by omega)
          · simp only [if_pos q, if_neg r]
            exact h2 i (j + 1) (by omega) (by omega)
        · have r : ¬ j < a := by omega
          simp only [if_neg q, if_neg r]
          exact h2 (i + 1) (j + 1) (by omega) (by omega))
      omega
    · have hg := ih n f (fun i hi => by
        have b1 := h1 i hi
        have b2 : f i ≠ m := fun e => hx ⟨i, hi, e⟩
        omega) h2
      omega
/-- where clock c comes from place p by its stroke -/
def nf (S : St) (c p : Nat) : Nat := if own S (sd S c) p = -9 then p else (own S (sd S c) p).toNat
def it (S : St) (c p : Nat) : Nat → Nat
  | 0 => p
  | k + 1 => nf S c (it S c p k)
theorem nf_lt {S : St} (hS : wf S) {c p : Nat} (hc : c < S.2.1) (hp : p < S.1) : nf S c p < S.1 := by
  have b1 := hS.1
  unfold nf
  split
  · exact hp
  · rename_i h
    rcases own_cases hS hc (p := p) (by omega) with h1 | ⟨b, h1, h2⟩
    · exact absurd h1 h
    · rw [h2]; simpa using h1
theorem it_lt {S : St} (hS : wf S) {c p : Nat} (hc : c < S.2.1) (hp : p < S.1) : ∀ k, it S c p k < S.1
  | 0 => hp
  | k + 1 => nf_lt hS hc (it_lt hS hc hp k)
theorem it_add (S : St) (c p : Nat) (a : Nat) : ∀ b, it S c p (a + b) = it S c (it S c p a) b
  | 0 => rfl
  | b + 1 => by
    show nf S c (it S c p (a + b)) = nf S c (it S c (it S c p a) b)
    rw [it_add S c p a b]
theorem q_after {M : Mem} {a : Nat} {S : St} (hR : cR M a S) (hS : wf S) {c p : Nat} (hc : c < S.2.1) (hp : p < S.1) : f_X3_placeAfterStroke a (I c) (I p) M = some (I (nf S c p), M) := by
  have b1 := hS.1
  unfold f_X3_placeAfterStroke nf
  rw [q_owner hR hS hc (by omega), bd_some, I_n9]
  rcases own_cases hS hc (p := p) (by omega) with h | ⟨b, hb, h⟩
  · rw [h, if_pos rfl, if_pos rfl]
  · rw [h, t_eq (by omega) (by omega), if_neg (by omega), if_neg (by omega)]
    rfl
theorem n_next {N : Mem} {S : St} (hR : mR N S) (hS : wf S) {c p : Nat} (hc : c < S.2.1) (hp : p < S.1) : f_X6_nextFrom (I c) (I p) N = some (I (nf S c p), N) := by
  have b1 := hS.1
  unfold f_X6_nextFrom nf
  rw [n_ownerFrom hR hS hc (by omega), bd_some, I_n9]
  rcases own_cases hS hc (p := p) (by omega) with h | ⟨b, hb, h⟩
  · rw [h, if_pos rfl, if_pos rfl]
  · rw [h, t_eq (by omega) (by omega), if_neg (by omega), if_neg (by omega)]
    rfl
/-- the first s are apart -/
def dsj (x : Nat → Nat) (s : Nat) : Prop := ∀ i j, i < j → j < s → x i ≠ x j
theorem q_round {S : St} (hS : wf S) {c p : Nat} (hc : c < S.2.1) (hp : p < S.1) {x2 : Int32} {kx : Int32 → Int32 → Mem → Option (Int32 × Mem)} : ∀ (f s : Nat) (M : Mem), s ≤ 6 → 6 - s < f → cR M 1 S → dsj (it S c p) s → (∀ t, t < s → M 37 (it S c p t) = I t) → (∀ q, q < 6 → (∀ t, t < s → it S c p t ≠ q) → M 37 q = -9) → ∃ (s' t : Nat) (M' : Mem), s' ≤ 6 ∧ t < s' ∧ dsj (it S c p) s' ∧ it S c p s' = it S c p t ∧ f_X5_round_L47 (I c) x2 kx f (I (it S c p s)) (I s) M = kx (I (it S c p s')) (I s') M' ∧ M' 37 (it S c p s') = I t ∧ ∀ r, r ≠ 37 → M' r = M r := by
  have b1 := hS.1
  intro f
  induction f with
  | zero => intro s M _ h; omega
  | succ f ih =>
    intro s M hs hf hR hd ht hq
    have hx := it_lt hS hc hp s
    rw [f_X5_round_L47]
    by_cases h6 : s = 6
    · subst h6
      rw [if_pos (show (6 : Int32) ≤ I ((6 : Nat) : Int) by decide)]
      have hex : ∃ t, t < 6 ∧ it S c p t = it S c p 6 := by
        refine Classical.byContradiction fun hn => ?_
        have := fb_holes 6 7 (it S c p) (fun i _ => by have := it_lt hS hc hp i; omega) (fun i j hij hj => by
          by_cases e : j = 6
          · subst e
            exact fun q => hn ⟨i, hij, q⟩
          · exact hd i j hij (by omega))
        omega
      obtain ⟨t, ht1, ht2⟩ := hex
      exact ⟨6, t, M, Nat.le_refl _, ht1, hd, ht2.symm, rfl, by rw [← ht2]; exact ht t ht1, fun _ _ => rfl⟩
    · rw [if_neg (show ¬ (6 : Int32) ≤ I (s : Int) from fun q => by rw [I_6, I_le (by omega) (by omega)] at q; omega)]
      simp only [grd_ok (show it S c p s < 6 by omega) (show 6 ≤ 1000 by decide), I_tn (show it S c p s ≤ 2000000000 by omega), mlt_eq]
      by_cases hex : ∃ t, t < s ∧ it S c p t = it S c p s
      · obtain ⟨t, ht1, ht2⟩ := hex
        have hv : M 37 (it S c p s) = I t := by rw [← ht2]; exact ht t ht1
        rw [if_neg (by rw [hv, I_n9, I_eq (by omega) (by omega)]; omega)]
        exact ⟨s, t, M, hs, ht1, hd, ht2.symm, rfl, hv, fun _ _ => rfl⟩
      · have hn : ∀ t, t < s → it S c p t ≠ it S c p s := fun t h q => hex ⟨t, h, q⟩
        rw [if_pos (hq _ (by omega) hn)]
        have hR2 : cR (mu M 37 (it S c p s) (I s)) 1 S := cR_fr hR ⟨mu_nn (by decide), mu_nn (by decide), mu_nn (by decide)⟩ (fun r h1 h2 => mu_ne (by omega))
        rw [q_after hR2 hS hc hx, bd_some, I_succ]
        obtain ⟨s', t, M', k1, k2, k3, k4, k5, k6, k7⟩ := ih (s + 1) (mu M 37 (it S c p s) (I s)) (by omega) (by omega) hR2 (fun i j hij hj => by
          by_cases e : j = s
          · subst e; exact hn i hij
          · exact hd i j hij (by omega)) (fun t h => by
          by_cases e : t = s
          · subst e; rw [mu_v]
          · rw [mu_f (hn t (by omega))]; exact ht t (by omega)) (fun q hq6 hqn => by
          rw [mu_f (fun e => hqn s (by omega) e.symm)]
          exact hq q hq6 (fun t h => hqn t (by omega)))
        exact ⟨s', t, M', k1, k2, k3, k4, k5, k6, fun r hr => by rw [k7 r hr, mu_ne hr]⟩
/-- behind t it comes round, s - t strokes a round -/
theorem rho1 {S : St} {c p s t : Nat} (hts : t < s) (h : it S c p s = it S c p t) : ∀ i, t ≤ i → it S c p (i + (s - t)) = it S c p i := by
  intro i hi
  have e : i + (s - t) = s + (i - t) := by omega
  rw [e, it_add, h, ← it_add, show t + (i - t) = i by omega]
theorem rho2 {S : St} {c p s t : Nat} (hts : t < s) (h : it S c p s = it S c p t) : ∀ q u, t ≤ u → it S c p (u + (s - t) * q) = it S c p u
  | 0, u, _ => by simp
  | q + 1, u, hu => by
    rw [Nat.mul_succ, ← Nat.add_assoc, rho1 hts h _ (by omega)]
    exact rho2 hts h q u hu
theorem rho3 {S : St} {c p s t : Nat} (hts : t < s) (h : it S c p s = it S c p t) {i : Nat} (hi : t ≤ i) : it S c p i = it S c p (t + (i - t) % (s - t)) := by
  have := Nat.div_add_mod (i - t) (s - t)
  have e : i = t + (i - t) % (s - t) + (s - t) * ((i - t) / (s - t)) := by omega
  have h2 := rho2 hts h ((i - t) / (s - t)) (t + (i - t) % (s - t)) (by omega)
  rw [← e] at h2
  exact h2
/-- no shorter round -/
theorem rho4 {S : St} {c p s t : Nat} (hts : t < s) (h : it S c p s = it S c p t) (hd : dsj (it S c p) s) {i r : Nat} (hi : t ≤ i) (hr1 : 1 ≤ r) (hr2 : r < s - t) : it S c p (i + r) ≠ it S c p i := by
  rw [rho3 hts h (i := i + r) (by omega), rho3 hts h hi]
  have l1 := Nat.mod_lt (i - t) (show 0 < s - t by omega)
  have l2 := Nat.mod_lt (i + r - t) (show 0 < s - t by omega)
  have hne : (i + r - t) % (s - t) ≠ (i - t) % (s - t) := by
    intro e
    have d1 := Nat.div_add_mod (i - t) (s - t)
    have d2 := Nat.div_add_mod (i + r - t) (s - t)
    rw [e] at d2
    have d3 : (s - t) * ((i + r - t) / (s - t)) = (s - t) * ((i - t) / (s - t)) + r := by omega
    have d4 : r = (s - t) * ((i + r - t) / (s - t) - (i - t) / (s - t)) := by
      rw [Nat.mul_sub]
      omega
    rcases Nat.eq_zero_or_pos ((i + r - t) / (s - t) - (i - t) / (s - t)) with z | z
    · rw [z] at d4; omega
    · have := Nat.mul_le_mul (Nat.le_refl (s - t)) z
      omega
  rcases Nat.lt_or_gt_of_ne hne with q | q
  · exact hd _ _ (by omega) (by omega)
  · exact (hd _ _ (show t + (i - t) % (s - t) < t + (i + r - t) % (s - t) by omega) (by omega)).symm
theorem n_far {N : Mem} {S : St} (hR : mR N S) (hS : wf S) {c p : Nat} (hc : c < S.2.1) (hp : p < S.1) {x2 : Int32} {kx : Int32 → Mem → Option (Int32 × Mem)} : f_X6_round_L32 (I c) x2 kx FU (I p) 0 N = kx (I (it S c p S.1)) N := by
  have b1 := hS.1
  refine lp0 (fun n x st => f_X6_round_L32 (I c) x2 kx n st x N) (fun st => kx st N) S.1 (by omega) (fun i => I (it S c p i)) (fun n i hi => ?_) (fun n => ?_)
  · try dsimp only
    rw [f_X6_round_L32, hR.1, t_le (by omega) (by omega), if_neg (by omega), n_next hR hS hc (it_lt hS hc hp i), bd_some, I_succ]
    rfl
  · try dsimp only
    rw [f_X6_round_L32, hR.1, t_le (by omega) (by omega), if_pos (by omega)]
theorem n_len {N : Mem} {S : St} (hR : mR N S) (hS : wf S) {c p : Nat} (hc : c < S.2.1) (hp : p < S.1) {x2 : Int32} {kx : Int32 → Mem → Option (Int32 × Mem)} {g : Nat} (hg : g ≤ 1000) (hg2 : it S c p g = p) : ∀ (j f r : Nat), r + j = g → j < f → 1 ≤ r → (∀ q, r ≤ q → q < g → it S c p q ≠ p) → f_X6_round_L65 (I c) x2 (I p) kx f (I r) (I (it S c p r)) N = kx (I g) N := by
  have b1 := hS.1
  intro j
  induction j with
  | zero =>
    intro f r hr hf h1 hn
    obtain ⟨f, rfl⟩ : ∃ m, f = m + 1 := ⟨f - 1, by omega⟩
    rw [f_X6_round_L65, show r = g by omega, hg2, if_pos rfl]
  | succ j ih =>
    intro f r hr hf h1 hn
    obtain ⟨f, rfl⟩ : ∃ m, f = m + 1 := ⟨f - 1, by omega⟩
    have hx := it_lt hS hc hp r
    have := hn r (Nat.le_refl _) (by omega)
    rw [f_X6_round_L65, t_eq (by omega) (by omega), if_neg (by omega), n_next hR hS hc hx, bd_some, I_succ]
    exact ih f (r + 1) (by omega) (by omega) (by omega) (fun q h1 h2 => hn q (by omega) h2)
theorem n_fast {N : Mem} {S : St} (hR : mR N S) (hS : wf S) {c p : Nat} (hc : c < S.2.1) (hp : p < S.1) {x2 x5 : Int32} {kx : Int32 → Mem → Option (Int32 × Mem)} {g : Nat} (hg : g ≤ 1000) : f_X6_round_L101 (I c) x2 (I g) x5 kx FU (I p) 0 N = kx (I (it S c p g)) N := by
  have b1 := hS.1
  refine lp0 (fun n x st => f_X6_round_L101 (I c) x2 (I g) x5 kx n st x N) (fun st => kx st N) g (by omega) (fun i => I (it S c p i)) (fun n i hi => ?_) (fun n => ?_)
  · try dsimp only
    rw [f_X6_round_L101, t_le (by omega) (by omega), if_neg (by omega), n_next hR hS hc (it_lt hS hc hp i), bd_some, I_succ]
    rfl
  · try dsimp only
    rw [f_X6_round_L101, t_le (by omega) (by omega), if_pos (by omega)]
theorem n_tail {N : Mem} {S : St} (hR : mR N S) (hS : wf S) {c p : Nat} (hc : c < S.2.1) (hp : p < S.1) {x2 x4 : Int32} {kx : Int32 → Mem → Option (Int32 × Mem)} {g t : Nat} (ht : t ≤ 1000) (hg2 : it S c p t = it S c p (t + g)) (hn : ∀ q, q < t → it S c p q ≠ it S c p (q + g)) : ∀ (j f r : Nat), r + j = t → j < f → f_X6_round_L126 (I c) x2 x4 kx f (I (it S c p r)) (I (it S c p (r + g))) (I r) N = kx (I t) N := by
  have b1 := hS.1
  intro j
  induction j with
  | zero =>
    intro f r hr hf
    obtain ⟨f, rfl⟩ : ∃ m, f = m + 1 := ⟨f - 1, by omega⟩
    rw [f_X6_round_L126, show r = t by omega, ← hg2, if_pos rfl]
  | succ j ih =>
    intro f r hr hf
    obtain ⟨f, rfl⟩ : ∃ m, f = m + 1 := ⟨f - 1, by omega⟩
    have hx := it_lt hS hc hp r
    have hy := it_lt hS hc hp (r + g)
    have := hn r (by omega)
    rw [f_X6_round_L126, t_eq (by omega) (by omega), if_neg (by omega), n_next hR hS hc hx, bd_some, n_next hR hS hc hy, bd_some, I_succ]
    have h2 := ih f (r + 1) (by omega) (by omega)
    rw [show r + 1 + g = (r + g) + 1 by omega] at h2
    exact h2
theorem p_round {M N : Mem} (h : Inv M N) (x1 x2 : Int32) : Ag (f_X5_round x1 x2 M) (f_X6_round x1 x2 N) := by
  have h0 := h
  obtain ⟨⟨S, n, Q, Z, hr⟩, e9⟩ := h
  have hS := hr.1.1
  have hR := hr.2.1
  have hN := hr.2.2.1
  have b1 := hS.1
  have b2 := hS.2.1
  have b3 := FU_ge
  unfold f_X5_round f_X6_round
  rcases ck_cases hR hN hS x1 with ⟨h1, h2⟩ | ⟨c, hc, rfl, h1, h2⟩
  · rw [h1, h2, bd_some, bd_some, if_pos rfl, if_pos rfl]; exact Ag.mk _ h0
  rw [h1, h2, bd_some, bd_some, if_neg i10, if_neg i10]
  rcases rg_cases x2 0 1 (l := 0) (h := 1) I_0 I_1 (by decide) (by decide) with h3 | ⟨h3, h4, v, rfl, h5, h6⟩
  · rw [w_out h3, bd_some, if_pos rfl]
    rcases h3 with h3 | ⟨h3, h4⟩
    · rw [if_pos (show x2 < 0 from h3)]; exact Ag.mk _ h0
    · rw [if_neg (show ¬ x2 < 0 from h3), if_neg (show ¬ x2 ≤ 1 from nle h4)]; exact Ag.mk _ h0
  have hp := (hS.2.2.2.2 c hc).2.2.1
  rw [w_in (lo := 0) (hi := 1) h3 h4, bd_some, if_neg i10, if_neg (show ¬ I (v : Int) < 0 from h3), if_pos (show I (v : Int) ≤ 1 from yle h4)]
  obtain ⟨M1, k1, k2, k3⟩ := q_fillA 37 6 (by decide) (-9) M
  have hR1 : cR M1 1 S := cR_fr hR (by rw [k3 1 (by decide)]; exact ⟨rfl, rfl, rfl⟩) (fun r h1 h2 => k3 r (by omega))
  rw [k1, bd_some, grd_ok (by omega) (by decide), grd_ok (by omega) (by decide), ilt_eq, ilt_eq, I_tn (by omega), show M1 5 c = I (S.2.2.2 3 c) from (hR1.2.2.2.2 c hc).2.1, (hN.2.2.2.2.1 c hc).2]
  obtain ⟨s, t, M2, l1, l2, l3, l4, l5, l6, l7⟩ := q_round hS hc hp (x2 := I v) (kx := fun e8 e9 M10 => if I (v : Int) = 0 then (grd e8 6 (some ((M10 37 e8.toNatClampNeg), M10))) else (grd e8 6 (some ((e9 - (M10 37 e8.toNatClampNeg)), M10)))) FU 0 M1 (by decide) (by omega) hR1 (fun i j h1 h2 => by omega) (fun t ht => by omega) (fun q hq _ => k2 q hq)
  have l5' : f_X5_round_L47 (I c) (I v) (fun e8 e9 M10 => if I (v : Int) = 0 then (grd e8 6 (some ((M10 37 e8.toNatClampNeg), M10))) else (grd e8 6 (some ((e9 - (M10 37 e8.toNatClampNeg)), M10)))) FU (I (S.2.2.2 3 c)) 0 M1 = _ := l5
  have hxs := it_lt hS hc hp s
  rw [l5', grd_ok (by omega) (by decide), grd_ok (by omega) (by decide), I_tn (by omega), l6, I_sub]
  have hsH : s ≤ S.1 := fb_holes S.1 s (it S c (S.2.2.2 3 c)) (fun i _ => it_lt hS hc hp i) l3
  have hfar := it_lt hS hc hp S.1
  rw [n_far hN hS hc hp, n_next hN hS hc hfar, bd_some]
  have hlen := n_len hN hS hc hfar (x2 := I v) (kx := fun e14 M15 => grd (I c) 4 (ilt (M15 7 c) (fun x_16 => f_X6_round_L101 (I c) (I v) e14 x_16 (fun e19 M20 => f_X6_round_L126 (I c) (I v) e14 (fun e25 M26 => if I (v : Int) = 0 then (some (e25, M26)) else (some (e14, M26))) FU x_16 e19 (0 : Int32) M20) FU x_16 (0 : Int32) M15))) (g := s - t) (by omega) (by
      rw [← it_add]
      exact rho1 l2 l4 S.1 (by omega)) (s - t - 1) FU 1 (by omega) (by omega) (Nat.le_refl _) (fun q h1 h2 => by
      rw [← it_add]
      exact rho4 l2 l4 l3 (by omega) h1 h2)
  have hlen' : f_X6_round_L65 (I c) (I v) (I (it S c (S.2.2.2 3 c) S.1)) (fun e14 M15 => grd (I c) 4 (ilt (M15 7 c) (fun x_16 => f_X6_round_L101 (I c) (I v) e14 x_16 (fun e19 M20 => f_X6_round_L126 (I c) (I v) e14 (fun e25 M26 => if I (v : Int) = 0 then (some (e25, M26)) else (some (e14, M26))) FU x_16 e19 (0 : Int32) M20) FU x_16 (0 : Int32) M15))) FU 1 (I (nf S c (it S c (S.2.2.2 3 c) S.1))) N = _ := hlen
  rw [hlen', grd_ok (by omega) (by decide), ilt_eq, (hN.2.2.2.2.1 c hc).2, n_fast hN hS hc hp (by omega)]
  have htail := n_tail hN hS hc hp (x2 := I v) (x4 := I ((s - t : Nat) : Int)) (kx := fun e25 M26 => if I (v : Int) = 0 then (some (e25, M26)) else (some (I ((s - t : Nat) : Int), M26))) (g := s - t) (t := t) (by omega) (rho1 l2 l4 t (Nat.le_refl _)).symm (fun q hq => l3 q (q + (s - t)) (by omega) (by omega)) t FU 0 (by omega) (by omega)
  rw [Nat.zero_add] at htail
  have htail' : f_X6_round_L126 (I c) (I v) (I ((s - t : Nat) : Int)) (fun e25 M26 => if I (v : Int) = 0 then (some (e25, M26)) else (some (I ((s - t : Nat) : Int), M26))) FU (I (S.2.2.2 3 c)) (I (it S c (S.2.2.2 3 c) (s - t))) 0 N = _ := htail
  rw [htail', show ((s : Int) - (t : Int)) = ((s - t : Nat) : Int) by omega]
  have fin : Inv M2 N := by
    have mr : ∀ r, r ≠ 37 → M2 r = M r := fun r h => by rw [l7 r h, k3 r h]
    exact Inv_of (Rel_fr hr (by rw [mr 0 (by decide)]; exact ⟨rfl, rfl⟩) (fun r h1 => mr r (by omega)) ⟨rfl, rfl, rfl, rfl, rfl, rfl, rfl⟩ (fun _ _ => rfl)) e9 (by rw [mr 0 (by decide)]) rfl
  by_cases e : I (v : Int) = 0
  · rw [if_pos e, if_pos e]; exact Ag.mk _ fin
  · rw [if_neg e, if_neg e]; exact Ag.mk _ fin
