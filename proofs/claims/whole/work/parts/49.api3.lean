/-! ===== reading, ofClock, ofHouse, from, hush ===== -/
theorem p_reading {M N : Mem} (h : Inv M N) (x1 x2 x3 x4 : Int32) : Ag (f_X5_reading x1 x2 x3 x4 M) (f_X6_reading x1 x2 x3 x4 N) := by
  have h0 := h
  obtain ⟨⟨S, n, Q, Z, hr⟩, e9⟩ := h
  have hS := hr.1.1
  have hR := hr.2.1
  have hN := hr.2.2.1
  obtain ⟨d1, d2, d3, d4⟩ := hr.2.2.2.1
  unfold f_X5_reading f_X6_reading
  rcases ck_cases hR hN hS x1 with ⟨h1, h2⟩ | ⟨c, hc, rfl, h1, h2⟩
  · rw [h1, h2, bd_some, bd_some, if_pos rfl, if_pos rfl]; exact Ag.mk _ h0
  rw [h1, h2, bd_some, bd_some, if_neg i10, if_neg i10]
  rcases hs_cases hR hN hS x2 with ⟨h1, h2⟩ | ⟨p, hp, rfl, h1, h2⟩
  · rw [h1, h2, bd_some, bd_some, if_pos rfl, if_pos rfl]; exact Ag.mk _ h0
  rw [h1, h2, bd_some, bd_some, if_neg i10, if_neg i10]
  rcases hs_cases hR hN hS x3 with ⟨h1, h2⟩ | ⟨k, hk, rfl, h1, h2⟩
  · rw [h1, h2, bd_some, bd_some, if_pos rfl, if_pos rfl]; exact Ag.mk _ h0
  rw [h1, h2, bd_some, bd_some, if_neg i10, if_neg i10]
  rcases rg_cases x4 0 1 (l := 0) (h := 1) I_0 I_1 (by decide) (by decide) with h3 | ⟨h3, h4, v, rfl, h5, h6⟩
  · rw [w_out h3, bd_some, if_pos rfl]
    rcases h3 with h3 | ⟨h3, h4⟩
    · rw [if_pos (show x4 < 0 from h3)]; exact Ag.mk _ h0
    · rw [if_neg (show ¬ x4 < 0 from h3), if_neg (show ¬ x4 ≤ 1 from nle h4)]; exact Ag.mk _ h0
  rw [w_in (lo := 0) (hi := 1) h3 h4, bd_some, if_neg i10, if_neg (show ¬ I (v : Int) < 0 from h3), if_pos (show I (v : Int) ≤ 1 from yle h4), d2, d3, I_8, t_lt (by omega) (by omega), t_eq (by omega) (by omega)]
  by_cases hn : n = 8
  · rw [if_neg (by omega), if_pos (by omega)]; exact Ag.mk _ h0
  · rw [if_pos (show (n : Int) < 8 by omega), if_neg (show ¬ (n : Int) = 8 by omega)]
    have note : ∀ u : Nat, u ≤ 1 → f_X1_note (I c) (I p) (I k) (I u) M = some (I n, mu (mu (mu (mu (mu M 16 n (I c)) 17 n (I p)) 18 n (I k)) 19 n (I u)) 15 4 (I ((n + 1 : Nat) : Int))) := fun u hu => by
      unfold f_X1_note
      simp only [mlt_eq, mu_nn (show (15 : Nat) ≠ 16 by decide), mu_nn (show (15 : Nat) ≠ 17 by decide), mu_nn (show (15 : Nat) ≠ 18 by decide), mu_nn (show (15 : Nat) ≠ 19 by decide), d2, grd_ok (show n < 8 by omega) (show 8 ≤ 1000 by decide), I_tn (show n ≤ 2000000000 by omega), and1 hu, I_succ]
    have hcl : (if I (v : Int) = 1 then bd (f_X1_note (I c) (I p) (I k) 1 M) (fun r8 M7 => some (r8, M7)) else bd (f_X1_note (I c) (I p) (I k) 0 M) (fun r10 M9 => some (r10, M9))) = some (I n, mu (mu (mu (mu (mu M 16 n (I c)) 17 n (I p)) 18 n (I k)) 19 n (I v)) 15 4 (I ((n + 1 : Nat) : Int))) := by
      rcases (show v = 0 ∨ v = 1 by omega) with rfl | rfl
      · rw [if_neg (by decide)]
        have := note 0 (by decide)
        rw [show (0 : Int32) = I ((0 : Nat) : Int) from I_0, this, bd_some]
      · rw [if_pos (by decide)]
        have := note 1 (by decide)
        rw [show (1 : Int32) = I ((1 : Nat) : Int) from I_1, this, bd_some]
    rw [hcl]
    simp only [mlt_eq, mu_nn (show (0 : Nat) ≠ 13 by decide), mu_nn (show (0 : Nat) ≠ 14 by decide), mu_nn (show (0 : Nat) ≠ 15 by decide), mu_nn (show (0 : Nat) ≠ 16 by decide), d3, grd_ok (show n < 8 by omega) (show 8 ≤ 1000 by decide), I_tn (show n ≤ 2000000000 by omega), I_succ, mu_v]
    rw [I_1, I_sub, show (((n + 1 : Nat) : Int) - 1) = (n : Int) by omega]
    refine Ag.mk _ (Inv_tr (S := S) (n := n + 1) (Q := fun j r => if r = n then (if j = 0 then c else if j = 1 then p else if j = 2 then k else v) else Q j r) (Z := Z) (Rel_rd hr (fun r hr => ?_) (fun r hr => ?_) (fun q hq => ?_) ⟨by omega, by rw [mu_v], by rw [mu_v], fun r hr => ?_⟩) ?_)
    · rw [mu_ne (by omega), mu_ne (by omega), mu_ne (by omega), mu_ne (by omega), mu_ne (by omega)]
    · rw [mu_ne (by omega), mu_ne (by omega), mu_ne (by omega), mu_ne (by omega), mu_ne (by omega)]
    · rw [mu_f hq, mu_nn (by decide), mu_nn (by decide), mu_nn (by decide), mu_nn (by decide)]
    · by_cases e : r = n
      · subst e
        simp only [if_pos, if_neg (show ¬ (1 : Nat) = 0 by decide), if_neg (show ¬ (2 : Nat) = 0 by decide), if_neg (show ¬ (2 : Nat) = 1 by decide), if_neg (show ¬ (3 : Nat) = 0 by decide), if_neg (show ¬ (3 : Nat) = 1 by decide), if_neg (show ¬ (3 : Nat) = 2 by decide)]
        refine ⟨⟨hc, hp, hk, by omega⟩, ⟨?_, ?_, ?_, ?_⟩, ?_, ?_, ?_, ?_⟩
        · rw [mu_nn (by decide), mu_nn (by decide), mu_nn (by decide), mu_nn (by decide), mu_v]
        · rw [mu_nn (by decide), mu_nn (by decide), mu_nn (by decide), mu_v]
        · rw [mu_nn (by decide), mu_nn (by decide), mu_v]
        · rw [mu_nn (by decide), mu_v]
        · rw [mu_nn (by decide), mu_nn (by decide), mu_nn (by decide), mu_nn (by decide), mu_v]
        · rw [mu_nn (by decide), mu_nn (by decide), mu_nn (by decide), mu_v]
        · rw [mu_nn (by decide), mu_nn (by decide), mu_v]
        · rw [mu_nn (by decide), mu_v]
      · simp only [if_neg e]
        obtain ⟨g1, ⟨g2, g3, g4, g5⟩, g6, g7, g8, g9⟩ := d4 r (by omega)
        refine ⟨g1, ⟨?_, ?_, ?_, ?_⟩, ?_, ?_, ?_, ?_⟩
        · rw [mu_nn (by decide), mu_nn (by decide), mu_nn (by decide), mu_nn (by decide), mu_f e]; exact g2
        · rw [mu_nn (by decide), mu_nn (by decide), mu_nn (by decide), mu_f e, mu_nn (by decide)]; exact g3
        · rw [mu_nn (by decide), mu_nn (by decide), mu_f e, mu_nn (by decide), mu_nn (by decide)]; exact g4
        · rw [mu_nn (by decide), mu_f e, mu_nn (by decide), mu_nn (by decide), mu_nn (by decide)]; exact g5
        · rw [mu_nn (by decide), mu_nn (by decide), mu_nn (by decide), mu_nn (by decide), mu_f e]; exact g6
        · rw [mu_nn (by decide), mu_nn (by decide), mu_nn (by decide), mu_f e, mu_nn (by decide)]; exact g7
        · rw [mu_nn (by decide), mu_nn (by decide), mu_f e, mu_nn (by decide), mu_nn (by decide)]; exact g8
        · rw [mu_nn (by decide), mu_f e, mu_nn (by decide), mu_nn (by decide), mu_nn (by decide)]; exact g9
    · rw [mu_nn (by decide), mu_nn (by decide), mu_nn (by decide), mu_nn (by decide), mu_nn (by decide), mu_f (by decide), mu_nn (by decide), mu_nn (by decide), mu_nn (by decide), mu_nn (by decide)]
      exact e9
theorem p_ofClock {M N : Mem} (h : Inv M N) (x1 x2 : Int32) : Ag (f_X5_ofClock x1 x2 M) (f_X6_ofClock x1 x2 N) := by
  have h0 := h
  obtain ⟨⟨S, n, Q, Z, hr⟩, e9⟩ := h
  have hS := hr.1.1
  have hR := hr.2.1
  have hN := hr.2.2.1
  have b1 := hS.1
  have b2 := hS.2.1
  unfold f_X5_ofClock f_X6_ofClock
  rcases ck_cases hR hN hS x1 with ⟨h1, h2⟩ | ⟨c, hc, rfl, h1, h2⟩
  · rw [h1, h2, bd_some, bd_some, if_pos rfl, if_pos rfl]; exact Ag.mk _ h0
  have b3 := hS.2.2.2.2 c hc
  have r1 := hR.2.2.2.2 c hc
  have r2 := hN.2.2.2.2.1 c hc
  rw [h1, h2, bd_some, bd_some, if_neg i10, if_neg i10]
  simp only [grd_ok (show c < 4 by omega) (show 4 ≤ 1000 by decide), I_tn (show c ≤ 2000000000 by omega)]
  rw [show M 4 c = I (S.2.2.2 2 c) from r1.1, show M 5 c = I (S.2.2.2 3 c) from r1.2.1, show M 6 c = I (S.2.2.2 4 c) from r1.2.2, r2.1, r2.2, q_sound hR hS hc, n_soundOf hN hS hc, q_wakers hR hS hc (by omega), n_wakersOf hN hS hc (by omega), q_owner hR hS hc (by omega), n_ownerFrom hN hS hc (by omega), hN.2.2.2.2.2, bt_sh _ (st_16 hS) c (by omega), st_bit hS hc]
  simp only [bd_some]
  by_cases k0 : x2 = 0
  · rw [if_pos k0, if_pos k0]; exact Ag.mk _ h0
  rw [if_neg k0, if_neg k0]
  by_cases k1 : x2 = 1
  · rw [if_pos k1, if_pos k1]; exact Ag.mk _ h0
  rw [if_neg k1, if_neg k1]
  by_cases k2 : x2 = 2
  · rw [if_pos k2, if_pos k2]; exact Ag.mk _ h0
  rw [if_neg k2, if_neg k2]
  by_cases k3 : x2 = 3
  · rw [if_pos k3, if_pos k3]
    rcases (show S.2.2.2 4 c = 0 ∨ S.2.2.2 4 c = 1 by omega) with e | e
    · rw [e, if_pos (by decide)]; exact Ag.mk _ h0
    · rw [e, if_neg (by decide)]; exact Ag.mk _ h0
  rw [if_neg k3, if_neg k3]
  by_cases k4 : x2 = 4
  · rw [if_pos k4, if_pos k4]; exact Ag.mk _ h0
  rw [if_neg k4, if_neg k4]
  by_cases k5 : x2 = 5
  · rw [if_pos k5, if_pos k5]; exact Ag.mk _ h0
  rw [if_neg k5, if_neg k5]
  exact Ag.mk _ h0
theorem q_clocksIn {M : Mem} {a : Nat} {S : St} (hR : cR M a S) (hS : wf S) {h : Nat} (hh : h < S.1) : f_X3_clocksIn a (I h) M = some (bs (fun c => decide (S.2.2.2 3 c = h)) S.2.1, M) := by
  have b1 := hS.1
  have b2 := hS.2.1
  unfold f_X3_clocksIn
  refine lp0 (fun n x st => f_X3_clocksIn_L4 a (I h) (fun e3 M4 => some (e3, M4)) n st x M) (fun st => some (st, M)) S.2.1 (by omega) (fun i => bs (fun c => decide (S.2.2.2 3 c = h)) i) (fun n i hi => ?_) (fun n => ?_)
  · try dsimp only
    have := (hS.2.2.2.2 i hi).2.2.1
    rw [f_X3_clocksIn_L4, hR.2.1, t_le (by omega) (by omega), if_neg (by omega), grd_ok (by omega) (by decide), I_tn (by omega), (hR.2.2.2.2 i hi).2.1, t_eq (by omega) (by omega), I_succ, ilt_eq, bs]
    by_cases e : S.2.2.2 3 i = h
    · rw [if_pos (by omega), if_pos (decide_eq_true e)]
    · rw [if_neg (by omega), if_neg (fun x => e (of_decide_eq_true x))]
  · try dsimp only
    rw [f_X3_clocksIn_L4, hR.2.1, t_le (by omega) (by omega), if_pos (by omega)]
theorem q_clocksWaking {M : Mem} {a : Nat} {S : St} (hR : cR M a S) (hS : wf S) {h : Nat} (hh : h < S.1) : f_X3_clocksWaking a (I h) M = some (bs (fun c => wk S h (sd S c) (S.2.2.2 3 c)) S.2.1, M) := by
  have b1 := hS.1
  have b2 := hS.2.1
  unfold f_X3_clocksWaking
  refine lp0 (fun n x st => f_X3_clocksWaking_L4 a (I h) (fun e3 M4 => some (e3, M4)) n st x M) (fun st => some (st, M)) S.2.1 (by omega) (fun i => bs (fun c => wk S h (sd S c) (S.2.2.2 3 c)) i) (fun n i hi => ?_) (fun n => ?_)
  · try dsimp only
    have := (hS.2.2.2.2 i hi).2.2.1
    rw [f_X3_clocksWaking_L4, hR.2.1, t_le (by omega) (by omega), if_neg (by omega), q_sound hR hS hi, bd_some, grd_ok (by omega) (by decide), I_tn (by omega), (hR.2.2.2.2 i hi).2.1, q_wakes hR hS hh (show sd S i ≤ 9 from sdI_le hS hi) (by omega), bd_some, I_succ, ilt_eq, bs]
    by_cases e : wk S h (sd S i) (S.2.2.2 3 i) = true
    · rw [if_pos e, if_pos e, if_neg (by decide)]
    · rw [if_neg e, if_neg e, if_pos (by decide)]
  · try dsimp only
    rw [f_X3_clocksWaking_L4, hR.2.1, t_le (by omega) (by omega), if_pos (by omega)]
theorem p_ofHouse {M N : Mem} (h : Inv M N) (x1 x2 : Int32) : Ag (f_X5_ofHouse x1 x2 M) (f_X6_ofHouse x1 x2 N) := by
  have h0 := h
  obtain ⟨⟨S, n, Q, Z, hr⟩, e9⟩ := h
  have hS := hr.1.1
  have hR := hr.2.1
  have hN := hr.2.2.1
  have b1 := hS.1
  have b2 := hS.2.1
  unfold f_X5_ofHouse f_X6_ofHouse
  rcases hs_cases hR hN hS x1 with ⟨h1, h2⟩ | ⟨k, hk, rfl, h1, h2⟩
  · rw [h1, h2, bd_some, bd_some, if_pos rfl, if_pos rfl]; exact Ag.mk _ h0
  have r1 := hR.2.2.2.1 k hk
  have r2 := hN.2.2.2.1 k hk
  rw [h1, h2, bd_some, bd_some, if_neg i10, if_neg i10]
  simp only [grd_ok (show k < 6 by omega) (show 6 ≤ 1000 by decide), I_tn (show k ≤ 2000000000 by omega)]
  rw [show M 2 k = I (S.2.2.2 0 k) from r1.1, show M 3 k = I (S.2.2.2 1 k) from r1.2, q_needs hR hS hk, q_clocksIn hR hS hk, q_clocksWaking hR hS hk]
  simp only [bd_some]
  rcases rg_cases x2 3 4 (l := 3) (h := 4) I_3 I_4 (by decide) (by decide) with h3 | ⟨h3, h4, v, rfl, h5, h6⟩
  · rw [w_out h3, bd_some, if_pos rfl, r2.1, r2.2, n_needsOf hN hS hk, bd_some]
    have e3 : ¬ x2 = 3 := fun e => by subst e; revert h3; decide
    have e4 : ¬ x2 = 4 := fun e => by subst e; revert h3; decide
    by_cases k0 : x2 = 0
    · rw [if_pos k0, if_pos k0]; exact Ag.mk _ h0
    rw [if_neg k0, if_neg k0]
    by_cases k1 : x2 = 1
    · rw [if_pos k1, if_pos k1]; exact Ag.mk _ h0
    rw [if_neg k1, if_neg k1]
    by_cases k2 : x2 = 2
    · rw [if_pos k2, if_pos k2]; exact Ag.mk _ h0
    rw [if_neg k2, if_neg k2, if_neg e3, if_neg e4]
    exact Ag.mk _ h0
  · rw [w_in (lo := 3) (hi := 4) h3 h4, bd_some, if_neg i10]
    rcases (show v = 3 ∨ v = 4 by omega) with rfl | rfl
    · have : f_X6_ofHouse_L67 (I k) (I ((3 : Nat) : Int)) (fun e15 M16 => some (e15, M16)) FU 0 0 N = some (bs (fun c => decide (S.2.2.2 3 c = k)) S.2.1, N) := by
        refine lp0 (fun n x st => f_X6_ofHouse_L67 (I k) (I ((3 : Nat) : Int)) (fun e3 M4 => some (e3, M4)) n st x N) (fun st => some (st, N)) S.2.1 (by omega) (fun i => bs (fun c => decide (S.2.2.2 3 c = k)) i) (fun n i hi => ?_) (fun n => ?_)
        · try dsimp only
          have := (hS.2.2.2.2 i hi).2.2.1
          rw [f_X6_ofHouse_L67, hN.2.1, t_le (by omega) (by omega), if_neg (by omega), if_pos (show I ((3 : Nat) : Int) = 3 by decide), grd_ok (by omega) (by decide), I_tn (by omega), (hN.2.2.2.2.1 i hi).2, t_eq (by omega) (by omega), I_succ, if_neg i10, if_pos rfl, ilt_eq, ilt_eq, or_0, bs]
          by_cases e : S.2.2.2 3 i = k
          · rw [if_pos (by omega), if_pos (decide_eq_true e)]
          · rw [if_neg (by omega), if_neg (fun x => e (of_decide_eq_true x))]
        · try dsimp only
          rw [f_X6_ofHouse_L67, hN.2.1, t_le (by omega) (by omega), if_pos (by omega)]
      rw [this, if_neg (by decide), if_neg (by decide), if_neg (by decide), if_pos (by decide)]
      exact Ag.mk _ h0
    · have : f_X6_ofHouse_L67 (I k) (I ((4 : Nat) : Int)) (fun e15 M16 => some (e15, M16)) FU 0 0 N = some (bs (fun c => wk S k (sd S c) (S.2.2.2 3 c)) S.2.1, N) := by
        refine lp0 (fun n x st => f_X6_ofHouse_L67 (I k) (I ((4 : Nat) : Int)) (fun e3 M4 => some (e3, M4)) n st x N) (fun st => some (st, N)) S.2.1 (by omega) (fun i => bs (fun c => wk S k (sd S c) (S.2.2.2 3 c)) i) (fun n i hi => ?_) (fun n => ?_)
        · try dsimp only
          have := (hS.2.2.2.2 i hi).2.2.1
          rw [f_X6_ofHouse_L67, hN.2.1, t_le (by omega) (by omega), if_neg (by omega), if_neg (show ¬ I ((4 : Nat) : Int) = 3 by decide), grd_ok (by omega) (by decide), I_tn (by omega), (hN.2.2.2.2.1 i hi).2, n_wakesFrom hN hS hk hi (by omega), bd_some, I_succ, ilt_eq, ilt_eq, or_0, bs]
          by_cases e : wk S k (sd S i) (S.2.2.2 3 i) = true
          · rw [if_pos e, if_pos e, if_neg (by decide)]
          · rw [if_neg e, if_neg e, if_pos (by decide)]
        · try dsimp only
          rw [f_X6_ofHouse_L67, hN.2.1, t_le (by omega) (by omega), if_pos (by omega)]
      rw [this, if_neg (by decide), if_neg (by decide), if_neg (by decide), if_neg (by decide), if_pos (by decide)]
      exact Ag.mk _ h0
theorem p_from {M N : Mem} (h : Inv M N) (x1 x2 : Int32) : Ag (f_X5_from x1 x2 M) (f_X6_from x1 x2 N) := by
  have h0 := h
  obtain ⟨⟨S, n, Q, Z, hr⟩, e9⟩ := h
  have hS := hr.1.1
  have hR := hr.2.1
  have hN := hr.2.2.1
  have b1 := hS.1
  have b2 := hS.2.1
  unfold f_X5_from f_X6_from
  rcases hs_cases hR hN hS x1 with ⟨h1, h2⟩ | ⟨k, hk, rfl, h1, h2⟩
  · rw [h1, h2, bd_some, bd_some, if_pos rfl, if_pos rfl]; exact Ag.mk _ h0
  rw [h1, h2, bd_some, bd_some, if_neg i10, if_neg i10]
  rcases ck_cases hR hN hS x2 with ⟨h1, h2⟩ | ⟨c, hc, rfl, h1, h2⟩
  · rw [h1, h2, bd_some, bd_some, if_pos rfl, if_pos rfl]; exact Ag.mk _ h0
  rw [h1, h2, bd_some, bd_some, if_neg i10, if_neg i10]
  have e1 : f_X5_from_L29 (I k) (I c) (fun e8 M9 => some (e8, M9)) FU 0 0 M = some (bs (fun p => decide (own S (sd S c) p = k)) S.1, M) := by
    refine lp0 (fun n x st => f_X5_from_L29 (I k) (I c) (fun e3 M4 => some (e3, M4)) n st x M) (fun st => some (st, M)) S.1 (by omega) (fun i => bs (fun p => decide (own S (sd S c) p = k)) i) (fun n i hi => ?_) (fun n => ?_)
    · try dsimp only
      have hw : -9 ≤ own S (sd S c) i ∧ own S (sd S c) i < 10 := by
        rcases own_cases hS hc (p := i) (by omega) with e | ⟨b, e1, e2⟩ <;> omega
      rw [f_X5_from_L29, hR.1, t_le (by omega) (by omega), if_neg (by omega), q_owner hR hS hc (by omega), bd_some, t_eq (by omega) (by omega), I_succ, ilt_eq, bs]
      by_cases e : own S (sd S c) i = k
      · rw [if_pos e, if_pos (decide_eq_true e)]
      · rw [if_neg e, if_neg (fun x => e (of_decide_eq_true x))]
    · try dsimp only
      rw [f_X5_from_L29, hR.1, t_le (by omega) (by omega), if_pos (by omega)]
  have e2 : f_X6_from_L23 (I k) (I c) (fun e8 M9 => some (e8, M9)) FU 0 0 N = some (bs (fun p => decide (own S (sd S c) p = k)) S.1, N) := by
    refine lp0 (fun n x st => f_X6_from_L23 (I k) (I c) (fun e3 M4 => some (e3, M4)) n st x N) (fun st => some (st, N)) S.1 (by omega) (fun i => bs (fun p => decide (own S (sd S c) p = k)) i) (fun n i hi => ?_) (fun n => ?_)
    · try dsimp only
      have hw : -9 ≤ own S (sd S c) i ∧ own S (sd S c) i < 10 := by
        rcases own_cases hS hc (p := i) (by omega) with e | ⟨b, e1, e2⟩ <;> omega
      rw [f_X6_from_L23, hN.1, t_le (by omega) (by omega), if_neg (by omega), n_ownerFrom hN hS hc (by omega), bd_some, t_eq (by omega) (by omega), I_succ, ilt_eq, ilt_eq, or_0, bs]
      by_cases e : own S (sd S c) i = k
      · rw [if_pos e, if_pos (decide_eq_true e)]
      · rw [if_neg e, if_neg (fun x => e (of_decide_eq_true x))]
    · try dsimp only
      rw [f_X6_from_L23, hN.1, t_le (by omega) (by omega), if_pos (by omega)]
  rw [e1, e2]
  exact Ag.mk _ h0
