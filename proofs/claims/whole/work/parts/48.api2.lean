/-! ===== sets, stuff, ease, tell, call, back, reading, ofClock, ofHouse, from ===== -/
def bcv (x0 : Int32) : Int32 := ilt (x0 - ((((x0).toUInt32 >>> (((1 : Int32)).toUInt32 &&& Int32.toUInt32 31)).toInt32) &&& (1431655765 : Int32))) (fun x_1 => ilt ((x_1 &&& (858993459 : Int32)) + ((((x_1).toUInt32 >>> (((2 : Int32)).toUInt32 &&& Int32.toUInt32 31)).toInt32) &&& (858993459 : Int32))) (fun x_2 => ilt ((x_2 + (((x_2).toUInt32 >>> (((4 : Int32)).toUInt32 &&& Int32.toUInt32 31)).toInt32)) &&& (252645135 : Int32)) (fun x_3 => ilt (x_3 + (((x_3).toUInt32 >>> (((8 : Int32)).toUInt32 &&& Int32.toUInt32 31)).toInt32)) (fun x_4 => ilt (x_4 + (((x_4).toUInt32 >>> (((16 : Int32)).toUInt32 &&& Int32.toUInt32 31)).toInt32)) (fun x_5 => x_5 &&& (63 : Int32))))))
theorem q_bc (x : Int32) (M : Mem) : f_J6_bitCount_0f7a4 x M = some (bcv x, M) := rfl
def pcb : Nat → Nat → Nat
  | 0, _ => 0
  | b + 1, m => m % 2 + pcb b (m / 2)
theorem pcb_0 : ∀ b, pcb b 0 = 0
  | 0 => rfl
  | b + 1 => by rw [pcb]; exact (Nat.zero_add _).trans (pcb_0 b)
theorem bcv_pc : ∀ m, m < 64 → bcv (I ((m : Nat) : Int)) = I ((pcb 6 m : Nat) : Int) := by decide +kernel
theorem q_bitCount {m : Nat} (h : m < 64) (M : Mem) : f_J6_bitCount_0f7a4 (I m) M = some (I (pcb 6 m), M) := by rw [q_bc, bcv_pc m h]
theorem sz_and : ∀ m, m < 64 → I ((m : Nat) : Int) &&& (1 : Int32) = I ((m % 2 : Nat) : Int) := by decide +kernel
theorem sz_shr : ∀ m, m < 64 → I ((m : Nat) : Int) >>> ((1 : Int32) &&& 31) = I ((m / 2 : Nat) : Int) := by decide +kernel
theorem n_sizeL {N : Mem} {kx : Int32 → Mem → Option (Int32 × Mem)} : ∀ (b n m acc : Nat), m < 2 ^ b → m < 64 → b < n → acc + b ≤ 1000 → f_X6_size_L4 kx n (I acc) (I m) N = kx (I ((acc + pcb b m : Nat) : Int)) N
  | 0, n, m, acc, h, h6, hn, ha => by
    obtain ⟨n, rfl⟩ : ∃ k, n = k + 1 := ⟨n - 1, by omega⟩
    rw [f_X6_size_L4, I_0, t_le (by omega) (by omega), if_pos (by omega)]
    rfl
  | b + 1, n, m, acc, h, h6, hn, ha => by
    obtain ⟨n, rfl⟩ : ∃ k, n = k + 1 := ⟨n - 1, by omega⟩
    rw [f_X6_size_L4, I_0, t_le (by omega) (by omega)]
    by_cases h0 : m = 0
    · subst h0
      rw [if_pos (by omega), pcb_0]
      rfl
    · rw [if_neg (by omega), ilt_eq, ilt_eq, sz_and m h6, sz_shr m h6, I_add]
      have := n_sizeL (N := N) (kx := kx) b n (m / 2) (acc + m % 2) (by rw [Nat.pow_succ] at h; omega) (by omega) (by omega) (by omega)
      rw [show ((acc : Int) + ((m % 2 : Nat) : Int)) = ((acc + m % 2 : Nat) : Int) by omega, this, pcb, Nat.add_assoc]
theorem n_size {m : Nat} (h : m < 64) (N : Mem) : f_X6_size (I m) N = some (I (pcb 6 m), N) := by
  have b3 := FU_ge
  unfold f_X6_size
  have := n_sizeL (N := N) (kx := fun e3 M4 => some (e3, M4)) 6 FU m 0 (by omega) h (by omega) (by omega)
  rw [Nat.zero_add] at this
  exact this
theorem q_stuffedClocks {M : Mem} {a : Nat} {S : St} (hR : cR M a S) (hS : wf S) : f_X3_stuffedClocks a M = some (I ((mk (S.2.2.2 4) S.2.1 : Nat) : Int), M) := by
  have b2 := hS.2.1
  have e := (bs_mk (p := fun c => decide (S.2.2.2 4 c = 1)) S.2.1 (by omega)).1
  have e2 : mk (fun i => if decide (S.2.2.2 4 i = 1) = true then 1 else 0) S.2.1 = mk (S.2.2.2 4) S.2.1 := by
    apply mk_cg
    intro i hi
    have := (hS.2.2.2.2 i hi).2.2.2
    by_cases h : S.2.2.2 4 i = 1
    · rw [if_pos (decide_eq_true h), h]
    · rw [if_neg (fun x => h (of_decide_eq_true x))]; omega
  rw [e2] at e
  rw [← e]
  unfold f_X3_stuffedClocks
  refine lp0 (fun n x st => f_X3_stuffedClocks_L4 a (fun e3 M4 => some (e3, M4)) n st x M) (fun st => some (st, M)) S.2.1 (by omega) (fun i => bs (fun c => decide (S.2.2.2 4 c = 1)) i) (fun n i hi => ?_) (fun n => ?_)
  · try dsimp only
    have := (hS.2.2.2.2 i hi).2.2.2
    rw [f_X3_stuffedClocks_L4, hR.2.1, t_le (by omega) (by omega), if_neg (by omega), grd_ok (by omega) (by decide), I_tn (by omega), (hR.2.2.2.2 i hi).2.2, I_0, t_eq (by omega) (by omega), I_succ, ilt_eq, bs]
    by_cases h : S.2.2.2 4 i = 1
    · rw [if_neg (by omega), if_pos (decide_eq_true h)]
    · rw [if_pos (by omega), if_neg (fun x => h (of_decide_eq_true x))]
  · try dsimp only
    rw [f_X3_stuffedClocks_L4, hR.2.1, t_le (by omega) (by omega), if_pos (by omega)]
theorem mk_su (p : Nat → Nat) (c v : Nat) : ∀ n, c < n → mk (fun q => if 4 = 4 ∧ q = c then v else p q) n + p c * 2 ^ c = mk p n + v * 2 ^ c
  | 0, h => by omega
  | n + 1, h => by
    rw [mk, mk]
    by_cases e : c = n
    · subst e
      have : mk (fun q => if 4 = 4 ∧ q = c then v else p q) c = mk p c := mk_cg c (fun i hi => if_neg (by omega))
      rw [this, if_pos ⟨rfl, rfl⟩]
      omega
    · have ih := mk_su p c v n (by omega)
      rw [if_neg (show ¬ (4 = 4 ∧ n = c) by omega)]
      omega
theorem p_stuff {M N : Mem} (h : Inv M N) (x1 : Int32) : Ag (f_X5_stuff x1 M) (f_X6_stuff x1 N) := by
  have h0 := h
  obtain ⟨⟨S, n, Q, Z, hr⟩, e9⟩ := h
  have hS := hr.1.1
  have hR := hr.2.1
  have hN := hr.2.2.1
  have b2 := hS.2.1
  unfold f_X5_stuff f_X6_stuff
  rcases ck_cases hR hN hS x1 with ⟨h1, h2⟩ | ⟨c, hc, rfl, h1, h2⟩
  · rw [h1, h2, bd_some, bd_some, if_pos rfl, if_pos rfl]; exact Ag.mk _ h0
  · have hv := (hS.2.2.2.2 c hc).2.2.2
    rw [h1, h2, bd_some, bd_some, if_neg i10, if_neg i10, grd_ok (by omega) (by decide), grd_ok (by omega) (by decide), I_tn (by omega), show M 6 c = I (S.2.2.2 4 c) from (hR.2.2.2.2 c hc).2.2, n_isOf hN hS hc, bd_some]
    by_cases hz : S.2.2.2 4 c = 0
    · rw [hz, if_pos (show I ((0 : Nat) : Int) = 0 from I_0.symm), if_pos (show I ((0 : Nat) : Int) = 0 from I_0.symm), mlt_eq, mlt_eq]
      have hm := mk_su (S.2.2.2 4) c 1 S.2.1 hc
      rw [hz] at hm
      have hx : N 0 9 ||| ((1 : Int32) <<< (I (c : Int) &&& 31)) = I ((mk ((sU S 4 c 1).2.2.2 4) S.2.1 : Nat) : Int) := by
        rw [hN.2.2.2.2.2, bt_or _ (st_16 hS) c (by omega) (by rw [st_bit hS hc, hz])]
        congr 2
        show _ = mk (fun q => if 4 = 4 ∧ q = c then 1 else S.2.2.2 4 q) S.2.1
        omega
      have hr2 := Rel_st hr (c := c) (v := 1) (by decide) hx
      rw [show ((1 : Int32) &&& 1) = I ((1 : Nat) : Int) from by decide]
      have w2 := hr2.1.1
      have q1 := q_stuffedClocks (a := 1) hr2.2.1 w2
      have q2 := st_16 w2
      rw [q1, bd_some, q_bitCount (by omega), bd_some]
      have q3 : mu N 0 9 (N 0 9 ||| ((1 : Int32) <<< (I (c : Int) &&& 31))) 0 9 = _ := hr2.2.2.1.2.2.2.2.2
      rw [q3, n_size (by omega), bd_some]
      exact Ag.mk _ (Inv_of hr2 e9 (mu_nn (by decide)) (mu_f (by decide)))
    · have h1' : S.2.2.2 4 c = 1 := by omega
      rw [h1', if_neg (show ¬ I ((1 : Nat) : Int) = 0 by decide), if_neg (show ¬ I ((1 : Nat) : Int) = 0 by decide)]
      exact Ag.mk _ h0
theorem p_ease {M N : Mem} (h : Inv M N) (x1 : Int32) : Ag (f_X5_ease x1 M) (f_X6_ease x1 N) := by
  have h0 := h
  obtain ⟨⟨S, n, Q, Z, hr⟩, e9⟩ := h
  have hS := hr.1.1
  have hR := hr.2.1
  have hN := hr.2.2.1
  have b2 := hS.2.1
  unfold f_X5_ease f_X6_ease
  rcases ck_cases hR hN hS x1 with ⟨h1, h2⟩ | ⟨c, hc, rfl, h1, h2⟩
  · rw [h1, h2, bd_some, bd_some, if_pos rfl, if_pos rfl]; exact Ag.mk _ h0
  · have hv := (hS.2.2.2.2 c hc).2.2.2
    rw [h1, h2, bd_some, bd_some, if_neg i10, if_neg i10, grd_ok (by omega) (by decide), grd_ok (by omega) (by decide), I_tn (by omega), show M 6 c = I (S.2.2.2 4 c) from (hR.2.2.2.2 c hc).2.2, n_isOf hN hS hc, bd_some]
    by_cases hz : S.2.2.2 4 c = 0
    · rw [hz, if_pos (show I ((0 : Nat) : Int) = 0 from I_0.symm), if_pos (show I ((0 : Nat) : Int) = 0 from I_0.symm)]
      exact Ag.mk _ h0
    · have h1' : S.2.2.2 4 c = 1 := by omega
      rw [h1', if_neg (show ¬ I ((1 : Nat) : Int) = 0 by decide), if_neg (show ¬ I ((1 : Nat) : Int) = 0 by decide), mlt_eq, mlt_eq]
      have hm := mk_su (S.2.2.2 4) c 0 S.2.1 hc
      rw [h1'] at hm
      have hx : N 0 9 &&& (((1 : Int32) <<< (I (c : Int) &&& 31)) ^^^ (-1 : Int32)) = I ((mk ((sU S 4 c 0).2.2.2 4) S.2.1 : Nat) : Int) := by
        rw [hN.2.2.2.2.2, bt_an _ (st_16 hS) c (by omega) (by rw [st_bit hS hc, h1'])]
        congr 2
        show _ = mk (fun q => if 4 = 4 ∧ q = c then 0 else S.2.2.2 4 q) S.2.1
        omega
      have hr2 := Rel_st hr (c := c) (v := 0) (by decide) hx
      rw [show ((0 : Int32) &&& 1) = I ((0 : Nat) : Int) from by decide]
      have w2 := hr2.1.1
      have q1 := q_stuffedClocks (a := 1) hr2.2.1 w2
      have q2 := st_16 w2
      rw [q1, bd_some, q_bitCount (by omega), bd_some]
      have q3 : mu N 0 9 (N 0 9 &&& (((1 : Int32) <<< (I (c : Int) &&& 31)) ^^^ (-1 : Int32))) 0 9 = _ := hr2.2.2.1.2.2.2.2.2
      rw [q3, n_size (by omega), bd_some]
      exact Ag.mk _ (Inv_of hr2 e9 (mu_nn (by decide)) (mu_f (by decide)))
/-- the trace -/
theorem Rel_tr {S : St} {n : Nat} {Q Z : Nat → Nat → Nat} {M N : Mem} (h : Rel S n Q Z M N) (k : Int32) : Rel S n Q Z (mu M 0 8 ((31 : Int32) * M 0 8 + k)) (mu N 0 1 ((31 : Int32) * N 0 1 + k)) := by
  obtain ⟨h1, h2, h3, h4, h5, h6, h7⟩ := h
  refine ⟨h1, cR_fr h2 ⟨mu_nn (by decide), mu_nn (by decide), mu_nn (by decide)⟩ (fun r _ _ => mu_ne (by omega)), mR_fr h3 ⟨mu_f (by decide), mu_f (by decide), mu_f (by decide), mu_f (by decide)⟩ (fun r _ _ => mu_ne (by omega)), rdR_fr h4 (mu_nn (by decide)) (mu_f (by decide)) (fun r _ _ => mu_ne (by omega)) (fun r _ _ => mu_ne (by omega)) rfl rfl, shR_fr h5 (fun r _ _ => mu_ne (by omega)) (fun r _ _ => mu_ne (by omega)), by rw [mu_f (by decide), mu_f (by decide)]; exact h6, by rw [mu_v, mu_v, h7]⟩
theorem q_leave (k : Int32) (M : Mem) : f_X5_leave k M = some ((), mu M 0 8 ((31 : Int32) * M 0 8 + k)) := rfl
theorem n_begins (k : Int32) (N : Mem) : f_X6_begins k N = some ((), mu N 0 1 ((31 : Int32) * N 0 1 + k)) := rfl
theorem Inv_tr {S : St} {n : Nat} {Q Z : Nat → Nat → Nat} {M N : Mem} (h : Rel S n Q Z M N) (e : M 0 9 = N 0 0) : Inv M N := ⟨⟨S, n, Q, Z, h⟩, e⟩
theorem p_call {M N : Mem} (h : Inv M N) (x1 : Int32) : Ag (f_X5_call x1 M) (f_X6_call x1 N) := by
  have h0 := h
  obtain ⟨⟨S, n, Q, Z, hr⟩, e9⟩ := h
  have hS := hr.1.1
  have hR := hr.2.1
  have hN := hr.2.2.1
  have b1 := hS.1
  unfold f_X5_call f_X6_call
  rcases hs_cases hR hN hS x1 with ⟨h1, h2⟩ | ⟨k, hk, rfl, h1, h2⟩
  · rw [h1, h2, bd_some, bd_some, if_pos rfl, if_pos rfl]; exact Ag.mk _ h0
  · have hv := hS.2.2.2.1 k hk
    have hkd := (hN.2.2.2.1 k hk).1
    rw [h1, h2, bd_some, bd_some, if_neg i10, if_neg i10, grd_ok (by omega) (by decide), grd_ok (by omega) (by decide), I_tn (by omega), show M 2 k = I (S.2.2.2 0 k) from (hR.2.2.2.1 k hk).1, hkd, I_2]
    unfold f_X5_babyIsCalled f_X5_sleeperIsCalled
    simp only [q_leave, n_begins, bd_some, grd_ok (show k < 6 by omega) (show 6 ≤ 1000 by decide), mu_nn (show (4 : Nat) ≠ 0 by decide), hkd]
    by_cases e : I ((S.2.2.2 0 k : Nat) : Int) = I 2
    · rw [if_pos e, if_pos e, if_pos e]
      exact Ag.mk _ (Inv_tr (Rel_tr hr 5) (by rw [mu_f (by decide), mu_f (by decide)]; exact e9))
    · rw [if_neg e, if_neg e, if_neg e]
      exact Ag.mk _ (Inv_tr (Rel_tr hr 4) (by rw [mu_f (by decide), mu_f (by decide)]; exact e9))
theorem p_tell {M N : Mem} (h : Inv M N) (x1 : Int32) : Ag (f_X5_tell x1 M) (f_X6_tell x1 N) := by
  have h0 := h
  obtain ⟨⟨S, n, Q, Z, hr⟩, e9⟩ := h
  have hS := hr.1.1
  have hR := hr.2.1
  have hN := hr.2.2.1
  have b1 := hS.1
  unfold f_X5_tell f_X6_tell
  rcases hs_cases hR hN hS x1 with ⟨h1, h2⟩ | ⟨k, hk, rfl, h1, h2⟩
  · rw [h1, h2, bd_some, bd_some, if_pos rfl, if_pos rfl]; exact Ag.mk _ h0
  · have hd := (hN.2.2.2.1 k hk).2
    have hd2 : M 3 k = I (S.2.2.2 1 k) := (hR.2.2.2.1 k hk).2
    rw [h1, h2, bd_some, bd_some, if_neg i10, if_neg i10, grd_ok (by omega) (by decide), grd_ok (by omega) (by decide), I_tn (by omega), show M 2 k = I (S.2.2.2 0 k) from (hR.2.2.2.1 k hk).1, ilt_eq, grd_ok (by omega) (by decide), (hN.2.2.2.1 k hk).1, hd]
    unfold f_X5_nervousTells f_X5_babyTells f_X5_sleeperTells
    unfold f_X5_nervousTells f_X5_sleeperTells
    simp only [q_leave, n_begins, bd_some, grd_ok (show k < 6 by omega) (show 6 ≤ 1000 by decide), mu_nn (show (3 : Nat) ≠ 0 by decide), I_tn (show k ≤ 2000000000 by omega), hd2]
    by_cases e : I ((S.2.2.2 0 k : Nat) : Int) = 1
    · rw [if_pos e, if_pos e]
      exact Ag.mk _ (Inv_tr (Rel_tr (Rel_tr hr 2) 1) (by rw [mu_f (by decide), mu_f (by decide), mu_f (by decide), mu_f (by decide)]; exact e9))
    · rw [if_neg e, if_neg e]
      by_cases e : I ((S.2.2.2 0 k : Nat) : Int) = 2
      · rw [if_pos e, if_pos e]
        rw [show (2 : Int32) * I ((S.2.2.2 1 k : Nat) : Int) + 100 = I ((S.2.2.2 1 k : Nat) : Int) + 100 + I ((S.2.2.2 1 k : Nat) : Int) by
          rw [show (100 : Int32) = I 100 by decide, I_2, I_mul, I_add, I_add, I_add]; congr 1; omega]
        exact Ag.mk _ (Inv_tr (Rel_tr (Rel_tr (Rel_tr (Rel_tr hr 3) 2) 1) 1) (by rw [mu_f (by decide), mu_f (by decide), mu_f (by decide), mu_f (by decide), mu_f (by decide), mu_f (by decide), mu_f (by decide), mu_f (by decide)]; exact e9))
      · rw [if_neg e, if_neg e]
        exact Ag.mk _ (Inv_tr (Rel_tr hr 1) (by rw [mu_f (by decide), mu_f (by decide)]; exact e9))
/-- readings -/
theorem Rel_rd {S : St} {n n' : Nat} {Q Q' Z : Nat → Nat → Nat} {M M' N N' : Mem} (h : Rel S n Q Z M N) (hm : ∀ r, r < 7 ∨ (29 ≤ r ∧ r < 37) → M' r = M r) (hn : ∀ r, (1 ≤ r ∧ r < 8) → N' r = N r) (h0 : ∀ k, k ≠ 25 → N' 0 k = N 0 k) (hd : rdR M' N' S n' Q') : Rel S n' Q' Z M' N' := by
  obtain ⟨h1, h2, h3, h4, h5, h6, h7⟩ := h
  refine ⟨h1, cR_fr h2 ?_ (fun r _ _ => hm r (by omega)), mR_fr h3 ⟨h0 5 (by decide), h0 6 (by decide), h0 7 (by decide), h0 9 (by decide)⟩ (fun r _ _ => hn r (by omega)), hd, shR_fr h5 (fun r _ _ => hm r (by omega)) (fun r _ _ => hn r (by omega)), by rw [hm 0 (by omega), h0 8 (by decide)]; exact h6, by rw [hm 0 (by omega), h0 1 (by decide)]; exact h7⟩
  rw [hm 1 (by omega)]
  exact ⟨rfl, rfl, rfl⟩
theorem p_back {M N : Mem} (h : Inv M N) (x1 : Int32) : Ag (f_X5_back x1 M) (f_X6_back x1 N) := by
  have h0 := h
  obtain ⟨⟨S, n, Q, Z, hr⟩, e9⟩ := h
  obtain ⟨d1, d2, d3, d4⟩ := hr.2.2.2.1
  unfold f_X5_back f_X6_back
  rw [d2, d3]
  rcases rg_cases x1 0 (I n) (l := 0) (h := n) I_0 rfl (by decide) (by omega) with h3 | ⟨h3, h4, v, rfl, h5, h6⟩
  · rw [w_out h3, bd_some, if_pos rfl]
    rcases h3 with h3 | ⟨h3, h4⟩
    · rw [if_pos (show x1 < 0 from h3)]; exact Ag.mk _ h0
    · rw [if_neg (show ¬ x1 < 0 from h3), if_neg (nle h4)]; exact Ag.mk _ h0
  · rw [w_in h3 h4, bd_some, if_neg i10, if_neg h3, if_pos (yle h4), mlt_eq, mlt_eq, d3, mu_v, mu_v, I_sub, show ((n : Int) - v) = ((n - v : Nat) : Int) by omega]
    refine Ag.mk _ (Inv_tr (S := S) (n := n - v) (Q := Q) (Z := Z) (Rel_rd hr (fun r hr => mu_ne (by omega)) (fun r hr => mu_ne (by omega)) (fun k hk => mu_f hk) ⟨by omega, by rw [mu_v], by rw [mu_v], fun r hr => ?_⟩) (by rw [mu_nn (by decide), mu_f (by decide)]; exact e9))
    rw [mu_nn (by decide), mu_nn (by decide), mu_nn (by decide), mu_nn (by decide), mu_nn (by decide), mu_nn (by decide), mu_nn (by decide), mu_nn (by decide)]
    exact d4 r (by omega)
