/-! ===== nights, settle ===== -/
theorem n_keep1 {C : Nat} (hC : C ≤ 4) {p : Nat → Int32} {kx : Mem → Option (Unit × Mem)} : ∀ (n i : Nat) (N : Mem), i ≤ C → C - i < n → N 0 7 = I C → (∀ c, c < C → N 7 c = p c) → (∀ c, c < i → N 10 c = p c) → ∃ N', f_X6_keep_L2 kx n (I i) N = kx N' ∧ (∀ c, c < C → N' 10 c = p c) ∧ ∀ r, r ≠ 10 → N' r = N r := by
  intro n
  induction n with
  | zero => intro i M _ h; omega
  | succ n ih =>
    intro i N hi hn h7 hp hq
    rw [f_X6_keep_L2, h7, t_le (by omega) (by omega)]
    by_cases h : i = C
    · subst h
      rw [if_pos (by omega)]
      exact ⟨N, rfl, hq, fun _ _ => rfl⟩
    · rw [if_neg (by omega)]
      simp only [grd_ok (show i < 4 by omega) (show 4 ≤ 1000 by decide), mlt_eq, I_succ, I_tn (show i ≤ 2000000000 by omega)]
      rw [hp i (by omega)]
      obtain ⟨N', k1, k2, k3⟩ := ih (i + 1) (mu N 10 i (p i)) (by omega) (by omega) (by rw [mu_nn (by decide)]; exact h7) (fun c hc => by rw [mu_nn (by decide)]; exact hp c hc) (fun c hc => by
        by_cases e : c = i
        · subst e; rw [mu_v]
        · rw [mu_f e]; exact hq c (by omega))
      exact ⟨N', k1, k2, fun r hr => by rw [k3 r hr, mu_ne hr]⟩
theorem n_keep {N : Mem} {S : St} (hR : mR N S) (hS : wf S) : ∃ N', f_X6_keep N = some ((), N') ∧ (∀ c, c < S.2.1 → N' 10 c = I (S.2.2.2 3 c)) ∧ ∀ r, r ≠ 10 → N' r = N r := by
  have b2 := hS.2.1
  have b3 := FU_ge
  unfold f_X6_keep
  exact n_keep1 b2 (p := fun c => I (S.2.2.2 3 c)) (kx := fun M2 => some ((), M2)) FU 0 N (Nat.zero_le _) (by omega) hR.2.1 (fun c hc => (hR.2.2.2.2.1 c hc).2) (fun c hc => by omega)
theorem n_putBack1 {C : Nat} (hC : C ≤ 4) {p : Nat → Int32} {kx : Mem → Option (Unit × Mem)} : ∀ (n i : Nat) (N : Mem), i ≤ C → C - i < n → N 0 7 = I C → (∀ c, c < C → N 10 c = p c) → (∀ c, c < i → N 7 c = p c) → ∃ N', f_X6_putBack_L2 kx n (I i) N = kx N' ∧ (∀ c, c < C → N' 7 c = p c) ∧ ∀ r, r ≠ 7 → N' r = N r := by
  intro n
  induction n with
  | zero => intro i M _ h; omega
  | succ n ih =>
    intro i N hi hn h7 hp hq
    rw [f_X6_putBack_L2, h7, t_le (by omega) (by omega)]
    by_cases h : i = C
    · subst h
      rw [if_pos (by omega)]
      exact ⟨N, rfl, hq, fun _ _ => rfl⟩
    · rw [if_neg (by omega)]
      simp only [grd_ok (show i < 4 by omega) (show 4 ≤ 1000 by decide), mlt_eq, I_succ, I_tn (show i ≤ 2000000000 by omega)]
      rw [hp i (by omega)]
      obtain ⟨N', k1, k2, k3⟩ := ih (i + 1) (mu N 7 i (p i)) (by omega) (by omega) (by rw [mu_nn (by decide)]; exact h7) (fun c hc => by rw [mu_nn (by decide)]; exact hp c hc) (fun c hc => by
        by_cases e : c = i
        · subst e; rw [mu_v]
        · rw [mu_f e]; exact hq c (by omega))
      exact ⟨N', k1, k2, fun r hr => by rw [k3 r hr, mu_ne hr]⟩
theorem n_putBack {N : Mem} {C : Nat} (hC : C ≤ 4) (h7 : N 0 7 = I C) {p : Nat → Int32} (hp : ∀ c, c < C → N 10 c = p c) : ∃ N', f_X6_putBack N = some ((), N') ∧ (∀ c, c < C → N' 7 c = p c) ∧ ∀ r, r ≠ 7 → N' r = N r := by
  have b3 := FU_ge
  unfold f_X6_putBack
  exact n_putBack1 hC (p := p) (kx := fun M2 => some ((), M2)) FU 0 N (Nat.zero_le _) (by omega) h7 hp (fun c hc => by omega)
/-- how many of the first differ -/
def el (p q : Nat → Nat) : Nat → Int32
  | 0 => 0
  | i + 1 => if p i = q i then el p q i else el p q i + 1
theorem n_elsewhere {N : Mem} {C : Nat} (hC : C ≤ 4) (h7 : N 0 7 = I C) {p q : Nat → Nat} (hb : ∀ c, c < C → p c < 10 ∧ q c < 10) (hp : ∀ c, c < C → N 7 c = I (p c)) (hq : ∀ c, c < C → N 10 c = I (q c)) : f_X6_elsewhere N = some (el p q C, N) := by
  unfold f_X6_elsewhere
  refine lp0 (fun n x st => f_X6_elsewhere_L4 (fun e3 M4 => some (e3, M4)) n st x N) (fun st => some (st, N)) C (by omega) (fun i => el p q i) (fun n i hi => ?_) (fun n => ?_)
  · try dsimp only
    have := hb i hi
    rw [f_X6_elsewhere_L4, h7, t_le (by omega) (by omega), if_neg (by omega), grd_ok (by omega) (by decide), grd_ok (by omega) (by decide), I_tn (by omega), hp i hi, hq i hi, t_eq (by omega) (by omega), I_succ, ilt_eq, ilt_eq, el, add_0]
    by_cases h : p i = q i
    · rw [if_pos (by omega), if_pos h]
    · rw [if_neg (by omega), if_neg h]
  · try dsimp only
    rw [f_X6_elsewhere_L4, h7, t_le (by omega) (by omega), if_pos (by omega)]
theorem q_elsewhere {M : Mem} {C : Nat} (hC : C ≤ 4) (h7 : M 1 6 = I C) {p q : Nat → Nat} (hb : ∀ c, c < C → p c < 10 ∧ q c < 10) (hp : ∀ c, c < C → M 5 c = I (p c)) (hq : ∀ c, c < C → M 11 c = I (q c)) : f_X5_nights_L60 (fun e6 M7 => some (e6, M7)) FU 0 0 M = some (el p q C, M) := by
  refine lp0 (fun n x st => f_X5_nights_L60 (fun e3 M4 => some (e3, M4)) n st x M) (fun st => some (st, M)) C (by omega) (fun i => el p q i) (fun n i hi => ?_) (fun n => ?_)
  · try dsimp only
    have := hb i hi
    rw [f_X5_nights_L60, h7, t_le (by omega) (by omega), if_neg (by omega), grd_ok (by omega) (by decide), grd_ok (by omega) (by decide), I_tn (by omega), hp i hi, hq i hi, t_eq (by omega) (by omega), I_succ, el]
    by_cases h : p i = q i
    · rw [if_pos (by omega), if_pos h]
    · rw [if_neg (by omega), if_neg h]
  · try dsimp only
    rw [f_X5_nights_L60, h7, t_le (by omega) (by omega), if_pos (by omega)]
theorem n_nightsL {S : St} (hS : wf S) {kx : Mem → Option (Int32 × Mem)} {m : Nat} (hm : m ≤ 2000) : ∀ (n i : Nat) (N : Mem), i ≤ m → m - i < n → mR N (nts S i) → ∃ N', f_X6_nights_L29 (I m) kx n (I i) N = kx N' ∧ mR N' (nts S m) ∧ (∀ r, r ≠ 0 → r ≠ 7 → N' r = N r) ∧ (∀ k, k ≠ 20 → k ≠ 21 → N' 0 k = N 0 k) := by
  intro n
  induction n with
  | zero => intro i M _ h; omega
  | succ n ih =>
    intro i N hi hn hR
    rw [f_X6_nights_L29, t_le (by omega) (by omega)]
    by_cases h : i = m
    · subst h
      rw [if_pos (by omega)]
      exact ⟨N, rfl, hR, fun _ _ _ => rfl, fun _ _ _ => rfl⟩
    · rw [if_neg (by omega)]
      obtain ⟨N1, k1, k2, k3, k4, -, -⟩ := n_oneNight hR (nts_wf hS i)
      rw [k1, bd_some, I_succ]
      obtain ⟨N2, l1, l2, l3, l4⟩ := ih (i + 1) N1 (by omega) (by omega) k2
      exact ⟨N2, l1, l2, fun r h1 h2 => by rw [l3 r h1 h2, k3 r h1 h2], fun k h1 h2 => by rw [l4 k h1 h2, k4 k h1 h2]⟩
theorem p_nights {M N : Mem} (h : Inv M N) (x1 : Int32) : Ag (f_X5_nights x1 M) (f_X6_nights x1 N) := by
  have h0 := h
  obtain ⟨⟨S, n, Q, Z, hr⟩, e9⟩ := h
  have hS := hr.1.1
  have hR := hr.2.1
  have hN := hr.2.2.1
  have b1 := hS.1
  have b2 := hS.2.1
  have b3 := FU_ge
  unfold f_X5_nights f_X6_nights
  rcases rg_cases x1 1 60 (l := 1) (h := 60) I_1 I_60 (by decide) (by decide) with h3 | ⟨h3, h4, v, rfl, h5, h6⟩
  · rw [w_out h3, bd_some, if_pos rfl]
    rcases h3 with h3 | ⟨h3, h4⟩
    · rw [if_pos (show x1 < 1 from h3)]; exact Ag.mk _ h0
    · rw [if_neg (show ¬ x1 < 1 from h3), if_neg (show ¬ x1 ≤ 60 from nle h4)]; exact Ag.mk _ h0
  · rw [w_in (lo := 1) (hi := 60) h3 h4, bd_some, if_neg i10, if_neg (show ¬ I (v : Int) < 1 from h3), if_pos (show I (v : Int) ≤ 60 from yle h4), c_stands hR hS, bd_some]
    by_cases hz : S.1 = 0
    · rw [if_pos hz, if_pos rfl, if_pos ((m_stands hN hS).mpr hz)]; exact Ag.mk _ h0
    · rw [if_neg hz, if_neg i10, if_neg (fun q => hz ((m_stands hN hS).mp q))]
      obtain ⟨M1, k1, k2, k3, -, -⟩ := q_become (a := 7) (b := 1) (by decide) hS hR
      obtain ⟨M2, l1, l2, l3, -, -⟩ := q_passNights (a := 1) hS (m := v) (by omega) (M := M1) (cR_fr hR (by rw [k3 1 (by omega)]; exact ⟨rfl, rfl, rfl⟩) (fun r h1 h2 => k3 r (by omega)))
      rw [k1, bd_some, l1, bd_some, mlt_eq]
      obtain ⟨N1, c1, c2, c3⟩ := n_keep hN hS
      obtain ⟨N2, d1, d2, d3, d4⟩ := n_nightsL hS (kx := fun M5 => mlt (mu M5 0 8 ((M5 0 8) + I v)) (fun M6 => bd (f_X6_elsewhere M6) (fun r8 M7 => some (r8, M7)))) (m := v) (by omega) FU 0 N1 (Nat.zero_le _) (by omega) (mR_fr hN (by rw [c3 0 (by decide)]; exact ⟨rfl, rfl, rfl, rfl⟩) (fun r h1 h2 => c3 r (by omega)))
      rw [c1, bd_some]
      have d1' : f_X6_nights_L29 (I v) (fun M5 => mlt (mu M5 0 8 ((M5 0 8) + I v)) (fun M6 => bd (f_X6_elsewhere M6) (fun r8 M7 => some (r8, M7)))) FU 0 N1 = _ := d1
      rw [d1', mlt_eq]
      have nw := nts_wf hS v
      have n1 := nts_1 S v
      have hb : ∀ c, c < S.2.1 → (nts S v).2.2.2 3 c < 10 ∧ S.2.2.2 3 c < 10 := fun c hc => by
        have q1 := (nw.2.2.2.2 c (by rw [n1.2.1]; exact hc)).2.2.1
        have q2 := (hS.2.2.2.2 c hc).2.2.1
        rw [n1.1] at q1
        omega
      rw [q_elsewhere (C := S.2.1) b2 (p := (nts S v).2.2.2 3) (q := S.2.2.2 3) (by rw [mu_nn (by decide), l2.2.1, n1.2.1]) hb (fun c hc => by rw [mu_nn (by decide)]; exact (l2.2.2.2.2 c (by rw [n1.2.1]; exact hc)).2.1) (fun c hc => by rw [mu_nn (by decide), l3 11 (by decide) (by decide)]; exact (k2.2.2.2.2 c hc).2.1)]
      rw [n_elsewhere (C := S.2.1) b2 (p := (nts S v).2.2.2 3) (q := S.2.2.2 3) (by rw [mu_f (by decide), d2.2.1, n1.2.1]) hb (fun c hc => by rw [mu_nn (by decide)]; exact (d2.2.2.2.2.1 c (by rw [n1.2.1]; exact hc)).2) (fun c hc => by rw [mu_nn (by decide), d3 10 (by decide) (by decide)]; exact c2 c hc), bd_some]
      have m0 : M2 0 = M 0 := by rw [l3 0 (by decide) (by decide), k3 0 (by omega)]
      have n0 : ∀ k, k ≠ 20 → k ≠ 21 → N2 0 k = N 0 k := fun k h1 h2 => by rw [d4 k h1 h2, c3 0 (by decide)]
      refine Ag.mk _ (Inv_of (S := nts S v) (Rel_mk hr nw n1.1 n1.2.1 (cR_fr l2 ⟨mu_nn (by decide), mu_nn (by decide), mu_nn (by decide)⟩ (fun r h1 h2 => mu_ne (by omega))) (mR_fr d2 ⟨mu_f (by decide), mu_f (by decide), mu_f (by decide), mu_f (by decide)⟩ (fun r h1 h2 => mu_ne (by omega))) (by rw [mu_f (by decide), m0]) ?_ (fun r h1 => by rw [mu_ne (by omega), l3 r (by omega) (by omega), k3 r (by omega)]) ⟨by rw [mu_f (by decide), n0 1 (by decide) (by decide)], by rw [mu_f (by decide), n0 25 (by decide) (by decide)]⟩ (fun r h1 => by rw [mu_ne (by omega), d3 r (by omega) (by omega), c3 r (by omega)])) e9 (by rw [mu_f (by decide), m0]) (by rw [mu_f (by decide), n0 0 (by decide) (by decide)]))
      rw [mu_v, mu_v, m0, n0 8 (by decide) (by decide), hr.2.2.2.2.2.1]
/-- nobody's clock is carried in the next night -/
def stl (S : St) : Prop := ∀ c, c < S.2.1 → (ng S S.2.1).2.2.2 3 c = S.2.2.2 3 c
theorem ng_late (S : St) : ∀ i c, i ≤ c → (ng S i).2.2.2 3 c = S.2.2.2 3 c
  | 0, _, _ => rfl
  | i + 1, c, h => by
    show (if 3 = 3 ∧ c = i then nx (ng S i) i else (ng S i).2.2.2 3 c) = _
    rw [if_neg (by omega)]
    exact ng_late S i c (by omega)
theorem ng_done (S : St) : ∀ i c, c < i → (ng S i).2.2.2 3 c = nx (ng S c) c
  | 0, _, h => by omega
  | i + 1, c, h => by
    show (if 3 = 3 ∧ c = i then nx (ng S i) i else (ng S i).2.2.2 3 c) = _
    by_cases e : c = i
    · subst e; rw [if_pos ⟨rfl, rfl⟩]
    · rw [if_neg (fun x => e x.2)]; exact ng_done S i c (by omega)
theorem cn1_0 {S : St} (hS : wf S) {c : Nat} (hc : c < S.2.1) : (cn1 S c = 0 ∧ nx S c = S.2.2.2 3 c) ∨ (cn1 S c = 1 ∧ nx S c ≠ S.2.2.2 3 c) := by
  have b1 := hS.1
  have b3 := (hS.2.2.2.2 c hc).2.2.1
  unfold cn1 nx
  rcases own_cases hS hc (p := S.2.2.2 3 c) (by omega) with h | ⟨b, hb, h⟩
  · left; rw [h, if_pos (Or.inl rfl), if_pos rfl]; exact ⟨rfl, rfl⟩
  · rw [h, if_neg (show ¬ (b : Int) = -9 by omega)]
    by_cases e : (b : Int) = S.2.2.2 3 c
    · left; rw [if_pos (Or.inr e)]; exact ⟨rfl, by omega⟩
    · right; rw [if_neg (by omega)]; exact ⟨rfl, by omega⟩
theorem cn_I {S : St} (hS : wf S) : ∀ i, i ≤ S.2.1 → ∃ m : Nat, m ≤ i ∧ cn S i = I m ∧ (m = 0 ↔ ∀ c, c < i → nx (ng S c) c = (ng S c).2.2.2 3 c)
  | 0, _ => ⟨0, Nat.le_refl _, I_0, by simp⟩
  | i + 1, h => by
    obtain ⟨m, h1, h2, h3⟩ := cn_I hS i (by omega)
    rcases cn1_0 (ng_wf hS i (by omega)) (c := i) (by rw [(ng_1 S i).2.1]; omega) with ⟨e1, e2⟩ | ⟨e1, e2⟩
    · refine ⟨m, by omega, by rw [cn, e1, h2, add_0], ⟨fun hm c hc => ?_, fun hc => h3.mpr (fun c h => hc c (by omega))⟩⟩
      by_cases e : c = i
      · subst e; exact e2
      · exact h3.mp hm c (by omega)
    · refine ⟨m + 1, by omega, by rw [cn, e1, h2, I_succ], ⟨fun hm => by omega, fun hc => absurd (hc i (by omega)) e2⟩⟩
theorem cn_stl {S : St} (hS : wf S) : cn S S.2.1 = 0 ↔ stl S := by
  have b2 := hS.2.1
  obtain ⟨m, h1, h2, h3⟩ := cn_I hS S.2.1 (Nat.le_refl _)
  rw [h2, I_0, I_eq (by omega) (by omega), show ((m : Int) = 0 ↔ m = 0) by omega, h3]
  constructor
  · intro h c hc
    rw [ng_done S _ c hc, h c hc, ng_late S c c (Nat.le_refl _)]
  · intro h c hc
    rw [← ng_done S _ c hc, h c hc, ng_late S c c (Nat.le_refl _)]
def stlB (S : St) : Bool := decide (∀ c, c < S.2.1 → (ng S S.2.1).2.2.2 3 c = S.2.2.2 3 c)
theorem stlB_iff {S : St} : stlB S = true ↔ stl S := decide_eq_true_iff
/-- the first night k, k + 1 .. of j nights in which none is carried -/
def rs (S : St) : Nat → Nat → Int
  | _, 0 => -9
  | k, j + 1 => if stlB (nts S k) then (k : Int) else rs S (k + 1) j
theorem q_settle {S : St} (hS : wf S) : ∀ (j n k : Nat) (M : Mem), k + j = 100 → j < n → cR M 7 (nts S k) → ∃ M', f_X5_settle_L26 (fun M6 => some (-9, M6)) n (I k) M = some (I (rs S k j), M') ∧ ∀ r, r ≠ 7 → r ≠ 11 → M' r = M r := by
  intro j
  induction j with
  | zero =>
    intro n k M hk hn hR
    obtain ⟨n, rfl⟩ : ∃ m, n = m + 1 := ⟨n - 1, by omega⟩
    rw [f_X5_settle_L26, I_99, t_lt (by omega) (by omega), if_pos (by omega), rs, I_n9]
    exact ⟨M, rfl, fun _ _ _ => rfl⟩
  | succ j ih =>
    intro n k M hk hn hR
    obtain ⟨n, rfl⟩ : ∃ m, n = m + 1 := ⟨n - 1, by omega⟩
    have hw := nts_wf hS k
    obtain ⟨M1, k1, k2, k3, k4, -⟩ := q_passNights (a := 7) hw (m := 1) (by decide) hR
    rw [f_X5_settle_L26, I_99, t_lt (by omega) (by omega), if_neg (by omega), ilt_eq, show (1 : Int32) = I ((1 : Nat) : Int) from I_1, k1, bd_some, k4]
    have hc : cns (nts S k) 1 = cn (nts S k) (nts S k).2.1 := by
      show (0 : Int32) + cn (nts S k) (nts S k).2.1 = _
      simp
    have hq : M 7 8 + cns (nts S k) 1 = M 7 8 ↔ stl (nts S k) := by
      rw [hc, ← cn_stl hw]
      constructor
      · intro e
        have e' : cn (nts S k) (nts S k).2.1 + M 7 8 = M 7 8 := by rw [Int32.add_comm]; exact e
        have := congrArg (fun x => x - M 7 8) e'
        simpa using this
      · intro e; rw [e, add_0]
    rw [rs]
    by_cases hs : stlB (nts S k) = true
    · rw [if_pos hs, if_pos (hq.mpr (stlB_iff.mp hs))]
      exact ⟨M1, rfl, fun r h1 h2 => k3 r h1 h2⟩
    · rw [if_neg hs, if_neg (fun e => hs (stlB_iff.mpr (hq.mp e)))]
      obtain ⟨M2, l1, l2⟩ := ih n (k + 1) M1 (by omega) (by omega) k2
      refine ⟨M2, ?_, fun r h1 h2 => by rw [l2 r h1 h2, k3 r h1 h2]⟩
      rw [← l1, I_add]
      rfl
theorem n_was {C : Nat} (hC : C ≤ 4) {p : Nat → Int32} {kx : Mem → Option (Int32 × Mem)} : ∀ (n i : Nat) (N : Mem), i ≤ C → C - i < n → N 0 7 = I C → (∀ c, c < C → N 7 c = p c) → (∀ c, c < i → N 11 c = p c) → ∃ N', f_X6_isSettled_L2 kx n (I i) N = kx N' ∧ (∀ c, c < C → N' 11 c = p c) ∧ ∀ r, r ≠ 11 → N' r = N r := by
  intro n
  induction n with
  | zero => intro i M _ h; omega
  | succ n ih =>
    intro i N hi hn h7 hp hq
    rw [f_X6_isSettled_L2, h7, t_le (by omega) (by omega)]
    by_cases h : i = C
    · subst h
      rw [if_pos (by omega)]
      exact ⟨N, rfl, hq, fun _ _ => rfl⟩
    · rw [if_neg (by omega)]
      simp only [grd_ok (show i < 4 by omega) (show 4 ≤ 1000 by decide), mlt_eq, I_succ, I_tn (show i ≤ 2000000000 by omega)]
      rw [hp i (by omega)]
      obtain ⟨N', k1, k2, k3⟩ := ih (i + 1) (mu N 11 i (p i)) (by omega) (by omega) (by rw [mu_nn (by decide)]; exact h7) (fun c hc => by rw [mu_nn (by decide)]; exact hp c hc) (fun c hc => by
        by_cases e : c = i
        · subst e; rw [mu_v]
        · rw [mu_f e]; exact hq c (by omega))
      exact ⟨N', k1, k2, fun r hr => by rw [k3 r hr, mu_ne hr]⟩
theorem n_same {C : Nat} (hC : C ≤ 4) {N : Mem} {p q : Nat → Nat} (h7 : N 0 7 = I C) (hb : ∀ c, c < C → p c < 10 ∧ q c < 10) (hp : ∀ c, c < C → N 7 c = I (p c)) (hq : ∀ c, c < C → N 11 c = I (q c)) : ∀ (n i : Nat), i ≤ C → C - i < n → (∀ c, c < i → p c = q c) → f_X6_isSettled_L34 (fun M4 => some (1, M4)) n (I i) N = some (if ∀ c, c < C → p c = q c then 1 else 0, N) := by
  intro n
  induction n with
  | zero => intro i _ h; omega
  | succ n ih =>
    intro i hi hn hs
    rw [f_X6_isSettled_L34, h7, t_le (by omega) (by omega)]
    by_cases h : i = C
    · subst h
      rw [if_pos (by omega), if_pos hs]
    · have := hb i (by omega)
      rw [if_neg (by omega), grd_ok (by omega) (by decide), grd_ok (by omega) (by decide), I_tn (by omega), hp i (by omega), hq i (by omega), t_eq (by omega) (by omega), I_succ]
      by_cases e : p i = q i
      · rw [if_pos (by omega)]
        exact ih (i + 1) (by omega) (by omega) (fun c hc => by
          by_cases e2 : c = i
          · subst e2; exact e
          · exact hs c (by omega))
      · rw [if_neg (by omega), if_neg (fun x => e (x i (by omega)))]
theorem n_isSettled {N : Mem} {S : St} (hR : mR N S) (hS : wf S) : ∃ N', f_X6_isSettled N = some (if stlB S then 1 else 0, N') ∧ mR N' (ng S S.2.1) ∧ (∀ r, r ≠ 0 → r ≠ 7 → r ≠ 11 → N' r = N r) ∧ (∀ k, k ≠ 20 → k ≠ 21 → N' 0 k = N 0 k) := by
  have b1 := hS.1
  have b2 := hS.2.1
  have b3 := FU_ge
  unfold f_X6_isSettled
  obtain ⟨N1, k1, k2, k3⟩ := n_was b2 (p := fun c => I (S.2.2.2 3 c)) (kx := fun M2 => bd (f_X6_oneNight M2) (fun _ M3 => f_X6_isSettled_L34 (fun M4 => some (1, M4)) FU 0 M3)) FU 0 N (Nat.zero_le _) (by omega) hR.2.1 (fun c hc => (hR.2.2.2.2.1 c hc).2) (fun c hc => by omega)
  obtain ⟨N2, l1, l2, l3, l4, -, -⟩ := n_oneNight (N := N1) (mR_fr hR (by rw [k3 0 (by decide)]; exact ⟨rfl, rfl, rfl, rfl⟩) (fun r h1 h2 => k3 r (by omega))) hS
  refine ⟨N2, ?_, l2, fun r h1 h2 h3 => by rw [l3 r h1 h2, k3 r h3], fun k h1 h2 => by rw [l4 k h1 h2, k3 0 (by decide)]⟩
  refine k1.trans ?_
  rw [l1, bd_some]
  have e := ng_1 S S.2.1
  have w := ng_wf hS S.2.1 (Nat.le_refl _)
  have := n_same b2 (N := N2) (p := (ng S S.2.1).2.2.2 3) (q := S.2.2.2 3) (by rw [l2.2.1, e.2.1]) (fun c hc => by
    have q1 := (w.2.2.2.2 c (by rw [e.2.1]; exact hc)).2.2.1
    have q2 := (hS.2.2.2.2 c hc).2.2.1
    rw [e.1] at q1
    omega) (fun c hc => (l2.2.2.2.2.1 c (by rw [e.2.1]; exact hc)).2) (fun c hc => by rw [l3 11 (by decide) (by decide)]; exact k2 c hc) FU 0 (Nat.zero_le _) (by omega) (fun c hc => by omega)
  refine Eq.trans this ?_
  unfold stlB
  by_cases hx : ∀ c, c < S.2.1 → (ng S S.2.1).2.2.2 3 c = S.2.2.2 3 c
  · rw [if_pos hx, if_pos (decide_eq_true hx)]
  · rw [if_neg hx, if_neg (fun y => hx (of_decide_eq_true y))]
theorem rs_rng (S : St) : ∀ j k, k + j ≤ 1000 → rs S k j = -9 ∨ ∃ m : Nat, m ≤ 1000 ∧ rs S k j = m
  | 0, _, _ => Or.inl rfl
  | j + 1, k, h => by
    rw [rs]
    split
    · exact Or.inr ⟨k, by omega, rfl⟩
    · exact rs_rng S j (k + 1) (by omega)
theorem n_settle {S : St} (hS : wf S) {kx : Int32 → Mem → Option (Int32 × Mem)} : ∀ (j n k : Nat) (N : Mem), k + j = 100 → j + 1 < n → mR N (nts S k) → ∃ N', f_X6_settle_L19 kx n (-9) (I k) N = kx (I (rs S k j)) N' ∧ (∃ m, mR N' (nts S m)) ∧ (∀ r, r ≠ 0 → r ≠ 7 → r ≠ 11 → N' r = N r) ∧ (∀ k, k ≠ 20 → k ≠ 21 → N' 0 k = N 0 k) := by
  intro j
  induction j with
  | zero =>
    intro n k N hk hn hR
    obtain ⟨n, rfl⟩ : ∃ m, n = m + 1 := ⟨n - 1, by omega⟩
    rw [f_X6_settle_L19, I_99, t_lt (by omega) (by omega), if_pos (by omega), rs, I_n9]
    exact ⟨N, rfl, ⟨k, hR⟩, fun _ _ _ _ => rfl, fun _ _ _ => rfl⟩
  | succ j ih =>
    intro n k N hk hn hR
    obtain ⟨n, rfl⟩ : ∃ m, n = m + 1 := ⟨n - 1, by omega⟩
    have hw := nts_wf hS k
    obtain ⟨N1, k1, k2, k3, k4⟩ := n_isSettled hR hw
    rw [f_X6_settle_L19, I_99, t_lt (by omega) (by omega), if_neg (by omega), if_pos rfl, k1, bd_some, rs]
    by_cases hs : stlB (nts S k) = true
    · obtain ⟨n, rfl⟩ : ∃ m, n = m + 1 := ⟨n - 1, by omega⟩
      rw [if_pos hs, if_pos hs, if_neg i10, f_X6_settle_L19]
      refine ⟨N1, ?_, ⟨k + 1, k2⟩, k3, k4⟩
      rw [I_succ, I_99, t_lt (by omega) (by omega), I_n9, t_eq (by omega) (by omega), if_neg (show ¬ (k : Int) = -9 by omega)]
      split <;> rfl
    · rw [if_neg hs, if_neg hs, if_pos rfl]
      obtain ⟨N2, l1, l2, l3, l4⟩ := ih n (k + 1) N1 (by omega) (by omega) k2
      refine ⟨N2, ?_, l2, fun r h1 h2 h3 => by rw [l3 r h1 h2 h3, k3 r h1 h2 h3], fun k h1 h2 => by rw [l4 k h1 h2, k4 k h1 h2]⟩
      rw [← l1, ← I_succ]
theorem p_settle {M N : Mem} (h : Inv M N) : Ag (f_X5_settle M) (f_X6_settle N) := by
  have h0 := h
  obtain ⟨⟨S, n, Q, Z, hr⟩, e9⟩ := h
  have hS := hr.1.1
  have hR := hr.2.1
  have hN := hr.2.2.1
  have b2 := hS.2.1
  have b3 := FU_ge
  unfold f_X5_settle f_X6_settle
  rw [c_stands hR hS, bd_some]
  by_cases hz : S.1 = 0
  · rw [if_pos hz, if_pos rfl, if_pos ((m_stands hN hS).mpr hz)]; exact Ag.mk _ h0
  · rw [if_neg hz, if_neg i10, if_neg (fun q => hz ((m_stands hN hS).mp q))]
    obtain ⟨M1, k1, k2, k3, -, -⟩ := q_become (a := 7) (b := 1) (by decide) hS hR
    obtain ⟨M2, l1, l2⟩ := q_settle hS 100 FU 0 M1 (by decide) (by omega) k2
    rw [k1, bd_some]
    obtain ⟨N1, c1, c2, c3⟩ := n_keep hN hS
    have hN1 : mR N1 S := mR_fr hN (by rw [c3 0 (by decide)]; exact ⟨rfl, rfl, rfl, rfl⟩) (fun r h1 h2 => c3 r (by omega))
    obtain ⟨N2, d1, ⟨m, d2⟩, d3, d4⟩ := n_settle hS (kx := fun e4 M5 => bd (f_X6_putBack M5) (fun _ M6 => some (e4, M6))) 100 FU 0 N1 (by decide) (by omega) hN1
    rw [c1, bd_some]
    obtain ⟨N3, e1, e2, e3⟩ := n_putBack (N := N2) b2 (by rw [d2.2.1, (nts_1 S m).2.1]) (p := fun c => I (S.2.2.2 3 c)) (fun c hc => by rw [d3 10 (by decide) (by decide) (by decide)]; exact c2 c hc)
    rw [e1, bd_some] at d1
    refine ⟨I (rs S 0 100), M2, N3, l1, d1, ?_⟩
    have n0 : ∀ k, k ≠ 20 → k ≠ 21 → N3 0 k = N 0 k := fun k h1 h2 => by rw [e3 0 (by decide), d4 k h1 h2, c3 0 (by decide)]
    have nr : ∀ r, r ≠ 0 → r ≠ 7 → r ≠ 10 → r ≠ 11 → N3 r = N r := fun r h1 h2 h3 h4 => by rw [e3 r h2, d3 r h1 h2 h4, c3 r h3]
    have mr : ∀ r, r < 7 ∨ 13 ≤ r → M2 r = M r := fun r hr => by rw [l2 r (by omega) (by omega), k3 r (by omega)]
    refine Inv_of (S := S) (Rel_mk hr hS rfl rfl (cR_fr hR (by rw [mr 1 (by omega)]; exact ⟨rfl, rfl, rfl⟩) (fun r h1 h2 => mr r (by omega))) ?_ (by rw [mr 0 (by omega)]) ?_ (fun r h1 => mr r (by omega)) ⟨n0 1 (by decide) (by decide), n0 25 (by decide) (by decide)⟩ (fun r h1 => nr r (by omega) (by omega) (by omega) (by omega))) e9 (by rw [mr 0 (by omega)]) (n0 0 (by decide) (by decide))
    · obtain ⟨a1, a2, a3, a4, a5, a6⟩ := hN
      refine ⟨by rw [n0 6 (by decide) (by decide)]; exact a1, by rw [n0 7 (by decide) (by decide)]; exact a2, by rw [n0 5 (by decide) (by decide)]; exact a3, fun q hq => ?_, fun q hq => ⟨?_, e2 q hq⟩, by rw [n0 9 (by decide) (by decide)]; exact a6⟩
      · rw [nr 4 (by decide) (by decide) (by decide) (by decide), nr 5 (by decide) (by decide) (by decide) (by decide)]; exact a4 q hq
      · rw [nr 6 (by decide) (by decide) (by decide) (by decide)]; exact (a5 q hq).1
    · rw [mr 0 (by omega), n0 8 (by decide) (by decide)]
      exact hr.2.2.2.2.2.1
