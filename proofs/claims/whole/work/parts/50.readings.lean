/-! ===== depths, kinds, louds, walls ===== -/
def rdM (M : Mem) (n : Nat) (Q : Nat → Nat → Nat) : Prop := M 15 4 = I n ∧ ∀ r, r < n → M 16 r = I (Q 0 r) ∧ M 17 r = I (Q 1 r) ∧ M 18 r = I (Q 2 r) ∧ M 19 r = I (Q 3 r)
def rdN (N : Mem) (n : Nat) (Q : Nat → Nat → Nat) : Prop := N 0 25 = I n ∧ ∀ r, r < n → N 13 r = I (Q 0 r) ∧ N 14 r = I (Q 1 r) ∧ N 15 r = I (Q 2 r) ∧ N 16 r = I (Q 3 r)
def rdQ (S : St) (n : Nat) (Q : Nat → Nat → Nat) : Prop := n ≤ 8 ∧ ∀ r, r < n → Q 0 r < S.2.1 ∧ Q 1 r < S.1 ∧ Q 2 r < S.1 ∧ Q 3 r ≤ 1
def hold1 (S : St) (Q : Nat → Nat → Nat) (r : Nat) : Prop := (if wk S (Q 2 r) (sd S (Q 0 r)) (Q 1 r) then 1 else 0) = Q 3 r
def holdB (S : St) (n : Nat) (Q : Nat → Nat → Nat) : Bool := decide (∀ r, r < n → (if wk S (Q 2 r) (sd S (Q 0 r)) (Q 1 r) then 1 else 0) = Q 3 r)
theorem q_bit {M : Mem} {a : Nat} {S : St} (hR : cR M a S) (hS : wf S) {n : Nat} {Q : Nat → Nat → Nat} (hM : rdM M n Q) (hQ : rdQ S n Q) (x : Int32) : f_X1_bitIfAllHold a x M = some (if holdB S n Q then (1 : Int32) <<< (x &&& 31) else 0, M) := by
  have b0 := hQ.1
  have b1 := hS.1
  have b2 := hS.2.1
  have b3 := FU_ge
  have key : ∀ (f i : Nat), i ≤ n → n - i < f → (∀ r, r < i → (if wk S (Q 2 r) (sd S (Q 0 r)) (Q 1 r) then 1 else 0) = Q 3 r) → f_X1_bitIfAllHold_L2 a x (fun M5 => some (((1 : Int32) <<< (x &&& 31)), M5)) f (I i) M = some (if holdB S n Q then (1 : Int32) <<< (x &&& 31) else 0, M) := by
    intro f
    induction f with
    | zero => intro i _ h; omega
    | succ f ih =>
      intro i hi hf hs
      rw [f_X1_bitIfAllHold_L2, hM.1, t_le (by omega) (by omega)]
      by_cases h : i = n
      · subst h
        rw [if_pos (by omega), show holdB S i Q = true from decide_eq_true hs, if_pos rfl]
      · obtain ⟨q1, q2, q3, q4⟩ := hQ.2 i (by omega)
        obtain ⟨m1, m2, m3, m4⟩ := hM.2 i (by omega)
        rw [if_neg (by omega)]
        simp only [grd_ok (show i < 8 by omega) (show 8 ≤ 1000 by decide), I_tn (show i ≤ 2000000000 by omega), m1, m2, m3, m4]
        rw [q_sound hR hS q1, bd_some, m2, q_wakes hR hS q3 (show sd S (Q 0 i) ≤ 9 from sdI_le hS q1) (by omega), bd_some, m4, I_succ]
        by_cases e : (if wk S (Q 2 i) (sd S (Q 0 i)) (Q 1 i) then 1 else 0) = Q 3 i
        · rw [if_pos (by
            rw [← e]
            split <;> rfl)]
          exact ih (i + 1) (by omega) (by omega) (fun r hr => by
            by_cases e2 : r = i
            · subst e2; exact e
            · exact hs r (by omega))
        · have hf : holdB S n Q = false := decide_eq_false (fun g => e (g i (by omega)))
          rw [hf, if_neg (by
            intro g
            apply e
            revert g
            split
            · intro g
              have := (I_eq (a := 1) (b := (Q 3 i : Int)) (by omega) (by omega)).mp g
              omega
            · intro g
              have := (I_eq (a := 0) (b := (Q 3 i : Int)) (by omega) (by omega)).mp g
              omega)]
          rfl
  unfold f_X1_bitIfAllHold
  exact key FU 0 (Nat.zero_le _) (by omega) (fun r hr => by omega)
theorem n_areSo {N : Mem} {S : St} (hR : mR N S) (hS : wf S) {n : Nat} {Q : Nat → Nat → Nat} (hM : rdN N n Q) (hQ : rdQ S n Q) : f_X6_areSo N = some (if holdB S n Q then 1 else 0, N) := by
  have b0 := hQ.1
  have b1 := hS.1
  have b2 := hS.2.1
  have b3 := FU_ge
  have key : ∀ (f i : Nat), i ≤ n → n - i < f → (∀ r, r < i → (if wk S (Q 2 r) (sd S (Q 0 r)) (Q 1 r) then 1 else 0) = Q 3 r) → f_X6_areSo_L2 (fun M3 => some ((1 : Int32), M3)) f (I i) N = some (if holdB S n Q then 1 else 0, N) := by
    intro f
    induction f with
    | zero => intro i _ h; omega
    | succ f ih =>
      intro i hi hf hs
      rw [f_X6_areSo_L2, hM.1, t_le (by omega) (by omega)]
      by_cases h : i = n
      · subst h
        rw [if_pos (by omega), show holdB S i Q = true from decide_eq_true hs, if_pos rfl]
      · obtain ⟨q1, q2, q3, q4⟩ := hQ.2 i (by omega)
        obtain ⟨m1, m2, m3, m4⟩ := hM.2 i (by omega)
        rw [if_neg (by omega)]
        simp only [grd_ok (show i < 8 by omega) (show 8 ≤ 1000 by decide), I_tn (show i ≤ 2000000000 by omega), m1, m2, m3]
        rw [n_wakesFrom hR hS q3 q1 (by omega), bd_some, m4, I_succ, I_0, I_1]
        have fin : (if wk S (Q 2 i) (sd S (Q 0 i)) (Q 1 i) then 1 else 0) = Q 3 i → f_X6_areSo_L2 (fun M3 => some (I 1, M3)) f (I ((i + 1 : Nat) : Int)) N = some (if holdB S n Q then I 1 else I 0, N) := fun e => ih (i + 1) (by omega) (by omega) (fun r hr => by
            by_cases e2 : r = i
            · subst e2; exact e
            · exact hs r (by omega))
        have bad : ¬ (if wk S (Q 2 i) (sd S (Q 0 i)) (Q 1 i) then 1 else 0) = Q 3 i → holdB S n Q = false := fun e => decide_eq_false (fun g => e (g i (by omega)))
        by_cases hw : wk S (Q 2 i) (sd S (Q 0 i)) (Q 1 i) = true
        · rw [if_pos hw, if_neg (show ¬ I 1 = I 0 by decide), t_eq (by omega) (by omega)]
          by_cases e : 1 = Q 3 i
          · rw [if_pos (by omega)]
            exact fin (by rw [if_pos hw]; exact e)
          · rw [if_neg (by omega), bad (by rw [if_pos hw]; exact e)]
            rfl
        · rw [if_neg hw, if_pos rfl, t_eq (by omega) (by omega)]
          by_cases e : 0 = Q 3 i
          · rw [if_pos (by omega)]
            exact fin (by rw [if_neg hw]; exact e)
          · rw [if_neg (by omega), bad (by rw [if_neg hw]; exact e)]
            rfl
  unfold f_X6_areSo
  exact key FU 0 (Nat.zero_le _) (by omega) (fun r hr => by omega)
/-- the set of those from d on, k of them -/
def rset (B : Nat → Bool) : Nat → Nat → Int32 → Int32
  | 0, _, x => x
  | k + 1, d, x => rset B k (d + 1) (x ||| (if B d then (1 : Int32) <<< (I d &&& 31) else 0))
theorem sU_sU (S : St) (j i v u : Nat) : sU (sU S j i v) j i u = sU S j i u := by
  unfold sU
  congr 4
  funext p q
  simp only
  split
  · rfl
  · rfl
theorem rdM_fr {M M' : Mem} {n : Nat} {Q : Nat → Nat → Nat} (h : rdM M n Q) (hm : ∀ r, 15 ≤ r → r < 20 → M' r = M r) : rdM M' n Q := by
  refine ⟨by rw [hm 15 (by decide) (by decide)]; exact h.1, fun r hr => ?_⟩
  rw [hm 16 (by decide) (by decide), hm 17 (by decide) (by decide), hm 18 (by decide) (by decide), hm 19 (by decide) (by decide)]
  exact h.2 r hr
theorem rdN_fr {N N' : Mem} {n : Nat} {Q : Nat → Nat → Nat} (h : rdN N n Q) (h0 : N' 0 25 = N 0 25) (hm : ∀ r, 13 ≤ r → r < 17 → N' r = N r) : rdN N' n Q := by
  refine ⟨by rw [h0]; exact h.1, fun r hr => ?_⟩
  rw [hm 13 (by decide) (by decide), hm 14 (by decide) (by decide), hm 15 (by decide) (by decide), hm 16 (by decide) (by decide)]
  exact h.2 r hr
theorem rdR_M {M N : Mem} {S : St} {n : Nat} {Q : Nat → Nat → Nat} (h : rdR M N S n Q) : rdM M n Q ∧ rdN N n Q ∧ rdQ S n Q := ⟨⟨h.2.1, fun r hr => (h.2.2.2 r hr).2.1⟩, ⟨h.2.2.1, fun r hr => (h.2.2.2 r hr).2.2⟩, ⟨h.1, fun r hr => (h.2.2.2 r hr).1⟩⟩
theorem q_depths {S : St} (hS : wf S) {n : Nat} {Q : Nat → Nat → Nat} (hQ : rdQ S n Q) {h : Nat} (hh : h < S.1) {kx : Int32 → Mem → Option (Int32 × Mem)} : ∀ (k f d v : Nat) (x : Int32) (M : Mem), d + k = 10 → 1 ≤ d → k < f → cR M 7 (sU S 1 h v) → rdM M n Q → ∃ M', f_X5_depths_L28 (I h) kx f x (I d) M = kx (rset (fun d => holdB (sU S 1 h d) n Q) k d x) M' ∧ ∀ r, r ≠ 9 → M' r = M r := by
  have b1 := hS.1
  have b2 := hS.2.1
  intro k
  induction k with
  | zero =>
    intro f d v x M hd hl hf hR hM
    obtain ⟨f, rfl⟩ : ∃ m, f = m + 1 := ⟨f - 1, by omega⟩
    rw [f_X5_depths_L28, I_9, t_lt (by omega) (by omega), if_pos (by omega)]
    exact ⟨M, rfl, fun _ _ => rfl⟩
  | succ k ih =>
    intro f d v x M hd hl hf hR hM
    obtain ⟨f, rfl⟩ : ∃ m, f = m + 1 := ⟨f - 1, by omega⟩
    have hR2 : cR (mu M 9 h (I d)) 7 (sU S 1 h d) := by
      have := cR_su hR 1 h d
      rw [sU_sU] at this
      exact this
    have hM2 : rdM (mu M 9 h (I d)) n Q := rdM_fr hM (fun r _ _ => mu_ne (by omega))
    rw [f_X5_depths_L28, I_9, t_lt (by omega) (by omega), if_neg (by omega), grd_ok (by omega) (by decide), mlt_eq, I_tn (by omega), q_bit hR2 (wf_su hS (by omega) (fun _ => ⟨by omega, by omega⟩) (by omega) (by omega) (by omega)) hM2 hQ, bd_some, ilt_eq, I_succ]
    obtain ⟨M', k1, k2⟩ := ih f (d + 1) d (x ||| (if holdB (sU S 1 h d) n Q then (1 : Int32) <<< (I d &&& 31) else 0)) _ (by omega) (by omega) (by omega) hR2 hM2
    exact ⟨M', k1, fun r hr => by rw [k2 r hr, mu_ne hr]⟩
theorem n_depths {S : St} (hS : wf S) {n : Nat} {Q : Nat → Nat → Nat} (hQ : rdQ S n Q) {h : Nat} (hh : h < S.1) {x2 : Int32} {kx : Int32 → Mem → Option (Int32 × Mem)} : ∀ (k f d v : Nat) (x : Int32) (M : Mem), d + k = 10 → 1 ≤ d → k < f → mR M (sU S 1 h v) → rdN M n Q → ∃ M', f_X6_depths_L22 (I h) x2 kx f x (I d) M = kx (rset (fun d => holdB (sU S 1 h d) n Q) k d x) M' ∧ (∃ u, mR M' (sU S 1 h u)) ∧ ∀ r, r ≠ 5 → M' r = M r := by
  have b1 := hS.1
  have b2 := hS.2.1
  intro k
  induction k with
  | zero =>
    intro f d v x M hd hl hf hR hM
    obtain ⟨f, rfl⟩ : ∃ m, f = m + 1 := ⟨f - 1, by omega⟩
    rw [f_X6_depths_L22, I_9, t_lt (by omega) (by omega), if_pos (by omega)]
    exact ⟨M, rfl, ⟨v, hR⟩, fun _ _ => rfl⟩
  | succ k ih =>
    intro f d v x M hd hl hf hR hM
    obtain ⟨f, rfl⟩ : ∃ m, f = m + 1 := ⟨f - 1, by omega⟩
    have hR2 : mR (mu M 5 h (I d)) (sU S 1 h d) := by
      have := mR_su hR (j := 1) (by decide) h d
      rw [sU_sU] at this
      exact this
    have hM2 : rdN (mu M 5 h (I d)) n Q := rdN_fr hM (mu_nn (by decide)) (fun r _ _ => mu_ne (by omega))
    rw [f_X6_depths_L22, I_9, t_lt (by omega) (by omega), if_neg (by omega), grd_ok (by omega) (by decide), mlt_eq, I_tn (by omega), n_areSo hR2 (wf_su hS (by omega) (fun _ => ⟨by omega, by omega⟩) (by omega) (by omega) (by omega)) hM2 hQ, bd_some, ilt_eq, ilt_eq, I_succ]
    obtain ⟨M', k1, k2, k3⟩ := ih f (d + 1) d (x ||| (if holdB (sU S 1 h d) n Q then (1 : Int32) <<< (I d &&& 31) else 0)) _ (by omega) (by omega) (by omega) hR2 hM2
    refine ⟨M', ?_, k2, fun r hr => by rw [k3 r hr, mu_ne hr]⟩
    rw [rset, ← k1]
    by_cases e : holdB (sU S 1 h d) n Q = true
    · rw [e, if_pos rfl, if_neg i10, if_pos rfl]
    · rw [Bool.not_eq_true] at e
      rw [e, if_neg (show ¬ (false = true) by decide), if_pos rfl, if_neg (show ¬ (false = true) by decide)]
theorem p_depths {M N : Mem} (h : Inv M N) (x1 : Int32) : Ag (f_X5_depths x1 M) (f_X6_depths x1 N) := by
  have h0 := h
  obtain ⟨⟨S, n, Q, Z, hr⟩, e9⟩ := h
  have hS := hr.1.1
  have hR := hr.2.1
  have hN := hr.2.2.1
  have b1 := hS.1
  have b2 := hS.2.1
  have b3 := FU_ge
  obtain ⟨dM, dN, dQ⟩ := rdR_M hr.2.2.2.1
  unfold f_X5_depths f_X6_depths
  rcases hs_cases hR hN hS x1 with ⟨h1, h2⟩ | ⟨k, hk, rfl, h1, h2⟩
  · rw [h1, h2, bd_some, bd_some, if_pos rfl, if_pos rfl]; exact Ag.mk _ h0
  rw [h1, h2, bd_some, bd_some, if_neg i10, if_neg i10, grd_ok (by omega) (by decide), ilt_eq, I_tn (by omega)]
  obtain ⟨M1, k1, k2, k3, -, -⟩ := q_become (a := 7) (b := 1) (by decide) hS hR
  rw [k1, bd_some]
  obtain ⟨M2, l1, l2⟩ := q_depths hS dQ hk (kx := fun e8 M9 => some (e8, M9)) 9 FU 1 (S.2.2.2 1 k) 0 M1 (by decide) (by decide) (by omega) (by rw [sU_self]; exact k2) (rdM_fr dM (fun r _ _ => k3 r (by omega)))
  obtain ⟨N2, c1, ⟨u, c2⟩, c3⟩ := n_depths hS dQ hk (x2 := N 5 k) (kx := fun e9 M10 => grd (I k) 6 (mlt (mu M10 5 k (N 5 k)) (fun M11 => some (e9, M11)))) 9 FU 1 (S.2.2.2 1 k) 0 N (by decide) (by decide) (by omega) (by rw [sU_self]; exact hN) dN
  rw [grd_ok (by omega) (by decide), mlt_eq] at c1
  refine ⟨_, M2, _, l1, c1, ?_⟩
  have mr : ∀ r, r < 7 ∨ 13 ≤ r → M2 r = M r := fun r hr => by rw [l2 r (by omega), k3 r (by omega)]
  have hN3 : mR (mu N2 5 k (N 5 k)) S := by
    have q := mR_su c2 (j := 1) (by decide) k (S.2.2.2 1 k)
    rw [sU_sU, sU_self] at q
    rw [show N 5 k = I (S.2.2.2 1 k) from (hN.2.2.2.1 k hk).2]
    exact q
  refine Inv_of (S := S) (Rel_mk hr hS rfl rfl (cR_fr hR (by rw [mr 1 (by omega)]; exact ⟨rfl, rfl, rfl⟩) (fun r h1 h2 => mr r (by omega))) hN3 (by rw [mr 0 (by omega)]) (by rw [mr 0 (by omega), mu_nn (by decide), c3 0 (by decide)]; exact hr.2.2.2.2.2.1) (fun r h1 => mr r (by omega)) ⟨by rw [mu_nn (by decide), c3 0 (by decide)], by rw [mu_nn (by decide), c3 0 (by decide)]⟩ (fun r h1 => by rw [mu_ne (by omega), c3 r (by omega)])) e9 (by rw [mr 0 (by omega)]) (by rw [mu_nn (by decide), c3 0 (by decide)])
theorem q_kinds {S : St} (hS : wf S) {n : Nat} {Q : Nat → Nat → Nat} (hQ : rdQ S n Q) {h : Nat} (hh : h < S.1) {kx : Int32 → Mem → Option (Int32 × Mem)} : ∀ (k f d v : Nat) (x : Int32) (M : Mem), d + k = 3 → 0 ≤ d → k < f → cR M 7 (sU S 0 h v) → rdM M n Q → ∃ M', f_X5_kinds_L28 (I h) kx f x (I d) M = kx (rset (fun d => holdB (sU S 0 h d) n Q) k d x) M' ∧ ∀ r, r ≠ 8 → M' r = M r := by
  have b1 := hS.1
  have b2 := hS.2.1
  intro k
  induction k with
  | zero =>
    intro f d v x M hd hl hf hR hM
    obtain ⟨f, rfl⟩ : ∃ m, f = m + 1 := ⟨f - 1, by omega⟩
    rw [f_X5_kinds_L28, I_2, t_lt (by omega) (by omega), if_pos (by omega)]
    exact ⟨M, rfl, fun _ _ => rfl⟩
  | succ k ih =>
    intro f d v x M hd hl hf hR hM
    obtain ⟨f, rfl⟩ : ∃ m, f = m + 1 := ⟨f - 1, by omega⟩
    have hR2 : cR (mu M 8 h (I d)) 7 (sU S 0 h d) := by
      have := cR_su hR 0 h d
      rw [sU_sU] at this
      exact this
    have hM2 : rdM (mu M 8 h (I d)) n Q := rdM_fr hM (fun r _ _ => mu_ne (by omega))
    rw [f_X5_kinds_L28, I_2, t_lt (by omega) (by omega), if_neg (by omega), grd_ok (by omega) (by decide), mlt_eq, I_tn (by omega), q_bit hR2 (wf_su hS (fun _ => by omega) (by omega) (by omega) (by omega) (by omega)) hM2 hQ, bd_some, ilt_eq, I_succ]
    obtain ⟨M', k1, k2⟩ := ih f (d + 1) d (x ||| (if holdB (sU S 0 h d) n Q then (1 : Int32) <<< (I d &&& 31) else 0)) _ (by omega) (by omega) (by omega) hR2 hM2
    exact ⟨M', k1, fun r hr => by rw [k2 r hr, mu_ne hr]⟩
theorem n_kinds {S : St} (hS : wf S) {n : Nat} {Q : Nat → Nat → Nat} (hQ : rdQ S n Q) {h : Nat} (hh : h < S.1) {x2 : Int32} {kx : Int32 → Mem → Option (Int32 × Mem)} : ∀ (k f d v : Nat) (x : Int32) (M : Mem), d + k = 3 → 0 ≤ d → k < f → mR M (sU S 0 h v) → rdN M n Q → ∃ M', f_X6_kinds_L22 (I h) x2 kx f x (I d) M = kx (rset (fun d => holdB (sU S 0 h d) n Q) k d x) M' ∧ (∃ u, mR M' (sU S 0 h u)) ∧ ∀ r, r ≠ 4 → M' r = M r := by
  have b1 := hS.1
  have b2 := hS.2.1
  intro k
  induction k with
  | zero =>
    intro f d v x M hd hl hf hR hM
    obtain ⟨f, rfl⟩ : ∃ m, f = m + 1 := ⟨f - 1, by omega⟩
    rw [f_X6_kinds_L22, I_3, t_le (by omega) (by omega), if_pos (by omega)]
    exact ⟨M, rfl, ⟨v, hR⟩, fun _ _ => rfl⟩
  | succ k ih =>
    intro f d v x M hd hl hf hR hM
    obtain ⟨f, rfl⟩ : ∃ m, f = m + 1 := ⟨f - 1, by omega⟩
    have hR2 : mR (mu M 4 h (I d)) (sU S 0 h d) := by
      have := mR_su hR (j := 0) (by decide) h d
      rw [sU_sU] at this
      exact this
    have hM2 : rdN (mu M 4 h (I d)) n Q := rdN_fr hM (mu_nn (by decide)) (fun r _ _ => mu_ne (by omega))
    rw [f_X6_kinds_L22, I_3, t_le (by omega) (by omega), if_neg (by omega), grd_ok (by omega) (by decide), mlt_eq, I_tn (by omega), n_areSo hR2 (wf_su hS (fun _ => by omega) (by omega) (by omega) (by omega) (by omega)) hM2 hQ, bd_some, ilt_eq, ilt_eq, I_succ]
    obtain ⟨M', k1, k2, k3⟩ := ih f (d + 1) d (x ||| (if holdB (sU S 0 h d) n Q then (1 : Int32) <<< (I d &&& 31) else 0)) _ (by omega) (by omega) (by omega) hR2 hM2
    refine ⟨M', ?_, k2, fun r hr => by rw [k3 r hr, mu_ne hr]⟩
    rw [rset, ← k1]
    by_cases e : holdB (sU S 0 h d) n Q = true
    · rw [e, if_pos rfl, if_neg i10, if_pos rfl]
    · rw [Bool.not_eq_true] at e
      rw [e, if_neg (show ¬ (false = true) by decide), if_pos rfl, if_neg (show ¬ (false = true) by decide)]
theorem p_kinds {M N : Mem} (h : Inv M N) (x1 : Int32) : Ag (f_X5_kinds x1 M) (f_X6_kinds x1 N) := by
  have h0 := h
  obtain ⟨⟨S, n, Q, Z, hr⟩, e9⟩ := h
  have hS := hr.1.1
  have hR := hr.2.1
  have hN := hr.2.2.1
  have b1 := hS.1
  have b2 := hS.2.1
  have b3 := FU_ge
  obtain ⟨dM, dN, dQ⟩ := rdR_M hr.2.2.2.1
  unfold f_X5_kinds f_X6_kinds
  rcases hs_cases hR hN hS x1 with ⟨h1, h2⟩ | ⟨k, hk, rfl, h1, h2⟩
  · rw [h1, h2, bd_some, bd_some, if_pos rfl, if_pos rfl]; exact Ag.mk _ h0
  rw [h1, h2, bd_some, bd_some, if_neg i10, if_neg i10, grd_ok (by omega) (by decide), ilt_eq, I_tn (by omega)]
  obtain ⟨M1, k1, k2, k3, -, -⟩ := q_become (a := 7) (b := 1) (by decide) hS hR
  rw [k1, bd_some]
  obtain ⟨M2, l1, l2⟩ := q_kinds hS dQ hk (kx := fun e8 M9 => some (e8, M9)) 3 FU 0 (S.2.2.2 0 k) 0 M1 (by decide) (by decide) (by omega) (by rw [sU_self]; exact k2) (rdM_fr dM (fun r _ _ => k3 r (by omega)))
  obtain ⟨N2, c1, ⟨u, c2⟩, c3⟩ := n_kinds hS dQ hk (x2 := N 4 k) (kx := fun e9 M10 => grd (I k) 6 (mlt (mu M10 4 k (N 4 k)) (fun M11 => some (e9, M11)))) 3 FU 0 (S.2.2.2 0 k) 0 N (by decide) (by decide) (by omega) (by rw [sU_self]; exact hN) dN
  rw [grd_ok (by omega) (by decide), mlt_eq] at c1
  refine ⟨_, M2, _, l1, c1, ?_⟩
  have mr : ∀ r, r < 7 ∨ 13 ≤ r → M2 r = M r := fun r hr => by rw [l2 r (by omega), k3 r (by omega)]
  have hN3 : mR (mu N2 4 k (N 4 k)) S := by
    have q := mR_su c2 (j := 0) (by decide) k (S.2.2.2 0 k)
    rw [sU_sU, sU_self] at q
    rw [show N 4 k = I (S.2.2.2 0 k) from (hN.2.2.2.1 k hk).1]
    exact q
  refine Inv_of (S := S) (Rel_mk hr hS rfl rfl (cR_fr hR (by rw [mr 1 (by omega)]; exact ⟨rfl, rfl, rfl⟩) (fun r h1 h2 => mr r (by omega))) hN3 (by rw [mr 0 (by omega)]) (by rw [mr 0 (by omega), mu_nn (by decide), c3 0 (by decide)]; exact hr.2.2.2.2.2.1) (fun r h1 => mr r (by omega)) ⟨by rw [mu_nn (by decide), c3 0 (by decide)], by rw [mu_nn (by decide), c3 0 (by decide)]⟩ (fun r h1 => by rw [mu_ne (by omega), c3 r (by omega)])) e9 (by rw [mr 0 (by omega)]) (by rw [mu_nn (by decide), c3 0 (by decide)])
theorem q_louds {S : St} (hS : wf S) {n : Nat} {Q : Nat → Nat → Nat} (hQ : rdQ S n Q) {h : Nat} (hh : h < S.2.1) {kx : Int32 → Mem → Option (Int32 × Mem)} : ∀ (k f d v : Nat) (x : Int32) (M : Mem), d + k = 10 → 1 ≤ d → k < f → cR M 7 (sU S 2 h v) → rdM M n Q → ∃ M', f_X5_louds_L28 (I h) kx f x (I d) M = kx (rset (fun d => holdB (sU S 2 h d) n Q) k d x) M' ∧ ∀ r, r ≠ 10 → M' r = M r := by
  have b1 := hS.1
  have b2 := hS.2.1
  intro k
  induction k with
  | zero =>
    intro f d v x M hd hl hf hR hM
    obtain ⟨f, rfl⟩ : ∃ m, f = m + 1 := ⟨f - 1, by omega⟩
    rw [f_X5_louds_L28, I_9, t_lt (by omega) (by omega), if_pos (by omega)]
    exact ⟨M, rfl, fun _ _ => rfl⟩
  | succ k ih =>
    intro f d v x M hd hl hf hR hM
    obtain ⟨f, rfl⟩ : ∃ m, f = m + 1 := ⟨f - 1, by omega⟩
    have hR2 : cR (mu M 10 h (I d)) 7 (sU S 2 h d) := by
      have := cR_su hR 2 h d
      rw [sU_sU] at this
      exact this
    have hM2 : rdM (mu M 10 h (I d)) n Q := rdM_fr hM (fun r _ _ => mu_ne (by omega))
    rw [f_X5_louds_L28, I_9, t_lt (by omega) (by omega), if_neg (by omega), grd_ok (by omega) (by decide), mlt_eq, I_tn (by omega), q_bit hR2 (wf_su hS (by omega) (by omega) (fun _ => ⟨by omega, by omega⟩) (by omega) (by omega)) hM2 hQ, bd_some, ilt_eq, I_succ]
    obtain ⟨M', k1, k2⟩ := ih f (d + 1) d (x ||| (if holdB (sU S 2 h d) n Q then (1 : Int32) <<< (I d &&& 31) else 0)) _ (by omega) (by omega) (by omega) hR2 hM2
    exact ⟨M', k1, fun r hr => by rw [k2 r hr, mu_ne hr]⟩
theorem n_louds {S : St} (hS : wf S) {n : Nat} {Q : Nat → Nat → Nat} (hQ : rdQ S n Q) {h : Nat} (hh : h < S.2.1) {x2 : Int32} {kx : Int32 → Mem → Option (Int32 × Mem)} : ∀ (k f d v : Nat) (x : Int32) (M : Mem), d + k = 10 → 1 ≤ d → k < f → mR M (sU S 2 h v) → rdN M n Q → ∃ M', f_X6_louds_L22 (I h) x2 kx f x (I d) M = kx (rset (fun d => holdB (sU S 2 h d) n Q) k d x) M' ∧ (∃ u, mR M' (sU S 2 h u)) ∧ ∀ r, r ≠ 6 → M' r = M r := by
  have b1 := hS.1
  have b2 := hS.2.1
  intro k
  induction k with
  | zero =>
    intro f d v x M hd hl hf hR hM
    obtain ⟨f, rfl⟩ : ∃ m, f = m + 1 := ⟨f - 1, by omega⟩
    rw [f_X6_louds_L22, I_9, t_lt (by omega) (by omega), if_pos (by omega)]
    exact ⟨M, rfl, ⟨v, hR⟩, fun _ _ => rfl⟩
  | succ k ih =>
    intro f d v x M hd hl hf hR hM
    obtain ⟨f, rfl⟩ : ∃ m, f = m + 1 := ⟨f - 1, by omega⟩
    have hR2 : mR (mu M 6 h (I d)) (sU S 2 h d) := by
      have := mR_su hR (j := 2) (by decide) h d
      rw [sU_sU] at this
      exact this
    have hM2 : rdN (mu M 6 h (I d)) n Q := rdN_fr hM (mu_nn (by decide)) (fun r _ _ => mu_ne (by omega))
    rw [f_X6_louds_L22, I_9, t_lt (by omega) (by omega), if_neg (by omega), grd_ok (by omega) (by decide), mlt_eq, I_tn (by omega), n_areSo hR2 (wf_su hS (by omega) (by omega) (fun _ => ⟨by omega, by omega⟩) (by omega) (by omega)) hM2 hQ, bd_some, ilt_eq, ilt_eq, I_succ]
    obtain ⟨M', k1, k2, k3⟩ := ih f (d + 1) d (x ||| (if holdB (sU S 2 h d) n Q then (1 : Int32) <<< (I d &&& 31) else 0)) _ (by omega) (by omega) (by omega) hR2 hM2
    refine ⟨M', ?_, k2, fun r hr => by rw [k3 r hr, mu_ne hr]⟩
    rw [rset, ← k1]
    by_cases e : holdB (sU S 2 h d) n Q = true
    · rw [e, if_pos rfl, if_neg i10, if_pos rfl]
    · rw [Bool.not_eq_true] at e
      rw [e, if_neg (show ¬ (false = true) by decide), if_pos rfl, if_neg (show ¬ (false = true) by decide)]
theorem p_louds {M N : Mem} (h : Inv M N) (x1 : Int32) : Ag (f_X5_louds x1 M) (f_X6_louds x1 N) := by
  have h0 := h
  obtain ⟨⟨S, n, Q, Z, hr⟩, e9⟩ := h
  have hS := hr.1.1
  have hR := hr.2.1
  have hN := hr.2.2.1
  have b1 := hS.1
  have b2 := hS.2.1
  have b3 := FU_ge
  obtain ⟨dM, dN, dQ⟩ := rdR_M hr.2.2.2.1
  unfold f_X5_louds f_X6_louds
  rcases ck_cases hR hN hS x1 with ⟨h1, h2⟩ | ⟨k, hk, rfl, h1, h2⟩
  · rw [h1, h2, bd_some, bd_some, if_pos rfl, if_pos rfl]; exact Ag.mk _ h0
  rw [h1, h2, bd_some, bd_some, if_neg i10, if_neg i10, grd_ok (by omega) (by decide), ilt_eq, I_tn (by omega)]
  obtain ⟨M1, k1, k2, k3, -, -⟩ := q_become (a := 7) (b := 1) (by decide) hS hR
  rw [k1, bd_some]
  obtain ⟨M2, l1, l2⟩ := q_louds hS dQ hk (kx := fun e8 M9 => some (e8, M9)) 9 FU 1 (S.2.2.2 2 k) 0 M1 (by decide) (by decide) (by omega) (by rw [sU_self]; exact k2) (rdM_fr dM (fun r _ _ => k3 r (by omega)))
  obtain ⟨N2, c1, ⟨u, c2⟩, c3⟩ := n_louds hS dQ hk (x2 := N 6 k) (kx := fun e9 M10 => grd (I k) 4 (mlt (mu M10 6 k (N 6 k)) (fun M11 => some (e9, M11)))) 9 FU 1 (S.2.2.2 2 k) 0 N (by decide) (by decide) (by omega) (by rw [sU_self]; exact hN) dN
  rw [grd_ok (by omega) (by decide), mlt_eq] at c1
  refine ⟨_, M2, _, l1, c1, ?_⟩
  have mr : ∀ r, r < 7 ∨ 13 ≤ r → M2 r = M r := fun r hr => by rw [l2 r (by omega), k3 r (by omega)]
  have hN3 : mR (mu N2 6 k (N 6 k)) S := by
    have q := mR_su c2 (j := 2) (by decide) k (S.2.2.2 2 k)
    rw [sU_sU, sU_self] at q
    rw [show N 6 k = I (S.2.2.2 2 k) from (hN.2.2.2.2.1 k hk).1]
    exact q
  refine Inv_of (S := S) (Rel_mk hr hS rfl rfl (cR_fr hR (by rw [mr 1 (by omega)]; exact ⟨rfl, rfl, rfl⟩) (fun r h1 h2 => mr r (by omega))) hN3 (by rw [mr 0 (by omega)]) (by rw [mr 0 (by omega), mu_nn (by decide), c3 0 (by decide)]; exact hr.2.2.2.2.2.1) (fun r h1 => mr r (by omega)) ⟨by rw [mu_nn (by decide), c3 0 (by decide)], by rw [mu_nn (by decide), c3 0 (by decide)]⟩ (fun r h1 => by rw [mu_ne (by omega), c3 r (by omega)])) e9 (by rw [mr 0 (by omega)]) (by rw [mu_nn (by decide), c3 0 (by decide)])
def sT (S : St) (t : Nat) : St := (S.1, S.2.1, t, S.2.2.2)
theorem wf_sT {S : St} (h : wf S) {t : Nat} (ht : t ≤ 3) : wf (sT S t) := ⟨h.1, h.2.1, ht, h.2.2.2⟩
theorem cR_sT {M : Mem} {a : Nat} {S : St} (h : cR M a S) (t : Nat) : cR (mu M a 7 (I t)) a (sT S t) := by
  obtain ⟨h1, h2, h3, h4, h5⟩ := h
  refine ⟨by rw [mu_f (by decide)]; exact h1, by rw [mu_f (by decide)]; exact h2, by rw [mu_v]; rfl, fun q hq => ?_, fun q hq => ?_⟩
  · rw [mu_nn (by omega), mu_nn (by omega)]; exact h4 q hq
  · rw [mu_nn (by omega), mu_nn (by omega), mu_nn (by omega)]; exact h5 q hq
theorem mR_sT {N : Mem} {S : St} (h : mR N S) (t : Nat) : mR (mu N 0 5 (I t)) (sT S t) := by
  obtain ⟨h1, h2, h3, h4, h5, h6⟩ := h
  refine ⟨by rw [mu_f (by decide)]; exact h1, by rw [mu_f (by decide)]; exact h2, by rw [mu_v]; rfl, fun q hq => ?_, fun q hq => ?_, by rw [mu_f (by decide)]; exact h6⟩
  · rw [mu_nn (by omega), mu_nn (by omega)]; exact h4 q hq
  · rw [mu_nn (by omega), mu_nn (by omega)]; exact h5 q hq
theorem q_walls {S : St} (hS : wf S) {n : Nat} {Q : Nat → Nat → Nat} (hQ : rdQ S n Q) {kx : Int32 → Mem → Option (Int32 × Mem)} : ∀ (k f d v : Nat) (x : Int32) (M : Mem), d + k = 4 → k < f → cR M 7 (sT S v) → rdM M n Q → ∃ M', f_X5_walls_L28 kx f x (I d) M = kx (rset (fun d => holdB (sT S d) n Q) k d x) M' ∧ ∀ r, r ≠ 7 → M' r = M r := by
  intro k
  induction k with
  | zero =>
    intro f d v x M hd hf hR hM
    obtain ⟨f, rfl⟩ : ∃ m, f = m + 1 := ⟨f - 1, by omega⟩
    rw [f_X5_walls_L28, I_3, t_lt (by omega) (by omega), if_pos (by omega)]
    exact ⟨M, rfl, fun _ _ => rfl⟩
  | succ k ih =>
    intro f d v x M hd hf hR hM
    obtain ⟨f, rfl⟩ : ∃ m, f = m + 1 := ⟨f - 1, by omega⟩
    have hR2 : cR (mu M 7 7 (I d)) 7 (sT S d) := cR_sT hR d
    have hM2 : rdM (mu M 7 7 (I d)) n Q := rdM_fr hM (fun r _ _ => mu_ne (by omega))
    rw [f_X5_walls_L28, I_3, t_lt (by omega) (by omega), if_neg (by omega), mlt_eq, q_bit hR2 (wf_sT hS (by omega)) hM2 hQ, bd_some, ilt_eq, I_succ]
    obtain ⟨M', k1, k2⟩ := ih f (d + 1) d (x ||| (if holdB (sT S d) n Q then (1 : Int32) <<< (I d &&& 31) else 0)) _ (by omega) (by omega) hR2 hM2
    exact ⟨M', k1, fun r hr => by rw [k2 r hr, mu_ne hr]⟩
theorem n_walls {S : St} (hS : wf S) {n : Nat} {Q : Nat → Nat → Nat} (hQ : rdQ S n Q) {x1 : Int32} {kx : Int32 → Mem → Option (Int32 × Mem)} : ∀ (k f d v : Nat) (x : Int32) (M : Mem), d + k = 4 → k < f → mR M (sT S v) → rdN M n Q → ∃ M', f_X6_walls_L19 x1 kx f x (I d) M = kx (rset (fun d => holdB (sT S d) n Q) k d x) M' ∧ (∃ u, mR M' (sT S u)) ∧ (∀ r, r ≠ 0 → M' r = M r) ∧ ∀ k, k ≠ 5 → M' 0 k = M 0 k := by
  intro k
  induction k with
  | zero =>
    intro f d v x M hd hf hR hM
    obtain ⟨f, rfl⟩ : ∃ m, f = m + 1 := ⟨f - 1, by omega⟩
    rw [f_X6_walls_L19, I_3, t_lt (by omega) (by omega), if_pos (by omega)]
    exact ⟨M, rfl, ⟨v, hR⟩, fun _ _ => rfl, fun _ _ => rfl⟩
  | succ k ih =>
    intro f d v x M hd hf hR hM
    obtain ⟨f, rfl⟩ : ∃ m, f = m + 1 := ⟨f - 1, by omega⟩
    have hR2 : mR (mu M 0 5 (I d)) (sT S d) := mR_sT hR d
    have hM2 : rdN (mu M 0 5 (I d)) n Q := rdN_fr hM (mu_f (by decide)) (fun r _ _ => mu_ne (by omega))
    rw [f_X6_walls_L19, I_3, t_lt (by omega) (by omega), if_neg (by omega), mlt_eq, n_areSo hR2 (wf_sT hS (by omega)) hM2 hQ, bd_some, ilt_eq, ilt_eq, I_succ]
    obtain ⟨M', k1, k2, k3, k4⟩ := ih f (d + 1) d (x ||| (if holdB (sT S d) n Q then (1 : Int32) <<< (I d &&& 31) else 0)) _ (by omega) (by omega) hR2 hM2
    refine ⟨M', ?_, k2, fun r hr => by rw [k3 r hr, mu_ne hr], fun q hq => by rw [k4 q hq, mu_f hq]⟩
    rw [rset, ← k1]
    by_cases e : holdB (sT S d) n Q = true
    · rw [e, if_pos rfl, if_neg i10, if_pos rfl]
    · rw [Bool.not_eq_true] at e
      rw [e, if_neg (show ¬ (false = true) by decide), if_pos rfl, if_neg (show ¬ (false = true) by decide)]
theorem p_walls {M N : Mem} (h : Inv M N) : Ag (f_X5_walls M) (f_X6_walls N) := by
  have h0 := h
  obtain ⟨⟨S, n, Q, Z, hr⟩, e9⟩ := h
  have hS := hr.1.1
  have hR := hr.2.1
  have hN := hr.2.2.1
  have b3 := FU_ge
  obtain ⟨dM, dN, dQ⟩ := rdR_M hr.2.2.2.1
  unfold f_X5_walls f_X6_walls
  rw [c_stands hR hS, bd_some]
  by_cases hz : S.1 = 0
  · rw [if_pos hz, if_pos rfl, if_pos ((m_stands hN hS).mpr hz)]; exact Ag.mk _ h0
  rw [if_neg hz, if_neg i10, if_neg (fun q => hz ((m_stands hN hS).mp q)), ilt_eq]
  obtain ⟨M1, k1, k2, k3, -, -⟩ := q_become (a := 7) (b := 1) (by decide) hS hR
  rw [k1, bd_some]
  obtain ⟨M2, l1, l2⟩ := q_walls hS dQ (kx := fun e8 M9 => some (e8, M9)) 4 FU 0 S.2.2.1 0 M1 (by decide) (by omega) k2 (rdM_fr dM (fun r _ _ => k3 r (by omega)))
  obtain ⟨N2, c1, ⟨u, c2⟩, c3, c4⟩ := n_walls hS dQ (x1 := N 0 5) (kx := fun e7 M8 => mlt (mu M8 0 5 (N 0 5)) (fun M9 => some (e7, M9))) 4 FU 0 S.2.2.1 0 N (by decide) (by omega) hN dN
  rw [mlt_eq] at c1
  refine ⟨_, M2, _, l1, c1, ?_⟩
  have mr : ∀ r, r < 7 ∨ 13 ≤ r → M2 r = M r := fun r hr => by rw [l2 r (by omega), k3 r (by omega)]
  have hN3 : mR (mu N2 0 5 (N 0 5)) S := by
    have q := mR_sT c2 S.2.2.1
    rw [hN.2.2.1]
    exact q
  refine Inv_of (S := S) (Rel_mk hr hS rfl rfl (cR_fr hR (by rw [mr 1 (by omega)]; exact ⟨rfl, rfl, rfl⟩) (fun r h1 h2 => mr r (by omega))) hN3 (by rw [mr 0 (by omega)]) (by rw [mr 0 (by omega), mu_f (by decide), c4 8 (by decide)]; exact hr.2.2.2.2.2.1) (fun r h1 => mr r (by omega)) ⟨by rw [mu_f (by decide), c4 1 (by decide)], by rw [mu_f (by decide), c4 25 (by decide)]⟩ (fun r h1 => by rw [mu_ne (by omega), c3 r (by omega)])) e9 (by rw [mr 0 (by omega)]) (by rw [mu_f (by decide), c4 0 (by decide)])
