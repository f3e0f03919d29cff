/-! ===== hush, odds ===== -/
def hp (S : St) (h c : Nat) : Bool := wk S h (sd S c) (S.2.2.2 3 c)
def hb (S : St) (h c : Nat) : Bool := wk S h (sdI S c 1) (S.2.2.2 3 c)
theorem hb_hp {S : St} {h c : Nat} (e : S.2.2.2 4 c = 1) : hb S h c = hp S h c := by unfold hb hp sd; rw [e]
def canB (S : St) (h i : Nat) : Bool := decide (∀ c, c < i → hp S h c = true → hb S h c = false)
theorem canB_iff {S : St} {h i : Nat} : canB S h i = true ↔ ∀ c, c < i → hp S h c = true → hb S h c = false := decide_eq_true_iff
theorem q_hush {M : Mem} {S : St} (hR : cR M 1 S) (hS : wf S) {h : Nat} (hh : h < S.1) : ∀ (f i : Nat), i ≤ S.2.1 → S.2.1 - i < f → (∀ c, c < i → hp S h c = true → hb S h c = false) → f_X5_hush_L17 (I h) (fun e12 M13 => some (e12, M13)) f (bs (hp S h) i) (I i) M = some (if canB S h S.2.1 then bs (hp S h) S.2.1 else -9, M) := by
  have b1 := hS.1
  have b2 := hS.2.1
  intro f
  induction f with
  | zero => intro i _ h; omega
  | succ f ih =>
    intro i hi hf hs
    rw [f_X5_hush_L17, hR.2.1, t_le (by omega) (by omega)]
    by_cases e : i = S.2.1
    · subst e
      rw [if_pos (by omega), show canB S h S.2.1 = true from canB_iff.mpr hs, if_pos rfl]
    · have hi2 : i < S.2.1 := by omega
      have q := hS.2.2.2.2 i hi2
      obtain ⟨m1, m2, m3⟩ := hR.2.2.2.2 i hi2
      rw [if_neg (by omega), q_sound hR hS hi2, bd_some]
      simp only [grd_ok (show i < 4 by omega) (show 4 ≤ 1000 by decide), I_tn (show i ≤ 2000000000 by omega), show M 5 i = I (S.2.2.2 3 i) from m2, show M 6 i = I (S.2.2.2 4 i) from m3, I_succ]
      rw [q_wakes hR hS hh (show sd S i ≤ 9 from sdI_le hS hi2) (by omega), bd_some, m3]
      have step : (hp S h i = true → hb S h i = false) → ∀ c, c < i + 1 → hp S h c = true → hb S h c = false := fun g c hc => by
        by_cases e2 : c = i
        · subst e2; exact g
        · exact hs c (by omega)
      by_cases hw : wk S h (sd S i) (S.2.2.2 3 i) = true
      · have hpi : hp S h i = true := hw
        rw [if_pos hw, if_neg (show ¬ I 1 = 0 by decide)]
        rcases (show S.2.2.2 4 i = 0 ∨ S.2.2.2 4 i = 1 by omega) with e4 | e4
        · rw [e4, if_pos (show I ((0 : Nat) : Int) = 0 by decide), show (1 : Int32) = I ((1 : Nat) : Int) from I_1, q_soundIf hR hS hi2 (by decide), bd_some, m2, q_wakes hR hS hh (sdI_le hS hi2) (by omega), bd_some, ilt_eq]
          by_cases hw2 : wk S h (sdI S i 1) (S.2.2.2 3 i) = true
          · have : canB S h S.2.1 = false := by
              rw [← Bool.not_eq_true]
              intro g
              have := canB_iff.mp g i hi2 hpi
              rw [show hb S h i = true from hw2] at this
              cases this
            rw [if_pos hw2, if_neg (show ¬ I 1 = 0 by decide), this]
            rfl
          · have hbi : hb S h i = false := by rw [← Bool.not_eq_true]; exact hw2
            rw [if_neg hw2, if_pos (show I 0 = 0 by decide)]
            have := ih (i + 1) (by omega) (by omega) (step (fun _ => hbi))
            rw [bs, if_pos hpi] at this
            exact this
        · have : canB S h S.2.1 = false := by
            rw [← Bool.not_eq_true]
            intro g
            have := canB_iff.mp g i hi2 hpi
            rw [hb_hp e4, hpi] at this
            cases this
          rw [e4, if_neg (show ¬ I ((1 : Nat) : Int) = 0 by decide), this]
          rfl
      · have hpi : ¬ hp S h i = true := hw
        rw [if_neg hw, if_pos (show I 0 = 0 by decide)]
        have := ih (i + 1) (by omega) (by omega) (step (fun g => absurd g hpi))
        rw [bs, if_neg hpi] at this
        exact this
/-- the reference's street while it asks: those of the first that wake the sleeper are stuffed -/
def hst (S : St) (h : Nat) : Nat → St
  | 0 => S
  | i + 1 => if hp S h i then sU (hst S h i) 4 i 1 else hst S h i
theorem hst_1 (S : St) (h : Nat) : ∀ i, (hst S h i).1 = S.1 ∧ (hst S h i).2.1 = S.2.1 ∧ (hst S h i).2.2.1 = S.2.2.1 ∧ (∀ j q, j ≠ 4 → (hst S h i).2.2.2 j q = S.2.2.2 j q) ∧ ∀ q, i ≤ q → (hst S h i).2.2.2 4 q = S.2.2.2 4 q
  | 0 => ⟨rfl, rfl, rfl, fun _ _ _ => rfl, fun _ _ => rfl⟩
  | i + 1 => by
    obtain ⟨h1, h2, h3, h4, h5⟩ := hst_1 S h i
    rw [hst]
    split
    · refine ⟨h1, h2, h3, fun j q hj => ?_, fun q hq => ?_⟩
      · show (if j = 4 ∧ q = i then 1 else (hst S h i).2.2.2 j q) = _
        rw [if_neg (fun x => hj x.1), h4 j q hj]
      · show (if 4 = 4 ∧ q = i then 1 else (hst S h i).2.2.2 4 q) = _
        rw [if_neg (by omega), h5 q (by omega)]
    · exact ⟨h1, h2, h3, h4, fun q hq => h5 q (by omega)⟩
theorem hst_wf {S : St} (hS : wf S) (h : Nat) : ∀ i, wf (hst S h i)
  | 0 => hS
  | i + 1 => by
    rw [hst]
    split
    · exact wf_su (hst_wf hS h i) (by omega) (by omega) (by omega) (by omega) (by omega)
    · exact hst_wf hS h i
theorem wk_cg {S S' : St} {h s p : Nat} (e1 : S'.2.2.1 = S.2.2.1) (e2 : S'.2.2.2 0 h = S.2.2.2 0 h) (e3 : S'.2.2.2 1 h = S.2.2.2 1 h) : wk S' h s p = wk S h s p := by
  unfold wk hr nd
  rw [e1, e2, e3]
theorem sdI_cg {S S' : St} {c b : Nat} (e : S'.2.2.2 2 c = S.2.2.2 2 c) : sdI S' c b = sdI S c b := by
  unfold sdI
  rw [e]
theorem n_hush {S : St} (hS : wf S) {h : Nat} (hh : h < S.1) {kx : Int32 → Int32 → Mem → Option (Int32 × Mem)} : ∀ (f i : Nat) (N : Mem), i ≤ S.2.1 → S.2.1 - i < f → mR N (hst S h i) → ∃ N', f_X6_hush_L23 (I h) (I ((mk (S.2.2.2 4) S.2.1 : Nat) : Int)) kx f (bs (fun c => hp S h c && decide (S.2.2.2 4 c = 0)) i) (if canB S h i then 1 else 0) (I i) N = kx (bs (fun c => hp S h c && decide (S.2.2.2 4 c = 0)) S.2.1) (if canB S h S.2.1 then 1 else 0) N' ∧ (∀ r, r ≠ 0 → N' r = N r) ∧ ∀ k, k ≠ 9 → N' 0 k = N 0 k := by
  have b1 := hS.1
  have b2 := hS.2.1
  intro f
  induction f with
  | zero => intro i N _ h; omega
  | succ f ih =>
    intro i N hi hf hR
    obtain ⟨g1, g2, g3, g4, g5⟩ := hst_1 S h i
    have hw := hst_wf hS h i
    rw [f_X6_hush_L23, hR.2.1, g2, t_le (by omega) (by omega)]
    by_cases e : i = S.2.1
    · subst e
      rw [if_pos (by omega)]
      exact ⟨N, rfl, fun _ _ => rfl, fun _ _ => rfl⟩
    · have hi2 : i < S.2.1 := by omega
      have q := hS.2.2.2.2 i hi2
      have hi3 : i < (hst S h i).2.1 := by rw [g2]; exact hi2
      have hh3 : h < (hst S h i).1 := by rw [g1]; exact hh
      have hpl := (hR.2.2.2.2.1 i hi3).2
      rw [g4 3 i (by decide)] at hpl
      have hsd : sd (hst S h i) i = sd S i := by
        unfold sd
        rw [g5 i (Nat.le_refl _), sdI_cg (g4 2 i (by decide))]
      have hwk : wk (hst S h i) h (sd (hst S h i) i) (S.2.2.2 3 i) = hp S h i := by
        rw [hsd]
        exact wk_cg g3 (g4 0 h (by decide)) (g4 1 h (by decide))
      rw [if_neg (by omega)]
      simp only [grd_ok (show i < 4 by omega) (show 4 ≤ 1000 by decide), I_tn (show i ≤ 2000000000 by omega), I_succ]
      rw [hpl, n_wakesFrom hR hw hh3 hi3 (by omega), bd_some, hwk]
      by_cases hpi : hp S h i = true
      · have hbit : mk ((hst S h i).2.2.2 4) S.2.1 / 2 ^ i % 2 = S.2.2.2 4 i := by
          have := st_bit hw hi3
          rw [g2] at this
          rw [this]
          exact g5 i (Nat.le_refl _)
        have h16 : mk ((hst S h i).2.2.2 4) S.2.1 < 16 := by
          have := st_16 hw
          rw [g2] at this
          exact this
        have hm9 := hR.2.2.2.2.2
        rw [g2] at hm9
        have hsu := mk_su ((hst S h i).2.2.2 4) i 1 S.2.1 hi2
        rw [g5 i (Nat.le_refl _)] at hsu
        have hnew : N 0 9 ||| ((1 : Int32) <<< (I (i : Int) &&& 31)) = I ((mk ((sU (hst S h i) 4 i 1).2.2.2 4) (hst S h i).2.1 : Nat) : Int) := by
          rw [hm9, g2]
          rcases (show S.2.2.2 4 i = 0 ∨ S.2.2.2 4 i = 1 by omega) with e4 | e4
          · rw [bt_or _ h16 i (by omega) (by rw [hbit, e4])]
            congr 2
            show _ = mk (fun q => if 4 = 4 ∧ q = i then 1 else (hst S h i).2.2.2 4 q) S.2.1
            rw [e4] at hsu
            omega
          · rw [bt_or1 _ h16 i (by omega) (by rw [hbit, e4])]
            congr 2
            show _ = mk (fun q => if 4 = 4 ∧ q = i then 1 else (hst S h i).2.2.2 4 q) S.2.1
            rw [e4] at hsu
            omega
        have hR2 : mR (mu N 0 9 (N 0 9 ||| ((1 : Int32) <<< (I (i : Int) &&& 31)))) (hst S h (i + 1)) := by
          rw [hst, if_pos hpi]
          exact mR_st hR hnew
        obtain ⟨k1, k2, k3, k4, k5⟩ := hst_1 S h (i + 1)
        have w2 := hst_wf hS h (i + 1)
        have hsd2 : sd (hst S h (i + 1)) i = sdI S i 1 := by
          unfold sd
          rw [sdI_cg (k4 2 i (by decide))]
          congr 1
          rw [hst, if_pos hpi]
          show (if 4 = 4 ∧ i = i then 1 else (hst S h i).2.2.2 4 i) = 1
          rw [if_pos ⟨rfl, rfl⟩]
        have hwk2 : wk (hst S h (i + 1)) h (sd (hst S h (i + 1)) i) (S.2.2.2 3 i) = hb S h i := by
          rw [hsd2]
          exact wk_cg k3 (k4 0 h (by decide)) (k4 1 h (by decide))
        have hcan : canB S h (i + 1) = (canB S h i && !hb S h i) := by
          rw [Bool.eq_iff_iff, canB_iff, Bool.and_eq_true, canB_iff]
          constructor
          · intro g
            exact ⟨fun c hc => g c (by omega), by rw [g i (by omega) hpi]; rfl⟩
          · intro g c hc
            by_cases e2 : c = i
            · subst e2
              intro _
              have := g.2
              revert this
              cases hb S h c <;> simp
            · exact g.1 c (by omega)
        -- both ways of the set
        have hset : (bs (fun c => hp S h c && decide (S.2.2.2 4 c = 0)) (i + 1)) = if S.2.2.2 4 i = 0 then bs (fun c => hp S h c && decide (S.2.2.2 4 c = 0)) i ||| ((1 : Int32) <<< (I (i : Int) &&& 31)) else bs (fun c => hp S h c && decide (S.2.2.2 4 c = 0)) i := by
          rw [bs]
          by_cases e4 : S.2.2.2 4 i = 0
          · rw [if_pos (by rw [hpi, e4]; rfl), if_pos e4]
          · rw [if_neg (by rw [hpi]; simpa using e4), if_neg e4]
        obtain ⟨N', l1, l2, l3⟩ := ih (i + 1) (mu N 0 9 (N 0 9 ||| ((1 : Int32) <<< (I (i : Int) &&& 31)))) (by omega) (by omega) hR2
        rw [hset, hcan] at l1
        refine ⟨N', ?_, fun r hr => by rw [l2 r hr, mu_ne hr], fun k hk => by rw [l3 k hk, mu_f hk]⟩
        have hof : f_X6_isOf (I ((mk (S.2.2.2 4) S.2.1 : Nat) : Int)) (I i) N = some (I (S.2.2.2 4 i), N) := by
          unfold f_X6_isOf
          rw [bt_sh _ (st_16 hS) i (by omega), st_bit hS hi2, I_1, t_eq (by omega) (by omega), I_0]
          rcases (show S.2.2.2 4 i = 0 ∨ S.2.2.2 4 i = 1 by omega) with e4 | e4
          · rw [e4, if_neg (by omega)]; rfl
          · rw [e4, if_pos (by omega)]; rfl
        have hwf2 : f_X6_wakesFrom (I h) (I i) (mu N 0 9 (N 0 9 ||| ((1 : Int32) <<< (I (i : Int) &&& 31))) 7 i) (mu N 0 9 (N 0 9 ||| ((1 : Int32) <<< (I (i : Int) &&& 31)))) = some (I (if hb S h i then 1 else 0), mu N 0 9 (N 0 9 ||| ((1 : Int32) <<< (I (i : Int) &&& 31)))) := by
          rw [mu_nn (by decide), hpl, n_wakesFrom hR2 w2 (by rw [k1]; exact hh) (by rw [k2]; exact hi2) (by omega), hwk2]
        rw [if_pos hpi, if_neg (show ¬ I 1 = 0 by decide), hof, bd_some]
        simp only [ilt_eq, mlt_eq, or_0, hwf2, bd_some]
        rw [← l1]
        rcases (show S.2.2.2 4 i = 0 ∨ S.2.2.2 4 i = 1 by omega) with e4 | e4
        · rw [e4, if_pos (show I ((0 : Nat) : Int) = 0 by decide), if_pos rfl]
          cases canB S h i <;> cases hb S h i <;> rfl
        · rw [e4, if_neg (show ¬ I ((1 : Nat) : Int) = 0 by decide), if_neg (show ¬ ((1 : Nat) = 0) by decide)]
          cases canB S h i <;> cases hb S h i <;> rfl
      · have hcan : canB S h (i + 1) = canB S h i := by
          rw [Bool.eq_iff_iff, canB_iff, canB_iff]
          constructor
          · intro g c hc
            exact g c (by omega)
          · intro g c hc
            by_cases e2 : c = i
            · subst e2
              exact fun x => absurd x hpi
            · exact g c (by omega)
        have hset : (bs (fun c => hp S h c && decide (S.2.2.2 4 c = 0)) (i + 1)) = bs (fun c => hp S h c && decide (S.2.2.2 4 c = 0)) i := by
          rw [bs, if_neg (by
            rw [Bool.not_eq_true] at hpi
            rw [hpi]
            simp)]
        obtain ⟨N', l1, l2, l3⟩ := ih (i + 1) N (by omega) (by omega) (by rw [hst, if_neg hpi]; exact hR)
        rw [hset, hcan] at l1
        rw [if_neg hpi, if_pos (show I 0 = 0 by decide)]
        exact ⟨N', l1, l2, l3⟩
theorem p_hush {M N : Mem} (h : Inv M N) (x1 : Int32) : Ag (f_X5_hush x1 M) (f_X6_hush x1 N) := by
  have h0 := h
  obtain ⟨⟨S, n, Q, Z, hr⟩, e9⟩ := h
  have hS := hr.1.1
  have hR := hr.2.1
  have hN := hr.2.2.1
  have b1 := hS.1
  have b2 := hS.2.1
  have b3 := FU_ge
  unfold f_X5_hush f_X6_hush
  rcases hs_cases hR hN hS x1 with ⟨h1, h2⟩ | ⟨k, hk, rfl, h1, h2⟩
  · rw [h1, h2, bd_some, bd_some, if_pos rfl, if_pos rfl]; exact Ag.mk _ h0
  rw [h1, h2, bd_some, bd_some, if_neg i10, if_neg i10, ilt_eq, hN.2.2.2.2.2]
  have e1 := q_hush hR hS hk FU 0 (Nat.zero_le _) (by omega) (fun c hc => by omega)
  obtain ⟨N', e2, e3, e4⟩ := n_hush hS hk (kx := fun e16 e17 M18 => mlt (mu M18 0 9 (I ((mk (S.2.2.2 4) S.2.1 : Nat) : Int))) (fun M19 => if e17 = 0 then (some ((-9 : Int32), M19)) else (some (e16, M19)))) FU 0 N (Nat.zero_le _) (by omega) hN
  have c0 : canB S k 0 = true := canB_iff.mpr (fun c hc => by omega)
  rw [c0, if_pos rfl] at e2
  refine ⟨_, M, mu N' 0 9 (I ((mk (S.2.2.2 4) S.2.1 : Nat) : Int)), e1, ?_, ?_⟩
  · refine Eq.trans e2 ?_
    rw [mlt_eq]
    by_cases hc : canB S k S.2.1 = true
    · rw [hc, if_pos rfl, if_neg i10, if_pos rfl]
      congr 2
      apply bs_cg
      intro c hcc
      by_cases hpc : hp S k c = true
      · have g := canB_iff.mp hc c hcc hpc
        have q := (hS.2.2.2.2 c hcc).2.2.2
        have : S.2.2.2 4 c = 0 := by
          rcases (show S.2.2.2 4 c = 0 ∨ S.2.2.2 4 c = 1 by omega) with e | e
          · exact e
          · rw [hb_hp e, hpc] at g; cases g
        rw [hpc, this]
        rfl
      · rw [Bool.not_eq_true] at hpc
        rw [hpc]
        rfl
    · rw [Bool.not_eq_true] at hc
      rw [hc]
      rfl
  · have hn : ∀ k, mu N' 0 9 (I ((mk (S.2.2.2 4) S.2.1 : Nat) : Int)) 0 k = N 0 k := fun k => by
      by_cases e : k = 9
      · subst e; rw [mu_v, hN.2.2.2.2.2]
      · rw [mu_f e, e4 k e]
    refine Inv_of (Rel_fr hr ⟨rfl, rfl⟩ (fun _ _ => rfl) ⟨hn 1, hn 5, hn 6, hn 7, hn 8, hn 9, hn 25⟩ (fun r hr => by rw [mu_ne (by omega), e3 r (by omega)])) e9 rfl (hn 0)
