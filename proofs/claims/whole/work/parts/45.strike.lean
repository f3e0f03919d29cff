/-! ===== strokes and nights ===== -/
/-- where clock c stands behind its stroke -/
def nx (S : St) (c : Nat) : Nat := if own S (sd S c) (S.2.2.2 3 c) = -9 then S.2.2.2 3 c else (own S (sd S c) (S.2.2.2 3 c)).toNat
def sk1 (S : St) (c : Nat) : St := sU S 3 c (nx S c)
def cn1 (S : St) (c : Nat) : Int32 := if own S (sd S c) (S.2.2.2 3 c) = -9 ∨ own S (sd S c) (S.2.2.2 3 c) = (S.2.2.2 3 c : Int) then 0 else 1
def un1 (S : St) (c : Nat) : Int32 := if own S (sd S c) (S.2.2.2 3 c) = -9 then 1 else 0
theorem sU_self (S : St) (j i : Nat) : sU S j i (S.2.2.2 j i) = S := by
  obtain ⟨a, b, c, F⟩ := S
  unfold sU
  congr 4
  funext p q
  split
  · rename_i h
    rw [h.1, h.2]
  · rfl
theorem own_cases {S : St} (hS : wf S) {c p : Nat} (hc : c < S.2.1) (hp : p < 10) : own S (sd S c) p = -9 ∨ ∃ b : Nat, b < S.1 ∧ own S (sd S c) p = b := by
  have := ow_inv hS (s := sd S c) (p := p) (sdI_le hS hc) hp S.1 (Nat.le_refl _)
  rcases this with h | ⟨b, h1, h2, -⟩
  · exact Or.inl h.1
  · exact Or.inr ⟨b, h1, h2⟩
theorem nx_lt {S : St} (hS : wf S) {c : Nat} (hc : c < S.2.1) : nx S c < S.1 := by
  have b1 := hS.1
  have b3 := (hS.2.2.2.2 c hc).2.2.1
  unfold nx
  split
  · exact b3
  · rename_i h
    rcases own_cases hS hc (p := S.2.2.2 3 c) (by omega) with h1 | ⟨b, h1, h2⟩
    · exact absurd h1 h
    · rw [h2]; simpa using h1
theorem sk1_wf {S : St} (hS : wf S) {c : Nat} (hc : c < S.2.1) : wf (sk1 S c) := wf_su hS (by omega) (by omega) (by omega) (fun _ => nx_lt hS hc) (by omega)
theorem add_0 (x : Int32) : x + 0 = x := by simp
theorem q_strike {M : Mem} {a : Nat} {S : St} (hR : cR M a S) (hS : wf S) {c : Nat} (hc : c < S.2.1) : ∃ M', f_X3_strike a (I c) M = some (I (own S (sd S c) (S.2.2.2 3 c)), M') ∧ cR M' a (sk1 S c) ∧ (∀ r, r ≠ a → r ≠ a + 4 → M' r = M r) ∧ M' a 8 = M a 8 + cn1 S c ∧ M' a 9 = M a 9 + un1 S c := by
  have b1 := hS.1
  have b2 := hS.2.1
  have b3 := (hS.2.2.2.2 c hc).2.2.1
  have hp := (hR.2.2.2.2 c hc).2.1
  have hw := own_cases hS hc (p := S.2.2.2 3 c) (by omega)
  unfold f_X3_strike cn1 un1 sk1 nx
  rw [grd_ok (by omega) (by decide), I_tn (by omega), hp, q_owner hR hS hc (by omega), bd_some, I_n9]
  rcases hw with h | ⟨b, hb, h⟩
  · rw [h, if_pos rfl, if_pos rfl, if_pos rfl, if_pos (Or.inl rfl), mlt_eq]
    refine ⟨_, rfl, ?_, fun r h1 h2 => mu_ne h1, ?_, ?_⟩
    · rw [sU_self]
      exact cR_fr hR ⟨mu_f (by decide), mu_f (by decide), mu_f (by decide)⟩ (fun r h1 h2 => mu_ne (by omega))
    · rw [mu_f (by decide), add_0]
    · rw [mu_v]
  · have e9 : ¬ ((b : Int) = -9) := by omega
    rw [h, t_eq (by omega) (by omega), if_neg e9, if_neg e9, if_neg e9, grd_ok (by omega) (by decide), grd_ok (by omega) (by decide), hp, t_eq (by omega) (by omega), mlt_eq, mlt_eq]
    by_cases hq : (b : Int) = S.2.2.2 3 c
    · rw [if_pos hq, if_pos (Or.inr hq)]
      refine ⟨_, rfl, ?_, fun r _ _ => rfl, (add_0 _).symm, (add_0 _).symm⟩
      rw [show ((b : Int)).toNat = S.2.2.2 3 c by omega, sU_self]
      exact hR
    · rw [if_neg hq, if_neg (by omega)]
      refine ⟨_, rfl, ?_, fun r h1 h2 => ?_, ?_, ?_⟩
      · have := cR_su hR 3 c b
        rw [show ((b : Int)).toNat = b by omega]
        exact cR_fr this ⟨mu_f (by decide), mu_f (by decide), mu_f (by decide)⟩ (fun r h1 h2 => mu_ne (by omega))
      · rw [mu_ne h1, mu_ne h2]
      · rw [mu_v, mu_nn (by omega)]
      · rw [mu_f (by decide), mu_nn (by omega), add_0]
theorem mR_three {N : Mem} {S : St} (hR : mR N S) (c b : Nat) (x y : Int32) : mR (mu (mu (mu N 0 21 x) 0 20 y) 7 c (I b)) (sU S 3 c b) := by
  have := mR_su hR (j := 3) (by decide) c b
  refine mR_fr this ?_ (fun r h1 h2 => ?_)
  · rw [show 4 + 3 = 7 from rfl]
    simp only [mu_nn (show (0 : Nat) ≠ 7 by decide), mu_f (show 5 ≠ 20 by decide), mu_f (show 5 ≠ 21 by decide), mu_f (show 6 ≠ 20 by decide), mu_f (show 6 ≠ 21 by decide), mu_f (show 7 ≠ 20 by decide), mu_f (show 7 ≠ 21 by decide), mu_f (show 9 ≠ 20 by decide), mu_f (show 9 ≠ 21 by decide), and_self]
  · rw [show 4 + 3 = 7 from rfl]
    by_cases h7 : r = 7
    · subst h7
      rw [mu_eq, mu_eq N 7, mu_ne (by decide), mu_ne (by decide)]
    · rw [mu_ne h7, mu_ne h7, mu_ne (by omega), mu_ne (by omega)]
theorem n_strikes {N : Mem} {S : St} (hR : mR N S) (hS : wf S) {c : Nat} (hc : c < S.2.1) : ∃ N', f_X6_strikes (I c) N = some (I (own S (sd S c) (S.2.2.2 3 c)), N') ∧ mR N' (sk1 S c) ∧ (∀ r, r ≠ 0 → r ≠ 7 → N' r = N r) ∧ (∀ k, k ≠ 20 → k ≠ 21 → N' 0 k = N 0 k) ∧ N' 0 20 = N 0 20 + cn1 S c ∧ N' 0 21 = N 0 21 + un1 S c := by
  have b1 := hS.1
  have b2 := hS.2.1
  have b3 := (hS.2.2.2.2 c hc).2.2.1
  have hp := (hR.2.2.2.2.1 c hc).2
  have hw := own_cases hS hc (p := S.2.2.2 3 c) (by omega)
  unfold f_X6_strikes cn1 un1 sk1 nx
  rw [grd_ok (by omega) (by decide), I_tn (by omega), hp, n_ownerFrom hR hS hc (by omega), bd_some, I_n9]
  rcases hw with h | ⟨b, hb, h⟩
  · rw [h, if_pos rfl, if_pos rfl, if_pos rfl, if_pos (Or.inl rfl)]
    simp only [mlt_eq, if_pos, grd_ok (show c < 4 by omega) (show 4 ≤ 1000 by decide), mu_nn (show (7 : Nat) ≠ 0 by decide), hp]
    refine ⟨_, rfl, mR_three hR c _ _ _, fun r h1 h2 => ?_, fun k h1 h2 => ?_, ?_, ?_⟩
    · rw [mu_ne h2, mu_ne h1, mu_ne h1]
    · rw [mu_nn (by decide), mu_f h1, mu_f h2]
    · rw [mu_nn (by decide), mu_v, mu_f (by decide)]
    · rw [mu_nn (by decide), mu_f (by decide), mu_v]
  · rw [h]
    have n9 : ¬ (I (b : Int) = I (-9)) := fun q => by rw [I_eq (by omega) (by omega)] at q; omega
    have e9 : ¬ ((b : Int) = -9) := by omega
    rw [show ((b : Int)).toNat = b by omega]
    by_cases hq : (b : Int) = S.2.2.2 3 c
    · have hq2 : I (b : Int) = I (S.2.2.2 3 c) := by rw [hq]
      rw [if_neg n9, if_neg e9, if_neg e9, if_pos (Or.inr hq)]
      simp only [mlt_eq, if_neg n9, grd_ok (show c < 4 by omega) (show 4 ≤ 1000 by decide), mu_nn (show (7 : Nat) ≠ 0 by decide), hp, if_pos hq2]
      refine ⟨_, rfl, mR_three hR c _ _ _, fun r h1 h2 => ?_, fun k h1 h2 => ?_, ?_, ?_⟩
      · rw [mu_ne h2, mu_ne h1, mu_ne h1]
      · rw [mu_nn (by decide), mu_f h1, mu_f h2]
      · rw [mu_nn (by decide), mu_v, mu_f (by decide)]
      · rw [mu_nn (by decide), mu_f (by decide), mu_v]
    · have hq2 : ¬ I (b : Int) = I (S.2.2.2 3 c) := fun q => by rw [I_eq (by omega) (by omega)] at q; omega
      rw [if_neg n9, if_neg e9, if_neg e9, if_neg (by omega)]
      simp only [mlt_eq, if_neg n9, grd_ok (show c < 4 by omega) (show 4 ≤ 1000 by decide), mu_nn (show (7 : Nat) ≠ 0 by decide), hp, if_neg hq2]
      refine ⟨_, rfl, mR_three hR c _ _ _, fun r h1 h2 => ?_, fun k h1 h2 => ?_, ?_, ?_⟩
      · rw [mu_ne h2, mu_ne h1, mu_ne h1]
      · rw [mu_nn (by decide), mu_f h1, mu_f h2]
      · rw [mu_nn (by decide), mu_v, mu_f (by decide)]
      · rw [mu_nn (by decide), mu_f (by decide), mu_v]
/-- the street behind the strokes of the first i clocks -/
def ng (S : St) : Nat → St
  | 0 => S
  | i + 1 => sk1 (ng S i) i
def cn (S : St) : Nat → Int32
  | 0 => 0
  | i + 1 => cn S i + cn1 (ng S i) i
def un (S : St) : Nat → Int32
  | 0 => 0
  | i + 1 => un S i + un1 (ng S i) i
theorem ng_1 (S : St) : ∀ i, (ng S i).1 = S.1 ∧ (ng S i).2.1 = S.2.1 ∧ (ng S i).2.2.1 = S.2.2.1 ∧ ∀ j q, j ≠ 3 → (ng S i).2.2.2 j q = S.2.2.2 j q
  | 0 => ⟨rfl, rfl, rfl, fun _ _ _ => rfl⟩
  | i + 1 => by
    obtain ⟨h1, h2, h3, h4⟩ := ng_1 S i
    refine ⟨h1, h2, h3, fun j q hj => ?_⟩
    show (if j = 3 ∧ q = i then nx (ng S i) i else (ng S i).2.2.2 j q) = _
    rw [if_neg (fun x => hj x.1), h4 j q hj]
theorem ng_wf {S : St} (hS : wf S) : ∀ i, i ≤ S.2.1 → wf (ng S i)
  | 0, _ => hS
  | i + 1, h => sk1_wf (ng_wf hS i (by omega)) (by rw [(ng_1 S i).2.1]; omega)
theorem add_as (x y z : Int32) : x + y + z = x + (y + z) := Int32.add_assoc x y z
theorem q_night {a : Nat} {S : St} (hS : wf S) {kx : Mem → Option (Unit × Mem)} {x1 x2 z u : Int32} : ∀ (n i : Nat) (M : Mem), i ≤ S.2.1 → S.2.1 - i < n → cR M a (ng S i) → M a 8 = z + cn S i → M a 9 = u + un S i → ∃ M', f_X3_passNights_L9 a x1 x2 kx n (I i) M = kx M' ∧ cR M' a (ng S S.2.1) ∧ (∀ r, r ≠ a → r ≠ a + 4 → M' r = M r) ∧ M' a 8 = z + cn S S.2.1 ∧ M' a 9 = u + un S S.2.1 := by
  intro n
  induction n with
  | zero => intro i M _ h; omega
  | succ n ih =>
    intro i M hi hn hR h8 h9
    have b2 := hS.2.1
    have e := ng_1 S i
    rw [f_X3_passNights_L9, hR.2.1, e.2.1, t_le (by omega) (by omega)]
    by_cases h : i = S.2.1
    · subst h
      rw [if_pos (by omega)]
      exact ⟨M, rfl, hR, fun _ _ _ => rfl, h8, h9⟩
    · rw [if_neg (by omega)]
      obtain ⟨M1, k1, k2, k3, k4, k5⟩ := q_strike hR (ng_wf hS i hi) (c := i) (by rw [e.2.1]; omega)
      rw [k1, bd_some, I_succ]
      obtain ⟨M2, l1, l2, l3, l4, l5⟩ := ih (i + 1) M1 (by omega) (by omega) k2 (by rw [k4, h8, add_as]; rfl) (by rw [k5, h9, add_as]; rfl)
      exact ⟨M2, l1, l2, fun r h1 h2 => by rw [l3 r h1 h2, k3 r h1 h2], l4, l5⟩
theorem n_night {S : St} (hS : wf S) {kx : Mem → Option (Unit × Mem)} {z u : Int32} : ∀ (n i : Nat) (N : Mem), i ≤ S.2.1 → S.2.1 - i < n → mR N (ng S i) → N 0 20 = z + cn S i → N 0 21 = u + un S i → ∃ N', f_X6_oneNight_L2 kx n (I i) N = kx N' ∧ mR N' (ng S S.2.1) ∧ (∀ r, r ≠ 0 → r ≠ 7 → N' r = N r) ∧ (∀ k, k ≠ 20 → k ≠ 21 → N' 0 k = N 0 k) ∧ N' 0 20 = z + cn S S.2.1 ∧ N' 0 21 = u + un S S.2.1 := by
  intro n
  induction n with
  | zero => intro i N _ h; omega
  | succ n ih =>
    intro i N hi hn hR h8 h9
    have b2 := hS.2.1
    have e := ng_1 S i
    rw [f_X6_oneNight_L2, hR.2.1, e.2.1, t_le (by omega) (by omega)]
    by_cases h : i = S.2.1
    · subst h
      rw [if_pos (by omega)]
      exact ⟨N, rfl, hR, fun _ _ _ => rfl, fun _ _ _ => rfl, h8, h9⟩
    · rw [if_neg (by omega)]
      obtain ⟨M1, k1, k2, k3, k4, k5, k6⟩ := n_strikes hR (ng_wf hS i hi) (c := i) (by rw [e.2.1]; omega)
      rw [k1, bd_some, I_succ]
      obtain ⟨M2, l1, l2, l3, l4, l5, l6⟩ := ih (i + 1) M1 (by omega) (by omega) k2 (by rw [k5, h8, add_as]; rfl) (by rw [k6, h9, add_as]; rfl)
      exact ⟨M2, l1, l2, fun r h1 h2 => by rw [l3 r h1 h2, k3 r h1 h2], fun k h1 h2 => by rw [l4 k h1 h2, k4 k h1 h2], l5, l6⟩
theorem n_oneNight {N : Mem} {S : St} (hR : mR N S) (hS : wf S) : ∃ N', f_X6_oneNight N = some ((), N') ∧ mR N' (ng S S.2.1) ∧ (∀ r, r ≠ 0 → r ≠ 7 → N' r = N r) ∧ (∀ k, k ≠ 20 → k ≠ 21 → N' 0 k = N 0 k) ∧ N' 0 20 = N 0 20 + cn S S.2.1 ∧ N' 0 21 = N 0 21 + un S S.2.1 := by
  have b2 := hS.2.1
  have b3 := FU_ge
  unfold f_X6_oneNight
  exact n_night hS (kx := fun M3 => some ((), M3)) FU 0 N (Nat.zero_le _) (by omega) hR (add_0 _).symm (add_0 _).symm
