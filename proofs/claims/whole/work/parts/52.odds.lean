/-! ===== odds ===== -/
theorem I_div {n d : Nat} (h : n ≤ 1000000) (hd : d ≤ 1000000) : I (n : Int) / I (d : Int) = I ((n / d : Nat) : Int) := by
  have h1 := Int32.ofNat_div (a := n) (b := d) (by omega) (by omega)
  unfold I
  rw [Int32.ofInt_eq_ofNat, Int32.ofInt_eq_ofNat, Int32.ofInt_eq_ofNat, h1]
theorem I_mod {n d : Nat} (h : n ≤ 1000000) (hd : d ≤ 1000000) : I (n : Int) - I (n : Int) / I (d : Int) * I (d : Int) = I ((n % d : Nat) : Int) := by
  rw [I_div h hd, I_mul, I_sub]
  congr 1
  have h1 := Nat.div_add_mod n d
  have h2 : (((n / d : Nat) : Int) * (d : Int)) = ((d * (n / d) : Nat) : Int) := by rw [Int.natCast_mul, Int.mul_comm]
  rw [h2]
  omega
theorem q_gcd {w a : Nat} (hw : w ≤ 1000) (ha : a ≤ 1000) (ha0 : 0 < a) {M : Mem} : ∀ (d f : Nat), Nat.gcd w a ≤ d → d ≤ a → d < f → f_X5_commonDivisor_L2 (I w) (I a) (fun M1 => some ((1 : Int32), M1)) f (I d) M = some (I ((Nat.gcd w a : Nat) : Int), M) := by
  have hg : 0 < Nat.gcd w a := Nat.gcd_pos_of_pos_right _ ha0
  intro d
  induction d with
  | zero => intro f h; omega
  | succ d ih =>
    intro f h1 h2 hf
    obtain ⟨f, rfl⟩ : ∃ m, f = m + 1 := ⟨f - 1, by omega⟩
    rw [f_X5_commonDivisor_L2, I_n1, I_1, t_le (by omega) (by omega)]
    by_cases e : d = 0
    · subst e
      rw [if_pos (by omega), show Nat.gcd w a = 1 by omega]
      rfl
    · rw [if_neg (by omega)]
      have hnz : ¬ I ((d + 1 : Nat) : Int) = 0 := fun q => by
        rw [I_0, I_eq (by omega) (by omega)] at q
        omega
      have hlt1 := Nat.mod_lt w (show 0 < d + 1 by omega)
      have hlt2 := Nat.mod_lt a (show 0 < d + 1 by omega)
      unfold dvc
      rw [if_neg hnz, if_neg hnz, I_mod (by omega) (by omega), I_mod (by omega) (by omega), I_0, t_eq (by omega) (by omega), t_eq (by omega) (by omega), I_add, show (((d + 1 : Nat) : Int) + -1) = (d : Int) by omega]
      by_cases m1 : w % (d + 1) = 0
      · rw [if_pos (by omega)]
        by_cases m2 : a % (d + 1) = 0
        · rw [if_pos (by omega)]
          have hd : (d + 1) ∣ Nat.gcd w a := Nat.dvd_gcd (Nat.dvd_of_mod_eq_zero m1) (Nat.dvd_of_mod_eq_zero m2)
          have := Nat.le_of_dvd hg hd
          rw [show Nat.gcd w a = d + 1 by omega]
        · rw [if_neg (by omega)]
          refine ih f ?_ (by omega) (by omega)
          by_cases q : Nat.gcd w a = d + 1
          · exfalso
            apply m2
            rw [← q]
            exact Nat.mod_eq_zero_of_dvd (Nat.gcd_dvd_right w a)
          · omega
      · rw [if_neg (by omega)]
        refine ih f ?_ (by omega) (by omega)
        by_cases q : Nat.gcd w a = d + 1
        · exfalso
          apply m1
          rw [← q]
          exact Nat.mod_eq_zero_of_dvd (Nat.gcd_dvd_left w a)
        · omega
theorem L_ti {n : Nat} (h : n ≤ 1000000) : (lN n).toInt = (n : Int) := Int64.toInt_ofNat_of_lt (by omega)
theorem L_0 {n : Nat} (h : n ≤ 1000000) : lN n = 0 ↔ n = 0 := by
  rw [← Int64.toInt_inj, L_ti h]
  show (n : Int) = 0 ↔ _
  omega
theorem L_div {n d : Nat} (h : n ≤ 1000000) (hd : d ≤ 1000000) : lN n / lN d = lN (n / d) := (Int64.ofNat_div (a := n) (b := d) (by omega) (by omega)).symm
theorem L_mod {n d : Nat} (h : n ≤ 1000000) (hd : d ≤ 1000000) : lN n - lN n / lN d * lN d = lN (n % d) := by
  rw [L_div h hd]
  have h1 := Nat.div_add_mod n d
  have h2 : lN n = lN (n / d) * lN d + lN (n % d) := by
    show Int64.ofNat n = Int64.ofNat (n / d) * Int64.ofNat d + Int64.ofNat (n % d)
    rw [← Int64.ofNat_mul, ← Int64.ofNat_add]
    congr 1
    rw [Nat.mul_comm]
    exact h1.symm
  rw [h2]
  have : lN (n / d) * lN d + lN (n % d) = lN (n % d) + lN (n / d) * lN d := Int64.add_comm _ _
  rw [this]
  exact Int64.add_sub_cancel _ _
theorem lg_cmp0 (x : Int64) : lg_cmp x 0 = 0 ↔ x = 0 := by
  unfold lg_cmp
  constructor
  · intro h
    by_cases e : x = 0
    · exact e
    · exfalso
      by_cases h1 : x > 0
      · rw [if_pos h1] at h; revert h; decide
      · rw [if_neg h1, if_neg e] at h; revert h; decide
  · intro h
    subst h
    decide
theorem n_gcd {u d : Int64} {x4 : Int32} {kx : Int64 → Mem → Option (Int64 × Mem)} {N : Mem} : ∀ (f x y : Nat), y < f → x ≤ 1000 → y ≤ 1000 → f_X6_inLeastTerms_L6 u d x4 kx f (lN x) (lN y) N = kx (lN (Nat.gcd x y)) N := by
  intro f
  induction f with
  | zero => intro x y h; omega
  | succ f ih =>
    intro x y hf hx hy
    rw [f_X6_inLeastTerms_L6]
    by_cases e : y = 0
    · subst e
      rw [if_pos ((lg_cmp0 (lN 0)).mpr rfl), Nat.gcd_zero_right]
    · rw [if_neg (fun q => e ((L_0 (by omega)).mp ((lg_cmp0 _).mp q)))]
      unfold dvcl
      rw [if_neg (fun q => e ((L_0 (by omega)).mp q)), llt_eq, L_mod (by omega) (by omega)]
      have hlt := Nat.mod_lt x (show 0 < y by omega)
      rw [ih y (x % y) (by omega) hy (by omega)]
      congr 2
      rw [Nat.gcd_comm x y, Nat.gcd_rec y x, Nat.gcd_comm]
/-- how often house h wakes by clock c, over the first places; over the first clocks -/
def ct1 (S : St) (h c : Nat) : Nat → Nat
  | 0 => 0
  | i + 1 => ct1 S h c i + if wk S h (sd S c) i then 1 else 0
def ct2 (S : St) (h : Nat) : Nat → Nat
  | 0 => 0
  | i + 1 => ct2 S h i + ct1 S h i S.1
theorem ct1_le (S : St) (h c : Nat) : ∀ i, ct1 S h c i ≤ i
  | 0 => Nat.le_refl _
  | i + 1 => by
    have := ct1_le S h c i
    rw [ct1]
    split <;> omega
theorem ct2_le (S : St) (h : Nat) : ∀ i, ct2 S h i ≤ i * S.1
  | 0 => by simp [ct2]
  | i + 1 => by
    have := ct2_le S h i
    have := ct1_le S h i S.1
    rw [ct2, Nat.succ_mul]
    omega
theorem q_odds1 {M : Mem} {S : St} (hR : cR M 1 S) (hS : wf S) {h c : Nat} (hh : h < S.1) (hc : c < S.2.1) {x2 : Int32} {kx : Int32 → Mem → Option (Int64 × Mem)} {m : Nat} (hm : m ≤ 1000) : f_X5_odds_L44 (I h) x2 (I c) kx FU (I m) 0 M = kx (I ((m + ct1 S h c S.1 : Nat) : Int)) M := by
  have b1 := hS.1
  refine lp0 (fun n x st => f_X5_odds_L44 (I h) x2 (I c) kx n st x M) (fun st => kx st M) S.1 (by omega) (fun i => I ((m + ct1 S h c i : Nat) : Int)) (fun n i hi => ?_) (fun n => ?_)
  · try dsimp only
    rw [f_X5_odds_L44, hR.1, t_le (by omega) (by omega), if_neg (by omega), q_sound hR hS hc, bd_some, q_wakes hR hS hh (show sd S c ≤ 9 from sdI_le hS hc) (by omega), bd_some, I_succ, I_succ, ct1]
    by_cases e : wk S h (sd S c) i = true
    · rw [if_pos e, if_pos e, if_neg (by decide)]
      rfl
    · rw [if_neg e, if_neg e, if_pos (by decide)]
      rfl
  · try dsimp only
    rw [f_X5_odds_L44, hR.1, t_le (by omega) (by omega), if_pos (by omega)]
theorem n_odds1 {N : Mem} {S : St} (hR : mR N S) (hS : wf S) {h c : Nat} (hh : h < S.1) (hc : c < S.2.1) {x2 : Int32} {kx : Int32 → Mem → Option (Int64 × Mem)} {m : Nat} (hm : m ≤ 1000) : f_X6_odds_L38 (I h) x2 (I c) kx FU (I m) 0 N = kx (I ((m + ct1 S h c S.1 : Nat) : Int)) N := by
  have b1 := hS.1
  refine lp0 (fun n x st => f_X6_odds_L38 (I h) x2 (I c) kx n st x N) (fun st => kx st N) S.1 (by omega) (fun i => I ((m + ct1 S h c i : Nat) : Int)) (fun n i hi => ?_) (fun n => ?_)
  · try dsimp only
    rw [f_X6_odds_L38, hR.1, t_le (by omega) (by omega), if_neg (by omega), n_wakesFrom hR hS hh hc (by omega), bd_some, I_succ, I_succ, ilt_eq, ilt_eq, add_0, ct1]
    by_cases e : wk S h (sd S c) i = true
    · rw [if_pos e, if_pos e, if_neg (by decide)]
      rfl
    · rw [if_neg e, if_neg e, if_pos (by decide)]
      rfl
  · try dsimp only
    rw [f_X6_odds_L38, hR.1, t_le (by omega) (by omega), if_pos (by omega)]
theorem od_fin : ∀ w, w ≤ 24 → ∀ g, g ≤ 24 → g ≠ 0 → (I ((w : Nat) : Int) / I ((g : Nat) : Int)).toInt64 = lN (w / g) := by decide +kernel
theorem od_64 : ∀ w, w ≤ 24 → (I ((w : Nat) : Int)).toInt64 = lN w := by decide +kernel
theorem p_odds {M N : Mem} (h : Inv M N) (x1 x2 : Int32) : Ag (f_X5_odds x1 x2 M) (f_X6_odds x1 x2 N) := by
  have h0 := h
  obtain ⟨⟨S, n, Q, Z, hr⟩, e9⟩ := h
  have hS := hr.1.1
  have hO := hr.1.2
  have hR := hr.2.1
  have hN := hr.2.2.1
  have b1 := hS.1
  have b2 := hS.2.1
  have b3 := FU_ge
  unfold f_X5_odds f_X6_odds
  rcases hs_cases hR hN hS x1 with ⟨h1, h2⟩ | ⟨k, hk, rfl, h1, h2⟩
  · rw [h1, h2, bd_some, bd_some, if_pos rfl, if_pos rfl]; exact Ag.mk _ h0
  rw [h1, h2, bd_some, bd_some, if_neg i10, if_neg i10]
  rcases rg_cases x2 0 1 (l := 0) (h := 1) I_0 I_1 (by decide) (by decide) with h3 | ⟨h3, h4, v, rfl, h5, h6⟩
  · rw [w_out h3, bd_some, if_pos rfl]
    rcases h3 with h3 | ⟨h3, h4⟩
    · rw [if_pos (show x2 < 0 from h3)]; exact Ag.mk _ h0
    · rw [if_neg (show ¬ x2 < 0 from h3), if_neg (show ¬ x2 ≤ 1 from nle h4)]; exact Ag.mk _ h0
  rw [w_in (lo := 0) (hi := 1) h3 h4, bd_some, if_neg i10, if_neg (show ¬ I (v : Int) < 0 from h3), if_pos (show I (v : Int) ≤ 1 from yle h4)]
  have hC : 1 ≤ S.2.1 := by
    rcases hO with q | q <;> omega
  have hcs : ∀ i, i ≤ S.2.1 → ct2 S k i ≤ 24 := fun i hi => by
    have q1 := ct2_le S k i
    have q2 : i * S.1 ≤ 4 * 6 := Nat.mul_le_mul (by omega) b1
    omega
  have e1 : ∀ kx : Int32 → Mem → Option (Int64 × Mem), f_X5_odds_L29 (I k) (I v) kx FU 0 0 M = kx (I ((ct2 S k S.2.1 : Nat) : Int)) M := fun kx => by
    refine lp0 (fun n x st => f_X5_odds_L29 (I k) (I v) kx n st x M) (fun st => kx st M) S.2.1 (by omega) (fun i => I ((ct2 S k i : Nat) : Int)) (fun n i hi => ?_) (fun n => ?_)
    · try dsimp only
      have := hcs i (by omega)
      rw [f_X5_odds_L29, hR.2.1, t_le (by omega) (by omega), if_neg (by omega), q_odds1 hR hS hk hi (by omega), I_succ, ct2]
    · try dsimp only
      rw [f_X5_odds_L29, hR.2.1, t_le (by omega) (by omega), if_pos (by omega)]
  have e2 : ∀ kx : Int32 → Mem → Option (Int64 × Mem), f_X6_odds_L26 (I k) (I v) kx FU 0 0 N = kx (I ((ct2 S k S.2.1 : Nat) : Int)) N := fun kx => by
    refine lp0 (fun n x st => f_X6_odds_L26 (I k) (I v) kx n st x N) (fun st => kx st N) S.2.1 (by omega) (fun i => I ((ct2 S k i : Nat) : Int)) (fun n i hi => ?_) (fun n => ?_)
    · try dsimp only
      have := hcs i (by omega)
      rw [f_X6_odds_L26, hN.2.1, t_le (by omega) (by omega), if_neg (by omega), n_odds1 hN hS hk hi (by omega), I_succ, ct2]
    · try dsimp only
      rw [f_X6_odds_L26, hN.2.1, t_le (by omega) (by omega), if_pos (by omega)]
  have hw := hcs S.2.1 (Nat.le_refl _)
  have ha : S.2.1 * S.1 ≤ 24 := by
    have : S.2.1 * S.1 ≤ 4 * 6 := Nat.mul_le_mul b2 b1
    omega
  have ha0 : 0 < S.2.1 * S.1 := Nat.mul_pos (by omega) (by omega)
  have hgl : Nat.gcd (ct2 S k S.2.1) (S.2.1 * S.1) ≤ S.2.1 * S.1 := Nat.le_of_dvd ha0 (Nat.gcd_dvd_right _ _)
  have hg0 : 0 < Nat.gcd (ct2 S k S.2.1) (S.2.1 * S.1) := Nat.gcd_pos_of_pos_right _ ha0
  rw [e1, e2, ilt_eq, hR.2.1, hR.1, hN.2.1, hN.1, I_mul, show ((S.2.1 : Int) * (S.1 : Int)) = ((S.2.1 * S.1 : Nat) : Int) from (Int.natCast_mul _ _).symm]
  unfold f_X5_commonDivisor f_X6_inLeastTerms
  rw [q_gcd (by omega) (by omega) ha0 (S.2.1 * S.1) FU hgl (Nat.le_refl _) (by omega), bd_some, od_64 _ hw, od_64 _ ha, n_gcd FU _ _ (by omega) (by omega) (by omega)]
  unfold dvc dvcl
  rw [if_neg (show ¬ I ((Nat.gcd (ct2 S k S.2.1) (S.2.1 * S.1) : Nat) : Int) = 0 from fun q => by rw [I_0, I_eq (by omega) (by omega)] at q; omega), if_neg (show ¬ I ((Nat.gcd (ct2 S k S.2.1) (S.2.1 * S.1) : Nat) : Int) = 0 from fun q => by rw [I_0, I_eq (by omega) (by omega)] at q; omega), if_neg (show ¬ lN (Nat.gcd (ct2 S k S.2.1) (S.2.1 * S.1)) = 0 from fun q => by rw [L_0 (by omega)] at q; omega), if_neg (show ¬ lN (Nat.gcd (ct2 S k S.2.1) (S.2.1 * S.1)) = 0 from fun q => by rw [L_0 (by omega)] at q; omega), od_fin _ hw _ (by omega) (by omega), od_fin _ ha _ (by omega) (by omega), L_div (by omega) (by omega), L_div (by omega) (by omega)]
  by_cases e : I (v : Int) = 0
  · rw [if_pos e, if_pos e, bd_some]; exact Ag.mk _ h0
  · rw [if_neg e, if_neg e, bd_some]; exact Ag.mk _ h0
