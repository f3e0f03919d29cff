/-! ===== street: the clocks of the text ===== -/
theorem clk_j {n B p h c : Nat} {cd : Nat → Int32} {M N : Mem} (hn : n ≤ 60) (hB : B + n ≤ 240) (hp : p ≤ n) (h1 : tc n cd M p) (h2 : tm n B cd N p) (hh : 2 ≤ h ∧ h ≤ 6) (hc : c < 4) (e16 : N 0 16 = I h) (e17 : N 0 17 = I c) :
    (∃ (l w : Nat) (N' : Mem), 1 ≤ l ∧ l ≤ 9 ∧ w < h ∧ p + 2 ≤ n ∧ f_X4_takeDigit 1 9 M = some (I l, mu M 13 2 (I ((p + 1 : Nat) : Int))) ∧ f_X4_takeDigit 0 (I h - 1) (mu M 13 2 (I ((p + 1 : Nat) : Int))) = some (I w, mu (mu M 13 2 (I ((p + 1 : Nat) : Int))) 13 2 (I ((p + 1 + 1 : Nat) : Int))) ∧ f_X6_readTheClock (I ((B + n : Nat) : Int)) N = some (1, N') ∧ tm n B cd N' (p + 2) ∧ N' 0 17 = I ((c + 1 : Nat) : Int) ∧ N' 9 (2 * c) = I l ∧ N' 9 (2 * c + 1) = I w ∧ (∀ q, q < 2 * c → N' 9 q = N 9 q) ∧ (∀ r, r ≠ 0 → r ≠ 9 → N' r = N r) ∧ ∀ q, q ≠ 14 → q ≠ 17 → N' 0 q = N 0 q) ∨
    (∃ N', f_X4_takeDigit 1 9 M = some (-1, M) ∧ f_X6_readTheClock (I ((B + n : Nat) : Int)) N = some (0, N') ∧ N' 0 14 = I ((B + p : Nat) : Int) ∧ (∀ r, r ≠ 0 → r ≠ 9 → N' r = N r) ∧ ∀ q, q ≠ 14 → q ≠ 17 → N' 0 q = N 0 q) ∨
    (∃ (l : Nat) (N' : Mem), l ≤ 9 ∧ p + 1 ≤ n ∧ f_X4_takeDigit 1 9 M = some (I l, mu M 13 2 (I ((p + 1 : Nat) : Int))) ∧ f_X4_takeDigit 0 (I h - 1) (mu M 13 2 (I ((p + 1 : Nat) : Int))) = some (-1, mu M 13 2 (I ((p + 1 : Nat) : Int))) ∧ f_X6_readTheClock (I ((B + n : Nat) : Int)) N = some (0, N') ∧ N' 0 14 = I ((B + (p + 1) : Nat) : Int) ∧ (∀ r, r ≠ 0 → r ≠ 9 → N' r = N r) ∧ ∀ q, q ≠ 14 → q ≠ 17 → N' 0 q = N 0 q) := by
  have e2c : (2 : Int32) * I (c : Int) = I ((2 * c : Nat) : Int) := by rw [I_2, I_mul]; congr 1
  have eh : I (h : Int) - 1 = I ((h - 1 : Nat) : Int) := by rw [I_1, I_sub]; congr 1; omega
  unfold f_X6_readTheClock
  rw [ilt_eq, e17, e2c]
  rcases dig_j hn hB hp h1 h2 (xl := 1) (xh := 9) (lo := 1) (hi := 9) I_1 I_9 (by decide) (by decide) with ⟨l, g1, g2, g3, g4, g5⟩ | ⟨g4, g5⟩
  · have t1 := tc_up h1
    have hl9 : ¬ I (l : Int) = -9 := fun q => by rw [I_n9, I_eq (by omega) (by omega)] at q; omega
    have t2 : tm n B cd (mu (mu N 0 14 (I ((B + (p + 1) : Nat) : Int))) 9 (2 * c) (I l)) (p + 1) := tm_fr (tm_up h2) (mu_nn (by decide)) (mu_ne (by decide))
    have e16' : mu (mu N 0 14 (I ((B + (p + 1) : Nat) : Int))) 9 (2 * c) (I l) 0 16 = I h := by rw [mu_nn (by decide), mu_f (by decide)]; exact e16
    have e17' : mu (mu N 0 14 (I ((B + (p + 1) : Nat) : Int))) 9 (2 * c) (I l) 0 17 = I c := by rw [mu_nn (by decide), mu_f (by decide)]; exact e17
    have f9 : ∀ r, r ≠ 0 → r ≠ 9 → mu (mu N 0 14 (I ((B + (p + 1) : Nat) : Int))) 9 (2 * c) (I l) r = N r := fun r a b => by rw [mu_ne b, mu_ne a]
    have f0 : ∀ q, q ≠ 14 → mu (mu N 0 14 (I ((B + (p + 1) : Nat) : Int))) 9 (2 * c) (I l) 0 q = N 0 q := fun q a => by rw [mu_nn (by decide), mu_f a]
    have fl : mu (mu N 0 14 (I ((B + (p + 1) : Nat) : Int))) 9 (2 * c) (I l) 9 (2 * c) = I l := mu_v _ _ _ _
    have fq : ∀ q, q < 2 * c → mu (mu N 0 14 (I ((B + (p + 1) : Nat) : Int))) 9 (2 * c) (I l) 9 q = N 9 q := fun q a => by rw [mu_f (by omega), mu_nn (by decide)]
    rw [g5, bd_some, grd_ok (by omega) (by decide), mlt_eq, grd_ok (by omega) (by decide), I_tn (by omega), fl, if_neg hl9, e16']
    generalize mu (mu N 0 14 (I ((B + (p + 1) : Nat) : Int))) 9 (2 * c) (I l) = N1 at t2 e16' e17' f9 f0 fl fq ⊢
    rcases dig_j hn hB (show p + 1 ≤ n by omega) t1 t2 (xl := 0) (xh := I h - 1) (lo := 0) (hi := h - 1) I_0 eh (by decide) (by omega) with ⟨w, k1, k2, k3, k4, k5⟩ | ⟨k4, k5⟩
    · left
      have hw9 : ¬ I (w : Int) = -9 := fun q => by rw [I_n9, I_eq (by omega) (by omega)] at q; omega
      rw [k5, bd_some, I_succ, grd_ok (by omega) (by decide), mlt_eq, mlt_eq, grd_ok (by omega) (by decide), I_tn (by omega), mu_nn (by decide), mu_v, if_neg hw9, mu_nn (by decide), mu_f (by decide), e17', I_succ]
      refine ⟨l, w, _, g2, g3, by omega, by omega, g4, k4, rfl, ⟨?_, fun q hq => ?_⟩, ?_, ?_, ?_, fun q hq => ?_, fun r a b => ?_, fun q a b => ?_⟩
      · rw [mu_f (by decide), mu_nn (by decide), mu_v]
      · rw [mu_nn (by decide), mu_nn (by decide), mu_nn (by decide)]; exact t2.2 q hq
      · rw [mu_v]
      · rw [mu_nn (by decide), mu_f (by omega), mu_nn (by decide)]; exact fl
      · rw [mu_nn (by decide), mu_v]
      · rw [mu_nn (by decide), mu_f (by omega), mu_nn (by decide)]; exact fq q hq
      · rw [mu_ne a, mu_ne b, mu_ne a]; exact f9 r a b
      · rw [mu_f b, mu_nn (by decide), mu_f a]; exact f0 q a
    · right; right
      rw [k5, bd_some, I_succ, grd_ok (by omega) (by decide), mlt_eq, mlt_eq, grd_ok (by omega) (by decide), I_tn (by omega), mu_nn (by decide), mu_v, if_pos rfl]
      refine ⟨l, _, g3, by omega, g4, k4, rfl, ?_, fun r a b => ?_, fun q a b => ?_⟩
      · rw [mu_f (by decide), mu_nn (by decide)]; exact t2.1
      · rw [mu_ne a, mu_ne b]; exact f9 r a b
      · rw [mu_f b, mu_nn (by decide)]; exact f0 q a
  · right; left
    rw [g5, bd_some, grd_ok (by omega) (by decide), mlt_eq, grd_ok (by omega) (by decide), I_tn (by omega), mu_v, if_pos rfl]
    exact ⟨_, g4, rfl, by rw [mu_nn (by decide)]; exact h2.1, fun r _ b => mu_ne b, fun q _ _ => mu_nn (by decide)⟩
/-- clocks read so far: G 0 loud, G 1 place -/
def PC (n B : Nat) (cd : Nat → Int32) (h c p : Nat) (G : Nat → Nat → Nat) (M N : Mem) : Prop := tc n cd M p ∧ tm n B cd N p ∧ p ≤ n ∧ (M 7 5 = I h ∧ M 7 6 = I c) ∧ (N 0 16 = I h ∧ N 0 17 = I c) ∧ ∀ i, i < c → (1 ≤ G 0 i ∧ G 0 i ≤ 9 ∧ G 1 i < h) ∧ (M 10 i = I (G 0 i) ∧ M 11 i = I (G 1 i) ∧ M 12 i = 0) ∧ N 9 (2 * i) = I (G 0 i) ∧ N 9 (2 * i + 1) = I (G 1 i)
theorem q_addClock {M : Mem} {c : Nat} (hc : c < 4) (e : M 7 6 = I c) (x y : Int32) : f_X3_addClock 7 x y M = some ((), mu (mu (mu (mu M 10 c x) 11 c y) 12 c 0) 7 6 (I ((c + 1 : Nat) : Int))) := by
  unfold f_X3_addClock
  rw [e, grd_ok (by omega) (by decide), mlt_eq, I_tn (by omega), mu_nn (by decide), e, grd_ok (by omega) (by decide), mlt_eq, I_tn (by omega), mu_nn (by decide), mu_nn (by decide), e, grd_ok (by omega) (by decide), mlt_eq, I_tn (by omega), mu_nn (by decide), mu_nn (by decide), mu_nn (by decide), e, mlt_eq, I_succ]
  rfl
theorem clocks_j {n B h : Nat} {cd : Nat → Int32} (hn : n ≤ 60) (hB : B + n ≤ 240) (hh : 2 ≤ h ∧ h ≤ 6) {kz : Mem → Option (Int32 × Mem)} (hkz : ∀ N, kz N = some (0, N)) : ∀ (j f f' c p : Nat) (G : Nat → Nat → Nat) (M N : Mem), c + j = 4 → j < f → j < f' → PC n B cd h c p G M N → ∃ (r r' : Int32) (M' N' : Mem), f_X4_readClocks_L2 7 (fun M8 => if (M8 7 6) ≤ 0 then (some ((0 : Int32), M8)) else (some ((1 : Int32), M8))) f (I c) M = some (r, M') ∧ f_X6_readStreet_L91 (I ((B + n : Nat) : Int)) kz f' N = some (r', N') ∧ (∀ q, q < 7 ∨ 14 ≤ q ∨ q = 8 ∨ q = 9 → M' q = M q) ∧ (∀ q, q ≠ 6 → M' 7 q = M 7 q) ∧ (∀ q, q ≠ 0 → q ≠ 9 → N' q = N q) ∧ (∀ q, q ≠ 14 → q ≠ 17 → N' 0 q = N 0 q) ∧ ∃ p' : Nat, p' ≤ n ∧ M' 13 1 = I n ∧ M' 13 2 = I p' ∧ N' 0 14 = I ((B + p' : Nat) : Int) ∧ ((r' = 0 ∧ (r = 0 ∨ (r = 1 ∧ p' ≠ n))) ∨ (r' = 1 ∧ r = 1 ∧ p' = n ∧ ∃ (c' : Nat) (G' : Nat → Nat → Nat), 1 ≤ c' ∧ c' ≤ 4 ∧ PC n B cd h c' p' G' M' N')) := by
  intro j
  induction j with
  | zero =>
    intro f f' c p G M N hj hf hf' hP
    obtain ⟨f, rfl⟩ : ∃ m, f = m + 1 := ⟨f - 1, by omega⟩
    obtain ⟨f', rfl⟩ : ∃ m, f' = m + 1 := ⟨f' - 1, by omega⟩
    have hP0 := hP
    obtain ⟨t1, t2, hp, ⟨m5, m6⟩, ⟨n16, n17⟩, hF⟩ := hP
    have h4 : c = 4 := by omega
    subst h4
    rw [f_X4_readClocks_L2, f_X6_readStreet_L91, if_pos (show (4 : Int32) ≤ I ((4 : Nat) : Int) by decide), m6, n17, if_neg (show ¬ I ((4 : Nat) : Int) ≤ 0 by decide), if_neg (show ¬ I ((4 : Nat) : Int) = 0 by decide), if_pos (show (4 : Int32) ≤ I ((4 : Nat) : Int) by decide), t2.1, t_eq (by omega) (by omega)]
    by_cases e : p = n
    · rw [if_pos (by omega)]
      exact ⟨1, 1, M, N, rfl, rfl, fun _ _ => rfl, fun _ _ => rfl, fun _ _ _ => rfl, fun _ _ _ => rfl, p, hp, t1.1, t1.2.1, t2.1, Or.inr ⟨rfl, rfl, e, 4, G, by decide, by decide, hP0⟩⟩
    · rw [if_neg (by omega)]
      exact ⟨1, 0, M, N, rfl, rfl, fun _ _ => rfl, fun _ _ => rfl, fun _ _ _ => rfl, fun _ _ _ => rfl, p, hp, t1.1, t1.2.1, t2.1, Or.inl ⟨rfl, Or.inr ⟨rfl, e⟩⟩⟩
  | succ j ih =>
    intro f f' c p G M N hj hf hf' hP
    obtain ⟨f, rfl⟩ : ∃ m, f = m + 1 := ⟨f - 1, by omega⟩
    obtain ⟨f', rfl⟩ : ∃ m, f' = m + 1 := ⟨f' - 1, by omega⟩
    have hP0 := hP
    obtain ⟨t1, t2, hp, ⟨m5, m6⟩, ⟨n16, n17⟩, hF⟩ := hP
    have hc : c < 4 := by omega
    have nc4 : ¬ (4 : Int32) ≤ I (c : Int) := fun q => by rw [I_4, I_le (by omega) (by omega)] at q; omega
    rw [f_X4_readClocks_L2, if_neg nc4]
    rcases sgn_j hn hB hp t1 t2 44 with ⟨a1, a2, a3, a4, a5⟩ | ⟨a1, a2, a3, a4⟩
    · have hL : f_X6_readStreet_L91 (I ((B + n : Nat) : Int)) kz (f' + 1) N = bd (f_X6_readTheClock (I ((B + n : Nat) : Int)) (mu N 0 14 (I ((B + (p + 1) : Nat) : Int)))) (fun r11 M10 => if r11 = 0 then (kz M10) else (f_X6_readStreet_L91 (I ((B + n : Nat) : Int)) kz f' M10)) := by
        rw [f_X6_readStreet_L91, n17, t2.1]
        by_cases e : c = 0
        · rw [if_pos (show I (c : Int) = 0 by rw [e]; rfl), a5, bd_some, if_neg i10]
        · rw [if_neg (show ¬ I (c : Int) = 0 from fun q => by rw [I_0, I_eq (by omega) (by omega)] at q; omega), if_neg nc4, t_le (by omega) (by omega), if_neg (by omega), a5, bd_some, if_neg i10]
      rw [hL, a3, bd_some, if_neg i10]
      have u1 := tc_up t1
      have u2 := tm_up t2
      rcases clk_j hn hB (show p + 1 ≤ n by omega) u1 u2 hh hc (by rw [mu_f (by decide)]; exact n16) (by rw [mu_f (by decide)]; exact n17) with ⟨l, w, N1, b1, b2, b3, b4, b5, b6, b7, b8, b9, b10, b11, b12, b13, b14⟩ | ⟨N1, b1, b2, b3, b4, b5⟩ | ⟨l, N1, b1, b2, b3, b4, b5, b6, b7, b8⟩
      · rw [b5, bd_some, if_neg (show ¬ I (l : Int) = -1 from fun q => by rw [I_n1, I_eq (by omega) (by omega)] at q; omega), mu_nn (show (7 : Nat) ≠ 13 by decide), mu_nn (show (7 : Nat) ≠ 13 by decide), m5, b6, bd_some, if_neg (show ¬ I (w : Int) = -1 from fun q => by rw [I_n1, I_eq (by omega) (by omega)] at q; omega), b7, bd_some, if_neg i10, q_addClock hc (by rw [mu_nn (by decide), mu_nn (by decide), mu_nn (by decide)]; exact m6), bd_some, I_succ]
        have hP2 : PC n B cd h (c + 1) (p + 1 + 2) (fun j i => if i = c then (if j = 0 then l else w) else G j i) (mu (mu (mu (mu (mu (mu (mu M 13 2 (I ((p + 1 : Nat) : Int))) 13 2 (I ((p + 1 + 1 : Nat) : Int))) 13 2 (I ((p + 1 + 1 + 1 : Nat) : Int))) 10 c (I l)) 11 c (I w)) 12 c 0) 7 6 (I ((c + 1 : Nat) : Int))) N1 := by
          refine ⟨?_, b8, b4, ⟨?_, ?_⟩, ⟨?_, b9⟩, fun i hi => ?_⟩
          · exact tc_fr (tc_up (tc_up u1)) (fun r g1 g2 => by rw [mu_ne (by omega), mu_ne (by omega), mu_ne (by omega), mu_ne (by omega)])
          · rw [mu_f (by decide), mu_nn (by decide), mu_nn (by decide), mu_nn (by decide), mu_nn (by decide), mu_nn (by decide), mu_nn (by decide)]; exact m5
          · rw [mu_v]
          · rw [b14 16 (by decide) (by decide), mu_f (by decide)]; exact n16
          · by_cases e : i = c
            · subst e
              simp only [if_pos, if_neg (show ¬ (1 : Nat) = 0 by decide)]
              refine ⟨⟨b1, b2, b3⟩, ⟨?_, ?_, ?_⟩, b10, b11⟩
              · rw [mu_nn (by decide), mu_nn (by decide), mu_nn (by decide), mu_v]
              · rw [mu_nn (by decide), mu_nn (by decide), mu_v]
              · rw [mu_nn (by decide), mu_v]
            · simp only [if_neg e]
              obtain ⟨c1, ⟨c2, c3, c4⟩, c5, c6⟩ := hF i (by omega)
              refine ⟨c1, ⟨?_, ?_, ?_⟩, ?_, ?_⟩
              · rw [mu_nn (by decide), mu_nn (by decide), mu_nn (by decide), mu_f e, mu_nn (by decide), mu_nn (by decide), mu_nn (by decide)]; exact c2
              · rw [mu_nn (by decide), mu_nn (by decide), mu_f e, mu_nn (by decide), mu_nn (by decide), mu_nn (by decide), mu_nn (by decide)]; exact c3
              · rw [mu_nn (by decide), mu_f e, mu_nn (by decide), mu_nn (by decide), mu_nn (by decide), mu_nn (by decide), mu_nn (by decide)]; exact c4
              · rw [b12 _ (by omega), mu_nn (by decide)]; exact c5
              · rw [b12 _ (by omega), mu_nn (by decide)]; exact c6
        obtain ⟨r, r', M', N', c1, c2, c3, c4, c5, c6, c7⟩ := ih f f' (c + 1) (p + 1 + 2) _ _ N1 (by omega) (by omega) (by omega) hP2
        refine ⟨r, r', M', N', c1, c2, fun q hq => ?_, fun q hq => ?_, fun q g1 g2 => ?_, fun q g1 g2 => ?_, c7⟩
        · rw [c3 q hq, mu_ne (by omega), mu_ne (by omega), mu_ne (by omega), mu_ne (by omega), mu_ne (by omega), mu_ne (by omega), mu_ne (by omega)]
        · rw [c4 q hq, mu_f hq, mu_nn (by decide), mu_nn (by decide), mu_nn (by decide), mu_nn (by decide), mu_nn (by decide), mu_nn (by decide)]
        · rw [c5 q g1 g2, b13 q g1 g2, mu_ne g1]
        · rw [c6 q g1 g2, b14 q g1 g2, mu_f g1]
      · rw [b1, bd_some, if_pos rfl, b2, bd_some, if_pos rfl, hkz]
        refine ⟨0, 0, _, N1, rfl, rfl, fun q hq => mu_ne (by omega), fun q _ => mu_nn (by decide), fun q g1 g2 => by rw [b4 q g1 g2, mu_ne g1], fun q g1 g2 => by rw [b5 q g1 g2, mu_f g1], p + 1, by omega, by rw [mu_f (by decide)]; exact t1.1, by rw [mu_v], b3, Or.inl ⟨rfl, Or.inl rfl⟩⟩
      · rw [b3, bd_some, if_neg (show ¬ I (l : Int) = -1 from fun q => by rw [I_n1, I_eq (by omega) (by omega)] at q; omega), mu_nn (show (7 : Nat) ≠ 13 by decide), mu_nn (show (7 : Nat) ≠ 13 by decide), m5, b4, bd_some, if_pos rfl, b5, bd_some, if_pos rfl, hkz]
        refine ⟨0, 0, _, N1, rfl, rfl, fun q hq => by rw [mu_ne (by omega), mu_ne (by omega)], fun q _ => by rw [mu_nn (by decide), mu_nn (by decide)], fun q g1 g2 => by rw [b7 q g1 g2, mu_ne g1], fun q g1 g2 => by rw [b8 q g1 g2, mu_f g1], p + 1 + 1, b2, by rw [mu_f (by decide), mu_f (by decide)]; exact t1.1, by rw [mu_v], b6, Or.inl ⟨rfl, Or.inl rfl⟩⟩
    · rw [a2, bd_some, if_pos rfl, m6, f_X6_readStreet_L91, n17, t2.1]
      by_cases e : c = 0
      · have e0 : I (c : Int) = 0 := by rw [e]; rfl
        rw [if_pos e0, if_pos (show I (c : Int) ≤ 0 by rw [e]; decide), a4, bd_some, if_pos rfl, hkz]
        exact ⟨0, 0, M, N, rfl, rfl, fun _ _ => rfl, fun _ _ => rfl, fun _ _ _ => rfl, fun _ _ _ => rfl, p, hp, t1.1, t1.2.1, t2.1, Or.inl ⟨rfl, Or.inl rfl⟩⟩
      · rw [if_neg (show ¬ I (c : Int) = 0 from fun q => by rw [I_0, I_eq (by omega) (by omega)] at q; omega), if_neg nc4, if_neg (show ¬ I (c : Int) ≤ 0 from fun q => by rw [I_0, I_le (by omega) (by omega)] at q; omega), t_le (by omega) (by omega)]
        by_cases e2 : p = n
        · rw [if_pos (by omega), t_eq (by omega) (by omega), if_pos (by omega)]
          exact ⟨1, 1, M, N, rfl, rfl, fun _ _ => rfl, fun _ _ => rfl, fun _ _ _ => rfl, fun _ _ _ => rfl, p, hp, t1.1, t1.2.1, t2.1, Or.inr ⟨rfl, rfl, e2, c, G, by omega, by omega, hP0⟩⟩
        · rw [if_neg (by omega), a4, bd_some, if_pos rfl, hkz]
          exact ⟨1, 0, M, N, rfl, rfl, fun _ _ => rfl, fun _ _ => rfl, fun _ _ _ => rfl, fun _ _ _ => rfl, p, hp, t1.1, t1.2.1, t2.1, Or.inl ⟨rfl, Or.inr ⟨rfl, e2⟩⟩⟩
