/-! ===== street ===== -/
/-- what a text that was read tells: T wall, F houses, G clocks -/
def told (T h c : Nat) (F G : Nat → Nat → Nat) (M N : Mem) : Prop := (T ≤ 3 ∧ (2 ≤ h ∧ h ≤ 6) ∧ 1 ≤ c ∧ c ≤ 4) ∧ (M 7 5 = I h ∧ M 7 6 = I c ∧ M 7 7 = I T) ∧ (N 0 16 = I h ∧ N 0 17 = I c ∧ N 0 15 = I T) ∧ (∀ i, i < h → (F 0 i ≤ 2 ∧ 1 ≤ F 1 i ∧ F 1 i ≤ 9) ∧ (M 8 i = I (F 0 i) ∧ M 9 i = I (F 1 i)) ∧ N 8 (2 * i) = I (F 0 i) ∧ N 8 (2 * i + 1) = I (F 1 i)) ∧ ∀ i, i < c → (1 ≤ G 0 i ∧ G 0 i ≤ 9 ∧ G 1 i < h) ∧ (M 10 i = I (G 0 i) ∧ M 11 i = I (G 1 i) ∧ M 12 i = 0) ∧ N 9 (2 * i) = I (G 0 i) ∧ N 9 (2 * i + 1) = I (G 1 i)
theorem read_j {M N : Mem} {k a n B : Nat} (hk : k < 4) (han : a + n ≤ 60) (eB : B = 60 * k + a) (n3 : ∀ i, i < 60 → M (gSh k + 1) i = N 3 (60 * k + i)) : ∃ (r r' : Int32) (M' N' : Mem), f_X4_read (gSh k) (I a) (I n) 7 M = some (r, M') ∧ f_X6_readStreet (I ((B + n : Nat) : Int)) (mu N 0 14 (I B)) = some (r', N') ∧ (∀ q, q < 7 ∨ 15 ≤ q → M' q = M q) ∧ (∀ q, q ≠ 0 → q ≠ 8 → q ≠ 9 → N' q = N q) ∧ (∀ q, q < 14 ∨ 18 ≤ q → N' 0 q = N 0 q) ∧ ((∃ p : Nat, p ≤ n ∧ r = I p ∧ r' = 0 ∧ N' 0 14 = I ((B + p : Nat) : Int)) ∨ (r = -9 ∧ r' = 1 ∧ ∃ T h c F G, told T h c F G M' N')) := by
  have hn : n ≤ 60 := by omega
  have hB : B + n ≤ 240 := by omega
  have fu := FU_ge
  unfold f_X4_read cpk f_X6_readStreet
  have z1 : ¬ I (a : Int) < 0 := by rw [I_0, I_lt (by omega) (by omega)]; omega
  have z3 : ¬ I (n : Int) < 0 := by rw [I_0, I_lt (by omega) (by omega)]; omega
  rw [if_pos ⟨⟨z1, by decide, z3⟩, by rw [I_tn (by omega), I_tn (by omega)]; omega, by rw [I_tn (by omega)]; show 0 + n ≤ 60; omega⟩, mlt_eq, mlt_eq, mlt_eq, mlt_eq, mlt_eq, I_tn (by omega), I_tn (by omega), show (0 : Int32).toNatClampNeg = 0 from rfl]
  obtain ⟨M4, q1, q2, q5, q6, q7, _, _⟩ := q_clear 7 (mu (mu (mset M 14 (va_cpy (M (gSh k + 1)) (M 14) a 0 n)) 13 1 (I n)) 13 2 0)
  rw [q1, bd_some]
  have t1 : tc n (fun q => M (gSh k + 1) (a + q)) M4 0 := by
    refine ⟨?_, ?_, fun q hq => ?_⟩
    · rw [q2 13 (by decide), mu_f (by decide), mu_v]
    · rw [q2 13 (by decide), mu_v]; rfl
    · rw [q2 14 (by decide), mu_nn (by decide), mu_nn (by decide), mset_eq]
      unfold va_cpy
      rw [if_pos (by omega)]
      congr 1
  have fM : ∀ q, q < 7 ∨ 15 ≤ q → M4 q = M q := fun q hq => by rw [q2 q (by omega), mu_ne (by omega), mu_ne (by omega), mset_ne _ _ (by omega)]
  have t2 : tm n B (fun q => M (gSh k + 1) (a + q)) (mu (mu (mu N 0 14 (I B)) 0 16 0) 0 17 0) 0 := by
    refine ⟨?_, fun q hq => ?_⟩
    · rw [mu_f (by decide), mu_f (by decide), mu_v]; rfl
    · rw [mu_nn (by decide), mu_nn (by decide), mu_nn (by decide)]
      show N 3 (B + q) = M (gSh k + 1) (a + q)
      rw [n3 _ (by omega), eB]
      congr 1
      omega
  have g16 : mu (mu (mu N 0 14 (I B)) 0 16 0) 0 17 0 0 16 = 0 := by rw [mu_f (by decide), mu_v]
  have g17 : mu (mu (mu N 0 14 (I B)) 0 16 0) 0 17 0 0 17 = 0 := mu_v _ _ _ _
  have fN : ∀ q, q ≠ 0 → mu (mu (mu N 0 14 (I B)) 0 16 0) 0 17 0 q = N q := fun q hq => by rw [mu_ne hq, mu_ne hq, mu_ne hq]
  have fN0 : ∀ q, q < 14 ∨ 18 ≤ q → mu (mu (mu N 0 14 (I B)) 0 16 0) 0 17 0 0 q = N 0 q := fun q hq => by rw [mu_f (by omega), mu_f (by omega), mu_f (by omega)]
  generalize (fun q => M (gSh k + 1) (a + q)) = cd at t1 t2
  generalize mu (mu (mu N 0 14 (I B)) 0 16 0) 0 17 0 = N4 at t2 g16 g17 fN fN0 ⊢
  unfold f_X4_readWall
  rcases sgn_j hn hB (Nat.zero_le n) t1 t2 99 with ⟨a1, a2, a3, a4, a5⟩ | ⟨a1, a2, a3, a4⟩
  · rw [a3, a5, bd_some, bd_some, if_neg i10, if_neg i10]
    have u1 := tc_up t1
    have u2 := tm_up t2
    rcases dig_j hn hB (show 0 + 1 ≤ n by omega) u1 u2 (xl := 0) (xh := 3) (lo := 0) (hi := 3) I_0 I_3 (by decide) (by decide) with ⟨T, g1, g2, g3, g4, g5⟩ | ⟨g4, g5⟩
    · rw [g4, g5, bd_some, bd_some, mlt_eq, mlt_eq, mu_v, mu_v, if_neg (show ¬ I (T : Int) = -1 from fun q => by rw [I_n1, I_eq (by omega) (by omega)] at q; omega), if_neg (show ¬ I (T : Int) = -9 from fun q => by rw [I_n9, I_eq (by omega) (by omega)] at q; omega), bd_some, if_neg i10]
      have hP : PH n B T cd 0 (0 + 1 + 1) (fun _ _ => 0) (mu (mu (mu M4 13 2 (I ((0 + 1 : Nat) : Int))) 13 2 (I ((0 + 1 + 1 : Nat) : Int))) 7 7 (I T)) (mu (mu (mu N4 0 14 (I ((B + (0 + 1) : Nat) : Int))) 0 14 (I ((B + (0 + 1 + 1) : Nat) : Int))) 0 15 (I T)) := by
        refine ⟨tc_fr (tc_up u1) (fun r _ _ => mu_ne (by omega)), tm_fr (tm_up u2) (mu_f (by decide)) (mu_ne (by decide)), by omega, ⟨?_, ?_, ?_⟩, ⟨?_, ?_, ?_⟩, fun i hi => absurd hi (Nat.not_lt_zero i)⟩
        · rw [mu_f (by decide), mu_nn (by decide), mu_nn (by decide)]; exact q5
        · rw [mu_f (by decide), mu_nn (by decide), mu_nn (by decide)]; exact q6
        · rw [mu_v]
        · rw [mu_f (by decide), mu_f (by decide), mu_f (by decide)]; exact g16
        · rw [mu_f (by decide), mu_f (by decide), mu_f (by decide)]; exact g17
        · rw [mu_v]
      have fM5 : ∀ q, q < 7 ∨ 15 ≤ q → (mu (mu (mu M4 13 2 (I ((0 + 1 : Nat) : Int))) 13 2 (I ((0 + 1 + 1 : Nat) : Int))) 7 7 (I T)) q = M q := fun q hq => by rw [mu_ne (by omega), mu_ne (by omega), mu_ne (by omega)]; exact fM q hq
      have fN5 : ∀ q, q ≠ 0 → (mu (mu (mu N4 0 14 (I ((B + (0 + 1) : Nat) : Int))) 0 14 (I ((B + (0 + 1 + 1) : Nat) : Int))) 0 15 (I T)) q = N q := fun q hq => by rw [mu_ne hq, mu_ne hq, mu_ne hq]; exact fN q hq
      have fN6 : ∀ q, q < 14 ∨ 18 ≤ q → (mu (mu (mu N4 0 14 (I ((B + (0 + 1) : Nat) : Int))) 0 14 (I ((B + (0 + 1 + 1) : Nat) : Int))) 0 15 (I T)) 0 q = N 0 q := fun q hq => by rw [mu_f (by omega), mu_f (by omega), mu_f (by omega)]; exact fN0 q hq
      generalize mu (mu (mu M4 13 2 (I ((0 + 1 : Nat) : Int))) 13 2 (I ((0 + 1 + 1 : Nat) : Int))) 7 7 (I T) = M5 at hP fM5 ⊢
      generalize mu (mu (mu N4 0 14 (I ((B + (0 + 1) : Nat) : Int))) 0 14 (I ((B + (0 + 1 + 1) : Nat) : Int))) 0 15 (I T) = N5 at hP fN5 fN6 ⊢
      obtain ⟨r, M6, N6, c1, c2, c3, c4, c5⟩ := houses_j hn hB (kz := fun M28 => some (0, M28)) (fun _ => rfl) 6 FU FU 0 _ _ M5 N5 rfl (by omega) (by omega) hP
      have c1' : f_X4_readHouses 7 M5 = some (r, M6) := c1
      rw [c1', bd_some]
      rcases c5 with ⟨rfl, d2, p, d3, d4, d5⟩ | ⟨rfl, d2, h, p, F, d3, d4, d5⟩
      · rw [d2, if_pos rfl, if_pos rfl, d3]
        exact ⟨_, _, M6, N6, rfl, rfl, fun q hq => by rw [c2 q (by omega)]; exact fM5 q hq, fun q h0 h8 _ => by rw [c3 q h0 h8]; exact fN5 q h0, fun q hq => by rw [c4 q (by omega) (by omega)]; exact fN6 q hq, Or.inl ⟨p, d5, rfl, rfl, d4⟩⟩
      · rw [d2, if_neg i10]
        obtain ⟨x1, x2, hp, ⟨m5, m6, m7⟩, ⟨n16, n17, n15⟩, hF⟩ := d5
        obtain ⟨s, s', M7, N7, e1, e2, e3, e4, e5, e6, p', e7, e8, e9, e10, e11⟩ := clocks_j hn hB (h := h) ⟨d3, d4⟩ (kz := fun M28 => some (0, M28)) (fun _ => rfl) 4 FU FU 0 p (fun _ _ => 0) M6 N6 rfl (by omega) (by omega) ⟨x1, x2, hp, ⟨m5, m6⟩, ⟨n16, n17⟩, fun i hi => absurd hi (Nat.not_lt_zero i)⟩
        have e1' : f_X4_readClocks 7 M6 = some (s, M7) := e1
        rw [e1', bd_some, e2, e8, e9]
        have w1 : ∀ q, q < 7 ∨ 15 ≤ q → M7 q = M q := fun q hq => by rw [e3 q (by omega), c2 q (by omega)]; exact fM5 q hq
        have w2 : ∀ q, q ≠ 0 → q ≠ 8 → q ≠ 9 → N7 q = N q := fun q h0 h8 h9 => by rw [e5 q h0 h9, c3 q h0 h8]; exact fN5 q h0
        have w3 : ∀ q, q < 14 ∨ 18 ≤ q → N7 0 q = N 0 q := fun q hq => by rw [e6 q (by omega) (by omega), c4 q (by omega) (by omega)]; exact fN6 q hq
        rcases e11 with ⟨rfl, rfl | ⟨rfl, f1⟩⟩ | ⟨rfl, rfl, f1, c, G, f2, f3, f4⟩
        · rw [if_pos rfl, if_pos rfl]
          exact ⟨_, _, M7, N7, rfl, rfl, w1, w2, w3, Or.inl ⟨p', e7, rfl, rfl, e10⟩⟩
        · rw [if_neg i10, if_neg (show ¬ I (p' : Int) = I (n : Int) from fun q => by rw [I_eq (by omega) (by omega)] at q; omega), if_pos rfl]
          exact ⟨_, _, M7, N7, rfl, rfl, w1, w2, w3, Or.inl ⟨p', e7, rfl, rfl, e10⟩⟩
        · rw [if_neg i10, if_pos (show I (p' : Int) = I (n : Int) by rw [f1]), if_neg i10]
          obtain ⟨_, _, _, ⟨y5, y6⟩, ⟨y16, y17⟩, hG⟩ := f4
          refine ⟨_, _, M7, N7, rfl, rfl, w1, w2, w3, Or.inr ⟨rfl, rfl, T, h, c, F, G, ⟨g3, ⟨d3, d4⟩, f2, f3⟩, ⟨y5, y6, by rw [e4 7 (by decide)]; exact m7⟩, ⟨y16, y17, by rw [e6 15 (by decide) (by decide)]; exact n15⟩, fun i hi => ?_, hG⟩⟩
          rw [e3 8 (by decide), e3 9 (by decide), e5 8 (by decide) (by decide)]
          exact hF i hi
    · rw [g4, g5, bd_some, bd_some, mlt_eq, mlt_eq, mu_v, mu_v, if_pos rfl, if_pos rfl, bd_some, if_pos rfl, if_pos rfl]
      refine ⟨_, _, _, _, rfl, rfl, fun q hq => by rw [mu_ne (by omega), mu_ne (by omega)]; exact fM q hq, fun q h0 _ _ => by rw [mu_ne h0, mu_ne h0]; exact fN q h0, fun q hq => by rw [mu_f (by omega), mu_f (by omega)]; exact fN0 q hq, Or.inl ⟨0 + 1, by omega, ?_, rfl, ?_⟩⟩
      · rw [mu_nn (by decide), mu_v]
      · rw [mu_f (by decide), mu_v]
  · rw [a2, a4, bd_some, bd_some, if_pos rfl, if_pos rfl, bd_some, if_pos rfl, if_pos rfl]
    exact ⟨_, _, M4, N4, rfl, rfl, fM, fun q h0 _ _ => fN q h0, fN0, Or.inl ⟨0, Nat.zero_le _, t1.2.1, rfl, t2.1⟩⟩
theorem n_take1 {h : Nat} (hh : h ≤ 6) {A C : Nat → Int32} {kx : Mem → Option (Unit × Mem)} : ∀ (f i : Nat) (N : Mem), i ≤ h → h - i < f → N 0 6 = I h → (∀ q, q < h → N 8 (2 * q) = A q ∧ N 8 (2 * q + 1) = C q) → (∀ q, q < i → N 4 q = A q ∧ N 5 q = C q) → ∃ N', f_X6_takeStreet_L18 kx f (I i) N = kx N' ∧ (∀ q, q < h → N' 4 q = A q ∧ N' 5 q = C q) ∧ ∀ r, r ≠ 4 → r ≠ 5 → N' r = N r := by
  intro f
  induction f with
  | zero => intro i N _ q; omega
  | succ f ih =>
    intro i N hi hf h6 h8 h4
    rw [f_X6_takeStreet_L18, h6, t_le (by omega) (by omega)]
    by_cases e : i = h
    · rw [if_pos (by omega)]
      exact ⟨N, rfl, by rw [← e]; exact h4, fun _ _ _ => rfl⟩
    · have hlt : i < h := by omega
      have e2 : (2 : Int32) * I (i : Int) = I ((2 * i : Nat) : Int) := by rw [I_2, I_mul]; congr 1
      rw [if_neg (by omega), e2, grd_ok (by omega) (by decide), grd_ok (by omega) (by decide), mlt_eq, I_succ, grd_ok (by omega) (by decide), grd_ok (by omega) (by decide), mlt_eq, I_tn (by omega), I_tn (by omega), I_tn (by omega), I_succ, mu_nn (by decide), (h8 i hlt).1, (h8 i hlt).2]
      obtain ⟨N', b1, b2, b3⟩ := ih (i + 1) (mu (mu N 4 i (A i)) 5 i (C i)) (by omega) (by omega) (by rw [mu_nn (by decide), mu_nn (by decide)]; exact h6) (fun q hq => by rw [mu_nn (by decide), mu_nn (by decide), mu_nn (by decide), mu_nn (by decide)]; exact h8 q hq) (fun q hq => by
        by_cases eq : q = i
        · subst eq
          exact ⟨by rw [mu_nn (by decide), mu_v], by rw [mu_v]⟩
        · rw [mu_nn (by decide), mu_f eq, mu_f eq, mu_nn (by decide)]
          exact h4 q (by omega))
      exact ⟨N', b1, b2, fun r h1 h2 => by rw [b3 r h1 h2, mu_ne h2, mu_ne h1]⟩
theorem n_take2 {h : Nat} (hh : h ≤ 4) {A C : Nat → Int32} {kx : Mem → Option (Unit × Mem)} : ∀ (f i : Nat) (N : Mem), i ≤ h → h - i < f → N 0 7 = I h → (∀ q, q < h → N 9 (2 * q) = A q ∧ N 9 (2 * q + 1) = C q) → (∀ q, q < i → N 6 q = A q ∧ N 7 q = C q) → ∃ N', f_X6_takeStreet_L72 kx f (I i) N = kx N' ∧ (∀ q, q < h → N' 6 q = A q ∧ N' 7 q = C q) ∧ ∀ r, r ≠ 6 → r ≠ 7 → N' r = N r := by
  intro f
  induction f with
  | zero => intro i N _ q; omega
  | succ f ih =>
    intro i N hi hf h6 h8 h4
    rw [f_X6_takeStreet_L72, h6, t_le (by omega) (by omega)]
    by_cases e : i = h
    · rw [if_pos (by omega)]
      exact ⟨N, rfl, by rw [← e]; exact h4, fun _ _ _ => rfl⟩
    · have hlt : i < h := by omega
      have e2 : (2 : Int32) * I (i : Int) = I ((2 * i : Nat) : Int) := by rw [I_2, I_mul]; congr 1
      rw [if_neg (by omega), e2, grd_ok (by omega) (by decide), grd_ok (by omega) (by decide), mlt_eq, I_succ, grd_ok (by omega) (by decide), grd_ok (by omega) (by decide), mlt_eq, I_tn (by omega), I_tn (by omega), I_tn (by omega), I_succ, mu_nn (by decide), (h8 i hlt).1, (h8 i hlt).2]
      obtain ⟨N', b1, b2, b3⟩ := ih (i + 1) (mu (mu N 6 i (A i)) 7 i (C i)) (by omega) (by omega) (by rw [mu_nn (by decide), mu_nn (by decide)]; exact h6) (fun q hq => by rw [mu_nn (by decide), mu_nn (by decide), mu_nn (by decide), mu_nn (by decide)]; exact h8 q hq) (fun q hq => by
        by_cases eq : q = i
        · subst eq
          exact ⟨by rw [mu_nn (by decide), mu_v], by rw [mu_v]⟩
        · rw [mu_nn (by decide), mu_f eq, mu_f eq, mu_nn (by decide)]
          exact h4 q (by omega))
      exact ⟨N', b1, b2, fun r h1 h2 => by rw [b3 r h1 h2, mu_ne h2, mu_ne h1]⟩
theorem mk_0 : ∀ n, mk (fun _ => 0) n = 0
  | 0 => rfl
  | n + 1 => by rw [mk, mk_0 n]; omega
def sT5 (T h c : Nat) (F G : Nat → Nat → Nat) : St := (h, c, T, fun j i => if j = 0 then F 0 i else if j = 1 then F 1 i else if j = 2 then G 0 i else if j = 3 then G 1 i else 0)
theorem n_take {N : Mem} {T h c : Nat} {F G : Nat → Nat → Nat} {M : Mem} (ht : told T h c F G M N) : ∃ N', f_X6_takeStreet N = some ((), N') ∧ mR N' (sT5 T h c F G) ∧ (∀ r, r < 4 ∨ 8 ≤ r → r ≠ 0 → N' r = N r) ∧ (∀ q, q < 5 ∨ (10 ≤ q ∧ q < 25) → N' 0 q = N 0 q) ∧ N' 0 8 = 0 ∧ N' 0 25 = 0 := by
  have fu := FU_ge
  obtain ⟨⟨hT, hh, hc⟩, _, ⟨n16, n17, n15⟩, hF, hG⟩ := ht
  unfold f_X6_takeStreet
  rw [mlt_eq, mlt_eq]
  obtain ⟨N1, b1, b2, b3⟩ := n_take1 hh.2 (A := fun q => I (F 0 q)) (C := fun q => I (F 1 q)) (kx := fun M5 => mlt (mu M5 0 7 (M5 0 17)) (fun M6 => f_X6_takeStreet_L72 (fun  M9 => mlt (mu M9 0 9 (0 : Int32)) (fun M10 => mlt (mu M10 0 8 (0 : Int32)) (fun M11 => mlt (mu M11 0 25 (0 : Int32)) (fun M12 => some ((), M12))))) FU (0 : Int32) M6)) FU 0 (mu (mu N 0 5 (N 0 15)) 0 6 (mu N 0 5 (N 0 15) 0 16)) (Nat.zero_le _) (by omega) (by rw [mu_v, mu_f (by decide)]; exact n16) (fun q hq => by rw [mu_nn (by decide), mu_nn (by decide), mu_nn (by decide), mu_nn (by decide)]; exact (hF q hq).2.2) (fun q hq => absurd hq (Nat.not_lt_zero q))
  have b1' : f_X6_takeStreet_L18 (fun M5 => mlt (mu M5 0 7 (M5 0 17)) (fun M6 => f_X6_takeStreet_L72 (fun  M9 => mlt (mu M9 0 9 (0 : Int32)) (fun M10 => mlt (mu M10 0 8 (0 : Int32)) (fun M11 => mlt (mu M11 0 25 (0 : Int32)) (fun M12 => some ((), M12))))) FU (0 : Int32) M6)) FU 0 (mu (mu N 0 5 (N 0 15)) 0 6 (mu N 0 5 (N 0 15) 0 16)) = _ := b1
  rw [b1', mlt_eq]
  have k0 : N1 0 = mu (mu N 0 5 (N 0 15)) 0 6 (mu N 0 5 (N 0 15) 0 16) 0 := b3 0 (by decide) (by decide)
  obtain ⟨N2, d1, d2, d3⟩ := n_take2 hc.2 (A := fun q => I (G 0 q)) (C := fun q => I (G 1 q)) (kx := (fun  M9 => mlt (mu M9 0 9 (0 : Int32)) (fun M10 => mlt (mu M10 0 8 (0 : Int32)) (fun M11 => mlt (mu M11 0 25 (0 : Int32)) (fun M12 => some ((), M12)))))) FU 0 (mu N1 0 7 (N1 0 17)) (Nat.zero_le _) (by omega) (by rw [mu_v, k0, mu_f (by decide), mu_f (by decide)]; exact n17) (fun q hq => by rw [mu_nn (by decide), mu_nn (by decide), b3 9 (by decide) (by decide), mu_nn (by decide), mu_nn (by decide), mu_nn (by decide), mu_nn (by decide)]; exact (hG q hq).2.2) (fun q hq => absurd hq (Nat.not_lt_zero q))
  have d1' : f_X6_takeStreet_L72 (fun  M9 => mlt (mu M9 0 9 (0 : Int32)) (fun M10 => mlt (mu M10 0 8 (0 : Int32)) (fun M11 => mlt (mu M11 0 25 (0 : Int32)) (fun M12 => some ((), M12))))) FU 0 (mu N1 0 7 (N1 0 17)) = _ := d1
  rw [d1', mlt_eq, mlt_eq, mlt_eq]
  have j0 : N2 0 = mu N1 0 7 (N1 0 17) 0 := d3 0 (by decide) (by decide)
  have a0 : ∀ q, q < 5 ∨ 8 ≤ q → N2 0 q = N 0 q := fun q hq => by rw [j0, mu_f (by omega), k0, mu_f (by omega), mu_f (by omega)]
  have aR : ∀ r, r < 4 ∨ 8 ≤ r → r ≠ 0 → N2 r = N r := fun r h1 h2 => by rw [d3 r (by omega) (by omega), mu_ne h2, b3 r (by omega) (by omega), mu_ne h2, mu_ne h2]
  refine ⟨_, rfl, ⟨?_, ?_, ?_, fun q hq => ?_, fun q hq => ?_, ?_⟩, fun r h1 h2 => ?_, fun q hq => ?_, ?_, ?_⟩
  · rw [mu_f (by decide), mu_f (by decide), mu_f (by decide), j0, mu_f (by decide), k0, mu_v, mu_f (by decide)]; exact n16
  · rw [mu_f (by decide), mu_f (by decide), mu_f (by decide), j0, mu_v, k0, mu_f (by decide), mu_f (by decide)]; exact n17
  · rw [mu_f (by decide), mu_f (by decide), mu_f (by decide), j0, mu_f (by decide), k0, mu_f (by decide), mu_v]; exact n15
  · rw [mu_nn (by decide), mu_nn (by decide), mu_nn (by decide), mu_nn (by decide), mu_nn (by decide), mu_nn (by decide), d3 4 (by decide) (by decide), d3 5 (by decide) (by decide), mu_nn (by decide), mu_nn (by decide)]
    exact b2 q hq
  · rw [mu_nn (by decide), mu_nn (by decide), mu_nn (by decide), mu_nn (by decide), mu_nn (by decide), mu_nn (by decide)]
    exact d2 q hq
  · rw [mu_f (by decide), mu_f (by decide), mu_v]
    show (0 : Int32) = I ((mk (fun i => 0) c : Nat) : Int)
    rw [mk_0]
    rfl
  · rw [mu_ne h2, mu_ne h2, mu_ne h2]; exact aR r h1 h2
  · rw [mu_f (by omega), mu_f (by omega), mu_f (by omega)]; exact a0 q (by omega)
  · rw [mu_f (by decide), mu_v]
  · rw [mu_v]
theorem told_wf {T h c : Nat} {F G : Nat → Nat → Nat} {M N : Mem} (ht : told T h c F G M N) : wf (sT5 T h c F G) ∧ okS (sT5 T h c F G) ∧ cR M 7 (sT5 T h c F G) := by
  obtain ⟨⟨hT, hh, hc⟩, ⟨m5, m6, m7⟩, _, hF, hG⟩ := ht
  refine ⟨⟨hh.2, hc.2, hT, fun q hq => (hF q hq).1, fun q hq => ⟨(hG q hq).1.1, (hG q hq).1.2.1, (hG q hq).1.2.2, Nat.zero_le _⟩⟩, Or.inr ⟨hh.1, hc.1⟩, m5, m6, m7, fun q hq => (hF q hq).2.1, fun q hq => (hG q hq).2.1⟩
/-- what follows when nothing stands against the call -/
noncomputable def cStr (k : Nat) (x3 x4 : Int32) (M : Mem) : Option (Int32 × Mem) := bd (f_X4_read (gSh k) x3 x4 7 M) (fun r12 M11 => if r12 = (-9 : Int32) then (bd (f_X3_become 1 7 M11) (fun _ M13 => mlt (mu M13 0 7 (0 : Int32)) (fun M14 => mlt (mu M14 15 4 (0 : Int32)) (fun M15 => some ((M15 1 6), M15))))) else (some (((-100 : Int32) - r12), M11)))
noncomputable def mStr (x8 x4 : Int32) (M6 : Mem) : Option (Int32 × Mem) := mlt (mu M6 0 14 x8) (fun M9 => bd (f_X6_readStreet (x8 + x4) M9) (fun r11 M10 => if r11 = 0 then (some (((-100 : Int32) - ((M10 0 14) - x8)), M10)) else (bd (f_X6_takeStreet M10) (fun _ M12 => some ((M12 0 7), M12)))))
theorem str_j {S : St} {n' : Nat} {Q Z : Nat → Nat → Nat} {M N : Mem} (hr : Rel S n' Q Z M N) (e9 : M 0 9 = N 0 0) {k a n : Nat} (hk : k < 4) (han : a + n ≤ 60) : Ag (cStr k (I a) (I n) M) (mStr (I ((60 * k + a : Nat) : Int)) (I n) N) := by
  obtain ⟨⟨a1, a2⟩, a3, a4, a5, a6, a7, a8⟩ := hr
  obtain ⟨r, r', M1, N1, b1, b2, b3, b4, b5, b6⟩ := read_j (B := 60 * k + a) hk han rfl (a6 k hk).2.2.2.2
  unfold cStr mStr
  rw [mlt_eq, I_add, show (((60 * k + a : Nat) : Int) + (n : Int)) = ((60 * k + a + n : Nat) : Int) from (Int.natCast_add _ _).symm, b1, b2, bd_some, bd_some]
  rcases b6 with ⟨p, c1, rfl, rfl, c2⟩ | ⟨rfl, rfl, T, h, c, F, G, ht⟩
  · rw [if_neg (show ¬ I (p : Int) = -9 from fun q => by rw [I_n9, I_eq (by omega) (by omega)] at q; omega), if_pos rfl, c2, I_sub, show (((60 * k + a + p : Nat) : Int) - ((60 * k + a : Nat) : Int)) = (p : Int) by omega]
    refine Ag.mk _ (Inv_of (M := M) (N := N) (Rel_fr ⟨⟨a1, a2⟩, a3, a4, a5, a6, a7, a8⟩ ?_ (fun q hq => b3 q (by omega)) ⟨b5 1 (by decide), b5 5 (by decide), b5 6 (by decide), b5 7 (by decide), b5 8 (by decide), b5 9 (by decide), b5 25 (by decide)⟩ (fun q hq => b4 q (by omega) (by omega) (by omega))) e9 (by rw [b3 0 (by decide)]) (b5 0 (by decide)))
    rw [b3 0 (by decide)]
    exact ⟨rfl, rfl⟩
  · rw [if_pos rfl, if_neg i10]
    obtain ⟨w1, w2, w3⟩ := told_wf ht
    obtain ⟨M2, d1, d2, d3, _, _⟩ := q_become (a := 1) (b := 7) (by decide) w1 w3
    obtain ⟨N2, e1, e2, e3, e4, e5, e6⟩ := n_take ht
    rw [d1, e1, bd_some, bd_some, mlt_eq, mlt_eq, mu_nn (by decide), mu_nn (by decide), d2.2.1, e2.2.1]
    refine Ag.mk _ ⟨⟨sT5 T h c F G, 0, Q, Z, ⟨w1, w2⟩, cR_fr d2 ⟨?_, ?_, ?_⟩ (fun r _ _ => ?_), e2, ⟨Nat.zero_le _, ?_, e6, fun r hr => absurd hr (Nat.not_lt_zero r)⟩, shR_fr a6 (fun r _ _ => ?_) (fun r _ _ => ?_), ?_, ?_⟩, ?_⟩
    · rw [mu_nn (by decide), mu_nn (by decide)]
    · rw [mu_nn (by decide), mu_nn (by decide)]
    · rw [mu_nn (by decide), mu_nn (by decide)]
    · rw [mu_ne (by omega), mu_ne (by omega)]
    · rw [mu_v]; rfl
    · rw [mu_ne (by omega), mu_ne (by omega), d3 r (by omega), b3 r (by omega)]
    · rw [e3 r (by omega) (by omega), b4 r (by omega) (by omega) (by omega)]
    · rw [mu_nn (by decide), mu_v, e5]
    · rw [mu_nn (by decide), mu_f (by decide), d3 0 (by decide), b3 0 (by decide), e4 1 (by decide), b5 1 (by decide)]; exact a8
    · rw [mu_nn (by decide), mu_f (by decide), d3 0 (by decide), b3 0 (by decide), e4 0 (by decide), b5 0 (by decide)]; exact e9
theorem p_street {M N : Mem} (h : Inv M N) (x1 x2 x3 x4 : Int32) : Ag (f_X5_street x1 x2 x3 x4 M) (f_X6_street x1 x2 x3 x4 N) := by
  obtain ⟨⟨S, n, Q, Z, hr0⟩, e9⟩ := h
  have hr := Rel_fault hr0 0 0
  have h0 := Inv_fault hr0 0
  unfold f_X5_street f_X6_street
  rw [mlt_eq, mlt_eq]
  generalize mu M 0 9 0 = M at hr h0 ⊢
  generalize mu N 0 0 0 = N at hr h0 ⊢
  rcases she_cases M N x1 with ⟨h1, h2⟩ | ⟨k, hk, rfl, h1, h2⟩
  · rw [h1, h2, bd_some, bd_some, if_pos rfl, if_pos rfl]; exact Ag.mk _ h0
  rw [h1, h2, bd_some, bd_some, if_neg i10, if_neg i10]
  rcases lan_cases M N x2 with ⟨h1, h2⟩ | ⟨l, hl, rfl, h1, h2⟩
  · rw [h1, h2, bd_some, bd_some, if_pos rfl, if_pos rfl]; exact Ag.mk _ h0
  rw [h1, h2, bd_some, bd_some, if_neg i10, if_neg i10]
  obtain ⟨⟨a1, a2, a3⟩, ⟨m1, m2, m3⟩, n1, n2, n3⟩ := hr.2.2.2.2.1 k hk
  rw [grd_ok (by omega) (by decide), I_tn (by omega), q_faultAs a1 m1 m2, bd_some]
  rcases n_against hk a1 a2 a3 n1 n2 (I l) x3 x4 with ⟨e, g⟩ | ⟨e, e2, g⟩ | ⟨e, e2, e3, g⟩ | ⟨e, e2, e3, e4, g⟩ | ⟨e, e2, e3, g⟩
  · rw [g, bd_some, e, if_pos rfl, if_neg i10, if_neg i10, if_neg i10, if_neg i10, q_faulty, n_fails, bd_some, bd_some]
    exact Ag.mk _ (Inv_fault hr 1)
  · rw [g, bd_some, e, if_neg (show ¬ (1 : Nat) = 0 by decide), if_neg e2, if_neg (show ¬ (2 : Int32) = 0 by decide), if_neg (show ¬ (2 : Int32) = 0 by decide), if_neg (show ¬ (2 : Int32) = 0 by decide), if_neg (show ¬ (2 : Int32) = 0 by decide), q_faulty, n_fails, bd_some, bd_some]
    exact Ag.mk _ (Inv_fault hr 2)
  · rw [g, bd_some, e, if_neg (show ¬ (1 : Nat) = 0 by decide), if_pos e2, if_pos rfl, if_neg (nle e3), if_neg (show ¬ (4 : Int32) = 0 by decide), if_neg (show ¬ (4 : Int32) = 0 by decide), if_neg (show ¬ (4 : Int32) = 0 by decide), q_faulty, n_fails, bd_some, bd_some]
    exact Ag.mk _ (Inv_fault hr 4)
  · have hlk : f_X2_lacks (gSh k) x3 x4 M = some (1, M) := by
      rcases q_lacks a3 m3 x3 x4 with ⟨q, _⟩ | ⟨_, q⟩
      · exact absurd q e4
      · exact q
    rw [g, bd_some, e, if_neg (show ¬ (1 : Nat) = 0 by decide), if_pos e2, if_pos rfl, if_pos (yle e3), if_pos rfl, hlk, bd_some, if_neg i10, if_neg (show ¬ (3 : Int32) = 0 by decide), if_neg (show ¬ (3 : Int32) = 0 by decide), q_faulty, n_fails, bd_some, bd_some]
    exact Ag.mk _ (Inv_fault hr 3)
  · have hlk : f_X2_lacks (gSh k) x3 x4 M = some (0, M) := by
      rcases q_lacks a3 m3 x3 x4 with ⟨_, q⟩ | ⟨q, _⟩
      · exact q
      · exact absurd e3 q
    obtain ⟨a, m, rfl, rfl, ham⟩ := e3
    have hge : (0 : Int32) ≤ I (m : Int) := by rw [I_0, I_le (by omega) (by omega)]; omega
    rw [g, bd_some, e, if_neg (show ¬ (1 : Nat) = 0 by decide), if_pos e2, if_pos rfl, if_pos hge, if_pos rfl, hlk, bd_some, if_pos rfl, if_pos rfl, if_pos rfl, ilt_eq, ix]
    obtain ⟨_, e9'⟩ := h0
    exact str_j hr e9' hk (by omega)
