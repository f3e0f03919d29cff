/-! ===== street: the text ===== -/
noncomputable def hTail (x1 x_1 v : Int32) (M : Mem) : Option (Int32 × Mem) := (grd x_1 12 (mlt (mu M 8 x_1.toNatClampNeg v) (fun M2 => grd x_1 12 (if (M2 8 x_1.toNatClampNeg) = (-9 : Int32) then (some ((0 : Int32), M2)) else (mlt (mu M2 0 14 ((M2 0 14) + (1 : Int32))) (fun M3 => bd (f_X6_digit x1 (1 : Int32) (9 : Int32) M3) (fun r5 M4 => grd (x_1 + (1 : Int32)) 12 (mlt (mu M4 8 (x_1 + (1 : Int32)).toNatClampNeg r5) (fun M6 => mlt (mu M6 0 16 ((M6 0 16) + (1 : Int32))) (fun M7 => grd (x_1 + (1 : Int32)) 12 (if (M7 8 (x_1 + (1 : Int32)).toNatClampNeg) = (-9 : Int32) then (some ((0 : Int32), M7)) else (some ((1 : Int32), M7)))))))))))))
theorem hTree (x1 : Int32) (M : Mem) : f_X6_readTheHouse x1 M = (if x1 ≤ M 0 14 then ilt ((2 : Int32) * M 0 16) (fun x => if (0 : Int32) = (115 : Int32) then hTail x1 x 0 M else if (0 : Int32) = (110 : Int32) then hTail x1 x 1 M else if (0 : Int32) = (98 : Int32) then hTail x1 x 2 M else hTail x1 x (-9) M) else grd (M 0 14) 240 (ilt (M 3 (M 0 14).toNatClampNeg) (fun y => ilt ((2 : Int32) * M 0 16) (fun x => if y = (115 : Int32) then hTail x1 x 0 M else if y = (110 : Int32) then hTail x1 x 1 M else if y = (98 : Int32) then hTail x1 x 2 M else hTail x1 x (-9) M)))) := rfl
def tc (n : Nat) (cd : Nat → Int32) (M : Mem) (p : Nat) : Prop := M 13 1 = I n ∧ M 13 2 = I p ∧ ∀ q, q < n → M 14 q = cd q
def tm (n B : Nat) (cd : Nat → Int32) (N : Mem) (p : Nat) : Prop := N 0 14 = I ((B + p : Nat) : Int) ∧ ∀ q, q < n → N 3 (B + q) = cd q
theorem tc_fr {n : Nat} {cd : Nat → Int32} {M M' : Mem} {p : Nat} (h : tc n cd M p) (hm : ∀ r, 13 ≤ r → r < 15 → M' r = M r) : tc n cd M' p := by
  refine ⟨by rw [hm 13 (by decide) (by decide)]; exact h.1, by rw [hm 13 (by decide) (by decide)]; exact h.2.1, fun q hq => by rw [hm 14 (by decide) (by decide)]; exact h.2.2 q hq⟩
theorem tc_up {n : Nat} {cd : Nat → Int32} {M : Mem} {p : Nat} (h : tc n cd M p) : tc n cd (mu M 13 2 (I ((p + 1 : Nat) : Int))) (p + 1) := ⟨by rw [mu_f (by decide)]; exact h.1, by rw [mu_v], fun q hq => by rw [mu_nn (by decide)]; exact h.2.2 q hq⟩
theorem tm_up {n B : Nat} {cd : Nat → Int32} {N : Mem} {p : Nat} (h : tm n B cd N p) : tm n B cd (mu N 0 14 (I ((B + (p + 1) : Nat) : Int))) (p + 1) := ⟨by rw [mu_v], fun q hq => by rw [mu_nn (by decide)]; exact h.2 q hq⟩
theorem tm_fr {n B : Nat} {cd : Nat → Int32} {N N' : Mem} {p : Nat} (h : tm n B cd N p) (h0 : N' 0 14 = N 0 14) (h3 : N' 3 = N 3) : tm n B cd N' p := ⟨by rw [h0]; exact h.1, fun q hq => by rw [h3]; exact h.2 q hq⟩
section TX
variable {n B p : Nat} {cd : Nat → Int32} {M N : Mem}
theorem sgn_j (hn : n ≤ 60) (hB : B + n ≤ 240) (hp : p ≤ n) (h1 : tc n cd M p) (h2 : tm n B cd N p) (s : Int32) : (p < n ∧ cd p = s ∧ f_X4_takeSign s M = some (1, mu M 13 2 (I ((p + 1 : Nat) : Int))) ∧ f_X6_isNext (I ((B + n : Nat) : Int)) s N = some (1, N) ∧ f_X6_isSign (I ((B + n : Nat) : Int)) s N = some (1, mu N 0 14 (I ((B + (p + 1) : Nat) : Int)))) ∨ (¬ (p < n ∧ cd p = s) ∧ f_X4_takeSign s M = some (0, M) ∧ f_X6_isNext (I ((B + n : Nat) : Int)) s N = some (0, N) ∧ f_X6_isSign (I ((B + n : Nat) : Int)) s N = some (0, N)) := by
  have key : (p < n ∧ cd p = s ∧ f_X4_takeSign s M = some (1, mu M 13 2 (I ((p + 1 : Nat) : Int))) ∧ f_X6_isNext (I ((B + n : Nat) : Int)) s N = some (1, N)) ∨ (¬ (p < n ∧ cd p = s) ∧ f_X4_takeSign s M = some (0, M) ∧ f_X6_isNext (I ((B + n : Nat) : Int)) s N = some (0, N)) := by
    unfold f_X4_takeSign f_X6_isNext
    rw [h1.1, h1.2.1, h2.1, t_le (by omega) (by omega), t_le (by omega) (by omega)]
    by_cases e : p = n
    · right
      rw [if_pos (by omega), if_pos (by omega)]
      exact ⟨fun q => by omega, rfl, rfl⟩
    · have hlt : p < n := by omega
      rw [if_neg (show ¬ (n : Int) ≤ (p : Int) by omega), if_neg (show ¬ ((B + n : Nat) : Int) ≤ ((B + p : Nat) : Int) by omega), grd_ok (by omega) (by decide), grd_ok (by omega) (by decide), I_tn (by omega), I_tn (by omega), h1.2.2 p hlt, h2.2 p hlt, mlt_eq, I_succ]
      by_cases e2 : cd p = s
      · left
        rw [if_pos e2, if_pos e2]
        exact ⟨hlt, e2, rfl, rfl⟩
      · right
        rw [if_neg e2, if_neg e2]
        exact ⟨fun q => e2 q.2, rfl, rfl⟩
  unfold f_X6_isSign
  rcases key with ⟨a1, a2, a3, a4⟩ | ⟨a1, a2, a3⟩
  · left
    rw [a4, bd_some, if_neg i10, mlt_eq, h2.1, I_succ]
    exact ⟨a1, a2, a3, rfl, rfl⟩
  · right
    rw [a3, bd_some, if_pos rfl]
    exact ⟨a1, a2, rfl, rfl⟩
theorem dig_j (hn : n ≤ 60) (hB : B + n ≤ 240) (hp : p ≤ n) (h1 : tc n cd M p) (h2 : tm n B cd N p) {xl xh : Int32} {lo hi : Nat} (el : xl = I lo) (eh : xh = I hi) (hlo : lo ≤ 100) (hhi : hi ≤ 100) : (∃ v : Nat, p < n ∧ lo ≤ v ∧ v ≤ hi ∧ f_X4_takeDigit xl xh M = some (I v, mu M 13 2 (I ((p + 1 : Nat) : Int))) ∧ f_X6_digit (I ((B + n : Nat) : Int)) xl xh N = some (I v, mu N 0 14 (I ((B + (p + 1) : Nat) : Int)))) ∨ (f_X4_takeDigit xl xh M = some (-1, M) ∧ f_X6_digit (I ((B + n : Nat) : Int)) xl xh N = some (-9, N)) := by
  subst el
  subst eh
  unfold f_X4_takeDigit f_X6_digit
  have e48 : (48 : Int32) = I 48 := by decide
  rw [h1.1, h1.2.1, h2.1, t_lt (by omega) (by omega), t_le (by omega) (by omega)]
  by_cases e : p = n
  · right
    rw [if_neg (by omega), if_pos (by omega)]
    exact ⟨rfl, rfl⟩
  · have hlt : p < n := by omega
    rw [if_pos (by omega), if_neg (by omega), grd_ok (by omega) (by decide), grd_ok (by omega) (by decide), I_tn (by omega), I_tn (by omega), h1.2.2 p hlt, h2.2 p hlt, ilt_eq, e48, I_add, I_add, show ((48 : Int) + (lo : Int)) = ((48 + lo : Nat) : Int) by omega, show ((48 : Int) + (hi : Int)) = ((48 + hi : Nat) : Int) by omega]
    rcases rg_cases (cd p) (I ((48 + lo : Nat) : Int)) (I ((48 + hi : Nat) : Int)) (l := 48 + lo) (h := 48 + hi) rfl rfl (by omega) (by omega) with g | ⟨g1, g2, v, ev, g3, g4⟩
    · right
      rw [w_out g, bd_some, if_pos rfl]
      refine ⟨?_, rfl⟩
      rcases g with g | ⟨g, g'⟩
      · rw [if_pos g]
      · rw [if_neg g, if_neg (nle g')]
    · left
      rw [w_in g1 g2, bd_some, if_neg i10, if_neg g1, if_pos (yle g2), mlt_eq, mlt_eq, I_succ, mu_v, h2.1, I_succ, I_1, I_sub, show (((B + p + 1 : Nat) : Int) - 1) = ((B + p : Nat) : Int) by omega, grd_ok (by omega) (by decide), I_tn (by omega), mu_nn (by decide), h2.2 p hlt, ev, I_sub, show ((v : Int) - 48) = ((v - 48 : Nat) : Int) by omega]
      exact ⟨v - 48, hlt, by omega, by omega, rfl, rfl⟩
/-- the kind: three signs in the class, one look in the reference -/
theorem kin_c (hn : n ≤ 60) (hp : p ≤ n) (h1 : tc n cd M p) : (∃ k : Nat, k ≤ 2 ∧ p < n ∧ (cd p = 115 ∧ k = 0 ∨ cd p = 110 ∧ k = 1 ∨ cd p = 98 ∧ k = 2) ∧ f_X4_takeKind M = some (I k, mu M 13 2 (I ((p + 1 : Nat) : Int)))) ∨ ((p = n ∨ (¬ cd p = 115 ∧ ¬ cd p = 110 ∧ ¬ cd p = 98)) ∧ f_X4_takeKind M = some (-9, M)) := by
  have sg : ∀ s : Int32, f_X4_takeSign s M = if p < n ∧ cd p = s then some (1, mu M 13 2 (I ((p + 1 : Nat) : Int))) else some (0, M) := fun s => by
    unfold f_X4_takeSign
    rw [h1.1, h1.2.1, t_le (by omega) (by omega)]
    by_cases e : p = n
    · rw [if_pos (by omega), if_neg (by omega)]
    · have hlt : p < n := by omega
      rw [if_neg (by omega), grd_ok (by omega) (by decide), I_tn (by omega), h1.2.2 p hlt, mlt_eq, I_succ]
      by_cases e2 : cd p = s
      · rw [if_pos e2, if_pos ⟨hlt, e2⟩]
      · rw [if_neg e2, if_neg (fun q => e2 q.2)]
  unfold f_X4_takeKind
  by_cases e : p = n
  · right
    rw [sg, if_neg (by omega), bd_some, if_pos rfl, sg, if_neg (by omega), bd_some, if_pos rfl, sg, if_neg (by omega), bd_some, if_pos rfl]
    exact ⟨Or.inl e, rfl⟩
  · have hlt : p < n := by omega
    by_cases e1 : cd p = 115
    · left
      rw [sg, if_pos ⟨hlt, e1⟩, bd_some, if_neg i10]
      exact ⟨0, by decide, hlt, Or.inl ⟨e1, rfl⟩, rfl⟩
    · rw [sg, if_neg (fun q => e1 q.2), bd_some, if_pos rfl]
      by_cases e2 : cd p = 110
      · left
        rw [sg, if_pos ⟨hlt, e2⟩, bd_some, if_neg i10]
        exact ⟨1, by decide, hlt, Or.inr (Or.inl ⟨e2, rfl⟩), rfl⟩
      · rw [sg, if_neg (fun q => e2 q.2), bd_some, if_pos rfl]
        by_cases e3 : cd p = 98
        · left
          rw [sg, if_pos ⟨hlt, e3⟩, bd_some, if_neg i10]
          exact ⟨2, by decide, hlt, Or.inr (Or.inr ⟨e3, rfl⟩), rfl⟩
        · right
          rw [sg, if_neg (fun q => e3 q.2), bd_some, if_pos rfl]
          exact ⟨Or.inr ⟨e1, e2, e3⟩, rfl⟩
end TX
/-- a house's text, in both -/
theorem hou_j {n B p h : Nat} {cd : Nat → Int32} {M N : Mem} (hn : n ≤ 60) (hB : B + n ≤ 240) (hp : p ≤ n) (h1 : tc n cd M p) (h2 : tm n B cd N p) (hh : h < 6) (e16 : N 0 16 = I h) :
    (∃ (k d : Nat) (N' : Mem), k ≤ 2 ∧ 1 ≤ d ∧ d ≤ 9 ∧ p + 2 ≤ n ∧ f_X4_takeKind M = some (I k, mu M 13 2 (I ((p + 1 : Nat) : Int))) ∧ f_X4_takeDigit 1 9 (mu M 13 2 (I ((p + 1 : Nat) : Int))) = some (I d, mu (mu M 13 2 (I ((p + 1 : Nat) : Int))) 13 2 (I ((p + 1 + 1 : Nat) : Int))) ∧ f_X6_readTheHouse (I ((B + n : Nat) : Int)) N = some (1, N') ∧ tm n B cd N' (p + 2) ∧ N' 0 16 = I ((h + 1 : Nat) : Int) ∧ N' 8 (2 * h) = I k ∧ N' 8 (2 * h + 1) = I d ∧ (∀ q, q < 2 * h → N' 8 q = N 8 q) ∧ (∀ r, r ≠ 0 → r ≠ 8 → N' r = N r) ∧ ∀ q, q ≠ 14 → q ≠ 16 → N' 0 q = N 0 q) ∨
    (∃ N', f_X4_takeKind M = some (-9, M) ∧ f_X6_readTheHouse (I ((B + n : Nat) : Int)) N = some (0, N') ∧ N' 0 14 = I ((B + p : Nat) : Int) ∧ (∀ r, r ≠ 0 → r ≠ 8 → N' r = N r) ∧ ∀ q, q ≠ 14 → q ≠ 16 → N' 0 q = N 0 q) ∨
    (∃ (k : Nat) (N' : Mem), k ≤ 2 ∧ p + 1 ≤ n ∧ f_X4_takeKind M = some (I k, mu M 13 2 (I ((p + 1 : Nat) : Int))) ∧ f_X4_takeDigit 1 9 (mu M 13 2 (I ((p + 1 : Nat) : Int))) = some (-1, mu M 13 2 (I ((p + 1 : Nat) : Int))) ∧ f_X6_readTheHouse (I ((B + n : Nat) : Int)) N = some (0, N') ∧ N' 0 14 = I ((B + (p + 1) : Nat) : Int) ∧ (∀ r, r ≠ 0 → r ≠ 8 → N' r = N r) ∧ ∀ q, q ≠ 14 → q ≠ 16 → N' 0 q = N 0 q) := by
  have e2h : (2 : Int32) * I (h : Int) = I ((2 * h : Nat) : Int) := by rw [I_2, I_mul]; congr 1
  have bad : hTail (I ((B + n : Nat) : Int)) (I ((2 * h : Nat) : Int)) (-9) N = some (0, mu N 8 (2 * h) (-9)) := by
    unfold hTail
    rw [grd_ok (by omega) (by decide), mlt_eq, grd_ok (by omega) (by decide), I_tn (by omega), mu_v, if_pos rfl]
  have good : ∀ k : Nat, k ≤ 2 → p < n → (∃ (d : Nat) (N' : Mem), 1 ≤ d ∧ d ≤ 9 ∧ p + 2 ≤ n ∧ f_X4_takeDigit 1 9 (mu M 13 2 (I ((p + 1 : Nat) : Int))) = some (I d, mu (mu M 13 2 (I ((p + 1 : Nat) : Int))) 13 2 (I ((p + 1 + 1 : Nat) : Int))) ∧ hTail (I ((B + n : Nat) : Int)) (I ((2 * h : Nat) : Int)) (I k) N = some (1, N') ∧ tm n B cd N' (p + 2) ∧ N' 0 16 = I ((h + 1 : Nat) : Int) ∧ N' 8 (2 * h) = I k ∧ N' 8 (2 * h + 1) = I d ∧ (∀ q, q < 2 * h → N' 8 q = N 8 q) ∧ (∀ r, r ≠ 0 → r ≠ 8 → N' r = N r) ∧ ∀ q, q ≠ 14 → q ≠ 16 → N' 0 q = N 0 q) ∨ (∃ N' : Mem, f_X4_takeDigit 1 9 (mu M 13 2 (I ((p + 1 : Nat) : Int))) = some (-1, mu M 13 2 (I ((p + 1 : Nat) : Int))) ∧ hTail (I ((B + n : Nat) : Int)) (I ((2 * h : Nat) : Int)) (I k) N = some (0, N') ∧ N' 0 14 = I ((B + (p + 1) : Nat) : Int) ∧ (∀ r, r ≠ 0 → r ≠ 8 → N' r = N r) ∧ ∀ q, q ≠ 14 → q ≠ 16 → N' 0 q = N 0 q) := fun k hk hlt => by
    unfold hTail
    have hk9 : ¬ I (k : Int) = -9 := fun q => by rw [I_n9, I_eq (by omega) (by omega)] at q; omega
    have t1 := tc_up h1
    have t2 : tm n B cd (mu (mu N 8 (2 * h) (I k)) 0 14 (I ((B + (p + 1) : Nat) : Int))) (p + 1) := tm_up (tm_fr h2 (mu_nn (by decide)) (mu_ne (by decide)))
    rw [grd_ok (by omega) (by decide), mlt_eq, grd_ok (by omega) (by decide), I_tn (by omega), mu_v, if_neg hk9, mlt_eq, mu_nn (by decide), h2.1, I_succ, I_succ, show B + p + 1 = B + (p + 1) by omega]
    rcases dig_j hn hB (show p + 1 ≤ n by omega) t1 t2 (xl := 1) (xh := 9) (lo := 1) (hi := 9) I_1 I_9 (by decide) (by decide) with ⟨d, g1, g2, g3, g4, g5⟩ | ⟨g4, g5⟩
    · left
      have hd9 : ¬ I (d : Int) = -9 := fun q => by rw [I_n9, I_eq (by omega) (by omega)] at q; omega
      rw [g5, bd_some, grd_ok (by omega) (by decide), mlt_eq, mlt_eq, grd_ok (by omega) (by decide), I_tn (by omega), mu_nn (by decide), mu_v, if_neg hd9, mu_nn (by decide), mu_f (by decide), mu_f (by decide), mu_nn (by decide), e16, I_succ]
      refine ⟨d, _, g2, g3, by omega, g4, rfl, ⟨?_, fun q hq => ?_⟩, ?_, ?_, ?_, fun q hq => ?_, fun r a b => ?_, fun q a b => ?_⟩
      · rw [mu_f (by decide), mu_nn (by decide), mu_v]
      · rw [mu_nn (by decide), mu_nn (by decide), mu_nn (by decide), mu_nn (by decide), mu_nn (by decide)]
        exact h2.2 q hq
      · rw [mu_v]
      · rw [mu_nn (by decide), mu_f (by omega), mu_nn (by decide), mu_nn (by decide), mu_v]
      · rw [mu_nn (by decide), mu_v]
      · rw [mu_nn (by decide), mu_f (by omega), mu_nn (by decide), mu_nn (by decide), mu_f (by omega)]
      · rw [mu_ne a, mu_ne b, mu_ne a, mu_ne a, mu_ne b]
      · rw [mu_f b, mu_nn (by decide), mu_f a, mu_f a, mu_nn (by decide)]
    · right
      rw [g5, bd_some, grd_ok (by omega) (by decide), mlt_eq, mlt_eq, grd_ok (by omega) (by decide), I_tn (by omega), mu_nn (by decide), mu_v, if_pos rfl]
      refine ⟨_, g4, rfl, ?_, fun r a b => ?_, fun q a b => ?_⟩
      · rw [mu_f (by decide), mu_nn (by decide), mu_v]
      · rw [mu_ne a, mu_ne b, mu_ne a, mu_ne b]
      · rw [mu_f b, mu_nn (by decide), mu_f a, mu_nn (by decide)]
  rw [hTree, e16, e2h, ilt_eq, ilt_eq, h2.1, t_le (by omega) (by omega)]
  rcases kin_c hn hp h1 with ⟨k, hk, hlt, hc, hf⟩ | ⟨hc, hf⟩
  · rw [if_neg (by omega), grd_ok (by omega) (by decide), I_tn (by omega), h2.2 p hlt, ilt_eq]
    have tree : (if cd p = (115 : Int32) then hTail (I ((B + n : Nat) : Int)) (I ((2 * h : Nat) : Int)) 0 N else if cd p = (110 : Int32) then hTail (I ((B + n : Nat) : Int)) (I ((2 * h : Nat) : Int)) 1 N else if cd p = (98 : Int32) then hTail (I ((B + n : Nat) : Int)) (I ((2 * h : Nat) : Int)) 2 N else hTail (I ((B + n : Nat) : Int)) (I ((2 * h : Nat) : Int)) (-9) N) = hTail (I ((B + n : Nat) : Int)) (I ((2 * h : Nat) : Int)) (I k) N := by
      rcases hc with ⟨a, rfl⟩ | ⟨a, rfl⟩ | ⟨a, rfl⟩
      · rw [if_pos a]; rfl
      · rw [a, if_neg (by decide), if_pos rfl]; rfl
      · rw [a, if_neg (by decide), if_neg (by decide), if_pos rfl]; rfl
    rw [tree]
    rcases good k hk hlt with ⟨d, N', a⟩ | ⟨N', a⟩
    · left
      exact ⟨k, d, N', hk, a.1, a.2.1, a.2.2.1, hf, a.2.2.2.1, a.2.2.2.2⟩
    · right; right
      exact ⟨k, N', hk, by omega, hf, a.1, a.2⟩
  · right; left
    have fin : ∀ r, r ≠ 0 → r ≠ 8 → mu N 8 (2 * h) (-9) r = N r := fun r _ b => mu_ne b
    refine ⟨mu N 8 (2 * h) (-9), hf, ?_, by rw [mu_nn (by decide)]; exact h2.1, fin, fun q _ _ => mu_nn (by decide)⟩
    by_cases e : p = n
    · rw [if_pos (by omega), if_neg (by decide), if_neg (by decide), if_neg (by decide)]
      exact bad
    · have hlt : p < n := by omega
      rcases hc with hc | ⟨c1, c2, c3⟩
      · exact absurd hc e
      · rw [if_neg (by omega), grd_ok (by omega) (by decide), I_tn (by omega), h2.2 p hlt, ilt_eq, if_neg c1, if_neg c2, if_neg c3]
        exact bad
/-- houses read so far: F 0 kind, F 1 depth -/
def PH (n B T : Nat) (cd : Nat → Int32) (h p : Nat) (F : Nat → Nat → Nat) (M N : Mem) : Prop := tc n cd M p ∧ tm n B cd N p ∧ p ≤ n ∧ (M 7 5 = I h ∧ M 7 6 = 0 ∧ M 7 7 = I T) ∧ (N 0 16 = I h ∧ N 0 17 = 0 ∧ N 0 15 = I T) ∧ ∀ i, i < h → (F 0 i ≤ 2 ∧ 1 ≤ F 1 i ∧ F 1 i ≤ 9) ∧ (M 8 i = I (F 0 i) ∧ M 9 i = I (F 1 i)) ∧ N 8 (2 * i) = I (F 0 i) ∧ N 8 (2 * i + 1) = I (F 1 i)
theorem q_addHouse {M : Mem} {h : Nat} (hh : h < 6) (e : M 7 5 = I h) (x y : Int32) : f_X3_addHouse 7 x y M = some ((), mu (mu (mu M 8 h x) 9 h y) 7 5 (I ((h + 1 : Nat) : Int))) := by
  unfold f_X3_addHouse
  rw [e, grd_ok (by omega) (by decide), mlt_eq, I_tn (by omega), mu_nn (by decide), e, grd_ok (by omega) (by decide), mlt_eq, I_tn (by omega), mu_nn (by decide), mu_nn (by decide), e, mlt_eq, I_succ]
theorem houses_j {n B T : Nat} {cd : Nat → Int32} (hn : n ≤ 60) (hB : B + n ≤ 240) {kz : Mem → Option (Int32 × Mem)} (hkz : ∀ N, kz N = some (0, N)) : ∀ (j f f' h p : Nat) (F : Nat → Nat → Nat) (M N : Mem), h + j = 6 → j < f → j < f' → PH n B T cd h p F M N → ∃ (r : Int32) (M' N' : Mem), f_X4_readHouses_L2 7 (fun M8 => if (M8 7 5) < (2 : Int32) then (some ((0 : Int32), M8)) else (some ((1 : Int32), M8))) f (I h) M = some (r, M') ∧ (∀ q, q < 7 ∨ 14 ≤ q → M' q = M q) ∧ (∀ q, q ≠ 0 → q ≠ 8 → N' q = N q) ∧ (∀ q, q ≠ 14 → q ≠ 16 → N' 0 q = N 0 q) ∧ ((r = 0 ∧ f_X6_readStreet_L44 (I ((B + n : Nat) : Int)) kz f' N = some (0, N') ∧ ∃ p' : Nat, M' 13 2 = I p' ∧ N' 0 14 = I ((B + p' : Nat) : Int) ∧ p' ≤ n) ∨ (r = 1 ∧ f_X6_readStreet_L44 (I ((B + n : Nat) : Int)) kz f' N = f_X6_readStreet_L91 (I ((B + n : Nat) : Int)) kz FU N' ∧ ∃ (h' p' : Nat) (F' : Nat → Nat → Nat), 2 ≤ h' ∧ h' ≤ 6 ∧ PH n B T cd h' p' F' M' N')) := by
  have kze : (fun M20 => some ((0 : Int32), M20)) = kz := funext fun N => (hkz N).symm
  intro j
  induction j with
  | zero =>
    intro f f' h p F M N hj hf hf' hP
    obtain ⟨f, rfl⟩ : ∃ m, f = m + 1 := ⟨f - 1, by omega⟩
    obtain ⟨f', rfl⟩ : ∃ m, f' = m + 1 := ⟨f' - 1, by omega⟩
    have hP0 := hP
    obtain ⟨t1, t2, hp, ⟨m5, m6, m7⟩, ⟨n16, n17, n15⟩, hF⟩ := hP
    have h6 : h = 6 := by omega
    subst h6
    rw [f_X4_readHouses_L2, f_X6_readStreet_L44, if_pos (show (6 : Int32) ≤ I ((6 : Nat) : Int) by decide), m5, n16, if_neg (show ¬ I ((6 : Nat) : Int) < 2 by decide), if_neg (show ¬ I ((6 : Nat) : Int) < 2 by decide), if_pos (show (6 : Int32) ≤ I ((6 : Nat) : Int) by decide), kze]
    exact ⟨1, M, N, rfl, fun _ _ => rfl, fun _ _ _ => rfl, fun _ _ _ => rfl, Or.inr ⟨rfl, rfl, 6, p, F, by decide, by decide, hP0⟩⟩
  | succ j ih =>
    intro f f' h p F M N hj hf hf' hP
    obtain ⟨f, rfl⟩ : ∃ m, f = m + 1 := ⟨f - 1, by omega⟩
    obtain ⟨f', rfl⟩ : ∃ m, f' = m + 1 := ⟨f' - 1, by omega⟩
    have hP0 := hP
    obtain ⟨t1, t2, hp, ⟨m5, m6, m7⟩, ⟨n16, n17, n15⟩, hF⟩ := hP
    have hh : h < 6 := by omega
    rw [f_X4_readHouses_L2, if_neg (show ¬ (6 : Int32) ≤ I (h : Int) from fun q => by rw [I_6, I_le (by omega) (by omega)] at q; omega)]
    rcases sgn_j hn hB hp t1 t2 59 with ⟨a1, a2, a3, a4, a5⟩ | ⟨a1, a2, a3, a4⟩
    · -- a sign, and then a house
      have hL : f_X6_readStreet_L44 (I ((B + n : Nat) : Int)) kz (f' + 1) N = bd (f_X6_readTheHouse (I ((B + n : Nat) : Int)) (mu N 0 14 (I ((B + (p + 1) : Nat) : Int)))) (fun r11 M10 => if r11 = 0 then (kz M10) else (f_X6_readStreet_L44 (I ((B + n : Nat) : Int)) kz f' M10)) := by
        rw [f_X6_readStreet_L44, n16]
        by_cases e : h < 2
        · rw [if_pos (show I (h : Int) < 2 by rw [I_2, I_lt (by omega) (by omega)]; omega), a5, bd_some, if_neg i10]
        · rw [if_neg (show ¬ I (h : Int) < 2 by rw [I_2, I_lt (by omega) (by omega)]; omega), if_neg (show ¬ (6 : Int32) ≤ I (h : Int) from fun q => by rw [I_6, I_le (by omega) (by omega)] at q; omega), a4, bd_some, if_neg i10, a5, bd_some, if_neg i10]
      rw [hL, a3, bd_some, if_neg i10]
      have u1 := tc_up t1
      have u2 := tm_up t2
      rcases hou_j hn hB (show p + 1 ≤ n by omega) u1 u2 hh (by rw [mu_f (by decide)]; exact n16) with ⟨k, d, N1, b1, b2, b3, b4, b5, b6, b7, b8, b9, b10, b11, b12, b13, b14⟩ | ⟨N1, b1, b2, b3, b4, b5⟩ | ⟨k, N1, b1, b2, b3, b4, b5, b6, b7, b8⟩
      · rw [b5, bd_some, if_neg (show ¬ I (k : Int) = -9 from fun q => by rw [I_n9, I_eq (by omega) (by omega)] at q; omega), b6, bd_some, if_neg (show ¬ I (d : Int) = -1 from fun q => by rw [I_n1, I_eq (by omega) (by omega)] at q; omega), b7, bd_some, if_neg i10, q_addHouse hh (by rw [mu_nn (by decide), mu_nn (by decide), mu_nn (by decide)]; exact m5), bd_some, I_succ]
        have hP2 : PH n B T cd (h + 1) (p + 1 + 2) (fun j i => if i = h then (if j = 0 then k else d) else F j i) (mu (mu (mu (mu (mu (mu M 13 2 (I ((p + 1 : Nat) : Int))) 13 2 (I ((p + 1 + 1 : Nat) : Int))) 13 2 (I ((p + 1 + 1 + 1 : Nat) : Int))) 8 h (I k)) 9 h (I d)) 7 5 (I ((h + 1 : Nat) : Int))) N1 := by
          refine ⟨?_, b8, b4, ⟨?_, ?_, ?_⟩, ⟨b9, ?_, ?_⟩, fun i hi => ?_⟩
          · exact tc_fr (tc_up (tc_up u1)) (fun r g1 g2 => by rw [mu_ne (by omega), mu_ne (by omega), mu_ne (by omega)])
          · rw [mu_v]
          · rw [mu_f (by decide), mu_nn (by decide), mu_nn (by decide), mu_nn (by decide), mu_nn (by decide), mu_nn (by decide)]; exact m6
          · rw [mu_f (by decide), mu_nn (by decide), mu_nn (by decide), mu_nn (by decide), mu_nn (by decide), mu_nn (by decide)]; exact m7
          · rw [b14 17 (by decide) (by decide), mu_f (by decide)]; exact n17
          · rw [b14 15 (by decide) (by decide), mu_f (by decide)]; exact n15
          · by_cases e : i = h
            · subst e
              simp only [if_pos, if_neg (show ¬ (1 : Nat) = 0 by decide)]
              refine ⟨⟨b1, b2, b3⟩, ⟨?_, ?_⟩, b10, b11⟩
              · rw [mu_nn (by decide), mu_nn (by decide), mu_v]
              · rw [mu_nn (by decide), mu_v]
            · simp only [if_neg e]
              obtain ⟨c1, ⟨c2, c3⟩, c4, c5⟩ := hF i (by omega)
              refine ⟨c1, ⟨?_, ?_⟩, ?_, ?_⟩
              · rw [mu_nn (by decide), mu_nn (by decide), mu_f e, mu_nn (by decide), mu_nn (by decide), mu_nn (by decide)]; exact c2
              · rw [mu_nn (by decide), mu_f e, mu_nn (by decide), mu_nn (by decide), mu_nn (by decide), mu_nn (by decide)]; exact c3
              · rw [b12 _ (by omega), mu_nn (by decide)]; exact c4
              · rw [b12 _ (by omega), mu_nn (by decide)]; exact c5
        obtain ⟨r, M', N', c1, c2, c3, c4, c5⟩ := ih f f' (h + 1) (p + 1 + 2) _ _ N1 (by omega) (by omega) (by omega) hP2
        refine ⟨r, M', N', c1, fun q hq => ?_, fun q g1 g2 => ?_, fun q g1 g2 => ?_, c5⟩
        · rw [c2 q hq, mu_ne (by omega), mu_ne (by omega), mu_ne (by omega), mu_ne (by omega), mu_ne (by omega), mu_ne (by omega)]
        · rw [c3 q g1 g2, b13 q g1 g2, mu_ne g1]
        · rw [c4 q g1 g2, b14 q g1 g2, mu_f g1]
      · rw [b1, bd_some, if_pos rfl, b2, bd_some, if_pos rfl, hkz]
        refine ⟨0, _, N1, rfl, fun q hq => mu_ne (by omega), fun q g1 g2 => by rw [b4 q g1 g2, mu_ne g1], fun q g1 g2 => by rw [b5 q g1 g2, mu_f g1], Or.inl ⟨rfl, rfl, p + 1, by rw [mu_v], b3, by omega⟩⟩
      · rw [b3, bd_some, if_neg (show ¬ I (k : Int) = -9 from fun q => by rw [I_n9, I_eq (by omega) (by omega)] at q; omega), b4, bd_some, if_pos rfl, b5, bd_some, if_pos rfl, hkz]
        refine ⟨0, _, N1, rfl, fun q hq => by rw [mu_ne (by omega), mu_ne (by omega)], fun q g1 g2 => by rw [b7 q g1 g2, mu_ne g1], fun q g1 g2 => by rw [b8 q g1 g2, mu_f g1], Or.inl ⟨rfl, rfl, p + 1 + 1, by rw [mu_v], b6, b2⟩⟩
    · rw [a2, bd_some, if_pos rfl, m5]
      by_cases e : h < 2
      · have e2 : I (h : Int) < 2 := by rw [I_2, I_lt (by omega) (by omega)]; omega
        rw [f_X6_readStreet_L44, n16, if_pos e2, if_pos e2, a4, bd_some, if_pos rfl, hkz]
        exact ⟨0, M, N, rfl, fun _ _ => rfl, fun _ _ _ => rfl, fun _ _ _ => rfl, Or.inl ⟨rfl, rfl, p, t1.2.1, t2.1, hp⟩⟩
      · have e2 : ¬ I (h : Int) < 2 := by rw [I_2, I_lt (by omega) (by omega)]; omega
        rw [f_X6_readStreet_L44, n16, if_neg e2, if_neg e2, if_neg (show ¬ (6 : Int32) ≤ I (h : Int) from fun q => by rw [I_6, I_le (by omega) (by omega)] at q; omega), a3, bd_some, if_pos rfl, kze]
        exact ⟨1, M, N, rfl, fun _ _ => rfl, fun _ _ _ => rfl, fun _ _ _ => rfl, Or.inr ⟨rfl, rfl, h, p, F, by omega, by omega, hP0⟩⟩
