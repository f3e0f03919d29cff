/-! ===== numbers: I z is the int of a whole number ===== -/
def I (z : Int) : Int32 := Int32.ofInt z
theorem I_add (a b : Int) : I a + I b = I (a + b) := (Int32.ofInt_add a b).symm
theorem I_sub (a b : Int) : I a - I b = I (a - b) := (Int32.ofInt_sub a b).symm
theorem I_mul (a b : Int) : I a * I b = I (a * b) := (Int32.ofInt_mul a b).symm
theorem I_ti {z : Int} (h : -2000000000 ≤ z ∧ z ≤ 2000000000) : (I z).toInt = z := Int32.toInt_ofInt_of_le (by omega) (by omega)
theorem I_lt {a b : Int} (ha : -2000000000 ≤ a ∧ a ≤ 2000000000) (hb : -2000000000 ≤ b ∧ b ≤ 2000000000) : I a < I b ↔ a < b := by rw [Int32.lt_iff_toInt_lt, I_ti ha, I_ti hb]
theorem I_le {a b : Int} (ha : -2000000000 ≤ a ∧ a ≤ 2000000000) (hb : -2000000000 ≤ b ∧ b ≤ 2000000000) : I a ≤ I b ↔ a ≤ b := by rw [Int32.le_iff_toInt_le, I_ti ha, I_ti hb]
theorem I_eq {a b : Int} (ha : -2000000000 ≤ a ∧ a ≤ 2000000000) (hb : -2000000000 ≤ b ∧ b ≤ 2000000000) : I a = I b ↔ a = b := by rw [← Int32.toInt_inj, I_ti ha, I_ti hb]
theorem t_lt {β : Type} {a b : Int} {x y : β} (ha : -2000000000 ≤ a ∧ a ≤ 2000000000) (hb : -2000000000 ≤ b ∧ b ≤ 2000000000) : (if I a < I b then x else y) = if a < b then x else y := by
  by_cases h : a < b
  · rw [if_pos h, if_pos ((I_lt ha hb).mpr h)]
  · rw [if_neg h, if_neg (fun q => h ((I_lt ha hb).mp q))]
theorem t_le {β : Type} {a b : Int} {x y : β} (ha : -2000000000 ≤ a ∧ a ≤ 2000000000) (hb : -2000000000 ≤ b ∧ b ≤ 2000000000) : (if I a ≤ I b then x else y) = if a ≤ b then x else y := by
  by_cases h : a ≤ b
  · rw [if_pos h, if_pos ((I_le ha hb).mpr h)]
  · rw [if_neg h, if_neg (fun q => h ((I_le ha hb).mp q))]
theorem t_eq {β : Type} {a b : Int} {x y : β} (ha : -2000000000 ≤ a ∧ a ≤ 2000000000) (hb : -2000000000 ≤ b ∧ b ≤ 2000000000) : (if I a = I b then x else y) = if a = b then x else y := by
  by_cases h : a = b
  · rw [if_pos h, if_pos ((I_eq ha hb).mpr h)]
  · rw [if_neg h, if_neg (fun q => h ((I_eq ha hb).mp q))]
theorem I_0 : (0 : Int32) = I 0 := by decide
theorem I_1 : (1 : Int32) = I 1 := by decide
theorem I_2 : (2 : Int32) = I 2 := by decide
theorem I_3 : (3 : Int32) = I 3 := by decide
theorem I_4 : (4 : Int32) = I 4 := by decide
theorem I_5 : (5 : Int32) = I 5 := by decide
theorem I_6 : (6 : Int32) = I 6 := by decide
theorem I_8 : (8 : Int32) = I 8 := by decide
theorem I_9 : (9 : Int32) = I 9 := by decide
theorem I_60 : (60 : Int32) = I 60 := by decide
theorem I_99 : (99 : Int32) = I 99 := by decide
theorem I_n1 : (-1 : Int32) = I (-1) := by decide
theorem I_n9 : (-9 : Int32) = I (-9) := by decide
theorem I_succ (n : Nat) : I n + 1 = I ((n + 1 : Nat) : Int) := by rw [I_1, I_add]; rfl
theorem I_tn {n : Nat} (h : n ≤ 2000000000) : (I (n : Int)).toNatClampNeg = n := by
  unfold I
  rw [Int32.toNatClampNeg_ofInt_of_le (by omega) (by omega)]
  rfl
theorem I_div2 {n : Nat} (h : n ≤ 1000000) : I (n : Int) / 2 = I ((n / 2 : Nat) : Int) := by
  have h1 := Int32.ofNat_div (a := n) (b := 2) (by omega) (by decide)
  unfold I
  rw [Int32.ofInt_eq_ofNat, Int32.ofInt_eq_ofNat, h1]
  rfl
/-- an int that is not below 0 is that of a number -/
theorem I_of {x : Int32} (h : ¬ x < 0) : ∃ n : Nat, x = I n ∧ n < 2147483648 := by
  refine ⟨x.toInt.toNat, ?_, ?_⟩
  · have h0 : 0 ≤ x.toInt := by
      rw [Int32.lt_iff_toInt_lt] at h
      exact Int.not_lt.mp h
    unfold I
    rw [Int.toNat_of_nonneg h0, Int32.ofInt_toInt]
  · have := x.toInt_lt
    omega
theorem I_ti2 {n : Nat} (h : n < 2147483648) : (I (n : Int)).toInt = n := Int32.toInt_ofInt_of_le (by omega) (by omega)
theorem grd_ok {β : Type} {k n : Nat} {o : Option β} (h : k < n) (hn : n ≤ 1000) : grd (I (k : Int)) n o = o := by
  unfold grd
  rw [if_pos]
  refine ⟨?_, by rw [I_tn (by omega)]; exact h⟩
  rw [I_0, I_lt (by omega) (by omega)]
  omega
theorem ilt_eq {β : Type} (x : Int32) (k : Int32 → β) : ilt x k = k x := rfl
theorem llt_eq {β : Type} (x : Int64) (k : Int64 → β) : llt x k = k x := rfl
theorem mlt_eq {β : Type} (M : Mem) (k : Mem → β) : mlt M k = k M := rfl
theorem bd_some {α β : Type} (a : α) (M : Mem) (k : α → Mem → Option β) : bd (some (a, M)) k = k a M := rfl
theorem iabs_I {z : Int} (h : -1000000 ≤ z ∧ z ≤ 1000000) : iabs (I z) = I (z.natAbs : Int) := by
  unfold iabs
  rw [I_0, t_le (by omega) (by omega), I_sub]
  by_cases h0 : 0 ≤ z
  · rw [if_pos h0]; congr 1; omega
  · rw [if_neg h0]; congr 1; omega
/-- a loop that counts up to H, its state s i at turn i -/
theorem lp {σ ρ : Type} (F : Nat → Int32 → σ → ρ) (k : σ → ρ) (H : Nat) (s : Nat → σ) (h1 : ∀ n i, i < H → F (n + 1) (I (i : Int)) (s i) = F n (I ((i + 1 : Nat) : Int)) (s (i + 1))) (h2 : ∀ n, F (n + 1) (I (H : Int)) (s H) = k (s H)) : ∀ n i, i ≤ H → H - i < n → F n (I (i : Int)) (s i) = k (s H) := by
  intro n
  induction n with
  | zero => intro i _ h; omega
  | succ n ih =>
    intro i hi hn
    by_cases h : i = H
    · subst h; exact h2 n
    · rw [h1 n i (by omega)]
      exact ih (i + 1) (by omega) (by omega)
/-- a loop from 0 on, with FU turns left -/
theorem lp0 {σ ρ : Type} (F : Nat → Int32 → σ → ρ) (k : σ → ρ) (H : Nat) (hH : H < 3000) (s : Nat → σ) (h1 : ∀ n i, i < H → F (n + 1) (I (i : Int)) (s i) = F n (I ((i + 1 : Nat) : Int)) (s (i + 1))) (h2 : ∀ n, F (n + 1) (I (H : Int)) (s H) = k (s H)) : F FU 0 (s 0) = k (s H) :=
  lp F k H s h1 h2 FU 0 (Nat.zero_le _) (by have := FU_ge; omega)
theorem mu_ne {M : Mem} {r q k : Nat} {v : Int32} (h : q ≠ r) : mu M r k v q = M q := mset_ne _ _ h
theorem mu_eq (M : Mem) (r k : Nat) (v : Int32) : mu M r k v r = upd (M r) k v := mset_eq _ _ _
theorem upd_eq (f : Nat → Int32) (k : Nat) (v : Int32) : upd f k v k = v := if_pos rfl
theorem upd_ne {f : Nat → Int32} {k j : Nat} {v : Int32} (h : j ≠ k) : upd f k v j = f j := if_neg h
