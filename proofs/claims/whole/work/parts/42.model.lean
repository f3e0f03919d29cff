/-! ===== the reference's street ===== -/
/-- the numbers of a set, as one number -/
def mk (p : Nat → Nat) : Nat → Nat
  | 0 => 0
  | n + 1 => mk p n + p n * 2 ^ n
theorem mk_lt {p : Nat → Nat} : ∀ n, (∀ i, i < n → p i ≤ 1) → mk p n < 2 ^ n
  | 0, _ => by simp [mk]
  | n + 1, h => by
    have ih := mk_lt n (fun i hi => h i (by omega))
    have h1 := h n (by omega)
    rw [mk, Nat.pow_succ]
    have : p n * 2 ^ n ≤ 1 * 2 ^ n := Nat.mul_le_mul_right _ h1
    omega
theorem mk_16 {p : Nat → Nat} {n : Nat} (hn : n ≤ 4) (h : ∀ i, i < n → p i ≤ 1) : mk p n < 16 := by
  have h1 := mk_lt n h
  have h2 : 2 ^ n ≤ 2 ^ 4 := Nat.pow_le_pow_right (by decide) hn
  omega
theorem mk_bit {p : Nat → Nat} {n c : Nat} (hn : n ≤ 4) (hc : c < n) (h : ∀ i, i < n → p i ≤ 1) : mk p n / 2 ^ c % 2 = p c := by
  have h0 := h 0
  have h1 := h 1
  have h2 := h 2
  have h3 := h 3
  rcases (show n = 1 ∨ n = 2 ∨ n = 3 ∨ n = 4 by omega) with rfl | rfl | rfl | rfl
  · rcases (show c = 0 by omega) with rfl
    simp only [mk]; omega
  · rcases (show c = 0 ∨ c = 1 by omega) with rfl | rfl <;> simp only [mk] <;> omega
  · rcases (show c = 0 ∨ c = 1 ∨ c = 2 by omega) with rfl | rfl | rfl <;> simp only [mk] <;> omega
  · rcases (show c = 0 ∨ c = 1 ∨ c = 2 ∨ c = 3 by omega) with rfl | rfl | rfl | rfl <;> simp only [mk] <;> omega
theorem bt_sh : ∀ m, m < 16 → ∀ c, c < 4 → ((I ((m : Nat) : Int)) >>> (I ((c : Nat) : Int) &&& 31)) &&& (1 : Int32) = I ((m / 2 ^ c % 2 : Nat) : Int) := by decide +kernel
theorem bt_or : ∀ m, m < 16 → ∀ c, c < 4 → m / 2 ^ c % 2 = 0 → (I ((m : Nat) : Int)) ||| ((1 : Int32) <<< (I ((c : Nat) : Int) &&& 31)) = I ((m + 2 ^ c : Nat) : Int) := by decide +kernel
theorem bt_or1 : ∀ m, m < 16 → ∀ c, c < 4 → m / 2 ^ c % 2 = 1 → (I ((m : Nat) : Int)) ||| ((1 : Int32) <<< (I ((c : Nat) : Int) &&& 31)) = I ((m : Nat) : Int) := by decide +kernel
theorem bt_xor0 : ∀ m, m < 16 → ∀ c, c < 4 → m / 2 ^ c % 2 = 0 → (I ((m : Nat) : Int)) ^^^ ((1 : Int32) <<< (I ((c : Nat) : Int) &&& 31)) = I ((m + 2 ^ c : Nat) : Int) := by decide +kernel
theorem bt_xor1 : ∀ m, m < 16 → ∀ c, c < 4 → m / 2 ^ c % 2 = 1 → (I ((m : Nat) : Int)) ^^^ ((1 : Int32) <<< (I ((c : Nat) : Int) &&& 31)) = I ((m - 2 ^ c : Nat) : Int) := by decide +kernel
theorem bt_an : ∀ m, m < 16 → ∀ c, c < 4 → m / 2 ^ c % 2 = 1 → (I ((m : Nat) : Int)) &&& (((1 : Int32) <<< (I ((c : Nat) : Int) &&& 31)) ^^^ (-1 : Int32)) = I ((m - 2 ^ c : Nat) : Int) := by decide +kernel
theorem bt_add : ∀ n, n < 6 → ∀ m, m < 64 → m < 2 ^ n → (I ((m : Nat) : Int)) ||| ((1 : Int32) <<< (I ((n : Nat) : Int) &&& 31)) = I ((m + 2 ^ n : Nat) : Int) := by decide +kernel
/-- a set as bits is its number -/
theorem bs_mk {p : Nat → Bool} : ∀ n, n ≤ 6 → bs p n = I ((mk (fun i => if p i then 1 else 0) n : Nat) : Int) ∧ mk (fun i => if p i then 1 else 0) n < 2 ^ n
  | 0, _ => ⟨I_0, by simp [mk]⟩
  | n + 1, h => by
    obtain ⟨e, l⟩ := bs_mk (p := p) n (by omega)
    have h2 : 2 ^ n ≤ 2 ^ 5 := Nat.pow_le_pow_right (by decide) (by omega)
    rw [bs, mk, e]
    by_cases hp : p n = true
    · rw [if_pos hp]
      refine ⟨?_, by rw [Nat.pow_succ, if_pos hp]; omega⟩
      rw [bt_add n (by omega) _ (by omega) l, if_pos hp, Nat.one_mul]
    · rw [if_neg hp]
      refine ⟨by rw [if_neg hp]; simp, by rw [Nat.pow_succ, if_neg hp]; omega⟩
theorem mk_cg {p q : Nat → Nat} : ∀ n, (∀ i, i < n → p i = q i) → mk p n = mk q n
  | 0, _ => rfl
  | n + 1, h => by rw [mk, mk, mk_cg n (fun i hi => h i (by omega)), h n (by omega)]
theorem bs_cg {p q : Nat → Bool} : ∀ n, (∀ i, i < n → p i = q i) → bs p n = bs q n
  | 0, _ => rfl
  | n + 1, h => by rw [bs, bs, bs_cg n (fun i hi => h i (by omega)), h n (by omega)]
/-- the reference's street is S -/
def mR (N : Mem) (S : St) : Prop := N 0 6 = I S.1 ∧ N 0 7 = I S.2.1 ∧ N 0 5 = I S.2.2.1 ∧ (∀ h, h < S.1 → N 4 h = I (S.2.2.2 0 h) ∧ N 5 h = I (S.2.2.2 1 h)) ∧ (∀ c, c < S.2.1 → N 6 c = I (S.2.2.2 2 c) ∧ N 7 c = I (S.2.2.2 3 c)) ∧ N 0 9 = I ((mk (S.2.2.2 4) S.2.1 : Nat) : Int)
section NS
variable {N : Mem} {S : St}
theorem st_16 (hS : wf S) : mk (S.2.2.2 4) S.2.1 < 16 := mk_16 hS.2.1 (fun i hi => (hS.2.2.2.2 i hi).2.2.2)
theorem st_bit (hS : wf S) {c : Nat} (hc : c < S.2.1) : mk (S.2.2.2 4) S.2.1 / 2 ^ c % 2 = S.2.2.2 4 c := mk_bit hS.2.1 hc (fun i hi => (hS.2.2.2.2 i hi).2.2.2)
theorem n_isOf (hR : mR N S) (hS : wf S) {c : Nat} (hc : c < S.2.1) {N' : Mem} : f_X6_isOf (N 0 9) (I c) N' = some (I (S.2.2.2 4 c), N') := by
  have h1 := hS.2.1
  have h3 := (hS.2.2.2.2 c hc).2.2.2
  unfold f_X6_isOf
  rw [hR.2.2.2.2.2, bt_sh _ (st_16 hS) c (by omega), st_bit hS hc, I_1, t_eq (by omega) (by omega), I_0]
  by_cases h : S.2.2.2 4 c = 1
  · rw [if_pos (by omega), h]; rfl
  · rw [if_neg (by omega), show S.2.2.2 4 c = 0 by omega]; rfl
theorem n_soundOf (hR : mR N S) (hS : wf S) {c : Nat} (hc : c < S.2.1) : f_X6_soundOf (I c) N = some (I (sd S c), N) := by
  have h1 := hS.2.1
  have h2 := (hR.2.2.2.2.1 c hc).1
  have h3 := (hS.2.2.2.2 c hc)
  unfold f_X6_soundOf sd sdI
  rw [n_isOf hR hS hc, bd_some, I_tn (by omega), h2, I_0, t_eq (by omega) (by omega), grd_ok (by omega) (by omega), grd_ok (by omega) (by omega), I_div2 (by omega)]
  by_cases hb0 : S.2.2.2 4 c = 0
  · rw [if_pos (by omega), if_pos hb0]
  · rw [if_neg (by omega), if_neg hb0]
theorem n_needsOf (hR : mR N S) (hS : wf S) {h : Nat} (hh : h < S.1) : f_X6_needsOf (I h) N = some (I (nd S h), N) := by
  have h1 := hS.1
  have h2 := hR.2.2.2.1 h hh
  have h3 := hS.2.2.2.1 h hh
  unfold f_X6_needsOf nd
  rw [I_tn (by omega), h2.1, h2.2, I_div2 (by omega), I_0, I_1, t_eq (by omega) (by omega), t_eq (by omega) (by omega), I_sub]
  rw [grd_ok (by omega) (by omega), grd_ok (by omega) (by omega), grd_ok (by omega) (by omega), grd_ok (by omega) (by omega), grd_ok (by omega) (by omega)]
  by_cases k0 : S.2.2.2 0 h = 0
  · rw [if_pos (by omega), if_neg (by omega), if_neg (by omega)]
  · rw [if_neg (by omega)]
    by_cases k1 : S.2.2.2 0 h = 1
    · rw [if_pos (by omega), if_pos k1]
      congr 2
      congr 1
      omega
    · rw [if_neg (by omega), if_neg k1, if_pos (by omega)]
theorem n_heardFrom (hR : mR N S) (hS : wf S) {h c p : Nat} (hc : c < S.2.1) (hh : h < 1000) (hp : p < 1000) : f_X6_heardFrom (I h) (I c) (I p) N = some (I (hr S h (sd S c) p), N) := by
  unfold f_X6_heardFrom hr
  rw [n_soundOf hR hS hc, bd_some, hR.2.2.1, t_le (by omega) (by omega), I_sub, I_sub, I_mul, I_mul, I_sub, I_sub]
  by_cases h0 : (p : Int) ≤ h
  · rw [if_pos h0]
    congr 2
    congr 2
    rw [show (h : Int) - p = (((h : Int) - p).natAbs : Int) by omega]
    simp
  · rw [if_neg h0]
    congr 2
    congr 2
    rw [show (p : Int) - h = (((h : Int) - p).natAbs : Int) by omega]
    simp
theorem n_wakesFrom (hR : mR N S) (hS : wf S) {h c p : Nat} (hh : h < S.1) (hc : c < S.2.1) (hp : p < 10) : f_X6_wakesFrom (I h) (I c) (I p) N = some (I (if wk S h (sd S c) p then 1 else 0), N) := by
  have h1 := hS.1
  have hs : sd S c ≤ 9 := sdI_le hS hc
  have h2 := hr_le hS (h := h) (s := sd S c) (p := p) (by omega) hs hp
  have h3 := nd_le hS hh
  unfold f_X6_wakesFrom
  rw [n_heardFrom hR hS hc (by omega) (by omega), bd_some, n_needsOf hR hS hh, bd_some, t_lt (by omega) (by omega), I_0, t_le (by omega) (by omega), I_1]
  by_cases h0 : 0 < hr S h (sd S c) p ∧ (nd S h : Int) ≤ hr S h (sd S c) p
  · rw [if_neg (by omega), if_neg (by omega), show wk S h (sd S c) p = true from decide_eq_true h0]
    rfl
  · rw [show wk S h (sd S c) p = false from decide_eq_false h0]
    by_cases h4 : hr S h (sd S c) p < nd S h
    · rw [if_pos h4]; rfl
    · rw [if_neg h4, if_pos (by omega)]; rfl
theorem or_0 (x : Int32) : x ||| (0 : Int32) = x := by
  apply Int32.toBitVec_inj.mp
  rw [Int32.toBitVec_or]
  simp
theorem n_wakersOf (hR : mR N S) (hS : wf S) {c p : Nat} (hc : c < S.2.1) (hp : p < 10) : f_X6_wakersOf (I c) (I p) N = some (bs (fun h => wk S h (sd S c) p) S.1, N) := by
  have h1 := hS.1
  unfold f_X6_wakersOf
  refine lp0 (fun n x st => f_X6_wakersOf_L5 (I c) (I p) (fun e6 M7 => some (e6, M7)) n st x N) (fun st => some (st, N)) S.1 (by omega) (fun i => bs (fun h => wk S h (sd S c) p) i) (fun n i hi => ?_) (fun n => ?_)
  · try dsimp only
    rw [f_X6_wakersOf_L5, hR.1, t_le (by omega) (by omega), if_neg (by omega), n_wakesFrom hR hS hi hc hp, bd_some, I_succ, ilt_eq, ilt_eq, bs, or_0]
    by_cases hw : wk S i (sd S c) p = true
    · rw [if_pos hw, if_pos hw, if_neg (by decide)]
    · rw [if_neg hw, if_neg hw, if_pos (by decide)]
  · try dsimp only
    rw [f_X6_wakersOf_L5, hR.1, t_le (by omega) (by omega), if_pos (by omega)]
/-- the class's 'most' is what the owner so far has over -/
theorem ow_inv (hS : wf S) {s p : Nat} (hs : s ≤ 9) (hp : p < 10) : ∀ n, n ≤ S.1 → ((ow S s p n).1 = -9 ∧ (ow S s p n).2 = -1) ∨ ∃ b : Nat, b < n ∧ (ow S s p n).1 = b ∧ wk S b s p = true ∧ (ow S s p n).2 = hr S b s p - nd S b
  | 0, _ => Or.inl ⟨rfl, rfl⟩
  | n + 1, hn => by
    have ih := ow_inv hS hs hp n (by omega)
    have h4 := ow_le hS hs hp n (by omega)
    rw [ow]
    split
    · rcases ih with h | ⟨b, h1, h2⟩
      · exact Or.inl h
      · exact Or.inr ⟨b, by omega, h2⟩
    · rename_i h
      right
      refine ⟨n, by omega, rfl, ?_, ?_⟩
      · unfold wk
        unfold spr at h
        apply decide_eq_true
        by_cases h0 : 0 < hr S n s p ∧ (nd S n : Int) ≤ hr S n s p
        · exact h0
        · rw [if_neg h0] at h; omega
      · unfold spr at h
        simp only
        unfold spr
        by_cases h0 : 0 < hr S n s p ∧ (nd S n : Int) ≤ hr S n s p
        · rw [if_pos h0]
        · rw [if_neg h0] at h; omega
theorem n_ownerFrom (hR : mR N S) (hS : wf S) {c p : Nat} (hc : c < S.2.1) (hp : p < 10) : f_X6_ownerFrom (I c) (I p) N = some (I (own S (sd S c) p), N) := by
  have h1 := hS.1
  have hs : sd S c ≤ 9 := sdI_le hS hc
  unfold f_X6_ownerFrom own
  rw [show (-9 : Int32) = I (ow S (sd S c) p 0).1 from I_n9]
  refine lp0 (fun n x st => f_X6_ownerFrom_L6 (I c) (I p) (fun e9 M10 => some (e9, M10)) n st x N) (fun st => some (st, N)) S.1 (by omega) (fun i => I (ow S (sd S c) p i).1) (fun n i hi => ?_) (fun n => ?_)
  · try dsimp only
    have h2 := hr_le hS (h := i) (s := sd S c) (p := p) (by omega) hs hp
    have h3 := nd_le hS hi
    have h4 := ow_le hS hs hp i (by omega)
    have h5 := ow_inv hS hs hp i (by omega)
    rw [f_X6_ownerFrom_L6, hR.1, t_le (by omega) (by omega), if_neg (by omega), n_wakesFrom hR hS hi hc hp, bd_some, I_succ, ow]
    by_cases hw : wk S i (sd S c) p = true
    · have hw2 : 0 < hr S i (sd S c) p ∧ (nd S i : Int) ≤ hr S i (sd S c) p := of_decide_eq_true hw
      have hsp : spr (hr S i (sd S c) p) (nd S i) = hr S i (sd S c) p - nd S i := by unfold spr; rw [if_pos hw2]
      rw [if_pos hw, if_neg (by decide), n_heardFrom hR hS hc (by omega) (by omega), bd_some, n_needsOf hR hS hi, bd_some, ilt_eq, I_sub, I_n9, t_eq (by omega) (by omega), hsp]
      rcases h5 with ⟨e1, e2⟩ | ⟨b, e0, e1, e2, e3⟩
      · rw [if_pos e1, if_neg (by omega)]
      · have h6 := hr_le hS (h := b) (s := sd S c) (p := p) (by omega) hs hp
        have h7 := nd_le hS (h := b) (by omega)
        rw [if_neg (by omega), e1, n_heardFrom hR hS hc (by omega) (by omega), bd_some, n_needsOf hR hS (by omega), bd_some, I_sub, t_le (by omega) (by omega), e3]
        by_cases h8 : hr S i (sd S c) p - nd S i ≤ hr S b (sd S c) p - nd S b
        · rw [if_pos h8, if_pos h8, e1]
        · rw [if_neg h8, if_neg h8]
    · have hsp : spr (hr S i (sd S c) p) (nd S i) = -1 := by
        unfold spr
        rw [if_neg]
        intro q
        exact hw (decide_eq_true q)
      rw [if_neg hw, if_pos (by decide), hsp, if_pos (by omega)]
  · try dsimp only
    rw [f_X6_ownerFrom_L6, hR.1, t_le (by omega) (by omega), if_pos (by omega)]
end NS
