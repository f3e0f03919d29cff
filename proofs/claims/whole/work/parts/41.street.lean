/-! ===== a street as numbers: houses, clocks, thick; 0 kind, 1 depth, 2 loud, 3 place, 4 stuffed ===== -/
abbrev St : Type := Nat × Nat × Nat × (Nat → Nat → Nat)
def wf (S : St) : Prop := S.1 ≤ 6 ∧ S.2.1 ≤ 4 ∧ S.2.2.1 ≤ 3 ∧ (∀ h, h < S.1 → S.2.2.2 0 h ≤ 2 ∧ 1 ≤ S.2.2.2 1 h ∧ S.2.2.2 1 h ≤ 9) ∧ ∀ c, c < S.2.1 → 1 ≤ S.2.2.2 2 c ∧ S.2.2.2 2 c ≤ 9 ∧ S.2.2.2 3 c < S.1 ∧ S.2.2.2 4 c ≤ 1
/-- the class's street a is S -/
def cR (M : Mem) (a : Nat) (S : St) : Prop := M a 5 = I S.1 ∧ M a 6 = I S.2.1 ∧ M a 7 = I S.2.2.1 ∧ (∀ h, h < S.1 → M (a + 1) h = I (S.2.2.2 0 h) ∧ M (a + 2) h = I (S.2.2.2 1 h)) ∧ ∀ c, c < S.2.1 → M (a + 3) c = I (S.2.2.2 2 c) ∧ M (a + 4) c = I (S.2.2.2 3 c) ∧ M (a + 5) c = I (S.2.2.2 4 c)
def sdI (S : St) (c b : Nat) : Nat := if b = 0 then S.2.2.2 2 c else S.2.2.2 2 c / 2
def sd (S : St) (c : Nat) : Nat := sdI S c (S.2.2.2 4 c)
def nd (S : St) (h : Nat) : Nat := if S.2.2.2 0 h = 1 then S.2.2.2 1 h - 1 else if S.2.2.2 0 h = 2 then S.2.2.2 1 h / 2 else S.2.2.2 1 h
def hr (S : St) (h s p : Nat) : Int := (s : Int) - ((S.2.2.1 * ((h : Int) - (p : Int)).natAbs : Nat) : Int)
def spr (x : Int) (n : Nat) : Int := if 0 < x ∧ (n : Int) ≤ x then x - n else -1
def wk (S : St) (h s p : Nat) : Bool := decide (0 < hr S h s p ∧ (nd S h : Int) ≤ hr S h s p)
theorem nd_le {S : St} (hS : wf S) {h : Nat} (hh : h < S.1) : nd S h ≤ 9 := by
  have := hS.2.2.2.1 h hh
  unfold nd
  split
  · omega
  · split <;> omega
theorem sdI_le {S : St} (hS : wf S) {c b : Nat} (hc : c < S.2.1) : sdI S c b ≤ 9 := by
  have := hS.2.2.2.2 c hc
  unfold sdI
  split <;> omega
theorem hr_le {S : St} (hS : wf S) {h s p : Nat} (hh : h < 10) (hs : s ≤ 9) (hp : p < 10) : -1000 ≤ hr S h s p ∧ hr S h s p ≤ 9 := by
  have h3 := hS.2.2.1
  have : S.2.2.1 * ((h : Int) - (p : Int)).natAbs ≤ 3 * 10 := Nat.mul_le_mul h3 (by omega)
  unfold hr
  omega
theorem spr_le {S : St} (hS : wf S) {h s p n : Nat} (hh : h < 10) (hs : s ≤ 9) (hp : p < 10) (hn : n ≤ 9) : -1 ≤ spr (hr S h s p) n ∧ spr (hr S h s p) n ≤ 9 := by
  have := hr_le hS hh hs hp
  unfold spr
  split <;> omega
section QS
variable {M : Mem} {a : Nat} {S : St}
theorem q_soundIf (hR : cR M a S) (hS : wf S) {c b : Nat} (hc : c < S.2.1) (hb : b ≤ 1) : f_X3_soundIf a (I c) (I b) M = some (I (sdI S c b), M) := by
  have h1 := hS.2.1
  have h2 := (hR.2.2.2.2 c hc).1
  have h3 := (hS.2.2.2.2 c hc)
  unfold f_X3_soundIf sdI
  rw [I_tn (by omega), h2, I_0, t_eq (by omega) (by omega), grd_ok (by omega) (by omega), grd_ok (by omega) (by omega), I_div2 (by omega)]
  by_cases hb0 : b = 0
  · rw [if_pos (by omega), if_pos hb0]
  · rw [if_neg (by omega), if_neg hb0]
theorem q_sound (hR : cR M a S) (hS : wf S) {c : Nat} (hc : c < S.2.1) : f_X3_sound a (I c) M = some (I (sd S c), M) := by
  have h1 := hS.2.1
  have h2 := (hR.2.2.2.2 c hc).2.2
  have h3 := (hS.2.2.2.2 c hc).2.2.2
  unfold f_X3_sound
  rw [I_tn (by omega), h2, grd_ok (by omega) (by omega), q_soundIf hR hS hc h3, bd_some]
  rfl
theorem q_needs (hR : cR M a S) (hS : wf S) {h : Nat} (hh : h < S.1) : f_X3_needs a (I h) M = some (I (nd S h), M) := by
  have h1 := hS.1
  have h2 := hR.2.2.2.1 h hh
  have h3 := hS.2.2.2.1 h hh
  unfold f_X3_needs nd
  rw [I_tn (by omega), h2.1, h2.2, I_div2 (by omega), I_1, I_2, t_eq (by omega) (by omega), t_eq (by omega) (by omega), I_sub]
  rw [grd_ok (by omega) (by omega), grd_ok (by omega) (by omega), grd_ok (by omega) (by omega), grd_ok (by omega) (by omega)]
  by_cases k1 : S.2.2.2 0 h = 1
  · rw [if_pos (by omega), if_pos k1]
    congr 2
    congr 1
    omega
  · rw [if_neg (by omega), if_neg k1]
    by_cases k2 : S.2.2.2 0 h = 2
    · rw [if_pos (by omega), if_pos k2]
    · rw [if_neg (by omega), if_neg k2]
theorem q_heard (hR : cR M a S) {h s p : Nat} (hh : h < 1000) (hp : p < 1000) : f_X3_heard a (I h) (I s) (I p) M = some (I (hr S h s p), M) := by
  unfold f_X3_heard hr
  rw [hR.2.2.1, I_sub, iabs_I (by omega), I_mul, I_sub]
  rfl
theorem q_spare {x : Int} {n : Nat} (hx : -1000 ≤ x ∧ x ≤ 1000) (hn : n ≤ 1000) : f_X3_spare (I x) (I n) M = some (I (spr x n), M) := by
  unfold f_X3_spare spr
  rw [I_0, t_le (by omega) (by omega), t_lt (by omega) (by omega), I_sub, I_n1]
  by_cases h1 : x ≤ 0
  · rw [if_pos h1, if_neg (by omega)]
  · rw [if_neg h1]
    by_cases h2 : x < n
    · rw [if_pos h2, if_neg (by omega)]
    · rw [if_neg h2, if_pos (by omega)]
theorem q_wakes (hR : cR M a S) (hS : wf S) {h s p : Nat} (hh : h < S.1) (hs : s ≤ 9) (hp : p < 10) : f_X3_wakes a (I h) (I s) (I p) M = some (I (if wk S h s p then 1 else 0), M) := by
  have h1 := hS.1
  have h2 := hr_le hS (h := h) (s := s) (p := p) (by omega) hs hp
  have h3 := nd_le hS hh
  unfold f_X3_wakes
  rw [q_heard hR (by omega) (by omega), bd_some, q_needs hR hS hh, bd_some, q_spare (by omega) (by omega), bd_some, I_n1, t_eq (by have := spr_le hS (h := h) (s := s) (p := p) (n := nd S h) (by omega) hs hp h3; omega) (by omega), I_0, I_1]
  unfold wk spr
  by_cases h0 : 0 < hr S h s p ∧ (nd S h : Int) ≤ hr S h s p
  · rw [if_pos h0, if_neg (by omega), if_pos (decide_eq_true h0)]
  · rw [if_neg h0, if_pos rfl, if_neg (by simpa using h0)]
/-- the set of those below n that p holds of, as bits -/
def bs (p : Nat → Bool) : Nat → Int32
  | 0 => 0
  | n + 1 => if p n then bs p n ||| ((1 : Int32) <<< (I n &&& 31)) else bs p n
theorem q_wakers (hR : cR M a S) (hS : wf S) {c p : Nat} (hc : c < S.2.1) (hp : p < 10) : f_X3_wakers a (I c) (I p) M = some (bs (fun h => wk S h (sd S c) p) S.1, M) := by
  have h1 := hS.1
  have hs : sd S c ≤ 9 := sdI_le hS hc
  unfold f_X3_wakers
  rw [q_sound hR hS hc, bd_some]
  refine lp0 (fun n x st => f_X3_wakers_L12 a (I p) (I (sd S c)) (fun e6 M7 => some (e6, M7)) n st x M) (fun st => some (st, M)) S.1 (by omega) (fun i => bs (fun h => wk S h (sd S c) p) i) (fun n i hi => ?_) (fun n => ?_)
  · show f_X3_wakers_L12 _ _ _ _ _ _ _ _ = f_X3_wakers_L12 _ _ _ _ _ _ _ _
    rw [f_X3_wakers_L12, hR.1, t_le (by omega) (by omega), if_neg (by omega), q_wakes hR hS hi hs hp, bd_some, I_succ, ilt_eq, bs]
    by_cases hw : wk S i (sd S c) p = true
    · rw [if_pos hw, if_pos hw, if_neg (by decide)]
    · rw [if_neg hw, if_neg hw, if_pos (by decide)]
  · show f_X3_wakers_L12 _ _ _ _ _ _ _ _ = _
    rw [f_X3_wakers_L12, hR.1, t_le (by omega) (by omega), if_pos (by omega)]
/-- who owns, and by how much, among the first houses -/
def ow (S : St) (s p : Nat) : Nat → Int × Int
  | 0 => (-9, -1)
  | h + 1 => if spr (hr S h s p) (nd S h) ≤ (ow S s p h).2 then ow S s p h else ((h : Int), spr (hr S h s p) (nd S h))
def own (S : St) (s p : Nat) : Int := (ow S s p S.1).1
theorem ow_le {S : St} (hS : wf S) {s p : Nat} (hs : s ≤ 9) (hp : p < 10) : ∀ n, n ≤ S.1 → -9 ≤ (ow S s p n).1 ∧ (ow S s p n).1 < 6 ∧ -1 ≤ (ow S s p n).2 ∧ (ow S s p n).2 ≤ 9
  | 0, _ => by simp [ow]
  | n + 1, hn => by
    have ih := ow_le hS hs hp n (by omega)
    have h1 := hS.1
    have := spr_le hS (h := n) (s := s) (p := p) (n := nd S n) (by omega) hs hp (nd_le hS (by omega))
    rw [ow]
    split
    · exact ih
    · simp only; omega
set_option maxHeartbeats 100000 in
theorem q_owner (hR : cR M a S) (hS : wf S) {c p : Nat} (hc : c < S.2.1) (hp : p < 10) : f_X3_owner a (I c) (I p) M = some (I (own S (sd S c) p), M) := by
  have h1 := hS.1
  have hs : sd S c ≤ 9 := sdI_le hS hc
  unfold f_X3_owner own
  rw [q_sound hR hS hc, bd_some, show (-9 : Int32) = I (ow S (sd S c) p 0).1 from I_n9, show (-1 : Int32) = I (ow S (sd S c) p 0).2 from I_n1]
  refine lp0 (fun n x st => f_X3_owner_L16 a (I p) (I (sd S c)) (fun e9 M10 => some (e9, M10)) n st.1 st.2 x M) (fun st => some (st.1, M)) S.1 (by omega) (fun i => (I (ow S (sd S c) p i).1, I (ow S (sd S c) p i).2)) (fun n i hi => ?_) (fun n => ?_)
  · dsimp only
    have h2 := hr_le hS (h := i) (s := sd S c) (p := p) (by omega) hs hp
    have h3 := nd_le hS hi
    have h4 := ow_le hS hs hp i (by omega)
    have h5 := spr_le hS (h := i) (s := sd S c) (p := p) (n := nd S i) (by omega) hs hp h3
    rw [f_X3_owner_L16, hR.1, t_le (by omega) (by omega), if_neg (by omega), q_heard hR (by omega) (by omega), bd_some, q_needs hR hS hi, bd_some, q_spare (by omega) (by omega), bd_some]
    rw [t_le (by omega) (by omega)]
    rw [I_succ]
    rw [ow]
    by_cases hw : spr (hr S i (sd S c) p) (nd S i) ≤ (ow S (sd S c) p i).2
    · rw [if_pos hw, if_pos hw]
    · rw [if_neg hw, if_neg hw]
  · dsimp only
    rw [f_X3_owner_L16, hR.1, t_le (by omega) (by omega), if_pos (by omega)]
end QS
