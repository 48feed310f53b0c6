/-! bits -/
theorem zsh {k : Nat} (h : k < 8) : (1 : Int32) <<< (nI k &&& 31) = nI (2 ^ k) := by
  rcases (show k = 0 ∨ k = 1 ∨ k = 2 ∨ k = 3 ∨ k = 4 ∨ k = 5 ∨ k = 6 ∨ k = 7 by omega) with rfl | rfl | rfl | rfl | rfl | rfl | rfl | rfl <;> decide
theorem fa_and (a b : Nat) : nI a &&& nI b = nI (a &&& b) := by
  apply Int32.toBitVec_inj.1
  show BitVec.ofNat 32 a &&& BitVec.ofNat 32 b = BitVec.ofNat 32 (a &&& b)
  apply BitVec.eq_of_getLsbD_eq
  intro i hi
  simp [hi]
theorem fa_or (a b : Nat) : nI a ||| nI b = nI (a ||| b) := by
  apply Int32.toBitVec_inj.1
  show BitVec.ofNat 32 a ||| BitVec.ofNat 32 b = BitVec.ofNat 32 (a ||| b)
  apply BitVec.eq_of_getLsbD_eq
  intro i hi
  simp [hi]
theorem fa_bit {n j : Nat} (hj : j < 31) : nI n &&& nI (2 ^ j) = 0 ↔ n.testBit j = false := by
  have h2 : (2 : Nat) ^ j < 2 ^ 31 := Nat.pow_lt_pow_right (by decide) hj
  have hle : n &&& 2 ^ j ≤ 2 ^ j := Nat.and_le_right
  have e : n &&& 2 ^ j = 0 ↔ n.testBit j = false := by
    constructor
    · intro h
      have h1 : (n &&& 2 ^ j).testBit j = false := by rw [h]; simp
      rw [Nat.testBit_and] at h1
      first | simpa using h1 | simpa [Nat.testBit_two_pow_self] using h1 | simpa [Nat.testBit_two_pow] using h1
    · intro h
      apply Nat.eq_of_testBit_eq
      intro i
      rw [Nat.testBit_and]
      by_cases hi : j = i
      · subst hi; simp [h]
      · first | (simp [Nat.testBit_two_pow, hi]; done) | (simp [Nat.testBit_two_pow_of_ne hi]; done)
  rw [fa_and]
  constructor
  · intro h
    apply e.mp
    rcases Nat.eq_zero_or_pos (n &&& 2 ^ j) with z | z
    · exact z
    · exact absurd h (nI_ne0 z (Nat.lt_of_le_of_lt hle h2))
  · intro h
    rw [e.mpr h]; exact nI_0
theorem zmask_lt (p : Nat → Bool) : ∀ k, zmask p k < 2 ^ k := by
  intro k
  induction k with
  | zero => simp [zmask]
  | succ k ih =>
    rw [zmask, Nat.pow_succ]
    split <;> omega
theorem zmask_bit (p : Nat → Bool) : ∀ k i, (zmask p k).testBit i = (decide (i < k) && p i) := by
  intro k
  induction k with
  | zero => intro i; simp [zmask]
  | succ k ih =>
    intro i
    rw [zmask]
    have hlt := zmask_lt p k
    by_cases c : p k = true
    · rw [if_pos c]
      have e : 2 ^ k + zmask p k = 2 ^ k ||| zmask p k := by
        have := Nat.two_pow_add_eq_or_of_lt hlt 1
        simpa using this
      rw [e, Nat.testBit_or, ih i, Nat.testBit_two_pow]
      by_cases q : i = k
      · subst q; simp [c]
      · have q2 : ¬ k = i := fun z => q z.symm
        have : decide (i < k + 1) = decide (i < k) := by
          by_cases z : i < k
          · simp [z, Nat.lt_succ_of_lt z]
          · have : ¬ i < k + 1 := by omega
            simp [z, this]
        simp [q2, this]
    · rw [if_neg c, Nat.zero_add, ih i]
      by_cases e : i = k
      · subst e; simp [c]
      · have : decide (i < k + 1) = decide (i < k) := by
          by_cases z : i < k
          · simp [z, Nat.lt_succ_of_lt z]
          · have : ¬ i < k + 1 := by omega
            simp [z, this]
        rw [this]
theorem zmask_s (p : Nat → Bool) {k : Nat} (hk : k < 8) (h : p k = true) : nI (zmask p k) ||| ((1 : Int32) <<< (nI k &&& 31)) = nI (zmask p (k + 1)) := by
  rw [zsh hk, fa_or, zmask, if_pos h]
  have := Nat.two_pow_add_eq_or_of_lt (zmask_lt p k) 1
  rw [Nat.or_comm]
  rw [Nat.mul_one] at this
  rw [← this]
theorem zmask_n (p : Nat → Bool) {k : Nat} (h : ¬ p k = true) : zmask p (k + 1) = zmask p k := by rw [zmask, if_neg h, Nat.zero_add]
theorem zmask_ext {p q : Nat → Bool} : ∀ {k : Nat}, (∀ i, i < k → p i = q i) → zmask p k = zmask q k := by
  intro k
  induction k with
  | zero => intro _; rfl
  | succ k ih =>
    intro h
    rw [zmask, zmask, ih (fun i hi => h i (by omega)), h k (by omega)]
theorem zmask_or (p q : Nat → Bool) (k : Nat) : zmask p k ||| zmask q k = zmask (fun i => p i || q i) k := by
  apply Nat.eq_of_testBit_eq
  intro i
  rw [Nat.testBit_or, zmask_bit, zmask_bit, zmask_bit]
  cases decide (i < k) <;> simp
/-! runs of masters -/
def zgn (D : zD) (row : Nat → Nat) (i : Nat) : Nat → Bool
  | 0 => false
  | k + 1 => zgn D row i k || (decide (D 2 i ≤ k) && zPa D i (row k))
def zwtp (D : zD) (row : Nat → Nat) (b m i : Nat) : Bool := zPr D i && decide (D 1 i = b) && decide (D 2 i ≤ m) && !zgn D row i m
def zwt (D : zD) (row : Nat → Nat) (s b m : Nat) : Nat := zsum (fun k => if zwtp D row b m (4 * s + k) = true then D 3 (4 * s + k) else 0) 4
def zclk (n m u : Nat) : Nat := if m % (n + 1) = 0 then (u + 1) % 3 else u
def zarg (f : Nat → Int) : Nat := if f 1 ≤ f 0 then (if f 2 ≤ f 0 then 0 else 2) else (if f 2 ≤ f 1 then 1 else 2)
def ztid (s : Nat → Nat) (n m u : Nat) : Nat := if 0 < s (zarg (fun b => (s b : Int))) then zarg (fun b => (s b : Int)) else zclk n m u
def znx (k n : Nat) (s c : Nat → Nat) (m u : Nat) : Nat :=
  if k = 1 then ztid s n m u
  else if k = 2 then zarg (fun b => - (c b : Int))
  else if k = 3 then (if s u = 0 then ztid s n m u else u)
  else if k = 4 then (if n % 2 = 1 then zarg (fun b => - (c b : Int)) else zarg (fun b => (s b : Int) - c b))
  else if k = 5 then (if m % 3 = 0 then ztid s n m u else u)
  else zclk n m u
def zrunF (D : zD) (x : Nat) : Nat → (Nat → Nat)
  | 0 => fun _ => 0
  | m + 1 => zset (zrunF D x m) m (znx (D 4 x) (D 5 x) (fun b => zwt D (zrunF D x m) 0 b m) (fun b => zwt D (zrunF D x m) 1 b m) m (if m = 0 then 0 else zrunF D x m (m - 1)))
def zrun (D : zD) (x : Nat) : Nat → Nat := zrunF D x 24
theorem zarg_lt (f : Nat → Int) : zarg f < 3 := by unfold zarg; split <;> split <;> omega
theorem zclk_lt {n m u : Nat} (h : u < 3) : zclk n m u < 3 := by unfold zclk; split <;> omega
theorem ztid_lt {s : Nat → Nat} {n m u : Nat} (h : u < 3) : ztid s n m u < 3 := by
  unfold ztid
  split
  · exact zarg_lt _
  · exact zclk_lt h
theorem znx_lt {k n : Nat} {s c : Nat → Nat} {m u : Nat} (h : u < 3) : znx k n s c m u < 3 := by
  unfold znx
  split
  · exact ztid_lt h
  split
  · exact zarg_lt _
  split
  · split
    · exact ztid_lt h
    · exact h
  split
  · split <;> exact zarg_lt _
  split
  · split
    · exact ztid_lt h
    · exact h
  · exact zclk_lt h
theorem zrunF_lt (D : zD) (x : Nat) : ∀ m j, zrunF D x m j < 3 := by
  intro m
  induction m with
  | zero => intro j; show 0 < 3; omega
  | succ m ih =>
    intro j
    rw [zrunF]
    unfold zset
    split
    · apply znx_lt
      split
      · omega
      · exact ih _
    · exact ih j
theorem zrunF_st (D : zD) (x : Nat) : ∀ m n j, j < m → zrunF D x (m + n) j = zrunF D x m j := by
  intro m n
  induction n with
  | zero => intro j _; rfl
  | succ n ih =>
    intro j hj
    rw [← Nat.add_assoc, zrunF]
    unfold zset
    rw [if_neg (by omega)]
    exact ih j hj
theorem zgn_cg {D : zD} {r r' : Nat → Nat} (i : Nat) : ∀ m, (∀ j, j < m → r j = r' j) → zgn D r i m = zgn D r' i m := by
  intro m
  induction m with
  | zero => intro _; rfl
  | succ m ih =>
    intro h
    rw [zgn, zgn, ih (fun j hj => h j (by omega)), h m (by omega)]
theorem zwt_le {D : zD} (hO : zOk D) (row : Nat → Nat) {s : Nat} (hs : s < 2) (b m : Nat) : zwt D row s b m ≤ 36 := by
  have := zsum_le (f := fun k => if zwtp D row b m (4 * s + k) = true then D 3 (4 * s + k) else 0) (c := 9) 4 (fun k hk => by
    show (if zwtp D row b m (4 * s + k) = true then D 3 (4 * s + k) else 0) ≤ 9
    split
    · exact (hO.2.1 (4 * s + k) (by omega)).2.2
    · omega)
  exact this
