/-! plain facts on small ints -/
theorem zl (n : Nat) : (OfNat.ofNat n : Int32) = nI n := rfl
theorem kk : (0 : Int32) = nI 0 ∧ (1 : Int32) = nI 1 ∧ (2 : Int32) = nI 2 ∧ (3 : Int32) = nI 3 ∧ (4 : Int32) = nI 4 ∧ (5 : Int32) = nI 5 ∧ (6 : Int32) = nI 6 ∧ (7 : Int32) = nI 7 ∧ (8 : Int32) = nI 8 ∧ (9 : Int32) = nI 9 ∧ (10 : Int32) = nI 10 ∧ (11 : Int32) = nI 11 ∧ (12 : Int32) = nI 12 ∧ (13 : Int32) = nI 13 ∧ (14 : Int32) = nI 14 ∧ (15 : Int32) = nI 15 ∧ (16 : Int32) = nI 16 ∧ (17 : Int32) = nI 17 ∧ (18 : Int32) = nI 18 ∧ (19 : Int32) = nI 19 ∧ (20 : Int32) = nI 20 ∧ (21 : Int32) = nI 21 ∧ (22 : Int32) = nI 22 ∧ (23 : Int32) = nI 23 ∧ (24 : Int32) = nI 24 ∧ (25 : Int32) = nI 25 ∧ (26 : Int32) = nI 26 ∧ (27 : Int32) = nI 27 ∧ (28 : Int32) = nI 28 ∧ (29 : Int32) = nI 29 ∧ (30 : Int32) = nI 30 ∧ (31 : Int32) = nI 31 ∧ (32 : Int32) = nI 32 ∧ (33 : Int32) = nI 33 ∧ (34 : Int32) = nI 34 ∧ (35 : Int32) = nI 35 ∧ (36 : Int32) = nI 36 ∧ (37 : Int32) = nI 37 ∧ (38 : Int32) = nI 38 ∧ (39 : Int32) = nI 39 ∧ (40 : Int32) = nI 40 ∧ (41 : Int32) = nI 41 ∧ (42 : Int32) = nI 42 ∧ (43 : Int32) = nI 43 ∧ (44 : Int32) = nI 44 ∧ (45 : Int32) = nI 45 ∧ (46 : Int32) = nI 46 ∧ (47 : Int32) = nI 47 ∧ (48 : Int32) = nI 48 ∧ (49 : Int32) = nI 49 ∧ (50 : Int32) = nI 50 ∧ (51 : Int32) = nI 51 ∧ (52 : Int32) = nI 52 ∧ (53 : Int32) = nI 53 ∧ (54 : Int32) = nI 54 ∧ (55 : Int32) = nI 55 ∧ (56 : Int32) = nI 56 ∧ (57 : Int32) = nI 57 ∧ (58 : Int32) = nI 58 ∧ (59 : Int32) = nI 59 ∧ (60 : Int32) = nI 60 ∧ (61 : Int32) = nI 61 ∧ (62 : Int32) = nI 62 ∧ (63 : Int32) = nI 63 ∧ (64 : Int32) = nI 64 ∧ (72 : Int32) = nI 72 ∧ (75 : Int32) = nI 75 ∧ (97 : Int32) = nI 97 ∧ (98 : Int32) = nI 98 ∧ (99 : Int32) = nI 99 ∧ (100 : Int32) = nI 100 ∧ (101 : Int32) = nI 101 ∧ (102 : Int32) = nI 102 ∧ (103 : Int32) = nI 103 ∧ (104 : Int32) = nI 104 ∧ (105 : Int32) = nI 105 ∧ (106 : Int32) = nI 106 ∧ (107 : Int32) = nI 107 ∧ (108 : Int32) = nI 108 ∧ (109 : Int32) = nI 109 ∧ (110 : Int32) = nI 110 ∧ (111 : Int32) = nI 111 ∧ (112 : Int32) = nI 112 ∧ (113 : Int32) = nI 113 ∧ (114 : Int32) = nI 114 ∧ (115 : Int32) = nI 115 ∧ (116 : Int32) = nI 116 ∧ (117 : Int32) = nI 117 ∧ (118 : Int32) = nI 118 ∧ (119 : Int32) = nI 119 ∧ (120 : Int32) = nI 120 ∧ (121 : Int32) = nI 121 ∧ (122 : Int32) = nI 122 ∧ (160 : Int32) = nI 160 ∧ (161 : Int32) = nI 161 ∧ (200 : Int32) = nI 200 ∧ (216 : Int32) = nI 216 ∧ (255 : Int32) = nI 255 ∧ (256 : Int32) = nI 256 ∧ (299 : Int32) = nI 299 ∧ (300 : Int32) = nI 300 ∧ (416 : Int32) = nI 416 ∧ (960 : Int32) = nI 960 ∧ (1000 : Int32) = nI 1000 ∧ (1200 : Int32) = nI 1200 ∧ (3072 : Int32) = nI 3072 ∧ (73728 : Int32) = nI 73728 ∧ (76800 : Int32) = nI 76800 ∧ (1000000 : Int32) = nI 1000000 ∧ (1000000000 : Int32) = nI 1000000000 ∧ (99999999 : Int32) = nI 99999999 := ⟨rfl, rfl, rfl, rfl, rfl, rfl, rfl, rfl, rfl, rfl, rfl, rfl, rfl, rfl, rfl, rfl, rfl, rfl, rfl, rfl, rfl, rfl, rfl, rfl, rfl, rfl, rfl, rfl, rfl, rfl, rfl, rfl, rfl, rfl, rfl, rfl, rfl, rfl, rfl, rfl, rfl, rfl, rfl, rfl, rfl, rfl, rfl, rfl, rfl, rfl, rfl, rfl, rfl, rfl, rfl, rfl, rfl, rfl, rfl, rfl, rfl, rfl, rfl, rfl, rfl, rfl, rfl, rfl, rfl, rfl, rfl, rfl, rfl, rfl, rfl, rfl, rfl, rfl, rfl, rfl, rfl, rfl, rfl, rfl, rfl, rfl, rfl, rfl, rfl, rfl, rfl, rfl, rfl, rfl, rfl, rfl, rfl, rfl, rfl, rfl, rfl, rfl, rfl, rfl, rfl, rfl, rfl, rfl, rfl, rfl, rfl⟩
theorem zc : (∀ a b : Nat, a < 2147483648 → b < 2147483648 → (nI a ≤ nI b ↔ a ≤ b)) ∧ (∀ a b : Nat, a < 2147483648 → b < 2147483648 → (nI a < nI b ↔ a < b)) ∧ (∀ a b : Nat, a < 2147483648 → b < 2147483648 → (nI a = nI b ↔ a = b)) ∧ (∀ a b : Nat, nI a + nI b = nI (a + b)) ∧ (∀ a b : Nat, nI a * nI b = nI (a * b)) ∧ (∀ a : Nat, a < 2147483648 → (nI a).toNatClampNeg = a) := ⟨fun _ _ h1 h2 => nI_leI h1 h2, fun _ _ h1 h2 => nI_ltI h1 h2, fun _ _ h1 h2 => nI_eq h1 h2, nI_add, pk_mul, fun _ h => nI_clamp h⟩
theorem zs : ∀ a b : Nat, b ≤ a → nI a - nI b = nI (a - b) := fun _ _ h => pk_sub h
theorem zle {a b : Nat} (ha : a < 2147483648) (hb : b < 2147483648) : nI a ≤ nI b ↔ a ≤ b := nI_leI ha hb
theorem zlt' {a b : Nat} (ha : a < 2147483648) (hb : b < 2147483648) : nI a < nI b ↔ a < b := nI_ltI ha hb
theorem zeq {a b : Nat} (ha : a < 2147483648) (hb : b < 2147483648) : nI a = nI b ↔ a = b := nI_eq ha hb
theorem zm1 {a : Nat} (h : 1 ≤ a) : nI a + (-1) = nI (a - 1) := by
  obtain ⟨b, rfl⟩ : ∃ b, a = b + 1 := ⟨a - 1, by omega⟩
  exact pk_m1 b
theorem zcl {n : Nat} (h : n < 2147483648) : (nI n).toNatClampNeg = n := nI_clamp h
theorem zin' {n N : Nat} (h : n < N) (hN : N < 2147483648) : vp_in (nI n) N := vp_in_nI h hN
theorem zneg0 {a : Nat} (ha : a < 2147483648) : ¬ nI a < 0 := nI_pos ha
theorem zb01 {c : Prop} [Decidable c] : ((if c then (1 : Int32) else 0) = 0) ↔ ¬ c := by
  by_cases h : c <;> simp [h]
theorem zb10 {c : Prop} [Decidable c] : ((if c then (0 : Int32) else 1) = 0) ↔ c := by
  by_cases h : c <;> simp [h]
theorem zany (x : Int32) (n : Nat) (hn : n < 2147483648) : x < 0 ∨ nI n ≤ x ∨ ∃ j : Nat, j < n ∧ x = nI j := pk_ix x hn
theorem zint_n {a : Nat} (h : a < 2147483648) : (nI a).toInt = (a : Int) := nI_toInt h
theorem z64 {x y : Int32} : x.toInt64 ≤ y.toInt64 ↔ x ≤ y := by
  rw [Int64.le_iff_toInt_le, Int32.le_iff_toInt_le]; simp
/-! a day: D 0 the plan, 1 bridges, 2 froms, 3 prices, 4 kinds, 5 numbers, 6: ships, carts, masters, hold, walk, rule -/
abbrev zD : Type := Nat → Nat → Nat
def zOk (D : zD) : Prop := (∀ m, m < 24 → D 0 m < 3) ∧ (∀ i, i < 8 → D 1 i < 3 ∧ D 2 i < 24 ∧ D 3 i ≤ 9) ∧ (∀ x, x < 4 → D 4 x ≤ 5 ∧ D 5 x ≤ 9) ∧ D 6 0 ≤ 4 ∧ D 6 1 ≤ 4 ∧ D 6 2 ≤ 4 ∧ (1 ≤ D 6 3 ∧ D 6 3 ≤ 4) ∧ (1 ≤ D 6 4 ∧ D 6 4 ≤ 9) ∧ D 6 5 < 6
def zPr (D : zD) (i : Nat) : Bool := if i < 4 then decide (i < D 6 0) else decide (i - 4 < D 6 1)
def zPa (D : zD) (i b : Nat) : Bool := (D 1 i == b) == decide (i < 4)
def zthrF (D : zD) (row : Nat → Nat) (i : Nat) : Nat → Nat → Nat
  | 0, m => m
  | k + 1, m => if 24 ≤ m then 24 else if zPa D i (row m) = true then m else zthrF D row i k (m + 1)
def zthr (D : zD) (row : Nat → Nat) (i : Nat) : Nat := zthrF D row i 25 (D 2 i)
def zDX (o : Nat) (D : zD) (σ : zSt) : Prop := (∀ m, m < 24 → σ.1 (o + 1) m = nI (D 0 m)) ∧ (∀ i, i < 8 → σ.1 (o + 3) i = nI (D 1 i) ∧ σ.1 (o + 4) i = nI (D 2 i) ∧ σ.1 (o + 5) i = nI (D 3 i)) ∧ (∀ x, x < 4 → σ.1 (o + 6) x = nI (D 4 x) ∧ σ.1 (o + 7) x = nI (D 5 x)) ∧ σ.1 (o + 2) 0 = nI (D 6 0) ∧ σ.1 (o + 2) 1 = nI (D 6 1) ∧ σ.1 o 7 = nI (D 6 2) ∧ σ.1 o 8 = nI (D 6 3) ∧ σ.1 o 9 = nI (D 6 4) ∧ σ.1 o 10 = nI (D 6 5)
def zDM (D : zD) (σ : zSt) : Prop := (∀ m, m < 24 → σ.1 9 m = nI (D 0 m)) ∧ (∀ i, i < 8 → σ.1 4 i = nI (D 1 i) ∧ σ.1 5 i = nI (D 2 i) ∧ σ.1 6 i = nI (D 3 i)) ∧ (∀ x, x < 4 → (x < D 6 2 → σ.1 7 x = nI (D 4 x)) ∧ σ.1 8 x = nI (D 5 x)) ∧ σ.1 0 10 = nI (D 6 0) ∧ σ.1 0 11 = nI (D 6 1) ∧ σ.1 0 16 = nI (D 6 2) ∧ σ.1 0 12 = nI (D 6 3) ∧ σ.1 0 13 = nI (D 6 4) ∧ σ.1 0 4 = nI (D 6 5)
theorem zthr_le (D : zD) (row : Nat → Nat) (i : Nat) : ∀ (k m : Nat), 24 < m + k → m ≤ 24 → zthrF D row i k m ≤ 24 ∧ m ≤ zthrF D row i k m := by
  intro k
  induction k with
  | zero => intro m h h2; omega
  | succ k ih =>
    intro m h h2
    rw [zthrF]
    by_cases h1 : 24 ≤ m
    · simp [h1]; omega
    · rw [if_neg h1]
      by_cases h3 : zPa D i (row m) = true
      · simp [h3]; omega
      · rw [if_neg h3]
        have := ih (m + 1) (by omega) (by omega)
        omega
/-! the model's small ones -/
theorem p8_in (a b c : Int64) (σ : zSt) (Q : Int32 → zSt → Prop) : wX8_in a b c σ Q = Q (if b ≤ a ∧ a ≤ c then 1 else 0) σ := by
  unfold wX8_in lg_cmp
  have t := Int64.le_iff_toInt_le (x := b) (y := a)
  have t2 := Int64.le_iff_toInt_le (x := a) (y := c)
  by_cases h1 : b ≤ a
  · by_cases h2 : a ≤ c
    · simp only [h1, h2, and_self, if_true]
      have e1 : ¬ ((if a > b then (1 : Int32) else if a = b then 0 else -1) < 0) := by
        by_cases q : a > b
        · simp [q]
        · have : a = b := by
            rw [← Int64.toInt_inj]
            rw [gt_iff_lt, Int64.lt_iff_toInt_lt] at q
            have := t.mp h1
            omega
          simp [q, this]
      have e2 : ¬ (0 < (if a > c then (1 : Int32) else if a = c then 0 else -1)) := by
        have : ¬ a > c := by
          rw [gt_iff_lt, Int64.lt_iff_toInt_lt]
          have := t2.mp h2
          omega
        by_cases q : a = c
        · simp [this, q]
        · simp [this, q]
      rw [if_neg e1, if_neg e2]
    · simp only [h1, h2, and_false, if_false]
      have e2 : (0 < (if a > c then (1 : Int32) else if a = c then 0 else -1)) := by
        have : a > c := by
          rw [gt_iff_lt, Int64.lt_iff_toInt_lt]
          have := mt t2.mpr h2
          omega
        simp [this]
      rw [if_pos e2]
      by_cases q : (if a > b then (1 : Int32) else if a = b then 0 else -1) < 0
      · rw [if_pos q]
      · rw [if_neg q]
  · simp only [h1, false_and, if_false]
    have e1 : ((if a > b then (1 : Int32) else if a = b then 0 else -1) < 0) := by
      have q1 : ¬ a > b := by
        rw [gt_iff_lt, Int64.lt_iff_toInt_lt]
        have := mt t.mpr h1
        omega
      have q2 : ¬ a = b := by
        intro q
        rw [q] at h1
        exact h1 (by rw [Int64.le_iff_toInt_le]; omega)
      simp [q1, q2]
    rw [if_pos e1]
theorem p8_goes {D : zD} {σ : zSt} (hD : zDM D σ) (hO : zOk D) {i b : Nat} (hi : i < 8) (hb : b < 3) (Q : Int32 → zSt → Prop) : wX8_goes (nI i) (nI b) σ Q = Q (if zPa D i b = true then 1 else 0) σ := by
  have h1 := (hD.2.1 i hi).1
  have h2 := (hO.2.1 i hi).1
  unfold wX8_goes
  simp (disch := omega) only [kk, zc, h1]
  have hv : vp_in (nI i) 8 := zin' hi (by omega)
  by_cases q : 4 ≤ i
  · have q' : ¬ i < 4 := by omega
    by_cases e : D 1 i = b <;> simp [q, q', e, hv, zPa]
  · have q' : i < 4 := by omega
    by_cases e : D 1 i = b <;> simp [q, q', e, hv, zPa]
theorem p8_isOne {D : zD} {σ : zSt} (hD : zDM D σ) (hO : zOk D) {i : Nat} (hi : i < 8) (Q : Int32 → zSt → Prop) : wX8_isOne (nI i) σ Q = Q (if zPr D i = true then 1 else 0) σ := by
  have h1 := hD.2.2.2.1
  have h2 := hD.2.2.2.2.1
  have h3 := hO.2.2.2.1
  have h4 := hO.2.2.2.2.1
  unfold wX8_isOne
  simp (disch := omega) only [kk, zc, h1, h2]
  by_cases q : 4 ≤ i
  · have q' : ¬ i < 4 := by omega
    rw [if_pos q, zs _ _ q]
    simp (disch := omega) only [zc]
    by_cases e : D 6 1 ≤ i - 4
    · have e' : ¬ i - 4 < D 6 1 := by omega
      simp [q', e, e', zPr]
    · have e' : i - 4 < D 6 1 := by omega
      simp [q', e, e', zPr]
  · have q' : i < 4 := by omega
    rw [if_neg q]
    by_cases e : D 6 0 ≤ i
    · have e' : ¬ i < D 6 0 := by omega
      simp [q', e, e', zPr]
    · have e' : i < D 6 0 := by omega
      simp [q', e, e', zPr]
theorem p8_through_L {D : zD} {σ : zSt} (hD : zDM D σ) (hO : zOk D) {row : Nat → Nat} (hr : ∀ m, m < 24 → σ.1 10 m = nI (row m) ∧ row m < 3) {i : Nat} (hi : i < 8) (Q : Int32 → zSt → Prop) (K : Int32 → zSt → Prop) : ∀ (k m n : Nat), m ≤ 24 → 24 < m + k → 24 < m + n → wX8_through_L7 Q K (nI i) n (nI m) σ = K (nI (zthrF D row i k m)) σ := by
  intro k
  induction k with
  | zero => intro m n h1 h2 h3; omega
  | succ k ih =>
    intro m n h1 h2 h3
    obtain ⟨n, rfl⟩ : ∃ n', n = n' + 1 := ⟨n - 1, by omega⟩
    rw [wX8_through_L7, zthrF]
    simp (disch := omega) only [kk, zc]
    by_cases q : 24 ≤ m
    · have : m = 24 := by omega
      subst this
      simp
    · have hm : m < 24 := by omega
      rw [if_neg q, if_neg q, (hr m hm).1]
      have hv : vp_in (nI m) 24 := zin' hm (by omega)
      simp only [hv, true_and, forall_eq, p8_goes hD hO hi (hr m hm).2, kk, zc]
      by_cases e : zPa D i (row m) = true
      · simp (disch := omega) [e, zc]
      · simp (disch := omega) [e]
        exact Iff.of_eq (ih (m + 1) n (by omega) (by omega) (by omega))
theorem p8_through {D : zD} {σ : zSt} (hD : zDM D σ) (hO : zOk D) {row : Nat → Nat} (hr : ∀ m, m < 24 → σ.1 10 m = nI (row m) ∧ row m < 3) {i : Nat} (hi : i < 8) (Q : Int32 → zSt → Prop) : wX8_through (nI i) σ Q = Q (nI (zthr D row i)) σ := by
  unfold wX8_through
  have h1 := (hD.2.1 i hi).2.1
  have h2 := (hO.2.1 i hi).2.1
  have hv : vp_in (nI i) 8 := zin' hi (by omega)
  rw [zcl (by omega), h1]
  simp only [hv, true_and, forall_eq]
  rw [p8_through_L hD hO hr hi Q _ 25 (D 2 i) 300 (by omega) (by omega) (by omega)]
  rfl
