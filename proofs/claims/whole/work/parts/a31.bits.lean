/-! sets as bits -/
theorem zb_and (a b : Nat) : nI a &&& nI b = nI (a &&& b) := by
  apply Int32.toBitVec_inj.mp
  rw [Int32.toBitVec_and, show (nI a).toBitVec = BitVec.ofNat 32 a from rfl, show (nI b).toBitVec = BitVec.ofNat 32 b from rfl, show (nI (a &&& b)).toBitVec = BitVec.ofNat 32 (a &&& b) from rfl]
  apply BitVec.eq_of_getLsbD_eq
  intro i hi
  simp [BitVec.getLsbD_ofNat, hi]
theorem zb_or (a b : Nat) : nI a ||| nI b = nI (a ||| b) := by
  apply Int32.toBitVec_inj.mp
  rw [Int32.toBitVec_or, show (nI a).toBitVec = BitVec.ofNat 32 a from rfl, show (nI b).toBitVec = BitVec.ofNat 32 b from rfl, show (nI (a ||| b)).toBitVec = BitVec.ofNat 32 (a ||| b) from rfl]
  apply BitVec.eq_of_getLsbD_eq
  intro i hi
  simp [BitVec.getLsbD_ofNat, hi]
theorem zb_dif (a b : Nat) : nI a &&& (nI b ^^^ (-1)) = nI (a &&& (a ^^^ b)) := by
  apply Int32.toBitVec_inj.mp
  rw [Int32.toBitVec_and, Int32.toBitVec_xor, show ((-1 : Int32)).toBitVec = BitVec.allOnes 32 from by decide, show (nI a).toBitVec = BitVec.ofNat 32 a from rfl, show (nI b).toBitVec = BitVec.ofNat 32 b from rfl, show (nI (a &&& (a ^^^ b))).toBitVec = BitVec.ofNat 32 (a &&& (a ^^^ b)) from rfl]
  apply BitVec.eq_of_getLsbD_eq
  intro i hi
  simp only [BitVec.getLsbD_and, BitVec.getLsbD_xor, BitVec.getLsbD_allOnes, BitVec.getLsbD_ofNat, hi, Nat.testBit_and, Nat.testBit_xor, decide_true, Bool.true_and]
  cases a.testBit i <;> cases b.testBit i <;> rfl
theorem zb_1 {i : Nat} (hi : i < 8) : (1 : Int32) <<< (nI i &&& 31) = nI (2 ^ i) := by
  rcases (show i = 0 ∨ i = 1 ∨ i = 2 ∨ i = 3 ∨ i = 4 ∨ i = 5 ∨ i = 6 ∨ i = 7 by omega) with rfl | rfl | rfl | rfl | rfl | rfl | rfl | rfl <;> decide +kernel
theorem zb_put {a i : Nat} (hi : i < 8) : nI a ||| ((1 : Int32) <<< (nI i &&& 31)) = nI (a ||| 2 ^ i) := by rw [zb_1 hi, zb_or]
theorem zb_tst {a i : Nat} (hi : i < 8) : (nI a &&& ((1 : Int32) <<< (nI i &&& 31)) = 0) ↔ a.testBit i = false := by
  rw [zb_1 hi]
  exact fa_bit (by omega)
theorem zb_shr {a i : Nat} (ha : a < 2147483648) (hi : i < 8) : ((nI a >>> (nI i &&& 31)) &&& 1 = 1) ↔ a.testBit i = true := by
  have hs : ((nI i &&& 31).toBitVec.smod 32).toNat = i := by
    rcases (show i = 0 ∨ i = 1 ∨ i = 2 ∨ i = 3 ∨ i = 4 ∨ i = 5 ∨ i = 6 ∨ i = 7 by omega) with rfl | rfl | rfl | rfl | rfl | rfl | rfl | rfl <;> decide +kernel
  have hd : a / 2 ^ i < 2147483648 := Nat.lt_of_le_of_lt (Nat.div_le_self _ _) ha
  rw [pk_shrN ha _ i hs, pk_andN (m := 1) (by omega) 1 (by decide), Nat.testBit_eq_decide_div_mod_eq, decide_eq_true_eq]
  have h2 : a / 2 ^ i % 2 ^ 1 < 2 := Nat.mod_lt _ (by omega)
  rw [show (1 : Int32) = nI 1 from rfl, nI_eq (by omega) (by omega)]
theorem zmask_or1 (p : Nat → Bool) {k : Nat} (h : p k = true) : zmask p (k + 1) = zmask p k ||| 2 ^ k := by
  rw [zmask, if_pos h]
  have := Nat.two_pow_add_eq_or_of_lt (zmask_lt p k) 1
  rw [Nat.mul_one] at this
  rw [Nat.or_comm, ← this]
/-! the model's own table -/
def zwl (c : Bool) (P : zP) (V : Nat → Nat → Nat → Nat) (m n b held : Nat) : Nat := if V (znow P m b n) b held < znev then V (znow P m b n) b held + (if c = true then zcby P m n (znow P m b n) else 0) else znev
def zwst (c : Bool) (P : zP) (V : Nat → Nat → Nat → Nat) (m n u held b : Nat) : Nat := if b = u then zwl c P V m n b (if held < P.2.2.2.2.2 then held + 1 else P.2.2.2.2.2) else if held < P.2.2.2.2.2 then znev else if zwl c P V m n b 1 < znev then zwl c P V m n b 1 + (if c = true then P.2.2.2.2.1 m u b else 1) else znev
def zlow (a b : Nat) : Nat := if a ≤ b then a else b
def zW (c : Bool) (P : zP) : Nat → Nat → Nat → Nat → Nat
  | 0, n, _, _ => if c = true then zcby P 24 n (zall P) else if n &&& zall P = zall P then 0 else znev
  | k + 1, n, u, held => zlow (zlow (zlow znev (zwst c P (zW c P k) (23 - k) n u held 0)) (zwst c P (zW c P k) (23 - k) n u held 1)) (zwst c P (zW c P k) (23 - k) n u held 2)
def zsbs (P : zP) (n : Nat) : Prop := ∀ i, n.testBit i = true → i < 8 ∧ P.1 i = true
theorem zall_bit (P : zP) (i : Nat) : (zall P).testBit i = (decide (i < 8) && P.1 i) := zmask_bit P.1 8 i
theorem zsbs_lt {P : zP} {n : Nat} (h : zsbs P n) : n < 256 := by
  have := Nat.lt_pow_two_of_testBit n (n := 8) (fun i hi => by
    cases q : n.testBit i with
    | false => rfl
    | true => have := (h i q).1; omega)
  exact this
theorem zsbs_iff {P : zP} {n : Nat} : n &&& (n ^^^ zall P) = 0 ↔ zsbs P n := by
  constructor
  · intro h i hi
    have e : (n &&& (n ^^^ zall P)).testBit i = false := by rw [h]; exact Nat.zero_testBit i
    rw [Nat.testBit_and, Nat.testBit_xor, hi, zall_bit] at e
    by_cases c : i < 8
    · refine ⟨c, ?_⟩
      cases q : P.1 i with
      | true => rfl
      | false => rw [q] at e; simp at e
    · simp [c] at e
  · intro h
    apply Nat.eq_of_testBit_eq
    intro i
    rw [Nat.testBit_and, Nat.testBit_xor, zall_bit, Nat.zero_testBit]
    cases q : n.testBit i with
    | false => simp
    | true => have := h i q; simp [this.1, this.2]
theorem znow_bit (P : zP) (m b n i : Nat) : (znow P m b n).testBit i = (n.testBit i || (decide (i < 8) && (P.1 i && decide (P.2.2.1 i ≤ m) && P.2.1 i b))) := by
  unfold znow
  rw [Nat.testBit_or, zmask_bit]
theorem znow_sub {P : zP} {n : Nat} (h : zsbs P n) (m b : Nat) : zsbs P (znow P m b n) := by
  intro i hi
  rw [znow_bit] at hi
  simp only [Bool.or_eq_true, Bool.and_eq_true, decide_eq_true_eq] at hi
  rcases hi with q | q
  · exact h i q
  · exact ⟨q.1, q.2.1.1⟩
theorem p8_goesBy {D : zD} {σ : zSt} (hD : zDM D σ) (hO : zOk D) (co : Nat → Nat → Nat) (ch : Nat → Nat → Nat → Nat) {m b : Nat} (hm : m ≤ 24) (hb : b < 3) (n : Nat) (Q : Int32 → zSt → Prop) : wX8_goesBy (nI m) (nI b) (nI n) σ Q = Q (nI (znow (zpar D co ch) m b n)) σ := by
  have L : ∀ (j i f : Nat), i + j = 8 → j < f → wX8_goesBy_L6 Q (fun v s => Q v s) (nI m) (nI b) f (nI (n ||| zmask (fun i => zPr D i && decide (D 2 i ≤ m) && zPa D i b) i)) (nI i) σ = Q (nI (n ||| zmask (fun i => zPr D i && decide (D 2 i ≤ m) && zPa D i b) 8)) σ := by
    intro j
    induction j with
    | zero =>
      intro i f h1 h2
      obtain ⟨f, rfl⟩ : ∃ n', f = n' + 1 := ⟨f - 1, by omega⟩
      have : i = 8 := by omega
      subst this
      rw [wX8_goesBy_L6, if_pos (by decide)]
    | succ j ih =>
      intro i f h1 h2
      obtain ⟨f, rfl⟩ : ∃ n', f = n' + 1 := ⟨f - 1, by omega⟩
      have h8 : i < 8 := by omega
      have hv : vp_in (nI i) 8 := zin' h8 (by omega)
      have g := hD.2.1 i h8
      have o := hO.2.1 i h8
      have st := ih (i + 1) f (by omega) (by omega)
      rw [wX8_goesBy_L6, if_neg (show ¬ (8 : Int32) ≤ nI i from nI_ge (b := 8) h8 (by omega)), p8_isOne hD hO h8, zcl (by omega), g.2.1]
      simp only [hv, true_and, forall_eq, nI_1, p8_goes hD hO h8 hb]
      by_cases c1 : zPr D i = true
      · rw [if_pos c1, if_neg (by decide)]
        by_cases c2 : D 2 i ≤ m
        · rw [if_neg (show ¬ nI m < nI (D 2 i) from nI_nlt c2 (by omega))]
          by_cases c3 : zPa D i b = true
          · rw [if_pos c3, if_neg (by decide), zb_put h8, Nat.or_assoc, ← zmask_or1 (fun i => zPr D i && decide (D 2 i ≤ m) && zPa D i b) (by simp [c1, c2, c3])]
            exact st
          · rw [if_neg c3, if_pos rfl]
            rw [zmask_n (fun i => zPr D i && decide (D 2 i ≤ m) && zPa D i b) (by simp [c3])] at st
            exact st
        · rw [if_pos (show nI m < nI (D 2 i) from nI_lt (by omega) (by omega))]
          rw [zmask_n (fun i => zPr D i && decide (D 2 i ≤ m) && zPa D i b) (by simp [c2])] at st
          exact st
      · rw [if_neg c1, if_pos rfl]
        rw [zmask_n (fun i => zPr D i && decide (D 2 i ≤ m) && zPa D i b) (by simp [c1])] at st
        exact st
  unfold wX8_goesBy
  have := L 8 0 300 (by omega) (by omega)
  rw [show zmask (fun i => zPr D i && decide (D 2 i ≤ m) && zPa D i b) 0 = 0 from rfl, Nat.or_zero, nI_0] at this
  exact this
theorem p8_allSet {D : zD} {σ : zSt} (hD : zDM D σ) (hO : zOk D) (co : Nat → Nat → Nat) (ch : Nat → Nat → Nat → Nat) (Q : Int32 → zSt → Prop) : wX8_allSet σ Q = Q (nI (zall (zpar D co ch))) σ := by
  have L : ∀ (j i f : Nat), i + j = 8 → j < f → wX8_allSet_L4 Q (fun v s => Q v s) f (nI (zmask (zPr D) i)) (nI i) σ = Q (nI (zmask (zPr D) 8)) σ := by
    intro j
    induction j with
    | zero =>
      intro i f h1 h2
      obtain ⟨f, rfl⟩ : ∃ n', f = n' + 1 := ⟨f - 1, by omega⟩
      have : i = 8 := by omega
      subst this
      rw [wX8_allSet_L4, if_pos (by decide)]
    | succ j ih =>
      intro i f h1 h2
      obtain ⟨f, rfl⟩ : ∃ n', f = n' + 1 := ⟨f - 1, by omega⟩
      have h8 : i < 8 := by omega
      have st := ih (i + 1) f (by omega) (by omega)
      rw [wX8_allSet_L4, if_neg (show ¬ (8 : Int32) ≤ nI i from nI_ge (b := 8) h8 (by omega)), p8_isOne hD hO h8]
      simp only [forall_eq, nI_1]
      by_cases c1 : zPr D i = true
      · rw [if_pos c1, if_neg (by decide), zmask_s (zPr D) h8 c1]
        exact st
      · rw [if_neg c1, if_pos rfl, zor0]
        rw [zmask_n (zPr D) c1] at st
        exact st
  unfold wX8_allSet
  exact L 8 0 300 (by omega) (by omega)
theorem zdif_bit (a b i : Nat) : (a &&& (a ^^^ b)).testBit i = (a.testBit i && !b.testBit i) := by
  rw [Nat.testBit_and, Nat.testBit_xor]
  cases a.testBit i <;> cases b.testBit i <;> rfl
theorem zdif_le (a b : Nat) : a &&& (a ^^^ b) ≤ a := Nat.and_le_left
theorem p8_costBy {σ : zSt} {P : zP} {m n now : Nat} (hm : m ≤ 24) (hn : now < 256) (hc : ∀ i, i < 8 → now.testBit i = true → n.testBit i = false → σ.1 12 (25 * i + m) = nI (P.2.2.2.1 i m)) (Q : Int32 → zSt → Prop) : wX8_costBy (nI m) (nI n) (nI now) σ Q = Q (nI (zcby P m n now)) σ := by
  have L : ∀ (j i f : Nat), i + j = 8 → j < f → wX8_costBy_L6 Q (fun v s => Q v s) (nI m) (nI n) (nI now) f (nI (zsum (fun i => if now.testBit i = true ∧ n.testBit i = false then P.2.2.2.1 i m else 0) i)) (nI i) σ = Q (nI (zcby P m n now)) σ := by
    intro j
    induction j with
    | zero =>
      intro i f h1 h2
      obtain ⟨f, rfl⟩ : ∃ n', f = n' + 1 := ⟨f - 1, by omega⟩
      have : i = 8 := by omega
      subst this
      rw [wX8_costBy_L6, if_pos (by decide)]
      rfl
    | succ j ih =>
      intro i f h1 h2
      obtain ⟨f, rfl⟩ : ∃ n', f = n' + 1 := ⟨f - 1, by omega⟩
      have h8 : i < 8 := by omega
      have st := ih (i + 1) f (by omega) (by omega)
      rw [zsum] at st
      have hd := zdif_le now n
      have eb := zb_shr (a := now &&& (now ^^^ n)) (i := i) (by omega) h8
      rw [wX8_costBy_L6, if_neg (show ¬ (8 : Int32) ≤ nI i from nI_ge (b := 8) h8 (by omega)), zb_dif, show (25 : Int32) * nI i + nI m = nI (25 * i + m) from by rw [show (25 : Int32) = nI 25 from rfl, pk_mul, nI_add], zcl (by omega)]
      have hv : vp_in (nI (25 * i + m)) 200 := zin' (by omega) (by omega)
      simp only [hv, true_and, forall_eq, nI_1, Int32.add_zero]
      rw [zdif_bit] at eb
      by_cases c : now.testBit i = true ∧ n.testBit i = false
      · rw [if_pos c] at st
        rw [if_pos (eb.mpr (by rw [c.1, c.2]; rfl)), hc i h8 c.1 c.2, nI_add]
        exact st
      · rw [if_neg c] at st
        rw [if_neg (fun z => c (by
          have := eb.mp z
          simp only [Bool.and_eq_true, Bool.not_eq_true'] at this
          exact this))]
        exact st
  unfold wX8_costBy
  exact L 8 0 300 (by omega) (by omega)
