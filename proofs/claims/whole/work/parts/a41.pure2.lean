/-! carts that wait go at once, whichever other bridge comes -/
theorem zy_shift_bits {P : zP} {s b w e i : Nat} (hw : zy_ok P s w) (he : s < e) (h8 : i < 8) : (zcan P e (zy_we P s b w e)).testBit i = ((znow P (e - 1) b (zcan P s w)).testBit i || (decide (4 ≤ i) && (P.1 i && decide (P.2.2.1 i < e)))) := by
  have hwi := hw i
  rw [zcan_bit, znow_bit, zcan_bit, zy_we_bit, zy_at_bit, zy_sw_bit]
  simp only [h8, decide_true, Bool.true_and]
  cases hp : P.1 i with
  | false => simp
  | true =>
    by_cases f1 : P.2.2.1 i < s
    · have f2 : P.2.2.1 i ≤ e - 1 := by omega
      have f3 : ¬ s ≤ P.2.2.1 i := by omega
      have f4 : P.2.2.1 i < e := by omega
      cases hwb : w.testBit i with
      | false => simp [f1, f2, f3, f4]
      | true =>
        have i4 := (hwi hwb).1
        have i4' : ¬ 4 ≤ i := by omega
        cases hpa : P.2.1 i b <;> simp [f1, f2, f3, f4, i4, i4']
    · have hwb : w.testBit i = false := by
        cases q : w.testBit i with
        | false => rfl
        | true => have := (hwi q).2.2; omega
      have f3 : s ≤ P.2.2.1 i := by omega
      by_cases f4 : P.2.2.1 i < e
      · have f2 : P.2.2.1 i ≤ e - 1 := by omega
        by_cases i4 : 4 ≤ i
        · have i4' : ¬ i < 4 := by omega
          cases hpa : P.2.1 i b <;> simp [f1, f2, f3, f4, hwb, i4, i4']
        · have i4' : i < 4 := by omega
          cases hpa : P.2.1 i b <;> simp [f1, f2, f3, f4, hwb, i4, i4']
      · have f2 : ¬ P.2.2.1 i ≤ e - 1 := by omega
        simp [f1, f2, f4]
theorem znow_hi (P : zP) (m b n : Nat) {i : Nat} (h8 : ¬ i < 8) : (znow P m b n).testBit i = n.testBit i := by
  rw [znow_bit]; simp [h8]
theorem zcan_hi (P : zP) (s w : Nat) {i : Nat} (h8 : ¬ i < 8) : (zcan P s w).testBit i = false := by
  rw [zcan_bit]; simp [h8]
theorem zy_shift {P : zP} (hP : zpk P) {s b w e c : Nat} (hw : zy_ok P s w) (he : s < e) (hc : c ≠ b) : zWb P e (znow P (e - 1) b (zcan P s w)) b c = zWb P e (zcan P e (zy_we P s b w e)) b c + zy_C P e (znow P (e - 1) b (zcan P s w)) := by
  have key : ∀ i, i < 8 → 4 ≤ i → P.1 i = true → P.2.2.1 i < e → (znow P (e - 1) b (zcan P s w)).testBit i = false → P.2.1 i c = true := by
    intro i h8 h4 hp hf hn
    refine hP.1 i b c h4 ?_ hc
    rw [znow_bit] at hn
    cases q : P.2.1 i b with
    | false => rfl
    | true =>
      have : P.2.2.1 i ≤ e - 1 := by omega
      simp [h8, hp, q, this] at hn
  have enow : znow P e c (znow P (e - 1) b (zcan P s w)) = znow P e c (zcan P e (zy_we P s b w e)) := by
    apply Nat.eq_of_testBit_eq
    intro i
    by_cases h8 : i < 8
    · rw [znow_bit P e c, znow_bit P e c, zy_shift_bits hw he h8]
      cases hn : (znow P (e - 1) b (zcan P s w)).testBit i with
      | true => simp
      | false =>
        by_cases h4 : 4 ≤ i
        · cases hp : P.1 i with
          | false => simp
          | true =>
            by_cases hf : P.2.2.1 i < e
            · have := key i h8 h4 hp hf hn
              have f2 : P.2.2.1 i ≤ e := by omega
              simp [h8, this, f2]
            · simp [hf]
        · simp [h4]
    · rw [znow_hi P e c _ h8, znow_hi P e c _ h8, znow_hi P _ b _ h8, zcan_hi _ _ _ h8, zcan_hi _ _ _ h8]
  unfold zWb
  rw [← enow]
  have ec : zcby P e (znow P (e - 1) b (zcan P s w)) (znow P e c (znow P (e - 1) b (zcan P s w))) = zcby P e (zcan P e (zy_we P s b w e)) (znow P e c (znow P (e - 1) b (zcan P s w))) + zy_C P e (znow P (e - 1) b (zcan P s w)) := by
    unfold zcby zy_C
    rw [← zsum_add]
    refine zsum_ext 8 (fun i h8 => ?_)
    have hb := zy_shift_bits (b := b) hw he h8
    rw [hb]
    have k := key i h8
    have hz := znow_bit P e c (znow P (e - 1) b (zcan P s w)) i
    rw [hz]
    cases hn : (znow P (e - 1) b (zcan P s w)).testBit i with
    | true => simp
    | false =>
      by_cases h4 : 4 ≤ i
      · cases hp : P.1 i with
        | false => simp
        | true =>
          by_cases hf : P.2.2.1 i < e
          · have := k h4 hp hf hn
            have f2 : P.2.2.1 i ≤ e := by omega
            simp [h8, this, f2, h4, hf]
          · simp [hf]
      · simp [h4]
  rw [ec]
  omega
theorem zy_shift24 {P : zP} (hP : zpk P) {s b w u held : Nat} (hw : zy_ok P s w) (he : s < 24) : zV P 0 (znow P 23 b (zcan P s w)) u held = zy_cs P (zy_we P s b w 24) 24 + zy_C P 24 (znow P 23 b (zcan P s w)) := by
  have hok := zy_we_ok (b := b) hw (show s ≤ 24 by omega)
  have e48 : zy_cs P (zy_we P s b w 24) 24 = zsum (fun i => if (zy_we P s b w 24).testBit i = true then P.2.2.2.1 i 24 else 0) 8 := by
    unfold zy_cs
    refine (zsum_48 (fun i hi => ?_)).symm
    rw [if_neg]
    intro z
    have := (hok i z).1
    omega
  rw [zV, e48]
  unfold zcby zy_C
  rw [← zsum_add]
  refine zsum_ext 8 (fun i h8 => ?_)
  have hb := zy_shift_bits (b := b) hw he h8
  have hq := hok i
  rw [zcan_bit] at hb
  rw [zall_bit]
  have f := hP.2.2.2.2 i h8
  simp only [h8, f, decide_true, Bool.true_and, Bool.and_true] at hb ⊢
  rw [show (24 : Nat) - 1 = 23 from rfl] at hb
  cases hp : P.1 i with
  | false =>
    have : (zy_we P s b w 24).testBit i = false := by
      cases q : (zy_we P s b w 24).testBit i with
      | false => rfl
      | true => have := (hq q).2.1; rw [hp] at this; simp at this
    simp [this]
  | true =>
    rw [hp] at hb
    simp only [Bool.true_and, Bool.and_true] at hb
    by_cases h4 : 4 ≤ i
    · have : (zy_we P s b w 24).testBit i = false := by
        cases q : (zy_we P s b w 24).testBit i with
        | false => rfl
        | true => have := (hq q).1; omega
      cases hn : (znow P 23 b (zcan P s w)).testBit i <;> simp [h4, this]
    · rw [show decide (4 ≤ i) = false by simp [h4], Bool.or_false] at hb
      rw [← hb]
      cases q : (zy_we P s b w 24).testBit i <;> simp [h4]
/-- what is to come from e on, ships w waiting, b having been up -/
def zy_nv (P : zP) (e b w : Nat) : Nat := if e < 24 then zWn P e (zcan P e w) b else zy_cs P w 24
def zy_R (P : zP) (e n b : Nat) : Nat := if e < 24 then zWn P e n b else zV P 0 n b 1
theorem zWn_shift {P : zP} (hP : zpk P) {e n n' b k : Nat} (hb : b < 3) (hk : k ≤ 8000000) (h : ∀ c, c < 3 → c ≠ b → zWb P e n b c = zWb P e n' b c + k) : zWn P e n b = zWn P e n' b + k ∧ zfirst (zg P e n b) = zfirst (zg P e n' b) := by
  have hnev : znev = 99999999 := rfl
  have b0 := zWb_b hP (s := e) (n := n') (u := b) (b := 0) (by omega)
  have b1 := zWb_b hP (s := e) (n := n') (u := b) (b := 1) (by omega)
  have b2 := zWb_b hP (s := e) (n := n') (u := b) (b := 2) (by omega)
  have h0 := h 0 (by omega)
  have h1 := h 1 (by omega)
  have h2 := h 2 (by omega)
  unfold zWn zmin3 zfirst zg
  rcases (show b = 0 ∨ b = 1 ∨ b = 2 by omega) with rfl | rfl | rfl
  · rw [h1 (by omega), h2 (by omega)]
    simp only [if_true, show ¬ (1 : Nat) = 0 by decide, show ¬ (2 : Nat) = 0 by decide, if_false]
    refine ⟨by omega, ?_⟩
    repeat' split
    all_goals omega
  · rw [h0 (by omega), h2 (by omega)]
    simp only [if_true, show ¬ (0 : Nat) = 1 by decide, show ¬ (2 : Nat) = 1 by decide, if_false]
    refine ⟨by omega, ?_⟩
    repeat' split
    all_goals omega
  · rw [h0 (by omega), h1 (by omega)]
    simp only [if_true, show ¬ (0 : Nat) = 2 by decide, show ¬ (1 : Nat) = 2 by decide, if_false]
    refine ⟨by omega, ?_⟩
    repeat' split
    all_goals omega
theorem zy_C_b {P : zP} (hP : zpk P) (e n : Nat) : zy_C P e n ≤ 8000000 := by
  have := zsum_le (f := fun i => if 4 ≤ i ∧ P.1 i = true ∧ P.2.2.1 i < e ∧ n.testBit i = false then P.2.2.2.1 i e else 0) (c := 1000000) 8 (fun i _ => by
    show (if 4 ≤ i ∧ P.1 i = true ∧ P.2.2.1 i < e ∧ n.testBit i = false then P.2.2.2.1 i e else 0) ≤ 1000000
    split
    · exact hP.2.2.1 i e
    · omega)
  unfold zy_C
  omega
theorem zy_R_nv {P : zP} (hP : zpk P) {s b w e : Nat} (hb : b < 3) (hw : zy_ok P s w) (he : s < e) (he2 : e ≤ 24) : zy_R P e (znow P (e - 1) b (zcan P s w)) b = zy_nv P e b (zy_we P s b w e) + zy_C P e (znow P (e - 1) b (zcan P s w)) := by
  unfold zy_R zy_nv
  by_cases c : e < 24
  · rw [if_pos c, if_pos c]
    exact (zWn_shift hP hb (zy_C_b hP _ _) (fun c' _ hc => zy_shift hP hw he hc)).1
  · rw [if_neg c, if_neg c]
    have : e = 24 := by omega
    subst this
    exact zy_shift24 hP hw (by omega)
/-- what a span of b from s to e costs, with all behind it -/
def zy_G (P : zP) (K s b w e : Nat) : Nat := K + zy_cs P (w &&& zy_at P b) s + zy_sc P s b e + zy_nv P e b (zy_we P s b w e)
theorem zy_G_A {P : zP} (hP : zpk P) {K s b w e : Nat} (hb : b < 3) (hw : zy_ok P s w) (he : s < e) (he2 : e ≤ 24) : zy_G P K s b w e = K + zy_A P s b (zcan P s w) e + zy_R P e (znow P (e - 1) b (zcan P s w)) b := by
  have h1 := zy_acct (b := b) hw he
  have h2 := zy_R_nv hP hb hw he he2
  unfold zy_G
  omega
/-- what is least of the ends from 24 - j on -/
def zy_M (G : Nat → Nat) : Nat → Nat
  | 0 => G 24
  | j + 1 => min (G (23 - j)) (zy_M G j)
def zy_E (G nx : Nat → Nat) (b : Nat) : Nat → Nat
  | 0 => 24
  | j + 1 => if G (23 - j) < zy_M G j ∨ (G (23 - j) = zy_M G j ∧ nx (23 - j) < b) then 23 - j else zy_E G nx b j
def zy_F (G nx : Nat → Nat) (b : Nat) : Nat → Nat → Nat → Nat → Nat × Nat
  | 0, v, en, _ => (v, en)
  | j + 1, v, en, x => if G (24 - j) < v ∨ (G (24 - j) = v ∧ b + 1 < x) then zy_F G nx b j (G (24 - j)) (24 - j) (if 24 - j < 24 then nx (24 - j) + 1 else 0) else zy_F G nx b j v en x
theorem zy_F_M {G nx : Nat → Nat} {b : Nat} (hx : ∀ t, t < 24 → nx t ≠ b) : ∀ j v en x, j ≤ 24 → zy_F G nx b (j + 1) v en x = if v < zy_M G j ∨ (v = zy_M G j ∧ ¬ b + 1 < x) then (v, en) else (zy_M G j, zy_E G nx b j) := by
  intro j
  induction j with
  | zero =>
    intro v en x _
    rw [zy_F, zy_F, zy_F, zy_M, zy_E]
    by_cases c : G (24 - 0) < v ∨ (G (24 - 0) = v ∧ b + 1 < x)
    · have c' : G 24 < v ∨ (G 24 = v ∧ b + 1 < x) := c
      rw [if_pos c, if_neg (by omega)]
    · have c' : ¬ (G 24 < v ∨ (G 24 = v ∧ b + 1 < x)) := c
      rw [if_neg c, if_pos (by omega)]
  | succ j ih =>
    intro v en x hj
    have hne := hx (23 - j) (by omega)
    rw [zy_F, show 24 - (j + 1) = 23 - j by omega, if_pos (show 23 - j < 24 by omega), zy_M, zy_E]
    by_cases c : G (23 - j) < v ∨ (G (23 - j) = v ∧ b + 1 < x)
    · rw [if_pos c, ih _ _ _ (by omega), if_neg (show ¬ (v < min (G (23 - j)) (zy_M G j) ∨ (v = min (G (23 - j)) (zy_M G j) ∧ ¬ b + 1 < x)) by omega)]
      by_cases d : G (23 - j) < zy_M G j ∨ (G (23 - j) = zy_M G j ∧ nx (23 - j) < b)
      · rw [if_pos d, if_pos (by omega), show min (G (23 - j)) (zy_M G j) = G (23 - j) by omega]
      · rw [if_neg d, if_neg (by omega), show min (G (23 - j)) (zy_M G j) = zy_M G j by omega]
    · rw [if_neg c, ih _ _ _ (by omega)]
      by_cases d : v < zy_M G j ∨ (v = zy_M G j ∧ ¬ b + 1 < x)
      · rw [if_pos d, if_pos (by omega)]
      · rw [if_neg d, if_neg (by omega), if_neg (by omega), show min (G (23 - j)) (zy_M G j) = zy_M G j by omega]
