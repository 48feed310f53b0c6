/-! spans: plain facts on sums and sets -/
theorem zsum_ext {f g : Nat → Nat} : ∀ n, (∀ i, i < n → f i = g i) → zsum f n = zsum g n := by
  intro n
  induction n with
  | zero => intro _; rfl
  | succ n ih => intro h; rw [zsum, zsum, ih (fun i hi => h i (by omega)), h n (by omega)]
theorem zsum_add (f g : Nat → Nat) : ∀ n, zsum (fun i => f i + g i) n = zsum f n + zsum g n := by
  intro n
  induction n with
  | zero => rfl
  | succ n ih => rw [zsum, zsum, zsum, ih]; omega
theorem zsum_48 {f : Nat → Nat} (h : ∀ i, 4 ≤ i → f i = 0) : zsum f 8 = zsum f 4 := by
  show zsum f 4 + f 4 + f 5 + f 6 + f 7 = zsum f 4
  rw [h 4 (by omega), h 5 (by omega), h 6 (by omega), h 7 (by omega)]
  rfl
theorem zsum_mono {f g : Nat → Nat} : ∀ n, (∀ i, i < n → f i ≤ g i) → zsum f n ≤ zsum g n := by
  intro n
  induction n with
  | zero => intro _; exact Nat.le_refl _
  | succ n ih =>
    intro h
    rw [zsum, zsum]
    have := ih (fun i hi => h i (by omega))
    have := h n (by omega)
    omega
def zpk (P : zP) : Prop := (∀ i b c, 4 ≤ i → P.2.1 i b = false → c ≠ b → P.2.1 i c = true) ∧ (1 ≤ P.2.2.2.2.2 ∧ P.2.2.2.2.2 ≤ 4) ∧ (∀ i m, P.2.2.2.1 i m ≤ 1000000) ∧ (∀ m u b, P.2.2.2.2.1 m u b ≤ 99) ∧ (∀ i, i < 8 → P.2.2.1 i < 24)
theorem znow_idem (P : zP) {m' m : Nat} (h : m' ≤ m) (b n : Nat) : znow P m b (znow P m' b n) = znow P m b n := by
  apply Nat.eq_of_testBit_eq
  intro i
  rw [znow_bit, znow_bit, znow_bit]
  by_cases c : P.2.2.1 i ≤ m'
  · have : P.2.2.1 i ≤ m := by omega
    simp only [c, this, decide_true, Bool.and_true]
    cases n.testBit i <;> cases decide (i < 8) <;> cases P.1 i <;> cases P.2.1 i b <;> rfl
  · simp only [c, decide_false, Bool.and_false, Bool.false_and, Bool.or_false]
/-! a bound -/
def zcx (P : zP) (n : Nat) : Nat := zsum (fun i => if (zall P).testBit i = true ∧ n.testBit i = false then 1000000 else 0) 8
theorem zcx_le (P : zP) (n : Nat) : zcx P n ≤ 8000000 := by
  have := zsum_le (f := fun i => if (zall P).testBit i = true ∧ n.testBit i = false then 1000000 else 0) (c := 1000000) 8 (fun i _ => by
    show (if (zall P).testBit i = true ∧ n.testBit i = false then 1000000 else 0) ≤ 1000000
    split <;> omega)
  unfold zcx
  omega
theorem zV_le {P : zP} (hP : zpk P) : ∀ k n u held, u < 3 → zV P k n u held ≤ zcx P n := by
  intro k
  induction k with
  | zero =>
    intro n u held _
    rw [zV]
    unfold zcby zcx
    refine zsum_mono 8 (fun i _ => ?_)
    split
    · exact hP.2.2.1 i 24
    · exact Nat.le_refl _
  | succ k ih =>
    intro n u held hu
    have l := zmin3_le (zstp P k n u held 0) (zstp P k n u held 1) (zstp P k n u held 2)
    have lu : zV P (k + 1) n u held ≤ zstp P k n u held u := by
      rw [zV_s]
      rcases (show u = 0 ∨ u = 1 ∨ u = 2 by omega) with rfl | rfl | rfl
      · exact l.1
      · exact l.2.1
      · exact l.2.2
    unfold zstp at lu
    rw [if_pos rfl] at lu
    have i1 := ih (znow P (23 - k) u n) u (if held < P.2.2.2.2.2 then held + 1 else P.2.2.2.2.2) hu
    have e : zcx P (znow P (23 - k) u n) + zcby P (23 - k) n (znow P (23 - k) u n) ≤ zcx P n := by
      unfold zcx zcby
      rw [← zsum_add]
      refine zsum_mono 8 (fun i _ => ?_)
      have hb := znow_bit P (23 - k) u n i
      cases hn : n.testBit i with
      | true =>
        rw [hn, Bool.true_or] at hb
        rw [hb]; simp
      | false =>
        rw [hn, Bool.false_or] at hb
        cases ha : (znow P (23 - k) u n).testBit i with
        | false => simp
        | true =>
          rw [ha] at hb
          have hz : (zall P).testBit i = true := by
            rw [zall_bit]
            simp only [Bool.and_eq_true, decide_eq_true_eq]
            have := hb.symm
            simp only [Bool.and_eq_true, decide_eq_true_eq] at this
            exact ⟨this.1, this.2.1.1⟩
          rw [hz]
          simp
          exact hP.2.2.1 i (23 - k)
    omega
theorem zcby_b {P : zP} (hP : zpk P) (m n now : Nat) : zcby P m n now ≤ 8000000 := by
  have := zcby_le (P := P) (k := 1000000) (fun i m => hP.2.2.1 i m) m n now
  omega
/-! a change at a minute -/
def zWb (P : zP) (s n u b : Nat) : Nat := zV P (23 - s) (znow P s b n) b 1 + zcby P s n (znow P s b n) + P.2.2.2.2.1 s u b
def zg (P : zP) (s n u b : Nat) : Nat := if b = u then znev else zWb P s n u b
def zWn (P : zP) (s n u : Nat) : Nat := zmin3 (zg P s n u 0) (zg P s n u 1) (zg P s n u 2)
theorem zWb_b {P : zP} (hP : zpk P) {s n u b : Nat} (hb : b < 3) : zWb P s n u b ≤ 16000099 := by
  have h1 := zV_le hP (23 - s) (znow P s b n) b 1 hb
  have h2 := zcx_le P (znow P s b n)
  have h3 := zcby_b hP s n (znow P s b n)
  have h4 := hP.2.2.2.1 s u b
  unfold zWb
  omega
theorem zstp_W {P : zP} {s n u held b : Nat} (hs : s ≤ 23) (hh : P.2.2.2.2.2 ≤ held) (hb : b ≠ u) : zstp P (23 - s) n u held b = zWb P s n u b := by
  unfold zstp zWb
  rw [if_neg hb, if_neg (by omega), show 23 - (23 - s) = s by omega]
/-- those through before s, if w are the ships that wait -/
def zcan (P : zP) (s w : Nat) : Nat := zmask (fun i => P.1 i && decide (P.2.2.1 i < s) && !(w.testBit i)) 8
theorem zcan_bit (P : zP) (s w i : Nat) : (zcan P s w).testBit i = (decide (i < 8) && (P.1 i && decide (P.2.2.1 i < s) && !(w.testBit i))) := zmask_bit _ 8 i
def zy_at (P : zP) (b : Nat) : Nat := zmask (fun i => P.1 i && P.2.1 i b) 4
theorem zy_at_bit (P : zP) (b i : Nat) : (zy_at P b).testBit i = (decide (i < 4) && (P.1 i && P.2.1 i b)) := zmask_bit _ 4 i
def zy_sw (P : zP) (s b e : Nat) : Nat := zmask (fun i => P.1 i && decide (s ≤ P.2.2.1 i) && decide (P.2.2.1 i < e) && !P.2.1 i b) 4
theorem zy_sw_bit (P : zP) (s b e i : Nat) : (zy_sw P s b e).testBit i = (decide (i < 4) && (P.1 i && decide (s ≤ P.2.2.1 i) && decide (P.2.2.1 i < e) && !P.2.1 i b)) := zmask_bit _ 4 i
def zy_sc (P : zP) (s b e : Nat) : Nat := zsum (fun i => if P.1 i = true ∧ s ≤ P.2.2.1 i ∧ P.2.2.1 i < e then (if P.2.1 i b = true then P.2.2.2.1 i (P.2.2.1 i) else if 4 ≤ i then P.2.2.2.1 i e else 0) else 0) 8
def zy_cs (P : zP) (w m : Nat) : Nat := zsum (fun i => if w.testBit i = true then P.2.2.2.1 i m else 0) 4
def zy_we (P : zP) (s b w e : Nat) : Nat := (w &&& (w ^^^ zy_at P b)) ||| zy_sw P s b e
def zy_ok (P : zP) (s w : Nat) : Prop := ∀ i, w.testBit i = true → i < 4 ∧ P.1 i = true ∧ P.2.2.1 i < s
theorem zy_we_bit (P : zP) (s b w e i : Nat) : (zy_we P s b w e).testBit i = ((w.testBit i && !(zy_at P b).testBit i) || (zy_sw P s b e).testBit i) := by
  unfold zy_we
  rw [Nat.testBit_or, zdif_bit]
theorem zy_we_ok {P : zP} {s b w e : Nat} (h : zy_ok P s w) (hs : s ≤ e) : zy_ok P e (zy_we P s b w e) := by
  intro i hi
  rw [zy_we_bit] at hi
  simp only [Bool.or_eq_true, Bool.and_eq_true] at hi
  rcases hi with ⟨q, _⟩ | q
  · have := h i q
    exact ⟨this.1, this.2.1, by omega⟩
  · rw [zy_sw_bit] at q
    simp only [Bool.and_eq_true, decide_eq_true_eq] at q
    exact ⟨q.1, q.2.1.1.1, q.2.1.2⟩
/-- what was paid from s on, and what carts that wait at e would pay there -/
def zy_A (P : zP) (s b n e : Nat) : Nat := zsum (fun i => if (znow P (e - 1) b n).testBit i = true ∧ n.testBit i = false then P.2.2.2.1 i (max s (P.2.2.1 i)) else 0) 8
def zy_C (P : zP) (e n : Nat) : Nat := zsum (fun i => if 4 ≤ i ∧ P.1 i = true ∧ P.2.2.1 i < e ∧ n.testBit i = false then P.2.2.2.1 i e else 0) 8
theorem zy_A_0 {P : zP} {s b n : Nat} : zy_A P s b n (s + 1) = zcby P s n (znow P s b n) := by
  unfold zy_A zcby
  rw [Nat.add_sub_cancel]
  refine zsum_ext 8 (fun i _ => ?_)
  by_cases c : (znow P s b n).testBit i = true ∧ n.testBit i = false
  · rw [if_pos c, if_pos c]
    have hb := znow_bit P s b n i
    rw [c.1, c.2, Bool.false_or] at hb
    have := hb.symm
    simp only [Bool.and_eq_true, decide_eq_true_eq] at this
    rw [Nat.max_eq_left this.2.1.2]
  · rw [if_neg c, if_neg c]
theorem zy_A_s {P : zP} {s b n e : Nat} (he : s < e) : zy_A P s b n (e + 1) = zy_A P s b n e + zcby P e (znow P (e - 1) b n) (znow P e b n) := by
  unfold zy_A zcby
  rw [Nat.add_sub_cancel, ← zsum_add]
  refine zsum_ext 8 (fun i _ => ?_)
  have h1 := znow_bit P e b n i
  have h2 := znow_bit P (e - 1) b n i
  cases hn : n.testBit i with
  | true =>
    rw [hn, Bool.true_or] at h1 h2
    rw [h1, h2]; simp
  | false =>
    rw [hn, Bool.false_or] at h1 h2
    cases h3 : (znow P (e - 1) b n).testBit i with
    | true =>
      have h4 : (znow P e b n).testBit i = true := by
        rw [h3] at h2
        rw [h1]
        have := h2.symm
        simp only [Bool.and_eq_true, decide_eq_true_eq] at this ⊢
        exact ⟨this.1, ⟨this.2.1.1, by omega⟩, this.2.2⟩
      rw [h4]; simp
    | false =>
      cases h4 : (znow P e b n).testBit i with
      | false => simp
      | true =>
        rw [h4] at h1
        rw [h3] at h2
        have a := h1.symm
        simp only [Bool.and_eq_true, decide_eq_true_eq] at a
        have : ¬ P.2.2.1 i ≤ e - 1 := fun q => by
          simp [a.1, a.2.1.1, a.2.2, q] at h2
        have ef : P.2.2.1 i = e := by omega
        simp only [ef, true_and, if_true, Nat.zero_add, Bool.false_eq_true, false_and, if_false]
        rw [Nat.max_eq_right (by omega)]
theorem zy_acct {P : zP} {s b w e : Nat} (hw : zy_ok P s w) (he : s < e) : zy_A P s b (zcan P s w) e + zy_C P e (znow P (e - 1) b (zcan P s w)) = zy_cs P (w &&& zy_at P b) s + zy_sc P s b e := by
  have e48 : zy_cs P (w &&& zy_at P b) s = zsum (fun i => if (w &&& zy_at P b).testBit i = true then P.2.2.2.1 i s else 0) 8 := by
    unfold zy_cs
    refine (zsum_48 (fun i hi => ?_)).symm
    rw [if_neg]
    intro z
    rw [Nat.testBit_and, Bool.and_eq_true] at z
    have := (hw i z.1).1
    omega
  rw [e48]
  unfold zy_A zy_C zy_sc
  rw [← zsum_add, ← zsum_add]
  refine zsum_ext 8 (fun i h8 => ?_)
  have h1 := znow_bit P (e - 1) b (zcan P s w) i
  have h2 := zcan_bit P s w i
  have h3 := zy_at_bit P b i
  have hwi := hw i
  rw [Nat.testBit_and, h3]
  simp only [h8, decide_true, Bool.true_and] at h1 h2
  rw [h2] at h1
  rw [h1, h2]
  clear h1 h2 h3
  cases hp : P.1 i with
  | false =>
    have : w.testBit i = false := by
      cases q : w.testBit i with
      | false => rfl
      | true => have := (hwi q).2.1; rw [hp] at this; simp at this
    simp [this]
  | true =>
    by_cases f1 : P.2.2.1 i < s
    · have f2 : P.2.2.1 i ≤ e - 1 := by omega
      have f3 : ¬ s ≤ P.2.2.1 i := by omega
      have f4 : P.2.2.1 i < e := by omega
      have f5 : max s (P.2.2.1 i) = s := Nat.max_eq_left (by omega)
      cases hwb : w.testBit i with
      | false => simp [f1, f2, f3, f4]
      | true =>
        have i4 := (hwi hwb).1
        have i4' : ¬ 4 ≤ i := by omega
        cases hpa : P.2.1 i b <;> simp [f1, f2, f3, f4, f5, i4, i4']
    · have hwb : w.testBit i = false := by
        cases q : w.testBit i with
        | false => rfl
        | true => have := (hwi q).2.2; omega
      have f3 : s ≤ P.2.2.1 i := by omega
      have f5 : max s (P.2.2.1 i) = P.2.2.1 i := Nat.max_eq_right f3
      by_cases f4 : P.2.2.1 i < e
      · have f2 : P.2.2.1 i ≤ e - 1 := by omega
        cases hpa : P.2.1 i b <;> by_cases i4 : 4 ≤ i <;> simp [f1, f2, f3, f4, f5, hwb, i4]
      · have f2 : ¬ P.2.2.1 i ≤ e - 1 := by omega
        simp [f1, f2, f4, hwb]
