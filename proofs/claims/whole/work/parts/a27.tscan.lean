/-! the class's tokens -/
theorem p3_isLetter {c : Nat} (hc : c < 256) (σ : zSt) (Q : Int32 → zSt → Prop) : wX3_isLetter (nI c) σ Q = Q (if tx_lt c = true then 1 else 0) σ := by
  unfold wX3_isLetter tx_lt
  by_cases c1 : 97 ≤ c
  · rw [if_neg (show ¬ nI c < (97 : Int32) from nI_nlt (b := 97) c1 (by omega))]
    by_cases c2 : c ≤ 122
    · rw [if_neg (show ¬ (122 : Int32) < nI c from nI_nlt (a := 122) c2 (by omega)), if_pos (by simp [c1, c2])]
    · rw [if_pos (show (122 : Int32) < nI c from nI_lt (a := 122) (by omega) (by omega)), if_neg (by simp [c2])]
  · rw [if_pos (show nI c < (97 : Int32) from nI_lt (b := 97) (by omega) (by omega)), if_neg (by simp [c1])]
theorem p3_isNumeral {c : Nat} (hc : c < 256) (σ : zSt) (Q : Int32 → zSt → Prop) : wX3_isNumeral (nI c) σ Q = Q (if tx_dg c = true then 1 else 0) σ := by
  unfold wX3_isNumeral tx_dg
  by_cases c1 : 48 ≤ c
  · rw [if_neg (show ¬ nI c < (48 : Int32) from nI_nlt (b := 48) c1 (by omega))]
    by_cases c2 : c ≤ 57
    · rw [if_neg (show ¬ (57 : Int32) < nI c from nI_nlt (a := 57) c2 (by omega)), if_pos (by simp [c1, c2])]
    · rw [if_pos (show (57 : Int32) < nI c from nI_lt (a := 57) (by omega) (by omega)), if_neg (by simp [c2])]
  · rw [if_pos (show nI c < (48 : Int32) from nI_lt (b := 48) (by omega) (by omega)), if_neg (by simp [c1])]
theorem p3_isSign {c : Nat} (hc : c < 256) (σ : zSt) (Q : Int32 → zSt → Prop) : wX3_isSign (nI c) σ Q = Q (if tx_sg c = true then 1 else 0) σ := by
  by_cases c3 : tx_sg c = true
  · rw [if_pos c3]
    unfold tx_sg at c3
    simp only [Bool.or_eq_true, beq_iff_eq] at c3
    rcases c3 with ((((((c3 | c3) | c3) | c3) | c3) | c3) | c3) | c3 <;> subst c3 <;> rfl
  · rw [if_neg c3]
    unfold tx_sg at c3
    simp only [Bool.or_eq_true, beq_iff_eq, not_or] at c3
    obtain ⟨⟨⟨⟨⟨⟨⟨d1, d2⟩, d3⟩, d4⟩, d5⟩, d6⟩, d7⟩, d8⟩ := c3
    have ne : ∀ e : Nat, e < 256 → c ≠ e → ¬ nI c = nI e := fun e he h z => h ((nI_eq (by omega) (by omega)).mp z)
    unfold wX3_isSign
    rw [if_neg (show ¬ nI c = (40 : Int32) from ne 40 (by omega) d1), if_neg (show ¬ nI c = (41 : Int32) from ne 41 (by omega) d2), if_neg (show ¬ nI c = (59 : Int32) from ne 59 (by omega) d3), if_neg (show ¬ nI c = (43 : Int32) from ne 43 (by omega) d4), if_neg (show ¬ nI c = (45 : Int32) from ne 45 (by omega) d5), if_neg (show ¬ nI c = (42 : Int32) from ne 42 (by omega) d6), if_neg (show ¬ nI c = (60 : Int32) from ne 60 (by omega) d7), if_neg (show ¬ nI c = (61 : Int32) from ne 61 (by omega) d8)]
def cx_t (T : Nat → Nat) (n : Nat) (σ : zSt) : Prop := n ≤ 160 ∧ (∀ j, j < n → T j ≤ 255) ∧ ∀ j, j < n → σ.1 17 j = nI (T j)
theorem p3_isWord {T : Nat → Nat} {n : Nat} {σ : zSt} (ht : cx_t T n σ) {w a e : Nat} (hw : w < 13) (hw0 : w ≠ 0) (hae : a ≤ e) (he : e ≤ n) (Q : Int32 → zSt → Prop) : wX3_isWord_s_17 w (nI a) (nI e) σ Q = Q (if tx_isw w T a e = true then 1 else 0) σ := by
  obtain ⟨hn, hT, hb⟩ := ht
  obtain ⟨⟨l1, l2⟩, lw⟩ := tx_w_all hw hw0
  unfold wX3_isWord_s_17
  rw [pk_sub hae]
  have el : (Int32.ofNat (zlen.getD w 0) = nI (e - a)) ↔ zlen.getD w 0 = e - a := nI_eq (by omega) (by omega)
  by_cases c : zlen.getD w 0 = e - a
  rotate_left
  · rw [if_neg (fun z => c (el.mp z)), if_neg]
    intro z
    unfold tx_isw at z
    simp only [Bool.and_eq_true, decide_eq_true_eq] at z
    omega
  rw [if_pos (el.mpr c), if_neg (nI_pos (by omega)), if_pos (show nI e ≤ (160 : Int32) from nI_le (b := 160) (by omega) (by omega))]
  have L : ∀ (d j m : Nat), j + d = zlen.getD w 0 → d < m → (∀ q, q < j → nI (T (a + q)) = (zbyt.getD w []).getD q 0) → wX3_isWord_s_17_L25 Q (fun σ => Q 0 σ) (fun σ => Q 1 σ) w (nI a) m (nI j) σ = Q (if tx_isw w T a e = true then 1 else 0) σ := by
    intro d
    induction d with
    | zero =>
      intro j m hj hm hq
      obtain ⟨m, rfl⟩ : ∃ m', m = m' + 1 := ⟨m - 1, by omega⟩
      rw [wX3_isWord_s_17_L25, if_pos (show Int32.ofNat (zlen.getD w 0) ≤ nI j from nI_le (a := zlen.getD w 0) (by omega) (by omega)), if_pos]
      unfold tx_isw
      simp only [Bool.and_eq_true, decide_eq_true_eq]
      exact ⟨c.symm, fun q hq2 => hq q (by omega)⟩
    | succ d ih =>
      intro j m hj hm hq
      obtain ⟨m, rfl⟩ : ∃ m', m = m' + 1 := ⟨m - 1, by omega⟩
      rw [wX3_isWord_s_17_L25, if_neg (show ¬ Int32.ofNat (zlen.getD w 0) ≤ nI j from nI_ge (b := zlen.getD w 0) (by omega) (by omega)), nI_add, zcl (by omega), zcl (by omega), hb (a + j) (by omega)]
      have v1 : vp_in (nI (a + j)) 160 := zin' (by omega) (by omega)
      have v2 : vp_in (nI j) (zlen.getD w 0) := zin' (by omega) (by omega)
      simp only [v1, v2, true_and, forall_eq, nI_1]
      by_cases q : nI (T (a + j)) = (zbyt.getD w []).getD j 0
      · rw [if_pos q]
        refine ih (j + 1) m (by omega) (by omega) (fun q' hq' => ?_)
        by_cases x : q' = j
        · rw [x]; exact q
        · exact hq q' (by omega)
      · rw [if_neg q, if_neg]
        intro z
        unfold tx_isw at z
        simp only [Bool.and_eq_true, decide_eq_true_eq] at z
        exact q (z.2 j (by omega))
  exact L (zlen.getD w 0) 0 300 (by omega) (by omega) (fun q hq => by omega)
theorem p3_nameOf {T : Nat → Nat} {n : Nat} {σ : zSt} (ht : cx_t T n σ) {a e : Nat} (hae : a ≤ e) (he : e ≤ n) (Q : Int32 → zSt → Prop) : wX3_nameOf_17 (nI a) (nI e) σ Q = Q (tx_nm T a e) σ := by
  have q := fun (w : Nat) (h1 : w < 13) (h2 : w ≠ 0) (R : Int32 → zSt → Prop) => p3_isWord ht h1 h2 hae he R
  unfold wX3_nameOf_17 tx_nm
  rw [q 1 (by omega) (by omega)]
  by_cases d1 : tx_isw 1 T a e = true
  · rw [if_pos d1, if_pos d1, if_neg (by decide)]
  rw [if_neg d1, if_neg d1, if_pos rfl, q 2 (by omega) (by omega)]
  by_cases d2 : tx_isw 2 T a e = true
  · rw [if_pos d2, if_pos d2, if_neg (by decide)]
  rw [if_neg d2, if_neg d2, if_pos rfl, q 3 (by omega) (by omega)]
  by_cases d3 : tx_isw 3 T a e = true
  · rw [if_pos d3, if_pos d3, if_neg (by decide)]
  rw [if_neg d3, if_neg d3, if_pos rfl, q 4 (by omega) (by omega)]
  by_cases d4 : tx_isw 4 T a e = true
  · rw [if_pos d4, if_pos d4, if_neg (by decide)]
  rw [if_neg d4, if_neg d4, if_pos rfl, q 5 (by omega) (by omega)]
  by_cases d5 : tx_isw 5 T a e = true
  · rw [if_pos d5, if_pos d5, if_neg (by decide)]
  rw [if_neg d5, if_neg d5, if_pos rfl, q 6 (by omega) (by omega)]
  by_cases d6 : tx_isw 6 T a e = true
  · rw [if_pos d6, if_pos d6, if_neg (by decide)]
  rw [if_neg d6, if_neg d6, if_pos rfl]
theorem p3_keyOf {T : Nat → Nat} {n : Nat} {σ : zSt} (ht : cx_t T n σ) {a e : Nat} (hae : a ≤ e) (he : e ≤ n) (Q : Int32 → zSt → Prop) : wX3_keyOf_17 (nI a) (nI e) σ Q = Q (nI (tx_ky T a e)) σ := by
  have q := fun (w : Nat) (h1 : w < 13) (h2 : w ≠ 0) (R : Int32 → zSt → Prop) => p3_isWord ht h1 h2 hae he R
  unfold wX3_keyOf_17 tx_ky
  rw [q 7 (by omega) (by omega)]
  by_cases d1 : tx_isw 7 T a e = true
  · rw [if_pos d1, if_pos d1, if_neg (by decide)]; rfl
  rw [if_neg d1, if_neg d1, if_pos rfl, q 8 (by omega) (by omega)]
  by_cases d2 : tx_isw 8 T a e = true
  · rw [if_pos d2, if_pos d2, if_neg (by decide)]; rfl
  rw [if_neg d2, if_neg d2, if_pos rfl, q 9 (by omega) (by omega)]
  by_cases d3 : tx_isw 9 T a e = true
  · rw [if_pos d3, if_pos d3, if_neg (by decide)]; rfl
  rw [if_neg d3, if_neg d3, if_pos rfl, q 10 (by omega) (by omega)]
  by_cases d4 : tx_isw 10 T a e = true
  · rw [if_pos d4, if_pos d4, if_neg (by decide)]; rfl
  rw [if_neg d4, if_neg d4, if_pos rfl, q 11 (by omega) (by omega)]
  by_cases d5 : tx_isw 11 T a e = true
  · rw [if_pos d5, if_pos d5, if_neg (by decide)]; rfl
  rw [if_neg d5, if_neg d5, if_pos rfl, q 12 (by omega) (by omega)]
  by_cases d6 : tx_isw 12 T a e = true
  · rw [if_pos d6, if_pos d6, if_neg (by decide)]; rfl
  rw [if_neg d6, if_neg d6, if_pos rfl]; rfl
/-- the first j tokens lie in the rows -/
def cx_P (T : Nat → Nat) (n j : Nat) (σ : zSt) : Prop := σ.1 19 3 = nI j ∧ ∀ q, q < j → σ.1 20 q = nI (tx_kd T n q) ∧ σ.1 21 q = tx_vl T n q ∧ σ.1 22 q = nI (tx_tk T n q).2.1
def cx_h (σ σ' : zSt) : Prop := ∀ o, o ≠ 19 → o ≠ 20 → o ≠ 21 → o ≠ 22 → σ'.1 o = σ.1 o
theorem cx_h.tr {σ σ' σ'' : zSt} (e : cx_h σ σ') (f : cx_h σ' σ'') : cx_h σ σ'' := fun o a b c d => (f o a b c d).trans (e o a b c d)
theorem cx_keep {T : Nat → Nat} {n j : Nat} {σ : zSt} (h : cx_P T n j σ) (hj : j ≤ 160) {x v y : Int32} (e1 : x = nI (tx_kd T n j)) (e2 : v = tx_vl T n j) (e3 : y = nI (tx_tk T n j).2.1) (Q : zSt → Prop) (hQ : ∀ σ', cx_P T n (j + 1) σ' → cx_h σ σ' → Q σ') : wX3_keep x v y σ Q := by
  obtain ⟨h1, h2⟩ := h
  have hv : vp_in (nI j) 161 := zin' (by omega) (by omega)
  unfold wX3_keep
  rw [h1, if_neg (show ¬ (161 : Int32) ≤ nI j from nI_ge (b := 161) (by omega) (by omega)), zcl (by omega)]
  refine ⟨hv, ?_⟩
  intro s1 k1
  have x1 : s1.1 19 3 = nI j := by rw [k1, zput_ne (by decide)]; exact h1
  rw [x1, zcl (by omega)]
  refine ⟨hv, ?_⟩
  intro s2 k2
  have x2 : s2.1 19 3 = nI j := by rw [k2, zput_ne (by decide)]; exact x1
  rw [x2, zcl (by omega)]
  refine ⟨hv, ?_⟩
  intro s3 k3
  have x3 : s3.1 19 3 = nI j := by rw [k3, zput_ne (by decide)]; exact x2
  rw [x3, nI_1, forall_eq]
  refine hQ _ ⟨by rw [zput_at, if_pos ⟨rfl, rfl⟩], fun q hq => ?_⟩ (fun o a b c d => by rw [zput_ne a, k3, zput_ne d, k2, zput_ne c, k1, zput_ne b])
  clear x1 x2 x3
  subst k3
  subst k2
  subst k1
  by_cases w : q = j
  · subst w
    refine ⟨?_, ?_, ?_⟩
    · rw [← e1]; simp [zput_at]
    · rw [← e2]; simp [zput_at]
    · rw [← e3]; simp [zput_at]
  · have := h2 q (by omega)
    refine ⟨?_, ?_, ?_⟩
    · rw [← this.1]; simp [zput_at, w]
    · rw [← this.2.1]; simp [zput_at, w]
    · rw [← this.2.2]; simp [zput_at, w]
theorem p3_tw {T : Nat → Nat} {n : Nat} {σ : zSt} (ht : cx_t T n σ) (x2 : Int32) (Q K : Int32 → zSt → Prop) : ∀ (f p m : Nat), p ≤ n → n ≤ p + f → f < m → wX3_takeWord_17_L3 Q K x2 (nI n) m (nI p) σ = K (nI (tx_cs tx_lt T n f p)) σ := by
  obtain ⟨hn, hT, hb⟩ := ht
  intro f
  induction f with
  | zero =>
    intro p m hp hf hm
    obtain ⟨m, rfl⟩ : ∃ m', m = m' + 1 := ⟨m - 1, by omega⟩
    rw [wX3_takeWord_17_L3, if_pos (nI_le (by omega) (by omega))]
    rfl
  | succ f ih =>
    intro p m hp hf hm
    obtain ⟨m, rfl⟩ : ∃ m', m = m' + 1 := ⟨m - 1, by omega⟩
    rw [wX3_takeWord_17_L3, tx_cs]
    by_cases c : p < n
    · have hv : vp_in (nI p) 160 := zin' (by omega) (by omega)
      have hb2 := hT p c
      rw [if_neg (show ¬ nI n ≤ nI p from nI_ge c (by omega)), zcl (by omega), forall_eq, hb p c, p3_isLetter (by omega)]
      simp only [hv, true_and, forall_eq, nI_1]
      by_cases c2 : tx_lt (T p) = true
      · rw [if_pos c2, if_neg (by decide), if_pos (show p < n ∧ tx_lt (T p) = true from ⟨c, c2⟩)]
        exact ih (p + 1) m (by omega) (by omega) (by omega)
      · rw [if_neg c2, if_pos rfl, if_neg (show ¬ (p < n ∧ tx_lt (T p) = true) from fun z => c2 z.2)]
    · rw [if_pos (show nI n ≤ nI p from nI_le (by omega) (by omega)), if_neg (show ¬ (p < n ∧ tx_lt (T p) = true) from fun z => c z.1)]
theorem p3_tn {T : Nat → Nat} {n : Nat} {σ : zSt} (ht : cx_t T n σ) (a : Nat) (x2 : Int32) (Q : Int32 → zSt → Prop) (K : Int32 → Int32 → zSt → Prop) : ∀ (f c m : Nat), a + c ≤ n → n ≤ a + c + f → f < m → wX3_takeNumber_17_L6 Q K x2 (nI n) m (nI (a + c)) (nI (tx_nu T a c)) σ = K (nI (tx_cs tx_dg T n f (a + c))) (nI (tx_nu T a (tx_cs tx_dg T n f (a + c) - a))) σ := by
  obtain ⟨hn, hT, hb⟩ := ht
  intro f
  induction f with
  | zero =>
    intro c m hp hf hm
    obtain ⟨m, rfl⟩ : ∃ m', m = m' + 1 := ⟨m - 1, by omega⟩
    rw [wX3_takeNumber_17_L6, if_pos (nI_le (by omega) (by omega)), tx_cs, Nat.add_sub_cancel_left]
  | succ f ih =>
    intro c m hp hf hm
    obtain ⟨m, rfl⟩ : ∃ m', m = m' + 1 := ⟨m - 1, by omega⟩
    rw [wX3_takeNumber_17_L6, tx_cs]
    by_cases c0 : a + c < n
    · have hv : vp_in (nI (a + c)) 160 := zin' (by omega) (by omega)
      have hb2 := hT _ c0
      rw [if_neg (show ¬ nI n ≤ nI (a + c) from nI_ge c0 (by omega)), zcl (by omega), forall_eq, hb _ c0, p3_isNumeral (by omega)]
      simp only [hv, true_and, forall_eq, nI_1]
      by_cases c2 : tx_dg (T (a + c)) = true
      · rw [if_pos c2, if_neg (by decide), if_pos (show a + c < n ∧ tx_dg (T (a + c)) = true from ⟨c0, c2⟩), hb _ c0]
        unfold tx_dg at c2
        simp only [Bool.and_eq_true, decide_eq_true_eq] at c2
        have ev : nI (tx_nu T a c) * 10 + nI (T (a + c)) - 48 = nI (tx_nu T a (c + 1)) := by
          rw [show (10 : Int32) = nI 10 from rfl, show (48 : Int32) = nI 48 from rfl, pk_mul, nI_add, pk_sub (by omega), tx_nu]
          congr 1
          omega
        rw [ev]
        exact ih (c + 1) m (by omega) (by omega) (by omega)
      · rw [if_neg c2, if_pos rfl, if_neg (show ¬ (a + c < n ∧ tx_dg (T (a + c)) = true) from fun z => c2 z.2), Nat.add_sub_cancel_left]
    · rw [if_pos (show nI n ≤ nI (a + c) from nI_le (by omega) (by omega)), if_neg (show ¬ (a + c < n ∧ tx_dg (T (a + c)) = true) from fun z => c0 z.1), Nat.add_sub_cancel_left]
