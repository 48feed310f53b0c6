/-! signs and words of the model -/
theorem p8_isSign {i n : Nat} {T : Nat → Nat} {names : Nat → Int32} (ho : tm_ok i n T) {σ : zSt} (hB : tm_B i n T names σ) {k : Nat} (hT : tm_T n T k σ) {s : Nat} (hs : 40 ≤ s ∧ s < 256) (Q : Int32 → zSt → Prop) : wX8_isSign (nI s) σ Q = Q (if tx_kd T n k = s then 1 else 0) σ := by
  have hn := ho.2.1
  obtain ⟨h1, h2, h3, h4, h5⟩ := hT
  unfold wX8_isSign
  rw [hB.2.2.2.2, if_pos rfl, h1]
  by_cases c : (tx_tk T n k).1 = 3
  · rw [if_pos (by rw [c]; rfl), h5 c, nI_l (by omega)]
    have hb := tx_sg_b hn c
    have hb2 := ho.2.2 _ hb.2
    have e : lg_cmp (lN (T (tx_tk T n k).2.1)) (lN s) = 0 ↔ T (tx_tk T n k).2.1 = s := by
      unfold lg_cmp
      constructor
      · intro z
        by_cases g : lN (T (tx_tk T n k).2.1) > lN s
        · rw [if_pos g] at z; exact absurd z (by decide)
        · rw [if_neg g] at z
          by_cases g2 : lN (T (tx_tk T n k).2.1) = lN s
          · exact (lN_eq (by omega) (by omega)).mp g2
          · rw [if_neg g2] at z; exact absurd z (by decide)
      · intro z
        rw [z, if_neg (fun g => by have := (lN_lt (a := s) (b := s) (by omega) (by omega)).mp g; omega), if_pos rfl]
    by_cases c2 : T (tx_tk T n k).2.1 = s
    · rw [if_pos (e.mpr c2), if_pos ((tx_kd_s hn hs.1).mpr ⟨c, c2⟩)]
    · rw [if_neg (fun z => c2 (e.mp z)), if_neg (fun z => c2 ((tx_kd_s hn hs.1).mp z).2)]
  · have lt : (tx_tk T n k).1 ≤ 4 := by
      rcases tx_lx_c T n (tx_ps T n k) (tx_ps_le T n hn k) hn with q | ⟨q1, q2, q3, q4, q5⟩
      · rw [show tx_tk T n k = (0, n, n) from q]; omega
      · rw [show tx_lx T n (tx_ps T n k) = tx_tk T n k from rfl] at q5
        rcases q5 with ⟨a, _⟩ | ⟨a, _⟩ | ⟨a, _⟩ | ⟨a, _⟩ <;> rw [a] <;> (try split) <;> omega
    rw [if_neg (show ¬ nI (tx_tk T n k).1 = (3 : Int32) from fun z => c ((nI_eq (b := 3) (by omega) (by omega)).mp z)), if_neg (fun z => c ((tx_kd_s hn hs.1).mp z).1)]
theorem p8_isSign_b {σ : zSt} (hb : σ.1 0 31 = 1) (s : Int32) (Q : Int32 → zSt → Prop) : wX8_isSign s σ Q = Q 0 σ := by
  unfold wX8_isSign
  rw [hb, if_neg (by decide)]
theorem p8_isWord_b {σ : zSt} (hb : σ.1 0 31 = 1) (a b c d e f g h : Int32) (Q : Int32 → zSt → Prop) : wX8_isWord a b c d e f g h σ Q = Q 0 σ := by
  unfold wX8_isWord
  rw [hb, if_neg (by decide)]
theorem p8_fail_b {σ : zSt} (hb : σ.1 0 31 = 1) (Q : zSt → Prop) : wX8_fail σ Q = Q σ := by
  unfold wX8_fail
  rw [hb, if_neg (by decide)]
theorem tm_tk4 {T : Nat → Nat} {n k : Nat} (hn : n ≤ 160) : (tx_tk T n k).1 ≤ 4 ∧ (tx_tk T n k).2.1 ≤ n ∧ (tx_tk T n k).2.2 ≤ n ∧ ((tx_tk T n k).1 = 1 → (tx_tk T n k).2.1 < (tx_tk T n k).2.2 ∧ ∀ j, (tx_tk T n k).2.1 ≤ j → j < (tx_tk T n k).2.2 → tx_lt (T j) = true) := by
  rcases tx_lx_c T n (tx_ps T n k) (tx_ps_le T n hn k) hn with q | ⟨q1, q2, q3, q4, q5⟩
  · rw [show tx_tk T n k = (0, n, n) from q]
    exact ⟨Nat.zero_le _, Nat.le_refl _, Nat.le_refl _, fun z => absurd z (by simp)⟩
  · rw [show tx_lx T n (tx_ps T n k) = tx_tk T n k from rfl] at q1 q2 q3 q4 q5
    refine ⟨?_, by omega, q3, fun z => ⟨q2, ?_⟩⟩
    · rcases q5 with ⟨a, _⟩ | ⟨a, _⟩ | ⟨a, _⟩ | ⟨a, _⟩ <;> rw [a] <;> (try split) <;> omega
    · rcases q5 with ⟨a, b, c⟩ | ⟨a, _⟩ | ⟨a, _⟩ | ⟨a, _⟩
      · rw [c]; exact (tx_cs_b tx_lt T n 161 _ (by omega)).2.2.2
      · rw [a] at z; split at z <;> omega
      · rw [a] at z; exact absurd z (by decide)
      · rw [a] at z; exact absurd z (by decide)
theorem p8_isLetter {i n : Nat} {T : Nat → Nat} {names : Nat → Int32} (ho : tm_ok i n T) {σ : zSt} (hB : tm_B i n T names σ) {a e : Nat} (ha : σ.1 0 28 = nI a) (he : σ.1 0 26 = nI e) (hen : e ≤ n) (hae : a ≤ n) {j l : Nat} (hj : j < 8) (hl : l < 256) (Q : Int32 → zSt → Prop) : wX8_isLetter (nI j) (nI l) σ Q = Q (if (if e ≤ a + j then l = 0 else T (a + j) = l) then 1 else 0) σ := by
  have hn := ho.2.1
  unfold wX8_isLetter
  rw [ha, he, nI_add]
  by_cases c : e ≤ a + j
  · rw [if_pos (show nI e ≤ nI (a + j) from nI_le c (by omega))]
    by_cases c2 : l = 0
    · rw [if_pos (show nI l = (0 : Int32) by rw [c2]; rfl), if_pos (by rw [if_pos c]; exact c2)]
    · rw [if_neg (show ¬ nI l = (0 : Int32) from nI_ne0 (by omega) (by omega)), if_neg (by rw [if_pos c]; exact c2)]
  · have hb := ho.2.2 (a + j) (by omega)
    rw [if_neg (show ¬ nI e ≤ nI (a + j) from nI_ge (by omega) (by omega)), forall_eq, p8_byteAt ho hB (by omega), if_pos (show a + j < n by omega)]
    by_cases c2 : T (a + j) = l
    · rw [if_pos (show nI (T (a + j)) = nI l by rw [c2]), if_pos (by rw [if_neg c]; exact c2)]
    · rw [if_neg (show ¬ nI (T (a + j)) = nI l from fun z => c2 ((nI_eq (by omega) (by omega)).mp z)), if_neg (by rw [if_neg c]; exact c2)]
theorem p8_isWord {i n : Nat} {T : Nat → Nat} {names : Nat → Int32} (ho : tm_ok i n T) {σ : zSt} (hB : tm_B i n T names σ) {k : Nat} (hT : tm_T n T k σ) {w : Nat} (hw : w < 13) (hw0 : w ≠ 0) (Q : Int32 → zSt → Prop) : wX8_isWord (nI (tx_w w 0)) (nI (tx_w w 1)) (nI (tx_w w 2)) (nI (tx_w w 3)) (nI (tx_w w 4)) (nI (tx_w w 5)) (nI (tx_w w 6)) (nI (tx_w w 7)) σ Q = Q (if (tx_tk T n k).1 = 1 ∧ tx_isw w T (tx_tk T n k).2.1 (tx_tk T n k).2.2 = true then 1 else 0) σ := by
  have hn := ho.2.1
  obtain ⟨h1, h2, h3, h4, h5⟩ := hT
  obtain ⟨t1, t2, t3, t4⟩ := tm_tk4 (T := T) (n := n) (k := k) hn
  unfold wX8_isWord
  rw [hB.2.2.2.2, if_pos rfl, h1]
  by_cases c : (tx_tk T n k).1 = 1
  rotate_left
  · rw [if_neg (show ¬ nI (tx_tk T n k).1 = (1 : Int32) from fun z => c ((nI_eq (b := 1) (by omega) (by omega)).mp z)), if_neg (fun z => c z.1)]
  have t5 := (t4 c).2
  have t4 := (t4 c).1
  have h3 := h3 (by omega)
  rw [if_pos (by rw [c]; rfl)]
  generalize (tx_tk T n k).2.1 = a at h2 h3 t2 t4 t5
  generalize (tx_tk T n k).2.2 = e at h3 t3 t4 t5
  obtain ⟨⟨l1, l2⟩, lw⟩ := tx_w_all hw hw0
  have lb : ∀ j, j < 8 → tx_w w j < 256 := fun j hj => by
    rcases Nat.lt_or_ge j (zlen.getD w 0) with q | q
    · exact ((lw j hj).1 q).2.2
    · rw [(lw j hj).2 q]; omega
  have key : (e ≤ a + 8 ∧ ∀ j, j < 8 → (if e ≤ a + j then tx_w w j = 0 else T (a + j) = tx_w w j)) ↔ tx_isw w T a e = true := by
    unfold tx_isw
    simp only [Bool.and_eq_true, decide_eq_true_eq]
    constructor
    · intro ⟨x1, x2⟩
      have el : e - a = zlen.getD w 0 := by
        rcases Nat.lt_trichotomy (e - a) (zlen.getD w 0) with q | q | q
        · exfalso
          have := x2 (e - a) (by omega)
          rw [if_pos (by omega)] at this
          exact ((lw (e - a) (by omega)).1 q).2.1 this
        · exact q
        · exfalso
          have := x2 (zlen.getD w 0) (by omega)
          rw [if_neg (by omega), (lw _ (by omega)).2 (Nat.le_refl _)] at this
          have tl := t5 (a + zlen.getD w 0) (by omega) (by omega)
          rw [this] at tl
          exact absurd tl (by decide)
      refine ⟨el, fun j hj => ?_⟩
      have := x2 j (by omega)
      rw [if_neg (by omega)] at this
      rw [((lw j (by omega)).1 hj).1, this]
    · intro ⟨x1, x2⟩
      refine ⟨by omega, fun j hj => ?_⟩
      rcases Nat.lt_or_ge j (zlen.getD w 0) with q | q
      · rw [if_neg (by omega)]
        have y := x2 j q
        rw [((lw j hj).1 q).1] at y
        have hb := ho.2.2 (a + j) (by omega)
        exact (nI_eq (by omega) (by have := lb j hj; omega)).mp y
      · rw [if_pos (by omega)]; exact (lw j hj).2 q
  have i0 : ∀ R : Int32 → zSt → Prop, wX8_isLetter 0 (nI (tx_w w 0)) σ R = R (if (if e ≤ a + 0 then tx_w w 0 = 0 else T (a + 0) = tx_w w 0) then 1 else 0) σ := fun R => p8_isLetter ho hB h2 h3 t3 t2 (j := 0) (l := tx_w w 0) (by omega) (lb 0 (by omega)) R
  have i1 : ∀ R : Int32 → zSt → Prop, wX8_isLetter 1 (nI (tx_w w 1)) σ R = R (if (if e ≤ a + 1 then tx_w w 1 = 0 else T (a + 1) = tx_w w 1) then 1 else 0) σ := fun R => p8_isLetter ho hB h2 h3 t3 t2 (j := 1) (l := tx_w w 1) (by omega) (lb 1 (by omega)) R
  have i2 : ∀ R : Int32 → zSt → Prop, wX8_isLetter 2 (nI (tx_w w 2)) σ R = R (if (if e ≤ a + 2 then tx_w w 2 = 0 else T (a + 2) = tx_w w 2) then 1 else 0) σ := fun R => p8_isLetter ho hB h2 h3 t3 t2 (j := 2) (l := tx_w w 2) (by omega) (lb 2 (by omega)) R
  have i3 : ∀ R : Int32 → zSt → Prop, wX8_isLetter 3 (nI (tx_w w 3)) σ R = R (if (if e ≤ a + 3 then tx_w w 3 = 0 else T (a + 3) = tx_w w 3) then 1 else 0) σ := fun R => p8_isLetter ho hB h2 h3 t3 t2 (j := 3) (l := tx_w w 3) (by omega) (lb 3 (by omega)) R
  have i4 : ∀ R : Int32 → zSt → Prop, wX8_isLetter 4 (nI (tx_w w 4)) σ R = R (if (if e ≤ a + 4 then tx_w w 4 = 0 else T (a + 4) = tx_w w 4) then 1 else 0) σ := fun R => p8_isLetter ho hB h2 h3 t3 t2 (j := 4) (l := tx_w w 4) (by omega) (lb 4 (by omega)) R
  have i5 : ∀ R : Int32 → zSt → Prop, wX8_isLetter 5 (nI (tx_w w 5)) σ R = R (if (if e ≤ a + 5 then tx_w w 5 = 0 else T (a + 5) = tx_w w 5) then 1 else 0) σ := fun R => p8_isLetter ho hB h2 h3 t3 t2 (j := 5) (l := tx_w w 5) (by omega) (lb 5 (by omega)) R
  have i6 : ∀ R : Int32 → zSt → Prop, wX8_isLetter 6 (nI (tx_w w 6)) σ R = R (if (if e ≤ a + 6 then tx_w w 6 = 0 else T (a + 6) = tx_w w 6) then 1 else 0) σ := fun R => p8_isLetter ho hB h2 h3 t3 t2 (j := 6) (l := tx_w w 6) (by omega) (lb 6 (by omega)) R
  have i7 : ∀ R : Int32 → zSt → Prop, wX8_isLetter 7 (nI (tx_w w 7)) σ R = R (if (if e ≤ a + 7 then tx_w w 7 = 0 else T (a + 7) = tx_w w 7) then 1 else 0) σ := fun R => p8_isLetter ho hB h2 h3 t3 t2 (j := 7) (l := tx_w w 7) (by omega) (lb 7 (by omega)) R
  rw [h2, h3, show nI a + 8 = nI (a + 8) from nI_add a 8]
  by_cases c8 : e ≤ a + 8
  rotate_left
  · rw [if_pos (show nI (a + 8) < nI e from nI_lt (by omega) (by omega)), if_neg (fun z => c8 (key.mpr z.2).1)]
  rw [if_neg (show ¬ nI (a + 8) < nI e from nI_nlt c8 (by omega))]
  rw [i0]
  by_cases d0 : (if e ≤ a + 0 then tx_w w 0 = 0 else T (a + 0) = tx_w w 0)
  rotate_left
  · rw [if_neg d0, if_pos rfl, if_neg (fun z => d0 ((key.mpr z.2).2 0 (by omega)))]
  rw [if_pos d0, if_neg (by decide)]
  rw [i1]
  by_cases d1 : (if e ≤ a + 1 then tx_w w 1 = 0 else T (a + 1) = tx_w w 1)
  rotate_left
  · rw [if_neg d1, if_pos rfl, if_neg (fun z => d1 ((key.mpr z.2).2 1 (by omega)))]
  rw [if_pos d1, if_neg (by decide)]
  rw [i2]
  by_cases d2 : (if e ≤ a + 2 then tx_w w 2 = 0 else T (a + 2) = tx_w w 2)
  rotate_left
  · rw [if_neg d2, if_pos rfl, if_neg (fun z => d2 ((key.mpr z.2).2 2 (by omega)))]
  rw [if_pos d2, if_neg (by decide)]
  rw [i3]
  by_cases d3 : (if e ≤ a + 3 then tx_w w 3 = 0 else T (a + 3) = tx_w w 3)
  rotate_left
  · rw [if_neg d3, if_pos rfl, if_neg (fun z => d3 ((key.mpr z.2).2 3 (by omega)))]
  rw [if_pos d3, if_neg (by decide)]
  rw [i4]
  by_cases d4 : (if e ≤ a + 4 then tx_w w 4 = 0 else T (a + 4) = tx_w w 4)
  rotate_left
  · rw [if_neg d4, if_pos rfl, if_neg (fun z => d4 ((key.mpr z.2).2 4 (by omega)))]
  rw [if_pos d4, if_neg (by decide)]
  rw [i5]
  by_cases d5 : (if e ≤ a + 5 then tx_w w 5 = 0 else T (a + 5) = tx_w w 5)
  rotate_left
  · rw [if_neg d5, if_pos rfl, if_neg (fun z => d5 ((key.mpr z.2).2 5 (by omega)))]
  rw [if_pos d5, if_neg (by decide)]
  rw [i6]
  by_cases d6 : (if e ≤ a + 6 then tx_w w 6 = 0 else T (a + 6) = tx_w w 6)
  rotate_left
  · rw [if_neg d6, if_pos rfl, if_neg (fun z => d6 ((key.mpr z.2).2 6 (by omega)))]
  rw [if_pos d6, if_neg (by decide)]
  rw [i7]
  by_cases d7 : (if e ≤ a + 7 then tx_w w 7 = 0 else T (a + 7) = tx_w w 7)
  rotate_left
  · rw [if_neg d7, if_pos rfl, if_neg (fun z => d7 ((key.mpr z.2).2 7 (by omega)))]
  rw [if_pos d7, if_neg (by decide)]
  rw [if_pos ⟨c, key.mp ⟨c8, fun j hj => by
    rcases (show j = 0 ∨ j = 1 ∨ j = 2 ∨ j = 3 ∨ j = 4 ∨ j = 5 ∨ j = 6 ∨ j = 7 by omega) with rfl | rfl | rfl | rfl | rfl | rfl | rfl | rfl
    · exact d0
    · exact d1
    · exact d2
    · exact d3
    · exact d4
    · exact d5
    · exact d6
    · exact d7⟩⟩]
/-! one state of the model's reading -/
def tm_R (i n : Nat) (T : Nat → Nat) (names : Nat → Int32) (lev k : Nat) (σ : zSt) : Prop := tm_B i n T names σ ∧ tm_T n T k σ ∧ σ.1 0 30 = nI lev
def tm_F (n : Nat) (T : Nat → Nat) (k : Nat) (σ : zSt) : Prop := σ.1 0 31 = 1 ∧ σ.1 0 32 = nI (tx_tk T n k).2.1
theorem zmx.tr {σ σ' σ'' : zSt} (e : zmx σ σ') (f : zmx σ' σ'') : zmx σ σ'' := ⟨fun o ho => (f.1 o ho).trans (e.1 o ho), fun j hj => (f.2 j hj).trans (e.2 j hj)⟩
theorem zmx.rf (σ : zSt) : zmx σ σ := ⟨fun _ _ => rfl, fun _ _ => rfl⟩
theorem zmx.put (σ : zSt) {j : Nat} (v : Int32) (h : 24 ≤ j ∧ j < 33) : zmx σ (zput σ 0 j v) := ⟨fun o ho => zput_ne ho, fun j' hj => by rw [zput_at, if_neg (by omega)]⟩
theorem p8_nx {i n : Nat} {T : Nat → Nat} {names : Nat → Int32} (ho : tm_ok i n T) {lev k : Nat} {σ : zSt} (h : tm_R i n T names lev k σ) (hk : 2 ≤ tx_kd T n k) (Q : zSt → Prop) (hQ : ∀ σ', tm_R i n T names lev (k + 1) σ' → zmx σ σ' → Q σ') : wX8_next σ Q := by
  refine p8_next ho h.1 (k := k + 1) (h.2.1.2.2.1 (tx_kd_4 hk)) Q (fun σ' e t => hQ σ' ⟨tm_n_B e.1 e.2 h.1, t, ?_⟩ ⟨e.1, fun j hj => e.2 j (by omega) (by omega) (by omega)⟩)
  rw [e.2 30 (by decide) (by decide) (by decide)]
  exact h.2.2
theorem p8_fl {i n : Nat} {T : Nat → Nat} {names : Nat → Int32} {lev k : Nat} {σ : zSt} (h : tm_R i n T names lev k σ) (Q : zSt → Prop) (hQ : ∀ σ', tm_F n T k σ' → zmx σ σ' → Q σ') : wX8_fail σ Q := by
  unfold wX8_fail
  rw [h.1.2.2.2.2, if_pos rfl, forall_eq, forall_eq]
  refine hQ _ ⟨by rw [zput_at, if_neg (by decide), zput_at, if_pos ⟨rfl, rfl⟩], ?_⟩ ((zmx.put σ 1 (by omega)).tr (zmx.put _ _ (by omega)))
  rw [zput_at, if_pos ⟨rfl, rfl⟩, zput_at, if_neg (by decide)]
  exact h.2.1.2.1
theorem p8_sg {i n : Nat} {T : Nat → Nat} {names : Nat → Int32} (ho : tm_ok i n T) {lev k : Nat} {σ : zSt} (h : tm_R i n T names lev k σ) (s : Nat) (hs : 40 ≤ s ∧ s < 256) (Q : Int32 → zSt → Prop) : wX8_isSign (nI s) σ Q = Q (if tx_kd T n k = s then 1 else 0) σ := p8_isSign ho h.1 h.2.1 hs Q
theorem p8_wd {i n : Nat} {T : Nat → Nat} {names : Nat → Int32} (ho : tm_ok i n T) {lev k : Nat} {σ : zSt} (h : tm_R i n T names lev k σ) {w : Nat} (hw : 7 ≤ w ∧ w < 13) (Q : Int32 → zSt → Prop) : wX8_isWord (nI (tx_w w 0)) (nI (tx_w w 1)) (nI (tx_w w 2)) (nI (tx_w w 3)) (nI (tx_w w 4)) (nI (tx_w w 5)) (nI (tx_w w 6)) (nI (tx_w w 7)) σ Q = Q (if tx_kd T n k = w - 3 then 1 else 0) σ := by
  rw [p8_isWord ho h.1 h.2.1 hw.2 (by omega)]
  have e := tx_kd_w (T := T) (n := n) (k := k) ho.2.1 hw
  by_cases c : tx_kd T n k = w - 3
  · rw [if_pos c, if_pos (e.mp c)]
  · rw [if_neg c, if_neg (fun z => c (e.mpr z))]
/-- a name -/
theorem p8_nm {i n : Nat} {T : Nat → Nat} {names : Nat → Int32} (ho : tm_ok i n T) {lev k : Nat} {σ : zSt} (h : tm_R i n T names lev k σ) (h1 : (tx_tk T n k).1 = 1) (Q : Int32 → zSt → Prop) : (tx_kd T n k = 3 → ∃ j, j < 6 ∧ tx_vl T n k = nI j ∧ wX8_name σ Q = Q (names j) σ) ∧ (tx_kd T n k ≠ 3 → wX8_name σ Q = wX8_fail σ (fun σ' => Q 0 σ')) := by
  have nm := h.1.2.2.2.1
  have ev : tx_vl T n k = tx_nm T (tx_tk T n k).2.1 (tx_tk T n k).2.2 := by unfold tx_vl tx_vlt; rw [if_pos h1]
  have ek := tx_kd_nm (T := T) (n := n) (k := k) ho.2.1
  have q1 : ∀ R : Int32 → zSt → Prop, wX8_isWord 119 97 105 116 101 100 0 0 σ R = _ := fun R => p8_isWord ho h.1 h.2.1 (w := 1) (by omega) (by omega) R
  have q2 : ∀ R : Int32 → zSt → Prop, wX8_isWord 112 114 105 99 101 0 0 0 σ R = _ := fun R => p8_isWord ho h.1 h.2.1 (w := 2) (by omega) (by omega) R
  have q3 : ∀ R : Int32 → zSt → Prop, wX8_isWord 109 105 110 117 116 101 0 0 σ R = _ := fun R => p8_isWord ho h.1 h.2.1 (w := 3) (by omega) (by omega) R
  have q4 : ∀ R : Int32 → zSt → Prop, wX8_isWord 98 114 105 100 103 101 0 0 σ R = _ := fun R => p8_isWord ho h.1 h.2.1 (w := 4) (by omega) (by omega) R
  have q5 : ∀ R : Int32 → zSt → Prop, wX8_isWord 119 97 115 0 0 0 0 0 σ R = _ := fun R => p8_isWord ho h.1 h.2.1 (w := 5) (by omega) (by omega) R
  have q6 : ∀ R : Int32 → zSt → Prop, wX8_isWord 109 97 110 121 0 0 0 0 σ R = _ := fun R => p8_isWord ho h.1 h.2.1 (w := 6) (by omega) (by omega) R
  simp only [h1, true_and] at q1 q2 q3 q4 q5 q6 ek
  rw [ev]
  unfold wX8_name
  rw [q1]
  generalize (tx_tk T n k).2.1 = a at *
  generalize (tx_tk T n k).2.2 = e at *
  unfold tx_nm at ek ⊢
  have t0 : (0 : Int32) = 0 := rfl
  have t1 : ¬ (1 : Int32) = 0 := by decide
  by_cases d0 : tx_isw 1 T a e = true
  · simp only [if_pos d0, if_neg t1, if_true] at ek ⊢
    refine ⟨fun _ => ⟨0, by omega, rfl, ?_⟩, fun z => absurd (ek.mpr (by decide)) z⟩
    rw [nm 0 (by omega)]
  simp only [if_neg d0, if_true, q2] at ek ⊢
  by_cases d1 : tx_isw 2 T a e = true
  · simp only [if_pos d1, if_neg t1, if_true] at ek ⊢
    refine ⟨fun _ => ⟨1, by omega, rfl, ?_⟩, fun z => absurd (ek.mpr (by decide)) z⟩
    rw [nm 1 (by omega)]
  simp only [if_neg d1, if_true, q3] at ek ⊢
  by_cases d2 : tx_isw 3 T a e = true
  · simp only [if_pos d2, if_neg t1, if_true] at ek ⊢
    refine ⟨fun _ => ⟨2, by omega, rfl, ?_⟩, fun z => absurd (ek.mpr (by decide)) z⟩
    rw [nm 2 (by omega)]
  simp only [if_neg d2, if_true, q4] at ek ⊢
  by_cases d3 : tx_isw 4 T a e = true
  · simp only [if_pos d3, if_neg t1, if_true] at ek ⊢
    refine ⟨fun _ => ⟨3, by omega, rfl, ?_⟩, fun z => absurd (ek.mpr (by decide)) z⟩
    rw [nm 3 (by omega)]
  simp only [if_neg d3, if_true, q5] at ek ⊢
  by_cases d4 : tx_isw 5 T a e = true
  · simp only [if_pos d4, if_neg t1, if_true] at ek ⊢
    refine ⟨fun _ => ⟨4, by omega, rfl, ?_⟩, fun z => absurd (ek.mpr (by decide)) z⟩
    rw [nm 4 (by omega)]
  simp only [if_neg d4, if_true, q6] at ek ⊢
  by_cases d5 : tx_isw 6 T a e = true
  · simp only [if_pos d5, if_neg t1, if_true] at ek ⊢
    refine ⟨fun _ => ⟨5, by omega, rfl, ?_⟩, fun z => absurd (ek.mpr (by decide)) z⟩
    rw [nm 5 (by omega)]
  simp only [if_neg d5, if_true] at ek ⊢
  exact ⟨fun z => absurd trivial (ek.mp z), fun _ => trivial⟩
