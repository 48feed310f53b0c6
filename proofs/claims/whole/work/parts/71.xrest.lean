/-! fourth, late -/
def zf4 (D : zD) (C : zCo) (b : Nat) : Nat → Int32
  | 0 => 0
  | k + 1 => if zPr D (4 + k) = true ∧ D 1 (4 + k) = b then zf4 D C b k + (nI (zcost D C (4 + k) (zthr D (D 0) (4 + k))) - nI (zcost D C (4 + k) (D 2 (4 + k)))) else zf4 D C b k
def s_fourth (A : zA) (b : Int32) : Int32 × zA := ((if zr b 3 = true then zf4 A.1 A.2.2.2.1.2 b.toNatClampNeg 4 else -2), A)
theorem x_fourth_L {b : Nat} (hb : b < 3) (Q K : Int32 → zSt → Prop) : ∀ (k i n : Nat) (A : zA) (σ : zSt), RX A σ → i + k = 4 → k < n → (∀ σ', RX A σ' → K (zf4 A.1 A.2.2.2.1.2 b 4) σ') → wX7_fourth_L14 Q K (nI b) n (zf4 A.1 A.2.2.2.1.2 b i) (nI (4 + i)) σ := by
  intro k
  induction k with
  | zero =>
    intro i n A σ h hi hn hK
    obtain ⟨n, rfl⟩ : ∃ n', n = n' + 1 := ⟨n - 1, by omega⟩
    have : i = 4 := by omega
    subst this
    rw [wX7_fourth_L14, if_pos (by decide)]
    exact hK σ h
  | succ k ih =>
    intro i n A σ h hi hn hK
    obtain ⟨n, rfl⟩ : ∃ n', n = n' + 1 := ⟨n - 1, by omega⟩
    have hi8 : 4 + i < 8 := by omega
    rw [wX7_fourth_L14, if_neg (show ¬ (8 : Int32) ≤ nI (4 + i) from nI_ge (b := 8) hi8 (by omega)), p1_isThere h.2.1 h.1.1 hi8]
    have e1 : nI (4 + i) + 1 = nI (4 + (i + 1)) := nI_1 _
    have hv : vp_in (nI (4 + i)) 8 := zin' hi8 (by omega)
    have g := h.2.1.2.1 (4 + i) hi8
    have hb1 := (h.1.1.2.1 (4 + i) hi8).1
    by_cases c : zPr A.1 (4 + i) = true
    · rw [if_pos c, if_neg (by decide), zcl (by omega), show σ.1 4 (4 + i) = _ from g.1]
      refine ⟨hv, ?_⟩
      by_cases c2 : A.1 1 (4 + i) = b
      · rw [if_pos (by rw [c2]), p1_through_2 h.2.1 h.1.1 h.row hi8]
        obtain ⟨t1, t2, t3⟩ := zthr_b h (A.1 0) hi8
        refine x_ofOne h hi8 t1 _ (fun σ1 h1 s1 => ?_)
        refine ⟨hv, ?_⟩
        simp only [forall_eq]
        rw [show σ1.1 5 (4 + i) = _ from (h1.2.1.2.1 (4 + i) hi8).2.1]
        refine x_ofOne h1 hi8 (by omega) _ (fun σ2 h2 s2 => ?_)
        rw [e1]
        have := ih (i + 1) n A σ2 h2 (by omega) (by omega) hK
        rw [zf4, if_pos ⟨c, c2⟩] at this
        exact this
      · rw [if_neg (fun z => c2 ((nI_eq (by omega) (by omega)).mp z))]
        simp only [forall_eq, e1]
        have := ih (i + 1) n A σ h (by omega) (by omega) hK
        rw [zf4, if_neg (fun z => c2 z.2)] at this
        exact this
    · rw [if_neg c, if_pos rfl]
      simp only [forall_eq, e1]
      have := ih (i + 1) n A σ h (by omega) (by omega) hK
      rw [zf4, if_neg (fun z => c z.1)] at this
      exact this
theorem x_fourth {A : zA} {σ : zSt} (h : RX A σ) (b : Int32) (Q : Int32 → zSt → Prop) (hQ : ∀ σ', RX (s_fourth A b).2 σ' → Q (s_fourth A b).1 σ') : wX7_fourth b σ Q := by
  unfold wX7_fourth
  unfold s_fourth at hQ
  dsimp only at hQ
  rw [p7_isBridge]
  by_cases c : zr b 3 = true
  · rw [if_pos c] at hQ ⊢
    rw [if_neg (by decide)]
    obtain ⟨b, hb, rfl⟩ := zr_of (by omega) c
    rw [zcl (by omega)] at hQ
    exact x_fourth_L hb Q _ 4 0 300 A σ h (by omega) (by omega) (fun σ' h1 => hQ σ' h1)
  · rw [if_neg c] at hQ ⊢
    rw [if_pos rfl]; exact hQ σ h
def zlt8 (D : zD) (n : Nat) : Nat → Int32
  | 0 => 0
  | k + 1 => if zPr D k = true ∧ n < zthr D (D 0) k - D 2 k then zlt8 D n k ||| (1 <<< (nI k &&& 31)) else zlt8 D n k
def s_late (A : zA) (n : Int32) : Int32 × zA := ((if zr n 25 = true then zlt8 A.1 n.toNatClampNeg 8 else -2), A)
theorem x_late_L {A : zA} {σ : zSt} (h : RX A σ) {x : Nat} (hx : x ≤ 24) (Q K : Int32 → zSt → Prop) : ∀ (k i n : Nat), i + k = 8 → k < n → wX7_late_L17 Q K (nI x) n (zlt8 A.1 x i) (nI i) σ = K (zlt8 A.1 x 8) σ := by
  intro k
  induction k with
  | zero =>
    intro i n hi hn
    obtain ⟨n, rfl⟩ : ∃ n', n = n' + 1 := ⟨n - 1, by omega⟩
    have : i = 8 := by omega
    subst this
    rw [wX7_late_L17, if_pos (by decide)]
  | succ k ih =>
    intro i n hi hn
    obtain ⟨n, rfl⟩ : ∃ n', n = n' + 1 := ⟨n - 1, by omega⟩
    have hi8 : i < 8 := by omega
    have e1 : nI i + 1 = nI (i + 1) := nI_1 _
    have hv : vp_in (nI i) 8 := zin' hi8 (by omega)
    have g := h.2.1.2.1 i hi8
    obtain ⟨t1, t2, t3⟩ := zthr_b h (A.1 0) hi8
    rw [wX7_late_L17, if_neg (show ¬ (8 : Int32) ≤ nI i from nI_ge (b := 8) hi8 (by omega)), p1_isThere h.2.1 h.1.1 hi8]
    have := ih (i + 1) n (by omega) (by omega)
    by_cases c : zPr A.1 i = true
    · rw [if_pos c, if_neg (by decide), p1_through_2 h.2.1 h.1.1 h.row hi8, zcl (by omega), show σ.1 5 i = _ from g.2.1, pk_sub t2]
      simp only [hv, true_and, forall_eq, e1]
      by_cases c2 : x < zthr A.1 (A.1 0) i - A.1 2 i
      · rw [if_neg (show ¬ nI (zthr A.1 (A.1 0) i - A.1 2 i) ≤ nI x from nI_ge c2 (by omega))]
        rw [zlt8, if_pos ⟨c, c2⟩] at this
        exact this
      · rw [if_pos (show nI (zthr A.1 (A.1 0) i - A.1 2 i) ≤ nI x from nI_le (by omega) (by omega))]
        rw [zlt8, if_neg (fun z => c2 z.2)] at this
        exact this
    · rw [if_neg c, if_pos rfl]
      simp only [forall_eq, e1]
      rw [zlt8, if_neg (fun z => c z.1)] at this
      exact this
theorem x_late {A : zA} {σ : zSt} (h : RX A σ) (n : Int32) (Q : Int32 → zSt → Prop) (hQ : ∀ σ', RX (s_late A n).2 σ' → Q (s_late A n).1 σ') : wX7_late n σ Q := by
  have hq := hQ σ h
  unfold wX7_late
  unfold s_late at hq
  dsimp only at hq
  by_cases c : zr n 25 = true
  · rw [if_pos c] at hq
    obtain ⟨n, hn, rfl⟩ := zr_of (by omega) c
    rw [zcl (by omega)] at hq
    rw [if_neg (nI_pos (by omega)), if_pos (show nI n ≤ (24 : Int32) from nI_le (b := 24) (by omega) (by omega))]
    have := x_late_L h (x := n) (by omega) Q (fun v s => Q v s) 8 0 300 (by omega) (by omega)
    rw [show zlt8 A.1 n 0 = 0 from rfl, nI_0] at this
    rw [this]; exact hq
  · rw [if_neg c] at hq
    by_cases q : n < 0
    · rw [if_pos q]; exact hq
    · rw [if_neg q, if_neg]
      · exact hq
      · intro z
        rcases zr_neg c with y | y
        · exact q y
        · rw [Int32.le_iff_toInt_le, nI_toInt (by omega)] at y
          rw [Int32.le_iff_toInt_le, show (24 : Int32).toInt = 24 from by decide] at z
          omega
/-! one cart's way -/
def zfd (row : Nat → Nat) (b : Nat) : Nat → Nat → Nat
  | 0, _ => 24
  | k + 1, m => if 24 ≤ m then 24 else if row m = b then zfd row b k (m + 1) else m
def zdist (a b : Nat) : Nat := if a ≤ b then b - a else a - b
def zwy (D : zD) (i : Nat) : Nat → Nat × Int32
  | 0 => (24, -1)
  | b + 1 => let m := zfd (D 0) b 25 (D 2 i + D 6 4 * zdist b (D 1 i)); if m < (zwy D i b).1 then (m, nI b) else zwy D i b
theorem zfd_le (row : Nat → Nat) (b : Nat) : ∀ k m, zfd row b k m ≤ 24 := by
  intro k
  induction k with
  | zero => intro m; simp [zfd]
  | succ k ih =>
    intro m
    rw [zfd]
    by_cases c : 24 ≤ m
    · rw [if_pos c]; omega
    · rw [if_neg c]
      by_cases c2 : row m = b
      · rw [if_pos c2]; exact ih (m + 1)
      · rw [if_neg c2]; omega
def s_way (A : zA) (o w : Int32) : Int32 × zA := ((if zr o (A.1 6 1) = true ∧ zr w 2 = true then (let q := zwy A.1 (4 + o.toNatClampNeg) 3; if q.2 = -1 then -1 else if w = 0 then nI q.1 else q.2) else -2), A)
theorem p7_fd_L {A : zA} {σ : zSt} (h : RX A σ) {b : Nat} (hb : b < 3) (Q : Int32 → zSt → Prop) : ∀ (k m n : Nat), m < 1000 → 24 < m + k → 24 < m + n → 0 < n → wX7_firstDown_L6 Q (fun v s => Q v s) (fun s => Q 24 s) (nI b) n (nI m) σ = Q (nI (zfd (A.1 0) b k m)) σ := by
  intro k
  induction k with
  | zero =>
    intro m n h1 h2 h3 h4
    rw [zfd]
    cases n with
    | zero => omega
    | succ n => rw [wX7_firstDown_L6, if_pos (show (24 : Int32) ≤ nI m from nI_le (a := 24) (by omega) (by omega))]; rfl
  | succ k ih =>
    intro m n h1 h2 h3 h4
    rw [zfd]
    by_cases c : 24 ≤ m
    · rw [if_pos c]
      obtain ⟨n, rfl⟩ | rfl : (∃ n', n = n' + 1) ∨ n = 0 := by
        cases n with
        | zero => exact Or.inr rfl
        | succ n => exact Or.inl ⟨n, rfl⟩
      · rw [wX7_firstDown_L6, if_pos (show (24 : Int32) ≤ nI m from nI_le (a := 24) (by omega) (by omega))]; rfl
      · omega
    · obtain ⟨n, rfl⟩ : ∃ n', n = n' + 1 := ⟨n - 1, by omega⟩
      rw [if_neg c, wX7_firstDown_L6, if_neg (show ¬ (24 : Int32) ≤ nI m from nI_ge (b := 24) (by omega) (by omega)), zcl (by omega), (h.row m (by omega)).1]
      have hv : vp_in (nI m) 24 := zin' (by omega) (by omega)
      have hr := (h.row m (by omega)).2
      have e1 : nI m + 1 = nI (m + 1) := nI_1 _
      simp only [hv, true_and, forall_eq, e1]
      by_cases c2 : A.1 0 m = b
      · rw [if_pos (by rw [c2]), if_pos c2]
        exact ih (m + 1) n (by omega) (by omega) (by omega) (by omega)
      · rw [if_neg (fun z => c2 ((nI_eq (by omega) (by omega)).mp z)), if_neg c2]
theorem p7_fd {A : zA} {σ : zSt} (h : RX A σ) {b : Nat} (hb : b < 3) {m : Nat} (hm : m < 1000) (Q : Int32 → zSt → Prop) : wX7_firstDown (nI b) (nI m) σ Q = Q (nI (zfd (A.1 0) b 25 m)) σ := by
  unfold wX7_firstDown
  simp only [forall_eq]
  rw [if_neg (nI_pos (by omega))]
  exact p7_fd_L h hb Q 25 m 300 hm (by omega) (by omega) (by omega)
theorem zwy_le (D : zD) (i : Nat) : ∀ b, (zwy D i b).1 ≤ 24 := by
  intro b
  induction b with
  | zero => simp [zwy]
  | succ b ih =>
    rw [zwy]
    try dsimp only
    by_cases c : zfd (D 0) b 25 (D 2 i + D 6 4 * zdist b (D 1 i)) < (zwy D i b).1
    · rw [if_pos c]; exact zfd_le _ _ _ _
    · rw [if_neg c]; exact ih
theorem x_way_L {A : zA} {σ : zSt} (h : RX A σ) {i : Nat} (hi : i < 8) (x2 : Int32) (Q : Int32 → zSt → Prop) (K : Int32 → Int32 → zSt → Prop) : ∀ (k b n : Nat), b + k = 3 → k < n → wX7_way_L35 Q K x2 (nI i) n (nI (zwy A.1 i b).1) (zwy A.1 i b).2 (nI b) σ = K (nI (zwy A.1 i 3).1) (zwy A.1 i 3).2 σ := by
  intro k
  induction k with
  | zero =>
    intro b n h1 h2
    obtain ⟨n, rfl⟩ : ∃ n', n = n' + 1 := ⟨n - 1, by omega⟩
    have : b = 3 := by omega
    subst this
    rw [wX7_way_L35, if_pos (by decide)]
  | succ k ih =>
    intro b n h1 h2
    obtain ⟨n, rfl⟩ : ∃ n', n = n' + 1 := ⟨n - 1, by omega⟩
    have g := h.2.1.2.1 i hi
    have ok := h.1.1.2.1 i hi
    have ow := h.1.1.2.2.2.2.2.2.2.1
    have hv : vp_in (nI i) 8 := zin' hi (by omega)
    rw [wX7_way_L35, if_neg (show ¬ (3 : Int32) ≤ nI b from nI_ge (b := 3) (by omega) (by omega)), zcl (by omega), show σ.1 5 i = _ from g.2.1, show σ.1 4 i = _ from g.1, show σ.1 1 9 = nI (A.1 6 4) from h.2.1.2.2.2.2.2.2.2.1]
    simp only [hv, true_and, forall_eq]
    have ed : (if (0 : Int32) ≤ nI b - nI (A.1 1 i) then nI b - nI (A.1 1 i) else 0 - (nI b - nI (A.1 1 i))) = nI (zdist b (A.1 1 i)) := by
      have hb3 : b < 3 := by omega
      have hc3 := ok.1
      generalize A.1 1 i = c at hc3
      rcases (show b = 0 ∨ b = 1 ∨ b = 2 by omega) with rfl | rfl | rfl <;> rcases (show c = 0 ∨ c = 1 ∨ c = 2 by omega) with rfl | rfl | rfl <;> decide
    have hd2 : zdist b (A.1 1 i) ≤ 2 := by unfold zdist; split <;> omega
    rw [ed, pk_mul, nI_add]
    have hmul : A.1 6 4 * zdist b (A.1 1 i) ≤ 18 := Nat.le_trans (Nat.mul_le_mul ow.2 hd2) (by omega)
    rw [p7_fd h (by omega) (by omega)]
    have e1 : nI b + 1 = nI (b + 1) := nI_1 _
    have hf := zfd_le (A.1 0) b 25 (A.1 2 i + A.1 6 4 * zdist b (A.1 1 i))
    have hz := zwy_le A.1 i b
    have := ih (b + 1) n (by omega) (by omega)
    rw [zwy] at this
    try dsimp only at this
    rw [e1]
    by_cases c : zfd (A.1 0) b 25 (A.1 2 i + A.1 6 4 * zdist b (A.1 1 i)) < (zwy A.1 i b).1
    · rw [if_pos c] at this
      rw [if_neg (show ¬ nI (zwy A.1 i b).1 ≤ nI (zfd (A.1 0) b 25 (A.1 2 i + A.1 6 4 * zdist b (A.1 1 i))) from nI_ge c (by omega))]
      exact this
    · rw [if_neg c] at this
      rw [if_pos (show nI (zwy A.1 i b).1 ≤ nI (zfd (A.1 0) b 25 (A.1 2 i + A.1 6 4 * zdist b (A.1 1 i))) from nI_le (by omega) (by omega))]
      exact this
theorem x_way {A : zA} {σ : zSt} (h : RX A σ) (o w : Int32) (Q : Int32 → zSt → Prop) (hQ : ∀ σ', RX (s_way A o w).2 σ' → Q (s_way A o w).1 σ') : wX7_way o w σ Q := by
  have hq := hQ σ h
  unfold wX7_way
  unfold s_way at hq
  dsimp only at hq
  rw [p7_isOne 1 σ _ h.2.1 h.1.1 o]
  have e1 : (1 : Int32).toNatClampNeg = 1 := by decide
  rw [e1]
  by_cases c1 : zr o (A.1 6 1) = true
  rotate_left
  · have c1' : ¬ (zr 1 2 = true ∧ zr o (A.1 6 1) = true) := fun z => c1 z.2
    rw [if_neg (fun z => c1 z.1)] at hq
    rw [if_neg c1', if_pos rfl]; exact hq
  have c1' : zr 1 2 = true ∧ zr o (A.1 6 1) = true := ⟨by decide, c1⟩
  rw [if_pos c1', if_neg (by decide)]
  by_cases c2 : zr w 2 = true
  rotate_left
  · rw [if_neg (fun z => c2 z.2)] at hq
    by_cases q : w < 0
    · rw [if_pos q]; exact hq
    · rw [if_neg q, if_neg]
      · exact hq
      · intro z
        rcases zr_neg c2 with y | y
        · exact q y
        · rw [Int32.le_iff_toInt_le, nI_toInt (by omega)] at y
          rw [Int32.le_iff_toInt_le, show (1 : Int32).toInt = 1 from by decide] at z
          omega
  rw [if_pos ⟨c1, c2⟩] at hq
  obtain ⟨k, hk, rfl⟩ := zr_of (by omega) c2
  have h4 := h.1.1.2.2.2.2.1
  obtain ⟨i, hi, rfl⟩ := zr_of (by omega) c1
  rw [zcl (by omega)] at hq
  rw [if_neg (nI_pos (by omega)), if_pos (show nI k ≤ (1 : Int32) from nI_le (b := 1) (by omega) (by omega))]
  have e4 : 4 + nI i = nI (4 + i) := by simp only [kk, zc]
  simp only [forall_eq, e4]
  have := x_way_L h (i := 4 + i) (by omega) (nI k) Q (fun v109 v110 σ111 => if v110 = (-1) then (Q (-1) σ111) else (if nI k = 0 then (Q v109 σ111) else (Q v110 σ111))) 3 0 300 (by omega) (by omega)
  rw [show nI (zwy A.1 (4 + i) 0).1 = 24 from rfl, show (zwy A.1 (4 + i) 0).2 = -1 from rfl, nI_0] at this
  rw [this]
  by_cases q1 : (zwy A.1 (4 + i) 3).2 = -1
  · rw [if_pos q1] at hq ⊢; exact hq
  · rw [if_neg q1] at hq ⊢
    by_cases q2 : nI k = 0
    · rw [if_pos q2] at hq ⊢; exact hq
    · rw [if_neg q2] at hq ⊢; exact hq
/-! whose minute it was -/
def zset (row : Nat → Nat) (m b : Nat) : Nat → Nat := fun k => if k = m then b else row k
def zblS (D : zD) (C : zCo) (m : Nat) : Nat → (Nat × Option (Nat × Nat)) → Nat × Option (Nat × Nat)
  | 0, q => q
  | b + 1, q => let p := zblS D C m b q; if b = D 0 m then p else if zrowc D C (zset (D 0) m b) < p.1 then (zrowc D C (zset (D 0) m b), some (m, b)) else p
def zbl (D : zD) (C : zCo) : Nat → Nat × Option (Nat × Nat)
  | 0 => (zrowc D C (D 0), none)
  | m + 1 => zblS D C m 3 (zbl D C m)
def s_blame (A : zA) (w : Int32) : Int32 × zA := ((if zr w 3 = true then (match (zbl A.1 A.2.2.2.1.2 24).2 with
    | none => -1
    | some q => if w = 0 then nI q.1 else if w = 1 then nI q.2 else nI (zbl A.1 A.2.2.2.1.2 24).1) else -2), A)
def zfm (q : Option (Nat × Nat)) : Int32 := match q with | none => -1 | some p => nI p.1
def zfb (q : Option (Nat × Nat)) : Int32 := match q with | none => -1 | some p => nI p.2
theorem zrowc_le (D : zD) (C : zCo) (row : Nat → Nat) : zrowc D C row ≤ 4000 := by
  unfold zrowc
  have h1 := zsum_le (f := fun i => if zPr D i = true then zcost D C i (zthr D row i) else 0) (c := 99) 8 (fun k _ => by
    show (if zPr D k = true then zcost D C k (zthr D row k) else 0) ≤ 99
    split
    · exact zclamp_le _
    · omega)
  have h2 := zsum_le (f := fun k => if row (k + 1) = row k then 0 else zchg D C (k + 1) (row k) (row (k + 1))) (c := 99) 23 (fun k _ => by
    show (if row (k + 1) = row k then 0 else zchg D C (k + 1) (row k) (row (k + 1))) ≤ 99
    split
    · omega
    · exact zclamp_le _)
  omega
theorem zblS_le (D : zD) (C : zCo) (m : Nat) : ∀ b q, q.1 ≤ 4000 → (zblS D C m b q).1 ≤ 4000 := by
  intro b
  induction b with
  | zero => intro q h; exact h
  | succ b ih =>
    intro q h
    have := ih q h
    rw [zblS]
    try dsimp only
    by_cases c : b = D 0 m
    · rw [if_pos c]; exact this
    · rw [if_neg c]
      by_cases c2 : zrowc D C (zset (D 0) m b) < (zblS D C m b q).1
      · rw [if_pos c2]; exact zrowc_le D C _
      · rw [if_neg c2]; exact this
theorem zbl_le (D : zD) (C : zCo) : ∀ m, (zbl D C m).1 ≤ 4000 := by
  intro m
  induction m with
  | zero => exact zrowc_le D C _
  | succ m ih => exact zblS_le D C m 3 _ ih
theorem x_blame_i {m : Nat} (hm : m < 24) (x1 : Int32) (Q : Int32 → zSt → Prop) (K : Int32 → Int32 → Int32 → zSt → Prop) (q0 : Nat × Option (Nat × Nat)) (hq0 : q0.1 ≤ 4000) : ∀ (k b n : Nat) (A : zA) (σ : zSt), RX A σ → (∀ j, j < 24 → j ≠ m → σ.1 42 j = nI (A.1 0 j)) → b + k = 3 → k < n → (∀ σ', RX A σ' → (∀ j, j < 24 → j ≠ m → σ'.1 42 j = nI (A.1 0 j)) → K (nI (zblS A.1 A.2.2.2.1.2 m 3 q0).1) (zfm (zblS A.1 A.2.2.2.1.2 m 3 q0).2) (zfb (zblS A.1 A.2.2.2.1.2 m 3 q0).2) σ') → wX7_blame_L72 Q K x1 (nI m) (nI (A.1 0 m)) n (nI (zblS A.1 A.2.2.2.1.2 m b q0).1) (zfm (zblS A.1 A.2.2.2.1.2 m b q0).2) (zfb (zblS A.1 A.2.2.2.1.2 m b q0).2) (nI b) σ := by
  intro k
  induction k with
  | zero =>
    intro b n A σ h hr hb hn hK
    obtain ⟨n, rfl⟩ : ∃ n', n = n' + 1 := ⟨n - 1, by omega⟩
    have : b = 3 := by omega
    subst this
    rw [wX7_blame_L72, if_pos (by decide)]
    exact hK σ h hr
  | succ k ih =>
    intro b n A σ h hr hb hn hK
    obtain ⟨n, rfl⟩ : ∃ n', n = n' + 1 := ⟨n - 1, by omega⟩
    rw [wX7_blame_L72, if_neg (show ¬ (3 : Int32) ≤ nI b from nI_ge (b := 3) (by omega) (by omega)), zcl (by omega)]
    have hv : vp_in (nI m) 24 := zin' hm (by omega)
    have e1 : nI b + 1 = nI (b + 1) := nI_1 _
    simp only [hv, true_and, forall_eq, e1]
    have hk : RX A (zput σ 42 m (nI b)) := h.keep (fun o ho => zput_ne (by omega))
    have hr2 : ∀ j, j < 24 → j ≠ m → (zput σ 42 m (nI b)).1 42 j = nI (A.1 0 j) := fun j hj hne => by rw [zput_at, if_neg (fun z => hne z.2)]; exact hr j hj hne
    have hp := h.1.1.1 m hm
    have step := fun (σ' : zSt) (h' : RX A σ') (hr' : ∀ j, j < 24 → j ≠ m → σ'.1 42 j = nI (A.1 0 j)) => ih (b + 1) n A σ' h' hr' (by omega) (by omega) hK
    rw [zblS] at step
    try dsimp only at step
    by_cases c : b = A.1 0 m
    · rw [if_pos (by rw [c])]
      rw [if_pos (show nI (zblS A.1 A.2.2.2.1.2 m b q0).1 ≤ nI (zblS A.1 A.2.2.2.1.2 m b q0).1 from Int32.le_refl _)]
      rw [if_pos c] at step
      exact step _ hk hr2
    · rw [if_neg (fun z => c ((nI_eq (by omega) (by omega)).mp z))]
      rw [if_neg c] at step
      have hrow : zIsRow 42 (zset (A.1 0) m b) (zput σ 42 m (nI b)) := by
        intro j hj
        unfold zset
        by_cases z : j = m
        · subst z; rw [if_pos rfl]; exact ⟨by rw [zput_at, if_pos ⟨rfl, rfl⟩], by omega⟩
        · rw [if_neg z]; exact ⟨hr2 j hj z, h.1.1.1 j hj⟩
      refine x_ofRow_42 hk hrow _ (fun σ' h' s' => ?_)
      have hr3 : ∀ j, j < 24 → j ≠ m → σ'.1 42 j = nI (A.1 0 j) := fun j hj hne => by rw [s' _ (by decide) (by decide) (by decide)]; exact hr2 j hj hne
      have l1 := zblS_le A.1 A.2.2.2.1.2 m b q0 hq0
      have l2 := zrowc_le A.1 A.2.2.2.1.2 (zset (A.1 0) m b)
      by_cases c2 : zrowc A.1 A.2.2.2.1.2 (zset (A.1 0) m b) < (zblS A.1 A.2.2.2.1.2 m b q0).1
      · rw [if_neg (show ¬ nI (zblS A.1 A.2.2.2.1.2 m b q0).1 ≤ nI (zrowc A.1 A.2.2.2.1.2 (zset (A.1 0) m b)) from nI_ge c2 (by omega))]
        rw [if_pos c2] at step
        exact step _ h' hr3
      · rw [if_pos (show nI (zblS A.1 A.2.2.2.1.2 m b q0).1 ≤ nI (zrowc A.1 A.2.2.2.1.2 (zset (A.1 0) m b)) from nI_le (by omega) (by omega))]
        rw [if_neg c2] at step
        exact step _ h' hr3
theorem x_blame_o (x1 : Int32) (Q : Int32 → zSt → Prop) (K : Int32 → Int32 → Int32 → zSt → Prop) : ∀ (k m n : Nat) (A : zA) (σ : zSt), RX A σ → (∀ j, j < 24 → σ.1 42 j = nI (A.1 0 j)) → m + k = 24 → k < n → (∀ σ', RX A σ' → K (nI (zbl A.1 A.2.2.2.1.2 24).1) (zfm (zbl A.1 A.2.2.2.1.2 24).2) (zfb (zbl A.1 A.2.2.2.1.2 24).2) σ') → wX7_blame_L53 Q K x1 n (nI (zbl A.1 A.2.2.2.1.2 m).1) (zfm (zbl A.1 A.2.2.2.1.2 m).2) (zfb (zbl A.1 A.2.2.2.1.2 m).2) (nI m) σ := by
  intro k
  induction k with
  | zero =>
    intro m n A σ h hr hb hn hK
    obtain ⟨n, rfl⟩ : ∃ n', n = n' + 1 := ⟨n - 1, by omega⟩
    have : m = 24 := by omega
    subst this
    rw [wX7_blame_L53, if_pos (by decide)]
    exact hK σ h
  | succ k ih =>
    intro m n A σ h hr hb hn hK
    obtain ⟨n, rfl⟩ : ∃ n', n = n' + 1 := ⟨n - 1, by omega⟩
    rw [wX7_blame_L53, if_neg (show ¬ (24 : Int32) ≤ nI m from nI_ge (b := 24) (by omega) (by omega)), zcl (by omega), hr m (by omega)]
    have hv : vp_in (nI m) 24 := zin' (by omega) (by omega)
    simp only [hv, true_and, forall_eq]
    refine x_blame_i (m := m) (by omega) x1 Q _ (zbl A.1 A.2.2.2.1.2 m) (zbl_le _ _ _) 3 0 300 A σ h (fun j hj _ => hr j hj) (by omega) (by omega) (fun σ' h' hr' => ?_)
    rw [nI_1]
    refine ih (m + 1) n A _ (h'.keep (fun o ho => zput_ne (by omega))) (fun j hj => ?_) (by omega) (by omega) hK
    by_cases z : j = m
    · subst z; rw [zput_at, if_pos ⟨rfl, rfl⟩]
    · rw [zput_at, if_neg (fun y => z y.2)]; exact hr' j hj z
theorem x_blame {A : zA} {σ : zSt} (h : RX A σ) (w : Int32) (Q : Int32 → zSt → Prop) (hQ : ∀ σ', RX (s_blame A w).2 σ' → Q (s_blame A w).1 σ') : wX7_blame w σ Q := by
  unfold wX7_blame
  unfold s_blame at hQ
  dsimp only at hQ
  by_cases c : zr w 3 = true
  rotate_left
  · rw [if_neg c] at hQ
    have hq := hQ σ h
    by_cases q : w < 0
    · rw [if_pos q]; exact hq
    · rw [if_neg q, if_neg]
      · exact hq
      · intro z
        rcases zr_neg c with y | y
        · exact q y
        · rw [Int32.le_iff_toInt_le, nI_toInt (by omega)] at y
          rw [Int32.le_iff_toInt_le, show (2 : Int32).toInt = 2 from by decide] at z
          omega
  rw [if_pos c] at hQ
  obtain ⟨k, hk, rfl⟩ := zr_of (by omega) c
  rw [if_neg (nI_pos (by omega)), if_pos (show nI k ≤ (2 : Int32) from nI_le (b := 2) (by omega) (by omega))]
  refine x_ofRow_2 h h.row _ (fun σ' h' s' => ?_)
  simp only [forall_eq]
  have hk2 : RX A (zcopy σ' 2 0 42 0 24) := h'.keep (fun o ho => zrow_ne (by omega))
  have := x_blame_o (nI k) Q (fun v118 v119 v120 σ121 => if v119 = (-1) then (Q (-1) σ121) else (if nI k = 0 then (Q v119 σ121) else (if nI k = 1 then (Q v120 σ121) else (Q v118 σ121)))) 24 0 300 A (zcopy σ' 2 0 42 0 24) hk2 (fun j hj => by rw [zcopy_at, if_pos ⟨rfl, hj⟩]; exact h'.2.1.1 j hj) (by omega) (by omega) (fun σ'' h'' => ?_)
  · exact this
  · have hq := hQ σ'' h''
    cases hz : (zbl A.1 A.2.2.2.1.2 24).2 with
    | none => rw [hz] at hq; rw [if_pos (show zfm none = -1 from rfl)]; exact hq
    | some p =>
      rw [hz] at hq
      have hne : ¬ zfm (some p) = -1 := by
        intro e
        have e2 : nI p.1 = -1 := e
        have hp : ∀ m, m ≤ 24 → ∀ p, (zbl A.1 A.2.2.2.1.2 m).2 = some p → p.1 < 24 := by
          intro m
          induction m with
          | zero => intro _ p hp; cases hp
          | succ m ihm =>
            intro hm p hp
            have aux : ∀ b p, (zblS A.1 A.2.2.2.1.2 m b (zbl A.1 A.2.2.2.1.2 m)).2 = some p → p.1 < 24 := by
              intro b
              induction b with
              | zero => intro p hp; exact ihm (by omega) p hp
              | succ b ihb =>
                intro p hp
                rw [zblS] at hp
                try dsimp only at hp
                by_cases c1 : b = A.1 0 m
                · rw [if_pos c1] at hp; exact ihb p hp
                · rw [if_neg c1] at hp
                  by_cases c2 : zrowc A.1 A.2.2.2.1.2 (zset (A.1 0) m b) < (zblS A.1 A.2.2.2.1.2 m b (zbl A.1 A.2.2.2.1.2 m)).1
                  · rw [if_pos c2] at hp; cases hp; show m < 24; omega
                  · rw [if_neg c2] at hp; exact ihb p hp
            exact aux 3 p hp
        have hlt := hp 24 (Nat.le_refl _) p hz
        have := congrArg Int32.toInt e2
        rw [nI_toInt (by omega), show (-1 : Int32).toInt = -1 from by decide] at this
        omega
      rw [if_neg hne]
      dsimp only at hq
      exact (by
        by_cases k0 : nI k = 0
        · rw [if_pos k0] at hq ⊢; exact hq
        · rw [if_neg k0] at hq ⊢
          by_cases k1 : nI k = 1
          · rw [if_pos k1] at hq ⊢; exact hq
          · rw [if_neg k1] at hq ⊢; exact hq)
