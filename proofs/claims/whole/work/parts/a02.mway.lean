theorem p8_off {a b : Nat} (ha : a < 2147483648) (hb : b < 2147483648) (σ : zSt) (Q : Int32 → zSt → Prop) : wX8_off (nI a) (nI b) σ Q = Q (nI (zdist a b)) σ := by
  unfold wX8_off zdist
  by_cases c : a ≤ b
  · rw [if_pos c]
    by_cases c2 : b ≤ a
    · rw [if_pos (show nI b ≤ nI a from nI_le c2 (by omega)), show a = b by omega, pk_sub (Nat.le_refl _)]
    · rw [if_neg (show ¬ nI b ≤ nI a from nI_ge (by omega) (by omega)), pk_sub c]
  · rw [if_neg c, if_pos (show nI b ≤ nI a from nI_le (by omega) (by omega)), pk_sub (by omega)]
theorem p8_fd {A : zA} {σ : zSt} (hi : zI A) (h : RM A σ) {b : Nat} (hb : b < 3) (Q K : Int32 → zSt → Prop) (x2 x3 x4 x5 : Int32) : ∀ (k m n : Nat), m < 1000 → 24 < m + k → 24 < m + n → 0 < n → ∃ r, r < 1000 ∧ (r < 24 → zfd (A.1 0) b k m = r) ∧ (24 ≤ r → zfd (A.1 0) b k m = 24) ∧ wX8_way_L67 Q K x2 x3 x4 x5 (nI b) n (nI m) σ = K (nI r) σ := by
  intro k
  induction k with
  | zero =>
    intro m n h1 h2 h3 h4
    obtain ⟨n, rfl⟩ : ∃ n', n = n' + 1 := ⟨n - 1, by omega⟩
    refine ⟨m, h1, fun z => by omega, fun _ => rfl, ?_⟩
    rw [wX8_way_L67, if_pos (show (24 : Int32) ≤ nI m from nI_le (a := 24) (by omega) (by omega))]
  | succ k ih =>
    intro m n h1 h2 h3 h4
    obtain ⟨n, rfl⟩ : ∃ n', n = n' + 1 := ⟨n - 1, by omega⟩
    by_cases c : 24 ≤ m
    · refine ⟨m, h1, fun z => by omega, fun _ => by rw [zfd, if_pos c], ?_⟩
      rw [wX8_way_L67, if_pos (show (24 : Int32) ≤ nI m from nI_le (a := 24) (by omega) (by omega))]
    · have hv : vp_in (nI m) 24 := zin' (by omega) (by omega)
      have hr := hi.1.1 m (by omega)
      rw [zfd, if_neg c, wX8_way_L67, if_neg (show ¬ (24 : Int32) ≤ nI m from nI_ge (b := 24) (by omega) (by omega)), zcl (by omega), h.1.1 m (by omega)]
      simp only [hv, true_and, forall_eq, nI_1]
      by_cases c2 : A.1 0 m = b
      · rw [if_pos c2, if_pos (show nI (A.1 0 m) = nI b by rw [c2])]
        exact ih (m + 1) n (by omega) (by omega) (by omega) (by omega)
      · rw [if_neg c2, if_neg (show ¬ nI (A.1 0 m) = nI b from fun z => c2 ((nI_eq (by omega) (by omega)).mp z))]
        exact ⟨m, h1, fun _ => rfl, fun z => by omega, rfl⟩
theorem m_way_L {A : zA} {σ : zSt} (hi : zI A) (h : RM A σ) {i : Nat} (h8 : i < 8) (x2 : Int32) (Q : Int32 → zSt → Prop) (K : Int32 → Int32 → zSt → Prop) : ∀ (k b n : Nat), b + k = 3 → k < n → wX8_way_L36 Q K x2 (nI i) n (zwy A.1 i b).2 (nI (zwy A.1 i b).1) (nI b) σ = K (zwy A.1 i 3).2 (nI (zwy A.1 i 3).1) σ := by
  intro k
  induction k with
  | zero =>
    intro b n h1 h2
    obtain ⟨n, rfl⟩ : ∃ n', n = n' + 1 := ⟨n - 1, by omega⟩
    have : b = 3 := by omega
    subst this
    rw [wX8_way_L36, if_pos (by decide)]
  | succ k ih =>
    intro b n h1 h2
    obtain ⟨n, rfl⟩ : ∃ n', n = n' + 1 := ⟨n - 1, by omega⟩
    have g := h.1.2.1 i h8
    have ok := hi.1.2.1 i h8
    have ow := hi.1.2.2.2.2.2.2.2.1
    have hv : vp_in (nI i) 8 := zin' h8 (by omega)
    rw [wX8_way_L36, if_neg (show ¬ (3 : Int32) ≤ nI b from nI_ge (b := 3) (by omega) (by omega)), zcl (show i < 2147483648 by omega), g.1, g.2.1, show σ.1 0 13 = nI (A.1 6 4) from h.1.2.2.2.2.2.2.2.1]
    simp only [hv, true_and, forall_eq, nI_1]
    have hd2 : zdist b (A.1 1 i) ≤ 2 := by unfold zdist; split <;> omega
    rw [p8_off (by omega) (by omega), pk_mul, nI_add]
    have hmul : A.1 6 4 * zdist b (A.1 1 i) ≤ 18 := Nat.le_trans (Nat.mul_le_mul ow.2 hd2) (by omega)
    obtain ⟨r, r1, r2, r3, r4⟩ := p8_fd hi h (b := b) (by omega) Q (fun v112 σ113 => if nI (zwy A.1 i b).1 ≤ v112 then (wX8_way_L36 Q K x2 (nI i) n (zwy A.1 i b).2 (nI (zwy A.1 i b).1) (nI (b + 1)) σ113) else (wX8_way_L36 Q K x2 (nI i) n (nI b) v112 (nI (b + 1)) σ113)) x2 (nI i) (zwy A.1 i b).2 (nI (zwy A.1 i b).1) 25 (A.1 2 i + A.1 6 4 * zdist b (A.1 1 i)) 300 (by omega) (by omega) (by omega) (by omega)
    rw [r4]
    have hz := zwy_le A.1 i b
    have st := ih (b + 1) n (by omega) (by omega)
    rw [zwy] at st
    try dsimp only at st
    by_cases c : r < (zwy A.1 i b).1
    · rw [r2 (by omega), if_pos c] at st
      rw [if_neg (show ¬ nI (zwy A.1 i b).1 ≤ nI r from nI_ge c (by omega))]
      exact st
    · rw [if_neg (show ¬ zfd (A.1 0) b 25 (A.1 2 i + A.1 6 4 * zdist b (A.1 1 i)) < (zwy A.1 i b).1 from by
        rcases Nat.lt_or_ge r 24 with q | q
        · rw [r2 q]; exact c
        · rw [r3 q]; omega)] at st
      rw [if_pos (show nI (zwy A.1 i b).1 ≤ nI r from nI_le (by omega) (by omega))]
      exact st
theorem m_way {A : zA} {σ : zSt} (hi : zI A) (h : RM A σ) (o w : Int32) (Q : Int32 → zSt → Prop) (hQ : ∀ σ', RM (s_way A o w).2 σ' → Q (s_way A o w).1 σ') : wX8_way o w σ Q := by
  have hq := hQ σ h
  unfold wX8_way
  unfold s_way at hq
  dsimp only at hq
  rw [p8_isHere hi h, show (1 : Int32).toNatClampNeg = 1 by decide]
  by_cases c1 : zr o (A.1 6 1) = true
  rotate_left
  · rw [if_neg (fun z => c1 z.1)] at hq
    rw [if_neg (show ¬ (zr 1 2 = true ∧ zr o (A.1 6 1) = true) from fun z => c1 z.2), if_pos rfl]; exact hq
  rw [if_pos (show zr 1 2 = true ∧ zr o (A.1 6 1) = true from ⟨by decide, c1⟩), if_neg (by decide), forall_eq, p8_i1]
  by_cases c2 : zr w 2 = true
  rotate_left
  · rw [if_neg (fun z => c2 z.2)] at hq
    rw [if_neg c2, if_pos rfl]; exact hq
  rw [if_pos ⟨c1, c2⟩] at hq
  rw [if_pos c2, if_neg (by decide), forall_eq]
  obtain ⟨k, hk, rfl⟩ := zr_of (by omega) c2
  have h4 := hi.1.2.2.2.2.1
  obtain ⟨i, hii, rfl⟩ := zr_of (by omega) c1
  rw [zcl (by omega)] at hq
  have e4 : 4 + nI i = nI (4 + i) := by simp only [kk, zc]
  have st := fun (K : Int32 → Int32 → zSt → Prop) => m_way_L hi h (i := 4 + i) (by omega) (nI k) Q K 3 0 300 (by omega) (by omega)
  simp only [show nI (zwy A.1 (4 + i) 0).1 = 24 from rfl, show (zwy A.1 (4 + i) 0).2 = -1 from rfl, nI_0] at st
  rw [e4, st]
  by_cases q1 : (zwy A.1 (4 + i) 3).2 = -1
  · rw [if_pos q1] at hq ⊢; rw [q1]; exact hq
  · rw [if_neg q1] at hq ⊢
    rcases (show k = 0 ∨ k = 1 by omega) with rfl | rfl
    · rw [if_pos (show nI 0 = (0 : Int32) from rfl)] at hq
      rw [if_neg (show ¬ nI 0 = (1 : Int32) by decide)]
      exact hq
    · rw [if_neg (show ¬ nI 1 = (0 : Int32) by decide)] at hq
      rw [if_pos (show nI 1 = (1 : Int32) from rfl)]
      exact hq
