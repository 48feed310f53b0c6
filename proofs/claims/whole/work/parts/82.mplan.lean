theorem p8_rowLawful {A : zA} {σ : zSt} (hi : zI A) (h : RM A σ) {row : Nat → Nat} (hr : zIsRow 10 row σ) (Q : Int32 → zSt → Prop) : wX8_rowLawful σ Q = Q (if zjF (fun m => nI (row m)) (A.1 6 3) 24 25 0 0 = -1 then 1 else 0) σ := by
  have eh : σ.1 0 12 = nI (A.1 6 3) := h.1.2.2.2.2.2.2.1
  have lh := hi.1.2.2.2.2.2.2.1
  have L : ∀ (k m held n : Nat), m + 1 ≤ 24 → 24 < m + 1 + k → 24 < m + 1 + n → held ≤ m + 1 → wX8_rowLawful_L4 Q (fun s => Q 0 s) (fun s => Q 1 s) n (nI held) (nI (m + 1)) σ = Q (if zjF (fun m => nI (row m)) (A.1 6 3) 24 k (m + 1) held = -1 then 1 else 0) σ := by
    intro k
    induction k with
    | zero => intro m held n h1 h2 h3 h4; omega
    | succ k ih =>
      intro m held n h1 h2 h3 h4
      obtain ⟨n, rfl⟩ : ∃ n', n = n' + 1 := ⟨n - 1, by omega⟩
      rw [zjF]
      by_cases c0 : 24 ≤ m + 1
      · have : m = 23 := by omega
        subst this
        rw [wX8_rowLawful_L4, if_pos (by decide), if_pos (show 24 ≤ 23 + 1 by omega), if_pos rfl]
      have v1 : vp_in (nI (m + 1)) 24 := zin' (by omega) (by omega)
      have v2 : vp_in (nI m) 24 := zin' (by omega) (by omega)
      have l1 := (hr (m + 1) (by omega)).2
      have l2 := (hr m (by omega)).2
      rw [if_neg c0, if_pos (zr_nI l1 (by omega)), wX8_rowLawful_L4, if_neg (show ¬ (24 : Int32) ≤ nI (m + 1) from nI_ge (b := 24) (by omega) (by omega)), zs1, zcl (by omega), zcl (by omega), (hr (m + 1) (by omega)).1, (hr m (by omega)).1, eh]
      simp only [v1, v2, true_and, forall_eq, nI_1, Nat.add_sub_cancel]
      by_cases q : row (m + 1) = row m
      · have q' : nI (row (m + 1)) = nI (row m) := by rw [q]
        simp only [if_pos q']
        rw [if_neg (show ¬ (0 < m + 1 ∧ ¬ nI (row (m + 1)) = nI (row m)) from fun z => z.2 q')]
        by_cases c1 : m + 1 + 1 ≤ 24
        · exact ih (m + 1) (held + 1) n c1 (by omega) (by omega) (by omega)
        · omega
      · have q' : ¬ nI (row (m + 1)) = nI (row m) := fun z => q ((nI_eq (by omega) (by omega)).mp z)
        simp only [if_neg q']
        rw [if_pos (show 0 < m + 1 ∧ ¬ nI (row (m + 1)) = nI (row m) from ⟨by omega, q'⟩)]
        by_cases c2 : held < A.1 6 3
        · rw [if_pos c2, if_neg (show ¬ nI (A.1 6 3) ≤ nI held from nI_ge c2 (by omega)), if_neg (show ¬ nI (m + 1) = -1 from fun z => by
            have := congrArg Int32.toInt z
            rw [nI_toInt (by omega), show ((-1 : Int32)).toInt = -1 from by decide] at this
            omega)]
        · rw [if_neg c2, if_pos (show nI (A.1 6 3) ≤ nI held from nI_le (by omega) (by omega))]
          exact ih (m + 1) 1 n (by omega) (by omega) (by omega) (by omega)
  unfold wX8_rowLawful
  have e0 : zjF (fun m => nI (row m)) (A.1 6 3) 24 25 0 0 = zjF (fun m => nI (row m)) (A.1 6 3) 24 24 (0 + 1) 1 := by
    rw [zjF, if_neg (show ¬ 24 ≤ 0 by omega), if_pos (zr_nI (hr 0 (by omega)).2 (by omega)), if_neg (fun z => by have := z.1; omega)]
  rw [e0]
  exact L 24 0 1 300 (by omega) (by omega) (by omega) (by omega)
theorem m_plan {A : zA} {σ : zSt} (hi : zI A) (h : RM A σ) (w : Int32) (Q : Int32 → zSt → Prop) (hQ : ∀ σ', RM (s_plan A w).2 σ' → Q (s_plan A w).1 σ') : wX8_plan w σ Q := by
  unfold wX8_plan
  unfold s_plan at hQ
  dsimp only at hQ
  rw [forall_eq, p8_i3]
  by_cases c1 : zr w 4 = true
  rotate_left
  · rw [if_neg c1, if_pos rfl]
    have hn : ∀ k, k < 4 → w ≠ nI k := fun k hk e => c1 (by rw [e]; exact zr_nI hk (by omega))
    rw [if_neg (show ¬ w = (0 : Int32) from hn 0 (by omega)), if_neg (show ¬ w = (1 : Int32) from hn 1 (by omega)), if_neg (show ¬ w = (2 : Int32) from hn 2 (by omega)), if_neg (show ¬ w = (3 : Int32) from hn 3 (by omega))] at hQ
    exact hQ σ h
  rw [if_pos c1, if_neg (by decide)]
  refine p8_takes hi h _ (fun σ1 hr e => ?_)
  have h1 := h.takes e
  obtain ⟨w, hw, rfl⟩ := zr_of (by omega) c1
  have hc : w = 0 ∨ w = 1 ∨ w = 2 ∨ w = 3 := by omega
  rcases hc with rfl | rfl | rfl | rfl
  · rw [if_neg (show ¬ (2 : Int32) ≤ nI 0 by decide), if_pos (show nI 0 = (0 : Int32) from rfl)]
    exact p8_rowCost hi h1 hr _ (fun σ2 e2 => hQ σ2 (zmy.keep h1 e2))
  · rw [if_neg (show ¬ (2 : Int32) ≤ nI 1 by decide), if_neg (show ¬ nI 1 = (0 : Int32) by decide), p8_rowChanges hr]
    exact hQ σ1 h1
  · rw [if_pos (show (2 : Int32) ≤ nI 2 by decide), if_neg (show ¬ nI 2 = (3 : Int32) by decide), p8_rowLawful hi h1 hr]
    have hq := hQ σ1 h1
    rw [if_neg (show ¬ nI 2 = (0 : Int32) by decide), if_neg (show ¬ nI 2 = (1 : Int32) by decide), if_pos (show nI 2 = (2 : Int32) from rfl)] at hq
    by_cases q : zjF (fun m => nI (A.1 0 m)) (A.1 6 3) 24 25 0 0 = -1
    · rw [if_pos q] at hq ⊢
      rw [if_neg (by decide)]; exact hq
    · rw [if_neg q] at hq ⊢
      rw [if_pos rfl]; exact hq
  · rw [if_pos (show (2 : Int32) ≤ nI 3 by decide), if_pos (show nI 3 = (3 : Int32) from rfl), p8_rowThrough hi h1 hr]
    exact hQ σ1 h1
theorem m_told {A : zA} {σ : zSt} (hi : zI A) (h : RM A σ) (s o w : Int32) (Q : Int32 → zSt → Prop) (hQ : ∀ σ', RM (s_told A s o w).2 σ' → Q (s_told A s o w).1 σ') : wX8_told s o w σ Q := by
  unfold wX8_told
  unfold s_told at hQ
  dsimp only at hQ
  rw [p8_isHere hi h]
  by_cases c1 : zr s 2 = true ∧ zr o (A.1 6 s.toNatClampNeg) = true
  rotate_left
  · rw [if_neg c1] at hQ ⊢
    rw [if_pos rfl]; exact hQ σ h
  rw [if_pos c1] at hQ ⊢
  rw [if_neg (by decide), forall_eq, p8_i5]
  obtain ⟨c1, c2⟩ := c1
  obtain ⟨s, hs, rfl⟩ := zr_of (by omega) c1
  rw [zcl (by omega)] at c2 hQ
  have h4 : A.1 6 s ≤ 4 := by
    rcases (show s = 0 ∨ s = 1 by omega) with rfl | rfl
    · exact hi.1.2.2.2.1
    · exact hi.1.2.2.2.2.1
  obtain ⟨o, ho, rfl⟩ := zr_of (by omega) c2
  rw [zcl (by omega)] at hQ
  rw [zat4]
  have hi8 : s * 4 + o < 8 := by omega
  generalize s * 4 + o = i at hi8 hQ ⊢
  have hv : vp_in (nI i) 8 := zin' hi8 (by omega)
  have g2 := h.1.2.1 i hi8
  have hb := (hi.1.2.1 i hi8).2.1
  have tt := zthr_le A.1 (A.1 0) i 25 (A.1 2 i) (by omega) (by omega)
  have t1 : zthr A.1 (A.1 0) i ≤ 24 := tt.1
  have t2 : A.1 2 i ≤ zthr A.1 (A.1 0) i := tt.2
  by_cases cw : zr w 6 = true
  rotate_left
  · rw [if_neg cw, if_pos rfl]
    have hn : ∀ k, k < 6 → w ≠ nI k := fun k hk e => cw (by rw [e]; exact zr_nI hk (by omega))
    rw [if_neg (show ¬ w = (0 : Int32) from hn 0 (by omega)), if_neg (show ¬ w = (1 : Int32) from hn 1 (by omega)), if_neg (show ¬ w = (2 : Int32) from hn 2 (by omega)), if_neg (show ¬ w = (3 : Int32) from hn 3 (by omega)), if_neg (show ¬ w = (4 : Int32) from hn 4 (by omega)), if_neg (show ¬ w = (5 : Int32) from hn 5 (by omega))] at hQ
    exact hQ σ h
  rw [if_pos cw, if_neg (by decide), forall_eq]
  obtain ⟨w, hw, rfl⟩ := zr_of (by omega) cw
  by_cases c3 : 3 ≤ w
  rotate_left
  · rw [if_neg (show ¬ (3 : Int32) ≤ nI w from nI_ge (b := 3) (by omega) (by omega)), zcl (by omega), g2.1, g2.2.1, g2.2.2]
    simp only [hv, true_and]
    rcases (show w = 0 ∨ w = 1 ∨ w = 2 by omega) with rfl | rfl | rfl <;> exact hQ σ h
  rw [if_pos (show (3 : Int32) ≤ nI w from nI_le (a := 3) c3 (by omega))]
  refine p8_takes hi h _ (fun σ1 hr e => ?_)
  have h1 := h.takes e
  rw [p8_through h1.1 hi.1 hr hi8]
  rcases (show w = 3 ∨ w = 4 ∨ w = 5 by omega) with rfl | rfl | rfl
  · have hq := hQ σ1 h1
    rw [if_neg (show ¬ nI 3 = (0 : Int32) by decide), if_neg (show ¬ nI 3 = (1 : Int32) by decide), if_neg (show ¬ nI 3 = (2 : Int32) by decide), if_pos (show nI 3 = (3 : Int32) from rfl)] at hq
    rw [if_pos (show nI 3 = (3 : Int32) from rfl)]
    by_cases q : zthr A.1 (A.1 0) i < 24
    · rw [if_pos q] at hq
      rw [if_neg (show ¬ (24 : Int32) ≤ nI (zthr A.1 (A.1 0) i) from nI_ge (b := 24) q (by omega))]; exact hq
    · rw [if_neg q] at hq
      rw [if_pos (show (24 : Int32) ≤ nI (zthr A.1 (A.1 0) i) from nI_le (a := 24) (by omega) (by omega))]; exact hq
  · rw [if_neg (show ¬ nI 4 = (3 : Int32) by decide), if_pos (show nI 4 = (4 : Int32) from rfl)]
    refine ⟨hv, ?_⟩
    rw [zcl (by omega), (h1.1.2.1 i hi8).2.1, pk_sub t2]
    exact hQ σ1 h1
  · rw [if_neg (show ¬ nI 5 = (3 : Int32) by decide), if_neg (show ¬ nI 5 = (4 : Int32) by decide)]
    exact p8_costOf hi h1 hi8 _ (fun σ2 e2 => hQ σ2 (zmy.keep h1 e2))
