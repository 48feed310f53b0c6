theorem p8_judge_L {A : zA} {σ : zSt} (hi : zI A) (h : RM A σ) {s : Nat} (hs : s < 4) {c : Nat → Int32} {sz : Nat} (hz : σ.1 19 s = nI sz) (hc : ∀ m, m < sz → σ.1 20 (40 * s + m) = c m) (hsz : sz ≤ 40) (Q : Int32 → zSt → Prop) : ∀ (k m held n : Nat), m ≤ sz → sz < m + k → sz < m + n → held ≤ m → wX8_judge_L40 Q (fun v s => Q v s) (fun v s => Q v s) (fun s => Q (-1) s) (nI s) n (nI held) (nI m) σ = Q (zjF c (A.1 6 3) sz k m held) σ := by
  have eh : σ.1 0 12 = nI (A.1 6 3) := h.1.2.2.2.2.2.2.1
  have lh := hi.1.2.2.2.2.2.2.1
  have hv : vp_in (nI s) 4 := zin' hs (by omega)
  intro k
  induction k with
  | zero => intro m held n h1 h2 h3 h4; omega
  | succ k ih =>
    intro m held n h1 h2 h3 h4
    obtain ⟨n, rfl⟩ : ∃ n', n = n' + 1 := ⟨n - 1, by omega⟩
    rw [zjF, wX8_judge_L40, zcl (show s < 2147483648 by omega), hz]
    simp only [hv, true_and]
    by_cases c0 : sz ≤ m
    · have : m = sz := by omega
      subst this
      rw [if_pos (Int32.le_refl _), if_pos (Nat.le_refl _)]
    rw [if_neg c0, if_neg (show ¬ nI sz ≤ nI m from nI_ge (by omega) (by omega))]
    have v2 : vp_in (nI (40 * s + m)) 160 := zin' (by omega) (by omega)
    rw [zat40, zcl (show 40 * s + m < 2147483648 by omega), hc m (by omega)]
    simp only [v2, true_and, forall_eq, p8_i2, nI_1, eh]
    by_cases c1 : zr (c m) 3 = true
    rotate_left
    · rw [if_neg c1, if_neg c1, if_pos rfl]
    rw [if_pos c1, if_pos c1, if_neg (by decide)]
    cases m with
    | zero =>
      have t : held = 0 := by omega
      subst t
      rw [if_pos (show nI 0 ≤ (0 : Int32) by decide), if_pos (show nI 0 ≤ (0 : Int32) by decide), if_neg (fun z => by have := z.1; omega)]
      exact ih 1 1 n (by omega) (by omega) (by omega) (by omega)
    | succ m =>
      have t : ¬ nI (m + 1) ≤ (0 : Int32) := nI_ge (a := 0) (by omega) (by omega)
      have v3 : vp_in (nI (40 * s + m)) 160 := zin' (by omega) (by omega)
      rw [← Nat.add_assoc, zs1, zcl (show 40 * s + m < 2147483648 by omega), hc m (by omega)]
      simp only [if_neg t, v3, true_and, Nat.add_sub_cancel]
      by_cases q : c (m + 1) = c m
      · rw [if_pos q, if_neg (fun z => z.2 q)]
        exact ih (m + 1 + 1) (held + 1) n (by omega) (by omega) (by omega) (by omega)
      · rw [if_neg q, if_pos (show 0 < m + 1 ∧ ¬ c (m + 1) = c m from ⟨by omega, q⟩)]
        by_cases c2 : held < A.1 6 3
        · rw [if_pos c2, if_neg (show ¬ nI (A.1 6 3) ≤ nI held from nI_ge c2 (by omega))]
        · rw [if_neg c2, if_pos (show nI (A.1 6 3) ≤ nI held from nI_le (by omega) (by omega))]
          exact ih (m + 1 + 1) 1 n (by omega) (by omega) (by omega) (by omega)
theorem m_judge {A : zA} {σ : zSt} (hi : zI A) (h : RM A σ) (s : Int32) (Q : Int32 → zSt → Prop) (hQ : ∀ σ', RM (s_judge A s).2 σ' → Q (s_judge A s).1 σ') : wX8_judge s σ Q := by
  unfold wX8_judge
  unfold s_judge at hQ
  dsimp only at hQ
  rw [p8_isSheet]
  by_cases c1 : zr s 4 = true
  rotate_left
  · rw [if_neg c1] at hQ ⊢
    rw [if_pos rfl]; exact hQ σ h
  rw [if_pos c1] at hQ ⊢
  rw [if_neg (by decide)]
  obtain ⟨s, hs, rfl⟩ := zr_of (by omega) c1
  have hv : vp_in (nI s) 4 := zin' hs (by omega)
  rw [zcl (by omega)] at hQ ⊢
  refine ⟨hv, ?_⟩
  have hk2 := h.2.2.2.2 s hs
  cases hz : A.2.2.2.2 s with
  | none =>
    rw [hz] at hk2 hQ
    rw [if_pos hk2]; exact hQ σ h
  | some q =>
    rw [hz] at hk2 hQ
    obtain ⟨g1, g2, g3, g4⟩ := hk2
    obtain ⟨b1, b2⟩ := hi.2.2.2.2 s hs q hz
    dsimp only at hQ
    rw [g1, if_neg (by decide), g3]
    refine ⟨hv, ?_⟩
    by_cases c2 : q.2.1 ≤ 24
    · rw [if_pos c2] at hQ
      rw [if_pos (show nI q.2.1 ≤ (24 : Int32) from nI_le (b := 24) c2 (by omega))]
      have := p8_judge_L hi h hs (c := q.2.2) g3 (fun m hm => g4 m hm) b2 Q 41 0 0 300 (by omega) (by omega) (by omega) (by omega)
      rw [nI_0] at this
      rw [this]
      exact hQ σ h
    · rw [if_neg c2] at hQ
      rw [if_neg (show ¬ nI q.2.1 ≤ (24 : Int32) from nI_ge (a := 24) (by omega) (by omega))]
      exact hQ σ h
