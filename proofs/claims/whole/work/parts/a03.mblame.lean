def zfe (q : Option (Nat × Nat)) : Int32 := match q with | none => -1 | some p => nI (10 * p.1 + p.2)
theorem zbl_b (D : zD) (C : zCo) : ∀ m p, (zbl D C m).2 = some p → p.1 < m ∧ p.2 < 3 := by
  intro m
  induction m with
  | zero => intro p hp; cases hp
  | succ m ihm =>
    have aux : ∀ b, b ≤ 3 → ∀ p, (zblS D C m b (zbl D C m)).2 = some p → p.1 < m + 1 ∧ p.2 < 3 := by
      intro b
      induction b with
      | zero =>
        intro _ p hp
        have := ihm p hp
        omega
      | succ b ihb =>
        intro hb p hp
        rw [zblS] at hp
        try dsimp only at hp
        by_cases c1 : b = D 0 m
        · rw [if_pos c1] at hp; exact ihb (by omega) p hp
        · rw [if_neg c1] at hp
          by_cases c2 : zrowc D C (zset (D 0) m b) < (zblS D C m b (zbl D C m)).1
          · rw [if_pos c2] at hp
            cases hp
            exact ⟨by omega, by omega⟩
          · rw [if_neg c2] at hp; exact ihb (by omega) p hp
    intro p hp
    exact aux 3 (by omega) p hp
theorem m_blame_i {A : zA} (hi : zI A) {m : Nat} (hm : m < 24) (x1 : Int32) (Q : Int32 → zSt → Prop) (K : Int32 → Int32 → zSt → Prop) (q0 : Nat × Option (Nat × Nat)) (hq0 : q0.1 ≤ 4000) (hK : ∀ σ', RM A σ' → (∀ j, j < 24 → j ≠ m → σ'.1 10 j = nI (A.1 0 j)) → K (nI (zblS A.1 A.2.2.2.1.2 m 3 q0).1) (zfe (zblS A.1 A.2.2.2.1.2 m 3 q0).2) σ') : ∀ (k b n : Nat) (σ : zSt), RM A σ → (∀ j, j < 24 → j ≠ m → σ.1 10 j = nI (A.1 0 j)) → b + k = 3 → k < n → wX8_blame_L39 Q K x1 (nI m) n (nI (zblS A.1 A.2.2.2.1.2 m b q0).1) (zfe (zblS A.1 A.2.2.2.1.2 m b q0).2) (nI b) σ := by
  intro k
  induction k with
  | zero =>
    intro b n σ h hr hb hn
    obtain ⟨n, rfl⟩ : ∃ n', n = n' + 1 := ⟨n - 1, by omega⟩
    have : b = 3 := by omega
    subst this
    rw [wX8_blame_L39, if_pos (by decide)]
    exact hK σ h hr
  | succ k ih =>
    intro b n σ h hr hb hn
    obtain ⟨n, rfl⟩ : ∃ n', n = n' + 1 := ⟨n - 1, by omega⟩
    have hv : vp_in (nI m) 24 := zin' hm (by omega)
    have hp := hi.1.1 m hm
    rw [wX8_blame_L39, if_neg (show ¬ (3 : Int32) ≤ nI b from nI_ge (b := 3) (by omega) (by omega)), zcl (by omega), h.1.1 m hm]
    simp only [hv, true_and, forall_eq, nI_1]
    have hk : RM A (zput σ 10 m (nI b)) := h.takes (fun o ho => zput_ne ho)
    have hr2 : ∀ j, j < 24 → j ≠ m → (zput σ 10 m (nI b)).1 10 j = nI (A.1 0 j) := fun j hj hne => by rw [zput_at, if_neg (fun z => hne z.2)]; exact hr j hj hne
    have step := fun (σ' : zSt) (h' : RM A σ') (hr' : ∀ j, j < 24 → j ≠ m → σ'.1 10 j = nI (A.1 0 j)) => ih (b + 1) n σ' h' hr' (by omega) (by omega)
    rw [zblS] at step
    try dsimp only at step
    by_cases c : b = A.1 0 m
    · rw [if_pos (show nI b = nI (A.1 0 m) by rw [c])]
      rw [if_pos c] at step
      exact step _ h hr
    · rw [if_neg (show ¬ nI b = nI (A.1 0 m) from fun z => c ((nI_eq (by omega) (by omega)).mp z))]
      rw [if_neg c] at step
      have hrow : zIsRow 10 (zset (A.1 0) m b) (zput σ 10 m (nI b)) := by
        intro j hj
        unfold zset
        by_cases z : j = m
        · subst z; rw [if_pos rfl]; exact ⟨by rw [zput_at, if_pos ⟨rfl, rfl⟩], by omega⟩
        · rw [if_neg z]; exact ⟨hr2 j hj z, hi.1.1 j hj⟩
      refine p8_rowCost hi hk hrow _ (fun σ' e => ?_)
      have hr3 : ∀ j, j < 24 → j ≠ m → σ'.1 10 j = nI (A.1 0 j) := fun j hj hne => by rw [e.1 10 (by decide)]; exact hr2 j hj hne
      have h' := zmy.keep hk e
      have l1 := zblS_le A.1 A.2.2.2.1.2 m b q0 hq0
      have l2 := zrowc_le A.1 A.2.2.2.1.2 (zset (A.1 0) m b)
      by_cases c2 : zrowc A.1 A.2.2.2.1.2 (zset (A.1 0) m b) < (zblS A.1 A.2.2.2.1.2 m b q0).1
      · rw [if_neg (show ¬ nI (zblS A.1 A.2.2.2.1.2 m b q0).1 ≤ nI (zrowc A.1 A.2.2.2.1.2 (zset (A.1 0) m b)) from nI_ge c2 (by omega))]
        rw [if_pos c2] at step
        have e10 : (10 : Int32) * nI m + nI b = nI (10 * m + b) := by simp only [kk, zc]
        rw [e10]
        exact step _ h' hr3
      · rw [if_pos (show nI (zblS A.1 A.2.2.2.1.2 m b q0).1 ≤ nI (zrowc A.1 A.2.2.2.1.2 (zset (A.1 0) m b)) from nI_le (by omega) (by omega))]
        rw [if_neg c2] at step
        exact step _ h' hr3
theorem m_blame_o {A : zA} (hi : zI A) (x1 : Int32) (Q : Int32 → zSt → Prop) (K : Int32 → Int32 → zSt → Prop) (hK : ∀ σ', RM A σ' → K (nI (zbl A.1 A.2.2.2.1.2 24).1) (zfe (zbl A.1 A.2.2.2.1.2 24).2) σ') : ∀ (k m n : Nat) (σ : zSt), RM A σ → (∀ j, j < 24 → σ.1 10 j = nI (A.1 0 j)) → m + k = 24 → k < n → wX8_blame_L29 Q K x1 n (nI (zbl A.1 A.2.2.2.1.2 m).1) (zfe (zbl A.1 A.2.2.2.1.2 m).2) (nI m) σ := by
  intro k
  induction k with
  | zero =>
    intro m n σ h hr hb hn
    obtain ⟨n, rfl⟩ : ∃ n', n = n' + 1 := ⟨n - 1, by omega⟩
    have : m = 24 := by omega
    subst this
    rw [wX8_blame_L29, if_pos (by decide)]
    exact hK σ h
  | succ k ih =>
    intro m n σ h hr hb hn
    obtain ⟨n, rfl⟩ : ∃ n', n = n' + 1 := ⟨n - 1, by omega⟩
    have hv : vp_in (nI m) 24 := zin' (by omega) (by omega)
    rw [wX8_blame_L29, if_neg (show ¬ (24 : Int32) ≤ nI m from nI_ge (b := 24) (by omega) (by omega)), zcl (by omega)]
    simp only [hv, true_and, forall_eq, nI_1]
    refine m_blame_i hi (m := m) (by omega) x1 Q _ (zbl A.1 A.2.2.2.1.2 m) (zbl_le _ _ _) (fun σ' h' hr' => ?_) 3 0 300 σ h (fun j hj _ => hr j hj) (by omega) (by omega)
    rw [h'.1.1 m (by omega)]
    refine ih (m + 1) n _ (h'.takes (fun o ho => zput_ne ho)) (fun j hj => ?_) (by omega) (by omega)
    by_cases z : j = m
    · subst z; rw [zput_at, if_pos ⟨rfl, rfl⟩]
    · rw [zput_at, if_neg (fun y => z y.2)]; exact hr' j hj z
theorem m_blame {A : zA} {σ : zSt} (hi : zI A) (h : RM A σ) (w : Int32) (Q : Int32 → zSt → Prop) (hQ : ∀ σ', RM (s_blame A w).2 σ' → Q (s_blame A w).1 σ') : wX8_blame w σ Q := by
  unfold wX8_blame
  unfold s_blame at hQ
  dsimp only at hQ
  rw [forall_eq, p8_i2]
  by_cases c : zr w 3 = true
  rotate_left
  · rw [if_neg c] at hQ ⊢
    rw [if_pos rfl]; exact hQ σ h
  rw [if_pos c] at hQ ⊢
  rw [if_neg (by decide)]
  obtain ⟨k, hk, rfl⟩ := zr_of (by omega) c
  refine p8_takes hi h _ (fun σ1 hr e => ?_)
  have h1 := h.takes e
  refine p8_rowCost hi h1 hr _ (fun σ2 e2 => ?_)
  have h2 := zmy.keep h1 e2
  refine m_blame_o hi (nI k) Q _ (fun σ3 h3 => ?_) 24 0 300 σ2 h2 (fun j hj => ((e2.row hr) j hj).1) (by omega) (by omega)
  have hq := hQ σ3 h3
  cases hz : (zbl A.1 A.2.2.2.1.2 24).2 with
  | none => rw [hz] at hq; rw [if_pos (show zfe none = -1 from rfl)]; exact hq
  | some p =>
    rw [hz] at hq
    obtain ⟨b1, b2⟩ := zbl_b A.1 A.2.2.2.1.2 24 p hz
    rw [show zfe (some p) = nI (10 * p.1 + p.2) from rfl, if_neg (show ¬ nI (10 * p.1 + p.2) = -1 from fun z => by
      have := congrArg Int32.toInt z
      rw [nI_toInt (by omega), show ((-1 : Int32)).toInt = -1 from by decide] at this
      omega), show nI (10 * p.1 + p.2) / 10 = nI ((10 * p.1 + p.2) / 10) from pk_div (d := 10) (by omega) (by omega) (by omega), show nI (10 * p.1 + p.2) - nI ((10 * p.1 + p.2) / 10) * 10 = nI ((10 * p.1 + p.2) % 10) from by
        rw [show nI ((10 * p.1 + p.2) / 10) = nI (10 * p.1 + p.2) / 10 from (pk_div (d := 10) (by omega) (by omega) (by omega)).symm]
        exact pk_rem (d := 10) (by omega) (by omega) (by omega), show (10 * p.1 + p.2) / 10 = p.1 by omega, show (10 * p.1 + p.2) % 10 = p.2 by omega]
    dsimp only at hq
    rcases (show k = 0 ∨ k = 1 ∨ k = 2 by omega) with rfl | rfl | rfl
    · exact hq
    · exact hq
    · exact hq
