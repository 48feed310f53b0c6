/-! the model stands for A -/
def zmx (σ σ' : zSt) : Prop := (∀ o, o ≠ 0 → σ'.1 o = σ.1 o) ∧ ∀ j, (j < 24 ∨ 33 ≤ j) → σ'.1 0 j = σ.1 0 j
def zTxOk (n : Nat) (T : Nat → Nat) (c : Nat → List Int32) : Prop := ∀ (i p : Nat) (σ : zSt) (names : Nat → Int32), i < 6 → p < 3 → σ.1 2 i = nI n → (∀ j, j < n → σ.1 1 (160 * i + j) = nI (T j)) → (∀ k, k < 6 → σ.1 0 (18 + k) = names k) → ∀ Q : Int32 → zSt → Prop, (∀ σ', zmx σ σ' → Q (zworth names (c p)) σ') → wX8_read (nI i) (nI p) σ Q
def mKp (K : Option zD) (σ : zSt) : Prop := match K with
  | none => σ.1 0 40 = -1
  | some K => (∀ m, m < 24 → σ.1 14 m = nI (K 0 m)) ∧ (∀ i, i < 8 → σ.1 15 i = nI (K 1 i) ∧ σ.1 15 (8 + i) = nI (K 2 i) ∧ σ.1 15 (16 + i) = nI (K 3 i)) ∧ (∀ x, x < 4 → σ.1 16 x = nI (K 5 x)) ∧ σ.1 0 40 = nI (K 6 0) ∧ σ.1 0 41 = nI (K 6 1) ∧ σ.1 0 42 = nI (K 6 2) ∧ σ.1 0 43 = nI (K 6 3) ∧ σ.1 0 44 = nI (K 6 4) ∧ σ.1 0 45 = nI (K 6 5)
def mTa (q : Nat × (Nat → Nat)) (σ : zSt) : Prop := σ.1 0 6 = nI q.1 ∧ ∀ j, j < q.1 → σ.1 3 j = nI (q.2 j)
def mCo (q : Nat × zCo) (σ : zSt) : Prop := σ.1 0 3 = nI q.1 ∧ ∀ i, i < q.1 → ∃ (n : Nat) (T : Nat → Nat), n ≤ 160 ∧ σ.1 2 i = nI n ∧ (∀ j, j < n → σ.1 1 (160 * i + j) = nI (T j)) ∧ zTxOk n T (q.2 i)
def mSh (q : Nat → Option (Nat × Nat × (Nat → Int32))) (σ : zSt) : Prop := ∀ s, s < 4 → match q s with
  | none => σ.1 17 s = 0
  | some r => σ.1 17 s = 1 ∧ σ.1 18 s = nI r.1 ∧ σ.1 19 s = nI r.2.1 ∧ ∀ j, j < r.2.1 → σ.1 20 (40 * s + j) = r.2.2 j
def RM (A : zA) (σ : zSt) : Prop := zDM A.1 σ ∧ mKp A.2.1 σ ∧ mTa A.2.2.1 σ ∧ mCo A.2.2.2.1 σ ∧ mSh A.2.2.2.2 σ
theorem zDM.fr {D : zD} {σ σ' : zSt} (h : zDM D σ) (e : ∀ o, (4 ≤ o ∧ o ≤ 9) → σ'.1 o = σ.1 o) (f : ∀ j, (j = 4 ∨ (10 ≤ j ∧ j ≤ 13) ∨ j = 16) → σ'.1 0 j = σ.1 0 j) : zDM D σ' := by
  unfold zDM at h ⊢
  rw [e 9 (by omega), e 4 (by omega), e 5 (by omega), e 6 (by omega), e 7 (by omega), e 8 (by omega), f 10 (by omega), f 11 (by omega), f 16 (by omega), f 12 (by omega), f 13 (by omega), f 4 (by omega)]
  exact h
theorem mKp.fr {K : Option zD} {σ σ' : zSt} (h : mKp K σ) (e : ∀ o, (14 ≤ o ∧ o ≤ 16) → σ'.1 o = σ.1 o) (f : ∀ j, (40 ≤ j ∧ j ≤ 45) → σ'.1 0 j = σ.1 0 j) : mKp K σ' := by
  unfold mKp at h ⊢
  rw [e 14 (by omega), e 15 (by omega), e 16 (by omega), f 40 (by omega), f 41 (by omega), f 42 (by omega), f 43 (by omega), f 44 (by omega), f 45 (by omega)]
  exact h
theorem mTa.fr {q : Nat × (Nat → Nat)} {σ σ' : zSt} (h : mTa q σ) (e : σ'.1 3 = σ.1 3) (f : σ'.1 0 6 = σ.1 0 6) : mTa q σ' := by
  unfold mTa at h ⊢
  rw [e, f]; exact h
theorem mCo.fr {q : Nat × zCo} {σ σ' : zSt} (h : mCo q σ) (e1 : σ'.1 1 = σ.1 1) (e2 : σ'.1 2 = σ.1 2) (f : σ'.1 0 3 = σ.1 0 3) : mCo q σ' := by
  unfold mCo at h ⊢
  rw [e1, e2, f]; exact h
theorem mSh.fr {q : Nat → Option (Nat × Nat × (Nat → Int32))} {σ σ' : zSt} (h : mSh q σ) (e : ∀ o, (17 ≤ o ∧ o ≤ 20) → σ'.1 o = σ.1 o) : mSh q σ' := by
  unfold mSh at h ⊢
  rw [e 17 (by omega), e 18 (by omega), e 19 (by omega), e 20 (by omega)]
  exact h
theorem RM.keep {A : zA} {σ σ' : zSt} (h : RM A σ) (e : ∀ o, ((1 ≤ o ∧ o ≤ 9) ∨ (14 ≤ o ∧ o ≤ 20)) → σ'.1 o = σ.1 o) (f : ∀ j, (j ≤ 16 ∨ 33 ≤ j) → σ'.1 0 j = σ.1 0 j) : RM A σ' := by
  obtain ⟨h1, h2, h3, h4, h5⟩ := h
  exact ⟨h1.fr (fun o ho => e o (by omega)) (fun j hj => f j (by omega)), h2.fr (fun o ho => e o (by omega)) (fun j hj => f j (by omega)), h3.fr (e 3 (by omega)) (f 6 (by omega)), h4.fr (e 1 (by omega)) (e 2 (by omega)) (f 3 (by omega)), h5.fr (fun o ho => e o (by omega))⟩
theorem RM.ch {A : zA} {σ σ' : zSt} {D' : zD} (h : RM A σ) (hD : zDM D' σ') (e : ∀ o, ((1 ≤ o ∧ o ≤ 3) ∨ (14 ≤ o ∧ o ≤ 20)) → σ'.1 o = σ.1 o) (f : ∀ j, (j = 3 ∨ j = 6 ∨ 40 ≤ j) → σ'.1 0 j = σ.1 0 j) : RM (D', A.2) σ' := by
  obtain ⟨h1, h2, h3, h4, h5⟩ := h
  exact ⟨hD, h2.fr (fun o ho => e o (by omega)) (fun j hj => f j (by omega)), h3.fr (e 3 (by omega)) (f 6 (by omega)), h4.fr (e 1 (by omega)) (e 2 (by omega)) (f 3 (by omega)), h5.fr (fun o ho => e o (by omega))⟩
theorem m_at {A : zA} {σ : zSt} (_ : zI A) (h : RM A σ) (x : Int32) (Q : Int32 → zSt → Prop) (hQ : ∀ σ', RM (s_at A x).2 σ' → Q (s_at A x).1 σ') : wX8_at x σ Q := by
  unfold wX8_at
  unfold s_at at hQ
  rw [forall_eq, p8_i23]
  by_cases h1 : zr x 24 = true
  · rw [if_pos h1] at hQ ⊢
    rw [if_neg (by decide)]
    obtain ⟨j, hj, rfl⟩ := zr_of (by omega) h1
    refine ⟨zr_in (by omega) h1, ?_⟩
    rw [zcl (by omega)] at hQ ⊢
    rw [h.1.1 j hj]
    exact hQ σ h
  · rw [if_neg h1] at hQ ⊢
    rw [if_pos rfl]
    exact hQ σ h
theorem m_up {A : zA} {σ : zSt} (_ : zI A) (h : RM A σ) (x b : Int32) (Q : Int32 → zSt → Prop) (hQ : ∀ σ', RM (s_up A x b).2 σ' → Q (s_up A x b).1 σ') : wX8_up x b σ Q := by
  unfold wX8_up
  unfold s_up at hQ
  rw [forall_eq, p8_i23]
  by_cases h1 : zr x 24 = true
  · rw [if_pos h1, if_neg (by decide), forall_eq, p8_i2]
    by_cases h2 : zr b 3 = true
    · rw [if_pos ⟨h1, h2⟩] at hQ
      rw [if_pos h2, if_neg (by decide)]
      obtain ⟨j, hj, rfl⟩ := zr_of (by omega) h1
      obtain ⟨k, hk, rfl⟩ := zr_of (by omega) h2
      have hv : vp_in (nI j) 24 := zin' hj (by omega)
      simp only [hv, true_and, forall_eq]
      rw [zcl (by omega)] at hQ ⊢
      rw [zcl (by omega)] at hQ
      rw [h.1.1 j hj]
      refine hQ _ (h.ch ?_ ?_ ?_)
      · obtain ⟨g1, g2, g3, g4⟩ := h.1
        refine ⟨fun m hm => ?_, fun m hm => ?_, fun m hm => ?_, ?_⟩
        · have := g1 m hm
          by_cases q : m = j
          · subst q; simp [zput_at, zDu]
          · simp [zput_at, zDu, q, this]
        · simpa [zput_at, zDu] using g2 m hm
        · simpa [zput_at, zDu] using g3 m hm
        · simpa [zput_at, zDu] using g4
      · intro o ho
        exact zput_ne (by omega)
      · intro j' _
        rw [zput_ne (by omega)]
    · rw [if_neg (fun q => h2 q.2)] at hQ
      rw [if_neg h2, if_pos rfl]
      exact hQ σ h
  · rw [if_neg (fun q => h1 q.1)] at hQ
    rw [if_neg h1, if_pos rfl]
    exact hQ σ h
theorem m_count {A : zA} {σ : zSt} (_ : zI A) (h : RM A σ) (x : Int32) (Q : Int32 → zSt → Prop) (hQ : ∀ σ', RM (s_count A x).2 σ' → Q (s_count A x).1 σ') : wX8_count x σ Q := by
  have hq := hQ σ h
  unfold wX8_count
  unfold s_count at hq
  dsimp only at hq
  obtain ⟨_, _, _, g0, g1, g2, g3, g4, g5⟩ := h.1
  rw [forall_eq, p8_i7, g0, g1, g2, g3, g4, g5, h.2.2.1.1, h.2.2.2.1.1]
  by_cases h1 : zr x 8 = true
  · rw [if_pos h1, if_neg (by decide)]
    obtain ⟨j, hj, rfl⟩ := zr_of (by omega) h1
    have hc : j = 0 ∨ j = 1 ∨ j = 2 ∨ j = 3 ∨ j = 4 ∨ j = 5 ∨ j = 6 ∨ j = 7 := by omega
    rcases hc with rfl | rfl | rfl | rfl | rfl | rfl | rfl | rfl <;> exact hq
  · rw [if_neg h1, if_pos rfl]
    have hn : ∀ k, k < 8 → x ≠ nI k := fun k hk e => h1 (by rw [e]; exact zr_nI hk (by omega))
    rw [if_neg (show ¬ x = (0 : Int32) from hn 0 (by omega)), if_neg (show ¬ x = (1 : Int32) from hn 1 (by omega)), if_neg (show ¬ x = (2 : Int32) from hn 2 (by omega)), if_neg (show ¬ x = (3 : Int32) from hn 3 (by omega)), if_neg (show ¬ x = (4 : Int32) from hn 4 (by omega)), if_neg (show ¬ x = (5 : Int32) from hn 5 (by omega)), if_neg (show ¬ x = (6 : Int32) from hn 6 (by omega)), if_neg (show ¬ x = (7 : Int32) from hn 7 (by omega))] at hq
    exact hq
