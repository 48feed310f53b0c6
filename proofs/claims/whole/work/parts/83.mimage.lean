theorem m_image {A : zA} {σ : zSt} (hi : zI A) (h : RM A σ) (Q : Int32 → zSt → Prop) (hQ : ∀ σ', RM (s_image A).2 σ' → Q (s_image A).1 σ') : wX8_image σ Q := by
  have L3 : ∀ (K : zSt → Prop) (j m n : Nat) (σ1 : zSt), m + j = 4 → j < n → (∀ x, x < 4 → σ1.1 8 x = nI (A.1 5 x)) → (∀ a, a < m → σ1.1 16 a = nI (A.1 5 a)) → (∀ σ2 : zSt, (∀ o, o ≠ 16 → σ2.1 o = σ1.1 o) → (∀ a, a < 4 → σ2.1 16 a = nI (A.1 5 a)) → K σ2) → wX8_image_L84 Q K n (nI m) σ1 := by
    intro K j
    induction j with
    | zero =>
      intro m n σ1 h1 h2 g f hK
      obtain ⟨n, rfl⟩ : ∃ n', n = n' + 1 := ⟨n - 1, by omega⟩
      have : m = 4 := by omega
      subst this
      rw [wX8_image_L84, if_pos (by decide)]
      exact hK σ1 (fun _ _ => rfl) f
    | succ j ih =>
      intro m n σ1 h1 h2 g f hK
      obtain ⟨n, rfl⟩ : ∃ n', n = n' + 1 := ⟨n - 1, by omega⟩
      have hm : m < 4 := by omega
      have hv : vp_in (nI m) 4 := zin' hm (by omega)
      rw [wX8_image_L84, if_neg (show ¬ (4 : Int32) ≤ nI m from nI_ge (b := 4) hm (by omega))]
      refine ⟨hv, hv, ?_⟩
      rw [forall_eq, forall_eq, nI_1, zcl (by omega), g m hm]
      refine ih (m + 1) n _ (by omega) (by omega) (fun x hx => by rw [zput_ne (by decide)]; exact g x hx) (fun a ha => ?_) (fun σ2 e2 f2 => hK σ2 (fun o ho => by rw [e2 o ho, zput_ne ho]) f2)
      rw [zput_at]
      by_cases q : a = m
      · rw [if_pos ⟨rfl, q⟩, q]
      · rw [if_neg (fun z => q z.2)]; exact f a (by omega)
  have L2 : ∀ (K : zSt → Prop) (j m n : Nat) (σ1 : zSt), m + j = 8 → j < n → (∀ i, i < 8 → σ1.1 4 i = nI (A.1 1 i) ∧ σ1.1 5 i = nI (A.1 2 i) ∧ σ1.1 6 i = nI (A.1 3 i)) → (∀ i, i < m → σ1.1 15 i = nI (A.1 1 i) ∧ σ1.1 15 (8 + i) = nI (A.1 2 i) ∧ σ1.1 15 (16 + i) = nI (A.1 3 i)) → (∀ σ2 : zSt, (∀ o, o ≠ 15 → σ2.1 o = σ1.1 o) → (∀ i, i < 8 → σ2.1 15 i = nI (A.1 1 i) ∧ σ2.1 15 (8 + i) = nI (A.1 2 i) ∧ σ2.1 15 (16 + i) = nI (A.1 3 i)) → K σ2) → wX8_image_L28 Q K n (nI m) σ1 := by
    intro K j
    induction j with
    | zero =>
      intro m n σ1 h1 h2 g f hK
      obtain ⟨n, rfl⟩ : ∃ n', n = n' + 1 := ⟨n - 1, by omega⟩
      have : m = 8 := by omega
      subst this
      rw [wX8_image_L28, if_pos (by decide)]
      exact hK σ1 (fun _ _ => rfl) f
    | succ j ih =>
      intro m n σ1 h1 h2 g f hK
      obtain ⟨n, rfl⟩ : ∃ n', n = n' + 1 := ⟨n - 1, by omega⟩
      have hm : m < 8 := by omega
      have hv : vp_in (nI m) 8 := zin' hm (by omega)
      have hv2 : vp_in (nI m) 24 := zin' (by omega) (by omega)
      have hv3 : vp_in (nI (8 + m)) 24 := zin' (by omega) (by omega)
      have hv4 : vp_in (nI (16 + m)) 24 := zin' (by omega) (by omega)
      have e8 : (8 : Int32) + nI m = nI (8 + m) := nI_add 8 m
      have e16 : (16 : Int32) + nI m = nI (16 + m) := nI_add 16 m
      rw [wX8_image_L28, if_neg (show ¬ (8 : Int32) ≤ nI m from nI_ge (b := 8) hm (by omega)), e8, e16]
      simp only [hv, hv2, hv3, hv4, true_and, forall_eq, nI_1]
      rw [zcl (by omega), zcl (by omega), zcl (by omega)]
      have g' := g m hm
      refine ih (m + 1) n _ (by omega) (by omega) (fun x hx => ?_) (fun a ha => ?_) (fun σ2 e2 f2 => hK σ2 (fun o ho => by rw [e2 o ho, zput_ne ho, zput_ne ho, zput_ne ho]) f2)
      · rw [zput_ne (by decide), zput_ne (by decide), zput_ne (by decide), zput_ne (by decide), zput_ne (by decide), zput_ne (by decide), zput_ne (by decide), zput_ne (by decide), zput_ne (by decide)]
        exact g x hx
      · by_cases q : a = m
        · subst q
          have n1 : ¬ a = 8 + a := by omega
          have n2 : ¬ a = 16 + a := by omega
          have n3 : ¬ 8 + a = 16 + a := by omega
          simp [zput_at, n1, n2, n3, g']
        · have f' := f a (by omega)
          have n1 : ¬ a = 8 + m := by omega
          have n2 : ¬ a = 16 + m := by omega
          have n3 : ¬ 8 + a = m := by omega
          have n4 : ¬ 8 + a = 8 + m := by omega
          have n5 : ¬ 8 + a = 16 + m := by omega
          have n6 : ¬ 16 + a = m := by omega
          have n7 : ¬ 16 + a = 8 + m := by omega
          have n8 : ¬ 16 + a = 16 + m := by omega
          simpa [zput_at, q, n1, n2, n3, n4, n5, n6, n7, n8] using f'
  have L1 : ∀ (K : zSt → Prop) (j m n : Nat) (σ1 : zSt), m + j = 24 → j < n → (∀ x, x < 24 → σ1.1 9 x = nI (A.1 0 x)) → (∀ a, a < m → σ1.1 14 a = nI (A.1 0 a)) → (∀ σ2 : zSt, (∀ o, o ≠ 14 → σ2.1 o = σ1.1 o) → (∀ a, a < 24 → σ2.1 14 a = nI (A.1 0 a)) → K σ2) → wX8_image_L2 Q K n (nI m) σ1 := by
    intro K j
    induction j with
    | zero =>
      intro m n σ1 h1 h2 g f hK
      obtain ⟨n, rfl⟩ : ∃ n', n = n' + 1 := ⟨n - 1, by omega⟩
      have : m = 24 := by omega
      subst this
      rw [wX8_image_L2, if_pos (by decide)]
      exact hK σ1 (fun _ _ => rfl) f
    | succ j ih =>
      intro m n σ1 h1 h2 g f hK
      obtain ⟨n, rfl⟩ : ∃ n', n = n' + 1 := ⟨n - 1, by omega⟩
      have hm : m < 24 := by omega
      have hv : vp_in (nI m) 24 := zin' hm (by omega)
      rw [wX8_image_L2, if_neg (show ¬ (24 : Int32) ≤ nI m from nI_ge (b := 24) hm (by omega))]
      refine ⟨hv, hv, ?_⟩
      rw [forall_eq, forall_eq, nI_1, zcl (by omega), g m hm]
      refine ih (m + 1) n _ (by omega) (by omega) (fun x hx => by rw [zput_ne (by decide)]; exact g x hx) (fun a ha => ?_) (fun σ2 e2 f2 => hK σ2 (fun o ho => by rw [e2 o ho, zput_ne ho]) f2)
      rw [zput_at]
      by_cases q : a = m
      · rw [if_pos ⟨rfl, q⟩, q]
      · rw [if_neg (fun z => q z.2)]; exact f a (by omega)
  obtain ⟨g1, g2, g3, g4, g5, g6, g7, g8, g9⟩ := h.1
  unfold wX8_image
  refine L1 _ 24 0 300 σ (by omega) (by omega) g1 (fun a ha => by omega) (fun σ1 e1 f1 => ?_)
  refine L2 _ 8 0 300 σ1 (by omega) (by omega) (fun i hi => by rw [e1 4 (by decide), e1 5 (by decide), e1 6 (by decide)]; exact g2 i hi) (fun a ha => by omega) (fun σ2 e2 f2 => ?_)
  refine L3 _ 4 0 300 σ2 (by omega) (by omega) (fun x hx => by rw [e2 8 (by decide), e1 8 (by decide)]; exact (g3 x hx).2) (fun a ha => by omega) (fun σ3 e3 f3 => ?_)
  have e0 : ∀ o, o ≠ 14 → o ≠ 15 → o ≠ 16 → σ3.1 o = σ.1 o := fun o a b c => by rw [e3 o c, e2 o b, e1 o a]
  have e14 : σ3.1 14 = σ1.1 14 := by rw [e3 14 (by decide), e2 14 (by decide)]
  have e15 : σ3.1 15 = σ2.1 15 := e3 15 (by decide)
  have ez := e0 0 (by decide) (by decide) (by decide)
  simp only [forall_eq]
  unfold s_image at hQ
  dsimp only at hQ
  have fin : ∀ τ : zSt, (∀ o, o ≠ 0 → τ.1 o = σ3.1 o) → (∀ j, j < 40 → τ.1 0 j = σ.1 0 j) → τ.1 0 40 = nI (A.1 6 0) → τ.1 0 41 = nI (A.1 6 1) → τ.1 0 42 = nI (A.1 6 2) → τ.1 0 43 = nI (A.1 6 3) → τ.1 0 44 = nI (A.1 6 4) → τ.1 0 45 = nI (A.1 6 5) → Q (τ.1 0 10 + τ.1 0 11) τ := by
    intro τ t1 t2 k0 k1 k2 k3 k4 k5
    rw [t2 10 (by omega), t2 11 (by omega), g4, g5, nI_add]
    refine hQ τ ⟨h.1.fr (fun o ho => by rw [t1 o (by omega), e0 o (by omega) (by omega) (by omega)]) (fun j hj => t2 j (by omega)), ⟨fun m hm => ?_, fun i hi => ?_, fun x hx => ?_, k0, k1, k2, k3, k4, k5⟩, h.2.2.1.fr (by rw [t1 3 (by decide), e0 3 (by decide) (by decide) (by decide)]) (t2 6 (by omega)), h.2.2.2.1.fr (by rw [t1 1 (by decide), e0 1 (by decide) (by decide) (by decide)]) (by rw [t1 2 (by decide), e0 2 (by decide) (by decide) (by decide)]) (t2 3 (by omega)), h.2.2.2.2.fr (fun o ho => by rw [t1 o (by omega), e0 o (by omega) (by omega) (by omega)])⟩
    · rw [t1 14 (by decide), e14]; exact f1 m hm
    · rw [t1 15 (by decide), e15]; exact f2 i hi
    · rw [t1 16 (by decide)]; exact f3 x hx
  refine fin _ (fun o ho => by rw [zput_ne ho, zput_ne ho, zput_ne ho, zput_ne ho, zput_ne ho, zput_ne ho]) (fun j hj => by rw [zput_at, if_neg (by omega), zput_at, if_neg (by omega), zput_at, if_neg (by omega), zput_at, if_neg (by omega), zput_at, if_neg (by omega), zput_at, if_neg (by omega), ez]) ?_ ?_ ?_ ?_ ?_ ?_
  · simp [zput_at, ez, g4]
  · simp [zput_at, ez, g5]
  · simp [zput_at, ez, g6]
  · simp [zput_at, ez, g7]
  · simp [zput_at, ez, g8]
  · simp [zput_at, ez, g9]
