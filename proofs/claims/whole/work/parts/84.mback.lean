theorem m_back {A : zA} {σ : zSt} (hi : zI A) (h : RM A σ) (Q : Int32 → zSt → Prop) (hQ : ∀ σ', RM (s_back A).2 σ' → Q (s_back A).1 σ') : wX8_back σ Q := by
  unfold wX8_back
  unfold s_back at hQ
  have hk := h.2.1
  have hg := hi.2.1
  cases hK : A.2.1 with
  | none =>
    rw [hK] at hk hQ
    rw [if_pos (show σ.1 0 40 = -1 from hk)]
    exact hQ σ h
  | some D =>
    rw [hK] at hk hQ hg
    obtain ⟨k1, k2, k3, k4, k5, k6, k7, k8, k9⟩ := hk
    obtain ⟨oD, d1, d2, d3⟩ := hg
    have l0 := oD.2.2.2.1
    rw [if_neg (show ¬ σ.1 0 40 = -1 from fun z => by
      rw [k4] at z
      have := congrArg Int32.toInt z
      rw [nI_toInt (by omega), show ((-1 : Int32)).toInt = -1 from by decide] at this
      omega)]
    have L3 : ∀ (K : zSt → Prop) (j m n : Nat) (σ1 : zSt), m + j = 4 → j < n → (∀ x, x < 4 → σ1.1 16 x = nI (D 5 x)) → (∀ a, a < m → σ1.1 8 a = nI (D 5 a)) → (∀ σ2 : zSt, (∀ o, o ≠ 8 → σ2.1 o = σ1.1 o) → (∀ a, a < 4 → σ2.1 8 a = nI (D 5 a)) → K σ2) → wX8_back_L95 Q K n (nI m) σ1 := by
      intro K j
      induction j with
      | zero =>
        intro m n σ1 h1 h2 g f hK
        obtain ⟨n, rfl⟩ : ∃ n', n = n' + 1 := ⟨n - 1, by omega⟩
        have : m = 4 := by omega
        subst this
        rw [wX8_back_L95, if_pos (by decide)]
        exact hK σ1 (fun _ _ => rfl) f
      | succ j ih =>
        intro m n σ1 h1 h2 g f hK
        obtain ⟨n, rfl⟩ : ∃ n', n = n' + 1 := ⟨n - 1, by omega⟩
        have hm : m < 4 := by omega
        have hv : vp_in (nI m) 4 := zin' hm (by omega)
        rw [wX8_back_L95, if_neg (show ¬ (4 : Int32) ≤ nI m from nI_ge (b := 4) hm (by omega))]
        refine ⟨hv, hv, ?_⟩
        rw [forall_eq, forall_eq, nI_1, zcl (by omega), g m hm]
        refine ih (m + 1) n _ (by omega) (by omega) (fun x hx => by rw [zput_ne (by decide)]; exact g x hx) (fun a ha => ?_) (fun σ2 e2 f2 => hK σ2 (fun o ho => by rw [e2 o ho, zput_ne ho]) f2)
        rw [zput_at]
        by_cases q : a = m
        · rw [if_pos ⟨rfl, q⟩, q]
        · rw [if_neg (fun z => q z.2)]; exact f a (by omega)
    have L2 : ∀ (K : zSt → Prop) (j m n : Nat) (σ1 : zSt), m + j = 8 → j < n → (∀ i, i < 8 → σ1.1 15 i = nI (D 1 i) ∧ σ1.1 15 (8 + i) = nI (D 2 i) ∧ σ1.1 15 (16 + i) = nI (D 3 i)) → (∀ i, i < m → σ1.1 4 i = nI (D 1 i) ∧ σ1.1 5 i = nI (D 2 i) ∧ σ1.1 6 i = nI (D 3 i)) → (∀ σ2 : zSt, (∀ o, o ≠ 4 → o ≠ 5 → o ≠ 6 → σ2.1 o = σ1.1 o) → (∀ i, i < 8 → σ2.1 4 i = nI (D 1 i) ∧ σ2.1 5 i = nI (D 2 i) ∧ σ2.1 6 i = nI (D 3 i)) → K σ2) → wX8_back_L39 Q K n (nI m) σ1 := by
      intro K j
      induction j with
      | zero =>
        intro m n σ1 h1 h2 g f hK
        obtain ⟨n, rfl⟩ : ∃ n', n = n' + 1 := ⟨n - 1, by omega⟩
        have : m = 8 := by omega
        subst this
        rw [wX8_back_L39, if_pos (by decide)]
        exact hK σ1 (fun _ _ _ _ => rfl) f
      | succ j ih =>
        intro m n σ1 h1 h2 g f hK
        obtain ⟨n, rfl⟩ : ∃ n', n = n' + 1 := ⟨n - 1, by omega⟩
        have hm : m < 8 := by omega
        have hv : vp_in (nI m) 8 := zin' hm (by omega)
        have hv2 : vp_in (nI m) 24 := zin' (by omega) (by omega)
        have hv3 : vp_in (nI (8 + m)) 24 := zin' (by omega) (by omega)
        have hv4 : vp_in (nI (16 + m)) 24 := zin' (by omega) (by omega)
        have e8 : (8 : Int32) + nI m = nI (8 + m) := nI_add 8 m
        have e16 : (16 : Int32) + nI m = nI (16 + m) := nI_add 16 m
        rw [wX8_back_L39, if_neg (show ¬ (8 : Int32) ≤ nI m from nI_ge (b := 8) hm (by omega)), e8, e16]
        simp only [hv, hv2, hv3, hv4, true_and, forall_eq, nI_1]
        rw [zcl (by omega), zcl (by omega), zcl (by omega)]
        have g' := g m hm
        refine ih (m + 1) n _ (by omega) (by omega) (fun x hx => ?_) (fun a ha => ?_) (fun σ2 e2 f2 => hK σ2 (fun o a b c => by rw [e2 o a b c, zput_ne c, zput_ne b, zput_ne a]) f2)
        · have := g x hx
          simpa [zput_at] using this
        · by_cases q : a = m
          · subst q
            simp [zput_at, g']
          · have f' := f a (by omega)
            simpa [zput_at, q] using f'
    have L1 : ∀ (K : zSt → Prop) (j m n : Nat) (σ1 : zSt), m + j = 24 → j < n → (∀ x, x < 24 → σ1.1 14 x = nI (D 0 x)) → (∀ a, a < m → σ1.1 9 a = nI (D 0 a)) → (∀ σ2 : zSt, (∀ o, o ≠ 9 → σ2.1 o = σ1.1 o) → (∀ a, a < 24 → σ2.1 9 a = nI (D 0 a)) → K σ2) → wX8_back_L13 Q K n (nI m) σ1 := by
      intro K j
      induction j with
      | zero =>
        intro m n σ1 h1 h2 g f hK
        obtain ⟨n, rfl⟩ : ∃ n', n = n' + 1 := ⟨n - 1, by omega⟩
        have : m = 24 := by omega
        subst this
        rw [wX8_back_L13, if_pos (by decide)]
        exact hK σ1 (fun _ _ => rfl) f
      | succ j ih =>
        intro m n σ1 h1 h2 g f hK
        obtain ⟨n, rfl⟩ : ∃ n', n = n' + 1 := ⟨n - 1, by omega⟩
        have hm : m < 24 := by omega
        have hv : vp_in (nI m) 24 := zin' hm (by omega)
        rw [wX8_back_L13, if_neg (show ¬ (24 : Int32) ≤ nI m from nI_ge (b := 24) hm (by omega))]
        refine ⟨hv, hv, ?_⟩
        rw [forall_eq, forall_eq, nI_1, zcl (by omega), g m hm]
        refine ih (m + 1) n _ (by omega) (by omega) (fun x hx => by rw [zput_ne (by decide)]; exact g x hx) (fun a ha => ?_) (fun σ2 e2 f2 => hK σ2 (fun o ho => by rw [e2 o ho, zput_ne ho]) f2)
        rw [zput_at]
        by_cases q : a = m
        · rw [if_pos ⟨rfl, q⟩, q]
        · rw [if_neg (fun z => q z.2)]; exact f a (by omega)
    refine L1 _ 24 0 300 σ (by omega) (by omega) k1 (fun a ha => by omega) (fun σ1 e1 f1 => ?_)
    refine L2 _ 8 0 300 σ1 (by omega) (by omega) (fun i hi => by rw [e1 15 (by decide)]; exact k2 i hi) (fun a ha => by omega) (fun σ2 e2 f2 => ?_)
    refine L3 _ 4 0 300 σ2 (by omega) (by omega) (fun x hx => by rw [e2 16 (by decide) (by decide) (by decide), e1 16 (by decide)]; exact k3 x hx) (fun a ha => by omega) (fun σ3 e3 f3 => ?_)
    have e0 : ∀ o, ¬ (4 ≤ o ∧ o ≤ 6) → o ≠ 8 → o ≠ 9 → σ3.1 o = σ.1 o := fun o a b c => by rw [e3 o b, e2 o (by omega) (by omega) (by omega), e1 o c]
    have ez := e0 0 (by omega) (by decide) (by decide)
    simp only [forall_eq]
    dsimp only at hQ
    have fin : ∀ τ : zSt, (∀ o, o ≠ 0 → τ.1 o = σ3.1 o) → (∀ j, (j = 3 ∨ j = 6 ∨ 40 ≤ j) → τ.1 0 j = σ.1 0 j) → τ.1 0 10 = nI (D 6 0) → τ.1 0 11 = nI (D 6 1) → τ.1 0 16 = nI (D 6 2) → τ.1 0 12 = nI (D 6 3) → τ.1 0 13 = nI (D 6 4) → τ.1 0 4 = nI (D 6 5) → Q (τ.1 0 10 + τ.1 0 11) τ := by
      intro τ t1 t2 q0 q1 q2 q3 q4 q5
      rw [q0, q1, nI_add]
      refine hQ τ (h.ch ⟨fun m hm => ?_, fun i hi => ?_, fun x hx => ⟨fun hx2 => ?_, ?_⟩, q0, q1, q2, q3, q4, q5⟩ (fun o ho => by rw [t1 o (by omega), e0 o (by omega) (by omega) (by omega)]) t2)
      · rw [t1 9 (by decide), e3 9 (by decide), e2 9 (by decide) (by decide) (by decide)]; exact f1 m hm
      · rw [t1 4 (by decide), t1 5 (by decide), t1 6 (by decide), e3 4 (by decide), e3 5 (by decide), e3 6 (by decide)]; exact f2 i hi
      · rw [t1 7 (by decide), e0 7 (by omega) (by decide) (by decide), d2 x hx2]; exact (h.1.2.2.1 x hx).1 (by omega)
      · rw [t1 8 (by decide)]; exact f3 x hx
    refine fin _ (fun o ho => by rw [zput_ne ho, zput_ne ho, zput_ne ho, zput_ne ho, zput_ne ho, zput_ne ho]) (fun j hj => by rw [zput_at, if_neg (by omega), zput_at, if_neg (by omega), zput_at, if_neg (by omega), zput_at, if_neg (by omega), zput_at, if_neg (by omega), zput_at, if_neg (by omega), ez]) ?_ ?_ ?_ ?_ ?_ ?_
    · simp [zput_at, ez, k4]
    · simp [zput_at, ez, k5]
    · simp [zput_at, ez, k6]
    · simp [zput_at, ez, k7]
    · simp [zput_at, ez, k8]
    · simp [zput_at, ez, k9]
