theorem RM.setRow {A : zA} {σ σ' : zSt} {row : Nat → Nat} (h : RM A σ) (e : ∀ o, o ≠ 9 → o ≠ 10 → σ'.1 o = σ.1 o) (hr : ∀ m, m < 24 → σ'.1 9 m = nI (row m)) : RM (zDp A.1 row, A.2) σ' := by
  obtain ⟨g1, g2, g3, g4⟩ := h.1
  refine h.ch (D' := zDp A.1 row) ⟨fun m hm => ?_, fun i hi => ?_, fun x hx => ?_, ?_⟩ (fun o ho => e o (by omega) (by omega)) (fun j hj => by rw [e 0 (by decide) (by decide)])
  · simpa [zDp] using hr m hm
  · rw [e 4 (by decide) (by decide), e 5 (by decide) (by decide), e 6 (by decide) (by decide)]
    simpa [zDp] using g2 i hi
  · rw [e 7 (by decide) (by decide), e 8 (by decide) (by decide)]
    simpa [zDp] using g3 x hx
  · rw [e 0 (by decide) (by decide)]
    simpa [zDp] using g4
theorem m_follow_L {row : Nat → Nat} (Q : Int32 → zSt → Prop) (K : zSt → Prop) : ∀ (j m n : Nat) (σ1 : zSt), m + j = 24 → j < n → zIsRow 10 row σ1 → (∀ a, a < m → σ1.1 9 a = nI (row a)) → (∀ σ2 : zSt, (∀ o, o ≠ 9 → σ2.1 o = σ1.1 o) → (∀ a, a < 24 → σ2.1 9 a = nI (row a)) → K σ2) → wX8_follow_L26 Q K n (nI m) σ1 := by
  intro j
  induction j with
  | zero =>
    intro m n σ1 h1 h2 g f hK
    obtain ⟨n, rfl⟩ : ∃ n', n = n' + 1 := ⟨n - 1, by omega⟩
    have : m = 24 := by omega
    subst this
    rw [wX8_follow_L26, if_pos (by decide)]
    exact hK σ1 (fun _ _ => rfl) f
  | succ j ih =>
    intro m n σ1 h1 h2 g f hK
    obtain ⟨n, rfl⟩ : ∃ n', n = n' + 1 := ⟨n - 1, by omega⟩
    have hm : m < 24 := by omega
    have hv : vp_in (nI m) 24 := zin' hm (by omega)
    rw [wX8_follow_L26, if_neg (show ¬ (24 : Int32) ≤ nI m from nI_ge (b := 24) hm (by omega))]
    refine ⟨hv, hv, ?_⟩
    rw [forall_eq, forall_eq, nI_1, zcl (by omega), (g m hm).1]
    refine ih (m + 1) n _ (by omega) (by omega) (fun x hx => by rw [zput_ne (by decide)]; exact g x hx) (fun a ha => ?_) (fun σ2 e2 f2 => hK σ2 (fun o ho => by rw [e2 o ho, zput_ne ho]) f2)
    rw [zput_at]
    by_cases q : a = m
    · rw [if_pos ⟨rfl, q⟩, q]
    · rw [if_neg (fun z => q z.2)]; exact f a (by omega)
