theorem m_run {A : zA} {σ : zSt} (hi : zI A) (h : RM A σ) (x m : Int32) (Q : Int32 → zSt → Prop) (hQ : ∀ σ', RM (s_run A x m).2 σ' → Q (s_run A x m).1 σ') : wX8_run x m σ Q := by
  unfold wX8_run
  unfold s_run at hQ
  dsimp only at hQ
  have hK := hi.1.2.2.2.2.2.1
  rw [forall_eq, forall_eq, h.1.2.2.2.2.2.1, p8_m (by omega)]
  by_cases c1 : zr x (A.1 6 2) = true
  rotate_left
  · rw [if_neg c1] at hQ ⊢
    rw [if_pos rfl]; exact hQ σ h
  rw [if_pos c1] at hQ ⊢
  rw [if_neg (by decide), forall_eq, p8_neg (n := 23) (by omega) (by decide)]
  obtain ⟨x, hx, rfl⟩ := zr_of (by omega) c1
  rw [zcl (by omega)] at hQ
  by_cases c2 : m = -1
  · rw [if_pos c2] at hQ
    rw [if_pos (Or.inl c2), if_neg (by decide)]
    refine p8_runs hi h hx _ (fun σ' e hr => ?_)
    rw [if_pos c2]
    exact p8_rowCost hi (h.takes e) hr _ (fun σ2 e2 => hQ σ2 (zmy.keep (h.takes e) e2))
  · rw [if_neg c2] at hQ
    by_cases c3 : zr m 24 = true
    rotate_left
    · rw [if_neg c3] at hQ
      rw [if_neg (show ¬ (m = -1 ∨ zr m (23 + 1) = true) from fun z => z.elim c2 c3), if_pos rfl]; exact hQ σ h
    rw [if_pos c3] at hQ
    rw [if_pos (Or.inr c3), if_neg (by decide)]
    refine p8_runs hi h hx _ (fun σ' e hr => ?_)
    rw [if_neg c2]
    obtain ⟨m, hm, rfl⟩ := zr_of (by omega) c3
    refine ⟨zin' hm (by omega), ?_⟩
    rw [zcl (by omega)] at hQ ⊢
    rw [(hr m hm).1]
    exact hQ σ' (h.takes e)
