theorem zI_row {A : zA} (h : zI A) {row : Nat → Nat} (hr : ∀ m, m < 24 → row m < 3) : zI (zDp A.1 row, A.2) := by
  obtain ⟨h1, h2, h3, h4, h5⟩ := h
  obtain ⟨k1, k2, k3, k4⟩ := h1
  refine ⟨⟨fun m hm => ?_, fun i hi => ?_, fun x hx => ?_, ?_⟩, ?_, h3, ?_, h5⟩
  · simpa [zDp] using hr m hm
  · simpa [zDp] using k2 i hi
  · simpa [zDp] using k3 x hx
  · simpa [zDp] using k4
  · cases hk : A.2.1 with
    | none => simp [zimg]
    | some K => rw [hk] at h2; simpa [zimg, zDp] using h2
  · simpa [zDp] using h4
theorem m_follow {A : zA} {σ : zSt} (hi : zI A) (h : RM A σ) (x : Int32) (Q : Int32 → zSt → Prop) (hQ : ∀ σ', RM (s_follow A x).2 σ' → Q (s_follow A x).1 σ') : wX8_follow x σ Q := by
  unfold wX8_follow
  unfold s_follow at hQ
  have hK := hi.1.2.2.2.2.2.1
  rw [forall_eq, forall_eq, h.1.2.2.2.2.2.1, p8_m (by omega)]
  by_cases c1 : zr x (A.1 6 2) = true
  rotate_left
  · rw [if_neg c1] at hQ ⊢
    rw [if_pos rfl]; exact hQ σ h
  rw [if_pos c1] at hQ ⊢
  rw [if_neg (by decide)]
  obtain ⟨x, hx, rfl⟩ := zr_of (by omega) c1
  rw [zcl (by omega)] at hQ
  dsimp only at hQ
  refine p8_runs hi h hx _ (fun σ' e hr => ?_)
  refine m_follow_L Q _ 24 0 300 σ' (by omega) (by omega) hr (fun a ha => by omega) (fun σ2 e2 f2 => ?_)
  have h2 := h.setRow (σ' := σ2) (row := zrun A.1 x) (fun o a b => by rw [e2 o a, e o b]) f2
  have hi2 := zI_row hi (row := zrun A.1 x) (fun m _ => zrunF_lt _ _ _ _)
  exact p8_rowCost hi2 h2 (fun m hm => by rw [e2 10 (by decide)]; exact hr m hm) _ (fun σ3 e3 => hQ σ3 (zmy.keep h2 e3))
