theorem m_taken {A : zA} {σ : zSt} (hi : zI A) (h : RM A σ) (x k : Int32) (Q : Int32 → zSt → Prop) (hQ : ∀ σ', RM (s_taken A x k).2 σ' → Q (s_taken A x k).1 σ') : wX8_taken x k σ Q := by
  have hq := hQ σ h
  unfold wX8_taken
  unfold s_taken at hq
  dsimp only at hq
  have hK := hi.1.2.2.2.2.2.1
  rw [forall_eq, p8_i5]
  by_cases c1 : zr k 6 = true
  rotate_left
  · rw [if_neg c1] at hq ⊢
    rw [if_pos rfl]; exact hq
  rw [if_pos c1] at hq ⊢
  rw [if_neg (by decide), forall_eq, forall_eq, h.1.2.2.2.2.2.1, p8_m (by omega)]
  by_cases c2 : zr x (A.1 6 2) = true
  rotate_left
  · rw [if_neg c2] at hq ⊢
    rw [if_pos rfl]; exact hq
  rw [if_pos c2] at hq ⊢
  rw [if_neg (by decide)]
  obtain ⟨x, hx, rfl⟩ := zr_of (by omega) c2
  obtain ⟨k, hk, rfl⟩ := zr_of (by omega) c1
  rw [zcl (by omega), zcl (by omega)] at hq
  have hx4 : x < 4 := by omega
  have hv : vp_in (nI x) 4 := zin' hx4 (by omega)
  have lk := (hi.1.2.2.1 x hx4).1
  have g1 : σ.1 7 x = nI (A.1 4 x) := (h.1.2.2.1 x hx4).1 hx
  have g2 : σ.1 8 x = nI (A.1 5 x) := (h.1.2.2.1 x hx4).2
  refine ⟨hv, ?_⟩
  rw [forall_eq, zcl (by omega), g1, p8_taken (by omega) hk]
  by_cases c3 : zund (A.1 4 x) k = true
  · rw [if_pos c3] at hq ⊢
    rw [if_pos rfl, g2]
    exact ⟨hv, hq⟩
  · rw [if_neg c3] at hq ⊢
    rw [if_neg (show ¬ (-1 : Int32) = nI k from fun z => by
      have := congrArg Int32.toInt z
      rw [nI_toInt (by omega), show ((-1 : Int32)).toInt = -1 from by decide] at this
      omega)]
    exact hq
