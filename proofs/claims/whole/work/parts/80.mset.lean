theorem p8_isHere {A : zA} {σ : zSt} (hi : zI A) (h : RM A σ) (s o : Int32) (Q : Int32 → zSt → Prop) : wX8_isHere s o σ Q = Q (if zr s 2 = true ∧ zr o (A.1 6 s.toNatClampNeg) = true then 1 else 0) σ := by
  unfold wX8_isHere
  have e0 : σ.1 0 10 = nI (A.1 6 0) := h.1.2.2.2.1
  have l0 := hi.1.2.2.2.1
  have e1 : σ.1 0 11 = nI (A.1 6 1) := h.1.2.2.2.2.1
  have l1 := hi.1.2.2.2.2.1
  rw [forall_eq, p8_i1]
  by_cases c1 : zr s 2 = true
  rotate_left
  · rw [if_neg c1, if_pos rfl, if_neg (fun q => c1 q.1)]
  rw [if_pos c1, if_neg (by decide)]
  obtain ⟨s, hs, rfl⟩ := zr_of (by omega) c1
  rw [zcl (by omega)]
  rcases (show s = 0 ∨ s = 1 by omega) with rfl | rfl
  · have t0 : nI 0 = (0 : Int32) := rfl
    rw [if_pos t0, forall_eq, forall_eq, e0, p8_m (by omega)]
    by_cases c2 : zr o (A.1 6 0) = true
    · rw [if_pos c2, if_neg (by decide), if_pos ⟨c1, c2⟩]
    · rw [if_neg c2, if_pos rfl, if_neg (fun q => c2 q.2)]
  · have t0 : ¬ nI 1 = (0 : Int32) := by decide
    rw [if_neg t0, forall_eq, forall_eq, e1, p8_m (by omega)]
    by_cases c2 : zr o (A.1 6 1) = true
    · rw [if_pos c2, if_neg (by decide), if_pos ⟨c1, c2⟩]
    · rw [if_neg c2, if_pos rfl, if_neg (fun q => c2 q.2)]
theorem RM.set1 {A : zA} {σ : zSt} (h : RM A σ) {c i v : Nat} (hc : c = 1 ∨ c = 2 ∨ c = 3) : RM (zDu A.1 c i v, A.2) (zput σ (3 + c) i (nI v)) := by
  obtain ⟨g1, g2, g3, g4, g5, g6, g7, g8, g9⟩ := h.1
  refine h.ch ?_ (fun o ho => by rw [zput_ne (by omega)]) (fun k hk => by rw [zput_ne (by omega)])
  rcases hc with rfl | rfl | rfl
  · refine ⟨by simpa [zput_at, zDu] using g1, fun k hk => ?_, by simpa [zput_at, zDu] using g3, by simpa [zput_at, zDu] using g4, by simpa [zput_at, zDu] using g5, by simpa [zput_at, zDu] using g6, by simpa [zput_at, zDu] using g7, by simpa [zput_at, zDu] using g8, by simpa [zput_at, zDu] using g9⟩
    have := g2 k hk
    by_cases q : k = i
    · subst q; simpa [zput_at, zDu] using this.2
    · simpa [zput_at, zDu, q] using this
  · refine ⟨by simpa [zput_at, zDu] using g1, fun k hk => ?_, by simpa [zput_at, zDu] using g3, by simpa [zput_at, zDu] using g4, by simpa [zput_at, zDu] using g5, by simpa [zput_at, zDu] using g6, by simpa [zput_at, zDu] using g7, by simpa [zput_at, zDu] using g8, by simpa [zput_at, zDu] using g9⟩
    have := g2 k hk
    by_cases q : k = i
    · subst q; simpa [zput_at, zDu] using ⟨this.1, this.2.2⟩
    · simpa [zput_at, zDu, q] using this
  · refine ⟨by simpa [zput_at, zDu] using g1, fun k hk => ?_, by simpa [zput_at, zDu] using g3, by simpa [zput_at, zDu] using g4, by simpa [zput_at, zDu] using g5, by simpa [zput_at, zDu] using g6, by simpa [zput_at, zDu] using g7, by simpa [zput_at, zDu] using g8, by simpa [zput_at, zDu] using g9⟩
    have := g2 k hk
    by_cases q : k = i
    · subst q; simpa [zput_at, zDu] using ⟨this.1, this.2.1⟩
    · simpa [zput_at, zDu, q] using this
theorem m_set {A : zA} {σ : zSt} (hi : zI A) (h : RM A σ) (s o w v : Int32) (Q : Int32 → zSt → Prop) (hQ : ∀ σ', RM (s_set A s o w v).2 σ' → Q (s_set A s o w v).1 σ') : wX8_set s o w v σ Q := by
  unfold wX8_set
  unfold s_set at hQ
  have hn : ¬ (zr s 2 = true ∧ zr o (A.1 6 s.toNatClampNeg) = true ∧ zr w 3 = true ∧ zr v (if w = 0 then 3 else if w = 1 then 24 else 10) = true) → Q (-2) σ := fun c => by rw [if_neg c] at hQ; exact hQ σ h
  rw [p8_isHere hi h]
  by_cases c1 : zr s 2 = true ∧ zr o (A.1 6 s.toNatClampNeg) = true
  rotate_left
  · rw [if_neg c1, if_pos rfl]; exact hn (fun q => c1 ⟨q.1, q.2.1⟩)
  rw [if_pos c1, if_neg (by decide), forall_eq, p8_i2]
  by_cases cw : zr w 3 = true
  rotate_left
  · rw [if_neg cw, if_pos rfl]; exact hn (fun q => cw q.2.2.1)
  rw [if_pos cw, if_neg (by decide)]
  obtain ⟨c1, c2⟩ := c1
  obtain ⟨s, hs, rfl⟩ := zr_of (by omega) c1
  rw [zcl (by omega)] at c2 hQ hn
  have h4 : A.1 6 s ≤ 4 := by
    rcases (show s = 0 ∨ s = 1 by omega) with rfl | rfl
    · exact hi.1.2.2.2.1
    · exact hi.1.2.2.2.2.1
  obtain ⟨o, ho, rfl⟩ := zr_of (by omega) c2
  rw [zcl (by omega)] at hQ
  rw [zat4]
  have hi8 : s * 4 + o < 8 := by omega
  have hv : vp_in (nI (s * 4 + o)) 8 := zin' hi8 (by omega)
  have g2 := h.1.2.1 (s * 4 + o) hi8
  obtain ⟨w, hw, rfl⟩ := zr_of (by omega) cw
  rw [zcl (by omega)] at hQ
  have hc : w = 0 ∨ w = 1 ∨ w = 2 := by omega
  rcases hc with rfl | rfl | rfl
  · have t0 : nI 0 = (0 : Int32) := rfl
    simp only [if_pos t0, forall_eq] at hQ hn ⊢
    rw [p8_i2]
    by_cases c3 : zr v 3 = true
    · rw [if_pos ⟨c1, c2, cw, c3⟩] at hQ
      rw [if_pos c3, if_neg (by decide)]
      obtain ⟨v, hvv, rfl⟩ := zr_of (by omega) c3
      rw [zcl (by omega)] at hQ
      simp only [hv, true_and]
      rw [zcl (by omega), g2.1]
      exact hQ _ (h.set1 (c := 1) (by omega))
    · rw [if_neg c3, if_pos rfl]
      exact hn (fun q => c3 q.2.2.2)
  · have t0 : ¬ nI 1 = (0 : Int32) := by decide
    have t1 : nI 1 = (1 : Int32) := rfl
    simp only [if_neg t0, if_pos t1, forall_eq] at hQ hn ⊢
    rw [p8_i23]
    by_cases c3 : zr v 24 = true
    · rw [if_pos ⟨c1, c2, cw, c3⟩] at hQ
      rw [if_pos c3, if_neg (by decide)]
      obtain ⟨v, hvv, rfl⟩ := zr_of (by omega) c3
      rw [zcl (by omega)] at hQ
      simp only [hv, true_and]
      rw [zcl (by omega), g2.2.1]
      exact hQ _ (h.set1 (c := 2) (by omega))
    · rw [if_neg c3, if_pos rfl]
      exact hn (fun q => c3 q.2.2.2)
  · have t0 : ¬ nI 2 = (0 : Int32) := by decide
    have t1 : ¬ nI 2 = (1 : Int32) := by decide
    simp only [if_neg t0, if_neg t1, forall_eq] at hQ hn ⊢
    rw [p8_i9]
    by_cases c3 : zr v 10 = true
    · rw [if_pos ⟨c1, c2, cw, c3⟩] at hQ
      rw [if_pos c3, if_neg (by decide)]
      obtain ⟨v, hvv, rfl⟩ := zr_of (by omega) c3
      rw [zcl (by omega)] at hQ
      simp only [hv, true_and]
      rw [zcl (by omega), g2.2.2]
      exact hQ _ (h.set1 (c := 3) (by omega))
    · rw [if_neg c3, if_pos rfl]
      exact hn (fun q => c3 q.2.2.2)
/-! costs -/
def zmy (σ σ' : zSt) : Prop := (∀ o, o ≠ 0 → σ'.1 o = σ.1 o) ∧ ∀ j, (j < 18 ∨ 33 ≤ j) → σ'.1 0 j = σ.1 0 j
theorem zmy.keep {A : zA} {σ σ' : zSt} (h : RM A σ) (e : zmy σ σ') : RM A σ' := h.keep (fun o ho => e.1 o (by omega)) (fun j hj => e.2 j (by omega))
theorem p8_within (v : Int32) (σ : zSt) (Q : Int32 → zSt → Prop) : wX8_within v 0 99 σ Q = Q (nI (zclamp v)) σ := by
  unfold wX8_within
  rw [zclamp_eq]
  by_cases c1 : v < 0
  · rw [if_pos c1, if_neg (fun q => by rw [Int32.le_iff_toInt_le] at q; rw [Int32.lt_iff_toInt_lt] at c1; omega)]
  · rw [if_neg c1, if_pos (by rw [Int32.le_iff_toInt_le]; rw [Int32.lt_iff_toInt_lt] at c1; omega)]
    by_cases c2 : 99 < v
    · rw [if_pos c2, if_neg (fun q => by rw [Int32.le_iff_toInt_le] at q; rw [Int32.lt_iff_toInt_lt] at c2; omega)]
    · rw [if_neg c2, if_pos (by rw [Int32.le_iff_toInt_le]; rw [Int32.lt_iff_toInt_lt] at c2; omega)]
theorem p8_costOf {A : zA} {σ : zSt} (hi : zI A) (h : RM A σ) {i m : Nat} (h8 : i < 8) (Q : Int32 → zSt → Prop) (hQ : ∀ σ', zmy σ σ' → Q (nI (zcost A.1 A.2.2.2.1.2 i m)) σ') : wX8_costOf (nI i) (nI m) σ Q := by
  unfold wX8_costOf
  have hv : vp_in (nI i) 8 := zin' h8 (by omega)
  have g2 := h.1.2.1 i h8
  have er : σ.1 0 4 = nI (A.1 6 5) := h.1.2.2.2.2.2.2.2.2
  have e0 : σ.1 0 10 = nI (A.1 6 0) := h.1.2.2.2.1
  have e1 : σ.1 0 11 = nI (A.1 6 1) := h.1.2.2.2.2.1
  have hl := hi.2.2.2.1
  obtain ⟨n, T, hn, k1, k2, k3⟩ := h.2.2.2.1.2 (A.1 6 5) hl.2.2
  simp only [hv, true_and, forall_eq]
  rw [zcl (by omega)]
  generalize hτ : zput (zput (zput (zput (zput (zput σ 0 18 _) 0 19 _) 0 20 _) 0 21 _) 0 22 _) 0 23 _ = τ
  have f1 : ∀ o, o ≠ 0 → τ.1 o = σ.1 o := fun o ho => by
    rw [← hτ, zput_ne ho, zput_ne ho, zput_ne ho, zput_ne ho, zput_ne ho, zput_ne ho]
  have f2 : ∀ j, (j < 18 ∨ 24 ≤ j) → τ.1 0 j = σ.1 0 j := fun j hj => by
    rw [← hτ, zput_at, if_neg (by omega), zput_at, if_neg (by omega), zput_at, if_neg (by omega), zput_at, if_neg (by omega), zput_at, if_neg (by omega), zput_at, if_neg (by omega)]
  have f3 : ∀ k, k < 6 → τ.1 0 (18 + k) = znm (nI m - nI (A.1 2 i)) (nI (A.1 3 i)) (nI m) (nI (A.1 1 i)) 0 (nI (A.1 6 0 + A.1 6 1)) k := by
    intro k hk
    rw [← hτ]
    rcases (show k = 0 ∨ k = 1 ∨ k = 2 ∨ k = 3 ∨ k = 4 ∨ k = 5 by omega) with rfl | rfl | rfl | rfl | rfl | rfl <;> simp [zput_at, znm, g2, e0, e1, nI_add]
  rw [f2 4 (by omega), er]
  have key : ∀ p, p < 3 → ∀ R : Int32 → zSt → Prop, (∀ σ', zmy σ σ' → R (zworth (znm (nI m - nI (A.1 2 i)) (nI (A.1 3 i)) (nI m) (nI (A.1 1 i)) 0 (nI (A.1 6 0 + A.1 6 1))) (A.2.2.2.1.2 (A.1 6 5) p)) σ') → wX8_read (nI (A.1 6 5)) (nI p) τ R := by
    intro p hp R hR
    refine k3 (A.1 6 5) p τ _ (by omega) hp (by rw [f1 2 (by decide)]; exact k1) (fun j hj => by rw [f1 1 (by decide)]; exact k2 j hj) f3 R (fun σ' e => hR σ' ⟨fun o ho => (e.1 o ho).trans (f1 o ho), fun j hj => (e.2 j (by omega)).trans (f2 j (by omega))⟩)
  unfold zcost at hQ
  by_cases c : i < 4
  · rw [if_pos c] at hQ
    rw [if_neg (show ¬ (4 : Int32) ≤ nI i from nI_ge (b := 4) c (by omega))]
    refine key 0 (by omega) _ (fun σ' e => ?_)
    rw [p8_within]
    exact hQ σ' e
  · rw [if_neg c] at hQ
    rw [if_pos (show (4 : Int32) ≤ nI i from nI_le (a := 4) (by omega) (by omega))]
    refine key 1 (by omega) _ (fun σ' e => ?_)
    rw [p8_within]
    exact hQ σ' e
theorem p8_changeOf {A : zA} {σ : zSt} (hi : zI A) (h : RM A σ) (m was is : Nat) (Q : Int32 → zSt → Prop) (hQ : ∀ σ', zmy σ σ' → Q (nI (zchg A.1 A.2.2.2.1.2 m was is)) σ') : wX8_changeOf (nI m) (nI is) (nI was) σ Q := by
  unfold wX8_changeOf
  have er : σ.1 0 4 = nI (A.1 6 5) := h.1.2.2.2.2.2.2.2.2
  have e0 : σ.1 0 10 = nI (A.1 6 0) := h.1.2.2.2.1
  have e1 : σ.1 0 11 = nI (A.1 6 1) := h.1.2.2.2.2.1
  have hl := hi.2.2.2.1
  obtain ⟨n, T, hn, k1, k2, k3⟩ := h.2.2.2.1.2 (A.1 6 5) hl.2.2
  simp only [forall_eq]
  generalize hτ : zput (zput (zput (zput (zput (zput σ 0 18 _) 0 19 _) 0 20 _) 0 21 _) 0 22 _) 0 23 _ = τ
  have f1 : ∀ o, o ≠ 0 → τ.1 o = σ.1 o := fun o ho => by
    rw [← hτ, zput_ne ho, zput_ne ho, zput_ne ho, zput_ne ho, zput_ne ho, zput_ne ho]
  have f2 : ∀ j, (j < 18 ∨ 24 ≤ j) → τ.1 0 j = σ.1 0 j := fun j hj => by
    rw [← hτ, zput_at, if_neg (by omega), zput_at, if_neg (by omega), zput_at, if_neg (by omega), zput_at, if_neg (by omega), zput_at, if_neg (by omega), zput_at, if_neg (by omega)]
  have f3 : ∀ k, k < 6 → τ.1 0 (18 + k) = znm 0 0 (nI m) (nI is) (nI was) (nI (A.1 6 0 + A.1 6 1)) k := by
    intro k hk
    rw [← hτ]
    rcases (show k = 0 ∨ k = 1 ∨ k = 2 ∨ k = 3 ∨ k = 4 ∨ k = 5 by omega) with rfl | rfl | rfl | rfl | rfl | rfl <;> simp [zput_at, znm, e0, e1, nI_add]
  rw [f2 4 (by omega), er]
  unfold zchg at hQ
  refine k3 (A.1 6 5) 2 τ _ (by omega) (by omega) (by rw [f1 2 (by decide)]; exact k1) (fun j hj => by rw [f1 1 (by decide)]; exact k2 j hj) f3 _ (fun σ' e => ?_)
  rw [p8_within]
  exact hQ σ' ⟨fun o ho => (e.1 o ho).trans (f1 o ho), fun j hj => (e.2 j (by omega)).trans (f2 j (by omega))⟩
