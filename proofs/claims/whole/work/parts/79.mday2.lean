theorem m_law {A : zA} {σ : zSt} (hi : zI A) (h : RM A σ) (w o v : Int32) (Q : Int32 → zSt → Prop) (hQ : ∀ σ', RM (s_law A w o v).2 σ' → Q (s_law A w o v).1 σ') : wX8_law w o v σ Q := by
  obtain ⟨g1, g2, g3, g4, g5, g6, g7, g8, g9⟩ := h.1
  have h4 := hi.1.2.2.2.2.2.1
  unfold wX8_law
  unfold s_law at hQ
  rw [forall_eq, p8_i2]
  by_cases c1 : zr w 3 = true
  rotate_left
  · rw [if_neg c1, if_pos rfl]
    have hn : ∀ k, k < 3 → w ≠ nI k := fun k hk e => c1 (by rw [e]; exact zr_nI hk (by omega))
    rw [if_neg (show ¬ w = (0 : Int32) from hn 0 (by omega)), if_neg (show ¬ w = (1 : Int32) from hn 1 (by omega)), if_neg (show ¬ w = (2 : Int32) from hn 2 (by omega))] at hQ
    exact hQ σ h
  rw [if_pos c1, if_neg (by decide)]
  obtain ⟨w, hw, rfl⟩ := zr_of (by omega) c1
  have hc : w = 0 ∨ w = 1 ∨ w = 2 := by omega
  rcases hc with rfl | rfl | rfl
  · have t0 : nI 0 = (0 : Int32) := rfl
    have t2 : ¬ nI 0 = (2 : Int32) := by decide
    simp only [if_pos t0, if_neg t2, forall_eq] at hQ ⊢
    rw [p8_one (n := 4) (by omega) (by decide)]
    by_cases c2 : zr v 5 = true ∧ ¬ v = 0
    · rw [if_pos c2] at hQ ⊢
      rw [if_neg (by decide), g7]
      obtain ⟨j, hj, rfl⟩ := zr_of (by omega) c2.1
      rw [zcl (by omega)] at hQ
      refine hQ _ (h.ch ⟨by simpa [zput_at, zDu] using g1, by simpa [zput_at, zDu] using g2, by simpa [zput_at, zDu] using g3, by simpa [zput_at, zDu] using g4, by simpa [zput_at, zDu] using g5, by simpa [zput_at, zDu] using g6, by simp [zput_at, zDu], by simpa [zput_at, zDu] using g8, by simpa [zput_at, zDu] using g9⟩ (fun o ho => by rw [zput_ne (by omega)]) (fun k hk => by rw [zput_at, if_neg (by omega)]))
    · rw [if_neg c2] at hQ ⊢
      rw [if_pos rfl]
      exact hQ σ h
  · have t0 : ¬ nI 1 = (0 : Int32) := by decide
    have t1 : nI 1 = (1 : Int32) := rfl
    have t2 : ¬ nI 1 = (2 : Int32) := by decide
    simp only [if_neg t0, if_pos t1, if_neg t2, forall_eq] at hQ ⊢
    rw [p8_one (n := 9) (by omega) (by decide)]
    by_cases c2 : zr v 10 = true ∧ ¬ v = 0
    · rw [if_pos c2] at hQ ⊢
      rw [if_neg (by decide), g8]
      obtain ⟨j, hj, rfl⟩ := zr_of (by omega) c2.1
      rw [zcl (by omega)] at hQ
      refine hQ _ (h.ch ⟨by simpa [zput_at, zDu] using g1, by simpa [zput_at, zDu] using g2, by simpa [zput_at, zDu] using g3, by simpa [zput_at, zDu] using g4, by simpa [zput_at, zDu] using g5, by simpa [zput_at, zDu] using g6, by simpa [zput_at, zDu] using g7, by simp [zput_at, zDu], by simpa [zput_at, zDu] using g9⟩ (fun o ho => by rw [zput_ne (by omega)]) (fun k hk => by rw [zput_at, if_neg (by omega)]))
    · rw [if_neg c2] at hQ ⊢
      rw [if_pos rfl]
      exact hQ σ h
  · have t0 : ¬ nI 2 = (0 : Int32) := by decide
    have t1 : ¬ nI 2 = (1 : Int32) := by decide
    have t2 : nI 2 = (2 : Int32) := rfl
    simp only [if_neg t0, if_neg t1, if_pos t2, forall_eq] at hQ ⊢
    rw [g6, p8_m (by omega)]
    by_cases c2 : zr o (A.1 6 2) = true
    rotate_left
    · rw [if_neg (fun q => c2 q.1)] at hQ
      rw [if_neg c2, if_pos rfl]
      exact hQ σ h
    rw [if_pos c2, if_neg (by decide), p8_i9]
    by_cases c3 : zr v 10 = true
    rotate_left
    · rw [if_neg (fun q => c3 q.2)] at hQ
      rw [if_neg c3, if_pos rfl]
      exact hQ σ h
    rw [if_pos ⟨c2, c3⟩] at hQ
    rw [if_pos c3, if_neg (by decide)]
    obtain ⟨x, hx, rfl⟩ := zr_of (by omega) c2
    obtain ⟨j, hj, rfl⟩ := zr_of (by omega) c3
    have hv : vp_in (nI x) 4 := zin' (by omega) (by omega)
    rw [zcl (by omega), zcl (by omega)] at hQ
    simp only [hv, true_and]
    rw [zcl (by omega), (g3 x (by omega)).2]
    refine hQ _ (h.ch ⟨by simpa [zput_at, zDu] using g1, by simpa [zput_at, zDu] using g2, fun y hy => ?_, by simpa [zput_at, zDu] using g4, by simpa [zput_at, zDu] using g5, by simpa [zput_at, zDu] using g6, by simpa [zput_at, zDu] using g7, by simpa [zput_at, zDu] using g8, by simpa [zput_at, zDu] using g9⟩ (fun o ho => by rw [zput_ne (by omega)]) (fun k hk => by rw [zput_ne (by omega)]))
    have := g3 y hy
    by_cases q : y = x
    · subst q
      exact ⟨by simpa [zput_at, zDu] using this.1, by simp [zput_at, zDu]⟩
    · simpa [zput_at, zDu, q] using this
theorem RM.come {A : zA} {σ : zSt} (hi : zI A) (h : RM A σ) {s b f p : Nat} (hs : s < 2) (hn : A.1 6 s < 4) : RM (zDcome A.1 s b f p, A.2) (zput (zput (zput (zput σ 4 (s * 4 + A.1 6 s) (nI b)) 5 (s * 4 + A.1 6 s) (nI f)) 6 (s * 4 + A.1 6 s) (nI p)) 0 (10 + s) (nI (A.1 6 s + 1))) := by
  obtain ⟨g1, g2, g3, g4, g5, g6, g7, g8, g9⟩ := h.1
  have n2 : ¬ 2 = s := by omega
  have n3 : ¬ 3 = s := by omega
  have n4 : ¬ 4 = s := by omega
  have n5 : ¬ 5 = s := by omega
  have m2 : ¬ 16 = 10 + s := by omega
  have m3 : ¬ 12 = 10 + s := by omega
  have m4 : ¬ 13 = 10 + s := by omega
  have m5 : ¬ 4 = 10 + s := by omega
  refine h.ch ⟨by simpa [zput_at, zDu, zDcome] using g1, fun i hi => ?_, fun x hx => ?_, ?_, ?_, by simpa [zput_at, zDu, zDcome, n2, m2] using g6, by simpa [zput_at, zDu, zDcome, n3, m3] using g7, by simpa [zput_at, zDu, zDcome, n4, m4] using g8, by simpa [zput_at, zDu, zDcome, n5, m5] using g9⟩ (fun o ho => by rw [zput_ne (by omega), zput_ne (by omega), zput_ne (by omega), zput_ne (by omega)]) (fun k hk => by rw [zput_at, if_neg (by omega), zput_ne (by omega), zput_ne (by omega), zput_ne (by omega)])
  · have := g2 i hi
    by_cases q : i = s * 4 + A.1 6 s
    · subst q; simp [zput_at, zDu, zDcome]
    · simpa [zput_at, zDu, zDcome, q] using this
  · have := g3 x hx
    simpa [zput_at, zDu, zDcome, n2] using this
  · rcases (show s = 0 ∨ s = 1 by omega) with rfl | rfl
    · simp [zput_at, zDu, zDcome]
    · simpa [zput_at, zDu, zDcome] using g4
  · rcases (show s = 0 ∨ s = 1 by omega) with rfl | rfl
    · simpa [zput_at, zDu, zDcome] using g5
    · simp [zput_at, zDu, zDcome]
theorem zat4 (s j : Nat) : (4 : Int32) * nI s + nI j = nI (s * 4 + j) := by
  rw [show (4 : Int32) = nI 4 from rfl, show nI 4 * nI s = nI (4 * s) from (Int32.ofNat_mul 4 s).symm, nI_add, Nat.mul_comm]
theorem m_come {A : zA} {σ : zSt} (hi : zI A) (h : RM A σ) (s w p : Int32) (Q : Int32 → zSt → Prop) (hQ : ∀ σ', RM (s_come A s w p).2 σ' → Q (s_come A s w p).1 σ') : wX8_come s w p σ Q := by
  unfold wX8_come
  unfold s_come at hQ
  have hn : ¬ (zr s 2 = true ∧ zr w 300 = true ∧ w.toNatClampNeg % 100 < 24 ∧ zr p 10 = true) → Q (-2) σ := fun c => by rw [if_neg c] at hQ; exact hQ σ h
  rw [forall_eq, p8_i1]
  by_cases c1 : zr s 2 = true
  rotate_left
  · rw [if_neg c1, if_pos rfl]; exact hn (fun q => c1 q.1)
  rw [if_pos c1, if_neg (by decide), forall_eq, p8_i299]
  by_cases c2 : zr w 300 = true
  rotate_left
  · rw [if_neg c2, if_pos rfl]; exact hn (fun q => c2 q.2.1)
  rw [if_pos c2, if_neg (by decide)]
  obtain ⟨k, hk, rfl⟩ := zr_of (by omega) c2
  have ed : nI k / 100 = nI (k / 100) := pk_div (d := 100) (by omega) (by omega) (by omega)
  have er : nI k - nI k / 100 * 100 = nI (k % 100) := pk_rem (d := 100) (by omega) (by omega) (by omega)
  rw [er, ed, forall_eq, p8_i2, if_pos (zr_nI (by omega) (by omega)), if_neg (by decide)]
  rw [zcl (by omega)] at hn hQ
  by_cases c3 : k % 100 < 24
  rotate_left
  · rw [if_pos (show (24 : Int32) ≤ nI (k % 100) from nI_le (a := 24) (by omega) (by omega))]; exact hn (fun q => c3 q.2.2.1)
  rw [if_neg (show ¬ (24 : Int32) ≤ nI (k % 100) from nI_ge (b := 24) c3 (by omega)), forall_eq, p8_i9]
  by_cases c4 : zr p 10 = true
  rotate_left
  · rw [if_neg c4, if_pos rfl]; exact hn (fun q => c4 q.2.2.2)
  rw [if_pos ⟨c1, c2, c3, c4⟩] at hQ
  rw [if_pos c4, if_neg (by decide)]
  obtain ⟨s, hs, rfl⟩ := zr_of (by omega) c1
  obtain ⟨p, hp, rfl⟩ := zr_of (by omega) c4
  rw [zcl (by omega), zcl (by omega)] at hQ
  rcases (show s = 0 ∨ s = 1 by omega) with rfl | rfl
  · have e0 : σ.1 0 10 = nI (A.1 6 0) := h.1.2.2.2.1
    have l4 := hi.1.2.2.2.1
    have t0 : nI 0 = (0 : Int32) := rfl
    rw [if_pos t0, forall_eq, e0]
    by_cases c5 : A.1 6 0 < 4
    · rw [if_pos c5] at hQ
      rw [if_neg (show ¬ nI (A.1 6 0) = (4 : Int32) from fun z => by have := (nI_eq (b := 4) (by omega) (by omega)).mp z; omega), forall_eq, zat4]
      have hv : vp_in (nI (0 * 4 + A.1 6 0)) 8 := zin' (by omega) (by omega)
      have e5 : (zput (zput (zput σ 4 (0 * 4 + A.1 6 0) (nI (k / 100))) 5 (0 * 4 + A.1 6 0) (nI (k % 100))) 6 (0 * 4 + A.1 6 0) (nI p)).1 0 10 = nI (A.1 6 0) := by rw [zput_ne (by decide), zput_ne (by decide), zput_ne (by decide)]; exact e0
      simp only [hv, true_and, forall_eq, if_pos t0]
      rw [zcl (by omega), e5, nI_1]
      exact hQ _ (h.come hi (s := 0) (by omega) c5)
    · rw [if_neg c5] at hQ
      rw [if_pos (show nI (A.1 6 0) = (4 : Int32) from by rw [show A.1 6 0 = 4 by omega]; rfl)]
      exact hQ σ h
  · have e0 : σ.1 0 11 = nI (A.1 6 1) := h.1.2.2.2.2.1
    have l4 := hi.1.2.2.2.2.1
    have t0 : ¬ nI 1 = (0 : Int32) := by decide
    rw [if_neg t0, forall_eq, e0]
    by_cases c5 : A.1 6 1 < 4
    · rw [if_pos c5] at hQ
      rw [if_neg (show ¬ nI (A.1 6 1) = (4 : Int32) from fun z => by have := (nI_eq (b := 4) (by omega) (by omega)).mp z; omega), forall_eq, zat4]
      have hv : vp_in (nI (1 * 4 + A.1 6 1)) 8 := zin' (by omega) (by omega)
      have e5 : (zput (zput (zput σ 4 (1 * 4 + A.1 6 1) (nI (k / 100))) 5 (1 * 4 + A.1 6 1) (nI (k % 100))) 6 (1 * 4 + A.1 6 1) (nI p)).1 0 11 = nI (A.1 6 1) := by rw [zput_ne (by decide), zput_ne (by decide), zput_ne (by decide)]; exact e0
      simp only [hv, true_and, forall_eq, if_neg t0]
      rw [zcl (by omega), e5, nI_1]
      exact hQ _ (h.come hi (s := 1) (by omega) c5)
    · rw [if_neg c5] at hQ
      rw [if_pos (show nI (A.1 6 1) = (4 : Int32) from by rw [show A.1 6 1 = 4 by omega]; rfl)]
      exact hQ σ h
