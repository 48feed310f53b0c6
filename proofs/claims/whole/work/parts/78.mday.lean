theorem p8_one {x : Int32} {n : Nat} {k : Int64} (hn : n < 2147483647) (hk : k = (nI n).toInt64) (σ : zSt) (Q : Int32 → zSt → Prop) : wX8_in x.toInt64 1 k σ Q = Q (if zr x (n + 1) = true ∧ ¬ x = 0 then 1 else 0) σ := by
  rw [p8_in, hk]
  have e1 : (1 : Int64) ≤ x.toInt64 ↔ (1 : Int32) ≤ x := by rw [show (1 : Int64) = (nI 1).toInt64 from by decide, z64]; rfl
  have e : ((1 : Int64) ≤ x.toInt64 ∧ x.toInt64 ≤ (nI n).toInt64) ↔ (zr x (n + 1) = true ∧ ¬ x = 0) := by
    constructor
    · intro ⟨a, b⟩
      have a' := e1.mp a
      refine ⟨(p8_zr n hn).mp ⟨?_, b⟩, fun q => ?_⟩
      · rw [Int64.le_iff_toInt_le] at a ⊢
        rw [show ((1 : Int64)).toInt = 1 from by decide] at a
        rw [show ((0 : Int64)).toInt = 0 from by decide]
        omega
      · rw [q] at a'; exact absurd a' (by decide)
    · intro ⟨a, b⟩
      refine ⟨e1.mpr ?_, ((p8_zr n hn).mpr a).2⟩
      obtain ⟨j, hj, rfl⟩ := zr_of (by omega) a
      have : j ≠ 0 := fun q => b (by rw [q]; rfl)
      exact nI_le (a := 1) (by omega) (by omega)
  by_cases h : zr x (n + 1) = true ∧ ¬ x = 0
  · rw [if_pos (e.mpr h), if_pos h]
  · rw [if_neg (fun q => h (e.mp q)), if_neg h]
theorem RM.chT {A : zA} {σ σ' : zSt} {T : Nat × (Nat → Nat)} (h : RM A σ) (hT : mTa T σ') (e : ∀ o, ((1 ≤ o ∧ o ≤ 2) ∨ (4 ≤ o ∧ o ≤ 9) ∨ (14 ≤ o ∧ o ≤ 20)) → σ'.1 o = σ.1 o) (f : ∀ j, j ≠ 6 → σ'.1 0 j = σ.1 0 j) : RM (A.1, A.2.1, T, A.2.2.2) σ' := by
  obtain ⟨h1, h2, h3, h4, h5⟩ := h
  exact ⟨h1.fr (fun o ho => e o (by omega)) (fun j hj => f j (by omega)), h2.fr (fun o ho => e o (by omega)) (fun j hj => f j (by omega)), hT, h4.fr (e 1 (by omega)) (e 2 (by omega)) (f 3 (by omega)), h5.fr (fun o ho => e o (by omega))⟩
theorem m_feed {A : zA} {σ : zSt} (hi : zI A) (h : RM A σ) (x : Int32) (Q : Int32 → zSt → Prop) (hQ : ∀ σ', RM (s_feed A x).2 σ' → Q (s_feed A x).1 σ') : wX8_feed x σ Q := by
  unfold wX8_feed
  unfold s_feed at hQ
  have ht := hi.2.2.1.1
  have e4 : σ.1 0 6 = nI A.2.2.1.1 := h.2.2.1.1
  rw [forall_eq, p8_i255]
  by_cases h1 : zr x 256 = true
  · rw [if_pos h1] at hQ ⊢
    obtain ⟨j, hj, rfl⟩ := zr_of (by omega) h1
    rw [zcl (by omega)] at hQ
    rw [if_neg (by decide), e4]
    by_cases h2 : A.2.2.1.1 < 160
    · rw [if_pos h2] at hQ
      rw [if_neg (show ¬ nI A.2.2.1.1 = (160 : Int32) from fun z => by have := (nI_eq (b := 160) (by omega) (by omega)).mp z; omega)]
      refine ⟨zin' h2 (by omega), ?_⟩
      have e6 : (zput σ 3 A.2.2.1.1 (nI j)).1 0 6 = nI A.2.2.1.1 := by rw [zput_ne (by decide)]; exact e4
      rw [forall_eq, forall_eq, zcl (by omega), e6, nI_1]
      have e5 : (zput (zput σ 3 A.2.2.1.1 (nI j)) 0 6 (nI (A.2.2.1.1 + 1))).1 0 6 = nI (A.2.2.1.1 + 1) := by simp [zput_at]
      rw [e5]
      refine hQ _ (h.chT ⟨e5, fun k hk => ?_⟩ ?_ ?_)
      · have hk : k < A.2.2.1.1 + 1 := hk
        rw [zput_ne (by decide), zput_at]
        show _ = nI (if k = A.2.2.1.1 then j else A.2.2.1.2 k)
        by_cases q : k = A.2.2.1.1
        · rw [if_pos ⟨rfl, q⟩, if_pos q]
        · rw [if_neg (fun z => q z.2), if_neg q]
          exact h.2.2.1.2 k (by omega)
      · intro o ho
        rw [zput_ne (by omega), zput_ne (by omega)]
      · intro k hk
        rw [zput_at, if_neg (fun z => hk z.2), zput_ne (by decide)]
    · rw [if_neg h2] at hQ
      rw [if_pos (show nI A.2.2.1.1 = (160 : Int32) from by rw [show A.2.2.1.1 = 160 by omega]; rfl)]
      exact hQ σ h
  · rw [if_neg h1] at hQ ⊢
    rw [if_pos rfl]
    exact hQ σ h
theorem m_force {A : zA} {σ : zSt} (hi : zI A) (h : RM A σ) (x : Int32) (Q : Int32 → zSt → Prop) (hQ : ∀ σ', RM (s_force A x).2 σ' → Q (s_force A x).1 σ') : wX8_force x σ Q := by
  unfold wX8_force
  unfold s_force at hQ
  have ht := hi.2.2.2.1.2.1
  have e3 : σ.1 0 3 = nI A.2.2.2.1.1 := h.2.2.2.1.1
  have e4 : σ.1 0 4 = nI (A.1 6 5) := h.1.2.2.2.2.2.2.2.2
  rw [forall_eq, forall_eq, e3, p8_m (by omega)]
  by_cases h1 : zr x A.2.2.2.1.1 = true
  · rw [if_pos h1] at hQ ⊢
    obtain ⟨j, hj, rfl⟩ := zr_of (by omega) h1
    rw [zcl (by omega)] at hQ
    rw [if_neg (by decide), forall_eq, forall_eq, e4]
    refine hQ _ (h.ch ?_ ?_ ?_)
    · obtain ⟨g1, g2, g3, g4, g5, g6, g7, g8, g9⟩ := h.1
      exact ⟨by simpa [zput_at, zDu] using g1, by simpa [zput_at, zDu] using g2, by simpa [zput_at, zDu] using g3, by simpa [zput_at, zDu] using g4, by simpa [zput_at, zDu] using g5, by simpa [zput_at, zDu] using g6, by simpa [zput_at, zDu] using g7, by simpa [zput_at, zDu] using g8, by simp [zput_at, zDu]⟩
    · intro o ho
      rw [zput_ne (by omega)]
    · intro k hk
      rw [zput_at, if_neg (by omega)]
  · rw [if_neg h1] at hQ ⊢
    rw [if_pos rfl]
    exact hQ σ h
theorem m_master {A : zA} {σ : zSt} (hi : zI A) (h : RM A σ) (k n : Int32) (Q : Int32 → zSt → Prop) (hQ : ∀ σ', RM (s_master A k n).2 σ' → Q (s_master A k n).1 σ') : wX8_master k n σ Q := by
  unfold wX8_master
  unfold s_master at hQ
  have e7 : σ.1 0 16 = nI (A.1 6 2) := h.1.2.2.2.2.2.1
  have h4 := hi.1.2.2.2.2.2.1
  rw [forall_eq, p8_i5]
  by_cases h1 : zr k 6 = true
  · rw [if_pos h1, if_neg (by decide), forall_eq, p8_i9]
    by_cases h2 : zr n 10 = true
    · rw [if_pos ⟨h1, h2⟩] at hQ
      rw [if_pos h2, if_neg (by decide)]
      obtain ⟨k, hk, rfl⟩ := zr_of (by omega) h1
      obtain ⟨n, hn, rfl⟩ := zr_of (by omega) h2
      rw [zcl (by omega), zcl (by omega)] at hQ
      rw [e7]
      by_cases h3 : A.1 6 2 < 4
      · rw [if_pos h3] at hQ
        rw [if_neg (show ¬ nI (A.1 6 2) = (4 : Int32) from fun z => by have := (nI_eq (b := 4) (by omega) (by omega)).mp z; omega)]
        have hv : vp_in (nI (A.1 6 2)) 4 := zin' h3 (by omega)
        refine ⟨hv, ?_⟩
        rw [forall_eq, zcl (by omega), zput_ne (by decide), e7]
        refine ⟨hv, ?_⟩
        have e6 : (zput (zput σ 7 (A.1 6 2) (nI k)) 8 (A.1 6 2) (nI n)).1 0 16 = nI (A.1 6 2) := by rw [zput_ne (by decide), zput_ne (by decide)]; exact e7
        rw [forall_eq, forall_eq, zcl (by omega), e6, nI_1]
        have e5 : (zput (zput (zput σ 7 (A.1 6 2) (nI k)) 8 (A.1 6 2) (nI n)) 0 16 (nI (A.1 6 2 + 1))).1 0 16 - 1 = nI (A.1 6 2) := by
          rw [zput_at, if_pos ⟨rfl, rfl⟩, show (1 : Int32) = nI 1 from rfl, pk_sub (by omega)]; rfl
        rw [e5]
        refine hQ _ (h.ch ?_ ?_ ?_)
        · obtain ⟨g1, g2, g3, g4, g5, g6, g7, g8, g9⟩ := h.1
          refine ⟨by simpa [zput_at, zDu] using g1, by simpa [zput_at, zDu] using g2, fun x hx => ?_, by simpa [zput_at, zDu] using g4, by simpa [zput_at, zDu] using g5, by simp [zput_at, zDu], by simpa [zput_at, zDu] using g7, by simpa [zput_at, zDu] using g8, by simpa [zput_at, zDu] using g9⟩
          have := g3 x hx
          by_cases q : x = A.1 6 2
          · subst q; simp [zput_at, zDu]
          · refine ⟨fun z => ?_, by simpa [zput_at, zDu, q] using this.2⟩
            have z' : x < A.1 6 2 + 1 := by simpa [zDu] using z
            simpa [zput_at, zDu, q] using this.1 (by omega)
        · intro o ho
          rw [zput_ne (by omega), zput_ne (by omega), zput_ne (by omega)]
        · intro j hj
          rw [zput_at, if_neg (by omega), zput_ne (by omega), zput_ne (by omega)]
      · rw [if_neg h3] at hQ
        rw [if_pos (show nI (A.1 6 2) = (4 : Int32) from by rw [show A.1 6 2 = 4 by omega]; rfl)]
        exact hQ σ h
    · rw [if_neg (fun q => h2 q.2)] at hQ
      rw [if_neg h2, if_pos rfl]
      exact hQ σ h
  · rw [if_neg (fun q => h1 q.1)] at hQ
    rw [if_neg h1, if_pos rfl]
    exact hQ σ h
