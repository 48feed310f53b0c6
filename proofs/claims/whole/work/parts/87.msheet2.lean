theorem p8_neg {x : Int32} {n : Nat} {k : Int64} (hn : n < 2147483647) (hk : k = (nI n).toInt64) (σ : zSt) (Q : Int32 → zSt → Prop) : wX8_in x.toInt64 (-1) k σ Q = Q (if x = -1 ∨ zr x (n + 1) = true then 1 else 0) σ := by
  rw [p8_in, hk]
  have e : ((-1 : Int64) ≤ x.toInt64 ∧ x.toInt64 ≤ (nI n).toInt64) ↔ (x = -1 ∨ zr x (n + 1) = true) := by
    rw [show (-1 : Int64) = (-1 : Int32).toInt64 from by decide, z64, z64]
    constructor
    · intro ⟨a, b⟩
      by_cases q : x = -1
      · exact Or.inl q
      · right
        unfold zr
        simp only [Bool.and_eq_true, decide_eq_true_eq]
        have q' : x.toInt ≠ -1 := fun z => q (Int32.toInt_inj.mp (by rw [z]; decide))
        rw [Int32.le_iff_toInt_le] at a b ⊢
        rw [Int32.lt_iff_toInt_lt]
        rw [show ((-1 : Int32)).toInt = -1 from by decide] at a
        rw [nI_toInt (by omega)] at b
        rw [nI_toInt (by omega), show ((0 : Int32)).toInt = 0 from by decide]
        omega
    · rintro (q | q)
      · rw [q]
        refine ⟨by decide, ?_⟩
        rw [Int32.le_iff_toInt_le, nI_toInt (by omega), show ((-1 : Int32)).toInt = -1 from by decide]
        omega
      · obtain ⟨j, hj, rfl⟩ := zr_of (by omega) q
        refine ⟨?_, nI_le (by omega) (by omega)⟩
        rw [Int32.le_iff_toInt_le, nI_toInt (by omega), show ((-1 : Int32)).toInt = -1 from by decide]
        omega
  by_cases h : x = -1 ∨ zr x (n + 1) = true
  · rw [if_pos (e.mpr h), if_pos h]
  · rw [if_neg (fun q => h (e.mp q)), if_neg h]
theorem p8_zero {s so N : Nat} (hs : s < 4) (hso : so ≤ 2) (hN : N ≤ 40) (Q K : zSt → Prop) (Q' : Int32 → zSt → Prop) : ∀ (j m n : Nat) (σ1 : zSt), m + j = N → j < n → (∀ a, a < m → σ1.1 20 (40 * s + a) = 0) → (∀ σ2 : zSt, (∀ o, o ≠ 20 → σ2.1 o = σ1.1 o) → (∀ a, ¬ (40 * s ≤ a ∧ a < 40 * s + 40) → σ2.1 20 a = σ1.1 20 a) → (∀ a, a < N → σ2.1 20 (40 * s + a) = 0) → K σ2) → wX8_sheet_L77 Q' K (nI s) (nI so) (nI N) n (nI m) σ1 := by
  intro j
  induction j with
  | zero =>
    intro m n σ1 h1 h2 f hK
    obtain ⟨n, rfl⟩ : ∃ n', n = n' + 1 := ⟨n - 1, by omega⟩
    have : m = N := by omega
    subst this
    rw [wX8_sheet_L77, if_pos (Int32.le_refl _)]
    exact hK σ1 (fun _ _ => rfl) (fun _ _ => rfl) f
  | succ j ih =>
    intro m n σ1 h1 h2 f hK
    obtain ⟨n, rfl⟩ : ∃ n', n = n' + 1 := ⟨n - 1, by omega⟩
    have hv : vp_in (nI (40 * s + m)) 160 := zin' (by omega) (by omega)
    rw [wX8_sheet_L77, if_neg (show ¬ nI N ≤ nI m from nI_ge (by omega) (by omega)), if_neg (show ¬ nI so < (0 : Int32) from nI_nlt (b := 0) (by omega) (by omega)), zat40]
    refine ⟨hv, ?_⟩
    rw [forall_eq, forall_eq, nI_1, zcl (by omega)]
    refine ih (m + 1) n _ (by omega) (by omega) (fun a ha => ?_) (fun σ2 e1 e2 f2 => hK σ2 (fun o ho => by rw [e1 o ho, zput_ne ho]) (fun a ha => by rw [e2 a ha, zput_at, if_neg (by omega)]) f2)
    rw [zput_at]
    by_cases q : a = m
    · rw [if_pos ⟨rfl, by omega⟩]
    · rw [if_neg (by omega)]; exact f a (by omega)
theorem m_sheet {A : zA} {σ : zSt} (hi : zI A) (h : RM A σ) (s so n : Int32) (Q : Int32 → zSt → Prop) (hQ : ∀ σ', RM (s_sheet A s so n).2 σ' → Q (s_sheet A s so n).1 σ') : wX8_sheet s so n σ Q := by
  unfold wX8_sheet
  unfold s_sheet at hQ
  rw [p8_isSheet]
  by_cases c1 : zr s 4 = true
  rotate_left
  · rw [if_neg c1] at hQ ⊢
    rw [if_pos rfl]; exact hQ σ h
  rw [if_pos c1] at hQ ⊢
  rw [if_neg (by decide), forall_eq, p8_neg (n := 2) (by omega) (by decide)]
  obtain ⟨s, hs, rfl⟩ := zr_of (by omega) c1
  have hv : vp_in (nI s) 4 := zin' hs (by omega)
  rw [zcl (by omega)] at hQ
  by_cases c2 : so = -1
  · rw [if_pos c2] at hQ
    rw [if_pos (Or.inl c2), if_neg (by decide)]
    have t : so < 0 := by rw [c2]; decide
    simp only [if_pos t, hv, true_and, forall_eq]
    rw [zcl (by omega), wX8_sheet_L77, if_pos t, ite_self]
    refine hQ _ (h.chS (fun k hk => ?_) (fun o ho => by rw [zput_ne (by omega), zput_ne (by omega), zput_ne (by omega)]))
    have hz := h.2.2.2.2 k hk
    unfold zSu
    by_cases c : k = s
    · subst c
      rw [if_pos rfl]
      show _ = _
      simp [zput_at]
    · rw [if_neg c]
      cases hx : A.2.2.2.2 k with
      | none =>
        rw [hx] at hz
        show _ = _
        simpa [zput_at, c] using hz
      | some r =>
        rw [hx] at hz
        obtain ⟨z1, z2, z3, z4⟩ := hz
        exact ⟨by simpa [zput_at, c] using z1, by simpa [zput_at, c] using z2, by simpa [zput_at, c] using z3, fun j hj => by rw [zput_ne (by decide), zput_ne (by decide), zput_ne (by decide)]; exact z4 j hj⟩
  rw [if_neg c2] at hQ
  by_cases c3 : zr so 3 = true
  rotate_left
  · rw [if_neg c3] at hQ
    rw [if_neg (show ¬ (so = -1 ∨ zr so (2 + 1) = true) from fun z => z.elim c2 c3), if_pos rfl]; exact hQ σ h
  rw [if_pos c3] at hQ
  rw [if_pos (Or.inr c3), if_neg (by decide)]
  obtain ⟨so, hso, rfl⟩ := zr_of (by omega) c3
  rw [zcl (by omega)] at hQ
  have t : ¬ nI so < (0 : Int32) := nI_nlt (b := 0) (by omega) (by omega)
  simp only [if_neg t]
  by_cases c4 : n ≤ 40
  rotate_left
  · rw [if_neg c4] at hQ ⊢; exact hQ σ h
  rw [if_pos c4] at hQ ⊢
  by_cases c5 : 0 ≤ n
  rotate_left
  · rw [if_neg c5] at hQ ⊢; exact hQ σ h
  rw [if_pos c5] at hQ ⊢
  have c6 : ¬ n < 0 := fun z => by rw [Int32.le_iff_toInt_le] at c5; rw [Int32.lt_iff_toInt_lt] at z; omega
  obtain ⟨N, hN, rfl⟩ := nI_of c6
  have hN : N ≤ 40 := by
    rw [Int32.le_iff_toInt_le, nI_toInt hN, show ((40 : Int32)).toInt = 40 from by decide] at c4
    omega
  rw [zcl (by omega)] at hQ
  simp only [hv, true_and, forall_eq]
  rw [zcl (by omega)]
  refine p8_zero hs (by omega) hN (fun _ => True) _ Q N 0 300 _ (by omega) (by omega) (fun a ha => by omega) (fun σ2 e1 e2 f => ?_)
  refine hQ σ2 (h.chS (fun k hk => ?_) (fun o ho => by rw [e1 o (by omega), zput_ne (by omega), zput_ne (by omega), zput_ne (by omega)]))
  have hz := h.2.2.2.2 k hk
  unfold zSu
  rw [e1 17 (by decide), e1 18 (by decide), e1 19 (by decide)]
  by_cases c : k = s
  · subst c
    rw [if_pos rfl]
    exact ⟨by simp [zput_at], by simp [zput_at], by simp [zput_at], fun j hj => f j hj⟩
  · rw [if_neg c]
    cases hx : A.2.2.2.2 k with
    | none =>
      rw [hx] at hz
      show _ = _
      simpa [zput_at, c] using hz
    | some r =>
      rw [hx] at hz
      have br := (hi.2.2.2.2 k hk r hx).2
      obtain ⟨z1, z2, z3, z4⟩ := hz
      exact ⟨by simpa [zput_at, c] using z1, by simpa [zput_at, c] using z2, by simpa [zput_at, c] using z3, fun j hj => by rw [e2 _ (by omega), zput_ne (by decide), zput_ne (by decide), zput_ne (by decide)]; exact z4 j hj⟩
