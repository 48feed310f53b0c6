theorem zI_s_come {A : zA} (hi : zI A) (s w p : Int32) : zI (s_come A s w p).2 := by
  unfold s_come
  by_cases c : zr s 2 = true ∧ zr w 300 = true ∧ w.toNatClampNeg % 100 < 24 ∧ zr p 10 = true
  · rw [if_pos c]
    by_cases c2 : A.1 6 s.toNatClampNeg < 4
    · rw [if_pos c2]
      obtain ⟨k1, k2, k3, k4⟩ := c
      obtain ⟨a, ha, rfl⟩ := zr_of (by omega) k1
      obtain ⟨b, hb, rfl⟩ := zr_of (by omega) k2
      obtain ⟨d, hd, rfl⟩ := zr_of (by omega) k4
      rw [zcl (by omega)] at c2 k3
      rw [zcl (by omega), zcl (by omega), zcl (by omega)]
      exact zI_come hi ha (by omega) k3 (by omega) c2
    · rw [if_neg c2]; exact hi
  · rw [if_neg c]; exact hi
theorem m_comes_L {s sz fr : Nat} {c : Nat → Int32} (hs : s < 4) (hsz : sz ≤ 40) (hfr : fr < 2147483648) (Q : Int32 → zSt → Prop) (K93 : zSt → Prop) (K140 : Int32 → zSt → Prop) (x1 : Nat) (hx : x1 ≤ 8) : ∀ (n k came f : Nat) (A : zA) (σ : zSt), zI A → RM A σ → (∃ so, A.2.2.2.2 s = some (so, sz, c)) → k + n = x1 → came ≤ k → n < f → (k = 0 ∨ fr + 3 * k ≤ sz) → (∀ σ', RM (zcm c sz fr n k came A).2 σ' → ((zcm c sz fr n k came A).1 = -12 → K93 σ') ∧ (¬ (zcm c sz fr n k came A).1 = -12 → K140 (zcm c sz fr n k came A).1 σ')) → wX8_comes_L75 Q K93 K140 (nI s) (nI fr) (nI x1) f (nI came) (nI k) σ := by
  intro n
  have hv : vp_in (nI s) 4 := zin' hs (by omega)
  induction n with
  | zero =>
    intro k came f A σ hi h hS hk hc hf hk0 hQ
    obtain ⟨f, rfl⟩ : ∃ f', f = f' + 1 := ⟨f - 1, by omega⟩
    rw [wX8_comes_L75, if_pos (nI_le (by omega) (by omega))]
    refine (hQ σ h).2 ?_
    show ¬ nI came = -12
    intro e
    have := congrArg Int32.toInt e
    rw [nI_toInt (by omega)] at this
    rw [show (-12 : Int32).toInt = -12 from by decide] at this
    omega
  | succ n ih =>
    intro k came f A σ hi h hS hk hc hf hk0 hQ
    obtain ⟨f, rfl⟩ : ∃ f', f = f' + 1 := ⟨f - 1, by omega⟩
    rw [wX8_comes_L75, if_neg (nI_ge (by omega) (by omega)), if_neg (nI_pos hfr)]
    refine ⟨hv, ?_⟩
    obtain ⟨so, hS⟩ := hS
    have hk2 := h.2.2.2.2 s hs
    rw [hS] at hk2
    obtain ⟨g1, g2, g3, g4⟩ := hk2
    have g3 : σ.1 19 s = nI sz := g3
    have g4 : ∀ j, j < sz → σ.1 20 (40 * s + j) = c j := g4
    rw [zcm] at hQ
    rw [zcl (by omega), g3, show nI sz - 3 * nI k - 3 = nI sz - nI (3 * k + 3) from by
      rw [show (3 : Int32) = nI 3 from rfl, pk_mul, Int32.sub_sub, nI_add], show (40 : Int32) * nI s + nI fr + 3 * nI k = nI (40 * s + (fr + 3 * k)) from by
      rw [zat40, show (3 : Int32) = nI 3 from rfl, pk_mul, nI_add, Nat.add_assoc]]
    by_cases c1 : fr + 3 * k + 3 ≤ sz
    · rw [if_pos ((zle_sub hsz hfr (by omega)).mpr (by omega)), forall_eq]
      have e2 : nI (40 * s + (fr + 3 * k)) + 1 = nI (40 * s + (fr + 3 * k + 1)) := nI_1 _
      have e3 : nI (40 * s + (fr + 3 * k)) + 2 = nI (40 * s + (fr + 3 * k + 2)) := nI_add _ 2
      rw [e2, e3, zcl (by omega), zcl (by omega), zcl (by omega)]
      refine ⟨zin' (by omega) (by omega), zin' (by omega) (by omega), zin' (by omega) (by omega), ?_⟩
      rw [forall_eq, forall_eq, forall_eq, g4 _ (show fr + 3 * k < sz by omega), g4 _ (show fr + 3 * k + 1 < sz by omega), g4 _ (show fr + 3 * k + 2 < sz by omega)]
      rw [if_pos c1] at hQ
      dsimp only at hQ
      refine m_come hi h _ _ _ _ (fun σ' hr => ?_)
      have hS' : ∃ so, (s_come A (c (fr + 3 * k)) (c (fr + 3 * k + 1)) (c (fr + 3 * k + 2))).2.2.2.2.2 s = some (so, sz, c) := ⟨so, by rw [s_come_S]; exact hS⟩
      have hi' : zI (s_come A (c (fr + 3 * k)) (c (fr + 3 * k + 1)) (c (fr + 3 * k + 2))).2 := zI_s_come hi _ _ _
      simp only [forall_eq, nI_1, Int32.add_zero]
      by_cases c2 : (s_come A (c (fr + 3 * k)) (c (fr + 3 * k + 1)) (c (fr + 3 * k + 2))).1 < 0
      · rw [if_pos c2]
        rw [if_pos c2] at hQ
        exact ih (k + 1) came f _ σ' hi' hr hS' (by omega) (by omega) (by omega) (by omega) hQ
      · rw [if_neg c2]
        rw [if_neg c2] at hQ
        exact ih (k + 1) (came + 1) f _ σ' hi' hr hS' (by omega) (by omega) (by omega) (by omega) hQ
    · rw [if_neg c1] at hQ
      rw [if_neg (show ¬ nI fr ≤ nI sz - nI (3 * k + 3) from fun z => c1 (by have := (zle_sub hsz hfr (by omega)).mp z; omega))]
      exact (hQ σ h).1 rfl
theorem m_comes {A : zA} {σ : zSt} (hi : zI A) (h : RM A σ) (s so f n : Int32) (Q : Int32 → zSt → Prop) (hQ : ∀ σ', RM (s_comes A s so f n).2 σ' → Q (s_comes A s so f n).1 σ') : wX8_comes s so f n σ Q := by
  unfold wX8_comes
  unfold s_comes at hQ
  have hn : ¬ (zr s 4 = true ∧ zr so 3 = true ∧ zr n 9 = true) → Q (-2) σ := fun c => by rw [if_neg c] at hQ; exact hQ σ h
  rw [p8_isSheet]
  by_cases c1 : zr s 4 = true
  rotate_left
  · rw [if_neg c1, if_pos rfl]; exact hn (fun q => c1 q.1)
  rw [if_pos c1, if_neg (by decide), forall_eq, p8_i2]
  by_cases c2 : zr so 3 = true
  rotate_left
  · rw [if_neg c2, if_pos rfl]; exact hn (fun q => c2 q.2.1)
  rw [if_pos c2, if_neg (by decide), forall_eq, p8_i8]
  by_cases c3 : zr n 9 = true
  rotate_left
  · rw [if_neg c3, if_pos rfl]; exact hn (fun q => c3 q.2.2)
  rw [if_pos ⟨c1, c2, c3⟩] at hQ
  rw [if_pos c3, if_neg (by decide)]
  obtain ⟨s, hs, rfl⟩ := zr_of (by omega) c1
  obtain ⟨so, hso, rfl⟩ := zr_of (by omega) c2
  obtain ⟨n, hnn, rfl⟩ := zr_of (by omega) c3
  have hv : vp_in (nI s) 4 := zin' hs (by omega)
  rw [zcl (by omega)] at hQ ⊢
  refine ⟨hv, ?_⟩
  have hk2 := h.2.2.2.2 s hs
  cases hz : A.2.2.2.2 s with
  | none =>
    rw [hz] at hk2 hQ
    rw [if_pos hk2, if_pos hk2]; exact ⟨hv, hQ σ h⟩
  | some q =>
    rw [hz] at hk2 hQ
    obtain ⟨g1, g2, g3, g4⟩ := hk2
    obtain ⟨b1, b2⟩ := hi.2.2.2.2 s hs q hz
    dsimp only at hQ
    have t1 : ¬ (1 : Int32) = 0 := by decide
    rw [g1]
    simp only [if_neg t1]
    refine ⟨hv, ?_⟩
    rw [g2]
    by_cases c4 : nI q.1 = nI so
    rotate_left
    · rw [if_neg c4] at hQ ⊢
      exact hQ σ h
    rw [if_pos c4] at hQ ⊢
    refine ⟨hv, ?_⟩
    by_cases c5 : n = 0
    · subst c5
      rw [if_pos (by decide)] at hQ
      rw [show (300 : Nat) = 299 + 1 from rfl, wX8_comes_L75, if_pos (by decide)]
      exact hQ σ h
    have c5' : ¬ nI n = 0 := fun e => c5 ((nI_eq (a := n) (b := 0) (by omega) (by omega)).mp e)
    rw [if_neg c5'] at hQ
    by_cases c6 : f < 0
    · rw [if_pos c6] at hQ
      rw [show (300 : Nat) = 299 + 1 from rfl, wX8_comes_L75, if_neg (show ¬ nI n ≤ (0 : Int32) from nI_ge (a := 0) (by omega) (by omega)), if_pos c6]
      exact hQ σ h
    · rw [if_neg c6] at hQ
      obtain ⟨f, hf, rfl⟩ := nI_of c6
      rw [zcl hf, zcl (by omega)] at hQ
      refine m_comes_L hs b2 hf Q _ _ n (by omega) n 0 0 300 A σ hi h ⟨q.1, hz⟩ (by omega) (by omega) (by omega) (Or.inl rfl) (fun σ' hr => ⟨fun e => ?_, fun e => ?_⟩)
      · have := hQ σ' hr; rw [e] at this; exact this
      · exact hQ σ' hr
