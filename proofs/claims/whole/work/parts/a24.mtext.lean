/-! text -/
def s_text (A : zA) : Int32 × zA :=
  if A.2.2.2.1.1 < 6 then
    (if (tx_p0 A.2.2.1.2 A.2.2.1.1).1 = true ∧ (tx_p1 A.2.2.1.2 A.2.2.1.1).1 = true ∧ (tx_p2 A.2.2.1.2 A.2.2.1.1).1 = true ∧ tx_kd A.2.2.1.2 A.2.2.1.1 (tx_p2 A.2.2.1.2 A.2.2.1.1).2.2 = 0 then (nI A.2.2.2.1.1, (A.1, A.2.1, (0, A.2.2.1.2), (A.2.2.2.1.1 + 1, fun i => if i = A.2.2.2.1.1 then tx_cod A.2.2.1.2 A.2.2.1.1 else A.2.2.2.1.2 i), A.2.2.2.2))
     else ((-100) - nI (tx_flt A.2.2.1.2 A.2.2.1.1), (A.1, A.2.1, (0, A.2.2.1.2), A.2.2.2)))
  else (-4, A)
theorem m_text_L {A : zA} {σ : zSt} (hi : zI A) (h : RM A σ) (h6 : A.2.2.2.1.1 < 6) (Q : Int32 → zSt → Prop) (K : zSt → Prop) (hK : ∀ σ' : zSt, (∀ o, o ≠ 1 → σ'.1 o = σ.1 o) → (∀ j, j < 160 * A.2.2.2.1.1 → σ'.1 1 j = σ.1 1 j) → (∀ j, j < A.2.2.1.1 → σ'.1 1 (160 * A.2.2.2.1.1 + j) = nI (A.2.2.1.2 j)) → K σ') : ∀ (d k n : Nat) (σ1 : zSt), k + d = A.2.2.1.1 → d < n → (∀ o, o ≠ 1 → σ1.1 o = σ.1 o) → (∀ j, j < 160 * A.2.2.2.1.1 → σ1.1 1 j = σ.1 1 j) → (∀ j, j < k → σ1.1 1 (160 * A.2.2.2.1.1 + j) = nI (A.2.2.1.2 j)) → wX8_text_L14 Q K n (nI k) σ1 := by
  have hn := hi.2.2.1.1
  intro d
  induction d with
  | zero =>
    intro k n σ1 hk hd e f g
    obtain ⟨n, rfl⟩ : ∃ n', n = n' + 1 := ⟨n - 1, by omega⟩
    have : k = A.2.2.1.1 := by omega
    subst this
    rw [wX8_text_L14, e 0 (by decide), show σ.1 0 6 = _ from h.2.2.1.1, if_pos (Int32.le_refl _)]
    exact hK σ1 e f g
  | succ d ih =>
    intro k n σ1 hk hd e f g
    obtain ⟨n, rfl⟩ : ∃ n', n = n' + 1 := ⟨n - 1, by omega⟩
    rw [wX8_text_L14, e 0 (by decide), show σ.1 0 6 = _ from h.2.2.1.1, if_neg (show ¬ nI A.2.2.1.1 ≤ nI k from nI_ge (by omega) (by omega)), show σ.1 0 3 = _ from h.2.2.2.1.1, show (160 : Int32) * nI A.2.2.2.1.1 + nI k = nI (160 * A.2.2.2.1.1 + k) from by rw [show (160 : Int32) = nI 160 from rfl, pk_mul, nI_add], zcl (by omega), zcl (by omega), e 3 (by decide), h.2.2.1.2 k (by omega)]
    refine ⟨zin' (by omega) (by omega), zin' (by omega) (by omega), ?_⟩
    rw [forall_eq, forall_eq, nI_1]
    refine ih (k + 1) n _ (by omega) (by omega) (fun o ho => by rw [zput_ne ho]; exact e o ho) (fun j hj => by rw [zput_at, if_neg (by omega)]; exact f j hj) (fun j hj => ?_)
    rw [zput_at]
    by_cases q : j = k
    · rw [if_pos ⟨rfl, by omega⟩, q]
    · rw [if_neg (by omega)]; exact g j (by omega)
theorem m_text {A : zA} {σ : zSt} (hi : zI A) (h : RM A σ) (Q : Int32 → zSt → Prop) (hQ : ∀ σ', RM (s_text A).2 σ' → Q (s_text A).1 σ') : wX8_text σ Q := by
  have hn := hi.2.2.1.1
  have hT := hi.2.2.1.2
  have hc := hi.2.2.2.1
  unfold wX8_text
  unfold s_text at hQ
  rw [show σ.1 0 3 = nI A.2.2.2.1.1 from h.2.2.2.1.1]
  by_cases h6 : A.2.2.2.1.1 < 6
  rotate_left
  · rw [if_neg h6] at hQ
    rw [if_pos (show nI A.2.2.2.1.1 = (6 : Int32) by rw [show A.2.2.2.1.1 = 6 by omega]; rfl)]
    exact hQ σ h
  rw [if_pos h6] at hQ
  rw [if_neg (show ¬ nI A.2.2.2.1.1 = (6 : Int32) from fun z => by have := (nI_eq (b := 6) (by omega) (by omega)).mp z; omega)]
  refine m_text_L hi h h6 Q _ (fun σ1 e1 f1 g1 => ?_) A.2.2.1.1 0 300 σ (by omega) (by omega) (fun _ _ => rfl) (fun _ _ => rfl) (fun j hj => by omega)
  have c3 : σ1.1 0 3 = nI A.2.2.2.1.1 := by rw [e1 0 (by decide)]; exact h.2.2.2.1.1
  have c6 : σ1.1 0 6 = nI A.2.2.1.1 := by rw [e1 0 (by decide)]; exact h.2.2.1.1
  rw [c3, c6]
  refine ⟨zin' h6 (by omega), ?_⟩
  rw [forall_eq, forall_eq, forall_eq, zcl (by omega)]
  generalize hτ : zput (zput σ1 2 A.2.2.2.1.1 (nI A.2.2.1.1)) 0 6 0 = τ
  have t0 : ∀ o, o ≠ 0 → o ≠ 1 → o ≠ 2 → τ.1 o = σ.1 o := fun o a b c => by rw [← hτ, zput_ne a, zput_ne c]; exact e1 o b
  have t1 : τ.1 1 = σ1.1 1 := by rw [← hτ, zput_ne (by decide), zput_ne (by decide)]
  have t2 : ∀ j, τ.1 2 j = if j = A.2.2.2.1.1 then nI A.2.2.1.1 else σ.1 2 j := fun j => by
    rw [← hτ, zput_ne (by decide), zput_at]
    by_cases q : j = A.2.2.2.1.1
    · rw [if_pos ⟨rfl, q⟩, if_pos q]
    · rw [if_neg (fun z => q z.2), if_neg q, e1 2 (by decide)]
  have t3 : ∀ j, j ≠ 6 → τ.1 0 j = σ.1 0 j := fun j a => by rw [← hτ, zput_at, if_neg (fun z => a z.2), zput_ne (by decide), e1 0 (by decide)]
  have t4 : τ.1 0 6 = 0 := by rw [← hτ, zput_at, if_pos ⟨rfl, rfl⟩]
  clear hτ
  rw [t3 3 (by decide), show σ.1 0 3 = nI A.2.2.2.1.1 from h.2.2.2.1.1, show wX8_read (nI A.2.2.2.1.1) 0 = wX8_read (nI A.2.2.2.1.1) (nI 0) from rfl]
  have keepR : ∀ σ' : zSt, zmx τ σ' → zDM A.1 σ' ∧ mKp A.2.1 σ' ∧ mTa (0, A.2.2.1.2) σ' ∧ mSh A.2.2.2.2 σ' := by
    intro σ' e
    have u0 : ∀ o, o ≠ 0 → o ≠ 1 → o ≠ 2 → σ'.1 o = σ.1 o := fun o a b c => (e.1 o a).trans (t0 o a b c)
    have u3 : ∀ j, j ≠ 6 → (j < 24 ∨ 33 ≤ j) → σ'.1 0 j = σ.1 0 j := fun j a b => (e.2 j b).trans (t3 j a)
    refine ⟨h.1.fr (fun o ho => u0 o (by omega) (by omega) (by omega)) (fun j hj => u3 j (by omega) (by omega)), h.2.1.fr (fun o ho => u0 o (by omega) (by omega) (by omega)) (fun j hj => u3 j (by omega) (by omega)), ⟨?_, fun j hj => absurd hj (Nat.not_lt_zero j)⟩, h.2.2.2.2.fr (fun o ho => u0 o (by omega) (by omega) (by omega))⟩
    rw [e.2 6 (by omega), t4]; rfl
  have old : ∀ σ' : zSt, zmx τ σ' → ∀ i, i < A.2.2.2.1.1 → ∃ (n : Nat) (T : Nat → Nat), n ≤ 160 ∧ σ'.1 2 i = nI n ∧ (∀ j, j < n → σ'.1 1 (160 * i + j) = nI (T j)) ∧ zTxOk n T (A.2.2.2.1.2 i) := by
    intro σ' e i hi2
    obtain ⟨n, T, k0, k1, k2, k3⟩ := h.2.2.2.1.2 i hi2
    refine ⟨n, T, k0, ?_, fun j hj => ?_, k3⟩
    · rw [e.1 2 (by decide), t2, if_neg (by omega)]; exact k1
    · rw [e.1 1 (by decide), t1, f1 _ (by omega)]; exact k2 j hj
  refine p8_read (i := A.2.2.2.1.1) (n := A.2.2.1.1) (T := A.2.2.1.2) (names := fun k => τ.1 0 (18 + k)) ⟨h6, hn, hT⟩ (p := 0) (by omega) (by rw [t2, if_pos rfl]) (fun j hj => by rw [t1]; exact g1 j hj) (fun _ _ => rfl) _ (fun hg σ2 e2 b2 => ?_) (fun hg σ2 v e2 b2 b3 => ?_)
  · unfold tx_good at hg
    rw [if_pos hg] at hQ
    rw [if_pos b2, forall_eq]
    have c3' : σ2.1 0 3 = nI A.2.2.2.1.1 := by rw [e2.2 3 (by omega), t3 3 (by decide)]; exact h.2.2.2.1.1
    rw [c3', nI_1, zput_at, if_pos ⟨rfl, rfl⟩, zs1]
    obtain ⟨w1, w2, w3, w5⟩ := keepR σ2 e2
    refine hQ _ ⟨w1.fr (fun o ho => zput_ne (by omega)) (fun j hj => by rw [zput_at, if_neg (by omega)]), w2.fr (fun o ho => zput_ne (by omega)) (fun j hj => by rw [zput_at, if_neg (by omega)]), w3.fr (zput_ne (by decide)) (by rw [zput_at, if_neg (by decide)]), ⟨by rw [zput_at, if_pos ⟨rfl, rfl⟩], fun i hi2 => ?_⟩, w5.fr (fun o ho => zput_ne (by omega))⟩
    have hi2 : i < A.2.2.2.1.1 + 1 := hi2
    rw [zput_ne (by decide), zput_ne (by decide)]
    show ∃ n T, _ ∧ _ ∧ _ ∧ zTxOk n T (if i = A.2.2.2.1.1 then tx_cod A.2.2.1.2 A.2.2.1.1 else A.2.2.2.1.2 i)
    by_cases q : i = A.2.2.2.1.1
    · subst q
      refine ⟨A.2.2.1.1, A.2.2.1.2, hn, by rw [e2.1 2 (by decide), t2, if_pos rfl], fun j hj => by rw [e2.1 1 (by decide), t1]; exact g1 j hj, ?_⟩
      rw [if_pos rfl]
      exact tx_ok hn hT hg
    · rw [if_neg q]
      exact old σ2 e2 i (by omega)
  · unfold tx_good at hg
    rw [if_neg hg] at hQ
    rw [b2, if_neg (by decide), b3]
    obtain ⟨w1, w2, w3, w5⟩ := keepR σ2 e2
    exact hQ σ2 ⟨w1, w2, w3, ⟨by rw [e2.2 3 (by omega), t3 3 (by decide)]; exact h.2.2.2.1.1, fun i hi2 => old σ2 e2 i hi2⟩, w5⟩
