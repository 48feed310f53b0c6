theorem zI_text {A : zA} (h : zI A) : zI (s_text A).2 := by
  obtain ⟨h1, h2, h3, h4, h5⟩ := h
  unfold s_text
  by_cases c : A.2.2.2.1.1 < 6
  rotate_left
  · rw [if_neg c]; exact ⟨h1, h2, h3, h4, h5⟩
  rw [if_pos c]
  split
  · refine ⟨h1, ?_, ⟨Nat.zero_le _, fun j hj => absurd hj (Nat.not_lt_zero j)⟩, ⟨by show 1 ≤ A.2.2.2.1.1 + 1; omega, by show A.2.2.2.1.1 + 1 ≤ 6; omega, by show A.1 6 5 < A.2.2.2.1.1 + 1; omega⟩, h5⟩
    show zimg A.1 A.2.1 (A.2.2.2.1.1 + 1)
    cases hk : A.2.1 with
    | none => trivial
    | some K =>
      rw [hk] at h2
      exact ⟨h2.1, h2.2.1, h2.2.2.1, by have := h2.2.2.2; omega⟩
  · exact ⟨h1, h2, ⟨Nat.zero_le _, fun j hj => absurd hj (Nat.not_lt_zero j)⟩, h4, h5⟩
theorem xCa.co {D : zD} {C C' : zCo} {σ : zSt} (h : xCa D C σ) (e : C' (D 6 5) = C (D 6 5)) : xCa D C' σ := by
  have e1 : zcost D C' = zcost D C := by funext i m; unfold zcost; rw [e]
  have e2 : zchg D C' = zchg D C := by funext m w i; unfold zchg; rw [e]
  unfold xCa at h ⊢
  rw [e1, e2]; exact h
theorem xSe.co {D : zD} {C C' : zCo} {σ : zSt} (h : xSe D C σ) (e : C' (D 6 5) = C (D 6 5)) : xSe D C' σ := by
  have e1 : zcost D C' = zcost D C := by funext i m; unfold zcost; rw [e]
  have e2 : zchg D C' = zchg D C := by funext m w i; unfold zchg; rw [e]
  unfold xSe zparC at h ⊢
  rw [e1, e2]; exact h
theorem x_takeTape {A : zA} {σ : zSt} (h : RX A σ) (Q : Int32 → zSt → Prop) (hQ : ∀ σ', RX (s_text A).2 σ' → Q (s_text A).1 σ') : wX7_takeTape σ Q := by
  have hIt := zI_text h.1
  obtain ⟨hI, k1, k2, k3, k4, k5, k6, k7⟩ := h
  have hn := hI.2.2.1.1
  have hT := hI.2.2.1.2
  have hc := hI.2.2.2.1
  unfold wX7_takeTape
  unfold s_text at hQ hIt
  rw [k4.1]
  by_cases h6 : A.2.2.2.1.1 < 6
  rotate_left
  · rw [if_neg h6] at hQ
    rw [if_neg (show ¬ nI A.2.2.2.1.1 < (6 : Int32) from nI_nlt (b := 6) (by omega) (by omega))]
    exact hQ σ ⟨hI, k1, k2, k3, k4, k5, k6, k7⟩
  rw [if_pos h6] at hQ hIt
  rw [if_pos (show nI A.2.2.2.1.1 < (6 : Int32) from nI_lt (b := 6) h6 (by omega)), forall_eq, forall_eq, k3.1, zput_at, if_neg (by decide), k4.1, zcl (by omega)]
  refine ⟨zin' h6 (by omega), ?_⟩
  have t0 : ∀ o, o ≠ 0 → (zput σ 0 4 0).1 o = σ.1 o := fun o a => zput_ne a
  have t1 : ∀ j, j ≠ 4 → (zput σ 0 4 0).1 0 j = σ.1 0 j := fun j a => by rw [zput_at, if_neg (fun z => a z.2)]
  have t2 : (zput σ 0 4 0).1 0 4 = 0 := by rw [zput_at, if_pos ⟨rfl, rfl⟩]
  generalize zput σ 0 4 0 = τ at t0 t1 t2
  have keepX : ∀ σ' : zSt, (∀ o, (o < 19 ∨ 22 < o) → o ≠ 43 + A.2.2.2.1.1 → o ≠ 49 + A.2.2.2.1.1 → o ≠ 55 + A.2.2.2.1.1 → σ'.1 o = τ.1 o) → zDX 1 A.1 σ' ∧ xImg A.2.1 σ' ∧ xTa (0, A.2.2.1.2) σ' ∧ (∀ i, i < A.2.2.2.1.1 → xTx (A.2.2.2.1.2 i) i σ') ∧ xSh A.2.2.2.2 σ' ∧ xCa A.1 A.2.2.2.1.2 σ' ∧ xSe A.1 A.2.2.2.1.2 σ' ∧ σ'.1 0 6 = nI A.2.2.2.1.1 := by
    intro σ' e
    have u : ∀ o, o ≠ 0 → (o < 19 ∨ 22 < o) → o ≠ 43 + A.2.2.2.1.1 → o ≠ 49 + A.2.2.2.1.1 → o ≠ 55 + A.2.2.2.1.1 → σ'.1 o = σ.1 o := fun o a b c d f => (e o b c d f).trans (t0 o a)
    have u0 : ∀ j, j ≠ 4 → σ'.1 0 j = σ.1 0 j := fun j a => by rw [e 0 (by omega) (by omega) (by omega) (by omega)]; exact t1 j a
    refine ⟨k1.fr (fun k hk => u _ (by omega) (by omega) (by omega) (by omega) (by omega)), k2.fr (u0 2 (by decide)) (fun k hk => u _ (by omega) (by omega) (by omega) (by omega) (by omega)), ⟨?_, fun j hj => absurd hj (Nat.not_lt_zero j)⟩, fun i hi => (k4.2 i hi).fr (u _ (by omega) (by omega) (by omega) (by omega) (by omega)) (u _ (by omega) (by omega) (by omega) (by omega) (by omega)), k5.fr (fun s hs => u _ (by omega) (by omega) (by omega) (by omega) (by omega)) (fun s hs => u _ (by omega) (by omega) (by omega) (by omega) (by omega)), k6.fr (u _ (by omega) (by omega) (by omega) (by omega) (by omega)), k7.fr (u _ (by omega) (by omega) (by omega) (by omega) (by omega)) (u _ (by omega) (by omega) (by omega) (by omega) (by omega)), by rw [u0 6 (by decide)]; exact k4.1⟩
    rw [e 0 (by omega) (by omega) (by omega) (by omega), t2]; rfl
  refine cx_reads (i := A.2.2.2.1.1) (T := A.2.2.1.2) (n := A.2.2.1.1) h6 ⟨hn, hT, fun j hj => by rw [t0 17 (by decide)]; exact k3.2 j hj⟩ _ (fun hg σ2 e2 x2 => ?_) (fun hg σ2 e2 x2 => ?_)
  · unfold tx_good at hg
    rw [if_pos hg] at hQ hIt
    obtain ⟨w1, w2, w3, w4, w5, w6, w7, w8⟩ := keepX σ2 e2
    rw [if_neg (by decide), forall_eq, w8, nI_1, zput_at, if_pos ⟨rfl, rfl⟩, zs1]
    have hr := hc.2.2
    refine hQ _ ⟨hIt, w1.fr (fun k hk => zput_ne (by omega)), w2.fr (by rw [zput_at, if_neg (by decide)]) (fun k hk => zput_ne (by omega)), w3.fr (by rw [zput_at, if_neg (by decide)]) (zput_ne (by decide)), ⟨by rw [zput_at, if_pos ⟨rfl, rfl⟩], fun i hi => ?_⟩, w5.fr (fun s hs => zput_ne (by omega)) (fun s hs => zput_ne (by omega)), (w6.co ?_).fr (zput_ne (by decide)), (w7.co ?_).fr (zput_ne (by decide)) (zput_ne (by decide))⟩
    · have hi : i < A.2.2.2.1.1 + 1 := hi
      show xTx (if i = A.2.2.2.1.1 then tx_cod A.2.2.1.2 A.2.2.1.1 else A.2.2.2.1.2 i) i _
      by_cases q : i = A.2.2.2.1.1
      · rw [if_pos q, q]
        exact x2.fr (zput_ne (by omega)) (zput_ne (by omega))
      · rw [if_neg q]
        exact (w4 i (by omega)).fr (zput_ne (by omega)) (zput_ne (by omega))
    · show (if A.1 6 5 = A.2.2.2.1.1 then tx_cod A.2.2.1.2 A.2.2.1.1 else A.2.2.2.1.2 (A.1 6 5)) = _
      rw [if_neg (by omega)]
    · show (if A.1 6 5 = A.2.2.2.1.1 then tx_cod A.2.2.1.2 A.2.2.1.1 else A.2.2.2.1.2 (A.1 6 5)) = _
      rw [if_neg (by omega)]
  · unfold tx_good at hg
    rw [if_neg hg] at hQ hIt
    obtain ⟨w1, w2, w3, w4, w5, w6, w7, w8⟩ := keepX σ2 e2
    rw [if_pos rfl, x2]
    exact hQ σ2 ⟨hIt, w1, w2, w3, ⟨w8, w4⟩, w5, w6, w7⟩
theorem x_text {A : zA} {σ : zSt} (h : RX A σ) (Q : Int32 → zSt → Prop) (hQ : ∀ σ', RX (s_text A).2 σ' → Q (s_text A).1 σ') : wX7_text σ Q := by
  unfold wX7_text
  exact x_takeTape h _ hQ
