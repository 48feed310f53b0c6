theorem p8_who_in {σ : zSt} {row : Nat → Nat} {c : Nat → Int32} {s z : Nat} (hs : s < 4) (hz : σ.1 19 s = nI z) (hl : z ≤ 24) (hc : ∀ m, m < z → σ.1 20 (40 * s + m) = c m) (hr : zIsRow 10 row σ) (Q K : Int32 → zSt → Prop) (x2 x3 : Int32) : ∀ (j k n : Nat), k + j = z → j < n → wX8_who_L59 Q K (nI s) x2 x3 n (if ztl c row k = true then 1 else 0) (nI k) σ = K (if ztl c row z = true then 1 else 0) σ := by
  have hv : vp_in (nI s) 4 := zin' hs (by omega)
  intro j
  induction j with
  | zero =>
    intro k n h1 h2
    obtain ⟨n, rfl⟩ : ∃ n', n = n' + 1 := ⟨n - 1, by omega⟩
    have : k = z := by omega
    subst this
    rw [wX8_who_L59, zcl (by omega), hz, if_pos (Int32.le_refl _)]
    simp only [hv, true_and]
  | succ j ih =>
    intro k n h1 h2
    obtain ⟨n, rfl⟩ : ∃ n', n = n' + 1 := ⟨n - 1, by omega⟩
    have v1 : vp_in (nI k) 24 := zin' (by omega) (by omega)
    have v2 : vp_in (nI (40 * s + k)) 160 := zin' (by omega) (by omega)
    have st := ih (k + 1) n (by omega) (by omega)
    rw [wX8_who_L59, zat40, zcl (by omega), zcl (by omega), zcl (by omega), hz, if_neg (show ¬ nI z ≤ nI k from nI_ge (by omega) (by omega)), hc k (by omega), (hr k (by omega)).1]
    simp only [hv, v1, v2, true_and, forall_eq, nI_1]
    rw [ztl] at st
    by_cases w : ztl c row k = true
    · rw [if_pos w, if_neg (by decide)]
      by_cases q : c k = nI (row k)
      · rw [if_pos q.symm]
        rw [if_pos (by rw [w]; simp [q])] at st
        exact st
      · rw [if_neg (fun z => q z.symm)]
        rw [if_neg (by rw [w]; simp [q])] at st
        exact st
    · rw [if_neg w, if_pos rfl]
      rw [if_neg (by simp [w])] at st
      exact st
theorem m_who_L {A : zA} (hi : zI A) {s : Nat} (hs : s < 4) {q : Nat × Nat × (Nat → Int32)} (hz : A.2.2.2.2 s = some q) (hl : q.2.1 ≤ 24) (Q K : Int32 → zSt → Prop) (hK : ∀ σ', RM A σ' → K (nI (zmask (fun x => ztl q.2.2 (zrun A.1 x) q.2.1) (A.1 6 2))) σ') : ∀ (j x n : Nat) (σ1 : zSt), x + j = A.1 6 2 → j < n → RM A σ1 → wX8_who_L40 Q K (nI s) n (nI (zmask (fun x => ztl q.2.2 (zrun A.1 x) q.2.1) x)) (nI x) σ1 := by
  have hM := hi.1.2.2.2.2.2.1
  intro j
  induction j with
  | zero =>
    intro x n σ1 h1 h2 hx
    obtain ⟨n, rfl⟩ : ∃ n', n = n' + 1 := ⟨n - 1, by omega⟩
    have : x = A.1 6 2 := by omega
    subst this
    rw [wX8_who_L40, show σ1.1 0 16 = _ from hx.1.2.2.2.2.2.1, if_pos (Int32.le_refl _)]
    exact hK σ1 hx
  | succ j ih =>
    intro x n σ1 h1 h2 hx
    obtain ⟨n, rfl⟩ : ∃ n', n = n' + 1 := ⟨n - 1, by omega⟩
    rw [wX8_who_L40, show σ1.1 0 16 = _ from hx.1.2.2.2.2.2.1, if_neg (show ¬ nI (A.1 6 2) ≤ nI x from nI_ge (by omega) (by omega))]
    refine p8_runs hi hx (x := x) (by omega) _ (fun σ' e hr => ?_)
    have hx' := hx.takes e
    have hk2 := hx'.2.2.2.2 s hs
    rw [hz] at hk2
    obtain ⟨g1, g2, g3, g4⟩ := hk2
    have w0 := fun (K' : Int32 → zSt → Prop) => p8_who_in (c := q.2.2) hs g3 hl (fun m hm => g4 m hm) hr Q K' (nI (zmask (fun x => ztl q.2.2 (zrun A.1 x) q.2.1) x)) (nI x) q.2.1 0 300 (by omega) (by omega)
    simp only [show (if ztl q.2.2 (zrun A.1 x) 0 = true then (1 : Int32) else 0) = 1 from rfl, nI_0] at w0
    rw [w0]
    have st := ih (x + 1) n σ' (by omega) (by omega) hx'
    simp only [forall_eq, nI_1]
    by_cases w : ztl q.2.2 (zrun A.1 x) q.2.1 = true
    · rw [if_pos w, if_neg (by decide)]
      rw [zmask_s (fun x => ztl q.2.2 (zrun A.1 x) q.2.1) (k := x) (by omega) w]
      exact st
    · rw [if_neg w, if_pos rfl, zor0]
      rw [zmask_n (fun x => ztl q.2.2 (zrun A.1 x) q.2.1) (k := x) w] at st
      exact st
theorem m_who {A : zA} {σ : zSt} (hi : zI A) (h : RM A σ) (s : Int32) (Q : Int32 → zSt → Prop) (hQ : ∀ σ', RM (s_who A s).2 σ' → Q (s_who A s).1 σ') : wX8_who s σ Q := by
  unfold wX8_who
  unfold s_who at hQ
  dsimp only at hQ
  rw [p8_isSheet]
  by_cases c1 : zr s 4 = true
  rotate_left
  · rw [if_neg c1] at hQ ⊢
    rw [if_pos rfl]; exact hQ σ h
  rw [if_pos c1] at hQ ⊢
  rw [if_neg (by decide)]
  obtain ⟨s, hs, rfl⟩ := zr_of (by omega) c1
  have hv : vp_in (nI s) 4 := zin' hs (by omega)
  rw [zcl (by omega)] at hQ ⊢
  refine ⟨hv, ?_⟩
  have hk2 := h.2.2.2.2 s hs
  cases hz : A.2.2.2.2 s with
  | none =>
    rw [hz] at hk2 hQ
    rw [if_pos hk2]; exact hQ σ h
  | some q =>
    rw [hz] at hk2 hQ
    obtain ⟨g1, g2, g3, g4⟩ := hk2
    obtain ⟨b1, b2⟩ := hi.2.2.2.2 s hs q hz
    dsimp only at hQ
    rw [g1, if_neg (by decide), g3]
    refine ⟨hv, ?_⟩
    by_cases c2 : q.2.1 ≤ 24
    · rw [if_pos c2] at hQ
      rw [if_pos (show nI q.2.1 ≤ (24 : Int32) from nI_le (b := 24) c2 (by omega))]
      exact m_who_L hi hs hz c2 Q _ hQ (A.1 6 2) 0 300 σ (by omega) (by have := hi.1.2.2.2.2.2.1; omega) h
    · rw [if_neg c2] at hQ
      rw [if_neg (show ¬ nI q.2.1 ≤ (24 : Int32) from nI_ge (a := 24) (by omega) (by omega))]
      exact hQ σ h
