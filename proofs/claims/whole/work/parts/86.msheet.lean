theorem p8_isSheet (x : Int32) (σ : zSt) (Q : Int32 → zSt → Prop) : wX8_isSheet x σ Q = Q (if zr x 4 = true then 1 else 0) σ := by
  unfold wX8_isSheet
  rw [forall_eq, p8_i3]
  by_cases c : zr x 4 = true
  · rw [if_pos c]; simp
  · rw [if_neg c]; simp
theorem zat40 (s j : Nat) : (40 : Int32) * nI s + nI j = nI (40 * s + j) := by
  rw [show (40 : Int32) = nI 40 from rfl, show nI 40 * nI s = nI (40 * s) from (Int32.ofNat_mul 40 s).symm, nI_add]
theorem RM.chS {A : zA} {σ σ' : zSt} {S' : zS} (h : RM A σ) (hS : mSh S' σ') (e : ∀ o, (o ≤ 16 ∨ 21 ≤ o) → σ'.1 o = σ.1 o) : RM (A.1, A.2.1, A.2.2.1, A.2.2.2.1, S') σ' := by
  obtain ⟨h1, h2, h3, h4, h5⟩ := h
  have e0 := e 0 (by omega)
  exact ⟨h1.fr (fun o ho => e o (by omega)) (fun j hj => by rw [e0]), h2.fr (fun o ho => e o (by omega)) (fun j hj => by rw [e0]), h3.fr (e 3 (by omega)) (by rw [e0]), h4.fr (e 1 (by omega)) (e 2 (by omega)) (by rw [e0]), hS⟩
theorem RM.put {A : zA} {σ : zSt} (hi : zI A) (h : RM A σ) {s i : Nat} (hs : s < 4) {q : Nat × Nat × (Nat → Int32)} (hq : A.2.2.2.2 s = some q) (hl : i < q.2.1) (v : Int32) : RM (A.1, A.2.1, A.2.2.1, A.2.2.2.1, zSu A.2.2.2.2 s (some (q.1, q.2.1, upd q.2.2 i v))) (zput σ 20 (40 * s + i) v) := by
  refine h.chS ?_ (fun o ho => by rw [zput_ne (by omega)])
  intro k hk
  have b := (hi.2.2.2.2 s hs q hq).2
  have hz := h.2.2.2.2 k hk
  unfold zSu
  by_cases c : k = s
  · subst c
    rw [hq] at hz
    rw [if_pos rfl]
    obtain ⟨z1, z2, z3, z4⟩ := hz
    refine ⟨by rw [zput_ne (by decide)]; exact z1, by rw [zput_ne (by decide)]; exact z2, by rw [zput_ne (by decide)]; exact z3, fun j hj => ?_⟩
    have hj : j < q.2.1 := hj
    rw [zput_at]
    show _ = upd q.2.2 i v j
    by_cases w : j = i
    · subst w; simp [upd]
    · rw [if_neg (by omega), z4 j hj]; simp [upd, w]
  · rw [if_neg c]
    cases hx : A.2.2.2.2 k with
    | none =>
      rw [hx] at hz
      show (zput σ 20 (40 * s + i) v).1 17 k = 0
      rw [zput_ne (by decide)]; exact hz
    | some r =>
      rw [hx] at hz
      have br := (hi.2.2.2.2 k hk r hx).2
      obtain ⟨z1, z2, z3, z4⟩ := hz
      refine ⟨by rw [zput_ne (by decide)]; exact z1, by rw [zput_ne (by decide)]; exact z2, by rw [zput_ne (by decide)]; exact z3, fun j hj => ?_⟩
      rw [zput_at, if_neg (by omega)]
      exact z4 j hj
theorem m_cell {A : zA} {σ : zSt} (hi : zI A) (h : RM A σ) (s i v : Int32) (Q : Int32 → zSt → Prop) (hQ : ∀ σ', RM (s_cell A s i v).2 σ' → Q (s_cell A s i v).1 σ') : wX8_cell s i v σ Q := by
  unfold wX8_cell
  unfold s_cell at hQ
  rw [p8_isSheet]
  by_cases c1 : zr s 4 = true
  rotate_left
  · rw [if_neg c1] at hQ ⊢
    rw [if_pos rfl]; exact hQ σ h
  rw [if_pos c1] at hQ ⊢
  rw [if_neg (by decide)]
  obtain ⟨s, hs, rfl⟩ := zr_of (by omega) c1
  have hv : vp_in (nI s) 4 := zin' hs (by omega)
  rw [zcl (by omega)] at hQ ⊢
  refine ⟨hv, ?_⟩
  have hz := h.2.2.2.2 s hs
  cases hx : A.2.2.2.2 s with
  | none =>
    rw [hx] at hz hQ
    rw [if_pos hz]; exact hQ σ h
  | some q =>
    rw [hx] at hz hQ
    obtain ⟨z1, z2, z3, z4⟩ := hz
    obtain ⟨b1, b2⟩ := hi.2.2.2.2 s hs q hx
    dsimp only at hQ
    rw [z1, if_neg (by decide)]
    refine ⟨hv, ?_⟩
    rw [forall_eq, forall_eq, z3, p8_m (by omega)]
    by_cases c2 : zr i q.2.1 = true
    rotate_left
    · rw [if_neg c2] at hQ ⊢
      rw [if_pos rfl]; exact hQ σ h
    rw [if_pos c2] at hQ ⊢
    rw [if_neg (by decide)]
    obtain ⟨i, hl, rfl⟩ := zr_of (by omega) c2
    rw [zcl (by omega)] at hQ
    have hv2 : vp_in (nI (40 * s + i)) 160 := zin' (by omega) (by omega)
    rw [zat40, zcl (by omega), z2]
    simp only [hv, hv2, true_and, forall_eq]
    have k0 := hQ _ (h.put hi hs hx hl (zconv q.1 v))
    rcases (show q.1 = 0 ∨ q.1 = 1 ∨ q.1 = 2 by omega) with w | w | w
    · rw [w] at k0 ⊢
      rw [if_pos (show nI 0 = (0 : Int32) from rfl)]; exact k0
    · rw [w] at k0 ⊢
      rw [if_neg (show ¬ nI 1 = (0 : Int32) by decide), if_pos (show nI 1 = (1 : Int32) from rfl)]; exact k0
    · rw [w] at k0 ⊢
      rw [if_neg (show ¬ nI 2 = (0 : Int32) by decide), if_neg (show ¬ nI 2 = (1 : Int32) by decide)]; exact k0
