theorem p8_taken {Q K : Int32 → zSt → Prop} {x1 : Int32} {x k : Nat} {σ : zSt} (hx : x < 6) (hk : k < 6) : wX8_taken_L41 Q K x1 (nI k) 300 (nI x) σ = if zund x k = true then K (nI k) σ else K (-1) σ := by
  have t0 : ∀ n, wX8_taken_L41 Q K x1 (nI k) (n + 2) (nI 0) σ = if zund 0 k = true then K (nI k) σ else K (-1) σ := by
    intro n
    rw [p8_taken_s (by omega) hk, show zoverM 0 = -1 from rfl, p8_taken_n]
    by_cases c : 0 = k
    · subst c; rfl
    · rw [if_neg c, if_neg (by unfold zund; simp [c])]
  have t1 : ∀ n, wX8_taken_L41 Q K x1 (nI k) (n + 3) (nI 1) σ = if zund 1 k = true then K (nI k) σ else K (-1) σ := by
    intro n
    rw [p8_taken_s (by omega) hk, show zoverM 1 = nI 0 from rfl, t0]
    rcases (show k = 0 ∨ k = 1 ∨ k = 2 ∨ k = 3 ∨ k = 4 ∨ k = 5 by omega) with rfl | rfl | rfl | rfl | rfl | rfl <;> rfl
  have t2 : ∀ n, wX8_taken_L41 Q K x1 (nI k) (n + 3) (nI 2) σ = if zund 2 k = true then K (nI k) σ else K (-1) σ := by
    intro n
    rw [p8_taken_s (by omega) hk, show zoverM 2 = nI 0 from rfl, t0]
    rcases (show k = 0 ∨ k = 1 ∨ k = 2 ∨ k = 3 ∨ k = 4 ∨ k = 5 by omega) with rfl | rfl | rfl | rfl | rfl | rfl <;> rfl
  rcases (show x = 0 ∨ x = 1 ∨ x = 2 ∨ x = 3 ∨ x = 4 ∨ x = 5 by omega) with rfl | rfl | rfl | rfl | rfl | rfl
  · exact t0 298
  · exact t1 297
  · exact t2 297
  · rw [p8_taken_s (by omega) hk, show zoverM 3 = nI 1 from rfl, t1 296]
    rcases (show k = 0 ∨ k = 1 ∨ k = 2 ∨ k = 3 ∨ k = 4 ∨ k = 5 by omega) with rfl | rfl | rfl | rfl | rfl | rfl <;> rfl
  · rw [p8_taken_s (by omega) hk, show zoverM 4 = nI 2 from rfl, t2 296]
    rcases (show k = 0 ∨ k = 1 ∨ k = 2 ∨ k = 3 ∨ k = 4 ∨ k = 5 by omega) with rfl | rfl | rfl | rfl | rfl | rfl <;> rfl
  · rw [p8_taken_s (by omega) hk, show zoverM 5 = nI 1 from rfl, t1 296]
    rcases (show k = 0 ∨ k = 1 ∨ k = 2 ∨ k = 3 ∨ k = 4 ∨ k = 5 by omega) with rfl | rfl | rfl | rfl | rfl | rfl <;> rfl
