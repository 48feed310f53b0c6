def zoverM (x : Nat) : Int32 := if x = 0 then -1 else if x = 1 then 0 else if x = 2 then 0 else if x = 4 then 2 else 1
theorem p8_over {x : Nat} (hx : x < 6) (σ : zSt) (Q : Int32 → zSt → Prop) : wX8_over (nI x) σ Q = Q (zoverM x) σ := by
  rcases (show x = 0 ∨ x = 1 ∨ x = 2 ∨ x = 3 ∨ x = 4 ∨ x = 5 by omega) with rfl | rfl | rfl | rfl | rfl | rfl <;> rfl
theorem p8_taken_s {Q K : Int32 → zSt → Prop} {x1 : Int32} {x k n : Nat} {σ : zSt} (hx : x < 6) (hk : k < 6) : wX8_taken_L41 Q K x1 (nI k) (n + 1) (nI x) σ = if x = k then K (nI x) σ else wX8_taken_L41 Q K x1 (nI k) n (zoverM x) σ := by
  rw [wX8_taken_L41, if_neg (show ¬ nI x = -1 from fun z => by
    have := congrArg Int32.toInt z
    rw [nI_toInt (by omega), show ((-1 : Int32)).toInt = -1 from by decide] at this
    omega), p8_over hx]
  by_cases c : x = k
  · rw [if_pos c, if_pos (by rw [c])]
  · rw [if_neg c, if_neg (fun z => c ((nI_eq (by omega) (by omega)).mp z))]
theorem p8_taken_n {Q K : Int32 → zSt → Prop} {x1 x2 : Int32} {n : Nat} {σ : zSt} : wX8_taken_L41 Q K x1 x2 (n + 1) (-1) σ = K (-1) σ := by
  rw [wX8_taken_L41, if_pos rfl]
