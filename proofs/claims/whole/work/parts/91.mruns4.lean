section
variable {A : zA} {σ : zSt} {row : Nat → Nat} {m : Nat}
theorem p8_best (hi : zI A) (h : RM A σ) (hr : ∀ a, a < m → σ.1 10 a = nI (row a) ∧ row a < 3) (hm : m < 24) (Q : Int32 → zSt → Prop) : wX8_bestNext (nI m) σ Q = Q (nI (zarg (fun b => (zwt A.1 row 0 b m : Int) - zwt A.1 row 1 b m))) σ := by
  have w := fun (b : Nat) (hb : b < 3) => p8_waits hi h hr (s := 0) (b := b) (by omega) hb hm
  have w' := fun (b : Nat) (hb : b < 3) => p8_waits hi h hr (s := 1) (b := b) (by omega) hb hm
  have l := fun b => zwt_le hi.1 row (s := 0) (by omega) b m
  have l' := fun b => zwt_le hi.1 row (s := 1) (by omega) b m
  have cc := fun a b => zsubc (l a) (l' a) (l b) (l' b)
  unfold wX8_bestNext
  rw [show (300 : Nat) = 297 + 1 + 1 + 1 from rfl, wX8_bestNext_L4, if_neg (by decide), show (1 : Int32) = nI 1 from rfl, show (0 : Int32) = nI 0 from rfl, w 1 (by omega), w' 1 (by omega), w 0 (by omega), w' 0 (by omega)]
  simp only [forall_eq, nI_add]
  unfold zarg
  by_cases c1 : (zwt A.1 row 0 1 m : Int) - zwt A.1 row 1 1 m ≤ (zwt A.1 row 0 0 m : Int) - zwt A.1 row 1 0 m
  · rw [if_pos ((cc 1 0).mpr c1), wX8_bestNext_L4, if_neg (by decide), show (1 : Int32) = nI 1 from rfl, show (0 : Int32) = nI 0 from rfl, w 2 (by omega), w' 2 (by omega), w 0 (by omega), w' 0 (by omega), if_pos c1]
    simp only [forall_eq, nI_add]
    by_cases c2 : (zwt A.1 row 0 2 m : Int) - zwt A.1 row 1 2 m ≤ (zwt A.1 row 0 0 m : Int) - zwt A.1 row 1 0 m
    · rw [if_pos ((cc 2 0).mpr c2), wX8_bestNext_L4, if_pos (by decide), if_pos c2]
    · rw [if_neg (fun z => c2 ((cc 2 0).mp z)), wX8_bestNext_L4, if_pos (by decide), if_neg c2]
  · rw [if_neg (fun z => c1 ((cc 1 0).mp z)), wX8_bestNext_L4, if_neg (by decide), show (1 : Int32) = nI 1 from rfl, show (0 : Int32) = nI 0 from rfl, w 2 (by omega), w' 2 (by omega), w 1 (by omega), w' 1 (by omega), if_neg c1]
    simp only [forall_eq, nI_add]
    by_cases c2 : (zwt A.1 row 0 2 m : Int) - zwt A.1 row 1 2 m ≤ (zwt A.1 row 0 1 m : Int) - zwt A.1 row 1 1 m
    · rw [if_pos ((cc 2 1).mpr c2), wX8_bestNext_L4, if_pos (by decide), if_pos c2]
    · rw [if_neg (fun z => c2 ((cc 2 1).mp z)), wX8_bestNext_L4, if_pos (by decide), if_neg c2]
end
