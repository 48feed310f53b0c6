section
variable {A : zA} {σ : zSt} {row : Nat → Nat} {m : Nat}
theorem p8_tide (hi : zI A) (h : RM A σ) (hr : ∀ a, a < m → σ.1 10 a = nI (row a) ∧ row a < 3) {x u : Nat} (hx : x < 4) (hm : m < 24) (hu : u < 3) (Q : Int32 → zSt → Prop) : wX8_tideNext (nI x) (nI m) (nI u) σ Q = Q (nI (ztid (fun b => zwt A.1 row 0 b m) (A.1 5 x) m u)) σ := by
  have w := fun (b : Nat) (hb : b < 3) => p8_waits hi h hr (s := 0) (b := b) (by omega) hb hm
  have l := fun b => zwt_le hi.1 row (s := 0) (by omega) b m
  have l0 := l 0
  have l1 := l 1
  have l2 := l 2
  have fin : ∀ a, a < 3 → zarg (fun b => (zwt A.1 row 0 b m : Int)) = a → wX8_waits (nI 0) (nI a) (nI m) σ (fun r109 σ110 => if r109 ≤ nI 0 then (wX8_plainNext (nI x) (nI m) (nI u) σ110 (fun r111 σ112 => Q r111 σ112)) else (Q (nI a) σ110)) = Q (nI (ztid (fun b => zwt A.1 row 0 b m) (A.1 5 x) m u)) σ := by
    intro a ha e
    rw [w a ha, p8_plain hi h hx hm hu]
    unfold ztid
    rw [e]
    have la := l a
    by_cases q : 0 < zwt A.1 row 0 a m
    · rw [if_pos q, if_neg (show ¬ nI (zwt A.1 row 0 a m) ≤ nI 0 from nI_ge q (by omega))]
    · rw [if_neg q, if_pos (show nI (zwt A.1 row 0 a m) ≤ nI 0 from nI_le (by omega) (by omega))]
  unfold wX8_tideNext
  rw [show (300 : Nat) = 297 + 1 + 1 + 1 from rfl, wX8_tideNext_L6, if_neg (by decide), show (1 : Int32) = nI 1 from rfl, show (0 : Int32) = nI 0 from rfl, w 1 (by omega), w 0 (by omega)]
  simp only [forall_eq, nI_add]
  by_cases c1 : zwt A.1 row 0 1 m ≤ zwt A.1 row 0 0 m
  · rw [if_pos (nI_le c1 (by omega)), wX8_tideNext_L6, if_neg (by decide), show (1 : Int32) = nI 1 from rfl, show (0 : Int32) = nI 0 from rfl, w 2 (by omega), w 0 (by omega)]
    simp only [forall_eq, nI_add]
    by_cases c2 : zwt A.1 row 0 2 m ≤ zwt A.1 row 0 0 m
    · rw [if_pos (nI_le c2 (by omega)), wX8_tideNext_L6, if_pos (by decide)]
      exact fin 0 (by omega) (by unfold zarg; simp [c1, c2])
    · rw [if_neg (nI_ge (by omega) (by omega)), wX8_tideNext_L6, if_pos (by decide)]
      exact fin 2 (by omega) (by unfold zarg; simp [c1, c2])
  · rw [if_neg (nI_ge (by omega) (by omega)), wX8_tideNext_L6, if_neg (by decide), show (1 : Int32) = nI 1 from rfl, show (0 : Int32) = nI 0 from rfl, w 2 (by omega), w 1 (by omega)]
    simp only [forall_eq, nI_add]
    by_cases c2 : zwt A.1 row 0 2 m ≤ zwt A.1 row 0 1 m
    · rw [if_pos (nI_le c2 (by omega)), wX8_tideNext_L6, if_pos (by decide)]
      exact fin 1 (by omega) (by unfold zarg; simp [c1, c2])
    · rw [if_neg (nI_ge (by omega) (by omega)), wX8_tideNext_L6, if_pos (by decide)]
      exact fin 2 (by omega) (by unfold zarg; simp [c1, c2])
end
