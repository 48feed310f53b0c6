section
variable {A : zA} {σ : zSt} {row : Nat → Nat} {m : Nat}
theorem p8_plain (hi : zI A) (h : RM A σ) {x u : Nat} (hx : x < 4) (hm : m < 24) (hu : u < 3) (Q : Int32 → zSt → Prop) : wX8_plainNext (nI x) (nI m) (nI u) σ Q = Q (nI (zclk (A.1 5 x) m u)) σ := by
  have hv : vp_in (nI x) 4 := zin' hx (by omega)
  have ln := (hi.1.2.2.1 x hx).2
  unfold wX8_plainNext
  rw [zcl (by omega), (h.1.2.2.1 x hx).2, nI_1, nI_1, pk_rem (by omega) (by omega) (by omega), show (3 : Int32) = nI 3 from rfl, pk_rem (by omega) (by omega) (by omega)]
  have hne : ¬ nI (A.1 5 x + 1) = 0 := nI_ne0 (by omega) (by omega)
  simp only [hv, hne, not_false_eq_true, true_and]
  have hlt : m % (A.1 5 x + 1) < A.1 5 x + 1 := Nat.mod_lt _ (by omega)
  unfold zclk
  by_cases c : m % (A.1 5 x + 1) = 0
  · rw [if_pos c, if_pos (by rw [c]; rfl)]
  · rw [if_neg c, if_neg (nI_ne0 (by omega) (by omega))]
theorem p8_market (hi : zI A) (h : RM A σ) (hr : ∀ a, a < m → σ.1 10 a = nI (row a) ∧ row a < 3) (hm : m < 24) (Q : Int32 → zSt → Prop) : wX8_marketNext (nI m) σ Q = Q (nI (zarg (fun b => - (zwt A.1 row 1 b m : Int)))) σ := by
  have w := fun (b : Nat) (hb : b < 3) => p8_waits hi h hr (s := 1) (b := b) (by omega) hb hm
  have l := fun b => zwt_le hi.1 row (s := 1) (by omega) b m
  have l0 := l 0
  have l1 := l 1
  have l2 := l 2
  unfold wX8_marketNext
  rw [show (300 : Nat) = 297 + 1 + 1 + 1 from rfl, wX8_marketNext_L4, if_neg (by decide), show (1 : Int32) = nI 1 from rfl, show (0 : Int32) = nI 0 from rfl, w 1 (by omega), w 0 (by omega)]
  simp only [forall_eq, nI_add]
  unfold zarg
  by_cases c1 : zwt A.1 row 1 0 m ≤ zwt A.1 row 1 1 m
  · rw [if_pos (nI_le c1 (by omega)), wX8_marketNext_L4, if_neg (by decide), show (1 : Int32) = nI 1 from rfl, w 2 (by omega), w 0 (by omega), if_pos (show - (zwt A.1 row 1 1 m : Int) ≤ - (zwt A.1 row 1 0 m : Int) by omega)]
    simp only [forall_eq, nI_add]
    by_cases c2 : zwt A.1 row 1 0 m ≤ zwt A.1 row 1 2 m
    · rw [if_pos (nI_le c2 (by omega)), wX8_marketNext_L4, if_pos (by decide), if_pos (show - (zwt A.1 row 1 2 m : Int) ≤ - (zwt A.1 row 1 0 m : Int) by omega)]
    · rw [if_neg (nI_ge (by omega) (by omega)), wX8_marketNext_L4, if_pos (by decide), if_neg (show ¬ - (zwt A.1 row 1 2 m : Int) ≤ - (zwt A.1 row 1 0 m : Int) by omega)]
  · rw [if_neg (nI_ge (by omega) (by omega)), wX8_marketNext_L4, if_neg (by decide), show (1 : Int32) = nI 1 from rfl, w 2 (by omega), w 1 (by omega), if_neg (show ¬ - (zwt A.1 row 1 1 m : Int) ≤ - (zwt A.1 row 1 0 m : Int) by omega)]
    simp only [forall_eq, nI_add]
    by_cases c2 : zwt A.1 row 1 1 m ≤ zwt A.1 row 1 2 m
    · rw [if_pos (nI_le c2 (by omega)), wX8_marketNext_L4, if_pos (by decide), if_pos (show - (zwt A.1 row 1 2 m : Int) ≤ - (zwt A.1 row 1 1 m : Int) by omega)]
    · rw [if_neg (nI_ge (by omega) (by omega)), wX8_marketNext_L4, if_pos (by decide), if_neg (show ¬ - (zwt A.1 row 1 2 m : Int) ≤ - (zwt A.1 row 1 1 m : Int) by omega)]
end
