theorem p8_nextBy {A : zA} {σ : zSt} {row : Nat → Nat} {m : Nat} (hi : zI A) (h : RM A σ) (hr : ∀ a, a < m → σ.1 10 a = nI (row a) ∧ row a < 3) {x u : Nat} (hx : x < A.1 6 2) (hm : m < 24) (hu : u < 3) (Q : Int32 → zSt → Prop) : wX8_nextBy (nI x) (nI m) (nI u) σ Q = Q (nI (znx (A.1 4 x) (A.1 5 x) (fun b => zwt A.1 row 0 b m) (fun b => zwt A.1 row 1 b m) m u)) σ := by
  have hx4 : x < 4 := by have := hi.1.2.2.2.2.2.1; omega
  have hv : vp_in (nI x) 4 := zin' hx4 (by omega)
  have ln := (hi.1.2.2.1 x hx4).2
  have lk := (hi.1.2.2.1 x hx4).1
  have g1 : σ.1 7 x = nI (A.1 4 x) := (h.1.2.2.1 x hx4).1 hx
  have g2 : σ.1 8 x = nI (A.1 5 x) := (h.1.2.2.1 x hx4).2
  have r2 : nI (A.1 5 x) - nI (A.1 5 x) / 2 * 2 = nI (A.1 5 x % 2) := pk_rem (d := 2) (by omega) (by omega) (by omega)
  have r3 : nI m - nI m / 3 * 3 = nI (m % 3) := pk_rem (d := 3) (by omega) (by omega) (by omega)
  have q0 : wX8_plainNext (nI x) (nI m) (nI u) σ Q = _ := p8_plain hi h hx4 hm hu Q
  have q1 : wX8_tideNext (nI x) (nI m) (nI u) σ Q = _ := p8_tide hi h hr hx4 hm hu Q
  have q2 : wX8_marketNext (nI m) σ Q = _ := p8_market hi h hr hm Q
  have q3 : wX8_bestNext (nI m) σ Q = _ := p8_best hi h hr hm Q
  have q4 := fun (R : Int32 → zSt → Prop) => p8_waits hi h hr (s := 0) (b := u) (by omega) hu hm R
  have la := zwt_le hi.1 row (s := 0) (by omega) u m
  unfold wX8_nextBy
  rw [zcl (by omega), forall_eq, g1, g2, r2, r3, q0, q1, q2, q3, show wX8_waits 0 = wX8_waits (nI 0) from rfl, q4]
  simp only [hv, true_and]
  generalize A.1 4 x = k at lk g1 ⊢
  unfold znx
  rcases (show k = 0 ∨ k = 1 ∨ k = 2 ∨ k = 3 ∨ k = 4 ∨ k = 5 by omega) with rfl | rfl | rfl | rfl | rfl | rfl
  · rfl
  · rfl
  · rfl
  · rw [if_neg (show ¬ nI 3 = (0 : Int32) by decide), if_neg (show ¬ nI 3 = (2 : Int32) by decide), if_neg (show ¬ nI 3 = (4 : Int32) by decide), if_neg (show ¬ nI 3 = (4 : Int32) by decide), if_pos (show nI 3 = (3 : Int32) from rfl), if_neg (show ¬ 3 = 1 by decide), if_neg (show ¬ 3 = 2 by decide), if_pos (show 3 = 3 from rfl)]
    by_cases q : zwt A.1 row 0 u m = 0
    · rw [if_pos q, if_pos (show nI (zwt A.1 row 0 u m) ≤ (0 : Int32) from nI_le (b := 0) (by omega) (by omega))]
      exact q1
    · rw [if_neg q, if_neg (show ¬ nI (zwt A.1 row 0 u m) ≤ (0 : Int32) from nI_ge (a := 0) (by omega) (by omega))]
  · rw [if_neg (show ¬ nI 4 = (0 : Int32) by decide), if_neg (show ¬ nI 4 = (2 : Int32) by decide), if_pos (show nI 4 = (4 : Int32) from rfl), if_pos (show nI 4 = (4 : Int32) from rfl), if_neg (show ¬ 4 = 1 by decide), if_neg (show ¬ 4 = 2 by decide), if_neg (show ¬ 4 = 3 by decide), if_pos (show 4 = 4 from rfl)]
    by_cases q : A.1 5 x % 2 = 1
    · rw [if_pos q, if_pos (show nI (A.1 5 x % 2) = (1 : Int32) from by rw [q]; rfl)]
    · rw [if_neg q, if_neg (show ¬ nI (A.1 5 x % 2) = (1 : Int32) from fun z => q ((nI_eq (b := 1) (by omega) (by omega)).mp z))]
  · rw [if_neg (show ¬ nI 5 = (0 : Int32) by decide), if_neg (show ¬ nI 5 = (2 : Int32) by decide), if_neg (show ¬ nI 5 = (4 : Int32) by decide), if_neg (show ¬ nI 5 = (4 : Int32) by decide), if_neg (show ¬ nI 5 = (3 : Int32) by decide), if_pos (show nI 5 = (5 : Int32) from rfl), if_neg (show ¬ 5 = 1 by decide), if_neg (show ¬ 5 = 2 by decide), if_neg (show ¬ 5 = 3 by decide), if_neg (show ¬ 5 = 4 by decide), if_pos (show 5 = 5 from rfl)]
    by_cases q : m % 3 = 0
    · rw [if_pos q, if_pos (show nI (m % 3) = (0 : Int32) from by rw [q]; rfl)]
    · rw [if_neg q, if_neg (show ¬ nI (m % 3) = (0 : Int32) from fun z => q ((nI_eq (b := 0) (by omega) (by omega)).mp z))]
