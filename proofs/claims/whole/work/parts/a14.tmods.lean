/-! words are told apart -/
def tx_w_eq (w v j : Nat) : Bool := decide ((zbyt.getD (w + 1) []).getD j (0 : Int32) = (zbyt.getD (v + 1) []).getD j (0 : Int32))
theorem tx_w_d : ∀ w, w < 12 → ∀ v, v < 12 → (decide (zlen.getD (w + 1) 0 = zlen.getD (v + 1) 0) && (tx_w_eq w v 0 && tx_w_eq w v 1 && tx_w_eq w v 2 && tx_w_eq w v 3 && tx_w_eq w v 4 && tx_w_eq w v 5)) = true → w = v := by decide +kernel
theorem tx_w_o : ∀ w, w < 12 → ∀ j, j < 6 → (if j < zlen.getD (w + 1) 0 then True else (zbyt.getD (w + 1) []).getD j 0 = 0) := by decide +kernel
theorem tx_isw_u {T : Nat → Nat} {a e w v : Nat} (hw : 1 ≤ w ∧ w < 13) (hv : 1 ≤ v ∧ v < 13) (h1 : tx_isw w T a e = true) (h2 : tx_isw v T a e = true) : w = v := by
  obtain ⟨w, rfl⟩ : ∃ w', w = w' + 1 := ⟨w - 1, by omega⟩
  obtain ⟨v, rfl⟩ : ∃ w', v = w' + 1 := ⟨v - 1, by omega⟩
  unfold tx_isw at h1 h2
  simp only [Bool.and_eq_true, decide_eq_true_eq] at h1 h2
  have el : zlen.getD (w + 1) 0 = zlen.getD (v + 1) 0 := by rw [← h1.1, h2.1]
  have := tx_w_d w (by omega) v (by omega) (by
    have key : ∀ j, j < 6 → tx_w_eq w v j = true := by
     intro j hj
     unfold tx_w_eq
     rw [decide_eq_true_eq]
     by_cases c : j < zlen.getD (w + 1) 0
     · rw [← h1.2 j c, ← h2.2 j (by omega)]
     · have k1 := tx_w_o w (by omega) j hj
       have k2 := tx_w_o v (by omega) j hj
       rw [if_neg c] at k1
       rw [if_neg (by omega)] at k2
       rw [k1, k2]
    rw [key 0 (by omega), key 1 (by omega), key 2 (by omega), key 3 (by omega), key 4 (by omega), key 5 (by omega)]
    rw [decide_eq_true el]; rfl)
  omega
theorem tx_kd_3 {T : Nat → Nat} {n k : Nat} (h : (tx_tk T n k).1 = 3) : tx_kd T n k = T (tx_tk T n k).2.1 := by
  unfold tx_kd tx_kdt
  rw [h, if_neg (by decide), if_neg (by decide), if_neg (by decide), if_pos rfl]
theorem tx_kd_1 {T : Nat → Nat} {n k : Nat} (h : (tx_tk T n k).1 = 1) : tx_kd T n k = if tx_nm T (tx_tk T n k).2.1 (tx_tk T n k).2.2 = -1 then tx_ky T (tx_tk T n k).2.1 (tx_tk T n k).2.2 else 3 := by
  unfold tx_kd tx_kdt
  rw [h, if_neg (by decide), if_pos rfl]
theorem tx_kd_n {T : Nat → Nat} {n k : Nat} (h3 : (tx_tk T n k).1 ≠ 3) (h1 : (tx_tk T n k).1 ≠ 1) : tx_kd T n k = if (tx_tk T n k).1 = 0 then 0 else if (tx_tk T n k).1 = 2 then 2 else 1 := by
  unfold tx_kd tx_kdt
  rw [if_neg h1, if_neg h3]
theorem tx_kd_9 {T : Nat → Nat} {n k : Nat} (h3 : (tx_tk T n k).1 ≠ 3) : tx_kd T n k ≤ 9 := by
  by_cases h1 : (tx_tk T n k).1 = 1
  · rw [tx_kd_1 h1]
    split
    · exact (tx_ky_ne _ _ _).2
    · omega
  · rw [tx_kd_n h3 h1]
    split
    · omega
    · split <;> omega
theorem tx_sg_b {T : Nat → Nat} {n k : Nat} (hn : n ≤ 160) (h : (tx_tk T n k).1 = 3) : tx_sg (T (tx_tk T n k).2.1) = true ∧ (tx_tk T n k).2.1 < n := by
  rcases tx_lx_c T n (tx_ps T n k) (tx_ps_le T n hn k) hn with q | ⟨q1, q2, q3, q4, q5⟩
  · rw [show tx_tk T n k = (0, n, n) from q] at h; exact absurd h (by simp)
  · rw [show tx_lx T n (tx_ps T n k) = tx_tk T n k from rfl] at q1 q2 q3 q4 q5
    refine ⟨?_, by omega⟩
    rcases q5 with ⟨a, _⟩ | ⟨a, _⟩ | ⟨a, b, c, d, e⟩ | ⟨a, _⟩
    · rw [a] at h; exact absurd h (by decide)
    · rw [a] at h; split at h <;> omega
    · exact d
    · rw [a] at h; exact absurd h (by decide)
theorem tx_sg_40 {c : Nat} (h : tx_sg c = true) : 40 ≤ c ∧ c < 62 := by
  unfold tx_sg at h
  simp only [Bool.or_eq_true, beq_iff_eq] at h
  omega
theorem tx_kd_s {T : Nat → Nat} {n k s : Nat} (hn : n ≤ 160) (hs : 40 ≤ s) : tx_kd T n k = s ↔ ((tx_tk T n k).1 = 3 ∧ T (tx_tk T n k).2.1 = s) := by
  constructor
  · intro h
    by_cases c : (tx_tk T n k).1 = 3
    · rw [tx_kd_3 c] at h; exact ⟨c, h⟩
    · have := tx_kd_9 c; omega
  · intro h
    rw [tx_kd_3 h.1]; exact h.2
/-- words that are keys -/
theorem tx_ky_w {T : Nat → Nat} {a e w : Nat} (hw : 7 ≤ w ∧ w < 13) : (tx_nm T a e = -1 ∧ tx_ky T a e = w - 3) ↔ tx_isw w T a e = true := by
  have nb : ∀ v, 1 ≤ v ∧ v < 13 → v ≠ w → tx_isw w T a e = true → ¬ tx_isw v T a e = true := fun v hv hne h q => hne (tx_isw_u hv ⟨by omega, hw.2⟩ q h)
  constructor
  · intro ⟨_, h2⟩
    unfold tx_ky at h2
    rcases (show w = 7 ∨ w = 8 ∨ w = 9 ∨ w = 10 ∨ w = 11 ∨ w = 12 by omega) with rfl | rfl | rfl | rfl | rfl | rfl
    all_goals
      repeat' split at h2
      all_goals first | assumption | omega
  · intro h
    have n1 := nb 1 (by omega) (by omega) h
    have n2 := nb 2 (by omega) (by omega) h
    have n3 := nb 3 (by omega) (by omega) h
    have n4 := nb 4 (by omega) (by omega) h
    have n5 := nb 5 (by omega) (by omega) h
    have n6 := nb 6 (by omega) (by omega) h
    refine ⟨by unfold tx_nm; rw [if_neg n1, if_neg n2, if_neg n3, if_neg n4, if_neg n5, if_neg n6], ?_⟩
    unfold tx_ky
    by_cases e7 : w = 7
    · subst e7; rw [if_pos h]
    rw [if_neg (nb 7 (by omega) (fun z => e7 z.symm) h)]
    by_cases e8 : w = 8
    · subst e8; rw [if_pos h]
    rw [if_neg (nb 8 (by omega) (fun z => e8 z.symm) h)]
    by_cases e9 : w = 9
    · subst e9; rw [if_pos h]
    rw [if_neg (nb 9 (by omega) (fun z => e9 z.symm) h)]
    by_cases e10 : w = 10
    · subst e10; rw [if_pos h]
    rw [if_neg (nb 10 (by omega) (fun z => e10 z.symm) h)]
    by_cases e11 : w = 11
    · subst e11; rw [if_pos h]
    rw [if_neg (nb 11 (by omega) (fun z => e11 z.symm) h)]
    have e12 : w = 12 := by omega
    subst e12; rw [if_pos h]
theorem tx_kd_w {T : Nat → Nat} {n k w : Nat} (hn : n ≤ 160) (hw : 7 ≤ w ∧ w < 13) : tx_kd T n k = w - 3 ↔ ((tx_tk T n k).1 = 1 ∧ tx_isw w T (tx_tk T n k).2.1 (tx_tk T n k).2.2 = true) := by
  constructor
  · intro h
    by_cases c1 : (tx_tk T n k).1 = 1
    · refine ⟨c1, (tx_ky_w hw).mp ?_⟩
      rw [tx_kd_1 c1] at h
      by_cases c2 : tx_nm T (tx_tk T n k).2.1 (tx_tk T n k).2.2 = -1
      · rw [if_pos c2] at h; exact ⟨c2, h⟩
      · rw [if_neg c2] at h; omega
    · exfalso
      by_cases c3 : (tx_tk T n k).1 = 3
      · rw [tx_kd_3 c3] at h
        have := tx_sg_40 (tx_sg_b hn c3).1
        omega
      · rw [tx_kd_n c3 c1] at h
        split at h
        · omega
        · split at h <;> omega
  · intro h
    rw [tx_kd_1 h.1]
    have := (tx_ky_w hw).mpr h.2
    rw [if_pos this.1]; exact this.2
theorem tx_kd_2 {T : Nat → Nat} {n k : Nat} (hn : n ≤ 160) : tx_kd T n k = 2 ↔ (tx_tk T n k).1 = 2 := by
  constructor
  · intro h
    by_cases c1 : (tx_tk T n k).1 = 1
    · rw [tx_kd_1 c1] at h
      by_cases c2 : tx_nm T (tx_tk T n k).2.1 (tx_tk T n k).2.2 = -1
      · rw [if_pos c2] at h
        unfold tx_ky at h
        repeat' split at h
        all_goals omega
      · rw [if_neg c2] at h; omega
    · by_cases c3 : (tx_tk T n k).1 = 3
      · rw [tx_kd_3 c3] at h
        have := tx_sg_40 (tx_sg_b hn c3).1
        omega
      · rw [tx_kd_n c3 c1] at h
        split at h
        · omega
        · split at h
          · assumption
          · omega
  · intro h
    rw [tx_kd_n (by omega) (by omega), h]; rfl
theorem tx_kd_nm {T : Nat → Nat} {n k : Nat} (hn : n ≤ 160) : tx_kd T n k = 3 ↔ ((tx_tk T n k).1 = 1 ∧ ¬ tx_nm T (tx_tk T n k).2.1 (tx_tk T n k).2.2 = -1) := by
  constructor
  · intro h
    by_cases c1 : (tx_tk T n k).1 = 1
    · refine ⟨c1, fun c2 => ?_⟩
      rw [tx_kd_1 c1, if_pos c2] at h
      unfold tx_ky at h
      repeat' split at h
      all_goals omega
    · exfalso
      by_cases c3 : (tx_tk T n k).1 = 3
      · rw [tx_kd_3 c3] at h
        have := tx_sg_40 (tx_sg_b hn c3).1
        omega
      · rw [tx_kd_n c3 c1] at h
        split at h
        · omega
        · split at h <;> omega
  · intro h
    rw [tx_kd_1 h.1, if_neg h.2]
theorem tx_kd_4 {T : Nat → Nat} {n k : Nat} (h : 2 ≤ tx_kd T n k) : (tx_tk T n k).1 ≠ 4 := by
  intro q
  rw [tx_kd_n (by omega) (by omega), q, if_neg (by decide), if_neg (by decide)] at h
  omega
