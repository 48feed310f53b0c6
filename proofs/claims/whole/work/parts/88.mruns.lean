theorem zgn_0 (D : zD) (row : Nat → Nat) (i : Nat) : ∀ t, t ≤ D 2 i → zgn D row i t = false := by
  intro t
  induction t with
  | zero => intro _; rfl
  | succ t ih =>
    intro ht
    rw [zgn, ih (by omega), decide_eq_false (by omega)]
    rfl
theorem p8_waits {A : zA} {σ : zSt} (hi : zI A) (h : RM A σ) {row : Nat → Nat} {s b m : Nat} (hr : ∀ a, a < m → σ.1 10 a = nI (row a) ∧ row a < 3) (hs : s < 2) (hb : b < 3) (hm : m < 24) (Q : Int32 → zSt → Prop) : wX8_waits (nI s) (nI b) (nI m) σ Q = Q (nI (zwt A.1 row s b m)) σ := by
  have e4 : (4 : Int32) * nI s = nI (4 * s) := (Int32.ofNat_mul 4 s).symm
  have L2 : ∀ (i : Nat), i < 8 → ∀ (K : Int32 → zSt → Prop) (x4 : Int32) (j t n : Nat), t + j = m → A.1 2 i ≤ t → j < n → wX8_waits_L61 Q K (nI s) (nI b) (nI m) x4 (nI i) n (if zgn A.1 row i t = true then 0 else 1) (nI t) σ = K (if zgn A.1 row i m = true then 0 else 1) σ := by
    intro i h8 K x4 j
    induction j with
    | zero =>
      intro t n h1 h2 h3
      obtain ⟨n, rfl⟩ : ∃ n', n = n' + 1 := ⟨n - 1, by omega⟩
      have : t = m := by omega
      subst this
      rw [wX8_waits_L61, if_pos (Int32.le_refl _)]
    | succ j ih =>
      intro t n h1 h2 h3
      obtain ⟨n, rfl⟩ : ∃ n', n = n' + 1 := ⟨n - 1, by omega⟩
      have hv : vp_in (nI t) 24 := zin' (by omega) (by omega)
      have st := ih (t + 1) n (by omega) (by omega) (by omega)
      rw [zgn, decide_eq_true h2] at st
      rw [wX8_waits_L61, if_neg (show ¬ nI m ≤ nI t from nI_ge (by omega) (by omega)), zcl (by omega), (hr t (by omega)).1]
      simp only [hv, true_and, forall_eq, nI_1]
      by_cases c1 : zgn A.1 row i t = true
      · rw [if_pos c1, if_pos rfl]
        rw [c1, if_pos (show (true || (true && zPa A.1 i (row t))) = true from rfl)] at st
        exact st
      · have c1' : zgn A.1 row i t = false := by simpa using c1
        rw [if_neg c1, if_neg (by decide), p8_goes h.1 hi.1 h8 (hr t (by omega)).2]
        rw [c1'] at st
        by_cases c2 : zPa A.1 i (row t) = true
        · rw [if_pos c2, if_neg (by decide)]
          rw [c2, if_pos (show (false || (true && true)) = true from rfl)] at st
          exact st
        · rw [if_neg c2, if_pos rfl]
          have c2' : zPa A.1 i (row t) = false := by simpa using c2
          rw [c2', if_neg (show ¬ (false || (true && false)) = true by decide)] at st
          exact st
  have L : ∀ (j k n : Nat), k + j = 4 → j < n → wX8_waits_L8 Q (fun v s => Q v s) (nI s) (nI b) (nI m) n (nI (zsum (fun k => if zwtp A.1 row b m (4 * s + k) = true then A.1 3 (4 * s + k) else 0) k)) (nI (4 * s + k)) σ = Q (nI (zwt A.1 row s b m)) σ := by
    intro j
    induction j with
    | zero =>
      intro k n h1 h2
      obtain ⟨n, rfl⟩ : ∃ n', n = n' + 1 := ⟨n - 1, by omega⟩
      have : k = 4 := by omega
      subst this
      rw [wX8_waits_L8, e4, if_pos (show nI (4 * s) + 4 ≤ nI (4 * s + 4) from by rw [show (4 : Int32) = nI 4 from rfl, nI_add]; exact Int32.le_refl _)]
      rfl
    | succ j ih =>
      intro k n h1 h2
      obtain ⟨n, rfl⟩ : ∃ n', n = n' + 1 := ⟨n - 1, by omega⟩
      have h8 : 4 * s + k < 8 := by omega
      have g := h.1.2.1 (4 * s + k) h8
      have ok := hi.1.2.1 (4 * s + k) h8
      have hv : vp_in (nI (4 * s + k)) 8 := zin' h8 (by omega)
      have e1 : nI (4 * s + k) + 1 = nI (4 * s + (k + 1)) := nI_1 _
      rw [wX8_waits_L8, e4, if_neg (show ¬ nI (4 * s) + 4 ≤ nI (4 * s + k) from by rw [show (4 : Int32) = nI 4 from rfl, nI_add]; exact nI_ge (by omega) (by omega)), p8_isOne h.1 hi.1 h8, zcl (by omega), g.1, g.2.1]
      simp only [hv, true_and, forall_eq, e1, nI_add, Int32.add_zero]
      have st := ih (k + 1) n (by omega) (by omega)
      rw [zsum] at st
      by_cases c1 : zPr A.1 (4 * s + k) = true
      · rw [if_pos c1, if_neg (by decide)]
        by_cases c2 : A.1 1 (4 * s + k) = b
        · rw [if_pos (show nI (A.1 1 (4 * s + k)) = nI b by rw [c2])]
          by_cases c3 : m < A.1 2 (4 * s + k)
          · rw [if_pos (nI_lt c3 (by omega))]
            have : ¬ zwtp A.1 row b m (4 * s + k) = true := by unfold zwtp; simp [show ¬ A.1 2 (4 * s + k) ≤ m by omega]
            rw [if_neg this, Nat.add_zero] at st
            exact st
          · rw [if_neg (nI_nlt (by omega) (by omega))]
            have l2 := L2 (4 * s + k) h8
            have z0 := zgn_0 A.1 row (4 * s + k) (A.1 2 (4 * s + k)) (by omega)
            rw [show (1 : Int32) = (if zgn A.1 row (4 * s + k) (A.1 2 (4 * s + k)) = true then 0 else 1) from by rw [z0]; rfl, l2 _ _ (m - A.1 2 (4 * s + k)) (A.1 2 (4 * s + k)) 300 (by omega) (by omega) (by omega)]
            by_cases c4 : zgn A.1 row (4 * s + k) m = true
            · rw [if_pos c4, if_pos rfl]
              have : ¬ zwtp A.1 row b m (4 * s + k) = true := by unfold zwtp; simp [c4]
              rw [if_neg this, Nat.add_zero] at st
              exact st
            · have c4' : zgn A.1 row (4 * s + k) m = false := by simpa using c4
              rw [if_neg c4, if_neg (by decide), g.2.2, nI_add]
              have : zwtp A.1 row b m (4 * s + k) = true := by unfold zwtp; simp [c1, c2, c4', show A.1 2 (4 * s + k) ≤ m by omega]
              rw [if_pos this] at st
              exact st
        · rw [if_neg (show ¬ nI (A.1 1 (4 * s + k)) = nI b from fun z => c2 ((nI_eq (by omega) (by omega)).mp z))]
          have : ¬ zwtp A.1 row b m (4 * s + k) = true := by unfold zwtp; simp [c2]
          rw [if_neg this, Nat.add_zero] at st
          exact st
      · rw [if_neg c1, if_pos rfl]
        have : ¬ zwtp A.1 row b m (4 * s + k) = true := by unfold zwtp; simp [c1]
        rw [if_neg this, Nat.add_zero] at st
        exact st
  unfold wX8_waits
  rw [forall_eq, e4]
  exact L 4 0 300 (by omega) (by omega)
