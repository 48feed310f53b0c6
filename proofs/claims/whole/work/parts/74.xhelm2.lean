def zgm (D : zD) (row : Nat → Nat) (m : Nat) : Nat := zmask (fun i => zPr D i && zgn D row i m) 8
theorem p2_waiting {A : zA} {σ : zSt} (h : RX A σ) (row : Nat → Nat) {s b m : Nat} (hs : s < 2) (hb : b < 3) (hm : m < 24) (Q : Int32 → zSt → Prop) : wX2_waiting (nI (4 * s)) (nI b) (nI m) (nI (zgm A.1 row m)) σ Q = Q (nI (zwt A.1 row s b m)) σ := by
  have L : ∀ (j k n : Nat), k + j = 4 → j < n → wX2_waiting_L6 Q (fun v s => Q v s) (nI (4 * s)) (nI b) (nI m) (nI (zgm A.1 row m)) n (nI (zsum (fun k => if zwtp A.1 row b m (4 * s + k) = true then A.1 3 (4 * s + k) else 0) k)) (nI (4 * s + k)) σ = Q (nI (zwt A.1 row s b m)) σ := by
    intro j
    induction j with
    | zero =>
      intro k n h1 h2
      obtain ⟨n, rfl⟩ : ∃ n', n = n' + 1 := ⟨n - 1, by omega⟩
      have : k = 4 := by omega
      subst this
      rw [wX2_waiting_L6, if_pos (show nI (4 * s) + 4 ≤ nI (4 * s + 4) from by rw [show (4 : Int32) = nI 4 from rfl, nI_add]; exact Int32.le_refl _)]
      rfl
    | succ j ih =>
      intro k n h1 h2
      obtain ⟨n, rfl⟩ : ∃ n', n = n' + 1 := ⟨n - 1, by omega⟩
      have hi : 4 * s + k < 8 := by omega
      have g := h.2.1.2.1 (4 * s + k) hi
      have ok := h.1.1.2.1 (4 * s + k) hi
      have hv : vp_in (nI (4 * s + k)) 8 := zin' hi (by omega)
      have e1 : nI (4 * s + k) + 1 = nI (4 * s + (k + 1)) := nI_1 _
      rw [wX2_waiting_L6, if_neg (show ¬ nI (4 * s) + 4 ≤ nI (4 * s + k) from by rw [show (4 : Int32) = nI 4 from rfl, nI_add]; exact nI_ge (by omega) (by omega)), if_neg (show ¬ (8 : Int32) ≤ nI (4 * s + k) from nI_ge (b := 8) hi (by omega)), p1_isThere h.2.1 h.1.1 hi, zcl (by omega), show σ.1 4 (4 * s + k) = _ from g.1, show σ.1 5 (4 * s + k) = _ from g.2.1, show σ.1 6 (4 * s + k) = _ from g.2.2, zsh hi]
      simp only [hv, true_and, forall_eq, e1, nI_add]
      have st := ih (k + 1) n (by omega) (by omega)
      rw [zsum] at st
      have hbit : (zgm A.1 row m).testBit (4 * s + k) = (zPr A.1 (4 * s + k) && zgn A.1 row (4 * s + k) m) := by
        unfold zgm
        rw [zmask_bit]
        simp [hi]
      by_cases c1 : zPr A.1 (4 * s + k) = true
      · rw [if_pos c1, if_neg (by decide)]
        by_cases c2 : A.1 1 (4 * s + k) = b
        · rw [if_pos (by rw [c2])]
          by_cases c3 : m < A.1 2 (4 * s + k)
          · rw [if_pos (nI_lt c3 (by omega))]
            have : ¬ zwtp A.1 row b m (4 * s + k) = true := by unfold zwtp; simp [show ¬ A.1 2 (4 * s + k) ≤ m by omega]
            rw [if_neg this, Nat.add_zero] at st
            exact st
          · rw [if_neg (nI_nlt (by omega) (by omega))]
            by_cases c4 : zgn A.1 row (4 * s + k) m = true
            · rw [if_neg (fun z => by rw [fa_bit (by omega), hbit, c1, c4] at z; cases z)]
              have : ¬ zwtp A.1 row b m (4 * s + k) = true := by unfold zwtp; simp [c4]
              rw [if_neg this, Nat.add_zero] at st
              exact st
            · have c4' : zgn A.1 row (4 * s + k) m = false := by simpa using c4
              rw [if_pos (by rw [fa_bit (by omega), hbit, c4']; simp)]
              have : zwtp A.1 row b m (4 * s + k) = true := by unfold zwtp; simp [c1, c2, c4', show A.1 2 (4 * s + k) ≤ m by omega]
              rw [if_pos this] at st
              exact st
        · rw [if_neg (fun z => c2 ((nI_eq (by omega) (by omega)).mp z))]
          have : ¬ zwtp A.1 row b m (4 * s + k) = true := by unfold zwtp; simp [c2]
          rw [if_neg this, Nat.add_zero] at st
          exact st
      · rw [if_neg c1, if_pos rfl]
        have : ¬ zwtp A.1 row b m (4 * s + k) = true := by unfold zwtp; simp [c1]
        rw [if_neg this, Nat.add_zero] at st
        exact st
  unfold wX2_waiting
  exact L 4 0 300 (by omega) (by omega)
theorem p2_going {A : zA} {σ : zSt} (h : RX A σ) {m u : Nat} (hm : m < 24) (hu : u < 3) (Q : Int32 → zSt → Prop) : wX2_going (nI m) (nI u) σ Q = Q (nI (zmask (fun i => zPr A.1 i && (decide (A.1 2 i ≤ m) && zPa A.1 i u)) 8)) σ := by
  have L : ∀ (j i n : Nat), i + j = 8 → j < n → wX2_going_L5 Q (fun v s => Q v s) (nI m) (nI u) n (nI (zmask (fun i => zPr A.1 i && (decide (A.1 2 i ≤ m) && zPa A.1 i u)) i)) (nI i) σ = Q (nI (zmask (fun i => zPr A.1 i && (decide (A.1 2 i ≤ m) && zPa A.1 i u)) 8)) σ := by
    intro j
    induction j with
    | zero =>
      intro i n h1 h2
      obtain ⟨n, rfl⟩ : ∃ n', n = n' + 1 := ⟨n - 1, by omega⟩
      have : i = 8 := by omega
      subst this
      rw [wX2_going_L5, if_pos (by decide)]
    | succ j ih =>
      intro i n h1 h2
      obtain ⟨n, rfl⟩ : ∃ n', n = n' + 1 := ⟨n - 1, by omega⟩
      have hi : i < 8 := by omega
      have g := h.2.1.2.1 i hi
      have ok := h.1.1.2.1 i hi
      have hv : vp_in (nI i) 8 := zin' hi (by omega)
      have e1 : nI i + 1 = nI (i + 1) := nI_1 _
      rw [wX2_going_L5, if_neg (show ¬ (8 : Int32) ≤ nI i from nI_ge (b := 8) hi (by omega)), p1_isThere h.2.1 h.1.1 hi, zcl (by omega), show σ.1 5 i = _ from g.2.1, p1_passes h.2.1 h.1.1 hi hu]
      simp only [hv, true_and, forall_eq, e1]
      have st := ih (i + 1) n (by omega) (by omega)
      by_cases c1 : zPr A.1 i = true
      · rw [if_pos c1, if_neg (by decide)]
        by_cases c2 : m < A.1 2 i
        · rw [if_pos (nI_lt c2 (by omega))]
          rw [zmask_n _ (by simp [show ¬ A.1 2 i ≤ m by omega])] at st
          exact st
        · rw [if_neg (nI_nlt (by omega) (by omega))]
          by_cases c3 : zPa A.1 i u = true
          · rw [if_pos c3, if_neg (by decide)]
            rw [← zmask_s _ hi (by simp [c1, c3, show A.1 2 i ≤ m by omega])] at st
            exact st
          · rw [if_neg c3, if_pos rfl]
            rw [zmask_n _ (by simp [c3])] at st
            exact st
      · rw [if_neg c1, if_pos rfl]
        rw [zmask_n _ (by simp [c1])] at st
        exact st
  unfold wX2_going
  exact L 8 0 300 (by omega) (by omega)
theorem p2_clock {n m u : Nat} (hn : n ≤ 9) (hm : m < 24) (hu : u < 3) (σ : zSt) (Q : Int32 → zSt → Prop) : wX2_byClock (nI n) (nI m) (nI u) σ Q = Q (nI (zclk n m u)) σ := by
  unfold wX2_byClock
  simp only [forall_eq, nI_1]
  rw [if_neg (show ¬ nI (n + 1) ≤ (0 : Int32) from nI_ge (a := 0) (by omega) (by omega)), pk_rem (by omega) (by omega) (by omega)]
  have hne : ¬ nI (n + 1) = 0 := nI_ne0 (by omega) (by omega)
  simp only [hne, not_false_eq_true, true_and]
  have hlt : m % (n + 1) < n + 1 := Nat.mod_lt _ (by omega)
  unfold zclk
  by_cases c : m % (n + 1) = 0
  · rw [if_pos c, if_pos (by rw [c]; rfl), show (3 : Int32) = nI 3 from rfl, pk_rem (by omega) (by omega) (by omega)]
  · rw [if_neg c, if_neg (nI_ne0 (by omega) (by omega))]
section
variable {σ : zSt} {s c : Nat → Nat} (hs : ∀ b, b < 3 → σ.1 40 b = nI (s b) ∧ s b ≤ 36) (hc : ∀ b, b < 3 → σ.1 41 b = nI (c b) ∧ c b ≤ 36)
theorem p2_tide {n m u : Nat} (hn : n ≤ 9) (hm : m < 24) (hu : u < 3) (hs : ∀ b, b < 3 → σ.1 40 b = nI (s b) ∧ s b ≤ 36) (Q : Int32 → zSt → Prop) : wX2_byTide (nI n) (nI m) (nI u) σ Q = Q (nI (ztid s n m u)) σ := by
  obtain ⟨e0, l0⟩ := hs 0 (by omega)
  obtain ⟨e1, l1⟩ := hs 1 (by omega)
  obtain ⟨e2, l2⟩ := hs 2 (by omega)
  have fin : ∀ a, a < 3 → zarg (fun b => (s b : Int)) = a → (vp_in (nI a) 3 ∧ (if (σ.1 40 (nI a).toNatClampNeg) ≤ 0 then (wX2_byClock (nI n) (nI m) (nI u) σ (fun r105 σ106 => Q r105 σ106)) else (Q (nI a) σ))) = Q (nI (ztid s n m u)) σ := by
    intro a ha e
    rw [zcl (by omega), (hs a ha).1, p2_clock hn hm hu]
    have hv : vp_in (nI a) 3 := zin' ha (by omega)
    simp only [hv, true_and]
    have la := (hs a ha).2
    unfold ztid
    rw [e]
    by_cases q : 0 < s a
    · rw [if_pos q, if_neg (show ¬ nI (s a) ≤ (0 : Int32) from nI_ge (a := 0) q (by omega))]
    · rw [if_neg q, if_pos (show nI (s a) ≤ (0 : Int32) from nI_le (b := 0) (by omega) (by omega))]
  unfold wX2_byTide
  rw [show (300 : Nat) = 297 + 1 + 1 + 1 from rfl, wX2_byTide_L6, if_neg (by decide), show (1 : Int32).toNatClampNeg = 1 from by decide, show (0 : Int32).toNatClampNeg = 0 from by decide, e0, e1]
  simp only [show vp_in (1 : Int32) 3 from zlit (by decide), show vp_in (0 : Int32) 3 from zlit (by decide), true_and, forall_eq, show (1 : Int32) + 1 = 2 from by decide]
  by_cases c1 : s 1 ≤ s 0
  · rw [if_pos (nI_le c1 (by omega)), wX2_byTide_L6, if_neg (by decide), show (2 : Int32).toNatClampNeg = 2 from by decide, show (0 : Int32).toNatClampNeg = 0 from by decide, e0, e2]
    simp only [show vp_in (2 : Int32) 3 from zlit (by decide), show vp_in (0 : Int32) 3 from zlit (by decide), true_and, forall_eq, show (2 : Int32) + 1 = 3 from by decide]
    by_cases c2 : s 2 ≤ s 0
    · rw [if_pos (nI_le c2 (by omega)), wX2_byTide_L6, if_pos (by decide)]
      exact fin 0 (by omega) (by unfold zarg; simp [c1, c2])
    · rw [if_neg (nI_ge (by omega) (by omega)), wX2_byTide_L6, if_pos (by decide)]
      exact fin 2 (by omega) (by unfold zarg; simp [c1, c2])
  · rw [if_neg (nI_ge (by omega) (by omega)), wX2_byTide_L6, if_neg (by decide), show (2 : Int32).toNatClampNeg = 2 from by decide, show (1 : Int32).toNatClampNeg = 1 from by decide, e1, e2]
    simp only [show vp_in (2 : Int32) 3 from zlit (by decide), show vp_in (1 : Int32) 3 from zlit (by decide), true_and, forall_eq, show (2 : Int32) + 1 = 3 from by decide]
    by_cases c2 : s 2 ≤ s 1
    · rw [if_pos (nI_le c2 (by omega)), wX2_byTide_L6, if_pos (by decide)]
      exact fin 1 (by omega) (by unfold zarg; simp [c1, c2])
    · rw [if_neg (nI_ge (by omega) (by omega)), wX2_byTide_L6, if_pos (by decide)]
      exact fin 2 (by omega) (by unfold zarg; simp [c1, c2])
theorem p2_market (hc : ∀ b, b < 3 → σ.1 41 b = nI (c b) ∧ c b ≤ 36) (Q : Int32 → zSt → Prop) : wX2_byMarket σ Q = Q (nI (zarg (fun b => - (c b : Int)))) σ := by
  obtain ⟨e0, l0⟩ := hc 0 (by omega)
  obtain ⟨e1, l1⟩ := hc 1 (by omega)
  obtain ⟨e2, l2⟩ := hc 2 (by omega)
  unfold wX2_byMarket
  rw [show (300 : Nat) = 297 + 1 + 1 + 1 from rfl, wX2_byMarket_L4, if_neg (by decide), show (1 : Int32).toNatClampNeg = 1 from by decide, show (0 : Int32).toNatClampNeg = 0 from by decide, e0, e1]
  simp only [show vp_in (1 : Int32) 3 from zlit (by decide), show vp_in (0 : Int32) 3 from zlit (by decide), true_and, forall_eq, show (1 : Int32) + 1 = 2 from by decide]
  by_cases c1 : c 0 ≤ c 1
  · rw [if_pos (nI_le c1 (by omega)), wX2_byMarket_L4, if_neg (by decide), show (2 : Int32).toNatClampNeg = 2 from by decide, show (0 : Int32).toNatClampNeg = 0 from by decide, e0, e2]
    simp only [show vp_in (2 : Int32) 3 from zlit (by decide), show vp_in (0 : Int32) 3 from zlit (by decide), true_and, forall_eq, show (2 : Int32) + 1 = 3 from by decide]
    by_cases c2 : c 0 ≤ c 2
    · rw [if_pos (nI_le c2 (by omega)), wX2_byMarket_L4, if_pos (by decide)]
      rw [show zarg (fun b => - (c b : Int)) = 0 by unfold zarg; simp only; rw [if_pos (by omega), if_pos (by omega)]]; rfl
    · rw [if_neg (nI_ge (by omega) (by omega)), wX2_byMarket_L4, if_pos (by decide)]
      rw [show zarg (fun b => - (c b : Int)) = 2 by unfold zarg; simp only; rw [if_pos (by omega), if_neg (by omega)]]; rfl
  · rw [if_neg (nI_ge (by omega) (by omega)), wX2_byMarket_L4, if_neg (by decide), show (2 : Int32).toNatClampNeg = 2 from by decide, show (1 : Int32).toNatClampNeg = 1 from by decide, e1, e2]
    simp only [show vp_in (2 : Int32) 3 from zlit (by decide), show vp_in (1 : Int32) 3 from zlit (by decide), true_and, forall_eq, show (2 : Int32) + 1 = 3 from by decide]
    by_cases c2 : c 1 ≤ c 2
    · rw [if_pos (nI_le c2 (by omega)), wX2_byMarket_L4, if_pos (by decide)]
      rw [show zarg (fun b => - (c b : Int)) = 1 by unfold zarg; simp only; rw [if_neg (by omega), if_pos (by omega)]]; rfl
    · rw [if_neg (nI_ge (by omega) (by omega)), wX2_byMarket_L4, if_pos (by decide)]
      rw [show zarg (fun b => - (c b : Int)) = 2 by unfold zarg; simp only; rw [if_neg (by omega), if_neg (by omega)]]; rfl
theorem zsubc {a b a' b' : Nat} (h1 : a ≤ 36) (h2 : b ≤ 36) (h3 : a' ≤ 36) (h4 : b' ≤ 36) : (nI a - nI b ≤ nI a' - nI b') ↔ ((a : Int) - b ≤ (a' : Int) - b') := by
  rw [Int32.le_iff_toInt_le, pk_sub_toInt (by omega) (by omega), pk_sub_toInt (by omega) (by omega)]
theorem p2_gain (hs : ∀ b, b < 3 → σ.1 40 b = nI (s b) ∧ s b ≤ 36) (hc : ∀ b, b < 3 → σ.1 41 b = nI (c b) ∧ c b ≤ 36) (Q : Int32 → zSt → Prop) : wX2_byGain σ Q = Q (nI (zarg (fun b => (s b : Int) - c b))) σ := by
  obtain ⟨e0, l0⟩ := hs 0 (by omega)
  obtain ⟨e1, l1⟩ := hs 1 (by omega)
  obtain ⟨e2, l2⟩ := hs 2 (by omega)
  obtain ⟨f0, k0⟩ := hc 0 (by omega)
  obtain ⟨f1, k1⟩ := hc 1 (by omega)
  obtain ⟨f2, k2⟩ := hc 2 (by omega)
  unfold wX2_byGain
  rw [show (300 : Nat) = 297 + 1 + 1 + 1 from rfl, wX2_byGain_L4, if_neg (by decide), show (1 : Int32).toNatClampNeg = 1 from by decide, show (0 : Int32).toNatClampNeg = 0 from by decide, e0, e1, f0, f1]
  simp only [show vp_in (1 : Int32) 3 from zlit (by decide), show vp_in (0 : Int32) 3 from zlit (by decide), true_and, forall_eq, show (1 : Int32) + 1 = 2 from by decide]
  by_cases c1 : (s 1 : Int) - c 1 ≤ (s 0 : Int) - c 0
  · rw [if_pos ((zsubc l1 k1 l0 k0).mpr c1), wX2_byGain_L4, if_neg (by decide), show (2 : Int32).toNatClampNeg = 2 from by decide, show (0 : Int32).toNatClampNeg = 0 from by decide, e0, e2, f0, f2]
    simp only [show vp_in (2 : Int32) 3 from zlit (by decide), show vp_in (0 : Int32) 3 from zlit (by decide), true_and, forall_eq, show (2 : Int32) + 1 = 3 from by decide]
    by_cases c2 : (s 2 : Int) - c 2 ≤ (s 0 : Int) - c 0
    · rw [if_pos ((zsubc l2 k2 l0 k0).mpr c2), wX2_byGain_L4, if_pos (by decide)]
      rw [show zarg (fun b => (s b : Int) - c b) = 0 by unfold zarg; simp only; rw [if_pos c1, if_pos c2]]; rfl
    · rw [if_neg (fun z => c2 ((zsubc l2 k2 l0 k0).mp z)), wX2_byGain_L4, if_pos (by decide)]
      rw [show zarg (fun b => (s b : Int) - c b) = 2 by unfold zarg; simp only; rw [if_pos c1, if_neg c2]]; rfl
  · rw [if_neg (fun z => c1 ((zsubc l1 k1 l0 k0).mp z)), wX2_byGain_L4, if_neg (by decide), show (2 : Int32).toNatClampNeg = 2 from by decide, show (1 : Int32).toNatClampNeg = 1 from by decide, e1, e2, f1, f2]
    simp only [show vp_in (2 : Int32) 3 from zlit (by decide), show vp_in (1 : Int32) 3 from zlit (by decide), true_and, forall_eq, show (2 : Int32) + 1 = 3 from by decide]
    by_cases c2 : (s 2 : Int) - c 2 ≤ (s 1 : Int) - c 1
    · rw [if_pos ((zsubc l2 k2 l1 k1).mpr c2), wX2_byGain_L4, if_pos (by decide)]
      rw [show zarg (fun b => (s b : Int) - c b) = 1 by unfold zarg; simp only; rw [if_neg c1, if_pos c2]]; rfl
    · rw [if_neg (fun z => c2 ((zsubc l2 k2 l1 k1).mp z)), wX2_byGain_L4, if_pos (by decide)]
      rw [show zarg (fun b => (s b : Int) - c b) = 2 by unfold zarg; simp only; rw [if_neg c1, if_neg c2]]; rfl
end
