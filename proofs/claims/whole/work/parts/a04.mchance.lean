theorem zlc0 (a : Nat) (ha : a < 2147483648) : ((lg_cmp (lN a) 0) = 0) ↔ a = 0 := by
  unfold lg_cmp
  have e0 : (0 : Int64) = lN 0 := rfl
  rw [e0]
  by_cases c : a = 0
  · subst c; simp
  · have c1 : lN a > lN 0 := (lN_lt (by omega) (by omega)).mpr (by omega)
    rw [if_pos c1]
    simp [c]
theorem zgcL {Q K : Int64 → zSt → Prop} {x2 x3 : Int32} {x4 : Int64} {σ : zSt} : ∀ (n a b : Nat), a ≤ 20 → b ≤ 20 → b < n → wX8_chance_L86 Q K x2 x3 x4 n (lN a) (lN b) σ = K (lN (Nat.gcd a b)) σ := by
  intro n
  induction n with
  | zero => intro a b h1 h2 h3; omega
  | succ n ih =>
    intro a b h1 h2 h3
    rw [wX8_chance_L86]
    by_cases c : b = 0
    · subst c
      rw [if_pos ((zlc0 0 (by omega)).mpr rfl), Nat.gcd_zero_right]
    · rw [if_neg (fun z => c ((zlc0 b (by omega)).mp z)), pk_lRem (by omega) (by omega) (by omega)]
      have hne : ¬ lN b = 0 := fun z => c ((lN_eq (b := 0) (by omega) (by omega)).mp z)
      have hm : a % b < b := Nat.mod_lt _ (by omega)
      simp only [hne, not_false_eq_true, true_and, forall_eq]
      rw [ih b (a % b) h2 (by omega) (by omega), Nat.gcd_comm a b, Nat.gcd_rec b a, Nat.gcd_comm (a % b) b]
theorem m_chance_L {A : zA} (hi : zI A) {n : Nat} (hn : n ≤ 20) (seed p : Int32) (Q K : Int64 → zSt → Prop) (hK : ∀ σ', RM A σ' → K (lN (zhit A.1 seed n)) σ') : ∀ (j k f : Nat) (σ : zSt), RM A σ → k + j = n → j < f → wX8_chance_L32 Q K seed (nI n) p f (lN (zhit A.1 seed k)) (nI k) σ := by
  intro j
  induction j with
  | zero =>
    intro k f σ h hk hf
    obtain ⟨f, rfl⟩ : ∃ n', f = n' + 1 := ⟨f - 1, by omega⟩
    have : k = n := by omega
    subst this
    rw [wX8_chance_L32, if_pos (Int32.le_refl _)]
    exact hK σ h
  | succ j ih =>
    intro k f σ h hk hf
    obtain ⟨f, rfl⟩ : ∃ n', f = n' + 1 := ⟨f - 1, by omega⟩
    rw [wX8_chance_L32, if_neg (nI_ge (show k < n by omega) (by omega))]
    intro a ha
    refine p8_draws h a _ (fun σ' h' hr => ?_)
    have b1 := hi.1.2.2.2.1
    have b2 := hi.1.2.2.2.2.1
    rw [p8_rowThrough hi h' hr, show σ'.1 0 10 = nI (A.1 6 0) from h'.1.2.2.2.1, show σ'.1 0 11 = nI (A.1 6 1) from h'.1.2.2.2.2.1, nI_add]
    have b3 : zthc A.1 (zdr a) ≤ 8 := by
      have := zsum_le (f := fun i => if zPr A.1 i = true ∧ zthr A.1 (zdr a) i < 24 then 1 else 0) (c := 1) 8 (fun k _ => by
        show (if zPr A.1 k = true ∧ zthr A.1 (zdr a) k < 24 then 1 else 0) ≤ 1
        split <;> omega)
      exact this
    have st := ih (k + 1) f σ' h' (by omega) (by omega)
    rw [zhit, ← ha] at st
    simp only [forall_eq, nI_1, lN_1]
    by_cases c : zthc A.1 (zdr a) = A.1 6 0 + A.1 6 1
    · rw [if_pos c] at st
      rw [if_pos (by rw [c])]
      exact st
    · rw [if_neg c] at st
      rw [if_neg (fun z => c ((nI_eq (by omega) (by omega)).mp z)), Int64.add_zero]
      exact st
theorem m_chance {A : zA} {σ : zSt} (hi : zI A) (h : RM A σ) (seed n p : Int32) (Q : Int64 → zSt → Prop) (hQ : ∀ σ', RM (s_chance A seed n p).2 σ' → Q (s_chance A seed n p).1 σ') : wX8_chance seed n p σ Q := by
  unfold wX8_chance
  unfold s_chance at hQ
  dsimp only at hQ
  rw [forall_eq, p8_one (n := 20) (by omega) (by decide)]
  by_cases c1 : zr n 21 = true ∧ ¬ n = 0
  rotate_left
  · rw [if_neg (fun z => c1 ⟨z.1, z.2.1⟩)] at hQ
    rw [if_neg (show ¬ (zr n (20 + 1) = true ∧ ¬ n = 0) from c1), if_pos rfl]
    exact hQ σ h
  rw [if_pos (show zr n (20 + 1) = true ∧ ¬ n = 0 from c1), if_neg (by decide), forall_eq, p8_i1]
  by_cases c2 : zr p 2 = true
  rotate_left
  · rw [if_neg (fun z => c2 z.2.2)] at hQ
    rw [if_neg c2, if_pos rfl]
    exact hQ σ h
  rw [if_pos ⟨c1.1, c1.2, c2⟩] at hQ
  rw [if_pos c2, if_neg (by decide)]
  obtain ⟨k, hk, rfl⟩ := zr_of (by omega) c2
  obtain ⟨n, hn, rfl⟩ := zr_of (by omega) c1.1
  have hn0 : 0 < n := by
    rcases Nat.eq_zero_or_pos n with q | q
    · exact absurd (by rw [q]; rfl) c1.2
    · exact q
  rw [zcl (by omega)] at hQ
  refine m_chance_L hi (n := n) (by omega) seed (nI k) Q _ (fun σ' h' => ?_) n 0 300 σ h (by omega) (by omega)
  have hh := zhit_le A.1 seed n
  have gp := Nat.gcd_pos_of_pos_right (zhit A.1 seed n) hn0
  have gl : Nat.gcd (zhit A.1 seed n) n ≤ n := Nat.le_of_dvd hn0 (Nat.gcd_dvd_right _ _)
  have hne : ¬ lN (Nat.gcd (zhit A.1 seed n) n) = 0 := fun z => by
    have := (lN_eq (b := 0) (by omega) (by omega)).mp z
    omega
  rw [nI_l (by omega), forall_eq, zgcL 300 _ n (by omega) (by omega) (by omega)]
  have hq := hQ σ' h'
  have d1 : zhit A.1 seed n / Nat.gcd (zhit A.1 seed n) n < 2147483648 := Nat.lt_of_le_of_lt (Nat.div_le_self _ _) (by omega)
  have d2 : n / Nat.gcd (zhit A.1 seed n) n < 2147483648 := Nat.lt_of_le_of_lt (Nat.div_le_self _ _) (by omega)
  rw [nI_l d1, nI_l d2] at hq
  by_cases k0 : nI k = 0
  · rw [if_pos k0] at hq ⊢
    refine ⟨hne, ?_⟩
    rw [pk_lDiv (by omega) gp (by omega)]; exact hq
  · rw [if_neg k0] at hq ⊢
    refine ⟨hne, ?_⟩
    rw [pk_lDiv (by omega) gp (by omega)]; exact hq
