/-! the model's tokens -/
def tm_B (i n : Nat) (T : Nat → Nat) (names : Nat → Int32) (σ : zSt) : Prop := σ.1 0 24 = nI (160 * i) ∧ σ.1 0 25 = nI n ∧ (∀ j, j < n → σ.1 1 (160 * i + j) = nI (T j)) ∧ (∀ k, k < 6 → σ.1 0 (18 + k) = names k) ∧ σ.1 0 31 = 0
def tm_T (n : Nat) (T : Nat → Nat) (k : Nat) (σ : zSt) : Prop := σ.1 0 27 = nI (tx_tk T n k).1 ∧ σ.1 0 28 = nI (tx_tk T n k).2.1 ∧ ((tx_tk T n k).1 ≠ 4 → σ.1 0 26 = nI (tx_tk T n k).2.2) ∧ ((tx_tk T n k).1 = 2 → σ.2 = lN (tx_nu T (tx_tk T n k).2.1 ((tx_tk T n k).2.2 - (tx_tk T n k).2.1))) ∧ ((tx_tk T n k).1 = 3 → σ.2 = lN (T (tx_tk T n k).2.1))
/-- a text of the model -/
def tm_ok (i n : Nat) (T : Nat → Nat) : Prop := i < 6 ∧ n ≤ 160 ∧ ∀ j, j < n → T j ≤ 255
theorem tm_B.fr {i n : Nat} {T : Nat → Nat} {names : Nat → Int32} {σ σ' : zSt} (h : tm_B i n T names σ) (e1 : σ'.1 1 = σ.1 1) (e : ∀ j, (18 ≤ j ∧ j ≤ 25) ∨ j = 31 → σ'.1 0 j = σ.1 0 j) : tm_B i n T names σ' := by
  obtain ⟨h1, h2, h3, h4, h5⟩ := h
  exact ⟨by rw [e 24 (by omega)]; exact h1, by rw [e 25 (by omega)]; exact h2, fun j hj => by rw [e1]; exact h3 j hj, fun k hk => by rw [e (18 + k) (by omega)]; exact h4 k hk, by rw [e 31 (by omega)]; exact h5⟩
theorem p8_byteAt {i n : Nat} {T : Nat → Nat} {names : Nat → Int32} {σ : zSt} (ho : tm_ok i n T) (h : tm_B i n T names σ) {p : Nat} (hp : p ≤ n) (Q : Int32 → zSt → Prop) : wX8_byteAt (nI p) σ Q = Q (if p < n then nI (T p) else -1) σ := by
  obtain ⟨o1, o2, o3⟩ := ho
  obtain ⟨h1, h2, h3, h4, h5⟩ := h
  unfold wX8_byteAt
  rw [h1, h2, nI_add]
  by_cases c : p < n
  · rw [if_neg (show ¬ nI n ≤ nI p from nI_ge c (by omega)), if_pos c, zcl (by omega), h3 p c]
    have hv : vp_in (nI (160 * i + p)) 960 := zin' (by omega) (by omega)
    simp only [hv, true_and]
  · rw [if_pos (show nI n ≤ nI p from nI_le (by omega) (by omega)), if_neg c]
/-- a byte, or -1 behind the end -/
def tm_b (T : Nat → Nat) (n p : Nat) : Int32 := if p < n then nI (T p) else -1
theorem tm_b_eq {T : Nat → Nat} {n p : Nat} (hT : ∀ j, j < n → T j ≤ 255) {c : Nat} (hc : c < 256) : tm_b T n p = nI c ↔ (p < n ∧ T p = c) := by
  unfold tm_b
  by_cases h : p < n
  · rw [if_pos h, nI_eq (by have := hT p h; omega) (by omega)]
    exact ⟨fun z => ⟨h, z⟩, fun z => z.2⟩
  · rw [if_neg h]
    constructor
    · intro z
      have := congrArg Int32.toInt z
      rw [nI_toInt (by omega), show ((-1 : Int32)).toInt = -1 from by decide] at this
      omega
    · intro z; exact absurd z.1 h
theorem tm_b_in {T : Nat → Nat} {n p : Nat} (hT : ∀ j, j < n → T j ≤ 255) {a b : Nat} (ha : a < 256) (hb : b < 256) {ka kb : Int64} (ea : ka = (nI a).toInt64) (eb : kb = (nI b).toInt64) (σ : zSt) (Q : Int32 → zSt → Prop) : wX8_in (tm_b T n p).toInt64 ka kb σ Q = Q (if p < n ∧ a ≤ T p ∧ T p ≤ b then 1 else 0) σ := by
  rw [p8_in, ea, eb]
  simp only [z64]
  unfold tm_b
  by_cases h : p < n
  · rw [if_pos h]
    have := hT p h
    by_cases c : a ≤ T p ∧ T p ≤ b
    · rw [if_pos (show nI a ≤ nI (T p) ∧ nI (T p) ≤ nI b from ⟨nI_le c.1 (by omega), nI_le c.2 (by omega)⟩), if_pos (show p < n ∧ a ≤ T p ∧ T p ≤ b from ⟨h, c⟩)]
    · rw [if_neg (show ¬ (p < n ∧ a ≤ T p ∧ T p ≤ b) from fun z => c z.2), if_neg]
      intro z
      exact c ⟨(nI_leI (by omega) (by omega)).mp z.1, (nI_leI (by omega) (by omega)).mp z.2⟩
  · rw [if_neg h, if_neg (show ¬ (p < n ∧ a ≤ T p ∧ T p ≤ b) from fun z => h z.1), if_neg]
    intro z
    have l := z.1
    rw [Int32.le_iff_toInt_le, nI_toInt (by omega), show ((-1 : Int32)).toInt = -1 from by decide] at l
    omega
theorem tm_lt {T : Nat → Nat} {n p : Nat} (hT : ∀ j, j < n → T j ≤ 255) (σ : zSt) (Q : Int32 → zSt → Prop) : wX8_in (tm_b T n p).toInt64 97 122 σ Q = Q (if p < n ∧ tx_lt (T p) = true then 1 else 0) σ := by
  rw [tm_b_in hT (a := 97) (b := 122) (by omega) (by omega) (by decide) (by decide)]
  simp only [tx_lt, Bool.and_eq_true, decide_eq_true_eq]
theorem tm_dg {T : Nat → Nat} {n p : Nat} (hT : ∀ j, j < n → T j ≤ 255) (σ : zSt) (Q : Int32 → zSt → Prop) : wX8_in (tm_b T n p).toInt64 48 57 σ Q = Q (if p < n ∧ tx_dg (T p) = true then 1 else 0) σ := by
  rw [tm_b_in hT (a := 48) (b := 57) (by omega) (by omega) (by decide) (by decide)]
  simp only [tx_dg, Bool.and_eq_true, decide_eq_true_eq]
/-- only where one is has moved -/
def tm_z (σ σ' : zSt) : Prop := (∀ o, o ≠ 0 → σ'.1 o = σ.1 o) ∧ (∀ j, j ≠ 26 → σ'.1 0 j = σ.1 0 j) ∧ σ'.2 = σ.2
theorem tm_z_put (σ : zSt) (v : Int32) : tm_z σ (zput σ 0 26 v) := ⟨fun o ho => zput_ne ho, fun j hj => by rw [zput_at, if_neg (fun z => hj z.2)], rfl⟩
theorem tm_z.tr {σ σ' σ'' : zSt} (e : tm_z σ σ') (f : tm_z σ' σ'') : tm_z σ σ'' := ⟨fun o ho => (f.1 o ho).trans (e.1 o ho), fun j hj => (f.2.1 j hj).trans (e.2.1 j hj), f.2.2.trans e.2.2⟩
theorem tm_z.B {i n : Nat} {T : Nat → Nat} {names : Nat → Int32} {σ σ' : zSt} (e : tm_z σ σ') (h : tm_B i n T names σ) : tm_B i n T names σ' := h.fr (e.1 1 (by decide)) (fun j hj => e.2.1 j (by omega))
theorem p8_nx0 {i n : Nat} {T : Nat → Nat} {names : Nat → Int32} (ho : tm_ok i n T) (Q K : zSt → Prop) : ∀ (f p m : Nat) (σ : zSt), p ≤ n → n ≤ p + f → f < m → tm_B i n T names σ → σ.1 0 26 = nI p → (∀ σ', tm_z σ σ' → σ'.1 0 26 = nI (tx_cs tx_ws T n f p) → K σ') → wX8_next_L0 Q K m σ := by
  intro f
  have hT := ho.2.2
  have hn := ho.2.1
  induction f with
  | zero =>
    intro p m σ hp hf hm hB hh hK
    obtain ⟨m, rfl⟩ : ∃ m', m = m' + 1 := ⟨m - 1, by omega⟩
    have e0 : p = n := by omega
    subst e0
    rw [wX8_next_L0, forall_eq, hh, p8_byteAt ho hB (Nat.le_refl _), if_neg (Nat.lt_irrefl _), if_neg (by decide), forall_eq, hh, p8_byteAt ho hB (Nat.le_refl _), if_neg (Nat.lt_irrefl _), if_neg (by decide)]
    exact hK σ ⟨fun _ _ => rfl, fun _ _ => rfl, rfl⟩ hh
  | succ f ih =>
    intro p m σ hp hf hm hB hh hK
    obtain ⟨m, rfl⟩ : ∃ m', m = m' + 1 := ⟨m - 1, by omega⟩
    have eb : ∀ R : Int32 → zSt → Prop, wX8_byteAt (nI p) σ R = R (tm_b T n p) σ := fun R => p8_byteAt ho hB hp R
    rw [wX8_next_L0, forall_eq, hh, eb]
    rw [tx_cs] at hK
    have go : (p < n ∧ tx_ws (T p) = true) → wX8_next_L0 Q K m (zput σ 0 26 (nI p + 1)) := fun c => by
      rw [if_pos c] at hK
      rw [nI_1]
      refine ih (p + 1) m _ (by omega) (by omega) (by omega) ((tm_z_put σ _).B hB) (by simp [zput_at]) (fun σ' e h2 => hK σ' ((tm_z_put σ _).tr e) h2)
    by_cases c1 : tm_b T n p = 32
    · rw [if_pos c1, forall_eq, hh]
      have c2 := (tm_b_eq hT (c := 32) (by omega)).mp c1
      exact go ⟨c2.1, by simp [tx_ws, c2.2]⟩
    rw [if_neg c1, forall_eq, hh, eb]
    by_cases c3 : tm_b T n p = 10
    · rw [if_pos c3, forall_eq, hh]
      have c2 := (tm_b_eq hT (c := 10) (by omega)).mp c3
      exact go ⟨c2.1, by simp [tx_ws, c2.2]⟩
    rw [if_neg c3]
    have c4 : ¬ (p < n ∧ tx_ws (T p) = true) := by
      intro z
      have z2 := z.2
      unfold tx_ws at z2
      simp only [Bool.or_eq_true, beq_iff_eq] at z2
      rcases z2 with z2 | z2
      · exact c1 ((tm_b_eq hT (c := 32) (by omega)).mpr ⟨z.1, z2⟩)
      · exact c3 ((tm_b_eq hT (c := 10) (by omega)).mpr ⟨z.1, z2⟩)
    rw [if_neg c4] at hK
    exact hK σ ⟨fun _ _ => rfl, fun _ _ => rfl, rfl⟩ hh
theorem p8_nx1 {i n : Nat} {T : Nat → Nat} {names : Nat → Int32} (ho : tm_ok i n T) (Q K : zSt → Prop) : ∀ (f p m : Nat) (σ : zSt), p ≤ n → n ≤ p + f → f < m → tm_B i n T names σ → σ.1 0 26 = nI p → (∀ σ', tm_z σ σ' → σ'.1 0 26 = nI (tx_cs tx_lt T n f p) → K σ') → wX8_next_L100 Q K m σ := by
  intro f
  have hT := ho.2.2
  have hn := ho.2.1
  induction f with
  | zero =>
    intro p m σ hp hf hm hB hh hK
    obtain ⟨m, rfl⟩ : ∃ m', m = m' + 1 := ⟨m - 1, by omega⟩
    have eb : ∀ R : Int32 → zSt → Prop, wX8_byteAt (nI p) σ R = R (tm_b T n p) σ := fun R => p8_byteAt ho hB hp R
    rw [wX8_next_L100, forall_eq, hh, eb, forall_eq, tm_lt hT, if_neg (show ¬ (p < n ∧ tx_lt (T p) = true) from fun z => by have := z.1; omega), if_pos rfl]
    exact hK σ ⟨fun _ _ => rfl, fun _ _ => rfl, rfl⟩ hh
  | succ f ih =>
    intro p m σ hp hf hm hB hh hK
    obtain ⟨m, rfl⟩ : ∃ m', m = m' + 1 := ⟨m - 1, by omega⟩
    have eb : ∀ R : Int32 → zSt → Prop, wX8_byteAt (nI p) σ R = R (tm_b T n p) σ := fun R => p8_byteAt ho hB hp R
    rw [wX8_next_L100, forall_eq, hh, eb, forall_eq, tm_lt hT]
    rw [tx_cs] at hK
    by_cases c : p < n ∧ tx_lt (T p) = true
    · rw [if_pos c] at hK ⊢
      rw [if_neg (by decide), forall_eq, hh, nI_1]
      exact ih (p + 1) m _ (by omega) (by omega) (by omega) ((tm_z_put σ _).B hB) (by simp [zput_at]) (fun σ' e h2 => hK σ' ((tm_z_put σ _).tr e) h2)
    · rw [if_neg c] at hK ⊢
      rw [if_pos rfl]
      exact hK σ ⟨fun _ _ => rfl, fun _ _ => rfl, rfl⟩ hh
/-- a number's digits -/
def tm_y (σ σ' : zSt) : Prop := (∀ o, o ≠ 0 → σ'.1 o = σ.1 o) ∧ (∀ j, j ≠ 26 → σ'.1 0 j = σ.1 0 j)
theorem tm_y.B {i n : Nat} {T : Nat → Nat} {names : Nat → Int32} {σ σ' : zSt} (e : tm_y σ σ') (h : tm_B i n T names σ) : tm_B i n T names σ' := h.fr (e.1 1 (by decide)) (fun j hj => e.2 j (by omega))
theorem tm_y.tr {σ σ' σ'' : zSt} (e : tm_y σ σ') (f : tm_y σ' σ'') : tm_y σ σ'' := ⟨fun o ho => (f.1 o ho).trans (e.1 o ho), fun j hj => (f.2 j hj).trans (e.2 j hj)⟩
theorem p8_nx2 {i n : Nat} {T : Nat → Nat} {names : Nat → Int32} (ho : tm_ok i n T) (a : Nat) (Q : zSt → Prop) (K : Int32 → zSt → Prop) : ∀ (f c m : Nat) (σ : zSt), a + c ≤ n → n ≤ a + c + f → f < m → tm_B i n T names σ → σ.1 0 26 = nI (a + c) → σ.2 = lN (tx_nu T a (if c ≤ 4 then c else 4)) → (∀ σ', tm_y σ σ' → σ'.1 0 26 = nI (tx_cs tx_dg T n f (a + c)) → σ'.2 = lN (tx_nu T a (if tx_cs tx_dg T n f (a + c) - a ≤ 4 then tx_cs tx_dg T n f (a + c) - a else 4)) → K (nI (tx_cs tx_dg T n f (a + c) - a)) σ') → wX8_next_L160 Q K m (nI c) σ := by
  intro f
  have hT := ho.2.2
  have hn := ho.2.1
  induction f with
  | zero =>
    intro c m σ hp hf hm hB hh hs hK
    obtain ⟨m, rfl⟩ : ∃ m', m = m' + 1 := ⟨m - 1, by omega⟩
    have eb : ∀ R : Int32 → zSt → Prop, wX8_byteAt (nI (a + c)) σ R = R (tm_b T n (a + c)) σ := fun R => p8_byteAt ho hB hp R
    rw [wX8_next_L160, forall_eq, hh, eb, forall_eq, tm_dg hT, if_neg (show ¬ (a + c < n ∧ tx_dg (T (a + c)) = true) from fun z => by have := z.1; omega), if_pos rfl]
    rw [tx_cs, Nat.add_sub_cancel_left] at hK
    exact hK σ ⟨fun _ _ => rfl, fun _ _ => rfl⟩ hh hs
  | succ f ih =>
    intro c m σ hp hf hm hB hh hs hK
    obtain ⟨m, rfl⟩ : ∃ m', m = m' + 1 := ⟨m - 1, by omega⟩
    have eb : ∀ R : Int32 → zSt → Prop, wX8_byteAt (nI (a + c)) σ R = R (tm_b T n (a + c)) σ := fun R => p8_byteAt ho hB hp R
    rw [wX8_next_L160, forall_eq, hh, eb, forall_eq, tm_dg hT]
    rw [tx_cs] at hK
    by_cases c1 : a + c < n ∧ tx_dg (T (a + c)) = true
    · rw [if_pos c1] at hK ⊢
      have hb := hT _ c1.1
      have c1d := c1.2
      unfold tx_dg at c1d
      simp only [Bool.and_eq_true, decide_eq_true_eq] at c1d
      rw [if_neg (by decide)]
      by_cases c2 : c < 4
      · rw [if_neg (show ¬ (4 : Int32) ≤ nI c from nI_ge (b := 4) c2 (by omega)), forall_eq, hh, eb, forall_eq, forall_eq, forall_eq, nI_1, show (zputL σ (10 * σ.2 + (tm_b T n (a + c)).toInt64 - 48)).1 0 26 = nI (a + c) from hh, nI_1]
        rw [if_pos (by omega)] at hs
        have ev : 10 * σ.2 + (tm_b T n (a + c)).toInt64 - 48 = lN (tx_nu T a (c + 1)) := by
          rw [hs, show tm_b T n (a + c) = nI (T (a + c)) from if_pos c1.1, nI_l (by omega), show (10 : Int64) = lN 10 from rfl, show (48 : Int64) = lN 48 from rfl, lN_mul, lN_add, lN_sub (by omega), tx_nu]
          congr 1
          omega
        refine ih (c + 1) m _ (by omega) (by omega) (by omega) (hB.fr rfl (fun j hj => by rw [zput_at, if_neg (by omega)]; rfl)) (by simp [zput_at, Nat.add_assoc]) (by rw [if_pos (show c + 1 ≤ 4 by omega)]; exact ev) (fun σ' e h2 h3 => hK σ' ⟨fun o ho => by rw [e.1 o ho, zput_ne ho]; rfl, fun j hj => by rw [e.2 j hj, zput_at, if_neg (by omega)]; rfl⟩ h2 h3)
      · rw [if_pos (show (4 : Int32) ≤ nI c from nI_le (a := 4) (by omega) (by omega)), forall_eq, forall_eq, forall_eq, nI_1, show (zputL σ σ.2).1 0 26 = nI (a + c) from hh, nI_1]
        refine ih (c + 1) m _ (by omega) (by omega) (by omega) (hB.fr rfl (fun j hj => by rw [zput_at, if_neg (by omega)]; rfl)) (by simp [zput_at, Nat.add_assoc]) ?_ (fun σ' e h2 h3 => hK σ' ⟨fun o ho => by rw [e.1 o ho, zput_ne ho]; rfl, fun j hj => by rw [e.2 j hj, zput_at, if_neg (by omega)]; rfl⟩ h2 h3)
        rw [if_neg (show ¬ c + 1 ≤ 4 by omega)]
        show σ.2 = _
        rw [hs]
        by_cases c3 : c ≤ 4
        · rw [if_pos c3, show c = 4 by omega]
        · rw [if_neg c3]
    · rw [if_neg c1] at hK ⊢
      rw [if_pos rfl]
      rw [Nat.add_sub_cancel_left] at hK
      exact hK σ ⟨fun _ _ => rfl, fun _ _ => rfl⟩ hh hs
