/-! the state in which a new object stands -/
def zT0 (j : Nat) : Nat := ([115, 104, 105, 112, 32, 119, 97, 105, 116, 101, 100, 32, 42, 32, 112, 114, 105, 99, 101, 32, 59, 32, 99, 97, 114, 116, 32, 119, 97, 105, 116, 101, 100, 32, 42, 32, 112, 114, 105, 99, 101, 32, 59, 32, 99, 104, 97, 110, 103, 101, 32, 49, 32, 59] : List Nat).getD j 32
theorem zT0_le (j : Nat) : zT0 j ≤ 255 := by
  by_cases h : j < 54
  · have : ∀ j, j < 54 → zT0 j ≤ 255 := by decide +kernel
    exact this j h
  · unfold zT0
    rw [List.getD_eq_getElem?_getD, List.getElem?_eq_none (by simpa using h)]
    decide
theorem zT0_g54 : tx_good zT0 54 := by
  unfold tx_good
  exact ⟨by decide +kernel, by decide +kernel, by decide +kernel, by decide +kernel⟩
theorem zT0_g56 : tx_good zT0 56 := by
  unfold tx_good
  exact ⟨by decide +kernel, by decide +kernel, by decide +kernel, by decide +kernel⟩
theorem zT0_cod : tx_cod zT0 56 = tx_cod zT0 54 := by
  have h0 : (tx_p0 zT0 56).2.1 = (tx_p0 zT0 54).2.1 := by decide +kernel
  have h1 : (tx_p1 zT0 56).2.1 = (tx_p1 zT0 54).2.1 := by decide +kernel
  have h2 : (tx_p2 zT0 56).2.1 = (tx_p2 zT0 54).2.1 := by decide +kernel
  funext p
  unfold tx_cod
  rw [h0, h1, h2]
theorem zT0_by : ∀ j, j < 54 → (zbyt.getD 0 []).getD j 0 = nI (zT0 j) := by decide +kernel
def zD0 : zD := fun a b => if a = 6 ∧ b = 3 then 1 else if a = 6 ∧ b = 4 then 3 else 0
def zA0 : zA := (zD0, none, (0, fun _ => 0), (1, fun _ => tx_cod zT0 54), fun _ => none)
theorem zD0_0 {a b : Nat} (h : a < 6) : zD0 a b = 0 := by
  unfold zD0
  rw [if_neg (by omega), if_neg (by omega)]
theorem zD0_ok : zOk zD0 := by
  refine ⟨fun m _ => by rw [zD0_0 (by decide)]; decide, fun i _ => ⟨by rw [zD0_0 (by decide)]; decide, by rw [zD0_0 (by decide)]; decide, by rw [zD0_0 (by decide)]; decide⟩, fun x _ => ⟨by rw [zD0_0 (by decide)]; decide, by rw [zD0_0 (by decide)]; decide⟩, by decide, by decide, by decide, by decide, by decide, by decide⟩
theorem zI0 : zI zA0 := ⟨zD0_ok, trivial, ⟨Nat.zero_le _, fun j hj => absurd hj (Nat.not_lt_zero j)⟩, ⟨Nat.le_refl 1, by show 1 ≤ 6; decide, by show zD0 6 5 < 1; decide⟩, fun s _ q h => by cases h⟩
/-- the class's store before the first text is read -/
def xPre (σ : zSt) : Prop := zDX 1 zD0 σ ∧ σ.1 0 2 = 0 ∧ σ.1 0 4 = nI 54 ∧ (∀ j, j < 54 → σ.1 17 j = nI (zT0 j)) ∧ σ.1 0 6 = 0 ∧ (∀ s, s < 4 → σ.1 (61 + s) 1 = -1) ∧ (∀ j, j < 416 → σ.1 25 j = -1) ∧ σ.1 28 11 = -2 ∧ σ.1 28 12 = -2
theorem x_first {σ : zSt} (h : xPre σ) (Q : Int32 → zSt → Prop) (hQ : ∀ r σ', RX zA0 σ' → Q r σ') : wX7_takeTape σ Q := by
  obtain ⟨h1, h2, h3, h4, h5, h6, h7, h8, h9⟩ := h
  unfold wX7_takeTape
  rw [h5, if_pos (by decide), forall_eq, forall_eq, h3, zput_at, if_neg (by decide), h5]
  refine ⟨zin' (n := 0) (N := 6) (by decide) (by decide), ?_⟩
  have t0 : ∀ o, o ≠ 0 → (zput σ 0 4 0).1 o = σ.1 o := fun o a => zput_ne a
  have t1 : ∀ j, j ≠ 4 → (zput σ 0 4 0).1 0 j = σ.1 0 j := fun j a => by rw [zput_at, if_neg (fun z => a z.2)]
  have t2 : (zput σ 0 4 0).1 0 4 = 0 := by rw [zput_at, if_pos ⟨rfl, rfl⟩]
  generalize zput σ 0 4 0 = τ at t0 t1 t2
  refine cx_reads (i := 0) (T := zT0) (n := 54) (by decide) ⟨by decide, fun j _ => zT0_le j, fun j hj => by rw [t0 17 (by decide)]; exact h4 j hj⟩ _ (fun hg σ2 e2 x2 => ?_) (fun hg => absurd zT0_g54 hg)
  have u : ∀ o, o ≠ 0 → (o < 19 ∨ 22 < o) → o ≠ 43 → o ≠ 49 → o ≠ 55 → σ2.1 o = σ.1 o := fun o a b c d f => (e2 o b c d f).trans (t0 o a)
  have u0 : ∀ j, j ≠ 4 → σ2.1 0 j = σ.1 0 j := fun j a => by rw [e2 0 (by omega) (by omega) (by omega) (by omega)]; exact t1 j a
  have u4 : σ2.1 0 4 = 0 := by rw [e2 0 (by omega) (by omega) (by omega) (by omega)]; exact t2
  rw [if_neg (by decide), forall_eq]
  have p0 : ∀ o, o ≠ 0 → (zput σ2 0 6 (σ2.1 0 6 + 1)).1 o = σ2.1 o := fun o a => zput_ne a
  have p1 : ∀ j, j ≠ 6 → (zput σ2 0 6 (σ2.1 0 6 + 1)).1 0 j = σ2.1 0 j := fun j a => by rw [zput_at, if_neg (fun z => a z.2)]
  have p2 : (zput σ2 0 6 (σ2.1 0 6 + 1)).1 0 6 = nI 1 := by rw [zput_at, if_pos ⟨rfl, rfl⟩, u0 6 (by decide), h5]; rfl
  generalize zput σ2 0 6 (σ2.1 0 6 + 1) = ρ at p0 p1 p2
  have v : ∀ o, o ≠ 0 → (o < 19 ∨ 22 < o) → o ≠ 43 → o ≠ 49 → o ≠ 55 → ρ.1 o = σ.1 o := fun o a b c d f => (p0 o a).trans (u o a b c d f)
  refine hQ _ ρ ⟨zI0, h1.fr (fun k hk => v _ (by omega) (by omega) (by omega) (by omega) (by omega)), ?_, ⟨?_, fun j hj => absurd hj (Nat.not_lt_zero j)⟩, ⟨p2, fun i hi => ?_⟩, fun s hs => ?_, ⟨fun i m hi hm => Or.inl ?_, fun m was is hm hw hi => Or.inl ?_⟩, ⟨Or.inl ?_, Or.inl ?_⟩⟩
  · show ρ.1 0 2 = 0
    rw [p1 2 (by decide), u0 2 (by decide)]; exact h2
  · rw [p1 4 (by decide), u4]; rfl
  · have hi : i < 1 := hi
    have : i = 0 := by omega
    subst this
    exact x2.fr (p0 _ (by decide)) (p0 _ (by decide))
  · show ρ.1 (61 + s) 1 = -1
    rw [v _ (by omega) (by omega) (by omega) (by omega) (by omega)]; exact h6 s hs
  · rw [v _ (by omega) (by omega) (by omega) (by omega) (by omega)]; exact h7 _ (by omega)
  · rw [v _ (by omega) (by omega) (by omega) (by omega) (by omega)]; exact h7 _ (by omega)
  · rw [v _ (by omega) (by omega) (by omega) (by omega) (by omega)]; exact h8
  · rw [v _ (by omega) (by omega) (by omega) (by omega) (by omega)]; exact h9
