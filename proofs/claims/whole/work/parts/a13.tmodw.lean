theorem tx_zb : zbyt.tail = [[119, 97, 105, 116, 101, 100], [112, 114, 105, 99, 101], [109, 105, 110, 117, 116, 101], [98, 114, 105, 100, 103, 101], [119, 97, 115], [109, 97, 110, 121], [115, 104, 105, 112], [99, 97, 114, 116], [99, 104, 97, 110, 103, 101], [111, 114], [97, 110, 100], [110, 111, 116]] := by decide +kernel
/-- the twelve words -/
def tx_w (w : Nat) (j : Nat) : Nat := (([[], [119, 97, 105, 116, 101, 100], [112, 114, 105, 99, 101], [109, 105, 110, 117, 116, 101], [98, 114, 105, 100, 103, 101], [119, 97, 115], [109, 97, 110, 121], [115, 104, 105, 112], [99, 97, 114, 116], [99, 104, 97, 110, 103, 101], [111, 114], [97, 110, 100], [110, 111, 116]] : List (List Nat)).getD w []).getD j 0
theorem tx_w_al : ∀ w, w < 12 → ((1 ≤ zlen.getD (w + 1) 0 ∧ zlen.getD (w + 1) 0 ≤ 6) ∧ ∀ j, j < 8 → (if j < zlen.getD (w + 1) 0 then ((zbyt.getD (w + 1) []).getD j 0 = nI (tx_w (w + 1) j) ∧ ¬ tx_w (w + 1) j = 0 ∧ tx_w (w + 1) j < 256) else tx_w (w + 1) j = 0)) := by decide +kernel
theorem tx_w_all {w : Nat} (h1 : w < 13) (h2 : w ≠ 0) : (1 ≤ zlen.getD w 0 ∧ zlen.getD w 0 ≤ 6) ∧ ∀ j, j < 8 → (j < zlen.getD w 0 → (zbyt.getD w []).getD j 0 = nI (tx_w w j) ∧ tx_w w j ≠ 0 ∧ tx_w w j < 256) ∧ (zlen.getD w 0 ≤ j → tx_w w j = 0) := by
  obtain ⟨w, rfl⟩ : ∃ w', w = w' + 1 := ⟨w - 1, by omega⟩
  have h := tx_w_al w (by omega)
  refine ⟨h.1, fun j hj => ⟨fun q => ?_, fun q => ?_⟩⟩
  · have := h.2 j hj
    rw [if_pos q] at this; exact this
  · have := h.2 j hj
    rw [if_neg (by omega)] at this; exact this
theorem tm_n_B {i n : Nat} {T : Nat → Nat} {names : Nat → Int32} {σ σ' : zSt} (e1 : ∀ o, o ≠ 0 → σ'.1 o = σ.1 o) (e2 : ∀ j, j ≠ 26 → j ≠ 27 → j ≠ 28 → σ'.1 0 j = σ.1 0 j) (h : tm_B i n T names σ) : tm_B i n T names σ' := h.fr (e1 1 (by decide)) (fun j hj => e2 j (by omega) (by omega) (by omega))
/-- the next token is looked at -/
def tm_n (σ σ' : zSt) : Prop := (∀ o, o ≠ 0 → σ'.1 o = σ.1 o) ∧ (∀ j, j ≠ 26 → j ≠ 27 → j ≠ 28 → σ'.1 0 j = σ.1 0 j)
theorem p8_next {i n : Nat} {T : Nat → Nat} {names : Nat → Int32} (ho : tm_ok i n T) {σ : zSt} (hB : tm_B i n T names σ) {k : Nat} (hh : σ.1 0 26 = nI (tx_ps T n k)) (Q : zSt → Prop) (hQ : ∀ σ', tm_n σ σ' → tm_T n T k σ' → Q σ') : wX8_next σ Q := by
  have hT := ho.2.2
  have hn := ho.2.1
  have hp := tx_ps_le T n hn k
  unfold wX8_next
  refine p8_nx0 ho Q _ 161 (tx_ps T n k) 300 σ hp (by omega) (by omega) hB hh (fun σ1 e1 h1 => ?_)
  obtain ⟨b1, b2, b3, b4⟩ := tx_cs_b tx_ws T n 161 (tx_ps T n k) (by omega)
  have b2 := b2 hp
  have htk : tx_tk T n k = tx_lx T n (tx_ps T n k) := rfl
  unfold tx_lx at htk
  generalize tx_cs tx_ws T n 161 (tx_ps T n k) = q at b1 b2 b3 b4 h1 htk
  intro σ2 hσ2
  have g1 : ∀ o, o ≠ 0 → σ2.1 o = σ.1 o := fun o h => by rw [hσ2, zput_ne h]; exact e1.1 o h
  have g2 : ∀ j, j ≠ 26 → j ≠ 28 → σ2.1 0 j = σ.1 0 j := fun j h h' => by rw [hσ2, zput_at, if_neg (fun z => h' z.2)]; exact e1.2.1 j h
  have g3 : σ2.1 0 26 = nI q := by rw [hσ2, zput_at, if_neg (by decide)]; exact h1
  have g4 : σ2.1 0 28 = nI q := by rw [hσ2, zput_at, if_pos ⟨rfl, rfl⟩]; exact h1
  clear hσ2 e1 h1 σ1
  have hB2 : tm_B i n T names σ2 := tm_n_B g1 (fun j a _ c => g2 j a c) hB
  have eb : ∀ R : Int32 → zSt → Prop, wX8_byteAt (nI q) σ2 R = R (tm_b T n q) σ2 := fun R => p8_byteAt ho hB2 b2 R
  rw [forall_eq, g3, eb]
  show ∀ σ114 : zSt, σ114 = zput σ2 0 27 4 → _
  intro σ3 hσ3
  have k1 : ∀ o, o ≠ 0 → σ3.1 o = σ.1 o := fun o h => by rw [hσ3, zput_ne h]; exact g1 o h
  have k2 : ∀ j, j ≠ 26 → j ≠ 27 → j ≠ 28 → σ3.1 0 j = σ.1 0 j := fun j h h' h'' => by rw [hσ3, zput_at, if_neg (fun z => h' z.2)]; exact g2 j h h''
  have k3 : σ3.1 0 26 = nI q := by rw [hσ3, zput_at, if_neg (by decide)]; exact g3
  have k4 : σ3.1 0 28 = nI q := by rw [hσ3, zput_at, if_neg (by decide)]; exact g4
  have k5 : σ3.1 0 27 = 4 := by rw [hσ3, zput_at, if_pos ⟨rfl, rfl⟩]
  clear hσ3 g1 g2 g3 g4 eb hB2 σ2
  have hB3 : tm_B i n T names σ3 := tm_n_B k1 k2 hB
  have k6 : σ3.1 0 25 = nI n := hB3.2.1
  show if (0 : Int32) ≤ tm_b T n q then _ else _
  by_cases c0 : q < n
  rotate_left
  · rw [if_neg (show ¬ (0 : Int32) ≤ tm_b T n q from by unfold tm_b; rw [if_neg c0]; decide), forall_eq, forall_eq, zput_at, if_neg (by decide), k6]
    rw [if_pos (by omega)] at htk
    refine hQ _ ⟨fun o h => by rw [zput_ne h, zput_ne h]; exact k1 o h, fun j h h' h'' => by rw [zput_at, if_neg (fun z => h'' z.2), zput_at, if_neg (fun z => h' z.2)]; exact k2 j h h' h''⟩ ?_
    unfold tm_T
    rw [htk]
    refine ⟨by simp [zput_at, nI_0], by simp [zput_at], fun _ => ?_, fun z => absurd z (by simp), fun z => absurd z (by simp)⟩
    rw [zput_at, if_neg (by decide), zput_at, if_neg (by decide), k3, show q = n by omega]
  rw [if_neg (by omega)] at htk
  have hTq := hT q c0
  rw [if_pos (show (0 : Int32) ≤ tm_b T n q from by unfold tm_b; rw [if_pos c0]; exact nI_pos' (by omega)), forall_eq, tm_lt hT]
  by_cases c1 : tx_lt (T q) = true
  · rw [if_pos c1] at htk
    rw [if_pos (show q < n ∧ tx_lt (T q) = true from ⟨c0, c1⟩), if_neg (by decide), forall_eq]
    have hB4 : tm_B i n T names (zput σ3 0 27 1) := hB3.fr (zput_ne (by decide)) (fun j hj => by rw [zput_at, if_neg (by omega)])
    refine p8_nx1 ho Q _ 161 q 300 _ b2 (by omega) (by omega) hB4 (by rw [zput_at, if_neg (by decide)]; exact k3) (fun σ5 e5 h5 => ?_)
    refine hQ _ ⟨fun o h => by rw [e5.1 o h, zput_ne h]; exact k1 o h, fun j h h' h'' => by rw [e5.2.1 j h, zput_at, if_neg (fun z => h' z.2)]; exact k2 j h h' h''⟩ ?_
    unfold tm_T
    rw [htk]
    refine ⟨?_, ?_, fun _ => h5, fun z => absurd z (by simp), fun z => absurd z (by simp)⟩
    · rw [e5.2.1 27 (by decide), zput_at, if_pos ⟨rfl, rfl⟩]; rfl
    · rw [e5.2.1 28 (by decide), zput_at, if_neg (by decide)]; exact k4
  rw [if_neg c1] at htk
  rw [if_neg (show ¬ (q < n ∧ tx_lt (T q) = true) from fun z => c1 z.2), if_pos rfl, forall_eq, tm_dg hT]
  by_cases c2 : tx_dg (T q) = true
  · rw [if_pos c2] at htk
    rw [if_pos (show q < n ∧ tx_dg (T q) = true from ⟨c0, c2⟩), if_neg (by decide), forall_eq, forall_eq]
    have hB4 : tm_B i n T names (zputL (zput σ3 0 27 2) 0) := hB3.fr (show (zput σ3 0 27 2).1 1 = _ from zput_ne (by decide)) (fun j hj => by show (zput σ3 0 27 2).1 0 j = _; rw [zput_at, if_neg (by omega)])
    refine p8_nx2 ho q Q _ 161 0 300 _ b2 (by omega) (by omega) hB4 (by show (zput σ3 0 27 2).1 0 26 = _; rw [zput_at, if_neg (by decide)]; exact k3) rfl (fun σ5 e5 h5 h6 => ?_)
    rw [Nat.add_zero] at h5 h6 ⊢
    have e5a : ∀ o, o ≠ 0 → σ5.1 o = σ.1 o := fun o h => by rw [e5.1 o h]; show (zput σ3 0 27 2).1 o = _; rw [zput_ne h]; exact k1 o h
    have e5b : ∀ j, j ≠ 26 → j ≠ 27 → σ5.1 0 j = σ3.1 0 j := fun j h h' => by rw [e5.2 j h]; show (zput σ3 0 27 2).1 0 j = _; rw [zput_at, if_neg (fun z => h' z.2)]
    have hd := (tx_cs_b tx_dg T n 161 q (by omega)).1
    have hd2 := (tx_cs_b tx_dg T n 161 q (by omega)).2.1 b2
    generalize tx_cs tx_dg T n 161 q = e at htk h5 h6 hd hd2
    by_cases c3 : e - q ≤ 4
    · rw [if_pos c3] at h6 htk
      rw [if_pos (show nI (e - q) ≤ (4 : Int32) from nI_le (b := 4) c3 (by omega)), forall_eq]
      refine hQ _ ⟨fun o h => by rw [zput_ne h]; exact e5a o h, fun j h h' h'' => by rw [zput_at, if_neg (fun z => h' z.2), e5b j h h']; exact k2 j h h' h''⟩ ?_
      unfold tm_T
      rw [htk]
      refine ⟨by rw [zput_at, if_pos ⟨rfl, rfl⟩]; rfl, ?_, fun _ => ?_, fun _ => h6, fun z => absurd z (by simp)⟩
      · rw [zput_at, if_neg (by decide), e5b 28 (by decide) (by decide)]; exact k4
      · rw [zput_at, if_neg (by decide)]; exact h5
    · rw [if_neg c3] at h6 htk
      rw [if_neg (show ¬ nI (e - q) ≤ (4 : Int32) from nI_ge (a := 4) (by omega) (by omega)), forall_eq]
      refine hQ _ ⟨fun o h => by rw [zput_ne h]; exact e5a o h, fun j h h' h'' => by rw [zput_at, if_neg (fun z => h' z.2), e5b j h h']; exact k2 j h h' h''⟩ ?_
      unfold tm_T
      rw [htk]
      refine ⟨by rw [zput_at, if_pos ⟨rfl, rfl⟩]; rfl, ?_, fun z => absurd rfl z, fun z => absurd z (by simp), fun z => absurd z (by simp)⟩
      rw [zput_at, if_neg (by decide), e5b 28 (by decide) (by decide)]; exact k4
  rw [if_neg c2] at htk
  rw [if_neg (show ¬ (q < n ∧ tx_dg (T q) = true) from fun z => c2 z.2), if_pos rfl]
  have ebq : tm_b T n q = nI (T q) := if_pos c0
  rw [ebq]
  simp only [forall_eq]
  by_cases c3 : tx_sg (T q) = true
  · rw [if_pos c3] at htk
    have fin : Q (zput (zputL (zput σ3 0 27 3) (nI (T q)).toInt64) 0 26 ((zputL (zput σ3 0 27 3) (nI (T q)).toInt64).1 0 26 + 1)) := by
      have e26 : (zputL (zput σ3 0 27 3) (nI (T q)).toInt64).1 0 26 = nI q := by show (zput σ3 0 27 3).1 0 26 = _; rw [zput_at, if_neg (by decide)]; exact k3
      rw [e26, nI_1]
      refine hQ _ ⟨fun o h => by rw [zput_ne h]; show (zput σ3 0 27 3).1 o = _; rw [zput_ne h]; exact k1 o h, fun j h h' h'' => by rw [zput_at, if_neg (fun z => h z.2)]; show (zput σ3 0 27 3).1 0 j = _; rw [zput_at, if_neg (fun z => h' z.2)]; exact k2 j h h' h''⟩ ?_
      unfold tm_T
      rw [htk]
      refine ⟨?_, ?_, fun _ => ?_, fun z => absurd z (by simp), fun _ => ?_⟩
      · rw [zput_at, if_neg (by decide)]; show (zput σ3 0 27 3).1 0 27 = _; rw [zput_at, if_pos ⟨rfl, rfl⟩]; rfl
      · rw [zput_at, if_neg (by decide)]; show (zput σ3 0 27 3).1 0 28 = _; rw [zput_at, if_neg (by decide)]; exact k4
      · rw [zput_at, if_pos ⟨rfl, rfl⟩]
      · exact nI_l (by omega)
    unfold tx_sg at c3
    simp only [Bool.or_eq_true, beq_iff_eq] at c3
    generalize T q = ch at c3 fin
    rcases c3 with ((((((c3 | c3) | c3) | c3) | c3) | c3) | c3) | c3 <;> subst c3 <;> exact fin
  · rw [if_neg c3] at htk
    unfold tx_sg at c3
    simp only [Bool.or_eq_true, beq_iff_eq, not_or] at c3
    obtain ⟨⟨⟨⟨⟨⟨⟨d1, d2⟩, d3⟩, d4⟩, d5⟩, d6⟩, d7⟩, d8⟩ := c3
    have ne : ∀ c : Nat, c < 256 → T q ≠ c → ¬ nI (T q) = nI c := fun c hc h z => h ((nI_eq (by omega) (by omega)).mp z)
    rw [if_neg (show ¬ nI (T q) = (40 : Int32) from ne 40 (by omega) d1), if_neg (show ¬ nI (T q) = (41 : Int32) from ne 41 (by omega) d2), if_neg (show ¬ nI (T q) = (59 : Int32) from ne 59 (by omega) d3), if_neg (show ¬ nI (T q) = (43 : Int32) from ne 43 (by omega) d4), if_neg (show ¬ nI (T q) = (45 : Int32) from ne 45 (by omega) d5), if_neg (show ¬ nI (T q) = (42 : Int32) from ne 42 (by omega) d6), if_neg (show ¬ nI (T q) = (60 : Int32) from ne 60 (by omega) d7), if_neg (show ¬ nI (T q) = (61 : Int32) from ne 61 (by omega) d8)]
    refine hQ _ ⟨k1, k2⟩ ?_
    unfold tm_T
    rw [htk]
    exact ⟨k5, k4, fun z => absurd rfl z, fun z => absurd z (by simp), fun z => absurd z (by simp)⟩
