theorem p8_cp {s i o j N : Nat} (hs : s < 4) (ho : o < 4) (h1 : i + N ≤ 40) (h2 : j + N ≤ 40) (x6 : Int32) (σ : zSt) (Q : Int32 → zSt → Prop) (K : zSt → Prop) (hx : (x6 = 0 ∧ (40 * o + j ≤ 40 * s + i ∨ 40 * s + i + N ≤ 40 * o + j)) ∨ (x6 = 1 ∧ 40 * s + i ≤ 40 * o + j)) (hK : ∀ σ' : zSt, (∀ a, a ≠ 20 → σ'.1 a = σ.1 a) → (∀ a, σ'.1 20 a = if 40 * o + j ≤ a ∧ a < 40 * o + j + N then σ.1 20 (40 * s + i + (a - (40 * o + j))) else σ.1 20 a) → K σ') : ∀ (d k n : Nat) (σ1 : zSt), k + d = N → d < n → (∀ a, a ≠ 20 → σ1.1 a = σ.1 a) → (∀ a, σ1.1 20 a = if (x6 = 0 ∧ 40 * o + j ≤ a ∧ a < 40 * o + j + k) ∨ (x6 = 1 ∧ 40 * o + j + N ≤ a + k ∧ a < 40 * o + j + N) then σ.1 20 (40 * s + i + (a - (40 * o + j))) else σ.1 20 a) → wX8_copy_L121 Q K (nI s) (nI i) (nI o) (nI j) (nI N) x6 n (nI k) σ1 := by
  intro d
  induction d with
  | zero =>
    intro k n σ1 hk hn e f
    obtain ⟨n, rfl⟩ : ∃ n', n = n' + 1 := ⟨n - 1, by omega⟩
    have : k = N := by omega
    subst this
    rw [wX8_copy_L121, if_pos (Int32.le_refl _)]
    refine hK σ1 e (fun a => ?_)
    rw [f a]
    by_cases q : 40 * o + j ≤ a ∧ a < 40 * o + j + k
    · rw [if_pos q, if_pos]
      rcases hx with ⟨hx, _⟩ | ⟨hx, _⟩
      · exact Or.inl ⟨hx, q⟩
      · exact Or.inr ⟨hx, by omega, q.2⟩
    · rw [if_neg q, if_neg]
      intro z
      rcases z with ⟨_, z⟩ | ⟨_, z1, z2⟩
      · exact q z
      · exact q ⟨by omega, z2⟩
  | succ d ih =>
    intro k n σ1 hk hn e f
    obtain ⟨n, rfl⟩ : ∃ n', n = n' + 1 := ⟨n - 1, by omega⟩
    rw [wX8_copy_L121, if_neg (show ¬ nI N ≤ nI k from nI_ge (by omega) (by omega))]
    rcases hx with ⟨rfl, hx⟩ | ⟨rfl, hx⟩
    · rw [if_pos rfl, zat40, zat40, nI_add, nI_add, zcl (by omega), zcl (by omega)]
      refine ⟨zin' (by omega) (by omega), zin' (by omega) (by omega), ?_⟩
      rw [forall_eq, forall_eq, nI_1]
      refine ih (k + 1) n _ (by omega) (by omega) (fun a ha => by rw [zput_ne ha]; exact e a ha) (fun a => ?_)
      rw [zput_at, f (40 * s + i + k), f a, if_neg (show ¬ (((0 : Int32) = 0 ∧ 40 * o + j ≤ 40 * s + i + k ∧ 40 * s + i + k < 40 * o + j + k) ∨ ((0 : Int32) = 1 ∧ 40 * o + j + N ≤ 40 * s + i + k + k ∧ 40 * s + i + k < 40 * o + j + N)) from fun z => by
        rcases z with ⟨_, z1, z2⟩ | ⟨z, _⟩
        · omega
        · exact absurd z (by decide))]
      by_cases q : a = 40 * o + j + k
      · rw [if_pos ⟨rfl, q⟩, if_pos (Or.inl ⟨rfl, by omega, by omega⟩), q, show 40 * o + j + k - (40 * o + j) = k by omega]
      · rw [if_neg (fun z => q z.2)]
        by_cases q2 : 40 * o + j ≤ a ∧ a < 40 * o + j + k
        · rw [if_pos (Or.inl ⟨rfl, q2⟩), if_pos (Or.inl ⟨rfl, q2.1, by omega⟩)]
        · rw [if_neg, if_neg]
          · intro z
            rcases z with ⟨_, z1, z2⟩ | ⟨z, _⟩
            · exact q2 ⟨z1, by omega⟩
            · exact absurd z (by decide)
          · intro z
            rcases z with ⟨_, z1, z2⟩ | ⟨z, _⟩
            · exact q2 ⟨z1, z2⟩
            · exact absurd z (by decide)
    · rw [if_neg (by decide), show nI N - 1 - nI k = nI (N - 1 - k) from by
        rw [show (1 : Int32) = nI 1 from rfl, pk_sub (by omega), pk_sub (by omega)], forall_eq, zat40, zat40, nI_add, nI_add, zcl (by omega), zcl (by omega)]
      refine ⟨zin' (by omega) (by omega), zin' (by omega) (by omega), ?_⟩
      rw [forall_eq, forall_eq, nI_1]
      refine ih (k + 1) n _ (by omega) (by omega) (fun a ha => by rw [zput_ne ha]; exact e a ha) (fun a => ?_)
      rw [zput_at, f (40 * s + i + (N - 1 - k)), f a, if_neg (show ¬ (((1 : Int32) = 0 ∧ 40 * o + j ≤ 40 * s + i + (N - 1 - k) ∧ 40 * s + i + (N - 1 - k) < 40 * o + j + k) ∨ ((1 : Int32) = 1 ∧ 40 * o + j + N ≤ 40 * s + i + (N - 1 - k) + k ∧ 40 * s + i + (N - 1 - k) < 40 * o + j + N)) from fun z => by
        rcases z with ⟨z, _⟩ | ⟨_, z1, z2⟩
        · exact absurd z (by decide)
        · omega)]
      by_cases q : a = 40 * o + j + (N - 1 - k)
      · rw [if_pos ⟨rfl, q⟩, if_pos (Or.inr ⟨rfl, by omega, by omega⟩), q, show 40 * o + j + (N - 1 - k) - (40 * o + j) = N - 1 - k by omega]
      · rw [if_neg (fun z => q z.2)]
        by_cases q2 : 40 * o + j + N ≤ a + k ∧ a < 40 * o + j + N
        · rw [if_pos (Or.inr ⟨rfl, q2⟩), if_pos (Or.inr ⟨rfl, by omega, q2.2⟩)]
        · rw [if_neg, if_neg]
          · intro z
            rcases z with ⟨z, _⟩ | ⟨_, z1, z2⟩
            · exact absurd z (by decide)
            · exact q2 ⟨by omega, z2⟩
          · intro z
            rcases z with ⟨z, _⟩ | ⟨_, z1, z2⟩
            · exact absurd z (by decide)
            · exact q2 ⟨z1, z2⟩
theorem RM.cpy {A : zA} {σ σ' : zSt} (hi : zI A) (h : RM A σ) {s i o j N : Nat} (hs : s < 4) (ho : o < 4) {q r : Nat × Nat × (Nat → Int32)} (hz : A.2.2.2.2 s = some q) (hy : A.2.2.2.2 o = some r) (l1 : i + N ≤ q.2.1) (l2 : j + N ≤ r.2.1) (e : ∀ a, a ≠ 20 → σ'.1 a = σ.1 a) (f : ∀ a, σ'.1 20 a = if 40 * o + j ≤ a ∧ a < 40 * o + j + N then σ.1 20 (40 * s + i + (a - (40 * o + j))) else σ.1 20 a) : RM (A.1, A.2.1, A.2.2.1, A.2.2.2.1, zSu A.2.2.2.2 o (some (r.1, r.2.1, va_cpy q.2.2 r.2.2 i j N))) σ' := by
  have bq := (hi.2.2.2.2 s hs q hz).2
  have br := (hi.2.2.2.2 o ho r hy).2
  refine h.chS ?_ (fun a ha => e a (by omega))
  intro k hk
  have hk2 := h.2.2.2.2 k hk
  have hs2 := h.2.2.2.2 s hs
  rw [hz] at hs2
  unfold zSu
  by_cases c : k = o
  · subst c
    rw [hy] at hk2
    rw [if_pos rfl]
    obtain ⟨z1, z2, z3, z4⟩ := hk2
    refine ⟨by rw [e _ (by decide)]; exact z1, by rw [e _ (by decide)]; exact z2, by rw [e _ (by decide)]; exact z3, fun a ha => ?_⟩
    have ha : a < r.2.1 := ha
    rw [f]
    show _ = va_cpy q.2.2 r.2.2 i j N a
    unfold va_cpy
    by_cases w : j ≤ a ∧ a < j + N
    · rw [if_pos (show 40 * k + j ≤ 40 * k + a ∧ 40 * k + a < 40 * k + j + N by omega), if_pos w, show 40 * s + i + (40 * k + a - (40 * k + j)) = 40 * s + (i + (a - j)) by omega]
      exact hs2.2.2.2 _ (by omega)
    · rw [if_neg (show ¬ (40 * k + j ≤ 40 * k + a ∧ 40 * k + a < 40 * k + j + N) by omega), if_neg w]
      exact z4 a ha
  · rw [if_neg c]
    cases hx : A.2.2.2.2 k with
    | none =>
      rw [hx] at hk2
      show σ'.1 17 k = 0
      rw [e _ (by decide)]; exact hk2
    | some t =>
      rw [hx] at hk2
      have bt := (hi.2.2.2.2 k hk t hx).2
      obtain ⟨z1, z2, z3, z4⟩ := hk2
      refine ⟨by rw [e _ (by decide)]; exact z1, by rw [e _ (by decide)]; exact z2, by rw [e _ (by decide)]; exact z3, fun a ha => ?_⟩
      rw [f, if_neg (by omega)]
      exact z4 a ha
theorem zle_sub {x : Nat} {z y : Nat} (hz : z ≤ 40) (hx : x < 2147483648) (hy : y < 2147483648) : (nI x ≤ nI z - nI y) ↔ x + y ≤ z := by
  by_cases c : y ≤ z
  · rw [pk_sub c, nI_leI hx (by omega)]; omega
  · constructor
    · intro q
      exfalso
      have l := Int32.le_iff_toInt_le.mp q
      rw [nI_toInt hx] at l
      have e2 : (nI z - nI y).toInt = (z : Int) - y := by
        rw [Int32.toInt_sub, nI_toInt (by omega), nI_toInt hy]
        apply Int.bmod_eq_of_le <;> omega
      omega
    · intro q; omega
theorem m_copy {A : zA} {σ : zSt} (hi : zI A) (h : RM A σ) (s i o j n : Int32) (Q : Int32 → zSt → Prop) (hQ : ∀ σ', RM (s_copy A s i o j n).2 σ' → Q (s_copy A s i o j n).1 σ') : wX8_copy s i o j n σ Q := by
  unfold wX8_copy
  unfold s_copy at hQ
  rw [p8_isSheet]
  by_cases c1 : zr s 4 = true
  rotate_left
  · rw [if_neg (fun q => c1 q.1)] at hQ
    rw [if_neg c1, if_pos rfl]; exact hQ σ h
  rw [if_pos c1, if_neg (by decide), p8_isSheet]
  by_cases c2 : zr o 4 = true
  rotate_left
  · rw [if_neg (fun q => c2 q.2)] at hQ
    rw [if_neg c2, if_pos rfl]; exact hQ σ h
  rw [if_pos ⟨c1, c2⟩] at hQ
  rw [if_pos c2, if_neg (by decide)]
  obtain ⟨s, hs, rfl⟩ := zr_of (by omega) c1
  obtain ⟨o, ho, rfl⟩ := zr_of (by omega) c2
  have hv : vp_in (nI s) 4 := zin' hs (by omega)
  have hv2 : vp_in (nI o) 4 := zin' ho (by omega)
  rw [zcl (by omega), zcl (by omega)] at hQ ⊢
  have hs2 := h.2.2.2.2 s hs
  have ho2 := h.2.2.2.2 o ho
  refine ⟨hv, ?_⟩
  cases hz : A.2.2.2.2 s with
  | none =>
    rw [hz] at hs2 hQ
    rw [if_pos hs2]; exact hQ σ h
  | some q =>
    rw [hz] at hs2 hQ
    obtain ⟨g1, g2, g3, g4⟩ := hs2
    obtain ⟨b1, b2⟩ := hi.2.2.2.2 s hs q hz
    rw [g1, if_neg (by decide)]
    refine ⟨hv2, ?_⟩
    cases hy : A.2.2.2.2 o with
    | none =>
      rw [hy] at ho2 hQ
      rw [if_pos ho2]; exact hQ σ h
    | some r =>
      rw [hy] at ho2 hQ
      obtain ⟨f1, f2, f3, f4⟩ := ho2
      obtain ⟨d1, d2⟩ := hi.2.2.2.2 o ho r hy
      dsimp only at hQ
      rw [f1, if_neg (by decide)]
      refine ⟨hv, hv2, ?_⟩
      rw [g2, f2]
      by_cases c3 : q.1 = r.1
      rotate_left
      · rw [if_neg c3] at hQ
        rw [if_neg (fun z => c3 ((nI_eq (by omega) (by omega)).mp z))]
        exact hQ σ h
      rw [if_pos c3] at hQ
      rw [if_pos (by rw [c3])]
      have hno : ¬ ((¬ i < 0 ∧ ¬ n < 0 ∧ i.toNatClampNeg + n.toNatClampNeg ≤ q.2.1) ∧ (¬ j < 0 ∧ ¬ n < 0 ∧ j.toNatClampNeg + n.toNatClampNeg ≤ r.2.1)) → Q (-12) σ := fun c => by rw [if_neg c] at hQ; exact hQ σ h
      by_cases k1 : n < 0
      · rw [if_pos k1]; exact hno (fun z => z.1.2.1 k1)
      by_cases k2 : i < 0
      · rw [if_neg k1, if_pos k2]; exact hno (fun z => z.1.1 k2)
      by_cases k3 : j < 0
      · rw [if_neg k1, if_neg k2, if_pos k3]; exact hno (fun z => z.2.1 k3)
      rw [if_neg k1, if_neg k2, if_neg k3]
      obtain ⟨N, hN, rfl⟩ := nI_of k1
      obtain ⟨i, hi2, rfl⟩ := nI_of k2
      obtain ⟨j, hj2, rfl⟩ := nI_of k3
      rw [zcl hN, zcl hi2, zcl hj2] at hQ hno
      refine ⟨hv, ?_⟩
      rw [g3, f3]
      by_cases c4 : i + N ≤ q.2.1
      rotate_left
      · rw [if_pos (show nI q.2.1 - nI N < nI i from by
          have := mt (zle_sub b2 hi2 hN).mp c4
          rw [Int32.le_iff_toInt_le] at this
          rw [Int32.lt_iff_toInt_lt]; omega)]
        exact hno (fun z => c4 z.1.2.2)
      rw [if_neg (show ¬ nI q.2.1 - nI N < nI i from fun z => by
          have := (zle_sub b2 hi2 hN).mpr c4
          rw [Int32.le_iff_toInt_le] at this
          rw [Int32.lt_iff_toInt_lt] at z; omega)]
      refine ⟨hv2, ?_⟩
      by_cases c5 : j + N ≤ r.2.1
      rotate_left
      · rw [if_neg (fun z => c5 ((zle_sub d2 hj2 hN).mp z))]
        exact hno (fun z => c5 z.2.2.2)
      rw [if_pos ((zle_sub d2 hj2 hN).mpr c5)]
      rw [if_pos ⟨⟨k2, k1, c4⟩, k3, k1, c5⟩] at hQ
      have fin : ∀ σ' : zSt, (∀ a, a ≠ 20 → σ'.1 a = σ.1 a) → (∀ a, σ'.1 20 a = if 40 * o + j ≤ a ∧ a < 40 * o + j + N then σ.1 20 (40 * s + i + (a - (40 * o + j))) else σ.1 20 a) → Q (nI N) σ' := fun σ' e f => hQ σ' (h.cpy hi hs ho hz hy c4 c5 e f)
      by_cases c6 : s = o
      · rw [if_pos (show nI s = nI o by rw [c6])]
        by_cases c7 : j ≤ i
        · rw [if_pos (show nI j ≤ nI i from nI_le c7 (by omega))]
          refine p8_cp hs ho (by omega) (by omega) 0 σ Q _ (Or.inl ⟨rfl, by omega⟩) fin N 0 300 σ (by omega) (by omega) (fun _ _ => rfl) (fun a => ?_)
          rw [if_neg]
          intro z
          rcases z with ⟨_, z1, z2⟩ | ⟨z, _⟩
          · omega
          · exact absurd z (by decide)
        · rw [if_neg (show ¬ nI j ≤ nI i from nI_ge (by omega) (by omega))]
          refine p8_cp hs ho (by omega) (by omega) 1 σ Q _ (Or.inr ⟨rfl, by omega⟩) fin N 0 300 σ (by omega) (by omega) (fun _ _ => rfl) (fun a => ?_)
          rw [if_neg]
          intro z
          rcases z with ⟨z, _⟩ | ⟨_, z1, z2⟩
          · exact absurd z (by decide)
          · omega
      · rw [if_neg (show ¬ nI s = nI o from fun z => c6 ((nI_eq (by omega) (by omega)).mp z))]
        refine p8_cp hs ho (by omega) (by omega) 0 σ Q _ (Or.inl ⟨rfl, by omega⟩) fin N 0 300 σ (by omega) (by omega) (fun _ _ => rfl) (fun a => ?_)
        rw [if_neg]
        intro z
        rcases z with ⟨_, z1, z2⟩ | ⟨z, _⟩
        · omega
        · exact absurd z (by decide)
