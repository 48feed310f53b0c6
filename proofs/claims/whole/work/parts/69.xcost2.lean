def zsc (σ σ' : zSt) : Prop := ∀ o, o ≠ 25 → o ≠ 26 → o ≠ 27 → σ'.1 o = σ.1 o
theorem zsc.rf {σ : zSt} : zsc σ σ := fun _ _ _ _ => rfl
theorem zsc.tr {a b c : zSt} (h : zsc a b) (g : zsc b c) : zsc a c := fun o x y z => (g o x y z).trans (h o x y z)
theorem RX.sc {A : zA} {σ σ' : zSt} (h : RX A σ) (e : zsc σ σ') (hc : xCa A.1 A.2.2.2.1.2 σ') : RX A σ' := by
  obtain ⟨h1, h2, h3, h4, h5, h6, h7, h8⟩ := h
  have e0 : σ'.1 0 = σ.1 0 := e 0 (by decide) (by decide) (by decide)
  exact ⟨h1, h2.fr (fun k hk => e _ (by omega) (by omega) (by omega)), h3.fr (by rw [e0]) (fun k hk => e _ (by omega) (by omega) (by omega)), h4.fr (by rw [e0]) (e _ (by omega) (by omega) (by omega)), h5.fr (by rw [e0]) (fun i hi => e _ (by omega) (by omega) (by omega)) (fun i hi => e _ (by omega) (by omega) (by omega)) h1.2.2.2.1.2.1, h6.fr (fun i hi => e _ (by omega) (by omega) (by omega)) (fun i hi => e _ (by omega) (by omega) (by omega)), hc, h8.fr (e _ (by omega) (by omega) (by omega)) (e _ (by omega) (by omega) (by omega))⟩
theorem zclamp_w (r : Int32) : (if (0 : Int32) < (if r < 99 then r else 99) then (if r < 99 then r else 99) else 0) = nI (zclamp r) := by
  rw [zclamp_eq]
  by_cases c1 : r < 0
  · rw [if_pos c1]
    have c2 : r < 99 := by rw [Int32.lt_iff_toInt_lt] at *; rw [show (0 : Int32).toInt = 0 from by decide] at c1; rw [show (99 : Int32).toInt = 99 from by decide]; omega
    rw [if_pos c2, if_neg]
    rw [Int32.lt_iff_toInt_lt] at *; omega
  · rw [if_neg c1]
    by_cases c3 : 99 < r
    · rw [if_pos c3]
      have c2 : ¬ r < 99 := by rw [Int32.lt_iff_toInt_lt] at *; omega
      rw [if_neg c2, if_pos (by decide)]
    · rw [if_neg c3]
      by_cases c2 : r < 99
      · rw [if_pos c2]
        by_cases c4 : (0 : Int32) < r
        · rw [if_pos c4]
        · rw [if_neg c4]
          rw [← Int32.toInt_inj]
          rw [Int32.lt_iff_toInt_lt] at *
          omega
      · rw [if_neg c2, if_pos (by decide)]
        rw [← Int32.toInt_inj]
        rw [Int32.lt_iff_toInt_lt] at *
        omega
theorem p0_reckon {A : zA} {σ : zSt} (h : RX A σ) {τ : zSt} (e : zsc σ τ) {p : Nat} (hp : p < 3) {a b c d f : Int32} (ha : τ.1 26 0 = a) (hb : τ.1 26 1 = b) (hc : τ.1 26 2 = c) (hd : τ.1 26 3 = d) (hf : τ.1 26 4 = f) (Q : Int32 → zSt → Prop) (hQ : ∀ σ' : zSt, zsc σ σ' → σ'.1 25 = τ.1 25 → Q (nI (zclamp (zworth (znm a b c d f (nI (A.1 6 0 + A.1 6 1))) (A.2.2.2.1.2 (A.1 6 5) p)))) σ') : wX0_reckon (nI p) τ Q := by
  have ok := h.1.1
  have g0 : τ.1 3 0 = nI (A.1 6 0) := by rw [e 3 (by decide) (by decide) (by decide)]; exact h.2.1.2.2.2.1
  have g1 : τ.1 3 1 = nI (A.1 6 1) := by rw [e 3 (by decide) (by decide) (by decide)]; exact h.2.1.2.2.2.2.1
  have g5 : τ.1 1 10 = nI (A.1 6 5) := by rw [e 1 (by decide) (by decide) (by decide)]; exact h.2.1.2.2.2.2.2.2.2.2
  have hr := h.1.2.2.2.1
  unfold wX0_reckon wX1_many
  rw [g0, g1, nI_add]
  simp only [forall_eq]
  rw [show (zput τ 26 5 (nI (A.1 6 0 + A.1 6 1))).1 1 10 = nI (A.1 6 5) by rw [zput_ne (by decide)]; exact g5]
  rw [if_neg (nI_pos (by omega)), if_neg (show ¬ (6 : Int32) ≤ nI (A.1 6 5) from nI_ge (a := A.1 6 5) (b := 6) (by omega) (by omega)), zcl (by omega)]
  refine ⟨zin' (by omega) (by omega), zin' (by omega) (by omega), ?_⟩
  have ht := h.2.2.2.2.1.2 (A.1 6 5) hr.2.2
  refine p6_worth (names := znm a b c d f (nI (A.1 6 0 + A.1 6 1))) (by omega) hp (ht.fr ?_ ?_) ?_ _ (fun σ' hs => ?_)
  · rw [zput_ne (by omega)]; exact e _ (by omega) (by omega) (by omega)
  · rw [zput_ne (by omega)]; exact e _ (by omega) (by omega) (by omega)
  · intro k hk
    rcases (show k = 0 ∨ k = 1 ∨ k = 2 ∨ k = 3 ∨ k = 4 ∨ k = 5 by omega) with rfl | rfl | rfl | rfl | rfl | rfl
    · simpa [zput_at, znm] using ha
    · simpa [zput_at, znm] using hb
    · simpa [zput_at, znm] using hc
    · simpa [zput_at, znm] using hd
    · simpa [zput_at, znm] using hf
    · simp [zput_at, znm]
  · rw [zclamp_w]
    refine hQ σ' (fun o h1 h2 h3 => ?_) ?_
    · rw [hs o h3, zput_ne h2]; exact e o h1 h2 h3
    · rw [hs 25 (by decide), zput_ne (by decide)]
theorem zfar {i m i' m' : Nat} (hm : m ≤ 24) (hm' : m' ≤ 24) (h : i * 25 + m = i' * 25 + m') : i = i' ∧ m = m' := by omega
theorem zfar2 {m w s m' w' s' : Nat} (hw : w < 3) (hs : s < 3) (hw' : w' < 3) (hs' : s' < 3) (h : (m * 3 + w) * 3 + s = (m' * 3 + w') * 3 + s') : m = m' ∧ w = w' ∧ s = s' := by omega
theorem x_ofOne {A : zA} {σ : zSt} (h : RX A σ) {i m : Nat} (hi : i < 8) (hm : m ≤ 24) (Q : Int32 → zSt → Prop) (hQ : ∀ σ', RX A σ' → zsc σ σ' → Q (nI (zcost A.1 A.2.2.2.1.2 i m)) σ') : wX0_ofOne (nI i) (nI m) σ Q := by
  unfold wX0_ofOne
  have ok := h.1.1
  have hv8 : vp_in (nI i) 8 := zin' hi (by omega)
  rw [if_neg (nI_pos (by omega)), if_neg (show ¬ (8 : Int32) ≤ nI i from nI_ge (a := i) (b := 8) hi (by omega)), if_neg (nI_pos (by omega)), if_pos (show nI m ≤ (24 : Int32) from nI_le (a := m) (b := 24) hm (by omega))]
  have ep : nI i * 25 + nI m = nI (i * 25 + m) := by simp only [kk, zc]
  rw [ep]
  simp only [forall_eq]
  have hv : vp_in (nI (i * 25 + m)) 416 := zin' (by omega) (by omega)
  refine ⟨hv, ?_⟩
  rw [zcl (by omega), zcl (by omega)]
  obtain ⟨ca1, ca2⟩ := h.2.2.2.2.2.2.1
  by_cases c : σ.1 25 (i * 25 + m) = -1
  · rw [if_pos c]
    simp only [hv8, true_and, hv]
    have g := h.2.1.2.1 i hi
    have go : ∀ p, p = (if i < 4 then 0 else 1) → wX0_reckon (nI p) (zput (zput (zput (zput (zput σ 26 0 (nI m - σ.1 5 i)) 26 1 ((zput σ 26 0 (nI m - σ.1 5 i)).1 6 i)) 26 2 (nI m)) 26 3 ((zput (zput (zput σ 26 0 (nI m - σ.1 5 i)) 26 1 ((zput σ 26 0 (nI m - σ.1 5 i)).1 6 i)) 26 2 (nI m)).1 4 i)) 26 4 0) (fun r s1 => Q ((zput s1 25 (i * 25 + m) r).1 25 (i * 25 + m)) (zput s1 25 (i * 25 + m) r)) := by
      intro p hp
      refine p0_reckon h (fun o h1 h2 h3 => by rw [zput_ne h2, zput_ne h2, zput_ne h2, zput_ne h2, zput_ne h2]) (by rw [hp]; split <;> omega) (a := nI m - nI (A.1 2 i)) (b := nI (A.1 3 i)) (c := nI m) (d := nI (A.1 1 i)) (f := 0) ?_ ?_ ?_ ?_ ?_ _ (fun σ' hs h25 => ?_)
      · simp [zput_at, show σ.1 5 i = _ from g.2.1]
      · simp [zput_at, show σ.1 6 i = _ from g.2.2]
      · simp [zput_at]
      · simp [zput_at, show σ.1 4 i = _ from g.1]
      · simp [zput_at]
      · have ev : nI (zclamp (zworth (znm (nI m - nI (A.1 2 i)) (nI (A.1 3 i)) (nI m) (nI (A.1 1 i)) 0 (nI (A.1 6 0 + A.1 6 1))) (A.2.2.2.1.2 (A.1 6 5) p))) = nI (zcost A.1 A.2.2.2.1.2 i m) := by rw [hp]; rfl
        rw [ev]
        rw [show (zput σ' 25 (i * 25 + m) (nI (zcost A.1 A.2.2.2.1.2 i m))).1 25 (i * 25 + m) = nI (zcost A.1 A.2.2.2.1.2 i m) by simp [zput_at]]
        have h25' : σ'.1 25 = σ.1 25 := by rw [h25, zput_ne (by decide), zput_ne (by decide), zput_ne (by decide), zput_ne (by decide), zput_ne (by decide)]
        have hz : zsc σ (zput σ' 25 (i * 25 + m) (nI (zcost A.1 A.2.2.2.1.2 i m))) := fun o h1 h2 h3 => by rw [zput_ne h1]; exact hs o h1 h2 h3
        refine hQ _ (h.sc hz ⟨fun i' m' hi' hm' => ?_, fun m' w' s' h1 h2 h3 => ?_⟩) hz
        · rw [zput_eq, h25']
          unfold upd
          by_cases z : i' * 25 + m' = i * 25 + m
          · obtain ⟨rfl, rfl⟩ := zfar hm' hm z
            rw [if_pos rfl]; exact Or.inr rfl
          · rw [if_neg z]; exact ca1 i' m' hi' hm'
        · rw [zput_eq, h25']
          unfold upd
          rw [if_neg (by omega)]; exact ca2 m' w' s' h1 h2 h3
    by_cases q : 4 ≤ i
    · rw [if_pos (show (4 : Int32) ≤ nI i from nI_le (a := 4) (b := i) q (by omega))]
      exact go 1 (by rw [if_neg (by omega)])
    · rw [if_neg (show ¬ (4 : Int32) ≤ nI i from nI_ge (a := i) (b := 4) (by omega) (by omega))]
      exact go 0 (by rw [if_pos (by omega)])
  · rw [if_neg c]
    refine ⟨hv, ?_⟩
    rcases ca1 i m hi hm with z | z
    · exact absurd z c
    · rw [z]; exact hQ σ h zsc.rf
theorem x_ofChange {A : zA} {σ : zSt} (h : RX A σ) {m w b : Nat} (hm : m < 24) (hw : w < 3) (hb : b < 3) (Q : Int32 → zSt → Prop) (hQ : ∀ σ', RX A σ' → zsc σ σ' → Q (nI (zchg A.1 A.2.2.2.1.2 m w b)) σ') : wX0_ofChange (nI m) (nI w) (nI b) σ Q := by
  unfold wX0_ofChange
  have ok := h.1.1
  rw [p7_isMinute, zr_nI hm (by omega), if_pos rfl, if_neg (by decide), p7_isBridge, zr_nI hw (by omega), if_pos rfl, if_neg (by decide), p7_isBridge, zr_nI hb (by omega), if_pos rfl, if_neg (by decide)]
  have ep : 200 + (nI m * 3 + nI w) * 3 + nI b = nI (200 + ((m * 3 + w) * 3 + b)) := by simp only [kk, zc, Nat.add_assoc]
  rw [ep]
  simp only [forall_eq]
  have hv : vp_in (nI (200 + ((m * 3 + w) * 3 + b))) 416 := zin' (by omega) (by omega)
  refine ⟨hv, ?_⟩
  rw [zcl (by omega)]
  obtain ⟨ca1, ca2⟩ := h.2.2.2.2.2.2.1
  by_cases c : σ.1 25 (200 + ((m * 3 + w) * 3 + b)) = -1
  · rw [if_pos c]
    refine p0_reckon (p := 2) h (fun o h1 h2 h3 => by rw [zput_ne h2, zput_ne h2, zput_ne h2, zput_ne h2, zput_ne h2]) (by omega) (a := 0) (b := 0) (c := nI m) (d := nI b) (f := nI w) ?_ ?_ ?_ ?_ ?_ _ (fun σ' hs h25 => ?_)
    · simp [zput_at]
    · simp [zput_at]
    · simp [zput_at]
    · simp [zput_at]
    · simp [zput_at]
    · have ev : nI (zclamp (zworth (znm 0 0 (nI m) (nI b) (nI w) (nI (A.1 6 0 + A.1 6 1))) (A.2.2.2.1.2 (A.1 6 5) 2))) = nI (zchg A.1 A.2.2.2.1.2 m w b) := rfl
      rw [ev]
      simp only [hv, true_and]
      rw [show (zput σ' 25 (200 + ((m * 3 + w) * 3 + b)) (nI (zchg A.1 A.2.2.2.1.2 m w b))).1 25 (200 + ((m * 3 + w) * 3 + b)) = nI (zchg A.1 A.2.2.2.1.2 m w b) by simp [zput_at]]
      have h25' : σ'.1 25 = σ.1 25 := by rw [h25, zput_ne (by decide), zput_ne (by decide), zput_ne (by decide), zput_ne (by decide), zput_ne (by decide)]
      have hz : zsc σ (zput σ' 25 (200 + ((m * 3 + w) * 3 + b)) (nI (zchg A.1 A.2.2.2.1.2 m w b))) := fun o h1 h2 h3 => by rw [zput_ne h1]; exact hs o h1 h2 h3
      refine hQ _ (h.sc hz ⟨fun i' m' hi' hm' => ?_, fun m' w' s' h1 h2 h3 => ?_⟩) hz
      · rw [zput_eq, h25']
        unfold upd
        rw [if_neg (by omega)]; exact ca1 i' m' hi' hm'
      · rw [zput_eq, h25']
        unfold upd
        by_cases z : 200 + ((m' * 3 + w') * 3 + s') = 200 + ((m * 3 + w) * 3 + b)
        · have z' : (m' * 3 + w') * 3 + s' = (m * 3 + w) * 3 + b := by omega
          obtain ⟨rfl, rfl, rfl⟩ := zfar2 h2 h3 hw hb z'
          rw [if_pos rfl]; exact Or.inr rfl
        · rw [if_neg z]; exact ca2 m' w' s' h1 h2 h3
  · rw [if_neg c]
    refine ⟨hv, ?_⟩
    rcases ca2 m w b hm hw hb with z | z
    · exact absurd z c
    · rw [z]; exact hQ σ h zsc.rf
theorem x_ofRow_2_a {C : zCo} {D : zD} {row : Nat → Nat} (Q : Int32 → zSt → Prop) (K : Int32 → zSt → Prop) : ∀ (k i n : Nat) (A : zA) (σ : zSt), A.1 = D → A.2.2.2.1.2 = C → RX A σ → zIsRow 2 row σ → i + k = 8 → k < n → (∀ σ', RX A σ' → zsc σ σ' → K (nI (zsum (fun i => if zPr D i = true then zcost D C i (zthr D row i) else 0) 8)) σ') → wX0_ofRow_2_L4 Q K n (nI (zsum (fun i => if zPr D i = true then zcost D C i (zthr D row i) else 0) i)) (nI i) σ := by
  intro k
  induction k with
  | zero =>
    intro i n A σ hD hC h hr hi hn hK
    obtain ⟨n, rfl⟩ : ∃ n', n = n' + 1 := ⟨n - 1, by omega⟩
    have : i = 8 := by omega
    subst this
    rw [wX0_ofRow_2_L4, if_pos (by decide)]
    exact hK σ h zsc.rf
  | succ k ih =>
    intro i n A σ hD hC h hr hi hn hK
    obtain ⟨n, rfl⟩ : ∃ n', n = n' + 1 := ⟨n - 1, by omega⟩
    rw [wX0_ofRow_2_L4, if_neg (show ¬ (8 : Int32) ≤ nI i from nI_ge (a := i) (b := 8) (by omega) (by omega)), p1_isThere h.2.1 h.1.1 (by omega), hD]
    have e1 : nI i + 1 = nI (i + 1) := nI_1 i
    by_cases c : zPr D i = true
    · rw [if_pos c, if_neg (by decide), p1_through_2 h.2.1 h.1.1 hr (by omega), hD]
      have hle : zthr D row i ≤ 24 := (zthr_le D row i 25 (D 2 i) (by have := (h.1.1.2.1 i (by omega)).2.1; rw [hD] at this; omega) (by have := (h.1.1.2.1 i (by omega)).2.1; rw [hD] at this; omega)).1
      refine x_ofOne h (by omega) hle _ (fun σ' hr' hs => ?_)
      simp only [forall_eq]
      rw [e1, nI_add, hD, hC]
      have es : zsum (fun i => if zPr D i = true then zcost D C i (zthr D row i) else 0) i + zcost D C i (zthr D row i) = zsum (fun i => if zPr D i = true then zcost D C i (zthr D row i) else 0) (i + 1) := by rw [zsum, if_pos c]
      rw [es]
      exact ih (i + 1) n A σ' hD hC hr' (fun m hm => by rw [hs _ (by decide) (by decide) (by decide)]; exact hr m hm) (by omega) (by omega) (fun σ'' h1 h2 => hK σ'' h1 (hs.tr h2))
    · rw [if_neg c, if_pos rfl]
      simp only [forall_eq]
      rw [e1]
      have es : zsum (fun i => if zPr D i = true then zcost D C i (zthr D row i) else 0) i = zsum (fun i => if zPr D i = true then zcost D C i (zthr D row i) else 0) (i + 1) := by rw [zsum, if_neg c, Nat.add_zero]
      rw [es]
      exact ih (i + 1) n A σ hD hC h hr (by omega) (by omega) hK
theorem x_ofRow_2_b {C : zCo} {D : zD} {row : Nat → Nat} (base : Nat) (Q : Int32 → zSt → Prop) (K : Int32 → zSt → Prop) : ∀ (k m n : Nat) (A : zA) (σ : zSt), A.1 = D → A.2.2.2.1.2 = C → RX A σ → zIsRow 2 row σ → m + k = 23 → k < n → (∀ σ', RX A σ' → zsc σ σ' → K (nI (base + zsum (fun k => if row (k + 1) = row k then 0 else zchg D C (k + 1) (row k) (row (k + 1))) 23)) σ') → wX0_ofRow_2_L46 Q K n (nI (base + zsum (fun k => if row (k + 1) = row k then 0 else zchg D C (k + 1) (row k) (row (k + 1))) m)) (nI (m + 1)) σ := by
  intro k
  induction k with
  | zero =>
    intro m n A σ hD hC h hr hi hn hK
    obtain ⟨n, rfl⟩ : ∃ n', n = n' + 1 := ⟨n - 1, by omega⟩
    have : m = 23 := by omega
    subst this
    rw [wX0_ofRow_2_L46, if_pos (by decide)]
    exact hK σ h zsc.rf
  | succ k ih =>
    intro m n A σ hD hC h hr hi hn hK
    obtain ⟨n, rfl⟩ : ∃ n', n = n' + 1 := ⟨n - 1, by omega⟩
    have hlt : ¬ (24 : Int32) ≤ nI (m + 1) := nI_ge (a := m + 1) (b := 24) (by omega) (by omega)
    have em : nI (m + 1) - 1 = nI m := by rw [show (1 : Int32) = nI 1 from rfl, pk_sub (by omega)]; rfl
    rw [wX0_ofRow_2_L46, if_neg hlt, if_neg hlt, em, zcl (by omega), zcl (by omega), (hr (m + 1) (by omega)).1, (hr m (by omega)).1]
    have hv1 : vp_in (nI (m + 1)) 24 := zin' (by omega) (by omega)
    have hv2 : vp_in (nI m) 24 := zin' (by omega) (by omega)
    have b1 := (hr (m + 1) (by omega)).2
    have b2 := (hr m (by omega)).2
    simp only [hv1, hv2, true_and, forall_eq]
    have e1 : nI (m + 1) + 1 = nI (m + 1 + 1) := nI_1 _
    by_cases c : row (m + 1) = row m
    · rw [if_pos (by rw [c]), e1]
      have es : zsum (fun k => if row (k + 1) = row k then 0 else zchg D C (k + 1) (row k) (row (k + 1))) m = zsum (fun k => if row (k + 1) = row k then 0 else zchg D C (k + 1) (row k) (row (k + 1))) (m + 1) := by rw [zsum, if_pos c, Nat.add_zero]
      rw [es]
      exact ih (m + 1) n A σ hD hC h hr (by omega) (by omega) hK
    · rw [if_neg (fun z => c ((nI_eq (by omega) (by omega)).mp z))]
      refine x_ofChange h (by omega) b2 b1 _ (fun σ' hr' hs => ?_)
      rw [e1, nI_add, hD, hC]
      have es : base + zsum (fun k => if row (k + 1) = row k then 0 else zchg D C (k + 1) (row k) (row (k + 1))) m + zchg D C (m + 1) (row m) (row (m + 1)) = base + zsum (fun k => if row (k + 1) = row k then 0 else zchg D C (k + 1) (row k) (row (k + 1))) (m + 1) := by rw [zsum, if_neg c]; omega
      rw [es]
      exact ih (m + 1) n A σ' hD hC hr' (fun m hm => by rw [hs _ (by decide) (by decide) (by decide)]; exact hr m hm) (by omega) (by omega) (fun σ'' h1 h2 => hK σ'' h1 (hs.tr h2))
theorem x_ofRow_2 {A : zA} {σ : zSt} (h : RX A σ) {row : Nat → Nat} (hr : zIsRow 2 row σ) (Q : Int32 → zSt → Prop) (hQ : ∀ σ', RX A σ' → zsc σ σ' → Q (nI (zrowc A.1 A.2.2.2.1.2 row)) σ') : wX0_ofRow_2 σ Q := by
  unfold wX0_ofRow_2
  refine x_ofRow_2_a (D := A.1) (C := A.2.2.2.1.2) (row := row) Q _ 8 0 300 A σ rfl rfl h hr (by omega) (by omega) (fun σ' h1 s1 => ?_)
  have hr' : zIsRow 2 row σ' := fun m hm => by rw [s1 _ (by decide) (by decide) (by decide)]; exact hr m hm
  exact x_ofRow_2_b (D := A.1) (C := A.2.2.2.1.2) (row := row) _ Q _ 23 0 300 A σ' rfl rfl h1 hr' (by omega) (by omega) (fun σ'' h2 s2 => hQ σ'' h2 (s1.tr s2))
theorem x_ofRow_39_a {C : zCo} {D : zD} {row : Nat → Nat} (Q : Int32 → zSt → Prop) (K : Int32 → zSt → Prop) : ∀ (k i n : Nat) (A : zA) (σ : zSt), A.1 = D → A.2.2.2.1.2 = C → RX A σ → zIsRow 39 row σ → i + k = 8 → k < n → (∀ σ', RX A σ' → zsc σ σ' → K (nI (zsum (fun i => if zPr D i = true then zcost D C i (zthr D row i) else 0) 8)) σ') → wX0_ofRow_39_L4 Q K n (nI (zsum (fun i => if zPr D i = true then zcost D C i (zthr D row i) else 0) i)) (nI i) σ := by
  intro k
  induction k with
  | zero =>
    intro i n A σ hD hC h hr hi hn hK
    obtain ⟨n, rfl⟩ : ∃ n', n = n' + 1 := ⟨n - 1, by omega⟩
    have : i = 8 := by omega
    subst this
    rw [wX0_ofRow_39_L4, if_pos (by decide)]
    exact hK σ h zsc.rf
  | succ k ih =>
    intro i n A σ hD hC h hr hi hn hK
    obtain ⟨n, rfl⟩ : ∃ n', n = n' + 1 := ⟨n - 1, by omega⟩
    rw [wX0_ofRow_39_L4, if_neg (show ¬ (8 : Int32) ≤ nI i from nI_ge (a := i) (b := 8) (by omega) (by omega)), p1_isThere h.2.1 h.1.1 (by omega), hD]
    have e1 : nI i + 1 = nI (i + 1) := nI_1 i
    by_cases c : zPr D i = true
    · rw [if_pos c, if_neg (by decide), p1_through_39 h.2.1 h.1.1 hr (by omega), hD]
      have hle : zthr D row i ≤ 24 := (zthr_le D row i 25 (D 2 i) (by have := (h.1.1.2.1 i (by omega)).2.1; rw [hD] at this; omega) (by have := (h.1.1.2.1 i (by omega)).2.1; rw [hD] at this; omega)).1
      refine x_ofOne h (by omega) hle _ (fun σ' hr' hs => ?_)
      simp only [forall_eq]
      rw [e1, nI_add, hD, hC]
      have es : zsum (fun i => if zPr D i = true then zcost D C i (zthr D row i) else 0) i + zcost D C i (zthr D row i) = zsum (fun i => if zPr D i = true then zcost D C i (zthr D row i) else 0) (i + 1) := by rw [zsum, if_pos c]
      rw [es]
      exact ih (i + 1) n A σ' hD hC hr' (fun m hm => by rw [hs _ (by decide) (by decide) (by decide)]; exact hr m hm) (by omega) (by omega) (fun σ'' h1 h2 => hK σ'' h1 (hs.tr h2))
    · rw [if_neg c, if_pos rfl]
      simp only [forall_eq]
      rw [e1]
      have es : zsum (fun i => if zPr D i = true then zcost D C i (zthr D row i) else 0) i = zsum (fun i => if zPr D i = true then zcost D C i (zthr D row i) else 0) (i + 1) := by rw [zsum, if_neg c, Nat.add_zero]
      rw [es]
      exact ih (i + 1) n A σ hD hC h hr (by omega) (by omega) hK
theorem x_ofRow_39_b {C : zCo} {D : zD} {row : Nat → Nat} (base : Nat) (Q : Int32 → zSt → Prop) (K : Int32 → zSt → Prop) : ∀ (k m n : Nat) (A : zA) (σ : zSt), A.1 = D → A.2.2.2.1.2 = C → RX A σ → zIsRow 39 row σ → m + k = 23 → k < n → (∀ σ', RX A σ' → zsc σ σ' → K (nI (base + zsum (fun k => if row (k + 1) = row k then 0 else zchg D C (k + 1) (row k) (row (k + 1))) 23)) σ') → wX0_ofRow_39_L46 Q K n (nI (base + zsum (fun k => if row (k + 1) = row k then 0 else zchg D C (k + 1) (row k) (row (k + 1))) m)) (nI (m + 1)) σ := by
  intro k
  induction k with
  | zero =>
    intro m n A σ hD hC h hr hi hn hK
    obtain ⟨n, rfl⟩ : ∃ n', n = n' + 1 := ⟨n - 1, by omega⟩
    have : m = 23 := by omega
    subst this
    rw [wX0_ofRow_39_L46, if_pos (by decide)]
    exact hK σ h zsc.rf
  | succ k ih =>
    intro m n A σ hD hC h hr hi hn hK
    obtain ⟨n, rfl⟩ : ∃ n', n = n' + 1 := ⟨n - 1, by omega⟩
    have hlt : ¬ (24 : Int32) ≤ nI (m + 1) := nI_ge (a := m + 1) (b := 24) (by omega) (by omega)
    have em : nI (m + 1) - 1 = nI m := by rw [show (1 : Int32) = nI 1 from rfl, pk_sub (by omega)]; rfl
    rw [wX0_ofRow_39_L46, if_neg hlt, if_neg hlt, em, zcl (by omega), zcl (by omega), (hr (m + 1) (by omega)).1, (hr m (by omega)).1]
    have hv1 : vp_in (nI (m + 1)) 24 := zin' (by omega) (by omega)
    have hv2 : vp_in (nI m) 24 := zin' (by omega) (by omega)
    have b1 := (hr (m + 1) (by omega)).2
    have b2 := (hr m (by omega)).2
    simp only [hv1, hv2, true_and, forall_eq]
    have e1 : nI (m + 1) + 1 = nI (m + 1 + 1) := nI_1 _
    by_cases c : row (m + 1) = row m
    · rw [if_pos (by rw [c]), e1]
      have es : zsum (fun k => if row (k + 1) = row k then 0 else zchg D C (k + 1) (row k) (row (k + 1))) m = zsum (fun k => if row (k + 1) = row k then 0 else zchg D C (k + 1) (row k) (row (k + 1))) (m + 1) := by rw [zsum, if_pos c, Nat.add_zero]
      rw [es]
      exact ih (m + 1) n A σ hD hC h hr (by omega) (by omega) hK
    · rw [if_neg (fun z => c ((nI_eq (by omega) (by omega)).mp z))]
      refine x_ofChange h (by omega) b2 b1 _ (fun σ' hr' hs => ?_)
      rw [e1, nI_add, hD, hC]
      have es : base + zsum (fun k => if row (k + 1) = row k then 0 else zchg D C (k + 1) (row k) (row (k + 1))) m + zchg D C (m + 1) (row m) (row (m + 1)) = base + zsum (fun k => if row (k + 1) = row k then 0 else zchg D C (k + 1) (row k) (row (k + 1))) (m + 1) := by rw [zsum, if_neg c]; omega
      rw [es]
      exact ih (m + 1) n A σ' hD hC hr' (fun m hm => by rw [hs _ (by decide) (by decide) (by decide)]; exact hr m hm) (by omega) (by omega) (fun σ'' h1 h2 => hK σ'' h1 (hs.tr h2))
theorem x_ofRow_39 {A : zA} {σ : zSt} (h : RX A σ) {row : Nat → Nat} (hr : zIsRow 39 row σ) (Q : Int32 → zSt → Prop) (hQ : ∀ σ', RX A σ' → zsc σ σ' → Q (nI (zrowc A.1 A.2.2.2.1.2 row)) σ') : wX0_ofRow_39 σ Q := by
  unfold wX0_ofRow_39
  refine x_ofRow_39_a (D := A.1) (C := A.2.2.2.1.2) (row := row) Q _ 8 0 300 A σ rfl rfl h hr (by omega) (by omega) (fun σ' h1 s1 => ?_)
  have hr' : zIsRow 39 row σ' := fun m hm => by rw [s1 _ (by decide) (by decide) (by decide)]; exact hr m hm
  exact x_ofRow_39_b (D := A.1) (C := A.2.2.2.1.2) (row := row) _ Q _ 23 0 300 A σ' rfl rfl h1 hr' (by omega) (by omega) (fun σ'' h2 s2 => hQ σ'' h2 (s1.tr s2))
theorem x_ofRow_42_a {C : zCo} {D : zD} {row : Nat → Nat} (Q : Int32 → zSt → Prop) (K : Int32 → zSt → Prop) : ∀ (k i n : Nat) (A : zA) (σ : zSt), A.1 = D → A.2.2.2.1.2 = C → RX A σ → zIsRow 42 row σ → i + k = 8 → k < n → (∀ σ', RX A σ' → zsc σ σ' → K (nI (zsum (fun i => if zPr D i = true then zcost D C i (zthr D row i) else 0) 8)) σ') → wX0_ofRow_42_L4 Q K n (nI (zsum (fun i => if zPr D i = true then zcost D C i (zthr D row i) else 0) i)) (nI i) σ := by
  intro k
  induction k with
  | zero =>
    intro i n A σ hD hC h hr hi hn hK
    obtain ⟨n, rfl⟩ : ∃ n', n = n' + 1 := ⟨n - 1, by omega⟩
    have : i = 8 := by omega
    subst this
    rw [wX0_ofRow_42_L4, if_pos (by decide)]
    exact hK σ h zsc.rf
  | succ k ih =>
    intro i n A σ hD hC h hr hi hn hK
    obtain ⟨n, rfl⟩ : ∃ n', n = n' + 1 := ⟨n - 1, by omega⟩
    rw [wX0_ofRow_42_L4, if_neg (show ¬ (8 : Int32) ≤ nI i from nI_ge (a := i) (b := 8) (by omega) (by omega)), p1_isThere h.2.1 h.1.1 (by omega), hD]
    have e1 : nI i + 1 = nI (i + 1) := nI_1 i
    by_cases c : zPr D i = true
    · rw [if_pos c, if_neg (by decide), p1_through_42 h.2.1 h.1.1 hr (by omega), hD]
      have hle : zthr D row i ≤ 24 := (zthr_le D row i 25 (D 2 i) (by have := (h.1.1.2.1 i (by omega)).2.1; rw [hD] at this; omega) (by have := (h.1.1.2.1 i (by omega)).2.1; rw [hD] at this; omega)).1
      refine x_ofOne h (by omega) hle _ (fun σ' hr' hs => ?_)
      simp only [forall_eq]
      rw [e1, nI_add, hD, hC]
      have es : zsum (fun i => if zPr D i = true then zcost D C i (zthr D row i) else 0) i + zcost D C i (zthr D row i) = zsum (fun i => if zPr D i = true then zcost D C i (zthr D row i) else 0) (i + 1) := by rw [zsum, if_pos c]
      rw [es]
      exact ih (i + 1) n A σ' hD hC hr' (fun m hm => by rw [hs _ (by decide) (by decide) (by decide)]; exact hr m hm) (by omega) (by omega) (fun σ'' h1 h2 => hK σ'' h1 (hs.tr h2))
    · rw [if_neg c, if_pos rfl]
      simp only [forall_eq]
      rw [e1]
      have es : zsum (fun i => if zPr D i = true then zcost D C i (zthr D row i) else 0) i = zsum (fun i => if zPr D i = true then zcost D C i (zthr D row i) else 0) (i + 1) := by rw [zsum, if_neg c, Nat.add_zero]
      rw [es]
      exact ih (i + 1) n A σ hD hC h hr (by omega) (by omega) hK
theorem x_ofRow_42_b {C : zCo} {D : zD} {row : Nat → Nat} (base : Nat) (Q : Int32 → zSt → Prop) (K : Int32 → zSt → Prop) : ∀ (k m n : Nat) (A : zA) (σ : zSt), A.1 = D → A.2.2.2.1.2 = C → RX A σ → zIsRow 42 row σ → m + k = 23 → k < n → (∀ σ', RX A σ' → zsc σ σ' → K (nI (base + zsum (fun k => if row (k + 1) = row k then 0 else zchg D C (k + 1) (row k) (row (k + 1))) 23)) σ') → wX0_ofRow_42_L46 Q K n (nI (base + zsum (fun k => if row (k + 1) = row k then 0 else zchg D C (k + 1) (row k) (row (k + 1))) m)) (nI (m + 1)) σ := by
  intro k
  induction k with
  | zero =>
    intro m n A σ hD hC h hr hi hn hK
    obtain ⟨n, rfl⟩ : ∃ n', n = n' + 1 := ⟨n - 1, by omega⟩
    have : m = 23 := by omega
    subst this
    rw [wX0_ofRow_42_L46, if_pos (by decide)]
    exact hK σ h zsc.rf
  | succ k ih =>
    intro m n A σ hD hC h hr hi hn hK
    obtain ⟨n, rfl⟩ : ∃ n', n = n' + 1 := ⟨n - 1, by omega⟩
    have hlt : ¬ (24 : Int32) ≤ nI (m + 1) := nI_ge (a := m + 1) (b := 24) (by omega) (by omega)
    have em : nI (m + 1) - 1 = nI m := by rw [show (1 : Int32) = nI 1 from rfl, pk_sub (by omega)]; rfl
    rw [wX0_ofRow_42_L46, if_neg hlt, if_neg hlt, em, zcl (by omega), zcl (by omega), (hr (m + 1) (by omega)).1, (hr m (by omega)).1]
    have hv1 : vp_in (nI (m + 1)) 24 := zin' (by omega) (by omega)
    have hv2 : vp_in (nI m) 24 := zin' (by omega) (by omega)
    have b1 := (hr (m + 1) (by omega)).2
    have b2 := (hr m (by omega)).2
    simp only [hv1, hv2, true_and, forall_eq]
    have e1 : nI (m + 1) + 1 = nI (m + 1 + 1) := nI_1 _
    by_cases c : row (m + 1) = row m
    · rw [if_pos (by rw [c]), e1]
      have es : zsum (fun k => if row (k + 1) = row k then 0 else zchg D C (k + 1) (row k) (row (k + 1))) m = zsum (fun k => if row (k + 1) = row k then 0 else zchg D C (k + 1) (row k) (row (k + 1))) (m + 1) := by rw [zsum, if_pos c, Nat.add_zero]
      rw [es]
      exact ih (m + 1) n A σ hD hC h hr (by omega) (by omega) hK
    · rw [if_neg (fun z => c ((nI_eq (by omega) (by omega)).mp z))]
      refine x_ofChange h (by omega) b2 b1 _ (fun σ' hr' hs => ?_)
      rw [e1, nI_add, hD, hC]
      have es : base + zsum (fun k => if row (k + 1) = row k then 0 else zchg D C (k + 1) (row k) (row (k + 1))) m + zchg D C (m + 1) (row m) (row (m + 1)) = base + zsum (fun k => if row (k + 1) = row k then 0 else zchg D C (k + 1) (row k) (row (k + 1))) (m + 1) := by rw [zsum, if_neg c]; omega
      rw [es]
      exact ih (m + 1) n A σ' hD hC hr' (fun m hm => by rw [hs _ (by decide) (by decide) (by decide)]; exact hr m hm) (by omega) (by omega) (fun σ'' h1 h2 => hK σ'' h1 (hs.tr h2))
theorem x_ofRow_42 {A : zA} {σ : zSt} (h : RX A σ) {row : Nat → Nat} (hr : zIsRow 42 row σ) (Q : Int32 → zSt → Prop) (hQ : ∀ σ', RX A σ' → zsc σ σ' → Q (nI (zrowc A.1 A.2.2.2.1.2 row)) σ') : wX0_ofRow_42 σ Q := by
  unfold wX0_ofRow_42
  refine x_ofRow_42_a (D := A.1) (C := A.2.2.2.1.2) (row := row) Q _ 8 0 300 A σ rfl rfl h hr (by omega) (by omega) (fun σ' h1 s1 => ?_)
  have hr' : zIsRow 42 row σ' := fun m hm => by rw [s1 _ (by decide) (by decide) (by decide)]; exact hr m hm
  exact x_ofRow_42_b (D := A.1) (C := A.2.2.2.1.2) (row := row) _ Q _ 23 0 300 A σ' rfl rfl h1 hr' (by omega) (by omega) (fun σ'' h2 s2 => hQ σ'' h2 (s1.tr s2))
