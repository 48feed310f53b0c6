theorem m_fourth {A : zA} {σ : zSt} (hi : zI A) (h : RM A σ) (b : Int32) (Q : Int32 → zSt → Prop) (hQ : ∀ σ', RM (s_fourth A b).2 σ' → Q (s_fourth A b).1 σ') : wX8_fourth b σ Q := by
  unfold wX8_fourth
  unfold s_fourth at hQ
  dsimp only at hQ
  rw [forall_eq, p8_i2]
  by_cases c1 : zr b 3 = true
  rotate_left
  · rw [if_neg c1] at hQ ⊢
    rw [if_pos rfl]; exact hQ σ h
  rw [if_pos c1] at hQ ⊢
  rw [if_neg (by decide)]
  obtain ⟨b, hb, rfl⟩ := zr_of (by omega) c1
  rw [zcl (by omega)] at hQ
  refine p8_takes hi h _ (fun σ0 hr0 e0 => ?_)
  have h0 := h.takes e0
  have L : ∀ (j k n : Nat) (σ1 : zSt), k + j = 4 → j < n → RM A σ1 → zIsRow 10 (A.1 0) σ1 → wX8_fourth_L23 Q (fun v119 σ120 => Q v119 σ120) (nI b) n (zf4 A.1 A.2.2.2.1.2 b k) (nI (4 + k)) σ1 := by
    intro j
    induction j with
    | zero =>
      intro k n σ1 h1 h2 hm hr
      obtain ⟨n, rfl⟩ : ∃ n', n = n' + 1 := ⟨n - 1, by omega⟩
      have : k = 4 := by omega
      subst this
      rw [wX8_fourth_L23, if_pos (by decide)]
      exact hQ σ1 hm
    | succ j ih =>
      intro k n σ1 h1 h2 hm hr
      obtain ⟨n, rfl⟩ : ∃ n', n = n' + 1 := ⟨n - 1, by omega⟩
      have h8 : 4 + k < 8 := by omega
      have hv : vp_in (nI (4 + k)) 8 := zin' h8 (by omega)
      have lb := (hi.1.2.1 (4 + k) h8).1
      have e1 : nI (4 + k) + 1 = nI (4 + (k + 1)) := nI_1 _
      rw [wX8_fourth_L23, if_neg (show ¬ (8 : Int32) ≤ nI (4 + k) from nI_ge (b := 8) h8 (by omega)), p8_isOne hm.1 hi.1 h8]
      have st := ih (k + 1) n
      rw [zf4] at st
      by_cases c2 : zPr A.1 (4 + k) = true
      · rw [if_pos c2, if_neg (by decide)]
        refine ⟨hv, ?_⟩
        rw [zcl (by omega), (hm.1.2.1 (4 + k) h8).1]
        by_cases c3 : A.1 1 (4 + k) = b
        · rw [if_pos (show nI (A.1 1 (4 + k)) = nI b by rw [c3]), p8_through hm.1 hi.1 hr h8]
          rw [if_pos ⟨c2, c3⟩] at st
          refine p8_costOf hi hm h8 _ (fun σ2 e2 => ?_)
          have hm2 := zmy.keep hm e2
          refine ⟨hv, ?_⟩
          rw [forall_eq, (hm2.1.2.1 (4 + k) h8).2.1]
          refine p8_costOf hi hm2 h8 _ (fun σ3 e3 => ?_)
          rw [forall_eq, forall_eq, e1]
          exact st σ3 (by omega) (by omega) (zmy.keep hm2 e3) (e3.row (e2.row hr))
        · rw [if_neg (show ¬ nI (A.1 1 (4 + k)) = nI b from fun z => c3 ((nI_eq (by omega) (by omega)).mp z)), forall_eq, e1]
          rw [if_neg (fun z => c3 z.2)] at st
          exact st σ1 (by omega) (by omega) hm hr
      · rw [if_neg c2, if_pos rfl, forall_eq, e1]
        rw [if_neg (fun z => c2 z.1)] at st
        exact st σ1 (by omega) (by omega) hm hr
  exact L 4 0 300 σ0 (by omega) (by omega) h0 hr0
theorem zor0 (x : Int32) (k : Int32) : x ||| ((0 : Int32) <<< (k &&& 31)) = x := by
  have e : (0 : Int32) <<< (k &&& 31) = 0 := by
    apply Int32.toBitVec_inj.mp
    simp
  rw [e]
  simp
theorem m_late {A : zA} {σ : zSt} (hi : zI A) (h : RM A σ) (x : Int32) (Q : Int32 → zSt → Prop) (hQ : ∀ σ', RM (s_late A x).2 σ' → Q (s_late A x).1 σ') : wX8_late x σ Q := by
  unfold wX8_late
  unfold s_late at hQ
  dsimp only at hQ
  rw [forall_eq, p8_i24]
  by_cases c1 : zr x 25 = true
  rotate_left
  · rw [if_neg c1] at hQ ⊢
    rw [if_pos rfl]; exact hQ σ h
  rw [if_pos c1] at hQ ⊢
  rw [if_neg (by decide)]
  obtain ⟨x, hx, rfl⟩ := zr_of (by omega) c1
  rw [zcl (by omega)] at hQ
  refine p8_takes hi h _ (fun σ0 hr e0 => ?_)
  have hm := h.takes e0
  have L : ∀ (j i n : Nat), i + j = 8 → j < n → wX8_late_L23 Q (fun v116 σ117 => Q v116 σ117) (nI x) n (zlt8 A.1 x i) (nI i) σ0 := by
    intro j
    induction j with
    | zero =>
      intro i n h1 h2
      obtain ⟨n, rfl⟩ : ∃ n', n = n' + 1 := ⟨n - 1, by omega⟩
      have : i = 8 := by omega
      subst this
      rw [wX8_late_L23, if_pos (by decide)]
      exact hQ σ0 hm
    | succ j ih =>
      intro i n h1 h2
      obtain ⟨n, rfl⟩ : ∃ n', n = n' + 1 := ⟨n - 1, by omega⟩
      have h8 : i < 8 := by omega
      have hv : vp_in (nI i) 8 := zin' h8 (by omega)
      have hb := (hi.1.2.1 i h8).2.1
      have tt := zthr_le A.1 (A.1 0) i 25 (A.1 2 i) (by omega) (by omega)
      have t1 : zthr A.1 (A.1 0) i ≤ 24 := tt.1
      have t2 : A.1 2 i ≤ zthr A.1 (A.1 0) i := tt.2
      rw [wX8_late_L23, if_neg (show ¬ (8 : Int32) ≤ nI i from nI_ge (b := 8) h8 (by omega)), p8_isOne hm.1 hi.1 h8]
      have st := ih (i + 1) n (by omega) (by omega)
      rw [zlt8] at st
      simp only [zor0, forall_eq, nI_1]
      by_cases c2 : zPr A.1 i = true
      · rw [if_pos c2, if_neg (by decide), p8_through hm.1 hi.1 hr h8]
        refine ⟨hv, ?_⟩
        rw [zcl (by omega), (hm.1.2.1 i h8).2.1, pk_sub t2]
        by_cases c3 : x < zthr A.1 (A.1 0) i - A.1 2 i
        · rw [if_pos ⟨c2, c3⟩] at st
          rw [if_neg (show ¬ nI (zthr A.1 (A.1 0) i - A.1 2 i) ≤ nI x from nI_ge c3 (by omega))]
          exact st
        · rw [if_neg (fun z => c3 z.2)] at st
          rw [if_pos (show nI (zthr A.1 (A.1 0) i - A.1 2 i) ≤ nI x from nI_le (by omega) (by omega))]
          exact st
      · rw [if_neg c2, if_pos rfl]
        rw [if_neg (fun z => c2 z.1)] at st
        exact st
  exact L 8 0 300 (by omega) (by omega)
theorem m_draw_L (seed : Int32) (Q K : zSt → Prop) : ∀ (k m n : Nat) (σ : zSt), m + k = 24 → k < n → (∀ j, j < m → σ.1 10 j = nI (zdr seed j)) → (∀ σ' : zSt, (∀ o, o ≠ 10 → σ'.1 o = σ.1 o) → zIsRow 10 (zdr seed) σ' → K σ') → wX8_draws_L4 Q K n (zzm seed m) (nI m) σ := by
  intro k
  induction k with
  | zero =>
    intro m n σ hm hn hr hK
    obtain ⟨n, rfl⟩ : ∃ n', n = n' + 1 := ⟨n - 1, by omega⟩
    have : m = 24 := by omega
    subst this
    rw [wX8_draws_L4, if_pos (by decide)]
    exact hK σ (fun _ _ => rfl) (fun j hj => ⟨hr j hj, zdr_lt _ _⟩)
  | succ k ih =>
    intro m n σ hm hn hr hK
    obtain ⟨n, rfl⟩ : ∃ n', n = n' + 1 := ⟨n - 1, by omega⟩
    have hv : vp_in (nI m) 24 := zin' (by omega) (by omega)
    rw [wX8_draws_L4, if_neg (show ¬ (24 : Int32) ≤ nI m from nI_ge (b := 24) (by omega) (by omega)), zcl (by omega)]
    intro x hx
    refine ⟨hv, ?_⟩
    simp only [forall_eq]
    rw [zdr_v, nI_1]
    have ex : x = zzm seed (m + 1) := hx
    rw [ex]
    refine ih (m + 1) n _ (by omega) (by omega) (fun j hj => ?_) (fun σ' h1 h2 => hK σ' (fun o ho => by rw [h1 o ho, zput_ne ho]) h2)
    by_cases z : j = m
    · subst z; rw [zput_at, if_pos ⟨rfl, rfl⟩]; rfl
    · rw [zput_at, if_neg (fun y => z y.2)]; exact hr j (by omega)
theorem p8_draws {A : zA} {σ : zSt} (h : RM A σ) (seed : Int32) (Q : zSt → Prop) (hQ : ∀ σ', RM A σ' → zIsRow 10 (zdr seed) σ' → Q σ') : wX8_draws seed σ Q := by
  unfold wX8_draws
  exact m_draw_L seed Q _ 24 0 300 σ (by omega) (by omega) (fun j hj => by omega) (fun σ' h1 h2 => hQ σ' (h.takes h1) h2)
theorem m_drawn {A : zA} {σ : zSt} (hi : zI A) (h : RM A σ) (seed : Int32) (Q : Int32 → zSt → Prop) (hQ : ∀ σ', RM (s_drawn A seed).2 σ' → Q (s_drawn A seed).1 σ') : wX8_drawn seed σ Q := by
  unfold wX8_drawn
  refine p8_draws h seed _ (fun σ1 h1 hr => ?_)
  exact p8_rowCost hi h1 hr _ (fun σ2 e2 => hQ σ2 (zmy.keep h1 e2))
