theorem cx_term_L {i : Nat} {T : Nat → Nat} {n K : Nat} (ho : cx_ok i n T K) {C : cx_C} {x1 : Int32} {f : Nat → tx_R} (Hf : cx_H i T n K (C 6 x1) f) (hf : tx_fw f) (σ0 : zSt) (S : List Int32) (Q : Int32 → zSt → Prop) (K40 K57 : zSt → Prop) : ∀ (g : Nat) (c : List Int32) (k m cx : Nat) (σ : zSt), 161 ≤ g + k → cx < k → 160 < m + cx → cx_R i T n K (S ++ c) k σ → (S ++ c).length ≤ k → cx_f i σ0 σ → ((tx_lp (tx_kd T n) tx_o1 f g c k).1 = true → ∀ σ', cx_R i T n K (S ++ (tx_lp (tx_kd T n) tx_o1 f g c k).2.1) (tx_lp (tx_kd T n) tx_o1 f g c k).2.2 σ' → cx_f i σ0 σ' → K57 σ') → (¬ (tx_lp (tx_kd T n) tx_o1 f g c k).1 = true → ∀ σ' : zSt, σ'.1 19 7 = nI (tx_tk T n (tx_lp (tx_kd T n) tx_o1 f g c k).2.2).2.1 → cx_f i σ0 σ' → K40 σ') → wX3_term_L12 C Q K40 K57 x1 m (nI cx) σ := by
  have hi := ho.1
  have hv : vp_in (nI i) 6 := zin' hi (by omega)
  have hK := ho.2.2.2.1
  intro g
  induction g with
  | zero =>
    intro c k m cx σ hg hc hm h hl e hok hbad
    have := h.2.1
    omega
  | succ g ih =>
    intro c k m cx σ hg hc hm h hl e hok hbad
    have hkK := h.2.1
    obtain ⟨m, rfl⟩ : ∃ m', m = m' + 1 := ⟨m - 1, by omega⟩
    have q42 : (σ.1 19 5 = 42) ↔ _ := cx_tk ho h (s := 42) (by omega)
    rw [tx_lp] at hok hbad
    rw [wX3_term_L12, if_neg (show ¬ (160 : Int32) ≤ nI cx from nI_ge (b := 160) (by omega) (by omega))]
    by_cases c42 : tx_kd T n k = 42
    · rw [if_pos (q42.mpr c42)]
      have o0 : tx_o1 (tx_kd T n k) = -11 := by rw [c42]; rfl
      rw [o0, if_neg (by decide)] at hok hbad
      refine cx_adv ho h (by omega) _ (fun σ1 h1 e1 => ?_)
      refine Hf (k + 1) σ1 (S ++ c) _ h1 (by omega) ⟨fun o1 σ2 h2 e2 => ?_, fun o1 σ2 h2 e2 => ?_⟩
      · rw [if_pos o1] at hok hbad
        rw [if_neg (by decide), show σ2.1 19 8 = nI i from h2.2.2.2.2.2.2.1]
        refine ⟨hv, ?_⟩
        rw [zcl (by omega)]
        have w := hf (k + 1) o1
        have w2 := h2.2.1
        refine cx_put ho h2 (by rw [List.length_append]; omega) _ _ (fun σ3 h3 e3 => ?_)
        rw [forall_eq, nI_1]
        have ea : S ++ c ++ (f (k + 1)).2.1 ++ [-11] = S ++ (c ++ (f (k + 1)).2.1 ++ [-11]) := by simp [List.append_assoc]
        rw [ea] at h3
        refine ih _ _ m (cx + 1) σ3 (by omega) (by omega) (by omega) h3 (by rw [← ea, List.length_append, List.length_append]; show _ + _ + 1 ≤ _; omega) (((e.tr e1).tr e2).tr e3) hok hbad
      · rw [if_neg o1] at hbad
        rw [if_pos rfl]
        exact hbad (by simp) σ2 h2 ((e.tr e1).tr e2)
    · have o0 : tx_o1 (tx_kd T n k) = 0 := by unfold tx_o1; rw [if_neg c42]
      rw [if_pos o0] at hok
      rw [if_neg (fun z => c42 (q42.mp z))]
      exact hok rfl σ h e
theorem cx_term {i : Nat} {T : Nat → Nat} {n K : Nat} (ho : cx_ok i n T K) {C : cx_C} {x1 : Int32} {f : Nat → tx_R} (Hf : cx_H i T n K (C 6 x1) f) (hf : tx_fw f) : cx_H i T n K (wX3_term_b C x1) (tx_ch (tx_kd T n) tx_o1 f) := by
  intro k σ S Q h hS ht
  unfold wX3_term_b
  unfold tx_ch at ht
  refine Hf k σ S _ h hS ⟨fun o1 σ2 h2 e2 => ?_, fun o1 σ2 h2 e2 => ?_⟩
  · rw [if_pos o1] at ht
    rw [if_neg (by decide)]
    have w := hf k o1
    exact cx_term_L ho Hf hf σ S Q _ _ 200 (f k).2.1 (f k).2.2 300 0 σ2 (by omega) (by omega) (by omega) h2 (by rw [List.length_append]; omega) e2 (fun a => ht.1 a) (fun a => ht.2 a)
  · rw [if_neg o1] at ht
    rw [if_pos rfl]
    exact ht.2 (by simp) σ2 h2 e2
theorem cx_sum_L {i : Nat} {T : Nat → Nat} {n K : Nat} (ho : cx_ok i n T K) {C : cx_C} {x1 : Int32} {f : Nat → tx_R} (Hf : cx_H i T n K (C 5 x1) f) (hf : tx_fw f) (σ0 : zSt) (S : List Int32) (Q : Int32 → zSt → Prop) (K40 K57 : zSt → Prop) : ∀ (g : Nat) (c : List Int32) (k m cx : Nat) (σ : zSt), 161 ≤ g + k → cx < k → 160 < m + cx → cx_R i T n K (S ++ c) k σ → (S ++ c).length ≤ k → cx_f i σ0 σ → ((tx_lp (tx_kd T n) tx_o2 f g c k).1 = true → ∀ σ', cx_R i T n K (S ++ (tx_lp (tx_kd T n) tx_o2 f g c k).2.1) (tx_lp (tx_kd T n) tx_o2 f g c k).2.2 σ' → cx_f i σ0 σ' → K57 σ') → (¬ (tx_lp (tx_kd T n) tx_o2 f g c k).1 = true → ∀ σ' : zSt, σ'.1 19 7 = nI (tx_tk T n (tx_lp (tx_kd T n) tx_o2 f g c k).2.2).2.1 → cx_f i σ0 σ' → K40 σ') → wX3_sum_L12 C Q K40 K57 x1 m (nI cx) σ := by
  have hi := ho.1
  have hv : vp_in (nI i) 6 := zin' hi (by omega)
  have hK := ho.2.2.2.1
  intro g
  induction g with
  | zero =>
    intro c k m cx σ hg hc hm h hl e hok hbad
    have := h.2.1
    omega
  | succ g ih =>
    intro c k m cx σ hg hc hm h hl e hok hbad
    have hkK := h.2.1
    obtain ⟨m, rfl⟩ : ∃ m', m = m' + 1 := ⟨m - 1, by omega⟩
    have q43 : (σ.1 19 5 = 43) ↔ _ := cx_tk ho h (s := 43) (by omega)
    have q45 : (σ.1 19 5 = 45) ↔ _ := cx_tk ho h (s := 45) (by omega)
    rw [tx_lp] at hok hbad
    rw [wX3_sum_L12, if_neg (show ¬ (160 : Int32) ≤ nI cx from nI_ge (b := 160) (by omega) (by omega))]
    by_cases c43 : tx_kd T n k = 43
    · rw [if_pos (q43.mpr c43), if_pos (q43.mpr c43)]
      have o0 : tx_o2 (tx_kd T n k) = -9 := by rw [c43]; rfl
      rw [o0, if_neg (by decide)] at hok hbad
      refine cx_adv ho h (by omega) _ (fun σ1 h1 e1 => ?_)
      refine Hf (k + 1) σ1 (S ++ c) _ h1 (by omega) ⟨fun o1 σ2 h2 e2 => ?_, fun o1 σ2 h2 e2 => ?_⟩
      · rw [if_pos o1] at hok hbad
        rw [if_neg (by decide), show σ2.1 19 8 = nI i from h2.2.2.2.2.2.2.1]
        refine ⟨hv, ?_⟩
        rw [zcl (by omega)]
        have w := hf (k + 1) o1
        have w2 := h2.2.1
        refine cx_put ho h2 (by rw [List.length_append]; omega) _ _ (fun σ3 h3 e3 => ?_)
        rw [forall_eq, nI_1]
        have ea : S ++ c ++ (f (k + 1)).2.1 ++ [-9] = S ++ (c ++ (f (k + 1)).2.1 ++ [-9]) := by simp [List.append_assoc]
        rw [ea] at h3
        refine ih _ _ m (cx + 1) σ3 (by omega) (by omega) (by omega) h3 (by rw [← ea, List.length_append, List.length_append]; show _ + _ + 1 ≤ _; omega) (((e.tr e1).tr e2).tr e3) hok hbad
      · rw [if_neg o1] at hbad
        rw [if_pos rfl]
        exact hbad (by simp) σ2 h2 ((e.tr e1).tr e2)
    rw [if_neg (fun z => c43 (q43.mp z))]
    by_cases c45 : tx_kd T n k = 45
    · rw [if_pos (q45.mpr c45), if_neg (fun z => c43 (q43.mp z))]
      have o0 : tx_o2 (tx_kd T n k) = -10 := by rw [c45]; rfl
      rw [o0, if_neg (by decide)] at hok hbad
      refine cx_adv ho h (by omega) _ (fun σ1 h1 e1 => ?_)
      refine Hf (k + 1) σ1 (S ++ c) _ h1 (by omega) ⟨fun o1 σ2 h2 e2 => ?_, fun o1 σ2 h2 e2 => ?_⟩
      · rw [if_pos o1] at hok hbad
        rw [if_neg (by decide), show σ2.1 19 8 = nI i from h2.2.2.2.2.2.2.1]
        refine ⟨hv, ?_⟩
        rw [zcl (by omega)]
        have w := hf (k + 1) o1
        have w2 := h2.2.1
        refine cx_put ho h2 (by rw [List.length_append]; omega) _ _ (fun σ3 h3 e3 => ?_)
        rw [forall_eq, nI_1]
        have ea : S ++ c ++ (f (k + 1)).2.1 ++ [-10] = S ++ (c ++ (f (k + 1)).2.1 ++ [-10]) := by simp [List.append_assoc]
        rw [ea] at h3
        refine ih _ _ m (cx + 1) σ3 (by omega) (by omega) (by omega) h3 (by rw [← ea, List.length_append, List.length_append]; show _ + _ + 1 ≤ _; omega) (((e.tr e1).tr e2).tr e3) hok hbad
      · rw [if_neg o1] at hbad
        rw [if_pos rfl]
        exact hbad (by simp) σ2 h2 ((e.tr e1).tr e2)
    have o0 : tx_o2 (tx_kd T n k) = 0 := by unfold tx_o2; rw [if_neg c43, if_neg c45]
    rw [if_pos o0] at hok
    rw [if_neg (fun z => c45 (q45.mp z))]
    exact hok rfl σ h e
theorem cx_sum {i : Nat} {T : Nat → Nat} {n K : Nat} (ho : cx_ok i n T K) {C : cx_C} {x1 : Int32} {f : Nat → tx_R} (Hf : cx_H i T n K (C 5 x1) f) (hf : tx_fw f) : cx_H i T n K (wX3_sum_b C x1) (tx_ch (tx_kd T n) tx_o2 f) := by
  intro k σ S Q h hS ht
  unfold wX3_sum_b
  unfold tx_ch at ht
  refine Hf k σ S _ h hS ⟨fun o1 σ2 h2 e2 => ?_, fun o1 σ2 h2 e2 => ?_⟩
  · rw [if_pos o1] at ht
    rw [if_neg (by decide)]
    have w := hf k o1
    exact cx_sum_L ho Hf hf σ S Q _ _ 200 (f k).2.1 (f k).2.2 300 0 σ2 (by omega) (by omega) (by omega) h2 (by rw [List.length_append]; omega) e2 (fun a => ht.1 a) (fun a => ht.2 a)
  · rw [if_neg o1] at ht
    rw [if_pos rfl]
    exact ht.2 (by simp) σ2 h2 e2
theorem cx_both_L {i : Nat} {T : Nat → Nat} {n K : Nat} (ho : cx_ok i n T K) {C : cx_C} {x1 : Int32} {f : Nat → tx_R} (Hf : cx_H i T n K (C 2 x1) f) (hf : tx_fw f) (σ0 : zSt) (S : List Int32) (Q : Int32 → zSt → Prop) (K40 K57 : zSt → Prop) : ∀ (g : Nat) (c : List Int32) (k m cx : Nat) (σ : zSt), 161 ≤ g + k → cx < k → 160 < m + cx → cx_R i T n K (S ++ c) k σ → (S ++ c).length ≤ k → cx_f i σ0 σ → ((tx_lp (tx_kd T n) tx_o4 f g c k).1 = true → ∀ σ', cx_R i T n K (S ++ (tx_lp (tx_kd T n) tx_o4 f g c k).2.1) (tx_lp (tx_kd T n) tx_o4 f g c k).2.2 σ' → cx_f i σ0 σ' → K57 σ') → (¬ (tx_lp (tx_kd T n) tx_o4 f g c k).1 = true → ∀ σ' : zSt, σ'.1 19 7 = nI (tx_tk T n (tx_lp (tx_kd T n) tx_o4 f g c k).2.2).2.1 → cx_f i σ0 σ' → K40 σ') → wX3_both_L12 C Q K40 K57 x1 m (nI cx) σ := by
  have hi := ho.1
  have hv : vp_in (nI i) 6 := zin' hi (by omega)
  have hK := ho.2.2.2.1
  intro g
  induction g with
  | zero =>
    intro c k m cx σ hg hc hm h hl e hok hbad
    have := h.2.1
    omega
  | succ g ih =>
    intro c k m cx σ hg hc hm h hl e hok hbad
    have hkK := h.2.1
    obtain ⟨m, rfl⟩ : ∃ m', m = m' + 1 := ⟨m - 1, by omega⟩
    have q8 : (σ.1 19 5 = 8) ↔ _ := cx_tk ho h (s := 8) (by omega)
    rw [tx_lp] at hok hbad
    rw [wX3_both_L12, if_neg (show ¬ (160 : Int32) ≤ nI cx from nI_ge (b := 160) (by omega) (by omega))]
    by_cases c8 : tx_kd T n k = 8
    · rw [if_pos (q8.mpr c8)]
      have o0 : tx_o4 (tx_kd T n k) = -14 := by rw [c8]; rfl
      rw [o0, if_neg (by decide)] at hok hbad
      refine cx_adv ho h (by omega) _ (fun σ1 h1 e1 => ?_)
      refine Hf (k + 1) σ1 (S ++ c) _ h1 (by omega) ⟨fun o1 σ2 h2 e2 => ?_, fun o1 σ2 h2 e2 => ?_⟩
      · rw [if_pos o1] at hok hbad
        rw [if_neg (by decide), show σ2.1 19 8 = nI i from h2.2.2.2.2.2.2.1]
        refine ⟨hv, ?_⟩
        rw [zcl (by omega)]
        have w := hf (k + 1) o1
        have w2 := h2.2.1
        refine cx_put ho h2 (by rw [List.length_append]; omega) _ _ (fun σ3 h3 e3 => ?_)
        rw [forall_eq, nI_1]
        have ea : S ++ c ++ (f (k + 1)).2.1 ++ [-14] = S ++ (c ++ (f (k + 1)).2.1 ++ [-14]) := by simp [List.append_assoc]
        rw [ea] at h3
        refine ih _ _ m (cx + 1) σ3 (by omega) (by omega) (by omega) h3 (by rw [← ea, List.length_append, List.length_append]; show _ + _ + 1 ≤ _; omega) (((e.tr e1).tr e2).tr e3) hok hbad
      · rw [if_neg o1] at hbad
        rw [if_pos rfl]
        exact hbad (by simp) σ2 h2 ((e.tr e1).tr e2)
    · have o0 : tx_o4 (tx_kd T n k) = 0 := by unfold tx_o4; rw [if_neg c8]
      rw [if_pos o0] at hok
      rw [if_neg (fun z => c8 (q8.mp z))]
      exact hok rfl σ h e
theorem cx_both {i : Nat} {T : Nat → Nat} {n K : Nat} (ho : cx_ok i n T K) {C : cx_C} {x1 : Int32} {f : Nat → tx_R} (Hf : cx_H i T n K (C 2 x1) f) (hf : tx_fw f) : cx_H i T n K (wX3_both_b C x1) (tx_ch (tx_kd T n) tx_o4 f) := by
  intro k σ S Q h hS ht
  unfold wX3_both_b
  unfold tx_ch at ht
  refine Hf k σ S _ h hS ⟨fun o1 σ2 h2 e2 => ?_, fun o1 σ2 h2 e2 => ?_⟩
  · rw [if_pos o1] at ht
    rw [if_neg (by decide)]
    have w := hf k o1
    exact cx_both_L ho Hf hf σ S Q _ _ 200 (f k).2.1 (f k).2.2 300 0 σ2 (by omega) (by omega) (by omega) h2 (by rw [List.length_append]; omega) e2 (fun a => ht.1 a) (fun a => ht.2 a)
  · rw [if_neg o1] at ht
    rw [if_pos rfl]
    exact ht.2 (by simp) σ2 h2 e2
theorem cx_either_L {i : Nat} {T : Nat → Nat} {n K : Nat} (ho : cx_ok i n T K) {C : cx_C} {x1 : Int32} {f : Nat → tx_R} (Hf : cx_H i T n K (C 1 x1) f) (hf : tx_fw f) (σ0 : zSt) (S : List Int32) (Q : Int32 → zSt → Prop) (K40 K57 : zSt → Prop) : ∀ (g : Nat) (c : List Int32) (k m cx : Nat) (σ : zSt), 161 ≤ g + k → cx < k → 160 < m + cx → cx_R i T n K (S ++ c) k σ → (S ++ c).length ≤ k → cx_f i σ0 σ → ((tx_lp (tx_kd T n) tx_o5 f g c k).1 = true → ∀ σ', cx_R i T n K (S ++ (tx_lp (tx_kd T n) tx_o5 f g c k).2.1) (tx_lp (tx_kd T n) tx_o5 f g c k).2.2 σ' → cx_f i σ0 σ' → K57 σ') → (¬ (tx_lp (tx_kd T n) tx_o5 f g c k).1 = true → ∀ σ' : zSt, σ'.1 19 7 = nI (tx_tk T n (tx_lp (tx_kd T n) tx_o5 f g c k).2.2).2.1 → cx_f i σ0 σ' → K40 σ') → wX3_either_L12 C Q K40 K57 x1 m (nI cx) σ := by
  have hi := ho.1
  have hv : vp_in (nI i) 6 := zin' hi (by omega)
  have hK := ho.2.2.2.1
  intro g
  induction g with
  | zero =>
    intro c k m cx σ hg hc hm h hl e hok hbad
    have := h.2.1
    omega
  | succ g ih =>
    intro c k m cx σ hg hc hm h hl e hok hbad
    have hkK := h.2.1
    obtain ⟨m, rfl⟩ : ∃ m', m = m' + 1 := ⟨m - 1, by omega⟩
    have q7 : (σ.1 19 5 = 7) ↔ _ := cx_tk ho h (s := 7) (by omega)
    rw [tx_lp] at hok hbad
    rw [wX3_either_L12, if_neg (show ¬ (160 : Int32) ≤ nI cx from nI_ge (b := 160) (by omega) (by omega))]
    by_cases c7 : tx_kd T n k = 7
    · rw [if_pos (q7.mpr c7)]
      have o0 : tx_o5 (tx_kd T n k) = -15 := by rw [c7]; rfl
      rw [o0, if_neg (by decide)] at hok hbad
      refine cx_adv ho h (by omega) _ (fun σ1 h1 e1 => ?_)
      refine Hf (k + 1) σ1 (S ++ c) _ h1 (by omega) ⟨fun o1 σ2 h2 e2 => ?_, fun o1 σ2 h2 e2 => ?_⟩
      · rw [if_pos o1] at hok hbad
        rw [if_neg (by decide), show σ2.1 19 8 = nI i from h2.2.2.2.2.2.2.1]
        refine ⟨hv, ?_⟩
        rw [zcl (by omega)]
        have w := hf (k + 1) o1
        have w2 := h2.2.1
        refine cx_put ho h2 (by rw [List.length_append]; omega) _ _ (fun σ3 h3 e3 => ?_)
        rw [forall_eq, nI_1]
        have ea : S ++ c ++ (f (k + 1)).2.1 ++ [-15] = S ++ (c ++ (f (k + 1)).2.1 ++ [-15]) := by simp [List.append_assoc]
        rw [ea] at h3
        refine ih _ _ m (cx + 1) σ3 (by omega) (by omega) (by omega) h3 (by rw [← ea, List.length_append, List.length_append]; show _ + _ + 1 ≤ _; omega) (((e.tr e1).tr e2).tr e3) hok hbad
      · rw [if_neg o1] at hbad
        rw [if_pos rfl]
        exact hbad (by simp) σ2 h2 ((e.tr e1).tr e2)
    · have o0 : tx_o5 (tx_kd T n k) = 0 := by unfold tx_o5; rw [if_neg c7]
      rw [if_pos o0] at hok
      rw [if_neg (fun z => c7 (q7.mp z))]
      exact hok rfl σ h e
theorem cx_either {i : Nat} {T : Nat → Nat} {n K : Nat} (ho : cx_ok i n T K) {C : cx_C} {x1 : Int32} {f : Nat → tx_R} (Hf : cx_H i T n K (C 1 x1) f) (hf : tx_fw f) : cx_H i T n K (wX3_either_b C x1) (tx_ch (tx_kd T n) tx_o5 f) := by
  intro k σ S Q h hS ht
  unfold wX3_either_b
  unfold tx_ch at ht
  refine Hf k σ S _ h hS ⟨fun o1 σ2 h2 e2 => ?_, fun o1 σ2 h2 e2 => ?_⟩
  · rw [if_pos o1] at ht
    rw [if_neg (by decide)]
    have w := hf k o1
    exact cx_either_L ho Hf hf σ S Q _ _ 200 (f k).2.1 (f k).2.2 300 0 σ2 (by omega) (by omega) (by omega) h2 (by rw [List.length_append]; omega) e2 (fun a => ht.1 a) (fun a => ht.2 a)
  · rw [if_neg o1] at ht
    rw [if_pos rfl]
    exact ht.2 (by simp) σ2 h2 e2
theorem cx_cmp {i : Nat} {T : Nat → Nat} {n K : Nat} (ho : cx_ok i n T K) {C : cx_C} {x1 : Int32} {f : Nat → tx_R} (Hf : cx_H i T n K (C 4 x1) f) (hf : tx_fw f) : cx_H i T n K (wX3_comparison_b C x1) (tx_cm (tx_kd T n) f) := by
  intro k σ S Q h hS ht
  have hi := ho.1
  have hv : vp_in (nI i) 6 := zin' hi (by omega)
  have hK := ho.2.2.2.1
  unfold wX3_comparison_b
  unfold tx_cm at ht
  refine Hf k σ S _ h hS ⟨fun o1 σ2 h2 e2 => ?_, fun o1 σ2 h2 e2 => ?_⟩
  rotate_left
  · rw [if_neg o1] at ht
    rw [if_pos rfl]
    exact ht.2 (by simp) σ2 h2 e2
  rw [if_pos o1] at ht
  rw [if_neg (by decide)]
  have w := hf k o1
  have q60 : (σ2.1 19 5 = 60) ↔ _ := cx_tk ho h2 (s := 60) (by omega)
  have q61 : (σ2.1 19 5 = 61) ↔ _ := cx_tk ho h2 (s := 61) (by omega)
  by_cases c60 : tx_kd T n (f k).2.2 = 60
  · rw [if_pos (q60.mpr c60), if_pos (q60.mpr c60)]
    have o0 : tx_o3 (tx_kd T n (f k).2.2) = -12 := by rw [c60]; rfl
    rw [o0, if_neg (by decide)] at ht
    refine cx_adv ho h2 (by omega) _ (fun σ3 h3 e3 => ?_)
    refine Hf ((f k).2.2 + 1) σ3 (S ++ (f k).2.1) _ h3 (by rw [List.length_append]; omega) ⟨fun o2 σ4 h4 e4 => ?_, fun o2 σ4 h4 e4 => ?_⟩
    · rw [if_pos o2] at ht
      rw [if_neg (by decide), show σ4.1 19 8 = nI i from h4.2.2.2.2.2.2.1]
      refine ⟨hv, ?_⟩
      rw [zcl (by omega)]
      have w3 := hf _ o2
      have w4 := h4.2.1
      refine cx_put ho h4 (by rw [List.length_append, List.length_append]; omega) _ _ (fun σ5 h5 e5 => ?_)
      have ea : S ++ (f k).2.1 ++ (f ((f k).2.2 + 1)).2.1 ++ [-12] = S ++ ((f k).2.1 ++ (f ((f k).2.2 + 1)).2.1 ++ [-12]) := by simp [List.append_assoc]
      rw [ea] at h5
      exact ht.1 rfl σ5 h5 (((e2.tr e3).tr e4).tr e5)
    · rw [if_neg o2] at ht
      rw [if_pos rfl]
      exact ht.2 (by simp) σ4 h4 ((e2.tr e3).tr e4)
  rw [if_neg (fun z => c60 (q60.mp z))]
  by_cases c61 : tx_kd T n (f k).2.2 = 61
  · rw [if_pos (q61.mpr c61), if_neg (fun z => c60 (q60.mp z))]
    have o0 : tx_o3 (tx_kd T n (f k).2.2) = -13 := by rw [c61]; rfl
    rw [o0, if_neg (by decide)] at ht
    refine cx_adv ho h2 (by omega) _ (fun σ3 h3 e3 => ?_)
    refine Hf ((f k).2.2 + 1) σ3 (S ++ (f k).2.1) _ h3 (by rw [List.length_append]; omega) ⟨fun o2 σ4 h4 e4 => ?_, fun o2 σ4 h4 e4 => ?_⟩
    · rw [if_pos o2] at ht
      rw [if_neg (by decide), show σ4.1 19 8 = nI i from h4.2.2.2.2.2.2.1]
      refine ⟨hv, ?_⟩
      rw [zcl (by omega)]
      have w3 := hf _ o2
      have w4 := h4.2.1
      refine cx_put ho h4 (by rw [List.length_append, List.length_append]; omega) _ _ (fun σ5 h5 e5 => ?_)
      have ea : S ++ (f k).2.1 ++ (f ((f k).2.2 + 1)).2.1 ++ [-13] = S ++ ((f k).2.1 ++ (f ((f k).2.2 + 1)).2.1 ++ [-13]) := by simp [List.append_assoc]
      rw [ea] at h5
      exact ht.1 rfl σ5 h5 (((e2.tr e3).tr e4).tr e5)
    · rw [if_neg o2] at ht
      rw [if_pos rfl]
      exact ht.2 (by simp) σ4 h4 ((e2.tr e3).tr e4)
  have o0 : tx_o3 (tx_kd T n (f k).2.2) = 0 := by unfold tx_o3; rw [if_neg c60, if_neg c61]
  rw [if_pos o0] at ht
  rw [if_neg (fun z => c61 (q61.mp z))]
  exact ht.1 rfl σ2 h2 e2
theorem cx_not {i : Nat} {T : Nat → Nat} {n K : Nat} (ho : cx_ok i n T K) {C : cx_C} {lev d : Nat} (hl : lev + d = 5) {N f : Nat → tx_R} (HN : d ≠ 0 → cx_H i T n K (C 2 (nI (lev + 1))) N) (hN : tx_fw N) (Hf : cx_H i T n K (C 3 (nI lev)) f) : cx_H i T n K (wX3_maybeNot_b C (nI lev)) (tx_nt (tx_kd T n) d N f) := by
  intro k σ S Q h hS ht
  have hi := ho.1
  have hv : vp_in (nI i) 6 := zin' hi (by omega)
  have hK := ho.2.2.2.1
  have q9 : (σ.1 19 5 = 9) ↔ _ := cx_tk ho h (s := 9) (by omega)
  unfold wX3_maybeNot_b
  unfold tx_nt at ht
  by_cases c9 : tx_kd T n k = 9
  · rw [if_pos c9] at ht
    rw [if_pos (q9.mpr c9)]
    by_cases d0 : d = 0
    · rw [if_pos d0] at ht
      rw [if_neg (show ¬ nI lev < (5 : Int32) from nI_nlt (b := 5) (by omega) (by omega))]
      exact ht.2 (by simp) σ h.2.2.2.2.2.1 (cx_f.rf i σ)
    rw [if_neg d0] at ht
    rw [if_pos (show nI lev < (5 : Int32) from nI_lt (b := 5) (by omega) (by omega))]
    refine cx_adv ho h (by omega) _ (fun σ1 h1 e1 => ?_)
    rw [forall_eq, nI_1]
    refine HN d0 (k + 1) σ1 S _ h1 (by omega) ⟨fun o1 σ2 h2 e2 => ?_, fun o1 σ2 h2 e2 => ?_⟩
    · rw [if_pos o1] at ht
      rw [if_neg (by decide), show σ2.1 19 8 = nI i from h2.2.2.2.2.2.2.1]
      refine ⟨hv, ?_⟩
      rw [zcl (by omega)]
      have w := hN (k + 1) o1
      have w2 := h2.2.1
      refine cx_put ho h2 (by rw [List.length_append]; omega) _ _ (fun σ3 h3 e3 => ?_)
      rw [List.append_assoc] at h3
      exact ht.1 rfl σ3 h3 ((e1.tr e2).tr e3)
    · rw [if_neg o1] at ht
      rw [if_pos rfl]
      exact ht.2 (by simp) σ2 h2 (e1.tr e2)
  · rw [if_neg c9] at ht
    rw [if_neg (fun z => c9 (q9.mp z))]
    exact Hf k σ S _ h hS ⟨fun o1 σ2 h2 e2 => ⟨Or.inr rfl, ht.1 o1 σ2 h2 e2⟩, fun o1 σ2 h2 e2 => ⟨Or.inl rfl, ht.2 o1 σ2 h2 e2⟩⟩
theorem cx_all {i : Nat} {T : Nat → Nat} {n K : Nat} (ho : cx_ok i n T K) : ∀ (d lev : Nat), lev + d = 5 → ∀ m, 7 * d ≤ m → cx_H i T n K (wX3_rec (m + 7) 0 (nI lev)) (tx_lev (tx_kd T n) (tx_vl T n) d).1 ∧ cx_H i T n K (wX3_rec (m + 5) 2 (nI lev)) (tx_lev (tx_kd T n) (tx_vl T n) d).2.1 ∧ cx_H i T n K (wX3_rec (m + 1) 6 (nI lev)) (tx_lev (tx_kd T n) (tx_vl T n) d).2.2 := by
  have step : ∀ (d lev m : Nat) (P : tx_P), lev + d = 5 → (tx_fw P.1 ∧ tx_fw P.2.1 ∧ tx_fw P.2.2) → (∀ m', m ≤ m' → d ≠ 0 → cx_H i T n K (wX3_rec m' 0 (nI (lev + 1))) P.1 ∧ cx_H i T n K (wX3_rec m' 2 (nI (lev + 1))) P.2.1 ∧ cx_H i T n K (wX3_rec m' 6 (nI (lev + 1))) P.2.2) → cx_H i T n K (wX3_rec (m + 7) 0 (nI lev)) (tx_mk (tx_kd T n) (tx_vl T n) d P).1 ∧ cx_H i T n K (wX3_rec (m + 5) 2 (nI lev)) (tx_mk (tx_kd T n) (tx_vl T n) d P).2.1 ∧ cx_H i T n K (wX3_rec (m + 1) 6 (nI lev)) (tx_mk (tx_kd T n) (tx_vl T n) d P).2.2 := by
    intro d lev m P hl hfw HP
    have hmk := tx_mk_fw (kd := tx_kd T n) (vl := tx_vl T n) (d := d) hfw
    have H1 : cx_H i T n K (wX3_rec (m + 1) 6 (nI lev)) (tx_one (tx_kd T n) (tx_vl T n) d P) := fun k σ S Q h hS ht => by
      rw [wX3_rec, if_neg (by decide), if_neg (by decide), if_neg (by decide), if_neg (by decide), if_neg (by decide), if_neg (by decide)]
      exact cx_one ho hl (fun d0 => (HP m (Nat.le_refl _) d0).1) (fun d0 => (HP m (Nat.le_refl _) d0).2.2) hfw.2.2 k σ S Q h hS ht
    have H2 : cx_H i T n K (wX3_rec (m + 2) 5 (nI lev)) (tx_ch (tx_kd T n) tx_o1 (tx_one (tx_kd T n) (tx_vl T n) d P)) := fun k σ S Q h hS ht => by
      rw [wX3_rec, if_neg (by decide), if_neg (by decide), if_neg (by decide), if_neg (by decide), if_neg (by decide), if_pos rfl]
      exact cx_term ho H1 hmk.2.2 k σ S Q h hS ht
    have H3 : cx_H i T n K (wX3_rec (m + 3) 4 (nI lev)) (tx_ch (tx_kd T n) tx_o2 (tx_ch (tx_kd T n) tx_o1 (tx_one (tx_kd T n) (tx_vl T n) d P))) := fun k σ S Q h hS ht => by
      rw [wX3_rec, if_neg (by decide), if_neg (by decide), if_neg (by decide), if_neg (by decide), if_pos rfl]
      exact cx_sum ho H2 (tx_ch_fw hmk.2.2) k σ S Q h hS ht
    have H4 : cx_H i T n K (wX3_rec (m + 4) 3 (nI lev)) (tx_cm (tx_kd T n) (tx_ch (tx_kd T n) tx_o2 (tx_ch (tx_kd T n) tx_o1 (tx_one (tx_kd T n) (tx_vl T n) d P)))) := fun k σ S Q h hS ht => by
      rw [wX3_rec, if_neg (by decide), if_neg (by decide), if_neg (by decide), if_pos rfl]
      exact cx_cmp ho H3 (tx_ch_fw (tx_ch_fw hmk.2.2)) k σ S Q h hS ht
    have H5 : cx_H i T n K (wX3_rec (m + 5) 2 (nI lev)) (tx_mk (tx_kd T n) (tx_vl T n) d P).2.1 := fun k σ S Q h hS ht => by
      rw [wX3_rec, if_neg (by decide), if_neg (by decide), if_pos rfl]
      exact cx_not ho hl (fun d0 => (HP (m + 4) (by omega) d0).2.1) hfw.2.1 H4 k σ S Q h hS ht
    have H6 : cx_H i T n K (wX3_rec (m + 6) 1 (nI lev)) (tx_ch (tx_kd T n) tx_o4 (tx_mk (tx_kd T n) (tx_vl T n) d P).2.1) := fun k σ S Q h hS ht => by
      rw [wX3_rec, if_neg (by decide), if_pos rfl]
      exact cx_both ho H5 hmk.2.1 k σ S Q h hS ht
    refine ⟨fun k σ S Q h hS ht => ?_, H5, H1⟩
    rw [wX3_rec, if_pos rfl]
    exact cx_either ho H6 (tx_ch_fw hmk.2.1) k σ S Q h hS ht
  intro d
  induction d with
  | zero =>
    intro lev hl m hm
    refine step 0 lev m _ hl ⟨?_, ?_, ?_⟩ (fun m' _ d0 => absurd rfl d0) <;> intro k h <;> exact absurd h (by simp)
  | succ d ih =>
    intro lev hl m hm
    refine step (d + 1) lev m (tx_lev (tx_kd T n) (tx_vl T n) d) hl (tx_lev_fw _ _ d) (fun m' hm' _ => ?_)
    have a := fun q hq => ih (lev + 1) (by omega) q hq
    obtain ⟨a1, rfl⟩ : ∃ q, m' = q + 7 := ⟨m' - 7, by omega⟩
    exact ⟨(a a1 (by omega)).1, (a (a1 + 2) (by omega)).2.1, (a (a1 + 6) (by omega)).2.2⟩
