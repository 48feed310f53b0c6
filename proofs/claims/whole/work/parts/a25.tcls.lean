/-! the class's reading: tokens in rows, codes into text i -/
def cx_K (T : Nat → Nat) (n K : Nat) : Prop := K ≤ 160 ∧ tx_kd T n K = 0 ∧ ∀ j, j < K → tx_kd T n j ≠ 0
def cx_A (T : Nat → Nat) (n K : Nat) (σ : zSt) : Prop := σ.1 19 3 = nI (K + 1) ∧ ∀ j, j ≤ K → σ.1 20 j = nI (tx_kd T n j) ∧ σ.1 21 j = tx_vl T n j ∧ σ.1 22 j = nI (tx_tk T n j).2.1
def cx_R (i : Nat) (T : Nat → Nat) (n K : Nat) (S : List Int32) (k : Nat) (σ : zSt) : Prop := cx_A T n K σ ∧ k ≤ K ∧ σ.1 19 4 = nI (k + 1) ∧ σ.1 19 5 = nI (tx_kd T n k) ∧ σ.1 19 6 = tx_vl T n k ∧ σ.1 19 7 = nI (tx_tk T n k).2.1 ∧ σ.1 19 8 = nI i ∧ σ.1 (43 + i) 2 = nI S.length ∧ (∀ j, j < S.length → σ.1 (49 + i) j = S.getD j 0)
def cx_f (i : Nat) (σ σ' : zSt) : Prop := ∀ o, o ≠ 19 → o ≠ 43 + i → o ≠ 49 + i → σ'.1 o = σ.1 o
theorem cx_f.tr {i : Nat} {σ σ' σ'' : zSt} (e : cx_f i σ σ') (f : cx_f i σ' σ'') : cx_f i σ σ'' := fun o a b c => (f o a b c).trans (e o a b c)
theorem cx_f.rf (i : Nat) (σ : zSt) : cx_f i σ σ := fun _ _ _ _ => rfl
def cx_ok (i n : Nat) (T : Nat → Nat) (K : Nat) : Prop := i < 6 ∧ n ≤ 160 ∧ (∀ j, j < n → T j ≤ 255) ∧ cx_K T n K
theorem tx_kd_b {T : Nat → Nat} {n k : Nat} (hn : n ≤ 160) (hT : ∀ j, j < n → T j ≤ 255) : tx_kd T n k ≤ 255 := by
  by_cases c : (tx_tk T n k).1 = 3
  · rw [tx_kd_3 c]; exact hT _ (tx_sg_b hn c).2
  · have := tx_kd_9 c; omega
theorem cx_R.lt {i : Nat} {T : Nat → Nat} {n K : Nat} {S : List Int32} {k : Nat} {σ : zSt} (ho : cx_ok i n T K) (h : cx_R i T n K S k σ) (hk : tx_kd T n k ≠ 0) : k < K := by
  rcases Nat.lt_or_ge k K with q | q
  · exact q
  · have : k = K := by have := h.2.1; omega
    rw [this] at hk
    exact absurd ho.2.2.2.2.1 hk
theorem cx_adv {i : Nat} {T : Nat → Nat} {n K : Nat} {S : List Int32} {k : Nat} {σ : zSt} (ho : cx_ok i n T K) (h : cx_R i T n K S k σ) (hk : tx_kd T n k ≠ 0) (Q : zSt → Prop) (hQ : ∀ σ', cx_R i T n K S (k + 1) σ' → cx_f i σ σ' → Q σ') : wX3_advance σ Q := by
  have hlt := h.lt ho hk
  have hK := ho.2.2.2.1
  have hi := ho.1
  obtain ⟨⟨a1, a2⟩, h2, h3, h4, h5, h6, h7, h8, h9⟩ := h
  obtain ⟨b1, b2, b3⟩ := a2 (k + 1) (by omega)
  have hv : vp_in (nI (k + 1)) 161 := zin' (by omega) (by omega)
  unfold wX3_advance
  rw [h3, a1, if_neg (nI_pos (by omega)), if_neg (show ¬ nI (K + 1) ≤ nI (k + 1) from nI_ge (by omega) (by omega)), if_neg (show ¬ (161 : Int32) ≤ nI (k + 1) from nI_ge (b := 161) (by omega) (by omega))]
  refine ⟨hv, ?_⟩
  intro s1 e1
  rw [zcl (by omega), b1] at e1
  have x1 : s1.1 19 4 = nI (k + 1) := by rw [e1]; simp [zput_at, h3]
  have y1 : ∀ o, o ≠ 19 → s1.1 o = σ.1 o := fun o q => by rw [e1, zput_ne q]
  refine ⟨by rw [x1]; exact hv, ?_⟩
  intro s2 e2
  rw [x1, zcl (by omega), y1 21 (by decide), b2] at e2
  have x2 : s2.1 19 4 = nI (k + 1) := by rw [e2]; simp [zput_at, x1]
  have y2 : ∀ o, o ≠ 19 → s2.1 o = σ.1 o := fun o q => by rw [e2, zput_ne q]; exact y1 o q
  refine ⟨by rw [x2]; exact hv, ?_⟩
  intro s3 e3
  rw [x2, zcl (by omega), y2 22 (by decide), b3] at e3
  have x3 : s3.1 19 4 = nI (k + 1) := by rw [e3]; simp [zput_at, x2]
  have y3 : ∀ o, o ≠ 19 → s3.1 o = σ.1 o := fun o q => by rw [e3, zput_ne q]; exact y2 o q
  intro s4 e4
  rw [x3, nI_1] at e4
  have y4 : ∀ o, o ≠ 19 → s4.1 o = σ.1 o := fun o q => by rw [e4, zput_ne q]; exact y3 o q
  refine hQ s4 ⟨⟨?_, fun j hj => ?_⟩, by omega, ?_, ?_, ?_, ?_, ?_, ?_, fun j hj => ?_⟩ (fun o a _ _ => y4 o a)
  · rw [e4, e3, e2, e1]; simp [zput_at, a1]
  · rw [y4 20 (by decide), y4 21 (by decide), y4 22 (by decide)]; exact a2 j hj
  · rw [e4]; simp [zput_at]
  · rw [e4, e3, e2, e1]; simp [zput_at]
  · rw [e4, e3, e2, e1]; simp [zput_at]
  · rw [e4, e3, e2, e1]; simp [zput_at]
  · rw [e4, e3, e2, e1]; simp [zput_at, h7]
  · rw [y4 _ (by omega)]; exact h8
  · rw [y4 _ (by omega)]; exact h9 j hj
theorem cx_put {i : Nat} {T : Nat → Nat} {n K : Nat} {S : List Int32} {k : Nat} {σ : zSt} (ho : cx_ok i n T K) (h : cx_R i T n K S k σ) (hS : S.length < 160) (c : Int32) (Q : zSt → Prop) (hQ : ∀ σ', cx_R i T n K (S ++ [c]) k σ' → cx_f i σ σ' → Q σ') : wX6_put i c σ Q := by
  have hi := ho.1
  obtain ⟨⟨a1, a2⟩, h2, h3, h4, h5, h6, h7, h8, h9⟩ := h
  unfold wX6_put
  rw [h8, if_neg (show ¬ (160 : Int32) ≤ nI S.length from nI_ge (b := 160) hS (by omega)), zcl (by omega)]
  refine ⟨zin' hS (by omega), ?_⟩
  rw [forall_eq, forall_eq, zput_at, if_neg (by omega), h8, nI_1]
  have e19 : (19 : Nat) ≠ 43 + i := by omega
  have f19 : (19 : Nat) ≠ 49 + i := by omega
  refine hQ _ ⟨⟨by rw [zput_ne e19, zput_ne f19]; exact a1, fun j hj => ?_⟩, h2, by rw [zput_ne e19, zput_ne f19]; exact h3, by rw [zput_ne e19, zput_ne f19]; exact h4, by rw [zput_ne e19, zput_ne f19]; exact h5, by rw [zput_ne e19, zput_ne f19]; exact h6, by rw [zput_ne e19, zput_ne f19]; exact h7, ?_, fun j hj => ?_⟩ (fun o a b c => by rw [zput_ne b, zput_ne c])
  · rw [zput_ne (by omega), zput_ne (by omega), zput_ne (by omega), zput_ne (by omega), zput_ne (by omega), zput_ne (by omega)]
    exact a2 j hj
  · rw [zput_at, if_pos ⟨rfl, rfl⟩, List.length_append]; rfl
  · rw [zput_ne (by omega), zput_at]
    rw [List.length_append, List.length_cons, List.length_nil] at hj
    by_cases q : j = S.length
    · subst q
      rw [if_pos ⟨rfl, rfl⟩]
      simp [List.getD_eq_getElem?_getD]
    · rw [if_neg (fun z => q z.2), h9 j (by omega)]
      simp only [List.getD_eq_getElem?_getD]
      rw [List.getElem?_append_left (by omega)]
def cx_out (i : Nat) (T : Nat → Nat) (n K : Nat) (σ0 : zSt) (S : List Int32) (r : tx_R) (Q : Int32 → zSt → Prop) : Prop := (r.1 = true → ∀ σ', cx_R i T n K (S ++ r.2.1) r.2.2 σ' → cx_f i σ0 σ' → Q 1 σ') ∧ (¬ r.1 = true → ∀ σ' : zSt, σ'.1 19 7 = nI (tx_tk T n r.2.2).2.1 → cx_f i σ0 σ' → Q 0 σ')
def cx_H (i : Nat) (T : Nat → Nat) (n K : Nat) (W : zSt → (Int32 → zSt → Prop) → Prop) (f : Nat → tx_R) : Prop := ∀ (k : Nat) (σ : zSt) (S : List Int32) (Q : Int32 → zSt → Prop), cx_R i T n K S k σ → S.length ≤ k → cx_out i T n K σ S (f k) Q → W σ Q
abbrev cx_C : Type := Nat → Int32 → zSt → (Int32 → zSt → Prop) → Prop
theorem cx_tk {i : Nat} {T : Nat → Nat} {n K : Nat} {S : List Int32} {k : Nat} {σ : zSt} (ho : cx_ok i n T K) (h : cx_R i T n K S k σ) {s : Nat} (hs : s < 256) : (σ.1 19 5 = nI s) ↔ tx_kd T n k = s := by
  rw [h.2.2.2.1, nI_eq (by have := tx_kd_b (k := k) ho.2.1 ho.2.2.1; omega) (by omega)]
theorem cx_one {i : Nat} {T : Nat → Nat} {n K : Nat} (ho : cx_ok i n T K) {C : cx_C} {lev d : Nat} (hl : lev + d = 5) {P : tx_P} (HE : d ≠ 0 → cx_H i T n K (C 0 (nI (lev + 1))) P.1) (HO : d ≠ 0 → cx_H i T n K (C 6 (nI (lev + 1))) P.2.2) (hO : tx_fw P.2.2) : cx_H i T n K (wX3_one_b C (nI lev)) (tx_one (tx_kd T n) (tx_vl T n) d P) := by
  intro k σ S Q h hS ht
  have hi := ho.1
  have hv : vp_in (nI i) 6 := zin' hi (by omega)
  have hK := ho.2.2.2.1
  have e8 : σ.1 19 8 = nI i := h.2.2.2.2.2.2.1
  have q2 : (σ.1 19 5 = 2) ↔ _ := cx_tk ho h (s := 2) (by omega)
  have q3 : (σ.1 19 5 = 3) ↔ _ := cx_tk ho h (s := 3) (by omega)
  have q40 : (σ.1 19 5 = 40) ↔ _ := cx_tk ho h (s := 40) (by omega)
  have q45 : (σ.1 19 5 = 45) ↔ _ := cx_tk ho h (s := 45) (by omega)
  unfold wX3_one_b
  unfold tx_one at ht
  by_cases c2 : tx_kd T n k = 2
  · have := h.lt ho (by omega)
    rw [if_pos c2] at ht
    rw [if_pos (q2.mpr c2), if_pos (q2.mpr c2), e8]
    refine ⟨hv, ?_⟩
    rw [forall_eq, zcl (by omega), h.2.2.2.2.1]
    refine cx_put ho h (by omega) _ _ (fun σ1 h1 e1 => ?_)
    exact cx_adv ho h1 (by omega) _ (fun σ2 h2 e2 => ht.1 rfl σ2 h2 (e1.tr e2))
  rw [if_neg c2] at ht
  rw [if_neg (fun z => c2 (q2.mp z))]
  by_cases c3 : tx_kd T n k = 3
  · have := h.lt ho (by omega)
    rw [if_pos c3] at ht
    rw [if_pos (q3.mpr c3), if_neg (fun z => c2 (q2.mp z)), e8]
    refine ⟨hv, ?_⟩
    rw [forall_eq, zcl (by omega), h.2.2.2.2.1]
    refine cx_put ho h (by omega) _ _ (fun σ1 h1 e1 => ?_)
    exact cx_adv ho h1 (by omega) _ (fun σ2 h2 e2 => ht.1 rfl σ2 h2 (e1.tr e2))
  rw [if_neg c3] at ht
  rw [if_neg (fun z => c3 (q3.mp z))]
  by_cases c40 : tx_kd T n k = 40
  · rw [if_pos c40] at ht
    rw [if_pos (q40.mpr c40)]
    by_cases d0 : d = 0
    · rw [if_pos d0] at ht
      rw [if_neg (show ¬ nI lev < (5 : Int32) from nI_nlt (b := 5) (by omega) (by omega))]
      exact ht.2 (by simp) σ h.2.2.2.2.2.1 (cx_f.rf i σ)
    rw [if_neg d0] at ht
    rw [if_pos (show nI lev < (5 : Int32) from nI_lt (b := 5) (by omega) (by omega))]
    unfold wX3_passes
    rw [if_pos (q40.mpr c40)]
    refine cx_adv ho h (by omega) _ (fun σ1 h1 e1 => ?_)
    dsimp only
    rw [if_neg (by decide), forall_eq, nI_1]
    refine HE d0 (k + 1) σ1 S _ h1 (by omega) ⟨fun o1 σ2 h2 e2 => ?_, fun o1 σ2 h2 e2 => ?_⟩
    · rw [if_pos o1] at ht
      rw [if_neg (by decide)]
      have q41 : (σ2.1 19 5 = 41) ↔ _ := cx_tk ho h2 (s := 41) (by omega)
      by_cases c41 : tx_kd T n (P.1 (k + 1)).2.2 = 41
      · rw [if_pos c41] at ht
        rw [if_pos (q41.mpr c41)]
        refine cx_adv ho h2 (by omega) _ (fun σ3 h3 e3 => ?_)
        rw [if_neg (by decide)]
        exact ht.1 rfl σ3 h3 ((e1.tr e2).tr e3)
      · rw [if_neg c41] at ht
        rw [if_neg (fun z => c41 (q41.mp z)), if_pos rfl]
        exact ht.2 (by simp) σ2 h2.2.2.2.2.2.1 (e1.tr e2)
    · rw [if_neg o1] at ht
      rw [if_pos rfl]
      exact ht.2 (by simp) σ2 h2 (e1.tr e2)
  rw [if_neg c40] at ht
  rw [if_neg (fun z => c40 (q40.mp z))]
  by_cases c45 : tx_kd T n k = 45
  · rw [if_pos c45] at ht
    rw [if_pos (q45.mpr c45)]
    by_cases d0 : d = 0
    · rw [if_pos d0] at ht
      rw [if_neg (show ¬ nI lev < (5 : Int32) from nI_nlt (b := 5) (by omega) (by omega))]
      exact ht.2 (by simp) σ h.2.2.2.2.2.1 (cx_f.rf i σ)
    rw [if_neg d0] at ht
    rw [if_pos (show nI lev < (5 : Int32) from nI_lt (b := 5) (by omega) (by omega))]
    unfold wX3_passes
    rw [if_neg (fun z => c40 (q40.mp z))]
    dsimp only
    rw [if_pos rfl]
    refine cx_adv ho h (by omega) _ (fun σ1 h1 e1 => ?_)
    rw [forall_eq, nI_1]
    have l0 := h.lt ho (by omega)
    refine HO d0 (k + 1) σ1 S _ h1 (by omega) ⟨fun o1 σ2 h2 e2 => ?_, fun o1 σ2 h2 e2 => ?_⟩
    · rw [if_pos o1] at ht
      rw [if_neg (by decide), show σ2.1 19 8 = nI i from h2.2.2.2.2.2.2.1]
      refine ⟨hv, ?_⟩
      rw [zcl (by omega)]
      have w := hO (k + 1) o1
      have w2 := h2.2.1
      refine cx_put ho h2 (by rw [List.length_append]; omega) _ _ (fun σ3 h3 e3 => ?_)
      rw [List.append_assoc] at h3
      exact ht.1 rfl σ3 h3 ((e1.tr e2).tr e3)
    · rw [if_neg o1] at ht
      rw [if_pos rfl]
      exact ht.2 (by simp) σ2 h2 (e1.tr e2)
  · rw [if_neg c45] at ht
    rw [if_neg (fun z => c45 (q45.mp z))]
    exact ht.2 (by simp) σ h.2.2.2.2.2.1 (cx_f.rf i σ)
