/-! the class's text -/
theorem cx_adv0 {i : Nat} {T : Nat → Nat} {n K : Nat} {σ : zSt} (ho : cx_ok i n T K) (hA : cx_A T n K σ) (h3 : σ.1 19 4 = 0) (h7 : σ.1 19 8 = nI i) (h8 : σ.1 (43 + i) 2 = 0) (Q : zSt → Prop) (hQ : ∀ σ', cx_R i T n K [] 0 σ' → cx_f i σ σ' → Q σ') : wX3_advance σ Q := by
  have hK := ho.2.2.2.1
  have hi := ho.1
  obtain ⟨a1, a2⟩ := hA
  obtain ⟨b1, b2, b3⟩ := a2 0 (by omega)
  have hv : vp_in 0 161 := zin' (n := 0) (by omega) (by omega)
  have c0 : (0 : Int32).toNatClampNeg = 0 := by decide
  unfold wX3_advance
  rw [h3, a1, if_neg (by decide), if_neg (show ¬ nI (K + 1) ≤ (0 : Int32) from nI_ge (a := 0) (by omega) (by omega)), if_neg (by decide), c0, b1]
  refine ⟨hv, ?_⟩
  intro s1 e1
  have x1 : s1.1 19 4 = 0 := by rw [e1]; simp [zput_at, h3]
  have y1 : ∀ o, o ≠ 19 → s1.1 o = σ.1 o := fun o q => by rw [e1, zput_ne q]
  refine ⟨by rw [x1]; exact hv, ?_⟩
  intro s2 e2
  rw [x1, c0, y1 21 (by decide), b2] at e2
  have x2 : s2.1 19 4 = 0 := by rw [e2]; simp [zput_at, x1]
  have y2 : ∀ o, o ≠ 19 → s2.1 o = σ.1 o := fun o q => by rw [e2, zput_ne q]; exact y1 o q
  refine ⟨by rw [x2]; exact hv, ?_⟩
  intro s3 e3
  rw [x2, c0, y2 22 (by decide), b3] at e3
  have x3 : s3.1 19 4 = 0 := by rw [e3]; simp [zput_at, x2]
  have y3 : ∀ o, o ≠ 19 → s3.1 o = σ.1 o := fun o q => by rw [e3, zput_ne q]; exact y2 o q
  intro s4 e4
  rw [x3, show (0 : Int32) + 1 = nI (0 + 1) from by decide] at e4
  have y4 : ∀ o, o ≠ 19 → s4.1 o = σ.1 o := fun o q => by rw [e4, zput_ne q]; exact y3 o q
  refine hQ s4 ⟨⟨?_, fun j hj => ?_⟩, by omega, ?_, ?_, ?_, ?_, ?_, ?_, fun j hj => ?_⟩ (fun o a _ _ => y4 o a)
  · rw [e4, e3, e2, e1]; simp [zput_at, a1]
  · rw [y4 20 (by decide), y4 21 (by decide), y4 22 (by decide)]; exact a2 j hj
  · rw [e4]; simp [zput_at]
  · rw [e4, e3, e2, e1]; simp [zput_at]
  · rw [e4, e3, e2, e1]; simp [zput_at]
  · rw [e4, e3, e2, e1]; simp [zput_at]
  · rw [e4, e3, e2, e1]; simp [zput_at, h7]
  · rw [y4 _ (by omega), h8]; rfl
  · simp at hj
def cx_g (i p : Nat) (σ σ' : zSt) : Prop := (∀ o, o ≠ 19 → o ≠ 43 + i → o ≠ 49 + i → o ≠ 55 + i → σ'.1 o = σ.1 o) ∧ ∀ j, j ≠ p → σ'.1 (55 + i) j = σ.1 (55 + i) j
theorem tx_part_fw (T : Nat → Nat) (n key k : Nat) (h : (tx_part (tx_kd T n) (tx_vl T n) key k).1 = true) : k < (tx_part (tx_kd T n) (tx_vl T n) key k).2.2 ∧ (tx_part (tx_kd T n) (tx_vl T n) key k).2.1.length + k ≤ (tx_part (tx_kd T n) (tx_vl T n) key k).2.2 := by
  unfold tx_part at h ⊢
  by_cases c : tx_kd T n k = key
  · rw [if_pos c] at h ⊢
    by_cases c2 : ((tx_lev (tx_kd T n) (tx_vl T n) 5).1 (k + 1)).1 = true
    · rw [if_pos c2] at h ⊢
      have w := (tx_lev_fw (tx_kd T n) (tx_vl T n) 5).1 (k + 1) c2
      by_cases c3 : tx_kd T n ((tx_lev (tx_kd T n) (tx_vl T n) 5).1 (k + 1)).2.2 = 59
      · rw [if_pos c3]
        try dsimp only
        omega
      · rw [if_neg c3] at h; exact absurd h (by simp)
    · rw [if_neg c2] at h; exact absurd h (by simp)
  · rw [if_neg c] at h; exact absurd h (by simp)
theorem cx_part {i : Nat} {T : Nat → Nat} {n K : Nat} (ho : cx_ok i n T K) {key k p : Nat} (hk : 2 ≤ key ∧ key < 256) (hp : p < 3) {S : List Int32} {σ : zSt} (h : cx_R i T n K S k σ) (hS : S.length ≤ k) (Q : Int32 → zSt → Prop) (hok : (tx_part (tx_kd T n) (tx_vl T n) key k).1 = true → ∀ σ', cx_R i T n K (S ++ (tx_part (tx_kd T n) (tx_vl T n) key k).2.1) (tx_part (tx_kd T n) (tx_vl T n) key k).2.2 σ' → cx_g i p σ σ' → σ'.1 (55 + i) p = nI (S ++ (tx_part (tx_kd T n) (tx_vl T n) key k).2.1).length → Q 1 σ') (hbad : ¬ (tx_part (tx_kd T n) (tx_vl T n) key k).1 = true → ∀ σ' : zSt, σ'.1 19 7 = nI (tx_tk T n (tx_part (tx_kd T n) (tx_vl T n) key k).2.2).2.1 → cx_g i p σ σ' → Q 0 σ') : wX3_part (nI p) (nI key) σ Q := by
  have hi := ho.1
  have hv : vp_in (nI i) 6 := zin' hi (by omega)
  have hfg : ∀ {σ'}, cx_f i σ σ' → cx_g i p σ σ' := fun {σ'} e => ⟨fun o a b c _ => e o a b c, fun j _ => by rw [e _ (by omega) (by omega) (by omega)]⟩
  have qk : (σ.1 19 5 = nI key) ↔ _ := cx_tk ho h (s := key) hk.2
  unfold wX3_part wX3_passes
  unfold tx_part at hok hbad
  by_cases c : tx_kd T n k = key
  rotate_left
  · rw [if_neg c] at hbad
    rw [if_neg (fun z => c (qk.mp z))]
    try dsimp only
    rw [if_pos rfl]
    exact hbad (by simp) σ h.2.2.2.2.2.1 (hfg (cx_f.rf i σ))
  rw [if_pos c] at hok hbad
  rw [if_pos (qk.mpr c)]
  refine cx_adv ho h (by omega) _ (fun σ1 h1 e1 => ?_)
  try dsimp only
  rw [if_neg (by decide)]
  refine (cx_all ho 5 0 (by omega) 53 (by omega)).1 (k + 1) σ1 S _ h1 (by omega) ⟨fun o1 σ2 h2 e2 => ?_, fun o1 σ2 h2 e2 => ?_⟩
  rotate_left
  · rw [if_neg o1] at hbad
    rw [if_pos rfl]
    exact hbad (by simp) σ2 h2 (hfg (e1.tr e2))
  rw [if_pos o1] at hok hbad
  rw [if_neg (by decide)]
  have q59 : (σ2.1 19 5 = 59) ↔ _ := cx_tk ho h2 (s := 59) (by omega)
  by_cases c59 : tx_kd T n ((tx_lev (tx_kd T n) (tx_vl T n) 5).1 (k + 1)).2.2 = 59
  rotate_left
  · rw [if_neg c59] at hbad
    rw [if_neg (fun z => c59 (q59.mp z)), if_pos rfl]
    exact hbad (by simp) σ2 h2.2.2.2.2.2.1 (hfg (e1.tr e2))
  rw [if_pos c59] at hok
  rw [if_pos (q59.mpr c59)]
  refine cx_adv ho h2 (by omega) _ (fun σ3 h3 e3 => ?_)
  rw [if_neg (by decide), show σ3.1 19 8 = nI i from h3.2.2.2.2.2.2.1]
  refine ⟨hv, ?_⟩
  unfold wX6_endPart
  rw [if_neg (nI_pos (by omega)), if_neg (show ¬ (3 : Int32) ≤ nI p from nI_ge (b := 3) hp (by omega)), zcl (by omega), zcl (by omega)]
  refine ⟨zin' hp (by omega), ?_⟩
  rw [forall_eq, show σ3.1 (43 + i) 2 = _ from h3.2.2.2.2.2.2.2.1]
  have e123 := (e1.tr e2).tr e3
  obtain ⟨⟨a1, a2⟩, g2, g3, g4, g5, g6, g7, g8, g9⟩ := h3
  refine hok rfl _ ⟨⟨by rw [zput_ne (by omega)]; exact a1, fun j hj => ?_⟩, g2, by rw [zput_ne (by omega)]; exact g3, by rw [zput_ne (by omega)]; exact g4, by rw [zput_ne (by omega)]; exact g5, by rw [zput_ne (by omega)]; exact g6, by rw [zput_ne (by omega)]; exact g7, by rw [zput_ne (by omega)]; exact g8, fun j hj => by rw [zput_ne (by omega)]; exact g9 j hj⟩ ⟨fun o a b c d => by rw [zput_ne d]; exact e123 o a b c, fun j hj => ?_⟩ (by rw [zput_at, if_pos ⟨rfl, rfl⟩])
  · rw [zput_ne (by omega), zput_ne (by omega), zput_ne (by omega)]; exact a2 j hj
  · rw [zput_at, if_neg (fun z => hj z.2), e123 _ (by omega) (by omega) (by omega)]
theorem cx_reads {i : Nat} {T : Nat → Nat} {n : Nat} (hi : i < 6) {σ : zSt} (ht : cx_t T n σ) (Q : Int32 → zSt → Prop) (hok : tx_good T n → ∀ σ' : zSt, (∀ o, (o < 19 ∨ 22 < o) → o ≠ 43 + i → o ≠ 49 + i → o ≠ 55 + i → σ'.1 o = σ.1 o) → xTx (tx_cod T n) i σ' → Q 1 σ') (hbad : ¬ tx_good T n → ∀ σ' : zSt, (∀ o, (o < 19 ∨ 22 < o) → o ≠ 43 + i → o ≠ 49 + i → o ≠ 55 + i → σ'.1 o = σ.1 o) → σ'.1 19 7 = nI (tx_flt T n) → Q 0 σ') : wX3_reads_17_Text (nI n) i σ Q := by
  have hn := ht.1
  unfold wX3_reads_17_Text
  have ea : (if (0 : Int32) < (if (160 : Int32) < (if (160 : Int32) < nI n then 160 else nI n) then 160 else (if (160 : Int32) < nI n then 160 else nI n)) then (if (160 : Int32) < (if (160 : Int32) < nI n then 160 else nI n) then 160 else (if (160 : Int32) < nI n then 160 else nI n)) else 0) = nI n := by
    rw [if_neg (show ¬ (160 : Int32) < nI n from nI_nlt (a := 160) hn (by omega)), if_neg (show ¬ (160 : Int32) < nI n from nI_nlt (a := 160) hn (by omega))]
    by_cases c : n = 0
    · rw [c]; decide
    · rw [if_pos (show (0 : Int32) < nI n from nI_lt (a := 0) (by omega) (by omega))]
  rw [ea, forall_eq]
  refine p3_scan ht _ (fun K σ1 hK hA e1 => ?_)
  have ho : cx_ok i n T K := ⟨hi, hn, ht.2.1, hK⟩
  rw [forall_eq, zput_at, if_pos ⟨rfl, rfl⟩]
  refine ⟨zin' hi (by omega), ?_⟩
  unfold wX6_clear
  rw [zcl (by omega), forall_eq, forall_eq]
  generalize hτ : zput (zput (zput σ1 19 8 (nI i)) (43 + i) 2 0) 19 4 0 = τ
  have t0 : ∀ o, o ≠ 19 → o ≠ 43 + i → τ.1 o = σ1.1 o := fun o a b => by rw [← hτ, zput_ne a, zput_ne b, zput_ne a]
  have tA : cx_A T n K τ := by
    refine ⟨?_, fun j hj => ?_⟩
    · rw [← hτ, zput_at, if_neg (by decide), zput_ne (by omega), zput_at, if_neg (by decide)]; exact hA.1
    · rw [t0 20 (by decide) (by omega), t0 21 (by decide) (by omega), t0 22 (by decide) (by omega)]; exact hA.2 j hj
  have t4 : τ.1 19 4 = 0 := by rw [← hτ, zput_at, if_pos ⟨rfl, rfl⟩]
  have t8 : τ.1 19 8 = nI i := by rw [← hτ, zput_at, if_neg (by decide), zput_ne (by omega), zput_at, if_pos ⟨rfl, rfl⟩]
  have t43 : τ.1 (43 + i) 2 = 0 := by rw [← hτ, zput_ne (by omega), zput_at, if_pos ⟨rfl, rfl⟩]
  clear hτ
  refine cx_adv0 ho tA t4 t8 t43 _ (fun σ2 h2 e2 => ?_)
  have f2 : ∀ o, (o < 19 ∨ 22 < o) → o ≠ 43 + i → o ≠ 49 + i → σ2.1 o = σ.1 o := fun o a b c => by rw [e2 o (by omega) b c, t0 o (by omega) b, e1 o (by omega) (by omega) (by omega) (by omega)]
  have fr : ∀ {σ' σ'' : zSt} {p : Nat}, (∀ o, (o < 19 ∨ 22 < o) → o ≠ 43 + i → o ≠ 49 + i → o ≠ 55 + i → σ'.1 o = σ.1 o) → cx_g i p σ' σ'' → (∀ o, (o < 19 ∨ 22 < o) → o ≠ 43 + i → o ≠ 49 + i → o ≠ 55 + i → σ''.1 o = σ.1 o) := fun {σ' σ'' p} a b o c d e f => by rw [b.1 o (by omega) d e f]; exact a o c d e f
  refine cx_part ho (key := 4) (p := 0) (by omega) (by omega) h2 (Nat.zero_le _) _ (fun o0 σ3 h3 g3 k3 => ?_) (fun o0 σ3 k3 g3 => ?_)
  rotate_left
  · have o0 : ¬ (tx_p0 T n).1 = true := o0
    try dsimp only
    rw [if_pos rfl]
    refine hbad (fun g => o0 g.1) σ3 (fr (fun o a b c _ => f2 o a b c) g3) ?_
    unfold tx_flt
    rw [if_neg o0]; exact k3
  have o0' : (tx_p0 T n).1 = true := o0
  have w0 := tx_part_fw T n 4 0 o0
  have h3 : cx_R i T n K (tx_p0 T n).2.1 (tx_p0 T n).2.2 σ3 := h3
  have k3 : σ3.1 (55 + i) 0 = nI (tx_p0 T n).2.1.length := k3
  have w0 : 0 < (tx_p0 T n).2.2 ∧ (tx_p0 T n).2.1.length + 0 ≤ (tx_p0 T n).2.2 := w0
  try dsimp only
  rw [if_neg (by decide)]
  have f3 := fr (fun o a b c _ => f2 o a b c) g3
  refine cx_part ho (key := 5) (p := 1) (by omega) (by omega) h3 (by omega) _ (fun o1 σ4 h4 g4 k4 => ?_) (fun o1 σ4 k4 g4 => ?_)
  rotate_left
  · have o1 : ¬ (tx_p1 T n).1 = true := o1
    try dsimp only
    rw [if_pos rfl]
    refine hbad (fun g => o1 g.2.1) σ4 (fr f3 g4) ?_
    unfold tx_flt
    rw [if_pos o0', if_neg o1]; exact k4
  have o1' : (tx_p1 T n).1 = true := o1
  have w1 : (tx_p0 T n).2.2 < (tx_p1 T n).2.2 ∧ (tx_p1 T n).2.1.length + (tx_p0 T n).2.2 ≤ (tx_p1 T n).2.2 := tx_part_fw T n 5 (tx_p0 T n).2.2 o1
  have h4 : cx_R i T n K ((tx_p0 T n).2.1 ++ (tx_p1 T n).2.1) (tx_p1 T n).2.2 σ4 := h4
  have k4 : σ4.1 (55 + i) 1 = nI ((tx_p0 T n).2.1 ++ (tx_p1 T n).2.1).length := k4
  try dsimp only
  rw [if_neg (by decide)]
  have f4 := fr f3 g4
  refine cx_part ho (key := 6) (p := 2) (by omega) (by omega) h4 (by rw [List.length_append]; omega) _ (fun o2 σ5 h5 g5 k5 => ?_) (fun o2 σ5 k5 g5 => ?_)
  rotate_left
  · have o2 : ¬ (tx_p2 T n).1 = true := o2
    try dsimp only
    rw [if_pos rfl]
    refine hbad (fun g => o2 g.2.2.1) σ5 (fr f4 g5) ?_
    unfold tx_flt
    rw [if_pos o0', if_pos o1']; exact k5
  have o2' : (tx_p2 T n).1 = true := o2
  have w2 : (tx_p1 T n).2.2 < (tx_p2 T n).2.2 ∧ (tx_p2 T n).2.1.length + (tx_p1 T n).2.2 ≤ (tx_p2 T n).2.2 := tx_part_fw T n 6 (tx_p1 T n).2.2 o2
  have h5 : cx_R i T n K ((tx_p0 T n).2.1 ++ (tx_p1 T n).2.1 ++ (tx_p2 T n).2.1) (tx_p2 T n).2.2 σ5 := h5
  have k5 : σ5.1 (55 + i) 2 = nI ((tx_p0 T n).2.1 ++ (tx_p1 T n).2.1 ++ (tx_p2 T n).2.1).length := k5
  try dsimp only
  rw [if_neg (by decide)]
  have f5 := fr f4 g5
  have q0 : (σ5.1 19 5 = 0) ↔ _ := cx_tk ho h5 (s := 0) (by omega)
  have hKK := h5.2.1
  have hK160 := hK.1
  by_cases c0 : tx_kd T n (tx_p2 T n).2.2 = 0
  · rw [if_pos (q0.mpr c0)]
    refine hok ⟨o0', o1', o2', c0⟩ σ5 f5 ?_
    rw [List.length_append] at k4
    rw [List.length_append, List.length_append] at k5
    have h9 := h5.2.2.2.2.2.2.2.2
    rw [List.length_append, List.length_append] at h9
    unfold xTx tx_cod
    simp only [Nat.one_ne_zero, if_true, if_false, show ¬ (2 : Nat) = 0 by decide, show ¬ (2 : Nat) = 1 by decide]
    refine ⟨by omega, ?_, ?_, k5, fun j hj => ?_⟩
    · rw [g5.2 0 (by decide), g4.2 0 (by decide)]; exact k3
    · rw [g5.2 1 (by decide)]; exact k4
    · rw [h9 j hj, List.append_assoc]
  · rw [if_neg (fun z => c0 (q0.mp z))]
    refine hbad (fun g => c0 g.2.2.2) σ5 f5 ?_
    unfold tx_flt
    rw [if_pos o0', if_pos o1']; exact h5.2.2.2.2.2.1
