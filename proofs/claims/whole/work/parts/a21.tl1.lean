theorem tm_atom1 {i n : Nat} {T : Nat → Nat} {names : Nat → Int32} (ho : tm_ok i n T) {P : tx_P} (HE : tm_S i n T names 2 wX8_either2 P.1) (HO : tm_S i n T names 2 wX8_atom2 P.2.2) : tm_S i n T names 1 wX8_atom1 (tx_one (tx_kd T n) (tx_vl T n) 4 P) := by
  intro k σ Q h ht
  have s45 : ∀ R : Int32 → zSt → Prop, wX8_isSign 45 σ R = R (if tx_kd T n k = 45 then 1 else 0) σ := fun R => p8_sg ho h 45 (by omega) R
  have s40 : ∀ R : Int32 → zSt → Prop, wX8_isSign 40 σ R = R (if tx_kd T n k = 40 then 1 else 0) σ := fun R => p8_sg ho h 40 (by omega) R
  unfold wX8_atom1
  rw [s45]
  by_cases c45 : tx_kd T n k = 45
  · rw [if_pos c45, if_neg (by decide)]
    unfold tx_one at ht
    rw [if_neg (by omega), if_neg (by omega), if_neg (by omega), if_pos c45, if_neg (by decide)] at ht
    refine p8_op ho h (by decide) (by omega) _ (fun σ2 h2 e2 => ?_)
    rw [if_neg (by decide)]
    refine HO (k + 1) σ2 _ h2 ⟨fun o1 σ3 v hv h3 e3 => ?_, fun o1 σ3 v h3 e3 => ?_⟩
    · dsimp only
      rw [forall_eq, forall_eq]
      rw [if_pos o1] at ht
      exact ht.1 rfl _ _ (tx_vv_neg hv) (p8_dn h3) ((e2.tr e3).tr (zmx.put _ _ (by omega)))
    · dsimp only
      rw [forall_eq, forall_eq]
      rw [if_neg o1] at ht
      exact ht.2 (by simp) _ _ (h3.dn _) ((e2.tr e3).tr (zmx.put _ _ (by omega)))
  rw [if_neg c45, if_pos rfl, s40]
  by_cases c40 : tx_kd T n k = 40
  · rw [if_pos c40, if_neg (by decide)]
    unfold tx_one at ht
    rw [if_neg (by omega), if_neg (by omega), if_pos c40, if_neg (by decide)] at ht
    refine p8_op ho h (by decide) (by omega) _ (fun σ2 h2 e2 => ?_)
    rw [if_neg (by decide)]
    refine HE (k + 1) σ2 _ h2 ⟨fun o1 σ3 v hv h3 e3 => ?_, fun o1 σ3 v h3 e3 => ?_⟩
    · have s41 : ∀ R : Int32 → zSt → Prop, wX8_isSign 41 σ3 R = R (if tx_kd T n (P.1 (k + 1)).2.2 = 41 then 1 else 0) σ3 := fun R => p8_sg ho h3 41 (by omega) R
      rw [if_pos o1] at ht
      dsimp only
      rw [s41]
      by_cases c41 : tx_kd T n (P.1 (k + 1)).2.2 = 41
      · rw [if_pos c41] at ht
        rw [if_pos c41, if_neg (by decide), forall_eq]
        have h4 := p8_dn h3
        rw [if_pos h4.1.2.2.2.2]
        exact p8_nx ho h4 (by omega) _ (fun σ5 h5 e5 => ht.1 rfl _ _ hv h5 (((e2.tr e3).tr (zmx.put _ _ (by omega))).tr e5))
      · rw [if_neg c41] at ht
        rw [if_neg c41, if_pos rfl]
        refine p8_fl h3 _ (fun σ4 f4 e4 => ?_)
        rw [forall_eq, if_neg (f4.dn _).ne]
        exact ht.2 (by simp) _ _ (f4.dn _) (((e2.tr e3).tr e4).tr (zmx.put _ _ (by omega)))
    · rw [if_neg o1] at ht
      rw [p8_isSign_b h3.1, if_pos rfl, p8_fail_b h3.1, forall_eq, if_neg (h3.dn _).ne]
      exact ht.2 (by simp) _ _ (h3.dn _) ((e2.tr e3).tr (zmx.put _ _ (by omega)))
  rw [if_neg c40, if_pos rfl]
  exact tm_tail ho h c45 c40 Q ht
theorem tm_term1_L {i n : Nat} {T : Nat → Nat} {names : Nat → Int32} (ho : tm_ok i n T) {f : Nat → tx_R} (H : tm_S i n T names 1 wX8_atom1 f) (hf : tx_fw f) (σ0 : zSt) (Q K : Int32 → zSt → Prop) : ∀ (g : Nat) (c : List Int32) (k m : Nat) (x : Int32) (σ : zSt), 161 ≤ g + k → g < m → tm_R i n T names 1 k σ → zmx σ0 σ → tx_vv names c x → tm_out i n T names 1 σ0 (tx_lp (tx_kd T n) tx_o1 f g c k) K → wX8_term1_L5 Q K m x σ := by
  intro g
  induction g with
  | zero =>
    intro c k m x σ hg hm h e hv ht
    obtain ⟨m, rfl⟩ : ∃ m', m = m' + 1 := ⟨m - 1, by omega⟩
    have k0 : tx_kd T n k = 0 := Classical.byContradiction (fun z => by have := tx_lt160 T n ho.2.1 k z; have := ho.2.1; omega)
    have s1 : ∀ R : Int32 → zSt → Prop, wX8_isSign 42 σ R = R (if tx_kd T n k = 42 then 1 else 0) σ := fun R => p8_sg ho h 42 (by omega) R
    rw [wX8_term1_L5]
    rw [s1, if_neg (show ¬ tx_kd T n k = 42 by omega), if_pos rfl]
    exact ht.1 rfl σ x hv h e
  | succ g ih =>
    intro c k m x σ hg hm h e hv ht
    obtain ⟨m, rfl⟩ : ∃ m', m = m' + 1 := ⟨m - 1, by omega⟩
    have s1 : ∀ R : Int32 → zSt → Prop, wX8_isSign 42 σ R = R (if tx_kd T n k = 42 then 1 else 0) σ := fun R => p8_sg ho h 42 (by omega) R
    rw [tx_lp] at ht
    rw [wX8_term1_L5]
    rw [s1]
    by_cases c1 : tx_kd T n k = 42
    · have o0 : tx_o1 (tx_kd T n k) = -11 := by rw [c1]; rfl
      rw [o0, if_neg (by decide)] at ht
      rw [if_pos c1, if_neg (by decide)]
      refine p8_nx ho h (by omega) _ (fun σ1 h1 e1 => ?_)
      refine H (k + 1) σ1 _ h1 ⟨fun o1 σ2 v hv2 h2 e2 => ?_, fun o1 σ2 v h2 e2 => ?_⟩
      · rw [if_pos o1] at ht
        rw [forall_eq]
        have := (hf (k + 1) o1).1
        refine ih _ _ m _ σ2 (by omega) (by omega) h2 ((e.tr e1).tr e2) ?_ ht
        rw [← zlop.1]
        exact tx_vv_bin hv hv2 (by decide)
      · rw [if_neg o1] at ht
        obtain ⟨m, rfl⟩ : ∃ m', m = m' + 1 := ⟨m - 1, by omega⟩
        rw [forall_eq, wX8_term1_L5, p8_isSign_b h2.1, if_pos rfl]
        exact ht.2 (by simp) σ2 _ h2 ((e.tr e1).tr e2)
    · have o0 : tx_o1 (tx_kd T n k) = 0 := by unfold tx_o1; rw [if_neg c1]
      rw [if_pos o0] at ht
      rw [if_neg c1, if_pos rfl]
      exact ht.1 rfl σ x hv h e
theorem tm_term1 {i n : Nat} {T : Nat → Nat} {names : Nat → Int32} (ho : tm_ok i n T) {f : Nat → tx_R} (H : tm_S i n T names 1 wX8_atom1 f) (hf : tx_fw f) : tm_S i n T names 1 wX8_term1 (tx_ch (tx_kd T n) tx_o1 f) := by
  intro k σ Q h ht
  unfold wX8_term1
  unfold tx_ch at ht
  refine H k σ _ h ⟨fun o1 σ2 v hv2 h2 e2 => ?_, fun o1 σ2 v h2 e2 => ?_⟩
  · rw [if_pos o1] at ht
    exact tm_term1_L ho H hf σ Q _ 200 _ _ 300 v σ2 (by omega) (by omega) h2 e2 hv2 ht
  · rw [if_neg o1] at ht
    rw [show (300 : Nat) = 299 + 1 from rfl, wX8_term1_L5, p8_isSign_b h2.1, if_pos rfl]
    exact ht.2 (by simp) σ2 v h2 e2
theorem tm_added1_L {i n : Nat} {T : Nat → Nat} {names : Nat → Int32} (ho : tm_ok i n T) {f : Nat → tx_R} (H : tm_S i n T names 1 wX8_term1 f) (hf : tx_fw f) (σ0 : zSt) (Q K : Int32 → zSt → Prop) : ∀ (g : Nat) (c : List Int32) (k m : Nat) (x : Int32) (σ : zSt), 161 ≤ g + k → g < m → tm_R i n T names 1 k σ → zmx σ0 σ → tx_vv names c x → tm_out i n T names 1 σ0 (tx_lp (tx_kd T n) tx_o2 f g c k) K → wX8_added1_L5 Q K m x σ := by
  intro g
  induction g with
  | zero =>
    intro c k m x σ hg hm h e hv ht
    obtain ⟨m, rfl⟩ : ∃ m', m = m' + 1 := ⟨m - 1, by omega⟩
    have k0 : tx_kd T n k = 0 := Classical.byContradiction (fun z => by have := tx_lt160 T n ho.2.1 k z; have := ho.2.1; omega)
    have s1 : ∀ R : Int32 → zSt → Prop, wX8_isSign 43 σ R = R (if tx_kd T n k = 43 then 1 else 0) σ := fun R => p8_sg ho h 43 (by omega) R
    have s2 : ∀ R : Int32 → zSt → Prop, wX8_isSign 45 σ R = R (if tx_kd T n k = 45 then 1 else 0) σ := fun R => p8_sg ho h 45 (by omega) R
    rw [wX8_added1_L5]
    rw [s1, if_neg (show ¬ tx_kd T n k = 43 by omega), if_pos rfl, s2, if_neg (show ¬ tx_kd T n k = 45 by omega), if_pos rfl]
    exact ht.1 rfl σ x hv h e
  | succ g ih =>
    intro c k m x σ hg hm h e hv ht
    obtain ⟨m, rfl⟩ : ∃ m', m = m' + 1 := ⟨m - 1, by omega⟩
    have s1 : ∀ R : Int32 → zSt → Prop, wX8_isSign 43 σ R = R (if tx_kd T n k = 43 then 1 else 0) σ := fun R => p8_sg ho h 43 (by omega) R
    have s2 : ∀ R : Int32 → zSt → Prop, wX8_isSign 45 σ R = R (if tx_kd T n k = 45 then 1 else 0) σ := fun R => p8_sg ho h 45 (by omega) R
    rw [tx_lp] at ht
    rw [wX8_added1_L5]
    rw [s1]
    by_cases c1 : tx_kd T n k = 43
    · have o0 : tx_o2 (tx_kd T n k) = -9 := by rw [c1]; rfl
      rw [o0, if_neg (by decide)] at ht
      have g2 := p8_sgn2 ho h (s := 43) (by omega) c1
      rw [if_pos c1, if_neg (by decide), g2, if_pos (show lg_cmp (lN 43) 43 = 0 by decide +kernel)]
      refine p8_nx ho h (by omega) _ (fun σ1 h1 e1 => ?_)
      refine H (k + 1) σ1 _ h1 ⟨fun o1 σ2 v hv2 h2 e2 => ?_, fun o1 σ2 v h2 e2 => ?_⟩
      · rw [if_pos o1] at ht
        rw [forall_eq]
        have := (hf (k + 1) o1).1
        refine ih _ _ m _ σ2 (by omega) (by omega) h2 ((e.tr e1).tr e2) ?_ ht
        rw [← zlop.2.1]
        exact tx_vv_bin hv hv2 (by decide)
      · rw [if_neg o1] at ht
        obtain ⟨m, rfl⟩ : ∃ m', m = m' + 1 := ⟨m - 1, by omega⟩
        rw [forall_eq, wX8_added1_L5, p8_isSign_b h2.1, if_pos rfl, p8_isSign_b h2.1, if_pos rfl]
        exact ht.2 (by simp) σ2 _ h2 ((e.tr e1).tr e2)
    rw [if_neg c1, if_pos rfl, s2]
    by_cases c2 : tx_kd T n k = 45
    · have o0 : tx_o2 (tx_kd T n k) = -10 := by rw [c2]; rfl
      rw [o0, if_neg (by decide)] at ht
      have g2 := p8_sgn2 ho h (s := 45) (by omega) c2
      rw [if_pos c2, if_neg (by decide), g2, if_neg (show ¬ lg_cmp (lN 45) 43 = 0 by decide +kernel)]
      refine p8_nx ho h (by omega) _ (fun σ1 h1 e1 => ?_)
      refine H (k + 1) σ1 _ h1 ⟨fun o1 σ2 v hv2 h2 e2 => ?_, fun o1 σ2 v h2 e2 => ?_⟩
      · rw [if_pos o1] at ht
        rw [forall_eq]
        have := (hf (k + 1) o1).1
        refine ih _ _ m _ σ2 (by omega) (by omega) h2 ((e.tr e1).tr e2) ?_ ht
        rw [← zlop.2.2.1]
        exact tx_vv_bin hv hv2 (by decide)
      · rw [if_neg o1] at ht
        obtain ⟨m, rfl⟩ : ∃ m', m = m' + 1 := ⟨m - 1, by omega⟩
        rw [forall_eq, wX8_added1_L5, p8_isSign_b h2.1, if_pos rfl, p8_isSign_b h2.1, if_pos rfl]
        exact ht.2 (by simp) σ2 _ h2 ((e.tr e1).tr e2)
    have o0 : tx_o2 (tx_kd T n k) = 0 := by unfold tx_o2; rw [if_neg c1, if_neg c2]
    rw [if_pos o0] at ht
    rw [if_neg c2, if_pos rfl]
    exact ht.1 rfl σ x hv h e
theorem tm_added1 {i n : Nat} {T : Nat → Nat} {names : Nat → Int32} (ho : tm_ok i n T) {f : Nat → tx_R} (H : tm_S i n T names 1 wX8_term1 f) (hf : tx_fw f) : tm_S i n T names 1 wX8_added1 (tx_ch (tx_kd T n) tx_o2 f) := by
  intro k σ Q h ht
  unfold wX8_added1
  unfold tx_ch at ht
  refine H k σ _ h ⟨fun o1 σ2 v hv2 h2 e2 => ?_, fun o1 σ2 v h2 e2 => ?_⟩
  · rw [if_pos o1] at ht
    exact tm_added1_L ho H hf σ Q _ 200 _ _ 300 v σ2 (by omega) (by omega) h2 e2 hv2 ht
  · rw [if_neg o1] at ht
    rw [show (300 : Nat) = 299 + 1 from rfl, wX8_added1_L5, p8_isSign_b h2.1, if_pos rfl, p8_isSign_b h2.1, if_pos rfl]
    exact ht.2 (by simp) σ2 v h2 e2
theorem tm_not1 {i n : Nat} {T : Nat → Nat} {names : Nat → Int32} (ho : tm_ok i n T) {f N : Nat → tx_R} (H : tm_S i n T names 1 wX8_added1 f) (HN : tm_S i n T names 2 wX8_not2 N) : tm_S i n T names 1 wX8_not1 (tx_nt (tx_kd T n) 4 N (tx_cm (tx_kd T n) f)) := by
  intro k σ Q h ht
  have s1 : ∀ R : Int32 → zSt → Prop, wX8_isWord 110 111 116 0 0 0 0 0 σ R = R (if tx_kd T n k = 9 then 1 else 0) σ := fun R => p8_wd ho h (w := 12) (by omega) R
  unfold wX8_not1
  unfold tx_nt at ht
  rw [s1]
  by_cases c9 : tx_kd T n k = 9
  · rw [if_pos c9] at ht
    rw [if_pos c9, if_neg (by decide)]
    rw [if_neg (by decide)] at ht
    refine p8_op ho h (by decide) (by omega) _ (fun σ2 h2 e2 => ?_)
    rw [if_neg (by decide)]
    refine HN (k + 1) σ2 _ h2 ⟨fun o1 σ3 v hv h3 e3 => ?_, fun o1 σ3 v h3 e3 => ?_⟩
    · rw [if_pos o1] at ht
      rw [forall_eq]
      have fin := fun (z : Int32) (hz : (if v = 0 then (1 : Int32) else 0) = z) => ht.1 rfl _ z (by subst hz; exact tx_vv_not hv) (p8_dn h3) ((e2.tr e3).tr (zmx.put _ _ (by omega)))
      by_cases v0 : v = 0
      · rw [if_pos v0] at fin ⊢; exact fin 1 rfl
      · rw [if_neg v0] at fin ⊢; exact fin 0 rfl
    · rw [if_neg o1] at ht
      rw [forall_eq]
      have fin := fun (z : Int32) => ht.2 (by simp) _ z (h3.dn (σ3.1 0 30 - 1)) ((e2.tr e3).tr (zmx.put _ _ (by omega)))
      by_cases v0 : v = 0
      · rw [if_pos v0]; exact fin 1
      · rw [if_neg v0]; exact fin 0
  rw [if_neg c9] at ht
  rw [if_neg c9, if_pos rfl]
  unfold tx_cm at ht
  refine H k σ _ h ⟨fun o1 σ2 v hv h2 e2 => ?_, fun o1 σ2 v h2 e2 => ?_⟩
  rotate_left
  · rw [if_neg o1] at ht
    rw [p8_isSign_b h2.1, if_pos rfl, p8_isSign_b h2.1, if_pos rfl]
    exact ht.2 (by simp) σ2 v h2 e2
  rw [if_pos o1] at ht
  have s2 : ∀ R : Int32 → zSt → Prop, wX8_isSign 60 σ2 R = R (if tx_kd T n (f k).2.2 = 60 then 1 else 0) σ2 := fun R => p8_sg ho h2 60 (by omega) R
  have s3 : ∀ R : Int32 → zSt → Prop, wX8_isSign 61 σ2 R = R (if tx_kd T n (f k).2.2 = 61 then 1 else 0) σ2 := fun R => p8_sg ho h2 61 (by omega) R
  rw [s2]
  by_cases c1 : tx_kd T n (f k).2.2 = 60
  · have o0 : tx_o3 (tx_kd T n (f k).2.2) = -12 := by rw [c1]; rfl
    rw [o0, if_neg (by decide)] at ht
    have g2 := p8_sgn2 ho h2 (s := 60) (by omega) c1
    rw [if_pos c1, if_neg (by decide), g2, if_pos (show lg_cmp (lN 60) 60 = 0 by decide +kernel)]
    refine p8_nx ho h2 (by omega) _ (fun σ3 h3 e3 => ?_)
    refine H ((f k).2.2 + 1) σ3 _ h3 ⟨fun o2 σ4 w hw h4 e4 => ?_, fun o2 σ4 w h4 e4 => ?_⟩
    · rw [if_pos o2] at ht
      have fin := fun (z : Int32) (hz : zop (-12) v w = z) => ht.1 rfl σ4 z (by subst hz; exact tx_vv_bin hv hw (by decide)) h4 ((e2.tr e3).tr e4)
      by_cases l0 : w ≤ v
      · rw [if_pos l0]
        refine fin 0 ?_
        rw [zlop.2.2.2.1, if_neg (fun z => by rw [Int32.le_iff_toInt_le] at l0; rw [Int32.lt_iff_toInt_lt] at z; omega)]
      · rw [if_neg l0]
        refine fin 1 ?_
        rw [zlop.2.2.2.1, if_pos (by rw [Int32.le_iff_toInt_le] at l0; rw [Int32.lt_iff_toInt_lt]; omega)]
    · rw [if_neg o2] at ht
      have fin := fun (z : Int32) => ht.2 (by simp) σ4 z h4 ((e2.tr e3).tr e4)
      by_cases l0 : w ≤ v
      · rw [if_pos l0]; exact fin 0
      · rw [if_neg l0]; exact fin 1
  rw [if_neg c1, if_pos rfl, s3]
  by_cases c2 : tx_kd T n (f k).2.2 = 61
  · have o0 : tx_o3 (tx_kd T n (f k).2.2) = -13 := by rw [c2]; rfl
    rw [o0, if_neg (by decide)] at ht
    have g2 := p8_sgn2 ho h2 (s := 61) (by omega) c2
    rw [if_pos c2, if_neg (by decide), g2, if_neg (show ¬ lg_cmp (lN 61) 60 = 0 by decide +kernel)]
    refine p8_nx ho h2 (by omega) _ (fun σ3 h3 e3 => ?_)
    refine H ((f k).2.2 + 1) σ3 _ h3 ⟨fun o2 σ4 w hw h4 e4 => ?_, fun o2 σ4 w h4 e4 => ?_⟩
    · rw [if_pos o2] at ht
      have fin := fun (z : Int32) (hz : zop (-13) v w = z) => ht.1 rfl σ4 z (by subst hz; exact tx_vv_bin hv hw (by decide)) h4 ((e2.tr e3).tr e4)
      by_cases l0 : v = w
      · rw [if_pos l0]
        refine fin 1 ?_
        rw [zlop.2.2.2.2.1, if_pos l0]
      · rw [if_neg l0]
        refine fin 0 ?_
        rw [zlop.2.2.2.2.1, if_neg l0]
    · rw [if_neg o2] at ht
      have fin := fun (z : Int32) => ht.2 (by simp) σ4 z h4 ((e2.tr e3).tr e4)
      by_cases l0 : v = w
      · rw [if_pos l0]; exact fin 1
      · rw [if_neg l0]; exact fin 0
  have o0 : tx_o3 (tx_kd T n (f k).2.2) = 0 := by unfold tx_o3; rw [if_neg c1, if_neg c2]
  rw [if_pos o0] at ht
  rw [if_neg c2, if_pos rfl]
  exact ht.1 rfl σ2 v hv h2 e2
theorem tm_both1_L {i n : Nat} {T : Nat → Nat} {names : Nat → Int32} (ho : tm_ok i n T) {f : Nat → tx_R} (H : tm_S i n T names 1 wX8_not1 f) (hf : tx_fw f) (σ0 : zSt) (Q K : Int32 → zSt → Prop) : ∀ (g : Nat) (c : List Int32) (k m : Nat) (x : Int32) (σ : zSt), 161 ≤ g + k → g < m → tm_R i n T names 1 k σ → zmx σ0 σ → tx_vv names c x → tm_out i n T names 1 σ0 (tx_lp (tx_kd T n) tx_o4 f g c k) K → wX8_both1_L5 Q K m x σ := by
  intro g
  induction g with
  | zero =>
    intro c k m x σ hg hm h e hv ht
    obtain ⟨m, rfl⟩ : ∃ m', m = m' + 1 := ⟨m - 1, by omega⟩
    have k0 : tx_kd T n k = 0 := Classical.byContradiction (fun z => by have := tx_lt160 T n ho.2.1 k z; have := ho.2.1; omega)
    have s1 : ∀ R : Int32 → zSt → Prop, wX8_isWord 97 110 100 0 0 0 0 0 σ R = R (if tx_kd T n k = 8 then 1 else 0) σ := fun R => p8_wd ho h (w := 11) (by omega) R
    rw [wX8_both1_L5]
    rw [s1, if_neg (show ¬ tx_kd T n k = 8 by omega), if_pos rfl]
    exact ht.1 rfl σ x hv h e
  | succ g ih =>
    intro c k m x σ hg hm h e hv ht
    obtain ⟨m, rfl⟩ : ∃ m', m = m' + 1 := ⟨m - 1, by omega⟩
    have s1 : ∀ R : Int32 → zSt → Prop, wX8_isWord 97 110 100 0 0 0 0 0 σ R = R (if tx_kd T n k = 8 then 1 else 0) σ := fun R => p8_wd ho h (w := 11) (by omega) R
    rw [tx_lp] at ht
    rw [wX8_both1_L5]
    rw [s1]
    by_cases c1 : tx_kd T n k = 8
    · have o0 : tx_o4 (tx_kd T n k) = -14 := by rw [c1]; rfl
      rw [o0, if_neg (by decide)] at ht
      rw [if_pos c1, if_neg (by decide)]
      refine p8_nx ho h (by omega) _ (fun σ1 h1 e1 => ?_)
      refine H (k + 1) σ1 _ h1 ⟨fun o1 σ2 v hv2 h2 e2 => ?_, fun o1 σ2 v h2 e2 => ?_⟩
      · rw [if_pos o1] at ht
        have := (hf (k + 1) o1).1
        have go : ∀ z : Int32, zop (-14) x v = z → wX8_both1_L5 Q K m z σ2 := fun z hz => by
          subst hz
          exact ih _ _ m _ σ2 (by omega) (by omega) h2 ((e.tr e1).tr e2) (tx_vv_bin hv hv2 (by decide)) ht
        have ev := zlop.2.2.2.2.2.1 x v
        by_cases x0 : x = 0
        · rw [if_pos x0]
          rw [if_pos x0] at ev
          exact go 0 ev
        rw [if_neg x0]
        rw [if_neg x0] at ev
        by_cases y0 : v = 0
        · rw [if_pos y0]
          rw [if_pos y0] at ev
          exact go 0 ev
        · rw [if_neg y0]
          rw [if_neg y0] at ev
          exact go 1 ev
      · rw [if_neg o1] at ht
        obtain ⟨m, rfl⟩ : ∃ m', m = m' + 1 := ⟨m - 1, by omega⟩
        have bad : ∀ z : Int32, wX8_both1_L5 Q K (m + 1) z σ2 := fun z => by
          rw [wX8_both1_L5, p8_isWord_b h2.1, if_pos rfl]
          exact ht.2 (by simp) σ2 _ h2 ((e.tr e1).tr e2)
        by_cases x0 : x = 0
        · rw [if_pos x0]; exact bad 0
        · rw [if_neg x0]
          by_cases y0 : v = 0
          · rw [if_pos y0]; exact bad 0
          · rw [if_neg y0]; exact bad 1
    · have o0 : tx_o4 (tx_kd T n k) = 0 := by unfold tx_o4; rw [if_neg c1]
      rw [if_pos o0] at ht
      rw [if_neg c1, if_pos rfl]
      exact ht.1 rfl σ x hv h e
theorem tm_both1 {i n : Nat} {T : Nat → Nat} {names : Nat → Int32} (ho : tm_ok i n T) {f : Nat → tx_R} (H : tm_S i n T names 1 wX8_not1 f) (hf : tx_fw f) : tm_S i n T names 1 wX8_both1 (tx_ch (tx_kd T n) tx_o4 f) := by
  intro k σ Q h ht
  unfold wX8_both1
  unfold tx_ch at ht
  refine H k σ _ h ⟨fun o1 σ2 v hv2 h2 e2 => ?_, fun o1 σ2 v h2 e2 => ?_⟩
  · rw [if_pos o1] at ht
    exact tm_both1_L ho H hf σ Q _ 200 _ _ 300 v σ2 (by omega) (by omega) h2 e2 hv2 ht
  · rw [if_neg o1] at ht
    rw [show (300 : Nat) = 299 + 1 from rfl, wX8_both1_L5, p8_isWord_b h2.1, if_pos rfl]
    exact ht.2 (by simp) σ2 v h2 e2
theorem tm_either1_L {i n : Nat} {T : Nat → Nat} {names : Nat → Int32} (ho : tm_ok i n T) {f : Nat → tx_R} (H : tm_S i n T names 1 wX8_both1 f) (hf : tx_fw f) (σ0 : zSt) (Q K : Int32 → zSt → Prop) : ∀ (g : Nat) (c : List Int32) (k m : Nat) (x : Int32) (σ : zSt), 161 ≤ g + k → g < m → tm_R i n T names 1 k σ → zmx σ0 σ → tx_vv names c x → tm_out i n T names 1 σ0 (tx_lp (tx_kd T n) tx_o5 f g c k) K → wX8_either1_L5 Q K m x σ := by
  intro g
  induction g with
  | zero =>
    intro c k m x σ hg hm h e hv ht
    obtain ⟨m, rfl⟩ : ∃ m', m = m' + 1 := ⟨m - 1, by omega⟩
    have k0 : tx_kd T n k = 0 := Classical.byContradiction (fun z => by have := tx_lt160 T n ho.2.1 k z; have := ho.2.1; omega)
    have s1 : ∀ R : Int32 → zSt → Prop, wX8_isWord 111 114 0 0 0 0 0 0 σ R = R (if tx_kd T n k = 7 then 1 else 0) σ := fun R => p8_wd ho h (w := 10) (by omega) R
    rw [wX8_either1_L5]
    rw [s1, if_neg (show ¬ tx_kd T n k = 7 by omega), if_pos rfl]
    exact ht.1 rfl σ x hv h e
  | succ g ih =>
    intro c k m x σ hg hm h e hv ht
    obtain ⟨m, rfl⟩ : ∃ m', m = m' + 1 := ⟨m - 1, by omega⟩
    have s1 : ∀ R : Int32 → zSt → Prop, wX8_isWord 111 114 0 0 0 0 0 0 σ R = R (if tx_kd T n k = 7 then 1 else 0) σ := fun R => p8_wd ho h (w := 10) (by omega) R
    rw [tx_lp] at ht
    rw [wX8_either1_L5]
    rw [s1]
    by_cases c1 : tx_kd T n k = 7
    · have o0 : tx_o5 (tx_kd T n k) = -15 := by rw [c1]; rfl
      rw [o0, if_neg (by decide)] at ht
      rw [if_pos c1, if_neg (by decide)]
      refine p8_nx ho h (by omega) _ (fun σ1 h1 e1 => ?_)
      refine H (k + 1) σ1 _ h1 ⟨fun o1 σ2 v hv2 h2 e2 => ?_, fun o1 σ2 v h2 e2 => ?_⟩
      · rw [if_pos o1] at ht
        have := (hf (k + 1) o1).1
        have go : ∀ z : Int32, zop (-15) x v = z → wX8_either1_L5 Q K m z σ2 := fun z hz => by
          subst hz
          exact ih _ _ m _ σ2 (by omega) (by omega) h2 ((e.tr e1).tr e2) (tx_vv_bin hv hv2 (by decide)) ht
        have ev := zlop.2.2.2.2.2.2 x v
        by_cases x0 : x = 0
        · rw [if_pos x0]
          rw [if_pos x0] at ev
          by_cases y0 : v = 0
          · rw [if_pos y0]
            rw [if_pos y0] at ev
            exact go 0 ev
          · rw [if_neg y0]
            rw [if_neg y0] at ev
            exact go 1 ev
        rw [if_neg x0]
        rw [if_neg x0] at ev
        exact go 1 ev
      · rw [if_neg o1] at ht
        obtain ⟨m, rfl⟩ : ∃ m', m = m' + 1 := ⟨m - 1, by omega⟩
        have bad : ∀ z : Int32, wX8_either1_L5 Q K (m + 1) z σ2 := fun z => by
          rw [wX8_either1_L5, p8_isWord_b h2.1, if_pos rfl]
          exact ht.2 (by simp) σ2 _ h2 ((e.tr e1).tr e2)
        by_cases x0 : x = 0
        · rw [if_pos x0]
          by_cases y0 : v = 0
          · rw [if_pos y0]; exact bad 0
          · rw [if_neg y0]; exact bad 1
        · rw [if_neg x0]; exact bad 1
    · have o0 : tx_o5 (tx_kd T n k) = 0 := by unfold tx_o5; rw [if_neg c1]
      rw [if_pos o0] at ht
      rw [if_neg c1, if_pos rfl]
      exact ht.1 rfl σ x hv h e
theorem tm_either1 {i n : Nat} {T : Nat → Nat} {names : Nat → Int32} (ho : tm_ok i n T) {f : Nat → tx_R} (H : tm_S i n T names 1 wX8_both1 f) (hf : tx_fw f) : tm_S i n T names 1 wX8_either1 (tx_ch (tx_kd T n) tx_o5 f) := by
  intro k σ Q h ht
  unfold wX8_either1
  unfold tx_ch at ht
  refine H k σ _ h ⟨fun o1 σ2 v hv2 h2 e2 => ?_, fun o1 σ2 v h2 e2 => ?_⟩
  · rw [if_pos o1] at ht
    exact tm_either1_L ho H hf σ Q _ 200 _ _ 300 v σ2 (by omega) (by omega) h2 e2 hv2 ht
  · rw [if_neg o1] at ht
    rw [show (300 : Nat) = 299 + 1 from rfl, wX8_either1_L5, p8_isWord_b h2.1, if_pos rfl]
    exact ht.2 (by simp) σ2 v h2 e2
theorem tm_lev1 {i n : Nat} {T : Nat → Nat} {names : Nat → Int32} (ho : tm_ok i n T) : tm_S i n T names 1 wX8_either1 (tx_lev (tx_kd T n) (tx_vl T n) 4).1 ∧ tm_S i n T names 1 wX8_not1 (tx_lev (tx_kd T n) (tx_vl T n) 4).2.1 ∧ tm_S i n T names 1 wX8_atom1 (tx_lev (tx_kd T n) (tx_vl T n) 4).2.2 := by
  obtain ⟨p1, p2, p3⟩ := tm_lev2 (i := i) (names := names) ho
  have h1 := tm_atom1 ho p1 p3
  have g1 := (tx_lev_fw (tx_kd T n) (tx_vl T n) 4).2.2
  have g4 := (tx_lev_fw (tx_kd T n) (tx_vl T n) 4).2.1
  have h2 := tm_term1 ho h1 g1
  have h3 := tm_added1 ho h2 (tx_ch_fw g1)
  have h4 := tm_not1 ho h3 p2
  have h5 := tm_both1 ho h4 g4
  exact ⟨tm_either1 ho h5 (tx_ch_fw g4), h4, h1⟩
