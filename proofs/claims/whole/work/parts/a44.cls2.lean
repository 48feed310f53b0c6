/-! comers of a minute -/
def zy_t (P : zP) (i b e : Nat) : Nat := if P.2.1 i b = true then P.2.2.2.1 i (P.2.2.1 i) else if 4 ≤ i then P.2.2.2.1 i e else 0
def zy_scp (P : zP) (s k b e : Nat) : Nat := zsum (fun i => if P.1 i = true ∧ (s + 1 ≤ P.2.2.1 i ∨ (P.2.2.1 i = s ∧ i < k)) ∧ P.2.2.1 i < e then zy_t P i b e else 0) 8
def zy_swp (P : zP) (s k b e : Nat) : Nat := zmask (fun i => P.1 i && decide (s + 1 ≤ P.2.2.1 i ∨ (P.2.2.1 i = s ∧ i < k)) && decide (P.2.2.1 i < e) && !P.2.1 i b) 4
theorem zsum_upd {f g : Nat → Nat} {i t : Nat} : ∀ n, i < n → (∀ j, j ≠ i → g j = f j) → f i = 0 → g i = t → zsum g n = zsum f n + t := by
  intro n
  induction n with
  | zero => intro h; omega
  | succ n ih =>
    intro h h1 h2 h3
    rw [zsum, zsum]
    by_cases c : i = n
    · subst c
      rw [h2, h3, zsum_ext i (fun j hj => h1 j (by omega)), Nat.add_zero]
    · rw [ih (by omega) h1 h2 h3, h1 n (fun z => c z.symm)]
      omega
theorem zy_scp_s {P : zP} {s k b e : Nat} (hk : k < 8) (hp : P.1 k = true) (hf : P.2.2.1 k = s) (he : s < e) : zy_scp P s (k + 1) b e = zy_scp P s k b e + zy_t P k b e := by
  unfold zy_scp
  refine zsum_upd 8 hk (fun j hj => ?_) ?_ ?_
  · have e1 : (P.2.2.1 j = s ∧ j < k + 1) ↔ (P.2.2.1 j = s ∧ j < k) := by omega
    simp only [e1]
  · rw [if_neg]; omega
  · rw [if_pos ⟨hp, by omega, by omega⟩]
theorem zy_scp_n {P : zP} {s k b e : Nat} (h : ¬ (P.1 k = true ∧ P.2.2.1 k = s ∧ s < e)) : zy_scp P s (k + 1) b e = zy_scp P s k b e := by
  unfold zy_scp
  refine zsum_ext 8 (fun j _ => ?_)
  by_cases c : j = k
  · subst c
    by_cases hp : P.1 j = true
    · have : (P.1 j = true ∧ (s + 1 ≤ P.2.2.1 j ∨ (P.2.2.1 j = s ∧ j < j + 1)) ∧ P.2.2.1 j < e) ↔ (P.1 j = true ∧ (s + 1 ≤ P.2.2.1 j ∨ (P.2.2.1 j = s ∧ j < j)) ∧ P.2.2.1 j < e) := by
        simp only [hp, true_and] at h ⊢
        omega
      simp only [this]
    · simp [hp]
  · have e1 : (P.2.2.1 j = s ∧ j < k + 1) ↔ (P.2.2.1 j = s ∧ j < k) := by omega
    simp only [e1]
theorem zy_swp_bit (P : zP) (s k b e i : Nat) : (zy_swp P s k b e).testBit i = (decide (i < 4) && (P.1 i && decide (s + 1 ≤ P.2.2.1 i ∨ (P.2.2.1 i = s ∧ i < k)) && decide (P.2.2.1 i < e) && !P.2.1 i b)) := zmask_bit _ 4 i
theorem zy_swp_s {P : zP} {s k b e : Nat} (hk : k < 4) (hp : P.1 k = true) (hf : P.2.2.1 k = s) (he : s < e) (hpa : P.2.1 k b = false) : zy_swp P s (k + 1) b e = zy_swp P s k b e ||| 2 ^ k := by
  apply Nat.eq_of_testBit_eq
  intro i
  rw [Nat.testBit_or, zy_swp_bit, zy_swp_bit, Nat.testBit_two_pow]
  by_cases c : k = i
  · subst c
    have e2 : P.2.2.1 k < e := by omega
    simp [hk, hp, hf, hpa, he]
  · have e1 : (P.2.2.1 i = s ∧ i < k + 1) ↔ (P.2.2.1 i = s ∧ i < k) := by omega
    simp [e1, c]
theorem zy_swp_n {P : zP} {s k b e : Nat} (h : ¬ (k < 4 ∧ P.1 k = true ∧ P.2.2.1 k = s ∧ s < e ∧ P.2.1 k b = false)) : zy_swp P s (k + 1) b e = zy_swp P s k b e := by
  apply Nat.eq_of_testBit_eq
  intro i
  rw [zy_swp_bit, zy_swp_bit]
  by_cases c : i = k
  · subst c
    by_cases h4 : i < 4
    · cases hp : P.1 i with
      | false => simp
      | true =>
        cases hpa : P.2.1 i b with
        | true => simp
        | false =>
          by_cases he : P.2.2.1 i < e
          · have : ¬ P.2.2.1 i = s := fun z => h ⟨h4, hp, z, by omega, hpa⟩
            simp [this]
          · simp [he]
    · simp [h4]
  · have e1 : (P.2.2.1 i = s ∧ i < k + 1) ↔ (P.2.2.1 i = s ∧ i < k) := by omega
    simp only [e1]
theorem zy_scp_0 (P : zP) (s b e : Nat) : zy_scp P s 0 b e = zy_sc P (s + 1) b e := by
  unfold zy_scp zy_sc
  refine zsum_ext 8 (fun j _ => ?_)
  have : (s + 1 ≤ P.2.2.1 j ∨ (P.2.2.1 j = s ∧ j < 0)) ↔ s + 1 ≤ P.2.2.1 j := by omega
  simp only [this]
  rfl
theorem zy_scp_8 (P : zP) (s b e : Nat) : zy_scp P s 8 b e = zy_sc P s b e := by
  unfold zy_scp zy_sc
  refine zsum_ext 8 (fun j hj => ?_)
  have : (s + 1 ≤ P.2.2.1 j ∨ (P.2.2.1 j = s ∧ j < 8)) ↔ s ≤ P.2.2.1 j := by omega
  simp only [this]
  rfl
theorem zy_swp_0 (P : zP) (s b e : Nat) : zy_swp P s 0 b e = zy_sw P (s + 1) b e := by
  apply Nat.eq_of_testBit_eq
  intro i
  rw [zy_swp_bit, zy_sw_bit]
  have : (s + 1 ≤ P.2.2.1 i ∨ (P.2.2.1 i = s ∧ i < 0)) ↔ s + 1 ≤ P.2.2.1 i := by omega
  simp only [this]
theorem zy_swp_8 (P : zP) (s b e : Nat) : zy_swp P s 8 b e = zy_sw P s b e := by
  apply Nat.eq_of_testBit_eq
  intro i
  rw [zy_swp_bit, zy_sw_bit]
  by_cases h4 : i < 4
  · have : (s + 1 ≤ P.2.2.1 i ∨ (P.2.2.1 i = s ∧ i < 8)) ↔ s ≤ P.2.2.1 i := by omega
    simp only [this]
  · simp [h4]
/-- what the class's day, prices and spans hold -/
def cS (P : zP) (s : Nat) (σ : zSt) : Prop := ∀ b e, b < 3 → e ≤ 24 → σ.1 34 (b * 25 + e) = nI (zy_sc P s b e) ∧ σ.1 35 (b * 25 + e) = nI (zy_sw P s b e)
def cSp (P : zP) (s i b0 e0 : Nat) (σ : zSt) : Prop := ∀ b e, b < 3 → e ≤ 24 → σ.1 34 (b * 25 + e) = nI (zy_scp P s (if b < b0 ∨ (b = b0 ∧ e < e0) then i + 1 else i) b e) ∧ σ.1 35 (b * 25 + e) = nI (zy_swp P s (if b < b0 ∨ (b = b0 ∧ e < e0) then i + 1 else i) b e)
/-- only the spans have changed -/
def cq (σ σ' : zSt) : Prop := ∀ o, o ≠ 34 → o ≠ 35 → σ'.1 o = σ.1 o
theorem cq.tr {σ σ' σ'' : zSt} (e : cq σ σ') (f : cq σ' σ'') : cq σ σ'' := fun o a b => (f o a b).trans (e o a b)
theorem cq.rf (σ : zSt) : cq σ σ := fun _ _ _ => rfl
theorem p4_comer_L {D : zD} {co : Nat → Nat → Nat} {ch : Nat → Nat → Nat → Nat} {i s b : Nat} (h8 : i < 8) (hs : s < 24) (hb : b < 3) (hp : zPr D i = true) (hf : D 2 i = s) {σ0 : zSt} (hT : cT (zpar D co ch) σ0) (Q K : zSt → Prop) (hK : ∀ σ', cq σ0 σ' → cSp (zpar D co ch) s i (b + 1) 0 σ' → K σ') : ∀ (j e f : Nat) (σ : zSt), e + j = 25 → s < e → j < f → cq σ0 σ → cSp (zpar D co ch) s i b e σ → wX4_addComer_L16 Q K (nI i) (nI s) (nI b) (if zPa D i b = true then 1 else 0) f (nI e) σ := by
  intro j
  induction j with
  | zero =>
    intro e f σ h1 h0 h2 hq t
    obtain ⟨f, rfl⟩ : ∃ n', f = n' + 1 := ⟨f - 1, by omega⟩
    have : e = 25 := by omega
    subst this
    rw [wX4_addComer_L16, if_pos (by decide)]
    refine hK σ hq (fun b' e' q1 q2 => ?_)
    have := t b' e' q1 q2
    by_cases c : b' < b ∨ (b' = b ∧ e' < 25)
    · rw [if_pos c] at this
      rw [if_pos (by omega)]
      exact this
    · rw [if_neg c] at this
      rw [if_neg (by omega)]
      exact this
  | succ j ih =>
    intro e f σ h1 h0 h2 hq t
    obtain ⟨f, rfl⟩ : ∃ n', f = n' + 1 := ⟨f - 1, by omega⟩
    have hv : vp_in (nI (b * 25 + e)) 75 := zin' (by omega) (by omega)
    have hv2 : vp_in (nI (i * 25 + e)) 200 := zin' (by omega) (by omega)
    have hv3 : vp_in (nI (i * 25 + s)) 200 := zin' (by omega) (by omega)
    have e25 : ∀ a c : Nat, nI a * (25 : Int32) + nI c = nI (a * 25 + c) := fun a c => by rw [show (25 : Int32) = nI 25 from rfl, pk_mul, nI_add]
    have t0 := t b e hb (by omega)
    rw [if_neg (show ¬ (b < b ∨ (b = b ∧ e < e)) by omega)] at t0
    have o29 : σ.1 29 = σ0.1 29 := hq 29 (by decide) (by decide)
    have st1 := zy_scp_s (P := zpar D co ch) (s := s) (k := i) (b := b) (e := e) h8 hp hf h0
    have next : ∀ σ' : zSt, cq σ σ' → (∀ k, k ≠ b * 25 + e → σ'.1 34 k = σ.1 34 k ∧ σ'.1 35 k = σ.1 35 k) → σ'.1 34 (b * 25 + e) = nI (zy_scp (zpar D co ch) s (i + 1) b e) → σ'.1 35 (b * 25 + e) = nI (zy_swp (zpar D co ch) s (i + 1) b e) → wX4_addComer_L16 Q K (nI i) (nI s) (nI b) (if zPa D i b = true then 1 else 0) f (nI (e + 1)) σ' := by
      intro σ' q1 q2 q3 q4
      refine ih (e + 1) f σ' (by omega) (by omega) (by omega) (hq.tr q1) (fun b' e' p1 p2 => ?_)
      by_cases c : b' = b ∧ e' = e
      · obtain ⟨rfl, rfl⟩ := c
        rw [if_pos (by omega)]
        exact ⟨q3, q4⟩
      · obtain ⟨w1, w2⟩ := q2 (b' * 25 + e') (by omega)
        rw [w1, w2]
        have := t b' e' p1 p2
        by_cases c2 : b' < b ∨ (b' = b ∧ e' < e)
        · rw [if_pos c2] at this
          rw [if_pos (by omega)]
          exact this
        · rw [if_neg c2] at this
          rw [if_neg (by omega)]
          exact this
    rw [wX4_addComer_L16, if_neg (show ¬ (25 : Int32) ≤ nI e from nI_ge (b := 25) (by omega) (by omega)), forall_eq, e25, e25, e25, zcl (by omega), zcl (by omega), zcl (by omega), t0.1, t0.2, o29]
    simp only [hv, hv2, hv3, true_and, forall_eq, nI_1]
    by_cases cp : zPa D i b = true
    · have et : zy_t (zpar D co ch) i b e = co i s := by
        unfold zy_t
        rw [if_pos (show (zpar D co ch).2.1 i b = true from cp)]
        show co i (D 2 i) = co i s
        rw [hf]
      have nc : nI (zy_scp (zpar D co ch) s i b e) + σ0.1 29 (i * 25 + s) = nI (zy_scp (zpar D co ch) s (i + 1) b e) := by
        rw [hT.1 i s h8 (by omega) hp (by show D 2 i ≤ s; omega), st1, et, nI_add]
        rfl
      have ns := zy_swp_n (P := zpar D co ch) (s := s) (k := i) (b := b) (e := e) (fun z => by
        have := z.2.2.2.2
        rw [show (zpar D co ch).2.1 i b = zPa D i b from rfl, cp] at this
        simp at this)
      rw [if_pos cp, if_neg (by decide), nc]
      rw [if_pos cp] at next
      refine next _ (fun o a b => zput_ne a) (fun k hk => ⟨by rw [zput_at, if_neg (fun z => hk z.2)], by rw [zput_ne (by decide)]⟩) (by rw [zput_at, if_pos ⟨rfl, rfl⟩]) ?_
      rw [zput_ne (by decide), t0.2, ns]
    · have cp' : zPa D i b = false := by simpa using cp
      rw [if_neg cp, if_pos rfl]
      rw [if_neg cp] at next
      by_cases c4 : i < 4
      · have et : zy_t (zpar D co ch) i b e = 0 := by
          unfold zy_t
          rw [if_neg (show ¬ (zpar D co ch).2.1 i b = true from cp), if_neg (by omega)]
        rw [if_pos (show nI i < (4 : Int32) from nI_lt (b := 4) c4 (by omega)), zb_put h8, ← zy_swp_s (P := zpar D co ch) c4 hp hf h0 cp']
        refine next _ (fun o a b => zput_ne b) (fun k hk => ⟨by rw [zput_ne (by decide)], by rw [zput_at, if_neg (fun z => hk z.2)]⟩) ?_ (by rw [zput_at, if_pos ⟨rfl, rfl⟩])
        rw [zput_ne (by decide), t0.1, st1, et, Nat.add_zero]
      · have et : zy_t (zpar D co ch) i b e = co i e := by
          unfold zy_t
          rw [if_neg (show ¬ (zpar D co ch).2.1 i b = true from cp), if_pos (by omega)]
          rfl
        have nc : nI (zy_scp (zpar D co ch) s i b e) + σ0.1 29 (i * 25 + e) = nI (zy_scp (zpar D co ch) s (i + 1) b e) := by
          rw [hT.1 i e h8 (by omega) hp (by show D 2 i ≤ e; omega), st1, et, nI_add]
          rfl
        have ns := zy_swp_n (P := zpar D co ch) (s := s) (k := i) (b := b) (e := e) (fun z => c4 z.1)
        rw [if_neg (show ¬ nI i < (4 : Int32) from nI_nlt (b := 4) (by omega) (by omega)), nc]
        refine next _ (fun o a b => zput_ne a) (fun k hk => ⟨by rw [zput_at, if_neg (fun z => hk z.2)], by rw [zput_ne (by decide)]⟩) (by rw [zput_at, if_pos ⟨rfl, rfl⟩]) ?_
        rw [zput_ne (by decide), t0.2, ns]
theorem p4_comers {D : zD} {co : Nat → Nat → Nat} {ch : Nat → Nat → Nat → Nat} {s : Nat} (hs : s < 24) {σ0 : zSt} (hD : zDX 1 D σ0) (hO : zOk D) (hT : cT (zpar D co ch) σ0) (hS : cS (zpar D co ch) (s + 1) σ0) (Q : zSt → Prop) (hQ : ∀ σ', cq σ0 σ' → cS (zpar D co ch) s σ' → Q σ') : wX4_addComers (nI s) σ0 Q := by
  have dd : ∀ {σ : zSt}, cq σ0 σ → zDX 1 D σ := fun {σ} e => hD.fr (fun k hk => e _ (by omega) (by omega))
  have L2 : ∀ (i : Nat), i < 8 → zPr D i = true → D 2 i = s → ∀ (R : zSt → Prop), (∀ σ', cq σ0 σ' → cSp (zpar D co ch) s (i + 1) 0 0 σ' → R σ') → ∀ (j b f : Nat) (σ : zSt), b + j = 3 → j < f → cq σ0 σ → cSp (zpar D co ch) s i b 0 σ → wX4_addComers_L34 Q R (nI s) (nI i) f (nI b) σ := by
    intro i h8 hp hf R hR j
    induction j with
    | zero =>
      intro b f σ h1 h2 hq t
      obtain ⟨f, rfl⟩ : ∃ n', f = n' + 1 := ⟨f - 1, by omega⟩
      have : b = 3 := by omega
      subst this
      rw [wX4_addComers_L34, if_pos (by decide)]
      refine hR σ hq (fun b' e' q1 q2 => ?_)
      have := t b' e' q1 q2
      rw [if_pos (by omega)] at this
      rw [if_neg (by omega)]
      exact this
    | succ j ih =>
      intro b f σ h1 h2 hq t
      obtain ⟨f, rfl⟩ : ∃ n', f = n' + 1 := ⟨f - 1, by omega⟩
      rw [wX4_addComers_L34, if_neg (show ¬ (3 : Int32) ≤ nI b from nI_ge (b := 3) (by omega) (by omega))]
      unfold wX4_addComer
      rw [p1_passes (dd hq) hO h8 (by omega), forall_eq, nI_1 s]
      refine p4_comer_L (b := b) h8 hs (by omega) hp hf hT _ _ (fun σ' q' t' => ?_) (24 - s) (s + 1) 300 σ (by omega) (by omega) (by omega) hq (fun b' e' q1 q2 => ?_)
      · dsimp only
        rw [forall_eq, nI_1]
        exact ih (b + 1) f σ' (by omega) (by omega) q' t'
      · have := t b' e' q1 q2
        by_cases c : b' < b
        · rw [if_pos (by omega)] at this ⊢
          exact this
        · rw [if_neg (by omega)] at this
          by_cases c2 : b' = b ∧ e' < s + 1
          · rw [if_pos (by omega), zy_scp_n (fun z => by have := z.2.2; omega), zy_swp_n (fun z => by have := z.2.2.2.1; omega)]
            exact this
          · rw [if_neg (by omega)]
            exact this
  have L : ∀ (j i f : Nat) (σ : zSt), i + j = 8 → j < f → cq σ0 σ → cSp (zpar D co ch) s i 0 0 σ → wX4_addComers_L2 Q (fun σ110 => Q σ110) (nI s) f (nI i) σ := by
    intro j
    induction j with
    | zero =>
      intro i f σ h1 h2 hq t
      obtain ⟨f, rfl⟩ : ∃ n', f = n' + 1 := ⟨f - 1, by omega⟩
      have : i = 8 := by omega
      subst this
      rw [wX4_addComers_L2, if_pos (by decide)]
      refine hQ σ hq (fun b' e' q1 q2 => ?_)
      have := t b' e' q1 q2
      rw [if_neg (by omega), zy_scp_8, zy_swp_8] at this
      exact this
    | succ j ih =>
      intro i f σ h1 h2 hq t
      obtain ⟨f, rfl⟩ : ∃ n', f = n' + 1 := ⟨f - 1, by omega⟩
      have h8 : i < 8 := by omega
      have hv : vp_in (nI i) 8 := zin' h8 (by omega)
      have o := hO.2.1 i h8
      have skip : ¬ (zPr D i = true ∧ D 2 i = s) → wX4_addComers_L2 Q (fun σ110 => Q σ110) (nI s) f (nI (i + 1)) σ := fun q => by
        refine ih (i + 1) f σ (by omega) (by omega) hq (fun b' e' q1 q2 => ?_)
        have := t b' e' q1 q2
        rw [if_neg (by omega)] at this ⊢
        rw [zy_scp_n (fun z => q ⟨z.1, z.2.1⟩), zy_swp_n (fun z => q ⟨z.2.1, z.2.2.1⟩)]
        exact this
      rw [wX4_addComers_L2, if_neg (show ¬ (8 : Int32) ≤ nI i from nI_ge (b := 8) h8 (by omega)), p1_isThere (dd hq) hO h8, zcl (by omega), show σ.1 5 i = nI (D 2 i) from ((dd hq).2.1 i h8).2.1]
      simp only [hv, true_and, forall_eq, nI_1]
      by_cases c1 : zPr D i = true
      rotate_left
      · rw [if_neg c1, if_pos rfl]; exact skip (fun z => c1 z.1)
      rw [if_pos c1, if_neg (by decide)]
      by_cases c2 : D 2 i = s
      rotate_left
      · rw [if_neg (show ¬ nI (D 2 i) = nI s from fun z => c2 ((nI_eq (by omega) (by omega)).mp z))]; exact skip (fun z => c2 z.2)
      rw [if_pos (show nI (D 2 i) = nI s by rw [c2])]
      exact L2 i h8 c1 c2 _ (fun σ' q' t' => ih (i + 1) f σ' (by omega) (by omega) q' t') 3 0 300 σ (by omega) (by omega) hq t
  unfold wX4_addComers
  refine L 8 0 300 σ0 (by omega) (by omega) (cq.rf σ0) (fun b' e' q1 q2 => ?_)
  rw [if_neg (by omega), zy_scp_0, zy_swp_0]
  exact hS b' e' q1 q2
