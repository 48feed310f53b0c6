theorem RX.keep {A : zA} {σ σ' : zSt} (h : RX A σ) (e : ∀ o, o ≤ 18 ∨ o = 25 ∨ o = 28 ∨ o = 37 ∨ 43 ≤ o → σ'.1 o = σ.1 o) : RX A σ' := by
  obtain ⟨h1, h2, h3, h4, h5, h6, h7, h8⟩ := h
  have e0 : σ'.1 0 = σ.1 0 := e 0 (by omega)
  exact ⟨h1, h2.fr (fun k hk => e _ (by omega)), h3.fr (by rw [e0]) (fun k hk => e _ (by omega)), h4.fr (by rw [e0]) (e _ (by omega)), h5.fr (by rw [e0]) (fun i hi => e _ (by omega)) (fun i hi => e _ (by omega)) h1.2.2.2.1.2.1, h6.fr (fun i hi => e _ (by omega)) (fun i hi => e _ (by omega)), h7.fr (e _ (by omega)), h8.fr (e _ (by omega)) (e _ (by omega))⟩
theorem RX.row {A : zA} {σ : zSt} (h : RX A σ) : zIsRow 2 (A.1 0) σ := fun m hm => ⟨h.2.1.1 m hm, h.1.1.1 m hm⟩
theorem p1_thc_2_L {D : zD} {σ : zSt} (hD : zDX 1 D σ) (hO : zOk D) {row : Nat → Nat} (hr : zIsRow 2 row σ) (Q K : Int32 → zSt → Prop) : ∀ (k i n : Nat), i + k = 8 → k < n → wX1_throughCount_2_L4 Q K n (nI (zsum (fun i => if zPr D i = true ∧ zthr D row i < 24 then 1 else 0) i)) (nI i) σ = K (nI (zthc D row)) σ := by
  intro k
  induction k with
  | zero =>
    intro i n h1 h2
    obtain ⟨n, rfl⟩ : ∃ n', n = n' + 1 := ⟨n - 1, by omega⟩
    have : i = 8 := by omega
    subst this
    rw [wX1_throughCount_2_L4, if_pos (by decide)]
    rfl
  | succ k ih =>
    intro i n h1 h2
    obtain ⟨n, rfl⟩ : ∃ n', n = n' + 1 := ⟨n - 1, by omega⟩
    have e1 : nI i + 1 = nI (i + 1) := nI_1 i
    rw [wX1_throughCount_2_L4, if_neg (show ¬ (8 : Int32) ≤ nI i from nI_ge (b := 8) (by omega) (by omega)), p1_isThere hD hO (by omega)]
    have hb := (hO.2.1 i (by omega)).2.1
    have hle : zthr D row i ≤ 24 := (zthr_le D row i 25 (D 2 i) (by omega) (by omega)).1
    by_cases c : zPr D i = true
    · rw [if_pos c, if_neg (by decide), p1_through_2 hD hO hr (by omega)]
      simp only [forall_eq, e1]
      by_cases q : zthr D row i < 24
      · rw [if_neg (show ¬ (24 : Int32) ≤ nI (zthr D row i) from nI_ge (b := 24) q (by omega))]
        rw [← ih (i + 1) n (by omega) (by omega), zsum, if_pos ⟨c, q⟩, nI_1]
      · rw [if_pos (show (24 : Int32) ≤ nI (zthr D row i) from nI_le (a := 24) (by omega) (by omega))]
        rw [← ih (i + 1) n (by omega) (by omega), zsum, if_neg (fun z => q z.2)]
        rfl
    · rw [if_neg c, if_pos rfl]
      simp only [forall_eq, e1]
      rw [← ih (i + 1) n (by omega) (by omega), zsum, if_neg (fun z => c z.1)]
      rfl
theorem p1_thc_2 {D : zD} {σ : zSt} (hD : zDX 1 D σ) (hO : zOk D) {row : Nat → Nat} (hr : zIsRow 2 row σ) (Q : Int32 → zSt → Prop) : wX1_throughCount_2 σ Q = Q (nI (zthc D row)) σ := by
  unfold wX1_throughCount_2
  exact p1_thc_2_L hD hO hr Q _ 8 0 300 (by omega) (by omega)
theorem p1_thc_42_L {D : zD} {σ : zSt} (hD : zDX 1 D σ) (hO : zOk D) {row : Nat → Nat} (hr : zIsRow 42 row σ) (Q K : Int32 → zSt → Prop) : ∀ (k i n : Nat), i + k = 8 → k < n → wX1_throughCount_42_L4 Q K n (nI (zsum (fun i => if zPr D i = true ∧ zthr D row i < 24 then 1 else 0) i)) (nI i) σ = K (nI (zthc D row)) σ := by
  intro k
  induction k with
  | zero =>
    intro i n h1 h2
    obtain ⟨n, rfl⟩ : ∃ n', n = n' + 1 := ⟨n - 1, by omega⟩
    have : i = 8 := by omega
    subst this
    rw [wX1_throughCount_42_L4, if_pos (by decide)]
    rfl
  | succ k ih =>
    intro i n h1 h2
    obtain ⟨n, rfl⟩ : ∃ n', n = n' + 1 := ⟨n - 1, by omega⟩
    have e1 : nI i + 1 = nI (i + 1) := nI_1 i
    rw [wX1_throughCount_42_L4, if_neg (show ¬ (8 : Int32) ≤ nI i from nI_ge (b := 8) (by omega) (by omega)), p1_isThere hD hO (by omega)]
    have hb := (hO.2.1 i (by omega)).2.1
    have hle : zthr D row i ≤ 24 := (zthr_le D row i 25 (D 2 i) (by omega) (by omega)).1
    by_cases c : zPr D i = true
    · rw [if_pos c, if_neg (by decide), p1_through_42 hD hO hr (by omega)]
      simp only [forall_eq, e1]
      by_cases q : zthr D row i < 24
      · rw [if_neg (show ¬ (24 : Int32) ≤ nI (zthr D row i) from nI_ge (b := 24) q (by omega))]
        rw [← ih (i + 1) n (by omega) (by omega), zsum, if_pos ⟨c, q⟩, nI_1]
      · rw [if_pos (show (24 : Int32) ≤ nI (zthr D row i) from nI_le (a := 24) (by omega) (by omega))]
        rw [← ih (i + 1) n (by omega) (by omega), zsum, if_neg (fun z => q z.2)]
        rfl
    · rw [if_neg c, if_pos rfl]
      simp only [forall_eq, e1]
      rw [← ih (i + 1) n (by omega) (by omega), zsum, if_neg (fun z => c z.1)]
      rfl
theorem p1_thc_42 {D : zD} {σ : zSt} (hD : zDX 1 D σ) (hO : zOk D) {row : Nat → Nat} (hr : zIsRow 42 row σ) (Q : Int32 → zSt → Prop) : wX1_throughCount_42 σ Q = Q (nI (zthc D row)) σ := by
  unfold wX1_throughCount_42
  exact p1_thc_42_L hD hO hr Q _ 8 0 300 (by omega) (by omega)
theorem p7_changes_2_L {σ : zSt} {row : Nat → Nat} (hr : zIsRow 2 row σ) (Q K : Int32 → zSt → Prop) : ∀ (k m n : Nat), m + k = 23 → k < n → wX7_changes_2_L4 Q K n (nI (zsum (fun k => if row (k + 1) = row k then 0 else 1) m)) (nI (m + 1)) σ = K (nI (zchgs row)) σ := by
  intro k
  induction k with
  | zero =>
    intro m n h1 h2
    obtain ⟨n, rfl⟩ : ∃ n', n = n' + 1 := ⟨n - 1, by omega⟩
    have : m = 23 := by omega
    subst this
    rw [wX7_changes_2_L4, if_pos (by decide)]
    rfl
  | succ k ih =>
    intro m n h1 h2
    obtain ⟨n, rfl⟩ : ∃ n', n = n' + 1 := ⟨n - 1, by omega⟩
    have hlt : ¬ (24 : Int32) ≤ nI (m + 1) := nI_ge (a := m + 1) (b := 24) (by omega) (by omega)
    have em : nI (m + 1) - 1 = nI m := by rw [show (1 : Int32) = nI 1 from rfl, pk_sub (by omega)]; rfl
    rw [wX7_changes_2_L4, if_neg hlt, if_neg hlt, em, zcl (by omega), zcl (by omega), (hr (m + 1) (by omega)).1, (hr m (by omega)).1]
    have hv1 : vp_in (nI (m + 1)) 24 := zin' (by omega) (by omega)
    have hv2 : vp_in (nI m) 24 := zin' (by omega) (by omega)
    have b1 := (hr (m + 1) (by omega)).2
    have b2 := (hr m (by omega)).2
    have e1 : nI (m + 1) + 1 = nI (m + 1 + 1) := nI_1 _
    simp only [hv1, hv2, true_and, forall_eq, e1]
    by_cases c : row (m + 1) = row m
    · rw [if_pos (by rw [c]), ← ih (m + 1) n (by omega) (by omega), zsum, if_pos c]
      rfl
    · rw [if_neg (fun z => c ((nI_eq (by omega) (by omega)).mp z)), ← ih (m + 1) n (by omega) (by omega), zsum, if_neg c, nI_1]
theorem p7_changes_2 {σ : zSt} {row : Nat → Nat} (hr : zIsRow 2 row σ) (Q : Int32 → zSt → Prop) : wX7_changes_2 σ Q = Q (nI (zchgs row)) σ := by
  unfold wX7_changes_2
  exact p7_changes_2_L hr Q _ 23 0 300 (by omega) (by omega)
theorem p7_changes_37_L {σ : zSt} {row : Nat → Nat} (hr : zIsRow 37 row σ) (Q K : Int32 → zSt → Prop) : ∀ (k m n : Nat), m + k = 23 → k < n → wX7_changes_37_L4 Q K n (nI (zsum (fun k => if row (k + 1) = row k then 0 else 1) m)) (nI (m + 1)) σ = K (nI (zchgs row)) σ := by
  intro k
  induction k with
  | zero =>
    intro m n h1 h2
    obtain ⟨n, rfl⟩ : ∃ n', n = n' + 1 := ⟨n - 1, by omega⟩
    have : m = 23 := by omega
    subst this
    rw [wX7_changes_37_L4, if_pos (by decide)]
    rfl
  | succ k ih =>
    intro m n h1 h2
    obtain ⟨n, rfl⟩ : ∃ n', n = n' + 1 := ⟨n - 1, by omega⟩
    have hlt : ¬ (24 : Int32) ≤ nI (m + 1) := nI_ge (a := m + 1) (b := 24) (by omega) (by omega)
    have em : nI (m + 1) - 1 = nI m := by rw [show (1 : Int32) = nI 1 from rfl, pk_sub (by omega)]; rfl
    rw [wX7_changes_37_L4, if_neg hlt, if_neg hlt, em, zcl (by omega), zcl (by omega), (hr (m + 1) (by omega)).1, (hr m (by omega)).1]
    have hv1 : vp_in (nI (m + 1)) 24 := zin' (by omega) (by omega)
    have hv2 : vp_in (nI m) 24 := zin' (by omega) (by omega)
    have b1 := (hr (m + 1) (by omega)).2
    have b2 := (hr m (by omega)).2
    have e1 : nI (m + 1) + 1 = nI (m + 1 + 1) := nI_1 _
    simp only [hv1, hv2, true_and, forall_eq, e1]
    by_cases c : row (m + 1) = row m
    · rw [if_pos (by rw [c]), ← ih (m + 1) n (by omega) (by omega), zsum, if_pos c]
      rfl
    · rw [if_neg (fun z => c ((nI_eq (by omega) (by omega)).mp z)), ← ih (m + 1) n (by omega) (by omega), zsum, if_neg c, nI_1]
theorem p7_changes_37 {σ : zSt} {row : Nat → Nat} (hr : zIsRow 37 row σ) (Q : Int32 → zSt → Prop) : wX7_changes_37 σ Q = Q (nI (zchgs row)) σ := by
  unfold wX7_changes_37
  exact p7_changes_37_L hr Q _ 23 0 300 (by omega) (by omega)
/-! lawful -/
def zjF (c : Nat → Int32) (h sz : Nat) : Nat → Nat → Nat → Int32
  | 0, _, _ => -1
  | k + 1, m, held => if sz ≤ m then -1 else if zr (c m) 3 = true then (if 0 < m ∧ ¬ c m = c (m - 1) then (if held < h then nI m else zjF c h sz k (m + 1) 1) else zjF c h sz k (m + 1) (held + 1)) else nI m
theorem p7_law_2_L {A : zA} {σ : zSt} (h : RX A σ) {c : Nat → Int32} {sz : Nat} (hc : ∀ m, m < sz → σ.1 2 m = c m) (hsz : sz ≤ 24) (Q : Int32 → zSt → Prop) : ∀ (k m held n : Nat), m ≤ sz → sz < m + k → sz < m + n → held ≤ m → wX7_firstUnlawful_2_L5 Q (fun v s => Q v s) (fun s => Q (-1) s) (nI sz) n (nI held) (nI m) σ = Q (zjF c (A.1 6 3) sz k m held) σ := by
  intro k
  induction k with
  | zero => intro m held n h1 h2 h3 h4; omega
  | succ k ih =>
    intro m held n h1 h2 h3 h4
    obtain ⟨n, rfl⟩ : ∃ n', n = n' + 1 := ⟨n - 1, by omega⟩
    have e8 : σ.1 1 8 = nI (A.1 6 3) := h.2.1.2.2.2.2.2.2.1
    have hh := h.1.1.2.2.2.2.2.2.1
    rw [wX7_firstUnlawful_2_L5, zjF]
    by_cases c0 : sz ≤ m
    · rw [if_pos c0, if_pos (nI_le c0 (by omega))]
    have hm : m < sz := by omega
    rw [if_neg c0, if_neg (nI_ge hm (by omega)), if_neg (show ¬ (24 : Int32) ≤ nI m from nI_ge (b := 24) (by omega) (by omega)), zcl (by omega), hc m hm]
    have hv : vp_in (nI m) 24 := zin' (by omega) (by omega)
    have e1 : nI m + 1 = nI (m + 1) := nI_1 m
    have e2 : nI held + 1 = nI (held + 1) := nI_1 held
    simp only [hv, true_and, forall_eq, p7_isBridge, e1, e2, e8]
    by_cases z0 : m = 0
    · subst z0
      rw [if_pos (show nI 0 ≤ (0 : Int32) by decide)]
      by_cases c1 : zr (c 0) 3 = true
      · rw [if_pos c1, if_pos c1, if_neg (by decide), if_neg (fun z => absurd z.1 (by omega))]
        exact ih 1 (held + 1) n (by omega) (by omega) (by omega) (by omega)
      · rw [if_neg c1, if_neg c1, if_pos rfl]
    · rw [if_neg (show ¬ nI m ≤ (0 : Int32) from nI_ge (a := 0) (by omega) (by omega))]
      have em : nI m - 1 = nI (m - 1) := by rw [show (1 : Int32) = nI 1 from rfl, pk_sub (by omega)]
      rw [em, zcl (by omega), hc (m - 1) (by omega)]
      have hv2 : vp_in (nI (m - 1)) 24 := zin' (by omega) (by omega)
      simp only [hv2, true_and]
      by_cases c2 : c m = c (m - 1)
      · rw [if_pos c2]
        by_cases c1 : zr (c m) 3 = true
        · rw [if_pos c1, if_pos c1, if_neg (by decide), if_neg (fun z => z.2 c2)]
          exact ih (m + 1) (held + 1) n (by omega) (by omega) (by omega) (by omega)
        · rw [if_neg c1, if_neg c1, if_pos rfl]
      · rw [if_neg c2]
        by_cases c1 : zr (c m) 3 = true
        · have c12 : 0 < m ∧ ¬ c m = c (m - 1) := ⟨by omega, c2⟩
          rw [if_pos c1, if_pos c1, if_neg (by decide), if_pos c12]
          by_cases c3 : held < A.1 6 3
          · rw [if_pos c3, if_neg (show ¬ nI (A.1 6 3) ≤ nI held from nI_ge c3 (by omega))]
          · rw [if_neg c3, if_pos (show nI (A.1 6 3) ≤ nI held from nI_le (by omega) (by omega))]
            exact ih (m + 1) 1 n (by omega) (by omega) (by omega) (by omega)
        · rw [if_neg c1, if_neg c1, if_pos rfl]
theorem p7_law_2 {A : zA} {σ : zSt} (h : RX A σ) {c : Nat → Int32} {sz : Nat} (hc : ∀ m, m < sz → σ.1 2 m = c m) (hsz : sz ≤ 24) (Q : Int32 → zSt → Prop) : wX7_firstUnlawful_2 (nI sz) σ Q = Q (zjF c (A.1 6 3) sz 25 0 0) σ := by
  unfold wX7_firstUnlawful_2
  exact p7_law_2_L h hc hsz Q 25 0 0 300 (by omega) (by omega) (by omega) (by omega)
theorem p7_law_Sheetcells_L {A : zA} {σ : zSt} (h : RX A σ) {i : Nat} (hi : i < 4) {c : Nat → Int32} {sz : Nat} (hc : ∀ m, m < sz → σ.1 (65 + i) m = c m) (hsz : sz ≤ 40) (Q : Int32 → zSt → Prop) : ∀ (k m held n : Nat), m ≤ sz → sz < m + k → sz < m + n → held ≤ m → wX7_firstUnlawful_Sheetcells_L5 Q (fun v s => Q v s) (fun s => Q (-1) s) i (nI sz) n (nI held) (nI m) σ = Q (zjF c (A.1 6 3) sz k m held) σ := by
  intro k
  induction k with
  | zero => intro m held n h1 h2 h3 h4; omega
  | succ k ih =>
    intro m held n h1 h2 h3 h4
    obtain ⟨n, rfl⟩ : ∃ n', n = n' + 1 := ⟨n - 1, by omega⟩
    have e8 : σ.1 1 8 = nI (A.1 6 3) := h.2.1.2.2.2.2.2.2.1
    have hh := h.1.1.2.2.2.2.2.2.1
    rw [wX7_firstUnlawful_Sheetcells_L5, zjF]
    by_cases c0 : sz ≤ m
    · rw [if_pos c0, if_pos (nI_le c0 (by omega))]
    have hm : m < sz := by omega
    rw [if_neg c0, if_neg (nI_ge hm (by omega)), if_neg (show ¬ (40 : Int32) ≤ nI m from nI_ge (b := 40) (by omega) (by omega)), zcl (by omega), hc m hm]
    have hv : vp_in (nI m) 40 := zin' (by omega) (by omega)
    have e1 : nI m + 1 = nI (m + 1) := nI_1 m
    have e2 : nI held + 1 = nI (held + 1) := nI_1 held
    simp only [hv, true_and, forall_eq, p7_isBridge, e1, e2, e8]
    by_cases z0 : m = 0
    · subst z0
      rw [if_pos (show nI 0 ≤ (0 : Int32) by decide)]
      by_cases c1 : zr (c 0) 3 = true
      · rw [if_pos c1, if_pos c1, if_neg (by decide), if_neg (fun z => absurd z.1 (by omega))]
        exact ih 1 (held + 1) n (by omega) (by omega) (by omega) (by omega)
      · rw [if_neg c1, if_neg c1, if_pos rfl]
    · rw [if_neg (show ¬ nI m ≤ (0 : Int32) from nI_ge (a := 0) (by omega) (by omega))]
      have em : nI m - 1 = nI (m - 1) := by rw [show (1 : Int32) = nI 1 from rfl, pk_sub (by omega)]
      rw [em, zcl (by omega), hc (m - 1) (by omega)]
      have hv2 : vp_in (nI (m - 1)) 40 := zin' (by omega) (by omega)
      simp only [hv2, true_and]
      by_cases c2 : c m = c (m - 1)
      · rw [if_pos c2]
        by_cases c1 : zr (c m) 3 = true
        · rw [if_pos c1, if_pos c1, if_neg (by decide), if_neg (fun z => z.2 c2)]
          exact ih (m + 1) (held + 1) n (by omega) (by omega) (by omega) (by omega)
        · rw [if_neg c1, if_neg c1, if_pos rfl]
      · rw [if_neg c2]
        by_cases c1 : zr (c m) 3 = true
        · have c12 : 0 < m ∧ ¬ c m = c (m - 1) := ⟨by omega, c2⟩
          rw [if_pos c1, if_pos c1, if_neg (by decide), if_pos c12]
          by_cases c3 : held < A.1 6 3
          · rw [if_pos c3, if_neg (show ¬ nI (A.1 6 3) ≤ nI held from nI_ge c3 (by omega))]
          · rw [if_neg c3, if_pos (show nI (A.1 6 3) ≤ nI held from nI_le (by omega) (by omega))]
            exact ih (m + 1) 1 n (by omega) (by omega) (by omega) (by omega)
        · rw [if_neg c1, if_neg c1, if_pos rfl]
theorem p7_law_Sheetcells {A : zA} {σ : zSt} (h : RX A σ) {i : Nat} (hi : i < 4) {c : Nat → Int32} {sz : Nat} (hc : ∀ m, m < sz → σ.1 (65 + i) m = c m) (hsz : sz ≤ 40) (Q : Int32 → zSt → Prop) : wX7_firstUnlawful_Sheetcells i (nI sz) σ Q = Q (zjF c (A.1 6 3) sz 41 0 0) σ := by
  unfold wX7_firstUnlawful_Sheetcells
  exact p7_law_Sheetcells_L h hi hc hsz Q 41 0 0 300 (by omega) (by omega) (by omega) (by omega)
def s_told (A : zA) (s o w : Int32) : Int32 × zA := ((if zr s 2 = true ∧ zr o (A.1 6 s.toNatClampNeg) = true then
    (let i := s.toNatClampNeg * 4 + o.toNatClampNeg
     if w = 0 then nI (A.1 1 i) else if w = 1 then nI (A.1 2 i) else if w = 2 then nI (A.1 3 i)
     else if w = 3 then (if zthr A.1 (A.1 0) i < 24 then nI (zthr A.1 (A.1 0) i) else -1)
     else if w = 4 then nI (zthr A.1 (A.1 0) i - A.1 2 i)
     else if w = 5 then nI (zcost A.1 A.2.2.2.1.2 i (zthr A.1 (A.1 0) i)) else -2) else -2), A)
theorem zthr_b {A : zA} {σ : zSt} (h : RX A σ) (row : Nat → Nat) {i : Nat} (hi : i < 8) : zthr A.1 row i ≤ 24 ∧ A.1 2 i ≤ zthr A.1 row i ∧ A.1 2 i < 24 := by
  have hb := (h.1.1.2.1 i hi).2.1
  have := zthr_le A.1 row i 25 (A.1 2 i) (by omega) (by omega)
  exact ⟨this.1, this.2, hb⟩
theorem x_told {A : zA} {σ : zSt} (h : RX A σ) (s o w : Int32) (Q : Int32 → zSt → Prop) (hQ : ∀ σ', RX (s_told A s o w).2 σ' → Q (s_told A s o w).1 σ') : wX7_told s o w σ Q := by
  unfold wX7_told
  unfold s_told at hQ
  dsimp only at hQ
  rw [p7_isOne s σ _ h.2.1 h.1.1 o]
  by_cases c1 : zr s 2 = true ∧ zr o (A.1 6 s.toNatClampNeg) = true
  rotate_left
  · rw [if_neg c1] at hQ ⊢
    rw [if_pos rfl]; exact hQ σ h
  rw [if_pos c1] at hQ ⊢
  rw [if_neg (by decide)]
  obtain ⟨c1, c2⟩ := c1
  obtain ⟨s, hs, rfl⟩ := zr_of (by omega) c1
  rw [zcl (by omega)] at c2 hQ
  have h4 : A.1 6 s ≤ 4 := by
    rcases (show s = 0 ∨ s = 1 by omega) with rfl | rfl
    · exact h.1.1.2.2.2.1
    · exact h.1.1.2.2.2.2.1
  obtain ⟨o, ho, rfl⟩ := zr_of (by omega) c2
  rw [zcl (by omega)] at hQ
  have ei : nI s * 4 + nI o = nI (s * 4 + o) := by simp only [kk, zc]
  simp only [forall_eq, ei]
  have hi : s * 4 + o < 8 := by omega
  generalize s * 4 + o = i at hi hQ ⊢
  have hv : vp_in (nI i) 8 := zin' hi (by omega)
  have g2 := h.2.1.2.1 i hi
  obtain ⟨t1, t2, t3⟩ := zthr_b h (A.1 0) hi
  rw [p1_through_2 h.2.1 h.1.1 h.row hi, zcl (by omega)]
  rw [show σ.1 4 i = _ from g2.1, show σ.1 5 i = _ from g2.2.1, show σ.1 6 i = _ from g2.2.2]
  simp only [hv, true_and]
  by_cases w0 : w = 0
  · rw [if_pos w0] at hQ ⊢; exact hQ σ h
  rw [if_neg w0] at hQ ⊢
  by_cases w1 : w = 1
  · rw [if_pos w1] at hQ ⊢; exact hQ σ h
  rw [if_neg w1] at hQ ⊢
  by_cases w2 : w = 2
  · rw [if_pos w2] at hQ ⊢; exact hQ σ h
  rw [if_neg w2] at hQ ⊢
  by_cases w3 : w = 3
  · rw [if_pos w3] at hQ ⊢
    by_cases q : zthr A.1 (A.1 0) i < 24
    · rw [if_pos q] at hQ
      rw [if_neg (show ¬ (24 : Int32) ≤ nI (zthr A.1 (A.1 0) i) from nI_ge (b := 24) q (by omega))]; exact hQ σ h
    · rw [if_neg q] at hQ
      rw [if_pos (show (24 : Int32) ≤ nI (zthr A.1 (A.1 0) i) from nI_le (a := 24) (by omega) (by omega))]; exact hQ σ h
  rw [if_neg w3] at hQ ⊢
  by_cases w4 : w = 4
  · rw [if_pos w4] at hQ ⊢
    rw [pk_sub t2]; exact hQ σ h
  rw [if_neg w4] at hQ ⊢
  by_cases w5 : w = 5
  · rw [if_pos w5] at hQ ⊢
    exact x_ofOne h hi t1 _ (fun σ' h1 _ => hQ σ' h1)
  rw [if_neg w5] at hQ ⊢
  exact hQ σ h
def s_plan (A : zA) (w : Int32) : Int32 × zA := ((if w = 0 then nI (zrowc A.1 A.2.2.2.1.2 (A.1 0)) else if w = 1 then nI (zchgs (A.1 0)) else if w = 2 then (if zjF (fun m => nI (A.1 0 m)) (A.1 6 3) 24 25 0 0 = -1 then 1 else 0) else if w = 3 then nI (zthc A.1 (A.1 0)) else -2), A)
theorem x_plan {A : zA} {σ : zSt} (h : RX A σ) (w : Int32) (Q : Int32 → zSt → Prop) (hQ : ∀ σ', RX (s_plan A w).2 σ' → Q (s_plan A w).1 σ') : wX7_plan w σ Q := by
  unfold wX7_plan
  unfold s_plan at hQ
  dsimp only at hQ
  by_cases w0 : w = 0
  · rw [if_pos w0] at hQ ⊢
    exact x_ofRow_2 h h.row _ (fun σ' h1 _ => hQ σ' h1)
  rw [if_neg w0] at hQ ⊢
  by_cases w1 : w = 1
  · rw [if_pos w1] at hQ ⊢
    rw [p7_changes_2 h.row]; exact hQ σ h
  rw [if_neg w1] at hQ ⊢
  by_cases w2 : w = 2
  · rw [if_pos w2] at hQ ⊢
    rw [show (24 : Int32) = nI 24 from rfl, p7_law_2 (c := fun m => nI (A.1 0 m)) h (fun m hm => h.2.1.1 m hm) (by omega)]
    by_cases q : zjF (fun m => nI (A.1 0 m)) (A.1 6 3) 24 25 0 0 = -1
    · rw [if_pos q] at hQ ⊢; exact hQ σ h
    · rw [if_neg q] at hQ ⊢; exact hQ σ h
  rw [if_neg w2] at hQ ⊢
  by_cases w3 : w = 3
  · rw [if_pos w3] at hQ ⊢
    rw [p1_thc_2 h.2.1 h.1.1 h.row]; exact hQ σ h
  rw [if_neg w3] at hQ ⊢
  exact hQ σ h
def s_judge (A : zA) (s : Int32) : Int32 × zA := ((if zr s 4 = true then (match A.2.2.2.2 s.toNatClampNeg with
    | none => -11
    | some q => if q.2.1 ≤ 24 then zjF q.2.2 (A.1 6 3) q.2.1 41 0 0 else -2) else -2), A)
theorem x_judge {A : zA} {σ : zSt} (h : RX A σ) (s : Int32) (Q : Int32 → zSt → Prop) (hQ : ∀ σ', RX (s_judge A s).2 σ' → Q (s_judge A s).1 σ') : wX7_judge s σ Q := by
  have hq := hQ σ h
  unfold wX7_judge wX7_tellingRefusal
  unfold s_judge at hq
  dsimp only at hq
  rw [p7_isSheet]
  by_cases c1 : zr s 4 = true
  rotate_left
  · rw [if_neg c1] at hq ⊢
    rw [if_pos rfl]; dsimp only; rw [if_neg (by decide)]; exact hq
  rw [if_pos c1] at hq ⊢
  rw [if_neg (by decide)]
  obtain ⟨s, hs, rfl⟩ := zr_of (by omega) c1
  have hv : vp_in (nI s) 4 := zin' hs (by omega)
  rw [zcl (by omega)] at hq ⊢
  refine ⟨hv, ?_⟩
  have hk2 := h.2.2.2.2.2.1 s hs
  cases hz : A.2.2.2.2 s with
  | none =>
    rw [hz] at hk2 hq
    rw [if_pos hk2]; dsimp only; rw [if_neg (by decide)]; exact hq
  | some q =>
    rw [hz] at hk2 hq
    obtain ⟨g1, g2, g3⟩ := hk2
    obtain ⟨b1, b2⟩ := h.1.2.2.2.2 s hs q hz
    dsimp only at hq
    rw [g1, if_neg (zsort_ne b1), g2]
    refine ⟨hv, ?_⟩
    by_cases c2 : q.2.1 ≤ 24
    · rw [if_pos c2] at hq
      rw [if_pos (show nI q.2.1 ≤ (24 : Int32) from nI_le (b := 24) c2 (by omega))]
      dsimp only
      rw [if_pos rfl]
      refine ⟨hv, hv, ?_⟩
      simp only [forall_eq]
      rw [g2, p7_law_Sheetcells (c := q.2.2) h hs (fun m hm => g3 m hm) b2]
      exact hq
    · rw [if_neg c2] at hq
      rw [if_neg (show ¬ nI q.2.1 ≤ (24 : Int32) from nI_ge (a := 24) (by omega) (by omega))]
      dsimp only
      rw [if_neg (by decide)]
      exact hq
/-! image, back -/
theorem zcopy_at {σ : zSt} {o o' n a j : Nat} : (zcopy σ o 0 o' 0 n).1 a j = if a = o' ∧ j < n then σ.1 o j else σ.1 a j := by
  unfold zcopy
  by_cases h : a = o'
  · subst h
    rw [zrow_at]
    unfold va_cpy
    by_cases h2 : j < n
    · simp [h2]
    · simp [h2]
  · rw [zrow_ne h]; simp [h]
def s_image (A : zA) : Int32 × zA := (nI (A.1 6 0 + A.1 6 1), (A.1, some A.1, A.2.2))
theorem x_image {A : zA} {σ : zSt} (h : RX A σ) (Q : Int32 → zSt → Prop) (hQ : ∀ σ', RX (s_image A).2 σ' → Q (s_image A).1 σ') : wX7_image σ Q := by
  unfold wX7_image wX1_take_r9_1 wX1_many
  simp only [forall_eq]
  obtain ⟨h1, h2, h3, h4, h5, h6, h7, h8⟩ := h
  obtain ⟨g1, g2, g3, g4, g5, g6, g7, g8, g9⟩ := h2
  have g4 : σ.1 3 0 = _ := g4
  have g5 : σ.1 3 1 = _ := g5
  have ha : ∀ τ : zSt, (∀ o, o ≤ 8 ∧ o ≠ 0 ∨ 17 ≤ o → τ.1 o = σ.1 o) → (∀ j, j ≠ 2 → τ.1 0 j = σ.1 0 j) → τ.1 0 2 = 1 → zDX 9 A.1 τ → RX (s_image A).2 τ := by
    intro τ e e0 e2 hd
    refine ⟨⟨h1.1, ⟨h1.1, Nat.le_refl _, fun _ _ => rfl, h1.2.2.2.1.2.2⟩, h1.2.2.1, h1.2.2.2.1, h1.2.2.2.2⟩, zDX.fr ⟨g1, g2, g3, g4, g5, g6, g7, g8, g9⟩ (fun k hk => e _ (by omega)), ⟨e2, hd⟩, h4.fr (e0 4 (by decide)) (e _ (by omega)), h5.fr (e0 6 (by decide)) (fun i hi => e _ (by omega)) (fun i hi => e _ (by omega)) h1.2.2.2.1.2.1, h6.fr (fun i hi => e _ (by omega)) (fun i hi => e _ (by omega)), h7.fr (e _ (by omega)), h8.fr (e _ (by omega)) (e _ (by omega))⟩
  have en : ∀ (τ : zSt) (a b c n : Nat), c ≠ b → (zcopy τ a 0 b 0 n).1 c = τ.1 c := fun τ a b c n hc => zrow_ne hc
  refine (show Q _ _ from ?_)
  have key := hQ (zput (zput (zput (zput (zput (zcopy (zcopy (zcopy (zcopy (zcopy (zcopy (zcopy σ 2 0 10 0 24) 3 0 11 0 2) 4 0 12 0 8) 5 0 13 0 8) 6 0 14 0 8) 7 0 15 0 4) 8 0 16 0 4) 9 7 (nI (A.1 6 2))) 9 8 (nI (A.1 6 3))) 9 9 (nI (A.1 6 4))) 9 10 (nI (A.1 6 5))) 0 2 1) (ha _ ?_ ?_ ?_ ?_)
  · have q7 : σ.1 1 7 = nI (A.1 6 2) := g6
    have q8 : σ.1 1 8 = nI (A.1 6 3) := g7
    have q9 : σ.1 1 9 = nI (A.1 6 4) := g8
    have q10 : σ.1 1 10 = nI (A.1 6 5) := g9
    have e1 : ∀ j, (zcopy (zcopy (zcopy (zcopy (zcopy (zcopy (zcopy σ 2 0 10 0 24) 3 0 11 0 2) 4 0 12 0 8) 5 0 13 0 8) 6 0 14 0 8) 7 0 15 0 4) 8 0 16 0 4).1 1 j = σ.1 1 j := fun j => by rw [en _ _ _ _ _ (by decide), en _ _ _ _ _ (by decide), en _ _ _ _ _ (by decide), en _ _ _ _ _ (by decide), en _ _ _ _ _ (by decide), en _ _ _ _ _ (by decide), en _ _ _ _ _ (by decide)]
    simp only [zput_ne (show (1 : Nat) ≠ 9 by decide), e1, q7, q8, q9, q10]
    have e3 : ∀ (τ : zSt) (j : Nat), (zput (zput (zput (zput (zput (zcopy (zcopy (zcopy (zcopy (zcopy (zcopy (zcopy σ 2 0 10 0 24) 3 0 11 0 2) 4 0 12 0 8) 5 0 13 0 8) 6 0 14 0 8) 7 0 15 0 4) 8 0 16 0 4) 9 7 (nI (A.1 6 2))) 9 8 (nI (A.1 6 3))) 9 9 (nI (A.1 6 4))) 9 10 (nI (A.1 6 5))) 0 2 1).1 3 j = σ.1 3 j := fun τ j => by
      rw [zput_ne (by decide), zput_ne (by decide), zput_ne (by decide), zput_ne (by decide), zput_ne (by decide), en _ _ _ _ _ (by decide), en _ _ _ _ _ (by decide), en _ _ _ _ _ (by decide), en _ _ _ _ _ (by decide), en _ _ _ _ _ (by decide), en _ _ _ _ _ (by decide), en _ _ _ _ _ (by decide)]
    rw [e3 σ 0, e3 σ 1, g4, g5, nI_add]
    exact key
  · intro o ho
    rw [zput_ne (by omega), zput_ne (by omega), zput_ne (by omega), zput_ne (by omega), zput_ne (by omega), en _ _ _ _ _ (by omega), en _ _ _ _ _ (by omega), en _ _ _ _ _ (by omega), en _ _ _ _ _ (by omega), en _ _ _ _ _ (by omega), en _ _ _ _ _ (by omega), en _ _ _ _ _ (by omega)]
  · intro j hj
    rw [zput_at, if_neg (fun z => hj z.2), zput_ne (by decide), zput_ne (by decide), zput_ne (by decide), zput_ne (by decide), en _ _ _ _ _ (by decide), en _ _ _ _ _ (by decide), en _ _ _ _ _ (by decide), en _ _ _ _ _ (by decide), en _ _ _ _ _ (by decide), en _ _ _ _ _ (by decide), en _ _ _ _ _ (by decide)]
  · rw [zput_at, if_pos ⟨rfl, rfl⟩]
  · refine ⟨fun m hm => ?_, fun i hi => ?_, fun x hx => ?_, ?_, ?_, ?_, ?_, ?_, ?_⟩
    · have := g1 m hm
      simpa [zput_at, zcopy_at, hm] using this
    · have := g2 i hi
      simpa [zput_at, zcopy_at, hi] using this
    · have := g3 x hx
      simpa [zput_at, zcopy_at, hx] using this
    · simpa [zput_at, zcopy_at] using g4
    · simpa [zput_at, zcopy_at] using g5
    · simp [zput_at, zcopy_at]
    · simp [zput_at, zcopy_at]
    · simp [zput_at, zcopy_at]
    · simp [zput_at, zcopy_at]
def s_back (A : zA) : Int32 × zA := match A.2.1 with
  | none => (-3, A)
  | some K => (nI (K 6 0 + K 6 1), (K, A.2))
theorem zI_back {A : zA} (h : zI A) {K : zD} (hK : A.2.1 = some K) : zI (K, A.2) := by
  obtain ⟨h1, h2, h3, h4, h5⟩ := h
  rw [hK] at h2
  obtain ⟨a, b, c, d⟩ := h2
  refine ⟨a, ?_, h3, ⟨h4.1, h4.2.1, d⟩, h5⟩
  show zimg K A.2.1 A.2.2.2.1.1
  rw [hK]
  exact ⟨a, Nat.le_refl _, fun _ _ => rfl, d⟩
theorem x_back {A : zA} {σ : zSt} (h : RX A σ) (Q : Int32 → zSt → Prop) (hQ : ∀ σ', RX (s_back A).2 σ' → Q (s_back A).1 σ') : wX7_back σ Q := by
  unfold wX7_back
  unfold s_back at hQ
  have hi := h.2.2.1
  cases hK : A.2.1 with
  | none =>
    rw [hK] at hi hQ
    have hi : σ.1 0 2 = 0 := hi
    rw [if_pos hi]
    exact hQ σ h
  | some K =>
    rw [hK] at hi hQ
    obtain ⟨e2, hd⟩ : σ.1 0 2 = 1 ∧ zDX 9 K σ := hi
    rw [if_neg (by rw [e2]; decide)]
    unfold wX1_take_9 wX1_many
    simp only [forall_eq, p7_forget]
    have en : ∀ (τ : zSt) (a b c n : Nat), c ≠ b → (zcopy τ a 0 b 0 n).1 c = τ.1 c := fun τ a b c n hc => zrow_ne hc
    obtain ⟨g1, g2, g3, g4, g5, g6, g7, g8, g9⟩ := hd
    have q7 : σ.1 9 7 = nI (K 6 2) := g6
    have q8 : σ.1 9 8 = nI (K 6 3) := g7
    have q9 : σ.1 9 9 = nI (K 6 4) := g8
    have q10 : σ.1 9 10 = nI (K 6 5) := g9
    have e1 : ∀ j, (zcopy (zcopy (zcopy (zcopy (zcopy (zcopy (zcopy σ 10 0 2 0 24) 11 0 3 0 2) 12 0 4 0 8) 13 0 5 0 8) 14 0 6 0 8) 15 0 7 0 4) 16 0 8 0 4).1 9 j = σ.1 9 j := fun j => by rw [en _ _ _ _ _ (by decide), en _ _ _ _ _ (by decide), en _ _ _ _ _ (by decide), en _ _ _ _ _ (by decide), en _ _ _ _ _ (by decide), en _ _ _ _ _ (by decide), en _ _ _ _ _ (by decide)]
    simp only [zput_ne (show (9 : Nat) ≠ 1 by decide), e1, q7, q8, q9, q10]
    have hdx : zDX 1 K (zput (zput (zput (zput (zcopy (zcopy (zcopy (zcopy (zcopy (zcopy (zcopy σ 10 0 2 0 24) 11 0 3 0 2) 12 0 4 0 8) 13 0 5 0 8) 14 0 6 0 8) 15 0 7 0 4) 16 0 8 0 4) 1 7 (nI (K 6 2))) 1 8 (nI (K 6 3))) 1 9 (nI (K 6 4))) 1 10 (nI (K 6 5))) := by
      refine ⟨fun m hm => ?_, fun i hi => ?_, fun x hx => ?_, ?_, ?_, ?_, ?_, ?_, ?_⟩
      · have := g1 m hm
        simpa [zput_at, zcopy_at, hm] using this
      · have := g2 i hi
        simpa [zput_at, zcopy_at, hi] using this
      · have := g3 x hx
        simpa [zput_at, zcopy_at, hx] using this
      · simpa [zput_at, zcopy_at] using g4
      · simpa [zput_at, zcopy_at] using g5
      · simp [zput_at, zcopy_at]
      · simp [zput_at, zcopy_at]
      · simp [zput_at, zcopy_at]
      · simp [zput_at, zcopy_at]
    have hres := h.ch (D' := K) (σ' := zfg (zput (zput (zput (zput (zcopy (zcopy (zcopy (zcopy (zcopy (zcopy (zcopy σ 10 0 2 0 24) 11 0 3 0 2) 12 0 4 0 8) 13 0 5 0 8) 14 0 6 0 8) 15 0 7 0 4) 16 0 8 0 4) 1 7 (nI (K 6 2))) 1 8 (nI (K 6 3))) 1 9 (nI (K 6 4))) 1 10 (nI (K 6 5)))) (zI_back h.1 hK) (hdx.fr (fun k hk => zfg_ne (by omega) (by omega))) (fun o ho a b => by
      rw [zfg_ne a b, zput_ne (by omega), zput_ne (by omega), zput_ne (by omega), zput_ne (by omega), en _ _ _ _ _ (by omega), en _ _ _ _ _ (by omega), en _ _ _ _ _ (by omega), en _ _ _ _ _ (by omega), en _ _ _ _ _ (by omega), en _ _ _ _ _ (by omega), en _ _ _ _ _ (by omega)]) (zfg_ca _ _ _) (zfg_se _ _ _)
    have c0 := hres.2.1.2.2.2.1
    have c1 := hres.2.1.2.2.2.2.1
    rw [show (zfg (zput (zput (zput (zput (zcopy (zcopy (zcopy (zcopy (zcopy (zcopy (zcopy σ 10 0 2 0 24) 11 0 3 0 2) 12 0 4 0 8) 13 0 5 0 8) 14 0 6 0 8) 15 0 7 0 4) 16 0 8 0 4) 1 7 (nI (K 6 2))) 1 8 (nI (K 6 3))) 1 9 (nI (K 6 4))) 1 10 (nI (K 6 5)))).1 3 0 = nI (K 6 0) from c0, show (zfg (zput (zput (zput (zput (zcopy (zcopy (zcopy (zcopy (zcopy (zcopy (zcopy σ 10 0 2 0 24) 11 0 3 0 2) 12 0 4 0 8) 13 0 5 0 8) 14 0 6 0 8) 15 0 7 0 4) 16 0 8 0 4) 1 7 (nI (K 6 2))) 1 8 (nI (K 6 3))) 1 9 (nI (K 6 4))) 1 10 (nI (K 6 5)))).1 3 1 = nI (K 6 1) from c1, nI_add]
    exact hQ _ hres
