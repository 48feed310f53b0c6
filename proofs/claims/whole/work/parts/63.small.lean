/-! arguments in range -/
def zr (x : Int32) (n : Nat) : Bool := decide (0 ≤ x) && decide (x < nI n)
theorem zr_of {x : Int32} {n : Nat} (hn : n < 2147483648) (h : zr x n = true) : ∃ j, j < n ∧ x = nI j := by
  unfold zr at h
  simp only [Bool.and_eq_true, decide_eq_true_eq] at h
  rcases zany x n hn with q | q | q
  · rw [Int32.le_iff_toInt_le] at h; rw [Int32.lt_iff_toInt_lt] at q; omega
  · have h2 := h.2; rw [Int32.lt_iff_toInt_lt] at h2; rw [Int32.le_iff_toInt_le] at q; omega
  · exact q
theorem zr_nI {j n : Nat} (hj : j < n) (hn : n < 2147483648) : zr (nI j) n = true := by
  unfold zr
  simp only [Bool.and_eq_true, decide_eq_true_eq]
  exact ⟨nI_pos' (by omega), nI_lt hj hn⟩
theorem zr_nI' {j n : Nat} (hj : j < 2147483648) (hn : n < 2147483648) : zr (nI j) n = decide (j < n) := by
  by_cases h : j < n
  · rw [zr_nI h hn]; simp [h]
  · have : ¬ zr (nI j) n = true := fun q => by
      obtain ⟨k, hk, e⟩ := zr_of hn q
      rw [nI_eq hj (by omega)] at e
      omega
    simp [h, this]
theorem zr_neg {x : Int32} {n : Nat} (h : ¬ zr x n = true) : x < 0 ∨ nI n ≤ x := by
  unfold zr at h
  simp only [Bool.and_eq_true, decide_eq_true_eq] at h
  by_cases q : x < 0
  · exact Or.inl q
  · right
    have q1 : 0 ≤ x := by rw [Int32.lt_iff_toInt_lt] at q; rw [Int32.le_iff_toInt_le]; omega
    have q2 : ¬ x < nI n := fun z => h ⟨q1, z⟩
    rw [Int32.lt_iff_toInt_lt] at q2
    rw [Int32.le_iff_toInt_le]
    omega
theorem zr_lt {x : Int32} {n : Nat} (hn : n < 2147483648) (h : zr x n = true) : ¬ x < 0 ∧ ¬ nI n ≤ x := by
  obtain ⟨j, hj, rfl⟩ := zr_of hn h
  exact ⟨nI_pos (by omega), nI_ge hj hn⟩
theorem zr_in {x : Int32} {n : Nat} (hn : n < 2147483648) (h : zr x n = true) : vp_in x n := by
  obtain ⟨j, hj, rfl⟩ := zr_of hn h
  exact zin' hj hn
theorem p8_zr {x : Int32} (n : Nat) (hn : n < 2147483647) : (0 ≤ x.toInt64 ∧ x.toInt64 ≤ (nI n).toInt64) ↔ zr x (n + 1) = true := by
  rw [show (0 : Int64) = (nI 0).toInt64 from by decide, z64, z64]
  unfold zr
  simp only [Bool.and_eq_true, decide_eq_true_eq, nI_0]
  have e : x ≤ nI n ↔ x < nI (n + 1) := by
    rw [Int32.le_iff_toInt_le, Int32.lt_iff_toInt_lt, nI_toInt (by omega), nI_toInt (by omega)]
    omega
  rw [e]
theorem p8_i {x : Int32} {n : Nat} {k : Int64} (hn : n < 2147483647) (hk : k = (nI n).toInt64) (σ : zSt) (Q : Int32 → zSt → Prop) : wX8_in x.toInt64 0 k σ Q = Q (if zr x (n + 1) = true then 1 else 0) σ := by
  rw [p8_in, hk]
  by_cases h : zr x (n + 1) = true
  · rw [if_pos ((p8_zr n hn).mpr h), if_pos h]
  · rw [if_neg (fun q => h ((p8_zr n hn).mp q)), if_neg h]
/-- below a count, which may be 0 -/
theorem p8_m {x : Int32} {n : Nat} (hn : n < 2147483647) (σ : zSt) (Q : Int32 → zSt → Prop) : wX8_in x.toInt64 0 ((nI n - 1).toInt64) σ Q = Q (if zr x n = true then 1 else 0) σ := by
  cases n with
  | zero =>
    rw [p8_in]
    have h : ¬ zr x 0 = true := fun q => by obtain ⟨j, hj, _⟩ := zr_of (by omega) q; omega
    rw [if_neg h, if_neg]
    intro q
    have q2 : (0 : Int64) ≤ (nI 0 - 1).toInt64 := by
      rw [Int64.le_iff_toInt_le] at q ⊢
      rw [Int64.le_iff_toInt_le] at q
      omega
    exact absurd q2 (by decide)
  | succ n => exact p8_i (by omega) (by rw [show (1 : Int32) = nI 1 from rfl, pk_sub (by omega)]; rfl) σ Q
section
variable (x : Int32) (σ : zSt) (Q : Int32 → zSt → Prop)
theorem p8_i1 : wX8_in x.toInt64 0 1 σ Q = Q (if zr x 2 = true then 1 else 0) σ := p8_i (n := 1) (by omega) (by decide) σ Q
theorem p8_i2 : wX8_in x.toInt64 0 2 σ Q = Q (if zr x 3 = true then 1 else 0) σ := p8_i (n := 2) (by omega) (by decide) σ Q
theorem p8_i3 : wX8_in x.toInt64 0 3 σ Q = Q (if zr x 4 = true then 1 else 0) σ := p8_i (n := 3) (by omega) (by decide) σ Q
theorem p8_i5 : wX8_in x.toInt64 0 5 σ Q = Q (if zr x 6 = true then 1 else 0) σ := p8_i (n := 5) (by omega) (by decide) σ Q
theorem p8_i7 : wX8_in x.toInt64 0 7 σ Q = Q (if zr x 8 = true then 1 else 0) σ := p8_i (n := 7) (by omega) (by decide) σ Q
theorem p8_i8 : wX8_in x.toInt64 0 8 σ Q = Q (if zr x 9 = true then 1 else 0) σ := p8_i (n := 8) (by omega) (by decide) σ Q
theorem p8_i9 : wX8_in x.toInt64 0 9 σ Q = Q (if zr x 10 = true then 1 else 0) σ := p8_i (n := 9) (by omega) (by decide) σ Q
theorem p8_i23 : wX8_in x.toInt64 0 23 σ Q = Q (if zr x 24 = true then 1 else 0) σ := p8_i (n := 23) (by omega) (by decide) σ Q
theorem p8_i24 : wX8_in x.toInt64 0 24 σ Q = Q (if zr x 25 = true then 1 else 0) σ := p8_i (n := 24) (by omega) (by decide) σ Q
theorem p8_i25 : wX8_in x.toInt64 0 25 σ Q = Q (if zr x 26 = true then 1 else 0) σ := p8_i (n := 25) (by omega) (by decide) σ Q
theorem p8_i255 : wX8_in x.toInt64 0 255 σ Q = Q (if zr x 256 = true then 1 else 0) σ := p8_i (n := 255) (by omega) (by decide) σ Q
theorem p8_i299 : wX8_in x.toInt64 0 299 σ Q = Q (if zr x 300 = true then 1 else 0) σ := p8_i (n := 299) (by omega) (by decide) σ Q
theorem zrange (n : Nat) (k : Int32) (hk : k = nI n) (hn : n < 2147483648) (f : Int32 → Prop) : (if x < 0 then f 0 else if k ≤ x then f 0 else f 1) = f (if zr x n = true then 1 else 0) := by
  subst hk
  by_cases h : zr x n = true
  · obtain ⟨h1, h2⟩ := zr_lt hn h
    rw [if_neg h1, if_neg h2, if_pos h]
  · rw [if_neg h]
    rcases zr_neg h with q | q
    · rw [if_pos q]
    · by_cases q2 : x < 0
      · rw [if_pos q2]
      · rw [if_neg q2, if_pos q]
theorem zrange' (n : Nat) (k : Int32) (hk : k = nI n) (hn : n < 2147483647) (f : Int32 → Prop) : (if x < 0 then f 0 else if k < x then f 0 else f 1) = f (if zr x (n + 1) = true then 1 else 0) := by
  have e : (k < x) = (nI (n + 1) ≤ x) := by
    subst hk
    rw [eq_iff_iff, Int32.le_iff_toInt_le, Int32.lt_iff_toInt_lt, nI_toInt (by omega), nI_toInt (by omega)]
    omega
  simp only [e]
  exact zrange x (n + 1) _ rfl (by omega) f
theorem p7_isBridge : wX7_isBridge x σ Q = Q (if zr x 3 = true then 1 else 0) σ := zrange x 3 3 rfl (by omega) (fun r => Q r σ)
theorem p7_isMinute : wX7_isMinute x σ Q = Q (if zr x 24 = true then 1 else 0) σ := zrange x 24 24 rfl (by omega) (fun r => Q r σ)
theorem p7_isSheet : wX7_isSheet x σ Q = Q (if zr x 4 = true then 1 else 0) σ := zrange x 4 4 rfl (by omega) (fun r => Q r σ)
theorem p7_isDigit : wX7_isDigit x σ Q = Q (if zr x 10 = true then 1 else 0) σ := zrange' x 9 9 rfl (by omega) (fun r => Q r σ)
theorem p7_isKind : wX7_isKind x σ Q = Q (if zr x 6 = true then 1 else 0) σ := zrange' x 5 5 rfl (by omega) (fun r => Q r σ)
theorem p7_isSheetSort : wX7_isSheetSort x σ Q = Q (if zr x 3 = true then 1 else 0) σ := zrange' x 2 2 rfl (by omega) (fun r => Q r σ)
theorem p7_isSort : wX7_isSort x σ Q = Q (if zr x 2 = true then 1 else 0) σ := by
  unfold wX7_isSort
  by_cases h : zr x 2 = true
  · rw [if_pos h]
    obtain ⟨j, hj, rfl⟩ := zr_of (by omega) h
    rcases (show j = 0 ∨ j = 1 by omega) with rfl | rfl
    · rw [if_pos (by decide)]
    · rw [if_neg (by decide), if_pos (by decide)]
  · rw [if_neg h]
    have h0 : ¬ x = 0 := fun e => h (by rw [e]; decide)
    have h1 : ¬ x = 1 := fun e => h (by rw [e]; decide)
    rw [if_neg h0, if_neg h1]
theorem p7_isMaster {D : zD} (hD : zDX 1 D σ) (hO : zOk D) : wX7_isMaster x σ Q = Q (if zr x (D 6 2) = true then 1 else 0) σ := by
  have e : σ.1 1 7 = nI (D 6 2) := hD.2.2.2.2.2.1
  have h4 := hO.2.2.2.2.2.1
  exact zrange x (D 6 2) _ e (by omega) (fun r => Q r σ)
theorem p7_isOne {D : zD} (hD : zDX 1 D σ) (hO : zOk D) (x2 : Int32) : wX7_isOne x x2 σ Q = Q (if zr x 2 = true ∧ zr x2 (D 6 x.toNatClampNeg) = true then 1 else 0) σ := by
  unfold wX7_isOne
  rw [p7_isSort]
  by_cases h : zr x 2 = true
  · rw [if_pos h, if_neg (by decide)]
    obtain ⟨j, hj, rfl⟩ := zr_of (by omega) h
    have hv : vp_in (nI j) 2 := zin' hj (by omega)
    simp only [hv, true_and, h]
    rw [zcl (by omega)]
    have e : σ.1 3 j = nI (D 6 j) := by
      rcases (show j = 0 ∨ j = 1 by omega) with rfl | rfl
      · exact hD.2.2.2.1
      · exact hD.2.2.2.2.1
    have h4 : D 6 j ≤ 4 := by
      rcases (show j = 0 ∨ j = 1 by omega) with rfl | rfl
      · exact hO.2.2.2.1
      · exact hO.2.2.2.2.1
    exact zrange x2 (D 6 j) _ e (by omega) (fun r => Q r σ)
  · rw [if_neg h, if_pos rfl, if_neg (fun q => h q.1)]
end
/-- what forget() leaves -/
def zfg (σ : zSt) : zSt := zput (zput (zfill σ 25 416 (-1)) 28 11 (-2)) 28 12 (-2)
theorem p7_forget (σ : zSt) (Q : zSt → Prop) : wX7_forget σ Q = Q (zfg σ) := by
  unfold wX7_forget wX0_forget wX4_forget zfg
  simp only [forall_eq]
theorem zfg_ne {σ : zSt} {o : Nat} (h1 : o ≠ 25) (h2 : o ≠ 28) : (zfg σ).1 o = σ.1 o := by
  unfold zfg
  rw [zput_ne h2, zput_ne h2]
  unfold zfill
  exact zrow_ne h1
theorem zfg_ca (σ : zSt) (D : zD) (C : zCo) : xCa D C (zfg σ) := by
  have e : ∀ j, j < 416 → (zfg σ).1 25 j = -1 := by
    intro j hj
    unfold zfg
    rw [zput_ne (by decide), zput_ne (by decide)]
    simp [zfill, zrow, hj]
  exact ⟨fun i m hi hm => Or.inl (e _ (by omega)), fun m was is h1 h2 h3 => Or.inl (e _ (by omega))⟩
theorem zfg_se (σ : zSt) (D : zD) (C : zCo) : xSe D C (zfg σ) := by
  have e1 : (zfg σ).1 28 11 = -2 := by unfold zfg; simp [zput_at]
  have e2 : (zfg σ).1 28 12 = -2 := by unfold zfg; simp [zput_at]
  exact ⟨Or.inl e1, Or.inl e2⟩
theorem RX.ch {A : zA} {σ σ' : zSt} {D' : zD} (h : RX A σ) (hI : zI (D', A.2)) (hD : zDX 1 D' σ') (e : ∀ o, (o = 0 ∨ 9 ≤ o) → o ≠ 25 → o ≠ 28 → σ'.1 o = σ.1 o) (hCa : xCa D' A.2.2.2.1.2 σ') (hSe : xSe D' A.2.2.2.1.2 σ') : RX (D', A.2) σ' := by
  obtain ⟨h1, h2, h3, h4, h5, h6, h7, h8⟩ := h
  have e0 := e 0 (Or.inl rfl) (by decide) (by decide)
  exact ⟨hI, hD, h3.fr (by rw [e0]) (fun k hk => e _ (by omega) (by omega) (by omega)), h4.fr (by rw [e0]) (e _ (by omega) (by omega) (by omega)), h5.fr (by rw [e0]) (fun i hi => e _ (by omega) (by omega) (by omega)) (fun i hi => e _ (by omega) (by omega) (by omega)) h1.2.2.2.1.2.1, h6.fr (fun i hi => e _ (by omega) (by omega) (by omega)) (fun i hi => e _ (by omega) (by omega) (by omega)), hCa, hSe⟩
def s_at (A : zA) (x : Int32) : Int32 × zA := if zr x 24 = true then (nI (A.1 0 x.toNatClampNeg), A) else (-2, A)
theorem x_at {A : zA} {σ : zSt} (h : RX A σ) (x : Int32) (Q : Int32 → zSt → Prop) (hQ : ∀ σ', RX (s_at A x).2 σ' → Q (s_at A x).1 σ') : wX7_at x σ Q := by
  unfold wX7_at
  rw [p7_isMinute]
  unfold s_at at hQ
  by_cases h1 : zr x 24 = true
  · rw [if_pos h1] at hQ ⊢
    rw [if_neg (by decide)]
    obtain ⟨j, hj, rfl⟩ := zr_of (by omega) h1
    refine ⟨zr_in (by omega) h1, ?_⟩
    rw [zcl (by omega)] at hQ ⊢
    rw [show σ.1 2 j = nI (A.1 0 j) from h.2.1.1 j hj]
    exact hQ σ h
  · rw [if_neg h1] at hQ ⊢
    rw [if_pos rfl]
    exact hQ σ h
def s_up (A : zA) (x b : Int32) : Int32 × zA := if zr x 24 = true ∧ zr b 3 = true then (nI (A.1 0 x.toNatClampNeg), (zDu A.1 0 x.toNatClampNeg b.toNatClampNeg, A.2)) else (-2, A)
theorem zOk_plan {D : zD} (h : zOk D) {m b : Nat} (hb : b < 3) : zOk (zDu D 0 m b) := by
  obtain ⟨h1, h2, h3, h4⟩ := h
  refine ⟨fun k hk => ?_, fun k hk => ?_, fun k hk => ?_, ?_⟩
  · unfold zDu; by_cases q : k = m
    · simp [q, hb]
    · simp [q, h1 k hk]
  · simpa [zDu] using h2 k hk
  · simpa [zDu] using h3 k hk
  · simpa [zDu] using h4
theorem zI_plan {A : zA} (h : zI A) {m b : Nat} (hb : b < 3) : zI (zDu A.1 0 m b, A.2) := by
  obtain ⟨h1, h2, h3, h4, h5⟩ := h
  refine ⟨zOk_plan h1 hb, ?_, h3, ?_, h5⟩
  · cases hk : A.2.1 with
    | none => simp [zimg]
    | some K => rw [hk] at h2; simpa [zimg, zDu] using h2
  · simpa [zDu] using h4
theorem zcost_cg {D D' : zD} {C : zCo} (h1 : D' 1 = D 1) (h2 : D' 2 = D 2) (h3 : D' 3 = D 3) (h6 : D' 6 0 = D 6 0) (h7 : D' 6 1 = D 6 1) (h8 : D' 6 5 = D 6 5) : zcost D' C = zcost D C ∧ zchg D' C = zchg D C := by
  constructor
  · funext i m; simp [zcost, h1, h2, h3, h6, h7, h8]
  · funext a b c; simp [zchg, h6, h7, h8]
theorem zpar_cg {D D' : zD} (h1 : D' 1 = D 1) (h2 : D' 2 = D 2) (h6 : D' 6 0 = D 6 0) (h7 : D' 6 1 = D 6 1) (h9 : D' 6 3 = D 6 3) (co : Nat → Nat → Nat) (ch : Nat → Nat → Nat → Nat) : zpar D' co ch = zpar D co ch := by
  have e1 : zPr D' = zPr D := by funext i; simp [zPr, h6, h7]
  have e2 : zPa D' = zPa D := by funext i b; simp [zPa, h1]
  simp [zpar, e1, e2, h2, h9]
theorem xCa.cg {D D' : zD} {C : zCo} {σ : zSt} (h : xCa D C σ) (h1 : D' 1 = D 1) (h2 : D' 2 = D 2) (h3 : D' 3 = D 3) (h6 : D' 6 0 = D 6 0) (h7 : D' 6 1 = D 6 1) (h8 : D' 6 5 = D 6 5) : xCa D' C σ := by
  obtain ⟨e1, e2⟩ := zcost_cg (C := C) h1 h2 h3 h6 h7 h8
  unfold xCa
  rw [e1, e2]; exact h
theorem xSe.cg {D D' : zD} {C : zCo} {σ : zSt} (h : xSe D C σ) (h1 : D' 1 = D 1) (h2 : D' 2 = D 2) (h3 : D' 3 = D 3) (h6 : D' 6 0 = D 6 0) (h7 : D' 6 1 = D 6 1) (h8 : D' 6 5 = D 6 5) (h9 : D' 6 3 = D 6 3) : xSe D' C σ := by
  obtain ⟨e1, e2⟩ := zcost_cg (C := C) h1 h2 h3 h6 h7 h8
  unfold xSe zparC zfew zparF at *
  rw [e1, e2, zpar_cg h1 h2 h6 h7 h9, zpar_cg h1 h2 h6 h7 h9]; exact h
theorem x_up {A : zA} {σ : zSt} (h : RX A σ) (x b : Int32) (Q : Int32 → zSt → Prop) (hQ : ∀ σ', RX (s_up A x b).2 σ' → Q (s_up A x b).1 σ') : wX7_up x b σ Q := by
  unfold wX7_up
  rw [p7_isMinute]
  unfold s_up at hQ
  by_cases h1 : zr x 24 = true
  · rw [if_pos h1, if_neg (by decide), p7_isBridge]
    by_cases h2 : zr b 3 = true
    · rw [if_pos ⟨h1, h2⟩] at hQ
      rw [if_pos h2, if_neg (by decide)]
      obtain ⟨j, hj, rfl⟩ := zr_of (by omega) h1
      obtain ⟨k, hk, rfl⟩ := zr_of (by omega) h2
      have hv : vp_in (nI j) 24 := zin' hj (by omega)
      simp only [hv, true_and, forall_eq]
      rw [zcl (by omega)] at hQ ⊢
      rw [zcl (by omega)] at hQ
      rw [show σ.1 2 j = nI (A.1 0 j) from h.2.1.1 j hj]
      refine hQ _ (h.ch (zI_plan h.1 hk) ?_ ?_ ?_ ?_)
      · obtain ⟨g1, g2, g3, g4⟩ := h.2.1
        refine ⟨fun m hm => ?_, fun m hm => ?_, fun m hm => ?_, ?_⟩
        · have := g1 m hm
          by_cases q : m = j
          · subst q; simp [zput_at, zDu]
          · simp [zput_at, zDu, q, this]
        · simpa [zput_at, zDu] using g2 m hm
        · simpa [zput_at, zDu] using g3 m hm
        · simpa [zput_at, zDu] using g4
      · intro o ho _ _
        exact zput_ne (by omega)
      · exact (h.2.2.2.2.2.2.1.fr (zput_ne (by decide))).cg rfl rfl rfl rfl rfl rfl
      · exact (h.2.2.2.2.2.2.2.fr (zput_ne (by decide)) (zput_ne (by decide))).cg rfl rfl rfl rfl rfl rfl rfl
    · rw [if_neg (fun q => h2 q.2)] at hQ
      rw [if_neg h2, if_pos rfl]
      exact hQ σ h
  · rw [if_neg (fun q => h1 q.1)] at hQ
    rw [if_neg h1, if_pos rfl]
    exact hQ σ h
