theorem p1_isThere {D : zD} {σ : zSt} (hD : zDX 1 D σ) (hO : zOk D) {i : Nat} (hi : i < 8) (Q : Int32 → zSt → Prop) : wX1_isThere (nI i) σ Q = Q (if zPr D i = true then 1 else 0) σ := by
  have h1 : σ.1 3 0 = nI (D 6 0) := hD.2.2.2.1
  have h2 : σ.1 3 1 = nI (D 6 1) := hD.2.2.2.2.1
  have h3 := hO.2.2.2.1
  have h4 := hO.2.2.2.2.1
  unfold wX1_isThere
  simp (disch := omega) only [kk, zc, h1, h2]
  by_cases q : 4 ≤ i
  · have q' : ¬ i < 4 := by omega
    rw [if_pos q, zs _ _ q]
    simp (disch := omega) only [zc]
    by_cases e : D 6 1 ≤ i - 4
    · have e' : ¬ i - 4 < D 6 1 := by omega
      simp [q', e, e', zPr]
    · have e' : i - 4 < D 6 1 := by omega
      simp [q', e, e', zPr]
  · have q' : i < 4 := by omega
    rw [if_neg q, if_neg (by omega)]
    by_cases e : D 6 0 ≤ i
    · have e' : ¬ i < D 6 0 := by omega
      simp [q', e, e', zPr]
    · have e' : i < D 6 0 := by omega
      simp [q', e, e', zPr]
theorem p1_passes {D : zD} {σ : zSt} (hD : zDX 1 D σ) (hO : zOk D) {i b : Nat} (hi : i < 8) (hb : b < 3) (Q : Int32 → zSt → Prop) : wX1_passes (nI i) (nI b) σ Q = Q (if zPa D i b = true then 1 else 0) σ := by
  have h1 : σ.1 4 i = nI (D 1 i) := (hD.2.1 i hi).1
  have h2 := (hO.2.1 i hi).1
  unfold wX1_passes
  simp (disch := omega) only [kk, zc, h1]
  have hv : vp_in (nI i) 8 := zin' hi (by omega)
  by_cases q : 4 ≤ i
  · have q' : ¬ i < 4 := by omega
    by_cases e : D 1 i = b <;> simp [q, q', e, hv, zPa]
  · have q' : i < 4 := by omega
    by_cases e : D 1 i = b <;> simp [q, q', e, hv, zPa]
def zIsRow (o : Nat) (row : Nat → Nat) (σ : zSt) : Prop := ∀ m, m < 24 → σ.1 o m = nI (row m) ∧ row m < 3
def zchgs (row : Nat → Nat) : Nat := zsum (fun k => if row (k + 1) = row k then 0 else 1) 23
def zthc (D : zD) (row : Nat → Nat) : Nat := zsum (fun i => if zPr D i = true ∧ zthr D row i < 24 then 1 else 0) 8
def zrowc (D : zD) (C : zCo) (row : Nat → Nat) : Nat := zsum (fun i => if zPr D i = true then zcost D C i (zthr D row i) else 0) 8 + zsum (fun k => if row (k + 1) = row k then 0 else zchg D C (k + 1) (row k) (row (k + 1))) 23
theorem zsum_le {f : Nat → Nat} {c : Nat} : ∀ n, (∀ k, k < n → f k ≤ c) → zsum f n ≤ n * c := by
  intro n
  induction n with
  | zero => intro _; simp [zsum]
  | succ n ih =>
    intro h
    have h1 := ih (fun k hk => h k (by omega))
    have h2 := h n (by omega)
    have e : (n + 1) * c = n * c + c := by rw [Nat.add_mul, Nat.one_mul]
    show zsum f n + f n ≤ (n + 1) * c
    omega
theorem p1_through_2_L {D : zD} {σ : zSt} (hD : zDX 1 D σ) (hO : zOk D) {row : Nat → Nat} (hr : zIsRow 2 row σ) {i : Nat} (hi : i < 8) (Q : Int32 → zSt → Prop) (K : Int32 → zSt → Prop) (K2 : zSt → Prop) : ∀ (k m n : Nat), m ≤ 24 → 24 < m + k → 24 < m + n → wX1_through_2_L11 Q K K2 (nI i) n (nI m) σ = if zthrF D row i k m < 24 then K (nI (zthrF D row i k m)) σ else K2 σ := by
  intro k
  induction k with
  | zero => intro m n h1 h2 h3; omega
  | succ k ih =>
    intro m n h1 h2 h3
    obtain ⟨n, rfl⟩ : ∃ n', n = n' + 1 := ⟨n - 1, by omega⟩
    rw [wX1_through_2_L11, zthrF]
    simp (disch := omega) only [kk, zc]
    by_cases q : 24 ≤ m
    · have : m = 24 := by omega
      subst this
      simp
    · have hm : m < 24 := by omega
      rw [if_neg q, if_neg q, if_neg q, (hr m hm).1]
      have hv : vp_in (nI m) 24 := zin' hm (by omega)
      simp only [hv, true_and, forall_eq, p1_passes hD hO hi (hr m hm).2, kk, zc]
      by_cases e : zPa D i (row m) = true
      · simp (disch := omega) [e, zc, hm]
      · simp (disch := omega) [e]
        rw [ih (m + 1) n (by omega) (by omega) (by omega)]
theorem p1_through_2 {D : zD} {σ : zSt} (hD : zDX 1 D σ) (hO : zOk D) {row : Nat → Nat} (hr : zIsRow 2 row σ) {i : Nat} (hi : i < 8) (Q : Int32 → zSt → Prop) : wX1_through_2 (nI i) σ Q = Q (nI (zthr D row i)) σ := by
  unfold wX1_through_2
  have h1 : σ.1 5 i = nI (D 2 i) := (hD.2.1 i hi).2.1
  have h2 := (hO.2.1 i hi).2.1
  have hv : vp_in (nI i) 8 := zin' hi (by omega)
  rw [zcl (by omega), h1]
  simp only [hv, true_and, forall_eq]
  rw [if_neg (nI_pos (by omega)), p1_through_2_L hD hO hr hi Q _ _ 25 (D 2 i) 300 (by omega) (by omega) (by omega)]
  have hle := (zthr_le D row i 25 (D 2 i) (by omega) (by omega)).1
  unfold zthr
  by_cases c : zthrF D row i 25 (D 2 i) < 24
  · rw [if_pos c]
  · rw [if_neg c, show zthrF D row i 25 (D 2 i) = 24 by omega]; rfl
theorem p1_through_39_L {D : zD} {σ : zSt} (hD : zDX 1 D σ) (hO : zOk D) {row : Nat → Nat} (hr : zIsRow 39 row σ) {i : Nat} (hi : i < 8) (Q : Int32 → zSt → Prop) (K : Int32 → zSt → Prop) (K2 : zSt → Prop) : ∀ (k m n : Nat), m ≤ 24 → 24 < m + k → 24 < m + n → wX1_through_39_L11 Q K K2 (nI i) n (nI m) σ = if zthrF D row i k m < 24 then K (nI (zthrF D row i k m)) σ else K2 σ := by
  intro k
  induction k with
  | zero => intro m n h1 h2 h3; omega
  | succ k ih =>
    intro m n h1 h2 h3
    obtain ⟨n, rfl⟩ : ∃ n', n = n' + 1 := ⟨n - 1, by omega⟩
    rw [wX1_through_39_L11, zthrF]
    simp (disch := omega) only [kk, zc]
    by_cases q : 24 ≤ m
    · have : m = 24 := by omega
      subst this
      simp
    · have hm : m < 24 := by omega
      rw [if_neg q, if_neg q, if_neg q, (hr m hm).1]
      have hv : vp_in (nI m) 24 := zin' hm (by omega)
      simp only [hv, true_and, forall_eq, p1_passes hD hO hi (hr m hm).2, kk, zc]
      by_cases e : zPa D i (row m) = true
      · simp (disch := omega) [e, zc, hm]
      · simp (disch := omega) [e]
        rw [ih (m + 1) n (by omega) (by omega) (by omega)]
theorem p1_through_39 {D : zD} {σ : zSt} (hD : zDX 1 D σ) (hO : zOk D) {row : Nat → Nat} (hr : zIsRow 39 row σ) {i : Nat} (hi : i < 8) (Q : Int32 → zSt → Prop) : wX1_through_39 (nI i) σ Q = Q (nI (zthr D row i)) σ := by
  unfold wX1_through_39
  have h1 : σ.1 5 i = nI (D 2 i) := (hD.2.1 i hi).2.1
  have h2 := (hO.2.1 i hi).2.1
  have hv : vp_in (nI i) 8 := zin' hi (by omega)
  rw [zcl (by omega), h1]
  simp only [hv, true_and, forall_eq]
  rw [if_neg (nI_pos (by omega)), p1_through_39_L hD hO hr hi Q _ _ 25 (D 2 i) 300 (by omega) (by omega) (by omega)]
  have hle := (zthr_le D row i 25 (D 2 i) (by omega) (by omega)).1
  unfold zthr
  by_cases c : zthrF D row i 25 (D 2 i) < 24
  · rw [if_pos c]
  · rw [if_neg c, show zthrF D row i 25 (D 2 i) = 24 by omega]; rfl
theorem p1_through_42_L {D : zD} {σ : zSt} (hD : zDX 1 D σ) (hO : zOk D) {row : Nat → Nat} (hr : zIsRow 42 row σ) {i : Nat} (hi : i < 8) (Q : Int32 → zSt → Prop) (K : Int32 → zSt → Prop) (K2 : zSt → Prop) : ∀ (k m n : Nat), m ≤ 24 → 24 < m + k → 24 < m + n → wX1_through_42_L11 Q K K2 (nI i) n (nI m) σ = if zthrF D row i k m < 24 then K (nI (zthrF D row i k m)) σ else K2 σ := by
  intro k
  induction k with
  | zero => intro m n h1 h2 h3; omega
  | succ k ih =>
    intro m n h1 h2 h3
    obtain ⟨n, rfl⟩ : ∃ n', n = n' + 1 := ⟨n - 1, by omega⟩
    rw [wX1_through_42_L11, zthrF]
    simp (disch := omega) only [kk, zc]
    by_cases q : 24 ≤ m
    · have : m = 24 := by omega
      subst this
      simp
    · have hm : m < 24 := by omega
      rw [if_neg q, if_neg q, if_neg q, (hr m hm).1]
      have hv : vp_in (nI m) 24 := zin' hm (by omega)
      simp only [hv, true_and, forall_eq, p1_passes hD hO hi (hr m hm).2, kk, zc]
      by_cases e : zPa D i (row m) = true
      · simp (disch := omega) [e, zc, hm]
      · simp (disch := omega) [e]
        rw [ih (m + 1) n (by omega) (by omega) (by omega)]
theorem p1_through_42 {D : zD} {σ : zSt} (hD : zDX 1 D σ) (hO : zOk D) {row : Nat → Nat} (hr : zIsRow 42 row σ) {i : Nat} (hi : i < 8) (Q : Int32 → zSt → Prop) : wX1_through_42 (nI i) σ Q = Q (nI (zthr D row i)) σ := by
  unfold wX1_through_42
  have h1 : σ.1 5 i = nI (D 2 i) := (hD.2.1 i hi).2.1
  have h2 := (hO.2.1 i hi).2.1
  have hv : vp_in (nI i) 8 := zin' hi (by omega)
  rw [zcl (by omega), h1]
  simp only [hv, true_and, forall_eq]
  rw [if_neg (nI_pos (by omega)), p1_through_42_L hD hO hr hi Q _ _ 25 (D 2 i) 300 (by omega) (by omega) (by omega)]
  have hle := (zthr_le D row i 25 (D 2 i) (by omega) (by omega)).1
  unfold zthr
  by_cases c : zthrF D row i 25 (D 2 i) < 24
  · rw [if_pos c]
  · rw [if_neg c, show zthrF D row i 25 (D 2 i) = 24 by omega]; rfl
/-! a text's worth -/
theorem p6_nameAt {σ : zSt} {names : Nat → Int32} (hn : ∀ k, k < 6 → σ.1 26 k = names k) {c : Int32} (h1 : ¬ c < -6) (h2 : c < 0) (Q : Int32 → zSt → Prop) : wX6_nameAt_26 (-1 - c) σ Q = Q (zname names c) σ := by
  obtain ⟨j, hj, e⟩ : ∃ j, j < 6 ∧ -1 - c = nI j := by
    have hs : (-1 - c).toInt = -1 - c.toInt := by
      rw [Int32.toInt_sub, show (-1 : Int32).toInt = -1 from by decide]
      rw [Int32.lt_iff_toInt_lt, show (-6 : Int32).toInt = -6 from by decide] at h1
      rw [Int32.lt_iff_toInt_lt, show (0 : Int32).toInt = 0 from by decide] at h2
      rw [Int.bmod_eq_of_le] <;> omega
    rw [Int32.lt_iff_toInt_lt, show (-6 : Int32).toInt = -6 from by decide] at h1
    rw [Int32.lt_iff_toInt_lt, show (0 : Int32).toInt = 0 from by decide] at h2
    have hz : zr (-1 - c) 6 = true := by
      unfold zr
      simp only [Bool.and_eq_true, decide_eq_true_eq]
      rw [Int32.le_iff_toInt_le, Int32.lt_iff_toInt_lt, hs, show (0 : Int32).toInt = 0 from by decide, nI_toInt (by omega)]
      omega
    exact zr_of (by omega) hz
  have h0 : ¬ (0 : Int32) ≤ c := by rw [Int32.le_iff_toInt_le]; rw [Int32.lt_iff_toInt_lt] at h2; omega
  unfold zname
  rw [if_neg h0, e]
  unfold wX6_nameAt_26
  rw [if_neg (nI_pos (by omega)), if_neg (show ¬ (6 : Int32) ≤ nI j from nI_ge (a := j) (b := 6) hj (by omega)), zcl (by omega), hn j hj]
  simp [zin' hj]
theorem p6_joined (c a b : Int32) (σ : zSt) (Q : Int32 → zSt → Prop) : wX6_joined c a b σ Q = Q (zop c a b) σ := by
  unfold wX6_joined zop
  by_cases c14 : c = -14
  · subst c14
    by_cases a0 : a = 0 <;> by_cases b0 : b = 0 <;> simp [a0, b0]
  by_cases c13 : c = -13
  · subst c13
    by_cases e : a = b <;> simp [e]
  by_cases c12 : c = -12
  · subst c12
    by_cases e : b ≤ a
    · have : ¬ a < b := by rw [Int32.lt_iff_toInt_lt]; rw [Int32.le_iff_toInt_le] at e; omega
      simp [e, this]
    · have : a < b := by rw [Int32.lt_iff_toInt_lt]; rw [Int32.le_iff_toInt_le] at e; omega
      simp [e, this]
  by_cases c11 : c = -11
  · subst c11; simp
  by_cases c10 : c = -10
  · subst c10; simp
  by_cases c9 : c = -9
  · subst c9; simp
  by_cases a0 : a = 0 <;> by_cases b0 : b = 0 <;> simp [a0, b0, c14, c13, c12, c11, c10, c9]
def zStk (S : List Int32) (σ : zSt) : Prop := ∀ t, t < S.length → σ.1 27 t = S.reverse.getD t 0
theorem zStk_push {S : List Int32} {σ : zSt} (h : zStk S σ) (v : Int32) : zStk (v :: S) (zput σ 27 S.length v) := by
  intro t ht
  simp only [List.length_cons] at ht
  rw [List.reverse_cons]
  by_cases e : t = S.length
  · subst e
    simp [zput_at, List.getD_eq_getElem?_getD]
  · have h2 := h t (by omega)
    simp only [zput_at, e, and_false, if_false]
    rw [h2]
    simp only [List.getD_eq_getElem?_getD]
    rw [List.getElem?_append_left (by simpa using (by omega : t < S.length))]
theorem zStk_tail {S : List Int32} {σ : zSt} {v : Int32} (h : zStk (v :: S) σ) : zStk S σ ∧ σ.1 27 S.length = v := by
  constructor
  · intro t ht
    have := h t (by simp; omega)
    rw [this, List.reverse_cons]
    simp only [List.getD_eq_getElem?_getD]
    rw [List.getElem?_append_left (by simpa using ht)]
  · have := h S.length (by simp)
    rw [this, List.reverse_cons]
    simp [List.getD_eq_getElem?_getD]
theorem zStk_fr {S : List Int32} {σ σ' : zSt} (h : zStk S σ) (e : σ'.1 27 = σ.1 27) : zStk S σ' := fun t ht => by rw [e]; exact h t ht
theorem p6_worth_L {i p endp : Nat} {names : Nat → Int32} (hi : i < 6) (hp : p < 3) (he : endp ≤ 160) (Q : Int32 → zSt → Prop) (K : Int32 → zSt → Prop) : ∀ (cs S : List Int32) (pos n : Nat) (σ : zSt), (∀ t, t < cs.length → σ.1 (49 + i) (pos + t) = cs.getD t 0) → pos + cs.length = endp → σ.1 (55 + i) p = nI endp → (∀ k, k < 6 → σ.1 26 k = names k) → S.length + cs.length ≤ 160 → zStk S σ → cs.length < n → (∀ σ', (∀ o, o ≠ 27 → σ'.1 o = σ.1 o) → zStk (zev names S cs) σ' → (zev names S cs).length ≤ 160 → K (nI (zev names S cs).length) σ') → wX6_worth_26_27_L36 Q K i (nI p) n (nI S.length) (nI pos) σ := by
  intro cs
  induction cs with
  | nil =>
    intro S pos n σ h1 h2 h3 h4 h5 h6 h7 hK
    obtain ⟨n, rfl⟩ : ∃ n', n = n' + 1 := ⟨n - 1, by omega⟩
    rw [wX6_worth_26_27_L36, zcl (by omega), h3]
    simp only [List.length_nil] at h2 h5
    refine ⟨zin' hp (by omega), ?_⟩
    rw [if_pos (nI_le (by omega) (by omega))]
    exact hK σ (fun _ _ => rfl) h6 (by simpa [zev] using h5)
  | cons c cs ih =>
    intro S pos n σ h1 h2 h3 h4 h5 h6 h7 hK
    obtain ⟨n, rfl⟩ : ∃ n', n = n' + 1 := ⟨n - 1, by omega⟩
    simp only [List.length_cons] at h2 h5 h7
    have hc : σ.1 (49 + i) pos = c := by simpa using h1 0 (by simp)
    rw [wX6_worth_26_27_L36, zcl (by omega), h3]
    refine ⟨zin' hp (by omega), ?_⟩
    rw [if_neg (nI_ge (by omega) (by omega)), if_neg (show ¬ (160 : Int32) ≤ nI pos from nI_ge (a := pos) (b := 160) (by omega) (by omega)), zcl (by omega), hc]
    refine ⟨zin' (by omega) (by omega), ?_⟩
    simp only [forall_eq]
    have ep : nI pos + 1 = nI (pos + 1) := nI_1 pos
    have hK' : ∀ (σ1 : zSt) (S1 : List Int32), zstep names S c = S1 → (∀ o, o ≠ 27 → σ1.1 o = σ.1 o) → (∀ σ' : zSt, (∀ o, o ≠ 27 → σ'.1 o = σ1.1 o) → zStk (zev names S1 cs) σ' → (zev names S1 cs).length ≤ 160 → K (nI (zev names S1 cs).length) σ') := by
      intro σ1 S1 e1 e2 σ' e3 h8 h9
      subst e1
      exact hK σ' (fun o ho => (e3 o ho).trans (e2 o ho)) h8 h9
    have go : ∀ (σ1 : zSt) (S1 : List Int32), zstep names S c = S1 → (∀ o, o ≠ 27 → σ1.1 o = σ.1 o) → S1.length + cs.length ≤ 160 → zStk S1 σ1 → wX6_worth_26_27_L36 Q K i (nI p) n (nI S1.length) (nI pos + 1) σ1 := by
      intro σ1 S1 e1 e2 e3 e4
      rw [ep]
      refine ih S1 (pos + 1) n σ1 ?_ (by omega) (by rw [e2 _ (by omega)]; exact h3) (by rw [e2 _ (by omega)]; exact h4) e3 e4 (by omega) (hK' σ1 S1 e1 e2)
      intro t ht
      rw [e2 _ (by omega)]
      have := h1 (t + 1) (by simp; omega)
      rw [show pos + 1 + t = pos + (t + 1) by omega, this]
      simp
    by_cases k6 : c < -6
    · rw [if_pos k6]
      have k6' : ¬ (-6 : Int32) ≤ c := by rw [Int32.le_iff_toInt_le]; rw [Int32.lt_iff_toInt_lt] at k6; omega
      by_cases k8 : c < -8
      · rw [if_pos k8]
        have k8' : ¬ (-8 : Int32) ≤ c := by rw [Int32.le_iff_toInt_le]; rw [Int32.lt_iff_toInt_lt] at k8; omega
        match S, h5, h6 with
        | [], h5, h6 =>
          rw [if_pos (by decide)]
          exact go σ [] (by simp [zstep, k6', k8']) (fun _ _ => rfl) (by simp; omega) h6
        | [a], h5, h6 =>
          rw [if_pos (show nI [a].length < (2 : Int32) from (by decide : nI 1 < (2 : Int32)))]
          exact go σ [a] (by simp [zstep, k6', k8']) (fun _ _ => rfl) (by simp at h5 ⊢; omega) h6
        | b :: a :: r, h5, h6 =>
          simp only [List.length_cons] at h5
          have e2 : (b :: a :: r).length = r.length + 2 := rfl
          rw [e2, if_neg (show ¬ nI (r.length + 2) < (2 : Int32) from nI_nlt (a := r.length + 2) (b := 2) (by omega) (by omega))]
          have e1 : nI (r.length + 2) + -1 = nI (r.length + 1) := zm1 (by omega)
          have e3 : nI (r.length + 1) - 1 = nI r.length := by rw [show (1 : Int32) = nI 1 from rfl, pk_sub (by omega)]; rfl
          rw [e1, e3, zcl (by omega), zcl (by omega)]
          obtain ⟨g1, g2⟩ := zStk_tail h6
          obtain ⟨g3, g4⟩ := zStk_tail g1
          rw [g4, show σ.1 27 (r.length + 1) = b from g2, p6_joined c a b]
          refine ⟨zin' (by omega) (by omega), zin' (by omega) (by omega), zin' (by omega) (by omega), ?_⟩
          exact go _ (zop c a b :: r) (by simp [zstep, k6', k8']) (fun o ho => zput_ne ho) (by simp; omega) (zStk_push g3 _)
      · rw [if_neg k8]
        have k8' : (-8 : Int32) ≤ c := by rw [Int32.le_iff_toInt_le]; rw [Int32.lt_iff_toInt_lt] at k8; omega
        match S, h5, h6 with
        | [], h5, h6 =>
          rw [if_pos (by decide)]
          exact go σ [] (by simp [zstep, k6', k8']) (fun _ _ => rfl) (by simp; omega) h6
        | a :: r, h5, h6 =>
          simp only [List.length_cons] at h5
          have e2 : (a :: r).length = r.length + 1 := rfl
          rw [e2, if_neg (show ¬ nI (r.length + 1) < (1 : Int32) from nI_nlt (a := r.length + 1) (b := 1) (by omega) (by omega))]
          have e3 : nI (r.length + 1) - 1 = nI r.length := by rw [show (1 : Int32) = nI 1 from rfl, pk_sub (by omega)]; rfl
          rw [e3, zcl (by omega)]
          obtain ⟨g3, g4⟩ := zStk_tail h6
          rw [g4]
          have hv : vp_in (nI r.length) 160 := zin' (by omega) (by omega)
          simp only [hv, true_and]
          by_cases k7 : c = -7
          · rw [if_pos k7]
            exact go _ (-a :: r) (by simp [zstep, k7]) (fun o ho => zput_ne ho) (by simp; omega) (zStk_push g3 _)
          · rw [if_neg k7]
            by_cases a0 : a = 0
            · rw [if_pos a0]
              exact go _ (1 :: r) (by simp [zstep, k6', k8', k7, a0]) (fun o ho => zput_ne ho) (by simp; omega) (zStk_push g3 _)
            · rw [if_neg a0]
              exact go _ (0 :: r) (by simp [zstep, k6', k8', k7, a0]) (fun o ho => zput_ne ho) (by simp; omega) (zStk_push g3 _)
    · rw [if_neg k6]
      have k6' : (-6 : Int32) ≤ c := by rw [Int32.le_iff_toInt_le]; rw [Int32.lt_iff_toInt_lt] at k6; omega
      rw [if_neg (show ¬ (160 : Int32) ≤ nI S.length from nI_ge (a := S.length) (b := 160) (by omega) (by omega))]
      have es : nI S.length + 1 = nI (zname names c :: S).length := nI_1 _
      have hv : vp_in (nI S.length) 160 := zin' (by omega) (by omega)
      by_cases k0 : c < 0
      · rw [if_pos k0, p6_nameAt h4 k6 k0]
        refine ⟨hv, ?_⟩
        rw [zcl (by omega), es]
        exact go _ (zname names c :: S) (by simp [zstep, k6']) (fun o ho => zput_ne ho) (by simp; omega) (zStk_push h6 _)
      · rw [if_neg k0]
        have k0' : (0 : Int32) ≤ c := by rw [Int32.le_iff_toInt_le]; rw [Int32.lt_iff_toInt_lt] at k0; omega
        refine ⟨hv, ?_⟩
        have en : zname names c = c := by unfold zname; rw [if_pos k0']
        rw [zcl (by omega), es]
        rw [en]
        exact go _ (c :: S) (by simp [zstep, k6', en]) (fun o ho => zput_ne ho) (by simp; omega) (zStk_push h6 _)
theorem p6_worth {c : Nat → List Int32} {i p : Nat} {names : Nat → Int32} {σ : zSt} (hi : i < 6) (hp : p < 3) (h : xTx c i σ) (hn : ∀ k, k < 6 → σ.1 26 k = names k) (Q : Int32 → zSt → Prop) (hQ : ∀ σ' : zSt, (∀ o, o ≠ 27 → σ'.1 o = σ.1 o) → Q (zworth names (c p)) σ') : wX6_worth_26_27 i (nI p) σ Q := by
  obtain ⟨hl, e0, e1, e2, hc⟩ := h
  have fin : ∀ (Q' : Int32 → zSt → Prop), (∀ v s, Q' v s = Q v s) → ∀ σ' : zSt, (∀ o, o ≠ 27 → σ'.1 o = σ.1 o) → zStk (zev names [] (c p)) σ' → (zev names [] (c p)).length ≤ 160 → (if nI (zev names [] (c p)).length ≤ 0 then Q 0 σ' else (vp_in (nI (zev names [] (c p)).length - 1) 160 ∧ Q (σ'.1 27 (nI (zev names [] (c p)).length - 1).toNatClampNeg) σ')) := by
    intro Q' _ σ' ha hb hl2
    have hq := hQ σ' ha
    unfold zworth at hq
    cases hz : zev names [] (c p) with
    | nil => rw [hz] at hq; rw [if_pos (by decide)]; exact hq
    | cons v r =>
      rw [hz] at hq hb hl2
      have hl3 : r.length + 1 ≤ 160 := hl2
      rw [if_neg (show ¬ nI (v :: r).length ≤ (0 : Int32) from nI_ge (a := 0) (b := r.length + 1) (by omega) (by omega))]
      have e3 : nI (v :: r).length - 1 = nI r.length := by rw [show (1 : Int32) = nI 1 from rfl, pk_sub (by simp)]; rfl
      rw [e3, zcl (by omega), (zStk_tail hb).2]
      exact ⟨zin' (by omega) (by omega), hq⟩
  have rest := fin Q (fun _ _ => rfl)
  have ap0 : ∀ t, t < (c 0).length → σ.1 (49 + i) (0 + t) = (c 0).getD t 0 := by
    intro t ht
    rw [Nat.zero_add, hc t (by omega)]
    simp only [List.getD_eq_getElem?_getD]
    rw [List.getElem?_append_left ht]
  have ap1 : ∀ t, t < (c 1).length → σ.1 (49 + i) ((c 0).length + t) = (c 1).getD t 0 := by
    intro t ht
    rw [hc _ (by omega)]
    simp only [List.getD_eq_getElem?_getD]
    rw [List.getElem?_append_right (by omega), Nat.add_sub_cancel_left, List.getElem?_append_left ht]
  have ap2 : ∀ t, t < (c 2).length → σ.1 (49 + i) ((c 0).length + (c 1).length + t) = (c 2).getD t 0 := by
    intro t ht
    rw [hc _ (by omega)]
    simp only [List.getD_eq_getElem?_getD]
    rw [List.getElem?_append_right (by omega), List.getElem?_append_right (by omega)]
    congr 2
    omega
  have st0 : zStk [] σ := fun t ht => absurd ht (by simp)
  unfold wX6_worth_26_27
  rw [if_neg (nI_pos (by omega)), if_pos (show nI p < (3 : Int32) from nI_lt (a := p) (b := 3) hp (by omega))]
  rcases (show p = 0 ∨ p = 1 ∨ p = 2 by omega) with rfl | rfl | rfl
  · rw [if_pos (by decide)]
    exact p6_worth_L (names := names) hi (by omega) (show (c 0).length ≤ 160 by omega) Q _ (c 0) [] 0 300 σ ap0 (by omega) e0 hn (by simp; omega) st0 (by omega) rest
  · rw [if_neg (by decide)]
    refine ⟨zlit (by decide), ?_⟩
    simp only [forall_eq]
    rw [show ((nI 1 - 1 : Int32)).toNatClampNeg = 0 from by decide, e0]
    exact p6_worth_L (names := names) hi (by omega) (show (c 0).length + (c 1).length ≤ 160 by omega) Q _ (c 1) [] (c 0).length 300 σ ap1 (by omega) e1 hn (by simp; omega) st0 (by omega) rest
  · rw [if_neg (by decide)]
    refine ⟨zlit (by decide), ?_⟩
    simp only [forall_eq]
    rw [show ((nI 2 - 1 : Int32)).toNatClampNeg = 1 from by decide, e1]
    exact p6_worth_L (names := names) hi (by omega) (show (c 0).length + (c 1).length + (c 2).length ≤ 160 by omega) Q _ (c 2) [] ((c 0).length + (c 1).length) 300 σ ap2 (by omega) e2 hn (by simp; omega) st0 (by omega) rest
