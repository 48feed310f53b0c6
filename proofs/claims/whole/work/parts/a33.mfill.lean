def tcv (A : zA) (i m : Nat) : Int32 := nI (if zPr A.1 i = true ∧ A.1 2 i ≤ m then zcost A.1 A.2.2.2.1.2 i m else 0)
def tCp (A : zA) (i m : Nat) (σ : zSt) : Prop := ∀ a b, a < 8 → b ≤ 24 → (a < i ∨ (a = i ∧ b < m)) → σ.1 12 (25 * a + b) = tcv A a b
theorem tCp.put {A : zA} {i m : Nat} {σ σ1 : zSt} (h : tCp A i m σ) (hm : m ≤ 24) (e : σ1.1 12 = σ.1 12) : tCp A i (m + 1) (zput σ1 12 (25 * i + m) (tcv A i m)) := by
  intro a b ha hb hc
  rw [zput_at]
  by_cases q : a = i ∧ b = m
  · rw [if_pos ⟨rfl, by omega⟩, q.1, q.2]
  · rw [if_neg (by omega), e]
    exact h a b ha hb (by omega)
theorem p8_f16 {A : zA} (hi : zI A) (x1 x2 : Int32) (Q K : zSt → Prop) {i : Nat} (h8 : i < 8) (hK : ∀ σ', RM A σ' → tCp A (i + 1) 0 σ' → K σ') : ∀ (j m f : Nat) (σ : zSt), m + j = 25 → j < f → RM A σ → tCp A i m σ → wX8_fills_L16 Q K x1 x2 (nI i) f (nI m) σ := by
  have hv8 : vp_in (nI i) 8 := zin' h8 (by omega)
  have hfr := (hi.1.2.1 i h8).2.1
  intro j
  induction j with
  | zero =>
    intro m f σ h1 h2 h t
    obtain ⟨f, rfl⟩ : ∃ n', f = n' + 1 := ⟨f - 1, by omega⟩
    have : m = 25 := by omega
    subst this
    rw [wX8_fills_L16, if_pos (by decide)]
    exact hK σ h (fun a b ha hb hc => t a b ha hb (by omega))
  | succ j ih =>
    intro m f σ h1 h2 h t
    obtain ⟨f, rfl⟩ : ∃ n', f = n' + 1 := ⟨f - 1, by omega⟩
    have hv : vp_in (nI (25 * i + m)) 200 := zin' (by omega) (by omega)
    have ei : (25 : Int32) * nI i + nI m = nI (25 * i + m) := by rw [show (25 : Int32) = nI 25 from rfl, pk_mul, nI_add]
    have go : ∀ σ1 : zSt, RM A σ1 → σ1.1 12 = σ.1 12 → wX8_fills_L16 Q K x1 x2 (nI i) f (nI (m + 1)) (zput σ1 12 (25 * i + m) (tcv A i m)) := fun σ1 hr e => ih (m + 1) f _ (by omega) (by omega) (zmt.keep hr (zmt.put σ1 _ (by omega))) (t.put (by omega) e)
    have e0 : ¬ (zPr A.1 i = true ∧ A.1 2 i ≤ m) → tcv A i m = 0 := fun q => by unfold tcv; rw [if_neg q]; rfl
    rw [wX8_fills_L16, if_neg (show ¬ (24 : Int32) < nI m from nI_nlt (a := 24) (by omega) (by omega)), p8_isOne h.1 hi.1 h8, ei, zcl (by omega), zcl (by omega), (h.1.2.1 i h8).2.1]
    simp only [hv, hv8, true_and, forall_eq, nI_1]
    by_cases c1 : zPr A.1 i = true
    rotate_left
    · rw [if_neg c1, if_pos rfl, ← e0 (fun z => c1 z.1)]
      exact go σ h rfl
    rw [if_pos c1, if_neg (by decide)]
    by_cases c2 : A.1 2 i ≤ m
    · rw [if_neg (show ¬ nI m < nI (A.1 2 i) from nI_nlt c2 (by omega))]
      refine p8_costOf hi h h8 _ (fun σ1 e1 => ?_)
      have := go σ1 (zmy.keep h e1) (e1.1 12 (by decide))
      unfold tcv at this
      rw [if_pos ⟨c1, c2⟩] at this
      exact this
    · rw [if_pos (show nI m < nI (A.1 2 i) from nI_lt (by omega) (by omega)), ← e0 (fun z => c2 z.2)]
      exact go σ h rfl
theorem p8_f7 {A : zA} (hi : zI A) (x1 x2 : Int32) (Q K : zSt → Prop) (hK : ∀ σ', RM A σ' → tC A σ' → K σ') : ∀ (j i f : Nat) (σ : zSt), i + j = 8 → j < f → RM A σ → tCp A i 0 σ → wX8_fills_L7 Q K x1 x2 f (nI i) σ := by
  intro j
  induction j with
  | zero =>
    intro i f σ h1 h2 h t
    obtain ⟨f, rfl⟩ : ∃ n', f = n' + 1 := ⟨f - 1, by omega⟩
    have : i = 8 := by omega
    subst this
    rw [wX8_fills_L7, if_pos (by decide)]
    exact hK σ h (fun a b ha hb => t a b ha hb (by omega))
  | succ j ih =>
    intro i f σ h1 h2 h t
    obtain ⟨f, rfl⟩ : ∃ n', f = n' + 1 := ⟨f - 1, by omega⟩
    rw [wX8_fills_L7, if_neg (show ¬ (8 : Int32) ≤ nI i from nI_ge (b := 8) (by omega) (by omega))]
    refine p8_f16 hi x1 x2 Q _ (i := i) (by omega) (fun σ' h' t' => ?_) 25 0 300 σ (by omega) (by omega) h t
    rw [forall_eq, nI_1]
    exact ih (i + 1) f σ' (by omega) (by omega) h' t'
/-! changes -/
def tHp (A : zA) (m k : Nat) (σ : zSt) : Prop := ∀ a u b, 1 ≤ a → a < 24 → u < 3 → b < 3 → u ≠ b → (a < m ∨ (a = m ∧ 3 * b + u < k)) → σ.1 13 (9 * a + (3 * b + u)) = nI (zchg A.1 A.2.2.2.1.2 a u b)
theorem p8_f88 {A : zA} (hi : zI A) (x1 x2 : Int32) (Q K : zSt → Prop) {m : Nat} (hm : 1 ≤ m ∧ m < 24) (hK : ∀ σ', RM A σ' → tC A σ' → tHp A (m + 1) 0 σ' → K σ') : ∀ (j k f : Nat) (σ : zSt), k + j = 9 → j < f → RM A σ → tC A σ → tHp A m k σ → wX8_fills_L88 Q K x1 x2 (nI m) f (nI k) σ := by
  intro j
  induction j with
  | zero =>
    intro k f σ h1 h2 h hc t
    obtain ⟨f, rfl⟩ : ∃ n', f = n' + 1 := ⟨f - 1, by omega⟩
    have : k = 9 := by omega
    subst this
    rw [wX8_fills_L88, if_pos (by decide)]
    exact hK σ h hc (fun a u b q1 q2 q3 q4 q5 q6 => t a u b q1 q2 q3 q4 q5 (by omega))
  | succ j ih =>
    intro k f σ h1 h2 h hc t
    obtain ⟨f, rfl⟩ : ∃ n', f = n' + 1 := ⟨f - 1, by omega⟩
    have hv : vp_in (nI (9 * m + k)) 216 := zin' (by omega) (by omega)
    have ei : (9 : Int32) * nI m + nI k = nI (9 * m + k) := by rw [show (9 : Int32) = nI 9 from rfl, pk_mul, nI_add]
    have ed : nI k / 3 = nI (k / 3) := pk_div (d := 3) (by omega) (by omega) (by omega)
    have er : nI k - nI k / 3 * 3 = nI (k % 3) := pk_rem (d := 3) (by omega) (by omega) (by omega)
    rw [wX8_fills_L88, if_neg (show ¬ (9 : Int32) ≤ nI k from nI_ge (b := 9) (by omega) (by omega)), er, ed, ei, zcl (by omega)]
    simp only [hv, true_and, forall_eq, nI_1]
    by_cases c : k / 3 = k % 3
    · rw [if_pos (show nI (k / 3) = nI (k % 3) by rw [c])]
      refine ih (k + 1) f _ (by omega) (by omega) (zmt.keep h (zmt.put σ _ (by omega))) (fun a b ha hb => by rw [zput_ne (by decide)]; exact hc a b ha hb) (fun a u b q1 q2 q3 q4 q5 q6 => ?_)
      rw [zput_at, if_neg (by omega)]
      exact t a u b q1 q2 q3 q4 q5 (by omega)
    · rw [if_neg (show ¬ nI (k / 3) = nI (k % 3) from fun z => c ((nI_eq (by omega) (by omega)).mp z))]
      refine p8_changeOf hi h m (k % 3) (k / 3) _ (fun σ1 e1 => ?_)
      refine ih (k + 1) f _ (by omega) (by omega) (zmt.keep h ((zmt.my e1).tr (zmt.put σ1 _ (by omega)))) (fun a b ha hb => by rw [zput_ne (by decide), e1.1 12 (by decide)]; exact hc a b ha hb) (fun a u b q1 q2 q3 q4 q5 q6 => ?_)
      rw [zput_at]
      by_cases q : a = m ∧ 3 * b + u = k
      · rw [if_pos ⟨rfl, by omega⟩, show k % 3 = u by omega, show k / 3 = b by omega, q.1]
      · rw [if_neg (by omega), e1.1 13 (by decide)]
        exact t a u b q1 q2 q3 q4 q5 (by omega)
theorem p8_f79 {A : zA} (hi : zI A) (x1 x2 : Int32) (Q K : zSt → Prop) (hK : ∀ σ', RM A σ' → tC A σ' → tH A σ' → K σ') : ∀ (j m f : Nat) (σ : zSt), m + j = 24 → 1 ≤ m → j < f → RM A σ → tC A σ → tHp A m 0 σ → wX8_fills_L79 Q K x1 x2 f (nI m) σ := by
  intro j
  induction j with
  | zero =>
    intro m f σ h1 h0 h2 h hc t
    obtain ⟨f, rfl⟩ : ∃ n', f = n' + 1 := ⟨f - 1, by omega⟩
    have : m = 24 := by omega
    subst this
    rw [wX8_fills_L79, if_pos (by decide)]
    exact hK σ h hc (fun a u b q1 q2 q3 q4 q5 => t a u b q1 q2 q3 q4 q5 (by omega))
  | succ j ih =>
    intro m f σ h1 h0 h2 h hc t
    obtain ⟨f, rfl⟩ : ∃ n', f = n' + 1 := ⟨f - 1, by omega⟩
    rw [wX8_fills_L79, if_neg (show ¬ (24 : Int32) ≤ nI m from nI_ge (b := 24) (by omega) (by omega))]
    refine p8_f88 hi x1 x2 Q _ (m := m) (by omega) (fun σ' h' hc' t' => ?_) 9 0 300 σ (by omega) (by omega) h hc t
    rw [forall_eq, nI_1]
    exact ih (m + 1) f σ' (by omega) (by omega) (by omega) h' hc' t'
/-! the day's end -/
def tE (A : zA) (c : Bool) (n k : Nat) (σ : zSt) : Prop := ∀ a b, a < 256 → b < 12 → (a < n ∨ (a = n ∧ b < k)) → σ.1 11 (73728 + 12 * a + b) = nI (zW c (zPm A) 0 a 0 0)
theorem p8_f192 {A : zA} {c : Bool} (x1 x2 : Int32) (Q K : zSt → Prop) {n : Nat} (hn : n < 256) (hK : ∀ σ', RM A σ' → tC A σ' → tH A σ' → tE A c (n + 1) 0 σ' → K σ') : ∀ (j k f : Nat) (σ : zSt), k + j = 12 → j < f → RM A σ → tC A σ → tH A σ → tE A c n k σ → wX8_fills_L192 Q K x1 x2 (nI n) (nI (zW c (zPm A) 0 n 0 0)) f (nI k) σ := by
  intro j
  induction j with
  | zero =>
    intro k f σ h1 h2 h hc hh t
    obtain ⟨f, rfl⟩ : ∃ n', f = n' + 1 := ⟨f - 1, by omega⟩
    have : k = 12 := by omega
    subst this
    rw [wX8_fills_L192, if_pos (by decide)]
    exact hK σ h hc hh (fun a b q1 q2 q3 => t a b q1 q2 (by omega))
  | succ j ih =>
    intro k f σ h1 h2 h hc hh t
    obtain ⟨f, rfl⟩ : ∃ n', f = n' + 1 := ⟨f - 1, by omega⟩
    have hv : vp_in (nI (73728 + 12 * n + k)) 76800 := zin' (by omega) (by omega)
    rw [wX8_fills_L192, if_neg (show ¬ (12 : Int32) ≤ nI k from nI_ge (b := 12) (by omega) (by omega)), show (73728 : Int32) + 12 * nI n + nI k = nI (73728 + 12 * n + k) from by rw [show (73728 : Int32) = nI 73728 from rfl, show (12 : Int32) = nI 12 from rfl, pk_mul, nI_add, nI_add], zcl (by omega)]
    refine ⟨hv, ?_⟩
    rw [forall_eq, forall_eq, nI_1]
    refine ih (k + 1) f _ (by omega) (by omega) (zmt.keep h (zmt.put σ _ (by omega))) (fun a b ha hb => by rw [zput_ne (by decide)]; exact hc a b ha hb) (fun a u b q1 q2 q3 q4 q5 => by rw [zput_ne (by decide)]; exact hh a u b q1 q2 q3 q4 q5) (fun a b q1 q2 q3 => ?_)
    rw [zput_at]
    by_cases q : a = n ∧ b = k
    · rw [if_pos ⟨rfl, by omega⟩, q.1]
    · rw [if_neg (by omega)]
      exact t a b q1 q2 (by omega)
theorem zcby_and (P : zP) (n : Nat) : zcby P 24 (n &&& zall P) (zall P) = zcby P 24 n (zall P) := by
  unfold zcby
  congr 1
  funext i
  by_cases c : (zall P).testBit i = true
  · rw [Nat.testBit_and, c, Bool.and_true]
  · rw [if_neg (fun z => c z.1), if_neg (fun z => c z.1)]
theorem p8_f149 {A : zA} (hi : zI A) {c : Bool} (Q K : zSt → Prop) (hK : ∀ σ', RM A σ' → tC A σ' → tH A σ' → tV A (zW c (zPm A) 0) 24 σ' → K σ') : ∀ (j n f : Nat) (σ : zSt), n + j = 256 → j < f → RM A σ → tC A σ → tH A σ → tE A c n 0 σ → wX8_fills_L149 Q K (zci c) (nI (zall (zPm A))) f (nI n) σ := by
  have hall : zall (zPm A) < 256 := zmask_lt _ 8
  have hnev : znev = 99999999 := rfl
  intro j
  induction j with
  | zero =>
    intro n f σ h1 h2 h hc hh t
    obtain ⟨f, rfl⟩ : ∃ n', f = n' + 1 := ⟨f - 1, by omega⟩
    have : n = 256 := by omega
    subst this
    rw [wX8_fills_L149, if_pos (by decide)]
    refine hK σ h hc hh (fun a b held q1 q2 q3 q4 => ?_)
    have l := zsbs_lt q1
    have h4 := hi.1.2.2.2.2.2.2.1
    refine ⟨?_, ?_⟩
    · rw [show 3072 * 24 + (12 * a + 4 * b + held - 1) = 73728 + 12 * a + (4 * b + held - 1) by omega, t a (4 * b + held - 1) l (by omega) (by omega)]
      rfl
    · have w := zcby_le (P := zPm A) (k := 99) (fun i m => zclamp_le _) 24 a (zall (zPm A))
      rw [zW]
      split
      · omega
      · split <;> omega
  | succ j ih =>
    intro n f σ h1 h2 h hc hh t
    obtain ⟨f, rfl⟩ : ∃ n', f = n' + 1 := ⟨f - 1, by omega⟩
    have go : wX8_fills_L192 Q (fun σ131 => ∀ x132 : Int32, x132 = nI n + 1 → (wX8_fills_L149 Q K (zci c) (nI (zall (zPm A))) f x132 σ131)) (zci c) (nI (zall (zPm A))) (nI n) (nI (zW c (zPm A) 0 n 0 0)) 300 0 σ := by
      refine p8_f192 (c := c) _ _ Q _ (n := n) (by omega) (fun σ' h' hc' hh' t' => ?_) 12 0 300 σ (by omega) (by omega) h hc hh t
      rw [forall_eq, nI_1]
      exact ih (n + 1) f σ' (by omega) (by omega) h' hc' hh' t'
    rw [wX8_fills_L149, if_neg (show ¬ (256 : Int32) ≤ nI n from nI_ge (b := 256) (by omega) (by omega)), zb_and]
    have ha : n &&& zall (zPm A) ≤ zall (zPm A) := Nat.and_le_right
    cases c with
    | false =>
      rw [if_pos (show zci false = (0 : Int32) from rfl)]
      rw [zW, if_neg (by simp)] at go
      by_cases q : n &&& zall (zPm A) = zall (zPm A)
      · rw [if_pos q] at go
        rw [if_pos (show nI (n &&& zall (zPm A)) = nI (zall (zPm A)) by rw [q])]
        exact go
      · rw [if_neg q] at go
        rw [if_neg (show ¬ nI (n &&& zall (zPm A)) = nI (zall (zPm A)) from fun z => q ((nI_eq (by omega) (by omega)).mp z))]
        exact go
    | true =>
      rw [if_neg (show ¬ zci true = (0 : Int32) by decide), forall_eq, show wX8_costBy 24 (nI (n &&& zall (zPm A))) (nI (zall (zPm A))) σ = wX8_costBy (nI 24) (nI (n &&& zall (zPm A))) (nI (zall (zPm A))) σ from rfl, p8_costBy (P := zPm A) (by omega) hall, zcby_and]
      · rw [zW, if_pos rfl] at go
        exact go
      · intro i h8 t1 t2
        rw [zall_bit] at t1
        simp only [Bool.and_eq_true, decide_eq_true_eq] at t1
        have hf := (hi.1.2.1 i h8).2.1
        rw [hc i 24 h8 (by omega), if_pos ⟨t1.2, by omega⟩]
        rfl
