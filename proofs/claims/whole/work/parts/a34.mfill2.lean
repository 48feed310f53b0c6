theorem zlow_le (a b : Nat) : zlow a b ≤ a ∧ zlow a b ≤ b := by unfold zlow; split <;> omega
theorem zW_le (A : zA) (c : Bool) : ∀ k n u held, zW c (zPm A) k n u held ≤ znev := by
  intro k
  have hnev : znev = 99999999 := rfl
  cases k with
  | zero =>
    intro n u held
    have w := zcby_le (P := zPm A) (k := 99) (fun i m => zclamp_le _) 24 n (zall (zPm A))
    rw [zW]
    split
    · omega
    · split <;> omega
  | succ k =>
    intro n u held
    rw [zW]
    exact Nat.le_trans (zlow_le _ _).1 (Nat.le_trans (zlow_le _ _).1 (zlow_le _ _).1)
/-- all that the tables hold so far: the rows of k minutes' ends -/
def tG (A : zA) (c : Bool) (k : Nat) (σ : zSt) : Prop := RM A σ ∧ tC A σ ∧ tH A σ ∧ ∀ a, a ≤ k → tV A (zW c (zPm A) a) (24 - a) σ
def tVp (A : zA) (V : Nat → Nat → Nat → Nat) (m cd : Nat) (σ : zSt) : Prop := ∀ n b held, zsbs (zPm A) n → b < 3 → 1 ≤ held → held ≤ A.1 6 3 → 12 * n + 4 * b + held - 1 < cd → σ.1 11 (3072 * m + (12 * n + 4 * b + held - 1)) = nI (V n b held)
theorem tG.put {A : zA} {c : Bool} {k cd : Nat} {σ : zSt} (hi : zI A) (h : tG A c k σ) (hk : k ≤ 22) (hc : cd < 3072) (v : Int32) : tG A c k (zput σ 11 (3072 * (23 - k) + cd) v) := by
  obtain ⟨h1, h2, h3, h4⟩ := h
  have hh := hi.1.2.2.2.2.2.2.1
  refine ⟨zmt.keep h1 (zmt.put σ _ (by omega)), fun a b ha hb => by rw [zput_ne (by decide)]; exact h2 a b ha hb, fun a u b q1 q2 q3 q4 q5 => by rw [zput_ne (by decide)]; exact h3 a u b q1 q2 q3 q4 q5, fun a ha n b held q1 q2 q3 q4 => ?_⟩
  have l := zsbs_lt q1
  rw [zput_at, if_neg (by omega)]
  exact h4 a ha n b held q1 q2 q3 q4
theorem p8_f285 {A : zA} (hi : zI A) {c : Bool} {k n u held : Nat} {σ : zSt} (h : tG A c k σ) (hk : k ≤ 22) (hn : zsbs (zPm A) n) (hu : u < 3) (hh : 1 ≤ held ∧ held ≤ A.1 6 3) (x2 : Int32) (Q : zSt → Prop) (K : Int32 → zSt → Prop) : wX8_fills_L285 Q K (zci c) x2 (nI (23 - k)) (nI n) (nI u) (nI held) 300 99999999 0 σ = K (nI (zW c (zPm A) (k + 1) n u held)) σ := by
  have hnev : znev = 99999999 := rfl
  have hV : tV A (zW c (zPm A) k) (23 - k + 1) σ := by rw [show 23 - k + 1 = 24 - k by omega]; exact h.2.2.2 k (Nat.le_refl _)
  have S : ∀ (f x b : Nat), b < 3 → x ≤ znev → wX8_fills_L285 Q K (zci c) x2 (nI (23 - k)) (nI n) (nI u) (nI held) (f + 1) (nI x) (nI b) σ = wX8_fills_L285 Q K (zci c) x2 (nI (23 - k)) (nI n) (nI u) (nI held) f (nI (zlow x (zwst c (zPm A) (zW c (zPm A) k) (23 - k) n u held b))) (nI (b + 1)) σ := by
    intro f x b hb hx
    have hw := zwst_le (A := A) (c := c) (V := zW c (zPm A) k) (m := 23 - k) (n := n) (u := u) (held := held) (b := b)
    rw [wX8_fills_L285, if_neg (show ¬ (3 : Int32) ≤ nI b from nI_ge (b := 3) hb (by omega)), p8_step hi h.1.1 (fun _ => h.2.1) (fun _ => h.2.2.1) hV (by omega) (by omega) hn hu hb hh]
    simp only [forall_eq, nI_1]
    unfold zlow
    by_cases q : x ≤ zwst c (zPm A) (zW c (zPm A) k) (23 - k) n u held b
    · rw [if_pos q, if_pos (show nI x ≤ nI (zwst c (zPm A) (zW c (zPm A) k) (23 - k) n u held b) from nI_le q (by omega))]
    · rw [if_neg q, if_neg (show ¬ nI x ≤ nI (zwst c (zPm A) (zW c (zPm A) k) (23 - k) n u held b) from nI_ge (by omega) (by omega))]
  rw [show wX8_fills_L285 Q K (zci c) x2 (nI (23 - k)) (nI n) (nI u) (nI held) 300 99999999 0 σ = wX8_fills_L285 Q K (zci c) x2 (nI (23 - k)) (nI n) (nI u) (nI held) (299 + 1) (nI znev) (nI 0) σ from rfl]
  have l0 := zlow_le znev (zwst c (zPm A) (zW c (zPm A) k) (23 - k) n u held 0)
  have l1 := zlow_le (zlow znev (zwst c (zPm A) (zW c (zPm A) k) (23 - k) n u held 0)) (zwst c (zPm A) (zW c (zPm A) k) (23 - k) n u held 1)
  rw [S 299 znev 0 (by omega) (Nat.le_refl _), S 298 _ (0 + 1) (by omega) (zlow_le _ _).1, S 297 _ (0 + 1 + 1) (by omega) (Nat.le_trans (zlow_le _ _).1 (zlow_le _ _).1), wX8_fills_L285, if_pos (show (3 : Int32) ≤ nI (0 + 1 + 1 + 1) by decide)]
  rfl
theorem p8_f268 {A : zA} (hi : zI A) {c : Bool} {k n u : Nat} (hk : k ≤ 22) (hn : zsbs (zPm A) n) (hu : u < 3) (x2 : Int32) (Q K : zSt → Prop) (hK : ∀ σ', tG A c k σ' → tVp A (zW c (zPm A) (k + 1)) (23 - k) (12 * n + 4 * (u + 1)) σ' → K σ') : ∀ (j held f : Nat) (σ : zSt), held + j = A.1 6 3 + 1 → 1 ≤ held → j < f → tG A c k σ → tVp A (zW c (zPm A) (k + 1)) (23 - k) (12 * n + 4 * u + held - 1) σ → wX8_fills_L268 Q K (zci c) x2 (nI (23 - k)) (nI n) (nI u) f (nI held) σ := by
  have hh := hi.1.2.2.2.2.2.2.1
  have l := zsbs_lt hn
  intro j
  induction j with
  | zero =>
    intro held f σ h1 h0 h2 h t
    obtain ⟨f, rfl⟩ : ∃ n', f = n' + 1 := ⟨f - 1, by omega⟩
    rw [wX8_fills_L268, show σ.1 0 12 = _ from h.1.1.2.2.2.2.2.2.1, if_pos (show nI (A.1 6 3) < nI held from nI_lt (by omega) (by omega))]
    exact hK σ h (fun a b q p1 p2 p3 p4 p5 => t a b q p1 p2 p3 p4 (by omega))
  | succ j ih =>
    intro held f σ h1 h0 h2 h t
    obtain ⟨f, rfl⟩ : ∃ n', f = n' + 1 := ⟨f - 1, by omega⟩
    rw [wX8_fills_L268, show σ.1 0 12 = _ from h.1.1.2.2.2.2.2.2.1, if_neg (show ¬ nI (A.1 6 3) < nI held from nI_nlt (by omega) (by omega)), p8_f285 hi h hk hn hu (by omega)]
    unfold wX8_state
    rw [show (12 : Int32) * nI n + 4 * nI u + nI held - 1 = nI (12 * n + 4 * u + held - 1) from by
      rw [show (12 : Int32) = nI 12 from rfl, show (4 : Int32) = nI 4 from rfl, show (1 : Int32) = nI 1 from rfl, pk_mul, pk_mul, nI_add, nI_add, pk_sub (by omega)]]
    dsimp only
    rw [show (3072 : Int32) * nI (23 - k) + nI (12 * n + 4 * u + held - 1) = nI (3072 * (23 - k) + (12 * n + 4 * u + held - 1)) from by
      rw [show (3072 : Int32) = nI 3072 from rfl, pk_mul, nI_add], zcl (by omega)]
    refine ⟨zin' (by omega) (by omega), ?_⟩
    rw [forall_eq, forall_eq, nI_1]
    refine ih (held + 1) f _ (by omega) (by omega) (by omega) (h.put hi hk (by omega) _) (fun a b q p1 p2 p3 p4 p5 => ?_)
    have la := zsbs_lt p1
    rw [zput_at]
    by_cases w : a = n ∧ b = u ∧ q = held
    · obtain ⟨rfl, rfl, rfl⟩ := w
      rw [if_pos ⟨rfl, rfl⟩]
    · rw [if_neg (by omega)]
      exact t a b q p1 p2 p3 p4 (by omega)
theorem p8_f250 {A : zA} (hi : zI A) {c : Bool} {k n : Nat} (hk : k ≤ 22) (hn : n < 256) (Q K : zSt → Prop) (hK : ∀ σ', tG A c k σ' → tVp A (zW c (zPm A) (k + 1)) (23 - k) (12 * (n + 1)) σ' → K σ') : ∀ (j u f : Nat) (σ : zSt), u + j = 3 → j < f → tG A c k σ → tVp A (zW c (zPm A) (k + 1)) (23 - k) (12 * n + 4 * u) σ → wX8_fills_L250 Q K (zci c) (nI (zall (zPm A))) (nI (23 - k)) (nI n) f (nI u) σ := by
  have hd := zdif_le n (zall (zPm A))
  have es : (nI (n &&& (n ^^^ zall (zPm A))) = 0) ↔ zsbs (zPm A) n := by
    rw [← zsbs_iff, show (0 : Int32) = nI 0 from rfl, nI_eq (by omega) (by omega)]
  have hh := hi.1.2.2.2.2.2.2.1
  intro j
  induction j with
  | zero =>
    intro u f σ h1 h2 h t
    obtain ⟨f, rfl⟩ : ∃ n', f = n' + 1 := ⟨f - 1, by omega⟩
    have : u = 3 := by omega
    subst this
    have fin := hK σ h (fun a b q p1 p2 p3 p4 p5 => t a b q p1 p2 p3 p4 (by omega))
    rw [wX8_fills_L250, if_pos (show (3 : Int32) ≤ nI 3 by decide)]
    split <;> exact fin
  | succ j ih =>
    intro u f σ h1 h2 h t
    obtain ⟨f, rfl⟩ : ∃ n', f = n' + 1 := ⟨f - 1, by omega⟩
    rw [wX8_fills_L250, zb_dif]
    by_cases c1 : zsbs (zPm A) n
    · rw [if_pos (es.mpr c1), if_neg (show ¬ (3 : Int32) ≤ nI u from nI_ge (b := 3) (by omega) (by omega))]
      refine p8_f268 hi hk c1 (by omega) _ Q _ (fun σ' h' t' => ?_) (A.1 6 3) 1 300 σ (by omega) (by omega) (by omega) h t
      rw [forall_eq, nI_1]
      exact ih (u + 1) f σ' (by omega) (by omega) h' t'
    · rw [if_neg (fun z => c1 (es.mp z))]
      refine hK σ h (fun a b q p1 p2 p3 p4 p5 => ?_)
      have : a ≠ n := fun z => c1 (z ▸ p1)
      exact t a b q p1 p2 p3 p4 (by omega)
theorem p8_f239 {A : zA} (hi : zI A) {c : Bool} {k : Nat} (hk : k ≤ 22) (Q K : zSt → Prop) (hK : ∀ σ', tG A c (k + 1) σ' → K σ') : ∀ (j n f : Nat) (σ : zSt), n + j = 256 → j < f → tG A c k σ → tVp A (zW c (zPm A) (k + 1)) (23 - k) (12 * n) σ → wX8_fills_L239 Q K (zci c) (nI (zall (zPm A))) (nI (23 - k)) f (nI n) σ := by
  have hh := hi.1.2.2.2.2.2.2.1
  intro j
  induction j with
  | zero =>
    intro n f σ h1 h2 h t
    obtain ⟨f, rfl⟩ : ∃ n', f = n' + 1 := ⟨f - 1, by omega⟩
    have : n = 256 := by omega
    subst this
    rw [wX8_fills_L239, if_pos (by decide)]
    refine hK σ ⟨h.1, h.2.1, h.2.2.1, fun a ha => ?_⟩
    by_cases q : a = k + 1
    · subst q
      intro n b held q1 q2 q3 q4
      have l := zsbs_lt q1
      refine ⟨?_, zW_le A c _ _ _ _⟩
      rw [show 24 - (k + 1) = 23 - k by omega]
      exact t n b held q1 q2 q3 q4 (by omega)
    · exact h.2.2.2 a (by omega)
  | succ j ih =>
    intro n f σ h1 h2 h t
    obtain ⟨f, rfl⟩ : ∃ n', f = n' + 1 := ⟨f - 1, by omega⟩
    rw [wX8_fills_L239, if_neg (show ¬ (256 : Int32) ≤ nI n from nI_ge (b := 256) (by omega) (by omega))]
    refine p8_f250 hi hk (by omega) Q _ (fun σ' h' t' => ?_) 3 0 300 σ (by omega) (by omega) h (fun a b q p1 p2 p3 p4 p5 => t a b q p1 p2 p3 p4 (by omega))
    rw [forall_eq, nI_1]
    exact ih (n + 1) f σ' (by omega) (by omega) h' t'
theorem p8_f232 {A : zA} (hi : zI A) {c : Bool} (Q K : zSt → Prop) (hK : ∀ σ', tG A c 23 σ' → K σ') : ∀ (j k f : Nat) (σ : zSt), k + j = 23 → j < f → tG A c k σ → wX8_fills_L232 Q K (zci c) (nI (zall (zPm A))) f (nI (23 - k)) σ := by
  intro j
  induction j with
  | zero =>
    intro k f σ h1 h2 h
    obtain ⟨f, rfl⟩ : ∃ n', f = n' + 1 := ⟨f - 1, by omega⟩
    have : k = 23 := by omega
    subst this
    rw [wX8_fills_L232, if_pos (by decide)]
    exact hK σ h
  | succ j ih =>
    intro k f σ h1 h2 h
    obtain ⟨f, rfl⟩ : ∃ n', f = n' + 1 := ⟨f - 1, by omega⟩
    rw [wX8_fills_L232, if_neg (show ¬ nI (23 - k) ≤ (0 : Int32) from nI_nle (by omega) (by omega))]
    refine p8_f239 hi (by omega) Q _ (fun σ' h' => ?_) 256 0 300 σ (by omega) (by omega) h (fun a b q p1 p2 p3 p4 p5 => by omega)
    rw [forall_eq, zm1 (by omega), show 23 - k - 1 = 23 - (k + 1) by omega]
    exact ih (k + 1) f σ' (by omega) (by omega) h'
theorem p8_fills {A : zA} (hi : zI A) {σ : zSt} (h : RM A σ) (c : Bool) (Q : zSt → Prop) (hQ : ∀ σ', tG A c 23 σ' → Q σ') : wX8_fills (zci c) σ Q := by
  unfold wX8_fills
  rw [p8_allSet h.1 hi.1 (zcost A.1 A.2.2.2.1.2) (zchg A.1 A.2.2.2.1.2), show zall (zpar A.1 (zcost A.1 A.2.2.2.1.2) (zchg A.1 A.2.2.2.1.2)) = zall (zPm A) from rfl]
  refine p8_f7 hi _ _ Q _ (fun σ1 h1 c1 => ?_) 8 0 300 σ (by omega) (by omega) h (fun a b ha hb hc => by omega)
  refine p8_f79 hi _ _ Q _ (fun σ2 h2 c2 d2 => ?_) 23 1 300 σ1 (by omega) (by omega) (by omega) h1 c1 (fun a u b q1 q2 q3 q4 q5 q6 => by omega)
  refine p8_f149 hi (c := c) Q _ (fun σ3 h3 c3 d3 v3 => ?_) 256 0 300 σ2 (by omega) (by omega) h2 c2 d2 (fun a b q1 q2 q3 => by omega)
  exact p8_f232 hi Q _ (fun σ4 h4 => hQ σ4 h4) 23 0 300 σ3 (by omega) (by omega) ⟨h3, c3, d3, fun a ha => by rw [show a = 0 by omega]; exact v3⟩
