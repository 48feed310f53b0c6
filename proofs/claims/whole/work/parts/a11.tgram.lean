/-! what a text says, by its tokens: (well formed, codes, the token behind it or the fault's) -/
abbrev tx_R : Type := Bool × List Int32 × Nat
def tx_lp (kd : Nat → Nat) (oc : Nat → Int32) (f : Nat → tx_R) : Nat → List Int32 → Nat → tx_R
  | 0, c, k => (true, c, k)
  | n + 1, c, k => if oc (kd k) = 0 then (true, c, k) else if (f (k + 1)).1 = true then tx_lp kd oc f n (c ++ (f (k + 1)).2.1 ++ [oc (kd k)]) (f (k + 1)).2.2 else (false, c, (f (k + 1)).2.2)
def tx_ch (kd : Nat → Nat) (oc : Nat → Int32) (f : Nat → tx_R) (k : Nat) : tx_R := if (f k).1 = true then tx_lp kd oc f 200 (f k).2.1 (f k).2.2 else (false, [], (f k).2.2)
def tx_o1 (x : Nat) : Int32 := if x = 42 then -11 else 0
def tx_o2 (x : Nat) : Int32 := if x = 43 then -9 else if x = 45 then -10 else 0
def tx_o3 (x : Nat) : Int32 := if x = 60 then -12 else if x = 61 then -13 else 0
def tx_o4 (x : Nat) : Int32 := if x = 8 then -14 else 0
def tx_o5 (x : Nat) : Int32 := if x = 7 then -15 else 0
abbrev tx_P : Type := (Nat → tx_R) × (Nat → tx_R) × (Nat → tx_R)
def tx_one (kd : Nat → Nat) (vl : Nat → Int32) (d : Nat) (P : tx_P) (k : Nat) : tx_R :=
  if kd k = 2 then (true, [vl k], k + 1) else if kd k = 3 then (true, [-1 - vl k], k + 1)
  else if kd k = 40 then (if d = 0 then (false, [], k) else if (P.1 (k + 1)).1 = true then (if kd (P.1 (k + 1)).2.2 = 41 then (true, (P.1 (k + 1)).2.1, (P.1 (k + 1)).2.2 + 1) else (false, [], (P.1 (k + 1)).2.2)) else (false, [], (P.1 (k + 1)).2.2))
  else if kd k = 45 then (if d = 0 then (false, [], k) else if (P.2.2 (k + 1)).1 = true then (true, (P.2.2 (k + 1)).2.1 ++ [-7], (P.2.2 (k + 1)).2.2) else (false, [], (P.2.2 (k + 1)).2.2))
  else (false, [], k)
def tx_cm (kd : Nat → Nat) (f : Nat → tx_R) (k : Nat) : tx_R := if (f k).1 = true then (if tx_o3 (kd (f k).2.2) = 0 then (true, (f k).2.1, (f k).2.2) else if (f ((f k).2.2 + 1)).1 = true then (true, (f k).2.1 ++ (f ((f k).2.2 + 1)).2.1 ++ [tx_o3 (kd (f k).2.2)], (f ((f k).2.2 + 1)).2.2) else (false, [], (f ((f k).2.2 + 1)).2.2)) else (false, [], (f k).2.2)
def tx_nt (kd : Nat → Nat) (d : Nat) (N cm : Nat → tx_R) (k : Nat) : tx_R := if kd k = 9 then (if d = 0 then (false, [], k) else if (N (k + 1)).1 = true then (true, (N (k + 1)).2.1 ++ [-8], (N (k + 1)).2.2) else (false, [], (N (k + 1)).2.2)) else cm k
def tx_mk (kd : Nat → Nat) (vl : Nat → Int32) (d : Nat) (P : tx_P) : tx_P := (tx_ch kd tx_o5 (tx_ch kd tx_o4 (tx_nt kd d P.2.1 (tx_cm kd (tx_ch kd tx_o2 (tx_ch kd tx_o1 (tx_one kd vl d P)))))), tx_nt kd d P.2.1 (tx_cm kd (tx_ch kd tx_o2 (tx_ch kd tx_o1 (tx_one kd vl d P)))), tx_one kd vl d P)
def tx_lev (kd : Nat → Nat) (vl : Nat → Int32) : Nat → tx_P
  | 0 => tx_mk kd vl 0 (fun k => (false, [], k), fun k => (false, [], k), fun k => (false, [], k))
  | d + 1 => tx_mk kd vl (d + 1) (tx_lev kd vl d)
/-- forward, and no more codes than tokens -/
def tx_fw (f : Nat → tx_R) : Prop := ∀ k, (f k).1 = true → k < (f k).2.2 ∧ (f k).2.1.length + k ≤ (f k).2.2
theorem tx_lp_fw {kd : Nat → Nat} {oc : Nat → Int32} {f : Nat → tx_R} (hf : tx_fw f) : ∀ (n : Nat) (c : List Int32) (k s : Nat), s < k → c.length + s ≤ k → (tx_lp kd oc f n c k).1 = true → s < (tx_lp kd oc f n c k).2.2 ∧ (tx_lp kd oc f n c k).2.1.length + s ≤ (tx_lp kd oc f n c k).2.2 := by
  intro n
  induction n with
  | zero => intro c k s h1 h2 h3; exact ⟨h1, h2⟩
  | succ n ih =>
    intro c k s h1 h2 h3
    rw [tx_lp] at h3 ⊢
    by_cases c1 : oc (kd k) = 0
    · rw [if_pos c1]; exact ⟨h1, h2⟩
    rw [if_neg c1] at h3 ⊢
    by_cases c2 : (f (k + 1)).1 = true
    · rw [if_pos c2] at h3 ⊢
      have := hf (k + 1) c2
      exact ih _ _ s (by omega) (by simp only [List.length_append, List.length_cons, List.length_nil]; omega) h3
    · rw [if_neg c2] at h3; exact absurd h3 (by simp)
theorem tx_ch_fw {kd : Nat → Nat} {oc : Nat → Int32} {f : Nat → tx_R} (hf : tx_fw f) : tx_fw (tx_ch kd oc f) := by
  intro k h
  unfold tx_ch at h ⊢
  by_cases c : (f k).1 = true
  · rw [if_pos c] at h ⊢
    have := hf k c
    exact tx_lp_fw hf 200 _ _ k this.1 this.2 h
  · rw [if_neg c] at h; exact absurd h (by simp)
theorem tx_cm_fw {kd : Nat → Nat} {f : Nat → tx_R} (hf : tx_fw f) : tx_fw (tx_cm kd f) := by
  intro k h
  unfold tx_cm at h ⊢
  by_cases c : (f k).1 = true
  · rw [if_pos c] at h ⊢
    have h1 := hf k c
    by_cases c2 : tx_o3 (kd (f k).2.2) = 0
    · rw [if_pos c2]; exact h1
    rw [if_neg c2] at h ⊢
    by_cases c3 : (f ((f k).2.2 + 1)).1 = true
    · rw [if_pos c3]
      have h2 := hf _ c3
      refine ⟨by show k < (f ((f k).2.2 + 1)).2.2; omega, ?_⟩
      simp only [List.length_append, List.length_cons, List.length_nil]
      omega
    · rw [if_neg c3] at h; exact absurd h (by simp)
  · rw [if_neg c] at h; exact absurd h (by simp)
theorem tx_nt_fw {kd : Nat → Nat} {d : Nat} {N cm : Nat → tx_R} (hN : tx_fw N) (hc : tx_fw cm) : tx_fw (tx_nt kd d N cm) := by
  intro k h
  unfold tx_nt at h ⊢
  by_cases c : kd k = 9
  · rw [if_pos c] at h ⊢
    by_cases c0 : d = 0
    · rw [if_pos c0] at h; exact absurd h (by simp)
    rw [if_neg c0] at h ⊢
    by_cases c1 : (N (k + 1)).1 = true
    · rw [if_pos c1]
      have := hN _ c1
      refine ⟨by show k < (N (k + 1)).2.2; omega, ?_⟩
      simp only [List.length_append, List.length_cons, List.length_nil]
      omega
    · rw [if_neg c1] at h; exact absurd h (by simp)
  · rw [if_neg c] at h ⊢; exact hc k h
theorem tx_one_fw {kd : Nat → Nat} {vl : Nat → Int32} {d : Nat} {P : tx_P} (h1 : tx_fw P.1) (h2 : tx_fw P.2.2) : tx_fw (tx_one kd vl d P) := by
  intro k h
  unfold tx_one at h ⊢
  by_cases c1 : kd k = 2
  · rw [if_pos c1]; exact ⟨by show k < k + 1; omega, by simp; omega⟩
  rw [if_neg c1] at h ⊢
  by_cases c2 : kd k = 3
  · rw [if_pos c2]; exact ⟨by show k < k + 1; omega, by simp; omega⟩
  rw [if_neg c2] at h ⊢
  by_cases c3 : kd k = 40
  · rw [if_pos c3] at h ⊢
    by_cases c0 : d = 0
    · rw [if_pos c0] at h; exact absurd h (by simp)
    rw [if_neg c0] at h ⊢
    by_cases c4 : (P.1 (k + 1)).1 = true
    · rw [if_pos c4] at h ⊢
      have := h1 _ c4
      by_cases c5 : kd (P.1 (k + 1)).2.2 = 41
      · rw [if_pos c5]
        exact ⟨by show k < (P.1 (k + 1)).2.2 + 1; omega, by show _ + k ≤ (P.1 (k + 1)).2.2 + 1; simp only; omega⟩
      · rw [if_neg c5] at h; exact absurd h (by simp)
    · rw [if_neg c4] at h; exact absurd h (by simp)
  rw [if_neg c3] at h ⊢
  by_cases c4 : kd k = 45
  · rw [if_pos c4] at h ⊢
    by_cases c0 : d = 0
    · rw [if_pos c0] at h; exact absurd h (by simp)
    rw [if_neg c0] at h ⊢
    by_cases c5 : (P.2.2 (k + 1)).1 = true
    · rw [if_pos c5]
      have := h2 _ c5
      refine ⟨by show k < (P.2.2 (k + 1)).2.2; omega, ?_⟩
      simp only [List.length_append, List.length_cons, List.length_nil]
      omega
    · rw [if_neg c5] at h; exact absurd h (by simp)
  · rw [if_neg c4] at h; exact absurd h (by simp)
theorem tx_mk_fw {kd : Nat → Nat} {vl : Nat → Int32} {d : Nat} {P : tx_P} (h : tx_fw P.1 ∧ tx_fw P.2.1 ∧ tx_fw P.2.2) : tx_fw (tx_mk kd vl d P).1 ∧ tx_fw (tx_mk kd vl d P).2.1 ∧ tx_fw (tx_mk kd vl d P).2.2 := by
  have h1 := tx_one_fw (kd := kd) (vl := vl) (d := d) h.1 h.2.2
  have h2 := tx_nt_fw (kd := kd) (d := d) h.2.1 (tx_cm_fw (kd := kd) (tx_ch_fw (kd := kd) (oc := tx_o2) (tx_ch_fw (kd := kd) (oc := tx_o1) h1)))
  exact ⟨tx_ch_fw (tx_ch_fw h2), h2, h1⟩
theorem tx_lev_fw (kd : Nat → Nat) (vl : Nat → Int32) : ∀ d, tx_fw (tx_lev kd vl d).1 ∧ tx_fw (tx_lev kd vl d).2.1 ∧ tx_fw (tx_lev kd vl d).2.2 := by
  intro d
  induction d with
  | zero =>
    refine tx_mk_fw ⟨?_, ?_, ?_⟩ <;> intro k h <;> exact absurd h (by simp)
  | succ d ih => exact tx_mk_fw ih
/-! what codes are worth -/
theorem zev_app (names : Nat → Int32) : ∀ (a b S : List Int32), zev names S (a ++ b) = zev names (zev names S a) b := by
  intro a
  induction a with
  | nil => intro b S; rfl
  | cons x a ih => intro b S; exact ih b _
def tx_vv (names : Nat → Int32) (c : List Int32) (v : Int32) : Prop := ∀ S, zev names S c = v :: S
theorem tx_vv_bin {names : Nat → Int32} {a b : List Int32} {x y o : Int32} (ha : tx_vv names a x) (hb : tx_vv names b y) (ho : ¬ (-6 : Int32) ≤ o ∧ ¬ (-8 : Int32) ≤ o) : tx_vv names (a ++ b ++ [o]) (zop o x y) := by
  intro S
  rw [zev_app, zev_app, ha S, hb]
  show zstep names (y :: x :: S) o = _
  unfold zstep
  rw [if_neg ho.1, if_neg ho.2]
theorem tx_vv_not {names : Nat → Int32} {a : List Int32} {x : Int32} (ha : tx_vv names a x) : tx_vv names (a ++ [-8]) (if x = 0 then 1 else 0) := by
  intro S
  rw [zev_app, ha S]
  show zstep names (x :: S) (-8) = _
  unfold zstep
  rw [if_neg (by decide), if_pos (by decide)]
  rfl
theorem tx_vv_neg {names : Nat → Int32} {a : List Int32} {x : Int32} (ha : tx_vv names a x) : tx_vv names (a ++ [-7]) (-x) := by
  intro S
  rw [zev_app, ha S]
  show zstep names (x :: S) (-7) = _
  unfold zstep
  rw [if_neg (by decide), if_pos (by decide)]
  rfl
theorem tx_vv_num (names : Nat → Int32) {v : Nat} (hv : v < 2147483648) : tx_vv names [nI v] (nI v) := by
  intro S
  show zstep names S (nI v) = _
  unfold zstep zname
  have h0 : (0 : Int32) ≤ nI v := nI_pos' hv
  rw [if_pos (show (-6 : Int32) ≤ nI v from by rw [Int32.le_iff_toInt_le] at h0 ⊢; rw [show ((0 : Int32)).toInt = 0 from by decide] at h0; rw [show ((-6 : Int32)).toInt = -6 from by decide]; omega), if_pos h0]
theorem tx_vv_nam (names : Nat → Int32) {j : Nat} (hj : j < 6) : tx_vv names [-1 - nI j] (names j) := by
  intro S
  rcases (show j = 0 ∨ j = 1 ∨ j = 2 ∨ j = 3 ∨ j = 4 ∨ j = 5 by omega) with rfl | rfl | rfl | rfl | rfl | rfl <;> rfl
