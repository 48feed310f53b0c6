/-! texts: bytes T, n of them; tokens -/
def tx_cs (pr : Nat → Bool) (T : Nat → Nat) (n : Nat) : Nat → Nat → Nat
  | 0, p => p
  | f + 1, p => if p < n ∧ pr (T p) = true then tx_cs pr T n f (p + 1) else p
def tx_ws (c : Nat) : Bool := c == 32 || c == 10
def tx_lt (c : Nat) : Bool := decide (97 ≤ c) && decide (c ≤ 122)
def tx_dg (c : Nat) : Bool := decide (48 ≤ c) && decide (c ≤ 57)
def tx_sg (c : Nat) : Bool := c == 40 || c == 41 || c == 59 || c == 43 || c == 45 || c == 42 || c == 60 || c == 61
theorem tx_cs_eq (pr : Nat → Bool) (T : Nat → Nat) (n : Nat) : ∀ (f g p : Nat), n ≤ p + f → n ≤ p + g → tx_cs pr T n f p = tx_cs pr T n g p := by
  intro f
  induction f with
  | zero =>
    intro g p h1 h2
    cases g with
    | zero => rfl
    | succ g => rw [tx_cs, tx_cs, if_neg (fun z => by have := z.1; omega)]
  | succ f ih =>
    intro g p h1 h2
    cases g with
    | zero => rw [tx_cs, tx_cs, if_neg (fun z => by have := z.1; omega)]
    | succ g =>
      rw [tx_cs, tx_cs]
      by_cases c : p < n ∧ pr (T p) = true
      · rw [if_pos c, if_pos c]; exact ih g (p + 1) (by omega) (by omega)
      · rw [if_neg c, if_neg c]
theorem tx_cs_b (pr : Nat → Bool) (T : Nat → Nat) (n : Nat) : ∀ (f p : Nat), n ≤ p + f → p ≤ tx_cs pr T n f p ∧ (p ≤ n → tx_cs pr T n f p ≤ n) ∧ (tx_cs pr T n f p < n → pr (T (tx_cs pr T n f p)) = false) ∧ ∀ j, p ≤ j → j < tx_cs pr T n f p → pr (T j) = true := by
  intro f
  induction f with
  | zero =>
    intro p h
    rw [tx_cs]
    exact ⟨Nat.le_refl _, fun z => z, fun z => by omega, fun j h1 h2 => by omega⟩
  | succ f ih =>
    intro p h
    rw [tx_cs]
    by_cases c : p < n ∧ pr (T p) = true
    · rw [if_pos c]
      obtain ⟨h1, h2, h3, h4⟩ := ih (p + 1) (by omega)
      refine ⟨by omega, fun _ => h2 (by omega), h3, fun j h5 h6 => ?_⟩
      by_cases q : j = p
      · rw [q]; exact c.2
      · exact h4 j (by omega) h6
    · rw [if_neg c]
      refine ⟨Nat.le_refl _, fun z => z, fun z => ?_, fun j h1 h2 => by omega⟩
      cases q : pr (T p) with
      | false => rfl
      | true => exact absurd ⟨z, q⟩ c
/-- which of a text's tokens begins at p or behind the blanks there: end 0, word 1, number 2, sign 3, wrong 4; its start, its end -/
def tx_lx (T : Nat → Nat) (n p : Nat) : Nat × Nat × Nat :=
  if n ≤ tx_cs tx_ws T n 161 p then (0, n, n)
  else if tx_lt (T (tx_cs tx_ws T n 161 p)) = true then (1, tx_cs tx_ws T n 161 p, tx_cs tx_lt T n 161 (tx_cs tx_ws T n 161 p))
  else if tx_dg (T (tx_cs tx_ws T n 161 p)) = true then (if tx_cs tx_dg T n 161 (tx_cs tx_ws T n 161 p) - tx_cs tx_ws T n 161 p ≤ 4 then 2 else 4, tx_cs tx_ws T n 161 p, tx_cs tx_dg T n 161 (tx_cs tx_ws T n 161 p))
  else if tx_sg (T (tx_cs tx_ws T n 161 p)) = true then (3, tx_cs tx_ws T n 161 p, tx_cs tx_ws T n 161 p + 1)
  else (4, tx_cs tx_ws T n 161 p, tx_cs tx_ws T n 161 p + 1)
def tx_ps (T : Nat → Nat) (n : Nat) : Nat → Nat
  | 0 => 0
  | k + 1 => (tx_lx T n (tx_ps T n k)).2.2
def tx_tk (T : Nat → Nat) (n k : Nat) : Nat × Nat × Nat := tx_lx T n (tx_ps T n k)
def tx_isw (w : Nat) (T : Nat → Nat) (a e : Nat) : Bool := decide (e - a = zlen.getD w 0) && decide (∀ j, j < zlen.getD w 0 → nI (T (a + j)) = (zbyt.getD w []).getD j 0)
def tx_nm (T : Nat → Nat) (a e : Nat) : Int32 := if tx_isw 1 T a e = true then 0 else if tx_isw 2 T a e = true then 1 else if tx_isw 3 T a e = true then 2 else if tx_isw 4 T a e = true then 3 else if tx_isw 5 T a e = true then 4 else if tx_isw 6 T a e = true then 5 else -1
def tx_ky (T : Nat → Nat) (a e : Nat) : Nat := if tx_isw 7 T a e = true then 4 else if tx_isw 8 T a e = true then 5 else if tx_isw 9 T a e = true then 6 else if tx_isw 10 T a e = true then 7 else if tx_isw 11 T a e = true then 8 else if tx_isw 12 T a e = true then 9 else 1
def tx_nu (T : Nat → Nat) (a : Nat) : Nat → Nat
  | 0 => 0
  | j + 1 => tx_nu T a j * 10 + (T (a + j) - 48)
def tx_kdt (T : Nat → Nat) (t : Nat × Nat × Nat) : Nat := if t.1 = 0 then 0 else if t.1 = 1 then (if tx_nm T t.2.1 t.2.2 = -1 then tx_ky T t.2.1 t.2.2 else 3) else if t.1 = 2 then 2 else if t.1 = 3 then T t.2.1 else 1
def tx_vlt (T : Nat → Nat) (t : Nat × Nat × Nat) : Int32 := if t.1 = 1 then tx_nm T t.2.1 t.2.2 else if (t.1 = 2 ∨ t.1 = 4) ∧ tx_dg (T t.2.1) = true then nI (tx_nu T t.2.1 (t.2.2 - t.2.1)) else 0
def tx_kd (T : Nat → Nat) (n k : Nat) : Nat := tx_kdt T (tx_tk T n k)
def tx_vl (T : Nat → Nat) (n k : Nat) : Int32 := tx_vlt T (tx_tk T n k)
/-- what a token is, by cases -/
theorem tx_lx_c (T : Nat → Nat) (n p : Nat) (hp : p ≤ n) (hn : n ≤ 160) : (tx_lx T n p = (0, n, n)) ∨ (p ≤ (tx_lx T n p).2.1 ∧ (tx_lx T n p).2.1 < (tx_lx T n p).2.2 ∧ (tx_lx T n p).2.2 ≤ n ∧ (tx_lx T n p).2.1 = tx_cs tx_ws T n 161 p ∧ (((tx_lx T n p).1 = 1 ∧ tx_lt (T (tx_lx T n p).2.1) = true ∧ (tx_lx T n p).2.2 = tx_cs tx_lt T n 161 (tx_lx T n p).2.1) ∨ (((tx_lx T n p).1 = if (tx_lx T n p).2.2 - (tx_lx T n p).2.1 ≤ 4 then 2 else 4) ∧ tx_lt (T (tx_lx T n p).2.1) = false ∧ tx_dg (T (tx_lx T n p).2.1) = true ∧ (tx_lx T n p).2.2 = tx_cs tx_dg T n 161 (tx_lx T n p).2.1) ∨ ((tx_lx T n p).1 = 3 ∧ tx_lt (T (tx_lx T n p).2.1) = false ∧ tx_dg (T (tx_lx T n p).2.1) = false ∧ tx_sg (T (tx_lx T n p).2.1) = true ∧ (tx_lx T n p).2.2 = (tx_lx T n p).2.1 + 1) ∨ ((tx_lx T n p).1 = 4 ∧ tx_lt (T (tx_lx T n p).2.1) = false ∧ tx_dg (T (tx_lx T n p).2.1) = false ∧ tx_sg (T (tx_lx T n p).2.1) = false ∧ (tx_lx T n p).2.2 = (tx_lx T n p).2.1 + 1))) := by
  obtain ⟨b1, b2, b3, b4⟩ := tx_cs_b tx_ws T n 161 p (by omega)
  have b2 := b2 hp
  unfold tx_lx
  generalize tx_cs tx_ws T n 161 p = q at b1 b2 b3 b4
  by_cases c0 : n ≤ q
  · left; rw [if_pos c0]
  right
  rw [if_neg c0]
  obtain ⟨d1, d2, d3, d4⟩ := tx_cs_b tx_lt T n 161 q (by omega)
  obtain ⟨e1, e2, e3, e4⟩ := tx_cs_b tx_dg T n 161 q (by omega)
  have d2 := d2 b2
  have e2 := e2 b2
  by_cases c1 : tx_lt (T q) = true
  · rw [if_pos c1]
    refine ⟨b1, ?_, d2, rfl, Or.inl ⟨rfl, c1, rfl⟩⟩
    show q < tx_cs tx_lt T n 161 q
    rw [tx_cs, if_pos ⟨by omega, c1⟩]
    have := (tx_cs_b tx_lt T n 160 (q + 1) (by omega)).1
    omega
  rw [if_neg c1]
  have c1' : tx_lt (T q) = false := by simpa using c1
  by_cases c2 : tx_dg (T q) = true
  · rw [if_pos c2]
    refine ⟨b1, ?_, e2, rfl, Or.inr (Or.inl ⟨rfl, c1', c2, rfl⟩)⟩
    show q < tx_cs tx_dg T n 161 q
    rw [tx_cs, if_pos ⟨by omega, c2⟩]
    have := (tx_cs_b tx_dg T n 160 (q + 1) (by omega)).1
    omega
  rw [if_neg c2]
  have c2' : tx_dg (T q) = false := by simpa using c2
  by_cases c3 : tx_sg (T q) = true
  · rw [if_pos c3]
    exact ⟨b1, by show q < q + 1; omega, by show q + 1 ≤ n; omega, rfl, Or.inr (Or.inr (Or.inl ⟨rfl, c1', c2', c3, rfl⟩))⟩
  · rw [if_neg c3]
    have c3' : tx_sg (T q) = false := by simpa using c3
    exact ⟨b1, by show q < q + 1; omega, by show q + 1 ≤ n; omega, rfl, Or.inr (Or.inr (Or.inr ⟨rfl, c1', c2', c3', rfl⟩))⟩
theorem tx_ps_le (T : Nat → Nat) (n : Nat) (hn : n ≤ 160) : ∀ k, tx_ps T n k ≤ n := by
  intro k
  induction k with
  | zero => exact Nat.zero_le _
  | succ k ih =>
    rw [tx_ps]
    rcases tx_lx_c T n (tx_ps T n k) ih hn with q | q
    · rw [q]; exact Nat.le_refl _
    · exact q.2.2.1
theorem tx_ky_ne (T : Nat → Nat) (a e : Nat) : tx_ky T a e ≠ 0 ∧ tx_ky T a e ≤ 9 := by
  unfold tx_ky
  repeat' split
  all_goals omega
theorem tx_kd0 (T : Nat → Nat) (n : Nat) (hn : n ≤ 160) (k : Nat) : tx_kd T n k = 0 ↔ tx_tk T n k = (0, n, n) := by
  unfold tx_kd
  rcases tx_lx_c T n (tx_ps T n k) (tx_ps_le T n hn k) hn with q | q
  · rw [show tx_tk T n k = (0, n, n) from q]
    simp [tx_kdt]
  · generalize ht : tx_lx T n (tx_ps T n k) = t at q
    rw [show tx_tk T n k = t from ht]
    obtain ⟨q1, q2, q3, q4, q5⟩ := q
    constructor
    · intro h
      exfalso
      unfold tx_kdt at h
      rcases q5 with ⟨a, _⟩ | ⟨a, _⟩ | ⟨a, b, c, d, e⟩ | ⟨a, _⟩
      · rw [a, if_neg (by decide), if_pos rfl] at h
        split at h
        · exact (tx_ky_ne T t.2.1 t.2.2).1 h
        · omega
      · split at a
        · rw [a, if_neg (by decide), if_neg (by decide), if_pos rfl] at h; omega
        · rw [a, if_neg (by decide), if_neg (by decide), if_neg (by decide), if_neg (by decide)] at h; omega
      · rw [a, if_neg (by decide), if_neg (by decide), if_neg (by decide), if_pos rfl] at h
        rw [h] at d
        exact absurd d (by decide)
      · rw [a, if_neg (by decide), if_neg (by decide), if_neg (by decide), if_neg (by decide)] at h; omega
    · intro h
      rw [h] at q2
      simp at q2
theorem tx_end (T : Nat → Nat) (n : Nat) (hn : n ≤ 160) (k : Nat) (h : tx_kd T n k = 0) : ∀ j, tx_kd T n (k + j) = 0 := by
  have e0 : tx_lx T n n = (0, n, n) := by
    unfold tx_lx
    rw [if_pos (tx_cs_b tx_ws T n 161 n (by omega)).1]
  intro j
  induction j with
  | zero => exact h
  | succ j ih =>
    rw [tx_kd0 T n hn] at ih ⊢
    unfold tx_tk at ih ⊢
    rw [← Nat.add_assoc, tx_ps, ih]
    exact e0
theorem tx_lt160 (T : Nat → Nat) (n : Nat) (hn : n ≤ 160) : ∀ k, tx_kd T n k ≠ 0 → k ≤ tx_ps T n k ∧ k < n := by
  intro k
  induction k with
  | zero =>
    intro h
    refine ⟨Nat.zero_le _, ?_⟩
    rcases tx_lx_c T n (tx_ps T n 0) (tx_ps_le T n hn 0) hn with q | q
    · exact absurd ((tx_kd0 T n hn 0).mpr q) h
    · omega
  | succ k ih =>
    intro h
    have h0 : tx_kd T n k ≠ 0 := fun z => h (tx_end T n hn k z 1)
    have h1 := ih h0
    have h2 : tx_ps T n k < tx_ps T n (k + 1) := by
      rw [tx_ps]
      rcases tx_lx_c T n (tx_ps T n k) (tx_ps_le T n hn k) hn with q | q
      · exact absurd ((tx_kd0 T n hn k).mpr q) h0
      · omega
    refine ⟨by omega, ?_⟩
    rcases tx_lx_c T n (tx_ps T n (k + 1)) (tx_ps_le T n hn (k + 1)) hn with q | q
    · exact absurd ((tx_kd0 T n hn (k + 1)).mpr q) h
    · omega
