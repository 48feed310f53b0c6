/-! the model's tables -/
def zmt (σ σ' : zSt) : Prop := (∀ o, ((1 ≤ o ∧ o ≤ 9) ∨ (14 ≤ o ∧ o ≤ 20)) → σ'.1 o = σ.1 o) ∧ ∀ j, (j ≤ 16 ∨ 33 ≤ j) → σ'.1 0 j = σ.1 0 j
theorem zmt.tr {σ σ' σ'' : zSt} (e : zmt σ σ') (f : zmt σ' σ'') : zmt σ σ'' := ⟨fun o ho => (f.1 o ho).trans (e.1 o ho), fun j hj => (f.2 j hj).trans (e.2 j hj)⟩
theorem zmt.rf (σ : zSt) : zmt σ σ := ⟨fun _ _ => rfl, fun _ _ => rfl⟩
theorem zmt.my {σ σ' : zSt} (e : zmy σ σ') : zmt σ σ' := ⟨fun o ho => e.1 o (by omega), fun j hj => e.2 j (by omega)⟩
theorem zmt.put (σ : zSt) {o j : Nat} (v : Int32) (h : 10 ≤ o ∧ o ≤ 13) : zmt σ (zput σ o j v) := ⟨fun o' ho => zput_ne (by omega), fun j' hj => by rw [zput_ne (by omega)]⟩
theorem zmt.keep {A : zA} {σ σ' : zSt} (h : RM A σ) (e : zmt σ σ') : RM A σ' := h.keep e.1 e.2
def zPm (A : zA) : zP := zparC A.1 A.2.2.2.1.2
/-- what the tables of costs hold -/
def tC (A : zA) (σ : zSt) : Prop := ∀ i m, i < 8 → m ≤ 24 → σ.1 12 (25 * i + m) = nI (if zPr A.1 i = true ∧ A.1 2 i ≤ m then zcost A.1 A.2.2.2.1.2 i m else 0)
def tH (A : zA) (σ : zSt) : Prop := ∀ m u b, 1 ≤ m → m < 24 → u < 3 → b < 3 → u ≠ b → σ.1 13 (9 * m + (3 * b + u)) = nI (zchg A.1 A.2.2.2.1.2 m u b)
/-- what the table of values holds at a minute -/
def tV (A : zA) (V : Nat → Nat → Nat → Nat) (m : Nat) (σ : zSt) : Prop := ∀ n b held, zsbs (zPm A) n → b < 3 → 1 ≤ held → held ≤ A.1 6 3 → σ.1 11 (3072 * m + (12 * n + 4 * b + held - 1)) = nI (V n b held) ∧ V n b held ≤ znev
theorem znow_lt {P : zP} {n : Nat} (hn : n < 256) (m b : Nat) : znow P m b n < 256 := by
  unfold znow
  exact Nat.or_lt_two_pow (n := 8) hn (zmask_lt _ 8)
def zci (c : Bool) : Int32 := if c = true then 1 else 0
theorem zcby_le {P : zP} {k : Nat} (h : ∀ i m, P.2.2.2.1 i m ≤ k) (m n now : Nat) : zcby P m n now ≤ 8 * k := by
  unfold zcby
  have := zsum_le (f := fun i => if now.testBit i = true ∧ n.testBit i = false then P.2.2.2.1 i m else 0) (c := k) 8 (fun i _ => by
    show (if now.testBit i = true ∧ n.testBit i = false then P.2.2.2.1 i m else 0) ≤ k
    split
    · exact h i m
    · omega)
  omega
theorem p8_leastFrom {A : zA} (hi : zI A) {σ : zSt} (hD : zDM A.1 σ) {c : Bool} (hC : c = true → tC A σ) {V : Nat → Nat → Nat → Nat} {m n b held : Nat} (hV : tV A V (m + 1) σ) (hm : m < 24) (hn : zsbs (zPm A) n) (hb : b < 3) (hh : 1 ≤ held ∧ held ≤ A.1 6 3) (Q : Int32 → zSt → Prop) : wX8_leastFrom (nI m) (nI n) (nI b) (nI held) (zci c) σ Q = Q (nI (zwl c (zPm A) V m n b held)) σ := by
  have h4 := hi.1.2.2.2.2.2.2.1
  have hs := znow_sub hn m b
  have hl := zsbs_lt hs
  have hln := zsbs_lt hn
  obtain ⟨v1, v2⟩ := hV (znow (zPm A) m b n) b held hs hb hh.1 hh.2
  have hnev : znev = 99999999 := rfl
  unfold wX8_leastFrom wX8_state
  rw [p8_goesBy hD hi.1 (zcost A.1 A.2.2.2.1.2) (zchg A.1 A.2.2.2.1.2) (by omega) hb]
  rw [show znow (zpar A.1 (zcost A.1 A.2.2.2.1.2) (zchg A.1 A.2.2.2.1.2)) m b n = znow (zPm A) m b n from rfl]
  rw [show (12 : Int32) * nI (znow (zPm A) m b n) + 4 * nI b + nI held - 1 = nI (12 * znow (zPm A) m b n + 4 * b + held - 1) from by
    rw [show (12 : Int32) = nI 12 from rfl, show (4 : Int32) = nI 4 from rfl, show (1 : Int32) = nI 1 from rfl, pk_mul, pk_mul, nI_add, nI_add, pk_sub (by omega)]]
  dsimp only
  rw [nI_1, show (3072 : Int32) * nI (m + 1) + nI (12 * znow (zPm A) m b n + 4 * b + held - 1) = nI (3072 * (m + 1) + (12 * znow (zPm A) m b n + 4 * b + held - 1)) from by
    rw [show (3072 : Int32) = nI 3072 from rfl, pk_mul, nI_add], zcl (by omega), v1]
  have hv : vp_in (nI (3072 * (m + 1) + (12 * znow (zPm A) m b n + 4 * b + held - 1))) 76800 := zin' (by omega) (by omega)
  simp only [hv, true_and, forall_eq]
  unfold zwl
  by_cases c1 : V (znow (zPm A) m b n) b held < znev
  · rw [if_pos c1, if_pos (show nI (V (znow (zPm A) m b n) b held) < (99999999 : Int32) from nI_lt (b := 99999999) c1 (by omega))]
    cases c with
    | false =>
      rw [if_pos (show zci false = (0 : Int32) from rfl), Int32.add_zero]
      simp
    | true =>
      rw [if_neg (show ¬ zci true = (0 : Int32) by decide), p8_costBy (P := zPm A) (by omega) hl, nI_add]
      · simp
      · intro i h8 t1 t2
        rw [znow_bit, t2, Bool.false_or] at t1
        simp only [Bool.and_eq_true, decide_eq_true_eq] at t1
        rw [hC rfl i m h8 (by omega), if_pos ⟨t1.2.1.1, t1.2.1.2⟩]
        rfl
  · rw [if_neg c1, if_neg (show ¬ nI (V (znow (zPm A) m b n) b held) < (99999999 : Int32) from nI_nlt (b := 99999999) (by omega) (by omega))]
    rfl
theorem zwl_le {A : zA} {c : Bool} {V : Nat → Nat → Nat → Nat} {m n b held : Nat} : zwl c (zPm A) V m n b held ≤ znev + 800 := by
  unfold zwl
  have := zcby_le (P := zPm A) (k := 99) (fun i m => zclamp_le _) m n (znow (zPm A) m b n)
  split
  · split <;> omega
  · omega
theorem zwst_le {A : zA} {c : Bool} {V : Nat → Nat → Nat → Nat} {m n u held b : Nat} : zwst c (zPm A) V m n u held b ≤ znev + 1000 := by
  unfold zwst
  have h1 := zwl_le (A := A) (c := c) (V := V) (m := m) (n := n) (b := b) (held := if held < (zPm A).2.2.2.2.2 then held + 1 else (zPm A).2.2.2.2.2)
  have h2 := zwl_le (A := A) (c := c) (V := V) (m := m) (n := n) (b := b) (held := 1)
  have h3 : (zPm A).2.2.2.2.1 m u b ≤ 99 := zclamp_le _
  split
  · omega
  · split
    · omega
    · split
      · split <;> omega
      · omega
theorem p8_step {A : zA} (hi : zI A) {σ : zSt} (hD : zDM A.1 σ) {c : Bool} (hC : c = true → tC A σ) (hH : c = true → tH A σ) {V : Nat → Nat → Nat → Nat} {m n u held b : Nat} (hV : tV A V (m + 1) σ) (hm : m < 24) (hm1 : 1 ≤ m) (hn : zsbs (zPm A) n) (hu : u < 3) (hb : b < 3) (hh : 1 ≤ held ∧ held ≤ A.1 6 3) (Q : Int32 → zSt → Prop) : wX8_step (nI m) (nI n) (nI u) (nI held) (nI b) (zci c) σ Q = Q (nI (zwst c (zPm A) V m n u held b)) σ := by
  have h4 := hi.1.2.2.2.2.2.2.1
  have eh : σ.1 0 12 = nI (A.1 6 3) := hD.2.2.2.2.2.2.1
  have hnev : znev = 99999999 := rfl
  have eP : (zPm A).2.2.2.2.2 = A.1 6 3 := rfl
  unfold wX8_step zwst
  rw [eh, eP]
  by_cases c1 : b = u
  · rw [if_pos (show nI b = nI u by rw [c1]), if_pos c1]
    by_cases c2 : held < A.1 6 3
    · rw [if_neg (show ¬ nI (A.1 6 3) ≤ nI held from nI_ge c2 (by omega)), if_pos c2, forall_eq, nI_1, p8_leastFrom hi hD hC hV hm hn hb (by omega)]
    · rw [if_pos (show nI (A.1 6 3) ≤ nI held from nI_le (by omega) (by omega)), if_neg c2, forall_eq, p8_leastFrom hi hD hC hV hm hn hb (by omega)]
  · rw [if_neg (show ¬ nI b = nI u from fun z => c1 ((nI_eq (by omega) (by omega)).mp z)), if_neg c1]
    by_cases c2 : held < A.1 6 3
    · rw [if_neg (show ¬ nI (A.1 6 3) ≤ nI held from nI_ge c2 (by omega)), if_pos c2]; rfl
    · rw [if_pos (show nI (A.1 6 3) ≤ nI held from nI_le (by omega) (by omega)), if_neg c2, show wX8_leastFrom (nI m) (nI n) (nI b) 1 = wX8_leastFrom (nI m) (nI n) (nI b) (nI 1) from rfl, p8_leastFrom hi hD hC hV hm hn hb (by omega)]
      have hw := zwl_le (A := A) (c := c) (V := V) (m := m) (n := n) (b := b) (held := 1)
      by_cases c3 : zwl c (zPm A) V m n b 1 < znev
      · rw [if_pos c3, if_pos (show nI (zwl c (zPm A) V m n b 1) < (99999999 : Int32) from nI_lt (b := 99999999) c3 (by omega))]
        cases c with
        | false =>
          rw [if_pos (show zci false = (0 : Int32) from rfl), nI_1]
          simp
        | true =>
          rw [if_neg (show ¬ zci true = (0 : Int32) by decide), show (9 : Int32) * nI m + 3 * nI b + nI u = nI (9 * m + (3 * b + u)) from by
            rw [show (9 : Int32) = nI 9 from rfl, show (3 : Int32) = nI 3 from rfl, pk_mul, pk_mul, nI_add, nI_add, Nat.add_assoc], zcl (by omega), hH rfl m u b hm1 hm hu hb (fun z => c1 z.symm), nI_add]
          have hv : vp_in (nI (9 * m + (3 * b + u))) 216 := zin' (by omega) (by omega)
          simp only [hv, true_and]
          rfl
      · rw [if_neg c3, if_neg (show ¬ nI (zwl c (zPm A) V m n b 1) < (99999999 : Int32) from nI_nlt (b := 99999999) (by omega) (by omega))]; rfl
