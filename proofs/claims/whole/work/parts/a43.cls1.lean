/-! the class's search: small ones -/
def zy_sh (D : zD) (s e b : Nat) (th : Bool) : Nat := zmask (fun i => zPr D i && decide (s ≤ D 2 i) && decide (D 2 i < e) && (zPa D i b == th)) 4
theorem p4_ships {D : zD} {σ : zSt} (hD : zDX 1 D σ) (hO : zOk D) {s e b : Nat} (hs : s < 100) (he : e < 100) (hb : b < 3) (th : Bool) (Q : Int32 → zSt → Prop) : wX4_ships (nI s) (nI e) (nI b) (zci th) σ Q = Q (nI (zy_sh D s e b th)) σ := by
  have L : ∀ (j i f : Nat), i + j = 4 → j < f → wX4_ships_L6 Q (fun v s => Q v s) (nI s) (nI e) (nI b) (zci th) f (nI (zmask (fun i => zPr D i && decide (s ≤ D 2 i) && decide (D 2 i < e) && (zPa D i b == th)) i)) (nI i) σ = Q (nI (zy_sh D s e b th)) σ := by
    intro j
    induction j with
    | zero =>
      intro i f h1 h2
      obtain ⟨f, rfl⟩ : ∃ n', f = n' + 1 := ⟨f - 1, by omega⟩
      have : i = 4 := by omega
      subst this
      rw [wX4_ships_L6, if_pos (by decide)]
      rfl
    | succ j ih =>
      intro i f h1 h2
      obtain ⟨f, rfl⟩ : ∃ n', f = n' + 1 := ⟨f - 1, by omega⟩
      have h8 : i < 8 := by omega
      have hv : vp_in (nI i) 8 := zin' h8 (by omega)
      have g := hD.2.1 i h8
      have o := hO.2.1 i h8
      have st := ih (i + 1) f (by omega) (by omega)
      rw [wX4_ships_L6, if_neg (show ¬ (4 : Int32) ≤ nI i from nI_ge (b := 4) (by omega) (by omega)), p1_isThere hD hO h8, zcl (by omega), show σ.1 5 i = _ from g.2.1, show σ.1 4 i = _ from g.1]
      simp only [hv, true_and, forall_eq, nI_1]
      have skip : ¬ (zPr D i && decide (s ≤ D 2 i) && decide (D 2 i < e) && (zPa D i b == th)) = true → wX4_ships_L6 Q (fun v s => Q v s) (nI s) (nI e) (nI b) (zci th) f (nI (zmask (fun i => zPr D i && decide (s ≤ D 2 i) && decide (D 2 i < e) && (zPa D i b == th)) i)) (nI (i + 1)) σ = Q (nI (zy_sh D s e b th)) σ := fun q => by
        rw [zmask_n (fun i => zPr D i && decide (s ≤ D 2 i) && decide (D 2 i < e) && (zPa D i b == th)) q] at st
        exact st
      have take : (zPr D i && decide (s ≤ D 2 i) && decide (D 2 i < e) && (zPa D i b == th)) = true → wX4_ships_L6 Q (fun v s => Q v s) (nI s) (nI e) (nI b) (zci th) f (nI (zmask (fun i => zPr D i && decide (s ≤ D 2 i) && decide (D 2 i < e) && (zPa D i b == th)) i) ||| ((1 : Int32) <<< (nI i &&& 31))) (nI (i + 1)) σ = Q (nI (zy_sh D s e b th)) σ := fun q => by
        rw [zmask_s (fun i => zPr D i && decide (s ≤ D 2 i) && decide (D 2 i < e) && (zPa D i b == th)) h8 q]
        exact st
      by_cases c1 : zPr D i = true
      rotate_left
      · rw [if_neg c1, if_pos rfl]; exact skip (by simp [c1])
      rw [if_pos c1, if_neg (by decide)]
      by_cases c2 : s ≤ D 2 i
      rotate_left
      · rw [if_pos (show nI (D 2 i) < nI s from nI_lt (by omega) (by omega))]; exact skip (by simp [c2])
      rw [if_neg (show ¬ nI (D 2 i) < nI s from nI_nlt c2 (by omega))]
      by_cases c3 : D 2 i < e
      rotate_left
      · rw [if_pos (show nI e ≤ nI (D 2 i) from nI_le (by omega) (by omega))]; exact skip (by simp [c3])
      rw [if_neg (show ¬ nI e ≤ nI (D 2 i) from nI_ge c3 (by omega))]
      have i4 : i < 4 := by omega
      by_cases c4 : D 1 i = b
      · have ep : zPa D i b = true := by unfold zPa; simp [c4, i4]
        rw [if_pos (show nI (D 1 i) = nI b by rw [c4])]
        cases th with
        | true => rw [if_pos (show (1 : Int32) = zci true from rfl)]; exact take (by simp [c1, c2, c3, ep])
        | false => rw [if_neg (show ¬ (1 : Int32) = zci false by decide)]; exact skip (by simp [ep])
      · have ep : zPa D i b = false := by unfold zPa; simp [c4, i4]
        rw [if_neg (show ¬ nI (D 1 i) = nI b from fun z => c4 ((nI_eq (by omega) (by omega)).mp z))]
        cases th with
        | true => rw [if_neg (show ¬ (0 : Int32) = zci true by decide)]; exact skip (by simp [ep])
        | false => rw [if_pos (show (0 : Int32) = zci false from rfl)]; exact take (by simp [c1, c2, c3, ep])
  unfold wX4_ships
  exact L 4 0 300 (by omega) (by omega)
theorem p4_place {m u w : Nat} (hm : m ≤ 24) (hu : u < 3) (hw : w < 16) (σ : zSt) (Q : Int32 → zSt → Prop) : wX4_place (nI m) (nI u) (nI w) σ Q = Q (nI ((m * 3 + u) * 16 + w)) σ := by
  unfold wX4_place
  rw [if_neg (nI_pos (by omega)), if_neg (show ¬ (24 : Int32) < nI m from nI_nlt (a := 24) hm (by omega)), p7_isBridge, if_pos (zr_nI hu (by omega)), if_neg (by decide), show (nI w &&& 15) = nI w from by rw [pk_andN (m := 15) (by omega) 4 (by decide), Nat.mod_eq_of_lt hw], show (3 : Int32) = nI 3 from rfl, show (16 : Int32) = nI 16 from rfl, pk_mul, nI_add, pk_mul, nI_add]
/-- the prices of a search -/
def cT (P : zP) (σ : zSt) : Prop := (∀ i m, i < 8 → m ≤ 24 → P.1 i = true → P.2.2.1 i ≤ m → σ.1 29 (i * 25 + m) = nI (P.2.2.2.1 i m)) ∧ (∀ m u b, 1 ≤ m → m < 24 → u < 3 → b < 3 → u ≠ b → σ.1 30 ((m * 3 + u) * 3 + b) = nI (P.2.2.2.2.1 m u b))
theorem p4_cost {σ : zSt} {m w : Nat} (hm : m ≤ 24) (Q : Int32 → zSt → Prop) : ∃ v : Int32, wX4_costOfShips (nI w) (nI m) σ Q = Q v σ ∧ ∀ P : zP, cT P σ → (∀ i, w.testBit i = true → i < 4 ∧ P.1 i = true ∧ P.2.2.1 i ≤ m) → v = nI (zy_cs P w m) := by
  have L : ∀ (j i f : Nat) (x : Int32), i + j = 4 → j < f → ∃ v : Int32, wX4_costOfShips_L5 Q (fun v s => Q v s) (nI w) (nI m) f x (nI i) σ = Q v σ ∧ ∀ P : zP, cT P σ → (∀ i, w.testBit i = true → i < 4 ∧ P.1 i = true ∧ P.2.2.1 i ≤ m) → x = nI (zsum (fun i => if w.testBit i = true then P.2.2.2.1 i m else 0) i) → v = nI (zy_cs P w m) := by
    intro j
    induction j with
    | zero =>
      intro i f x h1 h2
      obtain ⟨f, rfl⟩ : ∃ n', f = n' + 1 := ⟨f - 1, by omega⟩
      have : i = 4 := by omega
      subst this
      refine ⟨x, ?_, fun P _ _ hx => hx⟩
      rw [wX4_costOfShips_L5, if_pos (by decide)]
    | succ j ih =>
      intro i f x h1 h2
      obtain ⟨f, rfl⟩ : ∃ n', f = n' + 1 := ⟨f - 1, by omega⟩
      have h8 : i < 8 := by omega
      have hv : vp_in (nI (i * 25 + m)) 200 := zin' (by omega) (by omega)
      have et := zb_tst (a := w) (i := i) h8
      rw [wX4_costOfShips_L5, if_neg (show ¬ (4 : Int32) ≤ nI i from nI_ge (b := 4) (by omega) (by omega)), show nI i * (25 : Int32) + nI m = nI (i * 25 + m) from by rw [show (25 : Int32) = nI 25 from rfl, pk_mul, nI_add], zcl (by omega)]
      simp only [hv, true_and, forall_eq, nI_1]
      by_cases c : w.testBit i = true
      · rw [if_neg (fun z => by rw [et.mp z] at c; simp at c)]
        obtain ⟨v, e1, e2⟩ := ih (i + 1) f (x + σ.1 29 (i * 25 + m)) (by omega) (by omega)
        refine ⟨v, e1, fun P hT hw hx => e2 P hT hw ?_⟩
        obtain ⟨q1, q2, q3⟩ := hw i c
        rw [hx, hT.1 i m h8 hm q2 q3, nI_add, zsum, if_pos c]
      · have c' : w.testBit i = false := by simpa using c
        rw [if_pos (et.mpr c')]
        obtain ⟨v, e1, e2⟩ := ih (i + 1) f x (by omega) (by omega)
        refine ⟨v, e1, fun P hT hw hx => e2 P hT hw ?_⟩
        rw [hx, zsum, if_neg c, Nat.add_zero]
  obtain ⟨v, e1, e2⟩ := L 4 0 300 0 (by omega) (by omega)
  refine ⟨v, ?_, fun P hT hw => e2 P hT hw rfl⟩
  unfold wX4_costOfShips
  exact e1
/-- places that count: ships that wait, none of them at the bridge that was up -/
def zy_v (P : zP) (s u w : Nat) : Prop := zy_ok P s w ∧ ∀ i, w.testBit i = true → P.2.1 i u = false
theorem zy_v_lt {P : zP} {s w : Nat} (h : zy_ok P s w) : w < 16 := by
  have := Nat.lt_pow_two_of_testBit w (n := 4) (fun i hi => by
    cases q : w.testBit i with
    | false => rfl
    | true => have := (h i q).1; omega)
  exact this
theorem zy_v_we {P : zP} {s b w e : Nat} (h : zy_ok P s w) (hs : s ≤ e) : zy_v P e b (zy_we P s b w e) := by
  refine ⟨zy_we_ok h hs, fun i hi => ?_⟩
  rw [zy_we_bit] at hi
  simp only [Bool.or_eq_true, Bool.and_eq_true, Bool.not_eq_true'] at hi
  rcases hi with ⟨q1, q2⟩ | q
  · have := h i q1
    rw [zy_at_bit] at q2
    simp only [this.1, this.2.1, decide_true, Bool.true_and] at q2
    exact q2
  · rw [zy_sw_bit] at q
    simp only [Bool.and_eq_true, Bool.not_eq_true', decide_eq_true_eq] at q
    exact q.2.2
def zy_end (P : zP) (K e b w : Nat) : Nat := zy_E (zy_G P K e b w) (zy_nx P e b w) b (24 - zy_e0 P e)
def zy_br (P : zP) (e u w : Nat) : Nat := zfirst (zg P e (zcan P e w) u)
/-- what the rows of places hold from a minute on -/
def cV (P : zP) (s : Nat) (σ : zSt) : Prop := ∀ e u w, s ≤ e → 1 ≤ e → e ≤ 24 → u < 3 → zy_v P e u w → σ.1 31 ((e * 3 + u) * 16 + w) = nI (zy_nv P e u w) ∧ (e < 24 → σ.1 32 ((e * 3 + u) * 16 + w) = nI (zy_br P e u w) ∧ σ.1 33 ((e * 3 + u) * 16 + w) = nI (zy_end P (P.2.2.2.2.1 e u (zy_br P e u w)) e (zy_br P e u w) w))
theorem zy_cs_b {P : zP} (hP : zpk P) (w m : Nat) : zy_cs P w m ≤ 4000000 := by
  have := zsum_le (f := fun i => if w.testBit i = true then P.2.2.2.1 i m else 0) (c := 1000000) 4 (fun i _ => by
    show (if w.testBit i = true then P.2.2.2.1 i m else 0) ≤ 1000000
    split
    · exact hP.2.2.1 i m
    · omega)
  unfold zy_cs
  omega
theorem zy_sc_b {P : zP} (hP : zpk P) (s b e : Nat) : zy_sc P s b e ≤ 8000000 := by
  have := zsum_le (f := fun i => if P.1 i = true ∧ s ≤ P.2.2.1 i ∧ P.2.2.1 i < e then (if P.2.1 i b = true then P.2.2.2.1 i (P.2.2.1 i) else if 4 ≤ i then P.2.2.2.1 i e else 0) else 0) (c := 1000000) 8 (fun i _ => by
    show (if P.1 i = true ∧ s ≤ P.2.2.1 i ∧ P.2.2.1 i < e then (if P.2.1 i b = true then P.2.2.2.1 i (P.2.2.1 i) else if 4 ≤ i then P.2.2.2.1 i e else 0) else 0) ≤ 1000000
    split
    · split
      · exact hP.2.2.1 i _
      · split
        · exact hP.2.2.1 i _
        · omega
    · omega)
  unfold zy_sc
  omega
theorem zWn_b {P : zP} (hP : zpk P) (s n u : Nat) : zWn P s n u ≤ 16000099 := by
  unfold zWn
  have l := zmin3_le (zg P s n u 0) (zg P s n u 1) (zg P s n u 2)
  by_cases c : u = 0
  · have := zWb_b hP (s := s) (n := n) (u := u) (b := 1) (by omega)
    rw [← zg_W (show 1 ≠ u by omega)] at this
    omega
  · have := zWb_b hP (s := s) (n := n) (u := u) (b := 0) (by omega)
    rw [← zg_W (show 0 ≠ u by omega)] at this
    omega
theorem zy_nv_b {P : zP} (hP : zpk P) (e b w : Nat) : zy_nv P e b w ≤ 16000099 := by
  unfold zy_nv
  split
  · exact zWn_b hP _ _ _
  · have := zy_cs_b hP w 24
    omega
theorem zy_G_b {P : zP} (hP : zpk P) {K s b w e : Nat} (hK : K ≤ 99) : zy_G P K s b w e ≤ 30000000 := by
  have h1 := zy_cs_b hP (w &&& zy_at P b) s
  have h2 := zy_sc_b hP s b e
  have h3 := zy_nv_b hP e b (zy_we P s b w e)
  unfold zy_G
  omega
