theorem cVp.mono {P : zP} {s u w u' w' : Nat} {σ : zSt} (h : cVp P s u w σ) (hh : ∀ a b, a < 3 → zy_v P s a b → (a < u' ∨ (a = u' ∧ b < w')) → (a < u ∨ (a = u ∧ b < w))) : cVp P s u' w' σ := ⟨h.1, fun a b ha hv q => h.2 a b ha hv (hh a b ha hv q)⟩
theorem p4_settleMinute {D : zD} (hO : zOk D) {co : Nat → Nat → Nat} {ch : Nat → Nat → Nat → Nat} (hP : zpk (zpar D co ch)) {s u : Nat} (hs1 : 1 ≤ s) (hs : s < 24) (hu : u < 3) {σ0 : zSt} (hB : cB D (zpar D co ch) σ0) (hS : cS (zpar D co ch) s σ0) (hV : cVp (zpar D co ch) s u 0 σ0) (Q : zSt → Prop) (hQ : ∀ σ' : zSt, cr σ0 σ' → cVp (zpar D co ch) s (u + 1) 0 σ' → Q σ') : wX4_settleMinute (nI s) (nI u) σ0 Q := by
  have ev : ∀ w, w < 16 → (nI (w &&& (w ^^^ zy_sh D 0 s u false)) = 0 ↔ zy_v (zpar D co ch) s u w) := by
    intro w hw
    have le := zdif_le w (zy_sh D 0 s u false)
    have sb : ∀ i, (zy_sh D 0 s u false).testBit i = (decide (i < 4) && (zPr D i && decide (0 ≤ D 2 i) && decide (D 2 i < s) && (zPa D i u == false))) := fun i => zmask_bit _ 4 i
    rw [show (0 : Int32) = nI 0 from rfl, nI_eq (by omega) (by omega)]
    constructor
    · intro h
      have key : ∀ i, w.testBit i = true → i < 4 ∧ zPr D i = true ∧ D 2 i < s ∧ zPa D i u = false := fun i hi => by
        have e : (w &&& (w ^^^ zy_sh D 0 s u false)).testBit i = false := by rw [h]; exact Nat.zero_testBit i
        rw [zdif_bit, hi, Bool.true_and, sb] at e
        simp only [Bool.not_eq_false', Bool.and_eq_true, decide_eq_true_eq, beq_iff_eq] at e
        exact ⟨e.1, e.2.1.1.1, e.2.1.2, e.2.2⟩
      exact ⟨fun i hi => ⟨(key i hi).1, (key i hi).2.1, (key i hi).2.2.1⟩, fun i hi => (key i hi).2.2.2⟩
    · intro h
      apply Nat.eq_of_testBit_eq
      intro i
      rw [zdif_bit, Nat.zero_testBit, sb]
      cases hi : w.testBit i with
      | false => rfl
      | true =>
        obtain ⟨k1, k2, k3⟩ := h.1 i hi
        have k4 := h.2 i hi
        have k2 : zPr D i = true := k2
        have k3 : D 2 i < s := k3
        have k4 : zPa D i u = false := k4
        simp [k1, k2, k3, k4]
  have L : ∀ (j w f : Nat) (σ : zSt), w + j = 16 → j < f → cr σ0 σ → cVp (zpar D co ch) s u w σ → wX4_settleMinute_L12 Q (fun σ107 => Q σ107) (nI s) (nI u) (nI (zy_sh D 0 s u false)) f (nI w) σ := by
    intro j
    induction j with
    | zero =>
      intro w f σ h1 h2 hc t
      obtain ⟨f, rfl⟩ : ∃ n', f = n' + 1 := ⟨f - 1, by omega⟩
      have : w = 16 := by omega
      subst this
      rw [wX4_settleMinute_L12, if_pos (by decide)]
      refine hQ σ hc (t.mono (fun a b ha hv q => ?_))
      have := zy_v_lt hv.1
      omega
    | succ j ih =>
      intro w f σ h1 h2 hc t
      obtain ⟨f, rfl⟩ : ∃ n', f = n' + 1 := ⟨f - 1, by omega⟩
      have hw : w < 16 := by omega
      rw [wX4_settleMinute_L12, if_neg (show ¬ (16 : Int32) ≤ nI w from nI_ge (b := 16) hw (by omega)), zb_dif]
      by_cases c : zy_v (zpar D co ch) s u w
      · rw [if_pos ((ev w hw).mpr c)]
        refine p4_settle hP rfl hs1 hs hu c (hB.fr (fun o a b c _ _ => hc o a b c)) (hS.fr (hc 34 (by decide) (by decide) (by decide)) (hc 35 (by decide) (by decide) (by decide))) t.1 _ (fun σ' hp g1 g2 g3 => ?_)
        rw [forall_eq, nI_1]
        refine ih (w + 1) f σ' (by omega) (by omega) (hc.tr hp.1) ⟨t.1.cp hp (by omega), fun a b ha hv q => ?_⟩
        have lb := zy_v_lt hv.1
        by_cases e : a = u ∧ b = w
        · obtain ⟨rfl, rfl⟩ := e
          exact ⟨g1, g2, g3⟩
        · have ne : (s * 3 + a) * 16 + b ≠ (s * 3 + u) * 16 + w := by omega
          rw [hp.2 31 _ ne, hp.2 32 _ ne, hp.2 33 _ ne]
          exact t.2 a b ha hv (by omega)
      · rw [if_neg (fun z => c ((ev w hw).mp z)), forall_eq, nI_1]
        refine ih (w + 1) f σ (by omega) (by omega) hc (t.mono (fun a b ha hv q => ?_))
        by_cases e : a = u ∧ b = w
        · obtain ⟨rfl, rfl⟩ := e
          exact absurd hv c
        · omega
  unfold wX4_settleMinute
  rw [show wX4_ships 0 (nI s) (nI u) 0 σ0 = wX4_ships (nI 0) (nI s) (nI u) (zci false) σ0 from rfl, p4_ships hB.1 hO (by omega) (by omega) hu]
  exact L 16 0 300 σ0 (by omega) (by omega) (fun _ _ _ _ => rfl) hV
theorem p4_close {P : zP} {σ0 : zSt} (hT : cT P σ0) (hfr : ∀ i, i < 8 → P.2.2.1 i < 24) (Q : zSt → Prop) (hQ : ∀ σ' : zSt, cr σ0 σ' → cV P 24 σ' → Q σ') : wX4_closeDay σ0 Q := by
  have tt : ∀ {σ : zSt}, cr σ0 σ → cT P σ := fun {σ} e => ⟨fun i m a b c d => by rw [e 29 (by decide) (by decide) (by decide)]; exact hT.1 i m a b c d, fun m u b p q r s t => by rw [e 30 (by decide) (by decide) (by decide)]; exact hT.2 m u b p q r s t⟩
  have LI : ∀ (w : Nat), w < 16 → ∀ (v : Int32), (zy_ok P 24 w → v = nI (zy_cs P w 24)) → ∀ R : zSt → Prop, (∀ σ', cr σ0 σ' → (∀ b x, b < 3 → zy_ok P 24 x → x < w + 1 → σ'.1 31 ((24 * 3 + b) * 16 + x) = nI (zy_cs P x 24)) → R σ') → ∀ (j b f : Nat) (σ : zSt), b + j = 3 → j < f → cr σ0 σ → (∀ a x, a < 3 → zy_ok P 24 x → (x < w ∨ (x = w ∧ a < b)) → σ.1 31 ((24 * 3 + a) * 16 + x) = nI (zy_cs P x 24)) → wX4_closeDay_L18 Q R (nI w) v f (nI b) σ := by
    intro w hw v hv R hR j
    induction j with
    | zero =>
      intro b f σ h1 h2 hc t
      obtain ⟨f, rfl⟩ : ∃ n', f = n' + 1 := ⟨f - 1, by omega⟩
      have : b = 3 := by omega
      subst this
      rw [wX4_closeDay_L18, if_pos (by decide)]
      exact hR σ hc (fun b x hb hx hl => t b x hb hx (by omega))
    | succ j ih =>
      intro b f σ h1 h2 hc t
      obtain ⟨f, rfl⟩ : ∃ n', f = n' + 1 := ⟨f - 1, by omega⟩
      rw [wX4_closeDay_L18, if_neg (show ¬ (3 : Int32) ≤ nI b from nI_ge (b := 3) (by omega) (by omega)), show wX4_place 24 (nI b) (nI w) σ = wX4_place (nI 24) (nI b) (nI w) σ from rfl, p4_place (by omega) (by omega) hw]
      refine ⟨zin' (by omega) (by omega), ?_⟩
      rw [forall_eq, forall_eq, nI_1, zcl (by omega)]
      refine ih (b + 1) f _ (by omega) (by omega) (hc.tr (fun o a b c => zput_ne a)) (fun a x ha hx q => ?_)
      have lx := zy_v_lt hx
      rw [zput_at]
      by_cases e : a = b ∧ x = w
      · obtain ⟨rfl, rfl⟩ := e
        rw [if_pos ⟨rfl, rfl⟩]
        exact hv hx
      · rw [if_neg (by omega)]
        exact t a x ha hx (by omega)
  have L : ∀ (j w f : Nat) (σ : zSt), w + j = 16 → j < f → cr σ0 σ → (∀ b x, b < 3 → zy_ok P 24 x → x < w → σ.1 31 ((24 * 3 + b) * 16 + x) = nI (zy_cs P x 24)) → wX4_closeDay_L2 Q (fun σ109 => Q σ109) f (nI w) σ := by
    intro j
    induction j with
    | zero =>
      intro w f σ h1 h2 hc t
      obtain ⟨f, rfl⟩ : ∃ n', f = n' + 1 := ⟨f - 1, by omega⟩
      have : w = 16 := by omega
      subst this
      rw [wX4_closeDay_L2, if_pos (by decide)]
      refine hQ σ hc (fun e u x q1 q2 q3 q4 q5 => ?_)
      have : e = 24 := by omega
      subst this
      have lx := zy_v_lt q5.1
      refine ⟨?_, fun z => by omega⟩
      rw [t u x q4 q5.1 lx]
      rfl
    | succ j ih =>
      intro w f σ h1 h2 hc t
      obtain ⟨f, rfl⟩ : ∃ n', f = n' + 1 := ⟨f - 1, by omega⟩
      rw [wX4_closeDay_L2, if_neg (show ¬ (16 : Int32) ≤ nI w from nI_ge (b := 16) (by omega) (by omega))]
      obtain ⟨v, e1, e2⟩ := p4_cost (σ := σ) (m := 24) (w := w) (by omega) (fun r101 σ102 => wX4_closeDay_L18 Q (fun σ107 => ∀ x108 : Int32, x108 = nI w + 1 → (wX4_closeDay_L2 Q (fun σ109 => Q σ109) f x108 σ107)) (nI w) r101 300 0 σ102)
      rw [show wX4_costOfShips (nI w) 24 σ = wX4_costOfShips (nI w) (nI 24) σ from rfl, e1]
      refine LI w (by omega) v (fun hx => e2 P (tt hc) (fun i hi => ?_)) _ (fun σ' hc' t' => ?_) 3 0 300 σ (by omega) (by omega) hc (fun a x ha hx q => t a x ha hx (by omega))
      · have := hx i hi
        exact ⟨this.1, this.2.1, by omega⟩
      · rw [forall_eq, nI_1]
        exact ih (w + 1) f σ' (by omega) (by omega) hc' t'
  unfold wX4_closeDay
  exact L 16 0 300 σ0 (by omega) (by omega) (fun _ _ _ _ => rfl) (fun b x hb hx q => by omega)
/-! a search -/
def ct (σ σ' : zSt) : Prop := ∀ o, (o < 31 ∨ 36 < o) → σ'.1 o = σ.1 o
theorem ct.tr {σ σ' σ'' : zSt} (e : ct σ σ') (f : ct σ' σ'') : ct σ σ'' := fun o a => (f o a).trans (e o a)
theorem zy_sh_at {D : zD} (hO : zOk D) (co : Nat → Nat → Nat) (ch : Nat → Nat → Nat → Nat) (b : Nat) : zy_sh D 0 24 b true = zy_at (zpar D co ch) b := by
  unfold zy_sh zy_at
  refine zmask_ext (fun i hi => ?_)
  have := (hO.2.1 i (by omega)).2.1
  show (zPr D i && decide (0 ≤ D 2 i) && decide (D 2 i < 24) && (zPa D i b == true)) = (zPr D i && zPa D i b)
  cases zPr D i <;> cases zPa D i b <;> simp [this]
theorem p4_solve {D : zD} (hO : zOk D) {co : Nat → Nat → Nat} {ch : Nat → Nat → Nat → Nat} (hP : zpk (zpar D co ch)) {σ0 : zSt} (hD : zDX 1 D σ0) (hT : cT (zpar D co ch) σ0) (Q : Int32 → zSt → Prop) (hQ : ∀ σ' : zSt, ct σ0 σ' → cV (zpar D co ch) 1 σ' → σ'.1 32 0 = nI (zfirst (zbeg (zpar D co ch))) → σ'.1 33 0 = nI (zy_end (zpar D co ch) 0 0 (zfirst (zbeg (zpar D co ch))) 0) → Q (nI (zLc (zpar D co ch))) σ') : wX4_solve σ0 Q := by
  have dd : ∀ {σ : zSt}, ct σ0 σ → zDX 1 D σ := fun {σ} e => hD.fr (fun k hk => e _ (by omega))
  have tt : ∀ {σ : zSt}, ct σ0 σ → cT (zpar D co ch) σ := fun {σ} e => ⟨fun i m a b c d => by rw [e 29 (by omega)]; exact hT.1 i m a b c d, fun m u b p q r s t => by rw [e 30 (by omega)]; exact hT.2 m u b p q r s t⟩
  have L2 : ∀ (R : zSt → Prop), (∀ σ', ct σ0 σ' → (∀ b, b < 3 → σ'.1 36 b = nI (zy_at (zpar D co ch) b)) → R σ') → ∀ (j b f : Nat) (σ : zSt), b + j = 3 → j < f → ct σ0 σ → (∀ a, a < b → σ.1 36 a = nI (zy_at (zpar D co ch) a)) → wX4_solve_L2 Q R f (nI b) σ := by
    intro R hR j
    induction j with
    | zero =>
      intro b f σ h1 h2 hc t
      obtain ⟨f, rfl⟩ : ∃ n', f = n' + 1 := ⟨f - 1, by omega⟩
      have : b = 3 := by omega
      subst this
      rw [wX4_solve_L2, if_pos (by decide)]
      exact hR σ hc t
    | succ j ih =>
      intro b f σ h1 h2 hc t
      obtain ⟨f, rfl⟩ : ∃ n', f = n' + 1 := ⟨f - 1, by omega⟩
      rw [wX4_solve_L2, if_neg (show ¬ (3 : Int32) ≤ nI b from nI_ge (b := 3) (by omega) (by omega)), show wX4_ships 0 24 (nI b) 1 σ = wX4_ships (nI 0) (nI 24) (nI b) (zci true) σ from rfl, p4_ships (dd hc) hO (by omega) (by omega) (by omega), zy_sh_at hO co ch]
      refine ⟨zin' (by omega) (by omega), ?_⟩
      rw [forall_eq, forall_eq, nI_1, zcl (by omega)]
      refine ih (b + 1) f _ (by omega) (by omega) (hc.tr (fun o ho => zput_ne (by omega))) (fun a ha => ?_)
      rw [zput_at]
      by_cases e : a = b
      · rw [if_pos ⟨rfl, e⟩, e]
      · rw [if_neg (fun z => e z.2)]; exact t a (by omega)
  have L62 : ∀ (s : Nat), 1 ≤ s → s < 24 → ∀ R : zSt → Prop, (∀ σ', ct σ0 σ' → cB D (zpar D co ch) σ' → cS (zpar D co ch) s σ' → cV (zpar D co ch) s σ' → R σ') → ∀ (j u f : Nat) (σ : zSt), u + j = 3 → j < f → ct σ0 σ → cB D (zpar D co ch) σ → cS (zpar D co ch) s σ → cVp (zpar D co ch) s u 0 σ → wX4_solve_L62 Q R (nI s) f (nI u) σ := by
    intro s hs1 hs R hR j
    induction j with
    | zero =>
      intro u f σ h1 h2 hc hB hS t
      obtain ⟨f, rfl⟩ : ∃ n', f = n' + 1 := ⟨f - 1, by omega⟩
      have : u = 3 := by omega
      subst this
      rw [wX4_solve_L62, if_pos (by decide)]
      refine hR σ hc hB hS (fun e u w q1 q2 q3 q4 q5 => ?_)
      by_cases c : e = s
      · subst c
        obtain ⟨k1, k2, k3⟩ := t.2 u w q4 q5 (by omega)
        exact ⟨k1, fun _ => ⟨k2, k3⟩⟩
      · exact t.1 e u w (by omega) q2 q3 q4 q5
    | succ j ih =>
      intro u f σ h1 h2 hc hB hS t
      obtain ⟨f, rfl⟩ : ∃ n', f = n' + 1 := ⟨f - 1, by omega⟩
      rw [wX4_solve_L62, if_neg (show ¬ (3 : Int32) ≤ nI u from nI_ge (b := 3) (by omega) (by omega))]
      refine p4_settleMinute hO hP hs1 hs (by omega) hB hS t _ (fun σ' hc' t' => ?_)
      rw [forall_eq, nI_1]
      exact ih (u + 1) f σ' (by omega) (by omega) (hc.tr (fun o ho => hc' o (by omega) (by omega) (by omega))) (hB.fr (fun o a b c _ _ => hc' o a b c)) (hS.fr (hc' 34 (by decide) (by decide) (by decide)) (hc' 35 (by decide) (by decide) (by decide))) t'
  have L51 : ∀ R : zSt → Prop, (∀ σ', ct σ0 σ' → cB D (zpar D co ch) σ' → cS (zpar D co ch) 1 σ' → cV (zpar D co ch) 1 σ' → R σ') → ∀ (j f : Nat) (σ : zSt), j ≤ 23 → j < f → ct σ0 σ → cB D (zpar D co ch) σ → cS (zpar D co ch) (j + 1) σ → cV (zpar D co ch) (j + 1) σ → wX4_solve_L51 Q R f (nI j) σ := by
    intro R hR j
    induction j with
    | zero =>
      intro f σ h1 h2 hc hB hS hV
      obtain ⟨f, rfl⟩ : ∃ n', f = n' + 1 := ⟨f - 1, by omega⟩
      rw [wX4_solve_L51, if_pos (by decide)]
      exact hR σ hc hB hS hV
    | succ j ih =>
      intro f σ h1 h2 hc hB hS hV
      obtain ⟨f, rfl⟩ : ∃ n', f = n' + 1 := ⟨f - 1, by omega⟩
      rw [wX4_solve_L51, if_neg (show ¬ nI (j + 1) ≤ (0 : Int32) from nI_nle (by omega) (by omega))]
      refine p4_comers (by omega) hB.1 hO hB.2.1 hS _ (fun σ1 q1 s1 => ?_)
      have v1 : cV (zpar D co ch) (j + 1 + 1) σ1 := fun e u w a b c d e' => by rw [q1 31 (by decide) (by decide), q1 32 (by decide) (by decide), q1 33 (by decide) (by decide)]; exact hV e u w a b c d e'
      refine L62 (j + 1) (by omega) (by omega) _ (fun σ2 c2 b2 s2 v2 => ?_) 3 0 300 σ1 (by omega) (by omega) (hc.tr (fun o ho => q1 o (by omega) (by omega))) (hB.fr (fun o _ _ _ a b => q1 o a b)) s1 ⟨v1, fun a b ha hv q => by omega⟩
      rw [forall_eq, zm1 (by omega), Nat.add_sub_cancel]
      exact ih f σ2 (by omega) (by omega) c2 b2 s2 v2
  unfold wX4_solve
  refine L2 _ (fun σ1 c1 h1 => ?_) 3 0 300 σ0 (by omega) (by omega) (fun _ _ => rfl) (fun a ha => by omega)
  rw [forall_eq, forall_eq]
  generalize hτ : zfill (zfill σ1 34 75 0) 35 75 0 = τ
  have t0 : ∀ o, o ≠ 34 → o ≠ 35 → τ.1 o = σ1.1 o := fun o a b => by rw [← hτ]; unfold zfill; rw [zrow_ne b, zrow_ne a]
  have t34 : ∀ k, k < 75 → τ.1 34 k = 0 := fun k hk => by rw [← hτ]; unfold zfill; rw [zrow_ne (by decide), zrow_at, if_pos hk]
  have t35 : ∀ k, k < 75 → τ.1 35 k = 0 := fun k hk => by rw [← hτ]; unfold zfill; rw [zrow_at, if_pos hk]
  clear hτ
  have cτ : ct σ0 τ := c1.tr (fun o ho => t0 o (by omega) (by omega))
  refine p4_close (tt cτ) hP.2.2.2.2 _ (fun σ2 c2 v2 => ?_)
  have cσ2 : ct σ0 σ2 := cτ.tr (fun o ho => c2 o (by omega) (by omega) (by omega))
  have hB2 : cB D (zpar D co ch) σ2 := ⟨dd cσ2, tt cσ2, fun b hb => by rw [c2 36 (by decide) (by decide) (by decide), t0 36 (by decide) (by decide)]; exact h1 b hb⟩
  have hS2 : cS (zpar D co ch) 24 σ2 := fun b e hb he => by
    rw [c2 34 (by decide) (by decide) (by decide), c2 35 (by decide) (by decide) (by decide), t34 _ (by omega), t35 _ (by omega)]
    have z1 : zy_sc (zpar D co ch) 24 b e = 0 := by
      unfold zy_sc
      rw [zsum_ext (g := fun _ => 0) 8 (fun i hi => by rw [if_neg (fun z => by have := z.2.1; have := hP.2.2.2.2 i hi; omega)])]
      exact zsum_0 (fun _ => rfl) 8
    have z2 : zy_sw (zpar D co ch) 24 b e = 0 := by
      apply Nat.eq_of_testBit_eq
      intro i
      rw [zy_sw_bit, Nat.zero_testBit]
      by_cases h4 : i < 4
      · have := hP.2.2.2.2 i (by omega)
        have n : ¬ 24 ≤ (zpar D co ch).2.2.1 i := by omega
        simp [n]
      · simp [h4]
    rw [z1, z2]
    exact ⟨rfl, rfl⟩
  refine L51 _ (fun σ3 c3 b3 s3 v3 => ?_) 23 300 σ2 (by omega) (by omega) cσ2 hB2 hS2 v2
  refine p4_comers (s := 0) (by omega) b3.1 hO b3.2.1 s3 _ (fun σ4 q4 s4 => ?_)
  have v4 : cV (zpar D co ch) 1 σ4 := fun e u w a b c d e' => by rw [q4 31 (by decide) (by decide), q4 32 (by decide) (by decide), q4 33 (by decide) (by decide)]; exact v3 e u w a b c d e'
  refine p4_settle0 hP rfl (b3.fr (fun o _ _ _ a b => q4 o a b)) s4 v4 _ (fun σ5 c5 g1 g2 g3 => ?_)
  try dsimp only
  rw [g1]
  exact hQ σ5 (fun o ho => by rw [c5.1 o (by omega) (by omega) (by omega), q4 o (by omega) (by omega)]; exact c3 o ho) (v4.cp c5 (by omega)) g2 g3
