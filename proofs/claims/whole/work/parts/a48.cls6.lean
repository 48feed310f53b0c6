/-! the row is laid -/
theorem p4_lay46 {x2 x3 x4 : Int32} {b s e : Nat} (he : e ≤ 24) (Q K : zSt → Prop) (σ0 : zSt) (hK : ∀ σ' : zSt, (∀ o, o ≠ 37 → σ'.1 o = σ0.1 o) → (∀ a, σ'.1 37 a = if s ≤ a ∧ a < e then nI b else σ0.1 37 a) → K σ') : ∀ (j m f : Nat) (σ : zSt), m + j = e → s ≤ m → j < f → (∀ o, o ≠ 37 → σ.1 o = σ0.1 o) → (∀ a, σ.1 37 a = if s ≤ a ∧ a < m then nI b else σ0.1 37 a) → wX4_layRow_L46 Q K x2 x3 x4 (nI b) (nI e) f (nI m) σ := by
  intro j
  induction j with
  | zero =>
    intro m f σ h1 h0 h2 hc t
    obtain ⟨f, rfl⟩ : ∃ n', f = n' + 1 := ⟨f - 1, by omega⟩
    have : m = e := by omega
    subst this
    rw [wX4_layRow_L46, if_pos (Int32.le_refl _)]
    exact hK σ hc t
  | succ j ih =>
    intro m f σ h1 h0 h2 hc t
    obtain ⟨f, rfl⟩ : ∃ n', f = n' + 1 := ⟨f - 1, by omega⟩
    rw [wX4_layRow_L46, if_neg (show ¬ nI e ≤ nI m from nI_ge (by omega) (by omega))]
    refine ⟨zin' (by omega) (by omega), ?_⟩
    rw [forall_eq, forall_eq, nI_1, zcl (by omega)]
    refine ih (m + 1) f _ (by omega) (by omega) (by omega) (fun o ho => by rw [zput_ne ho]; exact hc o ho) (fun a => ?_)
    rw [zput_at]
    by_cases q : a = m
    · rw [if_pos ⟨rfl, q⟩, if_pos (by omega)]
    · rw [if_neg (fun z => q z.2), t a]
      by_cases c : s ≤ a ∧ a < m
      · rw [if_pos c, if_pos (by omega)]
      · rw [if_neg c, if_neg (by omega)]
theorem p4_layRow {D : zD} (hO : zOk D) {co : Nat → Nat → Nat} {ch : Nat → Nat → Nat → Nat} (hP : zpk (zpar D co ch)) {σ0 : zSt} (hD : zDX 1 D σ0) (hV : cV (zpar D co ch) 1 σ0) (h32 : σ0.1 32 0 = nI (zfirst (zbeg (zpar D co ch)))) (h33 : σ0.1 33 0 = nI (zy_end (zpar D co ch) 0 0 (zfirst (zbeg (zpar D co ch))) 0)) (Q : zSt → Prop) (hQ : ∀ σ' : zSt, (∀ o, o ≠ 37 → σ'.1 o = σ0.1 o) → (∀ m, m < 24 → σ'.1 37 m = nI (zLr (zpar D co ch) m)) → Q σ') : wX4_layRow σ0 Q := by
  have L : ∀ (d s w h x K b f : Nat) (σ : zSt), s + d = 24 → d < f → x ≤ s → (∀ o, o ≠ 37 → σ.1 o = σ0.1 o) → (∀ m, m < s → σ.1 37 m = nI (zLr (zpar D co ch) m)) → (s < 24 → h < 1200 ∧ σ0.1 32 h = nI b ∧ σ0.1 33 h = nI (zy_end (zpar D co ch) K s b w) ∧ zy_bd (zpar D co ch) s b w) → wX4_layRow_L9 Q (fun σ115 => Q σ115) f (nI h) (nI s) (nI w) (nI x) σ := by
    intro d
    induction d using Nat.strongRecOn with
    | _ d ih =>
      intro s w h x K b f σ h1 h2 hx hc t hb
      obtain ⟨f, rfl⟩ : ∃ n', f = n' + 1 := ⟨f - 1, by omega⟩
      rw [wX4_layRow_L9]
      by_cases c : 24 ≤ s
      · have fin : Q σ := hQ σ hc (fun m hm => t m (by omega))
        rw [if_pos (show (24 : Int32) ≤ nI s from nI_le (a := 24) c (by omega))]
        split <;> exact fin
      · obtain ⟨k1, k2, k3, k4⟩ := hb (by omega)
        obtain ⟨s1, s2, s3⟩ := zy_span hP (K := K) k4 (by omega)
        rw [show zy_E (zy_G (zpar D co ch) K s b w) (zy_nx (zpar D co ch) s b w) b (24 - zy_e0 (zpar D co ch) s) = zy_end (zpar D co ch) K s b w from rfl] at s1 s2 s3
        generalize zy_end (zpar D co ch) K s b w = e at k3 s1 s2 s3
        have hp : vp_in (nI h) 1200 := zin' k1 (by omega)
        have b3 := k4.2.2
        have hw := k4.2.1
        have we := zy_v_we (P := zpar D co ch) (b := b) (e := e) hw (by omega)
        have wl := zy_v_lt we.1
        rw [if_neg (show ¬ (24 : Int32) ≤ nI x from nI_ge (b := 24) (by omega) (by omega)), if_neg (show ¬ (24 : Int32) ≤ nI s from nI_ge (b := 24) (by omega) (by omega)), zcl (by omega), hc 32 (by decide), hc 33 (by decide), k2, k3, if_neg (show ¬ (24 : Int32) < nI e from nI_nlt (a := 24) s1.2 (by omega))]
        refine ⟨hp, ?_⟩
        rw [forall_eq]
        refine ⟨hp, ?_⟩
        rw [forall_eq]
        refine p4_lay46 (s := s) s1.2 Q _ σ (fun σ1 c1 t1 => ?_) (e - s) s 300 σ (by omega) (by omega) (by omega) (fun _ _ => rfl) (fun a => by rw [if_neg (by omega)])
        have d1 : zDX 1 D σ1 := hD.fr (fun k hk => by rw [c1 _ (by omega), hc _ (by omega)])
        rw [show wX4_ships 0 24 (nI b) 1 σ1 = wX4_ships (nI 0) (nI 24) (nI b) (zci true) σ1 from rfl, p4_ships d1 hO (by omega) (by omega) b3, show wX4_ships (nI s) (nI e) (nI b) 0 σ1 = wX4_ships (nI s) (nI e) (nI b) (zci false) σ1 from rfl, p4_ships d1 hO (by omega) (by omega) b3, zy_sh_at hO co ch, forall_eq, zb_dif]
        have esw : zy_sh D s e b false = zy_sw (zpar D co ch) s b e := by
          unfold zy_sh zy_sw
          refine zmask_ext (fun i hi => ?_)
          show (zPr D i && decide (s ≤ D 2 i) && decide (D 2 i < e) && (zPa D i b == false)) = (zPr D i && decide (s ≤ D 2 i) && decide (D 2 i < e) && !zPa D i b)
          cases zPa D i b <;> simp
        rw [esw, zb_or, show (w &&& (w ^^^ zy_at (zpar D co ch) b)) ||| zy_sw (zpar D co ch) s b e = zy_we (zpar D co ch) s b w e from rfl, if_pos (show nI s < nI e from nI_lt s1.1 (by omega)), forall_eq, p4_place s1.2 b3 wl, forall_eq, nI_1]
        refine ih (24 - e) (by omega) e (zy_we (zpar D co ch) s b w e) _ (x + 1) (ch e b (zy_nx (zpar D co ch) s b w e)) (zy_nx (zpar D co ch) s b w e) f σ1 (by omega) (by omega) (by omega) (fun o ho => by rw [c1 o ho, hc o ho]) (fun m hm => ?_) (fun he => ?_)
        · rw [t1 m]
          by_cases q : s ≤ m ∧ m < e
          · rw [if_pos q]
            unfold zLr
            rw [s2 m q.1 q.2]
          · rw [if_neg q]
            exact t m (by omega)
        · have cv := hV e b (zy_we (zpar D co ch) s b w e) (by omega) (by omega) (by omega) b3 we
          exact ⟨by omega, (cv.2 he).1, (cv.2 he).2, s3 he⟩
  unfold wX4_layRow
  refine L 24 0 0 0 0 0 (zfirst (zbeg (zpar D co ch))) 300 σ0 (by omega) (by omega) (by omega) (fun _ _ => rfl) (fun m hm => by omega) (fun _ => ⟨by omega, h32, h33, ?_, fun i hi => absurd hi (by simp), zfirst_lt _⟩)
  rw [zcan_0, zwalk]
/-! prices -/
theorem zpk_of {D : zD} (hO : zOk D) {co : Nat → Nat → Nat} {ch : Nat → Nat → Nat → Nat} (h1 : ∀ i m, co i m ≤ 1000000) (h2 : ∀ m u b, ch m u b ≤ 99) : zpk (zpar D co ch) := by
  refine ⟨fun i b c h4 hb hc => ?_, hO.2.2.2.2.2.2.1, h1, h2, fun i hi => (hO.2.1 i hi).2.1⟩
  have hb : zPa D i b = false := hb
  show zPa D i c = true
  have i4 : ¬ i < 4 := by omega
  unfold zPa at hb ⊢
  simp only [i4, decide_false] at hb ⊢
  by_cases q : D 1 i = b
  · have : ¬ D 1 i = c := fun z => hc (by omega)
    simp [this]
  · simp [q] at hb
def cO (A : zA) (i m : Nat) (σ : zSt) : Prop := ∀ a b, a < 8 → b ≤ 24 → zPr A.1 a = true → A.1 2 a ≤ b → (a < i ∨ (a = i ∧ b < m)) → σ.1 29 (a * 25 + b) = nI (zcost A.1 A.2.2.2.1.2 a b)
theorem p4_price1 {A : zA} (Q K : zSt → Prop) (hK : ∀ σ', RX A σ' → cO A 8 0 σ' → K σ') : ∀ (j i f : Nat) (σ : zSt), i + j = 8 → j < f → RX A σ → cO A i 0 σ → wX4_priceByRule_L2 Q K f (nI i) σ := by
  have LI : ∀ (i : Nat), i < 8 → ∀ R : zSt → Prop, (∀ σ', RX A σ' → cO A (i + 1) 0 σ' → R σ') → ∀ (j m f : Nat) (σ : zSt), m + j = 25 → j < f → RX A σ → cO A i m σ → wX4_priceByRule_L22 Q R (nI i) f (nI m) σ := by
    intro i h8 R hR j
    induction j with
    | zero =>
      intro m f σ h1 h2 h t
      obtain ⟨f, rfl⟩ : ∃ n', f = n' + 1 := ⟨f - 1, by omega⟩
      have : m = 25 := by omega
      subst this
      rw [wX4_priceByRule_L22, if_pos (by decide)]
      exact hR σ h (fun a b q1 q2 q3 q4 q5 => t a b q1 q2 q3 q4 (by omega))
    | succ j ih =>
      intro m f σ h1 h2 h t
      obtain ⟨f, rfl⟩ : ∃ n', f = n' + 1 := ⟨f - 1, by omega⟩
      rw [wX4_priceByRule_L22, if_neg (show ¬ (24 : Int32) < nI m from nI_nlt (a := 24) (by omega) (by omega)), p1_isThere h.2.1 h.1.1 h8]
      by_cases c : zPr A.1 i = true
      · rw [if_pos c, if_neg (by decide)]
        refine x_ofOne h h8 (by omega) _ (fun σ1 h1' e1 => ?_)
        rw [show nI i * (25 : Int32) + nI m = nI (i * 25 + m) from by rw [show (25 : Int32) = nI 25 from rfl, pk_mul, nI_add], zcl (by omega)]
        refine ⟨zin' (by omega) (by omega), ?_⟩
        rw [forall_eq, forall_eq, nI_1]
        refine ih (m + 1) f _ (by omega) (by omega) (h1'.keep (fun o ho => zput_ne (by omega))) (fun a b q1 q2 q3 q4 q5 => ?_)
        rw [zput_at]
        by_cases q : a = i ∧ b = m
        · rw [if_pos ⟨rfl, by omega⟩, q.1, q.2]
        · rw [if_neg (by omega), e1 29 (by decide) (by decide) (by decide)]
          exact t a b q1 q2 q3 q4 (by omega)
      · rw [if_neg c, if_pos rfl]
        refine hR σ h (fun a b q1 q2 q3 q4 q5 => t a b q1 q2 q3 q4 ?_)
        by_cases q : a = i
        · subst q; exact absurd q3 c
        · omega
  intro j
  induction j with
  | zero =>
    intro i f σ h1 h2 h t
    obtain ⟨f, rfl⟩ : ∃ n', f = n' + 1 := ⟨f - 1, by omega⟩
    have : i = 8 := by omega
    subst this
    rw [wX4_priceByRule_L2, if_pos (by decide)]
    exact hK σ h t
  | succ j ih =>
    intro i f σ h1 h2 h t
    obtain ⟨f, rfl⟩ : ∃ n', f = n' + 1 := ⟨f - 1, by omega⟩
    have h8 : i < 8 := by omega
    have o := (h.1.1.2.1 i h8).2.1
    rw [wX4_priceByRule_L2, if_neg (show ¬ (8 : Int32) ≤ nI i from nI_ge (b := 8) h8 (by omega)), zcl (by omega), show σ.1 5 i = nI (A.1 2 i) from (h.2.1.2.1 i h8).2.1, if_neg (nI_pos (by omega))]
    refine ⟨zin' h8 (by omega), ?_⟩
    rw [forall_eq]
    refine LI i h8 _ (fun σ' h' t' => ?_) (25 - A.1 2 i) (A.1 2 i) 300 σ (by omega) (by omega) h (fun a b q1 q2 q3 q4 q5 => ?_)
    · rw [forall_eq, nI_1]
      exact ih (i + 1) f σ' (by omega) (by omega) h' t'
    · refine t a b q1 q2 q3 q4 ?_
      by_cases q : a = i
      · subst q; omega
      · omega
theorem zidx {m u b m' u' b' : Nat} (h1 : u < 3) (h2 : b < 3) (h3 : u' < 3) (h4 : b' < 3) (h : (m' * 3 + u') * 3 + b' = (m * 3 + u) * 3 + b) : m' = m ∧ u' = u ∧ b' = b := by
  have e1 : b' = b := by omega
  have e2 : m' * 3 + u' = m * 3 + u := by omega
  have e3 : u' = u := by omega
  exact ⟨by omega, e3, e1⟩
def cG (A : zA) (cd : Nat) (σ : zSt) : Prop := ∀ m u b, 1 ≤ m → m < 24 → u < 3 → b < 3 → u ≠ b → (m * 3 + u) * 3 + b < cd → σ.1 30 ((m * 3 + u) * 3 + b) = nI (zchg A.1 A.2.2.2.1.2 m u b)
theorem p4_price2 {A : zA} (Q K : zSt → Prop) (hK : ∀ σ', RX A σ' → cO A 8 0 σ' → cG A 216 σ' → K σ') : ∀ (j m f : Nat) (σ : zSt), m + j = 24 → 1 ≤ m → j < f → RX A σ → cO A 8 0 σ → cG A (m * 9) σ → wX4_priceByRule_L73 Q K f (nI m) σ := by
  have LB : ∀ (m u : Nat), 1 ≤ m → m < 24 → u < 3 → ∀ R : zSt → Prop, (∀ σ', RX A σ' → cO A 8 0 σ' → cG A ((m * 3 + u + 1) * 3) σ' → R σ') → ∀ (j b f : Nat) (σ : zSt), b + j = 3 → j < f → RX A σ → cO A 8 0 σ → cG A ((m * 3 + u) * 3 + b) σ → wX4_priceByRule_L88 Q R (nI m) (nI u) f (nI b) σ := by
    intro m u hm1 hm hu R hR j
    induction j with
    | zero =>
      intro b f σ h1 h2 h o t
      obtain ⟨f, rfl⟩ : ∃ n', f = n' + 1 := ⟨f - 1, by omega⟩
      have : b = 3 := by omega
      subst this
      rw [wX4_priceByRule_L88, if_pos (by decide)]
      exact hR σ h o (fun m' u' b' q1 q2 q3 q4 q5 q6 => t m' u' b' q1 q2 q3 q4 q5 (by omega))
    | succ j ih =>
      intro b f σ h1 h2 h o t
      obtain ⟨f, rfl⟩ : ∃ n', f = n' + 1 := ⟨f - 1, by omega⟩
      have hv : vp_in (nI ((m * 3 + u) * 3 + b)) 216 := zin' (by omega) (by omega)
      have ei : (nI m * (3 : Int32) + nI u) * 3 + nI b = nI ((m * 3 + u) * 3 + b) := by rw [show (3 : Int32) = nI 3 from rfl, pk_mul, nI_add, pk_mul, nI_add]
      rw [wX4_priceByRule_L88, if_neg (show ¬ (3 : Int32) ≤ nI b from nI_ge (b := 3) (by omega) (by omega)), ei, zcl (by omega)]
      by_cases c : u = b
      · rw [if_pos (show nI u = nI b by rw [c])]
        refine ⟨hv, ?_⟩
        rw [forall_eq, forall_eq, nI_1]
        refine ih (b + 1) f _ (by omega) (by omega) (h.keep (fun o ho => zput_ne (by omega))) (fun a b q1 q2 q3 q4 q5 => by rw [zput_ne (by decide)]; exact o a b q1 q2 q3 q4 q5) (fun m' u' b' q1 q2 q3 q4 q5 q6 => ?_)
        have ne : ¬ ((m' * 3 + u') * 3 + b' = (m * 3 + u) * 3 + b) := fun z => by
          obtain ⟨_, z2, z3⟩ := zidx hu (show b < 3 by omega) q3 q4 z
          omega
        rw [zput_at, if_neg (fun z => ne z.2)]
        exact t m' u' b' q1 q2 q3 q4 q5 (by omega)
      · rw [if_neg (show ¬ nI u = nI b from fun z => c ((nI_eq (by omega) (by omega)).mp z))]
        refine x_ofChange h hm hu (by omega) _ (fun σ1 h1' e1 => ?_)
        refine ⟨hv, ?_⟩
        rw [forall_eq, forall_eq, nI_1]
        refine ih (b + 1) f _ (by omega) (by omega) (h1'.keep (fun o ho => zput_ne (by omega))) (fun a b q1 q2 q3 q4 q5 => by rw [zput_ne (by decide), e1 29 (by decide) (by decide) (by decide)]; exact o a b q1 q2 q3 q4 q5) (fun m' u' b' q1 q2 q3 q4 q5 q6 => ?_)
        rw [zput_at]
        by_cases q : m' = m ∧ u' = u ∧ b' = b
        · obtain ⟨rfl, rfl, rfl⟩ := q
          rw [if_pos ⟨rfl, rfl⟩]
        · have ne : ¬ ((m' * 3 + u') * 3 + b' = (m * 3 + u) * 3 + b) := fun z => q (zidx hu (show b < 3 by omega) q3 q4 z)
          rw [if_neg (fun z => ne z.2), e1 30 (by decide) (by decide) (by decide)]
          exact t m' u' b' q1 q2 q3 q4 q5 (by omega)
  have LU : ∀ (m : Nat), 1 ≤ m → m < 24 → ∀ R : zSt → Prop, (∀ σ', RX A σ' → cO A 8 0 σ' → cG A ((m + 1) * 9) σ' → R σ') → ∀ (j u f : Nat) (σ : zSt), u + j = 3 → j < f → RX A σ → cO A 8 0 σ → cG A ((m * 3 + u) * 3) σ → wX4_priceByRule_L81 Q R (nI m) f (nI u) σ := by
    intro m hm1 hm R hR j
    induction j with
    | zero =>
      intro u f σ h1 h2 h o t
      obtain ⟨f, rfl⟩ : ∃ n', f = n' + 1 := ⟨f - 1, by omega⟩
      have : u = 3 := by omega
      subst this
      rw [wX4_priceByRule_L81, if_pos (by decide)]
      exact hR σ h o (fun m' u' b' q1 q2 q3 q4 q5 q6 => t m' u' b' q1 q2 q3 q4 q5 (by omega))
    | succ j ih =>
      intro u f σ h1 h2 h o t
      obtain ⟨f, rfl⟩ : ∃ n', f = n' + 1 := ⟨f - 1, by omega⟩
      rw [wX4_priceByRule_L81, if_neg (show ¬ (3 : Int32) ≤ nI u from nI_ge (b := 3) (by omega) (by omega))]
      refine LB m u hm1 hm (by omega) _ (fun σ' h' o' t' => ?_) 3 0 300 σ (by omega) (by omega) h o t
      rw [forall_eq, nI_1]
      exact ih (u + 1) f σ' (by omega) (by omega) h' o' t'
  intro j
  induction j with
  | zero =>
    intro m f σ h1 h0 h2 h o t
    obtain ⟨f, rfl⟩ : ∃ n', f = n' + 1 := ⟨f - 1, by omega⟩
    have : m = 24 := by omega
    subst this
    rw [wX4_priceByRule_L73, if_pos (by decide)]
    exact hK σ h o t
  | succ j ih =>
    intro m f σ h1 h0 h2 h o t
    obtain ⟨f, rfl⟩ : ∃ n', f = n' + 1 := ⟨f - 1, by omega⟩
    rw [wX4_priceByRule_L73, if_neg (show ¬ (24 : Int32) ≤ nI m from nI_ge (b := 24) (by omega) (by omega))]
    refine LU m h0 (by omega) _ (fun σ' h' o' t' => ?_) 3 0 300 σ (by omega) (by omega) h o (fun m' u' b' q1 q2 q3 q4 q5 q6 => t m' u' b' q1 q2 q3 q4 q5 (by omega))
    rw [forall_eq, nI_1]
    exact ih (m + 1) f σ' (by omega) (by omega) (by omega) h' o' t'
theorem p4_byRule {A : zA} {σ : zSt} (h : RX A σ) (Q : zSt → Prop) (hQ : ∀ σ', RX A σ' → cT (zPm A) σ' → Q σ') : wX4_priceByRule σ Q := by
  unfold wX4_priceByRule
  refine p4_price1 Q _ (fun σ1 h1 o1 => ?_) 8 0 300 σ (by omega) (by omega) h (fun a b q1 q2 q3 q4 q5 => by omega)
  refine p4_price2 Q _ (fun σ2 h2 o2 g2 => ?_) 23 1 300 σ1 (by omega) (by omega) (by omega) h1 o1 (fun m u b q1 q2 q3 q4 q5 q6 => by omega)
  exact hQ σ2 h2 ⟨fun i m a b c d => o2 i m a b c d (by omega), fun m u b p q r s t => g2 m u b p q r s t (by omega)⟩
theorem p4_alone {D : zD} {σ : zSt} (Q : zSt → Prop) (hQ : ∀ σ' : zSt, (∀ o, o ≠ 29 → o ≠ 30 → σ'.1 o = σ.1 o) → cT (zparF D) σ' → Q σ') : wX4_priceChangesAlone σ Q := by
  have L : ∀ (j i f : Nat) (σ1 : zSt), i + j = 8 → j < f → (∀ o, o ≠ 29 → σ1.1 o = σ.1 o) → (∀ a m, a < 8 → m ≤ 24 → σ1.1 29 (a * 25 + m) = if m = 24 ∧ a < i then 1000000 else 0) → wX4_priceChangesAlone_L10 Q (fun σ104 => ∀ σ105 : zSt, σ105 = zfill σ104 30 216 1 → (Q σ105)) f (nI i) σ1 := by
    intro j
    induction j with
    | zero =>
      intro i f σ1 h1 h2 e t
      obtain ⟨f, rfl⟩ : ∃ n', f = n' + 1 := ⟨f - 1, by omega⟩
      have : i = 8 := by omega
      subst this
      rw [wX4_priceChangesAlone_L10, if_pos (by decide), forall_eq]
      refine hQ _ (fun o a b => by unfold zfill; rw [zrow_ne b]; exact e o a) ⟨fun a m q1 q2 q3 q4 => ?_, fun m u b q1 q2 q3 q4 q5 => ?_⟩
      · unfold zfill
        rw [zrow_ne (by decide), t a m q1 q2]
        show _ = nI (if m = 24 then 1000000 else 0)
        by_cases c : m = 24
        · rw [if_pos ⟨c, q1⟩, if_pos c]; rfl
        · rw [if_neg (fun z => c z.1), if_neg c]; rfl
      · unfold zfill
        rw [zrow_at, if_pos (by omega)]
        rfl
    | succ j ih =>
      intro i f σ1 h1 h2 e t
      obtain ⟨f, rfl⟩ : ∃ n', f = n' + 1 := ⟨f - 1, by omega⟩
      rw [wX4_priceChangesAlone_L10, if_neg (show ¬ (8 : Int32) ≤ nI i from nI_ge (b := 8) (by omega) (by omega)), show nI i * (25 : Int32) + 24 = nI (i * 25 + 24) from by rw [show (25 : Int32) = nI 25 from rfl, show (24 : Int32) = nI 24 from rfl, pk_mul, nI_add], zcl (by omega)]
      refine ⟨zin' (by omega) (by omega), ?_⟩
      rw [forall_eq, forall_eq, nI_1]
      refine ih (i + 1) f _ (by omega) (by omega) (fun o ho => by rw [zput_ne ho]; exact e o ho) (fun a m q1 q2 => ?_)
      rw [zput_at]
      by_cases c : a = i ∧ m = 24
      · rw [if_pos ⟨rfl, by omega⟩, if_pos (by omega)]
      · rw [if_neg (by omega), t a m q1 q2]
        by_cases c2 : m = 24 ∧ a < i
        · rw [if_pos c2, if_pos (by omega)]
        · rw [if_neg c2, if_neg (by omega)]
  unfold wX4_priceChangesAlone
  rw [forall_eq]
  refine L 8 0 300 _ (by omega) (by omega) (fun o ho => by unfold zfill; rw [zrow_ne ho]) (fun a m q1 q2 => ?_)
  unfold zfill
  rw [zrow_at, if_pos (by omega), if_neg (by omega)]
theorem RX.se {A : zA} {σ σ' : zSt} (h : RX A σ) (e : ∀ o, o ≤ 18 ∨ o = 25 ∨ 43 ≤ o → σ'.1 o = σ.1 o) (hs : xSe A.1 A.2.2.2.1.2 σ') : RX A σ' := by
  obtain ⟨h0, h1, h2, h3, h4, h5, h6, h7⟩ := h
  exact ⟨h0, h1.fr (fun k hk => e _ (by omega)), h2.fr (by rw [e 0 (by omega)]) (fun k hk => e _ (by omega)), h3.fr (by rw [e 0 (by omega)]) (e _ (by omega)), h4.fr (by rw [e 0 (by omega)]) (fun i hi => e _ (by omega)) (fun i hi => e _ (by omega)) h0.2.2.2.1.2.1, h5.fr (fun s hs => e _ (by omega)) (fun s hs => e _ (by omega)), h6.fr (e _ (by omega)), hs⟩
theorem x_findLeast {A : zA} {σ : zSt} (h : RX A σ) (Q : zSt → Prop) (hQ : ∀ σ', RX A σ' → σ'.1 28 11 = nI (zLc (zPm A)) → zIsRow 37 (zLr (zPm A)) σ' → Q σ') : wX4_findLeast σ Q := by
  have hP : zpk (zPm A) := zpk_of h.1.1 (fun i m => Nat.le_trans (zclamp_le _) (by omega)) (fun m u b => zclamp_le _)
  unfold wX4_findLeast
  by_cases c : σ.1 28 11 = -2
  · rw [if_pos c]
    refine p4_byRule h _ (fun σ1 h1 t1 => ?_)
    refine p4_solve h.1.1 hP h1.2.1 t1 _ (fun σ2 c2 v2 g2 g3 => ?_)
    rw [forall_eq]
    have f2 : ∀ (v : Int32) (o : Nat), o ≠ 28 → (zput σ2 28 11 v).1 o = σ2.1 o := fun v o ho => zput_ne ho
    refine p4_layRow h.1.1 hP (h1.2.1.fr (fun k hk => by rw [f2 _ _ (by omega), c2 _ (by omega)])) (fun e u w a b c d e' => by rw [f2 _ 31 (by decide), f2 _ 32 (by decide), f2 _ 33 (by decide)]; exact v2 e u w a b c d e') (by rw [f2 _ 32 (by decide)]; exact g2) (by rw [f2 _ 33 (by decide)]; exact g3) _ (fun σ3 c3 r3 => ?_)
    have e11 : σ3.1 28 11 = nI (zLc (zPm A)) := by rw [c3 28 (by decide), zput_at, if_pos ⟨rfl, rfl⟩]; rfl
    refine hQ σ3 (h1.se (fun o ho => by rw [c3 o (by omega), f2 _ o (by omega), c2 o (by omega)]) ⟨Or.inr ⟨e11, r3⟩, ?_⟩) e11 (fun m hm => ⟨r3 m hm, (zwk_walk A m hm).2⟩)
    rw [c3 28 (by decide), zput_at, if_neg (by decide), c2 28 (by omega)]
    exact h1.2.2.2.2.2.2.2.2
  · rw [if_neg c]
    rcases h.2.2.2.2.2.2.2.1 with q | q
    · exact absurd q c
    · exact hQ σ h q.1 (fun m hm => ⟨q.2 m hm, (zwk_walk A m hm).2⟩)
theorem x_least {A : zA} {σ : zSt} (h : RX A σ) (w : Int32) (Q : Int32 → zSt → Prop) (hQ : ∀ σ', RX (s_least A w).2 σ' → Q (s_least A w).1 σ') : wX7_least w σ Q := by
  unfold wX7_least
  unfold s_least at hQ
  dsimp only at hQ
  by_cases c1 : zr w 26 = true
  rotate_left
  · rw [if_neg c1] at hQ
    by_cases q : w < 0
    · rw [if_pos q]; exact hQ σ h
    · rw [if_neg q, if_neg]
      · exact hQ σ h
      · intro z
        rcases zr_neg c1 with y | y
        · exact q y
        · rw [Int32.le_iff_toInt_le, nI_toInt (by omega)] at y
          rw [Int32.le_iff_toInt_le, show (25 : Int32).toInt = 25 from by decide] at z
          omega
  rw [if_pos c1] at hQ
  obtain ⟨w, hw, rfl⟩ := zr_of (by omega) c1
  rw [zcl (by omega)] at hQ
  rw [if_neg (nI_pos (by omega)), if_pos (show nI w ≤ (25 : Int32) from nI_le (b := 25) (by omega) (by omega))]
  refine x_findLeast h _ (fun σ1 h1 e1 r1 => ?_)
  have hq := hQ σ1 h1
  by_cases w0 : w = 0
  · rw [if_pos (show nI w = (0 : Int32) by rw [w0]; rfl)] at hq ⊢
    rw [e1]
    exact hq
  have w0' : ¬ nI w = (0 : Int32) := nI_ne0 (by omega) (by omega)
  rw [if_neg w0'] at hq ⊢
  by_cases w1 : w = 1
  · rw [if_pos (show nI w = (1 : Int32) by rw [w1]; rfl)] at hq ⊢
    rw [p7_changes_37 r1]
    exact hq
  have w1' : ¬ nI w = (1 : Int32) := fun z => w1 ((nI_eq (b := 1) (by omega) (by omega)).mp z)
  rw [if_neg w1'] at hq ⊢
  rw [show nI w - 2 = nI (w - 2) from pk_sub (b := 2) (by omega), zcl (by omega), (r1 (w - 2) (by omega)).1]
  exact ⟨zin' (by omega) (by omega), hq⟩
theorem x_lay {A : zA} {σ : zSt} (h : RX A σ) (Q : Int32 → zSt → Prop) (hQ : ∀ σ', RX (s_lay A).2 σ' → Q (s_lay A).1 σ') : wX7_lay σ Q := by
  unfold wX7_lay
  refine x_findLeast h _ (fun σ1 h1 e1 r1 => ?_)
  rw [forall_eq]
  have hr2 : zIsRow 2 (zLr (zPm A)) (zcopy σ1 37 0 2 0 24) := fun m hm => by
    rw [zcopy_at, if_pos ⟨rfl, hm⟩]
    exact r1 m hm
  have h2 := h1.setRow (σ' := zcopy σ1 37 0 2 0 24) (fun o ho => by unfold zcopy; rw [zrow_ne ho]) hr2
  rw [show (zcopy σ1 37 0 2 0 24).1 28 = σ1.1 28 from by unfold zcopy; rw [zrow_ne (by decide)], e1]
  exact hQ _ h2
theorem x_fewest {A : zA} {σ : zSt} (h : RX A σ) (Q : Int32 → zSt → Prop) (hQ : ∀ σ', RX (s_fewest A).2 σ' → Q (s_fewest A).1 σ') : wX7_fewest σ Q := by
  have hP : zpk (zparF A.1) := zpk_of h.1.1 (fun i m => by show (if m = 24 then 1000000 else 0) ≤ 1000000; split <;> omega) (fun m u b => by show 1 ≤ 99; omega)
  have bL : zLc (zparF A.1) ≤ 16000000 := by
    have l : zLc (zparF A.1) ≤ zbeg (zparF A.1) 0 := (zmin3_le _ _ _).1
    have h1 := zV_le hP 23 (znow (zparF A.1) 0 0 0) 0 1 (by omega)
    have h2 := zcx_le (zparF A.1) (znow (zparF A.1) 0 0 0)
    have h3 := zcby_b hP 0 0 (znow (zparF A.1) 0 0 0)
    unfold zbeg at l
    omega
  unfold wX7_fewest wX4_fewestChanges
  unfold s_fewest at hQ
  dsimp only at hQ ⊢
  by_cases c : σ.1 28 12 = -2
  · rw [if_pos c]
    refine p4_alone (D := A.1) _ (fun σ1 e1 t1 => ?_)
    have h1 : RX A σ1 := h.keep (fun o ho => e1 o (by omega) (by omega))
    refine p4_solve h.1.1 hP h1.2.1 t1 _ (fun σ2 c2 v2 g2 g3 => ?_)
    have fin : ∀ x : Int32, x = zfew A.1 → Q ((zput σ2 28 12 x).1 28 12) (zput σ2 28 12 x) := fun x hx => by
      rw [zput_at, if_pos ⟨rfl, rfl⟩, hx]
      refine hQ _ (h1.se (fun o ho => by rw [zput_ne (by omega), c2 o (by omega)]) ⟨?_, Or.inr (by rw [zput_at, if_pos ⟨rfl, rfl⟩])⟩)
      rw [zput_at, if_neg (by decide), zput_ne (by decide), c2 28 (by omega), c2 37 (by omega)]
      exact h1.2.2.2.2.2.2.2.1
    unfold zfew at fin
    by_cases q : zLc (zparF A.1) < 1000000
    · rw [if_pos q] at fin
      rw [if_neg (show ¬ (1000000 : Int32) ≤ nI (zLc (zpar A.1 _ _)) from nI_ge (b := 1000000) q (by omega)), forall_eq]
      exact fin _ rfl
    · rw [if_neg q] at fin
      rw [if_pos (show (1000000 : Int32) ≤ nI (zLc (zpar A.1 _ _)) from nI_le (a := 1000000) (show 1000000 ≤ zLc (zparF A.1) by omega) (show zLc (zparF A.1) < 2 ^ 31 by omega)), forall_eq]
      exact fin _ rfl
  · rw [if_neg c]
    rcases h.2.2.2.2.2.2.2.2 with q | q
    · exact absurd q c
    · rw [q]; exact hQ σ h
