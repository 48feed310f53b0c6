/-! the first of the least -/
def zbst (f : Nat → Nat) : Nat → Nat × Nat
  | 0 => (znev, 0)
  | b + 1 => if (zbst f b).1 ≤ f b then zbst f b else (f b, b)
theorem zbst_3 (f : Nat → Nat) : (zbst f 3).1 = zlow (zlow (zlow znev (f 0)) (f 1)) (f 2) ∧ ((zbst f 3).1 < znev → (zbst f 3).2 = zfirst f ∧ f (zfirst f) = (zbst f 3).1) := by
  simp only [zbst, zlow, zfirst]
  by_cases c0 : znev ≤ f 0 <;> by_cases c1 : znev ≤ f 1 <;> by_cases c2 : znev ≤ f 2 <;> by_cases d1 : f 0 ≤ f 1 <;> by_cases d2 : f 0 ≤ f 2 <;> by_cases d3 : f 1 ≤ f 2 <;> simp [c0, c1, c2, d1, d2, d3] <;> omega
theorem zbst_le (f : Nat → Nat) : ∀ b, (zbst f b).1 ≤ znev ∧ (zbst f b).2 < b + 1 := by
  intro b
  induction b with
  | zero => exact ⟨Nat.le_refl _, Nat.lt_succ_self 0⟩
  | succ b ih =>
    rw [zbst]
    split
    · exact ⟨ih.1, by omega⟩
    · exact ⟨by omega, by show b < _; omega⟩
theorem zfirst_lt (f : Nat → Nat) : zfirst f < 3 := by unfold zfirst; split <;> (try split) <;> omega
def zWf (c : Bool) (P : zP) (b : Nat) : Nat := zwl c P (zW c P 23) 0 0 b 1
def zWm (c : Bool) (P : zP) : Nat := (zbst (zWf c P) 3).1
def zwkW (c : Bool) (P : zP) : Nat → Nat × Nat × Nat
  | 0 => (znow P 0 (zfirst (zWf c P)) 0, zfirst (zWf c P), 1)
  | m + 1 => (znow P (m + 1) (zfirst (zwst c P (zW c P (22 - m)) (m + 1) (zwkW c P m).1 (zwkW c P m).2.1 (zwkW c P m).2.2)) (zwkW c P m).1, zfirst (zwst c P (zW c P (22 - m)) (m + 1) (zwkW c P m).1 (zwkW c P m).2.1 (zwkW c P m).2.2), if zfirst (zwst c P (zW c P (22 - m)) (m + 1) (zwkW c P m).1 (zwkW c P m).2.1 (zwkW c P m).2.2) = (zwkW c P m).2.1 then (if (zwkW c P m).2.2 < P.2.2.2.2.2 then (zwkW c P m).2.2 + 1 else P.2.2.2.2.2) else 1)
theorem zwkW_0 (c : Bool) (P : zP) : zwkW c P 0 = (znow P 0 (zfirst (zWf c P)) 0, zfirst (zWf c P), 1) := by rw [zwkW]
theorem zwl_fin {c : Bool} {P : zP} {V : Nat → Nat → Nat → Nat} {m n b held : Nat} (h : zwl c P V m n b held < znev) : V (znow P m b n) b held < znev := by
  unfold zwl at h
  split at h
  · assumption
  · omega
theorem zwst_fin {c : Bool} {P : zP} {V : Nat → Nat → Nat → Nat} {m n u held b : Nat} (h : zwst c P V m n u held b < znev) : V (znow P m b n) b (if b = u then (if held < P.2.2.2.2.2 then held + 1 else P.2.2.2.2.2) else 1) < znev := by
  unfold zwst at h
  by_cases c1 : b = u
  · rw [if_pos c1] at h
    rw [if_pos c1]
    exact zwl_fin h
  · rw [if_neg c1] at h
    rw [if_neg c1]
    split at h
    · omega
    · split at h
      · exact zwl_fin (by assumption)
      · omega
theorem zW_first {c : Bool} {P : zP} {k n u held : Nat} (h : zW c P (k + 1) n u held < znev) : (zbst (zwst c P (zW c P k) (23 - k) n u held) 3).1 < znev ∧ (zbst (zwst c P (zW c P k) (23 - k) n u held) 3).2 = zfirst (zwst c P (zW c P k) (23 - k) n u held) ∧ zwst c P (zW c P k) (23 - k) n u held (zfirst (zwst c P (zW c P k) (23 - k) n u held)) < znev := by
  have b3 := zbst_3 (zwst c P (zW c P k) (23 - k) n u held)
  have e : (zbst (zwst c P (zW c P k) (23 - k) n u held) 3).1 < znev := by rw [b3.1]; exact h
  exact ⟨e, (b3.2 e).1, by rw [(b3.2 e).2]; exact e⟩
theorem zwkW_ok {A : zA} (hi : zI A) {c : Bool} (h0 : zWm c (zPm A) < znev) : ∀ m, m < 24 → zsbs (zPm A) (zwkW c (zPm A) m).1 ∧ (zwkW c (zPm A) m).2.1 < 3 ∧ (1 ≤ (zwkW c (zPm A) m).2.2 ∧ (zwkW c (zPm A) m).2.2 ≤ A.1 6 3) ∧ zW c (zPm A) (23 - m) (zwkW c (zPm A) m).1 (zwkW c (zPm A) m).2.1 (zwkW c (zPm A) m).2.2 < znev := by
  have hh := hi.1.2.2.2.2.2.2.1
  have eP : (zPm A).2.2.2.2.2 = A.1 6 3 := rfl
  intro m
  induction m with
  | zero =>
    intro _
    have b3 := (zbst_3 (zWf c (zPm A))).2 h0
    rw [zwkW_0]
    dsimp only
    refine ⟨znow_sub (fun i hi => absurd hi (by simp)) _ _, zfirst_lt _, ⟨Nat.le_refl _, hh.1⟩, ?_⟩
    have := zwl_fin (c := c) (P := zPm A) (V := zW c (zPm A) 23) (m := 0) (n := 0) (b := zfirst (zWf c (zPm A))) (held := 1) (by
      show zWf c (zPm A) (zfirst (zWf c (zPm A))) < znev
      rw [b3.2]; exact h0)
    exact this
  | succ m ih =>
    intro hm
    obtain ⟨i1, i2, i3, i4⟩ := ih (by omega)
    rw [show 23 - m = (22 - m) + 1 by omega] at i4
    obtain ⟨f1, f2, f3⟩ := zW_first i4
    rw [show 23 - (22 - m) = m + 1 by omega] at f1 f2 f3
    refine ⟨znow_sub i1 _ _, zfirst_lt _, ?_, ?_⟩
    · rw [zwkW]
      dsimp only
      rw [eP]
      split
      · split <;> omega
      · omega
    · have := zwst_fin f3
      rw [show 23 - (m + 1) = 22 - m by omega, zwkW]
      exact this
theorem tG.row {A : zA} {c : Bool} {k : Nat} {σ : zSt} (h : tG A c k σ) (j : Nat) (v : Int32) : tG A c k (zput σ 10 j v) := by
  obtain ⟨h1, h2, h3, h4⟩ := h
  exact ⟨zmt.keep h1 (zmt.put σ _ (by omega)), fun a b ha hb => by rw [zput_ne (by decide)]; exact h2 a b ha hb, fun a u b q1 q2 q3 q4 q5 => by rw [zput_ne (by decide)]; exact h3 a u b q1 q2 q3 q4 q5, fun a ha n b held q1 q2 q3 q4 => by rw [zput_ne (by decide)]; exact h4 a ha n b held q1 q2 q3 q4⟩
theorem p8_l17 {A : zA} (hi : zI A) {c : Bool} (x3 x4 : Int32) (Q K : Int32 → zSt → Prop) (hK : ∀ σ', tG A c 23 σ' → (zWm c (zPm A) < znev → σ'.1 10 0 = nI (zwkW c (zPm A) 0).2.1) → K (nI (zWm c (zPm A))) σ') : ∀ (j b f : Nat) (σ : zSt), b + j = 3 → j < f → tG A c 23 σ → ((zbst (zWf c (zPm A)) b).1 < znev → σ.1 10 0 = nI (zbst (zWf c (zPm A)) b).2) → wX8_leastRow_L17 Q K (zci c) x3 x4 f (nI (zbst (zWf c (zPm A)) b).1) (nI b) σ := by
  have hnev : znev = 99999999 := rfl
  have hh := hi.1.2.2.2.2.2.2.1
  intro j
  induction j with
  | zero =>
    intro b f σ h1 h2 h r
    obtain ⟨f, rfl⟩ : ∃ n', f = n' + 1 := ⟨f - 1, by omega⟩
    have : b = 3 := by omega
    subst this
    rw [wX8_leastRow_L17, if_pos (by decide)]
    refine hK σ h (fun q => ?_)
    rw [r q, ((zbst_3 _).2 q).1, zwkW_0]
  | succ j ih =>
    intro b f σ h1 h2 h r
    obtain ⟨f, rfl⟩ : ∃ n', f = n' + 1 := ⟨f - 1, by omega⟩
    have hV : tV A (zW c (zPm A) 23) (0 + 1) σ := h.2.2.2 23 (Nat.le_refl _)
    have lb := zbst_le (zWf c (zPm A)) b
    have lw : zWf c (zPm A) b ≤ znev + 800 := zwl_le
    rw [wX8_leastRow_L17, if_neg (show ¬ (3 : Int32) ≤ nI b from nI_ge (b := 3) (by omega) (by omega)), show wX8_leastFrom 0 0 (nI b) 1 (zci c) σ = wX8_leastFrom (nI 0) (nI 0) (nI b) (nI 1) (zci c) σ from rfl, p8_leastFrom hi h.1.1 (fun _ => h.2.1) hV (by omega) (fun i hi => absurd hi (by simp)) (by omega) (by omega)]
    rw [show zwl c (zPm A) (zW c (zPm A) 23) 0 0 b 1 = zWf c (zPm A) b from rfl]
    simp only [forall_eq, nI_1]
    have st := ih (b + 1) f
    rw [zbst] at st
    by_cases q : (zbst (zWf c (zPm A)) b).1 ≤ zWf c (zPm A) b
    · rw [if_pos q] at st
      rw [if_pos (show nI (zbst (zWf c (zPm A)) b).1 ≤ nI (zWf c (zPm A) b) from nI_le q (by omega))]
      exact st σ (by omega) (by omega) h r
    · rw [if_neg q] at st
      rw [if_neg (show ¬ nI (zbst (zWf c (zPm A)) b).1 ≤ nI (zWf c (zPm A) b) from nI_ge (by omega) (by omega))]
      exact st _ (by omega) (by omega) (h.row _ _) (fun _ => by rw [zput_at, if_pos ⟨rfl, rfl⟩])
theorem p8_l110 {A : zA} (hi : zI A) {c : Bool} (x2 : Int32) {m n u held : Nat} (hm : 1 ≤ m ∧ m < 24) (hn : zsbs (zPm A) n) (hu : u < 3) (hd : 1 ≤ held ∧ held ≤ A.1 6 3) (Q : Int32 → zSt → Prop) (K : zSt → Prop) (σ0 : zSt) (hK : ∀ σ', tG A c 23 σ' → (∀ a, a ≠ m → σ'.1 10 a = σ0.1 10 a) → ((zbst (zwst c (zPm A) (zW c (zPm A) (23 - m)) m n u held) 3).1 < znev → σ'.1 10 m = nI (zbst (zwst c (zPm A) (zW c (zPm A) (23 - m)) m n u held) 3).2) → K σ') : ∀ (j b f : Nat) (σ : zSt), b + j = 3 → j < f → tG A c 23 σ → (∀ a, a ≠ m → σ.1 10 a = σ0.1 10 a) → ((zbst (zwst c (zPm A) (zW c (zPm A) (23 - m)) m n u held) b).1 < znev → σ.1 10 m = nI (zbst (zwst c (zPm A) (zW c (zPm A) (23 - m)) m n u held) b).2) → wX8_leastRow_L110 Q K (zci c) x2 (nI n) (nI held) (nI m) (nI u) f (nI (zbst (zwst c (zPm A) (zW c (zPm A) (23 - m)) m n u held) b).1) (nI b) σ := by
  have hnev : znev = 99999999 := rfl
  intro j
  induction j with
  | zero =>
    intro b f σ h1 h2 h e r
    obtain ⟨f, rfl⟩ : ∃ n', f = n' + 1 := ⟨f - 1, by omega⟩
    have : b = 3 := by omega
    subst this
    rw [wX8_leastRow_L110, if_pos (by decide)]
    exact hK σ h e r
  | succ j ih =>
    intro b f σ h1 h2 h e r
    obtain ⟨f, rfl⟩ : ∃ n', f = n' + 1 := ⟨f - 1, by omega⟩
    have hV : tV A (zW c (zPm A) (23 - m)) (m + 1) σ := by
      have := h.2.2.2 (23 - m) (by omega)
      rw [show 24 - (23 - m) = m + 1 by omega] at this
      exact this
    have hv : vp_in (nI m) 24 := zin' (by omega) (by omega)
    have lb := zbst_le (zwst c (zPm A) (zW c (zPm A) (23 - m)) m n u held) b
    have lw := zwst_le (A := A) (c := c) (V := zW c (zPm A) (23 - m)) (m := m) (n := n) (u := u) (held := held) (b := b)
    rw [wX8_leastRow_L110, if_neg (show ¬ (3 : Int32) ≤ nI b from nI_ge (b := 3) (by omega) (by omega)), p8_step hi h.1.1 (fun _ => h.2.1) (fun _ => h.2.2.1) hV (by omega) (by omega) hn hu (by omega) hd]
    rw [zcl (by omega)]
    simp only [hv, true_and, forall_eq, nI_1]
    have st := ih (b + 1) f
    rw [zbst] at st
    by_cases q : (zbst (zwst c (zPm A) (zW c (zPm A) (23 - m)) m n u held) b).1 ≤ zwst c (zPm A) (zW c (zPm A) (23 - m)) m n u held b
    · rw [if_pos q] at st
      rw [if_pos (show nI (zbst (zwst c (zPm A) (zW c (zPm A) (23 - m)) m n u held) b).1 ≤ nI (zwst c (zPm A) (zW c (zPm A) (23 - m)) m n u held b) from nI_le q (by omega))]
      exact st σ (by omega) (by omega) h e r
    · rw [if_neg q] at st
      rw [if_neg (show ¬ nI (zbst (zwst c (zPm A) (zW c (zPm A) (23 - m)) m n u held) b).1 ≤ nI (zwst c (zPm A) (zW c (zPm A) (23 - m)) m n u held b) from nI_ge (by omega) (by omega))]
      exact st _ (by omega) (by omega) (h.row _ _) (fun a ha => by rw [zput_at, if_neg (fun z => ha z.2)]; exact e a ha) (fun _ => by rw [zput_at, if_pos ⟨rfl, rfl⟩])
theorem p8_l72 {A : zA} (hi : zI A) {c : Bool} (h0 : zWm c (zPm A) < znev) (x2 : Int32) (Q : Int32 → zSt → Prop) (K : zSt → Prop) (hK : ∀ σ', tG A c 23 σ' → zIsRow 10 (fun m => (zwkW c (zPm A) m).2.1) σ' → K σ') : ∀ (j m n f : Nat) (σ : zSt), m + j = 23 → j < f → znow (zPm A) m (zwkW c (zPm A) m).2.1 n = (zwkW c (zPm A) m).1 → tG A c 23 σ → (∀ a, a ≤ m → σ.1 10 a = nI (zwkW c (zPm A) a).2.1) → wX8_leastRow_L72 Q K (zci c) x2 f (nI n) (nI (zwkW c (zPm A) m).2.2) (nI (m + 1)) σ := by
  have hh := hi.1.2.2.2.2.2.2.1
  intro j
  induction j with
  | zero =>
    intro m n f σ h1 h2 hz h r
    obtain ⟨f, rfl⟩ : ∃ n', f = n' + 1 := ⟨f - 1, by omega⟩
    have : m = 23 := by omega
    subst this
    rw [wX8_leastRow_L72, if_pos (by decide)]
    exact hK σ h (fun a ha => ⟨r a (by omega), (zwkW_ok hi h0 a ha).2.1⟩)
  | succ j ih =>
    intro m n f σ h1 h2 hz h r
    obtain ⟨f, rfl⟩ : ∃ n', f = n' + 1 := ⟨f - 1, by omega⟩
    obtain ⟨i1, i2, i3, i4⟩ := zwkW_ok hi h0 m (by omega)
    rw [show 23 - m = (22 - m) + 1 by omega] at i4
    obtain ⟨f1, f2, f3⟩ := zW_first i4
    rw [show 23 - (22 - m) = m + 1 by omega] at f1 f2 f3
    rw [wX8_leastRow_L72, if_neg (show ¬ (24 : Int32) ≤ nI (m + 1) from nI_ge (b := 24) (by omega) (by omega)), zs1, zcl (by omega), r m (Nat.le_refl _)]
    refine ⟨zin' (by omega) (by omega), ?_⟩
    rw [forall_eq, forall_eq, p8_goesBy h.1.1 hi.1 (zcost A.1 A.2.2.2.1.2) (zchg A.1 A.2.2.2.1.2) (by omega) i2, show znow (zpar A.1 (zcost A.1 A.2.2.2.1.2) (zchg A.1 A.2.2.2.1.2)) m (zwkW c (zPm A) m).2.1 n = (zwkW c (zPm A) m).1 from hz]
    have lo := p8_l110 hi (c := c) x2 (m := m + 1) (n := (zwkW c (zPm A) m).1) (u := (zwkW c (zPm A) m).2.1) (held := (zwkW c (zPm A) m).2.2) (by omega) i1 i2 i3 Q
    rw [show 23 - (m + 1) = 22 - m by omega] at lo
    refine lo _ σ (fun σ1 h1' e1 r1 => ?_) 3 0 300 σ (by omega) (by omega) h (fun _ _ => rfl) (fun q => absurd q (Nat.lt_irrefl _))
    have r1 := r1 f1
    rw [f2] at r1
    have ew : (zwkW c (zPm A) (m + 1)).2.1 = zfirst (zwst c (zPm A) (zW c (zPm A) (22 - m)) (m + 1) (zwkW c (zPm A) m).1 (zwkW c (zPm A) m).2.1 (zwkW c (zPm A) m).2.2) := rfl
    have ez : (zwkW c (zPm A) (m + 1)).1 = znow (zPm A) (m + 1) (zwkW c (zPm A) (m + 1)).2.1 (zwkW c (zPm A) m).1 := rfl
    have ed : (zwkW c (zPm A) (m + 1)).2.2 = if (zwkW c (zPm A) (m + 1)).2.1 = (zwkW c (zPm A) m).2.1 then (if (zwkW c (zPm A) m).2.2 < A.1 6 3 then (zwkW c (zPm A) m).2.2 + 1 else A.1 6 3) else 1 := rfl
    rw [← ew] at r1
    have l2 := (zwkW_ok hi h0 (m + 1) (by omega)).2.1
    have r2 : ∀ a, a ≤ m + 1 → σ1.1 10 a = nI (zwkW c (zPm A) a).2.1 := fun a ha => by
      by_cases q : a = m + 1
      · rw [q]; exact r1
      · rw [e1 a q]; exact r a (by omega)
    refine ⟨zin' (by omega) (by omega), ?_⟩
    rw [zcl (by omega), r1, show σ1.1 0 12 = _ from h1'.1.1.2.2.2.2.2.2.1]
    simp only [forall_eq, nI_1]
    have st := ih (m + 1) (zwkW c (zPm A) m).1 f σ1 (by omega) (by omega) ez.symm h1' r2
    rw [ed] at st
    by_cases q : (zwkW c (zPm A) (m + 1)).2.1 = (zwkW c (zPm A) m).2.1
    · rw [if_pos q] at st
      rw [if_pos (show nI (zwkW c (zPm A) (m + 1)).2.1 = nI (zwkW c (zPm A) m).2.1 by rw [q])]
      by_cases q2 : (zwkW c (zPm A) m).2.2 < A.1 6 3
      · rw [if_pos q2] at st
        rw [if_neg (show ¬ nI (A.1 6 3) ≤ nI (zwkW c (zPm A) m).2.2 from nI_ge q2 (by omega))]
        exact st
      · rw [if_neg q2] at st
        rw [if_pos (show nI (A.1 6 3) ≤ nI (zwkW c (zPm A) m).2.2 from nI_le (by omega) (by omega))]
        exact st
    · rw [if_neg q] at st
      rw [if_neg (show ¬ nI (zwkW c (zPm A) (m + 1)).2.1 = nI (zwkW c (zPm A) m).2.1 from fun z => q ((nI_eq (by omega) (by omega)).mp z))]
      exact st
theorem p8_leastRow {A : zA} (hi : zI A) {σ : zSt} (h : RM A σ) (c : Bool) (Q : Int32 → zSt → Prop) (hQ : ∀ σ', RM A σ' → (zWm c (zPm A) < znev → zIsRow 10 (fun m => (zwkW c (zPm A) m).2.1) σ') → Q (nI (zWm c (zPm A))) σ') : wX8_leastRow (zci c) σ Q := by
  have hnev : znev = 99999999 := rfl
  unfold wX8_leastRow
  refine p8_fills hi h c _ (fun σ1 h1 => ?_)
  refine p8_l17 hi (c := c) 0 1 Q _ (fun σ2 h2 r2 => ?_) 3 0 300 σ1 (by omega) (by omega) h1 (fun q => absurd q (Nat.lt_irrefl _))
  have lm : zWm c (zPm A) ≤ znev := (zbst_le _ 3).1
  have K1 := fun (q : zWm c (zPm A) < znev) => p8_l72 hi q (nI (zWm c (zPm A))) Q (fun σ125 => Q (nI (zWm c (zPm A))) σ125) (fun σ3 h3 r3 => hQ σ3 h3.1 (fun _ => r3)) 23 0 0 300 σ2 (by omega) (by omega) (by rw [zwkW_0]) h2 (fun a ha => by rw [show a = 0 by omega]; exact r2 q)
  rw [zwkW_0] at K1
  have K2 := hQ σ2 h2.1
  clear r2 hQ
  generalize zWm c (zPm A) = w at lm K1 K2
  by_cases q : w < znev
  · rw [if_pos (show nI w < (99999999 : Int32) from nI_lt (b := 99999999) q (by omega))]
    exact K1 q
  · rw [if_neg (show ¬ nI w < (99999999 : Int32) from nI_nlt (b := 99999999) (by omega) (by omega))]
    have := K2 (fun z => absurd z q)
    rw [show w = znev by omega] at this
    exact this
