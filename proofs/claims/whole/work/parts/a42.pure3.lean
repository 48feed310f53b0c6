/-! a span unrolled -/
def zy_U (P : zP) (s b n t : Nat) : Nat := zV P (24 - t) (znow P (t - 1) b n) b (min (t - s) P.2.2.2.2.2)
theorem zy_stay {P : zP} {s b n t : Nat} (hs : s < t) (ht : t < 24) : zstp P (23 - t) (znow P (t - 1) b n) b (min (t - s) P.2.2.2.2.2) b = zy_U P s b n (t + 1) + zcby P t (znow P (t - 1) b n) (znow P t b n) := by
  unfold zstp zy_U
  rw [if_pos rfl, show 23 - (23 - t) = t by omega, znow_idem P (show t - 1 ≤ t by omega), show 24 - (t + 1) = 23 - t by omega, Nat.add_sub_cancel]
  congr 2
  by_cases c : min (t - s) P.2.2.2.2.2 < P.2.2.2.2.2
  · rw [if_pos c]; omega
  · rw [if_neg c]; omega
theorem zy_U_b {P : zP} (hP : zpk P) {s b n t : Nat} (hb : b < 3) : zy_U P s b n t ≤ 8000000 := Nat.le_trans (zV_le hP _ _ _ _ hb) (zcx_le _ _)
theorem zg_W {P : zP} {s n u b : Nat} (hb : b ≠ u) : zg P s n u b = zWb P s n u b := by unfold zg; rw [if_neg hb]
theorem zg_u {P : zP} {s n u : Nat} : zg P s n u u = znev := by unfold zg; rw [if_pos rfl]
theorem zy_step {P : zP} (hP : zpk P) {s b n t : Nat} (hb : b < 3) (hs : s < t) (ht : t < 24) : zy_U P s b n t = (if t < s + P.2.2.2.2.2 then zy_U P s b n (t + 1) + zcby P t (znow P (t - 1) b n) (znow P t b n) else min (zy_U P s b n (t + 1) + zcby P t (znow P (t - 1) b n) (znow P t b n)) (zWn P t (znow P (t - 1) b n) b)) ∧ zfirst (zstp P (23 - t) (znow P (t - 1) b n) b (min (t - s) P.2.2.2.2.2)) = (if s + P.2.2.2.2.2 ≤ t ∧ (zWn P t (znow P (t - 1) b n) b < zy_U P s b n (t + 1) + zcby P t (znow P (t - 1) b n) (znow P t b n) ∨ (zWn P t (znow P (t - 1) b n) b = zy_U P s b n (t + 1) + zcby P t (znow P (t - 1) b n) (znow P t b n) ∧ zfirst (zg P t (znow P (t - 1) b n) b) < b)) then zfirst (zg P t (znow P (t - 1) b n) b) else b) := by
  have hnev : znev = 99999999 := rfl
  have hst := zy_stay (P := P) (b := b) (n := n) hs ht
  have bU := zy_U_b hP (s := s) (n := n) (t := t + 1) hb
  have bC := zcby_b hP t (znow P (t - 1) b n) (znow P t b n)
  have eU : zy_U P s b n t = zmin3 (zstp P (23 - t) (znow P (t - 1) b n) b (min (t - s) P.2.2.2.2.2) 0) (zstp P (23 - t) (znow P (t - 1) b n) b (min (t - s) P.2.2.2.2.2) 1) (zstp P (23 - t) (znow P (t - 1) b n) b (min (t - s) P.2.2.2.2.2) 2) := by
    unfold zy_U
    rw [show 24 - t = (23 - t) + 1 by omega, zV_s]
  rw [eU]
  by_cases c : t < s + P.2.2.2.2.2
  · have hh : min (t - s) P.2.2.2.2.2 < P.2.2.2.2.2 := by omega
    have no : ∀ x, x ≠ b → zstp P (23 - t) (znow P (t - 1) b n) b (min (t - s) P.2.2.2.2.2) x = znev := fun x hx => by
      unfold zstp
      rw [if_neg hx, if_pos hh]
    rw [if_pos c, if_neg (show ¬ (s + P.2.2.2.2.2 ≤ t ∧ (zWn P t (znow P (t - 1) b n) b < zy_U P s b n (t + 1) + zcby P t (znow P (t - 1) b n) (znow P t b n) ∨ (zWn P t (znow P (t - 1) b n) b = zy_U P s b n (t + 1) + zcby P t (znow P (t - 1) b n) (znow P t b n) ∧ zfirst (zg P t (znow P (t - 1) b n) b) < b))) from fun z => by have := z.1; omega)]
    unfold zfirst zmin3
    rcases (show b = 0 ∨ b = 1 ∨ b = 2 by omega) with rfl | rfl | rfl
    · rw [hst, no 1 (by omega), no 2 (by omega)]
      refine ⟨by omega, ?_⟩
      rw [if_pos (by omega)]
    · rw [hst, no 0 (by omega), no 2 (by omega)]
      refine ⟨by omega, ?_⟩
      rw [if_neg (by omega), if_pos (by omega)]
    · rw [hst, no 0 (by omega), no 1 (by omega)]
      refine ⟨by omega, ?_⟩
      rw [if_neg (by omega), if_neg (by omega)]
  · have hh : P.2.2.2.2.2 ≤ min (t - s) P.2.2.2.2.2 := by omega
    have yes : ∀ x, x ≠ b → zstp P (23 - t) (znow P (t - 1) b n) b (min (t - s) P.2.2.2.2.2) x = zWb P t (znow P (t - 1) b n) b x := fun x hx => zstp_W (by omega) hh hx
    have w0 := zWb_b hP (s := t) (n := znow P (t - 1) b n) (u := b) (b := 0) (by omega)
    have w1 := zWb_b hP (s := t) (n := znow P (t - 1) b n) (u := b) (b := 1) (by omega)
    have w2 := zWb_b hP (s := t) (n := znow P (t - 1) b n) (u := b) (b := 2) (by omega)
    have c' : s + P.2.2.2.2.2 ≤ t := by omega
    rw [if_neg c]
    simp only [c', true_and]
    generalize hX : zy_U P s b n (t + 1) + zcby P t (znow P (t - 1) b n) (znow P t b n) = X at hst
    have bX : X ≤ 16000000 := by omega
    unfold zWn zmin3 zfirst
    rcases (show b = 0 ∨ b = 1 ∨ b = 2 by omega) with rfl | rfl | rfl
    · rw [hst, yes 1 (by omega), yes 2 (by omega), zg_u, zg_W (b := 1) (by omega), zg_W (b := 2) (by omega)]
      refine ⟨by omega, ?_⟩
      repeat' split
      all_goals omega
    · rw [hst, yes 0 (by omega), yes 2 (by omega), zg_u, zg_W (b := 0) (by omega), zg_W (b := 2) (by omega)]
      refine ⟨by omega, ?_⟩
      repeat' split
      all_goals omega
    · rw [hst, yes 0 (by omega), yes 1 (by omega), zg_u, zg_W (b := 0) (by omega), zg_W (b := 1) (by omega)]
      refine ⟨by omega, ?_⟩
      repeat' split
      all_goals omega
/-- where a span may end first -/
def zy_e0 (P : zP) (s : Nat) : Nat := min (s + P.2.2.2.2.2) 24
theorem zy_M_U {P : zP} (hP : zpk P) {K s b w : Nat} (hb : b < 3) (hw : zy_ok P s w) (hs : s < 24) : ∀ j, j ≤ 24 - zy_e0 P s → zy_M (zy_G P K s b w) j = K + zy_A P s b (zcan P s w) (24 - j) + zy_U P s b (zcan P s w) (24 - j) := by
  have hH := hP.2.1
  have he : s < zy_e0 P s ∧ zy_e0 P s ≤ 24 := by unfold zy_e0; omega
  intro j
  induction j with
  | zero =>
    intro _
    rw [zy_M, zy_G_A hP hb hw (by omega) (by omega)]
    rfl
  | succ j ih =>
    intro hj
    have e1 : s + P.2.2.2.2.2 ≤ 23 - j := by unfold zy_e0 at hj he; omega
    have st := (zy_step hP (n := zcan P s w) hb (show s < 23 - j by omega) (by omega)).1
    have sA := zy_A_s (P := P) (b := b) (n := zcan P s w) (show s < 23 - j by omega)
    rw [zy_M, ih (by omega), zy_G_A hP hb hw (by omega) (by omega), show 24 - (j + 1) = 23 - j by omega, st, if_neg (by omega), show 24 - j = 23 - j + 1 by omega, sA]
    unfold zy_R
    rw [if_pos (by omega)]
    omega
theorem zy_low {P : zP} (hP : zpk P) {s b n : Nat} (hb : b < 3) (hs : s < 24) : ∀ d, s + 1 + d ≤ zy_e0 P s → zy_A P s b n (s + 1) + zy_U P s b n (s + 1) = zy_A P s b n (s + 1 + d) + zy_U P s b n (s + 1 + d) := by
  intro d
  induction d with
  | zero => intro _; rfl
  | succ d ih =>
    intro h
    have h2 : s + 1 + d < 24 ∧ s + 1 + d < s + P.2.2.2.2.2 := by unfold zy_e0 at h; omega
    have st := (zy_step hP (n := n) hb (show s < s + 1 + d by omega) h2.1).1
    have sA := zy_A_s (P := P) (b := b) (n := n) (show s < s + 1 + d by omega)
    rw [if_pos h2.2] at st
    rw [ih (by omega), st, show s + 1 + (d + 1) = s + 1 + d + 1 by omega, sA]
    omega
theorem zy_begin {P : zP} (hP : zpk P) {K s b w : Nat} (hb : b < 3) (hw : zy_ok P s w) (hs : s < 24) : zV P (23 - s) (znow P s b (zcan P s w)) b 1 + zcby P s (zcan P s w) (znow P s b (zcan P s w)) + K = zy_M (zy_G P K s b w) (24 - zy_e0 P s) := by
  have hH := hP.2.1
  have he : s < zy_e0 P s ∧ zy_e0 P s ≤ 24 := by unfold zy_e0; omega
  have l := zy_low hP (n := zcan P s w) hb hs (zy_e0 P s - (s + 1)) (by omega)
  rw [show s + 1 + (zy_e0 P s - (s + 1)) = zy_e0 P s by omega] at l
  rw [zy_M_U hP hb hw hs (24 - zy_e0 P s) (Nat.le_refl _), show 24 - (24 - zy_e0 P s) = zy_e0 P s by omega]
  have eu : zy_U P s b (zcan P s w) (s + 1) = zV P (23 - s) (znow P s b (zcan P s w)) b 1 := by
    unfold zy_U
    rw [show 24 - (s + 1) = 23 - s by omega, Nat.add_sub_cancel, show min (s + 1 - s) P.2.2.2.2.2 = 1 by omega]
  rw [zy_A_0, eu] at l
  omega
/-! the walk goes by spans -/
def zy_nx (P : zP) (s b w t : Nat) : Nat := zfirst (zg P t (zcan P t (zy_we P s b w t)) b)
theorem zg_first {P : zP} (hP : zpk P) {t n b : Nat} (hb : b < 3) : zfirst (zg P t n b) ≠ b ∧ zfirst (zg P t n b) < 3 := by
  have hnev : znev = 99999999 := rfl
  have w0 := zWb_b hP (s := t) (n := n) (u := b) (b := 0) (by omega)
  have w1 := zWb_b hP (s := t) (n := n) (u := b) (b := 1) (by omega)
  have w2 := zWb_b hP (s := t) (n := n) (u := b) (b := 2) (by omega)
  refine ⟨?_, zfirst_lt _⟩
  unfold zfirst
  rcases (show b = 0 ∨ b = 1 ∨ b = 2 by omega) with rfl | rfl | rfl
  · rw [zg_u, zg_W (b := 1) (by omega), zg_W (b := 2) (by omega)]
    repeat' split
    all_goals omega
  · rw [zg_u, zg_W (b := 0) (by omega), zg_W (b := 2) (by omega)]
    repeat' split
    all_goals omega
  · rw [zg_u, zg_W (b := 0) (by omega), zg_W (b := 1) (by omega)]
    repeat' split
    all_goals omega
theorem zy_shift_now {P : zP} (hP : zpk P) {s b w e c : Nat} (hw : zy_ok P s w) (he : s < e) (hc : c ≠ b) : znow P e c (znow P (e - 1) b (zcan P s w)) = znow P e c (zcan P e (zy_we P s b w e)) := by
  have key : ∀ i, i < 8 → 4 ≤ i → P.1 i = true → P.2.2.1 i < e → (znow P (e - 1) b (zcan P s w)).testBit i = false → P.2.1 i c = true := by
    intro i h8 h4 hp hf hn
    refine hP.1 i b c h4 ?_ hc
    rw [znow_bit] at hn
    cases q : P.2.1 i b with
    | false => rfl
    | true =>
      have : P.2.2.1 i ≤ e - 1 := by omega
      simp [h8, hp, q, this] at hn
  apply Nat.eq_of_testBit_eq
  intro i
  by_cases h8 : i < 8
  · rw [znow_bit P e c, znow_bit P e c, zy_shift_bits hw he h8]
    cases hn : (znow P (e - 1) b (zcan P s w)).testBit i with
    | true => simp
    | false =>
      by_cases h4 : 4 ≤ i
      · cases hp : P.1 i with
        | false => simp
        | true =>
          by_cases hf : P.2.2.1 i < e
          · have := key i h8 h4 hp hf hn
            have f2 : P.2.2.1 i ≤ e := by omega
            simp [h8, this, f2]
          · simp [hf]
      · simp [h4]
  · rw [znow_hi P e c _ h8, znow_hi P e c _ h8, znow_hi P _ b _ h8, zcan_hi _ _ _ h8, zcan_hi _ _ _ h8]
def zy_bd (P : zP) (s b w : Nat) : Prop := zwalk P s = (znow P s b (zcan P s w), b, 1) ∧ zy_ok P s w ∧ b < 3
theorem zwalk_s (P : zP) (m : Nat) : zwalk P (m + 1) = (znow P (m + 1) (zfirst (zstp P (22 - m) (zwalk P m).1 (zwalk P m).2.1 (zwalk P m).2.2)) (zwalk P m).1, zfirst (zstp P (22 - m) (zwalk P m).1 (zwalk P m).2.1 (zwalk P m).2.2), if zfirst (zstp P (22 - m) (zwalk P m).1 (zwalk P m).2.1 (zwalk P m).2.2) = (zwalk P m).2.1 then (if (zwalk P m).2.2 < P.2.2.2.2.2 then (zwalk P m).2.2 + 1 else P.2.2.2.2.2) else 1) := by rw [zwalk]
theorem zy_in {P : zP} {s b n t : Nat} (hs : s < t) (ht : t < 24) (hH : 1 ≤ P.2.2.2.2.2) (h : zwalk P (t - 1) = (znow P (t - 1) b n, b, min (t - s) P.2.2.2.2.2)) (hf : zfirst (zstp P (23 - t) (znow P (t - 1) b n) b (min (t - s) P.2.2.2.2.2)) = b) : zwalk P t = (znow P t b n, b, min (t + 1 - s) P.2.2.2.2.2) := by
  obtain ⟨m, rfl⟩ : ∃ m, t = m + 1 := ⟨t - 1, by omega⟩
  rw [Nat.add_sub_cancel] at h hf
  rw [show 23 - (m + 1) = 22 - m by omega] at hf
  rw [zwalk_s, h]
  dsimp only
  rw [hf, if_pos rfl, znow_idem P (show m ≤ m + 1 by omega)]
  congr 2
  by_cases c : min (m + 1 - s) P.2.2.2.2.2 < P.2.2.2.2.2
  · rw [if_pos c]; omega
  · rw [if_neg c]; omega
theorem zy_span2 {P : zP} (hP : zpk P) {K s b w : Nat} (hb : b < 3) (hw : zy_ok P s w) (hs : s < 24) : ∀ j, j ≤ 24 - zy_e0 P s → zwalk P (23 - j) = (znow P (23 - j) b (zcan P s w), b, min (24 - j - s) P.2.2.2.2.2) → (24 - j ≤ zy_E (zy_G P K s b w) (zy_nx P s b w) b j ∧ zy_E (zy_G P K s b w) (zy_nx P s b w) b j ≤ 24) ∧ (∀ r, 24 - j ≤ r → r < zy_E (zy_G P K s b w) (zy_nx P s b w) b j → (zwalk P r).2.1 = b) ∧ (zy_E (zy_G P K s b w) (zy_nx P s b w) b j < 24 → zy_bd P (zy_E (zy_G P K s b w) (zy_nx P s b w) b j) (zy_nx P s b w (zy_E (zy_G P K s b w) (zy_nx P s b w) b j)) (zy_we P s b w (zy_E (zy_G P K s b w) (zy_nx P s b w) b j))) := by
  have hH := hP.2.1
  have he : s < zy_e0 P s ∧ zy_e0 P s ≤ 24 := by unfold zy_e0; omega
  intro j
  induction j with
  | zero =>
    intro _ _
    rw [zy_E]
    exact ⟨⟨by omega, by omega⟩, fun r h1 h2 => by omega, fun h => by omega⟩
  | succ j ih =>
    intro hj hwk
    have e1 : s + P.2.2.2.2.2 ≤ 23 - j := by unfold zy_e0 at hj he; omega
    have h1 : s < 23 - j := by omega
    have h2 : 23 - j < 24 := by omega
    have sf := (zy_step hP (n := zcan P s w) hb h1 h2).2
    have fs := (zWn_shift hP hb (zy_C_b hP (23 - j) (znow P (23 - j - 1) b (zcan P s w))) (fun c' _ hc => zy_shift hP (b := b) hw h1 hc)).2
    have nx : zy_nx P s b w (23 - j) = zfirst (zg P (23 - j) (znow P (23 - j - 1) b (zcan P s w)) b) := by unfold zy_nx; rw [fs]
    have gM := zy_M_U hP (K := K) hb hw hs j (by omega)
    have gA := zy_G_A hP (K := K) hb hw h1 (show 23 - j ≤ 24 by omega)
    have sA := zy_A_s (P := P) (b := b) (n := zcan P s w) h1
    rw [show 24 - j = 23 - j + 1 by omega, sA] at gM
    unfold zy_R at gA
    rw [if_pos h2] at gA
    rw [show 23 - (j + 1) = 23 - j - 1 by omega, show 24 - (j + 1) - s = 23 - j - s by omega] at hwk
    rw [zy_E]
    by_cases c : zy_G P K s b w (23 - j) < zy_M (zy_G P K s b w) j ∨ (zy_G P K s b w (23 - j) = zy_M (zy_G P K s b w) j ∧ zy_nx P s b w (23 - j) < b)
    · rw [if_pos c]
      refine ⟨⟨by omega, by omega⟩, fun r h3 h4 => by omega, fun _ => ?_⟩
      rw [if_pos ⟨e1, by rw [← nx]; omega⟩, ← nx] at sf
      have nb := zg_first hP (t := 23 - j) (n := zcan P (23 - j) (zy_we P s b w (23 - j))) hb
      have nb1 : zy_nx P s b w (23 - j) ≠ b := nb.1
      refine ⟨?_, zy_we_ok hw (by omega), nb.2⟩
      rw [← zy_shift_now hP hw h1 nb1]
      obtain ⟨m, hm⟩ : ∃ m, 23 - j = m + 1 := ⟨23 - j - 1, by omega⟩
      rw [hm] at sf hwk nb1 ⊢
      rw [Nat.add_sub_cancel] at sf hwk ⊢
      rw [show 23 - (m + 1) = 22 - m by omega] at sf
      rw [zwalk_s, hwk]
      dsimp only
      rw [sf, if_neg nb1]
    · rw [if_neg c]
      rw [if_neg (fun z => c (by
        have z2 := z.2
        rw [← nx] at z2
        omega))] at sf
      have nw := zy_in h1 h2 (by omega) hwk sf
      obtain ⟨i1, i2, i3⟩ := ih (by omega) (by rw [nw, show 24 - j - s = 23 - j + 1 - s by omega])
      refine ⟨⟨by omega, i1.2⟩, fun r h3 h4 => ?_, i3⟩
      by_cases q : r = 23 - j
      · rw [q, nw]
      · exact i2 r (by omega) h4
theorem zy_span {P : zP} (hP : zpk P) {K s b w : Nat} (h : zy_bd P s b w) (hs : s < 24) : (s < zy_E (zy_G P K s b w) (zy_nx P s b w) b (24 - zy_e0 P s) ∧ zy_E (zy_G P K s b w) (zy_nx P s b w) b (24 - zy_e0 P s) ≤ 24) ∧ (∀ r, s ≤ r → r < zy_E (zy_G P K s b w) (zy_nx P s b w) b (24 - zy_e0 P s) → (zwalk P r).2.1 = b) ∧ (zy_E (zy_G P K s b w) (zy_nx P s b w) b (24 - zy_e0 P s) < 24 → zy_bd P (zy_E (zy_G P K s b w) (zy_nx P s b w) b (24 - zy_e0 P s)) (zy_nx P s b w (zy_E (zy_G P K s b w) (zy_nx P s b w) b (24 - zy_e0 P s))) (zy_we P s b w (zy_E (zy_G P K s b w) (zy_nx P s b w) b (24 - zy_e0 P s)))) := by
  obtain ⟨h1, hw, hb⟩ := h
  have hH := hP.2.1
  have he : s < zy_e0 P s ∧ zy_e0 P s ≤ 24 := by unfold zy_e0; omega
  have L : ∀ d, s + d < zy_e0 P s → zwalk P (s + d) = (znow P (s + d) b (zcan P s w), b, min (s + d + 1 - s) P.2.2.2.2.2) := by
    intro d
    induction d with
    | zero =>
      intro _
      rw [Nat.add_zero, h1, show min (s + 1 - s) P.2.2.2.2.2 = 1 by omega]
    | succ d ih =>
      intro hd
      have h2 : s + (d + 1) < 24 ∧ s + (d + 1) < s + P.2.2.2.2.2 := by unfold zy_e0 at hd; omega
      have sf := (zy_step hP (n := zcan P s w) hb (show s < s + (d + 1) by omega) h2.1).2
      rw [if_neg (fun z => by have := z.1; omega)] at sf
      exact zy_in (show s < s + (d + 1) by omega) h2.1 (by omega) (ih (by omega)) sf
  have l1 := L (zy_e0 P s - 1 - s) (by omega)
  obtain ⟨i1, i2, i3⟩ := zy_span2 hP (K := K) hb hw hs (24 - zy_e0 P s) (Nat.le_refl _) (by
    rw [show 23 - (24 - zy_e0 P s) = s + (zy_e0 P s - 1 - s) by omega, l1]
    congr 2
    omega)
  refine ⟨⟨by omega, i1.2⟩, fun r h2 h3 => ?_, i3⟩
  by_cases q : r < zy_e0 P s
  · have := L (r - s) (by omega)
    rw [show s + (r - s) = r by omega] at this
    rw [this]
  · exact i2 r (by omega) h3
