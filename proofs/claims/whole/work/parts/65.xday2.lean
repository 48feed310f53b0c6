theorem x_law {A : zA} {σ : zSt} (h : RX A σ) (w o v : Int32) (Q : Int32 → zSt → Prop) (hQ : ∀ σ', RX (s_law A w o v).2 σ' → Q (s_law A w o v).1 σ') : wX7_law w o v σ Q := by
  unfold wX7_law
  unfold s_law at hQ
  have n01 : ¬ (0 : Int32) = 1 := by decide
  have n02 : ¬ (0 : Int32) = 2 := by decide
  have n12 : ¬ (1 : Int32) = 2 := by decide
  have n10 : ¬ (1 : Int32) = 0 := by decide
  have n20 : ¬ (2 : Int32) = 0 := by decide
  have n21 : ¬ (2 : Int32) = 1 := by decide
  have e8 : σ.1 1 8 = nI (A.1 6 3) := h.2.1.2.2.2.2.2.2.1
  have e9 : σ.1 1 9 = nI (A.1 6 4) := h.2.1.2.2.2.2.2.2.2.1
  by_cases w0 : w = 0
  · subst w0
    simp only [if_true, n01, n02, if_false] at hQ ⊢
    have hl := zlaw_r (v := v) 4 (by omega)
    by_cases c : zr v 5 = true ∧ ¬ v = 0
    · rw [if_pos c] at hQ
      have hl2 := mt hl.mp (by simpa using c)
      rw [if_neg (fun q => hl2 (Or.inl q)), if_neg (show ¬ (4 : Int32) < v from fun q => hl2 (Or.inr q))]
      obtain ⟨j, hj, rfl⟩ := zr_of (by omega) c.1
      rw [zcl (by omega)] at hQ
      have hj1 : 1 ≤ j := by
        rcases Nat.eq_zero_or_pos j with q | q
        · exact absurd (by rw [q]; rfl) c.2
        · exact q
      simp only [forall_eq, p7_forget, e8]
      refine hQ _ (h.ch (zI_hold h.1 hj1 (by omega)) ?_ ?_ (zfg_ca _ _ _) (zfg_se _ _ _))
      · refine zDX.fr (σ := zput σ 1 8 (nI j)) ?_ (fun k hk => zfg_ne (by omega) (by omega))
        obtain ⟨g1, g2, g3, g4, g5, g6, g7, g8, g9⟩ := h.2.1
        exact ⟨by simpa [zput_at, zDu] using g1, by simpa [zput_at, zDu] using g2, by simpa [zput_at, zDu] using g3, by simpa [zput_at, zDu] using g4, by simpa [zput_at, zDu] using g5, by simpa [zput_at, zDu] using g6, by simp [zput_at, zDu], by simpa [zput_at, zDu] using g8, by simpa [zput_at, zDu] using g9⟩
      · intro a ha b c
        rw [zfg_ne b c, zput_ne (by omega)]
    · rw [if_neg c] at hQ
      rcases hl.mpr c with q | q
      · rw [if_pos q]; exact hQ σ h
      · by_cases q2 : v < 1
        · rw [if_pos q2]; exact hQ σ h
        · rw [if_neg q2, if_pos (show (4 : Int32) < v from q)]; exact hQ σ h
  by_cases w1 : w = 1
  · subst w1
    simp only [if_true, n10, n12, if_false] at hQ ⊢
    have hl := zlaw_r (v := v) 9 (by omega)
    by_cases c : zr v 10 = true ∧ ¬ v = 0
    · rw [if_pos c] at hQ
      have hl2 := mt hl.mp (by simpa using c)
      rw [if_neg (fun q => hl2 (Or.inl q)), if_neg (show ¬ (9 : Int32) < v from fun q => hl2 (Or.inr q))]
      obtain ⟨j, hj, rfl⟩ := zr_of (by omega) c.1
      rw [zcl (by omega)] at hQ
      have hj1 : 1 ≤ j := by
        rcases Nat.eq_zero_or_pos j with q | q
        · exact absurd (by rw [q]; rfl) c.2
        · exact q
      simp only [forall_eq, e9]
      refine hQ _ (h.ch (zI_walk h.1 hj1 (by omega)) ?_ ?_ ?_ ?_)
      · obtain ⟨g1, g2, g3, g4, g5, g6, g7, g8, g9⟩ := h.2.1
        exact ⟨by simpa [zput_at, zDu] using g1, by simpa [zput_at, zDu] using g2, by simpa [zput_at, zDu] using g3, by simpa [zput_at, zDu] using g4, by simpa [zput_at, zDu] using g5, by simpa [zput_at, zDu] using g6, by simpa [zput_at, zDu] using g7, by simp [zput_at, zDu], by simpa [zput_at, zDu] using g9⟩
      · intro a ha b c
        rw [zput_ne (by omega)]
      · exact (h.2.2.2.2.2.2.1.fr (zput_ne (by decide))).cg rfl rfl rfl rfl rfl rfl
      · exact (h.2.2.2.2.2.2.2.fr (zput_ne (by decide)) (zput_ne (by decide))).cg rfl rfl rfl rfl rfl rfl rfl
    · rw [if_neg c] at hQ
      rcases hl.mpr c with q | q
      · rw [if_pos q]; exact hQ σ h
      · by_cases q2 : v < 1
        · rw [if_pos q2]; exact hQ σ h
        · rw [if_neg q2, if_pos (show (9 : Int32) < v from q)]; exact hQ σ h
  by_cases w2 : w = 2
  · subst w2
    simp only [if_true, n20, n21, if_false] at hQ ⊢
    rw [p7_isMaster o σ _ h.2.1 h.1.1]
    by_cases c1 : zr o (A.1 6 2) = true
    · rw [if_pos c1, if_neg (by decide), p7_isDigit]
      by_cases c2 : zr v 10 = true
      · rw [if_pos ⟨c1, c2⟩] at hQ
        rw [if_pos c2, if_neg (by decide)]
        have h4 := h.1.1.2.2.2.2.2.1
        obtain ⟨i, hi, rfl⟩ := zr_of (by omega) c1
        obtain ⟨j, hj, rfl⟩ := zr_of (by omega) c2
        rw [zcl (by omega), zcl (by omega)] at hQ
        have hv : vp_in (nI i) 4 := zin' (by omega) (by omega)
        simp only [hv, true_and, forall_eq]
        rw [zcl (by omega), show σ.1 8 i = nI (A.1 5 i) from (h.2.1.2.2.1 i (by omega)).2]
        refine hQ _ (h.ch (zI_num h.1 (by omega)) ?_ ?_ ?_ ?_)
        · obtain ⟨g1, g2, g3, g4, g5, g6, g7, g8, g9⟩ := h.2.1
          refine ⟨by simpa [zput_at, zDu] using g1, by simpa [zput_at, zDu] using g2, fun x hx => ?_, by simpa [zput_at, zDu] using g4, by simpa [zput_at, zDu] using g5, by simpa [zput_at, zDu] using g6, by simpa [zput_at, zDu] using g7, by simpa [zput_at, zDu] using g8, by simpa [zput_at, zDu] using g9⟩
          have := g3 x hx
          by_cases q : x = i
          · subst q; simpa [zput_at, zDu] using this.1
          · simpa [zput_at, zDu, q] using this
        · intro a ha b c
          rw [zput_ne (by omega)]
        · exact (h.2.2.2.2.2.2.1.fr (zput_ne (by decide))).cg rfl rfl rfl rfl rfl rfl
        · exact (h.2.2.2.2.2.2.2.fr (zput_ne (by decide)) (zput_ne (by decide))).cg rfl rfl rfl rfl rfl rfl rfl
      · rw [if_neg (fun q => c2 q.2)] at hQ
        rw [if_neg c2, if_pos rfl]
        exact hQ σ h
    · rw [if_neg (fun q => c1 q.1)] at hQ
      rw [if_neg c1, if_pos rfl]
      exact hQ σ h
  · simp only [w0, w1, w2, if_false] at hQ ⊢
    exact hQ σ h
/-- one comes -/
def zDcome (D : zD) (s b f p : Nat) : zD := zDu (zDu (zDu (zDu D 1 (s * 4 + D 6 s) b) 2 (s * 4 + D 6 s) f) 3 (s * 4 + D 6 s) p) 6 s (D 6 s + 1)
def s_come (A : zA) (s w p : Int32) : Int32 × zA := if zr s 2 = true ∧ zr w 300 = true ∧ w.toNatClampNeg % 100 < 24 ∧ zr p 10 = true then (if A.1 6 s.toNatClampNeg < 4 then (nI (A.1 6 s.toNatClampNeg), (zDcome A.1 s.toNatClampNeg (w.toNatClampNeg / 100) (w.toNatClampNeg % 100) p.toNatClampNeg, A.2)) else (-4, A)) else (-2, A)
theorem zI_come {A : zA} (h : zI A) {s b f p : Nat} (hs : s < 2) (hb : b < 3) (hf : f < 24) (hp : p ≤ 9) (hn : A.1 6 s < 4) : zI (zDcome A.1 s b f p, A.2) := by
  obtain ⟨⟨o1, o2, o3, o4, o5, o6, o7, o8, o9⟩, hi, h3, h4, h5⟩ := h
  have n2 : ¬ 2 = s := by omega
  have n3 : ¬ 3 = s := by omega
  have n4 : ¬ 4 = s := by omega
  have n5 : ¬ 5 = s := by omega
  refine ⟨⟨by simpa [zDu, zDcome] using o1, fun i hi2 => ?_, by simpa [zDu, zDcome] using o3, ?_, ?_, by simpa [zDu, zDcome, n2] using o6, by simpa [zDu, zDcome, n3] using o7, by simpa [zDu, zDcome, n4] using o8, by simpa [zDu, zDcome, n5] using o9⟩, ?_, h3, by simpa [zDu, zDcome, n5] using h4, h5⟩
  · have := o2 i hi2
    by_cases q : i = s * 4 + A.1 6 s
    · subst q; simp [zDu, zDcome]; omega
    · simpa [zDu, zDcome, q] using this
  · by_cases q : 0 = s
    · subst q; simp [zDu, zDcome]; omega
    · simpa [zDu, zDcome, q] using o4
  · by_cases q : 1 = s
    · subst q; simp [zDu, zDcome]; omega
    · simpa [zDu, zDcome, q] using o5
  · cases hk : A.2.1 with
    | none => simp [zimg]
    | some K => rw [hk] at hi; simpa [zimg, zDu, zDcome, n2] using hi
theorem x_come {A : zA} {σ : zSt} (h : RX A σ) (s w p : Int32) (Q : Int32 → zSt → Prop) (hQ : ∀ σ', RX (s_come A s w p).2 σ' → Q (s_come A s w p).1 σ') : wX7_come s w p σ Q := by
  unfold wX7_come
  unfold s_come at hQ
  have hn : ¬ (zr s 2 = true ∧ zr w 300 = true ∧ w.toNatClampNeg % 100 < 24 ∧ zr p 10 = true) → Q (-2) σ := fun c => by rw [if_neg c] at hQ; exact hQ σ h
  rw [p7_isSort]
  by_cases c1 : zr s 2 = true
  rotate_left
  · rw [if_neg c1, if_pos rfl]; exact hn (fun q => c1 q.1)
  rw [if_pos c1, if_neg (by decide)]
  by_cases c0 : w < 0
  · rw [if_pos c0]
    exact hn (fun q => (zr_lt (by omega) q.2.1).1 c0)
  rw [if_neg c0]
  obtain ⟨k, hk, rfl⟩ := nI_of c0
  have ed : nI k / 100 = nI (k / 100) := pk_div (d := 100) hk (by omega) (by omega)
  have er : nI k - nI (k / 100) * 100 = nI (k % 100) := by rw [← ed]; exact pk_rem (d := 100) hk (by omega) (by omega)
  simp only [forall_eq, ed, er]
  have ez : zr (nI (k / 100)) 3 = zr (nI k) 300 := by
    rw [zr_nI' (by omega) (by omega), zr_nI' (by omega) (by omega)]
    have : k / 100 < 3 ↔ k < 300 := by omega
    simp [this]
  rw [p7_isBridge, ez]
  by_cases c2 : zr (nI k) 300 = true
  rotate_left
  · rw [if_neg c2, if_pos rfl]; exact hn (fun q => c2 q.2.1)
  rw [if_pos c2, if_neg (by decide), p7_isMinute, zr_nI' (by omega) (by omega)]
  rw [zcl hk] at hn hQ
  by_cases c3 : k % 100 < 24
  rotate_left
  · rw [decide_eq_false c3, if_neg (show ¬ (false = true) by decide), if_pos rfl]; exact hn (fun q => c3 q.2.2.1)
  rw [decide_eq_true c3, if_pos (show true = true from rfl), if_neg (by decide), p7_isDigit]
  by_cases c4 : zr p 10 = true
  rotate_left
  · rw [if_neg c4, if_pos rfl]; exact hn (fun q => c4 q.2.2.2)
  rw [if_pos ⟨c1, c2, c3, c4⟩] at hQ
  rw [if_pos c4, if_neg (by decide)]
  obtain ⟨s, hs, rfl⟩ := zr_of (by omega) c1
  obtain ⟨p, hp, rfl⟩ := zr_of (by omega) c4
  have hk3 : k < 300 := by rw [zr_nI' (by omega) (by omega)] at c2; simpa using c2
  rw [zcl (by omega), zcl (by omega)] at hQ
  have h4 : A.1 6 s ≤ 4 := by
    rcases (show s = 0 ∨ s = 1 by omega) with rfl | rfl
    · exact h.1.1.2.2.2.1
    · exact h.1.1.2.2.2.2.1
  have ec : σ.1 3 s = nI (A.1 6 s) := by
    rcases (show s = 0 ∨ s = 1 by omega) with rfl | rfl
    · exact h.2.1.2.2.2.1
    · exact h.2.1.2.2.2.2.1
  have hv : vp_in (nI s) 2 := zin' hs (by omega)
  simp only [hv, true_and]
  rw [zcl (by omega), ec]
  simp (disch := omega) only [kk, zc]
  by_cases c5 : A.1 6 s < 4
  · rw [if_pos c5] at hQ ⊢
    have hv2 : vp_in (nI (s * 4 + A.1 6 s)) 8 := zin' (by omega) (by omega)
    simp only [hv2, true_and, p7_forget]
    refine hQ _ (h.ch (zI_come h.1 hs (by omega) c3 (by omega) c5) ?_ ?_ (zfg_ca _ _ _) (zfg_se _ _ _))
    · refine zDX.fr (σ := zput (zput (zput (zput σ 4 (s * 4 + A.1 6 s) (nI (k / 100))) 5 (s * 4 + A.1 6 s) (nI (k % 100))) 6 (s * 4 + A.1 6 s) (nI p)) 3 s (nI (A.1 6 s + 1))) ?_ (fun k hk => zfg_ne (by omega) (by omega))
      obtain ⟨g1, g2, g3, g4, g5, g6, g7, g8, g9⟩ := h.2.1
      have n2 : ¬ 2 = s := by omega
      have n3 : ¬ 3 = s := by omega
      have n4 : ¬ 4 = s := by omega
      have n5 : ¬ 5 = s := by omega
      refine ⟨by simpa [zput_at, zDu, zDcome] using g1, fun i hi => ?_, by simpa [zput_at, zDu, zDcome] using g3, ?_, ?_, by simpa [zput_at, zDu, zDcome, n2] using g6, by simpa [zput_at, zDu, zDcome, n3] using g7, by simpa [zput_at, zDu, zDcome, n4] using g8, by simpa [zput_at, zDu, zDcome, n5] using g9⟩
      · have := g2 i hi
        by_cases q : i = s * 4 + A.1 6 s
        · subst q; simp [zput_at, zDu, zDcome]
        · simpa [zput_at, zDu, zDcome, q] using this
      · by_cases q : 0 = s
        · subst q; simp [zput_at, zDu, zDcome]
        · simpa [zput_at, zDu, zDcome, q] using g4
      · by_cases q : 1 = s
        · subst q; simp [zput_at, zDu, zDcome]
        · simpa [zput_at, zDu, zDcome, q] using g5
    · intro a ha b c
      rw [zfg_ne b c, zput_ne (by omega), zput_ne (by omega), zput_ne (by omega), zput_ne (by omega)]
  · rw [if_neg c5] at hQ ⊢
    exact hQ σ h
def s_set (A : zA) (s o w v : Int32) : Int32 × zA := if zr s 2 = true ∧ zr o (A.1 6 s.toNatClampNeg) = true ∧ zr w 3 = true ∧ zr v (if w = 0 then 3 else if w = 1 then 24 else 10) = true then (nI (A.1 (1 + w.toNatClampNeg) (s.toNatClampNeg * 4 + o.toNatClampNeg)), (zDu A.1 (1 + w.toNatClampNeg) (s.toNatClampNeg * 4 + o.toNatClampNeg) v.toNatClampNeg, A.2)) else (-2, A)
theorem zI_set {A : zA} (h : zI A) {c i v : Nat} (hc : (c = 1 ∧ v < 3) ∨ (c = 2 ∧ v < 24) ∨ (c = 3 ∧ v < 10)) : zI (zDu A.1 c i v, A.2) := by
  obtain ⟨⟨o1, o2, o3, o4, o5, o6, o7, o8, o9⟩, hi, h3, h4, h5⟩ := h
  have m0 : ¬ 0 = c := by omega
  have m4 : ¬ 4 = c := by omega
  have m5 : ¬ 5 = c := by omega
  have m6 : ¬ 6 = c := by omega
  refine ⟨⟨by simpa [zDu, m0] using o1, fun k hk => ?_, by simpa [zDu, m4, m5] using o3, by simpa [zDu, m6] using o4, by simpa [zDu, m6] using o5, by simpa [zDu, m6] using o6, by simpa [zDu, m6] using o7, by simpa [zDu, m6] using o8, by simpa [zDu, m6] using o9⟩, ?_, h3, by simpa [zDu, m6] using h4, h5⟩
  · have := o2 k hk
    rcases hc with ⟨rfl, hv⟩ | ⟨rfl, hv⟩ | ⟨rfl, hv⟩
    · by_cases q : k = i
      · subst q; simp [zDu]; omega
      · simpa [zDu, q] using this
    · by_cases q : k = i
      · subst q; simp [zDu]; omega
      · simpa [zDu, q] using this
    · by_cases q : k = i
      · subst q; simp [zDu]; omega
      · simpa [zDu, q] using this
  · cases hk : A.2.1 with
    | none => simp [zimg]
    | some K => rw [hk] at hi; simpa [zimg, zDu, m4, m6] using hi
theorem x_set_do {A : zA} {σ : zSt} (h : RX A σ) {c i v : Nat} (hi : i < 8) (hc : (c = 1 ∧ v < 3) ∨ (c = 2 ∧ v < 24) ∨ (c = 3 ∧ v < 10)) : RX (zDu A.1 c i v, A.2) (zfg (zput σ (3 + c) i (nI v))) := by
  refine h.ch (zI_set h.1 hc) ?_ ?_ (zfg_ca _ _ _) (zfg_se _ _ _)
  · refine zDX.fr (σ := zput σ (3 + c) i (nI v)) ?_ (fun k hk => zfg_ne (by omega) (by omega))
    obtain ⟨g1, g2, g3, g4, g5, g6, g7, g8, g9⟩ := h.2.1
    rcases hc with ⟨rfl, hv⟩ | ⟨rfl, hv⟩ | ⟨rfl, hv⟩
    · refine ⟨by simpa [zput_at, zDu] using g1, fun k hk => ?_, by simpa [zput_at, zDu] using g3, by simpa [zput_at, zDu] using g4, by simpa [zput_at, zDu] using g5, by simpa [zput_at, zDu] using g6, by simpa [zput_at, zDu] using g7, by simpa [zput_at, zDu] using g8, by simpa [zput_at, zDu] using g9⟩
      have := g2 k hk
      by_cases q : k = i
      · subst q; simpa [zput_at, zDu] using this.2
      · simpa [zput_at, zDu, q] using this
    · refine ⟨by simpa [zput_at, zDu] using g1, fun k hk => ?_, by simpa [zput_at, zDu] using g3, by simpa [zput_at, zDu] using g4, by simpa [zput_at, zDu] using g5, by simpa [zput_at, zDu] using g6, by simpa [zput_at, zDu] using g7, by simpa [zput_at, zDu] using g8, by simpa [zput_at, zDu] using g9⟩
      have := g2 k hk
      by_cases q : k = i
      · subst q; simpa [zput_at, zDu] using ⟨this.1, this.2.2⟩
      · simpa [zput_at, zDu, q] using this
    · refine ⟨by simpa [zput_at, zDu] using g1, fun k hk => ?_, by simpa [zput_at, zDu] using g3, by simpa [zput_at, zDu] using g4, by simpa [zput_at, zDu] using g5, by simpa [zput_at, zDu] using g6, by simpa [zput_at, zDu] using g7, by simpa [zput_at, zDu] using g8, by simpa [zput_at, zDu] using g9⟩
      have := g2 k hk
      by_cases q : k = i
      · subst q; simpa [zput_at, zDu] using ⟨this.1, this.2.1⟩
      · simpa [zput_at, zDu, q] using this
  · intro a ha b c
    rw [zfg_ne b c, zput_ne (by omega)]
theorem x_set {A : zA} {σ : zSt} (h : RX A σ) (s o w v : Int32) (Q : Int32 → zSt → Prop) (hQ : ∀ σ', RX (s_set A s o w v).2 σ' → Q (s_set A s o w v).1 σ') : wX7_set s o w v σ Q := by
  unfold wX7_set
  unfold s_set at hQ
  have n01 : ¬ (0 : Int32) = 1 := by decide
  have n02 : ¬ (0 : Int32) = 2 := by decide
  have n12 : ¬ (1 : Int32) = 2 := by decide
  have n10 : ¬ (1 : Int32) = 0 := by decide
  have n20 : ¬ (2 : Int32) = 0 := by decide
  have n21 : ¬ (2 : Int32) = 1 := by decide
  have hn : ¬ (zr s 2 = true ∧ zr o (A.1 6 s.toNatClampNeg) = true ∧ zr w 3 = true ∧ zr v (if w = 0 then 3 else if w = 1 then 24 else 10) = true) → Q (-2) σ := fun c => by rw [if_neg c] at hQ; exact hQ σ h
  rw [p7_isOne s σ _ h.2.1 h.1.1 o]
  by_cases c1 : zr s 2 = true ∧ zr o (A.1 6 s.toNatClampNeg) = true
  rotate_left
  · rw [if_neg c1, if_pos rfl]; exact hn (fun q => c1 ⟨q.1, q.2.1⟩)
  rw [if_pos c1, if_neg (by decide)]
  obtain ⟨c1, c2⟩ := c1
  obtain ⟨s, hs, rfl⟩ := zr_of (by omega) c1
  rw [zcl (by omega)] at c2 hQ hn
  have h4 : A.1 6 s ≤ 4 := by
    rcases (show s = 0 ∨ s = 1 by omega) with rfl | rfl
    · exact h.1.1.2.2.2.1
    · exact h.1.1.2.2.2.2.1
  obtain ⟨o, ho, rfl⟩ := zr_of (by omega) c2
  rw [zcl (by omega)] at hQ
  have ei : nI s * 4 + nI o = nI (s * 4 + o) := by simp only [kk, zc]
  simp only [forall_eq, ei]
  have hi : s * 4 + o < 8 := by omega
  have hv : vp_in (nI (s * 4 + o)) 8 := zin' hi (by omega)
  have g2 := h.2.1.2.1 (s * 4 + o) hi
  by_cases w0 : w = 0
  · subst w0
    simp only [n01, n02, if_true, if_false] at hQ hn ⊢
    rw [p7_isBridge]
    by_cases c3 : zr v 3 = true
    · rw [if_pos ⟨c1, c2, by decide, c3⟩] at hQ
      rw [if_pos c3, if_neg (by decide)]
      obtain ⟨v, hvv, rfl⟩ := zr_of (by omega) c3
      rw [zcl (by omega)] at hQ
      unfold wX7_changed_4
      simp only [hv, true_and, forall_eq, p7_forget]
      rw [zcl (by omega), show σ.1 4 (s * 4 + o) = _ from g2.1]
      exact hQ _ (x_set_do h (c := 1) hi (Or.inl ⟨rfl, hvv⟩))
    · rw [if_neg c3, if_pos rfl]
      exact hn (fun q => c3 q.2.2.2)
  by_cases w1 : w = 1
  · subst w1
    simp only [n10, n12, if_true, if_false] at hQ hn ⊢
    rw [p7_isMinute]
    by_cases c3 : zr v 24 = true
    · rw [if_pos ⟨c1, c2, by decide, c3⟩] at hQ
      rw [if_pos c3, if_neg (by decide)]
      obtain ⟨v, hvv, rfl⟩ := zr_of (by omega) c3
      rw [zcl (by omega)] at hQ
      unfold wX7_changed_5
      simp only [hv, true_and, forall_eq, p7_forget]
      rw [zcl (by omega), show σ.1 5 (s * 4 + o) = _ from g2.2.1]
      exact hQ _ (x_set_do h (c := 2) hi (Or.inr (Or.inl ⟨rfl, hvv⟩)))
    · rw [if_neg c3, if_pos rfl]
      exact hn (fun q => c3 q.2.2.2)
  by_cases w2 : w = 2
  · subst w2
    simp only [n20, n21, if_true, if_false] at hQ hn ⊢
    rw [p7_isDigit]
    by_cases c3 : zr v 10 = true
    · rw [if_pos ⟨c1, c2, by decide, c3⟩] at hQ
      rw [if_pos c3, if_neg (by decide)]
      obtain ⟨v, hvv, rfl⟩ := zr_of (by omega) c3
      rw [zcl (by omega)] at hQ
      unfold wX7_changed_6
      simp only [hv, true_and, forall_eq, p7_forget]
      rw [zcl (by omega), show σ.1 6 (s * 4 + o) = _ from g2.2.2]
      exact hQ _ (x_set_do h (c := 3) hi (Or.inr (Or.inr ⟨rfl, hvv⟩)))
    · rw [if_neg c3, if_pos rfl]
      exact hn (fun q => c3 q.2.2.2)
  · simp only [w0, w1, w2, if_false] at hn ⊢
    refine hn (fun q => ?_)
    obtain ⟨j, hj, rfl⟩ := zr_of (by omega) q.2.2.1
    rcases (show j = 0 ∨ j = 1 ∨ j = 2 by omega) with rfl | rfl | rfl
    · exact w0 rfl
    · exact w1 rfl
    · exact w2 rfl
