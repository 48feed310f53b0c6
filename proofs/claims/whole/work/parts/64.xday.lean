theorem zDu_ne {D : zD} {c j v a : Nat} (h : a ≠ c) : zDu D c j v a = D a := by funext b; simp [zDu, h]
theorem zDu_at {D : zD} {c j v a b : Nat} : zDu D c j v a b = if a = c ∧ b = j then v else D a b := rfl
def s_count (A : zA) (x : Int32) : Int32 × zA := ((if x = 0 then nI (A.1 6 0) else if x = 1 then nI (A.1 6 1) else if x = 2 then nI (A.1 6 2) else if x = 3 then nI (A.1 6 3) else if x = 4 then nI (A.1 6 4) else if x = 5 then nI A.2.2.2.1.1 else if x = 6 then nI A.2.2.1.1 else if x = 7 then nI (A.1 6 5) else -2), A)
theorem x_count {A : zA} {σ : zSt} (h : RX A σ) (x : Int32) (Q : Int32 → zSt → Prop) (hQ : ∀ σ', RX (s_count A x).2 σ' → Q (s_count A x).1 σ') : wX7_count x σ Q := by
  have hq := hQ σ h
  obtain ⟨-, ⟨-, -, -, g1, g2, g3, g4, g5, g6⟩, -, ⟨g7, -⟩, ⟨g8, -⟩, -⟩ := h
  unfold wX7_count
  unfold s_count at hq
  have g1 : σ.1 3 0 = _ := g1
  have g2 : σ.1 3 1 = _ := g2
  have g3 : σ.1 1 7 = _ := g3
  have g4 : σ.1 1 8 = _ := g4
  have g5 : σ.1 1 9 = _ := g5
  have g6 : σ.1 1 10 = _ := g6
  rw [g1, g2, g3, g4, g5, g6, g7, g8]
  dsimp only at hq
  split
  · rename_i c; rw [if_pos c] at hq; exact hq
  rename_i c; rw [if_neg c] at hq
  split
  · rename_i c; rw [if_pos c] at hq; exact hq
  rename_i c; rw [if_neg c] at hq
  split
  · rename_i c; rw [if_pos c] at hq; exact hq
  rename_i c; rw [if_neg c] at hq
  split
  · rename_i c; rw [if_pos c] at hq; exact hq
  rename_i c; rw [if_neg c] at hq
  split
  · rename_i c; rw [if_pos c] at hq; exact hq
  rename_i c; rw [if_neg c] at hq
  split
  · rename_i c; rw [if_pos c] at hq; exact hq
  rename_i c; rw [if_neg c] at hq
  split
  · rename_i c; rw [if_pos c] at hq; exact hq
  rename_i c; rw [if_neg c] at hq
  split
  · rename_i c; rw [if_pos c] at hq; exact hq
  · rename_i c; rw [if_neg c] at hq; exact hq
def zTu (T : Nat × (Nat → Nat)) (v : Nat) : Nat × (Nat → Nat) := (T.1 + 1, fun j => if j = T.1 then v else T.2 j)
def s_feed (A : zA) (x : Int32) : Int32 × zA := if zr x 256 = true then (if A.2.2.1.1 < 160 then (nI (A.2.2.1.1 + 1), (A.1, A.2.1, zTu A.2.2.1 x.toNatClampNeg, A.2.2.2)) else (-4, A)) else (-2, A)
theorem zI_feed {A : zA} (h : zI A) {v : Nat} (hv : v < 256) (ht : A.2.2.1.1 < 160) : zI (A.1, A.2.1, zTu A.2.2.1 v, A.2.2.2) := by
  obtain ⟨h1, h2, h3, h4, h5⟩ := h
  refine ⟨h1, h2, ⟨by show A.2.2.1.1 + 1 ≤ 160; omega, fun j hj => ?_⟩, h4, h5⟩
  have hj : j < A.2.2.1.1 + 1 := hj
  show (if j = A.2.2.1.1 then v else A.2.2.1.2 j) ≤ 255
  by_cases q : j = A.2.2.1.1
  · rw [if_pos q]; omega
  · rw [if_neg q]; exact h3.2 j (by omega)
theorem x_feed {A : zA} {σ : zSt} (h : RX A σ) (x : Int32) (Q : Int32 → zSt → Prop) (hQ : ∀ σ', RX (s_feed A x).2 σ' → Q (s_feed A x).1 σ') : wX7_feed x σ Q := by
  unfold wX7_feed
  unfold s_feed at hQ
  have ht := h.1.2.2.1.1
  have e4 : σ.1 0 4 = nI A.2.2.1.1 := h.2.2.2.1.1
  by_cases h1 : zr x 256 = true
  · rw [if_pos h1] at hQ
    obtain ⟨j, hj, rfl⟩ := zr_of (by omega) h1
    rw [zcl (by omega)] at hQ
    rw [if_neg (nI_pos (by omega)), if_pos (show nI j ≤ (255 : Int32) from nI_le (a := j) (b := 255) (by omega) (by omega)), e4]
    simp (disch := omega) only [kk, zc]
    by_cases h2 : A.2.2.1.1 < 160
    · rw [if_pos h2] at hQ ⊢
      refine ⟨zin' h2 (by omega), ?_⟩
      simp only [forall_eq]
      have e5 : (zput σ 17 A.2.2.1.1 (nI j)).1 0 4 = nI A.2.2.1.1 := by rw [zput_ne (by decide)]; exact e4
      rw [e5, zc.2.2.2.1]
      rw [show (zput (zput σ 17 A.2.2.1.1 (nI j)) 0 4 (nI (A.2.2.1.1 + 1))).1 0 4 = nI (A.2.2.1.1 + 1) by simp [zput_at]]
      refine hQ _ ?_
      obtain ⟨g1, g2, g3, g4, g5, g6, g7, g8⟩ := h
      have en : ∀ o, o ≠ 0 → o ≠ 17 → (zput (zput σ 17 A.2.2.1.1 (nI j)) 0 4 (nI (A.2.2.1.1 + 1))).1 o = σ.1 o := fun o a b => by rw [zput_ne a, zput_ne b]
      have e0 : ∀ k, k ≠ 4 → (zput (zput σ 17 A.2.2.1.1 (nI j)) 0 4 (nI (A.2.2.1.1 + 1))).1 0 k = σ.1 0 k := fun k hk => by simp [zput_at, hk]
      refine ⟨zI_feed g1 hj h2, g2.fr (fun k hk => en _ (by omega) (by omega)), g3.fr (e0 2 (by decide)) (fun k hk => en _ (by omega) (by omega)), ⟨by simp [zput_at, zTu], fun k hk => ?_⟩, g5.fr (e0 6 (by decide)) (fun k hk => en _ (by omega) (by omega)) (fun k hk => en _ (by omega) (by omega)) g1.2.2.2.1.2.1, g6.fr (fun k hk => en _ (by omega) (by omega)) (fun k hk => en _ (by omega) (by omega)), g7.fr (en _ (by decide) (by decide)), g8.fr (en _ (by decide) (by decide)) (en _ (by decide) (by decide))⟩
      have hk : k < A.2.2.1.1 + 1 := hk
      show _ = nI (if k = A.2.2.1.1 then j else A.2.2.1.2 k)
      by_cases q : k = A.2.2.1.1
      · simp [zput_at, q]
      · simp [zput_at, q, g4.2 k (by omega)]
    · rw [if_neg h2] at hQ ⊢
      exact hQ σ h
  · rw [if_neg h1] at hQ
    by_cases q : x < 0
    · rw [if_pos q]; exact hQ σ h
    · rw [if_neg q, if_neg]
      · exact hQ σ h
      · intro q2
        rcases zr_neg h1 with q3 | q3
        · exact q q3
        · rw [Int32.le_iff_toInt_le, nI_toInt (by omega)] at q3
          rw [Int32.le_iff_toInt_le, show ((255 : Int32)).toInt = 255 from by decide] at q2
          omega
def s_force (A : zA) (x : Int32) : Int32 × zA := if zr x A.2.2.2.1.1 = true then (nI (A.1 6 5), (zDu A.1 6 5 x.toNatClampNeg, A.2)) else (-2, A)
theorem zI_force {A : zA} (h : zI A) {v : Nat} (hv : v < A.2.2.2.1.1) : zI (zDu A.1 6 5 v, A.2) := by
  obtain ⟨⟨o1, o2, o3, o4, o5, o6, o7, o8, o9⟩, h2, h3, h4, h5⟩ := h
  refine ⟨⟨by simpa [zDu] using o1, by simpa [zDu] using o2, by simpa [zDu] using o3, by simpa [zDu] using o4, by simpa [zDu] using o5, by simpa [zDu] using o6, by simpa [zDu] using o7, by simpa [zDu] using o8, ?_⟩, ?_, h3, ⟨h4.1, h4.2.1, ?_⟩, h5⟩
  · have := h4.2.1; simp [zDu]; omega
  · cases hk : A.2.1 with
    | none => simp [zimg]
    | some K => rw [hk] at h2; simpa [zimg, zDu] using h2
  · simpa [zDu] using hv
theorem x_force {A : zA} {σ : zSt} (h : RX A σ) (x : Int32) (Q : Int32 → zSt → Prop) (hQ : ∀ σ', RX (s_force A x).2 σ' → Q (s_force A x).1 σ') : wX7_force x σ Q := by
  unfold wX7_force
  unfold s_force at hQ
  have hc := h.1.2.2.2.1
  have e6 : σ.1 0 6 = nI A.2.2.2.1.1 := h.2.2.2.2.1.1
  have e10 : σ.1 1 10 = nI (A.1 6 5) := h.2.1.2.2.2.2.2.2.2.2
  by_cases h1 : zr x A.2.2.2.1.1 = true
  · rw [if_pos h1] at hQ
    obtain ⟨j, hj, rfl⟩ := zr_of (by omega) h1
    rw [zcl (by omega)] at hQ
    rw [if_neg (nI_pos (by omega)), e6, if_pos (nI_lt hj (by omega)), e10]
    simp only [forall_eq, p7_forget]
    refine hQ _ (h.ch (zI_force h.1 hj) ?_ ?_ (zfg_ca _ _ _) (zfg_se _ _ _))
    · refine zDX.fr (σ := zput σ 1 10 (nI j)) ?_ (fun k hk => zfg_ne (by omega) (by omega))
      obtain ⟨g1, g2, g3, g4, g5, g6, g7, g8, g9⟩ := h.2.1
      exact ⟨by simpa [zput_at, zDu] using g1, by simpa [zput_at, zDu] using g2, by simpa [zput_at, zDu] using g3, by simpa [zput_at, zDu] using g4, by simpa [zput_at, zDu] using g5, by simpa [zput_at, zDu] using g6, by simpa [zput_at, zDu] using g7, by simpa [zput_at, zDu] using g8, by simp [zput_at, zDu]⟩
    · intro o ho a b
      rw [zfg_ne a b, zput_ne (by omega)]
  · rw [if_neg h1] at hQ
    by_cases q : x < 0
    · rw [if_pos q]; exact hQ σ h
    · rw [if_neg q, e6, if_neg]
      · exact hQ σ h
      · intro q2
        rcases zr_neg h1 with q3 | q3
        · exact q q3
        · rw [Int32.le_iff_toInt_le] at q3
          rw [Int32.lt_iff_toInt_lt] at q2
          omega
def s_master (A : zA) (k n : Int32) : Int32 × zA := if zr k 6 = true ∧ zr n 10 = true then (if A.1 6 2 < 4 then (nI (A.1 6 2), (zDu (zDu (zDu A.1 4 (A.1 6 2) k.toNatClampNeg) 5 (A.1 6 2) n.toNatClampNeg) 6 2 (A.1 6 2 + 1), A.2)) else (-4, A)) else (-2, A)
theorem zI_master {A : zA} (h : zI A) {k n : Nat} (hk : k < 6) (hn : n < 10) (hm : A.1 6 2 < 4) : zI (zDu (zDu (zDu A.1 4 (A.1 6 2) k) 5 (A.1 6 2) n) 6 2 (A.1 6 2 + 1), A.2) := by
  obtain ⟨⟨o1, o2, o3, o4, o5, o6, o7, o8, o9⟩, h2, h3, h4, h5⟩ := h
  refine ⟨⟨by simpa [zDu] using o1, by simpa [zDu] using o2, fun x hx => ?_, by simpa [zDu] using o4, by simpa [zDu] using o5, ?_, by simpa [zDu] using o7, by simpa [zDu] using o8, by simpa [zDu] using o9⟩, ?_, h3, by simpa [zDu] using h4, h5⟩
  · have := o3 x hx
    by_cases q : x = A.1 6 2
    · subst q; simp [zDu]; omega
    · simpa [zDu, q] using this
  · simp [zDu]; omega
  · cases hk2 : A.2.1 with
    | none => simp [zimg]
    | some K =>
      rw [hk2] at h2
      obtain ⟨a, b, c, d⟩ := h2
      refine ⟨a, ?_, fun x hx => ?_, d⟩
      · simp [zDu]; omega
      · have : ¬ x = A.1 6 2 := by omega
        simpa [zDu, this] using c x hx
theorem x_master {A : zA} {σ : zSt} (h : RX A σ) (k n : Int32) (Q : Int32 → zSt → Prop) (hQ : ∀ σ', RX (s_master A k n).2 σ' → Q (s_master A k n).1 σ') : wX7_master k n σ Q := by
  unfold wX7_master
  unfold s_master at hQ
  have e7 : σ.1 1 7 = nI (A.1 6 2) := h.2.1.2.2.2.2.2.1
  have h4 := h.1.1.2.2.2.2.2.1
  rw [p7_isKind]
  by_cases h1 : zr k 6 = true
  · rw [if_pos h1, if_neg (by decide), p7_isDigit]
    by_cases h2 : zr n 10 = true
    · rw [if_pos ⟨h1, h2⟩] at hQ
      rw [if_pos h2, if_neg (by decide)]
      obtain ⟨k, hk, rfl⟩ := zr_of (by omega) h1
      obtain ⟨n, hn, rfl⟩ := zr_of (by omega) h2
      rw [zcl (by omega), zcl (by omega)] at hQ
      simp only [forall_eq, e7]
      simp (disch := omega) only [kk, zc]
      by_cases h3 : A.1 6 2 < 4
      · rw [if_pos h3] at hQ ⊢
        have hv : vp_in (nI (A.1 6 2)) 4 := zin' h3 (by omega)
        simp only [hv, true_and]
        refine hQ _ (h.ch (zI_master h.1 hk hn h3) ?_ ?_ ?_ ?_)
        · obtain ⟨g1, g2, g3, g4, g5, g6, g7, g8, g9⟩ := h.2.1
          refine ⟨by simpa [zput_at, zDu] using g1, by simpa [zput_at, zDu] using g2, fun x hx => ?_, by simpa [zput_at, zDu] using g4, by simpa [zput_at, zDu] using g5, by simp [zput_at, zDu], by simpa [zput_at, zDu] using g7, by simpa [zput_at, zDu] using g8, by simpa [zput_at, zDu] using g9⟩
          have := g3 x hx
          by_cases q : x = A.1 6 2
          · subst q; simp [zput_at, zDu]
          · simpa [zput_at, zDu, q] using this
        · intro o ho _ _
          rw [zput_ne (by omega), zput_ne (by omega), zput_ne (by omega)]
        · exact (h.2.2.2.2.2.2.1.fr (by rw [zput_ne (by decide), zput_ne (by decide), zput_ne (by decide)])).cg rfl rfl rfl rfl rfl rfl
        · exact (h.2.2.2.2.2.2.2.fr (by rw [zput_ne (by decide), zput_ne (by decide), zput_ne (by decide)]) (by rw [zput_ne (by decide), zput_ne (by decide), zput_ne (by decide)])).cg rfl rfl rfl rfl rfl rfl rfl
      · rw [if_neg h3] at hQ ⊢
        exact hQ σ h
    · rw [if_neg (fun q => h2 q.2)] at hQ
      rw [if_neg h2, if_pos rfl]
      exact hQ σ h
  · rw [if_neg (fun q => h1 q.1)] at hQ
    rw [if_neg h1, if_pos rfl]
    exact hQ σ h
def s_law (A : zA) (w o v : Int32) : Int32 × zA :=
  if w = 0 then (if zr v 5 = true ∧ ¬ v = 0 then (nI (A.1 6 3), (zDu A.1 6 3 v.toNatClampNeg, A.2)) else (-2, A))
  else if w = 1 then (if zr v 10 = true ∧ ¬ v = 0 then (nI (A.1 6 4), (zDu A.1 6 4 v.toNatClampNeg, A.2)) else (-2, A))
  else if w = 2 then (if zr o (A.1 6 2) = true ∧ zr v 10 = true then (nI (A.1 5 o.toNatClampNeg), (zDu A.1 5 o.toNatClampNeg v.toNatClampNeg, A.2)) else (-2, A))
  else (-2, A)
theorem zlaw_r {v : Int32} (n : Nat) (hn : n < 2147483647) : (v < 1 ∨ nI n < v) ↔ ¬ (zr v (n + 1) = true ∧ ¬ v = 0) := by
  constructor
  · rintro (q | q) ⟨h1, h2⟩
    · obtain ⟨j, hj, rfl⟩ := zr_of (by omega) h1
      have : j < 1 := by
        rw [show (1 : Int32) = nI 1 from rfl, nI_ltI (by omega) (by omega)] at q; exact q
      exact h2 (by rw [show j = 0 by omega]; rfl)
    · obtain ⟨j, hj, rfl⟩ := zr_of (by omega) h1
      rw [nI_ltI (by omega) (by omega)] at q; omega
  · intro h
    by_cases h1 : zr v (n + 1) = true
    · obtain ⟨j, hj, rfl⟩ := zr_of (by omega) h1
      left
      have : nI j = 0 := Classical.byContradiction fun q => h ⟨h1, q⟩
      rw [this]; decide
    · rcases zr_neg h1 with q | q
      · left; rw [Int32.lt_iff_toInt_lt] at q ⊢; rw [show (1 : Int32).toInt = 1 from by decide]; rw [show (0 : Int32).toInt = 0 from by decide] at q; omega
      · right; rw [Int32.le_iff_toInt_le, nI_toInt (by omega)] at q; rw [Int32.lt_iff_toInt_lt, nI_toInt (by omega)]; omega
theorem zI_hold {A : zA} (h : zI A) {v : Nat} (h1 : 1 ≤ v) (h2 : v ≤ 4) : zI (zDu A.1 6 3 v, A.2) := by
  obtain ⟨⟨o1, o2, o3, o4, o5, o6, o7, o8, o9⟩, h2, h3, h4, h5⟩ := h
  refine ⟨⟨by simpa [zDu] using o1, by simpa [zDu] using o2, by simpa [zDu] using o3, by simpa [zDu] using o4, by simpa [zDu] using o5, by simpa [zDu] using o6, by simp [zDu]; omega, by simpa [zDu] using o8, by simpa [zDu] using o9⟩, ?_, h3, by simpa [zDu] using h4, h5⟩
  cases hk : A.2.1 with
  | none => simp [zimg]
  | some K => rw [hk] at h2; simpa [zimg, zDu] using h2
theorem zI_walk {A : zA} (h : zI A) {v : Nat} (h1 : 1 ≤ v) (h2 : v ≤ 9) : zI (zDu A.1 6 4 v, A.2) := by
  obtain ⟨⟨o1, o2, o3, o4, o5, o6, o7, o8, o9⟩, h2, h3, h4, h5⟩ := h
  refine ⟨⟨by simpa [zDu] using o1, by simpa [zDu] using o2, by simpa [zDu] using o3, by simpa [zDu] using o4, by simpa [zDu] using o5, by simpa [zDu] using o6, by simpa [zDu] using o7, by simp [zDu]; omega, by simpa [zDu] using o9⟩, ?_, h3, by simpa [zDu] using h4, h5⟩
  cases hk : A.2.1 with
  | none => simp [zimg]
  | some K => rw [hk] at h2; simpa [zimg, zDu] using h2
theorem zI_num {A : zA} (h : zI A) {x v : Nat} (h2 : v ≤ 9) : zI (zDu A.1 5 x v, A.2) := by
  obtain ⟨⟨o1, o2, o3, o4, o5, o6, o7, o8, o9⟩, hi, h3, h4, h5⟩ := h
  refine ⟨⟨by simpa [zDu] using o1, by simpa [zDu] using o2, fun k hk => ?_, by simpa [zDu] using o4, by simpa [zDu] using o5, by simpa [zDu] using o6, by simpa [zDu] using o7, by simpa [zDu] using o8, by simpa [zDu] using o9⟩, ?_, h3, by simpa [zDu] using h4, h5⟩
  · have := o3 k hk
    by_cases q : k = x
    · subst q; simp [zDu]; omega
    · simpa [zDu, q] using this
  · cases hk : A.2.1 with
    | none => simp [zimg]
    | some K => rw [hk] at hi; simpa [zimg, zDu] using hi
