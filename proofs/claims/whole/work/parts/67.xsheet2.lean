theorem p5_hn {σ : zSt} {s sz : Nat} (he : σ.1 (61 + s) 2 = nI sz) (hz : sz ≤ 40) {i n : Int32} (hc : ¬ (¬ i < 0 ∧ ¬ n < 0 ∧ i.toNatClampNeg + n.toNatClampNeg ≤ sz)) (Q : Int32 → zSt → Prop) : wX5_holds s i n σ Q = Q 0 σ := by rw [p5_holds he hz, if_neg hc]
def s_copy (A : zA) (s i o j n : Int32) : Int32 × zA :=
  if zr s 4 = true ∧ zr o 4 = true then
    (match A.2.2.2.2 s.toNatClampNeg, A.2.2.2.2 o.toNatClampNeg with
     | some q, some r => if q.1 = r.1 then (if (¬ i < 0 ∧ ¬ n < 0 ∧ i.toNatClampNeg + n.toNatClampNeg ≤ q.2.1) ∧ (¬ j < 0 ∧ ¬ n < 0 ∧ j.toNatClampNeg + n.toNatClampNeg ≤ r.2.1) then (n, (A.1, A.2.1, A.2.2.1, A.2.2.2.1, zSu A.2.2.2.2 o.toNatClampNeg (some (r.1, r.2.1, va_cpy q.2.2 r.2.2 i.toNatClampNeg j.toNatClampNeg n.toNatClampNeg)))) else (-12, A)) else (-13, A)
     | _, _ => (-11, A))
  else (-2, A)
theorem x_copy {A : zA} {σ : zSt} (h : RX A σ) (s i o j n : Int32) (Q : Int32 → zSt → Prop) (hQ : ∀ σ', RX (s_copy A s i o j n).2 σ' → Q (s_copy A s i o j n).1 σ') : wX7_copy s i o j n σ Q := by
  unfold wX7_copy
  unfold s_copy at hQ
  rw [p7_isSheet]
  by_cases c1 : zr s 4 = true
  rotate_left
  · rw [if_neg (fun q => c1 q.1)] at hQ
    rw [if_neg c1, if_pos rfl]; exact hQ σ h
  rw [if_pos c1, if_neg (by decide), p7_isSheet]
  by_cases c2 : zr o 4 = true
  rotate_left
  · rw [if_neg (fun q => c2 q.2)] at hQ
    rw [if_neg c2, if_pos rfl]; exact hQ σ h
  rw [if_pos ⟨c1, c2⟩] at hQ
  rw [if_pos c2, if_neg (by decide)]
  obtain ⟨s, hs, rfl⟩ := zr_of (by omega) c1
  obtain ⟨o, ho, rfl⟩ := zr_of (by omega) c2
  have hv : vp_in (nI s) 4 := zin' hs (by omega)
  have hv2 : vp_in (nI o) 4 := zin' ho (by omega)
  rw [zcl (by omega), zcl (by omega)] at hQ ⊢
  refine ⟨hv, hv2, ?_⟩
  have hs2 := h.2.2.2.2.2.1 s hs
  have ho2 := h.2.2.2.2.2.1 o ho
  cases hz : A.2.2.2.2 s with
  | none =>
    rw [hz] at hs2 hQ
    rw [if_pos hs2]; exact hQ σ h
  | some q =>
    rw [hz] at hs2 hQ
    obtain ⟨g1, g2, g3⟩ := hs2
    obtain ⟨b1, b2⟩ := h.1.2.2.2.2 s hs q hz
    rw [g1, if_neg (zsort_ne b1)]
    cases hy : A.2.2.2.2 o with
    | none =>
      rw [hy] at ho2 hQ
      rw [if_pos ho2]; exact hQ σ h
    | some r =>
      rw [hy] at ho2 hQ
      obtain ⟨f1, f2, f3⟩ := ho2
      obtain ⟨d1, d2⟩ := h.1.2.2.2.2 o ho r hy
      dsimp only at hQ
      rw [f1, if_neg (zsort_ne d1)]
      by_cases c3 : q.1 = r.1
      rotate_left
      · rw [if_neg c3] at hQ
        rw [if_neg (fun z => c3 ((nI_eq (by omega) (by omega)).mp z))]
        exact hQ σ h
      rw [if_pos c3] at hQ
      rw [if_pos (by rw [c3]), p5_holds g2 b2]
      by_cases c4 : ¬ i < 0 ∧ ¬ n < 0 ∧ i.toNatClampNeg + n.toNatClampNeg ≤ q.2.1
      rotate_left
      · rw [if_neg (fun z => c4 z.1)] at hQ
        rw [if_neg c4, if_pos rfl]; exact hQ σ h
      rw [if_pos c4, if_neg (by decide), p5_holds f2 d2]
      by_cases c5 : ¬ j < 0 ∧ ¬ n < 0 ∧ j.toNatClampNeg + n.toNatClampNeg ≤ r.2.1
      rotate_left
      · rw [if_neg (fun z => c5 z.2)] at hQ
        rw [if_neg c5, if_pos rfl]; exact hQ σ h
      rw [if_pos ⟨c4, c5⟩] at hQ
      rw [if_pos c5, if_neg (by decide)]
      refine ⟨⟨⟨c4.1, c5.1, c4.2.1⟩, by omega, by omega⟩, ?_⟩
      simp only [forall_eq]
      refine hQ _ (h.chS ?_ ?_ ?_)
      · intro k hk t ht
        unfold zSu at ht
        by_cases e : k = o
        · rw [if_pos e] at ht; cases ht; exact ⟨d1, d2⟩
        · rw [if_neg e] at ht; exact h.1.2.2.2.2 k hk t ht
      · intro k hk
        have hk2 := h.2.2.2.2.2.1 k hk
        have e3 : ¬ 61 + k = 65 + o := by omega
        by_cases e : k = o
        · subst e
          simp only [zSu, if_true]
          refine ⟨by unfold zcopy; rw [zrow_ne e3]; exact f1, by unfold zcopy; rw [zrow_ne e3]; exact f2, fun a ha => ?_⟩
          have ha : a < r.2.1 := ha
          unfold zcopy
          rw [zrow_at]
          unfold va_cpy
          by_cases z : j.toNatClampNeg ≤ a ∧ a < j.toNatClampNeg + n.toNatClampNeg
          · rw [if_pos z, if_pos z]; exact g3 _ (by omega)
          · rw [if_neg z, if_neg z]; exact f3 a ha
        · have e4 : ¬ 65 + k = 65 + o := by omega
          simp only [zSu, e, if_false]
          cases hx : A.2.2.2.2 k with
          | none => rw [hx] at hk2; simpa [zcopy, zrow_ne e3] using hk2
          | some r => rw [hx] at hk2; simpa [zcopy, zrow_ne e3, zrow_ne e4] using hk2
      · intro a ha
        exact zrow_ne (by omega)
/-- three by three -/
def zcm (c : Nat → Int32) (sz fr : Nat) : Nat → Nat → Nat → zA → Int32 × zA
  | 0, _, came, A => (nI came, A)
  | n + 1, k, came, A => if fr + 3 * k + 3 ≤ sz then (let p := s_come A (c (fr + 3 * k)) (c (fr + 3 * k + 1)) (c (fr + 3 * k + 2)); zcm c sz fr n (k + 1) (if p.1 < 0 then came else came + 1) p.2) else (-12, A)
def s_comes (A : zA) (s so f n : Int32) : Int32 × zA :=
  if zr s 4 = true ∧ zr so 3 = true ∧ zr n 9 = true then
    (match A.2.2.2.2 s.toNatClampNeg with
     | none => (-11, A)
     | some q => if nI q.1 = so then (if n = 0 then (0, A) else if f < 0 then (-12, A) else zcm q.2.2 q.2.1 f.toNatClampNeg n.toNatClampNeg 0 0 A) else (-13, A))
  else (-2, A)
theorem s_come_S (A : zA) (a b c : Int32) : (s_come A a b c).2.2 = A.2 := by
  unfold s_come
  split
  · split <;> rfl
  · rfl
theorem x_comes_L {s sz fr : Nat} {c : Nat → Int32} (hs : s < 4) (hsz : sz ≤ 40) (hfr : fr < 2147483648) (Q : Int32 → zSt → Prop) (K93 : zSt → Prop) (K140 : Int32 → zSt → Prop) (x1 : Nat) (hx : x1 ≤ 8) : ∀ (n k came f : Nat) (A : zA) (σ : zSt), RX A σ → (∃ so, A.2.2.2.2 s = some (so, sz, c)) → k + n = x1 → came ≤ k → n < f → (k = 0 ∨ fr + 3 * k ≤ sz) → (∀ σ', RX (zcm c sz fr n k came A).2 σ' → ((zcm c sz fr n k came A).1 = -12 → K93 σ') ∧ (¬ (zcm c sz fr n k came A).1 = -12 → K140 (zcm c sz fr n k came A).1 σ')) → wX7_comes_L67 Q K93 K140 (nI fr) (nI x1) s f (nI came) (nI k) σ := by
  intro n
  induction n with
  | zero =>
    intro k came f A σ h hS hk hc hf hk0 hQ
    obtain ⟨f, rfl⟩ : ∃ f', f = f' + 1 := ⟨f - 1, by omega⟩
    rw [wX7_comes_L67, if_pos (nI_le (by omega) (by omega))]
    refine (hQ σ h).2 ?_
    show ¬ nI came = -12
    intro e
    have := congrArg Int32.toInt e
    rw [nI_toInt (by omega)] at this
    rw [show (-12 : Int32).toInt = -12 from by decide] at this
    omega
  | succ n ih =>
    intro k came f A σ h hS hk hc hf hk0 hQ
    obtain ⟨f, rfl⟩ : ∃ f', f = f' + 1 := ⟨f - 1, by omega⟩
    rw [wX7_comes_L67, if_neg (nI_ge (by omega) (by omega))]
    obtain ⟨so, hS⟩ := hS
    have hk2 := h.2.2.2.2.2.1 s hs
    rw [hS] at hk2
    obtain ⟨g1, g2, g3⟩ := hk2
    have g2 : σ.1 (61 + s) 2 = nI sz := g2
    have g3 : ∀ j, j < sz → σ.1 (65 + s) j = c j := g3
    simp only [forall_eq]
    rw [zcm] at hQ
    have big : fr + 3 * k < 2147483648 := by omega
    have e1 : nI fr + 3 * nI k = nI (fr + 3 * k) := by simp only [kk, zc]
    rw [e1, p5_holds g2 hsz, zcl big, show (3 : Int32).toNatClampNeg = 3 from by decide]
    by_cases c1 : fr + 3 * k + 3 ≤ sz
    · have hc3 : ¬ nI (fr + 3 * k) < 0 ∧ ¬ (3 : Int32) < 0 ∧ fr + 3 * k + 3 ≤ sz := ⟨nI_pos big, by decide, c1⟩
      rw [if_pos hc3, if_neg (by decide)]
      have e2 : nI (fr + 3 * k) + 1 = nI (fr + 3 * k + 1) := by simp only [kk, zc]
      have e3 : nI (fr + 3 * k) + 2 = nI (fr + 3 * k + 2) := by simp only [kk, zc]
      rw [e2, e3, zcl (by omega), zcl (by omega)]
      refine ⟨zin' (by omega) (by omega), zin' (by omega) (by omega), zin' (by omega) (by omega), ?_⟩
      rw [g3 _ (show fr + 3 * k < sz by omega), g3 _ (show fr + 3 * k + 1 < sz by omega), g3 _ (show fr + 3 * k + 2 < sz by omega)]
      rw [if_pos c1] at hQ
      dsimp only at hQ
      refine x_come h _ _ _ _ (fun σ' hr => ?_)
      have hS' : ∃ so, (s_come A (c (fr + 3 * k)) (c (fr + 3 * k + 1)) (c (fr + 3 * k + 2))).2.2.2.2.2 s = some (so, sz, c) := ⟨so, by rw [s_come_S]; exact hS⟩
      have ek : nI k + 1 = nI (k + 1) := nI_1 k
      have ec : nI came + 1 = nI (came + 1) := nI_1 came
      by_cases c2 : (s_come A (c (fr + 3 * k)) (c (fr + 3 * k + 1)) (c (fr + 3 * k + 2))).1 < 0
      · rw [if_pos c2, ek]
        rw [if_pos c2] at hQ
        exact ih (k + 1) came f _ σ' hr hS' (by omega) (by omega) (by omega) (by omega) hQ
      · rw [if_neg c2, ek, ec]
        rw [if_neg c2] at hQ
        exact ih (k + 1) (came + 1) f _ σ' hr hS' (by omega) (by omega) (by omega) (by omega) hQ
    · rw [if_neg c1] at hQ
      have hc3 : ¬ (¬ nI (fr + 3 * k) < 0 ∧ ¬ (3 : Int32) < 0 ∧ fr + 3 * k + 3 ≤ sz) := fun z => c1 z.2.2
      rw [if_neg hc3, if_pos rfl]
      exact (hQ σ h).1 rfl
theorem x_comes {A : zA} {σ : zSt} (h : RX A σ) (s so f n : Int32) (Q : Int32 → zSt → Prop) (hQ : ∀ σ', RX (s_comes A s so f n).2 σ' → Q (s_comes A s so f n).1 σ') : wX7_comes s so f n σ Q := by
  unfold wX7_comes
  unfold s_comes at hQ
  have hn : ¬ (zr s 4 = true ∧ zr so 3 = true ∧ zr n 9 = true) → Q (-2) σ := fun c => by rw [if_neg c] at hQ; exact hQ σ h
  rw [p7_isSheet]
  by_cases c1 : zr s 4 = true
  rotate_left
  · rw [if_neg c1, if_pos rfl]; exact hn (fun q => c1 q.1)
  rw [if_pos c1, if_neg (by decide), p7_isSheetSort]
  by_cases c2 : zr so 3 = true
  rotate_left
  · rw [if_neg c2, if_pos rfl]; exact hn (fun q => c2 q.2.1)
  rw [if_pos c2, if_neg (by decide)]
  by_cases c3 : zr n 9 = true
  rotate_left
  · by_cases q : n < 0
    · rw [if_pos q]; exact hn (fun q => c3 q.2.2)
    · rw [if_neg q, if_neg]
      · exact hn (fun q => c3 q.2.2)
      · intro z
        rcases zr_neg c3 with y | y
        · exact q y
        · rw [Int32.le_iff_toInt_le, show (8 : Int32).toInt = 8 from by decide] at z
          rw [Int32.le_iff_toInt_le, nI_toInt (by omega)] at y
          omega
  rw [if_pos ⟨c1, c2, c3⟩] at hQ
  obtain ⟨s, hs, rfl⟩ := zr_of (by omega) c1
  obtain ⟨so, hso, rfl⟩ := zr_of (by omega) c2
  obtain ⟨n, hnn, rfl⟩ := zr_of (by omega) c3
  have hv : vp_in (nI s) 4 := zin' hs (by omega)
  rw [if_neg (nI_pos (by omega)), if_pos (show nI n ≤ (8 : Int32) from nI_le (a := n) (b := 8) (by omega) (by omega))]
  rw [zcl (by omega)] at hQ ⊢
  refine ⟨hv, ?_⟩
  have hk2 := h.2.2.2.2.2.1 s hs
  cases hz : A.2.2.2.2 s with
  | none =>
    rw [hz] at hk2 hQ
    rw [if_pos hk2]; exact hQ σ h
  | some q =>
    rw [hz] at hk2 hQ
    obtain ⟨g1, g2, g3⟩ := hk2
    obtain ⟨b1, b2⟩ := h.1.2.2.2.2 s hs q hz
    dsimp only at hQ
    rw [g1, if_neg (zsort_ne b1)]
    by_cases c4 : nI q.1 = nI so
    rotate_left
    · rw [if_neg c4] at hQ ⊢
      exact hQ σ h
    rw [if_pos c4] at hQ ⊢
    by_cases c5 : n = 0
    · subst c5
      rw [if_pos (by decide)] at hQ
      rw [show (300 : Nat) = 299 + 1 from rfl, wX7_comes_L67, if_pos (by decide)]
      exact hQ σ h
    have c5' : ¬ nI n = 0 := fun e => c5 ((nI_eq (a := n) (b := 0) (by omega) (by omega)).mp e)
    rw [if_neg c5'] at hQ
    by_cases c6 : f < 0
    · rw [if_pos c6] at hQ
      rw [show (300 : Nat) = 299 + 1 from rfl, wX7_comes_L67, if_neg]
      · simp only [forall_eq]
        have e0 : f + 3 * 0 = f := by
          rw [← Int32.toInt_inj]
          simp
        rw [e0, p5_hn g2 b2 (fun z => z.1 c6), if_pos rfl]
        exact hQ σ h
      · exact nI_ge (a := 0) (b := n) (by omega) (by omega)
    · rw [if_neg c6] at hQ
      obtain ⟨f, hf, rfl⟩ := nI_of c6
      rw [zcl hf, zcl (by omega)] at hQ
      refine x_comes_L hs b2 hf Q _ _ n (by omega) n 0 0 300 A σ h ⟨q.1, hz⟩ (by omega) (by omega) (by omega) (Or.inl rfl) (fun σ' hr => ⟨fun e => ?_, fun e => ?_⟩)
      · have := hQ σ' hr; rw [e] at this; exact this
      · exact hQ σ' hr
/-- kinds under kinds -/
def zund (x k : Nat) : Bool := x == k || (decide (k = 0) && decide (x ≠ 0)) || (decide (k = 1) && (x == 3 || x == 5)) || (decide (k = 2) && x == 4)
def s_taken (A : zA) (m k : Int32) : Int32 × zA := ((if zr k 6 = true then (if zr m (A.1 6 2) = true then (if zund (A.1 4 m.toNatClampNeg) k.toNatClampNeg = true then nI (A.1 5 m.toNatClampNeg) else -13) else -11) else -2), A)
theorem p7_taken_s {Q : Int32 → zSt → Prop} {K55 K77 : zSt → Prop} {x1 : Int32} {x k j n : Nat} {σ : zSt} (hx : x < 6) (hk : k < 6) (hj : j < 6) : wX7_taken_L34 Q K55 K77 x1 (nI k) (n + 1) (nI x) (nI j) σ = if x = k then K55 σ else wX7_taken_L34 Q K55 K77 x1 (nI k) n (zover x) (nI (j + 1)) σ := by
  rw [wX7_taken_L34]
  have hv : vp_in (nI x) 6 := zin' hx (by omega)
  simp (disch := omega) only [kk, zc, p7_isKind, hv, true_and, forall_eq]
  rw [if_neg (by omega), zr_nI hx (by omega), if_pos rfl, if_neg (by decide)]
theorem p7_taken_n {Q : Int32 → zSt → Prop} {K55 K77 : zSt → Prop} {x1 : Int32} {k j n : Nat} {σ : zSt} (hj : j < 6) : wX7_taken_L34 Q K55 K77 x1 (nI k) (n + 1) (-1) (nI j) σ = K77 σ := by
  rw [wX7_taken_L34]
  simp (disch := omega) only [kk, zc, p7_isKind]
  rw [if_neg (by omega), if_neg (show ¬ zr (-nI 1) 6 = true by decide), if_pos rfl]
theorem p7_taken {Q : Int32 → zSt → Prop} {K55 K77 : zSt → Prop} {x1 : Int32} {x k : Nat} {σ : zSt} (hx : x < 6) (hk : k < 6) : wX7_taken_L34 Q K55 K77 x1 (nI k) 300 (nI x) 0 σ = if zund x k = true then K55 σ else K77 σ := by
  have e0 : zover 0 = -1 := by decide
  have e1 : zover 1 = nI 0 := by decide
  have e2 : zover 2 = nI 0 := by decide
  have e3 : zover 3 = nI 1 := by decide
  have e4 : zover 4 = nI 2 := by decide
  have e5 : zover 5 = nI 1 := by decide
  rw [show (0 : Int32) = nI 0 from rfl, show (300 : Nat) = 296 + 1 + 1 + 1 + 1 from rfl]
  rcases (show x = 0 ∨ x = 1 ∨ x = 2 ∨ x = 3 ∨ x = 4 ∨ x = 5 by omega) with rfl | rfl | rfl | rfl | rfl | rfl <;> rw [p7_taken_s (by omega) hk (by omega)] <;> simp only [e0, e1, e2, e3, e4, e5] <;> rcases (show k = 0 ∨ k = 1 ∨ k = 2 ∨ k = 3 ∨ k = 4 ∨ k = 5 by omega) with rfl | rfl | rfl | rfl | rfl | rfl <;> simp (disch := omega) [zund, p7_taken_n, p7_taken_s, e0, e1, e2]
theorem x_taken {A : zA} {σ : zSt} (h : RX A σ) (m k : Int32) (Q : Int32 → zSt → Prop) (hQ : ∀ σ', RX (s_taken A m k).2 σ' → Q (s_taken A m k).1 σ') : wX7_taken m k σ Q := by
  have hq := hQ σ h
  unfold wX7_taken
  unfold s_taken at hq
  dsimp only at hq
  rw [p7_isKind]
  by_cases c1 : zr k 6 = true
  rotate_left
  · rw [if_neg c1] at hq ⊢
    rw [if_pos rfl]; exact hq
  rw [if_pos c1] at hq ⊢
  rw [if_neg (by decide), p7_isMaster m σ _ h.2.1 h.1.1]
  by_cases c2 : zr m (A.1 6 2) = true
  rotate_left
  · rw [if_neg c2] at hq ⊢
    rw [if_pos rfl]; exact hq
  rw [if_pos c2] at hq ⊢
  rw [if_neg (by decide)]
  have h4 := h.1.1.2.2.2.2.2.1
  obtain ⟨m, hm, rfl⟩ := zr_of (by omega) c2
  obtain ⟨k, hk, rfl⟩ := zr_of (by omega) c1
  have hv : vp_in (nI m) 4 := zin' (by omega) (by omega)
  have hb := h.1.1.2.2.1 m (by omega)
  have g := h.2.1.2.2.1 m (by omega)
  rw [zcl (by omega), zcl (by omega)] at hq
  rw [zcl (by omega)]
  simp only [hv, true_and, forall_eq]
  rw [show σ.1 7 m = nI (A.1 4 m) from g.1, p7_taken (by omega) hk, show σ.1 8 m = nI (A.1 5 m) from g.2]
  by_cases c3 : zund (A.1 4 m) k = true
  · rw [if_pos c3] at hq ⊢; exact hq
  · rw [if_neg c3] at hq ⊢; exact hq
