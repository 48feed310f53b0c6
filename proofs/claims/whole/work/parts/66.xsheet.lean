abbrev zS : Type := Nat → Option (Nat × Nat × (Nat → Int32))
def zSu (S : zS) (s : Nat) (q : Option (Nat × Nat × (Nat → Int32))) : zS := fun k => if k = s then q else S k
theorem RX.chS {A : zA} {σ σ' : zSt} {S' : zS} (h : RX A σ) (hI : ∀ s, s < 4 → ∀ q, S' s = some q → q.1 ≤ 2 ∧ q.2.1 ≤ 40) (hS : xSh S' σ') (e : ∀ o, o < 61 ∨ 69 ≤ o → σ'.1 o = σ.1 o) : RX (A.1, A.2.1, A.2.2.1, A.2.2.2.1, S') σ' := by
  obtain ⟨h1, h2, h3, h4, h5, h6, h7, h8⟩ := h
  exact ⟨⟨h1.1, h1.2.1, h1.2.2.1, h1.2.2.2.1, hI⟩, h2.fr (fun k hk => e _ (by omega)), h3.fr (by rw [e 0 (by omega)]) (fun k hk => e _ (by omega)), h4.fr (by rw [e 0 (by omega)]) (e _ (by omega)), h5.fr (by rw [e 0 (by omega)]) (fun i hi => e _ (by omega)) (fun i hi => e _ (by omega)) h1.2.2.2.1.2.1, hS, h7.fr (e _ (by omega)), h8.fr (e _ (by omega)) (e _ (by omega))⟩
def s_sheet (A : zA) (s so n : Int32) : Int32 × zA :=
  if zr s 4 = true then
    (if so = -1 then (1, (A.1, A.2.1, A.2.2.1, A.2.2.2.1, zSu A.2.2.2.2 s.toNatClampNeg none))
     else if zr so 3 = true then (if n ≤ 40 then (if 0 ≤ n then (1, (A.1, A.2.1, A.2.2.1, A.2.2.2.1, zSu A.2.2.2.2 s.toNatClampNeg (some (so.toNatClampNeg, n.toNatClampNeg, fun _ => 0)))) else (-14, A)) else (-2, A)) else (-2, A))
  else (-2, A)
theorem x_become {A : zA} {σ : zSt} (h : RX A σ) {s : Nat} (hs : s < 4) (so n : Int32) (q : Option (Nat × Nat × (Nat → Int32))) (hq : (q = none ∧ so = -1) ∨ ∃ k m, k ≤ 2 ∧ m ≤ 40 ∧ so = nI k ∧ n = nI m ∧ q = some (k, m, fun _ => 0)) (Q : zSt → Prop) (hQ : ∀ σ', RX (A.1, A.2.1, A.2.2.1, A.2.2.2.1, zSu A.2.2.2.2 s q) σ' → Q σ') : wX5_become s so n σ Q := by
  unfold wX5_become
  simp only [forall_eq]
  refine hQ _ (h.chS ?_ ?_ ?_)
  · intro k hk r hr
    unfold zSu at hr
    by_cases e : k = s
    · rw [if_pos e] at hr
      rcases hq with ⟨rfl, _⟩ | ⟨a, b, ha, hb, _, _, rfl⟩
      · cases hr
      · cases hr; exact ⟨ha, hb⟩
    · rw [if_neg e] at hr; exact h.1.2.2.2.2 k hk r hr
  · intro k hk
    have hk2 := h.2.2.2.2.2.1 k hk
    by_cases e : k = s
    · subst e
      rcases hq with ⟨rfl, rfl⟩ | ⟨a, b, ha, hb, rfl, rfl, rfl⟩
      · simp [zSu, zput_at]
      · simp only [zSu, if_true]
        refine ⟨by simp [zput_at], ?_, fun j hj => ?_⟩
        · have e40 : (if (40 : Int32) < nI b then 40 else nI b) = nI b := by
            rw [if_neg]; intro z; rw [show (40 : Int32) = nI 40 from rfl, nI_ltI (by omega) (by omega)] at z; omega
          rw [e40]
          have e0 : (if (0 : Int32) < nI b then nI b else 0) = nI b := by
            by_cases z : b = 0
            · subst z; simp [nI_0]
            · rw [if_pos]; rw [show (0 : Int32) = nI 0 from rfl, nI_ltI (by omega) (by omega)]; omega
          rw [e0]
          simp [zput_at]
        · have : ¬ 65 + k = 61 + k := by omega
          rw [zput_ne (by omega), zput_ne (by omega)]
          have hj : j < b := hj
          simp [zfill, zrow, show j < 40 by omega]
    · have e1 : ¬ 61 + k = 61 + s := by omega
      have e2 : ¬ 65 + k = 61 + s := by omega
      have e3 : ¬ 61 + k = 65 + s := by omega
      have e4 : ¬ 65 + k = 65 + s := by omega
      have z1 : (zput (zput (zfill σ (65 + s) 40 0) (61 + s) 1 so) (61 + s) 2 (if (0 : Int32) < (if (40 : Int32) < n then 40 else n) then (if (40 : Int32) < n then 40 else n) else 0)).1 (61 + k) = σ.1 (61 + k) := by rw [zput_ne e1, zput_ne e1]; exact zrow_ne e3
      have z2 : (zput (zput (zfill σ (65 + s) 40 0) (61 + s) 1 so) (61 + s) 2 (if (0 : Int32) < (if (40 : Int32) < n then 40 else n) then (if (40 : Int32) < n then 40 else n) else 0)).1 (65 + k) = σ.1 (65 + k) := by rw [zput_ne e2, zput_ne e2]; exact zrow_ne e4
      simp only [zSu, e, if_false]
      cases hz : A.2.2.2.2 k with
      | none => rw [hz] at hk2; simpa [z1] using hk2
      | some r => rw [hz] at hk2; simpa [z1, z2] using hk2
  · intro o ho
    rw [zput_ne (by omega), zput_ne (by omega)]
    exact zrow_ne (by omega)
theorem x_sheet {A : zA} {σ : zSt} (h : RX A σ) (s so n : Int32) (Q : Int32 → zSt → Prop) (hQ : ∀ σ', RX (s_sheet A s so n).2 σ' → Q (s_sheet A s so n).1 σ') : wX7_sheet s so n σ Q := by
  unfold wX7_sheet
  unfold s_sheet at hQ
  rw [p7_isSheet]
  by_cases c1 : zr s 4 = true
  rotate_left
  · rw [if_neg c1] at hQ ⊢
    rw [if_pos rfl]; exact hQ σ h
  rw [if_pos c1] at hQ ⊢
  rw [if_neg (by decide)]
  obtain ⟨s, hs, rfl⟩ := zr_of (by omega) c1
  have hv : vp_in (nI s) 4 := zin' hs (by omega)
  have ez : (nI s).toNatClampNeg = s := zcl (by omega)
  by_cases c2 : so = -1
  · simp only [c2, if_true, hv, true_and] at hQ ⊢
    rw [ez] at hQ ⊢
    exact x_become h hs _ _ none (Or.inl ⟨rfl, rfl⟩) _ (fun σ' hr => hQ σ' hr)
  · simp only [c2, if_false, hv, true_and] at hQ ⊢
    rw [p7_isSheetSort]
    by_cases c3 : zr so 3 = true
    · rw [if_pos c3] at hQ ⊢
      rw [if_neg (by decide)]
      by_cases c4 : n ≤ 40
      · rw [if_pos c4] at hQ ⊢
        by_cases c5 : 0 ≤ n
        · rw [if_pos c5] at hQ ⊢
          obtain ⟨k, hk, rfl⟩ := zr_of (by omega) c3
          obtain ⟨m, hm, rfl⟩ := nI_of (x := n) (by rw [Int32.lt_iff_toInt_lt]; rw [Int32.le_iff_toInt_le] at c5; omega)
          have hm40 : m ≤ 40 := by rw [show (40 : Int32) = nI 40 from rfl, nI_leI (by omega) (by omega)] at c4; exact c4
          rw [ez, zcl (by omega), zcl (by omega)] at hQ
          rw [ez]
          exact x_become h hs _ _ _ (Or.inr ⟨k, m, by omega, hm40, rfl, rfl, rfl⟩) _ (fun σ' hr => hQ σ' hr)
        · rw [if_neg c5] at hQ ⊢
          exact hQ σ h
      · rw [if_neg c4] at hQ ⊢
        exact hQ σ h
    · rw [if_neg c3] at hQ ⊢
      rw [if_pos rfl]
      exact hQ σ h
/-- a place in a sheet -/
theorem p5_holds {σ : zSt} {s sz : Nat} (he : σ.1 (61 + s) 2 = nI sz) (hz : sz ≤ 40) (i n : Int32) (Q : Int32 → zSt → Prop) : wX5_holds s i n σ Q = Q (if ¬ i < 0 ∧ ¬ n < 0 ∧ i.toNatClampNeg + n.toNatClampNeg ≤ sz then 1 else 0) σ := by
  unfold wX5_holds
  by_cases c1 : i < 0
  · rw [if_pos c1, if_neg (fun q => q.1 c1)]
  · by_cases c2 : n < 0
    · rw [if_neg c1, if_pos c2, if_neg (fun q => q.2.1 c2)]
    · rw [if_neg c1, if_neg c2, he]
      obtain ⟨a, ha, rfl⟩ := nI_of c1
      obtain ⟨b, hb, rfl⟩ := nI_of c2
      rw [zcl ha, zcl hb]
      have e : (nI sz - nI b < nI a) ↔ ¬ a + b ≤ sz := by
        rw [Int32.lt_iff_toInt_lt, nI_toInt ha]
        have : (nI sz - nI b).toInt = (sz : Int) - b := by
          rw [Int32.toInt_sub, nI_toInt (by omega), nI_toInt hb]
          rw [Int.bmod_eq_of_le] <;> omega
        rw [this]; omega
      by_cases c3 : a + b ≤ sz
      · rw [if_neg (fun q => (e.mp q) c3), if_pos ⟨c1, c2, c3⟩]
      · rw [if_pos (e.mpr c3), if_neg (fun q => c3 q.2.2)]
def zconv (so : Nat) (v : Int32) : Int32 := if so = 0 then v.toInt8.toInt32 else if so = 1 then v.toInt16.toInt32 else v
def s_cell (A : zA) (s i v : Int32) : Int32 × zA :=
  if zr s 4 = true then
    (match A.2.2.2.2 s.toNatClampNeg with
     | none => (-11, A)
     | some q => if zr i q.2.1 = true then (1, (A.1, A.2.1, A.2.2.1, A.2.2.2.1, zSu A.2.2.2.2 s.toNatClampNeg (some (q.1, q.2.1, upd q.2.2 i.toNatClampNeg (zconv q.1 v))))) else (-12, A))
  else (-2, A)
theorem x_put {A : zA} {σ : zSt} (h : RX A σ) {s i : Nat} (hs : s < 4) {q : Nat × Nat × (Nat → Int32)} (hq : A.2.2.2.2 s = some q) (v : Int32) : RX (A.1, A.2.1, A.2.2.1, A.2.2.2.1, zSu A.2.2.2.2 s (some (q.1, q.2.1, upd q.2.2 i v))) (zput σ (65 + s) i v) := by
  refine h.chS ?_ ?_ ?_
  · intro k hk r hr
    unfold zSu at hr
    by_cases e : k = s
    · rw [if_pos e] at hr; cases hr; exact h.1.2.2.2.2 s hs q hq
    · rw [if_neg e] at hr; exact h.1.2.2.2.2 k hk r hr
  · intro k hk
    have hk2 := h.2.2.2.2.2.1 k hk
    have e3 : ¬ 61 + k = 65 + s := by omega
    by_cases e : k = s
    · subst e
      rw [hq] at hk2
      simp only [zSu, if_true]
      refine ⟨by rw [zput_ne e3]; exact hk2.1, by rw [zput_ne e3]; exact hk2.2.1, fun j hj => ?_⟩
      rw [zput_eq]
      unfold upd
      by_cases z : j = i
      · simp [z]
      · simp only [z, if_false]; exact hk2.2.2 j hj
    · have e4 : ¬ 65 + k = 65 + s := by omega
      simp only [zSu, e, if_false]
      cases hz : A.2.2.2.2 k with
      | none => rw [hz] at hk2; simpa [zput_ne e3] using hk2
      | some r => rw [hz] at hk2; simpa [zput_ne e3, zput_ne e4] using hk2
  · intro o ho
    exact zput_ne (by omega)
theorem zsort_ne {k : Nat} (h : k ≤ 2) : ¬ nI k = -1 := by
  rcases (show k = 0 ∨ k = 1 ∨ k = 2 by omega) with rfl | rfl | rfl <;> decide
theorem x_cell {A : zA} {σ : zSt} (h : RX A σ) (s i v : Int32) (Q : Int32 → zSt → Prop) (hQ : ∀ σ', RX (s_cell A s i v).2 σ' → Q (s_cell A s i v).1 σ') : wX7_cell s i v σ Q := by
  unfold wX7_cell
  unfold s_cell at hQ
  rw [p7_isSheet]
  by_cases c1 : zr s 4 = true
  rotate_left
  · rw [if_neg c1] at hQ ⊢
    rw [if_pos rfl]; exact hQ σ h
  rw [if_pos c1] at hQ ⊢
  rw [if_neg (by decide)]
  obtain ⟨s, hs, rfl⟩ := zr_of (by omega) c1
  have hv : vp_in (nI s) 4 := zin' hs (by omega)
  have ez : (nI s).toNatClampNeg = s := zcl (by omega)
  rw [ez] at hQ ⊢
  refine ⟨hv, ?_⟩
  have hk2 := h.2.2.2.2.2.1 s hs
  cases hz : A.2.2.2.2 s with
  | none =>
    rw [hz] at hk2 hQ
    rw [if_pos hk2]; exact hQ σ h
  | some q =>
    rw [hz] at hk2 hQ
    obtain ⟨g1, g2, g3⟩ := hk2
    obtain ⟨b1, b2⟩ := h.1.2.2.2.2 s hs q hz
    dsimp only at hQ
    rw [g1, if_neg (zsort_ne b1), p5_holds g2 b2]
    have ei : (¬ i < 0 ∧ ¬ (1 : Int32) < 0 ∧ i.toNatClampNeg + (1 : Int32).toNatClampNeg ≤ q.2.1) ↔ zr i q.2.1 = true := by
      constructor
      · rintro ⟨a, _, b⟩
        obtain ⟨k, hk, rfl⟩ := nI_of a
        rw [zcl hk, show (1 : Int32).toNatClampNeg = 1 from by decide] at b
        exact zr_nI (by omega) (by omega)
      · intro z
        obtain ⟨k, hk, rfl⟩ := zr_of (by omega) z
        refine ⟨nI_pos (by omega), by decide, ?_⟩
        rw [zcl (by omega), show (1 : Int32).toNatClampNeg = 1 from by decide]; omega
    by_cases c2 : zr i q.2.1 = true
    · rw [if_pos c2] at hQ
      rw [if_pos (ei.mpr c2), if_neg (by decide), g1]
      obtain ⟨k, hk, rfl⟩ := zr_of (by omega) c2
      have hv2 : vp_in (nI k) 40 := zin' (by omega) (by omega)
      rw [zcl (by omega)] at hQ ⊢
      simp only [hv2, true_and, forall_eq]
      unfold zconv at hQ
      rcases (show q.1 = 0 ∨ q.1 = 1 ∨ q.1 = 2 by omega) with e | e | e
      · rw [e] at hQ ⊢
        rw [if_pos (by decide)]
        refine hQ _ ?_
        have := x_put (i := k) h hs hz (v.toInt8.toInt32)
        rw [e] at this; exact this
      · rw [e] at hQ ⊢
        rw [if_neg (by decide), if_pos (by decide)]
        refine hQ _ ?_
        have := x_put (i := k) h hs hz (v.toInt16.toInt32)
        rw [e] at this; exact this
      · rw [e] at hQ ⊢
        rw [if_neg (by decide), if_neg (by decide)]
        refine hQ _ ?_
        have := x_put (i := k) h hs hz v
        rw [e] at this; exact this
    · rw [if_neg c2] at hQ
      rw [if_neg (fun z => c2 (ei.mp z)), if_pos rfl]
      exact hQ σ h
