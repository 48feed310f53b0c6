/-! a place is settled -/
def zbq (f : Nat → Nat) (u : Nat) : Nat → Nat × Nat
  | 0 => (1000000000, 0)
  | b + 1 => if b = u then zbq f u b else if (zbq f u b).1 ≤ f b then zbq f u b else (f b, b)
theorem zbq_3 {f : Nat → Nat} (hf : ∀ c, c < 3 → f c ≤ 16000099) (u : Nat) : zbq f u 3 = (zmin3 (if 0 = u then znev else f 0) (if 1 = u then znev else f 1) (if 2 = u then znev else f 2), zfirst (fun c => if c = u then znev else f c)) := by
  have hnev : znev = 99999999 := rfl
  have h0 := hf 0 (by omega)
  have h1 := hf 1 (by omega)
  have h2 := hf 2 (by omega)
  simp only [zbq, zmin3, zfirst]
  have n0 : ¬ (1000000000 : Nat) ≤ f 0 := by omega
  have n1 : ¬ (1000000000 : Nat) ≤ f 1 := by omega
  have n2 : ¬ (1000000000 : Nat) ≤ f 2 := by omega
  by_cases u0 : 0 = u
  · subst u0
    simp only [if_true, show ¬ (1 : Nat) = 0 by decide, show ¬ (2 : Nat) = 0 by decide, if_false, n1]
    have m1 : ¬ (znev ≤ f 1 ∧ znev ≤ f 2) := by omega
    rw [if_neg m1]
    by_cases d : f 1 ≤ f 2
    · rw [if_pos d, if_pos d]
      exact Prod.ext (by dsimp only; omega) rfl
    · rw [if_neg d, if_neg d]
      exact Prod.ext (by dsimp only; omega) rfl
  by_cases u1 : 1 = u
  · subst u1
    simp only [if_true, show ¬ (0 : Nat) = 1 by decide, show ¬ (2 : Nat) = 1 by decide, if_false, n0]
    by_cases d : f 0 ≤ f 2
    · rw [if_pos d, if_pos (show f 0 ≤ znev ∧ f 0 ≤ f 2 by omega)]
      exact Prod.ext (by dsimp only; omega) rfl
    · rw [if_neg d, if_neg (show ¬ (f 0 ≤ znev ∧ f 0 ≤ f 2) by omega), if_neg (show ¬ znev ≤ f 2 by omega)]
      exact Prod.ext (by dsimp only; omega) rfl
  by_cases u2 : 2 = u
  · subst u2
    simp only [if_true, show ¬ (0 : Nat) = 2 by decide, show ¬ (1 : Nat) = 2 by decide, if_false, n0]
    by_cases d : f 0 ≤ f 1
    · rw [if_pos d, if_pos (show f 0 ≤ f 1 ∧ f 0 ≤ znev by omega)]
      exact Prod.ext (by dsimp only; omega) rfl
    · rw [if_neg d, if_neg (show ¬ (f 0 ≤ f 1 ∧ f 0 ≤ znev) by omega), if_pos (show f 1 ≤ znev by omega)]
      exact Prod.ext (by dsimp only; omega) rfl
  simp only [u0, u1, u2, if_false, n0]
  by_cases d1 : f 0 ≤ f 1
  · rw [if_pos d1]
    by_cases d2 : f 0 ≤ f 2
    · rw [if_pos d2, if_pos (show f 0 ≤ f 1 ∧ f 0 ≤ f 2 by omega)]
      exact Prod.ext (by dsimp only; omega) rfl
    · rw [if_neg d2, if_neg (show ¬ (f 0 ≤ f 1 ∧ f 0 ≤ f 2) by omega), if_neg (show ¬ f 1 ≤ f 2 by omega)]
      exact Prod.ext (by dsimp only; omega) rfl
  · rw [if_neg d1]
    by_cases d2 : f 1 ≤ f 2
    · rw [if_pos d2, if_neg (show ¬ (f 0 ≤ f 1 ∧ f 0 ≤ f 2) by omega), if_pos d2]
      exact Prod.ext (by dsimp only; omega) rfl
    · rw [if_neg d2, if_neg (show ¬ (f 0 ≤ f 1 ∧ f 0 ≤ f 2) by omega), if_neg d2]
      exact Prod.ext (by dsimp only; omega) rfl
theorem zbq_b {f : Nat → Nat} (hf : ∀ c, c < 3 → f c ≤ 16000099) (u : Nat) : ∀ b, b ≤ 3 → (zbq f u b).1 ≤ 1000000000 := by
  intro b
  induction b with
  | zero => intro _; exact Nat.le_refl _
  | succ b ih =>
    intro hb
    have := ih (by omega)
    have := hf b (by omega)
    rw [zbq]
    split
    · omega
    · split
      · omega
      · dsimp only; omega
/-- what a search stands on -/
def cB (D : zD) (P : zP) (σ : zSt) : Prop := zDX 1 D σ ∧ cT P σ ∧ ∀ b, b < 3 → σ.1 36 b = nI (zy_at P b)
theorem cB.fr {D : zD} {P : zP} {σ σ' : zSt} (h : cB D P σ) (e : ∀ o, o ≠ 31 → o ≠ 32 → o ≠ 33 → o ≠ 34 → o ≠ 35 → σ'.1 o = σ.1 o) : cB D P σ' := by
  obtain ⟨h1, h2, h3⟩ := h
  refine ⟨h1.fr (fun k hk => e _ (by omega) (by omega) (by omega) (by omega) (by omega)), ⟨fun i m a b c d => ?_, fun m u b p q r s t => ?_⟩, fun b hb => ?_⟩
  · rw [e 29 (by decide) (by decide) (by decide) (by decide) (by decide)]; exact h2.1 i m a b c d
  · rw [e 30 (by decide) (by decide) (by decide) (by decide) (by decide)]; exact h2.2 m u b p q r s t
  · rw [e 36 (by decide) (by decide) (by decide) (by decide) (by decide)]; exact h3 b hb
theorem cS.fr {P : zP} {s : Nat} {σ σ' : zSt} (h : cS P s σ) (e1 : σ'.1 34 = σ.1 34) (e2 : σ'.1 35 = σ.1 35) : cS P s σ' := fun b e hb he => by rw [e1, e2]; exact h b e hb he
theorem cV.cp {P : zP} {s h : Nat} {σ σ' : zSt} (hv : cV P s σ) (e : cp h σ σ') (hh : h < s * 48) : cV P s σ' := by
  intro ee u w h1 h2 h3 h4 h5
  have : (ee * 3 + u) * 16 + w ≠ h := by omega
  rw [e.2 31 _ this, e.2 32 _ this, e.2 33 _ this]
  exact hv ee u w h1 h2 h3 h4 h5
theorem p4_settle_L {D : zD} {P : zP} (hP : zpk P) (hH : P.2.2.2.2.2 = D 6 3) {s u w h : Nat} (hs : s < 24) (hw : zy_ok P s w) (hh : h < (s + 1) * 48) {x2 : Int32} {Kf : Nat → Nat} (hKf : ∀ c, Kf c ≤ 99) {f : Nat → Nat} (hf : ∀ c, c < 3 → f c ≤ 16000099) (hfM : ∀ c, c < 3 → f c = zy_M (zy_G P (Kf c) s c w) (24 - zy_e0 P s)) {σ0 : zSt} (hB : cB D P σ0) (hS : cS P s σ0) (hV : cV P (s + 1) σ0) (hx : ∀ c, c < 3 → (nI c = x2 ↔ c = u)) (hx2 : (zr x2 3 = true ∧ 1 ≤ s ∧ x2 = nI u ∧ u < 3 ∧ ∀ c, c < 3 → c ≠ u → Kf c = P.2.2.2.2.1 s u c) ∨ (¬ zr x2 3 = true ∧ ∀ c, Kf c = 0)) (Q K : zSt → Prop) (hK : ∀ σ' : zSt, cp h σ0 σ' → σ'.1 31 h = nI (zbq f u 3).1 → ((zbq f u 3).1 < 1000000000 → σ'.1 32 h = nI (zbq f u 3).2 ∧ σ'.1 33 h = nI (zy_end P (Kf (zbq f u 3).2) s (zbq f u 3).2 w)) → K σ') : ∀ (j b n : Nat) (σ : zSt), b + j = 3 → j < n → cp h σ0 σ → σ.1 31 h = nI (zbq f u b).1 → ((zbq f u b).1 < 1000000000 → σ.1 32 h = nI (zbq f u b).2 ∧ σ.1 33 h = nI (zy_end P (Kf (zbq f u b).2) s (zbq f u b).2 w)) → wX4_settle_L20 Q K (nI s) x2 (nI w) (nI h) n (nI b) σ := by
  have wl := zy_v_lt hw
  intro j
  induction j with
  | zero =>
    intro b n σ h1 h2 hc e1 e2
    obtain ⟨n, rfl⟩ : ∃ n', n = n' + 1 := ⟨n - 1, by omega⟩
    have : b = 3 := by omega
    subst this
    rw [wX4_settle_L20, if_pos (by decide)]
    exact hK σ hc e1 e2
  | succ j ih =>
    intro b n σ h1 h2 hc e1 e2
    obtain ⟨n, rfl⟩ : ∃ n', n = n' + 1 := ⟨n - 1, by omega⟩
    have hb : b < 3 := by omega
    have hb3 : vp_in (nI b) 3 := zin' hb (by omega)
    have st := fun σ' => ih (b + 1) n σ' (by omega) (by omega)
    rw [zbq] at st
    rw [wX4_settle_L20, if_neg (show ¬ (3 : Int32) ≤ nI b from nI_ge (b := 3) hb (by omega))]
    by_cases cu : b = u
    · rw [if_pos cu] at st
      rw [if_pos ((hx b hb).mpr cu), forall_eq, nI_1]
      exact st σ hc e1 e2
    rw [if_neg cu] at st
    rw [if_neg (fun z => cu ((hx b hb).mp z)), p7_isBridge]
    have hBσ : cB D P σ := hB.fr (fun o a b c _ _ => hc.1 o a b c)
    have hSσ : cS P s σ := hS.fr (hc.1 34 (by decide) (by decide) (by decide)) (hc.1 35 (by decide) (by decide) (by decide))
    have hVσ : cV P (s + 1) σ := hV.cp hc hh
    have lv := zbq_b hf u b (by omega)
    have aw : w &&& zy_at P b ≤ w := Nat.and_le_left
    have okb : ∀ i, (w &&& zy_at P b).testBit i = true → i < 4 ∧ P.1 i = true ∧ P.2.2.1 i ≤ s := fun i hi => by
      rw [Nat.testBit_and, Bool.and_eq_true] at hi
      have := hw i hi.1
      exact ⟨this.1, this.2.1, by omega⟩
    have fin : ∀ R : zSt → Prop, (∀ σ', R σ' = wX4_settle_L20 Q K (nI s) x2 (nI w) (nI h) n (nI (b + 1)) σ') → wX4_trySpans (nI h) (nI s) (nI b) (nI (w &&& (w ^^^ zy_at P b))) (nI (Kf b + zy_cs P (w &&& zy_at P b) s)) σ R := by
      intro R hR
      refine p4_try hP hH (hKf b) hs hb hw hh lv hBσ.1 hSσ hVσ e1 R (fun σ' hc' g1 g2 => ?_)
      rw [hR]
      rw [← hfM b hb] at g1 g2
      by_cases cm : (zbq f u b).1 ≤ f b
      · rw [if_pos cm] at st
        obtain ⟨k1, k2, k3⟩ := g1 cm
        exact st σ' (hc.tr hc') k1 (fun q => by rw [k2, k3]; exact e2 q)
      · rw [if_neg cm] at st
        exact st σ' (hc.tr hc') (g2 (by omega)).1 (fun _ => (g2 (by omega)).2)
    rcases hx2 with ⟨z1, z2, z3, z4, z5⟩ | ⟨z1, z2⟩
    · rw [if_pos z1, if_neg (by decide), z3]
      rw [show (nI s * (3 : Int32) + nI u) * 3 + nI b = nI ((s * 3 + u) * 3 + b) from by rw [show (3 : Int32) = nI 3 from rfl, pk_mul, nI_add, pk_mul, nI_add], zcl (show (s * 3 + u) * 3 + b < 2147483648 by omega), zcl (show b < 2147483648 by omega), hBσ.2.1.2 s u b z2 hs z4 hb (fun z => cu z.symm), hBσ.2.2 b hb, zb_and, zb_dif]
      refine ⟨zin' (by omega) (by omega), ?_⟩
      rw [forall_eq]
      refine ⟨hb3, hb3, ?_⟩
      rw [forall_eq]
      obtain ⟨v, ev, hv⟩ := p4_cost (σ := σ) (m := s) (w := w &&& zy_at P b) (by omega) (fun r117 σ118 => ∀ a119 : Int32, a119 = nI (w &&& (w ^^^ zy_at P b)) → (∀ a120 : Int32, a120 = (nI (P.2.2.2.2.1 s u b) + r117) → (wX4_trySpans (nI h) (nI s) (nI b) a119 a120 σ118 (fun σ122 => ∀ x123 : Int32, x123 = nI b + 1 → (wX4_settle_L20 Q K (nI s) (nI u) (nI w) (nI h) n x123 σ122)))))
      rw [ev, hv P hBσ.2.1 okb, forall_eq, forall_eq, nI_add, ← z5 b hb cu]
      refine fin _ (fun σ' => ?_)
      rw [forall_eq, nI_1, z3]
    · rw [if_neg z1, if_pos rfl]
      rw [zcl (show b < 2147483648 by omega), hBσ.2.2 b hb, zb_and, zb_dif]
      refine ⟨hb3, hb3, ?_⟩
      rw [forall_eq]
      obtain ⟨v, ev, hv⟩ := p4_cost (σ := σ) (m := s) (w := w &&& zy_at P b) (by omega) (fun r108 σ109 => ∀ a110 : Int32, a110 = nI (w &&& (w ^^^ zy_at P b)) → (∀ a111 : Int32, a111 = (0 + r108) → (wX4_trySpans (nI h) (nI s) (nI b) a110 a111 σ109 (fun σ113 => ∀ x114 : Int32, x114 = nI b + 1 → (wX4_settle_L20 Q K (nI s) x2 (nI w) (nI h) n x114 σ113)))))
      rw [ev, hv P hBσ.2.1 okb, forall_eq, forall_eq, show (0 : Int32) + nI (zy_cs P (w &&& zy_at P b) s) = nI (Kf b + zy_cs P (w &&& zy_at P b) s) from by rw [show (0 : Int32) = nI 0 from rfl, nI_add, z2 b]]
      refine fin _ (fun σ' => ?_)
      rw [forall_eq, nI_1]
theorem p4_settle {D : zD} {P : zP} (hP : zpk P) (hH : P.2.2.2.2.2 = D 6 3) {s u w : Nat} (hs1 : 1 ≤ s) (hs : s < 24) (hu : u < 3) (hw : zy_v P s u w) {σ0 : zSt} (hB : cB D P σ0) (hS : cS P s σ0) (hV : cV P (s + 1) σ0) (Q : zSt → Prop) (hQ : ∀ σ' : zSt, cp ((s * 3 + u) * 16 + w) σ0 σ' → σ'.1 31 ((s * 3 + u) * 16 + w) = nI (zy_nv P s u w) → σ'.1 32 ((s * 3 + u) * 16 + w) = nI (zy_br P s u w) → σ'.1 33 ((s * 3 + u) * 16 + w) = nI (zy_end P (P.2.2.2.2.1 s u (zy_br P s u w)) s (zy_br P s u w) w) → Q σ') : wX4_settle (nI s) (nI u) (nI w) σ0 Q := by
  have wl := zy_v_lt hw.1
  have hf : ∀ c, c < 3 → zWb P s (zcan P s w) u c ≤ 16000099 := fun c hc => zWb_b hP hc
  have e3 := zbq_3 hf u
  have en : (zbq (zWb P s (zcan P s w) u) u 3).1 = zy_nv P s u w := by
    rw [e3]
    unfold zy_nv
    rw [if_pos hs]
    rfl
  have eb : (zbq (zWb P s (zcan P s w) u) u 3).2 = zy_br P s u w := by
    rw [e3]
    rfl
  have lt : (zbq (zWb P s (zcan P s w) u) u 3).1 < 1000000000 := by rw [en]; have := zy_nv_b hP s u w; omega
  have c0 : cp ((s * 3 + u) * 16 + w) σ0 (zput σ0 31 ((s * 3 + u) * 16 + w) (nI 1000000000)) := cp.put _ _ _ (by omega)
  unfold wX4_settle
  rw [p4_place (by omega) hu wl]
  refine ⟨zin' (by omega) (by omega), ?_⟩
  rw [forall_eq, zcl (by omega), show (1000000000 : Int32) = nI 1000000000 from rfl]
  refine p4_settle_L hP hH hs hw.1 (by omega) (Kf := fun c => P.2.2.2.2.1 s u c) (fun c => hP.2.2.2.1 s u c) hf (fun c hc => ?_) (σ0 := zput σ0 31 ((s * 3 + u) * 16 + w) (nI 1000000000)) (hB.fr (fun o a b c _ _ => c0.1 o a b c)) (hS.fr (c0.1 34 (by decide) (by decide) (by decide)) (c0.1 35 (by decide) (by decide) (by decide))) (hV.cp c0 (by omega)) (x2 := nI u) (fun c hc => nI_eq (by omega) (by omega)) (Or.inl ⟨zr_nI hu (by omega), hs1, rfl, hu, fun c hc hne => rfl⟩) Q _ (fun σ' hc g1 g2 => ?_) 3 0 300 _ (by omega) (by omega) (cp.rf _ _) (by rw [zput_at, if_pos ⟨rfl, rfl⟩]; rfl) (fun q => absurd q (Nat.lt_irrefl _))
  · exact zy_begin hP hc hw.1 hs
  · obtain ⟨k1, k2⟩ := g2 lt
    rw [eb] at k1 k2
    rw [en] at g1
    exact hQ σ' (c0.tr hc) g1 k1 k2
theorem zcan_0 (P : zP) (w : Nat) : zcan P 0 w = 0 := by
  apply Nat.eq_of_testBit_eq
  intro i
  rw [zcan_bit, Nat.zero_testBit]
  simp
theorem p4_settle0 {D : zD} {P : zP} (hP : zpk P) (hH : P.2.2.2.2.2 = D 6 3) {σ0 : zSt} (hB : cB D P σ0) (hS : cS P 0 σ0) (hV : cV P 1 σ0) (Q : zSt → Prop) (hQ : ∀ σ' : zSt, cp 0 σ0 σ' → σ'.1 31 0 = nI (zLc P) → σ'.1 32 0 = nI (zfirst (zbeg P)) → σ'.1 33 0 = nI (zy_end P 0 0 (zfirst (zbeg P)) 0) → Q σ') : wX4_settle 0 (-1) 0 σ0 Q := by
  have hok : zy_ok P 0 0 := fun i hi => absurd hi (by simp)
  have hf : ∀ c, c < 3 → zbeg P c ≤ 16000099 := fun c hc => by
    have h1 := zV_le hP 23 (znow P 0 c 0) c 1 hc
    have h2 := zcx_le P (znow P 0 c 0)
    have h3 := zcby_b hP 0 0 (znow P 0 c 0)
    unfold zbeg
    omega
  have e3 := zbq_3 hf 3
  simp only [show ¬ (0 : Nat) = 3 by decide, show ¬ (1 : Nat) = 3 by decide, show ¬ (2 : Nat) = 3 by decide, if_false] at e3
  have en : (zbq (zbeg P) 3 3).1 = zLc P := by rw [e3]; rfl
  have eb : (zbq (zbeg P) 3 3).2 = zfirst (zbeg P) := by
    rw [e3]
    dsimp only
    refine zfirst_ext (fun c hc => ?_)
    try dsimp only
    rw [if_neg (show ¬ c = 3 by omega)]
  have lt : (zbq (zbeg P) 3 3).1 < 1000000000 := by
    rw [en]
    have l : zLc P ≤ zbeg P 0 := (zmin3_le (zbeg P 0) (zbeg P 1) (zbeg P 2)).1
    have := hf 0 (by omega)
    omega
  have c0 : cp 0 σ0 (zput σ0 31 0 (nI 1000000000)) := cp.put _ _ _ (by omega)
  unfold wX4_settle wX4_place
  rw [if_neg (by decide), if_neg (by decide), p7_isBridge, if_neg (show ¬ zr (-1) 3 = true by decide), if_pos rfl]
  dsimp only
  refine ⟨zin' (n := 0) (by omega) (by omega), ?_⟩
  rw [forall_eq, show (0 : Int32).toNatClampNeg = 0 by decide, show (1000000000 : Int32) = nI 1000000000 from rfl]
  refine p4_settle_L hP hH (s := 0) (u := 3) (w := 0) (h := 0) (by omega) hok (by omega) (Kf := fun _ => 0) (fun c => Nat.zero_le _) hf (fun c hc => ?_) (σ0 := zput σ0 31 0 (nI 1000000000)) (hB.fr (fun o a b c _ _ => c0.1 o a b c)) (hS.fr (c0.1 34 (by decide) (by decide) (by decide)) (c0.1 35 (by decide) (by decide) (by decide))) (hV.cp c0 (by omega)) (x2 := -1) (fun c hc => ⟨fun z => ?_, fun z => by omega⟩) (Or.inr ⟨by decide, fun _ => rfl⟩) Q _ (fun σ' hc g1 g2 => ?_) 3 0 300 _ (by omega) (by omega) (cp.rf _ _) (by rw [zput_at, if_pos ⟨rfl, rfl⟩]; rfl) (fun q => absurd q (Nat.lt_irrefl _))
  · have := zy_begin hP (K := 0) (s := 0) (w := 0) hc hok (by omega)
    rw [zcan_0, Nat.add_zero] at this
    exact this
  · exfalso
    have := congrArg Int32.toInt z
    rw [nI_toInt (by omega), show ((-1 : Int32)).toInt = -1 from by decide] at this
    omega
  · obtain ⟨k1, k2⟩ := g2 lt
    rw [eb] at k1 k2
    rw [en] at g1
    exact hQ σ' (c0.tr hc) g1 k1 k2
/-! a minute is settled -/
def cVp (P : zP) (s u0 w0 : Nat) (σ : zSt) : Prop := cV P (s + 1) σ ∧ ∀ u w, u < 3 → zy_v P s u w → (u < u0 ∨ (u = u0 ∧ w < w0)) → σ.1 31 ((s * 3 + u) * 16 + w) = nI (zy_nv P s u w) ∧ σ.1 32 ((s * 3 + u) * 16 + w) = nI (zy_br P s u w) ∧ σ.1 33 ((s * 3 + u) * 16 + w) = nI (zy_end P (P.2.2.2.2.1 s u (zy_br P s u w)) s (zy_br P s u w) w)
/-- only places have changed -/
def cr (σ σ' : zSt) : Prop := ∀ o, o ≠ 31 → o ≠ 32 → o ≠ 33 → σ'.1 o = σ.1 o
theorem cr.tr {σ σ' σ'' : zSt} (e : cr σ σ') (f : cr σ' σ'') : cr σ σ'' := fun o a b c => (f o a b c).trans (e o a b c)
