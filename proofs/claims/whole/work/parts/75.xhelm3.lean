theorem p2_next {σ : zSt} {s c : Nat → Nat} (hs : ∀ b, b < 3 → σ.1 40 b = nI (s b) ∧ s b ≤ 36) (hc : ∀ b, b < 3 → σ.1 41 b = nI (c b) ∧ c b ≤ 36) {k n m u : Nat} (hk : k ≤ 5) (hn : n ≤ 9) (hm : m < 24) (hu : u < 3) (Q : Int32 → zSt → Prop) : wX2_next (nI k) (nI n) (nI m) (nI u) σ Q = Q (nI (znx k n s c m u)) σ := by
  have g0 : (wX2_byTide (nI n) (nI m) (nI u) σ Q) = Q (nI (ztid s n m u)) σ := p2_tide hn hm hu hs Q
  have g1 : wX2_byMarket σ Q = Q (nI (zarg (fun b => - (c b : Int)))) σ := p2_market hc Q
  have g2 : wX2_byGain σ Q = Q (nI (zarg (fun b => (s b : Int) - c b))) σ := p2_gain hs hc Q
  have g3 : wX2_byClock (nI n) (nI m) (nI u) σ Q = Q (nI (zclk n m u)) σ := p2_clock hn hm hu σ Q
  unfold wX2_next
  have r2 : nI n - nI n / 2 * 2 = nI (n % 2) := pk_rem (d := 2) (by omega) (by omega) (by omega)
  have r3 : nI m - nI m / 3 * 3 = nI (m % 3) := pk_rem (d := 3) (by omega) (by omega) (by omega)
  rw [g0, g1, g2, g3, r2, r3]
  have eu : (nI u).toNatClampNeg = u := zcl (by omega)
  have hv : vp_in (nI u) 3 := zin' hu (by omega)
  have hb : ∀ R : Int32 → zSt → Prop, wX7_isBridge (nI u) σ R = R 1 σ := by
    intro R
    rw [p7_isBridge, if_pos (zr_nI hu (by omega))]
  unfold znx
  by_cases k1 : k = 1
  · subst k1
    rw [if_pos (show nI 1 = (1 : Int32) from rfl), if_pos rfl]
  rw [if_neg (show ¬ nI k = (1 : Int32) from fun z => k1 ((nI_eq (b := 1) (by omega) (by omega)).mp z)), if_neg k1]
  by_cases k2 : k = 2
  · subst k2
    rw [if_pos (show nI 2 = (2 : Int32) from rfl), if_pos rfl]
  rw [if_neg (show ¬ nI k = (2 : Int32) from fun z => k2 ((nI_eq (b := 2) (by omega) (by omega)).mp z)), if_neg k2]
  by_cases k3 : k = 3
  · subst k3
    rw [if_pos (show nI 3 = (3 : Int32) from rfl), if_pos rfl, hb]
    try dsimp only
    rw [if_neg (by decide), eu, (hs u hu).1]
    simp only [hv, true_and]
    have l := (hs u hu).2
    by_cases q : s u = 0
    · rw [if_pos q, if_pos (show nI (s u) = (0 : Int32) from by rw [q]; rfl)]
      exact g0
    · rw [if_neg q, if_neg (show ¬ nI (s u) = (0 : Int32) from nI_ne0 (by omega) (by omega))]
  rw [if_neg (show ¬ nI k = (3 : Int32) from fun z => k3 ((nI_eq (b := 3) (by omega) (by omega)).mp z)), if_neg k3]
  by_cases k4 : k = 4
  · subst k4
    rw [if_pos (show nI 4 = (4 : Int32) from rfl), if_pos rfl]
    by_cases q : n % 2 = 1
    · rw [if_pos q, if_pos (show nI (n % 2) = (1 : Int32) from by rw [q]; rfl)]
    · rw [if_neg q, if_neg (show ¬ nI (n % 2) = (1 : Int32) from fun z => q ((nI_eq (b := 1) (by omega) (by omega)).mp z))]
  rw [if_neg (show ¬ nI k = (4 : Int32) from fun z => k4 ((nI_eq (b := 4) (by omega) (by omega)).mp z)), if_neg k4]
  by_cases k5 : k = 5
  · subst k5
    rw [if_pos (show nI 5 = (5 : Int32) from rfl), if_pos rfl]
    by_cases q : m % 3 = 0
    · rw [if_pos q, if_pos (show nI (m % 3) = (0 : Int32) from by rw [q]; rfl)]
    · rw [if_neg q, if_neg (show ¬ nI (m % 3) = (0 : Int32) from fun z => q ((nI_eq (b := 0) (by omega) (by omega)).mp z))]
  rw [if_neg (show ¬ nI k = (5 : Int32) from fun z => k5 ((nI_eq (b := 5) (by omega) (by omega)).mp z)), if_neg k5]
def zhe (σ σ' : zSt) : Prop := ∀ o, (o ≤ 38 ∨ 43 ≤ o) → σ'.1 o = σ.1 o
theorem zhe.keep {A : zA} {σ σ' : zSt} (h : RX A σ) (e : zhe σ σ') : RX A σ' := h.keep (fun o ho => e o (by omega))
theorem p2_fill {A : zA} {σ : zSt} (h : RX A σ) (row : Nat → Nat) {m : Nat} (hm : m < 24) (Q K : zSt → Prop) (x1 x3 : Int32) : ∀ (j b n : Nat) (σ1 : zSt), b + j = 3 → j < n → zhe σ σ1 → σ1.1 39 = σ.1 39 → (∀ a, a < b → σ1.1 40 a = nI (zwt A.1 row 0 a m) ∧ σ1.1 41 a = nI (zwt A.1 row 1 a m)) → (∀ σ2 : zSt, zhe σ σ2 → σ2.1 39 = σ.1 39 → (∀ a, a < 3 → σ2.1 40 a = nI (zwt A.1 row 0 a m) ∧ σ2.1 41 a = nI (zwt A.1 row 1 a m)) → K σ2) → wX2_steer_L27 Q K x1 (nI (zgm A.1 row m)) x3 (nI m) n (nI b) σ1 := by
  intro j
  induction j with
  | zero =>
    intro b n σ1 h1 h2 e1 e2 f hK
    obtain ⟨n, rfl⟩ : ∃ n', n = n' + 1 := ⟨n - 1, by omega⟩
    have : b = 3 := by omega
    subst this
    rw [wX2_steer_L27, if_pos (by decide)]
    exact hK σ1 e1 e2 f
  | succ j ih =>
    intro b n σ1 h1 h2 e1 e2 f hK
    obtain ⟨n, rfl⟩ : ∃ n', n = n' + 1 := ⟨n - 1, by omega⟩
    have hb : b < 3 := by omega
    have hv : vp_in (nI b) 3 := zin' hb (by omega)
    have hx1 : RX A σ1 := zhe.keep h e1
    have w0 := p2_waiting hx1 row (s := 0) (b := b) (m := m) (by omega) hb hm
    rw [wX2_steer_L27, if_neg (show ¬ (3 : Int32) ≤ nI b from nI_ge (b := 3) hb (by omega))]
    rw [show (0 : Int32) = nI (4 * 0) from rfl, w0]
    refine ⟨hv, ?_⟩
    rw [forall_eq, zcl (by omega)]
    have e3 : zhe σ (zput σ1 40 b (nI (zwt A.1 row 0 b m))) := fun o ho => by rw [zput_ne (by omega)]; exact e1 o ho
    have w1 := p2_waiting (zhe.keep h e3) row (s := 1) (b := b) (m := m) (by omega) hb hm
    rw [show (4 : Int32) = nI (4 * 1) from rfl, w1]
    refine ⟨hv, ?_⟩
    rw [forall_eq, forall_eq, nI_1]
    refine ih (b + 1) n _ (by omega) (by omega) (fun o ho => by rw [zput_ne (by omega)]; exact e3 o ho) (by rw [zput_ne (by omega), zput_ne (by omega)]; exact e2) ?_ hK
    intro a ha
    by_cases q : a = b
    · subst q
      simp [zput_at]
    · have g := f a (by omega)
      constructor
      · rw [zput_ne (by omega), zput_at, if_neg (by omega)]; exact g.1
      · rw [zput_at, if_neg (by omega), zput_ne (by omega)]; exact g.2
theorem zwt_cg {D : zD} {r r' : Nat → Nat} {m : Nat} (h : ∀ j, j < m → r j = r' j) (s b : Nat) : zwt D r s b m = zwt D r' s b m := by
  unfold zwt zwtp
  simp only [zgn_cg (D := D) (r := r) (r' := r') _ m h]
theorem zgm_s {D : zD} (row : Nat → Nat) (m : Nat) : nI (zgm D row m) ||| nI (zmask (fun i => zPr D i && (decide (D 2 i ≤ m) && zPa D i (row m))) 8) = nI (zgm D row (m + 1)) := by
  rw [fa_or]
  unfold zgm
  rw [zmask_or]
  congr 1
  refine zmask_ext (fun i _ => ?_)
  rw [zgn]
  cases zPr D i <;> simp
theorem zgm_cg {D : zD} {r r' : Nat → Nat} {m : Nat} (h : ∀ j, j < m → r j = r' j) : zgm D r m = zgm D r' m := by
  unfold zgm
  simp only [zgn_cg (D := D) (r := r) (r' := r') _ m h]
theorem p2_steer_L {A : zA} {σ : zSt} (h : RX A σ) {x : Nat} (hx : x < 4) (Q K : zSt → Prop) (hK : ∀ σ' : zSt, zhe σ σ' → zIsRow 39 (zrun A.1 x) σ' → K σ') : ∀ (j m n : Nat) (σ1 : zSt), m + j = 24 → j < n → zhe σ σ1 → (∀ a, a < m → σ1.1 39 a = nI (zrunF A.1 x m a)) → wX2_steer_L17 Q K (nI x) n (nI (zgm A.1 (zrunF A.1 x m) m)) (nI (if m = 0 then 0 else zrunF A.1 x m (m - 1))) (nI m) σ1 := by
  intro j
  induction j with
  | zero =>
    intro m n σ1 h1 h2 e1 f
    obtain ⟨n, rfl⟩ : ∃ n', n = n' + 1 := ⟨n - 1, by omega⟩
    have : m = 24 := by omega
    subst this
    rw [wX2_steer_L17, if_pos (by decide)]
    exact hK σ1 e1 (fun a ha => ⟨f a ha, zrunF_lt _ _ _ _⟩)
  | succ j ih =>
    intro m n σ1 h1 h2 e1 f
    obtain ⟨n, rfl⟩ : ∃ n', n = n' + 1 := ⟨n - 1, by omega⟩
    have hm : m < 24 := by omega
    have hv : vp_in (nI x) 4 := zin' hx (by omega)
    have hvm : vp_in (nI m) 24 := zin' hm (by omega)
    have ok := h.1.1.2.2.1 x hx
    have g := h.2.1.2.2.1 x hx
    have hu : (if m = 0 then 0 else zrunF A.1 x m (m - 1)) < 3 := by
      split
      · omega
      · exact zrunF_lt _ _ _ _
    rw [wX2_steer_L17, if_neg (show ¬ (24 : Int32) ≤ nI m from nI_ge (b := 24) hm (by omega))]
    refine p2_fill (zhe.keep h e1) (zrunF A.1 x m) hm Q _ _ _ 3 0 300 σ1 (by omega) (by omega) (fun _ _ => rfl) rfl (fun a ha => by omega) (fun σ2 e2 e3 f2 => ?_)
    have e4 : zhe σ σ2 := fun o ho => (e2 o ho).trans (e1 o ho)
    refine ⟨hv, hv, ?_⟩
    have k7 : σ2.1 7 (nI x).toNatClampNeg = nI (A.1 4 x) := by rw [zcl (by omega), e4 7 (by omega)]; exact g.1
    have k8 : σ2.1 8 (nI x).toNatClampNeg = nI (A.1 5 x) := by rw [zcl (by omega), e4 8 (by omega)]; exact g.2
    rw [forall_eq, forall_eq, k7, k8, p2_next (s := fun b => zwt A.1 (zrunF A.1 x m) 0 b m) (c := fun b => zwt A.1 (zrunF A.1 x m) 1 b m) (fun b hb => ⟨(f2 b hb).1, zwt_le h.1.1 _ (by omega) b m⟩) (fun b hb => ⟨(f2 b hb).2, zwt_le h.1.1 _ (by omega) b m⟩) ok.1 ok.2 hm hu]
    refine ⟨hvm, ?_⟩
    rw [forall_eq, zcl (by omega)]
    have er : znx (A.1 4 x) (A.1 5 x) (fun b => zwt A.1 (zrunF A.1 x m) 0 b m) (fun b => zwt A.1 (zrunF A.1 x m) 1 b m) m (if m = 0 then 0 else zrunF A.1 x m (m - 1)) = zrunF A.1 x (m + 1) m := by
      rw [zrunF]
      simp [zset]
    have est : ∀ a, a < m → zrunF A.1 x m a = zrunF A.1 x (m + 1) a := fun a ha => (zrunF_st A.1 x m 1 a ha).symm
    rw [er]
    have e5 : zhe σ (zput σ2 39 m (nI (zrunF A.1 x (m + 1) m))) := fun o ho => by rw [zput_ne (by omega)]; exact e4 o ho
    rw [p2_going (zhe.keep h e5) hm (zrunF_lt _ _ _ _), forall_eq, forall_eq, zgm_cg est, zgm_s, nI_1]
    have st := ih (m + 1) n (zput σ2 39 m (nI (zrunF A.1 x (m + 1) m))) (by omega) (by omega) e5 (fun a ha => by
      rw [zput_at]
      by_cases q : a = m
      · rw [if_pos ⟨rfl, q⟩, q]
      · rw [if_neg (by omega), e3, f a (by omega), est a (by omega)])
    rw [if_neg (by omega), Nat.add_sub_cancel] at st
    exact st
theorem p2_steer {A : zA} {σ : zSt} (h : RX A σ) {x : Nat} (hx : x < 4) (Q : zSt → Prop) (hQ : ∀ σ' : zSt, zhe σ σ' → zIsRow 39 (zrun A.1 x) σ' → Q σ') : wX2_steer (nI x) σ Q := by
  unfold wX2_steer
  rw [if_neg (show ¬ nI x < (0 : Int32) from nI_nlt (b := 0) (by omega) (by omega)), if_pos (show nI x < (4 : Int32) from nI_lt (b := 4) hx (by omega))]
  have st := p2_steer_L h hx Q (fun σ' => Q σ') hQ 24 0 300 σ (by omega) (by omega) (fun _ _ => rfl) (fun a ha => by omega)
  have e0 : zgm A.1 (zrunF A.1 x 0) 0 = 0 := by
    unfold zgm
    apply Nat.eq_of_testBit_eq
    intro i
    rw [zmask_bit, zgn]
    simp
  rw [e0, if_pos rfl] at st
  exact st
