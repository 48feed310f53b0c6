/-! days that are drawn -/
def zz1 (z : Int32) : Int32 := z * 1103515245 + 12345
def zzm (z : Int32) : Nat → Int32
  | 0 => z
  | m + 1 => zz1 (zzm z m)
def zdr (z : Int32) (m : Nat) : Nat := ((zzm z (m + 1)).toUInt32 >>> ((8 : Int32).toUInt32 &&& Int32.toUInt32 31)).toInt32.toBitVec.toNat % 3
theorem zdr_v (x : Int32) : ((x.toUInt32 >>> ((8 : Int32).toUInt32 &&& Int32.toUInt32 31)).toInt32) - ((x.toUInt32 >>> ((8 : Int32).toUInt32 &&& Int32.toUInt32 31)).toInt32) / 3 * 3 = nI ((x.toUInt32 >>> ((8 : Int32).toUInt32 &&& Int32.toUInt32 31)).toInt32.toBitVec.toNat % 3) := by
  have hk := pk_ushr x 8 8 (by decide)
  have hb : x.toBitVec.toNat < 4294967296 := x.toBitVec.isLt
  generalize (x.toUInt32 >>> ((8 : Int32).toUInt32 &&& Int32.toUInt32 31)).toInt32 = y at hk
  have hy : y = nI y.toBitVec.toNat := by
    unfold nI
    apply Int32.toBitVec_inj.mp
    simp [Int32.ofNat]
  have hlt : y.toBitVec.toNat < 2147483648 := by rw [hk]; omega
  generalize y.toBitVec.toNat = q at hy hlt
  subst hy
  exact pk_rem (d := 3) hlt (by omega) (by omega)
theorem zdr_lt (z : Int32) (m : Nat) : zdr z m < 3 := Nat.mod_lt _ (by omega)
theorem x_draw_L (seed : Int32) (Q K : zSt → Prop) : ∀ (k m n : Nat) (σ : zSt), m + k = 24 → k < n → (∀ j, j < m → σ.1 42 j = nI (zdr seed j)) → (∀ σ' : zSt, (∀ o, o ≠ 42 → σ'.1 o = σ.1 o) → zIsRow 42 (zdr seed) σ' → K σ') → wX7_draw_L4 Q K n (zzm seed m) (nI m) σ := by
  intro k
  induction k with
  | zero =>
    intro m n σ hm hn hr hK
    obtain ⟨n, rfl⟩ : ∃ n', n = n' + 1 := ⟨n - 1, by omega⟩
    have : m = 24 := by omega
    subst this
    rw [wX7_draw_L4, if_pos (by decide)]
    exact hK σ (fun _ _ => rfl) (fun j hj => ⟨hr j hj, zdr_lt _ _⟩)
  | succ k ih =>
    intro m n σ hm hn hr hK
    obtain ⟨n, rfl⟩ : ∃ n', n = n' + 1 := ⟨n - 1, by omega⟩
    have hv : vp_in (nI m) 24 := zin' (by omega) (by omega)
    rw [wX7_draw_L4, if_neg (show ¬ (24 : Int32) ≤ nI m from nI_ge (b := 24) (by omega) (by omega)), zcl (by omega)]
    intro x hx
    refine ⟨hv, ?_⟩
    simp only [forall_eq]
    rw [zdr_v, nI_1]
    have ex : x = zzm seed (m + 1) := hx
    rw [ex]
    refine ih (m + 1) n _ (by omega) (by omega) (fun j hj => ?_) (fun σ' h1 h2 => hK σ' (fun o ho => by rw [h1 o ho, zput_ne ho]) h2)
    by_cases z : j = m
    · subst z; rw [zput_at, if_pos ⟨rfl, rfl⟩]; rfl
    · rw [zput_at, if_neg (fun y => z y.2)]; exact hr j (by omega)
theorem x_draw {A : zA} {σ : zSt} (h : RX A σ) (seed : Int32) (Q : zSt → Prop) (hQ : ∀ σ', RX A σ' → zIsRow 42 (zdr seed) σ' → Q σ') : wX7_draw seed σ Q := by
  unfold wX7_draw
  exact x_draw_L seed Q _ 24 0 300 σ (by omega) (by omega) (fun j hj => by omega) (fun σ' h1 h2 => hQ σ' (h.keep (fun o ho => h1 o (by omega))) h2)
def s_drawn (A : zA) (seed : Int32) : Int32 × zA := (nI (zrowc A.1 A.2.2.2.1.2 (zdr seed)), A)
theorem x_drawn {A : zA} {σ : zSt} (h : RX A σ) (seed : Int32) (Q : Int32 → zSt → Prop) (hQ : ∀ σ', RX (s_drawn A seed).2 σ' → Q (s_drawn A seed).1 σ') : wX7_drawn seed σ Q := by
  unfold wX7_drawn
  refine x_draw h seed _ (fun σ' h1 hr => ?_)
  exact x_ofRow_42 h1 hr _ (fun σ'' h2 _ => hQ σ'' h2)
/-! lowest terms -/
def zhit (D : zD) (seed : Int32) : Nat → Nat
  | 0 => 0
  | k + 1 => if zthc D (zdr (seed + nI k)) = D 6 0 + D 6 1 then zhit D seed k + 1 else zhit D seed k
theorem zhit_le (D : zD) (seed : Int32) : ∀ k, zhit D seed k ≤ k := by
  intro k
  induction k with
  | zero => exact Nat.le_refl _
  | succ k ih => rw [zhit]; split <;> omega
def s_chance (A : zA) (seed n p : Int32) : Int64 × zA := ((if zr n 21 = true ∧ ¬ n = 0 ∧ zr p 2 = true then (if p = 0 then (nI (zhit A.1 seed n.toNatClampNeg / Nat.gcd (zhit A.1 seed n.toNatClampNeg) n.toNatClampNeg)).toInt64 else (nI (n.toNatClampNeg / Nat.gcd (zhit A.1 seed n.toNatClampNeg) n.toNatClampNeg)).toInt64) else -4611686018427387904), A)
theorem zgc_L {a b : Nat} (ha : a ≤ 20) (hb : b ≤ 20) (hb0 : 0 < b) (Q K : Int32 → zSt → Prop) (σ : zSt) : ∀ (d n : Nat), Nat.gcd a b ≤ d → d ≤ 20 → d < n → wX7_greatestCommon_L6 Q K (nI a) (nI b) n (nI d) σ = K (nI (Nat.gcd a b)) σ := by
  intro d
  induction d with
  | zero =>
    intro n h1 h2 h3
    have := Nat.gcd_pos_of_pos_right a hb0
    omega
  | succ d ih =>
    intro n h1 h2 h3
    obtain ⟨n, rfl⟩ : ∃ n', n = n' + 1 := ⟨n - 1, by omega⟩
    have gp := Nat.gcd_pos_of_pos_right a hb0
    rw [wX7_greatestCommon_L6]
    by_cases c0 : d = 0
    · subst c0
      rw [if_pos (by decide)]
      have : Nat.gcd a b = 1 := by omega
      rw [this]
    · rw [if_neg (show ¬ nI (d + 1) ≤ (1 : Int32) from nI_ge (a := 1) (by omega) (by omega))]
      have hne : ¬ nI (d + 1) = 0 := nI_ne0 (by omega) (by omega)
      have em : nI (d + 1) + -1 = nI d := pk_m1 d
      rw [pk_rem (by omega) (by omega) (by omega), pk_rem (by omega) (by omega) (by omega), em]
      simp only [hne, not_false_eq_true, true_and, forall_eq]
      have mod1 : a % (d + 1) < d + 1 := Nat.mod_lt _ (by omega)
      have mod2 : b % (d + 1) < d + 1 := Nat.mod_lt _ (by omega)
      by_cases c1 : a % (d + 1) = 0
      · rw [if_pos (by rw [c1]; rfl)]
        by_cases c2 : b % (d + 1) = 0
        · rw [if_pos (by rw [c2]; rfl)]
          have hd : d + 1 ∣ Nat.gcd a b := Nat.dvd_gcd (Nat.dvd_of_mod_eq_zero c1) (Nat.dvd_of_mod_eq_zero c2)
          have := Nat.le_of_dvd gp hd
          rw [show Nat.gcd a b = d + 1 by omega]
        · rw [if_neg (nI_ne0 (by omega) (by omega))]
          refine ih n ?_ (by omega) (by omega)
          rcases Nat.lt_or_ge d (Nat.gcd a b) with q | q
          · have e : Nat.gcd a b = d + 1 := by omega
            exact absurd (Nat.mod_eq_zero_of_dvd (e ▸ Nat.gcd_dvd_right a b)) c2
          · exact q
      · rw [if_neg (nI_ne0 (by omega) (by omega))]
        refine ih n ?_ (by omega) (by omega)
        rcases Nat.lt_or_ge d (Nat.gcd a b) with q | q
        · have e : Nat.gcd a b = d + 1 := by omega
          exact absurd (Nat.mod_eq_zero_of_dvd (e ▸ Nat.gcd_dvd_left a b)) c1
        · exact q
theorem x_chance_L {n : Nat} (hn : n ≤ 20) (seed p : Int32) (Q : Int64 → zSt → Prop) (K : Int32 → zSt → Prop) : ∀ (j k f : Nat) (A : zA) (σ : zSt), RX A σ → k + j = n → j < f → (∀ σ', RX A σ' → K (nI (zhit A.1 seed n)) σ') → wX7_chance_L30 Q K seed (nI n) p f (nI (zhit A.1 seed k)) (nI k) σ := by
  intro j
  induction j with
  | zero =>
    intro k f A σ h hk hf hK
    obtain ⟨f, rfl⟩ : ∃ n', f = n' + 1 := ⟨f - 1, by omega⟩
    have : k = n := by omega
    subst this
    rw [wX7_chance_L30, if_pos (Int32.le_refl _)]
    exact hK σ h
  | succ j ih =>
    intro k f A σ h hk hf hK
    obtain ⟨f, rfl⟩ : ∃ n', f = n' + 1 := ⟨f - 1, by omega⟩
    rw [wX7_chance_L30, if_neg (nI_ge (show k < n by omega) (by omega))]
    intro a ha
    refine x_draw h a _ (fun σ' h' hr => ?_)
    rw [p1_thc_42 h'.2.1 h'.1.1 hr]
    unfold wX1_many
    rw [show σ'.1 3 0 = nI (A.1 6 0) from h'.2.1.2.2.2.1, show σ'.1 3 1 = nI (A.1 6 1) from h'.2.1.2.2.2.2.1, nI_add]
    have b1 := h.1.1.2.2.2.1
    have b2 := h.1.1.2.2.2.2.1
    have b3 : zthc A.1 (zdr a) ≤ 8 := by
      have := zsum_le (f := fun i => if zPr A.1 i = true ∧ zthr A.1 (zdr a) i < 24 then 1 else 0) (c := 1) 8 (fun k _ => by
        show (if zPr A.1 k = true ∧ zthr A.1 (zdr a) k < 24 then 1 else 0) ≤ 1
        split <;> omega)
      exact this
    have st := ih (k + 1) f A σ' h' (by omega) (by omega) hK
    rw [zhit, ← ha] at st
    simp only [forall_eq, nI_1]
    by_cases c : zthc A.1 (zdr a) = A.1 6 0 + A.1 6 1
    · rw [if_pos c] at st
      rw [if_pos (by rw [c])]
      exact st
    · rw [if_neg c] at st
      rw [if_neg (fun z => c ((nI_eq (by omega) (by omega)).mp z))]
      exact st
theorem x_chance {A : zA} {σ : zSt} (h : RX A σ) (seed n p : Int32) (Q : Int64 → zSt → Prop) (hQ : ∀ σ', RX (s_chance A seed n p).2 σ' → Q (s_chance A seed n p).1 σ') : wX7_chance seed n p σ Q := by
  unfold wX7_chance
  unfold s_chance at hQ
  dsimp only at hQ
  have hl := zlaw_r (v := n) 20 (by omega)
  by_cases c1 : zr n 21 = true ∧ ¬ n = 0
  rotate_left
  · rw [if_neg (fun z => c1 ⟨z.1, z.2.1⟩)] at hQ
    have hq := hQ σ h
    rcases hl.mpr c1 with q | q
    · rw [if_pos q]; exact hq
    · by_cases q2 : n < 1
      · rw [if_pos q2]; exact hq
      · rw [if_neg q2, if_pos (show (20 : Int32) < n from q)]; exact hq
  have hl2 := mt hl.mp (by simpa using c1)
  rw [if_neg (fun q => hl2 (Or.inl q)), if_neg (show ¬ (20 : Int32) < n from fun q => hl2 (Or.inr q))]
  by_cases c2 : zr p 2 = true
  rotate_left
  · rw [if_neg (fun z => c2 z.2.2)] at hQ
    have hq := hQ σ h
    by_cases q : p < 0
    · rw [if_pos q]; exact hq
    · rw [if_neg q, if_neg]
      · exact hq
      · intro z
        rcases zr_neg c2 with y | y
        · exact q y
        · rw [Int32.le_iff_toInt_le, nI_toInt (by omega)] at y
          rw [Int32.le_iff_toInt_le, show (1 : Int32).toInt = 1 from by decide] at z
          omega
  rw [if_pos ⟨c1.1, c1.2, c2⟩] at hQ
  obtain ⟨k, hk, rfl⟩ := zr_of (by omega) c2
  obtain ⟨n, hn, rfl⟩ := zr_of (by omega) c1.1
  have hn0 : 0 < n := by
    rcases Nat.eq_zero_or_pos n with q | q
    · exact absurd (by rw [q]; rfl) c1.2
    · exact q
  rw [zcl (by omega)] at hQ
  rw [if_neg (nI_pos (by omega)), if_pos (show nI k ≤ (1 : Int32) from nI_le (b := 1) (by omega) (by omega))]
  refine x_chance_L (n := n) (by omega) seed (nI k) Q _ n 0 300 A σ h (by omega) (by omega) (fun σ' h' => ?_)
  have hh := zhit_le A.1 seed n
  have gp := Nat.gcd_pos_of_pos_right (zhit A.1 seed n) hn0
  have gl : Nat.gcd (zhit A.1 seed n) n ≤ n := Nat.le_of_dvd hn0 (Nat.gcd_dvd_right _ _)
  unfold wX7_greatestCommon
  simp only [forall_eq]
  rw [if_neg (show ¬ nI n < (1 : Int32) from nI_nlt (b := 1) (by omega) (by omega))]
  rw [zgc_L (a := zhit A.1 seed n) (b := n) (by omega) (by omega) hn0 _ _ σ' n 300 gl (by omega) (by omega)]
  rw [if_pos (show (1 : Int32) ≤ nI (Nat.gcd (zhit A.1 seed n) n) from nI_le (a := 1) gp (by omega))]
  have hne : ¬ nI (Nat.gcd (zhit A.1 seed n) n) = 0 := nI_ne0 gp (by omega)
  have hq := hQ σ' h'
  by_cases k0 : nI k = 0
  · rw [if_pos k0] at hq ⊢
    refine ⟨hne, ?_⟩
    rw [pk_div (by omega) gp (by omega)]; exact hq
  · rw [if_neg k0] at hq ⊢
    refine ⟨hne, ?_⟩
    rw [pk_div (by omega) gp (by omega)]; exact hq
