theorem zmin3_le (a b c : Nat) : zmin3 a b c ≤ a ∧ zmin3 a b c ≤ b ∧ zmin3 a b c ≤ c := by unfold zmin3; omega
theorem zV_s (P : zP) (k n u held : Nat) : zV P (k + 1) n u held = zmin3 (zstp P k n u held 0) (zstp P k n u held 1) (zstp P k n u held 2) := rfl
theorem zlow3 {a b c : Nat} (h : zmin3 a b c < znev) : zlow (zlow (zlow znev a) b) c = zmin3 a b c := by
  unfold zlow zmin3 at *
  repeat' split
  all_goals omega
theorem zW_V (A : zA) : ∀ k n u held, k ≤ 23 → u < 3 → zW true (zPm A) k n u held = zV (zPm A) k n u held ∧ zV (zPm A) k n u held ≤ 891 * (k + 1) := by
  have hnev : znev = 99999999 := rfl
  have hcb : ∀ m n now, zcby (zPm A) m n now ≤ 792 := fun m n now => by
    have := zcby_le (P := zPm A) (k := 99) (fun i m => zclamp_le _) m n now
    omega
  have hch : ∀ m u b, (zPm A).2.2.2.2.1 m u b ≤ 99 := fun m u b => zclamp_le _
  intro k
  induction k with
  | zero =>
    intro n u held _ hu
    have := hcb 24 n (zall (zPm A))
    rw [zW, zV, if_pos rfl]
    exact ⟨rfl, by omega⟩
  | succ k ih =>
    intro n u held hk hu
    have el : ∀ b h, b < 3 → zwl true (zPm A) (zW true (zPm A) k) (23 - k) n b h = zV (zPm A) k (znow (zPm A) (23 - k) b n) b h + zcby (zPm A) (23 - k) n (znow (zPm A) (23 - k) b n) := fun b h hb => by
      have i1 := ih (znow (zPm A) (23 - k) b n) b h (by omega) hb
      unfold zwl
      rw [i1.1, if_pos (by omega), if_pos rfl]
    have es : ∀ b, b < 3 → zwst true (zPm A) (zW true (zPm A) k) (23 - k) n u held b = zstp (zPm A) k n u held b := fun b hb => by
      unfold zwst zstp
      by_cases c1 : b = u
      · rw [if_pos c1, if_pos c1, el b _ hb]
      · rw [if_neg c1, if_neg c1]
        by_cases c2 : held < (zPm A).2.2.2.2.2
        · rw [if_pos c2, if_pos c2]
        · have i1 := ih (znow (zPm A) (23 - k) b n) b 1 (by omega) hb
          have := hcb (23 - k) n (znow (zPm A) (23 - k) b n)
          rw [if_neg c2, if_neg c2, el b _ hb, if_pos (by omega), if_pos rfl]
    have bd : zV (zPm A) (k + 1) n u held ≤ 891 * (k + 1 + 1) := by
      have l := zmin3_le (zstp (zPm A) k n u held 0) (zstp (zPm A) k n u held 1) (zstp (zPm A) k n u held 2)
      have lu : zV (zPm A) (k + 1) n u held ≤ zstp (zPm A) k n u held u := by
        rw [zV_s]
        rcases (show u = 0 ∨ u = 1 ∨ u = 2 by omega) with rfl | rfl | rfl
        · exact l.1
        · exact l.2.1
        · exact l.2.2
      have i1 := ih (znow (zPm A) (23 - k) u n) u (if held < (zPm A).2.2.2.2.2 then held + 1 else (zPm A).2.2.2.2.2) (by omega) hu
      have := hcb (23 - k) n (znow (zPm A) (23 - k) u n)
      unfold zstp at lu
      rw [if_pos rfl] at lu
      omega
    refine ⟨?_, bd⟩
    rw [zV_s] at bd
    rw [zW, es 0 (by omega), es 1 (by omega), es 2 (by omega), zlow3 (by omega), zV_s]
theorem zbeg_le (A : zA) (b : Nat) (hb : b < 3) : zWf true (zPm A) b = zbeg (zPm A) b ∧ zbeg (zPm A) b < znev := by
  have hnev : znev = 99999999 := rfl
  have i1 := zW_V A 23 (znow (zPm A) 0 b 0) b 1 (by omega) hb
  have i2 := zcby_le (P := zPm A) (k := 99) (fun i m => zclamp_le _) 0 0 (znow (zPm A) 0 b 0)
  have e1 : zWf true (zPm A) b = zbeg (zPm A) b := by
    unfold zWf zwl zbeg
    rw [i1.1, if_pos (by omega), if_pos rfl]
  refine ⟨e1, ?_⟩
  unfold zbeg
  omega
theorem zfirst_ext {f g : Nat → Nat} (h : ∀ b, b < 3 → f b = g b) : zfirst f = zfirst g := by
  unfold zfirst
  rw [h 0 (by omega), h 1 (by omega), h 2 (by omega)]
theorem zWm_Lc (A : zA) : zWm true (zPm A) = zLc (zPm A) ∧ zLc (zPm A) < znev := by
  have h0 := zbeg_le A 0 (by omega)
  have h1 := zbeg_le A 1 (by omega)
  have h2 := zbeg_le A 2 (by omega)
  have l : zLc (zPm A) < znev := Nat.lt_of_le_of_lt (zmin3_le _ _ _).1 h0.2
  refine ⟨?_, l⟩
  unfold zWm
  rw [(zbst_3 _).1, h0.1, h1.1, h2.1]
  exact zlow3 l
theorem zwk_walk (A : zA) : ∀ m, m < 24 → zwkW true (zPm A) m = zwalk (zPm A) m ∧ (zwalk (zPm A) m).2.1 < 3 := by
  intro m
  induction m with
  | zero =>
    intro _
    have e : zfirst (zWf true (zPm A)) = zfirst (zbeg (zPm A)) := zfirst_ext (fun b hb => (zbeg_le A b hb).1)
    refine ⟨?_, ?_⟩
    · rw [zwkW_0, zwalk, e]
    · rw [zwalk]; exact zfirst_lt _
  | succ m ih =>
    intro hm
    obtain ⟨i1, i2⟩ := ih (by omega)
    have hnev : znev = 99999999 := rfl
    have e : zfirst (zwst true (zPm A) (zW true (zPm A) (22 - m)) (m + 1) (zwalk (zPm A) m).1 (zwalk (zPm A) m).2.1 (zwalk (zPm A) m).2.2) = zfirst (zstp (zPm A) (22 - m) (zwalk (zPm A) m).1 (zwalk (zPm A) m).2.1 (zwalk (zPm A) m).2.2) := by
      refine zfirst_ext (fun b hb => ?_)
      have em : 23 - (22 - m) = m + 1 := by omega
      have hcb : ∀ m n now, zcby (zPm A) m n now ≤ 792 := fun m n now => by
        have := zcby_le (P := zPm A) (k := 99) (fun i m => zclamp_le _) m n now
        omega
      have el : ∀ h, zwl true (zPm A) (zW true (zPm A) (22 - m)) (m + 1) (zwalk (zPm A) m).1 b h = zV (zPm A) (22 - m) (znow (zPm A) (m + 1) b (zwalk (zPm A) m).1) b h + zcby (zPm A) (m + 1) (zwalk (zPm A) m).1 (znow (zPm A) (m + 1) b (zwalk (zPm A) m).1) := fun h => by
        have i1 := zW_V A (22 - m) (znow (zPm A) (m + 1) b (zwalk (zPm A) m).1) b h (by omega) hb
        unfold zwl
        rw [i1.1, if_pos (by omega), if_pos rfl]
      unfold zwst zstp
      rw [em]
      by_cases c1 : b = (zwalk (zPm A) m).2.1
      · rw [if_pos c1, if_pos c1, el]
      · rw [if_neg c1, if_neg c1]
        by_cases c2 : (zwalk (zPm A) m).2.2 < (zPm A).2.2.2.2.2
        · rw [if_pos c2, if_pos c2]
        · have j1 := zW_V A (22 - m) (znow (zPm A) (m + 1) b (zwalk (zPm A) m).1) b 1 (by omega) hb
          have := hcb (m + 1) (zwalk (zPm A) m).1 (znow (zPm A) (m + 1) b (zwalk (zPm A) m).1)
          rw [if_neg c2, if_neg c2, el, if_pos (by omega), if_pos rfl]
    refine ⟨?_, ?_⟩
    · rw [zwkW, zwalk, i1, e]
    · rw [zwalk]; exact zfirst_lt _
def s_least (A : zA) (w : Int32) : Int32 × zA := ((if zr w 26 = true then (if w = 0 then nI (zLc (zPm A)) else if w = 1 then nI (zchgs (zLr (zPm A))) else nI (zLr (zPm A) (w.toNatClampNeg - 2))) else -2), A)
def s_lay (A : zA) : Int32 × zA := (nI (zLc (zPm A)), (zDp A.1 (zLr (zPm A)), A.2))
def s_fewest (A : zA) : Int32 × zA := (zfew A.1, A)
theorem p8_leastC {A : zA} (hi : zI A) {σ : zSt} (h : RM A σ) (Q : Int32 → zSt → Prop) (hQ : ∀ σ', RM A σ' → zIsRow 10 (zLr (zPm A)) σ' → Q (nI (zLc (zPm A))) σ') : wX8_leastRow 1 σ Q := by
  have e := zWm_Lc A
  refine p8_leastRow hi h true Q (fun σ' h' r => ?_)
  rw [e.1] at r ⊢
  refine hQ σ' h' (fun m hm => ?_)
  have := r e.2 m hm
  dsimp only at this
  rw [(zwk_walk A m hm).1] at this
  exact this
theorem m_least {A : zA} {σ : zSt} (hi : zI A) (h : RM A σ) (w : Int32) (Q : Int32 → zSt → Prop) (hQ : ∀ σ', RM (s_least A w).2 σ' → Q (s_least A w).1 σ') : wX8_least w σ Q := by
  unfold wX8_least
  unfold s_least at hQ
  dsimp only at hQ
  rw [forall_eq, p8_i25]
  by_cases c1 : zr w 26 = true
  rotate_left
  · rw [if_neg c1] at hQ ⊢
    rw [if_pos rfl]; exact hQ σ h
  rw [if_pos c1] at hQ ⊢
  rw [if_neg (by decide)]
  obtain ⟨w, hw, rfl⟩ := zr_of (by omega) c1
  rw [zcl (by omega)] at hQ
  refine p8_leastC hi h _ (fun σ1 h1 r1 => ?_)
  have hq := hQ σ1 h1
  by_cases w0 : w = 0
  · rw [if_pos (show nI w = (0 : Int32) by rw [w0]; rfl)] at hq ⊢
    exact hq
  have w0' : ¬ nI w = (0 : Int32) := nI_ne0 (by omega) (by omega)
  rw [if_neg w0'] at hq ⊢
  by_cases w1 : w = 1
  · rw [if_pos (show nI w = (1 : Int32) by rw [w1]; rfl)] at hq ⊢
    rw [p8_rowChanges r1]
    exact hq
  have w1' : ¬ nI w = (1 : Int32) := fun z => w1 ((nI_eq (b := 1) (by omega) (by omega)).mp z)
  rw [if_neg w1'] at hq ⊢
  rw [show nI w - 2 = nI (w - 2) from pk_sub (b := 2) (by omega), zcl (by omega), (r1 (w - 2) (by omega)).1]
  exact ⟨zin' (by omega) (by omega), hq⟩
theorem m_lay_L {row : Nat → Nat} (x1 : Int32) (Q : Int32 → zSt → Prop) (K : zSt → Prop) : ∀ (j m n : Nat) (σ1 : zSt), m + j = 24 → j < n → zIsRow 10 row σ1 → (∀ a, a < m → σ1.1 9 a = nI (row a)) → (∀ σ2 : zSt, (∀ o, o ≠ 9 → σ2.1 o = σ1.1 o) → (∀ a, a < 24 → σ2.1 9 a = nI (row a)) → K σ2) → wX8_lay_L8 Q K x1 n (nI m) σ1 := by
  intro j
  induction j with
  | zero =>
    intro m n σ1 h1 h2 g f hK
    obtain ⟨n, rfl⟩ : ∃ n', n = n' + 1 := ⟨n - 1, by omega⟩
    have : m = 24 := by omega
    subst this
    rw [wX8_lay_L8, if_pos (by decide)]
    exact hK σ1 (fun _ _ => rfl) f
  | succ j ih =>
    intro m n σ1 h1 h2 g f hK
    obtain ⟨n, rfl⟩ : ∃ n', n = n' + 1 := ⟨n - 1, by omega⟩
    have hm : m < 24 := by omega
    have hv : vp_in (nI m) 24 := zin' hm (by omega)
    rw [wX8_lay_L8, if_neg (show ¬ (24 : Int32) ≤ nI m from nI_ge (b := 24) hm (by omega))]
    refine ⟨hv, hv, ?_⟩
    rw [forall_eq, forall_eq, nI_1, zcl (by omega), (g m hm).1]
    refine ih (m + 1) n _ (by omega) (by omega) (fun x hx => by rw [zput_ne (by decide)]; exact g x hx) (fun a ha => ?_) (fun σ2 e2 f2 => hK σ2 (fun o ho => by rw [e2 o ho, zput_ne ho]) f2)
    rw [zput_at]
    by_cases q : a = m
    · rw [if_pos ⟨rfl, q⟩, q]
    · rw [if_neg (fun z => q z.2)]; exact f a (by omega)
theorem m_lay {A : zA} {σ : zSt} (hi : zI A) (h : RM A σ) (Q : Int32 → zSt → Prop) (hQ : ∀ σ', RM (s_lay A).2 σ' → Q (s_lay A).1 σ') : wX8_lay σ Q := by
  unfold wX8_lay
  refine p8_leastC hi h _ (fun σ1 h1 r1 => ?_)
  refine m_lay_L _ Q _ 24 0 300 σ1 (by omega) (by omega) r1 (fun a ha => by omega) (fun σ2 e2 f2 => ?_)
  exact hQ σ2 (h1.setRow (fun o a _ => e2 o a) f2)
/-! fewest changes -/
def zcap (x : Nat) : Nat := if x < 1000000 then x else znev
theorem zcap3 (a b c : Nat) : zlow (zlow (zlow znev (zcap a)) (zcap b)) (zcap c) = zcap (zmin3 a b c) := by
  have hnev : znev = 99999999 := rfl
  unfold zlow zmin3 zcap
  repeat' split
  all_goals omega
theorem zsum_0 {f : Nat → Nat} (h : ∀ i, f i = 0) : ∀ n, zsum f n = 0 := by
  intro n
  induction n with
  | zero => rfl
  | succ n ih => rw [zsum, ih, h]
theorem zsum_pos {f : Nat → Nat} : ∀ n i, i < n → f i ≤ zsum f n := by
  intro n
  induction n with
  | zero => intro i hi; omega
  | succ n ih =>
    intro i hi
    rw [zsum]
    by_cases c : i = n
    · rw [c]; omega
    · have := ih i (by omega); omega
theorem zF_cby (D : zD) {m : Nat} (hm : m < 24) (n now : Nat) : zcby (zparF D) m n now = 0 := by
  unfold zcby
  refine zsum_0 (fun i => ?_) 8
  show (if now.testBit i = true ∧ n.testBit i = false then (if m = 24 then 1000000 else 0) else 0) = 0
  rw [if_neg (show ¬ m = 24 by omega)]
  split <;> rfl
theorem zF_W (A : zA) : ∀ k n u held, k ≤ 23 → u < 3 → zW false (zPm A) k n u held = zcap (zV (zparF A.1) k n u held) ∧ (zV (zparF A.1) k n u held < 1000000 → zV (zparF A.1) k n u held ≤ k) := by
  have hnev : znev = 99999999 := rfl
  intro k
  induction k with
  | zero =>
    intro n u held _ hu
    rw [zW, zV, if_neg (by simp)]
    by_cases c : n &&& zall (zPm A) = zall (zPm A)
    · have e0 : zcby (zparF A.1) 24 n (zall (zparF A.1)) = 0 := by
        unfold zcby
        refine zsum_0 (fun i => ?_) 8
        rw [if_neg]
        intro ⟨z1, z2⟩
        have := congrArg (fun x => x.testBit i) c
        simp only [Nat.testBit_and, z2, Bool.false_and] at this
        rw [show (zall (zPm A)).testBit i = (zall (zparF A.1)).testBit i from rfl, z1] at this
        simp at this
      rw [if_pos c, e0]
      exact ⟨rfl, fun _ => Nat.le_refl _⟩
    · have e1 : 1000000 ≤ zcby (zparF A.1) 24 n (zall (zparF A.1)) := by
        have : ∃ i, (zall (zPm A)).testBit i = true ∧ n.testBit i = false := by
          refine Classical.byContradiction (fun q => c ?_)
          apply Nat.eq_of_testBit_eq
          intro i
          rw [Nat.testBit_and]
          cases hz : (zall (zPm A)).testBit i with
          | false => simp
          | true =>
            cases hn : n.testBit i with
            | true => rfl
            | false => exact absurd ⟨i, hz, hn⟩ q
        obtain ⟨i, z1, z2⟩ := this
        have i8 : i < 8 := by rw [zall_bit] at z1; simp at z1; exact z1.1
        unfold zcby
        refine Nat.le_trans ?_ (zsum_pos 8 i i8)
        rw [if_pos ⟨z1, z2⟩]
        show 1000000 ≤ if 24 = 24 then 1000000 else 0
        rw [if_pos rfl]
        exact Nat.le_refl _
      rw [if_neg c]
      unfold zcap
      rw [if_neg (by omega)]
      exact ⟨rfl, fun z => by omega⟩
  | succ k ih =>
    intro n u held hk hu
    have el : ∀ b h, b < 3 → zwl false (zPm A) (zW false (zPm A) k) (23 - k) n b h = zcap (zV (zparF A.1) k (znow (zparF A.1) (23 - k) b n) b h) := fun b h hb => by
      have i1 := ih (znow (zPm A) (23 - k) b n) b h (by omega) hb
      unfold zwl
      rw [i1.1, if_neg (show ¬ (false = true) by simp), Nat.add_zero]
      show (if zcap _ < znev then _ else znev) = zcap (zV (zparF A.1) k (znow (zPm A) (23 - k) b n) b h)
      unfold zcap
      split <;> split <;> omega
    have es : ∀ b, b < 3 → zwst false (zPm A) (zW false (zPm A) k) (23 - k) n u held b = zcap (zstp (zparF A.1) k n u held b) ∧ (zstp (zparF A.1) k n u held b < 1000000 → zstp (zparF A.1) k n u held b ≤ k + 1) := fun b hb => by
      have z0 : zcby (zparF A.1) (23 - k) n (znow (zparF A.1) (23 - k) b n) = 0 := zF_cby A.1 (by omega) _ _
      unfold zwst zstp
      rw [z0, show (zPm A).2.2.2.2.2 = (zparF A.1).2.2.2.2.2 from rfl, show (zparF A.1).2.2.2.2.1 (23 - k) u b = 1 from rfl]
      by_cases c1 : b = u
      · rw [if_pos c1, if_pos c1, el b _ hb]
        have i1 := ih (znow (zparF A.1) (23 - k) b n) b (if held < (zparF A.1).2.2.2.2.2 then held + 1 else (zparF A.1).2.2.2.2.2) (by omega) hb
        refine ⟨rfl, fun z => ?_⟩
        have := i1.2 (by omega)
        omega
      · rw [if_neg c1, if_neg c1]
        by_cases c2 : held < (zparF A.1).2.2.2.2.2
        · rw [if_pos c2, if_pos c2]
          refine ⟨?_, fun z => by omega⟩
          unfold zcap
          rw [if_neg (by omega)]
        · have i1 := ih (znow (zparF A.1) (23 - k) b n) b 1 (by omega) hb
          rw [if_neg c2, if_neg c2, el b _ hb, if_neg (show ¬ (false = true) by simp)]
          generalize zV (zparF A.1) k (znow (zparF A.1) (23 - k) b n) b 1 = v at i1
          have i2 := i1.2
          refine ⟨?_, fun z => by have := i2 (by omega); omega⟩
          unfold zcap
          by_cases q : v < 1000000
          · have := i2 q
            rw [if_pos q, if_pos (by omega), if_pos (by omega)]
          · rw [if_neg q, if_neg (by omega), if_neg (by omega)]
    obtain ⟨a0, b0⟩ := es 0 (by omega)
    obtain ⟨a1, b1⟩ := es 1 (by omega)
    obtain ⟨a2, b2⟩ := es 2 (by omega)
    rw [zW, a0, a1, a2, zcap3, zV_s]
    refine ⟨rfl, fun z => ?_⟩
    unfold zmin3 at z ⊢
    omega
theorem zF_m (A : zA) : zWm false (zPm A) = zcap (zLc (zparF A.1)) := by
  have e : ∀ b, b < 3 → zWf false (zPm A) b = zcap (zbeg (zparF A.1) b) := fun b hb => by
    have hnev : znev = 99999999 := rfl
    have i1 := zF_W A 23 (znow (zPm A) 0 b 0) b 1 (by omega) hb
    unfold zWf zwl zbeg
    rw [i1.1, if_neg (show ¬ (false = true) by simp), Nat.add_zero, zF_cby A.1 (by omega), Nat.add_zero]
    show (if zcap _ < znev then _ else znev) = zcap (zV (zparF A.1) 23 (znow (zPm A) 0 b 0) b 1)
    unfold zcap
    split <;> split <;> omega
  unfold zWm
  rw [(zbst_3 _).1, e 0 (by omega), e 1 (by omega), e 2 (by omega), zcap3]
  rfl
theorem m_fewest {A : zA} {σ : zSt} (hi : zI A) (h : RM A σ) (Q : Int32 → zSt → Prop) (hQ : ∀ σ', RM (s_fewest A).2 σ' → Q (s_fewest A).1 σ') : wX8_fewest σ Q := by
  have hnev : znev = 99999999 := rfl
  have e := zF_m A
  unfold wX8_fewest
  unfold s_fewest zfew at hQ
  dsimp only at hQ
  refine p8_leastRow hi h false _ (fun σ' h' _ => ?_)
  have hq := hQ σ' h'
  rw [e]
  clear e hQ
  generalize zLc (zparF A.1) = w at hq
  unfold zcap
  by_cases q : w < 1000000
  · rw [if_pos q] at hq ⊢
    rw [if_pos (show nI w < (99999999 : Int32) from nI_lt (b := 99999999) (by omega) (by omega))]
    exact hq
  · rw [if_neg q] at hq ⊢
    rw [if_neg (show ¬ nI znev < (99999999 : Int32) by decide)]
    exact hq
