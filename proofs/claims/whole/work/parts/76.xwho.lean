def zDp (D : zD) (row : Nat → Nat) : zD := fun a b => if a = 0 then row b else D a b
theorem RX.setRow {A : zA} {σ σ' : zSt} {row : Nat → Nat} (h : RX A σ) (e : ∀ o, o ≠ 2 → σ'.1 o = σ.1 o) (hr : zIsRow 2 row σ') : RX (zDp A.1 row, A.2) σ' := by
  obtain ⟨h1, h2, h3, h4, h5⟩ := h.1
  obtain ⟨k1, k2, k3, k4⟩ := h1
  obtain ⟨g1, g2, g3, g4⟩ := h.2.1
  refine h.ch (D' := zDp A.1 row) ⟨⟨fun m hm => ?_, fun i hi => ?_, fun x hx => ?_, ?_⟩, ?_, h3, ?_, h5⟩ ⟨fun m hm => ?_, fun i hi => ?_, fun x hx => ?_, ?_⟩ ?_ ?_ ?_
  · simpa [zDp] using (hr m hm).2
  · simpa [zDp] using k2 i hi
  · simpa [zDp] using k3 x hx
  · simpa [zDp] using k4
  · cases hk : A.2.1 with
    | none => simp [zimg]
    | some K => rw [hk] at h2; simpa [zimg, zDp] using h2
  · simpa [zDp] using h4
  · simpa [zDp] using (hr m hm).1
  · have := g2 i hi
    rw [e (1 + 3) (by decide), e (1 + 4) (by decide), e (1 + 5) (by decide)]
    simpa [zDp] using this
  · have := g3 x hx
    rw [e (1 + 6) (by decide), e (1 + 7) (by decide)]
    simpa [zDp] using this
  · rw [e (1 + 2) (by decide), e 1 (by decide)]
    simpa [zDp] using g4
  · intro o ho _ _
    exact e o (by omega)
  · exact (h.2.2.2.2.2.2.1.fr (e _ (by decide))).cg rfl rfl rfl rfl rfl rfl
  · exact (h.2.2.2.2.2.2.2.fr (e _ (by decide)) (e _ (by decide))).cg rfl rfl rfl rfl rfl rfl rfl
def s_run (A : zA) (x m : Int32) : Int32 × zA := ((if zr x (A.1 6 2) = true then (if m = -1 then nI (zrowc A.1 A.2.2.2.1.2 (zrun A.1 x.toNatClampNeg)) else if zr m 24 = true then nI (zrun A.1 x.toNatClampNeg m.toNatClampNeg) else -2) else -2), A)
theorem x_run {A : zA} {σ : zSt} (h : RX A σ) (x m : Int32) (Q : Int32 → zSt → Prop) (hQ : ∀ σ', RX (s_run A x m).2 σ' → Q (s_run A x m).1 σ') : wX7_run x m σ Q := by
  unfold wX7_run
  unfold s_run at hQ
  dsimp only at hQ
  have hK := h.1.1.2.2.2.2.2.1
  rw [p7_isMaster (hD := h.2.1) (hO := h.1.1)]
  by_cases c1 : zr x (A.1 6 2) = true
  rotate_left
  · rw [if_neg c1] at hQ ⊢
    rw [if_pos rfl]; exact hQ σ h
  rw [if_pos c1] at hQ ⊢
  rw [if_neg (by decide)]
  obtain ⟨x, hx, rfl⟩ := zr_of (by omega) c1
  rw [zcl (by omega)] at hQ
  by_cases c2 : m = -1
  · rw [if_pos c2] at hQ ⊢
    refine p2_steer h (by omega) _ (fun σ' e hr => ?_)
    try dsimp only
    rw [if_pos c2]
    exact x_ofRow_39 (zhe.keep h e) hr Q (fun σ2 h2 _ => hQ σ2 h2)
  · rw [if_neg c2] at hQ ⊢
    rw [p7_isMinute]
    by_cases c3 : zr m 24 = true
    rotate_left
    · rw [if_neg c3] at hQ ⊢
      rw [if_pos rfl]; exact hQ σ h
    rw [if_pos c3] at hQ ⊢
    rw [if_neg (by decide)]
    refine p2_steer h (by omega) _ (fun σ' e hr => ?_)
    try dsimp only
    rw [if_neg c2]
    obtain ⟨m, hm, rfl⟩ := zr_of (by omega) c3
    refine ⟨zin' hm (by omega), ?_⟩
    rw [zcl (by omega)] at hQ ⊢
    rw [(hr m hm).1]
    exact hQ σ' (zhe.keep h e)
def s_follow (A : zA) (x : Int32) : Int32 × zA := if zr x (A.1 6 2) = true then (nI (zrowc (zDp A.1 (zrun A.1 x.toNatClampNeg)) A.2.2.2.1.2 (zrun A.1 x.toNatClampNeg)), (zDp A.1 (zrun A.1 x.toNatClampNeg), A.2)) else (-2, A)
theorem x_follow {A : zA} {σ : zSt} (h : RX A σ) (x : Int32) (Q : Int32 → zSt → Prop) (hQ : ∀ σ', RX (s_follow A x).2 σ' → Q (s_follow A x).1 σ') : wX7_follow x σ Q := by
  unfold wX7_follow
  unfold s_follow at hQ
  have hK := h.1.1.2.2.2.2.2.1
  rw [p7_isMaster (hD := h.2.1) (hO := h.1.1)]
  by_cases c1 : zr x (A.1 6 2) = true
  rotate_left
  · rw [if_neg c1] at hQ ⊢
    rw [if_pos rfl]; exact hQ σ h
  rw [if_pos c1] at hQ ⊢
  rw [if_neg (by decide)]
  obtain ⟨x, hx, rfl⟩ := zr_of (by omega) c1
  rw [zcl (by omega)] at hQ
  dsimp only at hQ
  refine p2_steer h (by omega) _ (fun σ' e hr => ?_)
  rw [forall_eq]
  have hr2 : zIsRow 2 (zrun A.1 x) (zcopy σ' 39 0 2 0 24) := fun m hm => by
    rw [zcopy_at, if_pos ⟨rfl, hm⟩]
    exact hr m hm
  have h2 := (zhe.keep h e).setRow (σ' := zcopy σ' 39 0 2 0 24) (fun o ho => by unfold zcopy; rw [zrow_ne ho]) hr2
  exact x_ofRow_2 h2 hr2 Q (fun σ2 h3 _ => hQ σ2 h3)
def ztl (c : Nat → Int32) (row : Nat → Nat) : Nat → Bool
  | 0 => true
  | k + 1 => ztl c row k && decide (c k = nI (row k))
theorem ztl_iff (c : Nat → Int32) (row : Nat → Nat) : ∀ n, ztl c row n = true ↔ ∀ j, j < n → c j = nI (row j) := by
  intro n
  induction n with
  | zero => simp [ztl]
  | succ n ih =>
    rw [ztl, Bool.and_eq_true, ih, decide_eq_true_eq]
    constructor
    · intro ⟨a, b⟩ j hj
      by_cases q : j = n
      · rw [q]; exact b
      · exact a j (by omega)
    · intro a
      exact ⟨fun j hj => a j (by omega), a n (by omega)⟩
theorem p5_tells {σ : zSt} {row : Nat → Nat} {c : Nat → Int32} {i0 z : Nat} (hz : σ.1 (61 + i0) 2 = nI z) (hl : z ≤ 24) (hc : ∀ m, m < z → σ.1 (65 + i0) m = c m) (hr : zIsRow 39 row σ) (Q : Int32 → zSt → Prop) : wX5_tells_39 i0 σ Q = Q (if ztl c row z = true then 1 else 0) σ := by
  have L : ∀ (j k n : Nat), k + j = z → j < n → (∀ a, a < k → c a = nI (row a)) → wX5_tells_39_L2 Q (fun σ102 => Q 0 σ102) (fun σ103 => Q 1 σ103) i0 n (nI k) σ = Q (if ztl c row z = true then 1 else 0) σ := by
    intro j
    induction j with
    | zero =>
      intro k n h1 h2 f
      obtain ⟨n, rfl⟩ : ∃ n', n = n' + 1 := ⟨n - 1, by omega⟩
      have : k = z := by omega
      subst this
      rw [wX5_tells_39_L2, hz, if_pos (Int32.le_refl _), if_pos ((ztl_iff _ _ _).mpr f)]
    | succ j ih =>
      intro k n h1 h2 f
      obtain ⟨n, rfl⟩ : ∃ n', n = n' + 1 := ⟨n - 1, by omega⟩
      have hk : k < 24 := by omega
      have v1 : vp_in (nI k) 40 := zin' (by omega) (by omega)
      have v2 : vp_in (nI k) 24 := zin' hk (by omega)
      rw [wX5_tells_39_L2, hz, if_neg (show ¬ nI z ≤ nI k from nI_ge (by omega) (by omega)), if_neg (show ¬ (24 : Int32) ≤ nI k from nI_ge (b := 24) hk (by omega)), zcl (by omega), hc k (by omega), (hr k hk).1]
      simp only [v1, v2, true_and, forall_eq, nI_1]
      by_cases q : c k = nI (row k)
      · rw [if_pos q]
        exact ih (k + 1) n (by omega) (by omega) (fun a ha => by
          by_cases w : a = k
          · rw [w]; exact q
          · exact f a (by omega))
      · rw [if_neg q, if_neg (fun w => q ((ztl_iff _ _ _).mp w k (by omega)))]
  unfold wX5_tells_39
  exact L z 0 300 (by omega) (by omega) (fun a ha => by omega)
def s_who (A : zA) (s : Int32) : Int32 × zA := ((if zr s 4 = true then (match A.2.2.2.2 s.toNatClampNeg with
    | none => -11
    | some q => if q.2.1 ≤ 24 then nI (zmask (fun x => ztl q.2.2 (zrun A.1 x) q.2.1) (A.1 6 2)) else -2) else -2), A)
theorem p7_who_L {A : zA} {σ : zSt} (h : RX A σ) {s : Nat} (hs : s < 4) {q : Nat × Nat × (Nat → Int32)} (hz : A.2.2.2.2 s = some q) (hl : q.2.1 ≤ 24) (Q K : Int32 → zSt → Prop) (hK : ∀ σ', RX A σ' → K (nI (zmask (fun x => ztl q.2.2 (zrun A.1 x) q.2.1) (A.1 6 2))) σ') : ∀ (j x n : Nat) (σ1 : zSt), x + j = A.1 6 2 → j < n → RX A σ1 → wX7_who_L17 Q K (nI s) n (nI (zmask (fun x => ztl q.2.2 (zrun A.1 x) q.2.1) x)) (nI x) σ1 := by
  have hM := h.1.1.2.2.2.2.2.1
  have hv : vp_in (nI s) 4 := zin' hs (by omega)
  intro j
  induction j with
  | zero =>
    intro x n σ1 h1 h2 hx
    obtain ⟨n, rfl⟩ : ∃ n', n = n' + 1 := ⟨n - 1, by omega⟩
    have : x = A.1 6 2 := by omega
    subst this
    rw [wX7_who_L17, show σ1.1 1 7 = _ from hx.2.1.2.2.2.2.2.1, if_pos (Int32.le_refl _)]
    exact hK σ1 hx
  | succ j ih =>
    intro x n σ1 h1 h2 hx
    obtain ⟨n, rfl⟩ : ∃ n', n = n' + 1 := ⟨n - 1, by omega⟩
    rw [wX7_who_L17, show σ1.1 1 7 = _ from hx.2.1.2.2.2.2.2.1, if_neg (show ¬ nI (A.1 6 2) ≤ nI x from nI_ge (by omega) (by omega))]
    refine p2_steer hx (by omega) _ (fun σ' e hr => ?_)
    refine ⟨hv, ?_⟩
    have hx' := zhe.keep hx e
    have hk2 := hx'.2.2.2.2.2.1 s hs
    rw [hz] at hk2
    obtain ⟨g1, g2, g3⟩ := hk2
    rw [zcl (by omega), p5_tells (c := q.2.2) g2 hl (fun m hm => g3 m hm) hr]
    simp only [forall_eq, nI_1]
    have st := ih (x + 1) n σ' (by omega) (by omega) hx'
    by_cases w : ztl q.2.2 (zrun A.1 x) q.2.1 = true
    · rw [if_pos w, if_neg (by decide)]
      rw [zmask_s (fun x => ztl q.2.2 (zrun A.1 x) q.2.1) (k := x) (by omega) w]
      exact st
    · rw [if_neg w, if_pos rfl]
      rw [zmask_n (fun x => ztl q.2.2 (zrun A.1 x) q.2.1) (k := x) w] at st
      exact st
theorem x_who {A : zA} {σ : zSt} (h : RX A σ) (s : Int32) (Q : Int32 → zSt → Prop) (hQ : ∀ σ', RX (s_who A s).2 σ' → Q (s_who A s).1 σ') : wX7_who s σ Q := by
  unfold wX7_who wX7_tellingRefusal
  unfold s_who at hQ
  dsimp only at hQ
  rw [p7_isSheet]
  by_cases c1 : zr s 4 = true
  rotate_left
  · rw [if_neg c1] at hQ ⊢
    rw [if_pos rfl]; dsimp only; rw [if_neg (by decide)]; exact hQ σ h
  rw [if_pos c1] at hQ ⊢
  rw [if_neg (by decide)]
  obtain ⟨s, hs, rfl⟩ := zr_of (by omega) c1
  have hv : vp_in (nI s) 4 := zin' hs (by omega)
  rw [zcl (by omega)] at hQ ⊢
  refine ⟨hv, ?_⟩
  have hk2 := h.2.2.2.2.2.1 s hs
  cases hz : A.2.2.2.2 s with
  | none =>
    rw [hz] at hk2 hQ
    rw [if_pos hk2]; dsimp only; rw [if_neg (by decide)]; exact hQ σ h
  | some q =>
    rw [hz] at hk2 hQ
    obtain ⟨g1, g2, g3⟩ := hk2
    obtain ⟨b1, b2⟩ := h.1.2.2.2.2 s hs q hz
    dsimp only at hQ
    rw [g1, if_neg (zsort_ne b1), g2]
    refine ⟨hv, ?_⟩
    by_cases c2 : q.2.1 ≤ 24
    · rw [if_pos c2] at hQ
      rw [if_pos (show nI q.2.1 ≤ (24 : Int32) from nI_le (b := 24) c2 (by omega))]
      dsimp only
      rw [if_pos rfl]
      exact p7_who_L h hs hz c2 Q _ hQ (A.1 6 2) 0 300 σ (by omega) (by have := h.1.1.2.2.2.2.2.1; omega) h
    · rw [if_neg c2] at hQ
      rw [if_neg (show ¬ nI q.2.1 ≤ (24 : Int32) from nI_ge (a := 24) (by omega) (by omega))]
      dsimp only
      rw [if_neg (by decide)]
      exact hQ σ h
