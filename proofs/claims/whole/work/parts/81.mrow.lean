theorem zs1 {k : Nat} : nI (k + 1) - 1 = nI k := by
  rw [← nI_1]
  rw [Int32.add_sub_cancel]
theorem p8_takes {A : zA} {σ : zSt} (hi : zI A) (h : RM A σ) (Q : zSt → Prop) (hQ : ∀ σ' : zSt, zIsRow 10 (A.1 0) σ' → (∀ o, o ≠ 10 → σ'.1 o = σ.1 o) → Q σ') : wX8_takesPlan σ Q := by
  have L : ∀ (j m n : Nat) (σ1 : zSt), m + j = 24 → j < n → (∀ o, o ≠ 10 → σ1.1 o = σ.1 o) → (∀ a, a < m → σ1.1 10 a = nI (A.1 0 a)) → wX8_takesPlan_L2 Q (fun σ103 => Q σ103) n (nI m) σ1 := by
    intro j
    induction j with
    | zero =>
      intro m n σ1 h1 h2 e f
      obtain ⟨n, rfl⟩ : ∃ n', n = n' + 1 := ⟨n - 1, by omega⟩
      have : m = 24 := by omega
      subst this
      rw [wX8_takesPlan_L2, if_pos (by decide)]
      exact hQ σ1 (fun a ha => ⟨f a ha, hi.1.1 a ha⟩) e
    | succ j ih =>
      intro m n σ1 h1 h2 e f
      obtain ⟨n, rfl⟩ : ∃ n', n = n' + 1 := ⟨n - 1, by omega⟩
      have hm : m < 24 := by omega
      have hv : vp_in (nI m) 24 := zin' hm (by omega)
      rw [wX8_takesPlan_L2, if_neg (show ¬ (24 : Int32) ≤ nI m from nI_ge (b := 24) hm (by omega))]
      refine ⟨hv, hv, ?_⟩
      rw [forall_eq, forall_eq, nI_1, zcl (by omega), e 9 (by decide), h.1.1 m hm]
      refine ih (m + 1) n _ (by omega) (by omega) (fun o ho => by rw [zput_ne ho]; exact e o ho) (fun a ha => ?_)
      rw [zput_at]
      by_cases q : a = m
      · rw [if_pos ⟨rfl, q⟩, q]
      · rw [if_neg (fun z => q z.2)]; exact f a (by omega)
  unfold wX8_takesPlan
  exact L 24 0 300 σ (by omega) (by omega) (fun _ _ => rfl) (fun a ha => by omega)
theorem RM.takes {A : zA} {σ σ' : zSt} (h : RM A σ) (e : ∀ o, o ≠ 10 → σ'.1 o = σ.1 o) : RM A σ' := h.keep (fun o ho => e o (by omega)) (fun j hj => by rw [e 0 (by decide)])
theorem p8_rowChanges {σ : zSt} {row : Nat → Nat} (hr : zIsRow 10 row σ) (Q : Int32 → zSt → Prop) : wX8_rowChanges σ Q = Q (nI (zchgs row)) σ := by
  have L : ∀ (j k n : Nat), k + j = 23 → j < n → wX8_rowChanges_L4 Q (fun v s => Q v s) n (nI (zsum (fun k => if row (k + 1) = row k then 0 else 1) k)) (nI (k + 1)) σ = Q (nI (zchgs row)) σ := by
    intro j
    induction j with
    | zero =>
      intro k n h1 h2
      obtain ⟨n, rfl⟩ : ∃ n', n = n' + 1 := ⟨n - 1, by omega⟩
      have : k = 23 := by omega
      subst this
      rw [wX8_rowChanges_L4, if_pos (by decide)]
      rfl
    | succ j ih =>
      intro k n h1 h2
      obtain ⟨n, rfl⟩ : ∃ n', n = n' + 1 := ⟨n - 1, by omega⟩
      have v1 : vp_in (nI (k + 1)) 24 := zin' (by omega) (by omega)
      have v2 : vp_in (nI k) 24 := zin' (by omega) (by omega)
      have l1 := (hr (k + 1) (by omega)).2
      have l2 := (hr k (by omega)).2
      rw [wX8_rowChanges_L4, if_neg (show ¬ (24 : Int32) ≤ nI (k + 1) from nI_ge (b := 24) (by omega) (by omega)), zs1, zcl (by omega), zcl (by omega), (hr (k + 1) (by omega)).1, (hr k (by omega)).1]
      simp only [v1, v2, true_and, forall_eq, nI_1]
      have st := ih (k + 1) n (by omega) (by omega)
      rw [zsum] at st
      by_cases q : row (k + 1) = row k
      · rw [if_pos (by rw [q])]
        rw [if_pos q] at st
        rw [Int32.add_zero]
        exact st
      · rw [if_neg (fun z => q ((nI_eq (by omega) (by omega)).mp z))]
        rw [if_neg q] at st
        exact st
  unfold wX8_rowChanges
  exact L 23 0 300 (by omega) (by omega)
theorem p8_rowThrough {A : zA} {σ : zSt} (hi : zI A) (h : RM A σ) {row : Nat → Nat} (hr : zIsRow 10 row σ) (Q : Int32 → zSt → Prop) : wX8_rowThrough σ Q = Q (nI (zthc A.1 row)) σ := by
  have L : ∀ (j i n : Nat), i + j = 8 → j < n → wX8_rowThrough_L4 Q (fun v s => Q v s) n (nI (zsum (fun i => if zPr A.1 i = true ∧ zthr A.1 row i < 24 then 1 else 0) i)) (nI i) σ = Q (nI (zthc A.1 row)) σ := by
    intro j
    induction j with
    | zero =>
      intro i n h1 h2
      obtain ⟨n, rfl⟩ : ∃ n', n = n' + 1 := ⟨n - 1, by omega⟩
      have : i = 8 := by omega
      subst this
      rw [wX8_rowThrough_L4, if_pos (by decide)]
      rfl
    | succ j ih =>
      intro i n h1 h2
      obtain ⟨n, rfl⟩ : ∃ n', n = n' + 1 := ⟨n - 1, by omega⟩
      have h8 : i < 8 := by omega
      have hb := (hi.1.2.1 i h8).2.1
      have lt := (zthr_le A.1 row i 25 (A.1 2 i) (by omega) (by omega)).1
      have lt : zthr A.1 row i ≤ 24 := lt
      rw [wX8_rowThrough_L4, if_neg (show ¬ (8 : Int32) ≤ nI i from nI_ge (b := 8) h8 (by omega)), p8_isOne h.1 hi.1 h8]
      have st := ih (i + 1) n (by omega) (by omega)
      rw [zsum] at st
      simp only [forall_eq, nI_1, Int32.add_zero]
      by_cases c1 : zPr A.1 i = true
      · rw [if_pos c1, if_neg (by decide), p8_through h.1 hi.1 hr h8]
        by_cases c2 : zthr A.1 row i < 24
        · rw [if_pos ⟨c1, c2⟩] at st
          rw [if_neg (show ¬ (24 : Int32) ≤ nI (zthr A.1 row i) from nI_ge (b := 24) c2 (by omega))]
          exact st
        · rw [if_neg (fun z => c2 z.2)] at st
          rw [if_pos (show (24 : Int32) ≤ nI (zthr A.1 row i) from nI_le (a := 24) (by omega) (by omega))]
          exact st
      · rw [if_neg c1, if_pos rfl]
        rw [if_neg (fun z => c1 z.1)] at st
        exact st
  unfold wX8_rowThrough
  exact L 8 0 300 (by omega) (by omega)
theorem zmy.row {σ σ' : zSt} (e : zmy σ σ') {row : Nat → Nat} (hr : zIsRow 10 row σ) : zIsRow 10 row σ' := fun m hm => by rw [e.1 10 (by decide)]; exact hr m hm
theorem zmy.tr {σ σ' σ'' : zSt} (e : zmy σ σ') (f : zmy σ' σ'') : zmy σ σ'' := ⟨fun o ho => (f.1 o ho).trans (e.1 o ho), fun j hj => (f.2 j hj).trans (e.2 j hj)⟩
theorem zmy.rf (σ : zSt) : zmy σ σ := ⟨fun _ _ => rfl, fun _ _ => rfl⟩
theorem p8_rowCost {A : zA} {σ : zSt} (hi : zI A) (h : RM A σ) {row : Nat → Nat} (hr : zIsRow 10 row σ) (Q : Int32 → zSt → Prop) (hQ : ∀ σ', zmy σ σ' → Q (nI (zrowc A.1 A.2.2.2.1.2 row)) σ') : wX8_rowCost σ Q := by
  have L2 : ∀ (j k n : Nat) (σ1 : zSt), k + j = 23 → j < n → zmy σ σ1 → wX8_rowCost_L43 Q (fun v s => Q v s) n (nI (zsum (fun i => if zPr A.1 i = true then zcost A.1 A.2.2.2.1.2 i (zthr A.1 row i) else 0) 8 + zsum (fun k => if row (k + 1) = row k then 0 else zchg A.1 A.2.2.2.1.2 (k + 1) (row k) (row (k + 1))) k)) (nI (k + 1)) σ1 := by
    intro j
    induction j with
    | zero =>
      intro k n σ1 h1 h2 e
      obtain ⟨n, rfl⟩ : ∃ n', n = n' + 1 := ⟨n - 1, by omega⟩
      have : k = 23 := by omega
      subst this
      rw [wX8_rowCost_L43, if_pos (by decide)]
      exact hQ σ1 e
    | succ j ih =>
      intro k n σ1 h1 h2 e
      obtain ⟨n, rfl⟩ : ∃ n', n = n' + 1 := ⟨n - 1, by omega⟩
      have v1 : vp_in (nI (k + 1)) 24 := zin' (by omega) (by omega)
      have v2 : vp_in (nI k) 24 := zin' (by omega) (by omega)
      have hr1 := e.row hr
      have l1 := (hr (k + 1) (by omega)).2
      have l2 := (hr k (by omega)).2
      rw [wX8_rowCost_L43, if_neg (show ¬ (24 : Int32) ≤ nI (k + 1) from nI_ge (b := 24) (by omega) (by omega)), zs1, zcl (by omega), zcl (by omega), (hr1 (k + 1) (by omega)).1, (hr1 k (by omega)).1]
      simp only [v1, v2, true_and, forall_eq, nI_1]
      have st := ih (k + 1) n
      rw [show zsum (fun k => if row (k + 1) = row k then 0 else zchg A.1 A.2.2.2.1.2 (k + 1) (row k) (row (k + 1))) (k + 1) = zsum (fun k => if row (k + 1) = row k then 0 else zchg A.1 A.2.2.2.1.2 (k + 1) (row k) (row (k + 1))) k + (if row (k + 1) = row k then 0 else zchg A.1 A.2.2.2.1.2 (k + 1) (row k) (row (k + 1))) from rfl] at st
      by_cases q : row (k + 1) = row k
      · rw [if_pos (by rw [q])]
        rw [if_pos q] at st
        rw [Int32.add_zero]
        exact st σ1 (by omega) (by omega) e
      · rw [if_neg (fun z => q ((nI_eq (by omega) (by omega)).mp z))]
        rw [if_neg q] at st
        refine p8_changeOf hi (zmy.keep h e) (k + 1) (row k) (row (k + 1)) _ (fun σ2 e2 => ?_)
        rw [nI_add, Nat.add_assoc]
        exact st σ2 (by omega) (by omega) (e.tr e2)
  have L1 : ∀ (j i n : Nat) (σ1 : zSt), i + j = 8 → j < n → zmy σ σ1 → wX8_rowCost_L4 Q (fun v111 σ112 => wX8_rowCost_L43 Q (fun v121 σ122 => Q v121 σ122) 300 v111 1 σ112) n (nI (zsum (fun i => if zPr A.1 i = true then zcost A.1 A.2.2.2.1.2 i (zthr A.1 row i) else 0) i)) (nI i) σ1 := by
    intro j
    induction j with
    | zero =>
      intro i n σ1 h1 h2 e
      obtain ⟨n, rfl⟩ : ∃ n', n = n' + 1 := ⟨n - 1, by omega⟩
      have : i = 8 := by omega
      subst this
      rw [wX8_rowCost_L4, if_pos (by decide)]
      exact L2 23 0 300 σ1 (by omega) (by omega) e
    | succ j ih =>
      intro i n σ1 h1 h2 e
      obtain ⟨n, rfl⟩ : ∃ n', n = n' + 1 := ⟨n - 1, by omega⟩
      have h8 : i < 8 := by omega
      have hm := zmy.keep h e
      rw [wX8_rowCost_L4, if_neg (show ¬ (8 : Int32) ≤ nI i from nI_ge (b := 8) h8 (by omega)), p8_isOne hm.1 hi.1 h8]
      have st := ih (i + 1) n
      rw [zsum] at st
      simp only [forall_eq, nI_1, Int32.add_zero]
      by_cases c1 : zPr A.1 i = true
      · rw [if_pos c1, if_neg (by decide), p8_through hm.1 hi.1 (e.row hr) h8]
        rw [if_pos c1] at st
        refine p8_costOf hi hm h8 _ (fun σ2 e2 => ?_)
        rw [nI_add]
        exact st σ2 (by omega) (by omega) (e.tr e2)
      · rw [if_neg c1, if_pos rfl]
        rw [if_neg c1] at st
        exact st σ1 (by omega) (by omega) e
  unfold wX8_rowCost
  exact L1 8 0 300 σ (by omega) (by omega) (zmy.rf σ)
