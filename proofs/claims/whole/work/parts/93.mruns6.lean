theorem p8_runs {A : zA} {σ : zSt} (hi : zI A) (h : RM A σ) {x : Nat} (hx : x < A.1 6 2) (Q : zSt → Prop) (hQ : ∀ σ' : zSt, (∀ o, o ≠ 10 → σ'.1 o = σ.1 o) → zIsRow 10 (zrun A.1 x) σ' → Q σ') : wX8_runs (nI x) σ Q := by
  have L : ∀ (j m n : Nat) (σ1 : zSt), m + j = 24 → j < n → (∀ o, o ≠ 10 → σ1.1 o = σ.1 o) → (∀ a, a < m → σ1.1 10 a = nI (zrunF A.1 x m a)) → wX8_runs_L2 Q (fun σ110 => Q σ110) (nI x) n (nI m) σ1 := by
    intro j
    induction j with
    | zero =>
      intro m n σ1 h1 h2 e f
      obtain ⟨n, rfl⟩ : ∃ n', n = n' + 1 := ⟨n - 1, by omega⟩
      have : m = 24 := by omega
      subst this
      rw [wX8_runs_L2, if_pos (by decide)]
      exact hQ σ1 e (fun a ha => ⟨f a ha, zrunF_lt _ _ _ _⟩)
    | succ j ih =>
      intro m n σ1 h1 h2 e f
      obtain ⟨n, rfl⟩ : ∃ n', n = n' + 1 := ⟨n - 1, by omega⟩
      have hm : m < 24 := by omega
      have hv : vp_in (nI m) 24 := zin' hm (by omega)
      have h' := h.takes e
      have hr : ∀ a, a < m → σ1.1 10 a = nI (zrunF A.1 x m a) ∧ zrunF A.1 x m a < 3 := fun a ha => ⟨f a ha, zrunF_lt _ _ _ _⟩
      have er : znx (A.1 4 x) (A.1 5 x) (fun b => zwt A.1 (zrunF A.1 x m) 0 b m) (fun b => zwt A.1 (zrunF A.1 x m) 1 b m) m (if m = 0 then 0 else zrunF A.1 x m (m - 1)) = zrunF A.1 x (m + 1) m := by
        rw [zrunF]
        simp [zset]
      have st := ih (m + 1) n (zput σ1 10 m (nI (zrunF A.1 x (m + 1) m))) (by omega) (by omega) (fun o ho => by rw [zput_ne ho]; exact e o ho) (fun a ha => by
        rw [zput_at]
        by_cases q : a = m
        · rw [if_pos ⟨rfl, q⟩, q]
        · rw [if_neg (fun z => q z.2), f a (by omega), zrunF_st A.1 x m 1 a (by omega)])
      rw [wX8_runs_L2, if_neg (show ¬ (24 : Int32) ≤ nI m from nI_ge (b := 24) hm (by omega))]
      by_cases c : m = 0
      · subst c
        rw [if_pos (show nI 0 = (0 : Int32) from rfl), show wX8_nextBy (nI x) (nI 0) 0 = wX8_nextBy (nI x) (nI 0) (nI 0) from rfl, p8_nextBy hi h' hr hx hm (by omega)]
        rw [if_pos rfl] at er
        rw [er]
        refine ⟨hv, ?_⟩
        rw [forall_eq, forall_eq, nI_1, zcl (by omega)]
        exact st
      · obtain ⟨k, rfl⟩ : ∃ k, m = k + 1 := ⟨m - 1, by omega⟩
        rw [if_neg (show ¬ nI (k + 1) = (0 : Int32) from nI_ne0 (by omega) (by omega)), zs1]
        refine ⟨zin' (by omega) (by omega), ?_⟩
        rw [if_neg c, Nat.add_sub_cancel] at er
        rw [forall_eq, zcl (by omega), f k (by omega), p8_nextBy hi h' hr hx hm (zrunF_lt _ _ _ _), er]
        refine ⟨hv, ?_⟩
        rw [forall_eq, forall_eq, nI_1, zcl (by omega)]
        exact st
  unfold wX8_runs
  exact L 24 0 300 σ (by omega) (by omega) (fun _ _ => rfl) (fun a ha => by omega)
