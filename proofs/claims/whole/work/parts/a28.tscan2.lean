theorem tx_lx_ws {T : Nat → Nat} {n p : Nat} (hp : p < n) (hn : n ≤ 160) (h : tx_ws (T p) = true) : tx_lx T n (p + 1) = tx_lx T n p := by
  have e : tx_cs tx_ws T n 161 (p + 1) = tx_cs tx_ws T n 161 p := by
    rw [show tx_cs tx_ws T n 161 p = tx_cs tx_ws T n 160 (p + 1) from by rw [tx_cs, if_pos ⟨hp, h⟩]]
    exact tx_cs_eq tx_ws T n 161 160 (p + 1) (by omega) (by omega)
  unfold tx_lx
  rw [e]
theorem tx_lx_nw {T : Nat → Nat} {n p : Nat} (h : ¬ (p < n ∧ tx_ws (T p) = true)) : tx_cs tx_ws T n 161 p = p := by
  rw [tx_cs, if_neg h]
theorem tx_lt_nw {c : Nat} (h : tx_lt c = true ∨ tx_dg c = true ∨ tx_sg c = true) : ¬ tx_ws c = true := by
  intro q
  unfold tx_ws at q
  simp only [Bool.or_eq_true, beq_iff_eq] at q
  rcases q with q | q <;> subst q <;> revert h <;> decide
theorem p3_scan_L {T : Nat → Nat} {n : Nat} (Q : zSt → Prop) (K109 : zSt → Prop) (σ0 : zSt) (hK : ∀ (K : Nat) (σ' : zSt), cx_K T n K → cx_P T n K σ' → cx_h σ0 σ' → K109 σ') : ∀ (d p c j m : Nat) (σ : zSt), p + d = n → d < m → c ≤ p → j ≤ p → cx_t T n σ → tx_lx T n p = tx_tk T n j → (∀ q, q < j → tx_kd T n q ≠ 0) → cx_P T n j σ → cx_h σ0 σ → wX3_scan_17_L10 Q K109 (nI n) m (nI p) (nI c) σ := by
  intro d
  induction d using Nat.strongRecOn with
  | _ d ih =>
    intro p c j m σ hpd hm hc hj ht hlx hne hP e
    obtain ⟨hn, hT, hb⟩ := ht
    have ht : cx_t T n σ := ⟨hn, hT, hb⟩
    obtain ⟨m, rfl⟩ : ∃ m', m = m' + 1 := ⟨m - 1, by omega⟩
    have fin : n ≤ p → K109 σ := fun q => by
      have e0 : p = n := by omega
      have z : tx_tk T n j = (0, n, n) := by
        rw [← hlx, e0]
        unfold tx_lx
        rw [if_pos (tx_cs_b tx_ws T n 161 n (by omega)).1]
      exact hK j σ ⟨by omega, (tx_kd0 T n hn j).mpr z, hne⟩ hP e
    rw [wX3_scan_17_L10]
    by_cases c160 : 160 ≤ c
    · rw [if_pos (show (160 : Int32) ≤ nI c from nI_le (a := 160) c160 (by omega))]
      exact fin (by omega)
    rw [if_neg (show ¬ (160 : Int32) ≤ nI c from nI_ge (b := 160) (by omega) (by omega))]
    by_cases cp : n ≤ p
    · rw [if_pos (show nI n ≤ nI p from nI_le cp (by omega))]
      exact fin cp
    have hb2 := hT p (by omega)
    rw [if_neg (show ¬ nI n ≤ nI p from nI_ge (by omega) (by omega))]
    refine ⟨zin' (by omega) (by omega), ?_⟩
    rw [forall_eq, zcl (by omega), hb p (by omega), p3_isLetter (by omega)]
    have htk := hlx.symm
    have lt160 : ∀ {σ' : zSt}, cx_h σ σ' → cx_t T n σ' := fun {σ'} e' => ⟨hn, hT, fun q hq => by rw [e' 17 (by decide) (by decide) (by decide) (by decide)]; exact hb q hq⟩
    have go : ∀ (p' : Nat) (σ' : zSt), p < p' → p' ≤ n → (tx_tk T n j).2.2 = p' → tx_kd T n j ≠ 0 → cx_P T n (j + 1) σ' → cx_h σ σ' → wX3_scan_17_L10 Q K109 (nI n) m (nI p') (nI (c + 1)) σ' := by
      intro p' σ' l1 l2 he hk hP' e'
      refine ih (n - p') (by omega) p' (c + 1) (j + 1) m σ' (by omega) (by omega) (by omega) (by omega) (lt160 e') ?_ (fun q hq => ?_) hP' (e.tr e')
      · rw [← he]; rfl
      · by_cases w : q = j
        · rw [w]; exact hk
        · exact hne q (by omega)
    by_cases cl : tx_lt (T p) = true
    · rw [if_pos cl, if_neg (by decide)]
      have ew : tx_cs tx_ws T n 161 p = p := tx_lx_nw (fun z => tx_lt_nw (Or.inl cl) z.2)
      unfold tx_lx at htk
      rw [ew, if_neg (by omega), if_pos cl] at htk
      have b := tx_cs_b tx_lt T n 161 p (by omega)
      have b2 : p < tx_cs tx_lt T n 161 p := by
        rw [tx_cs, if_pos ⟨by omega, cl⟩]
        have := (tx_cs_b tx_lt T n 160 (p + 1) (by omega)).1
        omega
      have b3 := b.2.1 (by omega)
      unfold wX3_takeWord_17
      rw [p3_tw ht (nI p) _ _ 161 p 300 (by omega) (by omega) (by omega)]
      generalize tx_cs tx_lt T n 161 p = q at htk b2 b3
      rw [p3_nameOf ht (by omega) b3, p3_keyOf ht (by omega) b3]
      have ek : tx_kd T n j = if tx_nm T p q = -1 then tx_ky T p q else 3 := by rw [tx_kd_1 (by rw [htk]), htk]
      have ev : tx_vl T n j = tx_nm T p q := by unfold tx_vl tx_vlt; rw [htk]; rfl
      have es : (tx_tk T n j).2.1 = p := by rw [htk]
      have ee : (tx_tk T n j).2.2 = q := by rw [htk]
      by_cases cn : tx_nm T p q = -1
      · rw [if_pos cn] at ek ⊢
        have k9 := tx_ky_ne T p q
        refine cx_keep hP (by omega) (by rw [ek]) (by rw [ev]) (by rw [es]) _ (fun σ' h' e' => ?_)
        dsimp only
        rw [forall_eq, nI_1]
        exact go q σ' b2 b3 ee (by omega) h' e'
      · rw [if_neg cn] at ek ⊢
        refine cx_keep hP (by omega) (by rw [ek]; rfl) (by rw [ev]) (by rw [es]) _ (fun σ' h' e' => ?_)
        dsimp only
        rw [forall_eq, nI_1]
        exact go q σ' b2 b3 ee (by omega) h' e'
    rw [if_neg cl, if_pos rfl, p3_isNumeral (by omega)]
    by_cases cd : tx_dg (T p) = true
    · rw [if_pos cd, if_neg (by decide)]
      have ew : tx_cs tx_ws T n 161 p = p := tx_lx_nw (fun z => tx_lt_nw (Or.inr (Or.inl cd)) z.2)
      unfold tx_lx at htk
      rw [ew, if_neg (by omega), if_neg cl, if_pos cd] at htk
      have b := tx_cs_b tx_dg T n 161 p (by omega)
      have b2 : p < tx_cs tx_dg T n 161 p := by
        rw [tx_cs, if_pos ⟨by omega, cd⟩]
        have := (tx_cs_b tx_dg T n 160 (p + 1) (by omega)).1
        omega
      have b3 := b.2.1 (by omega)
      unfold wX3_takeNumber_17
      have tn := fun (R : Int32 → zSt → Prop) (K' : Int32 → Int32 → zSt → Prop) => p3_tn ht p (nI p) R K' 161 0 300 (by omega) (by omega) (by omega)
      simp only [Nat.add_zero, show nI (tx_nu T p 0) = (0 : Int32) from rfl] at tn
      rw [tn]
      generalize tx_cs tx_dg T n 161 p = q at htk b2 b3
      rw [pk_sub (by omega)]
      have es : (tx_tk T n j).2.1 = p := by rw [htk]
      have ee : (tx_tk T n j).2.2 = q := by rw [htk]
      have ev : tx_vl T n j = nI (tx_nu T p (q - p)) := by
        unfold tx_vl tx_vlt
        rw [htk]
        dsimp only
        by_cases c4 : q - p ≤ 4
        · rw [if_pos c4, if_neg (by decide), if_pos ⟨Or.inl rfl, cd⟩]
        · rw [if_neg c4, if_neg (by decide), if_pos ⟨Or.inr rfl, cd⟩]
      by_cases c4 : q - p ≤ 4
      · rw [if_pos c4] at htk
        rw [if_pos (show nI (q - p) ≤ (4 : Int32) from nI_le (b := 4) c4 (by omega))]
        have ek : tx_kd T n j = 2 := by unfold tx_kd tx_kdt; rw [htk]; rfl
        refine cx_keep hP (by omega) (by rw [ek]; rfl) (by rw [ev]) (by rw [es]) _ (fun σ' h' e' => ?_)
        dsimp only
        rw [forall_eq, nI_1]
        exact go q σ' b2 b3 ee (by omega) h' e'
      · rw [if_neg c4] at htk
        rw [if_neg (show ¬ nI (q - p) ≤ (4 : Int32) from nI_ge (a := 4) (by omega) (by omega))]
        have ek : tx_kd T n j = 1 := by unfold tx_kd tx_kdt; rw [htk]; rfl
        refine cx_keep hP (by omega) (by rw [ek]; rfl) (by rw [ev]) (by rw [es]) _ (fun σ' h' e' => ?_)
        dsimp only
        rw [forall_eq, nI_1]
        exact go q σ' b2 b3 ee (by omega) h' e'
    rw [if_neg cd, if_pos rfl]
    have goW : tx_ws (T p) = true → wX3_scan_17_L10 Q K109 (nI n) m (nI (p + 1)) (nI (c + 1)) σ := fun w => by
      refine ih (n - (p + 1)) (by omega) (p + 1) (c + 1) j m σ (by omega) (by omega) (by omega) (by omega) ht ?_ hne hP e
      rw [tx_lx_ws (by omega) hn w]; exact hlx
    by_cases c32 : T p = 32
    · rw [if_pos (show nI (T p) = (32 : Int32) by rw [c32]; rfl), forall_eq, forall_eq, nI_1, nI_1]
      exact goW (by rw [c32]; rfl)
    rw [if_neg (show ¬ nI (T p) = (32 : Int32) from fun z => c32 ((nI_eq (b := 32) (by omega) (by omega)).mp z))]
    by_cases c10 : T p = 10
    · rw [if_pos (show nI (T p) = (10 : Int32) by rw [c10]; rfl), forall_eq, forall_eq, nI_1, nI_1]
      exact goW (by rw [c10]; rfl)
    rw [if_neg (show ¬ nI (T p) = (10 : Int32) from fun z => c10 ((nI_eq (b := 10) (by omega) (by omega)).mp z)), p3_isSign (by omega)]
    have nw : ¬ tx_ws (T p) = true := by unfold tx_ws; simp [c32, c10]
    have ew : tx_cs tx_ws T n 161 p = p := tx_lx_nw (fun z => nw z.2)
    unfold tx_lx at htk
    rw [ew, if_neg (by omega), if_neg cl, if_neg cd] at htk
    by_cases cs : tx_sg (T p) = true
    · rw [if_pos cs] at htk
      rw [if_pos cs, if_neg (by decide)]
      have ek : tx_kd T n j = T p := by rw [tx_kd_3 (by rw [htk]), htk]
      have ev : tx_vl T n j = 0 := by
        unfold tx_vl tx_vlt
        rw [htk]
        rw [if_neg (by simp), if_neg (fun z => by have := z.1; simp at this)]
      refine cx_keep hP (by omega) (by rw [ek]) (by rw [ev]) (by rw [htk]) _ (fun σ' h' e' => ?_)
      rw [forall_eq, forall_eq, nI_1, nI_1]
      have := tx_sg_40 cs
      exact go (p + 1) σ' (by omega) (by omega) (by rw [htk]) (by omega) h' e'
    · rw [if_neg cs] at htk
      rw [if_neg cs, if_pos rfl]
      have ek : tx_kd T n j = 1 := by unfold tx_kd tx_kdt; rw [htk]; rfl
      have ev : tx_vl T n j = 0 := by
        unfold tx_vl tx_vlt
        rw [htk]
        rw [if_neg (by simp), if_neg (fun z => cd z.2)]
      refine cx_keep hP (by omega) (by rw [ek]; rfl) (by rw [ev]) (by rw [htk]) _ (fun σ' h' e' => ?_)
      rw [forall_eq, forall_eq, nI_1, nI_1]
      exact go (p + 1) σ' (by omega) (by omega) (by rw [htk]) (by omega) h' e'
theorem p3_scan {T : Nat → Nat} {n : Nat} {σ : zSt} (ht : cx_t T n σ) (Q : zSt → Prop) (hQ : ∀ (K : Nat) (σ' : zSt), cx_K T n K → cx_A T n K σ' → cx_h σ σ' → Q σ') : wX3_scan_17 (nI n) σ Q := by
  unfold wX3_scan_17
  rw [forall_eq]
  have e0 : cx_h σ (zput σ 19 3 0) := fun o a _ _ _ => zput_ne a
  refine p3_scan_L Q _ (zput σ 19 3 0) (fun K σ1 hK hP e1 => ?_) n 0 0 0 300 _ (by omega) (by have := ht.1; omega) (by omega) (by omega) ⟨ht.1, ht.2.1, fun q hq => by rw [zput_ne (by decide)]; exact ht.2.2 q hq⟩ rfl (fun q hq => by omega) ⟨by simp [zput_at, nI_0], fun q hq => by omega⟩ (fun _ _ _ _ _ => rfl)
  have z := (tx_kd0 T n ht.1 K).mp hK.2.1
  refine cx_keep hP hK.1 (by rw [hK.2.1]; rfl) (by unfold tx_vl tx_vlt; rw [z]; rw [if_neg (by simp), if_neg (fun q => by have := q.1; simp at this)]) (by rw [z]) _ (fun σ2 h2 e2 => ?_)
  exact hQ K σ2 hK ⟨h2.1, fun j hj => h2.2 j (by omega)⟩ ((e0.tr e1).tr e2)
