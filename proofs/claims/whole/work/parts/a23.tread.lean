/-! a whole text -/
def tx_part (kd : Nat → Nat) (vl : Nat → Int32) (key k : Nat) : tx_R := if kd k = key then (if ((tx_lev kd vl 5).1 (k + 1)).1 = true then (if kd ((tx_lev kd vl 5).1 (k + 1)).2.2 = 59 then (true, ((tx_lev kd vl 5).1 (k + 1)).2.1, ((tx_lev kd vl 5).1 (k + 1)).2.2 + 1) else (false, [], ((tx_lev kd vl 5).1 (k + 1)).2.2)) else (false, [], ((tx_lev kd vl 5).1 (k + 1)).2.2)) else (false, [], k)
def tx_p0 (T : Nat → Nat) (n : Nat) : tx_R := tx_part (tx_kd T n) (tx_vl T n) 4 0
def tx_p1 (T : Nat → Nat) (n : Nat) : tx_R := tx_part (tx_kd T n) (tx_vl T n) 5 (tx_p0 T n).2.2
def tx_p2 (T : Nat → Nat) (n : Nat) : tx_R := tx_part (tx_kd T n) (tx_vl T n) 6 (tx_p1 T n).2.2
def tx_good (T : Nat → Nat) (n : Nat) : Prop := (tx_p0 T n).1 = true ∧ (tx_p1 T n).1 = true ∧ (tx_p2 T n).1 = true ∧ tx_kd T n (tx_p2 T n).2.2 = 0
def tx_flt (T : Nat → Nat) (n : Nat) : Nat := (tx_tk T n (if (tx_p0 T n).1 = true then (if (tx_p1 T n).1 = true then (tx_p2 T n).2.2 else (tx_p1 T n).2.2) else (tx_p0 T n).2.2)).2.1
def tx_cod (T : Nat → Nat) (n : Nat) (p : Nat) : List Int32 := if p = 0 then (tx_p0 T n).2.1 else if p = 1 then (tx_p1 T n).2.1 else (tx_p2 T n).2.1
theorem tm_part {i n : Nat} {T : Nat → Nat} {names : Nat → Int32} (ho : tm_ok i n T) {key k : Nat} (hk : 2 ≤ key) {σ : zSt} (h : tm_R i n T names 0 k σ) (Q : Int32 → zSt → Prop) (ht : tm_out i n T names 0 σ (tx_part (tx_kd T n) (tx_vl T n) key k) Q) : wX8_part (if tx_kd T n k = key then 1 else 0) σ Q := by
  unfold wX8_part
  unfold tx_part at ht
  by_cases c : tx_kd T n k = key
  · rw [if_pos c] at ht
    rw [if_pos c, if_neg (by decide), if_pos h.1.2.2.2.2]
    refine p8_nx ho h (by omega) _ (fun σ2 h2 e2 => ?_)
    rw [if_pos h2.1.2.2.2.2]
    refine (tm_lev0 ho).1 (k + 1) σ2 _ h2 ⟨fun o1 σ3 v hv h3 e3 => ?_, fun o1 σ3 v h3 e3 => ?_⟩
    · have s59 : ∀ R : Int32 → zSt → Prop, wX8_isSign 59 σ3 R = R (if tx_kd T n ((tx_lev (tx_kd T n) (tx_vl T n) 5).1 (k + 1)).2.2 = 59 then 1 else 0) σ3 := fun R => p8_sg ho h3 59 (by omega) R
      rw [if_pos o1] at ht
      dsimp only
      rw [s59]
      by_cases c2 : tx_kd T n ((tx_lev (tx_kd T n) (tx_vl T n) 5).1 (k + 1)).2.2 = 59
      · rw [if_pos c2] at ht
        rw [if_pos c2, if_neg (by decide), if_pos h3.1.2.2.2.2]
        exact p8_nx ho h3 (by omega) _ (fun σ4 h4 e4 => ht.1 rfl σ4 v hv h4 ((e2.tr e3).tr e4))
      · rw [if_neg c2] at ht
        rw [if_neg c2, if_pos rfl]
        refine p8_fl h3 _ (fun σ4 f4 e4 => ?_)
        rw [if_neg f4.ne]
        exact ht.2 (by simp) σ4 v f4 ((e2.tr e3).tr e4)
    · rw [if_neg o1] at ht
      rw [p8_isSign_b h3.1, if_pos rfl, p8_fail_b h3.1, if_neg h3.ne]
      exact ht.2 (by simp) σ3 v h3 (e2.tr e3)
  · rw [if_neg c] at ht
    rw [if_neg c, if_pos rfl]
    refine p8_fl h _ (fun σ4 f4 e4 => ?_)
    rw [if_neg f4.ne, if_neg f4.ne, p8_isSign_b f4.1, if_pos rfl, p8_fail_b f4.1, if_neg f4.ne]
    exact ht.2 (by simp) σ4 0 f4 e4
theorem tx_vv_w {names : Nat → Int32} {c : List Int32} {v : Int32} (h : tx_vv names c v) : zworth names c = v := by
  unfold zworth
  rw [h []]
  rfl
theorem p8_read {i n : Nat} {T : Nat → Nat} {names : Nat → Int32} (ho : tm_ok i n T) {p : Nat} (hp : p < 3) {σ : zSt} (h2 : σ.1 2 i = nI n) (h1 : ∀ j, j < n → σ.1 1 (160 * i + j) = nI (T j)) (hn : ∀ k, k < 6 → σ.1 0 (18 + k) = names k) (Q : Int32 → zSt → Prop) (hok : tx_good T n → ∀ σ' : zSt, zmx σ σ' → σ'.1 0 31 = 0 → Q (zworth names (tx_cod T n p)) σ') (hbad : ¬ tx_good T n → ∀ (σ' : zSt) (v : Int32), zmx σ σ' → σ'.1 0 31 = 1 → σ'.1 0 32 = nI (tx_flt T n) → Q v σ') : wX8_read (nI i) (nI p) σ Q := by
  have hi := ho.1
  unfold wX8_read
  rw [forall_eq]
  refine ⟨zin' hi (by omega), ?_⟩
  simp only [forall_eq]
  rw [zcl (by omega), show (160 : Int32) * nI i = nI (160 * i) from by rw [show (160 : Int32) = nI 160 from rfl, pk_mul], show (zput σ 0 24 (nI (160 * i))).1 2 i = nI n from by rw [zput_ne (by decide)]; exact h2]
  generalize hτ : zput (zput (zput (zput (zput σ 0 24 (nI (160 * i))) 0 25 (nI n)) 0 26 0) 0 30 0) 0 31 0 = τ
  have e0 : zmx σ τ := by
    rw [← hτ]
    exact ((((zmx.put _ _ (by omega)).tr (zmx.put _ _ (by omega))).tr (zmx.put _ _ (by omega))).tr (zmx.put _ _ (by omega))).tr (zmx.put _ _ (by omega))
  have hB : tm_B i n T names τ := by
    rw [← hτ]
    refine ⟨by simp [zput_at], by simp [zput_at], fun j hj => ?_, fun k hk => ?_, by simp [zput_at]⟩
    · rw [zput_ne (by decide), zput_ne (by decide), zput_ne (by decide), zput_ne (by decide), zput_ne (by decide)]; exact h1 j hj
    · rw [zput_at, if_neg (by omega), zput_at, if_neg (by omega), zput_at, if_neg (by omega), zput_at, if_neg (by omega), zput_at, if_neg (by omega)]; exact hn k hk
  have h26 : τ.1 0 26 = nI (tx_ps T n 0) := by rw [← hτ]; simp [zput_at, tx_ps, nI_0]
  have h30 : τ.1 0 30 = nI 0 := by rw [← hτ]; simp [zput_at, nI_0]
  clear hτ
  have bad : ∀ (σ' : zSt) (a b c : Int32), ¬ tx_good T n → zmx σ σ' → σ'.1 0 31 = 1 → σ'.1 0 32 = nI (tx_flt T n) → (if nI p = 0 then Q a σ' else if nI p = 1 then Q b σ' else Q c σ') := by
    intro σ' a b c g z1 z2 z3
    by_cases q0 : nI p = 0
    · rw [if_pos q0]; exact hbad g σ' a z1 z2 z3
    · rw [if_neg q0]
      by_cases q1 : nI p = 1
      · rw [if_pos q1]; exact hbad g σ' b z1 z2 z3
      · rw [if_neg q1]; exact hbad g σ' c z1 z2 z3
  refine p8_next ho hB (k := 0) h26 _ (fun σ1 e1 t1 => ?_)
  have r1 : tm_R i n T names 0 0 σ1 := ⟨tm_n_B e1.1 e1.2 hB, t1, by rw [e1.2 30 (by decide) (by decide) (by decide)]; exact h30⟩
  have z1 : zmx σ σ1 := e0.tr ⟨e1.1, fun j hj => e1.2 j (by omega) (by omega) (by omega)⟩
  have w7 : ∀ R : Int32 → zSt → Prop, wX8_isWord 115 104 105 112 0 0 0 0 σ1 R = R (if tx_kd T n 0 = 4 then 1 else 0) σ1 := fun R => p8_wd ho r1 (w := 7) (by omega) R
  rw [w7]
  refine tm_part ho (by omega) r1 _ ⟨fun o1 σ2 v0 hv0 r2 e2 => ?_, fun o1 σ2 v0 r2 e2 => ?_⟩
  rotate_left
  · have o1 : ¬ (tx_p0 T n).1 = true := o1
    dsimp only
    rw [if_neg r2.ne, if_neg r2.ne, if_neg r2.ne]
    refine bad σ2 _ _ _ (fun g => o1 g.1) (z1.tr e2) r2.1 ?_
    unfold tx_flt
    rw [if_neg o1]; exact r2.2
  have o1 : (tx_p0 T n).1 = true := o1
  have r2 : tm_R i n T names 0 (tx_p0 T n).2.2 σ2 := r2
  have w8 : ∀ R : Int32 → zSt → Prop, wX8_isWord 99 97 114 116 0 0 0 0 σ2 R = R (if tx_kd T n (tx_p0 T n).2.2 = 5 then 1 else 0) σ2 := fun R => p8_wd ho r2 (w := 8) (by omega) R
  dsimp only
  rw [if_pos r2.1.2.2.2.2, w8]
  refine tm_part ho (by omega) r2 _ ⟨fun o2 σ3 v1 hv1 r3 e3 => ?_, fun o2 σ3 v1 r3 e3 => ?_⟩
  rotate_left
  · have o2 : ¬ (tx_p1 T n).1 = true := o2
    dsimp only
    rw [if_neg r3.ne, if_neg r3.ne]
    refine bad σ3 _ _ _ (fun g => o2 g.2.1) ((z1.tr e2).tr e3) r3.1 ?_
    unfold tx_flt
    rw [if_pos o1, if_neg o2]; exact r3.2
  have o2 : (tx_p1 T n).1 = true := o2
  have r3 : tm_R i n T names 0 (tx_p1 T n).2.2 σ3 := r3
  have w9 : ∀ R : Int32 → zSt → Prop, wX8_isWord 99 104 97 110 103 101 0 0 σ3 R = R (if tx_kd T n (tx_p1 T n).2.2 = 6 then 1 else 0) σ3 := fun R => p8_wd ho r3 (w := 9) (by omega) R
  dsimp only
  rw [if_pos r3.1.2.2.2.2, w9]
  refine tm_part ho (by omega) r3 _ ⟨fun o3 σ4 v2 hv2 r4 e4 => ?_, fun o3 σ4 v2 r4 e4 => ?_⟩
  rotate_left
  · have o3 : ¬ (tx_p2 T n).1 = true := o3
    dsimp only
    rw [if_neg r4.ne]
    refine bad σ4 _ _ _ (fun g => o3 g.2.2.1) (((z1.tr e2).tr e3).tr e4) r4.1 ?_
    unfold tx_flt
    rw [if_pos o1, if_pos o2]; exact r4.2
  have o3 : (tx_p2 T n).1 = true := o3
  have r4 : tm_R i n T names 0 (tx_p2 T n).2.2 σ4 := r4
  have hv0 : tx_vv names (tx_p0 T n).2.1 v0 := hv0
  have hv1 : tx_vv names (tx_p1 T n).2.1 v1 := hv1
  have hv2 : tx_vv names (tx_p2 T n).2.1 v2 := hv2
  have z4 := ((z1.tr e2).tr e3).tr e4
  dsimp only
  rw [if_pos r4.1.2.2.2.2, r4.2.1.1]
  have k0 := tx_kd0 T n ho.2.1 (tx_p2 T n).2.2
  obtain ⟨t4, _⟩ := tm_tk4 (T := T) (n := n) (k := (tx_p2 T n).2.2) ho.2.1
  by_cases c : (tx_tk T n (tx_p2 T n).2.2).1 = 0
  · rw [if_pos (show nI (tx_tk T n (tx_p2 T n).2.2).1 = (0 : Int32) by rw [c]; rfl)]
    have kz : tx_kd T n (tx_p2 T n).2.2 = 0 := by
      unfold tx_kd tx_kdt; rw [if_pos c]
    have fin := hok ⟨o1, o2, o3, kz⟩ σ4 z4 r4.1.2.2.2.2
    rcases (show p = 0 ∨ p = 1 ∨ p = 2 by omega) with rfl | rfl | rfl
    · rw [show tx_cod T n 0 = (tx_p0 T n).2.1 from rfl, tx_vv_w hv0] at fin; exact fin
    · rw [show tx_cod T n 1 = (tx_p1 T n).2.1 from rfl, tx_vv_w hv1] at fin; exact fin
    · rw [show tx_cod T n 2 = (tx_p2 T n).2.1 from rfl, tx_vv_w hv2] at fin; exact fin
  · rw [if_neg (show ¬ nI (tx_tk T n (tx_p2 T n).2.2).1 = (0 : Int32) from nI_ne0 (by omega) (by omega))]
    refine p8_fl r4 _ (fun σ5 f5 e5 => ?_)
    refine bad σ5 _ _ _ (fun g => c (by rw [k0.mp g.2.2.2])) (z4.tr e5) f5.1 ?_
    unfold tx_flt
    rw [if_pos o1, if_pos o2]; exact f5.2
theorem tx_ok {n : Nat} {T : Nat → Nat} (hn : n ≤ 160) (hT : ∀ j, j < n → T j ≤ 255) (hg : tx_good T n) : zTxOk n T (tx_cod T n) := by
  intro i p σ names hi hp h2 h1 hnm Q hQ
  exact p8_read ⟨hi, hn, hT⟩ hp h2 h1 hnm Q (fun _ σ' e _ => hQ σ' e) (fun g => absurd hg g)
