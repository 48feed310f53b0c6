/-! what a reading answers -/
def tm_out (i n : Nat) (T : Nat → Nat) (names : Nat → Int32) (lev : Nat) (σ0 : zSt) (r : tx_R) (K : Int32 → zSt → Prop) : Prop := (r.1 = true → ∀ (σ' : zSt) (v : Int32), tx_vv names r.2.1 v → tm_R i n T names lev r.2.2 σ' → zmx σ0 σ' → K v σ') ∧ (¬ r.1 = true → ∀ (σ' : zSt) (v : Int32), tm_F n T r.2.2 σ' → zmx σ0 σ' → K v σ')
def tm_S (i n : Nat) (T : Nat → Nat) (names : Nat → Int32) (lev : Nat) (W : zSt → (Int32 → zSt → Prop) → Prop) (f : Nat → tx_R) : Prop := ∀ (k : Nat) (σ : zSt) (Q : Int32 → zSt → Prop), tm_R i n T names lev k σ → tm_out i n T names lev σ (f k) Q → W σ Q
theorem tm_out.mv {i n : Nat} {T : Nat → Nat} {names : Nat → Int32} {lev : Nat} {σ0 σ1 : zSt} {r : tx_R} {K : Int32 → zSt → Prop} (h : tm_out i n T names lev σ0 r K) (e : zmx σ0 σ1) : tm_out i n T names lev σ1 r K := ⟨fun a σ' v b c d => h.1 a σ' v b c (e.tr d), fun a σ' v b d => h.2 a σ' v b (e.tr d)⟩
theorem p8_op {i n : Nat} {T : Nat → Nat} {names : Nat → Int32} (ho : tm_ok i n T) {lev k : Nat} {σ : zSt} (h : tm_R i n T names lev k σ) (hl : lev < 5) (hk : 2 ≤ tx_kd T n k) (Q : Int32 → zSt → Prop) (hQ : ∀ σ', tm_R i n T names (lev + 1) (k + 1) σ' → zmx σ σ' → Q 1 σ') : wX8_opens σ Q := by
  unfold wX8_opens
  rw [h.2.2, if_neg (show ¬ nI lev = (5 : Int32) from fun z => by have := (nI_eq (b := 5) (by omega) (by omega)).mp z; omega), forall_eq, nI_1]
  obtain ⟨h1, h2, h3⟩ := h
  have e := zmx.put σ (j := 30) (nI (lev + 1)) (by omega)
  refine p8_nx ho (lev := lev + 1) (k := k) ⟨h1.fr (zput_ne (by decide)) (fun j hj => by rw [zput_at, if_neg (by omega)]), ?_, by rw [zput_at, if_pos ⟨rfl, rfl⟩]⟩ hk _ (fun σ' h' e' => hQ σ' h' (e.tr e'))
  unfold tm_T at h2 ⊢
  rw [zput_at, if_neg (by decide), zput_at, if_neg (by decide), zput_at, if_neg (by decide)]
  exact h2
theorem p8_op5 {i n : Nat} {T : Nat → Nat} {names : Nat → Int32} {k : Nat} {σ : zSt} (h : tm_R i n T names 5 k σ) (Q : Int32 → zSt → Prop) (hQ : ∀ σ', tm_F n T k σ' → zmx σ σ' → Q 0 σ') : wX8_opens σ Q := by
  unfold wX8_opens
  rw [h.2.2, if_pos (show nI 5 = (5 : Int32) from rfl)]
  exact p8_fl h _ (fun σ' f e => hQ σ' f e)
theorem p8_dn {i n : Nat} {T : Nat → Nat} {names : Nat → Int32} {lev k : Nat} {σ : zSt} (h : tm_R i n T names (lev + 1) k σ) : tm_R i n T names lev k (zput σ 0 30 (σ.1 0 30 - 1)) := by
  obtain ⟨h1, h2, h3⟩ := h
  refine ⟨h1.fr (zput_ne (by decide)) (fun j hj => by rw [zput_at, if_neg (by omega)]), ?_, by rw [zput_at, if_pos ⟨rfl, rfl⟩, h3, zs1]⟩
  unfold tm_T at h2 ⊢
  rw [zput_at, if_neg (by decide), zput_at, if_neg (by decide), zput_at, if_neg (by decide)]
  exact h2
theorem tm_F.dn {n : Nat} {T : Nat → Nat} {k : Nat} {σ : zSt} (h : tm_F n T k σ) (v : Int32) : tm_F n T k (zput σ 0 30 v) := ⟨by rw [zput_at, if_neg (by decide)]; exact h.1, by rw [zput_at, if_neg (by decide)]; exact h.2⟩
theorem tm_F.ne {n : Nat} {T : Nat → Nat} {k : Nat} {σ : zSt} (h : tm_F n T k σ) : ¬ σ.1 0 31 = 0 := by rw [h.1]; decide
theorem tx_vl_2 {T : Nat → Nat} {n k : Nat} (hn : n ≤ 160) (hT : ∀ j, j < n → T j ≤ 255) (h : (tx_tk T n k).1 = 2) : tx_vl T n k = nI (tx_nu T (tx_tk T n k).2.1 ((tx_tk T n k).2.2 - (tx_tk T n k).2.1)) ∧ tx_nu T (tx_tk T n k).2.1 ((tx_tk T n k).2.2 - (tx_tk T n k).2.1) < 2147483648 := by
  have hd : tx_dg (T (tx_tk T n k).2.1) = true ∧ (tx_tk T n k).2.2 - (tx_tk T n k).2.1 ≤ 4 ∧ (tx_tk T n k).2.2 ≤ n := by
    rcases tx_lx_c T n (tx_ps T n k) (tx_ps_le T n hn k) hn with q | ⟨q1, q2, q3, q4, q5⟩
    · rw [show tx_tk T n k = (0, n, n) from q] at h; exact absurd h (by simp)
    · rw [show tx_lx T n (tx_ps T n k) = tx_tk T n k from rfl] at q1 q2 q3 q4 q5
      rcases q5 with ⟨a, _⟩ | ⟨a, b, c, d⟩ | ⟨a, _⟩ | ⟨a, _⟩
      · rw [a] at h; exact absurd h (by decide)
      · refine ⟨c, ?_, q3⟩
        rw [a] at h
        split at h
        · assumption
        · omega
      · rw [a] at h; exact absurd h (by decide)
      · rw [a] at h; exact absurd h (by decide)
  refine ⟨?_, ?_⟩
  · unfold tx_vl tx_vlt
    rw [if_neg (by omega), if_pos ⟨Or.inl h, hd.1⟩]
  · generalize (tx_tk T n k).2.1 = a at hd
    generalize (tx_tk T n k).2.2 = e at hd
    have hb : ∀ j, j < e - a → T (a + j) ≤ 255 := fun j hj => hT _ (by omega)
    rcases (show e - a = 0 ∨ e - a = 1 ∨ e - a = 2 ∨ e - a = 3 ∨ e - a = 4 by omega) with q | q | q | q | q <;> rw [q] at hb ⊢ <;> simp only [tx_nu]
    · omega
    · have := hb 0 (by omega); omega
    · have := hb 0 (by omega); have := hb 1 (by omega); omega
    · have := hb 0 (by omega); have := hb 1 (by omega); have := hb 2 (by omega); omega
    · have := hb 0 (by omega); have := hb 1 (by omega); have := hb 2 (by omega); have := hb 3 (by omega); omega
/-- numbers and names -/
def tm_tl (σ104 : zSt) (Q : Int32 → zSt → Prop) : Prop := (if (σ104.1 0 31) = 0 then (if (σ104.1 0 27) = 2 then (∀ x121 : Int32, x121 = ((σ104.2 : Int64).toInt32) → (wX8_next  σ104 (fun σ123 => Q x121 σ123))) else (if (σ104.1 0 31) = 0 then (if (σ104.1 0 27) = 1 then (wX8_name  σ104 (fun r117 σ118 => if (σ118.1 0 31) = 0 then (wX8_next  σ118 (fun σ120 => Q r117 σ120)) else (Q r117 σ118))) else (wX8_fail  σ104 (fun σ116 => Q 0 σ116))) else (wX8_fail  σ104 (fun σ114 => Q 0 σ114)))) else (if (σ104.1 0 31) = 0 then (if (σ104.1 0 27) = 1 then (wX8_name  σ104 (fun r109 σ110 => if (σ110.1 0 31) = 0 then (wX8_next  σ110 (fun σ112 => Q r109 σ112)) else (Q r109 σ110))) else (wX8_fail  σ104 (fun σ108 => Q 0 σ108))) else (wX8_fail  σ104 (fun σ106 => Q 0 σ106))))
theorem tm_tail {i n : Nat} {T : Nat → Nat} {names : Nat → Int32} (ho : tm_ok i n T) {lev k d : Nat} {P : tx_P} {σ : zSt} (h : tm_R i n T names lev k σ) (h45 : tx_kd T n k ≠ 45) (h40 : tx_kd T n k ≠ 40) (Q : Int32 → zSt → Prop) (ht : tm_out i n T names lev σ (tx_one (tx_kd T n) (tx_vl T n) d P k) Q) : tm_tl σ Q := by
  have hn := ho.2.1
  have hb := h.1.2.2.2.2
  obtain ⟨t1, t2, t3, t4⟩ := tm_tk4 (T := T) (n := n) (k := k) hn
  unfold tx_one at ht
  rw [if_neg h45, if_neg h40] at ht
  unfold tm_tl
  rw [hb, if_pos rfl, h.2.1.1]
  by_cases c2 : (tx_tk T n k).1 = 2
  · have k2 := (tx_kd_2 hn).mpr c2
    rw [if_pos k2] at ht
    rw [if_pos (show nI (tx_tk T n k).1 = (2 : Int32) by rw [c2]; rfl), forall_eq, h.2.1.2.2.2.1 c2, lN_i]
    have ev := tx_vl_2 hn ho.2.2 c2
    rw [ev.1] at ht
    exact p8_nx ho h (by omega) _ (fun σ' h' e' => ht.1 rfl σ' _ (tx_vv_num names ev.2) h' e')
  have k2 : ¬ tx_kd T n k = 2 := fun z => c2 ((tx_kd_2 hn).mp z)
  rw [if_neg k2] at ht
  rw [if_neg (show ¬ nI (tx_tk T n k).1 = (2 : Int32) from fun z => c2 ((nI_eq (b := 2) (by omega) (by omega)).mp z)), if_pos rfl]
  by_cases c1 : (tx_tk T n k).1 = 1
  · rw [if_pos (show nI (tx_tk T n k).1 = (1 : Int32) by rw [c1]; rfl)]
    have nm := p8_nm ho h c1
    by_cases k3 : tx_kd T n k = 3
    · rw [if_pos k3] at ht
      obtain ⟨j, hj, ej, en⟩ := (nm _).1 k3
      rw [en, hb, if_pos rfl]
      rw [ej] at ht
      exact p8_nx ho h (by omega) _ (fun σ' h' e' => ht.1 rfl σ' _ (tx_vv_nam names hj) h' e')
    · rw [if_neg k3] at ht
      rw [(nm _).2 k3]
      refine p8_fl h _ (fun σ' f e => ?_)
      rw [if_neg f.ne]
      exact ht.2 (by simp) σ' 0 f e
  · have k3 : ¬ tx_kd T n k = 3 := fun z => c1 ((tx_kd_nm hn).mp z).1
    rw [if_neg k3] at ht
    rw [if_neg (show ¬ nI (tx_tk T n k).1 = (1 : Int32) from fun z => c1 ((nI_eq (b := 1) (by omega) (by omega)).mp z))]
    exact p8_fl h _ (fun σ' f e => ht.2 (by simp) σ' 0 f e)
theorem p8_sgn2 {i n : Nat} {T : Nat → Nat} {names : Nat → Int32} (ho : tm_ok i n T) {lev k : Nat} {σ : zSt} (h : tm_R i n T names lev k σ) {s : Nat} (hs : 40 ≤ s) (hk : tx_kd T n k = s) : σ.2 = lN s := by
  have q := (tx_kd_s ho.2.1 hs).mp hk
  rw [h.2.1.2.2.2.2 q.1, q.2]
theorem zlop : (∀ x y : Int32, zop (-11) x y = x * y) ∧ (∀ x y : Int32, zop (-9) x y = x + y) ∧ (∀ x y : Int32, zop (-10) x y = x - y) ∧ (∀ x y : Int32, zop (-12) x y = if x < y then 1 else 0) ∧ (∀ x y : Int32, zop (-13) x y = if x = y then 1 else 0) ∧ (∀ x y : Int32, zop (-14) x y = if x = 0 then 0 else if y = 0 then 0 else 1) ∧ (∀ x y : Int32, zop (-15) x y = if x = 0 then (if y = 0 then 0 else 1) else 1) := ⟨fun _ _ => rfl, fun _ _ => rfl, fun _ _ => rfl, fun _ _ => rfl, fun _ _ => rfl, fun _ _ => rfl, fun _ _ => rfl⟩
