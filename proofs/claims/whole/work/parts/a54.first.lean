/-! the end of the class's constructor: the first text is written on the tape and read -/
def xPi (i : Nat) (σ : zSt) : Prop := zDX 1 zD0 σ ∧ σ.1 0 2 = 0 ∧ σ.1 0 4 = nI i ∧ (∀ j, j < i → σ.1 17 j = nI (zT0 j)) ∧ σ.1 0 6 = 0 ∧ (∀ s, s < 4 → σ.1 (61 + s) 1 = -1) ∧ (∀ j, j < 416 → σ.1 25 j = -1) ∧ σ.1 28 11 = -2 ∧ σ.1 28 12 = -2
theorem xPi_s {i : Nat} {σ : zSt} (h : xPi i σ) : xPi (i + 1) (zput (zput σ 17 i (nI (zT0 i))) 0 4 (nI (i + 1))) := by
  obtain ⟨h1, h2, h3, h4, h5, h6, h7, h8, h9⟩ := h
  have e : ∀ o, o ≠ 0 → o ≠ 17 → (zput (zput σ 17 i (nI (zT0 i))) 0 4 (nI (i + 1))).1 o = σ.1 o := fun o a b => (zput_ne a).trans (zput_ne b)
  have e0 : ∀ j, j ≠ 4 → (zput (zput σ 17 i (nI (zT0 i))) 0 4 (nI (i + 1))).1 0 j = σ.1 0 j := fun j a => by rw [zput_at, if_neg (fun z => a z.2), zput_ne (by decide)]
  refine ⟨h1.fr (fun k hk => e _ (by omega) (by omega)), (e0 2 (by decide)).trans h2, by rw [zput_at, if_pos ⟨rfl, rfl⟩], fun j hj => ?_, (e0 6 (by decide)).trans h5, fun s hs => by rw [e _ (by omega) (by omega)]; exact h6 s hs, fun j hj => by rw [e _ (by omega) (by omega)]; exact h7 j hj, by rw [e _ (by omega) (by omega)]; exact h8, by rw [e _ (by omega) (by omega)]; exact h9⟩
  rw [zput_ne (by decide), zput_at]
  by_cases q : j = i
  · rw [if_pos ⟨rfl, q⟩, q]
  · rw [if_neg (fun z => q z.2)]; exact h4 j (by omega)
theorem wd_len7 : Cond.methodLink RX7 87 yJ0_length_8abf5 ∈ zgw := (zint (List.mem_of_getElem? (i := 255) (by decide +kernel)) rfl)
theorem wd_chr7 : Cond.methodLink RX7 93 yJ0_charAt_5068e ∈ zgw := (zint (List.mem_of_getElem? (i := 265) (by decide +kernel)) rfl)
theorem zlen0 : zlen.getD 0 0 = 54 := by decide +kernel
section zFirst
variable {p : Program} {l : Launch} {e : Env} {s : State} {m : MethodId} {args : Array Value} {below : List Frame} {meth : Method} {c : Code} {D : va_G} {cA : Nat → ClassId} {A : Nat → Prop} {y : zX} {k n kR sR : Nat} {ad : Nat → Nat}
abbrev zP7 (cA : Nat → ClassId) (h0 : Nat) (w1 : va_W) : Prop := ∃ (ad : Nat → Nat) (σ : zSt), w1 = zws tabX cA ad σ ∧ ad 0 = h0 ∧ RX zA0 σ
set_option maxRecDepth 20000 in
theorem yf_end (M : zMB p s m args meth c cX7_init 2 RX7 D cA A y) (hk : k = kR) (hs : n = sR) {σ : zSt} (h : xPi 54 σ) {i1 : Int32} : zB p l e (zrn 72 kR sR) s m args below meth c 2 D A (MQ below (va_Qv (zP7 cA (ad 0)) (fun w1 t => va_P D vwCl w1 t.heap ∧ va_D A w1) A) args s kR sR A) k n 235 [(0, .ref (ad 0)), (1, .int i1)] [] (zws tabX cA ad σ) := by
  subst hk
  subst hs
  refine yb_aload M 0 dX7_init_235 rfl rfl ?_
  refine yb_callI (d' := 70) (As := []) (rest := []) (Q' := fun _ σ' => RX zA0 σ') M l_X7_97 (yb_recv M tX_0 rfl) rfl rfl (by decide) (Nat.le_of_ble_eq_true rfl) (Nat.le_refl _) (Nat.le_refl _) dX7_init_236 (fun hI => kX7_takeTape hI σ _ (x_first h _ (fun _ σ' h => h))) (fun r σ' h' => ?_)
  refine yb_pop M dX7_init_239 rfl ?_
  exact yb_ret M dX7_init_240 ⟨ad, σ', rfl, rfl, h'⟩
set_option maxRecDepth 20000 in
theorem yf_loop (M : zMB p s m args meth c cX7_init 2 RX7 D cA A y) (hk : k = kR) (hs : n = sR) : ∀ (f i : Nat) (σ : zSt), i + f = 54 → xPi i σ → zB p l e (zrn 72 kR sR) s m args below meth c 2 D A (MQ below (va_Qv (zP7 cA (ad 0)) (fun w1 t => va_P D vwCl w1 t.heap ∧ va_D A w1) A) args s kR sR A) k n 194 [(0, .ref (ad 0)), (1, .int (nI i))] [] (zws tabX cA ad σ) := by
  intro f
  induction f with
  | zero =>
    intro i σ hi h
    have hi : i = 54 := by omega
    subst hi
    refine yb_iload M 1 dX7_init_194 rfl rfl ?_
    refine yb_ldcS (i := 0) M rfl dX7_init_195 ?_
    refine yb_callI (x := yJ0_length_8abf5) (d' := 2) (As := []) (rest := [.int (nI 54)]) (Q' := fun r s1 => r = Int32.ofNat (zlen.getD 0 0) ∧ s1 = σ) M ⟨⟨wd_len7, zwlen.1, zwlen.2.1, ⟨by decide +kernel, by decide +kernel, by decide +kernel⟩, by decide⟩, zwlen.2.2.1, zwlen.2.2.2⟩ (yb_recvS M (by decide)) rfl rfl (by decide) (Nat.le_of_ble_eq_true rfl) (by omega) (by omega) dX7_init_197 (fun hI => kJ_length hI (by decide) σ _ ⟨rfl, rfl⟩) (fun r s1 hr => ?_)
    obtain ⟨rfl, rfl⟩ := hr
    rw [zlen0]
    refine yb_ge M 235 dX7_init_200 (by decide) (fun _ => ?_) (fun c => absurd (by decide) c)
    exact yf_end M hk hs h
  | succ f ih =>
    intro i σ hi h
    refine yb_iload M 1 dX7_init_194 rfl rfl ?_
    refine yb_ldcS (i := 0) M rfl dX7_init_195 ?_
    refine yb_callI (x := yJ0_length_8abf5) (d' := 2) (As := []) (rest := [.int (nI i)]) (Q' := fun r s1 => r = Int32.ofNat (zlen.getD 0 0) ∧ s1 = σ) M ⟨⟨wd_len7, zwlen.1, zwlen.2.1, ⟨by decide +kernel, by decide +kernel, by decide +kernel⟩, by decide⟩, zwlen.2.2.1, zwlen.2.2.2⟩ (yb_recvS M (by decide)) rfl rfl (by decide) (Nat.le_of_ble_eq_true rfl) (by omega) (by omega) dX7_init_197 (fun hI => kJ_length hI (by decide) σ _ ⟨rfl, rfl⟩) (fun r s1 hr => ?_)
    obtain ⟨rfl, rfl⟩ := hr
    rw [zlen0]
    refine yb_ge M 235 dX7_init_200 (by decide) (fun c => absurd c (nI_ge (b := 54) (by omega) (by omega))) (fun _ => ?_)
    refine yb_iload M 1 dX7_init_203 rfl rfl ?_
    refine yb_sipush (v := 160) M dX7_init_204 (by decide) ?_
    refine yb_ge M 235 dX7_init_207 (by decide) (fun c => absurd c (nI_ge (b := 160) (by omega) (by omega))) (fun _ => ?_)
    refine yb_aload M 0 dX7_init_210 rfl rfl ?_
    refine yb_getT M f_X7_23 tX_0 (t := .inr 17) rfl dX7_init_211 ?_
    refine yb_iload M 1 dX7_init_214 rfl rfl ?_
    refine yb_ldcS (i := 0) M rfl dX7_init_215 ?_
    refine yb_iload M 1 dX7_init_217 rfl rfl ?_
    refine yb_callI (na := 1) (x := yJ0_charAt_5068e) (d' := 4) (As := [.int (nI i)]) (rest := [.int (nI i), .ref (ad 17)]) (Q' := fun r s2 => r = (zbyt.getD 0 []).getD (nI i).toNatClampNeg 0 ∧ s2 = s1) M ⟨⟨wd_chr7, zwchr.1, zwchr.2.1, ⟨by decide +kernel, by decide +kernel, by decide +kernel⟩, by decide⟩, zwchr.2.2.1, zwchr.2.2.2⟩ (yb_recvS M (by decide)) rfl rfl (by decide) (Nat.le_of_ble_eq_true rfl) (by omega) (by omega) dX7_init_218 (fun hI => kJ_charAt hI (by decide) (by rw [zlen0]; exact zin' (by omega) (by decide)) s1 _ ⟨rfl, rfl⟩) (fun r s2 hr => ?_)
    obtain ⟨rfl, rfl⟩ := hr
    refine yb_iast (kk := i) M tX_17 (zin' (by omega) (by decide)) (nI_clamp (by omega)) dX7_init_221 ?_
    refine yb_aload M 0 dX7_init_222 rfl rfl ?_
    refine yb_iload M 1 dX7_init_223 rfl rfl ?_
    refine yb_iconst (v := 1) M dX7_init_224 (by decide) ?_
    refine yb_iadd M dX7_init_225 ?_
    refine yb_putI M f_X7_27 tX_0 rfl dX7_init_226 ?_
    refine yb_iinc M [(1, .int (nI (i + 1))), (0, .ref (ad 0))] 1 dX7_init_229 rfl (n32 := 1) (by decide) (nI_1 i).symm (by decide) rfl ?_
    refine yb_goto M 194 dX7_init_232 (by decide) ?_
    refine yb_sub [(0, .ref (ad 0)), (1, .int (nI (i + 1)))] [1, 0] rfl ?_
    rw [nI_clamp (by omega), zT0_by i (by omega), nI_1]
    exact ih (i + 1) _ (by omega) (xPi_s h)
end zFirst
