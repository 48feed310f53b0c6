section
variable {p : Program} {l : Launch} {e : Env} {s : State} {m : MethodId} {args : Array Value} {below : List Frame} {meth : Method} {c : Code} {D : va_G} {cA : Nat → ClassId} {ad : Nat → Nat} {y : zX}
def wX1_passes (x1 : Int32) (x2 : Int32) (σ : zSt) (Q : Int32 → zSt → Prop) : Prop := vp_in x1 8 ∧ (if (σ.1 4 x1.toNatClampNeg) = x2 then (if 4 ≤ x1 then (Q 0 σ) else (Q 1 σ)) else (if 4 ≤ x1 then (Q 1 σ) else (Q 0 σ)))
set_option maxRecDepth 20000 in
set_option maxHeartbeats 4000000 in
theorem kX1_passes (hI : zInj tabX ad) (x1 : Int32) (x2 : Int32)  (σ : zSt) (Q : Int32 → zSt → Prop) (h : wX1_passes x1 x2 σ Q) : zOkI l tabX D cA ad y 1 yX1_passes cX1_passes 3 (some .boolean) [.ref (ad 1), .int x1, .int x2] σ Q := by
  refine zz_enter hI (by decide) (Nat.le_of_ble_eq_true rfl) (fun p e s m below meth c M => ?_)
  have M : zM p s m _ meth c cX1_passes 3 RX1 (some .boolean) tabX D cA ad y := M
  refine zz_ls [(0, .ref (ad 1)), (1, .int x1), (2, .int x2)] rfl ?_
  unfold wX1_passes at h
  refine zz_aload_n M 0 dX1_passes_0 rfl rfl ?_
  refine zz_getR M f_X1_18 tX_1 rfl dX1_passes_1 ?_
  refine zz_iload_n M 1 dX1_passes_4 rfl rfl ?_
  refine zz_iald M tX_4 h.1 dX1_passes_5 ?_
  have h := h.2
  refine zz_iload_n M 2 dX1_passes_6 rfl rfl ?_
  refine zz_icmp_ne M 14 dX1_passes_7 (by decide) (fun c => ?_) (fun c => ?_)
  · have h := zifn (c := (σ.1 4 x1.toNatClampNeg) = x2) h c
    refine zz_iconst (v := 0) M dX1_passes_14 (by decide) ?_
    refine zz_iload_n M 1 dX1_passes_15 rfl rfl ?_
    refine zz_iconst (v := 4) M dX1_passes_16 (by decide) ?_
    refine zz_icmp_ge M 24 dX1_passes_17 (by decide) (fun c => ?_) (fun c => ?_)
    · have h := zif (c := 4 ≤ x1) h c
      refine zz_iconst (v := 0) M dX1_passes_24 (by decide) ?_
      refine zz_icmp_ne M 32 dX1_passes_25 (by decide) (fun c => absurd c (by decide)) (fun c => ?_)
      refine zz_iconst (v := 1) M dX1_passes_28 (by decide) ?_
      refine zz_goto M 33 dX1_passes_29 (by decide) ?_
      exact zz_zret M dX1_passes_33 (Or.inr rfl) h
    · have h := zifn (c := 4 ≤ x1) h c
      refine zz_iconst (v := 1) M dX1_passes_20 (by decide) ?_
      refine zz_goto M 25 dX1_passes_21 (by decide) ?_
      refine zz_icmp_ne M 32 dX1_passes_25 (by decide) (fun c => ?_) (fun c => absurd c (by decide))
      refine zz_iconst (v := 0) M dX1_passes_32 (by decide) ?_
      exact zz_zret M dX1_passes_33 (Or.inl rfl) h
  · have h := zif (c := (σ.1 4 x1.toNatClampNeg) = x2) h c
    refine zz_iconst (v := 1) M dX1_passes_10 (by decide) ?_
    refine zz_goto M 15 dX1_passes_11 (by decide) ?_
    refine zz_iload_n M 1 dX1_passes_15 rfl rfl ?_
    refine zz_iconst (v := 4) M dX1_passes_16 (by decide) ?_
    refine zz_icmp_ge M 24 dX1_passes_17 (by decide) (fun c => ?_) (fun c => ?_)
    · have h := zif (c := 4 ≤ x1) h c
      refine zz_iconst (v := 0) M dX1_passes_24 (by decide) ?_
      refine zz_icmp_ne M 32 dX1_passes_25 (by decide) (fun c => ?_) (fun c => absurd c (by decide))
      refine zz_iconst (v := 0) M dX1_passes_32 (by decide) ?_
      exact zz_zret M dX1_passes_33 (Or.inl rfl) h
    · have h := zifn (c := 4 ≤ x1) h c
      refine zz_iconst (v := 1) M dX1_passes_20 (by decide) ?_
      refine zz_goto M 25 dX1_passes_21 (by decide) ?_
      refine zz_icmp_ne M 32 dX1_passes_25 (by decide) (fun c => absurd c (by decide)) (fun c => ?_)
      refine zz_iconst (v := 1) M dX1_passes_28 (by decide) ?_
      refine zz_goto M 33 dX1_passes_29 (by decide) ?_
      exact zz_zret M dX1_passes_33 (Or.inr rfl) h
def wX1_through_2_L11 (Q : Int32 → zSt → Prop) (K34 : Int32 → zSt → Prop) (K42 : zSt → Prop) (x1 : Int32) : Nat → Int32 → zSt → Prop
  | 0, _, _ => False
  | n + 1, x3, σ => if 24 ≤ x3 then (K42  σ) else (if 24 ≤ x3 then (K42  σ) else (vp_in x3 24 ∧ (∀ a102 : Int32, a102 = (σ.1 2 x3.toNatClampNeg) → (wX1_passes x1 a102 σ (fun r103 σ104 => if r103 = 0 then (∀ x105 : Int32, x105 = x3 + 1 → (wX1_through_2_L11 Q K34 K42 x1 n x105 σ104)) else (K34 x3 σ104))))))
set_option maxRecDepth 20000 in
set_option maxHeartbeats 4000000 in
theorem sX1_through_2_L11 {Q : Int32 → zSt → Prop} {K34 : Int32 → zSt → Prop} {K42 : zSt → Prop} (x1 : Int32)  (M : zM p s m args meth c cX1_through 4 RX1 (some .int) tabX D cA ad y) (hK34 : ∀ (v3 : Int32) (σ : zSt), K34 v3 σ → zG p l e (zrm 2) s m args below meth c 4 tabX D cA ad (MQ below (va_Qi Q (fun σ' t => va_P D vwCl (zws tabX cA ad σ') t.heap) (zIn tabX ad)) args s 0 0 (zIn tabX ad)) 34 [(3, .int v3)] [] σ) (hK42 : ∀ (σ : zSt), K42  σ → zG p l e (zrm 2) s m args below meth c 4 tabX D cA ad (MQ below (va_Qi Q (fun σ' t => va_P D vwCl (zws tabX cA ad σ') t.heap) (zIn tabX ad)) args s 0 0 (zIn tabX ad)) 42 [] [] σ) : ∀ (n : Nat) (x3 : Int32) (σ : zSt), wX1_through_2_L11 Q K34 K42 x1 n x3 σ → zG p l e (zrm 2) s m args below meth c 4 tabX D cA ad (MQ below (va_Qi Q (fun σ' t => va_P D vwCl (zws tabX cA ad σ') t.heap) (zIn tabX ad)) args s 0 0 (zIn tabX ad)) 11 [(0, .ref (ad 1)), (1, .int x1), (2, .ref (ad 2)), (3, .int x3)] [] σ := by
  intro n
  induction n with
  | zero => intro x3 σ h; exact absurd h (by simp [wX1_through_2_L11])
  | succ n ih =>
    intro x3 σ h
    unfold wX1_through_2_L11 at h
    refine zz_iload_n M 3 dX1_through_11 rfl rfl ?_
    refine zz_bipush (v := 24) M dX1_through_12 (by decide) ?_
    refine zz_icmp_ge M 42 dX1_through_14 (by decide) (fun c => ?_) (fun c => ?_)
    · have h := zif (c := 24 ≤ x3) h c
      refine zz_sub [] [] rfl ?_
      exact hK42  _ h
    · have h := zifn (c := 24 ≤ x3) h c
      refine zz_iload_n M 3 dX1_through_17 rfl rfl ?_
      refine zz_aload_n M 2 dX1_through_18 rfl rfl ?_
      refine zz_alen (v := 24) M tX_2 (by decide) (by decide) dX1_through_19 ?_
      refine zz_icmp_ge M 42 dX1_through_20 (by decide) (fun c => ?_) (fun c => ?_)
      · have h := zif (c := 24 ≤ x3) h c
        refine zz_sub [] [] rfl ?_
        exact hK42  _ h
      · have h := zifn (c := 24 ≤ x3) h c
        refine zz_aload_n M 0 dX1_through_23 rfl rfl ?_
        refine zz_iload_n M 1 dX1_through_24 rfl rfl ?_
        refine zz_aload_n M 2 dX1_through_25 rfl rfl ?_
        refine zz_iload_n M 3 dX1_through_26 rfl rfl ?_
        refine zz_iald M tX_2 h.1 dX1_through_27 ?_
        have h := h.2
        obtain ⟨a102, ea102⟩ : ∃ z : Int32, z = (σ.1 2 x3.toNatClampNeg) := ⟨_, rfl⟩
        have h := h a102 ea102
        refine zz_st [.int a102, .int x1, .ref (ad 1)] (by rw [ea102]) ?_
        refine zz_callVI (d' := 1) (As := [.int x1, .int a102]) (rest := []) M l_X1_58 tX_1 rfl rfl dX1_through_28 rfl rfl (by decide) (Nat.le_of_ble_eq_true rfl) (by have hI := M.2.2.2.2.2.2.2.2; exact kX1_passes hI _ _  _ _ h) (fun r103 σ104 h => ?_)
        refine zz_if_eq (y0 := 0) M 36 dX1_through_31 (by decide) (fun c => ?_) (fun c => ?_)
        · have h := zif (c := r103 = 0) h c
          obtain ⟨x105, ex105⟩ : ∃ z : Int32, z = x3 + 1 := ⟨_, rfl⟩
          have h := h x105 ex105
          refine zz_iinc M [(3, .int x105), (0, .ref (ad 1)), (1, .int x1), (2, .ref (ad 2))] 3 dX1_through_36 rfl (n32 := 1) (by decide) ex105 (by decide) rfl ?_
          refine zz_goto M 11 dX1_through_39 (by decide) ?_
          refine zz_sub [(0, .ref (ad 1)), (1, .int x1), (2, .ref (ad 2)), (3, .int x105)] [1, 2, 3, 0] rfl ?_
          exact ih _ _ h
        · have h := zifn (c := r103 = 0) h c
          refine zz_sub [(3, .int x3)] [3] rfl ?_
          exact hK34 _ _ h
def wX1_through_2 (x1 : Int32) (σ : zSt) (Q : Int32 → zSt → Prop) : Prop := vp_in x1 8 ∧ (∀ x101 : Int32, x101 = (if (σ.1 5 x1.toNatClampNeg) < 0 then 0 else (σ.1 5 x1.toNatClampNeg)) → (wX1_through_2_L11 Q (fun v106 σ107 => Q v106 σ107) (fun  σ108 => Q 24 σ108) x1 300 x101 σ))
set_option maxRecDepth 20000 in
set_option maxHeartbeats 4000000 in
theorem kX1_through_2 (hI : zInj tabX ad) (x1 : Int32)  (σ : zSt) (Q : Int32 → zSt → Prop) (h : wX1_through_2 x1 σ Q) : zOkI l tabX D cA ad y 2 yX1_through cX1_through 4 (some .int) [.ref (ad 1), .int x1, .ref (ad 2)] σ Q := by
  refine zz_enter hI (by decide) (Nat.le_of_ble_eq_true rfl) (fun p e s m below meth c M => ?_)
  have M : zM p s m _ meth c cX1_through 4 RX1 (some .int) tabX D cA ad y := M
  refine zz_ls [(0, .ref (ad 1)), (1, .int x1), (2, .ref (ad 2))] rfl ?_
  unfold wX1_through_2 at h
  refine zz_aload_n M 0 dX1_through_0 rfl rfl ?_
  refine zz_getR M f_X1_21 tX_1 rfl dX1_through_1 ?_
  refine zz_iload_n M 1 dX1_through_4 rfl rfl ?_
  refine zz_iald M tX_5 h.1 dX1_through_5 ?_
  have h := h.2
  refine zz_iconst (v := 0) M dX1_through_6 (by decide) ?_
  refine zz_max M l_X1_52 zmath_max (by decide) (Nat.le_of_ble_eq_true rfl) dX1_through_7 ?_
  refine zz_topi (fun x101 ex101 => ?_)
  have h := h x101 ex101
  refine zz_istore_n M [(3, .int x101), (0, .ref (ad 1)), (1, .int x1), (2, .ref (ad 2))] dX1_through_10 rfl (by decide) rfl ?_
  refine zz_sub [(0, .ref (ad 1)), (1, .int x1), (2, .ref (ad 2)), (3, .int x101)] [1, 2, 3, 0] rfl ?_
  refine sX1_through_2_L11 x1  M (fun v106 σ107 h => ?_) (fun  σ108 h => ?_) 300 _ _ h
  · refine zz_iload_n M 0 dX1_through_34 rfl rfl ?_
    exact zz_iret M dX1_through_35 h
  · refine zz_bipush (v := 24) M dX1_through_42 (by decide) ?_
    exact zz_iret M dX1_through_44 h
def wX1_many  (σ : zSt) (Q : Int32 → zSt → Prop) : Prop := Q ((σ.1 3 0) + (σ.1 3 1)) σ
set_option maxRecDepth 20000 in
set_option maxHeartbeats 4000000 in
theorem kX1_many (hI : zInj tabX ad)   (σ : zSt) (Q : Int32 → zSt → Prop) (h : wX1_many  σ Q) : zOkI l tabX D cA ad y 1 yX1_many cX1_many 1 (some .int) [.ref (ad 1)] σ Q := by
  refine zz_enter hI (by decide) (Nat.le_of_ble_eq_true rfl) (fun p e s m below meth c M => ?_)
  have M : zM p s m _ meth c cX1_many 1 RX1 (some .int) tabX D cA ad y := M
  refine zz_ls [(0, .ref (ad 1))] rfl ?_
  unfold wX1_many at h
  refine zz_aload_n M 0 dX1_many_0 rfl rfl ?_
  refine zz_getR M f_X1_15 tX_1 rfl dX1_many_1 ?_
  refine zz_iconst (v := 0) M dX1_many_4 (by decide) ?_
  refine zz_ialdK (kk := 0) M tX_3 (zlit (by decide)) (by decide) dX1_many_5 ?_
  refine zz_aload_n M 0 dX1_many_6 rfl rfl ?_
  refine zz_getR M f_X1_15 tX_1 rfl dX1_many_7 ?_
  refine zz_iconst (v := 1) M dX1_many_10 (by decide) ?_
  refine zz_ialdK (kk := 1) M tX_3 (zlit (by decide)) (by decide) dX1_many_11 ?_
  refine zz_iadd M dX1_many_12 ?_
  exact zz_iret M dX1_many_13 h
def wX6_joined (x0 : Int32) (x1 : Int32) (x2 : Int32) (σ : zSt) (Q : Int32 → zSt → Prop) : Prop := if x0 = (-14) then (if x1 = 0 then (Q 0 σ) else (if x2 = 0 then (Q 0 σ) else (Q 1 σ))) else (if x0 = (-13) then (if x1 = x2 then (Q 1 σ) else (Q 0 σ)) else (if x0 = (-12) then (if x2 ≤ x1 then (Q 0 σ) else (Q 1 σ)) else (if x0 = (-11) then (Q (x1 * x2) σ) else (if x0 = (-10) then (Q (x1 - x2) σ) else (if x0 = (-9) then (Q (x1 + x2) σ) else (if x1 = 0 then (if x2 = 0 then (Q 0 σ) else (Q 1 σ)) else (Q 1 σ)))))))
set_option maxRecDepth 20000 in
set_option maxHeartbeats 4000000 in
theorem kX6_joined (hI : zInj tabX ad) (x0 : Int32) (x1 : Int32) (x2 : Int32)  (σ : zSt) (Q : Int32 → zSt → Prop) (h : wX6_joined x0 x1 x2 σ Q) : zOkI l tabX D cA ad y 1 yX6_joined cX6_joined 3 (some .int) [.int x0, .int x1, .int x2] σ Q := by
  refine zz_enter hI (by decide) (Nat.le_of_ble_eq_true rfl) (fun p e s m below meth c M => ?_)
  have M : zM p s m _ meth c cX6_joined 3 RX6 (some .int) tabX D cA ad y := M
  refine zz_ls [(0, .int x0), (1, .int x1), (2, .int x2)] rfl ?_
  unfold wX6_joined at h
  refine zz_iload_n M 0 dX6_joined_0 rfl rfl ?_
  by_cases cm14 : x0 = (-14)
  · have h := zif h cm14
    refine zz_tinK M cm14 74 dX6_joined_1 (by decide) (by decide) rfl (by decide) ?_
    refine zz_iload_n M 1 dX6_joined_74 rfl rfl ?_
    refine zz_if_eq (y0 := 0) M 86 dX6_joined_75 (by decide) (fun c => ?_) (fun c => ?_)
    · have h := zif (c := x1 = 0) h c
      refine zz_iconst (v := 0) M dX6_joined_86 (by decide) ?_
      exact zz_iret M dX6_joined_87 h
    · have h := zifn (c := x1 = 0) h c
      refine zz_iload_n M 2 dX6_joined_78 rfl rfl ?_
      refine zz_if_eq (y0 := 0) M 86 dX6_joined_79 (by decide) (fun c => ?_) (fun c => ?_)
      · have h := zif (c := x2 = 0) h c
        refine zz_iconst (v := 0) M dX6_joined_86 (by decide) ?_
        exact zz_iret M dX6_joined_87 h
      · have h := zifn (c := x2 = 0) h c
        refine zz_iconst (v := 1) M dX6_joined_82 (by decide) ?_
        refine zz_goto M 87 dX6_joined_83 (by decide) ?_
        exact zz_iret M dX6_joined_87 h
  have h := zifn h cm14
  by_cases cm13 : x0 = (-13)
  · have h := zif h cm13
    refine zz_tinK M cm13 63 dX6_joined_1 (by decide) (by decide) rfl (by decide) ?_
    refine zz_iload_n M 1 dX6_joined_63 rfl rfl ?_
    refine zz_iload_n M 2 dX6_joined_64 rfl rfl ?_
    refine zz_icmp_ne M 72 dX6_joined_65 (by decide) (fun c => ?_) (fun c => ?_)
    · have h := zifn (c := x1 = x2) h c
      refine zz_iconst (v := 0) M dX6_joined_72 (by decide) ?_
      exact zz_iret M dX6_joined_73 h
    · have h := zif (c := x1 = x2) h c
      refine zz_iconst (v := 1) M dX6_joined_68 (by decide) ?_
      refine zz_goto M 73 dX6_joined_69 (by decide) ?_
      exact zz_iret M dX6_joined_73 h
  have h := zifn h cm13
  by_cases cm12 : x0 = (-12)
  · have h := zif h cm12
    refine zz_tinK M cm12 52 dX6_joined_1 (by decide) (by decide) rfl (by decide) ?_
    refine zz_iload_n M 1 dX6_joined_52 rfl rfl ?_
    refine zz_iload_n M 2 dX6_joined_53 rfl rfl ?_
    refine zz_icmp_ge M 61 dX6_joined_54 (by decide) (fun c => ?_) (fun c => ?_)
    · have h := zif (c := x2 ≤ x1) h c
      refine zz_iconst (v := 0) M dX6_joined_61 (by decide) ?_
      exact zz_iret M dX6_joined_62 h
    · have h := zifn (c := x2 ≤ x1) h c
      refine zz_iconst (v := 1) M dX6_joined_57 (by decide) ?_
      refine zz_goto M 62 dX6_joined_58 (by decide) ?_
      exact zz_iret M dX6_joined_62 h
  have h := zifn h cm12
  by_cases cm11 : x0 = (-11)
  · have h := zif h cm11
    refine zz_tinK M cm11 48 dX6_joined_1 (by decide) (by decide) rfl (by decide) ?_
    refine zz_iload_n M 1 dX6_joined_48 rfl rfl ?_
    refine zz_iload_n M 2 dX6_joined_49 rfl rfl ?_
    refine zz_imul M dX6_joined_50 ?_
    exact zz_iret M dX6_joined_51 h
  have h := zifn h cm11
  by_cases cm10 : x0 = (-10)
  · have h := zif h cm10
    refine zz_tinK M cm10 44 dX6_joined_1 (by decide) (by decide) rfl (by decide) ?_
    refine zz_iload_n M 1 dX6_joined_44 rfl rfl ?_
    refine zz_iload_n M 2 dX6_joined_45 rfl rfl ?_
    refine zz_isub M dX6_joined_46 ?_
    exact zz_iret M dX6_joined_47 h
  have h := zifn h cm10
  by_cases cm9 : x0 = (-9)
  · have h := zif h cm9
    refine zz_tinK M cm9 40 dX6_joined_1 (by decide) (by decide) rfl (by decide) ?_
    refine zz_iload_n M 1 dX6_joined_40 rfl rfl ?_
    refine zz_iload_n M 2 dX6_joined_41 rfl rfl ?_
    refine zz_iadd M dX6_joined_42 ?_
    exact zz_iret M dX6_joined_43 h
  have h := zifn h cm9
  refine zz_tout M 88 dX6_joined_1 (ztabm14_m9 cm14 cm13 cm12 cm11 cm10 cm9) (by decide) ?_
  refine zz_iload_n M 1 dX6_joined_88 rfl rfl ?_
  refine zz_if_ne (y0 := 0) M 96 dX6_joined_89 (by decide) (fun c => ?_) (fun c => ?_)
  · have h := zifn (c := x1 = 0) h c
    refine zz_iconst (v := 1) M dX6_joined_96 (by decide) ?_
    refine zz_goto M 101 dX6_joined_97 (by decide) ?_
    exact zz_iret M dX6_joined_101 h
  · have h := zif (c := x1 = 0) h c
    refine zz_iload_n M 2 dX6_joined_92 rfl rfl ?_
    refine zz_if_eq (y0 := 0) M 100 dX6_joined_93 (by decide) (fun c => ?_) (fun c => ?_)
    · have h := zif (c := x2 = 0) h c
      refine zz_iconst (v := 0) M dX6_joined_100 (by decide) ?_
      exact zz_iret M dX6_joined_101 h
    · have h := zifn (c := x2 = 0) h c
      refine zz_iconst (v := 1) M dX6_joined_96 (by decide) ?_
      refine zz_goto M 101 dX6_joined_97 (by decide) ?_
      exact zz_iret M dX6_joined_101 h
def wX6_nameAt_26 (x1 : Int32) (σ : zSt) (Q : Int32 → zSt → Prop) : Prop := if x1 < 0 then (Q 0 σ) else (if 6 ≤ x1 then (Q 0 σ) else (vp_in x1 6 ∧ (Q (σ.1 26 x1.toNatClampNeg) σ)))
set_option maxRecDepth 20000 in
set_option maxHeartbeats 4000000 in
theorem kX6_nameAt_26 (hI : zInj tabX ad) (x1 : Int32)  (σ : zSt) (Q : Int32 → zSt → Prop) (h : wX6_nameAt_26 x1 σ Q) : zOkI l tabX D cA ad y 1 yX6_nameAt cX6_nameAt 2 (some .int) [.ref (ad 26), .int x1] σ Q := by
  refine zz_enter hI (by decide) (Nat.le_of_ble_eq_true rfl) (fun p e s m below meth c M => ?_)
  have M : zM p s m _ meth c cX6_nameAt 2 RX6 (some .int) tabX D cA ad y := M
  refine zz_ls [(0, .ref (ad 26)), (1, .int x1)] rfl ?_
  unfold wX6_nameAt_26 at h
  refine zz_iload_n M 1 dX6_nameAt_0 rfl rfl ?_
  refine zz_if_lt (y0 := 0) M 16 dX6_nameAt_1 (by decide) (fun c => ?_) (fun c => ?_)
  · have h := zif (c := x1 < 0) h c
    refine zz_iconst (v := 0) M dX6_nameAt_16 (by decide) ?_
    exact zz_iret M dX6_nameAt_17 h
  · have h := zifn (c := x1 < 0) h c
    refine zz_iload_n M 1 dX6_nameAt_4 rfl rfl ?_
    refine zz_aload_n M 0 dX6_nameAt_5 rfl rfl ?_
    refine zz_alen (v := 6) M tX_26 (by decide) (by decide) dX6_nameAt_6 ?_
    refine zz_icmp_ge M 16 dX6_nameAt_7 (by decide) (fun c => ?_) (fun c => ?_)
    · have h := zif (c := 6 ≤ x1) h c
      refine zz_iconst (v := 0) M dX6_nameAt_16 (by decide) ?_
      exact zz_iret M dX6_nameAt_17 h
    · have h := zifn (c := 6 ≤ x1) h c
      refine zz_aload_n M 0 dX6_nameAt_10 rfl rfl ?_
      refine zz_iload_n M 1 dX6_nameAt_11 rfl rfl ?_
      refine zz_iald M tX_26 h.1 dX6_nameAt_12 ?_
      have h := h.2
      refine zz_goto M 17 dX6_nameAt_13 (by decide) ?_
      exact zz_iret M dX6_nameAt_17 h
def wX6_worth_26_27_L36 (Q : Int32 → zSt → Prop) (K197 : Int32 → zSt → Prop) (i0 : Nat) (x1 : Int32) : Nat → Int32 → Int32 → zSt → Prop
  | 0, _, _, _ => False
  | n + 1, x4, x5, σ => vp_in x1 3 ∧ (if (σ.1 (55 + i0) x1.toNatClampNeg) ≤ x5 then (K197 x4 σ) else (if 160 ≤ x5 then (K197 x4 σ) else (vp_in x5 160 ∧ (∀ x102 : Int32, x102 = (σ.1 (49 + i0) x5.toNatClampNeg) → (if x102 < (-6) then (if x102 < (-8) then (if x4 < 2 then (∀ x103 : Int32, x103 = x5 + 1 → (wX6_worth_26_27_L36 Q K197 i0 x1 n x4 x103 σ)) else (∀ x104 : Int32, x104 = x4 + (-1) → (vp_in (x104 - 1) 160 ∧ (vp_in x104 160 ∧ (∀ a105 : Int32, a105 = (σ.1 27 (x104 - 1 : Int32).toNatClampNeg) → (∀ a106 : Int32, a106 = (σ.1 27 x104.toNatClampNeg) → (wX6_joined x102 a105 a106 σ (fun r107 σ108 => vp_in (x104 - 1) 160 ∧ (∀ σ109 : zSt, σ109 = zput σ108 27 (x104 - 1 : Int32).toNatClampNeg r107 → (∀ x110 : Int32, x110 = x5 + 1 → (wX6_worth_26_27_L36 Q K197 i0 x1 n x104 x110 σ109))))))))))) else (if x4 < 1 then (∀ x111 : Int32, x111 = x5 + 1 → (wX6_worth_26_27_L36 Q K197 i0 x1 n x4 x111 σ)) else (if x102 = (-7) then (vp_in (x4 - 1) 160 ∧ (vp_in (x4 - 1) 160 ∧ (∀ σ116 : zSt, σ116 = zput σ 27 (x4 - 1 : Int32).toNatClampNeg (-(σ.1 27 (x4 - 1 : Int32).toNatClampNeg)) → (∀ x117 : Int32, x117 = x5 + 1 → (wX6_worth_26_27_L36 Q K197 i0 x1 n x4 x117 σ116))))) else (vp_in (x4 - 1) 160 ∧ (if (σ.1 27 (x4 - 1 : Int32).toNatClampNeg) = 0 then (vp_in (x4 - 1) 160 ∧ (∀ σ114 : zSt, σ114 = zput σ 27 (x4 - 1 : Int32).toNatClampNeg 1 → (∀ x115 : Int32, x115 = x5 + 1 → (wX6_worth_26_27_L36 Q K197 i0 x1 n x4 x115 σ114)))) else (vp_in (x4 - 1) 160 ∧ (∀ σ112 : zSt, σ112 = zput σ 27 (x4 - 1 : Int32).toNatClampNeg 0 → (∀ x113 : Int32, x113 = x5 + 1 → (wX6_worth_26_27_L36 Q K197 i0 x1 n x4 x113 σ112))))))))) else (if 160 ≤ x4 then (∀ x118 : Int32, x118 = x5 + 1 → (wX6_worth_26_27_L36 Q K197 i0 x1 n x4 x118 σ)) else (if x102 < 0 then (∀ a119 : Int32, a119 = ((-1) - x102) → (wX6_nameAt_26 a119 σ (fun r120 σ121 => vp_in x4 160 ∧ (∀ σ122 : zSt, σ122 = zput σ121 27 x4.toNatClampNeg r120 → (∀ x123 : Int32, x123 = x4 + 1 → (∀ x124 : Int32, x124 = x5 + 1 → (wX6_worth_26_27_L36 Q K197 i0 x1 n x123 x124 σ122))))))) else (vp_in x4 160 ∧ (∀ σ125 : zSt, σ125 = zput σ 27 x4.toNatClampNeg x102 → (∀ x126 : Int32, x126 = x4 + 1 → (∀ x127 : Int32, x127 = x5 + 1 → (wX6_worth_26_27_L36 Q K197 i0 x1 n x126 x127 σ125))))))))))))
set_option maxRecDepth 20000 in
set_option maxHeartbeats 4000000 in
theorem sX6_worth_26_27_L36 {Q : Int32 → zSt → Prop} {K197 : Int32 → zSt → Prop} (i0 : Nat) (x1 : Int32) (hi0 : i0 < 6) (M : zM p s m args meth c cX6_worth 7 RX6 (some .int) tabX D cA ad y) (hK197 : ∀ (v4 : Int32) (σ : zSt), K197 v4 σ → zG p l e (zrm 2) s m args below meth c 7 tabX D cA ad (MQ below (va_Qi Q (fun σ' t => va_P D vwCl (zws tabX cA ad σ') t.heap) (zIn tabX ad)) args s 0 0 (zIn tabX ad)) 197 [(3, .ref (ad 27)), (4, .int v4)] [] σ) : ∀ (n : Nat) (x4 : Int32) (x5 : Int32) (σ : zSt), wX6_worth_26_27_L36 Q K197 i0 x1 n x4 x5 σ → zG p l e (zrm 2) s m args below meth c 7 tabX D cA ad (MQ below (va_Qi Q (fun σ' t => va_P D vwCl (zws tabX cA ad σ') t.heap) (zIn tabX ad)) args s 0 0 (zIn tabX ad)) 36 [(0, .ref (ad (43 + i0))), (1, .int x1), (2, .ref (ad 26)), (3, .ref (ad 27)), (4, .int x4), (5, .int x5)] [] σ := by
  intro n
  induction n with
  | zero => intro x4 x5 σ h; exact absurd h (by simp [wX6_worth_26_27_L36])
  | succ n ih =>
    intro x4 x5 σ h
    unfold wX6_worth_26_27_L36 at h
    refine zz_iload M 5 dX6_worth_36 rfl ?_
    refine zz_aload_n M 0 dX6_worth_38 rfl rfl ?_
    refine zz_getR M f_X6_15 (tX_Text hi0) rfl dX6_worth_39 ?_
    refine zz_iload_n M 1 dX6_worth_42 rfl rfl ?_
    refine zz_iald M (tX_Text_ends hi0) h.1 dX6_worth_43 ?_
    have h := h.2
    refine zz_icmp_ge M 197 dX6_worth_44 (by decide) (fun c => ?_) (fun c => ?_)
    · have h := zif (c := (σ.1 (55 + i0) x1.toNatClampNeg) ≤ x5) h c
      refine zz_sub [(3, .ref (ad 27)), (4, .int x4)] [3, 4] rfl ?_
      exact hK197 _ _ h
    · have h := zifn (c := (σ.1 (55 + i0) x1.toNatClampNeg) ≤ x5) h c
      refine zz_iload M 5 dX6_worth_47 rfl ?_
      refine zz_aload_n M 0 dX6_worth_49 rfl rfl ?_
      refine zz_getR M f_X6_9 (tX_Text hi0) rfl dX6_worth_50 ?_
      refine zz_alen (v := 160) M (tX_Text_code hi0) (by decide) (by decide) dX6_worth_53 ?_
      refine zz_icmp_ge M 197 dX6_worth_54 (by decide) (fun c => ?_) (fun c => ?_)
      · have h := zif (c := 160 ≤ x5) h c
        refine zz_sub [(3, .ref (ad 27)), (4, .int x4)] [3, 4] rfl ?_
        exact hK197 _ _ h
      · have h := zifn (c := 160 ≤ x5) h c
        refine zz_aload_n M 0 dX6_worth_57 rfl rfl ?_
        refine zz_getR M f_X6_9 (tX_Text hi0) rfl dX6_worth_58 ?_
        refine zz_iload M 5 dX6_worth_61 rfl ?_
        refine zz_iald M (tX_Text_code hi0) h.1 dX6_worth_63 ?_
        have h := h.2
        refine zz_topi (fun x102 ex102 => ?_)
        have h := h x102 ex102
        refine zz_istore M [(6, .int x102), (0, .ref (ad (43 + i0))), (1, .int x1), (2, .ref (ad 26)), (3, .ref (ad 27)), (4, .int x4), (5, .int x5)] dX6_worth_64 (by decide) rfl ?_
        refine zz_iload M 0 dX6_worth_66 rfl ?_
        refine zz_bipush (v := (-6)) M dX6_worth_68 (by decide) ?_
        refine zz_icmp_lt M 108 dX6_worth_70 (by decide) (fun c => ?_) (fun c => ?_)
        · have h := zif (c := x102 < (-6)) h c
          refine zz_iload M 0 dX6_worth_108 rfl ?_
          refine zz_bipush (v := (-8)) M dX6_worth_110 (by decide) ?_
          refine zz_icmp_lt M 161 dX6_worth_112 (by decide) (fun c => ?_) (fun c => ?_)
          · have h := zif (c := x102 < (-8)) h c
            refine zz_iload M 5 dX6_worth_161 rfl ?_
            refine zz_iconst (v := 2) M dX6_worth_163 (by decide) ?_
            refine zz_icmp_lt M 191 dX6_worth_164 (by decide) (fun c => ?_) (fun c => ?_)
            · have h := zif (c := x4 < 2) h c
              obtain ⟨x103, ex103⟩ : ∃ z : Int32, z = x5 + 1 := ⟨_, rfl⟩
              have h := h x103 ex103
              refine zz_iinc M [(5, .int x103), (6, .int x102), (0, .ref (ad (43 + i0))), (1, .int x1), (2, .ref (ad 26)), (3, .ref (ad 27)), (4, .int x4)] 6 dX6_worth_191 rfl (n32 := 1) (by decide) ex103 (by decide) rfl ?_
              refine zz_goto M 36 dX6_worth_194 (by decide) ?_
              refine zz_sub [(0, .ref (ad (43 + i0))), (1, .int x1), (2, .ref (ad 26)), (3, .ref (ad 27)), (4, .int x4), (5, .int x103)] [2, 3, 4, 5, 6, 0] rfl ?_
              exact ih _ _ _ h
            · have h := zifn (c := x4 < 2) h c
              obtain ⟨x104, ex104⟩ : ∃ z : Int32, z = x4 + (-1) := ⟨_, rfl⟩
              have h := h x104 ex104
              refine zz_iinc M [(4, .int x104), (6, .int x102), (0, .ref (ad (43 + i0))), (1, .int x1), (2, .ref (ad 26)), (3, .ref (ad 27)), (5, .int x5)] 5 dX6_worth_167 rfl (n32 := (-1)) (by decide) ex104 (by decide) rfl ?_
              refine zz_aload_n M 5 dX6_worth_170 rfl rfl ?_
              refine zz_iload M 0 dX6_worth_171 rfl ?_
              refine zz_iconst (v := 1) M dX6_worth_173 (by decide) ?_
              refine zz_isub M dX6_worth_174 ?_
              refine zz_iload M 1 dX6_worth_175 rfl ?_
              refine zz_aload_n M 5 dX6_worth_177 rfl rfl ?_
              refine zz_iload M 0 dX6_worth_178 rfl ?_
              refine zz_iconst (v := 1) M dX6_worth_180 (by decide) ?_
              refine zz_isub M dX6_worth_181 ?_
              refine zz_iald M tX_27 h.1 dX6_worth_182 ?_
              have h := h.2
              refine zz_aload_n M 5 dX6_worth_183 rfl rfl ?_
              refine zz_iload M 0 dX6_worth_184 rfl ?_
              refine zz_iald M tX_27 h.1 dX6_worth_186 ?_
              have h := h.2
              obtain ⟨a105, ea105⟩ : ∃ z : Int32, z = (σ.1 27 (x104 - 1 : Int32).toNatClampNeg) := ⟨_, rfl⟩
              have h := h a105 ea105
              obtain ⟨a106, ea106⟩ : ∃ z : Int32, z = (σ.1 27 x104.toNatClampNeg) := ⟨_, rfl⟩
              have h := h a106 ea106
              refine zz_st [.int a106, .int a105, .int x102, .int (x104 - 1), .ref (ad 27)] (by rw [ea105, ea106]) ?_
              refine zz_callSI (d' := 1) (As := [.int x102, .int a105, .int a106]) (rest := [.int (x104 - 1), .ref (ad 27)]) M l_X6_26 dX6_worth_187 rfl rfl (by decide) (Nat.le_of_ble_eq_true rfl) (by have hI := M.2.2.2.2.2.2.2.2; exact kX6_joined hI _ _ _  _ _ h) (fun r107 σ108 h => ?_)
              refine zz_iast M tX_27 h.1 dX6_worth_190 ?_
              have h := h.2
              refine zz_sg (fun σ109 eσ109 => ?_)
              have h := h σ109 eσ109
              obtain ⟨x110, ex110⟩ : ∃ z : Int32, z = x5 + 1 := ⟨_, rfl⟩
              have h := h x110 ex110
              refine zz_iinc M [(5, .int x110), (4, .int x104), (6, .int x102), (0, .ref (ad (43 + i0))), (1, .int x1), (2, .ref (ad 26)), (3, .ref (ad 27))] 6 dX6_worth_191 rfl (n32 := 1) (by decide) ex110 (by decide) rfl ?_
              refine zz_goto M 36 dX6_worth_194 (by decide) ?_
              refine zz_sub [(0, .ref (ad (43 + i0))), (1, .int x1), (2, .ref (ad 26)), (3, .ref (ad 27)), (4, .int x104), (5, .int x110)] [3, 4, 5, 6, 1, 0] rfl ?_
              exact ih _ _ _ h
          · have h := zifn (c := x102 < (-8)) h c
            refine zz_iload M 5 dX6_worth_115 rfl ?_
            refine zz_iconst (v := 1) M dX6_worth_117 (by decide) ?_
            refine zz_icmp_lt M 191 dX6_worth_118 (by decide) (fun c => ?_) (fun c => ?_)
            · have h := zif (c := x4 < 1) h c
              obtain ⟨x111, ex111⟩ : ∃ z : Int32, z = x5 + 1 := ⟨_, rfl⟩
              have h := h x111 ex111
              refine zz_iinc M [(5, .int x111), (6, .int x102), (0, .ref (ad (43 + i0))), (1, .int x1), (2, .ref (ad 26)), (3, .ref (ad 27)), (4, .int x4)] 6 dX6_worth_191 rfl (n32 := 1) (by decide) ex111 (by decide) rfl ?_
              refine zz_goto M 36 dX6_worth_194 (by decide) ?_
              refine zz_sub [(0, .ref (ad (43 + i0))), (1, .int x1), (2, .ref (ad 26)), (3, .ref (ad 27)), (4, .int x4), (5, .int x111)] [2, 3, 4, 5, 6, 0] rfl ?_
              exact ih _ _ _ h
            · have h := zifn (c := x4 < 1) h c
              refine zz_aload_n M 4 dX6_worth_121 rfl rfl ?_
              refine zz_iload M 5 dX6_worth_122 rfl ?_
              refine zz_iconst (v := 1) M dX6_worth_124 (by decide) ?_
              refine zz_isub M dX6_worth_125 ?_
              refine zz_iload M 0 dX6_worth_126 rfl ?_
              refine zz_bipush (v := (-7)) M dX6_worth_128 (by decide) ?_
              refine zz_icmp_ne M 143 dX6_worth_130 (by decide) (fun c => ?_) (fun c => ?_)
              · have h := zifn (c := x102 = (-7)) h c
                refine zz_aload_n M 4 dX6_worth_143 rfl rfl ?_
                refine zz_iload M 5 dX6_worth_144 rfl ?_
                refine zz_iconst (v := 1) M dX6_worth_146 (by decide) ?_
                refine zz_isub M dX6_worth_147 ?_
                refine zz_iald M tX_27 h.1 dX6_worth_148 ?_
                have h := h.2
                refine zz_if_ne (y0 := 0) M 156 dX6_worth_149 (by decide) (fun c => ?_) (fun c => ?_)
                · have h := zifn (c := (σ.1 27 (x4 - 1 : Int32).toNatClampNeg) = 0) h c
                  refine zz_iconst (v := 0) M dX6_worth_156 (by decide) ?_
                  refine zz_iast M tX_27 h.1 dX6_worth_157 ?_
                  have h := h.2
                  refine zz_sg (fun σ112 eσ112 => ?_)
                  have h := h σ112 eσ112
                  refine zz_goto M 191 dX6_worth_158 (by decide) ?_
                  obtain ⟨x113, ex113⟩ : ∃ z : Int32, z = x5 + 1 := ⟨_, rfl⟩
                  have h := h x113 ex113
                  refine zz_iinc M [(5, .int x113), (6, .int x102), (0, .ref (ad (43 + i0))), (1, .int x1), (2, .ref (ad 26)), (3, .ref (ad 27)), (4, .int x4)] 6 dX6_worth_191 rfl (n32 := 1) (by decide) ex113 (by decide) rfl ?_
                  refine zz_goto M 36 dX6_worth_194 (by decide) ?_
                  refine zz_sub [(0, .ref (ad (43 + i0))), (1, .int x1), (2, .ref (ad 26)), (3, .ref (ad 27)), (4, .int x4), (5, .int x113)] [2, 3, 4, 5, 6, 0] rfl ?_
                  exact ih _ _ _ h
                · have h := zif (c := (σ.1 27 (x4 - 1 : Int32).toNatClampNeg) = 0) h c
                  refine zz_iconst (v := 1) M dX6_worth_152 (by decide) ?_
                  refine zz_goto M 157 dX6_worth_153 (by decide) ?_
                  refine zz_iast M tX_27 h.1 dX6_worth_157 ?_
                  have h := h.2
                  refine zz_sg (fun σ114 eσ114 => ?_)
                  have h := h σ114 eσ114
                  refine zz_goto M 191 dX6_worth_158 (by decide) ?_
                  obtain ⟨x115, ex115⟩ : ∃ z : Int32, z = x5 + 1 := ⟨_, rfl⟩
                  have h := h x115 ex115
                  refine zz_iinc M [(5, .int x115), (6, .int x102), (0, .ref (ad (43 + i0))), (1, .int x1), (2, .ref (ad 26)), (3, .ref (ad 27)), (4, .int x4)] 6 dX6_worth_191 rfl (n32 := 1) (by decide) ex115 (by decide) rfl ?_
                  refine zz_goto M 36 dX6_worth_194 (by decide) ?_
                  refine zz_sub [(0, .ref (ad (43 + i0))), (1, .int x1), (2, .ref (ad 26)), (3, .ref (ad 27)), (4, .int x4), (5, .int x115)] [2, 3, 4, 5, 6, 0] rfl ?_
                  exact ih _ _ _ h
              · have h := zif (c := x102 = (-7)) h c
                refine zz_aload_n M 4 dX6_worth_133 rfl rfl ?_
                refine zz_iload M 5 dX6_worth_134 rfl ?_
                refine zz_iconst (v := 1) M dX6_worth_136 (by decide) ?_
                refine zz_isub M dX6_worth_137 ?_
                refine zz_iald M tX_27 h.1 dX6_worth_138 ?_
                have h := h.2
                refine zz_ineg M dX6_worth_139 ?_
                refine zz_goto M 157 dX6_worth_140 (by decide) ?_
                refine zz_iast M tX_27 h.1 dX6_worth_157 ?_
                have h := h.2
                refine zz_sg (fun σ116 eσ116 => ?_)
                have h := h σ116 eσ116
                refine zz_goto M 191 dX6_worth_158 (by decide) ?_
                obtain ⟨x117, ex117⟩ : ∃ z : Int32, z = x5 + 1 := ⟨_, rfl⟩
                have h := h x117 ex117
                refine zz_iinc M [(5, .int x117), (6, .int x102), (0, .ref (ad (43 + i0))), (1, .int x1), (2, .ref (ad 26)), (3, .ref (ad 27)), (4, .int x4)] 6 dX6_worth_191 rfl (n32 := 1) (by decide) ex117 (by decide) rfl ?_
                refine zz_goto M 36 dX6_worth_194 (by decide) ?_
                refine zz_sub [(0, .ref (ad (43 + i0))), (1, .int x1), (2, .ref (ad 26)), (3, .ref (ad 27)), (4, .int x4), (5, .int x117)] [2, 3, 4, 5, 6, 0] rfl ?_
                exact ih _ _ _ h
        · have h := zifn (c := x102 < (-6)) h c
          refine zz_iload M 5 dX6_worth_73 rfl ?_
          refine zz_aload_n M 4 dX6_worth_75 rfl rfl ?_
          refine zz_alen (v := 160) M tX_27 (by decide) (by decide) dX6_worth_76 ?_
          refine zz_icmp_ge M 191 dX6_worth_77 (by decide) (fun c => ?_) (fun c => ?_)
          · have h := zif (c := 160 ≤ x4) h c
            obtain ⟨x118, ex118⟩ : ∃ z : Int32, z = x5 + 1 := ⟨_, rfl⟩
            have h := h x118 ex118
            refine zz_iinc M [(5, .int x118), (6, .int x102), (0, .ref (ad (43 + i0))), (1, .int x1), (2, .ref (ad 26)), (3, .ref (ad 27)), (4, .int x4)] 6 dX6_worth_191 rfl (n32 := 1) (by decide) ex118 (by decide) rfl ?_
            refine zz_goto M 36 dX6_worth_194 (by decide) ?_
            refine zz_sub [(0, .ref (ad (43 + i0))), (1, .int x1), (2, .ref (ad 26)), (3, .ref (ad 27)), (4, .int x4), (5, .int x118)] [2, 3, 4, 5, 6, 0] rfl ?_
            exact ih _ _ _ h
          · have h := zifn (c := 160 ≤ x4) h c
            refine zz_aload_n M 4 dX6_worth_80 rfl rfl ?_
            refine zz_iload M 5 dX6_worth_81 rfl ?_
            refine zz_iload M 0 dX6_worth_83 rfl ?_
            refine zz_if_lt (y0 := 0) M 93 dX6_worth_85 (by decide) (fun c => ?_) (fun c => ?_)
            · have h := zif (c := x102 < 0) h c
              refine zz_aload_n M 3 dX6_worth_93 rfl rfl ?_
              refine zz_iconst (v := (-1)) M dX6_worth_94 (by decide) ?_
              refine zz_iload M 0 dX6_worth_95 rfl ?_
              refine zz_isub M dX6_worth_97 ?_
              obtain ⟨a119, ea119⟩ : ∃ z : Int32, z = ((-1) - x102) := ⟨_, rfl⟩
              have h := h a119 ea119
              refine zz_st [.int a119, .ref (ad 26), .int x4, .ref (ad 27)] (by rw [ea119]) ?_
              refine zz_callSI (d' := 1) (As := [.ref (ad 26), .int a119]) (rest := [.int x4, .ref (ad 27)]) M l_X6_22 dX6_worth_98 rfl rfl (by decide) (Nat.le_of_ble_eq_true rfl) (by have hI := M.2.2.2.2.2.2.2.2; exact kX6_nameAt_26 hI _  _ _ h) (fun r120 σ121 h => ?_)
              refine zz_iast M tX_27 h.1 dX6_worth_101 ?_
              have h := h.2
              refine zz_sg (fun σ122 eσ122 => ?_)
              have h := h σ122 eσ122
              obtain ⟨x123, ex123⟩ : ∃ z : Int32, z = x4 + 1 := ⟨_, rfl⟩
              have h := h x123 ex123
              refine zz_iinc M [(4, .int x123), (6, .int x102), (0, .ref (ad (43 + i0))), (1, .int x1), (2, .ref (ad 26)), (3, .ref (ad 27)), (5, .int x5)] 5 dX6_worth_102 rfl (n32 := 1) (by decide) ex123 (by decide) rfl ?_
              refine zz_goto M 191 dX6_worth_105 (by decide) ?_
              obtain ⟨x124, ex124⟩ : ∃ z : Int32, z = x5 + 1 := ⟨_, rfl⟩
              have h := h x124 ex124
              refine zz_iinc M [(5, .int x124), (4, .int x123), (6, .int x102), (0, .ref (ad (43 + i0))), (1, .int x1), (2, .ref (ad 26)), (3, .ref (ad 27))] 6 dX6_worth_191 rfl (n32 := 1) (by decide) ex124 (by decide) rfl ?_
              refine zz_goto M 36 dX6_worth_194 (by decide) ?_
              refine zz_sub [(0, .ref (ad (43 + i0))), (1, .int x1), (2, .ref (ad 26)), (3, .ref (ad 27)), (4, .int x123), (5, .int x124)] [3, 4, 5, 6, 1, 0] rfl ?_
              exact ih _ _ _ h
            · have h := zifn (c := x102 < 0) h c
              refine zz_iload M 0 dX6_worth_88 rfl ?_
              refine zz_goto M 101 dX6_worth_90 (by decide) ?_
              refine zz_iast M tX_27 h.1 dX6_worth_101 ?_
              have h := h.2
              refine zz_sg (fun σ125 eσ125 => ?_)
              have h := h σ125 eσ125
              obtain ⟨x126, ex126⟩ : ∃ z : Int32, z = x4 + 1 := ⟨_, rfl⟩
              have h := h x126 ex126
              refine zz_iinc M [(4, .int x126), (6, .int x102), (0, .ref (ad (43 + i0))), (1, .int x1), (2, .ref (ad 26)), (3, .ref (ad 27)), (5, .int x5)] 5 dX6_worth_102 rfl (n32 := 1) (by decide) ex126 (by decide) rfl ?_
              refine zz_goto M 191 dX6_worth_105 (by decide) ?_
              obtain ⟨x127, ex127⟩ : ∃ z : Int32, z = x5 + 1 := ⟨_, rfl⟩
              have h := h x127 ex127
              refine zz_iinc M [(5, .int x127), (4, .int x126), (6, .int x102), (0, .ref (ad (43 + i0))), (1, .int x1), (2, .ref (ad 26)), (3, .ref (ad 27))] 6 dX6_worth_191 rfl (n32 := 1) (by decide) ex127 (by decide) rfl ?_
              refine zz_goto M 36 dX6_worth_194 (by decide) ?_
              refine zz_sub [(0, .ref (ad (43 + i0))), (1, .int x1), (2, .ref (ad 26)), (3, .ref (ad 27)), (4, .int x126), (5, .int x127)] [3, 4, 5, 6, 1, 0] rfl ?_
              exact ih _ _ _ h
def wX6_worth_26_27 (i0 : Nat) (x1 : Int32) (σ : zSt) (Q : Int32 → zSt → Prop) : Prop := if x1 < 0 then (Q 0 σ) else (if x1 < 3 then (if x1 = 0 then (wX6_worth_26_27_L36 Q (fun v130 σ131 => if v130 ≤ 0 then (Q 0 σ131) else (vp_in (v130 - 1) 160 ∧ (Q (σ131.1 27 (v130 - 1 : Int32).toNatClampNeg) σ131))) i0 x1 300 0 0 σ) else (vp_in (x1 - 1) 3 ∧ (∀ x101 : Int32, x101 = (σ.1 (55 + i0) (x1 - 1 : Int32).toNatClampNeg) → (wX6_worth_26_27_L36 Q (fun v128 σ129 => if v128 ≤ 0 then (Q 0 σ129) else (vp_in (v128 - 1) 160 ∧ (Q (σ129.1 27 (v128 - 1 : Int32).toNatClampNeg) σ129))) i0 x1 300 0 x101 σ)))) else (Q 0 σ))
set_option maxRecDepth 20000 in
set_option maxHeartbeats 4000000 in
theorem kX6_worth_26_27 (hI : zInj tabX ad) (i0 : Nat) (x1 : Int32) (hi0 : i0 < 6) (σ : zSt) (Q : Int32 → zSt → Prop) (h : wX6_worth_26_27 i0 x1 σ Q) : zOkI l tabX D cA ad y 2 yX6_worth cX6_worth 7 (some .int) [.ref (ad (43 + i0)), .int x1, .ref (ad 26), .ref (ad 27)] σ Q := by
  refine zz_enter hI (by decide) (Nat.le_of_ble_eq_true rfl) (fun p e s m below meth c M => ?_)
  have M : zM p s m _ meth c cX6_worth 7 RX6 (some .int) tabX D cA ad y := M
  refine zz_ls [(0, .ref (ad (43 + i0))), (1, .int x1), (2, .ref (ad 26)), (3, .ref (ad 27))] rfl ?_
  unfold wX6_worth_26_27 at h
  refine zz_iload_n M 1 dX6_worth_0 rfl rfl ?_
  refine zz_if_lt (y0 := 0) M 13 dX6_worth_1 (by decide) (fun c => ?_) (fun c => ?_)
  · have h := zif (c := x1 < 0) h c
    refine zz_iconst (v := 0) M dX6_worth_13 (by decide) ?_
    exact zz_iret M dX6_worth_14 h
  · have h := zifn (c := x1 < 0) h c
    refine zz_iload_n M 1 dX6_worth_4 rfl rfl ?_
    refine zz_aload_n M 0 dX6_worth_5 rfl rfl ?_
    refine zz_getR M f_X6_15 (tX_Text hi0) rfl dX6_worth_6 ?_
    refine zz_alen (v := 3) M (tX_Text_ends hi0) (by decide) (by decide) dX6_worth_9 ?_
    refine zz_icmp_lt M 15 dX6_worth_10 (by decide) (fun c => ?_) (fun c => ?_)
    · have h := zif (c := x1 < 3) h c
      refine zz_iconst (v := 0) M dX6_worth_15 (by decide) ?_
      refine zz_istore M [(4, .int 0), (0, .ref (ad (43 + i0))), (1, .int x1), (2, .ref (ad 26)), (3, .ref (ad 27))] dX6_worth_16 (by decide) rfl ?_
      refine zz_iload_n M 2 dX6_worth_18 rfl rfl ?_
      refine zz_if_ne (y0 := 0) M 26 dX6_worth_19 (by decide) (fun c => ?_) (fun c => ?_)
      · have h := zifn (c := x1 = 0) h c
        refine zz_aload_n M 1 dX6_worth_26 rfl rfl ?_
        refine zz_getR M f_X6_15 (tX_Text hi0) rfl dX6_worth_27 ?_
        refine zz_iload_n M 2 dX6_worth_30 rfl rfl ?_
        refine zz_iconst (v := 1) M dX6_worth_31 (by decide) ?_
        refine zz_isub M dX6_worth_32 ?_
        refine zz_iald M (tX_Text_ends hi0) h.1 dX6_worth_33 ?_
        have h := h.2
        refine zz_topi (fun x101 ex101 => ?_)
        have h := h x101 ex101
        refine zz_istore M [(5, .int x101), (4, .int 0), (0, .ref (ad (43 + i0))), (1, .int x1), (2, .ref (ad 26)), (3, .ref (ad 27))] dX6_worth_34 (by decide) rfl ?_
        refine zz_sub [(0, .ref (ad (43 + i0))), (1, .int x1), (2, .ref (ad 26)), (3, .ref (ad 27)), (4, .int 0), (5, .int x101)] [2, 3, 4, 5, 1, 0] rfl ?_
        refine sX6_worth_26_27_L36 i0 x1 hi0 M (fun v128 σ129 h => ?_) 300 _ _ _ h
        refine zz_iload M 1 dX6_worth_197 rfl ?_
        refine zz_if_le (y0 := 0) M 211 dX6_worth_199 (by decide) (fun c => ?_) (fun c => ?_)
        · have h := zif (c := v128 ≤ 0) h c
          refine zz_iconst (v := 0) M dX6_worth_211 (by decide) ?_
          exact zz_iret M dX6_worth_212 h
        · have h := zifn (c := v128 ≤ 0) h c
          refine zz_aload_n M 0 dX6_worth_202 rfl rfl ?_
          refine zz_iload M 1 dX6_worth_203 rfl ?_
          refine zz_iconst (v := 1) M dX6_worth_205 (by decide) ?_
          refine zz_isub M dX6_worth_206 ?_
          refine zz_iald M tX_27 h.1 dX6_worth_207 ?_
          have h := h.2
          refine zz_goto M 212 dX6_worth_208 (by decide) ?_
          exact zz_iret M dX6_worth_212 h
      · have h := zif (c := x1 = 0) h c
        refine zz_iconst (v := 0) M dX6_worth_22 (by decide) ?_
        refine zz_goto M 34 dX6_worth_23 (by decide) ?_
        refine zz_istore M [(5, .int 0), (4, .int 0), (0, .ref (ad (43 + i0))), (1, .int x1), (2, .ref (ad 26)), (3, .ref (ad 27))] dX6_worth_34 (by decide) rfl ?_
        refine zz_sub [(0, .ref (ad (43 + i0))), (1, .int x1), (2, .ref (ad 26)), (3, .ref (ad 27)), (4, .int 0), (5, .int 0)] [2, 3, 4, 5, 1, 0] rfl ?_
        refine sX6_worth_26_27_L36 i0 x1 hi0 M (fun v130 σ131 h => ?_) 300 _ _ _ h
        refine zz_iload M 1 dX6_worth_197 rfl ?_
        refine zz_if_le (y0 := 0) M 211 dX6_worth_199 (by decide) (fun c => ?_) (fun c => ?_)
        · have h := zif (c := v130 ≤ 0) h c
          refine zz_iconst (v := 0) M dX6_worth_211 (by decide) ?_
          exact zz_iret M dX6_worth_212 h
        · have h := zifn (c := v130 ≤ 0) h c
          refine zz_aload_n M 0 dX6_worth_202 rfl rfl ?_
          refine zz_iload M 1 dX6_worth_203 rfl ?_
          refine zz_iconst (v := 1) M dX6_worth_205 (by decide) ?_
          refine zz_isub M dX6_worth_206 ?_
          refine zz_iald M tX_27 h.1 dX6_worth_207 ?_
          have h := h.2
          refine zz_goto M 212 dX6_worth_208 (by decide) ?_
          exact zz_iret M dX6_worth_212 h
    · have h := zifn (c := x1 < 3) h c
      refine zz_iconst (v := 0) M dX6_worth_13 (by decide) ?_
      exact zz_iret M dX6_worth_14 h
def wX0_reckon (x1 : Int32) (σ : zSt) (Q : Int32 → zSt → Prop) : Prop := wX1_many  σ (fun r101 σ102 => ∀ σ103 : zSt, σ103 = zput σ102 26 5 r101 → (∀ x104 : Int32, x104 = (σ103.1 1 10) → (if x104 < 0 then (Q 0 σ103) else (if 6 ≤ x104 then (Q 0 σ103) else (vp_in x104 6 ∧ (vp_in x104 6 ∧ (wX6_worth_26_27 (x104.toNatClampNeg) x1 σ103 (fun r107 σ108 => Q (if (0 : Int32) < (if r107 < 99 then r107 else 99) then (if r107 < 99 then r107 else 99) else 0) σ108))))))))
set_option maxRecDepth 20000 in
set_option maxHeartbeats 4000000 in
theorem kX0_reckon (hI : zInj tabX ad) (x1 : Int32)  (σ : zSt) (Q : Int32 → zSt → Prop) (h : wX0_reckon x1 σ Q) : zOkI l tabX D cA ad y 3 yX0_reckon cX0_reckon 3 (some .int) [.ref (ad 24), .int x1] σ Q := by
  refine zz_enter hI (by decide) (Nat.le_of_ble_eq_true rfl) (fun p e s m below meth c M => ?_)
  have M : zM p s m _ meth c cX0_reckon 3 RX0 (some .int) tabX D cA ad y := M
  refine zz_ls [(0, .ref (ad 24)), (1, .int x1)] rfl ?_
  unfold wX0_reckon at h
  refine zz_aload_n M 0 dX0_reckon_0 rfl rfl ?_
  refine zz_getR M f_X0_15 tX_24 rfl dX0_reckon_1 ?_
  refine zz_iconst (v := 5) M dX0_reckon_4 (by decide) ?_
  refine zz_aload_n M 0 dX0_reckon_5 rfl rfl ?_
  refine zz_getR M f_X0_21 tX_24 rfl dX0_reckon_6 ?_
  refine zz_callVI (d' := 1) (As := []) (rest := [.int 5, .ref (ad 26)]) M l_X0_72 tX_1 rfl rfl dX0_reckon_9 rfl rfl (by decide) (Nat.le_of_ble_eq_true rfl) (by have hI := M.2.2.2.2.2.2.2.2; exact kX1_many hI   _ _ h) (fun r101 σ102 h => ?_)
  refine zz_iastK (kk := 5) M tX_26 (zlit (by decide)) (by decide) dX0_reckon_12 ?_
  refine zz_sg (fun σ103 eσ103 => ?_)
  have h := h σ103 eσ103
  refine zz_aload_n M 0 dX0_reckon_13 rfl rfl ?_
  refine zz_getR M f_X0_21 tX_24 rfl dX0_reckon_14 ?_
  refine zz_getI M f_X0_76 tX_1 rfl dX0_reckon_17 ?_
  refine zz_topi (fun x104 ex104 => ?_)
  have h := h x104 ex104
  refine zz_istore_n M [(2, .int x104), (0, .ref (ad 24)), (1, .int x1)] dX0_reckon_20 rfl (by decide) rfl ?_
  refine zz_iload_n M 0 dX0_reckon_21 rfl rfl ?_
  refine zz_if_lt (y0 := 0) M 43 dX0_reckon_22 (by decide) (fun c => ?_) (fun c => ?_)
  · have h := zif (c := x104 < 0) h c
    refine zz_iconst (v := 0) M dX0_reckon_43 (by decide) ?_
    exact zz_iret M dX0_reckon_44 h
  · have h := zifn (c := x104 < 0) h c
    refine zz_iload_n M 0 dX0_reckon_25 rfl rfl ?_
    refine zz_aload_n M 1 dX0_reckon_26 rfl rfl ?_
    refine zz_getR M f_X0_25 tX_24 rfl dX0_reckon_27 ?_
    refine zz_alenR (v := 6) M tX_18 (by decide) (by decide) dX0_reckon_30 ?_
    refine zz_icmp_ge M 43 dX0_reckon_31 (by decide) (fun c => ?_) (fun c => ?_)
    · have h := zif (c := 6 ≤ x104) h c
      refine zz_iconst (v := 0) M dX0_reckon_43 (by decide) ?_
      exact zz_iret M dX0_reckon_44 h
    · have h := zifn (c := 6 ≤ x104) h c
      refine zz_aload_n M 1 dX0_reckon_34 rfl rfl ?_
      refine zz_getR M f_X0_25 tX_24 rfl dX0_reckon_35 ?_
      refine zz_iload_n M 0 dX0_reckon_38 rfl rfl ?_
      have hq105 := h.1
      refine zz_aald M tX_18 (by decide) hq105 dX0_reckon_39 ?_
      have h := h.2
      refine zz_ifnonnull M 45 dX0_reckon_40 (by decide) ?_
      refine zz_iconst (v := 0) M dX0_reckon_45 (by decide) ?_
      refine zz_bipush (v := 99) M dX0_reckon_46 (by decide) ?_
      refine zz_aload_n M 1 dX0_reckon_48 rfl rfl ?_
      refine zz_getR M f_X0_25 tX_24 rfl dX0_reckon_49 ?_
      refine zz_iload_n M 0 dX0_reckon_52 rfl rfl ?_
      have hq106 := h.1
      refine zz_aald M tX_18 (by decide) hq106 dX0_reckon_53 ?_
      have h := h.2
      refine zz_iload_n M 2 dX0_reckon_54 rfl rfl ?_
      refine zz_aload_n M 1 dX0_reckon_55 rfl rfl ?_
      refine zz_getR M f_X0_15 tX_24 rfl dX0_reckon_56 ?_
      refine zz_aload_n M 1 dX0_reckon_59 rfl rfl ?_
      refine zz_getR M f_X0_18 tX_24 rfl dX0_reckon_60 ?_
      refine zz_callVI (d' := 2) (As := [.int x1, .ref (ad 26), .ref (ad 27)]) (rest := [.int 99, .int 0]) M l_X0_80 (tX_Text (zclt hq106)) rfl rfl dX0_reckon_63 rfl rfl (by decide) (Nat.le_of_ble_eq_true rfl) (by have hI := M.2.2.2.2.2.2.2.2; exact kX6_worth_26_27 hI _ _ (zclt hq106) _ _ h) (fun r107 σ108 h => ?_)
      refine zz_min M l_X0_86 zmath_min (by decide) (Nat.le_of_ble_eq_true rfl) dX0_reckon_66 ?_
      refine zz_max M l_X0_91 zmath_max (by decide) (Nat.le_of_ble_eq_true rfl) dX0_reckon_69 ?_
      exact zz_iret M dX0_reckon_72 h
end
