section
variable {p : Program} {l : Launch} {e : Env} {s : State} {m : MethodId} {args : Array Value} {below : List Frame} {meth : Method} {c : Code} {D : va_G} {cA : Nat → ClassId} {ad : Nat → Nat} {y : zX}
def wX7_plan (x1 : Int32) (σ : zSt) (Q : Int32 → zSt → Prop) : Prop := if x1 = 0 then (wX0_ofRow_2  σ (fun r101 σ102 => Q r101 σ102)) else (if x1 = 1 then (wX7_changes_2  σ (fun r103 σ104 => Q r103 σ104)) else (if x1 = 2 then (wX7_firstUnlawful_2 24 σ (fun r105 σ106 => if r105 = (-1) then (Q 1 σ106) else (Q 0 σ106))) else (if x1 = 3 then (wX1_throughCount_2  σ (fun r107 σ108 => Q r107 σ108)) else (Q (-2) σ))))
set_option maxRecDepth 20000 in
set_option maxHeartbeats 4000000 in
theorem kX7_plan (hI : zInj tabX ad) (x1 : Int32)  (σ : zSt) (Q : Int32 → zSt → Prop) (h : wX7_plan x1 σ Q) : zOkI l tabX D cA ad y 6 yX7_plan cX7_plan 2 (some .int) [.ref (ad 0), .int x1] σ Q := by
  refine zz_enter hI (by decide) (Nat.le_of_ble_eq_true rfl) (fun p e s m below meth c M => ?_)
  have M : zM p s m _ meth c cX7_plan 2 RX7 (some .int) tabX D cA ad y := M
  refine zz_ls [(0, .ref (ad 0)), (1, .int x1)] rfl ?_
  unfold wX7_plan at h
  refine zz_iload_n M 1 dX7_plan_0 rfl rfl ?_
  by_cases c0 : x1 = 0
  · have h := zif h c0
    refine zz_tinK M c0 32 dX7_plan_1 (by decide) (by decide) rfl (by decide) ?_
    refine zz_aload_n M 0 dX7_plan_32 rfl rfl ?_
    refine zz_getR M f_X7_58 tX_0 rfl dX7_plan_33 ?_
    refine zz_aload_n M 0 dX7_plan_36 rfl rfl ?_
    refine zz_getR M f_X7_12 tX_0 rfl dX7_plan_37 ?_
    refine zz_getR M f_X7_148 tX_1 rfl dX7_plan_40 ?_
    refine zz_callVI (d' := 5) (As := [.ref (ad 2)]) (rest := []) M l_X7_171 tX_24 rfl rfl dX7_plan_43 rfl rfl (by decide) (Nat.le_of_ble_eq_true rfl) (by have hI := M.2.2.2.2.2.2.2.2; exact kX0_ofRow_2 hI   _ _ h) (fun r101 σ102 h => ?_)
    exact zz_iret M dX7_plan_46 h
  have h := zifn h c0
  by_cases c1 : x1 = 1
  · have h := zif h c1
    refine zz_tinK M c1 47 dX7_plan_1 (by decide) (by decide) rfl (by decide) ?_
    refine zz_aload_n M 0 dX7_plan_47 rfl rfl ?_
    refine zz_getR M f_X7_12 tX_0 rfl dX7_plan_48 ?_
    refine zz_getR M f_X7_148 tX_1 rfl dX7_plan_51 ?_
    refine zz_callSI (d' := 1) (As := [.ref (ad 2)]) (rest := []) M l_X7_175 dX7_plan_54 rfl rfl (by decide) (Nat.le_of_ble_eq_true rfl) (by have hI := M.2.2.2.2.2.2.2.2; exact kX7_changes_2 hI   _ _ h) (fun r103 σ104 h => ?_)
    exact zz_iret M dX7_plan_57 h
  have h := zifn h c1
  by_cases c2 : x1 = 2
  · have h := zif h c2
    refine zz_tinK M c2 58 dX7_plan_1 (by decide) (by decide) rfl (by decide) ?_
    refine zz_aload_n M 0 dX7_plan_58 rfl rfl ?_
    refine zz_aload_n M 0 dX7_plan_59 rfl rfl ?_
    refine zz_getR M f_X7_12 tX_0 rfl dX7_plan_60 ?_
    refine zz_getR M f_X7_148 tX_1 rfl dX7_plan_63 ?_
    refine zz_bipush (v := 24) M dX7_plan_66 (by decide) ?_
    refine zz_callVI (d' := 2) (As := [.ref (ad 2), .int 24]) (rest := []) M l_X7_178 tX_0 rfl rfl dX7_plan_68 rfl rfl (by decide) (Nat.le_of_ble_eq_true rfl) (by have hI := M.2.2.2.2.2.2.2.2; exact kX7_firstUnlawful_2 hI _  _ _ h) (fun r105 σ106 h => ?_)
    refine zz_iconst (v := (-1)) M dX7_plan_71 (by decide) ?_
    refine zz_icmp_ne M 79 dX7_plan_72 (by decide) (fun c => ?_) (fun c => ?_)
    · have h := zifn (c := r105 = (-1)) h c
      refine zz_iconst (v := 0) M dX7_plan_79 (by decide) ?_
      exact zz_iret M dX7_plan_80 h
    · have h := zif (c := r105 = (-1)) h c
      refine zz_iconst (v := 1) M dX7_plan_75 (by decide) ?_
      refine zz_goto M 80 dX7_plan_76 (by decide) ?_
      exact zz_iret M dX7_plan_80 h
  have h := zifn h c2
  by_cases c3 : x1 = 3
  · have h := zif h c3
    refine zz_tinK M c3 81 dX7_plan_1 (by decide) (by decide) rfl (by decide) ?_
    refine zz_aload_n M 0 dX7_plan_81 rfl rfl ?_
    refine zz_getR M f_X7_12 tX_0 rfl dX7_plan_82 ?_
    refine zz_aload_n M 0 dX7_plan_85 rfl rfl ?_
    refine zz_getR M f_X7_12 tX_0 rfl dX7_plan_86 ?_
    refine zz_getR M f_X7_148 tX_1 rfl dX7_plan_89 ?_
    refine zz_callVI (d' := 3) (As := [.ref (ad 2)]) (rest := []) M l_X7_182 tX_1 rfl rfl dX7_plan_92 rfl rfl (by decide) (Nat.le_of_ble_eq_true rfl) (by have hI := M.2.2.2.2.2.2.2.2; exact kX1_throughCount_2 hI   _ _ h) (fun r107 σ108 h => ?_)
    exact zz_iret M dX7_plan_95 h
  have h := zifn h c3
  refine zz_tout M 96 dX7_plan_1 (ztab0_3 c0 c1 c2 c3) (by decide) ?_
  refine zz_bipush (v := (-2)) M dX7_plan_96 (by decide) ?_
  exact zz_iret M dX7_plan_98 h
def wX4_priceByRule_L22 (Q : zSt → Prop) (K65 : zSt → Prop) (x1 : Int32) : Nat → Int32 → zSt → Prop
  | 0, _, _ => False
  | n + 1, x2, σ => if 24 < x2 then (K65  σ) else (wX1_isThere x1 σ (fun r102 σ103 => if r102 = 0 then (K65  σ103) else (wX0_ofOne x1 x2 σ103 (fun r104 σ105 => vp_in ((x1 * 25) + x2) 200 ∧ (∀ σ106 : zSt, σ106 = zput σ105 29 ((x1 * 25) + x2 : Int32).toNatClampNeg r104 → (∀ x107 : Int32, x107 = x2 + 1 → (wX4_priceByRule_L22 Q K65 x1 n x107 σ106)))))))
set_option maxRecDepth 20000 in
set_option maxHeartbeats 4000000 in
theorem sX4_priceByRule_L22 {Q : zSt → Prop} {K65 : zSt → Prop} (x1 : Int32)  (M : zM p s m args meth c cX4_priceByRule 4 RX4 none tabX D cA ad y) (hK65 : ∀ (σ : zSt), K65  σ → zG p l e (zrm 5) s m args below meth c 4 tabX D cA ad (MQ below (va_Qv Q (fun σ' t => va_P D vwCl (zws tabX cA ad σ') t.heap) (zIn tabX ad)) args s 0 0 (zIn tabX ad)) 65 [(0, .ref (ad 28)), (1, .int x1)] [] σ) : ∀ (n : Nat) (x2 : Int32) (σ : zSt), wX4_priceByRule_L22 Q K65 x1 n x2 σ → zG p l e (zrm 5) s m args below meth c 4 tabX D cA ad (MQ below (va_Qv Q (fun σ' t => va_P D vwCl (zws tabX cA ad σ') t.heap) (zIn tabX ad)) args s 0 0 (zIn tabX ad)) 22 [(0, .ref (ad 28)), (1, .int x1), (2, .int x2)] [] σ := by
  intro n
  induction n with
  | zero => intro x2 σ h; exact absurd h (by simp [wX4_priceByRule_L22])
  | succ n ih =>
    intro x2 σ h
    unfold wX4_priceByRule_L22 at h
    refine zz_iload_n M 2 dX4_priceByRule_22 rfl rfl ?_
    refine zz_bipush (v := 24) M dX4_priceByRule_23 (by decide) ?_
    refine zz_icmp_gt M 65 dX4_priceByRule_25 (by decide) (fun c => ?_) (fun c => ?_)
    · have h := zif (c := 24 < x2) h c
      refine zz_sub [(0, .ref (ad 28)), (1, .int x1)] [0, 1] rfl ?_
      exact hK65  _ h
    · have h := zifn (c := 24 < x2) h c
      refine zz_aload_n M 0 dX4_priceByRule_28 rfl rfl ?_
      refine zz_getR M f_X4_46 tX_28 rfl dX4_priceByRule_29 ?_
      refine zz_iload_n M 1 dX4_priceByRule_32 rfl rfl ?_
      refine zz_callVI (d' := 1) (As := [.int x1]) (rest := []) M l_X4_79 tX_1 rfl rfl dX4_priceByRule_33 rfl rfl (by decide) (Nat.le_of_ble_eq_true rfl) (by have hI := M.2.2.2.2.2.2.2.2; exact kX1_isThere hI _  _ _ h) (fun r102 σ103 h => ?_)
      refine zz_if_eq (y0 := 0) M 65 dX4_priceByRule_36 (by decide) (fun c => ?_) (fun c => ?_)
      · have h := zif (c := r102 = 0) h c
        refine zz_sub [(0, .ref (ad 28)), (1, .int x1)] [0, 1] rfl ?_
        exact hK65  _ h
      · have h := zifn (c := r102 = 0) h c
        refine zz_aload_n M 0 dX4_priceByRule_39 rfl rfl ?_
        refine zz_getR M f_X4_11 tX_28 rfl dX4_priceByRule_40 ?_
        refine zz_iload_n M 1 dX4_priceByRule_43 rfl rfl ?_
        refine zz_bipush (v := 25) M dX4_priceByRule_44 (by decide) ?_
        refine zz_imul M dX4_priceByRule_46 ?_
        refine zz_iload_n M 2 dX4_priceByRule_47 rfl rfl ?_
        refine zz_iadd M dX4_priceByRule_48 ?_
        refine zz_aload_n M 0 dX4_priceByRule_49 rfl rfl ?_
        refine zz_getR M f_X4_50 tX_28 rfl dX4_priceByRule_50 ?_
        refine zz_iload_n M 1 dX4_priceByRule_53 rfl rfl ?_
        refine zz_iload_n M 2 dX4_priceByRule_54 rfl rfl ?_
        refine zz_callVI (d' := 4) (As := [.int x1, .int x2]) (rest := [.int ((x1 * 25) + x2), .ref (ad 29)]) M l_X4_83 tX_24 rfl rfl dX4_priceByRule_55 rfl rfl (by decide) (Nat.le_of_ble_eq_true rfl) (by have hI := M.2.2.2.2.2.2.2.2; exact kX0_ofOne hI _ _  _ _ h) (fun r104 σ105 h => ?_)
        refine zz_iast M tX_29 h.1 dX4_priceByRule_58 ?_
        have h := h.2
        refine zz_sg (fun σ106 eσ106 => ?_)
        have h := h σ106 eσ106
        obtain ⟨x107, ex107⟩ : ∃ z : Int32, z = x2 + 1 := ⟨_, rfl⟩
        have h := h x107 ex107
        refine zz_iinc M [(2, .int x107), (0, .ref (ad 28)), (1, .int x1)] 2 dX4_priceByRule_59 rfl (n32 := 1) (by decide) ex107 (by decide) rfl ?_
        refine zz_goto M 22 dX4_priceByRule_62 (by decide) ?_
        refine zz_sub [(0, .ref (ad 28)), (1, .int x1), (2, .int x107)] [1, 2, 0] rfl ?_
        exact ih _ _ h
def wX4_priceByRule_L2 (Q : zSt → Prop) (K71 : zSt → Prop)  : Nat → Int32 → zSt → Prop
  | 0, _, _ => False
  | n + 1, x1, σ => if 8 ≤ x1 then (K71  σ) else (vp_in x1 8 ∧ (∀ x101 : Int32, x101 = (if (σ.1 5 x1.toNatClampNeg) < 0 then 0 else (σ.1 5 x1.toNatClampNeg)) → (wX4_priceByRule_L22 Q (fun  σ108 => ∀ x109 : Int32, x109 = x1 + 1 → (wX4_priceByRule_L2 Q K71  n x109 σ108)) x1 300 x101 σ)))
set_option maxRecDepth 20000 in
set_option maxHeartbeats 4000000 in
theorem sX4_priceByRule_L2 {Q : zSt → Prop} {K71 : zSt → Prop}   (M : zM p s m args meth c cX4_priceByRule 4 RX4 none tabX D cA ad y) (hK71 : ∀ (σ : zSt), K71  σ → zG p l e (zrm 5) s m args below meth c 4 tabX D cA ad (MQ below (va_Qv Q (fun σ' t => va_P D vwCl (zws tabX cA ad σ') t.heap) (zIn tabX ad)) args s 0 0 (zIn tabX ad)) 71 [(0, .ref (ad 28))] [] σ) : ∀ (n : Nat) (x1 : Int32) (σ : zSt), wX4_priceByRule_L2 Q K71  n x1 σ → zG p l e (zrm 5) s m args below meth c 4 tabX D cA ad (MQ below (va_Qv Q (fun σ' t => va_P D vwCl (zws tabX cA ad σ') t.heap) (zIn tabX ad)) args s 0 0 (zIn tabX ad)) 2 [(0, .ref (ad 28)), (1, .int x1)] [] σ := by
  intro n
  induction n with
  | zero => intro x1 σ h; exact absurd h (by simp [wX4_priceByRule_L2])
  | succ n ih =>
    intro x1 σ h
    unfold wX4_priceByRule_L2 at h
    refine zz_iload_n M 1 dX4_priceByRule_2 rfl rfl ?_
    refine zz_bipush (v := 8) M dX4_priceByRule_3 (by decide) ?_
    refine zz_icmp_ge M 71 dX4_priceByRule_5 (by decide) (fun c => ?_) (fun c => ?_)
    · have h := zif (c := 8 ≤ x1) h c
      refine zz_sub [(0, .ref (ad 28))] [0] rfl ?_
      exact hK71  _ h
    · have h := zifn (c := 8 ≤ x1) h c
      refine zz_aload_n M 0 dX4_priceByRule_8 rfl rfl ?_
      refine zz_getR M f_X4_46 tX_28 rfl dX4_priceByRule_9 ?_
      refine zz_getR M f_X4_68 tX_1 rfl dX4_priceByRule_12 ?_
      refine zz_iload_n M 1 dX4_priceByRule_15 rfl rfl ?_
      refine zz_iald M tX_5 h.1 dX4_priceByRule_16 ?_
      have h := h.2
      refine zz_iconst (v := 0) M dX4_priceByRule_17 (by decide) ?_
      refine zz_max M l_X4_73 zmath_max (by decide) (Nat.le_of_ble_eq_true rfl) dX4_priceByRule_18 ?_
      refine zz_topi (fun x101 ex101 => ?_)
      have h := h x101 ex101
      refine zz_istore_n M [(2, .int x101), (0, .ref (ad 28)), (1, .int x1)] dX4_priceByRule_21 rfl (by decide) rfl ?_
      refine zz_sub [(0, .ref (ad 28)), (1, .int x1), (2, .int x101)] [1, 2, 0] rfl ?_
      refine sX4_priceByRule_L22 x1  M (fun  σ108 h => ?_) 300 _ _ h
      obtain ⟨x109, ex109⟩ : ∃ z : Int32, z = x1 + 1 := ⟨_, rfl⟩
      have h := h x109 ex109
      refine zz_iinc M [(1, .int x109), (0, .ref (ad 28))] 1 dX4_priceByRule_65 rfl (n32 := 1) (by decide) ex109 (by decide) rfl ?_
      refine zz_goto M 2 dX4_priceByRule_68 (by decide) ?_
      refine zz_sub [(0, .ref (ad 28)), (1, .int x109)] [1, 0] rfl ?_
      exact ih _ _ h
def wX4_priceByRule_L88 (Q : zSt → Prop) (K132 : zSt → Prop) (x1 : Int32) (x2 : Int32) : Nat → Int32 → zSt → Prop
  | 0, _, _ => False
  | n + 1, x3, σ => if 3 ≤ x3 then (K132  σ) else (if x2 = x3 then (vp_in ((((x1 * 3) + x2) * 3) + x3) 216 ∧ (∀ σ115 : zSt, σ115 = zput σ 30 ((((x1 * 3) + x2) * 3) + x3 : Int32).toNatClampNeg 0 → (∀ x116 : Int32, x116 = x3 + 1 → (wX4_priceByRule_L88 Q K132 x1 x2 n x116 σ115)))) else (wX0_ofChange x1 x2 x3 σ (fun r111 σ112 => vp_in ((((x1 * 3) + x2) * 3) + x3) 216 ∧ (∀ σ113 : zSt, σ113 = zput σ112 30 ((((x1 * 3) + x2) * 3) + x3 : Int32).toNatClampNeg r111 → (∀ x114 : Int32, x114 = x3 + 1 → (wX4_priceByRule_L88 Q K132 x1 x2 n x114 σ113))))))
set_option maxRecDepth 20000 in
set_option maxHeartbeats 4000000 in
theorem sX4_priceByRule_L88 {Q : zSt → Prop} {K132 : zSt → Prop} (x1 : Int32) (x2 : Int32)  (M : zM p s m args meth c cX4_priceByRule 4 RX4 none tabX D cA ad y) (hK132 : ∀ (σ : zSt), K132  σ → zG p l e (zrm 5) s m args below meth c 4 tabX D cA ad (MQ below (va_Qv Q (fun σ' t => va_P D vwCl (zws tabX cA ad σ') t.heap) (zIn tabX ad)) args s 0 0 (zIn tabX ad)) 132 [(0, .ref (ad 28)), (1, .int x1), (2, .int x2)] [] σ) : ∀ (n : Nat) (x3 : Int32) (σ : zSt), wX4_priceByRule_L88 Q K132 x1 x2 n x3 σ → zG p l e (zrm 5) s m args below meth c 4 tabX D cA ad (MQ below (va_Qv Q (fun σ' t => va_P D vwCl (zws tabX cA ad σ') t.heap) (zIn tabX ad)) args s 0 0 (zIn tabX ad)) 88 [(0, .ref (ad 28)), (1, .int x1), (2, .int x2), (3, .int x3)] [] σ := by
  intro n
  induction n with
  | zero => intro x3 σ h; exact absurd h (by simp [wX4_priceByRule_L88])
  | succ n ih =>
    intro x3 σ h
    unfold wX4_priceByRule_L88 at h
    refine zz_iload_n M 3 dX4_priceByRule_88 rfl rfl ?_
    refine zz_iconst (v := 3) M dX4_priceByRule_89 (by decide) ?_
    refine zz_icmp_ge M 132 dX4_priceByRule_90 (by decide) (fun c => ?_) (fun c => ?_)
    · have h := zif (c := 3 ≤ x3) h c
      refine zz_sub [(0, .ref (ad 28)), (1, .int x1), (2, .int x2)] [0, 1, 2] rfl ?_
      exact hK132  _ h
    · have h := zifn (c := 3 ≤ x3) h c
      refine zz_aload_n M 0 dX4_priceByRule_93 rfl rfl ?_
      refine zz_getR M f_X4_15 tX_28 rfl dX4_priceByRule_94 ?_
      refine zz_iload_n M 1 dX4_priceByRule_97 rfl rfl ?_
      refine zz_iconst (v := 3) M dX4_priceByRule_98 (by decide) ?_
      refine zz_imul M dX4_priceByRule_99 ?_
      refine zz_iload_n M 2 dX4_priceByRule_100 rfl rfl ?_
      refine zz_iadd M dX4_priceByRule_101 ?_
      refine zz_iconst (v := 3) M dX4_priceByRule_102 (by decide) ?_
      refine zz_imul M dX4_priceByRule_103 ?_
      refine zz_iload_n M 3 dX4_priceByRule_104 rfl rfl ?_
      refine zz_iadd M dX4_priceByRule_105 ?_
      refine zz_iload_n M 2 dX4_priceByRule_106 rfl rfl ?_
      refine zz_iload_n M 3 dX4_priceByRule_107 rfl rfl ?_
      refine zz_icmp_ne M 115 dX4_priceByRule_108 (by decide) (fun c => ?_) (fun c => ?_)
      · have h := zifn (c := x2 = x3) h c
        refine zz_aload_n M 0 dX4_priceByRule_115 rfl rfl ?_
        refine zz_getR M f_X4_50 tX_28 rfl dX4_priceByRule_116 ?_
        refine zz_iload_n M 1 dX4_priceByRule_119 rfl rfl ?_
        refine zz_iload_n M 2 dX4_priceByRule_120 rfl rfl ?_
        refine zz_iload_n M 3 dX4_priceByRule_121 rfl rfl ?_
        refine zz_callVI (d' := 4) (As := [.int x1, .int x2, .int x3]) (rest := [.int ((((x1 * 3) + x2) * 3) + x3), .ref (ad 30)]) M l_X4_88 tX_24 rfl rfl dX4_priceByRule_122 rfl rfl (by decide) (Nat.le_of_ble_eq_true rfl) (by have hI := M.2.2.2.2.2.2.2.2; exact kX0_ofChange hI _ _ _  _ _ h) (fun r111 σ112 h => ?_)
        refine zz_iast M tX_30 h.1 dX4_priceByRule_125 ?_
        have h := h.2
        refine zz_sg (fun σ113 eσ113 => ?_)
        have h := h σ113 eσ113
        obtain ⟨x114, ex114⟩ : ∃ z : Int32, z = x3 + 1 := ⟨_, rfl⟩
        have h := h x114 ex114
        refine zz_iinc M [(3, .int x114), (0, .ref (ad 28)), (1, .int x1), (2, .int x2)] 3 dX4_priceByRule_126 rfl (n32 := 1) (by decide) ex114 (by decide) rfl ?_
        refine zz_goto M 88 dX4_priceByRule_129 (by decide) ?_
        refine zz_sub [(0, .ref (ad 28)), (1, .int x1), (2, .int x2), (3, .int x114)] [1, 2, 3, 0] rfl ?_
        exact ih _ _ h
      · have h := zif (c := x2 = x3) h c
        refine zz_iconst (v := 0) M dX4_priceByRule_111 (by decide) ?_
        refine zz_goto M 125 dX4_priceByRule_112 (by decide) ?_
        refine zz_iast M tX_30 h.1 dX4_priceByRule_125 ?_
        have h := h.2
        refine zz_sg (fun σ115 eσ115 => ?_)
        have h := h σ115 eσ115
        obtain ⟨x116, ex116⟩ : ∃ z : Int32, z = x3 + 1 := ⟨_, rfl⟩
        have h := h x116 ex116
        refine zz_iinc M [(3, .int x116), (0, .ref (ad 28)), (1, .int x1), (2, .int x2)] 3 dX4_priceByRule_126 rfl (n32 := 1) (by decide) ex116 (by decide) rfl ?_
        refine zz_goto M 88 dX4_priceByRule_129 (by decide) ?_
        refine zz_sub [(0, .ref (ad 28)), (1, .int x1), (2, .int x2), (3, .int x116)] [1, 2, 3, 0] rfl ?_
        exact ih _ _ h
def wX4_priceByRule_L81 (Q : zSt → Prop) (K138 : zSt → Prop) (x1 : Int32) : Nat → Int32 → zSt → Prop
  | 0, _, _ => False
  | n + 1, x2, σ => if 3 ≤ x2 then (K138  σ) else (wX4_priceByRule_L88 Q (fun  σ117 => ∀ x118 : Int32, x118 = x2 + 1 → (wX4_priceByRule_L81 Q K138 x1 n x118 σ117)) x1 x2 300 0 σ)
set_option maxRecDepth 20000 in
set_option maxHeartbeats 4000000 in
theorem sX4_priceByRule_L81 {Q : zSt → Prop} {K138 : zSt → Prop} (x1 : Int32)  (M : zM p s m args meth c cX4_priceByRule 4 RX4 none tabX D cA ad y) (hK138 : ∀ (σ : zSt), K138  σ → zG p l e (zrm 5) s m args below meth c 4 tabX D cA ad (MQ below (va_Qv Q (fun σ' t => va_P D vwCl (zws tabX cA ad σ') t.heap) (zIn tabX ad)) args s 0 0 (zIn tabX ad)) 138 [(0, .ref (ad 28)), (1, .int x1)] [] σ) : ∀ (n : Nat) (x2 : Int32) (σ : zSt), wX4_priceByRule_L81 Q K138 x1 n x2 σ → zG p l e (zrm 5) s m args below meth c 4 tabX D cA ad (MQ below (va_Qv Q (fun σ' t => va_P D vwCl (zws tabX cA ad σ') t.heap) (zIn tabX ad)) args s 0 0 (zIn tabX ad)) 81 [(0, .ref (ad 28)), (1, .int x1), (2, .int x2)] [] σ := by
  intro n
  induction n with
  | zero => intro x2 σ h; exact absurd h (by simp [wX4_priceByRule_L81])
  | succ n ih =>
    intro x2 σ h
    unfold wX4_priceByRule_L81 at h
    refine zz_iload_n M 2 dX4_priceByRule_81 rfl rfl ?_
    refine zz_iconst (v := 3) M dX4_priceByRule_82 (by decide) ?_
    refine zz_icmp_ge M 138 dX4_priceByRule_83 (by decide) (fun c => ?_) (fun c => ?_)
    · have h := zif (c := 3 ≤ x2) h c
      refine zz_sub [(0, .ref (ad 28)), (1, .int x1)] [0, 1] rfl ?_
      exact hK138  _ h
    · have h := zifn (c := 3 ≤ x2) h c
      refine zz_iconst (v := 0) M dX4_priceByRule_86 (by decide) ?_
      refine zz_istore_n M [(3, .int 0), (0, .ref (ad 28)), (1, .int x1), (2, .int x2)] dX4_priceByRule_87 rfl (by decide) rfl ?_
      refine zz_sub [(0, .ref (ad 28)), (1, .int x1), (2, .int x2), (3, .int 0)] [1, 2, 3, 0] rfl ?_
      refine sX4_priceByRule_L88 x1 x2  M (fun  σ117 h => ?_) 300 _ _ h
      obtain ⟨x118, ex118⟩ : ∃ z : Int32, z = x2 + 1 := ⟨_, rfl⟩
      have h := h x118 ex118
      refine zz_iinc M [(2, .int x118), (0, .ref (ad 28)), (1, .int x1)] 2 dX4_priceByRule_132 rfl (n32 := 1) (by decide) ex118 (by decide) rfl ?_
      refine zz_goto M 81 dX4_priceByRule_135 (by decide) ?_
      refine zz_sub [(0, .ref (ad 28)), (1, .int x1), (2, .int x118)] [1, 2, 0] rfl ?_
      exact ih _ _ h
def wX4_priceByRule_L73 (Q : zSt → Prop) (K144 : zSt → Prop)  : Nat → Int32 → zSt → Prop
  | 0, _, _ => False
  | n + 1, x1, σ => if 24 ≤ x1 then (K144  σ) else (wX4_priceByRule_L81 Q (fun  σ119 => ∀ x120 : Int32, x120 = x1 + 1 → (wX4_priceByRule_L73 Q K144  n x120 σ119)) x1 300 0 σ)
set_option maxRecDepth 20000 in
set_option maxHeartbeats 4000000 in
theorem sX4_priceByRule_L73 {Q : zSt → Prop} {K144 : zSt → Prop}   (M : zM p s m args meth c cX4_priceByRule 4 RX4 none tabX D cA ad y) (hK144 : ∀ (σ : zSt), K144  σ → zG p l e (zrm 5) s m args below meth c 4 tabX D cA ad (MQ below (va_Qv Q (fun σ' t => va_P D vwCl (zws tabX cA ad σ') t.heap) (zIn tabX ad)) args s 0 0 (zIn tabX ad)) 144 [] [] σ) : ∀ (n : Nat) (x1 : Int32) (σ : zSt), wX4_priceByRule_L73 Q K144  n x1 σ → zG p l e (zrm 5) s m args below meth c 4 tabX D cA ad (MQ below (va_Qv Q (fun σ' t => va_P D vwCl (zws tabX cA ad σ') t.heap) (zIn tabX ad)) args s 0 0 (zIn tabX ad)) 73 [(0, .ref (ad 28)), (1, .int x1)] [] σ := by
  intro n
  induction n with
  | zero => intro x1 σ h; exact absurd h (by simp [wX4_priceByRule_L73])
  | succ n ih =>
    intro x1 σ h
    unfold wX4_priceByRule_L73 at h
    refine zz_iload_n M 1 dX4_priceByRule_73 rfl rfl ?_
    refine zz_bipush (v := 24) M dX4_priceByRule_74 (by decide) ?_
    refine zz_icmp_ge M 144 dX4_priceByRule_76 (by decide) (fun c => ?_) (fun c => ?_)
    · have h := zif (c := 24 ≤ x1) h c
      refine zz_sub [] [] rfl ?_
      exact hK144  _ h
    · have h := zifn (c := 24 ≤ x1) h c
      refine zz_iconst (v := 0) M dX4_priceByRule_79 (by decide) ?_
      refine zz_istore_n M [(2, .int 0), (0, .ref (ad 28)), (1, .int x1)] dX4_priceByRule_80 rfl (by decide) rfl ?_
      refine zz_sub [(0, .ref (ad 28)), (1, .int x1), (2, .int 0)] [1, 2, 0] rfl ?_
      refine sX4_priceByRule_L81 x1  M (fun  σ119 h => ?_) 300 _ _ h
      obtain ⟨x120, ex120⟩ : ∃ z : Int32, z = x1 + 1 := ⟨_, rfl⟩
      have h := h x120 ex120
      refine zz_iinc M [(1, .int x120), (0, .ref (ad 28))] 1 dX4_priceByRule_138 rfl (n32 := 1) (by decide) ex120 (by decide) rfl ?_
      refine zz_goto M 73 dX4_priceByRule_141 (by decide) ?_
      refine zz_sub [(0, .ref (ad 28)), (1, .int x120)] [1, 0] rfl ?_
      exact ih _ _ h
def wX4_priceByRule  (σ : zSt) (Q : zSt → Prop) : Prop := wX4_priceByRule_L2 Q (fun  σ110 => wX4_priceByRule_L73 Q (fun  σ121 => Q σ121)  300 1 σ110)  300 0 σ
set_option maxRecDepth 20000 in
set_option maxHeartbeats 4000000 in
theorem kX4_priceByRule (hI : zInj tabX ad)   (σ : zSt) (Q : zSt → Prop) (h : wX4_priceByRule  σ Q) : zOkV l tabX D cA ad y 5 yX4_priceByRule cX4_priceByRule 4 none [.ref (ad 28)] σ Q := by
  refine zz_enter hI (by decide) (Nat.le_of_ble_eq_true rfl) (fun p e s m below meth c M => ?_)
  have M : zM p s m _ meth c cX4_priceByRule 4 RX4 none tabX D cA ad y := M
  refine zz_ls [(0, .ref (ad 28))] rfl ?_
  unfold wX4_priceByRule at h
  refine zz_iconst (v := 0) M dX4_priceByRule_0 (by decide) ?_
  refine zz_istore_n M [(1, .int 0), (0, .ref (ad 28))] dX4_priceByRule_1 rfl (by decide) rfl ?_
  refine zz_sub [(0, .ref (ad 28)), (1, .int 0)] [1, 0] rfl ?_
  refine sX4_priceByRule_L2   M (fun  σ110 h => ?_) 300 _ _ h
  refine zz_iconst (v := 1) M dX4_priceByRule_71 (by decide) ?_
  refine zz_istore_n M [(1, .int 1), (0, .ref (ad 28))] dX4_priceByRule_72 rfl (by decide) rfl ?_
  refine zz_sub [(0, .ref (ad 28)), (1, .int 1)] [1, 0] rfl ?_
  refine sX4_priceByRule_L73   M (fun  σ121 h => ?_) 300 _ _ h
  exact zz_vret M dX4_priceByRule_144 h
def wX4_ships_L6 (Q : Int32 → zSt → Prop) (K91 : Int32 → zSt → Prop) (x1 : Int32) (x2 : Int32) (x3 : Int32) (x4 : Int32) : Nat → Int32 → Int32 → zSt → Prop
  | 0, _, _, _ => False
  | n + 1, x5, x6, σ => if 4 ≤ x6 then (K91 x5 σ) else (wX1_isThere x6 σ (fun r101 σ102 => if r101 = 0 then (∀ x103 : Int32, x103 = x6 + 1 → (wX4_ships_L6 Q K91 x1 x2 x3 x4 n x5 x103 σ102)) else (vp_in x6 8 ∧ (if (σ102.1 5 x6.toNatClampNeg) < x1 then (∀ x104 : Int32, x104 = x6 + 1 → (wX4_ships_L6 Q K91 x1 x2 x3 x4 n x5 x104 σ102)) else (vp_in x6 8 ∧ (if x2 ≤ (σ102.1 5 x6.toNatClampNeg) then (∀ x105 : Int32, x105 = x6 + 1 → (wX4_ships_L6 Q K91 x1 x2 x3 x4 n x5 x105 σ102)) else (vp_in x6 8 ∧ (if (σ102.1 4 x6.toNatClampNeg) = x3 then (if (1 : Int32) = x4 then (∀ x110 : Int32, x110 = (x5 ||| (1 <<< (x6 &&& 31))) → (∀ x111 : Int32, x111 = x6 + 1 → (wX4_ships_L6 Q K91 x1 x2 x3 x4 n x110 x111 σ102))) else (∀ x109 : Int32, x109 = x6 + 1 → (wX4_ships_L6 Q K91 x1 x2 x3 x4 n x5 x109 σ102))) else (if (0 : Int32) = x4 then (∀ x107 : Int32, x107 = (x5 ||| (1 <<< (x6 &&& 31))) → (∀ x108 : Int32, x108 = x6 + 1 → (wX4_ships_L6 Q K91 x1 x2 x3 x4 n x107 x108 σ102))) else (∀ x106 : Int32, x106 = x6 + 1 → (wX4_ships_L6 Q K91 x1 x2 x3 x4 n x5 x106 σ102)))))))))))
set_option maxRecDepth 20000 in
set_option maxHeartbeats 4000000 in
theorem sX4_ships_L6 {Q : Int32 → zSt → Prop} {K91 : Int32 → zSt → Prop} (x1 : Int32) (x2 : Int32) (x3 : Int32) (x4 : Int32)  (M : zM p s m args meth c cX4_ships 7 RX4 (some .int) tabX D cA ad y) (hK91 : ∀ (v5 : Int32) (σ : zSt), K91 v5 σ → zG p l e (zrm 2) s m args below meth c 7 tabX D cA ad (MQ below (va_Qi Q (fun σ' t => va_P D vwCl (zws tabX cA ad σ') t.heap) (zIn tabX ad)) args s 0 0 (zIn tabX ad)) 91 [(5, .int v5)] [] σ) : ∀ (n : Nat) (x5 : Int32) (x6 : Int32) (σ : zSt), wX4_ships_L6 Q K91 x1 x2 x3 x4 n x5 x6 σ → zG p l e (zrm 2) s m args below meth c 7 tabX D cA ad (MQ below (va_Qi Q (fun σ' t => va_P D vwCl (zws tabX cA ad σ') t.heap) (zIn tabX ad)) args s 0 0 (zIn tabX ad)) 6 [(0, .ref (ad 28)), (1, .int x1), (2, .int x2), (3, .int x3), (4, .int x4), (5, .int x5), (6, .int x6)] [] σ := by
  intro n
  induction n with
  | zero => intro x5 x6 σ h; exact absurd h (by simp [wX4_ships_L6])
  | succ n ih =>
    intro x5 x6 σ h
    unfold wX4_ships_L6 at h
    refine zz_iload M 6 dX4_ships_6 rfl ?_
    refine zz_iconst (v := 4) M dX4_ships_8 (by decide) ?_
    refine zz_icmp_ge M 91 dX4_ships_9 (by decide) (fun c => ?_) (fun c => ?_)
    · have h := zif (c := 4 ≤ x6) h c
      refine zz_sub [(5, .int x5)] [5] rfl ?_
      exact hK91 _ _ h
    · have h := zifn (c := 4 ≤ x6) h c
      refine zz_aload_n M 0 dX4_ships_12 rfl rfl ?_
      refine zz_getR M f_X4_46 tX_28 rfl dX4_ships_13 ?_
      refine zz_iload M 6 dX4_ships_16 rfl ?_
      refine zz_callVI (d' := 1) (As := [.int x6]) (rest := []) M l_X4_79 tX_1 rfl rfl dX4_ships_18 rfl rfl (by decide) (Nat.le_of_ble_eq_true rfl) (by have hI := M.2.2.2.2.2.2.2.2; exact kX1_isThere hI _  _ _ h) (fun r101 σ102 h => ?_)
      refine zz_if_eq (y0 := 0) M 85 dX4_ships_21 (by decide) (fun c => ?_) (fun c => ?_)
      · have h := zif (c := r101 = 0) h c
        obtain ⟨x103, ex103⟩ : ∃ z : Int32, z = x6 + 1 := ⟨_, rfl⟩
        have h := h x103 ex103
        refine zz_iinc M [(6, .int x103), (0, .ref (ad 28)), (1, .int x1), (2, .int x2), (3, .int x3), (4, .int x4), (5, .int x5)] 6 dX4_ships_85 rfl (n32 := 1) (by decide) ex103 (by decide) rfl ?_
        refine zz_goto M 6 dX4_ships_88 (by decide) ?_
        refine zz_sub [(0, .ref (ad 28)), (1, .int x1), (2, .int x2), (3, .int x3), (4, .int x4), (5, .int x5), (6, .int x103)] [1, 2, 3, 4, 5, 6, 0] rfl ?_
        exact ih _ _ _ h
      · have h := zifn (c := r101 = 0) h c
        refine zz_aload_n M 0 dX4_ships_24 rfl rfl ?_
        refine zz_getR M f_X4_46 tX_28 rfl dX4_ships_25 ?_
        refine zz_getR M f_X4_68 tX_1 rfl dX4_ships_28 ?_
        refine zz_iload M 6 dX4_ships_31 rfl ?_
        refine zz_iald M tX_5 h.1 dX4_ships_33 ?_
        have h := h.2
        refine zz_iload_n M 1 dX4_ships_34 rfl rfl ?_
        refine zz_icmp_lt M 85 dX4_ships_35 (by decide) (fun c => ?_) (fun c => ?_)
        · have h := zif (c := (σ102.1 5 x6.toNatClampNeg) < x1) h c
          obtain ⟨x104, ex104⟩ : ∃ z : Int32, z = x6 + 1 := ⟨_, rfl⟩
          have h := h x104 ex104
          refine zz_iinc M [(6, .int x104), (0, .ref (ad 28)), (1, .int x1), (2, .int x2), (3, .int x3), (4, .int x4), (5, .int x5)] 6 dX4_ships_85 rfl (n32 := 1) (by decide) ex104 (by decide) rfl ?_
          refine zz_goto M 6 dX4_ships_88 (by decide) ?_
          refine zz_sub [(0, .ref (ad 28)), (1, .int x1), (2, .int x2), (3, .int x3), (4, .int x4), (5, .int x5), (6, .int x104)] [1, 2, 3, 4, 5, 6, 0] rfl ?_
          exact ih _ _ _ h
        · have h := zifn (c := (σ102.1 5 x6.toNatClampNeg) < x1) h c
          refine zz_aload_n M 0 dX4_ships_38 rfl rfl ?_
          refine zz_getR M f_X4_46 tX_28 rfl dX4_ships_39 ?_
          refine zz_getR M f_X4_68 tX_1 rfl dX4_ships_42 ?_
          refine zz_iload M 6 dX4_ships_45 rfl ?_
          refine zz_iald M tX_5 h.1 dX4_ships_47 ?_
          have h := h.2
          refine zz_iload_n M 2 dX4_ships_48 rfl rfl ?_
          refine zz_icmp_ge M 85 dX4_ships_49 (by decide) (fun c => ?_) (fun c => ?_)
          · have h := zif (c := x2 ≤ (σ102.1 5 x6.toNatClampNeg)) h c
            obtain ⟨x105, ex105⟩ : ∃ z : Int32, z = x6 + 1 := ⟨_, rfl⟩
            have h := h x105 ex105
            refine zz_iinc M [(6, .int x105), (0, .ref (ad 28)), (1, .int x1), (2, .int x2), (3, .int x3), (4, .int x4), (5, .int x5)] 6 dX4_ships_85 rfl (n32 := 1) (by decide) ex105 (by decide) rfl ?_
            refine zz_goto M 6 dX4_ships_88 (by decide) ?_
            refine zz_sub [(0, .ref (ad 28)), (1, .int x1), (2, .int x2), (3, .int x3), (4, .int x4), (5, .int x5), (6, .int x105)] [1, 2, 3, 4, 5, 6, 0] rfl ?_
            exact ih _ _ _ h
          · have h := zifn (c := x2 ≤ (σ102.1 5 x6.toNatClampNeg)) h c
            refine zz_aload_n M 0 dX4_ships_52 rfl rfl ?_
            refine zz_getR M f_X4_46 tX_28 rfl dX4_ships_53 ?_
            refine zz_getR M f_X4_144 tX_1 rfl dX4_ships_56 ?_
            refine zz_iload M 6 dX4_ships_59 rfl ?_
            refine zz_iald M tX_4 h.1 dX4_ships_61 ?_
            have h := h.2
            refine zz_iload_n M 3 dX4_ships_62 rfl rfl ?_
            refine zz_icmp_ne M 70 dX4_ships_63 (by decide) (fun c => ?_) (fun c => ?_)
            · have h := zifn (c := (σ102.1 4 x6.toNatClampNeg) = x3) h c
              refine zz_iconst (v := 0) M dX4_ships_70 (by decide) ?_
              refine zz_iload M 4 dX4_ships_71 rfl ?_
              refine zz_icmp_ne M 85 dX4_ships_73 (by decide) (fun c => ?_) (fun c => ?_)
              · have h := zifn (c := (0 : Int32) = x4) h c
                obtain ⟨x106, ex106⟩ : ∃ z : Int32, z = x6 + 1 := ⟨_, rfl⟩
                have h := h x106 ex106
                refine zz_iinc M [(6, .int x106), (0, .ref (ad 28)), (1, .int x1), (2, .int x2), (3, .int x3), (4, .int x4), (5, .int x5)] 6 dX4_ships_85 rfl (n32 := 1) (by decide) ex106 (by decide) rfl ?_
                refine zz_goto M 6 dX4_ships_88 (by decide) ?_
                refine zz_sub [(0, .ref (ad 28)), (1, .int x1), (2, .int x2), (3, .int x3), (4, .int x4), (5, .int x5), (6, .int x106)] [1, 2, 3, 4, 5, 6, 0] rfl ?_
                exact ih _ _ _ h
              · have h := zif (c := (0 : Int32) = x4) h c
                refine zz_iload M 5 dX4_ships_76 rfl ?_
                refine zz_iconst (v := 1) M dX4_ships_78 (by decide) ?_
                refine zz_iload M 6 dX4_ships_79 rfl ?_
                refine zz_ishl M dX4_ships_81 ?_
                refine zz_ior M dX4_ships_82 ?_
                refine zz_topi (fun x107 ex107 => ?_)
                have h := h x107 ex107
                refine zz_istore M [(5, .int x107), (0, .ref (ad 28)), (1, .int x1), (2, .int x2), (3, .int x3), (4, .int x4), (6, .int x6)] dX4_ships_83 (by decide) rfl ?_
                obtain ⟨x108, ex108⟩ : ∃ z : Int32, z = x6 + 1 := ⟨_, rfl⟩
                have h := h x108 ex108
                refine zz_iinc M [(6, .int x108), (5, .int x107), (0, .ref (ad 28)), (1, .int x1), (2, .int x2), (3, .int x3), (4, .int x4)] 6 dX4_ships_85 rfl (n32 := 1) (by decide) ex108 (by decide) rfl ?_
                refine zz_goto M 6 dX4_ships_88 (by decide) ?_
                refine zz_sub [(0, .ref (ad 28)), (1, .int x1), (2, .int x2), (3, .int x3), (4, .int x4), (5, .int x107), (6, .int x108)] [2, 3, 4, 5, 6, 1, 0] rfl ?_
                exact ih _ _ _ h
            · have h := zif (c := (σ102.1 4 x6.toNatClampNeg) = x3) h c
              refine zz_iconst (v := 1) M dX4_ships_66 (by decide) ?_
              refine zz_goto M 71 dX4_ships_67 (by decide) ?_
              refine zz_iload M 4 dX4_ships_71 rfl ?_
              refine zz_icmp_ne M 85 dX4_ships_73 (by decide) (fun c => ?_) (fun c => ?_)
              · have h := zifn (c := (1 : Int32) = x4) h c
                obtain ⟨x109, ex109⟩ : ∃ z : Int32, z = x6 + 1 := ⟨_, rfl⟩
                have h := h x109 ex109
                refine zz_iinc M [(6, .int x109), (0, .ref (ad 28)), (1, .int x1), (2, .int x2), (3, .int x3), (4, .int x4), (5, .int x5)] 6 dX4_ships_85 rfl (n32 := 1) (by decide) ex109 (by decide) rfl ?_
                refine zz_goto M 6 dX4_ships_88 (by decide) ?_
                refine zz_sub [(0, .ref (ad 28)), (1, .int x1), (2, .int x2), (3, .int x3), (4, .int x4), (5, .int x5), (6, .int x109)] [1, 2, 3, 4, 5, 6, 0] rfl ?_
                exact ih _ _ _ h
              · have h := zif (c := (1 : Int32) = x4) h c
                refine zz_iload M 5 dX4_ships_76 rfl ?_
                refine zz_iconst (v := 1) M dX4_ships_78 (by decide) ?_
                refine zz_iload M 6 dX4_ships_79 rfl ?_
                refine zz_ishl M dX4_ships_81 ?_
                refine zz_ior M dX4_ships_82 ?_
                refine zz_topi (fun x110 ex110 => ?_)
                have h := h x110 ex110
                refine zz_istore M [(5, .int x110), (0, .ref (ad 28)), (1, .int x1), (2, .int x2), (3, .int x3), (4, .int x4), (6, .int x6)] dX4_ships_83 (by decide) rfl ?_
                obtain ⟨x111, ex111⟩ : ∃ z : Int32, z = x6 + 1 := ⟨_, rfl⟩
                have h := h x111 ex111
                refine zz_iinc M [(6, .int x111), (5, .int x110), (0, .ref (ad 28)), (1, .int x1), (2, .int x2), (3, .int x3), (4, .int x4)] 6 dX4_ships_85 rfl (n32 := 1) (by decide) ex111 (by decide) rfl ?_
                refine zz_goto M 6 dX4_ships_88 (by decide) ?_
                refine zz_sub [(0, .ref (ad 28)), (1, .int x1), (2, .int x2), (3, .int x3), (4, .int x4), (5, .int x110), (6, .int x111)] [2, 3, 4, 5, 6, 1, 0] rfl ?_
                exact ih _ _ _ h
def wX4_ships (x1 : Int32) (x2 : Int32) (x3 : Int32) (x4 : Int32) (σ : zSt) (Q : Int32 → zSt → Prop) : Prop := wX4_ships_L6 Q (fun v112 σ113 => Q v112 σ113) x1 x2 x3 x4 300 0 0 σ
set_option maxRecDepth 20000 in
set_option maxHeartbeats 4000000 in
theorem kX4_ships (hI : zInj tabX ad) (x1 : Int32) (x2 : Int32) (x3 : Int32) (x4 : Int32)  (σ : zSt) (Q : Int32 → zSt → Prop) (h : wX4_ships x1 x2 x3 x4 σ Q) : zOkI l tabX D cA ad y 2 yX4_ships cX4_ships 7 (some .int) [.ref (ad 28), .int x1, .int x2, .int x3, .int x4] σ Q := by
  refine zz_enter hI (by decide) (Nat.le_of_ble_eq_true rfl) (fun p e s m below meth c M => ?_)
  have M : zM p s m _ meth c cX4_ships 7 RX4 (some .int) tabX D cA ad y := M
  refine zz_ls [(0, .ref (ad 28)), (1, .int x1), (2, .int x2), (3, .int x3), (4, .int x4)] rfl ?_
  unfold wX4_ships at h
  refine zz_iconst (v := 0) M dX4_ships_0 (by decide) ?_
  refine zz_istore M [(5, .int 0), (0, .ref (ad 28)), (1, .int x1), (2, .int x2), (3, .int x3), (4, .int x4)] dX4_ships_1 (by decide) rfl ?_
  refine zz_iconst (v := 0) M dX4_ships_3 (by decide) ?_
  refine zz_istore M [(6, .int 0), (5, .int 0), (0, .ref (ad 28)), (1, .int x1), (2, .int x2), (3, .int x3), (4, .int x4)] dX4_ships_4 (by decide) rfl ?_
  refine zz_sub [(0, .ref (ad 28)), (1, .int x1), (2, .int x2), (3, .int x3), (4, .int x4), (5, .int 0), (6, .int 0)] [2, 3, 4, 5, 6, 1, 0] rfl ?_
  refine sX4_ships_L6 x1 x2 x3 x4  M (fun v112 σ113 h => ?_) 300 _ _ _ h
  refine zz_iload M 0 dX4_ships_91 rfl ?_
  exact zz_iret M dX4_ships_93 h
def wX4_costOfShips_L5 (Q : Int32 → zSt → Prop) (K41 : Int32 → zSt → Prop) (x1 : Int32) (x2 : Int32) : Nat → Int32 → Int32 → zSt → Prop
  | 0, _, _, _ => False
  | n + 1, x3, x4, σ => if 4 ≤ x4 then (K41 x3 σ) else (if (x1 &&& (1 <<< (x4 &&& 31))) = 0 then (∀ x101 : Int32, x101 = x4 + 1 → (wX4_costOfShips_L5 Q K41 x1 x2 n x3 x101 σ)) else (vp_in ((x4 * 25) + x2) 200 ∧ (∀ x102 : Int32, x102 = (x3 + (σ.1 29 ((x4 * 25) + x2 : Int32).toNatClampNeg)) → (∀ x103 : Int32, x103 = x4 + 1 → (wX4_costOfShips_L5 Q K41 x1 x2 n x102 x103 σ)))))
set_option maxRecDepth 20000 in
set_option maxHeartbeats 4000000 in
theorem sX4_costOfShips_L5 {Q : Int32 → zSt → Prop} {K41 : Int32 → zSt → Prop} (x1 : Int32) (x2 : Int32)  (M : zM p s m args meth c cX4_costOfShips 5 RX4 (some .int) tabX D cA ad y) (hK41 : ∀ (v3 : Int32) (σ : zSt), K41 v3 σ → zG p l e (zrm 1) s m args below meth c 5 tabX D cA ad (MQ below (va_Qi Q (fun σ' t => va_P D vwCl (zws tabX cA ad σ') t.heap) (zIn tabX ad)) args s 0 0 (zIn tabX ad)) 41 [(3, .int v3)] [] σ) : ∀ (n : Nat) (x3 : Int32) (x4 : Int32) (σ : zSt), wX4_costOfShips_L5 Q K41 x1 x2 n x3 x4 σ → zG p l e (zrm 1) s m args below meth c 5 tabX D cA ad (MQ below (va_Qi Q (fun σ' t => va_P D vwCl (zws tabX cA ad σ') t.heap) (zIn tabX ad)) args s 0 0 (zIn tabX ad)) 5 [(0, .ref (ad 28)), (1, .int x1), (2, .int x2), (3, .int x3), (4, .int x4)] [] σ := by
  intro n
  induction n with
  | zero => intro x3 x4 σ h; exact absurd h (by simp [wX4_costOfShips_L5])
  | succ n ih =>
    intro x3 x4 σ h
    unfold wX4_costOfShips_L5 at h
    refine zz_iload M 4 dX4_costOfShips_5 rfl ?_
    refine zz_iconst (v := 4) M dX4_costOfShips_7 (by decide) ?_
    refine zz_icmp_ge M 41 dX4_costOfShips_8 (by decide) (fun c => ?_) (fun c => ?_)
    · have h := zif (c := 4 ≤ x4) h c
      refine zz_sub [(3, .int x3)] [3] rfl ?_
      exact hK41 _ _ h
    · have h := zifn (c := 4 ≤ x4) h c
      refine zz_iload_n M 1 dX4_costOfShips_11 rfl rfl ?_
      refine zz_iconst (v := 1) M dX4_costOfShips_12 (by decide) ?_
      refine zz_iload M 4 dX4_costOfShips_13 rfl ?_
      refine zz_ishl M dX4_costOfShips_15 ?_
      refine zz_iand M dX4_costOfShips_16 ?_
      refine zz_if_eq (y0 := 0) M 35 dX4_costOfShips_17 (by decide) (fun c => ?_) (fun c => ?_)
      · have h := zif (c := (x1 &&& (1 <<< (x4 &&& 31))) = 0) h c
        obtain ⟨x101, ex101⟩ : ∃ z : Int32, z = x4 + 1 := ⟨_, rfl⟩
        have h := h x101 ex101
        refine zz_iinc M [(4, .int x101), (0, .ref (ad 28)), (1, .int x1), (2, .int x2), (3, .int x3)] 4 dX4_costOfShips_35 rfl (n32 := 1) (by decide) ex101 (by decide) rfl ?_
        refine zz_goto M 5 dX4_costOfShips_38 (by decide) ?_
        refine zz_sub [(0, .ref (ad 28)), (1, .int x1), (2, .int x2), (3, .int x3), (4, .int x101)] [1, 2, 3, 4, 0] rfl ?_
        exact ih _ _ _ h
      · have h := zifn (c := (x1 &&& (1 <<< (x4 &&& 31))) = 0) h c
        refine zz_iload_n M 3 dX4_costOfShips_20 rfl rfl ?_
        refine zz_aload_n M 0 dX4_costOfShips_21 rfl rfl ?_
        refine zz_getR M f_X4_11 tX_28 rfl dX4_costOfShips_22 ?_
        refine zz_iload M 4 dX4_costOfShips_25 rfl ?_
        refine zz_bipush (v := 25) M dX4_costOfShips_27 (by decide) ?_
        refine zz_imul M dX4_costOfShips_29 ?_
        refine zz_iload_n M 2 dX4_costOfShips_30 rfl rfl ?_
        refine zz_iadd M dX4_costOfShips_31 ?_
        refine zz_iald M tX_29 h.1 dX4_costOfShips_32 ?_
        have h := h.2
        refine zz_iadd M dX4_costOfShips_33 ?_
        refine zz_topi (fun x102 ex102 => ?_)
        have h := h x102 ex102
        refine zz_istore_n M [(3, .int x102), (0, .ref (ad 28)), (1, .int x1), (2, .int x2), (4, .int x4)] dX4_costOfShips_34 rfl (by decide) rfl ?_
        obtain ⟨x103, ex103⟩ : ∃ z : Int32, z = x4 + 1 := ⟨_, rfl⟩
        have h := h x103 ex103
        refine zz_iinc M [(4, .int x103), (3, .int x102), (0, .ref (ad 28)), (1, .int x1), (2, .int x2)] 4 dX4_costOfShips_35 rfl (n32 := 1) (by decide) ex103 (by decide) rfl ?_
        refine zz_goto M 5 dX4_costOfShips_38 (by decide) ?_
        refine zz_sub [(0, .ref (ad 28)), (1, .int x1), (2, .int x2), (3, .int x102), (4, .int x103)] [2, 3, 4, 1, 0] rfl ?_
        exact ih _ _ _ h
def wX4_costOfShips (x1 : Int32) (x2 : Int32) (σ : zSt) (Q : Int32 → zSt → Prop) : Prop := wX4_costOfShips_L5 Q (fun v104 σ105 => Q v104 σ105) x1 x2 300 0 0 σ
set_option maxRecDepth 20000 in
set_option maxHeartbeats 4000000 in
theorem kX4_costOfShips (hI : zInj tabX ad) (x1 : Int32) (x2 : Int32)  (σ : zSt) (Q : Int32 → zSt → Prop) (h : wX4_costOfShips x1 x2 σ Q) : zOkI l tabX D cA ad y 1 yX4_costOfShips cX4_costOfShips 5 (some .int) [.ref (ad 28), .int x1, .int x2] σ Q := by
  refine zz_enter hI (by decide) (Nat.le_of_ble_eq_true rfl) (fun p e s m below meth c M => ?_)
  have M : zM p s m _ meth c cX4_costOfShips 5 RX4 (some .int) tabX D cA ad y := M
  refine zz_ls [(0, .ref (ad 28)), (1, .int x1), (2, .int x2)] rfl ?_
  unfold wX4_costOfShips at h
  refine zz_iconst (v := 0) M dX4_costOfShips_0 (by decide) ?_
  refine zz_istore_n M [(3, .int 0), (0, .ref (ad 28)), (1, .int x1), (2, .int x2)] dX4_costOfShips_1 rfl (by decide) rfl ?_
  refine zz_iconst (v := 0) M dX4_costOfShips_2 (by decide) ?_
  refine zz_istore M [(4, .int 0), (3, .int 0), (0, .ref (ad 28)), (1, .int x1), (2, .int x2)] dX4_costOfShips_3 (by decide) rfl ?_
  refine zz_sub [(0, .ref (ad 28)), (1, .int x1), (2, .int x2), (3, .int 0), (4, .int 0)] [2, 3, 4, 1, 0] rfl ?_
  refine sX4_costOfShips_L5 x1 x2  M (fun v104 σ105 h => ?_) 300 _ _ _ h
  refine zz_iload_n M 0 dX4_costOfShips_41 rfl rfl ?_
  exact zz_iret M dX4_costOfShips_42 h
def wX4_place (x0 : Int32) (x1 : Int32) (x2 : Int32) (σ : zSt) (Q : Int32 → zSt → Prop) : Prop := if x0 < 0 then (Q 0 σ) else (if 24 < x0 then (Q 0 σ) else (wX7_isBridge x1 σ (fun r101 σ102 => if r101 = 0 then (Q 0 σ102) else (Q ((((x0 * 3) + x1) * 16) + (x2 &&& 15)) σ102))))
set_option maxRecDepth 20000 in
set_option maxHeartbeats 4000000 in
theorem kX4_place (hI : zInj tabX ad) (x0 : Int32) (x1 : Int32) (x2 : Int32)  (σ : zSt) (Q : Int32 → zSt → Prop) (h : wX4_place x0 x1 x2 σ Q) : zOkI l tabX D cA ad y 2 yX4_place cX4_place 3 (some .int) [.int x0, .int x1, .int x2] σ Q := by
  refine zz_enter hI (by decide) (Nat.le_of_ble_eq_true rfl) (fun p e s m below meth c M => ?_)
  have M : zM p s m _ meth c cX4_place 3 RX4 (some .int) tabX D cA ad y := M
  refine zz_ls [(0, .int x0), (1, .int x1), (2, .int x2)] rfl ?_
  unfold wX4_place at h
  refine zz_iload_n M 0 dX4_place_0 rfl rfl ?_
  refine zz_if_lt (y0 := 0) M 17 dX4_place_1 (by decide) (fun c => ?_) (fun c => ?_)
  · have h := zif (c := x0 < 0) h c
    refine zz_iconst (v := 0) M dX4_place_17 (by decide) ?_
    exact zz_iret M dX4_place_18 h
  · have h := zifn (c := x0 < 0) h c
    refine zz_iload_n M 0 dX4_place_4 rfl rfl ?_
    refine zz_bipush (v := 24) M dX4_place_5 (by decide) ?_
    refine zz_icmp_gt M 17 dX4_place_7 (by decide) (fun c => ?_) (fun c => ?_)
    · have h := zif (c := 24 < x0) h c
      refine zz_iconst (v := 0) M dX4_place_17 (by decide) ?_
      exact zz_iret M dX4_place_18 h
    · have h := zifn (c := 24 < x0) h c
      refine zz_iload_n M 1 dX4_place_10 rfl rfl ?_
      refine zz_callNI (d' := 1) (As := [.int x1]) (rest := []) M l_X4_131 dX4_place_11 rfl rfl (by decide) (Nat.le_of_ble_eq_true rfl) (by have hI := M.2.2.2.2.2.2.2.2; exact kX7_isBridge hI _  _ _ h) (fun r101 σ102 h => ?_)
      refine zz_if_ne (y0 := 0) M 19 dX4_place_14 (by decide) (fun c => ?_) (fun c => ?_)
      · have h := zifn (c := r101 = 0) h c
        refine zz_iload_n M 0 dX4_place_19 rfl rfl ?_
        refine zz_iconst (v := 3) M dX4_place_20 (by decide) ?_
        refine zz_imul M dX4_place_21 ?_
        refine zz_iload_n M 1 dX4_place_22 rfl rfl ?_
        refine zz_iadd M dX4_place_23 ?_
        refine zz_bipush (v := 16) M dX4_place_24 (by decide) ?_
        refine zz_imul M dX4_place_26 ?_
        refine zz_iload_n M 2 dX4_place_27 rfl rfl ?_
        refine zz_bipush (v := 15) M dX4_place_28 (by decide) ?_
        refine zz_iand M dX4_place_30 ?_
        refine zz_iadd M dX4_place_31 ?_
        exact zz_iret M dX4_place_32 h
      · have h := zif (c := r101 = 0) h c
        refine zz_iconst (v := 0) M dX4_place_17 (by decide) ?_
        exact zz_iret M dX4_place_18 h
def wX4_closeDay_L18 (Q : zSt → Prop) (K42 : zSt → Prop) (x1 : Int32) (x2 : Int32) : Nat → Int32 → zSt → Prop
  | 0, _, _ => False
  | n + 1, x3, σ => if 3 ≤ x3 then (K42  σ) else (wX4_place 24 x3 x1 σ (fun r103 σ104 => vp_in r103 1200 ∧ (∀ σ105 : zSt, σ105 = zput σ104 31 r103.toNatClampNeg x2 → (∀ x106 : Int32, x106 = x3 + 1 → (wX4_closeDay_L18 Q K42 x1 x2 n x106 σ105)))))
set_option maxRecDepth 20000 in
set_option maxHeartbeats 4000000 in
theorem sX4_closeDay_L18 {Q : zSt → Prop} {K42 : zSt → Prop} (x1 : Int32) (x2 : Int32)  (M : zM p s m args meth c cX4_closeDay 4 RX4 none tabX D cA ad y) (hK42 : ∀ (σ : zSt), K42  σ → zG p l e (zrm 3) s m args below meth c 4 tabX D cA ad (MQ below (va_Qv Q (fun σ' t => va_P D vwCl (zws tabX cA ad σ') t.heap) (zIn tabX ad)) args s 0 0 (zIn tabX ad)) 42 [(0, .ref (ad 28)), (1, .int x1)] [] σ) : ∀ (n : Nat) (x3 : Int32) (σ : zSt), wX4_closeDay_L18 Q K42 x1 x2 n x3 σ → zG p l e (zrm 3) s m args below meth c 4 tabX D cA ad (MQ below (va_Qv Q (fun σ' t => va_P D vwCl (zws tabX cA ad σ') t.heap) (zIn tabX ad)) args s 0 0 (zIn tabX ad)) 18 [(0, .ref (ad 28)), (1, .int x1), (2, .int x2), (3, .int x3)] [] σ := by
  intro n
  induction n with
  | zero => intro x3 σ h; exact absurd h (by simp [wX4_closeDay_L18])
  | succ n ih =>
    intro x3 σ h
    unfold wX4_closeDay_L18 at h
    refine zz_iload_n M 3 dX4_closeDay_18 rfl rfl ?_
    refine zz_iconst (v := 3) M dX4_closeDay_19 (by decide) ?_
    refine zz_icmp_ge M 42 dX4_closeDay_20 (by decide) (fun c => ?_) (fun c => ?_)
    · have h := zif (c := 3 ≤ x3) h c
      refine zz_sub [(0, .ref (ad 28)), (1, .int x1)] [0, 1] rfl ?_
      exact hK42  _ h
    · have h := zifn (c := 3 ≤ x3) h c
      refine zz_aload_n M 0 dX4_closeDay_23 rfl rfl ?_
      refine zz_getR M f_X4_18 tX_28 rfl dX4_closeDay_24 ?_
      refine zz_bipush (v := 24) M dX4_closeDay_27 (by decide) ?_
      refine zz_iload_n M 3 dX4_closeDay_29 rfl rfl ?_
      refine zz_iload_n M 1 dX4_closeDay_30 rfl rfl ?_
      refine zz_callSI (d' := 2) (As := [.int 24, .int x3, .int x1]) (rest := [.ref (ad 31)]) M l_X4_120 dX4_closeDay_31 rfl rfl (by decide) (Nat.le_of_ble_eq_true rfl) (by have hI := M.2.2.2.2.2.2.2.2; exact kX4_place hI _ _ _  _ _ h) (fun r103 σ104 h => ?_)
      refine zz_iload_n M 2 dX4_closeDay_34 rfl rfl ?_
      refine zz_iast M tX_31 h.1 dX4_closeDay_35 ?_
      have h := h.2
      refine zz_sg (fun σ105 eσ105 => ?_)
      have h := h σ105 eσ105
      obtain ⟨x106, ex106⟩ : ∃ z : Int32, z = x3 + 1 := ⟨_, rfl⟩
      have h := h x106 ex106
      refine zz_iinc M [(3, .int x106), (0, .ref (ad 28)), (1, .int x1), (2, .int x2)] 3 dX4_closeDay_36 rfl (n32 := 1) (by decide) ex106 (by decide) rfl ?_
      refine zz_goto M 18 dX4_closeDay_39 (by decide) ?_
      refine zz_sub [(0, .ref (ad 28)), (1, .int x1), (2, .int x2), (3, .int x106)] [1, 2, 3, 0] rfl ?_
      exact ih _ _ h
def wX4_closeDay_L2 (Q : zSt → Prop) (K48 : zSt → Prop)  : Nat → Int32 → zSt → Prop
  | 0, _, _ => False
  | n + 1, x1, σ => if 16 ≤ x1 then (K48  σ) else (wX4_costOfShips x1 24 σ (fun r101 σ102 => wX4_closeDay_L18 Q (fun  σ107 => ∀ x108 : Int32, x108 = x1 + 1 → (wX4_closeDay_L2 Q K48  n x108 σ107)) x1 r101 300 0 σ102))
set_option maxRecDepth 20000 in
set_option maxHeartbeats 4000000 in
theorem sX4_closeDay_L2 {Q : zSt → Prop} {K48 : zSt → Prop}   (M : zM p s m args meth c cX4_closeDay 4 RX4 none tabX D cA ad y) (hK48 : ∀ (σ : zSt), K48  σ → zG p l e (zrm 3) s m args below meth c 4 tabX D cA ad (MQ below (va_Qv Q (fun σ' t => va_P D vwCl (zws tabX cA ad σ') t.heap) (zIn tabX ad)) args s 0 0 (zIn tabX ad)) 48 [] [] σ) : ∀ (n : Nat) (x1 : Int32) (σ : zSt), wX4_closeDay_L2 Q K48  n x1 σ → zG p l e (zrm 3) s m args below meth c 4 tabX D cA ad (MQ below (va_Qv Q (fun σ' t => va_P D vwCl (zws tabX cA ad σ') t.heap) (zIn tabX ad)) args s 0 0 (zIn tabX ad)) 2 [(0, .ref (ad 28)), (1, .int x1)] [] σ := by
  intro n
  induction n with
  | zero => intro x1 σ h; exact absurd h (by simp [wX4_closeDay_L2])
  | succ n ih =>
    intro x1 σ h
    unfold wX4_closeDay_L2 at h
    refine zz_iload_n M 1 dX4_closeDay_2 rfl rfl ?_
    refine zz_bipush (v := 16) M dX4_closeDay_3 (by decide) ?_
    refine zz_icmp_ge M 48 dX4_closeDay_5 (by decide) (fun c => ?_) (fun c => ?_)
    · have h := zif (c := 16 ≤ x1) h c
      refine zz_sub [] [] rfl ?_
      exact hK48  _ h
    · have h := zifn (c := 16 ≤ x1) h c
      refine zz_aload_n M 0 dX4_closeDay_8 rfl rfl ?_
      refine zz_iload_n M 1 dX4_closeDay_9 rfl rfl ?_
      refine zz_bipush (v := 24) M dX4_closeDay_10 (by decide) ?_
      refine zz_callVI (d' := 1) (As := [.int x1, .int 24]) (rest := []) M l_X4_117 tX_28 rfl rfl dX4_closeDay_12 rfl rfl (by decide) (Nat.le_of_ble_eq_true rfl) (by have hI := M.2.2.2.2.2.2.2.2; exact kX4_costOfShips hI _ _  _ _ h) (fun r101 σ102 h => ?_)
      refine zz_istore_n M [(2, .int r101), (0, .ref (ad 28)), (1, .int x1)] dX4_closeDay_15 rfl (by decide) rfl ?_
      refine zz_iconst (v := 0) M dX4_closeDay_16 (by decide) ?_
      refine zz_istore_n M [(3, .int 0), (2, .int r101), (0, .ref (ad 28)), (1, .int x1)] dX4_closeDay_17 rfl (by decide) rfl ?_
      refine zz_sub [(0, .ref (ad 28)), (1, .int x1), (2, .int r101), (3, .int 0)] [2, 3, 1, 0] rfl ?_
      refine sX4_closeDay_L18 x1 r101  M (fun  σ107 h => ?_) 300 _ _ h
      obtain ⟨x108, ex108⟩ : ∃ z : Int32, z = x1 + 1 := ⟨_, rfl⟩
      have h := h x108 ex108
      refine zz_iinc M [(1, .int x108), (0, .ref (ad 28))] 1 dX4_closeDay_42 rfl (n32 := 1) (by decide) ex108 (by decide) rfl ?_
      refine zz_goto M 2 dX4_closeDay_45 (by decide) ?_
      refine zz_sub [(0, .ref (ad 28)), (1, .int x108)] [1, 0] rfl ?_
      exact ih _ _ h
def wX4_closeDay  (σ : zSt) (Q : zSt → Prop) : Prop := wX4_closeDay_L2 Q (fun  σ109 => Q σ109)  300 0 σ
set_option maxRecDepth 20000 in
set_option maxHeartbeats 4000000 in
theorem kX4_closeDay (hI : zInj tabX ad)   (σ : zSt) (Q : zSt → Prop) (h : wX4_closeDay  σ Q) : zOkV l tabX D cA ad y 3 yX4_closeDay cX4_closeDay 4 none [.ref (ad 28)] σ Q := by
  refine zz_enter hI (by decide) (Nat.le_of_ble_eq_true rfl) (fun p e s m below meth c M => ?_)
  have M : zM p s m _ meth c cX4_closeDay 4 RX4 none tabX D cA ad y := M
  refine zz_ls [(0, .ref (ad 28))] rfl ?_
  unfold wX4_closeDay at h
  refine zz_iconst (v := 0) M dX4_closeDay_0 (by decide) ?_
  refine zz_istore_n M [(1, .int 0), (0, .ref (ad 28))] dX4_closeDay_1 rfl (by decide) rfl ?_
  refine zz_sub [(0, .ref (ad 28)), (1, .int 0)] [1, 0] rfl ?_
  refine sX4_closeDay_L2   M (fun  σ109 h => ?_) 300 _ _ h
  exact zz_vret M dX4_closeDay_48 h
end
