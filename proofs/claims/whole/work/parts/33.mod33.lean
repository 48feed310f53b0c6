section
variable {p : Program} {l : Launch} {e : Env} {s : State} {m : MethodId} {args : Array Value} {below : List Frame} {meth : Method} {c : Code} {D : va_G} {cA : Nat → ClassId} {ad : Nat → Nat} {y : zX}
def wX8_rowCost_L4 (Q : Int32 → zSt → Prop) (K41 : Int32 → zSt → Prop)  : Nat → Int32 → Int32 → zSt → Prop
  | 0, _, _, _ => False
  | n + 1, x1, x2, σ => if 8 ≤ x2 then (K41 x1 σ) else (wX8_isOne x2 σ (fun r101 σ102 => if r101 = 0 then (∀ x103 : Int32, x103 = (x1 + 0) → (∀ x104 : Int32, x104 = x2 + 1 → (wX8_rowCost_L4 Q K41  n x103 x104 σ102))) else (wX8_through x2 σ102 (fun r105 σ106 => wX8_costOf x2 r105 σ106 (fun r107 σ108 => ∀ x109 : Int32, x109 = (x1 + r107) → (∀ x110 : Int32, x110 = x2 + 1 → (wX8_rowCost_L4 Q K41  n x109 x110 σ108)))))))
set_option maxRecDepth 20000 in
set_option maxHeartbeats 4000000 in
theorem sX8_rowCost_L4 {Q : Int32 → zSt → Prop} {K41 : Int32 → zSt → Prop}   (M : zM p s m args meth c cX8_rowCost 3 RX8 (some .int) tabM D cA ad y) (hK41 : ∀ (v1 : Int32) (σ : zSt), K41 v1 σ → zG p l e (zrm 44) s m args below meth c 3 tabM D cA ad (MQ below (va_Qi Q (fun σ' t => va_P D vwCl (zws tabM cA ad σ') t.heap) (zIn tabM ad)) args s 0 0 (zIn tabM ad)) 41 [(0, .ref (ad 0)), (1, .int v1)] [] σ) : ∀ (n : Nat) (x1 : Int32) (x2 : Int32) (σ : zSt), wX8_rowCost_L4 Q K41  n x1 x2 σ → zG p l e (zrm 44) s m args below meth c 3 tabM D cA ad (MQ below (va_Qi Q (fun σ' t => va_P D vwCl (zws tabM cA ad σ') t.heap) (zIn tabM ad)) args s 0 0 (zIn tabM ad)) 4 [(0, .ref (ad 0)), (1, .int x1), (2, .int x2)] [] σ := by
  intro n
  induction n with
  | zero => intro x1 x2 σ h; exact absurd h (by simp [wX8_rowCost_L4])
  | succ n ih =>
    intro x1 x2 σ h
    unfold wX8_rowCost_L4 at h
    refine zz_iload_n M 2 dX8_rowCost_4 rfl rfl ?_
    refine zz_bipush (v := 8) M dX8_rowCost_5 (by decide) ?_
    refine zz_icmp_ge M 41 dX8_rowCost_7 (by decide) (fun c => ?_) (fun c => ?_)
    · have h := zif (c := 8 ≤ x2) h c
      refine zz_sub [(0, .ref (ad 0)), (1, .int x1)] [0, 1] rfl ?_
      exact hK41 _ _ h
    · have h := zifn (c := 8 ≤ x2) h c
      refine zz_iload_n M 1 dX8_rowCost_10 rfl rfl ?_
      refine zz_aload_n M 0 dX8_rowCost_11 rfl rfl ?_
      refine zz_iload_n M 2 dX8_rowCost_12 rfl rfl ?_
      refine zz_callVI (d' := 1) (As := [.int x2]) (rest := [.int x1]) M l_X8_342 tM_0 rfl rfl dX8_rowCost_13 rfl rfl (by decide) (Nat.le_of_ble_eq_true rfl) (by have hI := M.2.2.2.2.2.2.2.2; exact kX8_isOne hI _  _ _ h) (fun r101 σ102 h => ?_)
      refine zz_if_eq (y0 := 0) M 32 dX8_rowCost_16 (by decide) (fun c => ?_) (fun c => ?_)
      · have h := zif (c := r101 = 0) h c
        refine zz_iconst (v := 0) M dX8_rowCost_32 (by decide) ?_
        refine zz_iadd M dX8_rowCost_33 ?_
        refine zz_topi (fun x103 ex103 => ?_)
        have h := h x103 ex103
        refine zz_istore_n M [(1, .int x103), (0, .ref (ad 0)), (2, .int x2)] dX8_rowCost_34 rfl (by decide) rfl ?_
        obtain ⟨x104, ex104⟩ : ∃ z : Int32, z = x2 + 1 := ⟨_, rfl⟩
        have h := h x104 ex104
        refine zz_iinc M [(2, .int x104), (1, .int x103), (0, .ref (ad 0))] 2 dX8_rowCost_35 rfl (n32 := 1) (by decide) ex104 (by decide) rfl ?_
        refine zz_goto M 4 dX8_rowCost_38 (by decide) ?_
        refine zz_sub [(0, .ref (ad 0)), (1, .int x103), (2, .int x104)] [2, 1, 0] rfl ?_
        exact ih _ _ _ h
      · have h := zifn (c := r101 = 0) h c
        refine zz_aload_n M 0 dX8_rowCost_19 rfl rfl ?_
        refine zz_iload_n M 2 dX8_rowCost_20 rfl rfl ?_
        refine zz_aload_n M 0 dX8_rowCost_21 rfl rfl ?_
        refine zz_iload_n M 2 dX8_rowCost_22 rfl rfl ?_
        refine zz_callVI (d' := 2) (As := [.int x2]) (rest := [.int x2, .ref (ad 0), .int x1]) M l_X8_345 tM_0 rfl rfl dX8_rowCost_23 rfl rfl (by decide) (Nat.le_of_ble_eq_true rfl) (by have hI := M.2.2.2.2.2.2.2.2; exact kX8_through hI _  _ _ h) (fun r105 σ106 h => ?_)
        refine zz_callVI (d' := 43) (As := [.int x2, .int r105]) (rest := [.int x1]) M l_X8_348 tM_0 rfl rfl dX8_rowCost_26 rfl rfl (by decide) (Nat.le_of_ble_eq_true rfl) (by have hI := M.2.2.2.2.2.2.2.2; exact kX8_costOf hI _ _  _ _ h) (fun r107 σ108 h => ?_)
        refine zz_goto M 33 dX8_rowCost_29 (by decide) ?_
        refine zz_iadd M dX8_rowCost_33 ?_
        refine zz_topi (fun x109 ex109 => ?_)
        have h := h x109 ex109
        refine zz_istore_n M [(1, .int x109), (0, .ref (ad 0)), (2, .int x2)] dX8_rowCost_34 rfl (by decide) rfl ?_
        obtain ⟨x110, ex110⟩ : ∃ z : Int32, z = x2 + 1 := ⟨_, rfl⟩
        have h := h x110 ex110
        refine zz_iinc M [(2, .int x110), (1, .int x109), (0, .ref (ad 0))] 2 dX8_rowCost_35 rfl (n32 := 1) (by decide) ex110 (by decide) rfl ?_
        refine zz_goto M 4 dX8_rowCost_38 (by decide) ?_
        refine zz_sub [(0, .ref (ad 0)), (1, .int x109), (2, .int x110)] [2, 1, 0] rfl ?_
        exact ih _ _ _ h
def wX8_rowCost_L43 (Q : Int32 → zSt → Prop) (K98 : Int32 → zSt → Prop)  : Nat → Int32 → Int32 → zSt → Prop
  | 0, _, _, _ => False
  | n + 1, x1, x2, σ => if 24 ≤ x2 then (K98 x1 σ) else (vp_in x2 24 ∧ (vp_in (x2 - 1) 24 ∧ (if (σ.1 10 x2.toNatClampNeg) = (σ.1 10 (x2 - 1 : Int32).toNatClampNeg) then (∀ x119 : Int32, x119 = (x1 + 0) → (∀ x120 : Int32, x120 = x2 + 1 → (wX8_rowCost_L43 Q K98  n x119 x120 σ))) else (vp_in x2 24 ∧ (vp_in (x2 - 1) 24 ∧ (∀ a113 : Int32, a113 = (σ.1 10 x2.toNatClampNeg) → (∀ a114 : Int32, a114 = (σ.1 10 (x2 - 1 : Int32).toNatClampNeg) → (wX8_changeOf x2 a113 a114 σ (fun r115 σ116 => ∀ x117 : Int32, x117 = (x1 + r115) → (∀ x118 : Int32, x118 = x2 + 1 → (wX8_rowCost_L43 Q K98  n x117 x118 σ116)))))))))))
set_option maxRecDepth 20000 in
set_option maxHeartbeats 4000000 in
theorem sX8_rowCost_L43 {Q : Int32 → zSt → Prop} {K98 : Int32 → zSt → Prop}   (M : zM p s m args meth c cX8_rowCost 3 RX8 (some .int) tabM D cA ad y) (hK98 : ∀ (v1 : Int32) (σ : zSt), K98 v1 σ → zG p l e (zrm 44) s m args below meth c 3 tabM D cA ad (MQ below (va_Qi Q (fun σ' t => va_P D vwCl (zws tabM cA ad σ') t.heap) (zIn tabM ad)) args s 0 0 (zIn tabM ad)) 98 [(1, .int v1)] [] σ) : ∀ (n : Nat) (x1 : Int32) (x2 : Int32) (σ : zSt), wX8_rowCost_L43 Q K98  n x1 x2 σ → zG p l e (zrm 44) s m args below meth c 3 tabM D cA ad (MQ below (va_Qi Q (fun σ' t => va_P D vwCl (zws tabM cA ad σ') t.heap) (zIn tabM ad)) args s 0 0 (zIn tabM ad)) 43 [(0, .ref (ad 0)), (1, .int x1), (2, .int x2)] [] σ := by
  intro n
  induction n with
  | zero => intro x1 x2 σ h; exact absurd h (by simp [wX8_rowCost_L43])
  | succ n ih =>
    intro x1 x2 σ h
    unfold wX8_rowCost_L43 at h
    refine zz_iload_n M 2 dX8_rowCost_43 rfl rfl ?_
    refine zz_bipush (v := 24) M dX8_rowCost_44 (by decide) ?_
    refine zz_icmp_ge M 98 dX8_rowCost_46 (by decide) (fun c => ?_) (fun c => ?_)
    · have h := zif (c := 24 ≤ x2) h c
      refine zz_sub [(1, .int x1)] [1] rfl ?_
      exact hK98 _ _ h
    · have h := zifn (c := 24 ≤ x2) h c
      refine zz_iload_n M 1 dX8_rowCost_49 rfl rfl ?_
      refine zz_aload_n M 0 dX8_rowCost_50 rfl rfl ?_
      refine zz_getR M f_X8_47 tM_0 rfl dX8_rowCost_51 ?_
      refine zz_iload_n M 2 dX8_rowCost_54 rfl rfl ?_
      refine zz_iald M tM_10 h.1 dX8_rowCost_55 ?_
      have h := h.2
      refine zz_aload_n M 0 dX8_rowCost_56 rfl rfl ?_
      refine zz_getR M f_X8_47 tM_0 rfl dX8_rowCost_57 ?_
      refine zz_iload_n M 2 dX8_rowCost_60 rfl rfl ?_
      refine zz_iconst (v := 1) M dX8_rowCost_61 (by decide) ?_
      refine zz_isub M dX8_rowCost_62 ?_
      refine zz_iald M tM_10 h.1 dX8_rowCost_63 ?_
      have h := h.2
      refine zz_icmp_ne M 71 dX8_rowCost_64 (by decide) (fun c => ?_) (fun c => ?_)
      · have h := zifn (c := (σ.1 10 x2.toNatClampNeg) = (σ.1 10 (x2 - 1 : Int32).toNatClampNeg)) h c
        refine zz_aload_n M 0 dX8_rowCost_71 rfl rfl ?_
        refine zz_iload_n M 2 dX8_rowCost_72 rfl rfl ?_
        refine zz_aload_n M 0 dX8_rowCost_73 rfl rfl ?_
        refine zz_getR M f_X8_47 tM_0 rfl dX8_rowCost_74 ?_
        refine zz_iload_n M 2 dX8_rowCost_77 rfl rfl ?_
        refine zz_iald M tM_10 h.1 dX8_rowCost_78 ?_
        have h := h.2
        refine zz_aload_n M 0 dX8_rowCost_79 rfl rfl ?_
        refine zz_getR M f_X8_47 tM_0 rfl dX8_rowCost_80 ?_
        refine zz_iload_n M 2 dX8_rowCost_83 rfl rfl ?_
        refine zz_iconst (v := 1) M dX8_rowCost_84 (by decide) ?_
        refine zz_isub M dX8_rowCost_85 ?_
        refine zz_iald M tM_10 h.1 dX8_rowCost_86 ?_
        have h := h.2
        obtain ⟨a113, ea113⟩ : ∃ z : Int32, z = (σ.1 10 x2.toNatClampNeg) := ⟨_, rfl⟩
        have h := h a113 ea113
        obtain ⟨a114, ea114⟩ : ∃ z : Int32, z = (σ.1 10 (x2 - 1 : Int32).toNatClampNeg) := ⟨_, rfl⟩
        have h := h a114 ea114
        refine zz_st [.int a114, .int a113, .int x2, .ref (ad 0), .int x1] (by rw [ea113, ea114]) ?_
        refine zz_callVI (d' := 43) (As := [.int x2, .int a113, .int a114]) (rest := [.int x1]) M l_X8_351 tM_0 rfl rfl dX8_rowCost_87 rfl rfl (by decide) (Nat.le_of_ble_eq_true rfl) (by have hI := M.2.2.2.2.2.2.2.2; exact kX8_changeOf hI _ _ _  _ _ h) (fun r115 σ116 h => ?_)
        refine zz_iadd M dX8_rowCost_90 ?_
        refine zz_topi (fun x117 ex117 => ?_)
        have h := h x117 ex117
        refine zz_istore_n M [(1, .int x117), (0, .ref (ad 0)), (2, .int x2)] dX8_rowCost_91 rfl (by decide) rfl ?_
        obtain ⟨x118, ex118⟩ : ∃ z : Int32, z = x2 + 1 := ⟨_, rfl⟩
        have h := h x118 ex118
        refine zz_iinc M [(2, .int x118), (1, .int x117), (0, .ref (ad 0))] 2 dX8_rowCost_92 rfl (n32 := 1) (by decide) ex118 (by decide) rfl ?_
        refine zz_goto M 43 dX8_rowCost_95 (by decide) ?_
        refine zz_sub [(0, .ref (ad 0)), (1, .int x117), (2, .int x118)] [2, 1, 0] rfl ?_
        exact ih _ _ _ h
      · have h := zif (c := (σ.1 10 x2.toNatClampNeg) = (σ.1 10 (x2 - 1 : Int32).toNatClampNeg)) h c
        refine zz_iconst (v := 0) M dX8_rowCost_67 (by decide) ?_
        refine zz_goto M 90 dX8_rowCost_68 (by decide) ?_
        refine zz_iadd M dX8_rowCost_90 ?_
        refine zz_topi (fun x119 ex119 => ?_)
        have h := h x119 ex119
        refine zz_istore_n M [(1, .int x119), (0, .ref (ad 0)), (2, .int x2)] dX8_rowCost_91 rfl (by decide) rfl ?_
        obtain ⟨x120, ex120⟩ : ∃ z : Int32, z = x2 + 1 := ⟨_, rfl⟩
        have h := h x120 ex120
        refine zz_iinc M [(2, .int x120), (1, .int x119), (0, .ref (ad 0))] 2 dX8_rowCost_92 rfl (n32 := 1) (by decide) ex120 (by decide) rfl ?_
        refine zz_goto M 43 dX8_rowCost_95 (by decide) ?_
        refine zz_sub [(0, .ref (ad 0)), (1, .int x119), (2, .int x120)] [2, 1, 0] rfl ?_
        exact ih _ _ _ h
def wX8_rowCost  (σ : zSt) (Q : Int32 → zSt → Prop) : Prop := wX8_rowCost_L4 Q (fun v111 σ112 => wX8_rowCost_L43 Q (fun v121 σ122 => Q v121 σ122)  300 v111 1 σ112)  300 0 0 σ
set_option maxRecDepth 20000 in
set_option maxHeartbeats 4000000 in
theorem kX8_rowCost (hI : zInj tabM ad)   (σ : zSt) (Q : Int32 → zSt → Prop) (h : wX8_rowCost  σ Q) : zOkI l tabM D cA ad y 44 yX8_rowCost cX8_rowCost 3 (some .int) [.ref (ad 0)] σ Q := by
  refine zz_enter hI (by decide) (Nat.le_of_ble_eq_true rfl) (fun p e s m below meth c M => ?_)
  have M : zM p s m _ meth c cX8_rowCost 3 RX8 (some .int) tabM D cA ad y := M
  refine zz_ls [(0, .ref (ad 0))] rfl ?_
  unfold wX8_rowCost at h
  refine zz_iconst (v := 0) M dX8_rowCost_0 (by decide) ?_
  refine zz_istore_n M [(1, .int 0), (0, .ref (ad 0))] dX8_rowCost_1 rfl (by decide) rfl ?_
  refine zz_iconst (v := 0) M dX8_rowCost_2 (by decide) ?_
  refine zz_istore_n M [(2, .int 0), (1, .int 0), (0, .ref (ad 0))] dX8_rowCost_3 rfl (by decide) rfl ?_
  refine zz_sub [(0, .ref (ad 0)), (1, .int 0), (2, .int 0)] [2, 1, 0] rfl ?_
  refine sX8_rowCost_L4   M (fun v111 σ112 h => ?_) 300 _ _ _ h
  refine zz_iconst (v := 1) M dX8_rowCost_41 (by decide) ?_
  refine zz_istore_n M [(2, .int 1), (0, .ref (ad 0)), (1, .int v111)] dX8_rowCost_42 rfl (by decide) rfl ?_
  refine zz_sub [(0, .ref (ad 0)), (1, .int v111), (2, .int 1)] [1, 2, 0] rfl ?_
  refine sX8_rowCost_L43   M (fun v121 σ122 h => ?_) 300 _ _ _ h
  refine zz_iload_n M 0 dX8_rowCost_98 rfl rfl ?_
  exact zz_iret M dX8_rowCost_99 h
def wX8_plan (x1 : Int32) (σ : zSt) (Q : Int32 → zSt → Prop) : Prop := ∀ a101 : Int64, a101 = ((x1 : Int32).toInt64) → (wX8_in a101 0 3 σ (fun r102 σ103 => if r102 = 0 then (Q (-2) σ103) else (wX8_takesPlan  σ103 (fun σ105 => if 2 ≤ x1 then (if x1 = 3 then (wX8_rowThrough  σ105 (fun r108 σ109 => Q r108 σ109)) else (wX8_rowLawful  σ105 (fun r106 σ107 => if r106 = 0 then (Q 0 σ107) else (Q 1 σ107)))) else (if x1 = 0 then (wX8_rowCost  σ105 (fun r112 σ113 => Q r112 σ113)) else (wX8_rowChanges  σ105 (fun r110 σ111 => Q r110 σ111)))))))
set_option maxRecDepth 20000 in
set_option maxHeartbeats 4000000 in
theorem kX8_plan (hI : zInj tabM ad) (x1 : Int32)  (σ : zSt) (Q : Int32 → zSt → Prop) (h : wX8_plan x1 σ Q) : zOkI l tabM D cA ad y 45 yX8_plan cX8_plan 2 (some .int) [.ref (ad 0), .int x1] σ Q := by
  refine zz_enter hI (by decide) (Nat.le_of_ble_eq_true rfl) (fun p e s m below meth c M => ?_)
  have M : zM p s m _ meth c cX8_plan 2 RX8 (some .int) tabM D cA ad y := M
  refine zz_ls [(0, .ref (ad 0)), (1, .int x1)] rfl ?_
  unfold wX8_plan at h
  refine zz_iload_n M 1 dX8_plan_0 rfl rfl ?_
  refine zz_i2l M dX8_plan_1 ?_
  refine zz_lconst (v := 0) M dX8_plan_2 (by decide) ?_
  refine zz_ldc2 (v := 3) M k_X8_357 dX8_plan_3 ?_
  obtain ⟨a101, ea101⟩ : ∃ z : Int64, z = ((x1 : Int32).toInt64) := ⟨_, rfl⟩
  have h := h a101 ea101
  refine zz_st [.long 3, .long 0, .long a101] (by rw [ea101]) ?_
  refine zz_callSI (d' := 1) (As := [.long a101, .long 0, .long 3]) (rest := []) M l_X8_92 dX8_plan_6 rfl rfl (by decide) (Nat.le_of_ble_eq_true rfl) (by have hI := M.2.2.2.2.2.2.2.2; exact kX8_in hI _ _ _  _ _ h) (fun r102 σ103 h => ?_)
  refine zz_if_ne (y0 := 0) M 15 dX8_plan_9 (by decide) (fun c => ?_) (fun c => ?_)
  · have h := zifn (c := r102 = 0) h c
    refine zz_aload_n M 0 dX8_plan_15 rfl rfl ?_
    refine zz_callVV (d' := 1) (As := []) (rest := []) M l_X8_354 tM_0 rfl rfl dX8_plan_16 rfl rfl (by decide) (Nat.le_of_ble_eq_true rfl) (by have hI := M.2.2.2.2.2.2.2.2; exact kX8_takesPlan hI   _ _ h) (fun σ105 h => ?_)
    refine zz_iload_n M 1 dX8_plan_19 rfl rfl ?_
    refine zz_iconst (v := 2) M dX8_plan_20 (by decide) ?_
    refine zz_icmp_ge M 40 dX8_plan_21 (by decide) (fun c => ?_) (fun c => ?_)
    · have h := zif (c := 2 ≤ x1) h c
      refine zz_iload_n M 1 dX8_plan_40 rfl rfl ?_
      refine zz_iconst (v := 3) M dX8_plan_41 (by decide) ?_
      refine zz_icmp_ne M 52 dX8_plan_42 (by decide) (fun c => ?_) (fun c => ?_)
      · have h := zifn (c := x1 = 3) h c
        refine zz_aload_n M 0 dX8_plan_52 rfl rfl ?_
        refine zz_callVI (d' := 1) (As := []) (rest := []) M l_X8_368 tM_0 rfl rfl dX8_plan_53 rfl rfl (by decide) (Nat.le_of_ble_eq_true rfl) (by have hI := M.2.2.2.2.2.2.2.2; exact kX8_rowLawful hI   _ _ h) (fun r106 σ107 h => ?_)
        refine zz_if_eq (y0 := 0) M 63 dX8_plan_56 (by decide) (fun c => ?_) (fun c => ?_)
        · have h := zif (c := r106 = 0) h c
          refine zz_iconst (v := 0) M dX8_plan_63 (by decide) ?_
          exact zz_iret M dX8_plan_64 h
        · have h := zifn (c := r106 = 0) h c
          refine zz_iconst (v := 1) M dX8_plan_59 (by decide) ?_
          refine zz_goto M 64 dX8_plan_60 (by decide) ?_
          exact zz_iret M dX8_plan_64 h
      · have h := zif (c := x1 = 3) h c
        refine zz_aload_n M 0 dX8_plan_45 rfl rfl ?_
        refine zz_callVI (d' := 3) (As := []) (rest := []) M l_X8_365 tM_0 rfl rfl dX8_plan_46 rfl rfl (by decide) (Nat.le_of_ble_eq_true rfl) (by have hI := M.2.2.2.2.2.2.2.2; exact kX8_rowThrough hI   _ _ h) (fun r108 σ109 h => ?_)
        refine zz_goto M 64 dX8_plan_49 (by decide) ?_
        exact zz_iret M dX8_plan_64 h
    · have h := zifn (c := 2 ≤ x1) h c
      refine zz_iload_n M 1 dX8_plan_24 rfl rfl ?_
      refine zz_if_ne (y0 := 0) M 35 dX8_plan_25 (by decide) (fun c => ?_) (fun c => ?_)
      · have h := zifn (c := x1 = 0) h c
        refine zz_aload_n M 0 dX8_plan_35 rfl rfl ?_
        refine zz_callVI (d' := 1) (As := []) (rest := []) M l_X8_362 tM_0 rfl rfl dX8_plan_36 rfl rfl (by decide) (Nat.le_of_ble_eq_true rfl) (by have hI := M.2.2.2.2.2.2.2.2; exact kX8_rowChanges hI   _ _ h) (fun r110 σ111 h => ?_)
        exact zz_iret M dX8_plan_39 h
      · have h := zif (c := x1 = 0) h c
        refine zz_aload_n M 0 dX8_plan_28 rfl rfl ?_
        refine zz_callVI (d' := 44) (As := []) (rest := []) M l_X8_359 tM_0 rfl rfl dX8_plan_29 rfl rfl (by decide) (Nat.le_of_ble_eq_true rfl) (by have hI := M.2.2.2.2.2.2.2.2; exact kX8_rowCost hI   _ _ h) (fun r112 σ113 h => ?_)
        refine zz_goto M 39 dX8_plan_32 (by decide) ?_
        exact zz_iret M dX8_plan_39 h
  · have h := zif (c := r102 = 0) h c
    refine zz_bipush (v := (-2)) M dX8_plan_12 (by decide) ?_
    exact zz_iret M dX8_plan_14 h
def wX8_allSet_L4 (Q : Int32 → zSt → Prop) (K34 : Int32 → zSt → Prop)  : Nat → Int32 → Int32 → zSt → Prop
  | 0, _, _, _ => False
  | n + 1, x1, x2, σ => if 8 ≤ x2 then (K34 x1 σ) else (wX8_isOne x2 σ (fun r101 σ102 => if r101 = 0 then (∀ x103 : Int32, x103 = (x1 ||| (0 <<< (x2 &&& 31))) → (∀ x104 : Int32, x104 = x2 + 1 → (wX8_allSet_L4 Q K34  n x103 x104 σ102))) else (∀ x105 : Int32, x105 = (x1 ||| (1 <<< (x2 &&& 31))) → (∀ x106 : Int32, x106 = x2 + 1 → (wX8_allSet_L4 Q K34  n x105 x106 σ102)))))
set_option maxRecDepth 20000 in
set_option maxHeartbeats 4000000 in
theorem sX8_allSet_L4 {Q : Int32 → zSt → Prop} {K34 : Int32 → zSt → Prop}   (M : zM p s m args meth c cX8_allSet 3 RX8 (some .int) tabM D cA ad y) (hK34 : ∀ (v1 : Int32) (σ : zSt), K34 v1 σ → zG p l e (zrm 2) s m args below meth c 3 tabM D cA ad (MQ below (va_Qi Q (fun σ' t => va_P D vwCl (zws tabM cA ad σ') t.heap) (zIn tabM ad)) args s 0 0 (zIn tabM ad)) 34 [(1, .int v1)] [] σ) : ∀ (n : Nat) (x1 : Int32) (x2 : Int32) (σ : zSt), wX8_allSet_L4 Q K34  n x1 x2 σ → zG p l e (zrm 2) s m args below meth c 3 tabM D cA ad (MQ below (va_Qi Q (fun σ' t => va_P D vwCl (zws tabM cA ad σ') t.heap) (zIn tabM ad)) args s 0 0 (zIn tabM ad)) 4 [(0, .ref (ad 0)), (1, .int x1), (2, .int x2)] [] σ := by
  intro n
  induction n with
  | zero => intro x1 x2 σ h; exact absurd h (by simp [wX8_allSet_L4])
  | succ n ih =>
    intro x1 x2 σ h
    unfold wX8_allSet_L4 at h
    refine zz_iload_n M 2 dX8_allSet_4 rfl rfl ?_
    refine zz_bipush (v := 8) M dX8_allSet_5 (by decide) ?_
    refine zz_icmp_ge M 34 dX8_allSet_7 (by decide) (fun c => ?_) (fun c => ?_)
    · have h := zif (c := 8 ≤ x2) h c
      refine zz_sub [(1, .int x1)] [1] rfl ?_
      exact hK34 _ _ h
    · have h := zifn (c := 8 ≤ x2) h c
      refine zz_iload_n M 1 dX8_allSet_10 rfl rfl ?_
      refine zz_aload_n M 0 dX8_allSet_11 rfl rfl ?_
      refine zz_iload_n M 2 dX8_allSet_12 rfl rfl ?_
      refine zz_callVI (d' := 1) (As := [.int x2]) (rest := [.int x1]) M l_X8_342 tM_0 rfl rfl dX8_allSet_13 rfl rfl (by decide) (Nat.le_of_ble_eq_true rfl) (by have hI := M.2.2.2.2.2.2.2.2; exact kX8_isOne hI _  _ _ h) (fun r101 σ102 h => ?_)
      refine zz_if_eq (y0 := 0) M 23 dX8_allSet_16 (by decide) (fun c => ?_) (fun c => ?_)
      · have h := zif (c := r101 = 0) h c
        refine zz_iconst (v := 0) M dX8_allSet_23 (by decide) ?_
        refine zz_iload_n M 2 dX8_allSet_24 rfl rfl ?_
        refine zz_ishl M dX8_allSet_25 ?_
        refine zz_ior M dX8_allSet_26 ?_
        refine zz_topi (fun x103 ex103 => ?_)
        have h := h x103 ex103
        refine zz_istore_n M [(1, .int x103), (0, .ref (ad 0)), (2, .int x2)] dX8_allSet_27 rfl (by decide) rfl ?_
        obtain ⟨x104, ex104⟩ : ∃ z : Int32, z = x2 + 1 := ⟨_, rfl⟩
        have h := h x104 ex104
        refine zz_iinc M [(2, .int x104), (1, .int x103), (0, .ref (ad 0))] 2 dX8_allSet_28 rfl (n32 := 1) (by decide) ex104 (by decide) rfl ?_
        refine zz_goto M 4 dX8_allSet_31 (by decide) ?_
        refine zz_sub [(0, .ref (ad 0)), (1, .int x103), (2, .int x104)] [2, 1, 0] rfl ?_
        exact ih _ _ _ h
      · have h := zifn (c := r101 = 0) h c
        refine zz_iconst (v := 1) M dX8_allSet_19 (by decide) ?_
        refine zz_goto M 24 dX8_allSet_20 (by decide) ?_
        refine zz_iload_n M 2 dX8_allSet_24 rfl rfl ?_
        refine zz_ishl M dX8_allSet_25 ?_
        refine zz_ior M dX8_allSet_26 ?_
        refine zz_topi (fun x105 ex105 => ?_)
        have h := h x105 ex105
        refine zz_istore_n M [(1, .int x105), (0, .ref (ad 0)), (2, .int x2)] dX8_allSet_27 rfl (by decide) rfl ?_
        obtain ⟨x106, ex106⟩ : ∃ z : Int32, z = x2 + 1 := ⟨_, rfl⟩
        have h := h x106 ex106
        refine zz_iinc M [(2, .int x106), (1, .int x105), (0, .ref (ad 0))] 2 dX8_allSet_28 rfl (n32 := 1) (by decide) ex106 (by decide) rfl ?_
        refine zz_goto M 4 dX8_allSet_31 (by decide) ?_
        refine zz_sub [(0, .ref (ad 0)), (1, .int x105), (2, .int x106)] [2, 1, 0] rfl ?_
        exact ih _ _ _ h
def wX8_allSet  (σ : zSt) (Q : Int32 → zSt → Prop) : Prop := wX8_allSet_L4 Q (fun v107 σ108 => Q v107 σ108)  300 0 0 σ
set_option maxRecDepth 20000 in
set_option maxHeartbeats 4000000 in
theorem kX8_allSet (hI : zInj tabM ad)   (σ : zSt) (Q : Int32 → zSt → Prop) (h : wX8_allSet  σ Q) : zOkI l tabM D cA ad y 2 yX8_allSet cX8_allSet 3 (some .int) [.ref (ad 0)] σ Q := by
  refine zz_enter hI (by decide) (Nat.le_of_ble_eq_true rfl) (fun p e s m below meth c M => ?_)
  have M : zM p s m _ meth c cX8_allSet 3 RX8 (some .int) tabM D cA ad y := M
  refine zz_ls [(0, .ref (ad 0))] rfl ?_
  unfold wX8_allSet at h
  refine zz_iconst (v := 0) M dX8_allSet_0 (by decide) ?_
  refine zz_istore_n M [(1, .int 0), (0, .ref (ad 0))] dX8_allSet_1 rfl (by decide) rfl ?_
  refine zz_iconst (v := 0) M dX8_allSet_2 (by decide) ?_
  refine zz_istore_n M [(2, .int 0), (1, .int 0), (0, .ref (ad 0))] dX8_allSet_3 rfl (by decide) rfl ?_
  refine zz_sub [(0, .ref (ad 0)), (1, .int 0), (2, .int 0)] [2, 1, 0] rfl ?_
  refine sX8_allSet_L4   M (fun v107 σ108 h => ?_) 300 _ _ _ h
  refine zz_iload_n M 0 dX8_allSet_34 rfl rfl ?_
  exact zz_iret M dX8_allSet_35 h
def wX8_costBy_L6 (Q : Int32 → zSt → Prop) (K54 : Int32 → zSt → Prop) (x1 : Int32) (x2 : Int32) (x3 : Int32) : Nat → Int32 → Int32 → zSt → Prop
  | 0, _, _, _ => False
  | n + 1, x4, x5, σ => if 8 ≤ x5 then (K54 x4 σ) else (if (((x3 &&& (x2 ^^^ (-1))) >>> (x5 &&& 31)) &&& 1) = 1 then (vp_in ((25 * x5) + x1) 200 ∧ (∀ x103 : Int32, x103 = (x4 + (σ.1 12 ((25 * x5) + x1 : Int32).toNatClampNeg)) → (∀ x104 : Int32, x104 = x5 + 1 → (wX8_costBy_L6 Q K54 x1 x2 x3 n x103 x104 σ)))) else (∀ x101 : Int32, x101 = (x4 + 0) → (∀ x102 : Int32, x102 = x5 + 1 → (wX8_costBy_L6 Q K54 x1 x2 x3 n x101 x102 σ))))
set_option maxRecDepth 20000 in
set_option maxHeartbeats 4000000 in
theorem sX8_costBy_L6 {Q : Int32 → zSt → Prop} {K54 : Int32 → zSt → Prop} (x1 : Int32) (x2 : Int32) (x3 : Int32)  (M : zM p s m args meth c cX8_costBy 6 RX8 (some .int) tabM D cA ad y) (hK54 : ∀ (v4 : Int32) (σ : zSt), K54 v4 σ → zG p l e (zrm 1) s m args below meth c 6 tabM D cA ad (MQ below (va_Qi Q (fun σ' t => va_P D vwCl (zws tabM cA ad σ') t.heap) (zIn tabM ad)) args s 0 0 (zIn tabM ad)) 54 [(4, .int v4)] [] σ) : ∀ (n : Nat) (x4 : Int32) (x5 : Int32) (σ : zSt), wX8_costBy_L6 Q K54 x1 x2 x3 n x4 x5 σ → zG p l e (zrm 1) s m args below meth c 6 tabM D cA ad (MQ below (va_Qi Q (fun σ' t => va_P D vwCl (zws tabM cA ad σ') t.heap) (zIn tabM ad)) args s 0 0 (zIn tabM ad)) 6 [(0, .ref (ad 0)), (1, .int x1), (2, .int x2), (3, .int x3), (4, .int x4), (5, .int x5)] [] σ := by
  intro n
  induction n with
  | zero => intro x4 x5 σ h; exact absurd h (by simp [wX8_costBy_L6])
  | succ n ih =>
    intro x4 x5 σ h
    unfold wX8_costBy_L6 at h
    refine zz_iload M 5 dX8_costBy_6 rfl ?_
    refine zz_bipush (v := 8) M dX8_costBy_8 (by decide) ?_
    refine zz_icmp_ge M 54 dX8_costBy_10 (by decide) (fun c => ?_) (fun c => ?_)
    · have h := zif (c := 8 ≤ x5) h c
      refine zz_sub [(4, .int x4)] [4] rfl ?_
      exact hK54 _ _ h
    · have h := zifn (c := 8 ≤ x5) h c
      refine zz_iload M 4 dX8_costBy_13 rfl ?_
      refine zz_iload_n M 3 dX8_costBy_15 rfl rfl ?_
      refine zz_iload_n M 2 dX8_costBy_16 rfl rfl ?_
      refine zz_iconst (v := (-1)) M dX8_costBy_17 (by decide) ?_
      refine zz_ixor M dX8_costBy_18 ?_
      refine zz_iand M dX8_costBy_19 ?_
      refine zz_iload M 5 dX8_costBy_20 rfl ?_
      refine zz_ishr M dX8_costBy_22 ?_
      refine zz_iconst (v := 1) M dX8_costBy_23 (by decide) ?_
      refine zz_iand M dX8_costBy_24 ?_
      refine zz_iconst (v := 1) M dX8_costBy_25 (by decide) ?_
      refine zz_icmp_ne M 44 dX8_costBy_26 (by decide) (fun c => ?_) (fun c => ?_)
      · have h := zifn (c := (((x3 &&& (x2 ^^^ (-1))) >>> (x5 &&& 31)) &&& 1) = 1) h c
        refine zz_iconst (v := 0) M dX8_costBy_44 (by decide) ?_
        refine zz_iadd M dX8_costBy_45 ?_
        refine zz_topi (fun x101 ex101 => ?_)
        have h := h x101 ex101
        refine zz_istore M [(4, .int x101), (0, .ref (ad 0)), (1, .int x1), (2, .int x2), (3, .int x3), (5, .int x5)] dX8_costBy_46 (by decide) rfl ?_
        obtain ⟨x102, ex102⟩ : ∃ z : Int32, z = x5 + 1 := ⟨_, rfl⟩
        have h := h x102 ex102
        refine zz_iinc M [(5, .int x102), (4, .int x101), (0, .ref (ad 0)), (1, .int x1), (2, .int x2), (3, .int x3)] 5 dX8_costBy_48 rfl (n32 := 1) (by decide) ex102 (by decide) rfl ?_
        refine zz_goto M 6 dX8_costBy_51 (by decide) ?_
        refine zz_sub [(0, .ref (ad 0)), (1, .int x1), (2, .int x2), (3, .int x3), (4, .int x101), (5, .int x102)] [2, 3, 4, 5, 1, 0] rfl ?_
        exact ih _ _ _ h
      · have h := zif (c := (((x3 &&& (x2 ^^^ (-1))) >>> (x5 &&& 31)) &&& 1) = 1) h c
        refine zz_aload_n M 0 dX8_costBy_29 rfl rfl ?_
        refine zz_getR M f_X8_54 tM_0 rfl dX8_costBy_30 ?_
        refine zz_bipush (v := 25) M dX8_costBy_33 (by decide) ?_
        refine zz_iload M 5 dX8_costBy_35 rfl ?_
        refine zz_imul M dX8_costBy_37 ?_
        refine zz_iload_n M 1 dX8_costBy_38 rfl rfl ?_
        refine zz_iadd M dX8_costBy_39 ?_
        refine zz_iald M tM_12 h.1 dX8_costBy_40 ?_
        have h := h.2
        refine zz_goto M 45 dX8_costBy_41 (by decide) ?_
        refine zz_iadd M dX8_costBy_45 ?_
        refine zz_topi (fun x103 ex103 => ?_)
        have h := h x103 ex103
        refine zz_istore M [(4, .int x103), (0, .ref (ad 0)), (1, .int x1), (2, .int x2), (3, .int x3), (5, .int x5)] dX8_costBy_46 (by decide) rfl ?_
        obtain ⟨x104, ex104⟩ : ∃ z : Int32, z = x5 + 1 := ⟨_, rfl⟩
        have h := h x104 ex104
        refine zz_iinc M [(5, .int x104), (4, .int x103), (0, .ref (ad 0)), (1, .int x1), (2, .int x2), (3, .int x3)] 5 dX8_costBy_48 rfl (n32 := 1) (by decide) ex104 (by decide) rfl ?_
        refine zz_goto M 6 dX8_costBy_51 (by decide) ?_
        refine zz_sub [(0, .ref (ad 0)), (1, .int x1), (2, .int x2), (3, .int x3), (4, .int x103), (5, .int x104)] [2, 3, 4, 5, 1, 0] rfl ?_
        exact ih _ _ _ h
def wX8_costBy (x1 : Int32) (x2 : Int32) (x3 : Int32) (σ : zSt) (Q : Int32 → zSt → Prop) : Prop := wX8_costBy_L6 Q (fun v105 σ106 => Q v105 σ106) x1 x2 x3 300 0 0 σ
set_option maxRecDepth 20000 in
set_option maxHeartbeats 4000000 in
theorem kX8_costBy (hI : zInj tabM ad) (x1 : Int32) (x2 : Int32) (x3 : Int32)  (σ : zSt) (Q : Int32 → zSt → Prop) (h : wX8_costBy x1 x2 x3 σ Q) : zOkI l tabM D cA ad y 1 yX8_costBy cX8_costBy 6 (some .int) [.ref (ad 0), .int x1, .int x2, .int x3] σ Q := by
  refine zz_enter hI (by decide) (Nat.le_of_ble_eq_true rfl) (fun p e s m below meth c M => ?_)
  have M : zM p s m _ meth c cX8_costBy 6 RX8 (some .int) tabM D cA ad y := M
  refine zz_ls [(0, .ref (ad 0)), (1, .int x1), (2, .int x2), (3, .int x3)] rfl ?_
  unfold wX8_costBy at h
  refine zz_iconst (v := 0) M dX8_costBy_0 (by decide) ?_
  refine zz_istore M [(4, .int 0), (0, .ref (ad 0)), (1, .int x1), (2, .int x2), (3, .int x3)] dX8_costBy_1 (by decide) rfl ?_
  refine zz_iconst (v := 0) M dX8_costBy_3 (by decide) ?_
  refine zz_istore M [(5, .int 0), (4, .int 0), (0, .ref (ad 0)), (1, .int x1), (2, .int x2), (3, .int x3)] dX8_costBy_4 (by decide) rfl ?_
  refine zz_sub [(0, .ref (ad 0)), (1, .int x1), (2, .int x2), (3, .int x3), (4, .int 0), (5, .int 0)] [2, 3, 4, 5, 1, 0] rfl ?_
  refine sX8_costBy_L6 x1 x2 x3  M (fun v105 σ106 h => ?_) 300 _ _ _ h
  refine zz_iload M 0 dX8_costBy_54 rfl ?_
  exact zz_iret M dX8_costBy_56 h
def wX8_goesBy_L6 (Q : Int32 → zSt → Prop) (K58 : Int32 → zSt → Prop) (x1 : Int32) (x2 : Int32) : Nat → Int32 → Int32 → zSt → Prop
  | 0, _, _, _ => False
  | n + 1, x4, x5, σ => if 8 ≤ x5 then (K58 x4 σ) else (wX8_isOne x5 σ (fun r101 σ102 => if r101 = 0 then (∀ x103 : Int32, x103 = x5 + 1 → (wX8_goesBy_L6 Q K58 x1 x2 n x4 x103 σ102)) else (vp_in x5 8 ∧ (if x1 < (σ102.1 5 x5.toNatClampNeg) then (∀ x104 : Int32, x104 = x5 + 1 → (wX8_goesBy_L6 Q K58 x1 x2 n x4 x104 σ102)) else (wX8_goes x5 x2 σ102 (fun r105 σ106 => if r105 = 0 then (∀ x107 : Int32, x107 = x5 + 1 → (wX8_goesBy_L6 Q K58 x1 x2 n x4 x107 σ106)) else (∀ x108 : Int32, x108 = (x4 ||| (1 <<< (x5 &&& 31))) → (∀ x109 : Int32, x109 = x5 + 1 → (wX8_goesBy_L6 Q K58 x1 x2 n x108 x109 σ106)))))))))
set_option maxRecDepth 20000 in
set_option maxHeartbeats 4000000 in
theorem sX8_goesBy_L6 {Q : Int32 → zSt → Prop} {K58 : Int32 → zSt → Prop} (x1 : Int32) (x2 : Int32)  (M : zM p s m args meth c cX8_goesBy 6 RX8 (some .int) tabM D cA ad y) (hK58 : ∀ (v4 : Int32) (σ : zSt), K58 v4 σ → zG p l e (zrm 2) s m args below meth c 6 tabM D cA ad (MQ below (va_Qi Q (fun σ' t => va_P D vwCl (zws tabM cA ad σ') t.heap) (zIn tabM ad)) args s 0 0 (zIn tabM ad)) 58 [(4, .int v4)] [] σ) : ∀ (n : Nat) (x4 : Int32) (x5 : Int32) (σ : zSt), wX8_goesBy_L6 Q K58 x1 x2 n x4 x5 σ → zG p l e (zrm 2) s m args below meth c 6 tabM D cA ad (MQ below (va_Qi Q (fun σ' t => va_P D vwCl (zws tabM cA ad σ') t.heap) (zIn tabM ad)) args s 0 0 (zIn tabM ad)) 6 [(0, .ref (ad 0)), (1, .int x1), (2, .int x2), (4, .int x4), (5, .int x5)] [] σ := by
  intro n
  induction n with
  | zero => intro x4 x5 σ h; exact absurd h (by simp [wX8_goesBy_L6])
  | succ n ih =>
    intro x4 x5 σ h
    unfold wX8_goesBy_L6 at h
    refine zz_iload M 4 dX8_goesBy_6 rfl ?_
    refine zz_bipush (v := 8) M dX8_goesBy_8 (by decide) ?_
    refine zz_icmp_ge M 58 dX8_goesBy_10 (by decide) (fun c => ?_) (fun c => ?_)
    · have h := zif (c := 8 ≤ x5) h c
      refine zz_sub [(4, .int x4)] [3] rfl ?_
      exact hK58 _ _ h
    · have h := zifn (c := 8 ≤ x5) h c
      refine zz_aload_n M 0 dX8_goesBy_13 rfl rfl ?_
      refine zz_iload M 4 dX8_goesBy_14 rfl ?_
      refine zz_callVI (d' := 1) (As := [.int x5]) (rest := []) M l_X8_342 tM_0 rfl rfl dX8_goesBy_16 rfl rfl (by decide) (Nat.le_of_ble_eq_true rfl) (by have hI := M.2.2.2.2.2.2.2.2; exact kX8_isOne hI _  _ _ h) (fun r101 σ102 h => ?_)
      refine zz_if_eq (y0 := 0) M 52 dX8_goesBy_19 (by decide) (fun c => ?_) (fun c => ?_)
      · have h := zif (c := r101 = 0) h c
        obtain ⟨x103, ex103⟩ : ∃ z : Int32, z = x5 + 1 := ⟨_, rfl⟩
        have h := h x103 ex103
        refine zz_iinc M [(5, .int x103), (0, .ref (ad 0)), (1, .int x1), (2, .int x2), (4, .int x4)] 4 dX8_goesBy_52 rfl (n32 := 1) (by decide) ex103 (by decide) rfl ?_
        refine zz_goto M 6 dX8_goesBy_55 (by decide) ?_
        refine zz_sub [(0, .ref (ad 0)), (1, .int x1), (2, .int x2), (4, .int x4), (5, .int x103)] [1, 2, 3, 4, 0] rfl ?_
        exact ih _ _ _ h
      · have h := zifn (c := r101 = 0) h c
        refine zz_aload_n M 0 dX8_goesBy_22 rfl rfl ?_
        refine zz_getR M f_X8_26 tM_0 rfl dX8_goesBy_23 ?_
        refine zz_iload M 4 dX8_goesBy_26 rfl ?_
        refine zz_iald M tM_5 h.1 dX8_goesBy_28 ?_
        have h := h.2
        refine zz_iload_n M 1 dX8_goesBy_29 rfl rfl ?_
        refine zz_icmp_gt M 52 dX8_goesBy_30 (by decide) (fun c => ?_) (fun c => ?_)
        · have h := zif (c := x1 < (σ102.1 5 x5.toNatClampNeg)) h c
          obtain ⟨x104, ex104⟩ : ∃ z : Int32, z = x5 + 1 := ⟨_, rfl⟩
          have h := h x104 ex104
          refine zz_iinc M [(5, .int x104), (0, .ref (ad 0)), (1, .int x1), (2, .int x2), (4, .int x4)] 4 dX8_goesBy_52 rfl (n32 := 1) (by decide) ex104 (by decide) rfl ?_
          refine zz_goto M 6 dX8_goesBy_55 (by decide) ?_
          refine zz_sub [(0, .ref (ad 0)), (1, .int x1), (2, .int x2), (4, .int x4), (5, .int x104)] [1, 2, 3, 4, 0] rfl ?_
          exact ih _ _ _ h
        · have h := zifn (c := x1 < (σ102.1 5 x5.toNatClampNeg)) h c
          refine zz_aload_n M 0 dX8_goesBy_33 rfl rfl ?_
          refine zz_iload M 4 dX8_goesBy_34 rfl ?_
          refine zz_iload_n M 2 dX8_goesBy_36 rfl rfl ?_
          refine zz_callVI (d' := 1) (As := [.int x5, .int x2]) (rest := []) M l_X8_339 tM_0 rfl rfl dX8_goesBy_37 rfl rfl (by decide) (Nat.le_of_ble_eq_true rfl) (by have hI := M.2.2.2.2.2.2.2.2; exact kX8_goes hI _ _  _ _ h) (fun r105 σ106 h => ?_)
          refine zz_if_eq (y0 := 0) M 52 dX8_goesBy_40 (by decide) (fun c => ?_) (fun c => ?_)
          · have h := zif (c := r105 = 0) h c
            obtain ⟨x107, ex107⟩ : ∃ z : Int32, z = x5 + 1 := ⟨_, rfl⟩
            have h := h x107 ex107
            refine zz_iinc M [(5, .int x107), (0, .ref (ad 0)), (1, .int x1), (2, .int x2), (4, .int x4)] 4 dX8_goesBy_52 rfl (n32 := 1) (by decide) ex107 (by decide) rfl ?_
            refine zz_goto M 6 dX8_goesBy_55 (by decide) ?_
            refine zz_sub [(0, .ref (ad 0)), (1, .int x1), (2, .int x2), (4, .int x4), (5, .int x107)] [1, 2, 3, 4, 0] rfl ?_
            exact ih _ _ _ h
          · have h := zifn (c := r105 = 0) h c
            refine zz_iload M 3 dX8_goesBy_43 rfl ?_
            refine zz_iconst (v := 1) M dX8_goesBy_45 (by decide) ?_
            refine zz_iload M 4 dX8_goesBy_46 rfl ?_
            refine zz_ishl M dX8_goesBy_48 ?_
            refine zz_ior M dX8_goesBy_49 ?_
            refine zz_topi (fun x108 ex108 => ?_)
            have h := h x108 ex108
            refine zz_istore M [(4, .int x108), (0, .ref (ad 0)), (1, .int x1), (2, .int x2), (5, .int x5)] dX8_goesBy_50 (by decide) rfl ?_
            obtain ⟨x109, ex109⟩ : ∃ z : Int32, z = x5 + 1 := ⟨_, rfl⟩
            have h := h x109 ex109
            refine zz_iinc M [(5, .int x109), (4, .int x108), (0, .ref (ad 0)), (1, .int x1), (2, .int x2)] 4 dX8_goesBy_52 rfl (n32 := 1) (by decide) ex109 (by decide) rfl ?_
            refine zz_goto M 6 dX8_goesBy_55 (by decide) ?_
            refine zz_sub [(0, .ref (ad 0)), (1, .int x1), (2, .int x2), (4, .int x108), (5, .int x109)] [2, 3, 4, 1, 0] rfl ?_
            exact ih _ _ _ h
def wX8_goesBy (x1 : Int32) (x2 : Int32) (x3 : Int32) (σ : zSt) (Q : Int32 → zSt → Prop) : Prop := wX8_goesBy_L6 Q (fun v110 σ111 => Q v110 σ111) x1 x2 300 x3 0 σ
set_option maxRecDepth 20000 in
set_option maxHeartbeats 4000000 in
theorem kX8_goesBy (hI : zInj tabM ad) (x1 : Int32) (x2 : Int32) (x3 : Int32)  (σ : zSt) (Q : Int32 → zSt → Prop) (h : wX8_goesBy x1 x2 x3 σ Q) : zOkI l tabM D cA ad y 2 yX8_goesBy cX8_goesBy 6 (some .int) [.ref (ad 0), .int x1, .int x2, .int x3] σ Q := by
  refine zz_enter hI (by decide) (Nat.le_of_ble_eq_true rfl) (fun p e s m below meth c M => ?_)
  have M : zM p s m _ meth c cX8_goesBy 6 RX8 (some .int) tabM D cA ad y := M
  refine zz_ls [(0, .ref (ad 0)), (1, .int x1), (2, .int x2), (3, .int x3)] rfl ?_
  unfold wX8_goesBy at h
  refine zz_iload_n M 3 dX8_goesBy_0 rfl rfl ?_
  refine zz_istore M [(4, .int x3), (0, .ref (ad 0)), (1, .int x1), (2, .int x2), (3, .int x3)] dX8_goesBy_1 (by decide) rfl ?_
  refine zz_iconst (v := 0) M dX8_goesBy_3 (by decide) ?_
  refine zz_istore M [(5, .int 0), (4, .int x3), (0, .ref (ad 0)), (1, .int x1), (2, .int x2), (3, .int x3)] dX8_goesBy_4 (by decide) rfl ?_
  refine zz_sub [(0, .ref (ad 0)), (1, .int x1), (2, .int x2), (4, .int x3), (5, .int 0)] [2, 3, 4, 1, 0] rfl ?_
  refine sX8_goesBy_L6 x1 x2  M (fun v110 σ111 h => ?_) 300 _ _ _ h
  refine zz_iload M 0 dX8_goesBy_58 rfl ?_
  exact zz_iret M dX8_goesBy_60 h
def wX8_state (x0 : Int32) (x1 : Int32) (x2 : Int32) (σ : zSt) (Q : Int32 → zSt → Prop) : Prop := Q ((((12 * x0) + (4 * x1)) + x2) - 1) σ
set_option maxRecDepth 20000 in
set_option maxHeartbeats 4000000 in
theorem kX8_state (hI : zInj tabM ad) (x0 : Int32) (x1 : Int32) (x2 : Int32)  (σ : zSt) (Q : Int32 → zSt → Prop) (h : wX8_state x0 x1 x2 σ Q) : zOkI l tabM D cA ad y 1 yX8_state cX8_state 3 (some .int) [.int x0, .int x1, .int x2] σ Q := by
  refine zz_enter hI (by decide) (Nat.le_of_ble_eq_true rfl) (fun p e s m below meth c M => ?_)
  have M : zM p s m _ meth c cX8_state 3 RX8 (some .int) tabM D cA ad y := M
  refine zz_ls [(0, .int x0), (1, .int x1), (2, .int x2)] rfl ?_
  unfold wX8_state at h
  refine zz_bipush (v := 12) M dX8_state_0 (by decide) ?_
  refine zz_iload_n M 0 dX8_state_2 rfl rfl ?_
  refine zz_imul M dX8_state_3 ?_
  refine zz_iconst (v := 4) M dX8_state_4 (by decide) ?_
  refine zz_iload_n M 1 dX8_state_5 rfl rfl ?_
  refine zz_imul M dX8_state_6 ?_
  refine zz_iadd M dX8_state_7 ?_
  refine zz_iload_n M 2 dX8_state_8 rfl rfl ?_
  refine zz_iadd M dX8_state_9 ?_
  refine zz_iconst (v := 1) M dX8_state_10 (by decide) ?_
  refine zz_isub M dX8_state_11 ?_
  exact zz_iret M dX8_state_12 h
def wX8_leastFrom (x1 : Int32) (x2 : Int32) (x3 : Int32) (x4 : Int32) (x5 : Int32) (σ : zSt) (Q : Int32 → zSt → Prop) : Prop := wX8_goesBy x1 x3 x2 σ (fun r101 σ102 => wX8_state r101 x3 x4 σ102 (fun r103 σ104 => vp_in ((3072 * (x1 + 1)) + r103) 76800 ∧ (∀ x105 : Int32, x105 = (σ104.1 11 ((3072 * (x1 + 1)) + r103 : Int32).toNatClampNeg) → (if x105 < 99999999 then (if x5 = 0 then (Q (x105 + 0) σ104) else (wX8_costBy x1 x2 r101 σ104 (fun r106 σ107 => Q (x105 + r106) σ107))) else (Q 99999999 σ104)))))
set_option maxRecDepth 20000 in
set_option maxHeartbeats 4000000 in
theorem kX8_leastFrom (hI : zInj tabM ad) (x1 : Int32) (x2 : Int32) (x3 : Int32) (x4 : Int32) (x5 : Int32)  (σ : zSt) (Q : Int32 → zSt → Prop) (h : wX8_leastFrom x1 x2 x3 x4 x5 σ Q) : zOkI l tabM D cA ad y 3 yX8_leastFrom cX8_leastFrom 8 (some .int) [.ref (ad 0), .int x1, .int x2, .int x3, .int x4, .int x5] σ Q := by
  refine zz_enter hI (by decide) (Nat.le_of_ble_eq_true rfl) (fun p e s m below meth c M => ?_)
  have M : zM p s m _ meth c cX8_leastFrom 8 RX8 (some .int) tabM D cA ad y := M
  refine zz_ls [(0, .ref (ad 0)), (1, .int x1), (2, .int x2), (3, .int x3), (4, .int x4), (5, .int x5)] rfl ?_
  unfold wX8_leastFrom at h
  refine zz_aload_n M 0 dX8_leastFrom_0 rfl rfl ?_
  refine zz_iload_n M 1 dX8_leastFrom_1 rfl rfl ?_
  refine zz_iload_n M 3 dX8_leastFrom_2 rfl rfl ?_
  refine zz_iload_n M 2 dX8_leastFrom_3 rfl rfl ?_
  refine zz_callVI (d' := 2) (As := [.int x1, .int x3, .int x2]) (rest := []) M l_X8_371 tM_0 rfl rfl dX8_leastFrom_4 rfl rfl (by decide) (Nat.le_of_ble_eq_true rfl) (by have hI := M.2.2.2.2.2.2.2.2; exact kX8_goesBy hI _ _ _  _ _ h) (fun r101 σ102 h => ?_)
  refine zz_istore M [(6, .int r101), (0, .ref (ad 0)), (1, .int x1), (2, .int x2), (3, .int x3), (4, .int x4), (5, .int x5)] dX8_leastFrom_7 (by decide) rfl ?_
  refine zz_aload_n M 1 dX8_leastFrom_9 rfl rfl ?_
  refine zz_getR M f_X8_51 tM_0 rfl dX8_leastFrom_10 ?_
  refine zz_sipush (v := 3072) M dX8_leastFrom_13 (by decide) ?_
  refine zz_iload_n M 2 dX8_leastFrom_16 rfl rfl ?_
  refine zz_iconst (v := 1) M dX8_leastFrom_17 (by decide) ?_
  refine zz_iadd M dX8_leastFrom_18 ?_
  refine zz_imul M dX8_leastFrom_19 ?_
  refine zz_iload M 0 dX8_leastFrom_20 rfl ?_
  refine zz_iload_n M 4 dX8_leastFrom_22 rfl rfl ?_
  refine zz_iload M 5 dX8_leastFrom_23 rfl ?_
  refine zz_callSI (d' := 1) (As := [.int r101, .int x3, .int x4]) (rest := [.int (3072 * (x1 + 1)), .ref (ad 11)]) M l_X8_374 dX8_leastFrom_25 rfl rfl (by decide) (Nat.le_of_ble_eq_true rfl) (by have hI := M.2.2.2.2.2.2.2.2; exact kX8_state hI _ _ _  _ _ h) (fun r103 σ104 h => ?_)
  refine zz_iadd M dX8_leastFrom_28 ?_
  refine zz_iald M tM_11 h.1 dX8_leastFrom_29 ?_
  have h := h.2
  refine zz_topi (fun x105 ex105 => ?_)
  have h := h x105 ex105
  refine zz_istore M [(7, .int x105), (6, .int r101), (0, .ref (ad 0)), (1, .int x1), (2, .int x2), (3, .int x3), (4, .int x4), (5, .int x5)] dX8_leastFrom_30 (by decide) rfl ?_
  refine zz_iload M 0 dX8_leastFrom_32 rfl ?_
  refine zz_ldcw (v := 99999999) M k_X8_377 dX8_leastFrom_34 ?_
  refine zz_icmp_lt M 46 dX8_leastFrom_37 (by decide) (fun c => ?_) (fun c => ?_)
  · have h := zif (c := x105 < 99999999) h c
    refine zz_iload M 0 dX8_leastFrom_46 rfl ?_
    refine zz_iload M 7 dX8_leastFrom_48 rfl ?_
    refine zz_if_eq (y0 := 0) M 64 dX8_leastFrom_50 (by decide) (fun c => ?_) (fun c => ?_)
    · have h := zif (c := x5 = 0) h c
      refine zz_iconst (v := 0) M dX8_leastFrom_64 (by decide) ?_
      refine zz_iadd M dX8_leastFrom_65 ?_
      exact zz_iret M dX8_leastFrom_66 h
    · have h := zifn (c := x5 = 0) h c
      refine zz_aload_n M 2 dX8_leastFrom_53 rfl rfl ?_
      refine zz_iload_n M 3 dX8_leastFrom_54 rfl rfl ?_
      refine zz_iload_n M 4 dX8_leastFrom_55 rfl rfl ?_
      refine zz_iload M 1 dX8_leastFrom_56 rfl ?_
      refine zz_callVI (d' := 1) (As := [.int x1, .int x2, .int r101]) (rest := [.int x105]) M l_X8_378 tM_0 rfl rfl dX8_leastFrom_58 rfl rfl (by decide) (Nat.le_of_ble_eq_true rfl) (by have hI := M.2.2.2.2.2.2.2.2; exact kX8_costBy hI _ _ _  _ _ h) (fun r106 σ107 h => ?_)
      refine zz_goto M 65 dX8_leastFrom_61 (by decide) ?_
      refine zz_iadd M dX8_leastFrom_65 ?_
      exact zz_iret M dX8_leastFrom_66 h
  · have h := zifn (c := x105 < 99999999) h c
    refine zz_ldcw (v := 99999999) M k_X8_377 dX8_leastFrom_40 ?_
    refine zz_goto M 66 dX8_leastFrom_43 (by decide) ?_
    exact zz_iret M dX8_leastFrom_66 h
def wX8_step (x1 : Int32) (x2 : Int32) (x3 : Int32) (x4 : Int32) (x5 : Int32) (x6 : Int32) (σ : zSt) (Q : Int32 → zSt → Prop) : Prop := if x5 = x3 then (if (σ.1 0 12) ≤ x4 then (∀ a103 : Int32, a103 = (σ.1 0 12) → (wX8_leastFrom x1 x2 x5 a103 x6 σ (fun r104 σ105 => Q r104 σ105))) else (∀ a106 : Int32, a106 = (x4 + 1) → (wX8_leastFrom x1 x2 x5 a106 x6 σ (fun r107 σ108 => Q r107 σ108)))) else (if (σ.1 0 12) ≤ x4 then (wX8_leastFrom x1 x2 x5 1 x6 σ (fun r101 σ102 => if r101 < 99999999 then (if x6 = 0 then (Q (r101 + 1) σ102) else (vp_in (((9 * x1) + (3 * x5)) + x3) 216 ∧ (Q (r101 + (σ102.1 13 (((9 * x1) + (3 * x5)) + x3 : Int32).toNatClampNeg)) σ102))) else (Q 99999999 σ102))) else (Q 99999999 σ))
set_option maxRecDepth 20000 in
set_option maxHeartbeats 4000000 in
theorem kX8_step (hI : zInj tabM ad) (x1 : Int32) (x2 : Int32) (x3 : Int32) (x4 : Int32) (x5 : Int32) (x6 : Int32)  (σ : zSt) (Q : Int32 → zSt → Prop) (h : wX8_step x1 x2 x3 x4 x5 x6 σ Q) : zOkI l tabM D cA ad y 4 yX8_step cX8_step 8 (some .int) [.ref (ad 0), .int x1, .int x2, .int x3, .int x4, .int x5, .int x6] σ Q := by
  refine zz_enter hI (by decide) (Nat.le_of_ble_eq_true rfl) (fun p e s m below meth c M => ?_)
  have M : zM p s m _ meth c cX8_step 8 RX8 (some .int) tabM D cA ad y := M
  refine zz_ls [(0, .ref (ad 0)), (1, .int x1), (2, .int x2), (3, .int x3), (4, .int x4), (5, .int x5), (6, .int x6)] rfl ?_
  unfold wX8_step at h
  refine zz_iload M 5 dX8_step_0 rfl ?_
  refine zz_iload_n M 3 dX8_step_2 rfl rfl ?_
  refine zz_icmp_ne M 37 dX8_step_3 (by decide) (fun c => ?_) (fun c => ?_)
  · have h := zifn (c := x5 = x3) h c
    refine zz_iload M 4 dX8_step_37 rfl ?_
    refine zz_aload_n M 0 dX8_step_39 rfl rfl ?_
    refine zz_getI M f_X8_32 tM_0 rfl dX8_step_40 ?_
    refine zz_icmp_ge M 50 dX8_step_43 (by decide) (fun c => ?_) (fun c => ?_)
    · have h := zif (c := (σ.1 0 12) ≤ x4) h c
      refine zz_aload_n M 0 dX8_step_50 rfl rfl ?_
      refine zz_iload_n M 1 dX8_step_51 rfl rfl ?_
      refine zz_iload_n M 2 dX8_step_52 rfl rfl ?_
      refine zz_iload M 5 dX8_step_53 rfl ?_
      refine zz_iconst (v := 1) M dX8_step_55 (by decide) ?_
      refine zz_iload M 6 dX8_step_56 rfl ?_
      refine zz_callVI (d' := 3) (As := [.int x1, .int x2, .int x5, .int 1, .int x6]) (rest := []) M l_X8_381 tM_0 rfl rfl dX8_step_58 rfl rfl (by decide) (Nat.le_of_ble_eq_true rfl) (by have hI := M.2.2.2.2.2.2.2.2; exact kX8_leastFrom hI _ _ _ _ _  _ _ h) (fun r101 σ102 h => ?_)
      refine zz_istore M [(7, .int r101), (0, .ref (ad 0)), (1, .int x1), (2, .int x2), (3, .int x3), (4, .int x4), (5, .int x5), (6, .int x6)] dX8_step_61 (by decide) rfl ?_
      refine zz_iload M 0 dX8_step_63 rfl ?_
      refine zz_ldcw (v := 99999999) M k_X8_377 dX8_step_65 ?_
      refine zz_icmp_lt M 77 dX8_step_68 (by decide) (fun c => ?_) (fun c => ?_)
      · have h := zif (c := r101 < 99999999) h c
        refine zz_iload M 0 dX8_step_77 rfl ?_
        refine zz_iload M 7 dX8_step_79 rfl ?_
        refine zz_if_eq (y0 := 0) M 103 dX8_step_81 (by decide) (fun c => ?_) (fun c => ?_)
        · have h := zif (c := x6 = 0) h c
          refine zz_iconst (v := 1) M dX8_step_103 (by decide) ?_
          refine zz_iadd M dX8_step_104 ?_
          exact zz_iret M dX8_step_105 h
        · have h := zifn (c := x6 = 0) h c
          refine zz_aload_n M 1 dX8_step_84 rfl rfl ?_
          refine zz_getR M f_X8_57 tM_0 rfl dX8_step_85 ?_
          refine zz_bipush (v := 9) M dX8_step_88 (by decide) ?_
          refine zz_iload_n M 2 dX8_step_90 rfl rfl ?_
          refine zz_imul M dX8_step_91 ?_
          refine zz_iconst (v := 3) M dX8_step_92 (by decide) ?_
          refine zz_iload M 6 dX8_step_93 rfl ?_
          refine zz_imul M dX8_step_95 ?_
          refine zz_iadd M dX8_step_96 ?_
          refine zz_iload_n M 4 dX8_step_97 rfl rfl ?_
          refine zz_iadd M dX8_step_98 ?_
          refine zz_iald M tM_13 h.1 dX8_step_99 ?_
          have h := h.2
          refine zz_goto M 104 dX8_step_100 (by decide) ?_
          refine zz_iadd M dX8_step_104 ?_
          exact zz_iret M dX8_step_105 h
      · have h := zifn (c := r101 < 99999999) h c
        refine zz_ldcw (v := 99999999) M k_X8_377 dX8_step_71 ?_
        refine zz_goto M 105 dX8_step_74 (by decide) ?_
        exact zz_iret M dX8_step_105 h
    · have h := zifn (c := (σ.1 0 12) ≤ x4) h c
      refine zz_ldcw (v := 99999999) M k_X8_377 dX8_step_46 ?_
      exact zz_iret M dX8_step_49 h
  · have h := zif (c := x5 = x3) h c
    refine zz_aload_n M 0 dX8_step_6 rfl rfl ?_
    refine zz_iload_n M 1 dX8_step_7 rfl rfl ?_
    refine zz_iload_n M 2 dX8_step_8 rfl rfl ?_
    refine zz_iload M 5 dX8_step_9 rfl ?_
    refine zz_iload M 4 dX8_step_11 rfl ?_
    refine zz_aload_n M 0 dX8_step_13 rfl rfl ?_
    refine zz_getI M f_X8_32 tM_0 rfl dX8_step_14 ?_
    refine zz_icmp_ge M 27 dX8_step_17 (by decide) (fun c => ?_) (fun c => ?_)
    · have h := zif (c := (σ.1 0 12) ≤ x4) h c
      refine zz_aload_n M 0 dX8_step_27 rfl rfl ?_
      refine zz_getI M f_X8_32 tM_0 rfl dX8_step_28 ?_
      refine zz_iload M 6 dX8_step_31 rfl ?_
      obtain ⟨a103, ea103⟩ : ∃ z : Int32, z = (σ.1 0 12) := ⟨_, rfl⟩
      have h := h a103 ea103
      refine zz_st [.int x6, .int a103, .int x5, .int x2, .int x1, .ref (ad 0)] (by rw [ea103]) ?_
      refine zz_callVI (d' := 3) (As := [.int x1, .int x2, .int x5, .int a103, .int x6]) (rest := []) M l_X8_381 tM_0 rfl rfl dX8_step_33 rfl rfl (by decide) (Nat.le_of_ble_eq_true rfl) (by have hI := M.2.2.2.2.2.2.2.2; exact kX8_leastFrom hI _ _ _ _ _  _ _ h) (fun r104 σ105 h => ?_)
      exact zz_iret M dX8_step_36 h
    · have h := zifn (c := (σ.1 0 12) ≤ x4) h c
      refine zz_iload M 4 dX8_step_20 rfl ?_
      refine zz_iconst (v := 1) M dX8_step_22 (by decide) ?_
      refine zz_iadd M dX8_step_23 ?_
      refine zz_goto M 31 dX8_step_24 (by decide) ?_
      refine zz_iload M 6 dX8_step_31 rfl ?_
      obtain ⟨a106, ea106⟩ : ∃ z : Int32, z = (x4 + 1) := ⟨_, rfl⟩
      have h := h a106 ea106
      refine zz_st [.int x6, .int a106, .int x5, .int x2, .int x1, .ref (ad 0)] (by rw [ea106]) ?_
      refine zz_callVI (d' := 3) (As := [.int x1, .int x2, .int x5, .int a106, .int x6]) (rest := []) M l_X8_381 tM_0 rfl rfl dX8_step_33 rfl rfl (by decide) (Nat.le_of_ble_eq_true rfl) (by have hI := M.2.2.2.2.2.2.2.2; exact kX8_leastFrom hI _ _ _ _ _  _ _ h) (fun r107 σ108 h => ?_)
      exact zz_iret M dX8_step_36 h
end
