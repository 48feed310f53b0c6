section
variable {p : Program} {l : Launch} {e : Env} {s : State} {m : MethodId} {args : Array Value} {below : List Frame} {meth : Method} {c : Code} {D : va_G} {cA : Nat → ClassId} {ad : Nat → Nat} {y : zX}
def wX8_costOf (x1 : Int32) (x2 : Int32) (σ : zSt) (Q : Int32 → zSt → Prop) : Prop := vp_in x1 8 ∧ (∀ σ101 : zSt, σ101 = zput σ 0 18 (x2 - (σ.1 5 x1.toNatClampNeg)) → (vp_in x1 8 ∧ (∀ σ102 : zSt, σ102 = zput σ101 0 19 (σ101.1 6 x1.toNatClampNeg) → (∀ σ103 : zSt, σ103 = zput σ102 0 20 x2 → (vp_in x1 8 ∧ (∀ σ104 : zSt, σ104 = zput σ103 0 21 (σ103.1 4 x1.toNatClampNeg) → (∀ σ105 : zSt, σ105 = zput σ104 0 22 0 → (∀ σ106 : zSt, σ106 = zput σ105 0 23 ((σ105.1 0 10) + (σ105.1 0 11)) → (if 4 ≤ x1 then (∀ a107 : Int32, a107 = (σ106.1 0 4) → (wX8_read a107 1 σ106 (fun r108 σ109 => wX8_within r108 0 99 σ109 (fun r110 σ111 => Q r110 σ111)))) else (∀ a112 : Int32, a112 = (σ106.1 0 4) → (wX8_read a112 0 σ106 (fun r113 σ114 => wX8_within r113 0 99 σ114 (fun r115 σ116 => Q r115 σ116)))))))))))))
set_option maxRecDepth 20000 in
set_option maxHeartbeats 4000000 in
theorem kX8_costOf (hI : zInj tabM ad) (x1 : Int32) (x2 : Int32)  (σ : zSt) (Q : Int32 → zSt → Prop) (h : wX8_costOf x1 x2 σ Q) : zOkI l tabM D cA ad y 43 yX8_costOf cX8_costOf 3 (some .int) [.ref (ad 0), .int x1, .int x2] σ Q := by
  refine zz_enter hI (by decide) (Nat.le_of_ble_eq_true rfl) (fun p e s m below meth c M => ?_)
  have M : zM p s m _ meth c cX8_costOf 3 RX8 (some .int) tabM D cA ad y := M
  refine zz_ls [(0, .ref (ad 0)), (1, .int x1), (2, .int x2)] rfl ?_
  unfold wX8_costOf at h
  refine zz_aload_n M 0 dX8_costOf_0 rfl rfl ?_
  refine zz_iload_n M 2 dX8_costOf_1 rfl rfl ?_
  refine zz_aload_n M 0 dX8_costOf_2 rfl rfl ?_
  refine zz_getR M f_X8_26 tM_0 rfl dX8_costOf_3 ?_
  refine zz_iload_n M 1 dX8_costOf_6 rfl rfl ?_
  refine zz_iald M tM_5 h.1 dX8_costOf_7 ?_
  have h := h.2
  refine zz_isub M dX8_costOf_8 ?_
  refine zz_putI M f_X8_182 tM_0 rfl dX8_costOf_9 ?_
  refine zz_sg (fun σ101 eσ101 => ?_)
  have h := h σ101 eσ101
  refine zz_aload_n M 0 dX8_costOf_12 rfl rfl ?_
  refine zz_aload_n M 0 dX8_costOf_13 rfl rfl ?_
  refine zz_getR M f_X8_29 tM_0 rfl dX8_costOf_14 ?_
  refine zz_iload_n M 1 dX8_costOf_17 rfl rfl ?_
  refine zz_iald M tM_6 h.1 dX8_costOf_18 ?_
  have h := h.2
  refine zz_putI M f_X8_185 tM_0 rfl dX8_costOf_19 ?_
  refine zz_sg (fun σ102 eσ102 => ?_)
  have h := h σ102 eσ102
  refine zz_aload_n M 0 dX8_costOf_22 rfl rfl ?_
  refine zz_iload_n M 2 dX8_costOf_23 rfl rfl ?_
  refine zz_putI M f_X8_188 tM_0 rfl dX8_costOf_24 ?_
  refine zz_sg (fun σ103 eσ103 => ?_)
  have h := h σ103 eσ103
  refine zz_aload_n M 0 dX8_costOf_27 rfl rfl ?_
  refine zz_aload_n M 0 dX8_costOf_28 rfl rfl ?_
  refine zz_getR M f_X8_23 tM_0 rfl dX8_costOf_29 ?_
  refine zz_iload_n M 1 dX8_costOf_32 rfl rfl ?_
  refine zz_iald M tM_4 h.1 dX8_costOf_33 ?_
  have h := h.2
  refine zz_putI M f_X8_191 tM_0 rfl dX8_costOf_34 ?_
  refine zz_sg (fun σ104 eσ104 => ?_)
  have h := h σ104 eσ104
  refine zz_aload_n M 0 dX8_costOf_37 rfl rfl ?_
  refine zz_iconst (v := 0) M dX8_costOf_38 (by decide) ?_
  refine zz_putI M f_X8_194 tM_0 rfl dX8_costOf_39 ?_
  refine zz_sg (fun σ105 eσ105 => ?_)
  have h := h σ105 eσ105
  refine zz_aload_n M 0 dX8_costOf_42 rfl rfl ?_
  refine zz_aload_n M 0 dX8_costOf_43 rfl rfl ?_
  refine zz_getI M f_X8_96 tM_0 rfl dX8_costOf_44 ?_
  refine zz_aload_n M 0 dX8_costOf_47 rfl rfl ?_
  refine zz_getI M f_X8_99 tM_0 rfl dX8_costOf_48 ?_
  refine zz_iadd M dX8_costOf_51 ?_
  refine zz_putI M f_X8_197 tM_0 rfl dX8_costOf_52 ?_
  refine zz_sg (fun σ106 eσ106 => ?_)
  have h := h σ106 eσ106
  refine zz_aload_n M 0 dX8_costOf_55 rfl rfl ?_
  refine zz_aload_n M 0 dX8_costOf_56 rfl rfl ?_
  refine zz_getI M f_X8_332 tM_0 rfl dX8_costOf_57 ?_
  refine zz_iload_n M 1 dX8_costOf_60 rfl rfl ?_
  refine zz_iconst (v := 4) M dX8_costOf_61 (by decide) ?_
  refine zz_icmp_ge M 69 dX8_costOf_62 (by decide) (fun c => ?_) (fun c => ?_)
  · have h := zif (c := 4 ≤ x1) h c
    refine zz_iconst (v := 1) M dX8_costOf_69 (by decide) ?_
    obtain ⟨a107, ea107⟩ : ∃ z : Int32, z = (σ106.1 0 4) := ⟨_, rfl⟩
    have h := h a107 ea107
    refine zz_st [.int 1, .int a107, .ref (ad 0)] (by rw [ea107]) ?_
    refine zz_callVI (d' := 42) (As := [.int a107, .int 1]) (rest := []) M l_X8_328 tM_0 rfl rfl dX8_costOf_70 rfl rfl (by decide) (Nat.le_of_ble_eq_true rfl) (by have hI := M.2.2.2.2.2.2.2.2; exact kX8_read hI _ _  _ _ h) (fun r108 σ109 h => ?_)
    refine zz_iconst (v := 0) M dX8_costOf_73 (by decide) ?_
    refine zz_bipush (v := 99) M dX8_costOf_74 (by decide) ?_
    refine zz_callSI (d' := 1) (As := [.int r108, .int 0, .int 99]) (rest := []) M l_X8_335 dX8_costOf_76 rfl rfl (by decide) (Nat.le_of_ble_eq_true rfl) (by have hI := M.2.2.2.2.2.2.2.2; exact kX8_within hI _ _ _  _ _ h) (fun r110 σ111 h => ?_)
    exact zz_iret M dX8_costOf_79 h
  · have h := zifn (c := 4 ≤ x1) h c
    refine zz_iconst (v := 0) M dX8_costOf_65 (by decide) ?_
    refine zz_goto M 70 dX8_costOf_66 (by decide) ?_
    obtain ⟨a112, ea112⟩ : ∃ z : Int32, z = (σ106.1 0 4) := ⟨_, rfl⟩
    have h := h a112 ea112
    refine zz_st [.int 0, .int a112, .ref (ad 0)] (by rw [ea112]) ?_
    refine zz_callVI (d' := 42) (As := [.int a112, .int 0]) (rest := []) M l_X8_328 tM_0 rfl rfl dX8_costOf_70 rfl rfl (by decide) (Nat.le_of_ble_eq_true rfl) (by have hI := M.2.2.2.2.2.2.2.2; exact kX8_read hI _ _  _ _ h) (fun r113 σ114 h => ?_)
    refine zz_iconst (v := 0) M dX8_costOf_73 (by decide) ?_
    refine zz_bipush (v := 99) M dX8_costOf_74 (by decide) ?_
    refine zz_callSI (d' := 1) (As := [.int r113, .int 0, .int 99]) (rest := []) M l_X8_335 dX8_costOf_76 rfl rfl (by decide) (Nat.le_of_ble_eq_true rfl) (by have hI := M.2.2.2.2.2.2.2.2; exact kX8_within hI _ _ _  _ _ h) (fun r115 σ116 h => ?_)
    exact zz_iret M dX8_costOf_79 h
def wX8_told (x1 : Int32) (x2 : Int32) (x3 : Int32) (σ : zSt) (Q : Int32 → zSt → Prop) : Prop := wX8_isHere x1 x2 σ (fun r101 σ102 => if r101 = 0 then (Q (-2) σ102) else (∀ a103 : Int64, a103 = ((x3 : Int32).toInt64) → (wX8_in a103 0 5 σ102 (fun r104 σ105 => if r104 = 0 then (Q (-2) σ105) else (∀ x106 : Int32, x106 = ((4 * x1) + x2) → (if 3 ≤ x3 then (wX8_takesPlan  σ105 (fun σ108 => wX8_through x106 σ108 (fun r109 σ110 => if x3 = 3 then (if 24 ≤ r109 then (Q (-1) σ110) else (Q r109 σ110)) else (if x3 = 4 then (vp_in x106 8 ∧ (Q (r109 - (σ110.1 5 x106.toNatClampNeg)) σ110)) else (wX8_costOf x106 r109 σ110 (fun r111 σ112 => Q r111 σ112)))))) else (if x3 = 0 then (vp_in x106 8 ∧ (Q (σ105.1 4 x106.toNatClampNeg) σ105)) else (if x3 = 1 then (vp_in x106 8 ∧ (Q (σ105.1 5 x106.toNatClampNeg) σ105)) else (vp_in x106 8 ∧ (Q (σ105.1 6 x106.toNatClampNeg) σ105))))))))))
set_option maxRecDepth 20000 in
set_option maxHeartbeats 4000000 in
theorem kX8_told (hI : zInj tabM ad) (x1 : Int32) (x2 : Int32) (x3 : Int32)  (σ : zSt) (Q : Int32 → zSt → Prop) (h : wX8_told x1 x2 x3 σ Q) : zOkI l tabM D cA ad y 44 yX8_told cX8_told 6 (some .int) [.ref (ad 0), .int x1, .int x2, .int x3] σ Q := by
  refine zz_enter hI (by decide) (Nat.le_of_ble_eq_true rfl) (fun p e s m below meth c M => ?_)
  have M : zM p s m _ meth c cX8_told 6 RX8 (some .int) tabM D cA ad y := M
  refine zz_ls [(0, .ref (ad 0)), (1, .int x1), (2, .int x2), (3, .int x3)] rfl ?_
  unfold wX8_told at h
  refine zz_aload_n M 0 dX8_told_0 rfl rfl ?_
  refine zz_iload_n M 1 dX8_told_1 rfl rfl ?_
  refine zz_iload_n M 2 dX8_told_2 rfl rfl ?_
  refine zz_callVI (d' := 2) (As := [.int x1, .int x2]) (rest := []) M l_X8_108 tM_0 rfl rfl dX8_told_3 rfl rfl (by decide) (Nat.le_of_ble_eq_true rfl) (by have hI := M.2.2.2.2.2.2.2.2; exact kX8_isHere hI _ _  _ _ h) (fun r101 σ102 h => ?_)
  refine zz_if_eq (y0 := 0) M 21 dX8_told_6 (by decide) (fun c => ?_) (fun c => ?_)
  · have h := zif (c := r101 = 0) h c
    refine zz_bipush (v := (-2)) M dX8_told_21 (by decide) ?_
    exact zz_iret M dX8_told_23 h
  · have h := zifn (c := r101 = 0) h c
    refine zz_iload_n M 3 dX8_told_9 rfl rfl ?_
    refine zz_i2l M dX8_told_10 ?_
    refine zz_lconst (v := 0) M dX8_told_11 (by decide) ?_
    refine zz_ldc2 (v := 5) M k_X8_119 dX8_told_12 ?_
    obtain ⟨a103, ea103⟩ : ∃ z : Int64, z = ((x3 : Int32).toInt64) := ⟨_, rfl⟩
    have h := h a103 ea103
    refine zz_st [.long 5, .long 0, .long a103] (by rw [ea103]) ?_
    refine zz_callSI (d' := 1) (As := [.long a103, .long 0, .long 5]) (rest := []) M l_X8_92 dX8_told_15 rfl rfl (by decide) (Nat.le_of_ble_eq_true rfl) (by have hI := M.2.2.2.2.2.2.2.2; exact kX8_in hI _ _ _  _ _ h) (fun r104 σ105 h => ?_)
    refine zz_if_ne (y0 := 0) M 24 dX8_told_18 (by decide) (fun c => ?_) (fun c => ?_)
    · have h := zifn (c := r104 = 0) h c
      refine zz_iconst (v := 4) M dX8_told_24 (by decide) ?_
      refine zz_iload_n M 1 dX8_told_25 rfl rfl ?_
      refine zz_imul M dX8_told_26 ?_
      refine zz_iload_n M 2 dX8_told_27 rfl rfl ?_
      refine zz_iadd M dX8_told_28 ?_
      refine zz_topi (fun x106 ex106 => ?_)
      have h := h x106 ex106
      refine zz_istore M [(4, .int x106), (0, .ref (ad 0)), (1, .int x1), (2, .int x2), (3, .int x3)] dX8_told_29 (by decide) rfl ?_
      refine zz_iload_n M 4 dX8_told_31 rfl rfl ?_
      refine zz_iconst (v := 3) M dX8_told_32 (by decide) ?_
      refine zz_icmp_ge M 73 dX8_told_33 (by decide) (fun c => ?_) (fun c => ?_)
      · have h := zif (c := 3 ≤ x3) h c
        refine zz_aload_n M 1 dX8_told_73 rfl rfl ?_
        refine zz_callVV (d' := 1) (As := []) (rest := []) M l_X8_354 tM_0 rfl rfl dX8_told_74 rfl rfl (by decide) (Nat.le_of_ble_eq_true rfl) (by have hI := M.2.2.2.2.2.2.2.2; exact kX8_takesPlan hI   _ _ h) (fun σ108 h => ?_)
        refine zz_aload_n M 1 dX8_told_77 rfl rfl ?_
        refine zz_iload M 0 dX8_told_78 rfl ?_
        refine zz_callVI (d' := 2) (As := [.int x106]) (rest := []) M l_X8_345 tM_0 rfl rfl dX8_told_80 rfl rfl (by decide) (Nat.le_of_ble_eq_true rfl) (by have hI := M.2.2.2.2.2.2.2.2; exact kX8_through hI _  _ _ h) (fun r109 σ110 h => ?_)
        refine zz_istore M [(5, .int r109), (4, .int x106), (0, .ref (ad 0)), (1, .int x1), (2, .int x2), (3, .int x3)] dX8_told_83 (by decide) rfl ?_
        refine zz_iload_n M 5 dX8_told_85 rfl rfl ?_
        refine zz_iconst (v := 3) M dX8_told_86 (by decide) ?_
        refine zz_icmp_ne M 106 dX8_told_87 (by decide) (fun c => ?_) (fun c => ?_)
        · have h := zifn (c := x3 = 3) h c
          refine zz_iload_n M 5 dX8_told_106 rfl rfl ?_
          refine zz_iconst (v := 4) M dX8_told_107 (by decide) ?_
          refine zz_icmp_ne M 124 dX8_told_108 (by decide) (fun c => ?_) (fun c => ?_)
          · have h := zifn (c := x3 = 4) h c
            refine zz_aload_n M 2 dX8_told_124 rfl rfl ?_
            refine zz_iload M 1 dX8_told_125 rfl ?_
            refine zz_iload M 0 dX8_told_127 rfl ?_
            refine zz_callVI (d' := 43) (As := [.int x106, .int r109]) (rest := []) M l_X8_348 tM_0 rfl rfl dX8_told_129 rfl rfl (by decide) (Nat.le_of_ble_eq_true rfl) (by have hI := M.2.2.2.2.2.2.2.2; exact kX8_costOf hI _ _  _ _ h) (fun r111 σ112 h => ?_)
            exact zz_iret M dX8_told_132 h
          · have h := zif (c := x3 = 4) h c
            refine zz_iload M 0 dX8_told_111 rfl ?_
            refine zz_aload_n M 2 dX8_told_113 rfl rfl ?_
            refine zz_getR M f_X8_26 tM_0 rfl dX8_told_114 ?_
            refine zz_iload M 1 dX8_told_117 rfl ?_
            refine zz_iald M tM_5 h.1 dX8_told_119 ?_
            have h := h.2
            refine zz_isub M dX8_told_120 ?_
            refine zz_goto M 132 dX8_told_121 (by decide) ?_
            exact zz_iret M dX8_told_132 h
        · have h := zif (c := x3 = 3) h c
          refine zz_iload M 0 dX8_told_90 rfl ?_
          refine zz_bipush (v := 24) M dX8_told_92 (by decide) ?_
          refine zz_icmp_ge M 102 dX8_told_94 (by decide) (fun c => ?_) (fun c => ?_)
          · have h := zif (c := 24 ≤ r109) h c
            refine zz_iconst (v := (-1)) M dX8_told_102 (by decide) ?_
            refine zz_goto M 132 dX8_told_103 (by decide) ?_
            exact zz_iret M dX8_told_132 h
          · have h := zifn (c := 24 ≤ r109) h c
            refine zz_iload M 0 dX8_told_97 rfl ?_
            refine zz_goto M 132 dX8_told_99 (by decide) ?_
            exact zz_iret M dX8_told_132 h
      · have h := zifn (c := 3 ≤ x3) h c
        refine zz_iload_n M 4 dX8_told_36 rfl rfl ?_
        refine zz_if_ne (y0 := 0) M 50 dX8_told_37 (by decide) (fun c => ?_) (fun c => ?_)
        · have h := zifn (c := x3 = 0) h c
          refine zz_iload_n M 4 dX8_told_50 rfl rfl ?_
          refine zz_iconst (v := 1) M dX8_told_51 (by decide) ?_
          refine zz_icmp_ne M 65 dX8_told_52 (by decide) (fun c => ?_) (fun c => ?_)
          · have h := zifn (c := x3 = 1) h c
            refine zz_aload_n M 1 dX8_told_65 rfl rfl ?_
            refine zz_getR M f_X8_29 tM_0 rfl dX8_told_66 ?_
            refine zz_iload M 0 dX8_told_69 rfl ?_
            refine zz_iald M tM_6 h.1 dX8_told_71 ?_
            have h := h.2
            exact zz_iret M dX8_told_72 h
          · have h := zif (c := x3 = 1) h c
            refine zz_aload_n M 1 dX8_told_55 rfl rfl ?_
            refine zz_getR M f_X8_26 tM_0 rfl dX8_told_56 ?_
            refine zz_iload M 0 dX8_told_59 rfl ?_
            refine zz_iald M tM_5 h.1 dX8_told_61 ?_
            have h := h.2
            refine zz_goto M 72 dX8_told_62 (by decide) ?_
            exact zz_iret M dX8_told_72 h
        · have h := zif (c := x3 = 0) h c
          refine zz_aload_n M 1 dX8_told_40 rfl rfl ?_
          refine zz_getR M f_X8_23 tM_0 rfl dX8_told_41 ?_
          refine zz_iload M 0 dX8_told_44 rfl ?_
          refine zz_iald M tM_4 h.1 dX8_told_46 ?_
          have h := h.2
          refine zz_goto M 72 dX8_told_47 (by decide) ?_
          exact zz_iret M dX8_told_72 h
    · have h := zif (c := r104 = 0) h c
      refine zz_bipush (v := (-2)) M dX8_told_21 (by decide) ?_
      exact zz_iret M dX8_told_23 h
def wX8_up (x1 : Int32) (x2 : Int32) (σ : zSt) (Q : Int32 → zSt → Prop) : Prop := ∀ a101 : Int64, a101 = ((x1 : Int32).toInt64) → (wX8_in a101 0 23 σ (fun r102 σ103 => if r102 = 0 then (Q (-2) σ103) else (∀ a104 : Int64, a104 = ((x2 : Int32).toInt64) → (wX8_in a104 0 2 σ103 (fun r105 σ106 => if r105 = 0 then (Q (-2) σ106) else (vp_in x1 24 ∧ (∀ x107 : Int32, x107 = (σ106.1 9 x1.toNatClampNeg) → (vp_in x1 24 ∧ (∀ σ108 : zSt, σ108 = zput σ106 9 x1.toNatClampNeg x2 → (Q x107 σ108))))))))))
set_option maxRecDepth 20000 in
set_option maxHeartbeats 4000000 in
theorem kX8_up (hI : zInj tabM ad) (x1 : Int32) (x2 : Int32)  (σ : zSt) (Q : Int32 → zSt → Prop) (h : wX8_up x1 x2 σ Q) : zOkI l tabM D cA ad y 2 yX8_up cX8_up 4 (some .int) [.ref (ad 0), .int x1, .int x2] σ Q := by
  refine zz_enter hI (by decide) (Nat.le_of_ble_eq_true rfl) (fun p e s m below meth c M => ?_)
  have M : zM p s m _ meth c cX8_up 4 RX8 (some .int) tabM D cA ad y := M
  refine zz_ls [(0, .ref (ad 0)), (1, .int x1), (2, .int x2)] rfl ?_
  unfold wX8_up at h
  refine zz_iload_n M 1 dX8_up_0 rfl rfl ?_
  refine zz_i2l M dX8_up_1 ?_
  refine zz_lconst (v := 0) M dX8_up_2 (by decide) ?_
  refine zz_ldc2 (v := 23) M k_X8_112 dX8_up_3 ?_
  obtain ⟨a101, ea101⟩ : ∃ z : Int64, z = ((x1 : Int32).toInt64) := ⟨_, rfl⟩
  have h := h a101 ea101
  refine zz_st [.long 23, .long 0, .long a101] (by rw [ea101]) ?_
  refine zz_callSI (d' := 1) (As := [.long a101, .long 0, .long 23]) (rest := []) M l_X8_92 dX8_up_6 rfl rfl (by decide) (Nat.le_of_ble_eq_true rfl) (by have hI := M.2.2.2.2.2.2.2.2; exact kX8_in hI _ _ _  _ _ h) (fun r102 σ103 h => ?_)
  refine zz_if_eq (y0 := 0) M 24 dX8_up_9 (by decide) (fun c => ?_) (fun c => ?_)
  · have h := zif (c := r102 = 0) h c
    refine zz_bipush (v := (-2)) M dX8_up_24 (by decide) ?_
    exact zz_iret M dX8_up_26 h
  · have h := zifn (c := r102 = 0) h c
    refine zz_iload_n M 2 dX8_up_12 rfl rfl ?_
    refine zz_i2l M dX8_up_13 ?_
    refine zz_lconst (v := 0) M dX8_up_14 (by decide) ?_
    refine zz_ldc2 (v := 2) M k_X8_104 dX8_up_15 ?_
    obtain ⟨a104, ea104⟩ : ∃ z : Int64, z = ((x2 : Int32).toInt64) := ⟨_, rfl⟩
    have h := h a104 ea104
    refine zz_st [.long 2, .long 0, .long a104] (by rw [ea104]) ?_
    refine zz_callSI (d' := 1) (As := [.long a104, .long 0, .long 2]) (rest := []) M l_X8_92 dX8_up_18 rfl rfl (by decide) (Nat.le_of_ble_eq_true rfl) (by have hI := M.2.2.2.2.2.2.2.2; exact kX8_in hI _ _ _  _ _ h) (fun r105 σ106 h => ?_)
    refine zz_if_ne (y0 := 0) M 27 dX8_up_21 (by decide) (fun c => ?_) (fun c => ?_)
    · have h := zifn (c := r105 = 0) h c
      refine zz_aload_n M 0 dX8_up_27 rfl rfl ?_
      refine zz_getR M f_X8_44 tM_0 rfl dX8_up_28 ?_
      refine zz_iload_n M 1 dX8_up_31 rfl rfl ?_
      refine zz_iald M tM_9 h.1 dX8_up_32 ?_
      have h := h.2
      refine zz_topi (fun x107 ex107 => ?_)
      have h := h x107 ex107
      refine zz_istore_n M [(3, .int x107), (0, .ref (ad 0)), (1, .int x1), (2, .int x2)] dX8_up_33 rfl (by decide) rfl ?_
      refine zz_aload_n M 1 dX8_up_34 rfl rfl ?_
      refine zz_getR M f_X8_44 tM_0 rfl dX8_up_35 ?_
      refine zz_iload_n M 2 dX8_up_38 rfl rfl ?_
      refine zz_iload_n M 3 dX8_up_39 rfl rfl ?_
      refine zz_iast M tM_9 h.1 dX8_up_40 ?_
      have h := h.2
      refine zz_sg (fun σ108 eσ108 => ?_)
      have h := h σ108 eσ108
      refine zz_iload_n M 0 dX8_up_41 rfl rfl ?_
      exact zz_iret M dX8_up_42 h
    · have h := zif (c := r105 = 0) h c
      refine zz_bipush (v := (-2)) M dX8_up_24 (by decide) ?_
      exact zz_iret M dX8_up_26 h
def wX8_at (x1 : Int32) (σ : zSt) (Q : Int32 → zSt → Prop) : Prop := ∀ a101 : Int64, a101 = ((x1 : Int32).toInt64) → (wX8_in a101 0 23 σ (fun r102 σ103 => if r102 = 0 then (Q (-2) σ103) else (vp_in x1 24 ∧ (Q (σ103.1 9 x1.toNatClampNeg) σ103))))
set_option maxRecDepth 20000 in
set_option maxHeartbeats 4000000 in
theorem kX8_at (hI : zInj tabM ad) (x1 : Int32)  (σ : zSt) (Q : Int32 → zSt → Prop) (h : wX8_at x1 σ Q) : zOkI l tabM D cA ad y 2 yX8_at cX8_at 2 (some .int) [.ref (ad 0), .int x1] σ Q := by
  refine zz_enter hI (by decide) (Nat.le_of_ble_eq_true rfl) (fun p e s m below meth c M => ?_)
  have M : zM p s m _ meth c cX8_at 2 RX8 (some .int) tabM D cA ad y := M
  refine zz_ls [(0, .ref (ad 0)), (1, .int x1)] rfl ?_
  unfold wX8_at at h
  refine zz_iload_n M 1 dX8_at_0 rfl rfl ?_
  refine zz_i2l M dX8_at_1 ?_
  refine zz_lconst (v := 0) M dX8_at_2 (by decide) ?_
  refine zz_ldc2 (v := 23) M k_X8_112 dX8_at_3 ?_
  obtain ⟨a101, ea101⟩ : ∃ z : Int64, z = ((x1 : Int32).toInt64) := ⟨_, rfl⟩
  have h := h a101 ea101
  refine zz_st [.long 23, .long 0, .long a101] (by rw [ea101]) ?_
  refine zz_callSI (d' := 1) (As := [.long a101, .long 0, .long 23]) (rest := []) M l_X8_92 dX8_at_6 rfl rfl (by decide) (Nat.le_of_ble_eq_true rfl) (by have hI := M.2.2.2.2.2.2.2.2; exact kX8_in hI _ _ _  _ _ h) (fun r102 σ103 h => ?_)
  refine zz_if_eq (y0 := 0) M 21 dX8_at_9 (by decide) (fun c => ?_) (fun c => ?_)
  · have h := zif (c := r102 = 0) h c
    refine zz_bipush (v := (-2)) M dX8_at_21 (by decide) ?_
    exact zz_iret M dX8_at_23 h
  · have h := zifn (c := r102 = 0) h c
    refine zz_aload_n M 0 dX8_at_12 rfl rfl ?_
    refine zz_getR M f_X8_44 tM_0 rfl dX8_at_13 ?_
    refine zz_iload_n M 1 dX8_at_16 rfl rfl ?_
    refine zz_iald M tM_9 h.1 dX8_at_17 ?_
    have h := h.2
    refine zz_goto M 23 dX8_at_18 (by decide) ?_
    exact zz_iret M dX8_at_23 h
def wX8_rowLawful_L4 (Q : Int32 → zSt → Prop) (K35 : zSt → Prop) (K68 : zSt → Prop)  : Nat → Int32 → Int32 → zSt → Prop
  | 0, _, _, _ => False
  | n + 1, x1, x2, σ => if 24 ≤ x2 then (K68  σ) else (vp_in x2 24 ∧ (vp_in (x2 - 1) 24 ∧ (if (σ.1 10 x2.toNatClampNeg) = (σ.1 10 (x2 - 1 : Int32).toNatClampNeg) then (vp_in x2 24 ∧ (vp_in (x2 - 1) 24 ∧ (if (σ.1 10 x2.toNatClampNeg) = (σ.1 10 (x2 - 1 : Int32).toNatClampNeg) then (∀ x102 : Int32, x102 = (x1 + 1) → (∀ x103 : Int32, x103 = x2 + 1 → (wX8_rowLawful_L4 Q K35 K68  n x102 x103 σ))) else (∀ x101 : Int32, x101 = x2 + 1 → (wX8_rowLawful_L4 Q K35 K68  n 1 x101 σ))))) else (if (σ.1 0 12) ≤ x1 then (vp_in x2 24 ∧ (vp_in (x2 - 1) 24 ∧ (if (σ.1 10 x2.toNatClampNeg) = (σ.1 10 (x2 - 1 : Int32).toNatClampNeg) then (∀ x105 : Int32, x105 = (x1 + 1) → (∀ x106 : Int32, x106 = x2 + 1 → (wX8_rowLawful_L4 Q K35 K68  n x105 x106 σ))) else (∀ x104 : Int32, x104 = x2 + 1 → (wX8_rowLawful_L4 Q K35 K68  n 1 x104 σ))))) else (K35  σ)))))
set_option maxRecDepth 20000 in
set_option maxHeartbeats 4000000 in
theorem sX8_rowLawful_L4 {Q : Int32 → zSt → Prop} {K35 : zSt → Prop} {K68 : zSt → Prop}   (M : zM p s m args meth c cX8_rowLawful 3 RX8 (some .boolean) tabM D cA ad y) (hK35 : ∀ (σ : zSt), K35  σ → zG p l e (zrm 1) s m args below meth c 3 tabM D cA ad (MQ below (va_Qi Q (fun σ' t => va_P D vwCl (zws tabM cA ad σ') t.heap) (zIn tabM ad)) args s 0 0 (zIn tabM ad)) 35 [] [] σ) (hK68 : ∀ (σ : zSt), K68  σ → zG p l e (zrm 1) s m args below meth c 3 tabM D cA ad (MQ below (va_Qi Q (fun σ' t => va_P D vwCl (zws tabM cA ad σ') t.heap) (zIn tabM ad)) args s 0 0 (zIn tabM ad)) 68 [] [] σ) : ∀ (n : Nat) (x1 : Int32) (x2 : Int32) (σ : zSt), wX8_rowLawful_L4 Q K35 K68  n x1 x2 σ → zG p l e (zrm 1) s m args below meth c 3 tabM D cA ad (MQ below (va_Qi Q (fun σ' t => va_P D vwCl (zws tabM cA ad σ') t.heap) (zIn tabM ad)) args s 0 0 (zIn tabM ad)) 4 [(0, .ref (ad 0)), (1, .int x1), (2, .int x2)] [] σ := by
  intro n
  induction n with
  | zero => intro x1 x2 σ h; exact absurd h (by simp [wX8_rowLawful_L4])
  | succ n ih =>
    intro x1 x2 σ h
    unfold wX8_rowLawful_L4 at h
    refine zz_iload_n M 2 dX8_rowLawful_4 rfl rfl ?_
    refine zz_bipush (v := 24) M dX8_rowLawful_5 (by decide) ?_
    refine zz_icmp_ge M 68 dX8_rowLawful_7 (by decide) (fun c => ?_) (fun c => ?_)
    · have h := zif (c := 24 ≤ x2) h c
      refine zz_sub [] [] rfl ?_
      exact hK68  _ h
    · have h := zifn (c := 24 ≤ x2) h c
      refine zz_aload_n M 0 dX8_rowLawful_10 rfl rfl ?_
      refine zz_getR M f_X8_47 tM_0 rfl dX8_rowLawful_11 ?_
      refine zz_iload_n M 2 dX8_rowLawful_14 rfl rfl ?_
      refine zz_iald M tM_10 h.1 dX8_rowLawful_15 ?_
      have h := h.2
      refine zz_aload_n M 0 dX8_rowLawful_16 rfl rfl ?_
      refine zz_getR M f_X8_47 tM_0 rfl dX8_rowLawful_17 ?_
      refine zz_iload_n M 2 dX8_rowLawful_20 rfl rfl ?_
      refine zz_iconst (v := 1) M dX8_rowLawful_21 (by decide) ?_
      refine zz_isub M dX8_rowLawful_22 ?_
      refine zz_iald M tM_10 h.1 dX8_rowLawful_23 ?_
      have h := h.2
      refine zz_icmp_eq M 37 dX8_rowLawful_24 (by decide) (fun c => ?_) (fun c => ?_)
      · have h := zif (c := (σ.1 10 x2.toNatClampNeg) = (σ.1 10 (x2 - 1 : Int32).toNatClampNeg)) h c
        refine zz_aload_n M 0 dX8_rowLawful_37 rfl rfl ?_
        refine zz_getR M f_X8_47 tM_0 rfl dX8_rowLawful_38 ?_
        refine zz_iload_n M 2 dX8_rowLawful_41 rfl rfl ?_
        refine zz_iald M tM_10 h.1 dX8_rowLawful_42 ?_
        have h := h.2
        refine zz_aload_n M 0 dX8_rowLawful_43 rfl rfl ?_
        refine zz_getR M f_X8_47 tM_0 rfl dX8_rowLawful_44 ?_
        refine zz_iload_n M 2 dX8_rowLawful_47 rfl rfl ?_
        refine zz_iconst (v := 1) M dX8_rowLawful_48 (by decide) ?_
        refine zz_isub M dX8_rowLawful_49 ?_
        refine zz_iald M tM_10 h.1 dX8_rowLawful_50 ?_
        have h := h.2
        refine zz_icmp_ne M 60 dX8_rowLawful_51 (by decide) (fun c => ?_) (fun c => ?_)
        · have h := zifn (c := (σ.1 10 x2.toNatClampNeg) = (σ.1 10 (x2 - 1 : Int32).toNatClampNeg)) h c
          refine zz_iconst (v := 1) M dX8_rowLawful_60 (by decide) ?_
          refine zz_istore_n M [(1, .int 1), (0, .ref (ad 0)), (2, .int x2)] dX8_rowLawful_61 rfl (by decide) rfl ?_
          obtain ⟨x101, ex101⟩ : ∃ z : Int32, z = x2 + 1 := ⟨_, rfl⟩
          have h := h x101 ex101
          refine zz_iinc M [(2, .int x101), (1, .int 1), (0, .ref (ad 0))] 2 dX8_rowLawful_62 rfl (n32 := 1) (by decide) ex101 (by decide) rfl ?_
          refine zz_goto M 4 dX8_rowLawful_65 (by decide) ?_
          refine zz_sub [(0, .ref (ad 0)), (1, .int 1), (2, .int x101)] [2, 1, 0] rfl ?_
          exact ih _ _ _ h
        · have h := zif (c := (σ.1 10 x2.toNatClampNeg) = (σ.1 10 (x2 - 1 : Int32).toNatClampNeg)) h c
          refine zz_iload_n M 1 dX8_rowLawful_54 rfl rfl ?_
          refine zz_iconst (v := 1) M dX8_rowLawful_55 (by decide) ?_
          refine zz_iadd M dX8_rowLawful_56 ?_
          refine zz_goto M 61 dX8_rowLawful_57 (by decide) ?_
          refine zz_topi (fun x102 ex102 => ?_)
          have h := h x102 ex102
          refine zz_istore_n M [(1, .int x102), (0, .ref (ad 0)), (2, .int x2)] dX8_rowLawful_61 rfl (by decide) rfl ?_
          obtain ⟨x103, ex103⟩ : ∃ z : Int32, z = x2 + 1 := ⟨_, rfl⟩
          have h := h x103 ex103
          refine zz_iinc M [(2, .int x103), (1, .int x102), (0, .ref (ad 0))] 2 dX8_rowLawful_62 rfl (n32 := 1) (by decide) ex103 (by decide) rfl ?_
          refine zz_goto M 4 dX8_rowLawful_65 (by decide) ?_
          refine zz_sub [(0, .ref (ad 0)), (1, .int x102), (2, .int x103)] [2, 1, 0] rfl ?_
          exact ih _ _ _ h
      · have h := zifn (c := (σ.1 10 x2.toNatClampNeg) = (σ.1 10 (x2 - 1 : Int32).toNatClampNeg)) h c
        refine zz_iload_n M 1 dX8_rowLawful_27 rfl rfl ?_
        refine zz_aload_n M 0 dX8_rowLawful_28 rfl rfl ?_
        refine zz_getI M f_X8_32 tM_0 rfl dX8_rowLawful_29 ?_
        refine zz_icmp_ge M 37 dX8_rowLawful_32 (by decide) (fun c => ?_) (fun c => ?_)
        · have h := zif (c := (σ.1 0 12) ≤ x1) h c
          refine zz_aload_n M 0 dX8_rowLawful_37 rfl rfl ?_
          refine zz_getR M f_X8_47 tM_0 rfl dX8_rowLawful_38 ?_
          refine zz_iload_n M 2 dX8_rowLawful_41 rfl rfl ?_
          refine zz_iald M tM_10 h.1 dX8_rowLawful_42 ?_
          have h := h.2
          refine zz_aload_n M 0 dX8_rowLawful_43 rfl rfl ?_
          refine zz_getR M f_X8_47 tM_0 rfl dX8_rowLawful_44 ?_
          refine zz_iload_n M 2 dX8_rowLawful_47 rfl rfl ?_
          refine zz_iconst (v := 1) M dX8_rowLawful_48 (by decide) ?_
          refine zz_isub M dX8_rowLawful_49 ?_
          refine zz_iald M tM_10 h.1 dX8_rowLawful_50 ?_
          have h := h.2
          refine zz_icmp_ne M 60 dX8_rowLawful_51 (by decide) (fun c => ?_) (fun c => ?_)
          · have h := zifn (c := (σ.1 10 x2.toNatClampNeg) = (σ.1 10 (x2 - 1 : Int32).toNatClampNeg)) h c
            refine zz_iconst (v := 1) M dX8_rowLawful_60 (by decide) ?_
            refine zz_istore_n M [(1, .int 1), (0, .ref (ad 0)), (2, .int x2)] dX8_rowLawful_61 rfl (by decide) rfl ?_
            obtain ⟨x104, ex104⟩ : ∃ z : Int32, z = x2 + 1 := ⟨_, rfl⟩
            have h := h x104 ex104
            refine zz_iinc M [(2, .int x104), (1, .int 1), (0, .ref (ad 0))] 2 dX8_rowLawful_62 rfl (n32 := 1) (by decide) ex104 (by decide) rfl ?_
            refine zz_goto M 4 dX8_rowLawful_65 (by decide) ?_
            refine zz_sub [(0, .ref (ad 0)), (1, .int 1), (2, .int x104)] [2, 1, 0] rfl ?_
            exact ih _ _ _ h
          · have h := zif (c := (σ.1 10 x2.toNatClampNeg) = (σ.1 10 (x2 - 1 : Int32).toNatClampNeg)) h c
            refine zz_iload_n M 1 dX8_rowLawful_54 rfl rfl ?_
            refine zz_iconst (v := 1) M dX8_rowLawful_55 (by decide) ?_
            refine zz_iadd M dX8_rowLawful_56 ?_
            refine zz_goto M 61 dX8_rowLawful_57 (by decide) ?_
            refine zz_topi (fun x105 ex105 => ?_)
            have h := h x105 ex105
            refine zz_istore_n M [(1, .int x105), (0, .ref (ad 0)), (2, .int x2)] dX8_rowLawful_61 rfl (by decide) rfl ?_
            obtain ⟨x106, ex106⟩ : ∃ z : Int32, z = x2 + 1 := ⟨_, rfl⟩
            have h := h x106 ex106
            refine zz_iinc M [(2, .int x106), (1, .int x105), (0, .ref (ad 0))] 2 dX8_rowLawful_62 rfl (n32 := 1) (by decide) ex106 (by decide) rfl ?_
            refine zz_goto M 4 dX8_rowLawful_65 (by decide) ?_
            refine zz_sub [(0, .ref (ad 0)), (1, .int x105), (2, .int x106)] [2, 1, 0] rfl ?_
            exact ih _ _ _ h
        · have h := zifn (c := (σ.1 0 12) ≤ x1) h c
          refine zz_sub [] [] rfl ?_
          exact hK35  _ h
def wX8_rowLawful  (σ : zSt) (Q : Int32 → zSt → Prop) : Prop := wX8_rowLawful_L4 Q (fun  σ107 => Q 0 σ107) (fun  σ108 => Q 1 σ108)  300 1 1 σ
set_option maxRecDepth 20000 in
set_option maxHeartbeats 4000000 in
theorem kX8_rowLawful (hI : zInj tabM ad)   (σ : zSt) (Q : Int32 → zSt → Prop) (h : wX8_rowLawful  σ Q) : zOkI l tabM D cA ad y 1 yX8_rowLawful cX8_rowLawful 3 (some .boolean) [.ref (ad 0)] σ Q := by
  refine zz_enter hI (by decide) (Nat.le_of_ble_eq_true rfl) (fun p e s m below meth c M => ?_)
  have M : zM p s m _ meth c cX8_rowLawful 3 RX8 (some .boolean) tabM D cA ad y := M
  refine zz_ls [(0, .ref (ad 0))] rfl ?_
  unfold wX8_rowLawful at h
  refine zz_iconst (v := 1) M dX8_rowLawful_0 (by decide) ?_
  refine zz_istore_n M [(1, .int 1), (0, .ref (ad 0))] dX8_rowLawful_1 rfl (by decide) rfl ?_
  refine zz_iconst (v := 1) M dX8_rowLawful_2 (by decide) ?_
  refine zz_istore_n M [(2, .int 1), (1, .int 1), (0, .ref (ad 0))] dX8_rowLawful_3 rfl (by decide) rfl ?_
  refine zz_sub [(0, .ref (ad 0)), (1, .int 1), (2, .int 1)] [2, 1, 0] rfl ?_
  refine sX8_rowLawful_L4   M (fun  σ107 h => ?_) (fun  σ108 h => ?_) 300 _ _ _ h
  · refine zz_iconst (v := 0) M dX8_rowLawful_35 (by decide) ?_
    exact zz_zret M dX8_rowLawful_36 (Or.inl rfl) h
  · refine zz_iconst (v := 1) M dX8_rowLawful_68 (by decide) ?_
    exact zz_zret M dX8_rowLawful_69 (Or.inr rfl) h
def wX8_isOne (x1 : Int32) (σ : zSt) (Q : Int32 → zSt → Prop) : Prop := if 4 ≤ x1 then (if (σ.1 0 11) ≤ (x1 - 4) then (Q 0 σ) else (Q 1 σ)) else (if (σ.1 0 10) ≤ x1 then (Q 0 σ) else (Q 1 σ))
set_option maxRecDepth 20000 in
set_option maxHeartbeats 4000000 in
theorem kX8_isOne (hI : zInj tabM ad) (x1 : Int32)  (σ : zSt) (Q : Int32 → zSt → Prop) (h : wX8_isOne x1 σ Q) : zOkI l tabM D cA ad y 1 yX8_isOne cX8_isOne 2 (some .boolean) [.ref (ad 0), .int x1] σ Q := by
  refine zz_enter hI (by decide) (Nat.le_of_ble_eq_true rfl) (fun p e s m below meth c M => ?_)
  have M : zM p s m _ meth c cX8_isOne 2 RX8 (some .boolean) tabM D cA ad y := M
  refine zz_ls [(0, .ref (ad 0)), (1, .int x1)] rfl ?_
  unfold wX8_isOne at h
  refine zz_iload_n M 1 dX8_isOne_0 rfl rfl ?_
  refine zz_iconst (v := 4) M dX8_isOne_1 (by decide) ?_
  refine zz_icmp_ge M 21 dX8_isOne_2 (by decide) (fun c => ?_) (fun c => ?_)
  · have h := zif (c := 4 ≤ x1) h c
    refine zz_iload_n M 1 dX8_isOne_21 rfl rfl ?_
    refine zz_iconst (v := 4) M dX8_isOne_22 (by decide) ?_
    refine zz_isub M dX8_isOne_23 ?_
    refine zz_aload_n M 0 dX8_isOne_24 rfl rfl ?_
    refine zz_getI M f_X8_99 tM_0 rfl dX8_isOne_25 ?_
    refine zz_icmp_ge M 35 dX8_isOne_28 (by decide) (fun c => ?_) (fun c => ?_)
    · have h := zif (c := (σ.1 0 11) ≤ (x1 - 4)) h c
      refine zz_iconst (v := 0) M dX8_isOne_35 (by decide) ?_
      exact zz_zret M dX8_isOne_36 (Or.inl rfl) h
    · have h := zifn (c := (σ.1 0 11) ≤ (x1 - 4)) h c
      refine zz_iconst (v := 1) M dX8_isOne_31 (by decide) ?_
      refine zz_goto M 36 dX8_isOne_32 (by decide) ?_
      exact zz_zret M dX8_isOne_36 (Or.inr rfl) h
  · have h := zifn (c := 4 ≤ x1) h c
    refine zz_iload_n M 1 dX8_isOne_5 rfl rfl ?_
    refine zz_aload_n M 0 dX8_isOne_6 rfl rfl ?_
    refine zz_getI M f_X8_96 tM_0 rfl dX8_isOne_7 ?_
    refine zz_icmp_ge M 17 dX8_isOne_10 (by decide) (fun c => ?_) (fun c => ?_)
    · have h := zif (c := (σ.1 0 10) ≤ x1) h c
      refine zz_iconst (v := 0) M dX8_isOne_17 (by decide) ?_
      refine zz_goto M 36 dX8_isOne_18 (by decide) ?_
      exact zz_zret M dX8_isOne_36 (Or.inl rfl) h
    · have h := zifn (c := (σ.1 0 10) ≤ x1) h c
      refine zz_iconst (v := 1) M dX8_isOne_13 (by decide) ?_
      refine zz_goto M 36 dX8_isOne_14 (by decide) ?_
      exact zz_zret M dX8_isOne_36 (Or.inr rfl) h
def wX8_rowThrough_L4 (Q : Int32 → zSt → Prop) (K42 : Int32 → zSt → Prop)  : Nat → Int32 → Int32 → zSt → Prop
  | 0, _, _, _ => False
  | n + 1, x1, x2, σ => if 8 ≤ x2 then (K42 x1 σ) else (wX8_isOne x2 σ (fun r101 σ102 => if r101 = 0 then (∀ x103 : Int32, x103 = (x1 + 0) → (∀ x104 : Int32, x104 = x2 + 1 → (wX8_rowThrough_L4 Q K42  n x103 x104 σ102))) else (wX8_through x2 σ102 (fun r105 σ106 => if 24 ≤ r105 then (∀ x107 : Int32, x107 = (x1 + 0) → (∀ x108 : Int32, x108 = x2 + 1 → (wX8_rowThrough_L4 Q K42  n x107 x108 σ106))) else (∀ x109 : Int32, x109 = (x1 + 1) → (∀ x110 : Int32, x110 = x2 + 1 → (wX8_rowThrough_L4 Q K42  n x109 x110 σ106)))))))
set_option maxRecDepth 20000 in
set_option maxHeartbeats 4000000 in
theorem sX8_rowThrough_L4 {Q : Int32 → zSt → Prop} {K42 : Int32 → zSt → Prop}   (M : zM p s m args meth c cX8_rowThrough 3 RX8 (some .int) tabM D cA ad y) (hK42 : ∀ (v1 : Int32) (σ : zSt), K42 v1 σ → zG p l e (zrm 3) s m args below meth c 3 tabM D cA ad (MQ below (va_Qi Q (fun σ' t => va_P D vwCl (zws tabM cA ad σ') t.heap) (zIn tabM ad)) args s 0 0 (zIn tabM ad)) 42 [(1, .int v1)] [] σ) : ∀ (n : Nat) (x1 : Int32) (x2 : Int32) (σ : zSt), wX8_rowThrough_L4 Q K42  n x1 x2 σ → zG p l e (zrm 3) s m args below meth c 3 tabM D cA ad (MQ below (va_Qi Q (fun σ' t => va_P D vwCl (zws tabM cA ad σ') t.heap) (zIn tabM ad)) args s 0 0 (zIn tabM ad)) 4 [(0, .ref (ad 0)), (1, .int x1), (2, .int x2)] [] σ := by
  intro n
  induction n with
  | zero => intro x1 x2 σ h; exact absurd h (by simp [wX8_rowThrough_L4])
  | succ n ih =>
    intro x1 x2 σ h
    unfold wX8_rowThrough_L4 at h
    refine zz_iload_n M 2 dX8_rowThrough_4 rfl rfl ?_
    refine zz_bipush (v := 8) M dX8_rowThrough_5 (by decide) ?_
    refine zz_icmp_ge M 42 dX8_rowThrough_7 (by decide) (fun c => ?_) (fun c => ?_)
    · have h := zif (c := 8 ≤ x2) h c
      refine zz_sub [(1, .int x1)] [1] rfl ?_
      exact hK42 _ _ h
    · have h := zifn (c := 8 ≤ x2) h c
      refine zz_iload_n M 1 dX8_rowThrough_10 rfl rfl ?_
      refine zz_aload_n M 0 dX8_rowThrough_11 rfl rfl ?_
      refine zz_iload_n M 2 dX8_rowThrough_12 rfl rfl ?_
      refine zz_callVI (d' := 1) (As := [.int x2]) (rest := [.int x1]) M l_X8_342 tM_0 rfl rfl dX8_rowThrough_13 rfl rfl (by decide) (Nat.le_of_ble_eq_true rfl) (by have hI := M.2.2.2.2.2.2.2.2; exact kX8_isOne hI _  _ _ h) (fun r101 σ102 h => ?_)
      refine zz_if_eq (y0 := 0) M 33 dX8_rowThrough_16 (by decide) (fun c => ?_) (fun c => ?_)
      · have h := zif (c := r101 = 0) h c
        refine zz_iconst (v := 0) M dX8_rowThrough_33 (by decide) ?_
        refine zz_iadd M dX8_rowThrough_34 ?_
        refine zz_topi (fun x103 ex103 => ?_)
        have h := h x103 ex103
        refine zz_istore_n M [(1, .int x103), (0, .ref (ad 0)), (2, .int x2)] dX8_rowThrough_35 rfl (by decide) rfl ?_
        obtain ⟨x104, ex104⟩ : ∃ z : Int32, z = x2 + 1 := ⟨_, rfl⟩
        have h := h x104 ex104
        refine zz_iinc M [(2, .int x104), (1, .int x103), (0, .ref (ad 0))] 2 dX8_rowThrough_36 rfl (n32 := 1) (by decide) ex104 (by decide) rfl ?_
        refine zz_goto M 4 dX8_rowThrough_39 (by decide) ?_
        refine zz_sub [(0, .ref (ad 0)), (1, .int x103), (2, .int x104)] [2, 1, 0] rfl ?_
        exact ih _ _ _ h
      · have h := zifn (c := r101 = 0) h c
        refine zz_aload_n M 0 dX8_rowThrough_19 rfl rfl ?_
        refine zz_iload_n M 2 dX8_rowThrough_20 rfl rfl ?_
        refine zz_callVI (d' := 2) (As := [.int x2]) (rest := [.int x1]) M l_X8_345 tM_0 rfl rfl dX8_rowThrough_21 rfl rfl (by decide) (Nat.le_of_ble_eq_true rfl) (by have hI := M.2.2.2.2.2.2.2.2; exact kX8_through hI _  _ _ h) (fun r105 σ106 h => ?_)
        refine zz_bipush (v := 24) M dX8_rowThrough_24 (by decide) ?_
        refine zz_icmp_ge M 33 dX8_rowThrough_26 (by decide) (fun c => ?_) (fun c => ?_)
        · have h := zif (c := 24 ≤ r105) h c
          refine zz_iconst (v := 0) M dX8_rowThrough_33 (by decide) ?_
          refine zz_iadd M dX8_rowThrough_34 ?_
          refine zz_topi (fun x107 ex107 => ?_)
          have h := h x107 ex107
          refine zz_istore_n M [(1, .int x107), (0, .ref (ad 0)), (2, .int x2)] dX8_rowThrough_35 rfl (by decide) rfl ?_
          obtain ⟨x108, ex108⟩ : ∃ z : Int32, z = x2 + 1 := ⟨_, rfl⟩
          have h := h x108 ex108
          refine zz_iinc M [(2, .int x108), (1, .int x107), (0, .ref (ad 0))] 2 dX8_rowThrough_36 rfl (n32 := 1) (by decide) ex108 (by decide) rfl ?_
          refine zz_goto M 4 dX8_rowThrough_39 (by decide) ?_
          refine zz_sub [(0, .ref (ad 0)), (1, .int x107), (2, .int x108)] [2, 1, 0] rfl ?_
          exact ih _ _ _ h
        · have h := zifn (c := 24 ≤ r105) h c
          refine zz_iconst (v := 1) M dX8_rowThrough_29 (by decide) ?_
          refine zz_goto M 34 dX8_rowThrough_30 (by decide) ?_
          refine zz_iadd M dX8_rowThrough_34 ?_
          refine zz_topi (fun x109 ex109 => ?_)
          have h := h x109 ex109
          refine zz_istore_n M [(1, .int x109), (0, .ref (ad 0)), (2, .int x2)] dX8_rowThrough_35 rfl (by decide) rfl ?_
          obtain ⟨x110, ex110⟩ : ∃ z : Int32, z = x2 + 1 := ⟨_, rfl⟩
          have h := h x110 ex110
          refine zz_iinc M [(2, .int x110), (1, .int x109), (0, .ref (ad 0))] 2 dX8_rowThrough_36 rfl (n32 := 1) (by decide) ex110 (by decide) rfl ?_
          refine zz_goto M 4 dX8_rowThrough_39 (by decide) ?_
          refine zz_sub [(0, .ref (ad 0)), (1, .int x109), (2, .int x110)] [2, 1, 0] rfl ?_
          exact ih _ _ _ h
def wX8_rowThrough  (σ : zSt) (Q : Int32 → zSt → Prop) : Prop := wX8_rowThrough_L4 Q (fun v111 σ112 => Q v111 σ112)  300 0 0 σ
set_option maxRecDepth 20000 in
set_option maxHeartbeats 4000000 in
theorem kX8_rowThrough (hI : zInj tabM ad)   (σ : zSt) (Q : Int32 → zSt → Prop) (h : wX8_rowThrough  σ Q) : zOkI l tabM D cA ad y 3 yX8_rowThrough cX8_rowThrough 3 (some .int) [.ref (ad 0)] σ Q := by
  refine zz_enter hI (by decide) (Nat.le_of_ble_eq_true rfl) (fun p e s m below meth c M => ?_)
  have M : zM p s m _ meth c cX8_rowThrough 3 RX8 (some .int) tabM D cA ad y := M
  refine zz_ls [(0, .ref (ad 0))] rfl ?_
  unfold wX8_rowThrough at h
  refine zz_iconst (v := 0) M dX8_rowThrough_0 (by decide) ?_
  refine zz_istore_n M [(1, .int 0), (0, .ref (ad 0))] dX8_rowThrough_1 rfl (by decide) rfl ?_
  refine zz_iconst (v := 0) M dX8_rowThrough_2 (by decide) ?_
  refine zz_istore_n M [(2, .int 0), (1, .int 0), (0, .ref (ad 0))] dX8_rowThrough_3 rfl (by decide) rfl ?_
  refine zz_sub [(0, .ref (ad 0)), (1, .int 0), (2, .int 0)] [2, 1, 0] rfl ?_
  refine sX8_rowThrough_L4   M (fun v111 σ112 h => ?_) 300 _ _ _ h
  refine zz_iload_n M 0 dX8_rowThrough_42 rfl rfl ?_
  exact zz_iret M dX8_rowThrough_43 h
def wX8_rowChanges_L4 (Q : Int32 → zSt → Prop) (K41 : Int32 → zSt → Prop)  : Nat → Int32 → Int32 → zSt → Prop
  | 0, _, _, _ => False
  | n + 1, x1, x2, σ => if 24 ≤ x2 then (K41 x1 σ) else (vp_in x2 24 ∧ (vp_in (x2 - 1) 24 ∧ (if (σ.1 10 x2.toNatClampNeg) = (σ.1 10 (x2 - 1 : Int32).toNatClampNeg) then (∀ x103 : Int32, x103 = (x1 + 0) → (∀ x104 : Int32, x104 = x2 + 1 → (wX8_rowChanges_L4 Q K41  n x103 x104 σ))) else (∀ x101 : Int32, x101 = (x1 + 1) → (∀ x102 : Int32, x102 = x2 + 1 → (wX8_rowChanges_L4 Q K41  n x101 x102 σ))))))
set_option maxRecDepth 20000 in
set_option maxHeartbeats 4000000 in
theorem sX8_rowChanges_L4 {Q : Int32 → zSt → Prop} {K41 : Int32 → zSt → Prop}   (M : zM p s m args meth c cX8_rowChanges 3 RX8 (some .int) tabM D cA ad y) (hK41 : ∀ (v1 : Int32) (σ : zSt), K41 v1 σ → zG p l e (zrm 1) s m args below meth c 3 tabM D cA ad (MQ below (va_Qi Q (fun σ' t => va_P D vwCl (zws tabM cA ad σ') t.heap) (zIn tabM ad)) args s 0 0 (zIn tabM ad)) 41 [(1, .int v1)] [] σ) : ∀ (n : Nat) (x1 : Int32) (x2 : Int32) (σ : zSt), wX8_rowChanges_L4 Q K41  n x1 x2 σ → zG p l e (zrm 1) s m args below meth c 3 tabM D cA ad (MQ below (va_Qi Q (fun σ' t => va_P D vwCl (zws tabM cA ad σ') t.heap) (zIn tabM ad)) args s 0 0 (zIn tabM ad)) 4 [(0, .ref (ad 0)), (1, .int x1), (2, .int x2)] [] σ := by
  intro n
  induction n with
  | zero => intro x1 x2 σ h; exact absurd h (by simp [wX8_rowChanges_L4])
  | succ n ih =>
    intro x1 x2 σ h
    unfold wX8_rowChanges_L4 at h
    refine zz_iload_n M 2 dX8_rowChanges_4 rfl rfl ?_
    refine zz_bipush (v := 24) M dX8_rowChanges_5 (by decide) ?_
    refine zz_icmp_ge M 41 dX8_rowChanges_7 (by decide) (fun c => ?_) (fun c => ?_)
    · have h := zif (c := 24 ≤ x2) h c
      refine zz_sub [(1, .int x1)] [1] rfl ?_
      exact hK41 _ _ h
    · have h := zifn (c := 24 ≤ x2) h c
      refine zz_iload_n M 1 dX8_rowChanges_10 rfl rfl ?_
      refine zz_aload_n M 0 dX8_rowChanges_11 rfl rfl ?_
      refine zz_getR M f_X8_47 tM_0 rfl dX8_rowChanges_12 ?_
      refine zz_iload_n M 2 dX8_rowChanges_15 rfl rfl ?_
      refine zz_iald M tM_10 h.1 dX8_rowChanges_16 ?_
      have h := h.2
      refine zz_aload_n M 0 dX8_rowChanges_17 rfl rfl ?_
      refine zz_getR M f_X8_47 tM_0 rfl dX8_rowChanges_18 ?_
      refine zz_iload_n M 2 dX8_rowChanges_21 rfl rfl ?_
      refine zz_iconst (v := 1) M dX8_rowChanges_22 (by decide) ?_
      refine zz_isub M dX8_rowChanges_23 ?_
      refine zz_iald M tM_10 h.1 dX8_rowChanges_24 ?_
      have h := h.2
      refine zz_icmp_ne M 32 dX8_rowChanges_25 (by decide) (fun c => ?_) (fun c => ?_)
      · have h := zifn (c := (σ.1 10 x2.toNatClampNeg) = (σ.1 10 (x2 - 1 : Int32).toNatClampNeg)) h c
        refine zz_iconst (v := 1) M dX8_rowChanges_32 (by decide) ?_
        refine zz_iadd M dX8_rowChanges_33 ?_
        refine zz_topi (fun x101 ex101 => ?_)
        have h := h x101 ex101
        refine zz_istore_n M [(1, .int x101), (0, .ref (ad 0)), (2, .int x2)] dX8_rowChanges_34 rfl (by decide) rfl ?_
        obtain ⟨x102, ex102⟩ : ∃ z : Int32, z = x2 + 1 := ⟨_, rfl⟩
        have h := h x102 ex102
        refine zz_iinc M [(2, .int x102), (1, .int x101), (0, .ref (ad 0))] 2 dX8_rowChanges_35 rfl (n32 := 1) (by decide) ex102 (by decide) rfl ?_
        refine zz_goto M 4 dX8_rowChanges_38 (by decide) ?_
        refine zz_sub [(0, .ref (ad 0)), (1, .int x101), (2, .int x102)] [2, 1, 0] rfl ?_
        exact ih _ _ _ h
      · have h := zif (c := (σ.1 10 x2.toNatClampNeg) = (σ.1 10 (x2 - 1 : Int32).toNatClampNeg)) h c
        refine zz_iconst (v := 0) M dX8_rowChanges_28 (by decide) ?_
        refine zz_goto M 33 dX8_rowChanges_29 (by decide) ?_
        refine zz_iadd M dX8_rowChanges_33 ?_
        refine zz_topi (fun x103 ex103 => ?_)
        have h := h x103 ex103
        refine zz_istore_n M [(1, .int x103), (0, .ref (ad 0)), (2, .int x2)] dX8_rowChanges_34 rfl (by decide) rfl ?_
        obtain ⟨x104, ex104⟩ : ∃ z : Int32, z = x2 + 1 := ⟨_, rfl⟩
        have h := h x104 ex104
        refine zz_iinc M [(2, .int x104), (1, .int x103), (0, .ref (ad 0))] 2 dX8_rowChanges_35 rfl (n32 := 1) (by decide) ex104 (by decide) rfl ?_
        refine zz_goto M 4 dX8_rowChanges_38 (by decide) ?_
        refine zz_sub [(0, .ref (ad 0)), (1, .int x103), (2, .int x104)] [2, 1, 0] rfl ?_
        exact ih _ _ _ h
def wX8_rowChanges  (σ : zSt) (Q : Int32 → zSt → Prop) : Prop := wX8_rowChanges_L4 Q (fun v105 σ106 => Q v105 σ106)  300 0 1 σ
set_option maxRecDepth 20000 in
set_option maxHeartbeats 4000000 in
theorem kX8_rowChanges (hI : zInj tabM ad)   (σ : zSt) (Q : Int32 → zSt → Prop) (h : wX8_rowChanges  σ Q) : zOkI l tabM D cA ad y 1 yX8_rowChanges cX8_rowChanges 3 (some .int) [.ref (ad 0)] σ Q := by
  refine zz_enter hI (by decide) (Nat.le_of_ble_eq_true rfl) (fun p e s m below meth c M => ?_)
  have M : zM p s m _ meth c cX8_rowChanges 3 RX8 (some .int) tabM D cA ad y := M
  refine zz_ls [(0, .ref (ad 0))] rfl ?_
  unfold wX8_rowChanges at h
  refine zz_iconst (v := 0) M dX8_rowChanges_0 (by decide) ?_
  refine zz_istore_n M [(1, .int 0), (0, .ref (ad 0))] dX8_rowChanges_1 rfl (by decide) rfl ?_
  refine zz_iconst (v := 1) M dX8_rowChanges_2 (by decide) ?_
  refine zz_istore_n M [(2, .int 1), (1, .int 0), (0, .ref (ad 0))] dX8_rowChanges_3 rfl (by decide) rfl ?_
  refine zz_sub [(0, .ref (ad 0)), (1, .int 0), (2, .int 1)] [2, 1, 0] rfl ?_
  refine sX8_rowChanges_L4   M (fun v105 σ106 h => ?_) 300 _ _ _ h
  refine zz_iload_n M 0 dX8_rowChanges_41 rfl rfl ?_
  exact zz_iret M dX8_rowChanges_42 h
def wX8_changeOf (x1 : Int32) (x2 : Int32) (x3 : Int32) (σ : zSt) (Q : Int32 → zSt → Prop) : Prop := ∀ σ101 : zSt, σ101 = zput σ 0 18 0 → (∀ σ102 : zSt, σ102 = zput σ101 0 19 0 → (∀ σ103 : zSt, σ103 = zput σ102 0 20 x1 → (∀ σ104 : zSt, σ104 = zput σ103 0 21 x2 → (∀ σ105 : zSt, σ105 = zput σ104 0 22 x3 → (∀ σ106 : zSt, σ106 = zput σ105 0 23 ((σ105.1 0 10) + (σ105.1 0 11)) → (∀ a107 : Int32, a107 = (σ106.1 0 4) → (wX8_read a107 2 σ106 (fun r108 σ109 => wX8_within r108 0 99 σ109 (fun r110 σ111 => Q r110 σ111)))))))))
set_option maxRecDepth 20000 in
set_option maxHeartbeats 4000000 in
theorem kX8_changeOf (hI : zInj tabM ad) (x1 : Int32) (x2 : Int32) (x3 : Int32)  (σ : zSt) (Q : Int32 → zSt → Prop) (h : wX8_changeOf x1 x2 x3 σ Q) : zOkI l tabM D cA ad y 43 yX8_changeOf cX8_changeOf 4 (some .int) [.ref (ad 0), .int x1, .int x2, .int x3] σ Q := by
  refine zz_enter hI (by decide) (Nat.le_of_ble_eq_true rfl) (fun p e s m below meth c M => ?_)
  have M : zM p s m _ meth c cX8_changeOf 4 RX8 (some .int) tabM D cA ad y := M
  refine zz_ls [(0, .ref (ad 0)), (1, .int x1), (2, .int x2), (3, .int x3)] rfl ?_
  unfold wX8_changeOf at h
  refine zz_aload_n M 0 dX8_changeOf_0 rfl rfl ?_
  refine zz_iconst (v := 0) M dX8_changeOf_1 (by decide) ?_
  refine zz_putI M f_X8_182 tM_0 rfl dX8_changeOf_2 ?_
  refine zz_sg (fun σ101 eσ101 => ?_)
  have h := h σ101 eσ101
  refine zz_aload_n M 0 dX8_changeOf_5 rfl rfl ?_
  refine zz_iconst (v := 0) M dX8_changeOf_6 (by decide) ?_
  refine zz_putI M f_X8_185 tM_0 rfl dX8_changeOf_7 ?_
  refine zz_sg (fun σ102 eσ102 => ?_)
  have h := h σ102 eσ102
  refine zz_aload_n M 0 dX8_changeOf_10 rfl rfl ?_
  refine zz_iload_n M 1 dX8_changeOf_11 rfl rfl ?_
  refine zz_putI M f_X8_188 tM_0 rfl dX8_changeOf_12 ?_
  refine zz_sg (fun σ103 eσ103 => ?_)
  have h := h σ103 eσ103
  refine zz_aload_n M 0 dX8_changeOf_15 rfl rfl ?_
  refine zz_iload_n M 2 dX8_changeOf_16 rfl rfl ?_
  refine zz_putI M f_X8_191 tM_0 rfl dX8_changeOf_17 ?_
  refine zz_sg (fun σ104 eσ104 => ?_)
  have h := h σ104 eσ104
  refine zz_aload_n M 0 dX8_changeOf_20 rfl rfl ?_
  refine zz_iload_n M 3 dX8_changeOf_21 rfl rfl ?_
  refine zz_putI M f_X8_194 tM_0 rfl dX8_changeOf_22 ?_
  refine zz_sg (fun σ105 eσ105 => ?_)
  have h := h σ105 eσ105
  refine zz_aload_n M 0 dX8_changeOf_25 rfl rfl ?_
  refine zz_aload_n M 0 dX8_changeOf_26 rfl rfl ?_
  refine zz_getI M f_X8_96 tM_0 rfl dX8_changeOf_27 ?_
  refine zz_aload_n M 0 dX8_changeOf_30 rfl rfl ?_
  refine zz_getI M f_X8_99 tM_0 rfl dX8_changeOf_31 ?_
  refine zz_iadd M dX8_changeOf_34 ?_
  refine zz_putI M f_X8_197 tM_0 rfl dX8_changeOf_35 ?_
  refine zz_sg (fun σ106 eσ106 => ?_)
  have h := h σ106 eσ106
  refine zz_aload_n M 0 dX8_changeOf_38 rfl rfl ?_
  refine zz_aload_n M 0 dX8_changeOf_39 rfl rfl ?_
  refine zz_getI M f_X8_332 tM_0 rfl dX8_changeOf_40 ?_
  refine zz_iconst (v := 2) M dX8_changeOf_43 (by decide) ?_
  obtain ⟨a107, ea107⟩ : ∃ z : Int32, z = (σ106.1 0 4) := ⟨_, rfl⟩
  have h := h a107 ea107
  refine zz_st [.int 2, .int a107, .ref (ad 0)] (by rw [ea107]) ?_
  refine zz_callVI (d' := 42) (As := [.int a107, .int 2]) (rest := []) M l_X8_328 tM_0 rfl rfl dX8_changeOf_44 rfl rfl (by decide) (Nat.le_of_ble_eq_true rfl) (by have hI := M.2.2.2.2.2.2.2.2; exact kX8_read hI _ _  _ _ h) (fun r108 σ109 h => ?_)
  refine zz_iconst (v := 0) M dX8_changeOf_47 (by decide) ?_
  refine zz_bipush (v := 99) M dX8_changeOf_48 (by decide) ?_
  refine zz_callSI (d' := 1) (As := [.int r108, .int 0, .int 99]) (rest := []) M l_X8_335 dX8_changeOf_50 rfl rfl (by decide) (Nat.le_of_ble_eq_true rfl) (by have hI := M.2.2.2.2.2.2.2.2; exact kX8_within hI _ _ _  _ _ h) (fun r110 σ111 h => ?_)
  exact zz_iret M dX8_changeOf_53 h
end
