section
variable {p : Program} {l : Launch} {e : Env} {s : State} {m : MethodId} {args : Array Value} {below : List Frame} {meth : Method} {c : Code} {D : va_G} {cA : Nat → ClassId} {ad : Nat → Nat} {y : zX}
def wX8_in (x0 : Int64) (x2 : Int64) (x4 : Int64) (σ : zSt) (Q : Int32 → zSt → Prop) : Prop := if (lg_cmp x0 x2) < 0 then (Q 0 σ) else (if 0 < (lg_cmp x0 x4) then (Q 0 σ) else (Q 1 σ))
set_option maxRecDepth 20000 in
set_option maxHeartbeats 4000000 in
theorem kX8_in (hI : zInj tabM ad) (x0 : Int64) (x2 : Int64) (x4 : Int64)  (σ : zSt) (Q : Int32 → zSt → Prop) (h : wX8_in x0 x2 x4 σ Q) : zOkI l tabM D cA ad y 1 yX8_in cX8_in 6 (some .boolean) [.long x0, .long x2, .long x4] σ Q := by
  refine zz_enter hI (by decide) (Nat.le_of_ble_eq_true rfl) (fun p e s m below meth c M => ?_)
  have M : zM p s m _ meth c cX8_in 6 RX8 (some .boolean) tabM D cA ad y := M
  refine zz_ls [(0, .long x0), (2, .long x2), (4, .long x4)] rfl ?_
  unfold wX8_in at h
  refine zz_lload_n M 0 dX8_in_0 rfl rfl ?_
  refine zz_lload_n M 1 dX8_in_1 rfl rfl ?_
  refine zz_lcmp M dX8_in_2 ?_
  refine zz_if_lt (y0 := 0) M 17 dX8_in_3 (by decide) (fun c => ?_) (fun c => ?_)
  · have h := zif (c := (lg_cmp x0 x2) < 0) h c
    refine zz_iconst (v := 0) M dX8_in_17 (by decide) ?_
    exact zz_zret M dX8_in_18 (Or.inl rfl) h
  · have h := zifn (c := (lg_cmp x0 x2) < 0) h c
    refine zz_lload_n M 0 dX8_in_6 rfl rfl ?_
    refine zz_lload M 2 dX8_in_7 rfl ?_
    refine zz_lcmp M dX8_in_9 ?_
    refine zz_if_gt (y0 := 0) M 17 dX8_in_10 (by decide) (fun c => ?_) (fun c => ?_)
    · have h := zif (c := 0 < (lg_cmp x0 x4)) h c
      refine zz_iconst (v := 0) M dX8_in_17 (by decide) ?_
      exact zz_zret M dX8_in_18 (Or.inl rfl) h
    · have h := zifn (c := 0 < (lg_cmp x0 x4)) h c
      refine zz_iconst (v := 1) M dX8_in_13 (by decide) ?_
      refine zz_goto M 18 dX8_in_14 (by decide) ?_
      exact zz_zret M dX8_in_18 (Or.inr rfl) h
def wX8_come (x1 : Int32) (x2 : Int32) (x3 : Int32) (σ : zSt) (Q : Int32 → zSt → Prop) : Prop := ∀ a101 : Int64, a101 = ((x1 : Int32).toInt64) → (wX8_in a101 0 1 σ (fun r102 σ103 => if r102 = 0 then (Q (-2) σ103) else (∀ a104 : Int64, a104 = ((x2 : Int32).toInt64) → (wX8_in a104 0 299 σ103 (fun r105 σ106 => if r105 = 0 then (Q (-2) σ106) else (∀ a107 : Int64, a107 = ((x2 / 100 : Int32).toInt64) → (wX8_in a107 0 2 σ106 (fun r108 σ109 => if r108 = 0 then (Q (-2) σ109) else (if 24 ≤ (x2 - x2 / 100 * 100) then (Q (-2) σ109) else (∀ a110 : Int64, a110 = ((x3 : Int32).toInt64) → (wX8_in a110 0 9 σ109 (fun r111 σ112 => if r111 = 0 then (Q (-2) σ112) else (if x1 = 0 then (∀ x120 : Int32, x120 = (σ112.1 0 10) → (if x120 = 4 then (Q (-4) σ112) else (∀ x121 : Int32, x121 = ((4 * x1) + x120) → (vp_in x121 8 ∧ (∀ σ122 : zSt, σ122 = zput σ112 4 x121.toNatClampNeg (x2 / 100) → (vp_in x121 8 ∧ (∀ σ123 : zSt, σ123 = zput σ122 5 x121.toNatClampNeg (x2 - x2 / 100 * 100) → (vp_in x121 8 ∧ (∀ σ124 : zSt, σ124 = zput σ123 6 x121.toNatClampNeg x3 → (if x1 = 0 then (∀ σ126 : zSt, σ126 = zput σ124 0 10 ((σ124.1 0 10) + 1) → (Q x120 σ126)) else (∀ σ125 : zSt, σ125 = zput σ124 0 11 ((σ124.1 0 11) + 1) → (Q x120 σ125)))))))))))) else (∀ x113 : Int32, x113 = (σ112.1 0 11) → (if x113 = 4 then (Q (-4) σ112) else (∀ x114 : Int32, x114 = ((4 * x1) + x113) → (vp_in x114 8 ∧ (∀ σ115 : zSt, σ115 = zput σ112 4 x114.toNatClampNeg (x2 / 100) → (vp_in x114 8 ∧ (∀ σ116 : zSt, σ116 = zput σ115 5 x114.toNatClampNeg (x2 - x2 / 100 * 100) → (vp_in x114 8 ∧ (∀ σ117 : zSt, σ117 = zput σ116 6 x114.toNatClampNeg x3 → (if x1 = 0 then (∀ σ119 : zSt, σ119 = zput σ117 0 10 ((σ117.1 0 10) + 1) → (Q x113 σ119)) else (∀ σ118 : zSt, σ118 = zput σ117 0 11 ((σ117.1 0 11) + 1) → (Q x113 σ118)))))))))))))))))))))))))
set_option maxRecDepth 20000 in
set_option maxHeartbeats 4000000 in
theorem kX8_come (hI : zInj tabM ad) (x1 : Int32) (x2 : Int32) (x3 : Int32)  (σ : zSt) (Q : Int32 → zSt → Prop) (h : wX8_come x1 x2 x3 σ Q) : zOkI l tabM D cA ad y 2 yX8_come cX8_come 6 (some .int) [.ref (ad 0), .int x1, .int x2, .int x3] σ Q := by
  refine zz_enter hI (by decide) (Nat.le_of_ble_eq_true rfl) (fun p e s m below meth c M => ?_)
  have M : zM p s m _ meth c cX8_come 6 RX8 (some .int) tabM D cA ad y := M
  refine zz_ls [(0, .ref (ad 0)), (1, .int x1), (2, .int x2), (3, .int x3)] rfl ?_
  unfold wX8_come at h
  refine zz_iload_n M 1 dX8_come_0 rfl rfl ?_
  refine zz_i2l M dX8_come_1 ?_
  refine zz_lconst (v := 0) M dX8_come_2 (by decide) ?_
  refine zz_lconst (v := 1) M dX8_come_3 (by decide) ?_
  obtain ⟨a101, ea101⟩ : ∃ z : Int64, z = ((x1 : Int32).toInt64) := ⟨_, rfl⟩
  have h := h a101 ea101
  refine zz_st [.long 1, .long 0, .long a101] (by rw [ea101]) ?_
  refine zz_callSI (d' := 1) (As := [.long a101, .long 0, .long 1]) (rest := []) M l_X8_92 dX8_come_4 rfl rfl (by decide) (Nat.le_of_ble_eq_true rfl) (by have hI := M.2.2.2.2.2.2.2.2; exact kX8_in hI _ _ _  _ _ h) (fun r102 σ103 h => ?_)
  refine zz_if_eq (y0 := 0) M 58 dX8_come_7 (by decide) (fun c => ?_) (fun c => ?_)
  · have h := zif (c := r102 = 0) h c
    refine zz_bipush (v := (-2)) M dX8_come_58 (by decide) ?_
    exact zz_iret M dX8_come_60 h
  · have h := zifn (c := r102 = 0) h c
    refine zz_iload_n M 2 dX8_come_10 rfl rfl ?_
    refine zz_i2l M dX8_come_11 ?_
    refine zz_lconst (v := 0) M dX8_come_12 (by decide) ?_
    refine zz_ldc2 (v := 299) M k_X8_102 dX8_come_13 ?_
    obtain ⟨a104, ea104⟩ : ∃ z : Int64, z = ((x2 : Int32).toInt64) := ⟨_, rfl⟩
    have h := h a104 ea104
    refine zz_st [.long 299, .long 0, .long a104] (by rw [ea104]) ?_
    refine zz_callSI (d' := 1) (As := [.long a104, .long 0, .long 299]) (rest := []) M l_X8_92 dX8_come_16 rfl rfl (by decide) (Nat.le_of_ble_eq_true rfl) (by have hI := M.2.2.2.2.2.2.2.2; exact kX8_in hI _ _ _  _ _ h) (fun r105 σ106 h => ?_)
    refine zz_if_eq (y0 := 0) M 58 dX8_come_19 (by decide) (fun c => ?_) (fun c => ?_)
    · have h := zif (c := r105 = 0) h c
      refine zz_bipush (v := (-2)) M dX8_come_58 (by decide) ?_
      exact zz_iret M dX8_come_60 h
    · have h := zifn (c := r105 = 0) h c
      refine zz_iload_n M 2 dX8_come_22 rfl rfl ?_
      refine zz_bipush (v := 100) M dX8_come_23 (by decide) ?_
      refine zz_idiv M dX8_come_25 (by decide) ?_
      refine zz_i2l M dX8_come_26 ?_
      refine zz_lconst (v := 0) M dX8_come_27 (by decide) ?_
      refine zz_ldc2 (v := 2) M k_X8_104 dX8_come_28 ?_
      obtain ⟨a107, ea107⟩ : ∃ z : Int64, z = ((x2 / 100 : Int32).toInt64) := ⟨_, rfl⟩
      have h := h a107 ea107
      refine zz_st [.long 2, .long 0, .long a107] (by rw [ea107]) ?_
      refine zz_callSI (d' := 1) (As := [.long a107, .long 0, .long 2]) (rest := []) M l_X8_92 dX8_come_31 rfl rfl (by decide) (Nat.le_of_ble_eq_true rfl) (by have hI := M.2.2.2.2.2.2.2.2; exact kX8_in hI _ _ _  _ _ h) (fun r108 σ109 h => ?_)
      refine zz_if_eq (y0 := 0) M 58 dX8_come_34 (by decide) (fun c => ?_) (fun c => ?_)
      · have h := zif (c := r108 = 0) h c
        refine zz_bipush (v := (-2)) M dX8_come_58 (by decide) ?_
        exact zz_iret M dX8_come_60 h
      · have h := zifn (c := r108 = 0) h c
        refine zz_iload_n M 2 dX8_come_37 rfl rfl ?_
        refine zz_bipush (v := 100) M dX8_come_38 (by decide) ?_
        refine zz_irem M dX8_come_40 (by decide) ?_
        refine zz_bipush (v := 24) M dX8_come_41 (by decide) ?_
        refine zz_icmp_ge M 58 dX8_come_43 (by decide) (fun c => ?_) (fun c => ?_)
        · have h := zif (c := 24 ≤ (x2 - x2 / 100 * 100)) h c
          refine zz_bipush (v := (-2)) M dX8_come_58 (by decide) ?_
          exact zz_iret M dX8_come_60 h
        · have h := zifn (c := 24 ≤ (x2 - x2 / 100 * 100)) h c
          refine zz_iload_n M 3 dX8_come_46 rfl rfl ?_
          refine zz_i2l M dX8_come_47 ?_
          refine zz_lconst (v := 0) M dX8_come_48 (by decide) ?_
          refine zz_ldc2 (v := 9) M k_X8_106 dX8_come_49 ?_
          obtain ⟨a110, ea110⟩ : ∃ z : Int64, z = ((x3 : Int32).toInt64) := ⟨_, rfl⟩
          have h := h a110 ea110
          refine zz_st [.long 9, .long 0, .long a110] (by rw [ea110]) ?_
          refine zz_callSI (d' := 1) (As := [.long a110, .long 0, .long 9]) (rest := []) M l_X8_92 dX8_come_52 rfl rfl (by decide) (Nat.le_of_ble_eq_true rfl) (by have hI := M.2.2.2.2.2.2.2.2; exact kX8_in hI _ _ _  _ _ h) (fun r111 σ112 h => ?_)
          refine zz_if_ne (y0 := 0) M 61 dX8_come_55 (by decide) (fun c => ?_) (fun c => ?_)
          · have h := zifn (c := r111 = 0) h c
            refine zz_iload_n M 1 dX8_come_61 rfl rfl ?_
            refine zz_if_ne (y0 := 0) M 72 dX8_come_62 (by decide) (fun c => ?_) (fun c => ?_)
            · have h := zifn (c := x1 = 0) h c
              refine zz_aload_n M 0 dX8_come_72 rfl rfl ?_
              refine zz_getI M f_X8_99 tM_0 rfl dX8_come_73 ?_
              refine zz_topi (fun x113 ex113 => ?_)
              have h := h x113 ex113
              refine zz_istore M [(4, .int x113), (0, .ref (ad 0)), (1, .int x1), (2, .int x2), (3, .int x3)] dX8_come_76 (by decide) rfl ?_
              refine zz_iload M 0 dX8_come_78 rfl ?_
              refine zz_iconst (v := 4) M dX8_come_80 (by decide) ?_
              refine zz_icmp_ne M 87 dX8_come_81 (by decide) (fun c => ?_) (fun c => ?_)
              · have h := zifn (c := x113 = 4) h c
                refine zz_iconst (v := 4) M dX8_come_87 (by decide) ?_
                refine zz_iload_n M 2 dX8_come_88 rfl rfl ?_
                refine zz_imul M dX8_come_89 ?_
                refine zz_iload M 0 dX8_come_90 rfl ?_
                refine zz_iadd M dX8_come_92 ?_
                refine zz_topi (fun x114 ex114 => ?_)
                have h := h x114 ex114
                refine zz_istore M [(5, .int x114), (4, .int x113), (0, .ref (ad 0)), (1, .int x1), (2, .int x2), (3, .int x3)] dX8_come_93 (by decide) rfl ?_
                refine zz_aload_n M 2 dX8_come_95 rfl rfl ?_
                refine zz_getR M f_X8_23 tM_0 rfl dX8_come_96 ?_
                refine zz_iload M 0 dX8_come_99 rfl ?_
                refine zz_iload_n M 4 dX8_come_101 rfl rfl ?_
                refine zz_bipush (v := 100) M dX8_come_102 (by decide) ?_
                refine zz_idiv M dX8_come_104 (by decide) ?_
                refine zz_iast M tM_4 h.1 dX8_come_105 ?_
                have h := h.2
                refine zz_sg (fun σ115 eσ115 => ?_)
                have h := h σ115 eσ115
                refine zz_aload_n M 2 dX8_come_106 rfl rfl ?_
                refine zz_getR M f_X8_26 tM_0 rfl dX8_come_107 ?_
                refine zz_iload M 0 dX8_come_110 rfl ?_
                refine zz_iload_n M 4 dX8_come_112 rfl rfl ?_
                refine zz_bipush (v := 100) M dX8_come_113 (by decide) ?_
                refine zz_irem M dX8_come_115 (by decide) ?_
                refine zz_iast M tM_5 h.1 dX8_come_116 ?_
                have h := h.2
                refine zz_sg (fun σ116 eσ116 => ?_)
                have h := h σ116 eσ116
                refine zz_aload_n M 2 dX8_come_117 rfl rfl ?_
                refine zz_getR M f_X8_29 tM_0 rfl dX8_come_118 ?_
                refine zz_iload M 0 dX8_come_121 rfl ?_
                refine zz_iload_n M 5 dX8_come_123 rfl rfl ?_
                refine zz_iast M tM_6 h.1 dX8_come_124 ?_
                have h := h.2
                refine zz_sg (fun σ117 eσ117 => ?_)
                have h := h σ117 eσ117
                refine zz_iload_n M 3 dX8_come_125 rfl rfl ?_
                refine zz_if_ne (y0 := 0) M 142 dX8_come_126 (by decide) (fun c => ?_) (fun c => ?_)
                · have h := zifn (c := x1 = 0) h c
                  refine zz_aload_n M 2 dX8_come_142 rfl rfl ?_
                  refine zz_dup M dX8_come_143 rfl ?_
                  refine zz_getI M f_X8_99 tM_0 rfl dX8_come_144 ?_
                  refine zz_iconst (v := 1) M dX8_come_147 (by decide) ?_
                  refine zz_iadd M dX8_come_148 ?_
                  refine zz_putI M f_X8_99 tM_0 rfl dX8_come_149 ?_
                  refine zz_sg (fun σ118 eσ118 => ?_)
                  have h := h σ118 eσ118
                  refine zz_iload M 1 dX8_come_152 rfl ?_
                  exact zz_iret M dX8_come_154 h
                · have h := zif (c := x1 = 0) h c
                  refine zz_aload_n M 2 dX8_come_129 rfl rfl ?_
                  refine zz_dup M dX8_come_130 rfl ?_
                  refine zz_getI M f_X8_96 tM_0 rfl dX8_come_131 ?_
                  refine zz_iconst (v := 1) M dX8_come_134 (by decide) ?_
                  refine zz_iadd M dX8_come_135 ?_
                  refine zz_putI M f_X8_96 tM_0 rfl dX8_come_136 ?_
                  refine zz_sg (fun σ119 eσ119 => ?_)
                  have h := h σ119 eσ119
                  refine zz_goto M 152 dX8_come_139 (by decide) ?_
                  refine zz_iload M 1 dX8_come_152 rfl ?_
                  exact zz_iret M dX8_come_154 h
              · have h := zif (c := x113 = 4) h c
                refine zz_bipush (v := (-4)) M dX8_come_84 (by decide) ?_
                exact zz_iret M dX8_come_86 h
            · have h := zif (c := x1 = 0) h c
              refine zz_aload_n M 0 dX8_come_65 rfl rfl ?_
              refine zz_getI M f_X8_96 tM_0 rfl dX8_come_66 ?_
              refine zz_goto M 76 dX8_come_69 (by decide) ?_
              refine zz_topi (fun x120 ex120 => ?_)
              have h := h x120 ex120
              refine zz_istore M [(4, .int x120), (0, .ref (ad 0)), (1, .int x1), (2, .int x2), (3, .int x3)] dX8_come_76 (by decide) rfl ?_
              refine zz_iload M 0 dX8_come_78 rfl ?_
              refine zz_iconst (v := 4) M dX8_come_80 (by decide) ?_
              refine zz_icmp_ne M 87 dX8_come_81 (by decide) (fun c => ?_) (fun c => ?_)
              · have h := zifn (c := x120 = 4) h c
                refine zz_iconst (v := 4) M dX8_come_87 (by decide) ?_
                refine zz_iload_n M 2 dX8_come_88 rfl rfl ?_
                refine zz_imul M dX8_come_89 ?_
                refine zz_iload M 0 dX8_come_90 rfl ?_
                refine zz_iadd M dX8_come_92 ?_
                refine zz_topi (fun x121 ex121 => ?_)
                have h := h x121 ex121
                refine zz_istore M [(5, .int x121), (4, .int x120), (0, .ref (ad 0)), (1, .int x1), (2, .int x2), (3, .int x3)] dX8_come_93 (by decide) rfl ?_
                refine zz_aload_n M 2 dX8_come_95 rfl rfl ?_
                refine zz_getR M f_X8_23 tM_0 rfl dX8_come_96 ?_
                refine zz_iload M 0 dX8_come_99 rfl ?_
                refine zz_iload_n M 4 dX8_come_101 rfl rfl ?_
                refine zz_bipush (v := 100) M dX8_come_102 (by decide) ?_
                refine zz_idiv M dX8_come_104 (by decide) ?_
                refine zz_iast M tM_4 h.1 dX8_come_105 ?_
                have h := h.2
                refine zz_sg (fun σ122 eσ122 => ?_)
                have h := h σ122 eσ122
                refine zz_aload_n M 2 dX8_come_106 rfl rfl ?_
                refine zz_getR M f_X8_26 tM_0 rfl dX8_come_107 ?_
                refine zz_iload M 0 dX8_come_110 rfl ?_
                refine zz_iload_n M 4 dX8_come_112 rfl rfl ?_
                refine zz_bipush (v := 100) M dX8_come_113 (by decide) ?_
                refine zz_irem M dX8_come_115 (by decide) ?_
                refine zz_iast M tM_5 h.1 dX8_come_116 ?_
                have h := h.2
                refine zz_sg (fun σ123 eσ123 => ?_)
                have h := h σ123 eσ123
                refine zz_aload_n M 2 dX8_come_117 rfl rfl ?_
                refine zz_getR M f_X8_29 tM_0 rfl dX8_come_118 ?_
                refine zz_iload M 0 dX8_come_121 rfl ?_
                refine zz_iload_n M 5 dX8_come_123 rfl rfl ?_
                refine zz_iast M tM_6 h.1 dX8_come_124 ?_
                have h := h.2
                refine zz_sg (fun σ124 eσ124 => ?_)
                have h := h σ124 eσ124
                refine zz_iload_n M 3 dX8_come_125 rfl rfl ?_
                refine zz_if_ne (y0 := 0) M 142 dX8_come_126 (by decide) (fun c => ?_) (fun c => ?_)
                · have h := zifn (c := x1 = 0) h c
                  refine zz_aload_n M 2 dX8_come_142 rfl rfl ?_
                  refine zz_dup M dX8_come_143 rfl ?_
                  refine zz_getI M f_X8_99 tM_0 rfl dX8_come_144 ?_
                  refine zz_iconst (v := 1) M dX8_come_147 (by decide) ?_
                  refine zz_iadd M dX8_come_148 ?_
                  refine zz_putI M f_X8_99 tM_0 rfl dX8_come_149 ?_
                  refine zz_sg (fun σ125 eσ125 => ?_)
                  have h := h σ125 eσ125
                  refine zz_iload M 1 dX8_come_152 rfl ?_
                  exact zz_iret M dX8_come_154 h
                · have h := zif (c := x1 = 0) h c
                  refine zz_aload_n M 2 dX8_come_129 rfl rfl ?_
                  refine zz_dup M dX8_come_130 rfl ?_
                  refine zz_getI M f_X8_96 tM_0 rfl dX8_come_131 ?_
                  refine zz_iconst (v := 1) M dX8_come_134 (by decide) ?_
                  refine zz_iadd M dX8_come_135 ?_
                  refine zz_putI M f_X8_96 tM_0 rfl dX8_come_136 ?_
                  refine zz_sg (fun σ126 eσ126 => ?_)
                  have h := h σ126 eσ126
                  refine zz_goto M 152 dX8_come_139 (by decide) ?_
                  refine zz_iload M 1 dX8_come_152 rfl ?_
                  exact zz_iret M dX8_come_154 h
              · have h := zif (c := x120 = 4) h c
                refine zz_bipush (v := (-4)) M dX8_come_84 (by decide) ?_
                exact zz_iret M dX8_come_86 h
          · have h := zif (c := r111 = 0) h c
            refine zz_bipush (v := (-2)) M dX8_come_58 (by decide) ?_
            exact zz_iret M dX8_come_60 h
def wX8_isHere (x1 : Int32) (x2 : Int32) (σ : zSt) (Q : Int32 → zSt → Prop) : Prop := ∀ a101 : Int64, a101 = ((x1 : Int32).toInt64) → (wX8_in a101 0 1 σ (fun r102 σ103 => if r102 = 0 then (Q 0 σ103) else (if x1 = 0 then (∀ a108 : Int64, a108 = ((x2 : Int32).toInt64) → (∀ a109 : Int64, a109 = (((σ103.1 0 10) - 1 : Int32).toInt64) → (wX8_in a108 0 a109 σ103 (fun r110 σ111 => if r110 = 0 then (Q 0 σ111) else (Q 1 σ111))))) else (∀ a104 : Int64, a104 = ((x2 : Int32).toInt64) → (∀ a105 : Int64, a105 = (((σ103.1 0 11) - 1 : Int32).toInt64) → (wX8_in a104 0 a105 σ103 (fun r106 σ107 => if r106 = 0 then (Q 0 σ107) else (Q 1 σ107))))))))
set_option maxRecDepth 20000 in
set_option maxHeartbeats 4000000 in
theorem kX8_isHere (hI : zInj tabM ad) (x1 : Int32) (x2 : Int32)  (σ : zSt) (Q : Int32 → zSt → Prop) (h : wX8_isHere x1 x2 σ Q) : zOkI l tabM D cA ad y 2 yX8_isHere cX8_isHere 3 (some .boolean) [.ref (ad 0), .int x1, .int x2] σ Q := by
  refine zz_enter hI (by decide) (Nat.le_of_ble_eq_true rfl) (fun p e s m below meth c M => ?_)
  have M : zM p s m _ meth c cX8_isHere 3 RX8 (some .boolean) tabM D cA ad y := M
  refine zz_ls [(0, .ref (ad 0)), (1, .int x1), (2, .int x2)] rfl ?_
  unfold wX8_isHere at h
  refine zz_iload_n M 1 dX8_isHere_0 rfl rfl ?_
  refine zz_i2l M dX8_isHere_1 ?_
  refine zz_lconst (v := 0) M dX8_isHere_2 (by decide) ?_
  refine zz_lconst (v := 1) M dX8_isHere_3 (by decide) ?_
  obtain ⟨a101, ea101⟩ : ∃ z : Int64, z = ((x1 : Int32).toInt64) := ⟨_, rfl⟩
  have h := h a101 ea101
  refine zz_st [.long 1, .long 0, .long a101] (by rw [ea101]) ?_
  refine zz_callSI (d' := 1) (As := [.long a101, .long 0, .long 1]) (rest := []) M l_X8_92 dX8_isHere_4 rfl rfl (by decide) (Nat.le_of_ble_eq_true rfl) (by have hI := M.2.2.2.2.2.2.2.2; exact kX8_in hI _ _ _  _ _ h) (fun r102 σ103 h => ?_)
  refine zz_if_eq (y0 := 0) M 41 dX8_isHere_7 (by decide) (fun c => ?_) (fun c => ?_)
  · have h := zif (c := r102 = 0) h c
    refine zz_iconst (v := 0) M dX8_isHere_41 (by decide) ?_
    exact zz_zret M dX8_isHere_42 (Or.inl rfl) h
  · have h := zifn (c := r102 = 0) h c
    refine zz_iload_n M 2 dX8_isHere_10 rfl rfl ?_
    refine zz_i2l M dX8_isHere_11 ?_
    refine zz_lconst (v := 0) M dX8_isHere_12 (by decide) ?_
    refine zz_iload_n M 1 dX8_isHere_13 rfl rfl ?_
    refine zz_if_ne (y0 := 0) M 24 dX8_isHere_14 (by decide) (fun c => ?_) (fun c => ?_)
    · have h := zifn (c := x1 = 0) h c
      refine zz_aload_n M 0 dX8_isHere_24 rfl rfl ?_
      refine zz_getI M f_X8_99 tM_0 rfl dX8_isHere_25 ?_
      refine zz_iconst (v := 1) M dX8_isHere_28 (by decide) ?_
      refine zz_isub M dX8_isHere_29 ?_
      refine zz_i2l M dX8_isHere_30 ?_
      obtain ⟨a104, ea104⟩ : ∃ z : Int64, z = ((x2 : Int32).toInt64) := ⟨_, rfl⟩
      have h := h a104 ea104
      obtain ⟨a105, ea105⟩ : ∃ z : Int64, z = (((σ103.1 0 11) - 1 : Int32).toInt64) := ⟨_, rfl⟩
      have h := h a105 ea105
      refine zz_st [.long a105, .long 0, .long a104] (by rw [ea104, ea105]) ?_
      refine zz_callSI (d' := 1) (As := [.long a104, .long 0, .long a105]) (rest := []) M l_X8_92 dX8_isHere_31 rfl rfl (by decide) (Nat.le_of_ble_eq_true rfl) (by have hI := M.2.2.2.2.2.2.2.2; exact kX8_in hI _ _ _  _ _ h) (fun r106 σ107 h => ?_)
      refine zz_if_eq (y0 := 0) M 41 dX8_isHere_34 (by decide) (fun c => ?_) (fun c => ?_)
      · have h := zif (c := r106 = 0) h c
        refine zz_iconst (v := 0) M dX8_isHere_41 (by decide) ?_
        exact zz_zret M dX8_isHere_42 (Or.inl rfl) h
      · have h := zifn (c := r106 = 0) h c
        refine zz_iconst (v := 1) M dX8_isHere_37 (by decide) ?_
        refine zz_goto M 42 dX8_isHere_38 (by decide) ?_
        exact zz_zret M dX8_isHere_42 (Or.inr rfl) h
    · have h := zif (c := x1 = 0) h c
      refine zz_aload_n M 0 dX8_isHere_17 rfl rfl ?_
      refine zz_getI M f_X8_96 tM_0 rfl dX8_isHere_18 ?_
      refine zz_goto M 28 dX8_isHere_21 (by decide) ?_
      refine zz_iconst (v := 1) M dX8_isHere_28 (by decide) ?_
      refine zz_isub M dX8_isHere_29 ?_
      refine zz_i2l M dX8_isHere_30 ?_
      obtain ⟨a108, ea108⟩ : ∃ z : Int64, z = ((x2 : Int32).toInt64) := ⟨_, rfl⟩
      have h := h a108 ea108
      obtain ⟨a109, ea109⟩ : ∃ z : Int64, z = (((σ103.1 0 10) - 1 : Int32).toInt64) := ⟨_, rfl⟩
      have h := h a109 ea109
      refine zz_st [.long a109, .long 0, .long a108] (by rw [ea108, ea109]) ?_
      refine zz_callSI (d' := 1) (As := [.long a108, .long 0, .long a109]) (rest := []) M l_X8_92 dX8_isHere_31 rfl rfl (by decide) (Nat.le_of_ble_eq_true rfl) (by have hI := M.2.2.2.2.2.2.2.2; exact kX8_in hI _ _ _  _ _ h) (fun r110 σ111 h => ?_)
      refine zz_if_eq (y0 := 0) M 41 dX8_isHere_34 (by decide) (fun c => ?_) (fun c => ?_)
      · have h := zif (c := r110 = 0) h c
        refine zz_iconst (v := 0) M dX8_isHere_41 (by decide) ?_
        exact zz_zret M dX8_isHere_42 (Or.inl rfl) h
      · have h := zifn (c := r110 = 0) h c
        refine zz_iconst (v := 1) M dX8_isHere_37 (by decide) ?_
        refine zz_goto M 42 dX8_isHere_38 (by decide) ?_
        exact zz_zret M dX8_isHere_42 (Or.inr rfl) h
end
