section
variable {p : Program} {l : Launch} {e : Env} {s : State} {m : MethodId} {args : Array Value} {below : List Frame} {meth : Method} {c : Code} {D : va_G} {cA : Nat → ClassId} {ad : Nat → Nat} {y : zX}
def wX8_in (x0 : Int64) (x2 : Int64) (x4 : Int64) (σ : zSt) (Q : Int32 → zSt → Prop) : Prop := if (lg_cmp x0 x2) < 0 then (Q 0 σ) else (if 0 < (lg_cmp x0 x4) then (Q 0 σ) else (Q 1 σ))
set_option maxRecDepth 20000 in
set_option maxHeartbeats 4000000 in
theorem kX8_in (hI : zInj tabM ad) (x0 : Int64) (x2 : Int64) (x4 : Int64)  (σ : zSt) (Q : Int32 → zSt → Prop) (h : wX8_in x0 x2 x4 σ Q) : zOkI l tabM D cA ad y 1 yX8_in cX8_in 6 (some .boolean) [.long x0, .long x2, .long x4] σ Q := by
  refine zz_enter hI (by decide) (Nat.le_of_ble_eq_true rfl) (fun p e s m below meth c M => ?_)
  have M : zM p s m _ meth c cX8_in 6 RX8 (some .boolean) tabM D cA ad y := M
  refine zz_ls [(0, .long x0), (2, .long x2), (4, .long x4)] rfl ?_
  unfold wX8_in at h
  refine zz_lload_n M 0 dX8_in_0 rfl rfl ?_
  refine zz_lload_n M 1 dX8_in_1 rfl rfl ?_
  refine zz_lcmp M dX8_in_2 ?_
  refine zz_if_lt (y0 := 0) M 17 dX8_in_3 (by decide) (fun c => ?_) (fun c => ?_)
  · have h := zif (c := (lg_cmp x0 x2) < 0) h c
    refine zz_iconst (v := 0) M dX8_in_17 (by decide) ?_
    exact zz_zret M dX8_in_18 (Or.inl rfl) h
  · have h := zifn (c := (lg_cmp x0 x2) < 0) h c
    refine zz_lload_n M 0 dX8_in_6 rfl rfl ?_
    refine zz_lload M 2 dX8_in_7 rfl ?_
    refine zz_lcmp M dX8_in_9 ?_
    refine zz_if_gt (y0 := 0) M 17 dX8_in_10 (by decide) (fun c => ?_) (fun c => ?_)
    · have h := zif (c := 0 < (lg_cmp x0 x4)) h c
      refine zz_iconst (v := 0) M dX8_in_17 (by decide) ?_
      exact zz_zret M dX8_in_18 (Or.inl rfl) h
    · have h := zifn (c := 0 < (lg_cmp x0 x4)) h c
      refine zz_iconst (v := 1) M dX8_in_13 (by decide) ?_
      refine zz_goto M 18 dX8_in_14 (by decide) ?_
      exact zz_zret M dX8_in_18 (Or.inr rfl) h
def wX8_come (x1 : Int32) (x2 : Int32) (x3 : Int32) (σ : zSt) (Q : Int32 → zSt → Prop) : Prop := wX8_in ((x1 : Int32).toInt64) 0 1 σ (fun r101 σ102 => if r101 = 0 then (Q (-2) σ102) else (wX8_in ((x2 : Int32).toInt64) 0 299 σ102 (fun r103 σ104 => if r103 = 0 then (Q (-2) σ104) else (wX8_in ((x2 / 100 : Int32).toInt64) 0 2 σ104 (fun r105 σ106 => if r105 = 0 then (Q (-2) σ106) else (if 24 ≤ (x2 - x2 / 100 * 100) then (Q (-2) σ106) else (wX8_in ((x3 : Int32).toInt64) 0 9 σ106 (fun r107 σ108 => if r107 = 0 then (Q (-2) σ108) else (if x1 = 0 then (∀ x116 : Int32, x116 = (σ108.1 0 10) → (if x116 = 4 then (Q (-4) σ108) else (∀ x117 : Int32, x117 = ((4 * x1) + x116) → (vp_in x117 8 ∧ (∀ σ118 : zSt, σ118 = zput σ108 4 x117.toNatClampNeg (x2 / 100) → (vp_in x117 8 ∧ (∀ σ119 : zSt, σ119 = zput σ118 5 x117.toNatClampNeg (x2 - x2 / 100 * 100) → (vp_in x117 8 ∧ (∀ σ120 : zSt, σ120 = zput σ119 6 x117.toNatClampNeg x3 → (if x1 = 0 then (∀ σ122 : zSt, σ122 = zput σ120 0 10 ((σ120.1 0 10) + 1) → (Q x116 σ122)) else (∀ σ121 : zSt, σ121 = zput σ120 0 11 ((σ120.1 0 11) + 1) → (Q x116 σ121)))))))))))) else (∀ x109 : Int32, x109 = (σ108.1 0 11) → (if x109 = 4 then (Q (-4) σ108) else (∀ x110 : Int32, x110 = ((4 * x1) + x109) → (vp_in x110 8 ∧ (∀ σ111 : zSt, σ111 = zput σ108 4 x110.toNatClampNeg (x2 / 100) → (vp_in x110 8 ∧ (∀ σ112 : zSt, σ112 = zput σ111 5 x110.toNatClampNeg (x2 - x2 / 100 * 100) → (vp_in x110 8 ∧ (∀ σ113 : zSt, σ113 = zput σ112 6 x110.toNatClampNeg x3 → (if x1 = 0 then (∀ σ115 : zSt, σ115 = zput σ113 0 10 ((σ113.1 0 10) + 1) → (Q x109 σ115)) else (∀ σ114 : zSt, σ114 = zput σ113 0 11 ((σ113.1 0 11) + 1) → (Q x109 σ114)))))))))))))))))))))
set_option maxRecDepth 20000 in
set_option maxHeartbeats 4000000 in
theorem kX8_come (hI : zInj tabM ad) (x1 : Int32) (x2 : Int32) (x3 : Int32)  (σ : zSt) (Q : Int32 → zSt → Prop) (h : wX8_come x1 x2 x3 σ Q) : zOkI l tabM D cA ad y 2 yX8_come cX8_come 6 (some .int) [.ref (ad 0), .int x1, .int x2, .int x3] σ Q := by
  refine zz_enter hI (by decide) (Nat.le_of_ble_eq_true rfl) (fun p e s m below meth c M => ?_)
  have M : zM p s m _ meth c cX8_come 6 RX8 (some .int) tabM D cA ad y := M
  refine zz_ls [(0, .ref (ad 0)), (1, .int x1), (2, .int x2), (3, .int x3)] rfl ?_
  unfold wX8_come at h
  refine zz_iload_n M 1 dX8_come_0 rfl rfl ?_
  refine zz_i2l M dX8_come_1 ?_
  refine zz_lconst (v := 0) M dX8_come_2 (by decide) ?_
  refine zz_lconst (v := 1) M dX8_come_3 (by decide) ?_
  refine zz_callSI (d' := 1) (As := [.long ((x1 : Int32).toInt64), .long 0, .long 1]) (rest := []) M l_X8_92 dX8_come_4 rfl rfl (by decide) (Nat.le_of_ble_eq_true rfl) (by have hI := M.2.2.2.2.2.2.2.2; exact kX8_in hI _ _ _  _ _ h) (fun r101 σ102 h => ?_)
  refine zz_if_eq (y0 := 0) M 58 dX8_come_7 (by decide) (fun c => ?_) (fun c => ?_)
  · have h := zif (c := r101 = 0) h c
    refine zz_bipush (v := (-2)) M dX8_come_58 (by decide) ?_
    exact zz_iret M dX8_come_60 h
  · have h := zifn (c := r101 = 0) h c
    refine zz_iload_n M 2 dX8_come_10 rfl rfl ?_
    refine zz_i2l M dX8_come_11 ?_
    refine zz_lconst (v := 0) M dX8_come_12 (by decide) ?_
    refine zz_ldc2 (v := 299) M k_X8_102 dX8_come_13 ?_
    refine zz_callSI (d' := 1) (As := [.long ((x2 : Int32).toInt64), .long 0, .long 299]) (rest := []) M l_X8_92 dX8_come_16 rfl rfl (by decide) (Nat.le_of_ble_eq_true rfl) (by have hI := M.2.2.2.2.2.2.2.2; exact kX8_in hI _ _ _  _ _ h) (fun r103 σ104 h => ?_)
    refine zz_if_eq (y0 := 0) M 58 dX8_come_19 (by decide) (fun c => ?_) (fun c => ?_)
    · have h := zif (c := r103 = 0) h c
      refine zz_bipush (v := (-2)) M dX8_come_58 (by decide) ?_
      exact zz_iret M dX8_come_60 h
    · have h := zifn (c := r103 = 0) h c
      refine zz_iload_n M 2 dX8_come_22 rfl rfl ?_
      refine zz_bipush (v := 100) M dX8_come_23 (by decide) ?_
      refine zz_idiv M dX8_come_25 (by decide) ?_
      refine zz_i2l M dX8_come_26 ?_
      refine zz_lconst (v := 0) M dX8_come_27 (by decide) ?_
      refine zz_ldc2 (v := 2) M k_X8_104 dX8_come_28 ?_
      refine zz_callSI (d' := 1) (As := [.long ((x2 / 100 : Int32).toInt64), .long 0, .long 2]) (rest := []) M l_X8_92 dX8_come_31 rfl rfl (by decide) (Nat.le_of_ble_eq_true rfl) (by have hI := M.2.2.2.2.2.2.2.2; exact kX8_in hI _ _ _  _ _ h) (fun r105 σ106 h => ?_)
      refine zz_if_eq (y0 := 0) M 58 dX8_come_34 (by decide) (fun c => ?_) (fun c => ?_)
      · have h := zif (c := r105 = 0) h c
        refine zz_bipush (v := (-2)) M dX8_come_58 (by decide) ?_
        exact zz_iret M dX8_come_60 h
      · have h := zifn (c := r105 = 0) h c
        refine zz_iload_n M 2 dX8_come_37 rfl rfl ?_
        refine zz_bipush (v := 100) M dX8_come_38 (by decide) ?_
        refine zz_irem M dX8_come_40 (by decide) ?_
        refine zz_bipush (v := 24) M dX8_come_41 (by decide) ?_
        refine zz_icmp_ge M 58 dX8_come_43 (by decide) (fun c => ?_) (fun c => ?_)
        · have h := zif (c := 24 ≤ (x2 - x2 / 100 * 100)) h c
          refine zz_bipush (v := (-2)) M dX8_come_58 (by decide) ?_
          exact zz_iret M dX8_come_60 h
        · have h := zifn (c := 24 ≤ (x2 - x2 / 100 * 100)) h c
          refine zz_iload_n M 3 dX8_come_46 rfl rfl ?_
          refine zz_i2l M dX8_come_47 ?_
          refine zz_lconst (v := 0) M dX8_come_48 (by decide) ?_
          refine zz_ldc2 (v := 9) M k_X8_106 dX8_come_49 ?_
          refine zz_callSI (d' := 1) (As := [.long ((x3 : Int32).toInt64), .long 0, .long 9]) (rest := []) M l_X8_92 dX8_come_52 rfl rfl (by decide) (Nat.le_of_ble_eq_true rfl) (by have hI := M.2.2.2.2.2.2.2.2; exact kX8_in hI _ _ _  _ _ h) (fun r107 σ108 h => ?_)
          refine zz_if_ne (y0 := 0) M 61 dX8_come_55 (by decide) (fun c => ?_) (fun c => ?_)
          · have h := zifn (c := r107 = 0) h c
            refine zz_iload_n M 1 dX8_come_61 rfl rfl ?_
            refine zz_if_ne (y0 := 0) M 72 dX8_come_62 (by decide) (fun c => ?_) (fun c => ?_)
            · have h := zifn (c := x1 = 0) h c
              refine zz_aload_n M 0 dX8_come_72 rfl rfl ?_
              refine zz_getI M f_X8_99 tM_0 rfl dX8_come_73 ?_
              refine zz_topi (fun x109 ex109 => ?_)
              have h := h x109 ex109
              refine zz_istore M [(4, .int x109), (0, .ref (ad 0)), (1, .int x1), (2, .int x2), (3, .int x3)] dX8_come_76 (by decide) rfl ?_
              refine zz_iload M 0 dX8_come_78 rfl ?_
              refine zz_iconst (v := 4) M dX8_come_80 (by decide) ?_
              refine zz_icmp_ne M 87 dX8_come_81 (by decide) (fun c => ?_) (fun c => ?_)
              · have h := zifn (c := x109 = 4) h c
                refine zz_iconst (v := 4) M dX8_come_87 (by decide) ?_
                refine zz_iload_n M 2 dX8_come_88 rfl rfl ?_
                refine zz_imul M dX8_come_89 ?_
                refine zz_iload M 0 dX8_come_90 rfl ?_
                refine zz_iadd M dX8_come_92 ?_
                refine zz_topi (fun x110 ex110 => ?_)
                have h := h x110 ex110
                refine zz_istore M [(5, .int x110), (4, .int x109), (0, .ref (ad 0)), (1, .int x1), (2, .int x2), (3, .int x3)] dX8_come_93 (by decide) rfl ?_
                refine zz_aload_n M 2 dX8_come_95 rfl rfl ?_
                refine zz_getR M f_X8_23 tM_0 rfl dX8_come_96 ?_
                refine zz_iload M 0 dX8_come_99 rfl ?_
                refine zz_iload_n M 4 dX8_come_101 rfl rfl ?_
                refine zz_bipush (v := 100) M dX8_come_102 (by decide) ?_
                refine zz_idiv M dX8_come_104 (by decide) ?_
                refine zz_iast M tM_4 h.1 dX8_come_105 ?_
                have h := h.2
                refine zz_sg (fun σ111 eσ111 => ?_)
                have h := h σ111 eσ111
                refine zz_aload_n M 2 dX8_come_106 rfl rfl ?_
                refine zz_getR M f_X8_26 tM_0 rfl dX8_come_107 ?_
                refine zz_iload M 0 dX8_come_110 rfl ?_
                refine zz_iload_n M 4 dX8_come_112 rfl rfl ?_
                refine zz_bipush (v := 100) M dX8_come_113 (by decide) ?_
                refine zz_irem M dX8_come_115 (by decide) ?_
                refine zz_iast M tM_5 h.1 dX8_come_116 ?_
                have h := h.2
                refine zz_sg (fun σ112 eσ112 => ?_)
                have h := h σ112 eσ112
                refine zz_aload_n M 2 dX8_come_117 rfl rfl ?_
                refine zz_getR M f_X8_29 tM_0 rfl dX8_come_118 ?_
                refine zz_iload M 0 dX8_come_121 rfl ?_
                refine zz_iload_n M 5 dX8_come_123 rfl rfl ?_
                refine zz_iast M tM_6 h.1 dX8_come_124 ?_
                have h := h.2
                refine zz_sg (fun σ113 eσ113 => ?_)
                have h := h σ113 eσ113
                refine zz_iload_n M 3 dX8_come_125 rfl rfl ?_
                refine zz_if_ne (y0 := 0) M 142 dX8_come_126 (by decide) (fun c => ?_) (fun c => ?_)
                · have h := zifn (c := x1 = 0) h c
                  refine zz_aload_n M 2 dX8_come_142 rfl rfl ?_
                  refine zz_dup M dX8_come_143 rfl ?_
                  refine zz_getI M f_X8_99 tM_0 rfl dX8_come_144 ?_
                  refine zz_iconst (v := 1) M dX8_come_147 (by decide) ?_
                  refine zz_iadd M dX8_come_148 ?_
                  refine zz_putI M f_X8_99 tM_0 rfl dX8_come_149 ?_
                  refine zz_sg (fun σ114 eσ114 => ?_)
                  have h := h σ114 eσ114
                  refine zz_iload M 1 dX8_come_152 rfl ?_
                  exact zz_iret M dX8_come_154 h
                · have h := zif (c := x1 = 0) h c
                  refine zz_aload_n M 2 dX8_come_129 rfl rfl ?_
                  refine zz_dup M dX8_come_130 rfl ?_
                  refine zz_getI M f_X8_96 tM_0 rfl dX8_come_131 ?_
                  refine zz_iconst (v := 1) M dX8_come_134 (by decide) ?_
                  refine zz_iadd M dX8_come_135 ?_
                  refine zz_putI M f_X8_96 tM_0 rfl dX8_come_136 ?_
                  refine zz_sg (fun σ115 eσ115 => ?_)
                  have h := h σ115 eσ115
                  refine zz_goto M 152 dX8_come_139 (by decide) ?_
                  refine zz_iload M 1 dX8_come_152 rfl ?_
                  exact zz_iret M dX8_come_154 h
              · have h := zif (c := x109 = 4) h c
                refine zz_bipush (v := (-4)) M dX8_come_84 (by decide) ?_
                exact zz_iret M dX8_come_86 h
            · have h := zif (c := x1 = 0) h c
              refine zz_aload_n M 0 dX8_come_65 rfl rfl ?_
              refine zz_getI M f_X8_96 tM_0 rfl dX8_come_66 ?_
              refine zz_goto M 76 dX8_come_69 (by decide) ?_
              refine zz_topi (fun x116 ex116 => ?_)
              have h := h x116 ex116
              refine zz_istore M [(4, .int x116), (0, .ref (ad 0)), (1, .int x1), (2, .int x2), (3, .int x3)] dX8_come_76 (by decide) rfl ?_
              refine zz_iload M 0 dX8_come_78 rfl ?_
              refine zz_iconst (v := 4) M dX8_come_80 (by decide) ?_
              refine zz_icmp_ne M 87 dX8_come_81 (by decide) (fun c => ?_) (fun c => ?_)
              · have h := zifn (c := x116 = 4) h c
                refine zz_iconst (v := 4) M dX8_come_87 (by decide) ?_
                refine zz_iload_n M 2 dX8_come_88 rfl rfl ?_
                refine zz_imul M dX8_come_89 ?_
                refine zz_iload M 0 dX8_come_90 rfl ?_
                refine zz_iadd M dX8_come_92 ?_
                refine zz_topi (fun x117 ex117 => ?_)
                have h := h x117 ex117
                refine zz_istore M [(5, .int x117), (4, .int x116), (0, .ref (ad 0)), (1, .int x1), (2, .int x2), (3, .int x3)] dX8_come_93 (by decide) rfl ?_
                refine zz_aload_n M 2 dX8_come_95 rfl rfl ?_
                refine zz_getR M f_X8_23 tM_0 rfl dX8_come_96 ?_
                refine zz_iload M 0 dX8_come_99 rfl ?_
                refine zz_iload_n M 4 dX8_come_101 rfl rfl ?_
                refine zz_bipush (v := 100) M dX8_come_102 (by decide) ?_
                refine zz_idiv M dX8_come_104 (by decide) ?_
                refine zz_iast M tM_4 h.1 dX8_come_105 ?_
                have h := h.2
                refine zz_sg (fun σ118 eσ118 => ?_)
                have h := h σ118 eσ118
                refine zz_aload_n M 2 dX8_come_106 rfl rfl ?_
                refine zz_getR M f_X8_26 tM_0 rfl dX8_come_107 ?_
                refine zz_iload M 0 dX8_come_110 rfl ?_
                refine zz_iload_n M 4 dX8_come_112 rfl rfl ?_
                refine zz_bipush (v := 100) M dX8_come_113 (by decide) ?_
                refine zz_irem M dX8_come_115 (by decide) ?_
                refine zz_iast M tM_5 h.1 dX8_come_116 ?_
                have h := h.2
                refine zz_sg (fun σ119 eσ119 => ?_)
                have h := h σ119 eσ119
                refine zz_aload_n M 2 dX8_come_117 rfl rfl ?_
                refine zz_getR M f_X8_29 tM_0 rfl dX8_come_118 ?_
                refine zz_iload M 0 dX8_come_121 rfl ?_
                refine zz_iload_n M 5 dX8_come_123 rfl rfl ?_
                refine zz_iast M tM_6 h.1 dX8_come_124 ?_
                have h := h.2
                refine zz_sg (fun σ120 eσ120 => ?_)
                have h := h σ120 eσ120
                refine zz_iload_n M 3 dX8_come_125 rfl rfl ?_
                refine zz_if_ne (y0 := 0) M 142 dX8_come_126 (by decide) (fun c => ?_) (fun c => ?_)
                · have h := zifn (c := x1 = 0) h c
                  refine zz_aload_n M 2 dX8_come_142 rfl rfl ?_
                  refine zz_dup M dX8_come_143 rfl ?_
                  refine zz_getI M f_X8_99 tM_0 rfl dX8_come_144 ?_
                  refine zz_iconst (v := 1) M dX8_come_147 (by decide) ?_
                  refine zz_iadd M dX8_come_148 ?_
                  refine zz_putI M f_X8_99 tM_0 rfl dX8_come_149 ?_
                  refine zz_sg (fun σ121 eσ121 => ?_)
                  have h := h σ121 eσ121
                  refine zz_iload M 1 dX8_come_152 rfl ?_
                  exact zz_iret M dX8_come_154 h
                · have h := zif (c := x1 = 0) h c
                  refine zz_aload_n M 2 dX8_come_129 rfl rfl ?_
                  refine zz_dup M dX8_come_130 rfl ?_
                  refine zz_getI M f_X8_96 tM_0 rfl dX8_come_131 ?_
                  refine zz_iconst (v := 1) M dX8_come_134 (by decide) ?_
                  refine zz_iadd M dX8_come_135 ?_
                  refine zz_putI M f_X8_96 tM_0 rfl dX8_come_136 ?_
                  refine zz_sg (fun σ122 eσ122 => ?_)
                  have h := h σ122 eσ122
                  refine zz_goto M 152 dX8_come_139 (by decide) ?_
                  refine zz_iload M 1 dX8_come_152 rfl ?_
                  exact zz_iret M dX8_come_154 h
              · have h := zif (c := x116 = 4) h c
                refine zz_bipush (v := (-4)) M dX8_come_84 (by decide) ?_
                exact zz_iret M dX8_come_86 h
          · have h := zif (c := r107 = 0) h c
            refine zz_bipush (v := (-2)) M dX8_come_58 (by decide) ?_
            exact zz_iret M dX8_come_60 h
def wX8_isHere (x1 : Int32) (x2 : Int32) (σ : zSt) (Q : Int32 → zSt → Prop) : Prop := wX8_in ((x1 : Int32).toInt64) 0 1 σ (fun r101 σ102 => if r101 = 0 then (Q 0 σ102) else (if x1 = 0 then (wX8_in ((x2 : Int32).toInt64) 0 (((σ102.1 0 10) - 1 : Int32).toInt64) σ102 (fun r105 σ106 => if r105 = 0 then (Q 0 σ106) else (Q 1 σ106))) else (wX8_in ((x2 : Int32).toInt64) 0 (((σ102.1 0 11) - 1 : Int32).toInt64) σ102 (fun r103 σ104 => if r103 = 0 then (Q 0 σ104) else (Q 1 σ104)))))
set_option maxRecDepth 20000 in
set_option maxHeartbeats 4000000 in
theorem kX8_isHere (hI : zInj tabM ad) (x1 : Int32) (x2 : Int32)  (σ : zSt) (Q : Int32 → zSt → Prop) (h : wX8_isHere x1 x2 σ Q) : zOkI l tabM D cA ad y 2 yX8_isHere cX8_isHere 3 (some .boolean) [.ref (ad 0), .int x1, .int x2] σ Q := by
  refine zz_enter hI (by decide) (Nat.le_of_ble_eq_true rfl) (fun p e s m below meth c M => ?_)
  have M : zM p s m _ meth c cX8_isHere 3 RX8 (some .boolean) tabM D cA ad y := M
  refine zz_ls [(0, .ref (ad 0)), (1, .int x1), (2, .int x2)] rfl ?_
  unfold wX8_isHere at h
  refine zz_iload_n M 1 dX8_isHere_0 rfl rfl ?_
  refine zz_i2l M dX8_isHere_1 ?_
  refine zz_lconst (v := 0) M dX8_isHere_2 (by decide) ?_
  refine zz_lconst (v := 1) M dX8_isHere_3 (by decide) ?_
  refine zz_callSI (d' := 1) (As := [.long ((x1 : Int32).toInt64), .long 0, .long 1]) (rest := []) M l_X8_92 dX8_isHere_4 rfl rfl (by decide) (Nat.le_of_ble_eq_true rfl) (by have hI := M.2.2.2.2.2.2.2.2; exact kX8_in hI _ _ _  _ _ h) (fun r101 σ102 h => ?_)
  refine zz_if_eq (y0 := 0) M 41 dX8_isHere_7 (by decide) (fun c => ?_) (fun c => ?_)
  · have h := zif (c := r101 = 0) h c
    refine zz_iconst (v := 0) M dX8_isHere_41 (by decide) ?_
    exact zz_zret M dX8_isHere_42 (Or.inl rfl) h
  · have h := zifn (c := r101 = 0) h c
    refine zz_iload_n M 2 dX8_isHere_10 rfl rfl ?_
    refine zz_i2l M dX8_isHere_11 ?_
    refine zz_lconst (v := 0) M dX8_isHere_12 (by decide) ?_
    refine zz_iload_n M 1 dX8_isHere_13 rfl rfl ?_
    refine zz_if_ne (y0 := 0) M 24 dX8_isHere_14 (by decide) (fun c => ?_) (fun c => ?_)
    · have h := zifn (c := x1 = 0) h c
      refine zz_aload_n M 0 dX8_isHere_24 rfl rfl ?_
      refine zz_getI M f_X8_99 tM_0 rfl dX8_isHere_25 ?_
      refine zz_iconst (v := 1) M dX8_isHere_28 (by decide) ?_
      refine zz_isub M dX8_isHere_29 ?_
      refine zz_i2l M dX8_isHere_30 ?_
      refine zz_callSI (d' := 1) (As := [.long ((x2 : Int32).toInt64), .long 0, .long (((σ102.1 0 11) - 1 : Int32).toInt64)]) (rest := []) M l_X8_92 dX8_isHere_31 rfl rfl (by decide) (Nat.le_of_ble_eq_true rfl) (by have hI := M.2.2.2.2.2.2.2.2; exact kX8_in hI _ _ _  _ _ h) (fun r103 σ104 h => ?_)
      refine zz_if_eq (y0 := 0) M 41 dX8_isHere_34 (by decide) (fun c => ?_) (fun c => ?_)
      · have h := zif (c := r103 = 0) h c
        refine zz_iconst (v := 0) M dX8_isHere_41 (by decide) ?_
        exact zz_zret M dX8_isHere_42 (Or.inl rfl) h
      · have h := zifn (c := r103 = 0) h c
        refine zz_iconst (v := 1) M dX8_isHere_37 (by decide) ?_
        refine zz_goto M 42 dX8_isHere_38 (by decide) ?_
        exact zz_zret M dX8_isHere_42 (Or.inr rfl) h
    · have h := zif (c := x1 = 0) h c
      refine zz_aload_n M 0 dX8_isHere_17 rfl rfl ?_
      refine zz_getI M f_X8_96 tM_0 rfl dX8_isHere_18 ?_
      refine zz_goto M 28 dX8_isHere_21 (by decide) ?_
      refine zz_iconst (v := 1) M dX8_isHere_28 (by decide) ?_
      refine zz_isub M dX8_isHere_29 ?_
      refine zz_i2l M dX8_isHere_30 ?_
      refine zz_callSI (d' := 1) (As := [.long ((x2 : Int32).toInt64), .long 0, .long (((σ102.1 0 10) - 1 : Int32).toInt64)]) (rest := []) M l_X8_92 dX8_isHere_31 rfl rfl (by decide) (Nat.le_of_ble_eq_true rfl) (by have hI := M.2.2.2.2.2.2.2.2; exact kX8_in hI _ _ _  _ _ h) (fun r105 σ106 h => ?_)
      refine zz_if_eq (y0 := 0) M 41 dX8_isHere_34 (by decide) (fun c => ?_) (fun c => ?_)
      · have h := zif (c := r105 = 0) h c
        refine zz_iconst (v := 0) M dX8_isHere_41 (by decide) ?_
        exact zz_zret M dX8_isHere_42 (Or.inl rfl) h
      · have h := zifn (c := r105 = 0) h c
        refine zz_iconst (v := 1) M dX8_isHere_37 (by decide) ?_
        refine zz_goto M 42 dX8_isHere_38 (by decide) ?_
        exact zz_zret M dX8_isHere_42 (Or.inr rfl) h
end
