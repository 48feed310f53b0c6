section
variable {p : Program} {l : Launch} {e : Env} {s : State} {m : MethodId} {args : Array Value} {below : List Frame} {meth : Method} {c : Code} {D : va_G} {cA : Nat → ClassId} {ad : Nat → Nat} {y : zX}
def wX8_set (x1 : Int32) (x2 : Int32) (x3 : Int32) (x4 : Int32) (σ : zSt) (Q : Int32 → zSt → Prop) : Prop := wX8_isHere x1 x2 σ (fun r101 σ102 => if r101 = 0 then (Q (-2) σ102) else (∀ a103 : Int64, a103 = ((x3 : Int32).toInt64) → (wX8_in a103 0 2 σ102 (fun r104 σ105 => if r104 = 0 then (Q (-2) σ105) else (if x3 = 0 then (∀ a138 : Int64, a138 = ((x4 : Int32).toInt64) → (wX8_in a138 0 2 σ105 (fun r139 σ140 => if r139 = 0 then (Q (-2) σ140) else (∀ x141 : Int32, x141 = ((4 * x1) + x2) → (if x3 = 0 then (vp_in x141 8 ∧ (∀ x150 : Int32, x150 = (σ140.1 4 x141.toNatClampNeg) → (if x3 = 0 then (vp_in x141 8 ∧ (∀ σ153 : zSt, σ153 = zput σ140 4 x141.toNatClampNeg x4 → (Q x150 σ153))) else (if x3 = 1 then (vp_in x141 8 ∧ (∀ σ152 : zSt, σ152 = zput σ140 5 x141.toNatClampNeg x4 → (Q x150 σ152))) else (vp_in x141 8 ∧ (∀ σ151 : zSt, σ151 = zput σ140 6 x141.toNatClampNeg x4 → (Q x150 σ151))))))) else (if x3 = 1 then (vp_in x141 8 ∧ (∀ x146 : Int32, x146 = (σ140.1 5 x141.toNatClampNeg) → (if x3 = 0 then (vp_in x141 8 ∧ (∀ σ149 : zSt, σ149 = zput σ140 4 x141.toNatClampNeg x4 → (Q x146 σ149))) else (if x3 = 1 then (vp_in x141 8 ∧ (∀ σ148 : zSt, σ148 = zput σ140 5 x141.toNatClampNeg x4 → (Q x146 σ148))) else (vp_in x141 8 ∧ (∀ σ147 : zSt, σ147 = zput σ140 6 x141.toNatClampNeg x4 → (Q x146 σ147))))))) else (vp_in x141 8 ∧ (∀ x142 : Int32, x142 = (σ140.1 6 x141.toNatClampNeg) → (if x3 = 0 then (vp_in x141 8 ∧ (∀ σ145 : zSt, σ145 = zput σ140 4 x141.toNatClampNeg x4 → (Q x142 σ145))) else (if x3 = 1 then (vp_in x141 8 ∧ (∀ σ144 : zSt, σ144 = zput σ140 5 x141.toNatClampNeg x4 → (Q x142 σ144))) else (vp_in x141 8 ∧ (∀ σ143 : zSt, σ143 = zput σ140 6 x141.toNatClampNeg x4 → (Q x142 σ143))))))))))))) else (if x3 = 1 then (∀ a122 : Int64, a122 = ((x4 : Int32).toInt64) → (wX8_in a122 0 23 σ105 (fun r123 σ124 => if r123 = 0 then (Q (-2) σ124) else (∀ x125 : Int32, x125 = ((4 * x1) + x2) → (if x3 = 0 then (vp_in x125 8 ∧ (∀ x134 : Int32, x134 = (σ124.1 4 x125.toNatClampNeg) → (if x3 = 0 then (vp_in x125 8 ∧ (∀ σ137 : zSt, σ137 = zput σ124 4 x125.toNatClampNeg x4 → (Q x134 σ137))) else (if x3 = 1 then (vp_in x125 8 ∧ (∀ σ136 : zSt, σ136 = zput σ124 5 x125.toNatClampNeg x4 → (Q x134 σ136))) else (vp_in x125 8 ∧ (∀ σ135 : zSt, σ135 = zput σ124 6 x125.toNatClampNeg x4 → (Q x134 σ135))))))) else (if x3 = 1 then (vp_in x125 8 ∧ (∀ x130 : Int32, x130 = (σ124.1 5 x125.toNatClampNeg) → (if x3 = 0 then (vp_in x125 8 ∧ (∀ σ133 : zSt, σ133 = zput σ124 4 x125.toNatClampNeg x4 → (Q x130 σ133))) else (if x3 = 1 then (vp_in x125 8 ∧ (∀ σ132 : zSt, σ132 = zput σ124 5 x125.toNatClampNeg x4 → (Q x130 σ132))) else (vp_in x125 8 ∧ (∀ σ131 : zSt, σ131 = zput σ124 6 x125.toNatClampNeg x4 → (Q x130 σ131))))))) else (vp_in x125 8 ∧ (∀ x126 : Int32, x126 = (σ124.1 6 x125.toNatClampNeg) → (if x3 = 0 then (vp_in x125 8 ∧ (∀ σ129 : zSt, σ129 = zput σ124 4 x125.toNatClampNeg x4 → (Q x126 σ129))) else (if x3 = 1 then (vp_in x125 8 ∧ (∀ σ128 : zSt, σ128 = zput σ124 5 x125.toNatClampNeg x4 → (Q x126 σ128))) else (vp_in x125 8 ∧ (∀ σ127 : zSt, σ127 = zput σ124 6 x125.toNatClampNeg x4 → (Q x126 σ127))))))))))))) else (∀ a106 : Int64, a106 = ((x4 : Int32).toInt64) → (wX8_in a106 0 9 σ105 (fun r107 σ108 => if r107 = 0 then (Q (-2) σ108) else (∀ x109 : Int32, x109 = ((4 * x1) + x2) → (if x3 = 0 then (vp_in x109 8 ∧ (∀ x118 : Int32, x118 = (σ108.1 4 x109.toNatClampNeg) → (if x3 = 0 then (vp_in x109 8 ∧ (∀ σ121 : zSt, σ121 = zput σ108 4 x109.toNatClampNeg x4 → (Q x118 σ121))) else (if x3 = 1 then (vp_in x109 8 ∧ (∀ σ120 : zSt, σ120 = zput σ108 5 x109.toNatClampNeg x4 → (Q x118 σ120))) else (vp_in x109 8 ∧ (∀ σ119 : zSt, σ119 = zput σ108 6 x109.toNatClampNeg x4 → (Q x118 σ119))))))) else (if x3 = 1 then (vp_in x109 8 ∧ (∀ x114 : Int32, x114 = (σ108.1 5 x109.toNatClampNeg) → (if x3 = 0 then (vp_in x109 8 ∧ (∀ σ117 : zSt, σ117 = zput σ108 4 x109.toNatClampNeg x4 → (Q x114 σ117))) else (if x3 = 1 then (vp_in x109 8 ∧ (∀ σ116 : zSt, σ116 = zput σ108 5 x109.toNatClampNeg x4 → (Q x114 σ116))) else (vp_in x109 8 ∧ (∀ σ115 : zSt, σ115 = zput σ108 6 x109.toNatClampNeg x4 → (Q x114 σ115))))))) else (vp_in x109 8 ∧ (∀ x110 : Int32, x110 = (σ108.1 6 x109.toNatClampNeg) → (if x3 = 0 then (vp_in x109 8 ∧ (∀ σ113 : zSt, σ113 = zput σ108 4 x109.toNatClampNeg x4 → (Q x110 σ113))) else (if x3 = 1 then (vp_in x109 8 ∧ (∀ σ112 : zSt, σ112 = zput σ108 5 x109.toNatClampNeg x4 → (Q x110 σ112))) else (vp_in x109 8 ∧ (∀ σ111 : zSt, σ111 = zput σ108 6 x109.toNatClampNeg x4 → (Q x110 σ111)))))))))))))))))))
set_option maxRecDepth 20000 in
set_option maxHeartbeats 4000000 in
theorem kX8_set (hI : zInj tabM ad) (x1 : Int32) (x2 : Int32) (x3 : Int32) (x4 : Int32)  (σ : zSt) (Q : Int32 → zSt → Prop) (h : wX8_set x1 x2 x3 x4 σ Q) : zOkI l tabM D cA ad y 3 yX8_set cX8_set 7 (some .int) [.ref (ad 0), .int x1, .int x2, .int x3, .int x4] σ Q := by
  refine zz_enter hI (by decide) (Nat.le_of_ble_eq_true rfl) (fun p e s m below meth c M => ?_)
  have M : zM p s m _ meth c cX8_set 7 RX8 (some .int) tabM D cA ad y := M
  refine zz_ls [(0, .ref (ad 0)), (1, .int x1), (2, .int x2), (3, .int x3), (4, .int x4)] rfl ?_
  unfold wX8_set at h
  refine zz_aload_n M 0 dX8_set_0 rfl rfl ?_
  refine zz_iload_n M 1 dX8_set_1 rfl rfl ?_
  refine zz_iload_n M 2 dX8_set_2 rfl rfl ?_
  refine zz_callVI (d' := 2) (As := [.int x1, .int x2]) (rest := []) M l_X8_108 tM_0 rfl rfl dX8_set_3 rfl rfl (by decide) (Nat.le_of_ble_eq_true rfl) (by have hI := M.2.2.2.2.2.2.2.2; exact kX8_isHere hI _ _  _ _ h) (fun r101 σ102 h => ?_)
  refine zz_if_eq (y0 := 0) M 55 dX8_set_6 (by decide) (fun c => ?_) (fun c => ?_)
  · have h := zif (c := r101 = 0) h c
    refine zz_bipush (v := (-2)) M dX8_set_55 (by decide) ?_
    exact zz_iret M dX8_set_57 h
  · have h := zifn (c := r101 = 0) h c
    refine zz_iload_n M 3 dX8_set_9 rfl rfl ?_
    refine zz_i2l M dX8_set_10 ?_
    refine zz_lconst (v := 0) M dX8_set_11 (by decide) ?_
    refine zz_ldc2 (v := 2) M k_X8_104 dX8_set_12 ?_
    obtain ⟨a103, ea103⟩ : ∃ z : Int64, z = ((x3 : Int32).toInt64) := ⟨_, rfl⟩
    have h := h a103 ea103
    refine zz_st [.long 2, .long 0, .long a103] (by rw [ea103]) ?_
    refine zz_callSI (d' := 1) (As := [.long a103, .long 0, .long 2]) (rest := []) M l_X8_92 dX8_set_15 rfl rfl (by decide) (Nat.le_of_ble_eq_true rfl) (by have hI := M.2.2.2.2.2.2.2.2; exact kX8_in hI _ _ _  _ _ h) (fun r104 σ105 h => ?_)
    refine zz_if_eq (y0 := 0) M 55 dX8_set_18 (by decide) (fun c => ?_) (fun c => ?_)
    · have h := zif (c := r104 = 0) h c
      refine zz_bipush (v := (-2)) M dX8_set_55 (by decide) ?_
      exact zz_iret M dX8_set_57 h
    · have h := zifn (c := r104 = 0) h c
      refine zz_iload M 4 dX8_set_21 rfl ?_
      refine zz_i2l M dX8_set_23 ?_
      refine zz_lconst (v := 0) M dX8_set_24 (by decide) ?_
      refine zz_iload_n M 3 dX8_set_25 rfl rfl ?_
      refine zz_if_ne (y0 := 0) M 35 dX8_set_26 (by decide) (fun c => ?_) (fun c => ?_)
      · have h := zifn (c := x3 = 0) h c
        refine zz_iload_n M 3 dX8_set_35 rfl rfl ?_
        refine zz_iconst (v := 1) M dX8_set_36 (by decide) ?_
        refine zz_icmp_ne M 46 dX8_set_37 (by decide) (fun c => ?_) (fun c => ?_)
        · have h := zifn (c := x3 = 1) h c
          refine zz_ldc2 (v := 9) M k_X8_106 dX8_set_46 ?_
          obtain ⟨a106, ea106⟩ : ∃ z : Int64, z = ((x4 : Int32).toInt64) := ⟨_, rfl⟩
          have h := h a106 ea106
          refine zz_st [.long 9, .long 0, .long a106] (by rw [ea106]) ?_
          refine zz_callSI (d' := 1) (As := [.long a106, .long 0, .long 9]) (rest := []) M l_X8_92 dX8_set_49 rfl rfl (by decide) (Nat.le_of_ble_eq_true rfl) (by have hI := M.2.2.2.2.2.2.2.2; exact kX8_in hI _ _ _  _ _ h) (fun r107 σ108 h => ?_)
          refine zz_if_ne (y0 := 0) M 58 dX8_set_52 (by decide) (fun c => ?_) (fun c => ?_)
          · have h := zifn (c := r107 = 0) h c
            refine zz_iconst (v := 4) M dX8_set_58 (by decide) ?_
            refine zz_iload_n M 1 dX8_set_59 rfl rfl ?_
            refine zz_imul M dX8_set_60 ?_
            refine zz_iload_n M 2 dX8_set_61 rfl rfl ?_
            refine zz_iadd M dX8_set_62 ?_
            refine zz_topi (fun x109 ex109 => ?_)
            have h := h x109 ex109
            refine zz_istore M [(5, .int x109), (0, .ref (ad 0)), (1, .int x1), (2, .int x2), (3, .int x3), (4, .int x4)] dX8_set_63 (by decide) rfl ?_
            refine zz_iload_n M 4 dX8_set_65 rfl rfl ?_
            refine zz_if_ne (y0 := 0) M 79 dX8_set_66 (by decide) (fun c => ?_) (fun c => ?_)
            · have h := zifn (c := x3 = 0) h c
              refine zz_iload_n M 4 dX8_set_79 rfl rfl ?_
              refine zz_iconst (v := 1) M dX8_set_80 (by decide) ?_
              refine zz_icmp_ne M 94 dX8_set_81 (by decide) (fun c => ?_) (fun c => ?_)
              · have h := zifn (c := x3 = 1) h c
                refine zz_aload_n M 1 dX8_set_94 rfl rfl ?_
                refine zz_getR M f_X8_29 tM_0 rfl dX8_set_95 ?_
                refine zz_iload M 0 dX8_set_98 rfl ?_
                refine zz_iald M tM_6 h.1 dX8_set_100 ?_
                have h := h.2
                refine zz_topi (fun x110 ex110 => ?_)
                have h := h x110 ex110
                refine zz_istore M [(6, .int x110), (5, .int x109), (0, .ref (ad 0)), (1, .int x1), (2, .int x2), (3, .int x3), (4, .int x4)] dX8_set_101 (by decide) rfl ?_
                refine zz_iload_n M 5 dX8_set_103 rfl rfl ?_
                refine zz_if_ne (y0 := 0) M 119 dX8_set_104 (by decide) (fun c => ?_) (fun c => ?_)
                · have h := zifn (c := x3 = 0) h c
                  refine zz_iload_n M 5 dX8_set_119 rfl rfl ?_
                  refine zz_iconst (v := 1) M dX8_set_120 (by decide) ?_
                  refine zz_icmp_ne M 136 dX8_set_121 (by decide) (fun c => ?_) (fun c => ?_)
                  · have h := zifn (c := x3 = 1) h c
                    refine zz_aload_n M 2 dX8_set_136 rfl rfl ?_
                    refine zz_getR M f_X8_29 tM_0 rfl dX8_set_137 ?_
                    refine zz_iload M 1 dX8_set_140 rfl ?_
                    refine zz_iload M 6 dX8_set_142 rfl ?_
                    refine zz_iast M tM_6 h.1 dX8_set_144 ?_
                    have h := h.2
                    refine zz_sg (fun σ111 eσ111 => ?_)
                    have h := h σ111 eσ111
                    refine zz_iload M 0 dX8_set_145 rfl ?_
                    exact zz_iret M dX8_set_147 h
                  · have h := zif (c := x3 = 1) h c
                    refine zz_aload_n M 2 dX8_set_124 rfl rfl ?_
                    refine zz_getR M f_X8_26 tM_0 rfl dX8_set_125 ?_
                    refine zz_iload M 1 dX8_set_128 rfl ?_
                    refine zz_iload M 6 dX8_set_130 rfl ?_
                    refine zz_iast M tM_5 h.1 dX8_set_132 ?_
                    have h := h.2
                    refine zz_sg (fun σ112 eσ112 => ?_)
                    have h := h σ112 eσ112
                    refine zz_goto M 145 dX8_set_133 (by decide) ?_
                    refine zz_iload M 0 dX8_set_145 rfl ?_
                    exact zz_iret M dX8_set_147 h
                · have h := zif (c := x3 = 0) h c
                  refine zz_aload_n M 2 dX8_set_107 rfl rfl ?_
                  refine zz_getR M f_X8_23 tM_0 rfl dX8_set_108 ?_
                  refine zz_iload M 1 dX8_set_111 rfl ?_
                  refine zz_iload M 6 dX8_set_113 rfl ?_
                  refine zz_iast M tM_4 h.1 dX8_set_115 ?_
                  have h := h.2
                  refine zz_sg (fun σ113 eσ113 => ?_)
                  have h := h σ113 eσ113
                  refine zz_goto M 145 dX8_set_116 (by decide) ?_
                  refine zz_iload M 0 dX8_set_145 rfl ?_
                  exact zz_iret M dX8_set_147 h
              · have h := zif (c := x3 = 1) h c
                refine zz_aload_n M 1 dX8_set_84 rfl rfl ?_
                refine zz_getR M f_X8_26 tM_0 rfl dX8_set_85 ?_
                refine zz_iload M 0 dX8_set_88 rfl ?_
                refine zz_iald M tM_5 h.1 dX8_set_90 ?_
                have h := h.2
                refine zz_goto M 101 dX8_set_91 (by decide) ?_
                refine zz_topi (fun x114 ex114 => ?_)
                have h := h x114 ex114
                refine zz_istore M [(6, .int x114), (5, .int x109), (0, .ref (ad 0)), (1, .int x1), (2, .int x2), (3, .int x3), (4, .int x4)] dX8_set_101 (by decide) rfl ?_
                refine zz_iload_n M 5 dX8_set_103 rfl rfl ?_
                refine zz_if_ne (y0 := 0) M 119 dX8_set_104 (by decide) (fun c => ?_) (fun c => ?_)
                · have h := zifn (c := x3 = 0) h c
                  refine zz_iload_n M 5 dX8_set_119 rfl rfl ?_
                  refine zz_iconst (v := 1) M dX8_set_120 (by decide) ?_
                  refine zz_icmp_ne M 136 dX8_set_121 (by decide) (fun c => ?_) (fun c => ?_)
                  · have h := zifn (c := x3 = 1) h c
                    refine zz_aload_n M 2 dX8_set_136 rfl rfl ?_
                    refine zz_getR M f_X8_29 tM_0 rfl dX8_set_137 ?_
                    refine zz_iload M 1 dX8_set_140 rfl ?_
                    refine zz_iload M 6 dX8_set_142 rfl ?_
                    refine zz_iast M tM_6 h.1 dX8_set_144 ?_
                    have h := h.2
                    refine zz_sg (fun σ115 eσ115 => ?_)
                    have h := h σ115 eσ115
                    refine zz_iload M 0 dX8_set_145 rfl ?_
                    exact zz_iret M dX8_set_147 h
                  · have h := zif (c := x3 = 1) h c
                    refine zz_aload_n M 2 dX8_set_124 rfl rfl ?_
                    refine zz_getR M f_X8_26 tM_0 rfl dX8_set_125 ?_
                    refine zz_iload M 1 dX8_set_128 rfl ?_
                    refine zz_iload M 6 dX8_set_130 rfl ?_
                    refine zz_iast M tM_5 h.1 dX8_set_132 ?_
                    have h := h.2
                    refine zz_sg (fun σ116 eσ116 => ?_)
                    have h := h σ116 eσ116
                    refine zz_goto M 145 dX8_set_133 (by decide) ?_
                    refine zz_iload M 0 dX8_set_145 rfl ?_
                    exact zz_iret M dX8_set_147 h
                · have h := zif (c := x3 = 0) h c
                  refine zz_aload_n M 2 dX8_set_107 rfl rfl ?_
                  refine zz_getR M f_X8_23 tM_0 rfl dX8_set_108 ?_
                  refine zz_iload M 1 dX8_set_111 rfl ?_
                  refine zz_iload M 6 dX8_set_113 rfl ?_
                  refine zz_iast M tM_4 h.1 dX8_set_115 ?_
                  have h := h.2
                  refine zz_sg (fun σ117 eσ117 => ?_)
                  have h := h σ117 eσ117
                  refine zz_goto M 145 dX8_set_116 (by decide) ?_
                  refine zz_iload M 0 dX8_set_145 rfl ?_
                  exact zz_iret M dX8_set_147 h
            · have h := zif (c := x3 = 0) h c
              refine zz_aload_n M 1 dX8_set_69 rfl rfl ?_
              refine zz_getR M f_X8_23 tM_0 rfl dX8_set_70 ?_
              refine zz_iload M 0 dX8_set_73 rfl ?_
              refine zz_iald M tM_4 h.1 dX8_set_75 ?_
              have h := h.2
              refine zz_goto M 101 dX8_set_76 (by decide) ?_
              refine zz_topi (fun x118 ex118 => ?_)
              have h := h x118 ex118
              refine zz_istore M [(6, .int x118), (5, .int x109), (0, .ref (ad 0)), (1, .int x1), (2, .int x2), (3, .int x3), (4, .int x4)] dX8_set_101 (by decide) rfl ?_
              refine zz_iload_n M 5 dX8_set_103 rfl rfl ?_
              refine zz_if_ne (y0 := 0) M 119 dX8_set_104 (by decide) (fun c => ?_) (fun c => ?_)
              · have h := zifn (c := x3 = 0) h c
                refine zz_iload_n M 5 dX8_set_119 rfl rfl ?_
                refine zz_iconst (v := 1) M dX8_set_120 (by decide) ?_
                refine zz_icmp_ne M 136 dX8_set_121 (by decide) (fun c => ?_) (fun c => ?_)
                · have h := zifn (c := x3 = 1) h c
                  refine zz_aload_n M 2 dX8_set_136 rfl rfl ?_
                  refine zz_getR M f_X8_29 tM_0 rfl dX8_set_137 ?_
                  refine zz_iload M 1 dX8_set_140 rfl ?_
                  refine zz_iload M 6 dX8_set_142 rfl ?_
                  refine zz_iast M tM_6 h.1 dX8_set_144 ?_
                  have h := h.2
                  refine zz_sg (fun σ119 eσ119 => ?_)
                  have h := h σ119 eσ119
                  refine zz_iload M 0 dX8_set_145 rfl ?_
                  exact zz_iret M dX8_set_147 h
                · have h := zif (c := x3 = 1) h c
                  refine zz_aload_n M 2 dX8_set_124 rfl rfl ?_
                  refine zz_getR M f_X8_26 tM_0 rfl dX8_set_125 ?_
                  refine zz_iload M 1 dX8_set_128 rfl ?_
                  refine zz_iload M 6 dX8_set_130 rfl ?_
                  refine zz_iast M tM_5 h.1 dX8_set_132 ?_
                  have h := h.2
                  refine zz_sg (fun σ120 eσ120 => ?_)
                  have h := h σ120 eσ120
                  refine zz_goto M 145 dX8_set_133 (by decide) ?_
                  refine zz_iload M 0 dX8_set_145 rfl ?_
                  exact zz_iret M dX8_set_147 h
              · have h := zif (c := x3 = 0) h c
                refine zz_aload_n M 2 dX8_set_107 rfl rfl ?_
                refine zz_getR M f_X8_23 tM_0 rfl dX8_set_108 ?_
                refine zz_iload M 1 dX8_set_111 rfl ?_
                refine zz_iload M 6 dX8_set_113 rfl ?_
                refine zz_iast M tM_4 h.1 dX8_set_115 ?_
                have h := h.2
                refine zz_sg (fun σ121 eσ121 => ?_)
                have h := h σ121 eσ121
                refine zz_goto M 145 dX8_set_116 (by decide) ?_
                refine zz_iload M 0 dX8_set_145 rfl ?_
                exact zz_iret M dX8_set_147 h
          · have h := zif (c := r107 = 0) h c
            refine zz_bipush (v := (-2)) M dX8_set_55 (by decide) ?_
            exact zz_iret M dX8_set_57 h
        · have h := zif (c := x3 = 1) h c
          refine zz_ldc2 (v := 23) M k_X8_112 dX8_set_40 ?_
          refine zz_goto M 49 dX8_set_43 (by decide) ?_
          obtain ⟨a122, ea122⟩ : ∃ z : Int64, z = ((x4 : Int32).toInt64) := ⟨_, rfl⟩
          have h := h a122 ea122
          refine zz_st [.long 23, .long 0, .long a122] (by rw [ea122]) ?_
          refine zz_callSI (d' := 1) (As := [.long a122, .long 0, .long 23]) (rest := []) M l_X8_92 dX8_set_49 rfl rfl (by decide) (Nat.le_of_ble_eq_true rfl) (by have hI := M.2.2.2.2.2.2.2.2; exact kX8_in hI _ _ _  _ _ h) (fun r123 σ124 h => ?_)
          refine zz_if_ne (y0 := 0) M 58 dX8_set_52 (by decide) (fun c => ?_) (fun c => ?_)
          · have h := zifn (c := r123 = 0) h c
            refine zz_iconst (v := 4) M dX8_set_58 (by decide) ?_
            refine zz_iload_n M 1 dX8_set_59 rfl rfl ?_
            refine zz_imul M dX8_set_60 ?_
            refine zz_iload_n M 2 dX8_set_61 rfl rfl ?_
            refine zz_iadd M dX8_set_62 ?_
            refine zz_topi (fun x125 ex125 => ?_)
            have h := h x125 ex125
            refine zz_istore M [(5, .int x125), (0, .ref (ad 0)), (1, .int x1), (2, .int x2), (3, .int x3), (4, .int x4)] dX8_set_63 (by decide) rfl ?_
            refine zz_iload_n M 4 dX8_set_65 rfl rfl ?_
            refine zz_if_ne (y0 := 0) M 79 dX8_set_66 (by decide) (fun c => ?_) (fun c => ?_)
            · have h := zifn (c := x3 = 0) h c
              refine zz_iload_n M 4 dX8_set_79 rfl rfl ?_
              refine zz_iconst (v := 1) M dX8_set_80 (by decide) ?_
              refine zz_icmp_ne M 94 dX8_set_81 (by decide) (fun c => ?_) (fun c => ?_)
              · have h := zifn (c := x3 = 1) h c
                refine zz_aload_n M 1 dX8_set_94 rfl rfl ?_
                refine zz_getR M f_X8_29 tM_0 rfl dX8_set_95 ?_
                refine zz_iload M 0 dX8_set_98 rfl ?_
                refine zz_iald M tM_6 h.1 dX8_set_100 ?_
                have h := h.2
                refine zz_topi (fun x126 ex126 => ?_)
                have h := h x126 ex126
                refine zz_istore M [(6, .int x126), (5, .int x125), (0, .ref (ad 0)), (1, .int x1), (2, .int x2), (3, .int x3), (4, .int x4)] dX8_set_101 (by decide) rfl ?_
                refine zz_iload_n M 5 dX8_set_103 rfl rfl ?_
                refine zz_if_ne (y0 := 0) M 119 dX8_set_104 (by decide) (fun c => ?_) (fun c => ?_)
                · have h := zifn (c := x3 = 0) h c
                  refine zz_iload_n M 5 dX8_set_119 rfl rfl ?_
                  refine zz_iconst (v := 1) M dX8_set_120 (by decide) ?_
                  refine zz_icmp_ne M 136 dX8_set_121 (by decide) (fun c => ?_) (fun c => ?_)
                  · have h := zifn (c := x3 = 1) h c
                    refine zz_aload_n M 2 dX8_set_136 rfl rfl ?_
                    refine zz_getR M f_X8_29 tM_0 rfl dX8_set_137 ?_
                    refine zz_iload M 1 dX8_set_140 rfl ?_
                    refine zz_iload M 6 dX8_set_142 rfl ?_
                    refine zz_iast M tM_6 h.1 dX8_set_144 ?_
                    have h := h.2
                    refine zz_sg (fun σ127 eσ127 => ?_)
                    have h := h σ127 eσ127
                    refine zz_iload M 0 dX8_set_145 rfl ?_
                    exact zz_iret M dX8_set_147 h
                  · have h := zif (c := x3 = 1) h c
                    refine zz_aload_n M 2 dX8_set_124 rfl rfl ?_
                    refine zz_getR M f_X8_26 tM_0 rfl dX8_set_125 ?_
                    refine zz_iload M 1 dX8_set_128 rfl ?_
                    refine zz_iload M 6 dX8_set_130 rfl ?_
                    refine zz_iast M tM_5 h.1 dX8_set_132 ?_
                    have h := h.2
                    refine zz_sg (fun σ128 eσ128 => ?_)
                    have h := h σ128 eσ128
                    refine zz_goto M 145 dX8_set_133 (by decide) ?_
                    refine zz_iload M 0 dX8_set_145 rfl ?_
                    exact zz_iret M dX8_set_147 h
                · have h := zif (c := x3 = 0) h c
                  refine zz_aload_n M 2 dX8_set_107 rfl rfl ?_
                  refine zz_getR M f_X8_23 tM_0 rfl dX8_set_108 ?_
                  refine zz_iload M 1 dX8_set_111 rfl ?_
                  refine zz_iload M 6 dX8_set_113 rfl ?_
                  refine zz_iast M tM_4 h.1 dX8_set_115 ?_
                  have h := h.2
                  refine zz_sg (fun σ129 eσ129 => ?_)
                  have h := h σ129 eσ129
                  refine zz_goto M 145 dX8_set_116 (by decide) ?_
                  refine zz_iload M 0 dX8_set_145 rfl ?_
                  exact zz_iret M dX8_set_147 h
              · have h := zif (c := x3 = 1) h c
                refine zz_aload_n M 1 dX8_set_84 rfl rfl ?_
                refine zz_getR M f_X8_26 tM_0 rfl dX8_set_85 ?_
                refine zz_iload M 0 dX8_set_88 rfl ?_
                refine zz_iald M tM_5 h.1 dX8_set_90 ?_
                have h := h.2
                refine zz_goto M 101 dX8_set_91 (by decide) ?_
                refine zz_topi (fun x130 ex130 => ?_)
                have h := h x130 ex130
                refine zz_istore M [(6, .int x130), (5, .int x125), (0, .ref (ad 0)), (1, .int x1), (2, .int x2), (3, .int x3), (4, .int x4)] dX8_set_101 (by decide) rfl ?_
                refine zz_iload_n M 5 dX8_set_103 rfl rfl ?_
                refine zz_if_ne (y0 := 0) M 119 dX8_set_104 (by decide) (fun c => ?_) (fun c => ?_)
                · have h := zifn (c := x3 = 0) h c
                  refine zz_iload_n M 5 dX8_set_119 rfl rfl ?_
                  refine zz_iconst (v := 1) M dX8_set_120 (by decide) ?_
                  refine zz_icmp_ne M 136 dX8_set_121 (by decide) (fun c => ?_) (fun c => ?_)
                  · have h := zifn (c := x3 = 1) h c
                    refine zz_aload_n M 2 dX8_set_136 rfl rfl ?_
                    refine zz_getR M f_X8_29 tM_0 rfl dX8_set_137 ?_
                    refine zz_iload M 1 dX8_set_140 rfl ?_
                    refine zz_iload M 6 dX8_set_142 rfl ?_
                    refine zz_iast M tM_6 h.1 dX8_set_144 ?_
                    have h := h.2
                    refine zz_sg (fun σ131 eσ131 => ?_)
                    have h := h σ131 eσ131
                    refine zz_iload M 0 dX8_set_145 rfl ?_
                    exact zz_iret M dX8_set_147 h
                  · have h := zif (c := x3 = 1) h c
                    refine zz_aload_n M 2 dX8_set_124 rfl rfl ?_
                    refine zz_getR M f_X8_26 tM_0 rfl dX8_set_125 ?_
                    refine zz_iload M 1 dX8_set_128 rfl ?_
                    refine zz_iload M 6 dX8_set_130 rfl ?_
                    refine zz_iast M tM_5 h.1 dX8_set_132 ?_
                    have h := h.2
                    refine zz_sg (fun σ132 eσ132 => ?_)
                    have h := h σ132 eσ132
                    refine zz_goto M 145 dX8_set_133 (by decide) ?_
                    refine zz_iload M 0 dX8_set_145 rfl ?_
                    exact zz_iret M dX8_set_147 h
                · have h := zif (c := x3 = 0) h c
                  refine zz_aload_n M 2 dX8_set_107 rfl rfl ?_
                  refine zz_getR M f_X8_23 tM_0 rfl dX8_set_108 ?_
                  refine zz_iload M 1 dX8_set_111 rfl ?_
                  refine zz_iload M 6 dX8_set_113 rfl ?_
                  refine zz_iast M tM_4 h.1 dX8_set_115 ?_
                  have h := h.2
                  refine zz_sg (fun σ133 eσ133 => ?_)
                  have h := h σ133 eσ133
                  refine zz_goto M 145 dX8_set_116 (by decide) ?_
                  refine zz_iload M 0 dX8_set_145 rfl ?_
                  exact zz_iret M dX8_set_147 h
            · have h := zif (c := x3 = 0) h c
              refine zz_aload_n M 1 dX8_set_69 rfl rfl ?_
              refine zz_getR M f_X8_23 tM_0 rfl dX8_set_70 ?_
              refine zz_iload M 0 dX8_set_73 rfl ?_
              refine zz_iald M tM_4 h.1 dX8_set_75 ?_
              have h := h.2
              refine zz_goto M 101 dX8_set_76 (by decide) ?_
              refine zz_topi (fun x134 ex134 => ?_)
              have h := h x134 ex134
              refine zz_istore M [(6, .int x134), (5, .int x125), (0, .ref (ad 0)), (1, .int x1), (2, .int x2), (3, .int x3), (4, .int x4)] dX8_set_101 (by decide) rfl ?_
              refine zz_iload_n M 5 dX8_set_103 rfl rfl ?_
              refine zz_if_ne (y0 := 0) M 119 dX8_set_104 (by decide) (fun c => ?_) (fun c => ?_)
              · have h := zifn (c := x3 = 0) h c
                refine zz_iload_n M 5 dX8_set_119 rfl rfl ?_
                refine zz_iconst (v := 1) M dX8_set_120 (by decide) ?_
                refine zz_icmp_ne M 136 dX8_set_121 (by decide) (fun c => ?_) (fun c => ?_)
                · have h := zifn (c := x3 = 1) h c
                  refine zz_aload_n M 2 dX8_set_136 rfl rfl ?_
                  refine zz_getR M f_X8_29 tM_0 rfl dX8_set_137 ?_
                  refine zz_iload M 1 dX8_set_140 rfl ?_
                  refine zz_iload M 6 dX8_set_142 rfl ?_
                  refine zz_iast M tM_6 h.1 dX8_set_144 ?_
                  have h := h.2
                  refine zz_sg (fun σ135 eσ135 => ?_)
                  have h := h σ135 eσ135
                  refine zz_iload M 0 dX8_set_145 rfl ?_
                  exact zz_iret M dX8_set_147 h
                · have h := zif (c := x3 = 1) h c
                  refine zz_aload_n M 2 dX8_set_124 rfl rfl ?_
                  refine zz_getR M f_X8_26 tM_0 rfl dX8_set_125 ?_
                  refine zz_iload M 1 dX8_set_128 rfl ?_
                  refine zz_iload M 6 dX8_set_130 rfl ?_
                  refine zz_iast M tM_5 h.1 dX8_set_132 ?_
                  have h := h.2
                  refine zz_sg (fun σ136 eσ136 => ?_)
                  have h := h σ136 eσ136
                  refine zz_goto M 145 dX8_set_133 (by decide) ?_
                  refine zz_iload M 0 dX8_set_145 rfl ?_
                  exact zz_iret M dX8_set_147 h
              · have h := zif (c := x3 = 0) h c
                refine zz_aload_n M 2 dX8_set_107 rfl rfl ?_
                refine zz_getR M f_X8_23 tM_0 rfl dX8_set_108 ?_
                refine zz_iload M 1 dX8_set_111 rfl ?_
                refine zz_iload M 6 dX8_set_113 rfl ?_
                refine zz_iast M tM_4 h.1 dX8_set_115 ?_
                have h := h.2
                refine zz_sg (fun σ137 eσ137 => ?_)
                have h := h σ137 eσ137
                refine zz_goto M 145 dX8_set_116 (by decide) ?_
                refine zz_iload M 0 dX8_set_145 rfl ?_
                exact zz_iret M dX8_set_147 h
          · have h := zif (c := r123 = 0) h c
            refine zz_bipush (v := (-2)) M dX8_set_55 (by decide) ?_
            exact zz_iret M dX8_set_57 h
      · have h := zif (c := x3 = 0) h c
        refine zz_ldc2 (v := 2) M k_X8_104 dX8_set_29 ?_
        refine zz_goto M 49 dX8_set_32 (by decide) ?_
        obtain ⟨a138, ea138⟩ : ∃ z : Int64, z = ((x4 : Int32).toInt64) := ⟨_, rfl⟩
        have h := h a138 ea138
        refine zz_st [.long 2, .long 0, .long a138] (by rw [ea138]) ?_
        refine zz_callSI (d' := 1) (As := [.long a138, .long 0, .long 2]) (rest := []) M l_X8_92 dX8_set_49 rfl rfl (by decide) (Nat.le_of_ble_eq_true rfl) (by have hI := M.2.2.2.2.2.2.2.2; exact kX8_in hI _ _ _  _ _ h) (fun r139 σ140 h => ?_)
        refine zz_if_ne (y0 := 0) M 58 dX8_set_52 (by decide) (fun c => ?_) (fun c => ?_)
        · have h := zifn (c := r139 = 0) h c
          refine zz_iconst (v := 4) M dX8_set_58 (by decide) ?_
          refine zz_iload_n M 1 dX8_set_59 rfl rfl ?_
          refine zz_imul M dX8_set_60 ?_
          refine zz_iload_n M 2 dX8_set_61 rfl rfl ?_
          refine zz_iadd M dX8_set_62 ?_
          refine zz_topi (fun x141 ex141 => ?_)
          have h := h x141 ex141
          refine zz_istore M [(5, .int x141), (0, .ref (ad 0)), (1, .int x1), (2, .int x2), (3, .int x3), (4, .int x4)] dX8_set_63 (by decide) rfl ?_
          refine zz_iload_n M 4 dX8_set_65 rfl rfl ?_
          refine zz_if_ne (y0 := 0) M 79 dX8_set_66 (by decide) (fun c => ?_) (fun c => ?_)
          · have h := zifn (c := x3 = 0) h c
            refine zz_iload_n M 4 dX8_set_79 rfl rfl ?_
            refine zz_iconst (v := 1) M dX8_set_80 (by decide) ?_
            refine zz_icmp_ne M 94 dX8_set_81 (by decide) (fun c => ?_) (fun c => ?_)
            · have h := zifn (c := x3 = 1) h c
              refine zz_aload_n M 1 dX8_set_94 rfl rfl ?_
              refine zz_getR M f_X8_29 tM_0 rfl dX8_set_95 ?_
              refine zz_iload M 0 dX8_set_98 rfl ?_
              refine zz_iald M tM_6 h.1 dX8_set_100 ?_
              have h := h.2
              refine zz_topi (fun x142 ex142 => ?_)
              have h := h x142 ex142
              refine zz_istore M [(6, .int x142), (5, .int x141), (0, .ref (ad 0)), (1, .int x1), (2, .int x2), (3, .int x3), (4, .int x4)] dX8_set_101 (by decide) rfl ?_
              refine zz_iload_n M 5 dX8_set_103 rfl rfl ?_
              refine zz_if_ne (y0 := 0) M 119 dX8_set_104 (by decide) (fun c => ?_) (fun c => ?_)
              · have h := zifn (c := x3 = 0) h c
                refine zz_iload_n M 5 dX8_set_119 rfl rfl ?_
                refine zz_iconst (v := 1) M dX8_set_120 (by decide) ?_
                refine zz_icmp_ne M 136 dX8_set_121 (by decide) (fun c => ?_) (fun c => ?_)
                · have h := zifn (c := x3 = 1) h c
                  refine zz_aload_n M 2 dX8_set_136 rfl rfl ?_
                  refine zz_getR M f_X8_29 tM_0 rfl dX8_set_137 ?_
                  refine zz_iload M 1 dX8_set_140 rfl ?_
                  refine zz_iload M 6 dX8_set_142 rfl ?_
                  refine zz_iast M tM_6 h.1 dX8_set_144 ?_
                  have h := h.2
                  refine zz_sg (fun σ143 eσ143 => ?_)
                  have h := h σ143 eσ143
                  refine zz_iload M 0 dX8_set_145 rfl ?_
                  exact zz_iret M dX8_set_147 h
                · have h := zif (c := x3 = 1) h c
                  refine zz_aload_n M 2 dX8_set_124 rfl rfl ?_
                  refine zz_getR M f_X8_26 tM_0 rfl dX8_set_125 ?_
                  refine zz_iload M 1 dX8_set_128 rfl ?_
                  refine zz_iload M 6 dX8_set_130 rfl ?_
                  refine zz_iast M tM_5 h.1 dX8_set_132 ?_
                  have h := h.2
                  refine zz_sg (fun σ144 eσ144 => ?_)
                  have h := h σ144 eσ144
                  refine zz_goto M 145 dX8_set_133 (by decide) ?_
                  refine zz_iload M 0 dX8_set_145 rfl ?_
                  exact zz_iret M dX8_set_147 h
              · have h := zif (c := x3 = 0) h c
                refine zz_aload_n M 2 dX8_set_107 rfl rfl ?_
                refine zz_getR M f_X8_23 tM_0 rfl dX8_set_108 ?_
                refine zz_iload M 1 dX8_set_111 rfl ?_
                refine zz_iload M 6 dX8_set_113 rfl ?_
                refine zz_iast M tM_4 h.1 dX8_set_115 ?_
                have h := h.2
                refine zz_sg (fun σ145 eσ145 => ?_)
                have h := h σ145 eσ145
                refine zz_goto M 145 dX8_set_116 (by decide) ?_
                refine zz_iload M 0 dX8_set_145 rfl ?_
                exact zz_iret M dX8_set_147 h
            · have h := zif (c := x3 = 1) h c
              refine zz_aload_n M 1 dX8_set_84 rfl rfl ?_
              refine zz_getR M f_X8_26 tM_0 rfl dX8_set_85 ?_
              refine zz_iload M 0 dX8_set_88 rfl ?_
              refine zz_iald M tM_5 h.1 dX8_set_90 ?_
              have h := h.2
              refine zz_goto M 101 dX8_set_91 (by decide) ?_
              refine zz_topi (fun x146 ex146 => ?_)
              have h := h x146 ex146
              refine zz_istore M [(6, .int x146), (5, .int x141), (0, .ref (ad 0)), (1, .int x1), (2, .int x2), (3, .int x3), (4, .int x4)] dX8_set_101 (by decide) rfl ?_
              refine zz_iload_n M 5 dX8_set_103 rfl rfl ?_
              refine zz_if_ne (y0 := 0) M 119 dX8_set_104 (by decide) (fun c => ?_) (fun c => ?_)
              · have h := zifn (c := x3 = 0) h c
                refine zz_iload_n M 5 dX8_set_119 rfl rfl ?_
                refine zz_iconst (v := 1) M dX8_set_120 (by decide) ?_
                refine zz_icmp_ne M 136 dX8_set_121 (by decide) (fun c => ?_) (fun c => ?_)
                · have h := zifn (c := x3 = 1) h c
                  refine zz_aload_n M 2 dX8_set_136 rfl rfl ?_
                  refine zz_getR M f_X8_29 tM_0 rfl dX8_set_137 ?_
                  refine zz_iload M 1 dX8_set_140 rfl ?_
                  refine zz_iload M 6 dX8_set_142 rfl ?_
                  refine zz_iast M tM_6 h.1 dX8_set_144 ?_
                  have h := h.2
                  refine zz_sg (fun σ147 eσ147 => ?_)
                  have h := h σ147 eσ147
                  refine zz_iload M 0 dX8_set_145 rfl ?_
                  exact zz_iret M dX8_set_147 h
                · have h := zif (c := x3 = 1) h c
                  refine zz_aload_n M 2 dX8_set_124 rfl rfl ?_
                  refine zz_getR M f_X8_26 tM_0 rfl dX8_set_125 ?_
                  refine zz_iload M 1 dX8_set_128 rfl ?_
                  refine zz_iload M 6 dX8_set_130 rfl ?_
                  refine zz_iast M tM_5 h.1 dX8_set_132 ?_
                  have h := h.2
                  refine zz_sg (fun σ148 eσ148 => ?_)
                  have h := h σ148 eσ148
                  refine zz_goto M 145 dX8_set_133 (by decide) ?_
                  refine zz_iload M 0 dX8_set_145 rfl ?_
                  exact zz_iret M dX8_set_147 h
              · have h := zif (c := x3 = 0) h c
                refine zz_aload_n M 2 dX8_set_107 rfl rfl ?_
                refine zz_getR M f_X8_23 tM_0 rfl dX8_set_108 ?_
                refine zz_iload M 1 dX8_set_111 rfl ?_
                refine zz_iload M 6 dX8_set_113 rfl ?_
                refine zz_iast M tM_4 h.1 dX8_set_115 ?_
                have h := h.2
                refine zz_sg (fun σ149 eσ149 => ?_)
                have h := h σ149 eσ149
                refine zz_goto M 145 dX8_set_116 (by decide) ?_
                refine zz_iload M 0 dX8_set_145 rfl ?_
                exact zz_iret M dX8_set_147 h
          · have h := zif (c := x3 = 0) h c
            refine zz_aload_n M 1 dX8_set_69 rfl rfl ?_
            refine zz_getR M f_X8_23 tM_0 rfl dX8_set_70 ?_
            refine zz_iload M 0 dX8_set_73 rfl ?_
            refine zz_iald M tM_4 h.1 dX8_set_75 ?_
            have h := h.2
            refine zz_goto M 101 dX8_set_76 (by decide) ?_
            refine zz_topi (fun x150 ex150 => ?_)
            have h := h x150 ex150
            refine zz_istore M [(6, .int x150), (5, .int x141), (0, .ref (ad 0)), (1, .int x1), (2, .int x2), (3, .int x3), (4, .int x4)] dX8_set_101 (by decide) rfl ?_
            refine zz_iload_n M 5 dX8_set_103 rfl rfl ?_
            refine zz_if_ne (y0 := 0) M 119 dX8_set_104 (by decide) (fun c => ?_) (fun c => ?_)
            · have h := zifn (c := x3 = 0) h c
              refine zz_iload_n M 5 dX8_set_119 rfl rfl ?_
              refine zz_iconst (v := 1) M dX8_set_120 (by decide) ?_
              refine zz_icmp_ne M 136 dX8_set_121 (by decide) (fun c => ?_) (fun c => ?_)
              · have h := zifn (c := x3 = 1) h c
                refine zz_aload_n M 2 dX8_set_136 rfl rfl ?_
                refine zz_getR M f_X8_29 tM_0 rfl dX8_set_137 ?_
                refine zz_iload M 1 dX8_set_140 rfl ?_
                refine zz_iload M 6 dX8_set_142 rfl ?_
                refine zz_iast M tM_6 h.1 dX8_set_144 ?_
                have h := h.2
                refine zz_sg (fun σ151 eσ151 => ?_)
                have h := h σ151 eσ151
                refine zz_iload M 0 dX8_set_145 rfl ?_
                exact zz_iret M dX8_set_147 h
              · have h := zif (c := x3 = 1) h c
                refine zz_aload_n M 2 dX8_set_124 rfl rfl ?_
                refine zz_getR M f_X8_26 tM_0 rfl dX8_set_125 ?_
                refine zz_iload M 1 dX8_set_128 rfl ?_
                refine zz_iload M 6 dX8_set_130 rfl ?_
                refine zz_iast M tM_5 h.1 dX8_set_132 ?_
                have h := h.2
                refine zz_sg (fun σ152 eσ152 => ?_)
                have h := h σ152 eσ152
                refine zz_goto M 145 dX8_set_133 (by decide) ?_
                refine zz_iload M 0 dX8_set_145 rfl ?_
                exact zz_iret M dX8_set_147 h
            · have h := zif (c := x3 = 0) h c
              refine zz_aload_n M 2 dX8_set_107 rfl rfl ?_
              refine zz_getR M f_X8_23 tM_0 rfl dX8_set_108 ?_
              refine zz_iload M 1 dX8_set_111 rfl ?_
              refine zz_iload M 6 dX8_set_113 rfl ?_
              refine zz_iast M tM_4 h.1 dX8_set_115 ?_
              have h := h.2
              refine zz_sg (fun σ153 eσ153 => ?_)
              have h := h σ153 eσ153
              refine zz_goto M 145 dX8_set_116 (by decide) ?_
              refine zz_iload M 0 dX8_set_145 rfl ?_
              exact zz_iret M dX8_set_147 h
        · have h := zif (c := r139 = 0) h c
          refine zz_bipush (v := (-2)) M dX8_set_55 (by decide) ?_
          exact zz_iret M dX8_set_57 h
end
