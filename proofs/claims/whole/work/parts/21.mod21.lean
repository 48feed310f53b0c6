section
variable {p : Program} {l : Launch} {e : Env} {s : State} {m : MethodId} {args : Array Value} {below : List Frame} {meth : Method} {c : Code} {D : va_G} {cA : Nat → ClassId} {ad : Nat → Nat} {y : zX}
def wX8_set (x1 : Int32) (x2 : Int32) (x3 : Int32) (x4 : Int32) (σ : zSt) (Q : Int32 → zSt → Prop) : Prop := wX8_isHere x1 x2 σ (fun r1 σ2 => if r1 = 0 then (Q (-2) σ2) else (wX8_in ((x3 : Int32).toInt64) 0 2 σ2 (fun r3 σ4 => if r3 = 0 then (Q (-2) σ4) else (if x3 = 0 then (wX8_in ((x4 : Int32).toInt64) 0 2 σ4 (fun r35 σ36 => if r35 = 0 then (Q (-2) σ36) else (∀ x37 : Int32, x37 = (4 * x1) + x2 → (if x3 = 0 then (vp_in x37 8 ∧ (∀ x46 : Int32, x46 = σ36.1 4 x37.toNatClampNeg → (if x3 = 0 then (vp_in x37 8 ∧ (∀ σ49 : zSt, σ49 = zput σ36 4 x37.toNatClampNeg x4 → (Q x46 σ49))) else (if x3 = 1 then (vp_in x37 8 ∧ (∀ σ48 : zSt, σ48 = zput σ36 5 x37.toNatClampNeg x4 → (Q x46 σ48))) else (vp_in x37 8 ∧ (∀ σ47 : zSt, σ47 = zput σ36 6 x37.toNatClampNeg x4 → (Q x46 σ47))))))) else (if x3 = 1 then (vp_in x37 8 ∧ (∀ x42 : Int32, x42 = σ36.1 5 x37.toNatClampNeg → (if x3 = 0 then (vp_in x37 8 ∧ (∀ σ45 : zSt, σ45 = zput σ36 4 x37.toNatClampNeg x4 → (Q x42 σ45))) else (if x3 = 1 then (vp_in x37 8 ∧ (∀ σ44 : zSt, σ44 = zput σ36 5 x37.toNatClampNeg x4 → (Q x42 σ44))) else (vp_in x37 8 ∧ (∀ σ43 : zSt, σ43 = zput σ36 6 x37.toNatClampNeg x4 → (Q x42 σ43))))))) else (vp_in x37 8 ∧ (∀ x38 : Int32, x38 = σ36.1 6 x37.toNatClampNeg → (if x3 = 0 then (vp_in x37 8 ∧ (∀ σ41 : zSt, σ41 = zput σ36 4 x37.toNatClampNeg x4 → (Q x38 σ41))) else (if x3 = 1 then (vp_in x37 8 ∧ (∀ σ40 : zSt, σ40 = zput σ36 5 x37.toNatClampNeg x4 → (Q x38 σ40))) else (vp_in x37 8 ∧ (∀ σ39 : zSt, σ39 = zput σ36 6 x37.toNatClampNeg x4 → (Q x38 σ39)))))))))))) else (if x3 = 1 then (wX8_in ((x4 : Int32).toInt64) 0 23 σ4 (fun r20 σ21 => if r20 = 0 then (Q (-2) σ21) else (∀ x22 : Int32, x22 = (4 * x1) + x2 → (if x3 = 0 then (vp_in x22 8 ∧ (∀ x31 : Int32, x31 = σ21.1 4 x22.toNatClampNeg → (if x3 = 0 then (vp_in x22 8 ∧ (∀ σ34 : zSt, σ34 = zput σ21 4 x22.toNatClampNeg x4 → (Q x31 σ34))) else (if x3 = 1 then (vp_in x22 8 ∧ (∀ σ33 : zSt, σ33 = zput σ21 5 x22.toNatClampNeg x4 → (Q x31 σ33))) else (vp_in x22 8 ∧ (∀ σ32 : zSt, σ32 = zput σ21 6 x22.toNatClampNeg x4 → (Q x31 σ32))))))) else (if x3 = 1 then (vp_in x22 8 ∧ (∀ x27 : Int32, x27 = σ21.1 5 x22.toNatClampNeg → (if x3 = 0 then (vp_in x22 8 ∧ (∀ σ30 : zSt, σ30 = zput σ21 4 x22.toNatClampNeg x4 → (Q x27 σ30))) else (if x3 = 1 then (vp_in x22 8 ∧ (∀ σ29 : zSt, σ29 = zput σ21 5 x22.toNatClampNeg x4 → (Q x27 σ29))) else (vp_in x22 8 ∧ (∀ σ28 : zSt, σ28 = zput σ21 6 x22.toNatClampNeg x4 → (Q x27 σ28))))))) else (vp_in x22 8 ∧ (∀ x23 : Int32, x23 = σ21.1 6 x22.toNatClampNeg → (if x3 = 0 then (vp_in x22 8 ∧ (∀ σ26 : zSt, σ26 = zput σ21 4 x22.toNatClampNeg x4 → (Q x23 σ26))) else (if x3 = 1 then (vp_in x22 8 ∧ (∀ σ25 : zSt, σ25 = zput σ21 5 x22.toNatClampNeg x4 → (Q x23 σ25))) else (vp_in x22 8 ∧ (∀ σ24 : zSt, σ24 = zput σ21 6 x22.toNatClampNeg x4 → (Q x23 σ24)))))))))))) else (wX8_in ((x4 : Int32).toInt64) 0 9 σ4 (fun r5 σ6 => if r5 = 0 then (Q (-2) σ6) else (∀ x7 : Int32, x7 = (4 * x1) + x2 → (if x3 = 0 then (vp_in x7 8 ∧ (∀ x16 : Int32, x16 = σ6.1 4 x7.toNatClampNeg → (if x3 = 0 then (vp_in x7 8 ∧ (∀ σ19 : zSt, σ19 = zput σ6 4 x7.toNatClampNeg x4 → (Q x16 σ19))) else (if x3 = 1 then (vp_in x7 8 ∧ (∀ σ18 : zSt, σ18 = zput σ6 5 x7.toNatClampNeg x4 → (Q x16 σ18))) else (vp_in x7 8 ∧ (∀ σ17 : zSt, σ17 = zput σ6 6 x7.toNatClampNeg x4 → (Q x16 σ17))))))) else (if x3 = 1 then (vp_in x7 8 ∧ (∀ x12 : Int32, x12 = σ6.1 5 x7.toNatClampNeg → (if x3 = 0 then (vp_in x7 8 ∧ (∀ σ15 : zSt, σ15 = zput σ6 4 x7.toNatClampNeg x4 → (Q x12 σ15))) else (if x3 = 1 then (vp_in x7 8 ∧ (∀ σ14 : zSt, σ14 = zput σ6 5 x7.toNatClampNeg x4 → (Q x12 σ14))) else (vp_in x7 8 ∧ (∀ σ13 : zSt, σ13 = zput σ6 6 x7.toNatClampNeg x4 → (Q x12 σ13))))))) else (vp_in x7 8 ∧ (∀ x8 : Int32, x8 = σ6.1 6 x7.toNatClampNeg → (if x3 = 0 then (vp_in x7 8 ∧ (∀ σ11 : zSt, σ11 = zput σ6 4 x7.toNatClampNeg x4 → (Q x8 σ11))) else (if x3 = 1 then (vp_in x7 8 ∧ (∀ σ10 : zSt, σ10 = zput σ6 5 x7.toNatClampNeg x4 → (Q x8 σ10))) else (vp_in x7 8 ∧ (∀ σ9 : zSt, σ9 = zput σ6 6 x7.toNatClampNeg x4 → (Q x8 σ9)))))))))))))))))
set_option maxRecDepth 20000 in
set_option maxHeartbeats 4000000 in
theorem kX8_set (hI : zInj tabM ad) (x1 : Int32) (x2 : Int32) (x3 : Int32) (x4 : Int32)  (σ : zSt) (Q : Int32 → zSt → Prop) (h : wX8_set x1 x2 x3 x4 σ Q) : zOkI l tabM D cA ad y 3 yX8_set cX8_set 7 (some .int) [.ref (ad 0), .int x1, .int x2, .int x3, .int x4] σ Q := by
  refine zz_enter hI (by decide) (Nat.le_of_ble_eq_true rfl) (fun p e s m below meth c M => ?_)
  have M : zM p s m _ meth c cX8_set 7 RX8 (some .int) tabM D cA ad y := M
  refine zz_ls [(0, .ref (ad 0)), (1, .int x1), (2, .int x2), (3, .int x3), (4, .int x4)] rfl ?_
  unfold wX8_set at h
  refine zz_aload_n M 0 dX8_set_0 rfl rfl ?_
  refine zz_iload_n M 1 dX8_set_1 rfl rfl ?_
  refine zz_iload_n M 2 dX8_set_2 rfl rfl ?_
  refine zz_callVI (d' := 2) (As := [.int x1, .int x2]) (rest := []) M l_X8_108 tM_0 rfl rfl dX8_set_3 rfl rfl (by decide) (Nat.le_of_ble_eq_true rfl) (by have hI := M.2.2.2.2.2.2.2.2; exact kX8_isHere hI _ _  _ _ h) (fun r1 σ2 h => ?_)
  refine zz_if_eq (y0 := 0) M 55 dX8_set_6 (by decide) (fun c => ?_) (fun c => ?_)
  · have h := zif h c
    refine zz_bipush (v := (-2)) M dX8_set_55 (by decide) ?_
    exact zz_iret M dX8_set_57 h
  · have h := zifn h c
    refine zz_iload_n M 3 dX8_set_9 rfl rfl ?_
    refine zz_i2l M dX8_set_10 ?_
    refine zz_lconst (v := 0) M dX8_set_11 (by decide) ?_
    refine zz_ldc2 (v := 2) M k_X8_104 dX8_set_12 ?_
    refine zz_callSI (d' := 1) (As := [.long ((x3 : Int32).toInt64), .long 0, .long 2]) (rest := []) M l_X8_92 dX8_set_15 rfl rfl (by decide) (Nat.le_of_ble_eq_true rfl) (by have hI := M.2.2.2.2.2.2.2.2; exact kX8_in hI _ _ _  _ _ h) (fun r3 σ4 h => ?_)
    refine zz_if_eq (y0 := 0) M 55 dX8_set_18 (by decide) (fun c => ?_) (fun c => ?_)
    · have h := zif h c
      refine zz_bipush (v := (-2)) M dX8_set_55 (by decide) ?_
      exact zz_iret M dX8_set_57 h
    · have h := zifn h c
      refine zz_iload M 4 dX8_set_21 rfl ?_
      refine zz_i2l M dX8_set_23 ?_
      refine zz_lconst (v := 0) M dX8_set_24 (by decide) ?_
      refine zz_iload_n M 3 dX8_set_25 rfl rfl ?_
      refine zz_if_ne (y0 := 0) M 35 dX8_set_26 (by decide) (fun c => ?_) (fun c => ?_)
      · have h := zifn h c
        refine zz_iload_n M 3 dX8_set_35 rfl rfl ?_
        refine zz_iconst (v := 1) M dX8_set_36 (by decide) ?_
        refine zz_icmp_ne M 46 dX8_set_37 (by decide) (fun c => ?_) (fun c => ?_)
        · have h := zifn h c
          refine zz_ldc2 (v := 9) M k_X8_106 dX8_set_46 ?_
          refine zz_callSI (d' := 1) (As := [.long ((x4 : Int32).toInt64), .long 0, .long 9]) (rest := []) M l_X8_92 dX8_set_49 rfl rfl (by decide) (Nat.le_of_ble_eq_true rfl) (by have hI := M.2.2.2.2.2.2.2.2; exact kX8_in hI _ _ _  _ _ h) (fun r5 σ6 h => ?_)
          refine zz_if_ne (y0 := 0) M 58 dX8_set_52 (by decide) (fun c => ?_) (fun c => ?_)
          · have h := zifn h c
            refine zz_iconst (v := 4) M dX8_set_58 (by decide) ?_
            refine zz_iload_n M 1 dX8_set_59 rfl rfl ?_
            refine zz_imul M dX8_set_60 ?_
            refine zz_iload_n M 2 dX8_set_61 rfl rfl ?_
            refine zz_iadd M dX8_set_62 ?_
            refine zz_topi (fun x7 ex7 => ?_)
            have h := h x7 ex7
            refine zz_istore M [(5, .int x7), (0, .ref (ad 0)), (1, .int x1), (2, .int x2), (3, .int x3), (4, .int x4)] dX8_set_63 (by decide) rfl ?_
            refine zz_iload_n M 4 dX8_set_65 rfl rfl ?_
            refine zz_if_ne (y0 := 0) M 79 dX8_set_66 (by decide) (fun c => ?_) (fun c => ?_)
            · have h := zifn h c
              refine zz_iload_n M 4 dX8_set_79 rfl rfl ?_
              refine zz_iconst (v := 1) M dX8_set_80 (by decide) ?_
              refine zz_icmp_ne M 94 dX8_set_81 (by decide) (fun c => ?_) (fun c => ?_)
              · have h := zifn h c
                refine zz_aload_n M 1 dX8_set_94 rfl rfl ?_
                refine zz_getR M f_X8_29 tM_0 rfl dX8_set_95 ?_
                refine zz_iload M 0 dX8_set_98 rfl ?_
                refine zz_iald M tM_6 h.1 dX8_set_100 ?_
                have h := h.2
                refine zz_topi (fun x8 ex8 => ?_)
                have h := h x8 ex8
                refine zz_istore M [(6, .int x8), (5, .int x7), (0, .ref (ad 0)), (1, .int x1), (2, .int x2), (3, .int x3), (4, .int x4)] dX8_set_101 (by decide) rfl ?_
                refine zz_iload_n M 5 dX8_set_103 rfl rfl ?_
                refine zz_if_ne (y0 := 0) M 119 dX8_set_104 (by decide) (fun c => ?_) (fun c => ?_)
                · have h := zifn h c
                  refine zz_iload_n M 5 dX8_set_119 rfl rfl ?_
                  refine zz_iconst (v := 1) M dX8_set_120 (by decide) ?_
                  refine zz_icmp_ne M 136 dX8_set_121 (by decide) (fun c => ?_) (fun c => ?_)
                  · have h := zifn h c
                    refine zz_aload_n M 2 dX8_set_136 rfl rfl ?_
                    refine zz_getR M f_X8_29 tM_0 rfl dX8_set_137 ?_
                    refine zz_iload M 1 dX8_set_140 rfl ?_
                    refine zz_iload M 6 dX8_set_142 rfl ?_
                    refine zz_iast M tM_6 h.1 dX8_set_144 ?_
                    have h := h.2
                    refine zz_sg (fun σ9 eσ9 => ?_)
                    have h := h σ9 eσ9
                    refine zz_iload M 0 dX8_set_145 rfl ?_
                    exact zz_iret M dX8_set_147 h
                  · have h := zif h c
                    refine zz_aload_n M 2 dX8_set_124 rfl rfl ?_
                    refine zz_getR M f_X8_26 tM_0 rfl dX8_set_125 ?_
                    refine zz_iload M 1 dX8_set_128 rfl ?_
                    refine zz_iload M 6 dX8_set_130 rfl ?_
                    refine zz_iast M tM_5 h.1 dX8_set_132 ?_
                    have h := h.2
                    refine zz_sg (fun σ10 eσ10 => ?_)
                    have h := h σ10 eσ10
                    refine zz_goto M 145 dX8_set_133 (by decide) ?_
                    refine zz_iload M 0 dX8_set_145 rfl ?_
                    exact zz_iret M dX8_set_147 h
                · have h := zif h c
                  refine zz_aload_n M 2 dX8_set_107 rfl rfl ?_
                  refine zz_getR M f_X8_23 tM_0 rfl dX8_set_108 ?_
                  refine zz_iload M 1 dX8_set_111 rfl ?_
                  refine zz_iload M 6 dX8_set_113 rfl ?_
                  refine zz_iast M tM_4 h.1 dX8_set_115 ?_
                  have h := h.2
                  refine zz_sg (fun σ11 eσ11 => ?_)
                  have h := h σ11 eσ11
                  refine zz_goto M 145 dX8_set_116 (by decide) ?_
                  refine zz_iload M 0 dX8_set_145 rfl ?_
                  exact zz_iret M dX8_set_147 h
              · have h := zif h c
                refine zz_aload_n M 1 dX8_set_84 rfl rfl ?_
                refine zz_getR M f_X8_26 tM_0 rfl dX8_set_85 ?_
                refine zz_iload M 0 dX8_set_88 rfl ?_
                refine zz_iald M tM_5 h.1 dX8_set_90 ?_
                have h := h.2
                refine zz_goto M 101 dX8_set_91 (by decide) ?_
                refine zz_topi (fun x12 ex12 => ?_)
                have h := h x12 ex12
                refine zz_istore M [(6, .int x12), (5, .int x7), (0, .ref (ad 0)), (1, .int x1), (2, .int x2), (3, .int x3), (4, .int x4)] dX8_set_101 (by decide) rfl ?_
                refine zz_iload_n M 5 dX8_set_103 rfl rfl ?_
                refine zz_if_ne (y0 := 0) M 119 dX8_set_104 (by decide) (fun c => ?_) (fun c => ?_)
                · have h := zifn h c
                  refine zz_iload_n M 5 dX8_set_119 rfl rfl ?_
                  refine zz_iconst (v := 1) M dX8_set_120 (by decide) ?_
                  refine zz_icmp_ne M 136 dX8_set_121 (by decide) (fun c => ?_) (fun c => ?_)
                  · have h := zifn h c
                    refine zz_aload_n M 2 dX8_set_136 rfl rfl ?_
                    refine zz_getR M f_X8_29 tM_0 rfl dX8_set_137 ?_
                    refine zz_iload M 1 dX8_set_140 rfl ?_
                    refine zz_iload M 6 dX8_set_142 rfl ?_
                    refine zz_iast M tM_6 h.1 dX8_set_144 ?_
                    have h := h.2
                    refine zz_sg (fun σ13 eσ13 => ?_)
                    have h := h σ13 eσ13
                    refine zz_iload M 0 dX8_set_145 rfl ?_
                    exact zz_iret M dX8_set_147 h
                  · have h := zif h c
                    refine zz_aload_n M 2 dX8_set_124 rfl rfl ?_
                    refine zz_getR M f_X8_26 tM_0 rfl dX8_set_125 ?_
                    refine zz_iload M 1 dX8_set_128 rfl ?_
                    refine zz_iload M 6 dX8_set_130 rfl ?_
                    refine zz_iast M tM_5 h.1 dX8_set_132 ?_
                    have h := h.2
                    refine zz_sg (fun σ14 eσ14 => ?_)
                    have h := h σ14 eσ14
                    refine zz_goto M 145 dX8_set_133 (by decide) ?_
                    refine zz_iload M 0 dX8_set_145 rfl ?_
                    exact zz_iret M dX8_set_147 h
                · have h := zif h c
                  refine zz_aload_n M 2 dX8_set_107 rfl rfl ?_
                  refine zz_getR M f_X8_23 tM_0 rfl dX8_set_108 ?_
                  refine zz_iload M 1 dX8_set_111 rfl ?_
                  refine zz_iload M 6 dX8_set_113 rfl ?_
                  refine zz_iast M tM_4 h.1 dX8_set_115 ?_
                  have h := h.2
                  refine zz_sg (fun σ15 eσ15 => ?_)
                  have h := h σ15 eσ15
                  refine zz_goto M 145 dX8_set_116 (by decide) ?_
                  refine zz_iload M 0 dX8_set_145 rfl ?_
                  exact zz_iret M dX8_set_147 h
            · have h := zif h c
              refine zz_aload_n M 1 dX8_set_69 rfl rfl ?_
              refine zz_getR M f_X8_23 tM_0 rfl dX8_set_70 ?_
              refine zz_iload M 0 dX8_set_73 rfl ?_
              refine zz_iald M tM_4 h.1 dX8_set_75 ?_
              have h := h.2
              refine zz_goto M 101 dX8_set_76 (by decide) ?_
              refine zz_topi (fun x16 ex16 => ?_)
              have h := h x16 ex16
              refine zz_istore M [(6, .int x16), (5, .int x7), (0, .ref (ad 0)), (1, .int x1), (2, .int x2), (3, .int x3), (4, .int x4)] dX8_set_101 (by decide) rfl ?_
              refine zz_iload_n M 5 dX8_set_103 rfl rfl ?_
              refine zz_if_ne (y0 := 0) M 119 dX8_set_104 (by decide) (fun c => ?_) (fun c => ?_)
              · have h := zifn h c
                refine zz_iload_n M 5 dX8_set_119 rfl rfl ?_
                refine zz_iconst (v := 1) M dX8_set_120 (by decide) ?_
                refine zz_icmp_ne M 136 dX8_set_121 (by decide) (fun c => ?_) (fun c => ?_)
                · have h := zifn h c
                  refine zz_aload_n M 2 dX8_set_136 rfl rfl ?_
                  refine zz_getR M f_X8_29 tM_0 rfl dX8_set_137 ?_
                  refine zz_iload M 1 dX8_set_140 rfl ?_
                  refine zz_iload M 6 dX8_set_142 rfl ?_
                  refine zz_iast M tM_6 h.1 dX8_set_144 ?_
                  have h := h.2
                  refine zz_sg (fun σ17 eσ17 => ?_)
                  have h := h σ17 eσ17
                  refine zz_iload M 0 dX8_set_145 rfl ?_
                  exact zz_iret M dX8_set_147 h
                · have h := zif h c
                  refine zz_aload_n M 2 dX8_set_124 rfl rfl ?_
                  refine zz_getR M f_X8_26 tM_0 rfl dX8_set_125 ?_
                  refine zz_iload M 1 dX8_set_128 rfl ?_
                  refine zz_iload M 6 dX8_set_130 rfl ?_
                  refine zz_iast M tM_5 h.1 dX8_set_132 ?_
                  have h := h.2
                  refine zz_sg (fun σ18 eσ18 => ?_)
                  have h := h σ18 eσ18
                  refine zz_goto M 145 dX8_set_133 (by decide) ?_
                  refine zz_iload M 0 dX8_set_145 rfl ?_
                  exact zz_iret M dX8_set_147 h
              · have h := zif h c
                refine zz_aload_n M 2 dX8_set_107 rfl rfl ?_
                refine zz_getR M f_X8_23 tM_0 rfl dX8_set_108 ?_
                refine zz_iload M 1 dX8_set_111 rfl ?_
                refine zz_iload M 6 dX8_set_113 rfl ?_
                refine zz_iast M tM_4 h.1 dX8_set_115 ?_
                have h := h.2
                refine zz_sg (fun σ19 eσ19 => ?_)
                have h := h σ19 eσ19
                refine zz_goto M 145 dX8_set_116 (by decide) ?_
                refine zz_iload M 0 dX8_set_145 rfl ?_
                exact zz_iret M dX8_set_147 h
          · have h := zif h c
            refine zz_bipush (v := (-2)) M dX8_set_55 (by decide) ?_
            exact zz_iret M dX8_set_57 h
        · have h := zif h c
          refine zz_ldc2 (v := 23) M k_X8_112 dX8_set_40 ?_
          refine zz_goto M 49 dX8_set_43 (by decide) ?_
          refine zz_callSI (d' := 1) (As := [.long ((x4 : Int32).toInt64), .long 0, .long 23]) (rest := []) M l_X8_92 dX8_set_49 rfl rfl (by decide) (Nat.le_of_ble_eq_true rfl) (by have hI := M.2.2.2.2.2.2.2.2; exact kX8_in hI _ _ _  _ _ h) (fun r20 σ21 h => ?_)
          refine zz_if_ne (y0 := 0) M 58 dX8_set_52 (by decide) (fun c => ?_) (fun c => ?_)
          · have h := zifn h c
            refine zz_iconst (v := 4) M dX8_set_58 (by decide) ?_
            refine zz_iload_n M 1 dX8_set_59 rfl rfl ?_
            refine zz_imul M dX8_set_60 ?_
            refine zz_iload_n M 2 dX8_set_61 rfl rfl ?_
            refine zz_iadd M dX8_set_62 ?_
            refine zz_topi (fun x22 ex22 => ?_)
            have h := h x22 ex22
            refine zz_istore M [(5, .int x22), (0, .ref (ad 0)), (1, .int x1), (2, .int x2), (3, .int x3), (4, .int x4)] dX8_set_63 (by decide) rfl ?_
            refine zz_iload_n M 4 dX8_set_65 rfl rfl ?_
            refine zz_if_ne (y0 := 0) M 79 dX8_set_66 (by decide) (fun c => ?_) (fun c => ?_)
            · have h := zifn h c
              refine zz_iload_n M 4 dX8_set_79 rfl rfl ?_
              refine zz_iconst (v := 1) M dX8_set_80 (by decide) ?_
              refine zz_icmp_ne M 94 dX8_set_81 (by decide) (fun c => ?_) (fun c => ?_)
              · have h := zifn h c
                refine zz_aload_n M 1 dX8_set_94 rfl rfl ?_
                refine zz_getR M f_X8_29 tM_0 rfl dX8_set_95 ?_
                refine zz_iload M 0 dX8_set_98 rfl ?_
                refine zz_iald M tM_6 h.1 dX8_set_100 ?_
                have h := h.2
                refine zz_topi (fun x23 ex23 => ?_)
                have h := h x23 ex23
                refine zz_istore M [(6, .int x23), (5, .int x22), (0, .ref (ad 0)), (1, .int x1), (2, .int x2), (3, .int x3), (4, .int x4)] dX8_set_101 (by decide) rfl ?_
                refine zz_iload_n M 5 dX8_set_103 rfl rfl ?_
                refine zz_if_ne (y0 := 0) M 119 dX8_set_104 (by decide) (fun c => ?_) (fun c => ?_)
                · have h := zifn h c
                  refine zz_iload_n M 5 dX8_set_119 rfl rfl ?_
                  refine zz_iconst (v := 1) M dX8_set_120 (by decide) ?_
                  refine zz_icmp_ne M 136 dX8_set_121 (by decide) (fun c => ?_) (fun c => ?_)
                  · have h := zifn h c
                    refine zz_aload_n M 2 dX8_set_136 rfl rfl ?_
                    refine zz_getR M f_X8_29 tM_0 rfl dX8_set_137 ?_
                    refine zz_iload M 1 dX8_set_140 rfl ?_
                    refine zz_iload M 6 dX8_set_142 rfl ?_
                    refine zz_iast M tM_6 h.1 dX8_set_144 ?_
                    have h := h.2
                    refine zz_sg (fun σ24 eσ24 => ?_)
                    have h := h σ24 eσ24
                    refine zz_iload M 0 dX8_set_145 rfl ?_
                    exact zz_iret M dX8_set_147 h
                  · have h := zif h c
                    refine zz_aload_n M 2 dX8_set_124 rfl rfl ?_
                    refine zz_getR M f_X8_26 tM_0 rfl dX8_set_125 ?_
                    refine zz_iload M 1 dX8_set_128 rfl ?_
                    refine zz_iload M 6 dX8_set_130 rfl ?_
                    refine zz_iast M tM_5 h.1 dX8_set_132 ?_
                    have h := h.2
                    refine zz_sg (fun σ25 eσ25 => ?_)
                    have h := h σ25 eσ25
                    refine zz_goto M 145 dX8_set_133 (by decide) ?_
                    refine zz_iload M 0 dX8_set_145 rfl ?_
                    exact zz_iret M dX8_set_147 h
                · have h := zif h c
                  refine zz_aload_n M 2 dX8_set_107 rfl rfl ?_
                  refine zz_getR M f_X8_23 tM_0 rfl dX8_set_108 ?_
                  refine zz_iload M 1 dX8_set_111 rfl ?_
                  refine zz_iload M 6 dX8_set_113 rfl ?_
                  refine zz_iast M tM_4 h.1 dX8_set_115 ?_
                  have h := h.2
                  refine zz_sg (fun σ26 eσ26 => ?_)
                  have h := h σ26 eσ26
                  refine zz_goto M 145 dX8_set_116 (by decide) ?_
                  refine zz_iload M 0 dX8_set_145 rfl ?_
                  exact zz_iret M dX8_set_147 h
              · have h := zif h c
                refine zz_aload_n M 1 dX8_set_84 rfl rfl ?_
                refine zz_getR M f_X8_26 tM_0 rfl dX8_set_85 ?_
                refine zz_iload M 0 dX8_set_88 rfl ?_
                refine zz_iald M tM_5 h.1 dX8_set_90 ?_
                have h := h.2
                refine zz_goto M 101 dX8_set_91 (by decide) ?_
                refine zz_topi (fun x27 ex27 => ?_)
                have h := h x27 ex27
                refine zz_istore M [(6, .int x27), (5, .int x22), (0, .ref (ad 0)), (1, .int x1), (2, .int x2), (3, .int x3), (4, .int x4)] dX8_set_101 (by decide) rfl ?_
                refine zz_iload_n M 5 dX8_set_103 rfl rfl ?_
                refine zz_if_ne (y0 := 0) M 119 dX8_set_104 (by decide) (fun c => ?_) (fun c => ?_)
                · have h := zifn h c
                  refine zz_iload_n M 5 dX8_set_119 rfl rfl ?_
                  refine zz_iconst (v := 1) M dX8_set_120 (by decide) ?_
                  refine zz_icmp_ne M 136 dX8_set_121 (by decide) (fun c => ?_) (fun c => ?_)
                  · have h := zifn h c
                    refine zz_aload_n M 2 dX8_set_136 rfl rfl ?_
                    refine zz_getR M f_X8_29 tM_0 rfl dX8_set_137 ?_
                    refine zz_iload M 1 dX8_set_140 rfl ?_
                    refine zz_iload M 6 dX8_set_142 rfl ?_
                    refine zz_iast M tM_6 h.1 dX8_set_144 ?_
                    have h := h.2
                    refine zz_sg (fun σ28 eσ28 => ?_)
                    have h := h σ28 eσ28
                    refine zz_iload M 0 dX8_set_145 rfl ?_
                    exact zz_iret M dX8_set_147 h
                  · have h := zif h c
                    refine zz_aload_n M 2 dX8_set_124 rfl rfl ?_
                    refine zz_getR M f_X8_26 tM_0 rfl dX8_set_125 ?_
                    refine zz_iload M 1 dX8_set_128 rfl ?_
                    refine zz_iload M 6 dX8_set_130 rfl ?_
                    refine zz_iast M tM_5 h.1 dX8_set_132 ?_
                    have h := h.2
                    refine zz_sg (fun σ29 eσ29 => ?_)
                    have h := h σ29 eσ29
                    refine zz_goto M 145 dX8_set_133 (by decide) ?_
                    refine zz_iload M 0 dX8_set_145 rfl ?_
                    exact zz_iret M dX8_set_147 h
                · have h := zif h c
                  refine zz_aload_n M 2 dX8_set_107 rfl rfl ?_
                  refine zz_getR M f_X8_23 tM_0 rfl dX8_set_108 ?_
                  refine zz_iload M 1 dX8_set_111 rfl ?_
                  refine zz_iload M 6 dX8_set_113 rfl ?_
                  refine zz_iast M tM_4 h.1 dX8_set_115 ?_
                  have h := h.2
                  refine zz_sg (fun σ30 eσ30 => ?_)
                  have h := h σ30 eσ30
                  refine zz_goto M 145 dX8_set_116 (by decide) ?_
                  refine zz_iload M 0 dX8_set_145 rfl ?_
                  exact zz_iret M dX8_set_147 h
            · have h := zif h c
              refine zz_aload_n M 1 dX8_set_69 rfl rfl ?_
              refine zz_getR M f_X8_23 tM_0 rfl dX8_set_70 ?_
              refine zz_iload M 0 dX8_set_73 rfl ?_
              refine zz_iald M tM_4 h.1 dX8_set_75 ?_
              have h := h.2
              refine zz_goto M 101 dX8_set_76 (by decide) ?_
              refine zz_topi (fun x31 ex31 => ?_)
              have h := h x31 ex31
              refine zz_istore M [(6, .int x31), (5, .int x22), (0, .ref (ad 0)), (1, .int x1), (2, .int x2), (3, .int x3), (4, .int x4)] dX8_set_101 (by decide) rfl ?_
              refine zz_iload_n M 5 dX8_set_103 rfl rfl ?_
              refine zz_if_ne (y0 := 0) M 119 dX8_set_104 (by decide) (fun c => ?_) (fun c => ?_)
              · have h := zifn h c
                refine zz_iload_n M 5 dX8_set_119 rfl rfl ?_
                refine zz_iconst (v := 1) M dX8_set_120 (by decide) ?_
                refine zz_icmp_ne M 136 dX8_set_121 (by decide) (fun c => ?_) (fun c => ?_)
                · have h := zifn h c
                  refine zz_aload_n M 2 dX8_set_136 rfl rfl ?_
                  refine zz_getR M f_X8_29 tM_0 rfl dX8_set_137 ?_
                  refine zz_iload M 1 dX8_set_140 rfl ?_
                  refine zz_iload M 6 dX8_set_142 rfl ?_
                  refine zz_iast M tM_6 h.1 dX8_set_144 ?_
                  have h := h.2
                  refine zz_sg (fun σ32 eσ32 => ?_)
                  have h := h σ32 eσ32
                  refine zz_iload M 0 dX8_set_145 rfl ?_
                  exact zz_iret M dX8_set_147 h
                · have h := zif h c
                  refine zz_aload_n M 2 dX8_set_124 rfl rfl ?_
                  refine zz_getR M f_X8_26 tM_0 rfl dX8_set_125 ?_
                  refine zz_iload M 1 dX8_set_128 rfl ?_
                  refine zz_iload M 6 dX8_set_130 rfl ?_
                  refine zz_iast M tM_5 h.1 dX8_set_132 ?_
                  have h := h.2
                  refine zz_sg (fun σ33 eσ33 => ?_)
                  have h := h σ33 eσ33
                  refine zz_goto M 145 dX8_set_133 (by decide) ?_
                  refine zz_iload M 0 dX8_set_145 rfl ?_
                  exact zz_iret M dX8_set_147 h
              · have h := zif h c
                refine zz_aload_n M 2 dX8_set_107 rfl rfl ?_
                refine zz_getR M f_X8_23 tM_0 rfl dX8_set_108 ?_
                refine zz_iload M 1 dX8_set_111 rfl ?_
                refine zz_iload M 6 dX8_set_113 rfl ?_
                refine zz_iast M tM_4 h.1 dX8_set_115 ?_
                have h := h.2
                refine zz_sg (fun σ34 eσ34 => ?_)
                have h := h σ34 eσ34
                refine zz_goto M 145 dX8_set_116 (by decide) ?_
                refine zz_iload M 0 dX8_set_145 rfl ?_
                exact zz_iret M dX8_set_147 h
          · have h := zif h c
            refine zz_bipush (v := (-2)) M dX8_set_55 (by decide) ?_
            exact zz_iret M dX8_set_57 h
      · have h := zif h c
        refine zz_ldc2 (v := 2) M k_X8_104 dX8_set_29 ?_
        refine zz_goto M 49 dX8_set_32 (by decide) ?_
        refine zz_callSI (d' := 1) (As := [.long ((x4 : Int32).toInt64), .long 0, .long 2]) (rest := []) M l_X8_92 dX8_set_49 rfl rfl (by decide) (Nat.le_of_ble_eq_true rfl) (by have hI := M.2.2.2.2.2.2.2.2; exact kX8_in hI _ _ _  _ _ h) (fun r35 σ36 h => ?_)
        refine zz_if_ne (y0 := 0) M 58 dX8_set_52 (by decide) (fun c => ?_) (fun c => ?_)
        · have h := zifn h c
          refine zz_iconst (v := 4) M dX8_set_58 (by decide) ?_
          refine zz_iload_n M 1 dX8_set_59 rfl rfl ?_
          refine zz_imul M dX8_set_60 ?_
          refine zz_iload_n M 2 dX8_set_61 rfl rfl ?_
          refine zz_iadd M dX8_set_62 ?_
          refine zz_topi (fun x37 ex37 => ?_)
          have h := h x37 ex37
          refine zz_istore M [(5, .int x37), (0, .ref (ad 0)), (1, .int x1), (2, .int x2), (3, .int x3), (4, .int x4)] dX8_set_63 (by decide) rfl ?_
          refine zz_iload_n M 4 dX8_set_65 rfl rfl ?_
          refine zz_if_ne (y0 := 0) M 79 dX8_set_66 (by decide) (fun c => ?_) (fun c => ?_)
          · have h := zifn h c
            refine zz_iload_n M 4 dX8_set_79 rfl rfl ?_
            refine zz_iconst (v := 1) M dX8_set_80 (by decide) ?_
            refine zz_icmp_ne M 94 dX8_set_81 (by decide) (fun c => ?_) (fun c => ?_)
            · have h := zifn h c
              refine zz_aload_n M 1 dX8_set_94 rfl rfl ?_
              refine zz_getR M f_X8_29 tM_0 rfl dX8_set_95 ?_
              refine zz_iload M 0 dX8_set_98 rfl ?_
              refine zz_iald M tM_6 h.1 dX8_set_100 ?_
              have h := h.2
              refine zz_topi (fun x38 ex38 => ?_)
              have h := h x38 ex38
              refine zz_istore M [(6, .int x38), (5, .int x37), (0, .ref (ad 0)), (1, .int x1), (2, .int x2), (3, .int x3), (4, .int x4)] dX8_set_101 (by decide) rfl ?_
              refine zz_iload_n M 5 dX8_set_103 rfl rfl ?_
              refine zz_if_ne (y0 := 0) M 119 dX8_set_104 (by decide) (fun c => ?_) (fun c => ?_)
              · have h := zifn h c
                refine zz_iload_n M 5 dX8_set_119 rfl rfl ?_
                refine zz_iconst (v := 1) M dX8_set_120 (by decide) ?_
                refine zz_icmp_ne M 136 dX8_set_121 (by decide) (fun c => ?_) (fun c => ?_)
                · have h := zifn h c
                  refine zz_aload_n M 2 dX8_set_136 rfl rfl ?_
                  refine zz_getR M f_X8_29 tM_0 rfl dX8_set_137 ?_
                  refine zz_iload M 1 dX8_set_140 rfl ?_
                  refine zz_iload M 6 dX8_set_142 rfl ?_
                  refine zz_iast M tM_6 h.1 dX8_set_144 ?_
                  have h := h.2
                  refine zz_sg (fun σ39 eσ39 => ?_)
                  have h := h σ39 eσ39
                  refine zz_iload M 0 dX8_set_145 rfl ?_
                  exact zz_iret M dX8_set_147 h
                · have h := zif h c
                  refine zz_aload_n M 2 dX8_set_124 rfl rfl ?_
                  refine zz_getR M f_X8_26 tM_0 rfl dX8_set_125 ?_
                  refine zz_iload M 1 dX8_set_128 rfl ?_
                  refine zz_iload M 6 dX8_set_130 rfl ?_
                  refine zz_iast M tM_5 h.1 dX8_set_132 ?_
                  have h := h.2
                  refine zz_sg (fun σ40 eσ40 => ?_)
                  have h := h σ40 eσ40
                  refine zz_goto M 145 dX8_set_133 (by decide) ?_
                  refine zz_iload M 0 dX8_set_145 rfl ?_
                  exact zz_iret M dX8_set_147 h
              · have h := zif h c
                refine zz_aload_n M 2 dX8_set_107 rfl rfl ?_
                refine zz_getR M f_X8_23 tM_0 rfl dX8_set_108 ?_
                refine zz_iload M 1 dX8_set_111 rfl ?_
                refine zz_iload M 6 dX8_set_113 rfl ?_
                refine zz_iast M tM_4 h.1 dX8_set_115 ?_
                have h := h.2
                refine zz_sg (fun σ41 eσ41 => ?_)
                have h := h σ41 eσ41
                refine zz_goto M 145 dX8_set_116 (by decide) ?_
                refine zz_iload M 0 dX8_set_145 rfl ?_
                exact zz_iret M dX8_set_147 h
            · have h := zif h c
              refine zz_aload_n M 1 dX8_set_84 rfl rfl ?_
              refine zz_getR M f_X8_26 tM_0 rfl dX8_set_85 ?_
              refine zz_iload M 0 dX8_set_88 rfl ?_
              refine zz_iald M tM_5 h.1 dX8_set_90 ?_
              have h := h.2
              refine zz_goto M 101 dX8_set_91 (by decide) ?_
              refine zz_topi (fun x42 ex42 => ?_)
              have h := h x42 ex42
              refine zz_istore M [(6, .int x42), (5, .int x37), (0, .ref (ad 0)), (1, .int x1), (2, .int x2), (3, .int x3), (4, .int x4)] dX8_set_101 (by decide) rfl ?_
              refine zz_iload_n M 5 dX8_set_103 rfl rfl ?_
              refine zz_if_ne (y0 := 0) M 119 dX8_set_104 (by decide) (fun c => ?_) (fun c => ?_)
              · have h := zifn h c
                refine zz_iload_n M 5 dX8_set_119 rfl rfl ?_
                refine zz_iconst (v := 1) M dX8_set_120 (by decide) ?_
                refine zz_icmp_ne M 136 dX8_set_121 (by decide) (fun c => ?_) (fun c => ?_)
                · have h := zifn h c
                  refine zz_aload_n M 2 dX8_set_136 rfl rfl ?_
                  refine zz_getR M f_X8_29 tM_0 rfl dX8_set_137 ?_
                  refine zz_iload M 1 dX8_set_140 rfl ?_
                  refine zz_iload M 6 dX8_set_142 rfl ?_
                  refine zz_iast M tM_6 h.1 dX8_set_144 ?_
                  have h := h.2
                  refine zz_sg (fun σ43 eσ43 => ?_)
                  have h := h σ43 eσ43
                  refine zz_iload M 0 dX8_set_145 rfl ?_
                  exact zz_iret M dX8_set_147 h
                · have h := zif h c
                  refine zz_aload_n M 2 dX8_set_124 rfl rfl ?_
                  refine zz_getR M f_X8_26 tM_0 rfl dX8_set_125 ?_
                  refine zz_iload M 1 dX8_set_128 rfl ?_
                  refine zz_iload M 6 dX8_set_130 rfl ?_
                  refine zz_iast M tM_5 h.1 dX8_set_132 ?_
                  have h := h.2
                  refine zz_sg (fun σ44 eσ44 => ?_)
                  have h := h σ44 eσ44
                  refine zz_goto M 145 dX8_set_133 (by decide) ?_
                  refine zz_iload M 0 dX8_set_145 rfl ?_
                  exact zz_iret M dX8_set_147 h
              · have h := zif h c
                refine zz_aload_n M 2 dX8_set_107 rfl rfl ?_
                refine zz_getR M f_X8_23 tM_0 rfl dX8_set_108 ?_
                refine zz_iload M 1 dX8_set_111 rfl ?_
                refine zz_iload M 6 dX8_set_113 rfl ?_
                refine zz_iast M tM_4 h.1 dX8_set_115 ?_
                have h := h.2
                refine zz_sg (fun σ45 eσ45 => ?_)
                have h := h σ45 eσ45
                refine zz_goto M 145 dX8_set_116 (by decide) ?_
                refine zz_iload M 0 dX8_set_145 rfl ?_
                exact zz_iret M dX8_set_147 h
          · have h := zif h c
            refine zz_aload_n M 1 dX8_set_69 rfl rfl ?_
            refine zz_getR M f_X8_23 tM_0 rfl dX8_set_70 ?_
            refine zz_iload M 0 dX8_set_73 rfl ?_
            refine zz_iald M tM_4 h.1 dX8_set_75 ?_
            have h := h.2
            refine zz_goto M 101 dX8_set_76 (by decide) ?_
            refine zz_topi (fun x46 ex46 => ?_)
            have h := h x46 ex46
            refine zz_istore M [(6, .int x46), (5, .int x37), (0, .ref (ad 0)), (1, .int x1), (2, .int x2), (3, .int x3), (4, .int x4)] dX8_set_101 (by decide) rfl ?_
            refine zz_iload_n M 5 dX8_set_103 rfl rfl ?_
            refine zz_if_ne (y0 := 0) M 119 dX8_set_104 (by decide) (fun c => ?_) (fun c => ?_)
            · have h := zifn h c
              refine zz_iload_n M 5 dX8_set_119 rfl rfl ?_
              refine zz_iconst (v := 1) M dX8_set_120 (by decide) ?_
              refine zz_icmp_ne M 136 dX8_set_121 (by decide) (fun c => ?_) (fun c => ?_)
              · have h := zifn h c
                refine zz_aload_n M 2 dX8_set_136 rfl rfl ?_
                refine zz_getR M f_X8_29 tM_0 rfl dX8_set_137 ?_
                refine zz_iload M 1 dX8_set_140 rfl ?_
                refine zz_iload M 6 dX8_set_142 rfl ?_
                refine zz_iast M tM_6 h.1 dX8_set_144 ?_
                have h := h.2
                refine zz_sg (fun σ47 eσ47 => ?_)
                have h := h σ47 eσ47
                refine zz_iload M 0 dX8_set_145 rfl ?_
                exact zz_iret M dX8_set_147 h
              · have h := zif h c
                refine zz_aload_n M 2 dX8_set_124 rfl rfl ?_
                refine zz_getR M f_X8_26 tM_0 rfl dX8_set_125 ?_
                refine zz_iload M 1 dX8_set_128 rfl ?_
                refine zz_iload M 6 dX8_set_130 rfl ?_
                refine zz_iast M tM_5 h.1 dX8_set_132 ?_
                have h := h.2
                refine zz_sg (fun σ48 eσ48 => ?_)
                have h := h σ48 eσ48
                refine zz_goto M 145 dX8_set_133 (by decide) ?_
                refine zz_iload M 0 dX8_set_145 rfl ?_
                exact zz_iret M dX8_set_147 h
            · have h := zif h c
              refine zz_aload_n M 2 dX8_set_107 rfl rfl ?_
              refine zz_getR M f_X8_23 tM_0 rfl dX8_set_108 ?_
              refine zz_iload M 1 dX8_set_111 rfl ?_
              refine zz_iload M 6 dX8_set_113 rfl ?_
              refine zz_iast M tM_4 h.1 dX8_set_115 ?_
              have h := h.2
              refine zz_sg (fun σ49 eσ49 => ?_)
              have h := h σ49 eσ49
              refine zz_goto M 145 dX8_set_116 (by decide) ?_
              refine zz_iload M 0 dX8_set_145 rfl ?_
              exact zz_iret M dX8_set_147 h
        · have h := zif h c
          refine zz_bipush (v := (-2)) M dX8_set_55 (by decide) ?_
          exact zz_iret M dX8_set_57 h
end
