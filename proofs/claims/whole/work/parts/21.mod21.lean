section
variable {p : Program} {l : Launch} {e : Env} {s : State} {m : MethodId} {args : Array Value} {below : List Frame} {meth : Method} {c : Code} {D : va_G} {cA : Nat → ClassId} {ad : Nat → Nat} {y : zX}
def wX8_set (x1 : Int32) (x2 : Int32) (x3 : Int32) (x4 : Int32) (σ : zSt) (Q : Int32 → zSt → Prop) : Prop := wX8_isHere x1 x2 σ (fun r101 σ102 => if r101 = 0 then (Q (-2) σ102) else (wX8_in ((x3 : Int32).toInt64) 0 2 σ102 (fun r103 σ104 => if r103 = 0 then (Q (-2) σ104) else (if x3 = 0 then (wX8_in ((x4 : Int32).toInt64) 0 2 σ104 (fun r135 σ136 => if r135 = 0 then (Q (-2) σ136) else (∀ x137 : Int32, x137 = ((4 * x1) + x2) → (if x3 = 0 then (vp_in x137 8 ∧ (∀ x146 : Int32, x146 = (σ136.1 4 x137.toNatClampNeg) → (if x3 = 0 then (vp_in x137 8 ∧ (∀ σ149 : zSt, σ149 = zput σ136 4 x137.toNatClampNeg x4 → (Q x146 σ149))) else (if x3 = 1 then (vp_in x137 8 ∧ (∀ σ148 : zSt, σ148 = zput σ136 5 x137.toNatClampNeg x4 → (Q x146 σ148))) else (vp_in x137 8 ∧ (∀ σ147 : zSt, σ147 = zput σ136 6 x137.toNatClampNeg x4 → (Q x146 σ147))))))) else (if x3 = 1 then (vp_in x137 8 ∧ (∀ x142 : Int32, x142 = (σ136.1 5 x137.toNatClampNeg) → (if x3 = 0 then (vp_in x137 8 ∧ (∀ σ145 : zSt, σ145 = zput σ136 4 x137.toNatClampNeg x4 → (Q x142 σ145))) else (if x3 = 1 then (vp_in x137 8 ∧ (∀ σ144 : zSt, σ144 = zput σ136 5 x137.toNatClampNeg x4 → (Q x142 σ144))) else (vp_in x137 8 ∧ (∀ σ143 : zSt, σ143 = zput σ136 6 x137.toNatClampNeg x4 → (Q x142 σ143))))))) else (vp_in x137 8 ∧ (∀ x138 : Int32, x138 = (σ136.1 6 x137.toNatClampNeg) → (if x3 = 0 then (vp_in x137 8 ∧ (∀ σ141 : zSt, σ141 = zput σ136 4 x137.toNatClampNeg x4 → (Q x138 σ141))) else (if x3 = 1 then (vp_in x137 8 ∧ (∀ σ140 : zSt, σ140 = zput σ136 5 x137.toNatClampNeg x4 → (Q x138 σ140))) else (vp_in x137 8 ∧ (∀ σ139 : zSt, σ139 = zput σ136 6 x137.toNatClampNeg x4 → (Q x138 σ139)))))))))))) else (if x3 = 1 then (wX8_in ((x4 : Int32).toInt64) 0 23 σ104 (fun r120 σ121 => if r120 = 0 then (Q (-2) σ121) else (∀ x122 : Int32, x122 = ((4 * x1) + x2) → (if x3 = 0 then (vp_in x122 8 ∧ (∀ x131 : Int32, x131 = (σ121.1 4 x122.toNatClampNeg) → (if x3 = 0 then (vp_in x122 8 ∧ (∀ σ134 : zSt, σ134 = zput σ121 4 x122.toNatClampNeg x4 → (Q x131 σ134))) else (if x3 = 1 then (vp_in x122 8 ∧ (∀ σ133 : zSt, σ133 = zput σ121 5 x122.toNatClampNeg x4 → (Q x131 σ133))) else (vp_in x122 8 ∧ (∀ σ132 : zSt, σ132 = zput σ121 6 x122.toNatClampNeg x4 → (Q x131 σ132))))))) else (if x3 = 1 then (vp_in x122 8 ∧ (∀ x127 : Int32, x127 = (σ121.1 5 x122.toNatClampNeg) → (if x3 = 0 then (vp_in x122 8 ∧ (∀ σ130 : zSt, σ130 = zput σ121 4 x122.toNatClampNeg x4 → (Q x127 σ130))) else (if x3 = 1 then (vp_in x122 8 ∧ (∀ σ129 : zSt, σ129 = zput σ121 5 x122.toNatClampNeg x4 → (Q x127 σ129))) else (vp_in x122 8 ∧ (∀ σ128 : zSt, σ128 = zput σ121 6 x122.toNatClampNeg x4 → (Q x127 σ128))))))) else (vp_in x122 8 ∧ (∀ x123 : Int32, x123 = (σ121.1 6 x122.toNatClampNeg) → (if x3 = 0 then (vp_in x122 8 ∧ (∀ σ126 : zSt, σ126 = zput σ121 4 x122.toNatClampNeg x4 → (Q x123 σ126))) else (if x3 = 1 then (vp_in x122 8 ∧ (∀ σ125 : zSt, σ125 = zput σ121 5 x122.toNatClampNeg x4 → (Q x123 σ125))) else (vp_in x122 8 ∧ (∀ σ124 : zSt, σ124 = zput σ121 6 x122.toNatClampNeg x4 → (Q x123 σ124)))))))))))) else (wX8_in ((x4 : Int32).toInt64) 0 9 σ104 (fun r105 σ106 => if r105 = 0 then (Q (-2) σ106) else (∀ x107 : Int32, x107 = ((4 * x1) + x2) → (if x3 = 0 then (vp_in x107 8 ∧ (∀ x116 : Int32, x116 = (σ106.1 4 x107.toNatClampNeg) → (if x3 = 0 then (vp_in x107 8 ∧ (∀ σ119 : zSt, σ119 = zput σ106 4 x107.toNatClampNeg x4 → (Q x116 σ119))) else (if x3 = 1 then (vp_in x107 8 ∧ (∀ σ118 : zSt, σ118 = zput σ106 5 x107.toNatClampNeg x4 → (Q x116 σ118))) else (vp_in x107 8 ∧ (∀ σ117 : zSt, σ117 = zput σ106 6 x107.toNatClampNeg x4 → (Q x116 σ117))))))) else (if x3 = 1 then (vp_in x107 8 ∧ (∀ x112 : Int32, x112 = (σ106.1 5 x107.toNatClampNeg) → (if x3 = 0 then (vp_in x107 8 ∧ (∀ σ115 : zSt, σ115 = zput σ106 4 x107.toNatClampNeg x4 → (Q x112 σ115))) else (if x3 = 1 then (vp_in x107 8 ∧ (∀ σ114 : zSt, σ114 = zput σ106 5 x107.toNatClampNeg x4 → (Q x112 σ114))) else (vp_in x107 8 ∧ (∀ σ113 : zSt, σ113 = zput σ106 6 x107.toNatClampNeg x4 → (Q x112 σ113))))))) else (vp_in x107 8 ∧ (∀ x108 : Int32, x108 = (σ106.1 6 x107.toNatClampNeg) → (if x3 = 0 then (vp_in x107 8 ∧ (∀ σ111 : zSt, σ111 = zput σ106 4 x107.toNatClampNeg x4 → (Q x108 σ111))) else (if x3 = 1 then (vp_in x107 8 ∧ (∀ σ110 : zSt, σ110 = zput σ106 5 x107.toNatClampNeg x4 → (Q x108 σ110))) else (vp_in x107 8 ∧ (∀ σ109 : zSt, σ109 = zput σ106 6 x107.toNatClampNeg x4 → (Q x108 σ109)))))))))))))))))
set_option maxRecDepth 20000 in
set_option maxHeartbeats 4000000 in
theorem kX8_set (hI : zInj tabM ad) (x1 : Int32) (x2 : Int32) (x3 : Int32) (x4 : Int32)  (σ : zSt) (Q : Int32 → zSt → Prop) (h : wX8_set x1 x2 x3 x4 σ Q) : zOkI l tabM D cA ad y 3 yX8_set cX8_set 7 (some .int) [.ref (ad 0), .int x1, .int x2, .int x3, .int x4] σ Q := by
  refine zz_enter hI (by decide) (Nat.le_of_ble_eq_true rfl) (fun p e s m below meth c M => ?_)
  have M : zM p s m _ meth c cX8_set 7 RX8 (some .int) tabM D cA ad y := M
  refine zz_ls [(0, .ref (ad 0)), (1, .int x1), (2, .int x2), (3, .int x3), (4, .int x4)] rfl ?_
  unfold wX8_set at h
  refine zz_aload_n M 0 dX8_set_0 rfl rfl ?_
  refine zz_iload_n M 1 dX8_set_1 rfl rfl ?_
  refine zz_iload_n M 2 dX8_set_2 rfl rfl ?_
  refine zz_callVI (d' := 2) (As := [.int x1, .int x2]) (rest := []) M l_X8_108 tM_0 rfl rfl dX8_set_3 rfl rfl (by decide) (Nat.le_of_ble_eq_true rfl) (by have hI := M.2.2.2.2.2.2.2.2; exact kX8_isHere hI _ _  _ _ h) (fun r101 σ102 h => ?_)
  refine zz_if_eq (y0 := 0) M 55 dX8_set_6 (by decide) (fun c => ?_) (fun c => ?_)
  · have h := zif (c := r101 = 0) h c
    refine zz_bipush (v := (-2)) M dX8_set_55 (by decide) ?_
    exact zz_iret M dX8_set_57 h
  · have h := zifn (c := r101 = 0) h c
    refine zz_iload_n M 3 dX8_set_9 rfl rfl ?_
    refine zz_i2l M dX8_set_10 ?_
    refine zz_lconst (v := 0) M dX8_set_11 (by decide) ?_
    refine zz_ldc2 (v := 2) M k_X8_104 dX8_set_12 ?_
    refine zz_callSI (d' := 1) (As := [.long ((x3 : Int32).toInt64), .long 0, .long 2]) (rest := []) M l_X8_92 dX8_set_15 rfl rfl (by decide) (Nat.le_of_ble_eq_true rfl) (by have hI := M.2.2.2.2.2.2.2.2; exact kX8_in hI _ _ _  _ _ h) (fun r103 σ104 h => ?_)
    refine zz_if_eq (y0 := 0) M 55 dX8_set_18 (by decide) (fun c => ?_) (fun c => ?_)
    · have h := zif (c := r103 = 0) h c
      refine zz_bipush (v := (-2)) M dX8_set_55 (by decide) ?_
      exact zz_iret M dX8_set_57 h
    · have h := zifn (c := r103 = 0) h c
      refine zz_iload M 4 dX8_set_21 rfl ?_
      refine zz_i2l M dX8_set_23 ?_
      refine zz_lconst (v := 0) M dX8_set_24 (by decide) ?_
      refine zz_iload_n M 3 dX8_set_25 rfl rfl ?_
      refine zz_if_ne (y0 := 0) M 35 dX8_set_26 (by decide) (fun c => ?_) (fun c => ?_)
      · have h := zifn (c := x3 = 0) h c
        refine zz_iload_n M 3 dX8_set_35 rfl rfl ?_
        refine zz_iconst (v := 1) M dX8_set_36 (by decide) ?_
        refine zz_icmp_ne M 46 dX8_set_37 (by decide) (fun c => ?_) (fun c => ?_)
        · have h := zifn (c := x3 = 1) h c
          refine zz_ldc2 (v := 9) M k_X8_106 dX8_set_46 ?_
          refine zz_callSI (d' := 1) (As := [.long ((x4 : Int32).toInt64), .long 0, .long 9]) (rest := []) M l_X8_92 dX8_set_49 rfl rfl (by decide) (Nat.le_of_ble_eq_true rfl) (by have hI := M.2.2.2.2.2.2.2.2; exact kX8_in hI _ _ _  _ _ h) (fun r105 σ106 h => ?_)
          refine zz_if_ne (y0 := 0) M 58 dX8_set_52 (by decide) (fun c => ?_) (fun c => ?_)
          · have h := zifn (c := r105 = 0) h c
            refine zz_iconst (v := 4) M dX8_set_58 (by decide) ?_
            refine zz_iload_n M 1 dX8_set_59 rfl rfl ?_
            refine zz_imul M dX8_set_60 ?_
            refine zz_iload_n M 2 dX8_set_61 rfl rfl ?_
            refine zz_iadd M dX8_set_62 ?_
            refine zz_topi (fun x107 ex107 => ?_)
            have h := h x107 ex107
            refine zz_istore M [(5, .int x107), (0, .ref (ad 0)), (1, .int x1), (2, .int x2), (3, .int x3), (4, .int x4)] dX8_set_63 (by decide) rfl ?_
            refine zz_iload_n M 4 dX8_set_65 rfl rfl ?_
            refine zz_if_ne (y0 := 0) M 79 dX8_set_66 (by decide) (fun c => ?_) (fun c => ?_)
            · have h := zifn (c := x3 = 0) h c
              refine zz_iload_n M 4 dX8_set_79 rfl rfl ?_
              refine zz_iconst (v := 1) M dX8_set_80 (by decide) ?_
              refine zz_icmp_ne M 94 dX8_set_81 (by decide) (fun c => ?_) (fun c => ?_)
              · have h := zifn (c := x3 = 1) h c
                refine zz_aload_n M 1 dX8_set_94 rfl rfl ?_
                refine zz_getR M f_X8_29 tM_0 rfl dX8_set_95 ?_
                refine zz_iload M 0 dX8_set_98 rfl ?_
                refine zz_iald M tM_6 h.1 dX8_set_100 ?_
                have h := h.2
                refine zz_topi (fun x108 ex108 => ?_)
                have h := h x108 ex108
                refine zz_istore M [(6, .int x108), (5, .int x107), (0, .ref (ad 0)), (1, .int x1), (2, .int x2), (3, .int x3), (4, .int x4)] dX8_set_101 (by decide) rfl ?_
                refine zz_iload_n M 5 dX8_set_103 rfl rfl ?_
                refine zz_if_ne (y0 := 0) M 119 dX8_set_104 (by decide) (fun c => ?_) (fun c => ?_)
                · have h := zifn (c := x3 = 0) h c
                  refine zz_iload_n M 5 dX8_set_119 rfl rfl ?_
                  refine zz_iconst (v := 1) M dX8_set_120 (by decide) ?_
                  refine zz_icmp_ne M 136 dX8_set_121 (by decide) (fun c => ?_) (fun c => ?_)
                  · have h := zifn (c := x3 = 1) h c
                    refine zz_aload_n M 2 dX8_set_136 rfl rfl ?_
                    refine zz_getR M f_X8_29 tM_0 rfl dX8_set_137 ?_
                    refine zz_iload M 1 dX8_set_140 rfl ?_
                    refine zz_iload M 6 dX8_set_142 rfl ?_
                    refine zz_iast M tM_6 h.1 dX8_set_144 ?_
                    have h := h.2
                    refine zz_sg (fun σ109 eσ109 => ?_)
                    have h := h σ109 eσ109
                    refine zz_iload M 0 dX8_set_145 rfl ?_
                    exact zz_iret M dX8_set_147 h
                  · have h := zif (c := x3 = 1) h c
                    refine zz_aload_n M 2 dX8_set_124 rfl rfl ?_
                    refine zz_getR M f_X8_26 tM_0 rfl dX8_set_125 ?_
                    refine zz_iload M 1 dX8_set_128 rfl ?_
                    refine zz_iload M 6 dX8_set_130 rfl ?_
                    refine zz_iast M tM_5 h.1 dX8_set_132 ?_
                    have h := h.2
                    refine zz_sg (fun σ110 eσ110 => ?_)
                    have h := h σ110 eσ110
                    refine zz_goto M 145 dX8_set_133 (by decide) ?_
                    refine zz_iload M 0 dX8_set_145 rfl ?_
                    exact zz_iret M dX8_set_147 h
                · have h := zif (c := x3 = 0) h c
                  refine zz_aload_n M 2 dX8_set_107 rfl rfl ?_
                  refine zz_getR M f_X8_23 tM_0 rfl dX8_set_108 ?_
                  refine zz_iload M 1 dX8_set_111 rfl ?_
                  refine zz_iload M 6 dX8_set_113 rfl ?_
                  refine zz_iast M tM_4 h.1 dX8_set_115 ?_
                  have h := h.2
                  refine zz_sg (fun σ111 eσ111 => ?_)
                  have h := h σ111 eσ111
                  refine zz_goto M 145 dX8_set_116 (by decide) ?_
                  refine zz_iload M 0 dX8_set_145 rfl ?_
                  exact zz_iret M dX8_set_147 h
              · have h := zif (c := x3 = 1) h c
                refine zz_aload_n M 1 dX8_set_84 rfl rfl ?_
                refine zz_getR M f_X8_26 tM_0 rfl dX8_set_85 ?_
                refine zz_iload M 0 dX8_set_88 rfl ?_
                refine zz_iald M tM_5 h.1 dX8_set_90 ?_
                have h := h.2
                refine zz_goto M 101 dX8_set_91 (by decide) ?_
                refine zz_topi (fun x112 ex112 => ?_)
                have h := h x112 ex112
                refine zz_istore M [(6, .int x112), (5, .int x107), (0, .ref (ad 0)), (1, .int x1), (2, .int x2), (3, .int x3), (4, .int x4)] dX8_set_101 (by decide) rfl ?_
                refine zz_iload_n M 5 dX8_set_103 rfl rfl ?_
                refine zz_if_ne (y0 := 0) M 119 dX8_set_104 (by decide) (fun c => ?_) (fun c => ?_)
                · have h := zifn (c := x3 = 0) h c
                  refine zz_iload_n M 5 dX8_set_119 rfl rfl ?_
                  refine zz_iconst (v := 1) M dX8_set_120 (by decide) ?_
                  refine zz_icmp_ne M 136 dX8_set_121 (by decide) (fun c => ?_) (fun c => ?_)
                  · have h := zifn (c := x3 = 1) h c
                    refine zz_aload_n M 2 dX8_set_136 rfl rfl ?_
                    refine zz_getR M f_X8_29 tM_0 rfl dX8_set_137 ?_
                    refine zz_iload M 1 dX8_set_140 rfl ?_
                    refine zz_iload M 6 dX8_set_142 rfl ?_
                    refine zz_iast M tM_6 h.1 dX8_set_144 ?_
                    have h := h.2
                    refine zz_sg (fun σ113 eσ113 => ?_)
                    have h := h σ113 eσ113
                    refine zz_iload M 0 dX8_set_145 rfl ?_
                    exact zz_iret M dX8_set_147 h
                  · have h := zif (c := x3 = 1) h c
                    refine zz_aload_n M 2 dX8_set_124 rfl rfl ?_
                    refine zz_getR M f_X8_26 tM_0 rfl dX8_set_125 ?_
                    refine zz_iload M 1 dX8_set_128 rfl ?_
                    refine zz_iload M 6 dX8_set_130 rfl ?_
                    refine zz_iast M tM_5 h.1 dX8_set_132 ?_
                    have h := h.2
                    refine zz_sg (fun σ114 eσ114 => ?_)
                    have h := h σ114 eσ114
                    refine zz_goto M 145 dX8_set_133 (by decide) ?_
                    refine zz_iload M 0 dX8_set_145 rfl ?_
                    exact zz_iret M dX8_set_147 h
                · have h := zif (c := x3 = 0) h c
                  refine zz_aload_n M 2 dX8_set_107 rfl rfl ?_
                  refine zz_getR M f_X8_23 tM_0 rfl dX8_set_108 ?_
                  refine zz_iload M 1 dX8_set_111 rfl ?_
                  refine zz_iload M 6 dX8_set_113 rfl ?_
                  refine zz_iast M tM_4 h.1 dX8_set_115 ?_
                  have h := h.2
                  refine zz_sg (fun σ115 eσ115 => ?_)
                  have h := h σ115 eσ115
                  refine zz_goto M 145 dX8_set_116 (by decide) ?_
                  refine zz_iload M 0 dX8_set_145 rfl ?_
                  exact zz_iret M dX8_set_147 h
            · have h := zif (c := x3 = 0) h c
              refine zz_aload_n M 1 dX8_set_69 rfl rfl ?_
              refine zz_getR M f_X8_23 tM_0 rfl dX8_set_70 ?_
              refine zz_iload M 0 dX8_set_73 rfl ?_
              refine zz_iald M tM_4 h.1 dX8_set_75 ?_
              have h := h.2
              refine zz_goto M 101 dX8_set_76 (by decide) ?_
              refine zz_topi (fun x116 ex116 => ?_)
              have h := h x116 ex116
              refine zz_istore M [(6, .int x116), (5, .int x107), (0, .ref (ad 0)), (1, .int x1), (2, .int x2), (3, .int x3), (4, .int x4)] dX8_set_101 (by decide) rfl ?_
              refine zz_iload_n M 5 dX8_set_103 rfl rfl ?_
              refine zz_if_ne (y0 := 0) M 119 dX8_set_104 (by decide) (fun c => ?_) (fun c => ?_)
              · have h := zifn (c := x3 = 0) h c
                refine zz_iload_n M 5 dX8_set_119 rfl rfl ?_
                refine zz_iconst (v := 1) M dX8_set_120 (by decide) ?_
                refine zz_icmp_ne M 136 dX8_set_121 (by decide) (fun c => ?_) (fun c => ?_)
                · have h := zifn (c := x3 = 1) h c
                  refine zz_aload_n M 2 dX8_set_136 rfl rfl ?_
                  refine zz_getR M f_X8_29 tM_0 rfl dX8_set_137 ?_
                  refine zz_iload M 1 dX8_set_140 rfl ?_
                  refine zz_iload M 6 dX8_set_142 rfl ?_
                  refine zz_iast M tM_6 h.1 dX8_set_144 ?_
                  have h := h.2
                  refine zz_sg (fun σ117 eσ117 => ?_)
                  have h := h σ117 eσ117
                  refine zz_iload M 0 dX8_set_145 rfl ?_
                  exact zz_iret M dX8_set_147 h
                · have h := zif (c := x3 = 1) h c
                  refine zz_aload_n M 2 dX8_set_124 rfl rfl ?_
                  refine zz_getR M f_X8_26 tM_0 rfl dX8_set_125 ?_
                  refine zz_iload M 1 dX8_set_128 rfl ?_
                  refine zz_iload M 6 dX8_set_130 rfl ?_
                  refine zz_iast M tM_5 h.1 dX8_set_132 ?_
                  have h := h.2
                  refine zz_sg (fun σ118 eσ118 => ?_)
                  have h := h σ118 eσ118
                  refine zz_goto M 145 dX8_set_133 (by decide) ?_
                  refine zz_iload M 0 dX8_set_145 rfl ?_
                  exact zz_iret M dX8_set_147 h
              · have h := zif (c := x3 = 0) h c
                refine zz_aload_n M 2 dX8_set_107 rfl rfl ?_
                refine zz_getR M f_X8_23 tM_0 rfl dX8_set_108 ?_
                refine zz_iload M 1 dX8_set_111 rfl ?_
                refine zz_iload M 6 dX8_set_113 rfl ?_
                refine zz_iast M tM_4 h.1 dX8_set_115 ?_
                have h := h.2
                refine zz_sg (fun σ119 eσ119 => ?_)
                have h := h σ119 eσ119
                refine zz_goto M 145 dX8_set_116 (by decide) ?_
                refine zz_iload M 0 dX8_set_145 rfl ?_
                exact zz_iret M dX8_set_147 h
          · have h := zif (c := r105 = 0) h c
            refine zz_bipush (v := (-2)) M dX8_set_55 (by decide) ?_
            exact zz_iret M dX8_set_57 h
        · have h := zif (c := x3 = 1) h c
          refine zz_ldc2 (v := 23) M k_X8_112 dX8_set_40 ?_
          refine zz_goto M 49 dX8_set_43 (by decide) ?_
          refine zz_callSI (d' := 1) (As := [.long ((x4 : Int32).toInt64), .long 0, .long 23]) (rest := []) M l_X8_92 dX8_set_49 rfl rfl (by decide) (Nat.le_of_ble_eq_true rfl) (by have hI := M.2.2.2.2.2.2.2.2; exact kX8_in hI _ _ _  _ _ h) (fun r120 σ121 h => ?_)
          refine zz_if_ne (y0 := 0) M 58 dX8_set_52 (by decide) (fun c => ?_) (fun c => ?_)
          · have h := zifn (c := r120 = 0) h c
            refine zz_iconst (v := 4) M dX8_set_58 (by decide) ?_
            refine zz_iload_n M 1 dX8_set_59 rfl rfl ?_
            refine zz_imul M dX8_set_60 ?_
            refine zz_iload_n M 2 dX8_set_61 rfl rfl ?_
            refine zz_iadd M dX8_set_62 ?_
            refine zz_topi (fun x122 ex122 => ?_)
            have h := h x122 ex122
            refine zz_istore M [(5, .int x122), (0, .ref (ad 0)), (1, .int x1), (2, .int x2), (3, .int x3), (4, .int x4)] dX8_set_63 (by decide) rfl ?_
            refine zz_iload_n M 4 dX8_set_65 rfl rfl ?_
            refine zz_if_ne (y0 := 0) M 79 dX8_set_66 (by decide) (fun c => ?_) (fun c => ?_)
            · have h := zifn (c := x3 = 0) h c
              refine zz_iload_n M 4 dX8_set_79 rfl rfl ?_
              refine zz_iconst (v := 1) M dX8_set_80 (by decide) ?_
              refine zz_icmp_ne M 94 dX8_set_81 (by decide) (fun c => ?_) (fun c => ?_)
              · have h := zifn (c := x3 = 1) h c
                refine zz_aload_n M 1 dX8_set_94 rfl rfl ?_
                refine zz_getR M f_X8_29 tM_0 rfl dX8_set_95 ?_
                refine zz_iload M 0 dX8_set_98 rfl ?_
                refine zz_iald M tM_6 h.1 dX8_set_100 ?_
                have h := h.2
                refine zz_topi (fun x123 ex123 => ?_)
                have h := h x123 ex123
                refine zz_istore M [(6, .int x123), (5, .int x122), (0, .ref (ad 0)), (1, .int x1), (2, .int x2), (3, .int x3), (4, .int x4)] dX8_set_101 (by decide) rfl ?_
                refine zz_iload_n M 5 dX8_set_103 rfl rfl ?_
                refine zz_if_ne (y0 := 0) M 119 dX8_set_104 (by decide) (fun c => ?_) (fun c => ?_)
                · have h := zifn (c := x3 = 0) h c
                  refine zz_iload_n M 5 dX8_set_119 rfl rfl ?_
                  refine zz_iconst (v := 1) M dX8_set_120 (by decide) ?_
                  refine zz_icmp_ne M 136 dX8_set_121 (by decide) (fun c => ?_) (fun c => ?_)
                  · have h := zifn (c := x3 = 1) h c
                    refine zz_aload_n M 2 dX8_set_136 rfl rfl ?_
                    refine zz_getR M f_X8_29 tM_0 rfl dX8_set_137 ?_
                    refine zz_iload M 1 dX8_set_140 rfl ?_
                    refine zz_iload M 6 dX8_set_142 rfl ?_
                    refine zz_iast M tM_6 h.1 dX8_set_144 ?_
                    have h := h.2
                    refine zz_sg (fun σ124 eσ124 => ?_)
                    have h := h σ124 eσ124
                    refine zz_iload M 0 dX8_set_145 rfl ?_
                    exact zz_iret M dX8_set_147 h
                  · have h := zif (c := x3 = 1) h c
                    refine zz_aload_n M 2 dX8_set_124 rfl rfl ?_
                    refine zz_getR M f_X8_26 tM_0 rfl dX8_set_125 ?_
                    refine zz_iload M 1 dX8_set_128 rfl ?_
                    refine zz_iload M 6 dX8_set_130 rfl ?_
                    refine zz_iast M tM_5 h.1 dX8_set_132 ?_
                    have h := h.2
                    refine zz_sg (fun σ125 eσ125 => ?_)
                    have h := h σ125 eσ125
                    refine zz_goto M 145 dX8_set_133 (by decide) ?_
                    refine zz_iload M 0 dX8_set_145 rfl ?_
                    exact zz_iret M dX8_set_147 h
                · have h := zif (c := x3 = 0) h c
                  refine zz_aload_n M 2 dX8_set_107 rfl rfl ?_
                  refine zz_getR M f_X8_23 tM_0 rfl dX8_set_108 ?_
                  refine zz_iload M 1 dX8_set_111 rfl ?_
                  refine zz_iload M 6 dX8_set_113 rfl ?_
                  refine zz_iast M tM_4 h.1 dX8_set_115 ?_
                  have h := h.2
                  refine zz_sg (fun σ126 eσ126 => ?_)
                  have h := h σ126 eσ126
                  refine zz_goto M 145 dX8_set_116 (by decide) ?_
                  refine zz_iload M 0 dX8_set_145 rfl ?_
                  exact zz_iret M dX8_set_147 h
              · have h := zif (c := x3 = 1) h c
                refine zz_aload_n M 1 dX8_set_84 rfl rfl ?_
                refine zz_getR M f_X8_26 tM_0 rfl dX8_set_85 ?_
                refine zz_iload M 0 dX8_set_88 rfl ?_
                refine zz_iald M tM_5 h.1 dX8_set_90 ?_
                have h := h.2
                refine zz_goto M 101 dX8_set_91 (by decide) ?_
                refine zz_topi (fun x127 ex127 => ?_)
                have h := h x127 ex127
                refine zz_istore M [(6, .int x127), (5, .int x122), (0, .ref (ad 0)), (1, .int x1), (2, .int x2), (3, .int x3), (4, .int x4)] dX8_set_101 (by decide) rfl ?_
                refine zz_iload_n M 5 dX8_set_103 rfl rfl ?_
                refine zz_if_ne (y0 := 0) M 119 dX8_set_104 (by decide) (fun c => ?_) (fun c => ?_)
                · have h := zifn (c := x3 = 0) h c
                  refine zz_iload_n M 5 dX8_set_119 rfl rfl ?_
                  refine zz_iconst (v := 1) M dX8_set_120 (by decide) ?_
                  refine zz_icmp_ne M 136 dX8_set_121 (by decide) (fun c => ?_) (fun c => ?_)
                  · have h := zifn (c := x3 = 1) h c
                    refine zz_aload_n M 2 dX8_set_136 rfl rfl ?_
                    refine zz_getR M f_X8_29 tM_0 rfl dX8_set_137 ?_
                    refine zz_iload M 1 dX8_set_140 rfl ?_
                    refine zz_iload M 6 dX8_set_142 rfl ?_
                    refine zz_iast M tM_6 h.1 dX8_set_144 ?_
                    have h := h.2
                    refine zz_sg (fun σ128 eσ128 => ?_)
                    have h := h σ128 eσ128
                    refine zz_iload M 0 dX8_set_145 rfl ?_
                    exact zz_iret M dX8_set_147 h
                  · have h := zif (c := x3 = 1) h c
                    refine zz_aload_n M 2 dX8_set_124 rfl rfl ?_
                    refine zz_getR M f_X8_26 tM_0 rfl dX8_set_125 ?_
                    refine zz_iload M 1 dX8_set_128 rfl ?_
                    refine zz_iload M 6 dX8_set_130 rfl ?_
                    refine zz_iast M tM_5 h.1 dX8_set_132 ?_
                    have h := h.2
                    refine zz_sg (fun σ129 eσ129 => ?_)
                    have h := h σ129 eσ129
                    refine zz_goto M 145 dX8_set_133 (by decide) ?_
                    refine zz_iload M 0 dX8_set_145 rfl ?_
                    exact zz_iret M dX8_set_147 h
                · have h := zif (c := x3 = 0) h c
                  refine zz_aload_n M 2 dX8_set_107 rfl rfl ?_
                  refine zz_getR M f_X8_23 tM_0 rfl dX8_set_108 ?_
                  refine zz_iload M 1 dX8_set_111 rfl ?_
                  refine zz_iload M 6 dX8_set_113 rfl ?_
                  refine zz_iast M tM_4 h.1 dX8_set_115 ?_
                  have h := h.2
                  refine zz_sg (fun σ130 eσ130 => ?_)
                  have h := h σ130 eσ130
                  refine zz_goto M 145 dX8_set_116 (by decide) ?_
                  refine zz_iload M 0 dX8_set_145 rfl ?_
                  exact zz_iret M dX8_set_147 h
            · have h := zif (c := x3 = 0) h c
              refine zz_aload_n M 1 dX8_set_69 rfl rfl ?_
              refine zz_getR M f_X8_23 tM_0 rfl dX8_set_70 ?_
              refine zz_iload M 0 dX8_set_73 rfl ?_
              refine zz_iald M tM_4 h.1 dX8_set_75 ?_
              have h := h.2
              refine zz_goto M 101 dX8_set_76 (by decide) ?_
              refine zz_topi (fun x131 ex131 => ?_)
              have h := h x131 ex131
              refine zz_istore M [(6, .int x131), (5, .int x122), (0, .ref (ad 0)), (1, .int x1), (2, .int x2), (3, .int x3), (4, .int x4)] dX8_set_101 (by decide) rfl ?_
              refine zz_iload_n M 5 dX8_set_103 rfl rfl ?_
              refine zz_if_ne (y0 := 0) M 119 dX8_set_104 (by decide) (fun c => ?_) (fun c => ?_)
              · have h := zifn (c := x3 = 0) h c
                refine zz_iload_n M 5 dX8_set_119 rfl rfl ?_
                refine zz_iconst (v := 1) M dX8_set_120 (by decide) ?_
                refine zz_icmp_ne M 136 dX8_set_121 (by decide) (fun c => ?_) (fun c => ?_)
                · have h := zifn (c := x3 = 1) h c
                  refine zz_aload_n M 2 dX8_set_136 rfl rfl ?_
                  refine zz_getR M f_X8_29 tM_0 rfl dX8_set_137 ?_
                  refine zz_iload M 1 dX8_set_140 rfl ?_
                  refine zz_iload M 6 dX8_set_142 rfl ?_
                  refine zz_iast M tM_6 h.1 dX8_set_144 ?_
                  have h := h.2
                  refine zz_sg (fun σ132 eσ132 => ?_)
                  have h := h σ132 eσ132
                  refine zz_iload M 0 dX8_set_145 rfl ?_
                  exact zz_iret M dX8_set_147 h
                · have h := zif (c := x3 = 1) h c
                  refine zz_aload_n M 2 dX8_set_124 rfl rfl ?_
                  refine zz_getR M f_X8_26 tM_0 rfl dX8_set_125 ?_
                  refine zz_iload M 1 dX8_set_128 rfl ?_
                  refine zz_iload M 6 dX8_set_130 rfl ?_
                  refine zz_iast M tM_5 h.1 dX8_set_132 ?_
                  have h := h.2
                  refine zz_sg (fun σ133 eσ133 => ?_)
                  have h := h σ133 eσ133
                  refine zz_goto M 145 dX8_set_133 (by decide) ?_
                  refine zz_iload M 0 dX8_set_145 rfl ?_
                  exact zz_iret M dX8_set_147 h
              · have h := zif (c := x3 = 0) h c
                refine zz_aload_n M 2 dX8_set_107 rfl rfl ?_
                refine zz_getR M f_X8_23 tM_0 rfl dX8_set_108 ?_
                refine zz_iload M 1 dX8_set_111 rfl ?_
                refine zz_iload M 6 dX8_set_113 rfl ?_
                refine zz_iast M tM_4 h.1 dX8_set_115 ?_
                have h := h.2
                refine zz_sg (fun σ134 eσ134 => ?_)
                have h := h σ134 eσ134
                refine zz_goto M 145 dX8_set_116 (by decide) ?_
                refine zz_iload M 0 dX8_set_145 rfl ?_
                exact zz_iret M dX8_set_147 h
          · have h := zif (c := r120 = 0) h c
            refine zz_bipush (v := (-2)) M dX8_set_55 (by decide) ?_
            exact zz_iret M dX8_set_57 h
      · have h := zif (c := x3 = 0) h c
        refine zz_ldc2 (v := 2) M k_X8_104 dX8_set_29 ?_
        refine zz_goto M 49 dX8_set_32 (by decide) ?_
        refine zz_callSI (d' := 1) (As := [.long ((x4 : Int32).toInt64), .long 0, .long 2]) (rest := []) M l_X8_92 dX8_set_49 rfl rfl (by decide) (Nat.le_of_ble_eq_true rfl) (by have hI := M.2.2.2.2.2.2.2.2; exact kX8_in hI _ _ _  _ _ h) (fun r135 σ136 h => ?_)
        refine zz_if_ne (y0 := 0) M 58 dX8_set_52 (by decide) (fun c => ?_) (fun c => ?_)
        · have h := zifn (c := r135 = 0) h c
          refine zz_iconst (v := 4) M dX8_set_58 (by decide) ?_
          refine zz_iload_n M 1 dX8_set_59 rfl rfl ?_
          refine zz_imul M dX8_set_60 ?_
          refine zz_iload_n M 2 dX8_set_61 rfl rfl ?_
          refine zz_iadd M dX8_set_62 ?_
          refine zz_topi (fun x137 ex137 => ?_)
          have h := h x137 ex137
          refine zz_istore M [(5, .int x137), (0, .ref (ad 0)), (1, .int x1), (2, .int x2), (3, .int x3), (4, .int x4)] dX8_set_63 (by decide) rfl ?_
          refine zz_iload_n M 4 dX8_set_65 rfl rfl ?_
          refine zz_if_ne (y0 := 0) M 79 dX8_set_66 (by decide) (fun c => ?_) (fun c => ?_)
          · have h := zifn (c := x3 = 0) h c
            refine zz_iload_n M 4 dX8_set_79 rfl rfl ?_
            refine zz_iconst (v := 1) M dX8_set_80 (by decide) ?_
            refine zz_icmp_ne M 94 dX8_set_81 (by decide) (fun c => ?_) (fun c => ?_)
            · have h := zifn (c := x3 = 1) h c
              refine zz_aload_n M 1 dX8_set_94 rfl rfl ?_
              refine zz_getR M f_X8_29 tM_0 rfl dX8_set_95 ?_
              refine zz_iload M 0 dX8_set_98 rfl ?_
              refine zz_iald M tM_6 h.1 dX8_set_100 ?_
              have h := h.2
              refine zz_topi (fun x138 ex138 => ?_)
              have h := h x138 ex138
              refine zz_istore M [(6, .int x138), (5, .int x137), (0, .ref (ad 0)), (1, .int x1), (2, .int x2), (3, .int x3), (4, .int x4)] dX8_set_101 (by decide) rfl ?_
              refine zz_iload_n M 5 dX8_set_103 rfl rfl ?_
              refine zz_if_ne (y0 := 0) M 119 dX8_set_104 (by decide) (fun c => ?_) (fun c => ?_)
              · have h := zifn (c := x3 = 0) h c
                refine zz_iload_n M 5 dX8_set_119 rfl rfl ?_
                refine zz_iconst (v := 1) M dX8_set_120 (by decide) ?_
                refine zz_icmp_ne M 136 dX8_set_121 (by decide) (fun c => ?_) (fun c => ?_)
                · have h := zifn (c := x3 = 1) h c
                  refine zz_aload_n M 2 dX8_set_136 rfl rfl ?_
                  refine zz_getR M f_X8_29 tM_0 rfl dX8_set_137 ?_
                  refine zz_iload M 1 dX8_set_140 rfl ?_
                  refine zz_iload M 6 dX8_set_142 rfl ?_
                  refine zz_iast M tM_6 h.1 dX8_set_144 ?_
                  have h := h.2
                  refine zz_sg (fun σ139 eσ139 => ?_)
                  have h := h σ139 eσ139
                  refine zz_iload M 0 dX8_set_145 rfl ?_
                  exact zz_iret M dX8_set_147 h
                · have h := zif (c := x3 = 1) h c
                  refine zz_aload_n M 2 dX8_set_124 rfl rfl ?_
                  refine zz_getR M f_X8_26 tM_0 rfl dX8_set_125 ?_
                  refine zz_iload M 1 dX8_set_128 rfl ?_
                  refine zz_iload M 6 dX8_set_130 rfl ?_
                  refine zz_iast M tM_5 h.1 dX8_set_132 ?_
                  have h := h.2
                  refine zz_sg (fun σ140 eσ140 => ?_)
                  have h := h σ140 eσ140
                  refine zz_goto M 145 dX8_set_133 (by decide) ?_
                  refine zz_iload M 0 dX8_set_145 rfl ?_
                  exact zz_iret M dX8_set_147 h
              · have h := zif (c := x3 = 0) h c
                refine zz_aload_n M 2 dX8_set_107 rfl rfl ?_
                refine zz_getR M f_X8_23 tM_0 rfl dX8_set_108 ?_
                refine zz_iload M 1 dX8_set_111 rfl ?_
                refine zz_iload M 6 dX8_set_113 rfl ?_
                refine zz_iast M tM_4 h.1 dX8_set_115 ?_
                have h := h.2
                refine zz_sg (fun σ141 eσ141 => ?_)
                have h := h σ141 eσ141
                refine zz_goto M 145 dX8_set_116 (by decide) ?_
                refine zz_iload M 0 dX8_set_145 rfl ?_
                exact zz_iret M dX8_set_147 h
            · have h := zif (c := x3 = 1) h c
              refine zz_aload_n M 1 dX8_set_84 rfl rfl ?_
              refine zz_getR M f_X8_26 tM_0 rfl dX8_set_85 ?_
              refine zz_iload M 0 dX8_set_88 rfl ?_
              refine zz_iald M tM_5 h.1 dX8_set_90 ?_
              have h := h.2
              refine zz_goto M 101 dX8_set_91 (by decide) ?_
              refine zz_topi (fun x142 ex142 => ?_)
              have h := h x142 ex142
              refine zz_istore M [(6, .int x142), (5, .int x137), (0, .ref (ad 0)), (1, .int x1), (2, .int x2), (3, .int x3), (4, .int x4)] dX8_set_101 (by decide) rfl ?_
              refine zz_iload_n M 5 dX8_set_103 rfl rfl ?_
              refine zz_if_ne (y0 := 0) M 119 dX8_set_104 (by decide) (fun c => ?_) (fun c => ?_)
              · have h := zifn (c := x3 = 0) h c
                refine zz_iload_n M 5 dX8_set_119 rfl rfl ?_
                refine zz_iconst (v := 1) M dX8_set_120 (by decide) ?_
                refine zz_icmp_ne M 136 dX8_set_121 (by decide) (fun c => ?_) (fun c => ?_)
                · have h := zifn (c := x3 = 1) h c
                  refine zz_aload_n M 2 dX8_set_136 rfl rfl ?_
                  refine zz_getR M f_X8_29 tM_0 rfl dX8_set_137 ?_
                  refine zz_iload M 1 dX8_set_140 rfl ?_
                  refine zz_iload M 6 dX8_set_142 rfl ?_
                  refine zz_iast M tM_6 h.1 dX8_set_144 ?_
                  have h := h.2
                  refine zz_sg (fun σ143 eσ143 => ?_)
                  have h := h σ143 eσ143
                  refine zz_iload M 0 dX8_set_145 rfl ?_
                  exact zz_iret M dX8_set_147 h
                · have h := zif (c := x3 = 1) h c
                  refine zz_aload_n M 2 dX8_set_124 rfl rfl ?_
                  refine zz_getR M f_X8_26 tM_0 rfl dX8_set_125 ?_
                  refine zz_iload M 1 dX8_set_128 rfl ?_
                  refine zz_iload M 6 dX8_set_130 rfl ?_
                  refine zz_iast M tM_5 h.1 dX8_set_132 ?_
                  have h := h.2
                  refine zz_sg (fun σ144 eσ144 => ?_)
                  have h := h σ144 eσ144
                  refine zz_goto M 145 dX8_set_133 (by decide) ?_
                  refine zz_iload M 0 dX8_set_145 rfl ?_
                  exact zz_iret M dX8_set_147 h
              · have h := zif (c := x3 = 0) h c
                refine zz_aload_n M 2 dX8_set_107 rfl rfl ?_
                refine zz_getR M f_X8_23 tM_0 rfl dX8_set_108 ?_
                refine zz_iload M 1 dX8_set_111 rfl ?_
                refine zz_iload M 6 dX8_set_113 rfl ?_
                refine zz_iast M tM_4 h.1 dX8_set_115 ?_
                have h := h.2
                refine zz_sg (fun σ145 eσ145 => ?_)
                have h := h σ145 eσ145
                refine zz_goto M 145 dX8_set_116 (by decide) ?_
                refine zz_iload M 0 dX8_set_145 rfl ?_
                exact zz_iret M dX8_set_147 h
          · have h := zif (c := x3 = 0) h c
            refine zz_aload_n M 1 dX8_set_69 rfl rfl ?_
            refine zz_getR M f_X8_23 tM_0 rfl dX8_set_70 ?_
            refine zz_iload M 0 dX8_set_73 rfl ?_
            refine zz_iald M tM_4 h.1 dX8_set_75 ?_
            have h := h.2
            refine zz_goto M 101 dX8_set_76 (by decide) ?_
            refine zz_topi (fun x146 ex146 => ?_)
            have h := h x146 ex146
            refine zz_istore M [(6, .int x146), (5, .int x137), (0, .ref (ad 0)), (1, .int x1), (2, .int x2), (3, .int x3), (4, .int x4)] dX8_set_101 (by decide) rfl ?_
            refine zz_iload_n M 5 dX8_set_103 rfl rfl ?_
            refine zz_if_ne (y0 := 0) M 119 dX8_set_104 (by decide) (fun c => ?_) (fun c => ?_)
            · have h := zifn (c := x3 = 0) h c
              refine zz_iload_n M 5 dX8_set_119 rfl rfl ?_
              refine zz_iconst (v := 1) M dX8_set_120 (by decide) ?_
              refine zz_icmp_ne M 136 dX8_set_121 (by decide) (fun c => ?_) (fun c => ?_)
              · have h := zifn (c := x3 = 1) h c
                refine zz_aload_n M 2 dX8_set_136 rfl rfl ?_
                refine zz_getR M f_X8_29 tM_0 rfl dX8_set_137 ?_
                refine zz_iload M 1 dX8_set_140 rfl ?_
                refine zz_iload M 6 dX8_set_142 rfl ?_
                refine zz_iast M tM_6 h.1 dX8_set_144 ?_
                have h := h.2
                refine zz_sg (fun σ147 eσ147 => ?_)
                have h := h σ147 eσ147
                refine zz_iload M 0 dX8_set_145 rfl ?_
                exact zz_iret M dX8_set_147 h
              · have h := zif (c := x3 = 1) h c
                refine zz_aload_n M 2 dX8_set_124 rfl rfl ?_
                refine zz_getR M f_X8_26 tM_0 rfl dX8_set_125 ?_
                refine zz_iload M 1 dX8_set_128 rfl ?_
                refine zz_iload M 6 dX8_set_130 rfl ?_
                refine zz_iast M tM_5 h.1 dX8_set_132 ?_
                have h := h.2
                refine zz_sg (fun σ148 eσ148 => ?_)
                have h := h σ148 eσ148
                refine zz_goto M 145 dX8_set_133 (by decide) ?_
                refine zz_iload M 0 dX8_set_145 rfl ?_
                exact zz_iret M dX8_set_147 h
            · have h := zif (c := x3 = 0) h c
              refine zz_aload_n M 2 dX8_set_107 rfl rfl ?_
              refine zz_getR M f_X8_23 tM_0 rfl dX8_set_108 ?_
              refine zz_iload M 1 dX8_set_111 rfl ?_
              refine zz_iload M 6 dX8_set_113 rfl ?_
              refine zz_iast M tM_4 h.1 dX8_set_115 ?_
              have h := h.2
              refine zz_sg (fun σ149 eσ149 => ?_)
              have h := h σ149 eσ149
              refine zz_goto M 145 dX8_set_116 (by decide) ?_
              refine zz_iload M 0 dX8_set_145 rfl ?_
              exact zz_iret M dX8_set_147 h
        · have h := zif (c := r135 = 0) h c
          refine zz_bipush (v := (-2)) M dX8_set_55 (by decide) ?_
          exact zz_iret M dX8_set_57 h
end
