section
variable {p : Program} {l : Launch} {e : Env} {s : State} {m : MethodId} {args : Array Value} {below : List Frame} {meth : Method} {c : Code} {D : va_G} {cA : Nat → ClassId} {ad : Nat → Nat} {y : zX}
def wX8_law (x1 : Int32) (x2 : Int32) (x3 : Int32) (σ : zSt) (Q : Int32 → zSt → Prop) : Prop := wX8_in ((x1 : Int32).toInt64) 0 2 σ (fun r101 σ102 => if r101 = 0 then (Q (-2) σ102) else (if x1 = 2 then (wX8_in ((x2 : Int32).toInt64) 0 (((σ102.1 0 16) - 1 : Int32).toInt64) σ102 (fun r159 σ160 => if r159 = 0 then (Q (-2) σ160) else (if x1 = 2 then (if x1 = 0 then (wX8_in ((x3 : Int32).toInt64) 0 4 σ160 (fun r203 σ204 => if r203 = 0 then (Q (-2) σ204) else (if x1 = 0 then (∀ x213 : Int32, x213 = (σ204.1 0 12) → (if x1 = 0 then (∀ σ216 : zSt, σ216 = zput σ204 0 12 x3 → (Q x213 σ216)) else (if x1 = 1 then (∀ σ215 : zSt, σ215 = zput σ204 0 13 x3 → (Q x213 σ215)) else (vp_in x2 4 ∧ (∀ σ214 : zSt, σ214 = zput σ204 8 x2.toNatClampNeg x3 → (Q x213 σ214)))))) else (if x1 = 1 then (∀ x209 : Int32, x209 = (σ204.1 0 13) → (if x1 = 0 then (∀ σ212 : zSt, σ212 = zput σ204 0 12 x3 → (Q x209 σ212)) else (if x1 = 1 then (∀ σ211 : zSt, σ211 = zput σ204 0 13 x3 → (Q x209 σ211)) else (vp_in x2 4 ∧ (∀ σ210 : zSt, σ210 = zput σ204 8 x2.toNatClampNeg x3 → (Q x209 σ210)))))) else (vp_in x2 4 ∧ (∀ x205 : Int32, x205 = (σ204.1 8 x2.toNatClampNeg) → (if x1 = 0 then (∀ σ208 : zSt, σ208 = zput σ204 0 12 x3 → (Q x205 σ208)) else (if x1 = 1 then (∀ σ207 : zSt, σ207 = zput σ204 0 13 x3 → (Q x205 σ207)) else (vp_in x2 4 ∧ (∀ σ206 : zSt, σ206 = zput σ204 8 x2.toNatClampNeg x3 → (Q x205 σ206))))))))))) else (wX8_in ((x3 : Int32).toInt64) 0 9 σ160 (fun r189 σ190 => if r189 = 0 then (Q (-2) σ190) else (if x1 = 0 then (∀ x199 : Int32, x199 = (σ190.1 0 12) → (if x1 = 0 then (∀ σ202 : zSt, σ202 = zput σ190 0 12 x3 → (Q x199 σ202)) else (if x1 = 1 then (∀ σ201 : zSt, σ201 = zput σ190 0 13 x3 → (Q x199 σ201)) else (vp_in x2 4 ∧ (∀ σ200 : zSt, σ200 = zput σ190 8 x2.toNatClampNeg x3 → (Q x199 σ200)))))) else (if x1 = 1 then (∀ x195 : Int32, x195 = (σ190.1 0 13) → (if x1 = 0 then (∀ σ198 : zSt, σ198 = zput σ190 0 12 x3 → (Q x195 σ198)) else (if x1 = 1 then (∀ σ197 : zSt, σ197 = zput σ190 0 13 x3 → (Q x195 σ197)) else (vp_in x2 4 ∧ (∀ σ196 : zSt, σ196 = zput σ190 8 x2.toNatClampNeg x3 → (Q x195 σ196)))))) else (vp_in x2 4 ∧ (∀ x191 : Int32, x191 = (σ190.1 8 x2.toNatClampNeg) → (if x1 = 0 then (∀ σ194 : zSt, σ194 = zput σ190 0 12 x3 → (Q x191 σ194)) else (if x1 = 1 then (∀ σ193 : zSt, σ193 = zput σ190 0 13 x3 → (Q x191 σ193)) else (vp_in x2 4 ∧ (∀ σ192 : zSt, σ192 = zput σ190 8 x2.toNatClampNeg x3 → (Q x191 σ192)))))))))))) else (if x1 = 0 then (wX8_in ((x3 : Int32).toInt64) 1 4 σ160 (fun r175 σ176 => if r175 = 0 then (Q (-2) σ176) else (if x1 = 0 then (∀ x185 : Int32, x185 = (σ176.1 0 12) → (if x1 = 0 then (∀ σ188 : zSt, σ188 = zput σ176 0 12 x3 → (Q x185 σ188)) else (if x1 = 1 then (∀ σ187 : zSt, σ187 = zput σ176 0 13 x3 → (Q x185 σ187)) else (vp_in x2 4 ∧ (∀ σ186 : zSt, σ186 = zput σ176 8 x2.toNatClampNeg x3 → (Q x185 σ186)))))) else (if x1 = 1 then (∀ x181 : Int32, x181 = (σ176.1 0 13) → (if x1 = 0 then (∀ σ184 : zSt, σ184 = zput σ176 0 12 x3 → (Q x181 σ184)) else (if x1 = 1 then (∀ σ183 : zSt, σ183 = zput σ176 0 13 x3 → (Q x181 σ183)) else (vp_in x2 4 ∧ (∀ σ182 : zSt, σ182 = zput σ176 8 x2.toNatClampNeg x3 → (Q x181 σ182)))))) else (vp_in x2 4 ∧ (∀ x177 : Int32, x177 = (σ176.1 8 x2.toNatClampNeg) → (if x1 = 0 then (∀ σ180 : zSt, σ180 = zput σ176 0 12 x3 → (Q x177 σ180)) else (if x1 = 1 then (∀ σ179 : zSt, σ179 = zput σ176 0 13 x3 → (Q x177 σ179)) else (vp_in x2 4 ∧ (∀ σ178 : zSt, σ178 = zput σ176 8 x2.toNatClampNeg x3 → (Q x177 σ178))))))))))) else (wX8_in ((x3 : Int32).toInt64) 1 9 σ160 (fun r161 σ162 => if r161 = 0 then (Q (-2) σ162) else (if x1 = 0 then (∀ x171 : Int32, x171 = (σ162.1 0 12) → (if x1 = 0 then (∀ σ174 : zSt, σ174 = zput σ162 0 12 x3 → (Q x171 σ174)) else (if x1 = 1 then (∀ σ173 : zSt, σ173 = zput σ162 0 13 x3 → (Q x171 σ173)) else (vp_in x2 4 ∧ (∀ σ172 : zSt, σ172 = zput σ162 8 x2.toNatClampNeg x3 → (Q x171 σ172)))))) else (if x1 = 1 then (∀ x167 : Int32, x167 = (σ162.1 0 13) → (if x1 = 0 then (∀ σ170 : zSt, σ170 = zput σ162 0 12 x3 → (Q x167 σ170)) else (if x1 = 1 then (∀ σ169 : zSt, σ169 = zput σ162 0 13 x3 → (Q x167 σ169)) else (vp_in x2 4 ∧ (∀ σ168 : zSt, σ168 = zput σ162 8 x2.toNatClampNeg x3 → (Q x167 σ168)))))) else (vp_in x2 4 ∧ (∀ x163 : Int32, x163 = (σ162.1 8 x2.toNatClampNeg) → (if x1 = 0 then (∀ σ166 : zSt, σ166 = zput σ162 0 12 x3 → (Q x163 σ166)) else (if x1 = 1 then (∀ σ165 : zSt, σ165 = zput σ162 0 13 x3 → (Q x163 σ165)) else (vp_in x2 4 ∧ (∀ σ164 : zSt, σ164 = zput σ162 8 x2.toNatClampNeg x3 → (Q x163 σ164))))))))))))))) else (if x1 = 2 then (if x1 = 0 then (wX8_in ((x3 : Int32).toInt64) 0 4 σ102 (fun r145 σ146 => if r145 = 0 then (Q (-2) σ146) else (if x1 = 0 then (∀ x155 : Int32, x155 = (σ146.1 0 12) → (if x1 = 0 then (∀ σ158 : zSt, σ158 = zput σ146 0 12 x3 → (Q x155 σ158)) else (if x1 = 1 then (∀ σ157 : zSt, σ157 = zput σ146 0 13 x3 → (Q x155 σ157)) else (vp_in x2 4 ∧ (∀ σ156 : zSt, σ156 = zput σ146 8 x2.toNatClampNeg x3 → (Q x155 σ156)))))) else (if x1 = 1 then (∀ x151 : Int32, x151 = (σ146.1 0 13) → (if x1 = 0 then (∀ σ154 : zSt, σ154 = zput σ146 0 12 x3 → (Q x151 σ154)) else (if x1 = 1 then (∀ σ153 : zSt, σ153 = zput σ146 0 13 x3 → (Q x151 σ153)) else (vp_in x2 4 ∧ (∀ σ152 : zSt, σ152 = zput σ146 8 x2.toNatClampNeg x3 → (Q x151 σ152)))))) else (vp_in x2 4 ∧ (∀ x147 : Int32, x147 = (σ146.1 8 x2.toNatClampNeg) → (if x1 = 0 then (∀ σ150 : zSt, σ150 = zput σ146 0 12 x3 → (Q x147 σ150)) else (if x1 = 1 then (∀ σ149 : zSt, σ149 = zput σ146 0 13 x3 → (Q x147 σ149)) else (vp_in x2 4 ∧ (∀ σ148 : zSt, σ148 = zput σ146 8 x2.toNatClampNeg x3 → (Q x147 σ148))))))))))) else (wX8_in ((x3 : Int32).toInt64) 0 9 σ102 (fun r131 σ132 => if r131 = 0 then (Q (-2) σ132) else (if x1 = 0 then (∀ x141 : Int32, x141 = (σ132.1 0 12) → (if x1 = 0 then (∀ σ144 : zSt, σ144 = zput σ132 0 12 x3 → (Q x141 σ144)) else (if x1 = 1 then (∀ σ143 : zSt, σ143 = zput σ132 0 13 x3 → (Q x141 σ143)) else (vp_in x2 4 ∧ (∀ σ142 : zSt, σ142 = zput σ132 8 x2.toNatClampNeg x3 → (Q x141 σ142)))))) else (if x1 = 1 then (∀ x137 : Int32, x137 = (σ132.1 0 13) → (if x1 = 0 then (∀ σ140 : zSt, σ140 = zput σ132 0 12 x3 → (Q x137 σ140)) else (if x1 = 1 then (∀ σ139 : zSt, σ139 = zput σ132 0 13 x3 → (Q x137 σ139)) else (vp_in x2 4 ∧ (∀ σ138 : zSt, σ138 = zput σ132 8 x2.toNatClampNeg x3 → (Q x137 σ138)))))) else (vp_in x2 4 ∧ (∀ x133 : Int32, x133 = (σ132.1 8 x2.toNatClampNeg) → (if x1 = 0 then (∀ σ136 : zSt, σ136 = zput σ132 0 12 x3 → (Q x133 σ136)) else (if x1 = 1 then (∀ σ135 : zSt, σ135 = zput σ132 0 13 x3 → (Q x133 σ135)) else (vp_in x2 4 ∧ (∀ σ134 : zSt, σ134 = zput σ132 8 x2.toNatClampNeg x3 → (Q x133 σ134)))))))))))) else (if x1 = 0 then (wX8_in ((x3 : Int32).toInt64) 1 4 σ102 (fun r117 σ118 => if r117 = 0 then (Q (-2) σ118) else (if x1 = 0 then (∀ x127 : Int32, x127 = (σ118.1 0 12) → (if x1 = 0 then (∀ σ130 : zSt, σ130 = zput σ118 0 12 x3 → (Q x127 σ130)) else (if x1 = 1 then (∀ σ129 : zSt, σ129 = zput σ118 0 13 x3 → (Q x127 σ129)) else (vp_in x2 4 ∧ (∀ σ128 : zSt, σ128 = zput σ118 8 x2.toNatClampNeg x3 → (Q x127 σ128)))))) else (if x1 = 1 then (∀ x123 : Int32, x123 = (σ118.1 0 13) → (if x1 = 0 then (∀ σ126 : zSt, σ126 = zput σ118 0 12 x3 → (Q x123 σ126)) else (if x1 = 1 then (∀ σ125 : zSt, σ125 = zput σ118 0 13 x3 → (Q x123 σ125)) else (vp_in x2 4 ∧ (∀ σ124 : zSt, σ124 = zput σ118 8 x2.toNatClampNeg x3 → (Q x123 σ124)))))) else (vp_in x2 4 ∧ (∀ x119 : Int32, x119 = (σ118.1 8 x2.toNatClampNeg) → (if x1 = 0 then (∀ σ122 : zSt, σ122 = zput σ118 0 12 x3 → (Q x119 σ122)) else (if x1 = 1 then (∀ σ121 : zSt, σ121 = zput σ118 0 13 x3 → (Q x119 σ121)) else (vp_in x2 4 ∧ (∀ σ120 : zSt, σ120 = zput σ118 8 x2.toNatClampNeg x3 → (Q x119 σ120))))))))))) else (wX8_in ((x3 : Int32).toInt64) 1 9 σ102 (fun r103 σ104 => if r103 = 0 then (Q (-2) σ104) else (if x1 = 0 then (∀ x113 : Int32, x113 = (σ104.1 0 12) → (if x1 = 0 then (∀ σ116 : zSt, σ116 = zput σ104 0 12 x3 → (Q x113 σ116)) else (if x1 = 1 then (∀ σ115 : zSt, σ115 = zput σ104 0 13 x3 → (Q x113 σ115)) else (vp_in x2 4 ∧ (∀ σ114 : zSt, σ114 = zput σ104 8 x2.toNatClampNeg x3 → (Q x113 σ114)))))) else (if x1 = 1 then (∀ x109 : Int32, x109 = (σ104.1 0 13) → (if x1 = 0 then (∀ σ112 : zSt, σ112 = zput σ104 0 12 x3 → (Q x109 σ112)) else (if x1 = 1 then (∀ σ111 : zSt, σ111 = zput σ104 0 13 x3 → (Q x109 σ111)) else (vp_in x2 4 ∧ (∀ σ110 : zSt, σ110 = zput σ104 8 x2.toNatClampNeg x3 → (Q x109 σ110)))))) else (vp_in x2 4 ∧ (∀ x105 : Int32, x105 = (σ104.1 8 x2.toNatClampNeg) → (if x1 = 0 then (∀ σ108 : zSt, σ108 = zput σ104 0 12 x3 → (Q x105 σ108)) else (if x1 = 1 then (∀ σ107 : zSt, σ107 = zput σ104 0 13 x3 → (Q x105 σ107)) else (vp_in x2 4 ∧ (∀ σ106 : zSt, σ106 = zput σ104 8 x2.toNatClampNeg x3 → (Q x105 σ106)))))))))))))))
set_option maxRecDepth 20000 in
set_option maxHeartbeats 4000000 in
theorem kX8_law (hI : zInj tabM ad) (x1 : Int32) (x2 : Int32) (x3 : Int32)  (σ : zSt) (Q : Int32 → zSt → Prop) (h : wX8_law x1 x2 x3 σ Q) : zOkI l tabM D cA ad y 2 yX8_law cX8_law 5 (some .int) [.ref (ad 0), .int x1, .int x2, .int x3] σ Q := by
  refine zz_enter hI (by decide) (Nat.le_of_ble_eq_true rfl) (fun p e s m below meth c M => ?_)
  have M : zM p s m _ meth c cX8_law 5 RX8 (some .int) tabM D cA ad y := M
  refine zz_ls [(0, .ref (ad 0)), (1, .int x1), (2, .int x2), (3, .int x3)] rfl ?_
  unfold wX8_law at h
  refine zz_iload_n M 1 dX8_law_0 rfl rfl ?_
  refine zz_i2l M dX8_law_1 ?_
  refine zz_lconst (v := 0) M dX8_law_2 (by decide) ?_
  refine zz_ldc2 (v := 2) M k_X8_104 dX8_law_3 ?_
  refine zz_callSI (d' := 1) (As := [.long ((x1 : Int32).toInt64), .long 0, .long 2]) (rest := []) M l_X8_92 dX8_law_6 rfl rfl (by decide) (Nat.le_of_ble_eq_true rfl) (by have hI := M.2.2.2.2.2.2.2.2; exact kX8_in hI _ _ _  _ _ h) (fun r101 σ102 h => ?_)
  refine zz_if_eq (y0 := 0) M 64 dX8_law_9 (by decide) (fun c => ?_) (fun c => ?_)
  · have h := zif (c := r101 = 0) h c
    refine zz_bipush (v := (-2)) M dX8_law_64 (by decide) ?_
    exact zz_iret M dX8_law_66 h
  · have h := zifn (c := r101 = 0) h c
    refine zz_iload_n M 1 dX8_law_12 rfl rfl ?_
    refine zz_iconst (v := 2) M dX8_law_13 (by decide) ?_
    refine zz_icmp_ne M 33 dX8_law_14 (by decide) (fun c => ?_) (fun c => ?_)
    · have h := zifn (c := x1 = 2) h c
      refine zz_iload_n M 3 dX8_law_33 rfl rfl ?_
      refine zz_i2l M dX8_law_34 ?_
      refine zz_iload_n M 1 dX8_law_35 rfl rfl ?_
      refine zz_iconst (v := 2) M dX8_law_36 (by decide) ?_
      refine zz_icmp_ne M 44 dX8_law_37 (by decide) (fun c => ?_) (fun c => ?_)
      · have h := zifn (c := x1 = 2) h c
        refine zz_lconst (v := 1) M dX8_law_44 (by decide) ?_
        refine zz_iload_n M 1 dX8_law_45 rfl rfl ?_
        refine zz_if_ne (y0 := 0) M 55 dX8_law_46 (by decide) (fun c => ?_) (fun c => ?_)
        · have h := zifn (c := x1 = 0) h c
          refine zz_ldc2 (v := 9) M k_X8_106 dX8_law_55 ?_
          refine zz_callSI (d' := 1) (As := [.long ((x3 : Int32).toInt64), .long 1, .long 9]) (rest := []) M l_X8_92 dX8_law_58 rfl rfl (by decide) (Nat.le_of_ble_eq_true rfl) (by have hI := M.2.2.2.2.2.2.2.2; exact kX8_in hI _ _ _  _ _ h) (fun r103 σ104 h => ?_)
          refine zz_if_ne (y0 := 0) M 67 dX8_law_61 (by decide) (fun c => ?_) (fun c => ?_)
          · have h := zifn (c := r103 = 0) h c
            refine zz_iload_n M 1 dX8_law_67 rfl rfl ?_
            refine zz_if_ne (y0 := 0) M 78 dX8_law_68 (by decide) (fun c => ?_) (fun c => ?_)
            · have h := zifn (c := x1 = 0) h c
              refine zz_iload_n M 1 dX8_law_78 rfl rfl ?_
              refine zz_iconst (v := 1) M dX8_law_79 (by decide) ?_
              refine zz_icmp_ne M 90 dX8_law_80 (by decide) (fun c => ?_) (fun c => ?_)
              · have h := zifn (c := x1 = 1) h c
                refine zz_aload_n M 0 dX8_law_90 rfl rfl ?_
                refine zz_getR M f_X8_41 tM_0 rfl dX8_law_91 ?_
                refine zz_iload_n M 2 dX8_law_94 rfl rfl ?_
                refine zz_iald M tM_8 h.1 dX8_law_95 ?_
                have h := h.2
                refine zz_topi (fun x105 ex105 => ?_)
                have h := h x105 ex105
                refine zz_istore M [(4, .int x105), (0, .ref (ad 0)), (1, .int x1), (2, .int x2), (3, .int x3)] dX8_law_96 (by decide) rfl ?_
                refine zz_iload_n M 2 dX8_law_98 rfl rfl ?_
                refine zz_if_ne (y0 := 0) M 110 dX8_law_99 (by decide) (fun c => ?_) (fun c => ?_)
                · have h := zifn (c := x1 = 0) h c
                  refine zz_iload_n M 2 dX8_law_110 rfl rfl ?_
                  refine zz_iconst (v := 1) M dX8_law_111 (by decide) ?_
                  refine zz_icmp_ne M 123 dX8_law_112 (by decide) (fun c => ?_) (fun c => ?_)
                  · have h := zifn (c := x1 = 1) h c
                    refine zz_aload_n M 1 dX8_law_123 rfl rfl ?_
                    refine zz_getR M f_X8_41 tM_0 rfl dX8_law_124 ?_
                    refine zz_iload_n M 3 dX8_law_127 rfl rfl ?_
                    refine zz_iload_n M 4 dX8_law_128 rfl rfl ?_
                    refine zz_iast M tM_8 h.1 dX8_law_129 ?_
                    have h := h.2
                    refine zz_sg (fun σ106 eσ106 => ?_)
                    have h := h σ106 eσ106
                    refine zz_iload M 0 dX8_law_130 rfl ?_
                    exact zz_iret M dX8_law_132 h
                  · have h := zif (c := x1 = 1) h c
                    refine zz_aload_n M 1 dX8_law_115 rfl rfl ?_
                    refine zz_iload_n M 4 dX8_law_116 rfl rfl ?_
                    refine zz_putI M f_X8_35 tM_0 rfl dX8_law_117 ?_
                    refine zz_sg (fun σ107 eσ107 => ?_)
                    have h := h σ107 eσ107
                    refine zz_goto M 130 dX8_law_120 (by decide) ?_
                    refine zz_iload M 0 dX8_law_130 rfl ?_
                    exact zz_iret M dX8_law_132 h
                · have h := zif (c := x1 = 0) h c
                  refine zz_aload_n M 1 dX8_law_102 rfl rfl ?_
                  refine zz_iload_n M 4 dX8_law_103 rfl rfl ?_
                  refine zz_putI M f_X8_32 tM_0 rfl dX8_law_104 ?_
                  refine zz_sg (fun σ108 eσ108 => ?_)
                  have h := h σ108 eσ108
                  refine zz_goto M 130 dX8_law_107 (by decide) ?_
                  refine zz_iload M 0 dX8_law_130 rfl ?_
                  exact zz_iret M dX8_law_132 h
              · have h := zif (c := x1 = 1) h c
                refine zz_aload_n M 0 dX8_law_83 rfl rfl ?_
                refine zz_getI M f_X8_35 tM_0 rfl dX8_law_84 ?_
                refine zz_goto M 96 dX8_law_87 (by decide) ?_
                refine zz_topi (fun x109 ex109 => ?_)
                have h := h x109 ex109
                refine zz_istore M [(4, .int x109), (0, .ref (ad 0)), (1, .int x1), (2, .int x2), (3, .int x3)] dX8_law_96 (by decide) rfl ?_
                refine zz_iload_n M 2 dX8_law_98 rfl rfl ?_
                refine zz_if_ne (y0 := 0) M 110 dX8_law_99 (by decide) (fun c => ?_) (fun c => ?_)
                · have h := zifn (c := x1 = 0) h c
                  refine zz_iload_n M 2 dX8_law_110 rfl rfl ?_
                  refine zz_iconst (v := 1) M dX8_law_111 (by decide) ?_
                  refine zz_icmp_ne M 123 dX8_law_112 (by decide) (fun c => ?_) (fun c => ?_)
                  · have h := zifn (c := x1 = 1) h c
                    refine zz_aload_n M 1 dX8_law_123 rfl rfl ?_
                    refine zz_getR M f_X8_41 tM_0 rfl dX8_law_124 ?_
                    refine zz_iload_n M 3 dX8_law_127 rfl rfl ?_
                    refine zz_iload_n M 4 dX8_law_128 rfl rfl ?_
                    refine zz_iast M tM_8 h.1 dX8_law_129 ?_
                    have h := h.2
                    refine zz_sg (fun σ110 eσ110 => ?_)
                    have h := h σ110 eσ110
                    refine zz_iload M 0 dX8_law_130 rfl ?_
                    exact zz_iret M dX8_law_132 h
                  · have h := zif (c := x1 = 1) h c
                    refine zz_aload_n M 1 dX8_law_115 rfl rfl ?_
                    refine zz_iload_n M 4 dX8_law_116 rfl rfl ?_
                    refine zz_putI M f_X8_35 tM_0 rfl dX8_law_117 ?_
                    refine zz_sg (fun σ111 eσ111 => ?_)
                    have h := h σ111 eσ111
                    refine zz_goto M 130 dX8_law_120 (by decide) ?_
                    refine zz_iload M 0 dX8_law_130 rfl ?_
                    exact zz_iret M dX8_law_132 h
                · have h := zif (c := x1 = 0) h c
                  refine zz_aload_n M 1 dX8_law_102 rfl rfl ?_
                  refine zz_iload_n M 4 dX8_law_103 rfl rfl ?_
                  refine zz_putI M f_X8_32 tM_0 rfl dX8_law_104 ?_
                  refine zz_sg (fun σ112 eσ112 => ?_)
                  have h := h σ112 eσ112
                  refine zz_goto M 130 dX8_law_107 (by decide) ?_
                  refine zz_iload M 0 dX8_law_130 rfl ?_
                  exact zz_iret M dX8_law_132 h
            · have h := zif (c := x1 = 0) h c
              refine zz_aload_n M 0 dX8_law_71 rfl rfl ?_
              refine zz_getI M f_X8_32 tM_0 rfl dX8_law_72 ?_
              refine zz_goto M 96 dX8_law_75 (by decide) ?_
              refine zz_topi (fun x113 ex113 => ?_)
              have h := h x113 ex113
              refine zz_istore M [(4, .int x113), (0, .ref (ad 0)), (1, .int x1), (2, .int x2), (3, .int x3)] dX8_law_96 (by decide) rfl ?_
              refine zz_iload_n M 2 dX8_law_98 rfl rfl ?_
              refine zz_if_ne (y0 := 0) M 110 dX8_law_99 (by decide) (fun c => ?_) (fun c => ?_)
              · have h := zifn (c := x1 = 0) h c
                refine zz_iload_n M 2 dX8_law_110 rfl rfl ?_
                refine zz_iconst (v := 1) M dX8_law_111 (by decide) ?_
                refine zz_icmp_ne M 123 dX8_law_112 (by decide) (fun c => ?_) (fun c => ?_)
                · have h := zifn (c := x1 = 1) h c
                  refine zz_aload_n M 1 dX8_law_123 rfl rfl ?_
                  refine zz_getR M f_X8_41 tM_0 rfl dX8_law_124 ?_
                  refine zz_iload_n M 3 dX8_law_127 rfl rfl ?_
                  refine zz_iload_n M 4 dX8_law_128 rfl rfl ?_
                  refine zz_iast M tM_8 h.1 dX8_law_129 ?_
                  have h := h.2
                  refine zz_sg (fun σ114 eσ114 => ?_)
                  have h := h σ114 eσ114
                  refine zz_iload M 0 dX8_law_130 rfl ?_
                  exact zz_iret M dX8_law_132 h
                · have h := zif (c := x1 = 1) h c
                  refine zz_aload_n M 1 dX8_law_115 rfl rfl ?_
                  refine zz_iload_n M 4 dX8_law_116 rfl rfl ?_
                  refine zz_putI M f_X8_35 tM_0 rfl dX8_law_117 ?_
                  refine zz_sg (fun σ115 eσ115 => ?_)
                  have h := h σ115 eσ115
                  refine zz_goto M 130 dX8_law_120 (by decide) ?_
                  refine zz_iload M 0 dX8_law_130 rfl ?_
                  exact zz_iret M dX8_law_132 h
              · have h := zif (c := x1 = 0) h c
                refine zz_aload_n M 1 dX8_law_102 rfl rfl ?_
                refine zz_iload_n M 4 dX8_law_103 rfl rfl ?_
                refine zz_putI M f_X8_32 tM_0 rfl dX8_law_104 ?_
                refine zz_sg (fun σ116 eσ116 => ?_)
                have h := h σ116 eσ116
                refine zz_goto M 130 dX8_law_107 (by decide) ?_
                refine zz_iload M 0 dX8_law_130 rfl ?_
                exact zz_iret M dX8_law_132 h
          · have h := zif (c := r103 = 0) h c
            refine zz_bipush (v := (-2)) M dX8_law_64 (by decide) ?_
            exact zz_iret M dX8_law_66 h
        · have h := zif (c := x1 = 0) h c
          refine zz_ldc2 (v := 4) M k_X8_117 dX8_law_49 ?_
          refine zz_goto M 58 dX8_law_52 (by decide) ?_
          refine zz_callSI (d' := 1) (As := [.long ((x3 : Int32).toInt64), .long 1, .long 4]) (rest := []) M l_X8_92 dX8_law_58 rfl rfl (by decide) (Nat.le_of_ble_eq_true rfl) (by have hI := M.2.2.2.2.2.2.2.2; exact kX8_in hI _ _ _  _ _ h) (fun r117 σ118 h => ?_)
          refine zz_if_ne (y0 := 0) M 67 dX8_law_61 (by decide) (fun c => ?_) (fun c => ?_)
          · have h := zifn (c := r117 = 0) h c
            refine zz_iload_n M 1 dX8_law_67 rfl rfl ?_
            refine zz_if_ne (y0 := 0) M 78 dX8_law_68 (by decide) (fun c => ?_) (fun c => ?_)
            · have h := zifn (c := x1 = 0) h c
              refine zz_iload_n M 1 dX8_law_78 rfl rfl ?_
              refine zz_iconst (v := 1) M dX8_law_79 (by decide) ?_
              refine zz_icmp_ne M 90 dX8_law_80 (by decide) (fun c => ?_) (fun c => ?_)
              · have h := zifn (c := x1 = 1) h c
                refine zz_aload_n M 0 dX8_law_90 rfl rfl ?_
                refine zz_getR M f_X8_41 tM_0 rfl dX8_law_91 ?_
                refine zz_iload_n M 2 dX8_law_94 rfl rfl ?_
                refine zz_iald M tM_8 h.1 dX8_law_95 ?_
                have h := h.2
                refine zz_topi (fun x119 ex119 => ?_)
                have h := h x119 ex119
                refine zz_istore M [(4, .int x119), (0, .ref (ad 0)), (1, .int x1), (2, .int x2), (3, .int x3)] dX8_law_96 (by decide) rfl ?_
                refine zz_iload_n M 2 dX8_law_98 rfl rfl ?_
                refine zz_if_ne (y0 := 0) M 110 dX8_law_99 (by decide) (fun c => ?_) (fun c => ?_)
                · have h := zifn (c := x1 = 0) h c
                  refine zz_iload_n M 2 dX8_law_110 rfl rfl ?_
                  refine zz_iconst (v := 1) M dX8_law_111 (by decide) ?_
                  refine zz_icmp_ne M 123 dX8_law_112 (by decide) (fun c => ?_) (fun c => ?_)
                  · have h := zifn (c := x1 = 1) h c
                    refine zz_aload_n M 1 dX8_law_123 rfl rfl ?_
                    refine zz_getR M f_X8_41 tM_0 rfl dX8_law_124 ?_
                    refine zz_iload_n M 3 dX8_law_127 rfl rfl ?_
                    refine zz_iload_n M 4 dX8_law_128 rfl rfl ?_
                    refine zz_iast M tM_8 h.1 dX8_law_129 ?_
                    have h := h.2
                    refine zz_sg (fun σ120 eσ120 => ?_)
                    have h := h σ120 eσ120
                    refine zz_iload M 0 dX8_law_130 rfl ?_
                    exact zz_iret M dX8_law_132 h
                  · have h := zif (c := x1 = 1) h c
                    refine zz_aload_n M 1 dX8_law_115 rfl rfl ?_
                    refine zz_iload_n M 4 dX8_law_116 rfl rfl ?_
                    refine zz_putI M f_X8_35 tM_0 rfl dX8_law_117 ?_
                    refine zz_sg (fun σ121 eσ121 => ?_)
                    have h := h σ121 eσ121
                    refine zz_goto M 130 dX8_law_120 (by decide) ?_
                    refine zz_iload M 0 dX8_law_130 rfl ?_
                    exact zz_iret M dX8_law_132 h
                · have h := zif (c := x1 = 0) h c
                  refine zz_aload_n M 1 dX8_law_102 rfl rfl ?_
                  refine zz_iload_n M 4 dX8_law_103 rfl rfl ?_
                  refine zz_putI M f_X8_32 tM_0 rfl dX8_law_104 ?_
                  refine zz_sg (fun σ122 eσ122 => ?_)
                  have h := h σ122 eσ122
                  refine zz_goto M 130 dX8_law_107 (by decide) ?_
                  refine zz_iload M 0 dX8_law_130 rfl ?_
                  exact zz_iret M dX8_law_132 h
              · have h := zif (c := x1 = 1) h c
                refine zz_aload_n M 0 dX8_law_83 rfl rfl ?_
                refine zz_getI M f_X8_35 tM_0 rfl dX8_law_84 ?_
                refine zz_goto M 96 dX8_law_87 (by decide) ?_
                refine zz_topi (fun x123 ex123 => ?_)
                have h := h x123 ex123
                refine zz_istore M [(4, .int x123), (0, .ref (ad 0)), (1, .int x1), (2, .int x2), (3, .int x3)] dX8_law_96 (by decide) rfl ?_
                refine zz_iload_n M 2 dX8_law_98 rfl rfl ?_
                refine zz_if_ne (y0 := 0) M 110 dX8_law_99 (by decide) (fun c => ?_) (fun c => ?_)
                · have h := zifn (c := x1 = 0) h c
                  refine zz_iload_n M 2 dX8_law_110 rfl rfl ?_
                  refine zz_iconst (v := 1) M dX8_law_111 (by decide) ?_
                  refine zz_icmp_ne M 123 dX8_law_112 (by decide) (fun c => ?_) (fun c => ?_)
                  · have h := zifn (c := x1 = 1) h c
                    refine zz_aload_n M 1 dX8_law_123 rfl rfl ?_
                    refine zz_getR M f_X8_41 tM_0 rfl dX8_law_124 ?_
                    refine zz_iload_n M 3 dX8_law_127 rfl rfl ?_
                    refine zz_iload_n M 4 dX8_law_128 rfl rfl ?_
                    refine zz_iast M tM_8 h.1 dX8_law_129 ?_
                    have h := h.2
                    refine zz_sg (fun σ124 eσ124 => ?_)
                    have h := h σ124 eσ124
                    refine zz_iload M 0 dX8_law_130 rfl ?_
                    exact zz_iret M dX8_law_132 h
                  · have h := zif (c := x1 = 1) h c
                    refine zz_aload_n M 1 dX8_law_115 rfl rfl ?_
                    refine zz_iload_n M 4 dX8_law_116 rfl rfl ?_
                    refine zz_putI M f_X8_35 tM_0 rfl dX8_law_117 ?_
                    refine zz_sg (fun σ125 eσ125 => ?_)
                    have h := h σ125 eσ125
                    refine zz_goto M 130 dX8_law_120 (by decide) ?_
                    refine zz_iload M 0 dX8_law_130 rfl ?_
                    exact zz_iret M dX8_law_132 h
                · have h := zif (c := x1 = 0) h c
                  refine zz_aload_n M 1 dX8_law_102 rfl rfl ?_
                  refine zz_iload_n M 4 dX8_law_103 rfl rfl ?_
                  refine zz_putI M f_X8_32 tM_0 rfl dX8_law_104 ?_
                  refine zz_sg (fun σ126 eσ126 => ?_)
                  have h := h σ126 eσ126
                  refine zz_goto M 130 dX8_law_107 (by decide) ?_
                  refine zz_iload M 0 dX8_law_130 rfl ?_
                  exact zz_iret M dX8_law_132 h
            · have h := zif (c := x1 = 0) h c
              refine zz_aload_n M 0 dX8_law_71 rfl rfl ?_
              refine zz_getI M f_X8_32 tM_0 rfl dX8_law_72 ?_
              refine zz_goto M 96 dX8_law_75 (by decide) ?_
              refine zz_topi (fun x127 ex127 => ?_)
              have h := h x127 ex127
              refine zz_istore M [(4, .int x127), (0, .ref (ad 0)), (1, .int x1), (2, .int x2), (3, .int x3)] dX8_law_96 (by decide) rfl ?_
              refine zz_iload_n M 2 dX8_law_98 rfl rfl ?_
              refine zz_if_ne (y0 := 0) M 110 dX8_law_99 (by decide) (fun c => ?_) (fun c => ?_)
              · have h := zifn (c := x1 = 0) h c
                refine zz_iload_n M 2 dX8_law_110 rfl rfl ?_
                refine zz_iconst (v := 1) M dX8_law_111 (by decide) ?_
                refine zz_icmp_ne M 123 dX8_law_112 (by decide) (fun c => ?_) (fun c => ?_)
                · have h := zifn (c := x1 = 1) h c
                  refine zz_aload_n M 1 dX8_law_123 rfl rfl ?_
                  refine zz_getR M f_X8_41 tM_0 rfl dX8_law_124 ?_
                  refine zz_iload_n M 3 dX8_law_127 rfl rfl ?_
                  refine zz_iload_n M 4 dX8_law_128 rfl rfl ?_
                  refine zz_iast M tM_8 h.1 dX8_law_129 ?_
                  have h := h.2
                  refine zz_sg (fun σ128 eσ128 => ?_)
                  have h := h σ128 eσ128
                  refine zz_iload M 0 dX8_law_130 rfl ?_
                  exact zz_iret M dX8_law_132 h
                · have h := zif (c := x1 = 1) h c
                  refine zz_aload_n M 1 dX8_law_115 rfl rfl ?_
                  refine zz_iload_n M 4 dX8_law_116 rfl rfl ?_
                  refine zz_putI M f_X8_35 tM_0 rfl dX8_law_117 ?_
                  refine zz_sg (fun σ129 eσ129 => ?_)
                  have h := h σ129 eσ129
                  refine zz_goto M 130 dX8_law_120 (by decide) ?_
                  refine zz_iload M 0 dX8_law_130 rfl ?_
                  exact zz_iret M dX8_law_132 h
              · have h := zif (c := x1 = 0) h c
                refine zz_aload_n M 1 dX8_law_102 rfl rfl ?_
                refine zz_iload_n M 4 dX8_law_103 rfl rfl ?_
                refine zz_putI M f_X8_32 tM_0 rfl dX8_law_104 ?_
                refine zz_sg (fun σ130 eσ130 => ?_)
                have h := h σ130 eσ130
                refine zz_goto M 130 dX8_law_107 (by decide) ?_
                refine zz_iload M 0 dX8_law_130 rfl ?_
                exact zz_iret M dX8_law_132 h
          · have h := zif (c := r117 = 0) h c
            refine zz_bipush (v := (-2)) M dX8_law_64 (by decide) ?_
            exact zz_iret M dX8_law_66 h
      · have h := zif (c := x1 = 2) h c
        refine zz_lconst (v := 0) M dX8_law_40 (by decide) ?_
        refine zz_goto M 45 dX8_law_41 (by decide) ?_
        refine zz_iload_n M 1 dX8_law_45 rfl rfl ?_
        refine zz_if_ne (y0 := 0) M 55 dX8_law_46 (by decide) (fun c => ?_) (fun c => ?_)
        · have h := zifn (c := x1 = 0) h c
          refine zz_ldc2 (v := 9) M k_X8_106 dX8_law_55 ?_
          refine zz_callSI (d' := 1) (As := [.long ((x3 : Int32).toInt64), .long 0, .long 9]) (rest := []) M l_X8_92 dX8_law_58 rfl rfl (by decide) (Nat.le_of_ble_eq_true rfl) (by have hI := M.2.2.2.2.2.2.2.2; exact kX8_in hI _ _ _  _ _ h) (fun r131 σ132 h => ?_)
          refine zz_if_ne (y0 := 0) M 67 dX8_law_61 (by decide) (fun c => ?_) (fun c => ?_)
          · have h := zifn (c := r131 = 0) h c
            refine zz_iload_n M 1 dX8_law_67 rfl rfl ?_
            refine zz_if_ne (y0 := 0) M 78 dX8_law_68 (by decide) (fun c => ?_) (fun c => ?_)
            · have h := zifn (c := x1 = 0) h c
              refine zz_iload_n M 1 dX8_law_78 rfl rfl ?_
              refine zz_iconst (v := 1) M dX8_law_79 (by decide) ?_
              refine zz_icmp_ne M 90 dX8_law_80 (by decide) (fun c => ?_) (fun c => ?_)
              · have h := zifn (c := x1 = 1) h c
                refine zz_aload_n M 0 dX8_law_90 rfl rfl ?_
                refine zz_getR M f_X8_41 tM_0 rfl dX8_law_91 ?_
                refine zz_iload_n M 2 dX8_law_94 rfl rfl ?_
                refine zz_iald M tM_8 h.1 dX8_law_95 ?_
                have h := h.2
                refine zz_topi (fun x133 ex133 => ?_)
                have h := h x133 ex133
                refine zz_istore M [(4, .int x133), (0, .ref (ad 0)), (1, .int x1), (2, .int x2), (3, .int x3)] dX8_law_96 (by decide) rfl ?_
                refine zz_iload_n M 2 dX8_law_98 rfl rfl ?_
                refine zz_if_ne (y0 := 0) M 110 dX8_law_99 (by decide) (fun c => ?_) (fun c => ?_)
                · have h := zifn (c := x1 = 0) h c
                  refine zz_iload_n M 2 dX8_law_110 rfl rfl ?_
                  refine zz_iconst (v := 1) M dX8_law_111 (by decide) ?_
                  refine zz_icmp_ne M 123 dX8_law_112 (by decide) (fun c => ?_) (fun c => ?_)
                  · have h := zifn (c := x1 = 1) h c
                    refine zz_aload_n M 1 dX8_law_123 rfl rfl ?_
                    refine zz_getR M f_X8_41 tM_0 rfl dX8_law_124 ?_
                    refine zz_iload_n M 3 dX8_law_127 rfl rfl ?_
                    refine zz_iload_n M 4 dX8_law_128 rfl rfl ?_
                    refine zz_iast M tM_8 h.1 dX8_law_129 ?_
                    have h := h.2
                    refine zz_sg (fun σ134 eσ134 => ?_)
                    have h := h σ134 eσ134
                    refine zz_iload M 0 dX8_law_130 rfl ?_
                    exact zz_iret M dX8_law_132 h
                  · have h := zif (c := x1 = 1) h c
                    refine zz_aload_n M 1 dX8_law_115 rfl rfl ?_
                    refine zz_iload_n M 4 dX8_law_116 rfl rfl ?_
                    refine zz_putI M f_X8_35 tM_0 rfl dX8_law_117 ?_
                    refine zz_sg (fun σ135 eσ135 => ?_)
                    have h := h σ135 eσ135
                    refine zz_goto M 130 dX8_law_120 (by decide) ?_
                    refine zz_iload M 0 dX8_law_130 rfl ?_
                    exact zz_iret M dX8_law_132 h
                · have h := zif (c := x1 = 0) h c
                  refine zz_aload_n M 1 dX8_law_102 rfl rfl ?_
                  refine zz_iload_n M 4 dX8_law_103 rfl rfl ?_
                  refine zz_putI M f_X8_32 tM_0 rfl dX8_law_104 ?_
                  refine zz_sg (fun σ136 eσ136 => ?_)
                  have h := h σ136 eσ136
                  refine zz_goto M 130 dX8_law_107 (by decide) ?_
                  refine zz_iload M 0 dX8_law_130 rfl ?_
                  exact zz_iret M dX8_law_132 h
              · have h := zif (c := x1 = 1) h c
                refine zz_aload_n M 0 dX8_law_83 rfl rfl ?_
                refine zz_getI M f_X8_35 tM_0 rfl dX8_law_84 ?_
                refine zz_goto M 96 dX8_law_87 (by decide) ?_
                refine zz_topi (fun x137 ex137 => ?_)
                have h := h x137 ex137
                refine zz_istore M [(4, .int x137), (0, .ref (ad 0)), (1, .int x1), (2, .int x2), (3, .int x3)] dX8_law_96 (by decide) rfl ?_
                refine zz_iload_n M 2 dX8_law_98 rfl rfl ?_
                refine zz_if_ne (y0 := 0) M 110 dX8_law_99 (by decide) (fun c => ?_) (fun c => ?_)
                · have h := zifn (c := x1 = 0) h c
                  refine zz_iload_n M 2 dX8_law_110 rfl rfl ?_
                  refine zz_iconst (v := 1) M dX8_law_111 (by decide) ?_
                  refine zz_icmp_ne M 123 dX8_law_112 (by decide) (fun c => ?_) (fun c => ?_)
                  · have h := zifn (c := x1 = 1) h c
                    refine zz_aload_n M 1 dX8_law_123 rfl rfl ?_
                    refine zz_getR M f_X8_41 tM_0 rfl dX8_law_124 ?_
                    refine zz_iload_n M 3 dX8_law_127 rfl rfl ?_
                    refine zz_iload_n M 4 dX8_law_128 rfl rfl ?_
                    refine zz_iast M tM_8 h.1 dX8_law_129 ?_
                    have h := h.2
                    refine zz_sg (fun σ138 eσ138 => ?_)
                    have h := h σ138 eσ138
                    refine zz_iload M 0 dX8_law_130 rfl ?_
                    exact zz_iret M dX8_law_132 h
                  · have h := zif (c := x1 = 1) h c
                    refine zz_aload_n M 1 dX8_law_115 rfl rfl ?_
                    refine zz_iload_n M 4 dX8_law_116 rfl rfl ?_
                    refine zz_putI M f_X8_35 tM_0 rfl dX8_law_117 ?_
                    refine zz_sg (fun σ139 eσ139 => ?_)
                    have h := h σ139 eσ139
                    refine zz_goto M 130 dX8_law_120 (by decide) ?_
                    refine zz_iload M 0 dX8_law_130 rfl ?_
                    exact zz_iret M dX8_law_132 h
                · have h := zif (c := x1 = 0) h c
                  refine zz_aload_n M 1 dX8_law_102 rfl rfl ?_
                  refine zz_iload_n M 4 dX8_law_103 rfl rfl ?_
                  refine zz_putI M f_X8_32 tM_0 rfl dX8_law_104 ?_
                  refine zz_sg (fun σ140 eσ140 => ?_)
                  have h := h σ140 eσ140
                  refine zz_goto M 130 dX8_law_107 (by decide) ?_
                  refine zz_iload M 0 dX8_law_130 rfl ?_
                  exact zz_iret M dX8_law_132 h
            · have h := zif (c := x1 = 0) h c
              refine zz_aload_n M 0 dX8_law_71 rfl rfl ?_
              refine zz_getI M f_X8_32 tM_0 rfl dX8_law_72 ?_
              refine zz_goto M 96 dX8_law_75 (by decide) ?_
              refine zz_topi (fun x141 ex141 => ?_)
              have h := h x141 ex141
              refine zz_istore M [(4, .int x141), (0, .ref (ad 0)), (1, .int x1), (2, .int x2), (3, .int x3)] dX8_law_96 (by decide) rfl ?_
              refine zz_iload_n M 2 dX8_law_98 rfl rfl ?_
              refine zz_if_ne (y0 := 0) M 110 dX8_law_99 (by decide) (fun c => ?_) (fun c => ?_)
              · have h := zifn (c := x1 = 0) h c
                refine zz_iload_n M 2 dX8_law_110 rfl rfl ?_
                refine zz_iconst (v := 1) M dX8_law_111 (by decide) ?_
                refine zz_icmp_ne M 123 dX8_law_112 (by decide) (fun c => ?_) (fun c => ?_)
                · have h := zifn (c := x1 = 1) h c
                  refine zz_aload_n M 1 dX8_law_123 rfl rfl ?_
                  refine zz_getR M f_X8_41 tM_0 rfl dX8_law_124 ?_
                  refine zz_iload_n M 3 dX8_law_127 rfl rfl ?_
                  refine zz_iload_n M 4 dX8_law_128 rfl rfl ?_
                  refine zz_iast M tM_8 h.1 dX8_law_129 ?_
                  have h := h.2
                  refine zz_sg (fun σ142 eσ142 => ?_)
                  have h := h σ142 eσ142
                  refine zz_iload M 0 dX8_law_130 rfl ?_
                  exact zz_iret M dX8_law_132 h
                · have h := zif (c := x1 = 1) h c
                  refine zz_aload_n M 1 dX8_law_115 rfl rfl ?_
                  refine zz_iload_n M 4 dX8_law_116 rfl rfl ?_
                  refine zz_putI M f_X8_35 tM_0 rfl dX8_law_117 ?_
                  refine zz_sg (fun σ143 eσ143 => ?_)
                  have h := h σ143 eσ143
                  refine zz_goto M 130 dX8_law_120 (by decide) ?_
                  refine zz_iload M 0 dX8_law_130 rfl ?_
                  exact zz_iret M dX8_law_132 h
              · have h := zif (c := x1 = 0) h c
                refine zz_aload_n M 1 dX8_law_102 rfl rfl ?_
                refine zz_iload_n M 4 dX8_law_103 rfl rfl ?_
                refine zz_putI M f_X8_32 tM_0 rfl dX8_law_104 ?_
                refine zz_sg (fun σ144 eσ144 => ?_)
                have h := h σ144 eσ144
                refine zz_goto M 130 dX8_law_107 (by decide) ?_
                refine zz_iload M 0 dX8_law_130 rfl ?_
                exact zz_iret M dX8_law_132 h
          · have h := zif (c := r131 = 0) h c
            refine zz_bipush (v := (-2)) M dX8_law_64 (by decide) ?_
            exact zz_iret M dX8_law_66 h
        · have h := zif (c := x1 = 0) h c
          refine zz_ldc2 (v := 4) M k_X8_117 dX8_law_49 ?_
          refine zz_goto M 58 dX8_law_52 (by decide) ?_
          refine zz_callSI (d' := 1) (As := [.long ((x3 : Int32).toInt64), .long 0, .long 4]) (rest := []) M l_X8_92 dX8_law_58 rfl rfl (by decide) (Nat.le_of_ble_eq_true rfl) (by have hI := M.2.2.2.2.2.2.2.2; exact kX8_in hI _ _ _  _ _ h) (fun r145 σ146 h => ?_)
          refine zz_if_ne (y0 := 0) M 67 dX8_law_61 (by decide) (fun c => ?_) (fun c => ?_)
          · have h := zifn (c := r145 = 0) h c
            refine zz_iload_n M 1 dX8_law_67 rfl rfl ?_
            refine zz_if_ne (y0 := 0) M 78 dX8_law_68 (by decide) (fun c => ?_) (fun c => ?_)
            · have h := zifn (c := x1 = 0) h c
              refine zz_iload_n M 1 dX8_law_78 rfl rfl ?_
              refine zz_iconst (v := 1) M dX8_law_79 (by decide) ?_
              refine zz_icmp_ne M 90 dX8_law_80 (by decide) (fun c => ?_) (fun c => ?_)
              · have h := zifn (c := x1 = 1) h c
                refine zz_aload_n M 0 dX8_law_90 rfl rfl ?_
                refine zz_getR M f_X8_41 tM_0 rfl dX8_law_91 ?_
                refine zz_iload_n M 2 dX8_law_94 rfl rfl ?_
                refine zz_iald M tM_8 h.1 dX8_law_95 ?_
                have h := h.2
                refine zz_topi (fun x147 ex147 => ?_)
                have h := h x147 ex147
                refine zz_istore M [(4, .int x147), (0, .ref (ad 0)), (1, .int x1), (2, .int x2), (3, .int x3)] dX8_law_96 (by decide) rfl ?_
                refine zz_iload_n M 2 dX8_law_98 rfl rfl ?_
                refine zz_if_ne (y0 := 0) M 110 dX8_law_99 (by decide) (fun c => ?_) (fun c => ?_)
                · have h := zifn (c := x1 = 0) h c
                  refine zz_iload_n M 2 dX8_law_110 rfl rfl ?_
                  refine zz_iconst (v := 1) M dX8_law_111 (by decide) ?_
                  refine zz_icmp_ne M 123 dX8_law_112 (by decide) (fun c => ?_) (fun c => ?_)
                  · have h := zifn (c := x1 = 1) h c
                    refine zz_aload_n M 1 dX8_law_123 rfl rfl ?_
                    refine zz_getR M f_X8_41 tM_0 rfl dX8_law_124 ?_
                    refine zz_iload_n M 3 dX8_law_127 rfl rfl ?_
                    refine zz_iload_n M 4 dX8_law_128 rfl rfl ?_
                    refine zz_iast M tM_8 h.1 dX8_law_129 ?_
                    have h := h.2
                    refine zz_sg (fun σ148 eσ148 => ?_)
                    have h := h σ148 eσ148
                    refine zz_iload M 0 dX8_law_130 rfl ?_
                    exact zz_iret M dX8_law_132 h
                  · have h := zif (c := x1 = 1) h c
                    refine zz_aload_n M 1 dX8_law_115 rfl rfl ?_
                    refine zz_iload_n M 4 dX8_law_116 rfl rfl ?_
                    refine zz_putI M f_X8_35 tM_0 rfl dX8_law_117 ?_
                    refine zz_sg (fun σ149 eσ149 => ?_)
                    have h := h σ149 eσ149
                    refine zz_goto M 130 dX8_law_120 (by decide) ?_
                    refine zz_iload M 0 dX8_law_130 rfl ?_
                    exact zz_iret M dX8_law_132 h
                · have h := zif (c := x1 = 0) h c
                  refine zz_aload_n M 1 dX8_law_102 rfl rfl ?_
                  refine zz_iload_n M 4 dX8_law_103 rfl rfl ?_
                  refine zz_putI M f_X8_32 tM_0 rfl dX8_law_104 ?_
                  refine zz_sg (fun σ150 eσ150 => ?_)
                  have h := h σ150 eσ150
                  refine zz_goto M 130 dX8_law_107 (by decide) ?_
                  refine zz_iload M 0 dX8_law_130 rfl ?_
                  exact zz_iret M dX8_law_132 h
              · have h := zif (c := x1 = 1) h c
                refine zz_aload_n M 0 dX8_law_83 rfl rfl ?_
                refine zz_getI M f_X8_35 tM_0 rfl dX8_law_84 ?_
                refine zz_goto M 96 dX8_law_87 (by decide) ?_
                refine zz_topi (fun x151 ex151 => ?_)
                have h := h x151 ex151
                refine zz_istore M [(4, .int x151), (0, .ref (ad 0)), (1, .int x1), (2, .int x2), (3, .int x3)] dX8_law_96 (by decide) rfl ?_
                refine zz_iload_n M 2 dX8_law_98 rfl rfl ?_
                refine zz_if_ne (y0 := 0) M 110 dX8_law_99 (by decide) (fun c => ?_) (fun c => ?_)
                · have h := zifn (c := x1 = 0) h c
                  refine zz_iload_n M 2 dX8_law_110 rfl rfl ?_
                  refine zz_iconst (v := 1) M dX8_law_111 (by decide) ?_
                  refine zz_icmp_ne M 123 dX8_law_112 (by decide) (fun c => ?_) (fun c => ?_)
                  · have h := zifn (c := x1 = 1) h c
                    refine zz_aload_n M 1 dX8_law_123 rfl rfl ?_
                    refine zz_getR M f_X8_41 tM_0 rfl dX8_law_124 ?_
                    refine zz_iload_n M 3 dX8_law_127 rfl rfl ?_
                    refine zz_iload_n M 4 dX8_law_128 rfl rfl ?_
                    refine zz_iast M tM_8 h.1 dX8_law_129 ?_
                    have h := h.2
                    refine zz_sg (fun σ152 eσ152 => ?_)
                    have h := h σ152 eσ152
                    refine zz_iload M 0 dX8_law_130 rfl ?_
                    exact zz_iret M dX8_law_132 h
                  · have h := zif (c := x1 = 1) h c
                    refine zz_aload_n M 1 dX8_law_115 rfl rfl ?_
                    refine zz_iload_n M 4 dX8_law_116 rfl rfl ?_
                    refine zz_putI M f_X8_35 tM_0 rfl dX8_law_117 ?_
                    refine zz_sg (fun σ153 eσ153 => ?_)
                    have h := h σ153 eσ153
                    refine zz_goto M 130 dX8_law_120 (by decide) ?_
                    refine zz_iload M 0 dX8_law_130 rfl ?_
                    exact zz_iret M dX8_law_132 h
                · have h := zif (c := x1 = 0) h c
                  refine zz_aload_n M 1 dX8_law_102 rfl rfl ?_
                  refine zz_iload_n M 4 dX8_law_103 rfl rfl ?_
                  refine zz_putI M f_X8_32 tM_0 rfl dX8_law_104 ?_
                  refine zz_sg (fun σ154 eσ154 => ?_)
                  have h := h σ154 eσ154
                  refine zz_goto M 130 dX8_law_107 (by decide) ?_
                  refine zz_iload M 0 dX8_law_130 rfl ?_
                  exact zz_iret M dX8_law_132 h
            · have h := zif (c := x1 = 0) h c
              refine zz_aload_n M 0 dX8_law_71 rfl rfl ?_
              refine zz_getI M f_X8_32 tM_0 rfl dX8_law_72 ?_
              refine zz_goto M 96 dX8_law_75 (by decide) ?_
              refine zz_topi (fun x155 ex155 => ?_)
              have h := h x155 ex155
              refine zz_istore M [(4, .int x155), (0, .ref (ad 0)), (1, .int x1), (2, .int x2), (3, .int x3)] dX8_law_96 (by decide) rfl ?_
              refine zz_iload_n M 2 dX8_law_98 rfl rfl ?_
              refine zz_if_ne (y0 := 0) M 110 dX8_law_99 (by decide) (fun c => ?_) (fun c => ?_)
              · have h := zifn (c := x1 = 0) h c
                refine zz_iload_n M 2 dX8_law_110 rfl rfl ?_
                refine zz_iconst (v := 1) M dX8_law_111 (by decide) ?_
                refine zz_icmp_ne M 123 dX8_law_112 (by decide) (fun c => ?_) (fun c => ?_)
                · have h := zifn (c := x1 = 1) h c
                  refine zz_aload_n M 1 dX8_law_123 rfl rfl ?_
                  refine zz_getR M f_X8_41 tM_0 rfl dX8_law_124 ?_
                  refine zz_iload_n M 3 dX8_law_127 rfl rfl ?_
                  refine zz_iload_n M 4 dX8_law_128 rfl rfl ?_
                  refine zz_iast M tM_8 h.1 dX8_law_129 ?_
                  have h := h.2
                  refine zz_sg (fun σ156 eσ156 => ?_)
                  have h := h σ156 eσ156
                  refine zz_iload M 0 dX8_law_130 rfl ?_
                  exact zz_iret M dX8_law_132 h
                · have h := zif (c := x1 = 1) h c
                  refine zz_aload_n M 1 dX8_law_115 rfl rfl ?_
                  refine zz_iload_n M 4 dX8_law_116 rfl rfl ?_
                  refine zz_putI M f_X8_35 tM_0 rfl dX8_law_117 ?_
                  refine zz_sg (fun σ157 eσ157 => ?_)
                  have h := h σ157 eσ157
                  refine zz_goto M 130 dX8_law_120 (by decide) ?_
                  refine zz_iload M 0 dX8_law_130 rfl ?_
                  exact zz_iret M dX8_law_132 h
              · have h := zif (c := x1 = 0) h c
                refine zz_aload_n M 1 dX8_law_102 rfl rfl ?_
                refine zz_iload_n M 4 dX8_law_103 rfl rfl ?_
                refine zz_putI M f_X8_32 tM_0 rfl dX8_law_104 ?_
                refine zz_sg (fun σ158 eσ158 => ?_)
                have h := h σ158 eσ158
                refine zz_goto M 130 dX8_law_107 (by decide) ?_
                refine zz_iload M 0 dX8_law_130 rfl ?_
                exact zz_iret M dX8_law_132 h
          · have h := zif (c := r145 = 0) h c
            refine zz_bipush (v := (-2)) M dX8_law_64 (by decide) ?_
            exact zz_iret M dX8_law_66 h
    · have h := zif (c := x1 = 2) h c
      refine zz_iload_n M 2 dX8_law_17 rfl rfl ?_
      refine zz_i2l M dX8_law_18 ?_
      refine zz_lconst (v := 0) M dX8_law_19 (by decide) ?_
      refine zz_aload_n M 0 dX8_law_20 rfl rfl ?_
      refine zz_getI M f_X8_114 tM_0 rfl dX8_law_21 ?_
      refine zz_iconst (v := 1) M dX8_law_24 (by decide) ?_
      refine zz_isub M dX8_law_25 ?_
      refine zz_i2l M dX8_law_26 ?_
      refine zz_callSI (d' := 1) (As := [.long ((x2 : Int32).toInt64), .long 0, .long (((σ102.1 0 16) - 1 : Int32).toInt64)]) (rest := []) M l_X8_92 dX8_law_27 rfl rfl (by decide) (Nat.le_of_ble_eq_true rfl) (by have hI := M.2.2.2.2.2.2.2.2; exact kX8_in hI _ _ _  _ _ h) (fun r159 σ160 h => ?_)
      refine zz_if_eq (y0 := 0) M 64 dX8_law_30 (by decide) (fun c => ?_) (fun c => ?_)
      · have h := zif (c := r159 = 0) h c
        refine zz_bipush (v := (-2)) M dX8_law_64 (by decide) ?_
        exact zz_iret M dX8_law_66 h
      · have h := zifn (c := r159 = 0) h c
        refine zz_iload_n M 3 dX8_law_33 rfl rfl ?_
        refine zz_i2l M dX8_law_34 ?_
        refine zz_iload_n M 1 dX8_law_35 rfl rfl ?_
        refine zz_iconst (v := 2) M dX8_law_36 (by decide) ?_
        refine zz_icmp_ne M 44 dX8_law_37 (by decide) (fun c => ?_) (fun c => ?_)
        · have h := zifn (c := x1 = 2) h c
          refine zz_lconst (v := 1) M dX8_law_44 (by decide) ?_
          refine zz_iload_n M 1 dX8_law_45 rfl rfl ?_
          refine zz_if_ne (y0 := 0) M 55 dX8_law_46 (by decide) (fun c => ?_) (fun c => ?_)
          · have h := zifn (c := x1 = 0) h c
            refine zz_ldc2 (v := 9) M k_X8_106 dX8_law_55 ?_
            refine zz_callSI (d' := 1) (As := [.long ((x3 : Int32).toInt64), .long 1, .long 9]) (rest := []) M l_X8_92 dX8_law_58 rfl rfl (by decide) (Nat.le_of_ble_eq_true rfl) (by have hI := M.2.2.2.2.2.2.2.2; exact kX8_in hI _ _ _  _ _ h) (fun r161 σ162 h => ?_)
            refine zz_if_ne (y0 := 0) M 67 dX8_law_61 (by decide) (fun c => ?_) (fun c => ?_)
            · have h := zifn (c := r161 = 0) h c
              refine zz_iload_n M 1 dX8_law_67 rfl rfl ?_
              refine zz_if_ne (y0 := 0) M 78 dX8_law_68 (by decide) (fun c => ?_) (fun c => ?_)
              · have h := zifn (c := x1 = 0) h c
                refine zz_iload_n M 1 dX8_law_78 rfl rfl ?_
                refine zz_iconst (v := 1) M dX8_law_79 (by decide) ?_
                refine zz_icmp_ne M 90 dX8_law_80 (by decide) (fun c => ?_) (fun c => ?_)
                · have h := zifn (c := x1 = 1) h c
                  refine zz_aload_n M 0 dX8_law_90 rfl rfl ?_
                  refine zz_getR M f_X8_41 tM_0 rfl dX8_law_91 ?_
                  refine zz_iload_n M 2 dX8_law_94 rfl rfl ?_
                  refine zz_iald M tM_8 h.1 dX8_law_95 ?_
                  have h := h.2
                  refine zz_topi (fun x163 ex163 => ?_)
                  have h := h x163 ex163
                  refine zz_istore M [(4, .int x163), (0, .ref (ad 0)), (1, .int x1), (2, .int x2), (3, .int x3)] dX8_law_96 (by decide) rfl ?_
                  refine zz_iload_n M 2 dX8_law_98 rfl rfl ?_
                  refine zz_if_ne (y0 := 0) M 110 dX8_law_99 (by decide) (fun c => ?_) (fun c => ?_)
                  · have h := zifn (c := x1 = 0) h c
                    refine zz_iload_n M 2 dX8_law_110 rfl rfl ?_
                    refine zz_iconst (v := 1) M dX8_law_111 (by decide) ?_
                    refine zz_icmp_ne M 123 dX8_law_112 (by decide) (fun c => ?_) (fun c => ?_)
                    · have h := zifn (c := x1 = 1) h c
                      refine zz_aload_n M 1 dX8_law_123 rfl rfl ?_
                      refine zz_getR M f_X8_41 tM_0 rfl dX8_law_124 ?_
                      refine zz_iload_n M 3 dX8_law_127 rfl rfl ?_
                      refine zz_iload_n M 4 dX8_law_128 rfl rfl ?_
                      refine zz_iast M tM_8 h.1 dX8_law_129 ?_
                      have h := h.2
                      refine zz_sg (fun σ164 eσ164 => ?_)
                      have h := h σ164 eσ164
                      refine zz_iload M 0 dX8_law_130 rfl ?_
                      exact zz_iret M dX8_law_132 h
                    · have h := zif (c := x1 = 1) h c
                      refine zz_aload_n M 1 dX8_law_115 rfl rfl ?_
                      refine zz_iload_n M 4 dX8_law_116 rfl rfl ?_
                      refine zz_putI M f_X8_35 tM_0 rfl dX8_law_117 ?_
                      refine zz_sg (fun σ165 eσ165 => ?_)
                      have h := h σ165 eσ165
                      refine zz_goto M 130 dX8_law_120 (by decide) ?_
                      refine zz_iload M 0 dX8_law_130 rfl ?_
                      exact zz_iret M dX8_law_132 h
                  · have h := zif (c := x1 = 0) h c
                    refine zz_aload_n M 1 dX8_law_102 rfl rfl ?_
                    refine zz_iload_n M 4 dX8_law_103 rfl rfl ?_
                    refine zz_putI M f_X8_32 tM_0 rfl dX8_law_104 ?_
                    refine zz_sg (fun σ166 eσ166 => ?_)
                    have h := h σ166 eσ166
                    refine zz_goto M 130 dX8_law_107 (by decide) ?_
                    refine zz_iload M 0 dX8_law_130 rfl ?_
                    exact zz_iret M dX8_law_132 h
                · have h := zif (c := x1 = 1) h c
                  refine zz_aload_n M 0 dX8_law_83 rfl rfl ?_
                  refine zz_getI M f_X8_35 tM_0 rfl dX8_law_84 ?_
                  refine zz_goto M 96 dX8_law_87 (by decide) ?_
                  refine zz_topi (fun x167 ex167 => ?_)
                  have h := h x167 ex167
                  refine zz_istore M [(4, .int x167), (0, .ref (ad 0)), (1, .int x1), (2, .int x2), (3, .int x3)] dX8_law_96 (by decide) rfl ?_
                  refine zz_iload_n M 2 dX8_law_98 rfl rfl ?_
                  refine zz_if_ne (y0 := 0) M 110 dX8_law_99 (by decide) (fun c => ?_) (fun c => ?_)
                  · have h := zifn (c := x1 = 0) h c
                    refine zz_iload_n M 2 dX8_law_110 rfl rfl ?_
                    refine zz_iconst (v := 1) M dX8_law_111 (by decide) ?_
                    refine zz_icmp_ne M 123 dX8_law_112 (by decide) (fun c => ?_) (fun c => ?_)
                    · have h := zifn (c := x1 = 1) h c
                      refine zz_aload_n M 1 dX8_law_123 rfl rfl ?_
                      refine zz_getR M f_X8_41 tM_0 rfl dX8_law_124 ?_
                      refine zz_iload_n M 3 dX8_law_127 rfl rfl ?_
                      refine zz_iload_n M 4 dX8_law_128 rfl rfl ?_
                      refine zz_iast M tM_8 h.1 dX8_law_129 ?_
                      have h := h.2
                      refine zz_sg (fun σ168 eσ168 => ?_)
                      have h := h σ168 eσ168
                      refine zz_iload M 0 dX8_law_130 rfl ?_
                      exact zz_iret M dX8_law_132 h
                    · have h := zif (c := x1 = 1) h c
                      refine zz_aload_n M 1 dX8_law_115 rfl rfl ?_
                      refine zz_iload_n M 4 dX8_law_116 rfl rfl ?_
                      refine zz_putI M f_X8_35 tM_0 rfl dX8_law_117 ?_
                      refine zz_sg (fun σ169 eσ169 => ?_)
                      have h := h σ169 eσ169
                      refine zz_goto M 130 dX8_law_120 (by decide) ?_
                      refine zz_iload M 0 dX8_law_130 rfl ?_
                      exact zz_iret M dX8_law_132 h
                  · have h := zif (c := x1 = 0) h c
                    refine zz_aload_n M 1 dX8_law_102 rfl rfl ?_
                    refine zz_iload_n M 4 dX8_law_103 rfl rfl ?_
                    refine zz_putI M f_X8_32 tM_0 rfl dX8_law_104 ?_
                    refine zz_sg (fun σ170 eσ170 => ?_)
                    have h := h σ170 eσ170
                    refine zz_goto M 130 dX8_law_107 (by decide) ?_
                    refine zz_iload M 0 dX8_law_130 rfl ?_
                    exact zz_iret M dX8_law_132 h
              · have h := zif (c := x1 = 0) h c
                refine zz_aload_n M 0 dX8_law_71 rfl rfl ?_
                refine zz_getI M f_X8_32 tM_0 rfl dX8_law_72 ?_
                refine zz_goto M 96 dX8_law_75 (by decide) ?_
                refine zz_topi (fun x171 ex171 => ?_)
                have h := h x171 ex171
                refine zz_istore M [(4, .int x171), (0, .ref (ad 0)), (1, .int x1), (2, .int x2), (3, .int x3)] dX8_law_96 (by decide) rfl ?_
                refine zz_iload_n M 2 dX8_law_98 rfl rfl ?_
                refine zz_if_ne (y0 := 0) M 110 dX8_law_99 (by decide) (fun c => ?_) (fun c => ?_)
                · have h := zifn (c := x1 = 0) h c
                  refine zz_iload_n M 2 dX8_law_110 rfl rfl ?_
                  refine zz_iconst (v := 1) M dX8_law_111 (by decide) ?_
                  refine zz_icmp_ne M 123 dX8_law_112 (by decide) (fun c => ?_) (fun c => ?_)
                  · have h := zifn (c := x1 = 1) h c
                    refine zz_aload_n M 1 dX8_law_123 rfl rfl ?_
                    refine zz_getR M f_X8_41 tM_0 rfl dX8_law_124 ?_
                    refine zz_iload_n M 3 dX8_law_127 rfl rfl ?_
                    refine zz_iload_n M 4 dX8_law_128 rfl rfl ?_
                    refine zz_iast M tM_8 h.1 dX8_law_129 ?_
                    have h := h.2
                    refine zz_sg (fun σ172 eσ172 => ?_)
                    have h := h σ172 eσ172
                    refine zz_iload M 0 dX8_law_130 rfl ?_
                    exact zz_iret M dX8_law_132 h
                  · have h := zif (c := x1 = 1) h c
                    refine zz_aload_n M 1 dX8_law_115 rfl rfl ?_
                    refine zz_iload_n M 4 dX8_law_116 rfl rfl ?_
                    refine zz_putI M f_X8_35 tM_0 rfl dX8_law_117 ?_
                    refine zz_sg (fun σ173 eσ173 => ?_)
                    have h := h σ173 eσ173
                    refine zz_goto M 130 dX8_law_120 (by decide) ?_
                    refine zz_iload M 0 dX8_law_130 rfl ?_
                    exact zz_iret M dX8_law_132 h
                · have h := zif (c := x1 = 0) h c
                  refine zz_aload_n M 1 dX8_law_102 rfl rfl ?_
                  refine zz_iload_n M 4 dX8_law_103 rfl rfl ?_
                  refine zz_putI M f_X8_32 tM_0 rfl dX8_law_104 ?_
                  refine zz_sg (fun σ174 eσ174 => ?_)
                  have h := h σ174 eσ174
                  refine zz_goto M 130 dX8_law_107 (by decide) ?_
                  refine zz_iload M 0 dX8_law_130 rfl ?_
                  exact zz_iret M dX8_law_132 h
            · have h := zif (c := r161 = 0) h c
              refine zz_bipush (v := (-2)) M dX8_law_64 (by decide) ?_
              exact zz_iret M dX8_law_66 h
          · have h := zif (c := x1 = 0) h c
            refine zz_ldc2 (v := 4) M k_X8_117 dX8_law_49 ?_
            refine zz_goto M 58 dX8_law_52 (by decide) ?_
            refine zz_callSI (d' := 1) (As := [.long ((x3 : Int32).toInt64), .long 1, .long 4]) (rest := []) M l_X8_92 dX8_law_58 rfl rfl (by decide) (Nat.le_of_ble_eq_true rfl) (by have hI := M.2.2.2.2.2.2.2.2; exact kX8_in hI _ _ _  _ _ h) (fun r175 σ176 h => ?_)
            refine zz_if_ne (y0 := 0) M 67 dX8_law_61 (by decide) (fun c => ?_) (fun c => ?_)
            · have h := zifn (c := r175 = 0) h c
              refine zz_iload_n M 1 dX8_law_67 rfl rfl ?_
              refine zz_if_ne (y0 := 0) M 78 dX8_law_68 (by decide) (fun c => ?_) (fun c => ?_)
              · have h := zifn (c := x1 = 0) h c
                refine zz_iload_n M 1 dX8_law_78 rfl rfl ?_
                refine zz_iconst (v := 1) M dX8_law_79 (by decide) ?_
                refine zz_icmp_ne M 90 dX8_law_80 (by decide) (fun c => ?_) (fun c => ?_)
                · have h := zifn (c := x1 = 1) h c
                  refine zz_aload_n M 0 dX8_law_90 rfl rfl ?_
                  refine zz_getR M f_X8_41 tM_0 rfl dX8_law_91 ?_
                  refine zz_iload_n M 2 dX8_law_94 rfl rfl ?_
                  refine zz_iald M tM_8 h.1 dX8_law_95 ?_
                  have h := h.2
                  refine zz_topi (fun x177 ex177 => ?_)
                  have h := h x177 ex177
                  refine zz_istore M [(4, .int x177), (0, .ref (ad 0)), (1, .int x1), (2, .int x2), (3, .int x3)] dX8_law_96 (by decide) rfl ?_
                  refine zz_iload_n M 2 dX8_law_98 rfl rfl ?_
                  refine zz_if_ne (y0 := 0) M 110 dX8_law_99 (by decide) (fun c => ?_) (fun c => ?_)
                  · have h := zifn (c := x1 = 0) h c
                    refine zz_iload_n M 2 dX8_law_110 rfl rfl ?_
                    refine zz_iconst (v := 1) M dX8_law_111 (by decide) ?_
                    refine zz_icmp_ne M 123 dX8_law_112 (by decide) (fun c => ?_) (fun c => ?_)
                    · have h := zifn (c := x1 = 1) h c
                      refine zz_aload_n M 1 dX8_law_123 rfl rfl ?_
                      refine zz_getR M f_X8_41 tM_0 rfl dX8_law_124 ?_
                      refine zz_iload_n M 3 dX8_law_127 rfl rfl ?_
                      refine zz_iload_n M 4 dX8_law_128 rfl rfl ?_
                      refine zz_iast M tM_8 h.1 dX8_law_129 ?_
                      have h := h.2
                      refine zz_sg (fun σ178 eσ178 => ?_)
                      have h := h σ178 eσ178
                      refine zz_iload M 0 dX8_law_130 rfl ?_
                      exact zz_iret M dX8_law_132 h
                    · have h := zif (c := x1 = 1) h c
                      refine zz_aload_n M 1 dX8_law_115 rfl rfl ?_
                      refine zz_iload_n M 4 dX8_law_116 rfl rfl ?_
                      refine zz_putI M f_X8_35 tM_0 rfl dX8_law_117 ?_
                      refine zz_sg (fun σ179 eσ179 => ?_)
                      have h := h σ179 eσ179
                      refine zz_goto M 130 dX8_law_120 (by decide) ?_
                      refine zz_iload M 0 dX8_law_130 rfl ?_
                      exact zz_iret M dX8_law_132 h
                  · have h := zif (c := x1 = 0) h c
                    refine zz_aload_n M 1 dX8_law_102 rfl rfl ?_
                    refine zz_iload_n M 4 dX8_law_103 rfl rfl ?_
                    refine zz_putI M f_X8_32 tM_0 rfl dX8_law_104 ?_
                    refine zz_sg (fun σ180 eσ180 => ?_)
                    have h := h σ180 eσ180
                    refine zz_goto M 130 dX8_law_107 (by decide) ?_
                    refine zz_iload M 0 dX8_law_130 rfl ?_
                    exact zz_iret M dX8_law_132 h
                · have h := zif (c := x1 = 1) h c
                  refine zz_aload_n M 0 dX8_law_83 rfl rfl ?_
                  refine zz_getI M f_X8_35 tM_0 rfl dX8_law_84 ?_
                  refine zz_goto M 96 dX8_law_87 (by decide) ?_
                  refine zz_topi (fun x181 ex181 => ?_)
                  have h := h x181 ex181
                  refine zz_istore M [(4, .int x181), (0, .ref (ad 0)), (1, .int x1), (2, .int x2), (3, .int x3)] dX8_law_96 (by decide) rfl ?_
                  refine zz_iload_n M 2 dX8_law_98 rfl rfl ?_
                  refine zz_if_ne (y0 := 0) M 110 dX8_law_99 (by decide) (fun c => ?_) (fun c => ?_)
                  · have h := zifn (c := x1 = 0) h c
                    refine zz_iload_n M 2 dX8_law_110 rfl rfl ?_
                    refine zz_iconst (v := 1) M dX8_law_111 (by decide) ?_
                    refine zz_icmp_ne M 123 dX8_law_112 (by decide) (fun c => ?_) (fun c => ?_)
                    · have h := zifn (c := x1 = 1) h c
                      refine zz_aload_n M 1 dX8_law_123 rfl rfl ?_
                      refine zz_getR M f_X8_41 tM_0 rfl dX8_law_124 ?_
                      refine zz_iload_n M 3 dX8_law_127 rfl rfl ?_
                      refine zz_iload_n M 4 dX8_law_128 rfl rfl ?_
                      refine zz_iast M tM_8 h.1 dX8_law_129 ?_
                      have h := h.2
                      refine zz_sg (fun σ182 eσ182 => ?_)
                      have h := h σ182 eσ182
                      refine zz_iload M 0 dX8_law_130 rfl ?_
                      exact zz_iret M dX8_law_132 h
                    · have h := zif (c := x1 = 1) h c
                      refine zz_aload_n M 1 dX8_law_115 rfl rfl ?_
                      refine zz_iload_n M 4 dX8_law_116 rfl rfl ?_
                      refine zz_putI M f_X8_35 tM_0 rfl dX8_law_117 ?_
                      refine zz_sg (fun σ183 eσ183 => ?_)
                      have h := h σ183 eσ183
                      refine zz_goto M 130 dX8_law_120 (by decide) ?_
                      refine zz_iload M 0 dX8_law_130 rfl ?_
                      exact zz_iret M dX8_law_132 h
                  · have h := zif (c := x1 = 0) h c
                    refine zz_aload_n M 1 dX8_law_102 rfl rfl ?_
                    refine zz_iload_n M 4 dX8_law_103 rfl rfl ?_
                    refine zz_putI M f_X8_32 tM_0 rfl dX8_law_104 ?_
                    refine zz_sg (fun σ184 eσ184 => ?_)
                    have h := h σ184 eσ184
                    refine zz_goto M 130 dX8_law_107 (by decide) ?_
                    refine zz_iload M 0 dX8_law_130 rfl ?_
                    exact zz_iret M dX8_law_132 h
              · have h := zif (c := x1 = 0) h c
                refine zz_aload_n M 0 dX8_law_71 rfl rfl ?_
                refine zz_getI M f_X8_32 tM_0 rfl dX8_law_72 ?_
                refine zz_goto M 96 dX8_law_75 (by decide) ?_
                refine zz_topi (fun x185 ex185 => ?_)
                have h := h x185 ex185
                refine zz_istore M [(4, .int x185), (0, .ref (ad 0)), (1, .int x1), (2, .int x2), (3, .int x3)] dX8_law_96 (by decide) rfl ?_
                refine zz_iload_n M 2 dX8_law_98 rfl rfl ?_
                refine zz_if_ne (y0 := 0) M 110 dX8_law_99 (by decide) (fun c => ?_) (fun c => ?_)
                · have h := zifn (c := x1 = 0) h c
                  refine zz_iload_n M 2 dX8_law_110 rfl rfl ?_
                  refine zz_iconst (v := 1) M dX8_law_111 (by decide) ?_
                  refine zz_icmp_ne M 123 dX8_law_112 (by decide) (fun c => ?_) (fun c => ?_)
                  · have h := zifn (c := x1 = 1) h c
                    refine zz_aload_n M 1 dX8_law_123 rfl rfl ?_
                    refine zz_getR M f_X8_41 tM_0 rfl dX8_law_124 ?_
                    refine zz_iload_n M 3 dX8_law_127 rfl rfl ?_
                    refine zz_iload_n M 4 dX8_law_128 rfl rfl ?_
                    refine zz_iast M tM_8 h.1 dX8_law_129 ?_
                    have h := h.2
                    refine zz_sg (fun σ186 eσ186 => ?_)
                    have h := h σ186 eσ186
                    refine zz_iload M 0 dX8_law_130 rfl ?_
                    exact zz_iret M dX8_law_132 h
                  · have h := zif (c := x1 = 1) h c
                    refine zz_aload_n M 1 dX8_law_115 rfl rfl ?_
                    refine zz_iload_n M 4 dX8_law_116 rfl rfl ?_
                    refine zz_putI M f_X8_35 tM_0 rfl dX8_law_117 ?_
                    refine zz_sg (fun σ187 eσ187 => ?_)
                    have h := h σ187 eσ187
                    refine zz_goto M 130 dX8_law_120 (by decide) ?_
                    refine zz_iload M 0 dX8_law_130 rfl ?_
                    exact zz_iret M dX8_law_132 h
                · have h := zif (c := x1 = 0) h c
                  refine zz_aload_n M 1 dX8_law_102 rfl rfl ?_
                  refine zz_iload_n M 4 dX8_law_103 rfl rfl ?_
                  refine zz_putI M f_X8_32 tM_0 rfl dX8_law_104 ?_
                  refine zz_sg (fun σ188 eσ188 => ?_)
                  have h := h σ188 eσ188
                  refine zz_goto M 130 dX8_law_107 (by decide) ?_
                  refine zz_iload M 0 dX8_law_130 rfl ?_
                  exact zz_iret M dX8_law_132 h
            · have h := zif (c := r175 = 0) h c
              refine zz_bipush (v := (-2)) M dX8_law_64 (by decide) ?_
              exact zz_iret M dX8_law_66 h
        · have h := zif (c := x1 = 2) h c
          refine zz_lconst (v := 0) M dX8_law_40 (by decide) ?_
          refine zz_goto M 45 dX8_law_41 (by decide) ?_
          refine zz_iload_n M 1 dX8_law_45 rfl rfl ?_
          refine zz_if_ne (y0 := 0) M 55 dX8_law_46 (by decide) (fun c => ?_) (fun c => ?_)
          · have h := zifn (c := x1 = 0) h c
            refine zz_ldc2 (v := 9) M k_X8_106 dX8_law_55 ?_
            refine zz_callSI (d' := 1) (As := [.long ((x3 : Int32).toInt64), .long 0, .long 9]) (rest := []) M l_X8_92 dX8_law_58 rfl rfl (by decide) (Nat.le_of_ble_eq_true rfl) (by have hI := M.2.2.2.2.2.2.2.2; exact kX8_in hI _ _ _  _ _ h) (fun r189 σ190 h => ?_)
            refine zz_if_ne (y0 := 0) M 67 dX8_law_61 (by decide) (fun c => ?_) (fun c => ?_)
            · have h := zifn (c := r189 = 0) h c
              refine zz_iload_n M 1 dX8_law_67 rfl rfl ?_
              refine zz_if_ne (y0 := 0) M 78 dX8_law_68 (by decide) (fun c => ?_) (fun c => ?_)
              · have h := zifn (c := x1 = 0) h c
                refine zz_iload_n M 1 dX8_law_78 rfl rfl ?_
                refine zz_iconst (v := 1) M dX8_law_79 (by decide) ?_
                refine zz_icmp_ne M 90 dX8_law_80 (by decide) (fun c => ?_) (fun c => ?_)
                · have h := zifn (c := x1 = 1) h c
                  refine zz_aload_n M 0 dX8_law_90 rfl rfl ?_
                  refine zz_getR M f_X8_41 tM_0 rfl dX8_law_91 ?_
                  refine zz_iload_n M 2 dX8_law_94 rfl rfl ?_
                  refine zz_iald M tM_8 h.1 dX8_law_95 ?_
                  have h := h.2
                  refine zz_topi (fun x191 ex191 => ?_)
                  have h := h x191 ex191
                  refine zz_istore M [(4, .int x191), (0, .ref (ad 0)), (1, .int x1), (2, .int x2), (3, .int x3)] dX8_law_96 (by decide) rfl ?_
                  refine zz_iload_n M 2 dX8_law_98 rfl rfl ?_
                  refine zz_if_ne (y0 := 0) M 110 dX8_law_99 (by decide) (fun c => ?_) (fun c => ?_)
                  · have h := zifn (c := x1 = 0) h c
                    refine zz_iload_n M 2 dX8_law_110 rfl rfl ?_
                    refine zz_iconst (v := 1) M dX8_law_111 (by decide) ?_
                    refine zz_icmp_ne M 123 dX8_law_112 (by decide) (fun c => ?_) (fun c => ?_)
                    · have h := zifn (c := x1 = 1) h c
                      refine zz_aload_n M 1 dX8_law_123 rfl rfl ?_
                      refine zz_getR M f_X8_41 tM_0 rfl dX8_law_124 ?_
                      refine zz_iload_n M 3 dX8_law_127 rfl rfl ?_
                      refine zz_iload_n M 4 dX8_law_128 rfl rfl ?_
                      refine zz_iast M tM_8 h.1 dX8_law_129 ?_
                      have h := h.2
                      refine zz_sg (fun σ192 eσ192 => ?_)
                      have h := h σ192 eσ192
                      refine zz_iload M 0 dX8_law_130 rfl ?_
                      exact zz_iret M dX8_law_132 h
                    · have h := zif (c := x1 = 1) h c
                      refine zz_aload_n M 1 dX8_law_115 rfl rfl ?_
                      refine zz_iload_n M 4 dX8_law_116 rfl rfl ?_
                      refine zz_putI M f_X8_35 tM_0 rfl dX8_law_117 ?_
                      refine zz_sg (fun σ193 eσ193 => ?_)
                      have h := h σ193 eσ193
                      refine zz_goto M 130 dX8_law_120 (by decide) ?_
                      refine zz_iload M 0 dX8_law_130 rfl ?_
                      exact zz_iret M dX8_law_132 h
                  · have h := zif (c := x1 = 0) h c
                    refine zz_aload_n M 1 dX8_law_102 rfl rfl ?_
                    refine zz_iload_n M 4 dX8_law_103 rfl rfl ?_
                    refine zz_putI M f_X8_32 tM_0 rfl dX8_law_104 ?_
                    refine zz_sg (fun σ194 eσ194 => ?_)
                    have h := h σ194 eσ194
                    refine zz_goto M 130 dX8_law_107 (by decide) ?_
                    refine zz_iload M 0 dX8_law_130 rfl ?_
                    exact zz_iret M dX8_law_132 h
                · have h := zif (c := x1 = 1) h c
                  refine zz_aload_n M 0 dX8_law_83 rfl rfl ?_
                  refine zz_getI M f_X8_35 tM_0 rfl dX8_law_84 ?_
                  refine zz_goto M 96 dX8_law_87 (by decide) ?_
                  refine zz_topi (fun x195 ex195 => ?_)
                  have h := h x195 ex195
                  refine zz_istore M [(4, .int x195), (0, .ref (ad 0)), (1, .int x1), (2, .int x2), (3, .int x3)] dX8_law_96 (by decide) rfl ?_
                  refine zz_iload_n M 2 dX8_law_98 rfl rfl ?_
                  refine zz_if_ne (y0 := 0) M 110 dX8_law_99 (by decide) (fun c => ?_) (fun c => ?_)
                  · have h := zifn (c := x1 = 0) h c
                    refine zz_iload_n M 2 dX8_law_110 rfl rfl ?_
                    refine zz_iconst (v := 1) M dX8_law_111 (by decide) ?_
                    refine zz_icmp_ne M 123 dX8_law_112 (by decide) (fun c => ?_) (fun c => ?_)
                    · have h := zifn (c := x1 = 1) h c
                      refine zz_aload_n M 1 dX8_law_123 rfl rfl ?_
                      refine zz_getR M f_X8_41 tM_0 rfl dX8_law_124 ?_
                      refine zz_iload_n M 3 dX8_law_127 rfl rfl ?_
                      refine zz_iload_n M 4 dX8_law_128 rfl rfl ?_
                      refine zz_iast M tM_8 h.1 dX8_law_129 ?_
                      have h := h.2
                      refine zz_sg (fun σ196 eσ196 => ?_)
                      have h := h σ196 eσ196
                      refine zz_iload M 0 dX8_law_130 rfl ?_
                      exact zz_iret M dX8_law_132 h
                    · have h := zif (c := x1 = 1) h c
                      refine zz_aload_n M 1 dX8_law_115 rfl rfl ?_
                      refine zz_iload_n M 4 dX8_law_116 rfl rfl ?_
                      refine zz_putI M f_X8_35 tM_0 rfl dX8_law_117 ?_
                      refine zz_sg (fun σ197 eσ197 => ?_)
                      have h := h σ197 eσ197
                      refine zz_goto M 130 dX8_law_120 (by decide) ?_
                      refine zz_iload M 0 dX8_law_130 rfl ?_
                      exact zz_iret M dX8_law_132 h
                  · have h := zif (c := x1 = 0) h c
                    refine zz_aload_n M 1 dX8_law_102 rfl rfl ?_
                    refine zz_iload_n M 4 dX8_law_103 rfl rfl ?_
                    refine zz_putI M f_X8_32 tM_0 rfl dX8_law_104 ?_
                    refine zz_sg (fun σ198 eσ198 => ?_)
                    have h := h σ198 eσ198
                    refine zz_goto M 130 dX8_law_107 (by decide) ?_
                    refine zz_iload M 0 dX8_law_130 rfl ?_
                    exact zz_iret M dX8_law_132 h
              · have h := zif (c := x1 = 0) h c
                refine zz_aload_n M 0 dX8_law_71 rfl rfl ?_
                refine zz_getI M f_X8_32 tM_0 rfl dX8_law_72 ?_
                refine zz_goto M 96 dX8_law_75 (by decide) ?_
                refine zz_topi (fun x199 ex199 => ?_)
                have h := h x199 ex199
                refine zz_istore M [(4, .int x199), (0, .ref (ad 0)), (1, .int x1), (2, .int x2), (3, .int x3)] dX8_law_96 (by decide) rfl ?_
                refine zz_iload_n M 2 dX8_law_98 rfl rfl ?_
                refine zz_if_ne (y0 := 0) M 110 dX8_law_99 (by decide) (fun c => ?_) (fun c => ?_)
                · have h := zifn (c := x1 = 0) h c
                  refine zz_iload_n M 2 dX8_law_110 rfl rfl ?_
                  refine zz_iconst (v := 1) M dX8_law_111 (by decide) ?_
                  refine zz_icmp_ne M 123 dX8_law_112 (by decide) (fun c => ?_) (fun c => ?_)
                  · have h := zifn (c := x1 = 1) h c
                    refine zz_aload_n M 1 dX8_law_123 rfl rfl ?_
                    refine zz_getR M f_X8_41 tM_0 rfl dX8_law_124 ?_
                    refine zz_iload_n M 3 dX8_law_127 rfl rfl ?_
                    refine zz_iload_n M 4 dX8_law_128 rfl rfl ?_
                    refine zz_iast M tM_8 h.1 dX8_law_129 ?_
                    have h := h.2
                    refine zz_sg (fun σ200 eσ200 => ?_)
                    have h := h σ200 eσ200
                    refine zz_iload M 0 dX8_law_130 rfl ?_
                    exact zz_iret M dX8_law_132 h
                  · have h := zif (c := x1 = 1) h c
                    refine zz_aload_n M 1 dX8_law_115 rfl rfl ?_
                    refine zz_iload_n M 4 dX8_law_116 rfl rfl ?_
                    refine zz_putI M f_X8_35 tM_0 rfl dX8_law_117 ?_
                    refine zz_sg (fun σ201 eσ201 => ?_)
                    have h := h σ201 eσ201
                    refine zz_goto M 130 dX8_law_120 (by decide) ?_
                    refine zz_iload M 0 dX8_law_130 rfl ?_
                    exact zz_iret M dX8_law_132 h
                · have h := zif (c := x1 = 0) h c
                  refine zz_aload_n M 1 dX8_law_102 rfl rfl ?_
                  refine zz_iload_n M 4 dX8_law_103 rfl rfl ?_
                  refine zz_putI M f_X8_32 tM_0 rfl dX8_law_104 ?_
                  refine zz_sg (fun σ202 eσ202 => ?_)
                  have h := h σ202 eσ202
                  refine zz_goto M 130 dX8_law_107 (by decide) ?_
                  refine zz_iload M 0 dX8_law_130 rfl ?_
                  exact zz_iret M dX8_law_132 h
            · have h := zif (c := r189 = 0) h c
              refine zz_bipush (v := (-2)) M dX8_law_64 (by decide) ?_
              exact zz_iret M dX8_law_66 h
          · have h := zif (c := x1 = 0) h c
            refine zz_ldc2 (v := 4) M k_X8_117 dX8_law_49 ?_
            refine zz_goto M 58 dX8_law_52 (by decide) ?_
            refine zz_callSI (d' := 1) (As := [.long ((x3 : Int32).toInt64), .long 0, .long 4]) (rest := []) M l_X8_92 dX8_law_58 rfl rfl (by decide) (Nat.le_of_ble_eq_true rfl) (by have hI := M.2.2.2.2.2.2.2.2; exact kX8_in hI _ _ _  _ _ h) (fun r203 σ204 h => ?_)
            refine zz_if_ne (y0 := 0) M 67 dX8_law_61 (by decide) (fun c => ?_) (fun c => ?_)
            · have h := zifn (c := r203 = 0) h c
              refine zz_iload_n M 1 dX8_law_67 rfl rfl ?_
              refine zz_if_ne (y0 := 0) M 78 dX8_law_68 (by decide) (fun c => ?_) (fun c => ?_)
              · have h := zifn (c := x1 = 0) h c
                refine zz_iload_n M 1 dX8_law_78 rfl rfl ?_
                refine zz_iconst (v := 1) M dX8_law_79 (by decide) ?_
                refine zz_icmp_ne M 90 dX8_law_80 (by decide) (fun c => ?_) (fun c => ?_)
                · have h := zifn (c := x1 = 1) h c
                  refine zz_aload_n M 0 dX8_law_90 rfl rfl ?_
                  refine zz_getR M f_X8_41 tM_0 rfl dX8_law_91 ?_
                  refine zz_iload_n M 2 dX8_law_94 rfl rfl ?_
                  refine zz_iald M tM_8 h.1 dX8_law_95 ?_
                  have h := h.2
                  refine zz_topi (fun x205 ex205 => ?_)
                  have h := h x205 ex205
                  refine zz_istore M [(4, .int x205), (0, .ref (ad 0)), (1, .int x1), (2, .int x2), (3, .int x3)] dX8_law_96 (by decide) rfl ?_
                  refine zz_iload_n M 2 dX8_law_98 rfl rfl ?_
                  refine zz_if_ne (y0 := 0) M 110 dX8_law_99 (by decide) (fun c => ?_) (fun c => ?_)
                  · have h := zifn (c := x1 = 0) h c
                    refine zz_iload_n M 2 dX8_law_110 rfl rfl ?_
                    refine zz_iconst (v := 1) M dX8_law_111 (by decide) ?_
                    refine zz_icmp_ne M 123 dX8_law_112 (by decide) (fun c => ?_) (fun c => ?_)
                    · have h := zifn (c := x1 = 1) h c
                      refine zz_aload_n M 1 dX8_law_123 rfl rfl ?_
                      refine zz_getR M f_X8_41 tM_0 rfl dX8_law_124 ?_
                      refine zz_iload_n M 3 dX8_law_127 rfl rfl ?_
                      refine zz_iload_n M 4 dX8_law_128 rfl rfl ?_
                      refine zz_iast M tM_8 h.1 dX8_law_129 ?_
                      have h := h.2
                      refine zz_sg (fun σ206 eσ206 => ?_)
                      have h := h σ206 eσ206
                      refine zz_iload M 0 dX8_law_130 rfl ?_
                      exact zz_iret M dX8_law_132 h
                    · have h := zif (c := x1 = 1) h c
                      refine zz_aload_n M 1 dX8_law_115 rfl rfl ?_
                      refine zz_iload_n M 4 dX8_law_116 rfl rfl ?_
                      refine zz_putI M f_X8_35 tM_0 rfl dX8_law_117 ?_
                      refine zz_sg (fun σ207 eσ207 => ?_)
                      have h := h σ207 eσ207
                      refine zz_goto M 130 dX8_law_120 (by decide) ?_
                      refine zz_iload M 0 dX8_law_130 rfl ?_
                      exact zz_iret M dX8_law_132 h
                  · have h := zif (c := x1 = 0) h c
                    refine zz_aload_n M 1 dX8_law_102 rfl rfl ?_
                    refine zz_iload_n M 4 dX8_law_103 rfl rfl ?_
                    refine zz_putI M f_X8_32 tM_0 rfl dX8_law_104 ?_
                    refine zz_sg (fun σ208 eσ208 => ?_)
                    have h := h σ208 eσ208
                    refine zz_goto M 130 dX8_law_107 (by decide) ?_
                    refine zz_iload M 0 dX8_law_130 rfl ?_
                    exact zz_iret M dX8_law_132 h
                · have h := zif (c := x1 = 1) h c
                  refine zz_aload_n M 0 dX8_law_83 rfl rfl ?_
                  refine zz_getI M f_X8_35 tM_0 rfl dX8_law_84 ?_
                  refine zz_goto M 96 dX8_law_87 (by decide) ?_
                  refine zz_topi (fun x209 ex209 => ?_)
                  have h := h x209 ex209
                  refine zz_istore M [(4, .int x209), (0, .ref (ad 0)), (1, .int x1), (2, .int x2), (3, .int x3)] dX8_law_96 (by decide) rfl ?_
                  refine zz_iload_n M 2 dX8_law_98 rfl rfl ?_
                  refine zz_if_ne (y0 := 0) M 110 dX8_law_99 (by decide) (fun c => ?_) (fun c => ?_)
                  · have h := zifn (c := x1 = 0) h c
                    refine zz_iload_n M 2 dX8_law_110 rfl rfl ?_
                    refine zz_iconst (v := 1) M dX8_law_111 (by decide) ?_
                    refine zz_icmp_ne M 123 dX8_law_112 (by decide) (fun c => ?_) (fun c => ?_)
                    · have h := zifn (c := x1 = 1) h c
                      refine zz_aload_n M 1 dX8_law_123 rfl rfl ?_
                      refine zz_getR M f_X8_41 tM_0 rfl dX8_law_124 ?_
                      refine zz_iload_n M 3 dX8_law_127 rfl rfl ?_
                      refine zz_iload_n M 4 dX8_law_128 rfl rfl ?_
                      refine zz_iast M tM_8 h.1 dX8_law_129 ?_
                      have h := h.2
                      refine zz_sg (fun σ210 eσ210 => ?_)
                      have h := h σ210 eσ210
                      refine zz_iload M 0 dX8_law_130 rfl ?_
                      exact zz_iret M dX8_law_132 h
                    · have h := zif (c := x1 = 1) h c
                      refine zz_aload_n M 1 dX8_law_115 rfl rfl ?_
                      refine zz_iload_n M 4 dX8_law_116 rfl rfl ?_
                      refine zz_putI M f_X8_35 tM_0 rfl dX8_law_117 ?_
                      refine zz_sg (fun σ211 eσ211 => ?_)
                      have h := h σ211 eσ211
                      refine zz_goto M 130 dX8_law_120 (by decide) ?_
                      refine zz_iload M 0 dX8_law_130 rfl ?_
                      exact zz_iret M dX8_law_132 h
                  · have h := zif (c := x1 = 0) h c
                    refine zz_aload_n M 1 dX8_law_102 rfl rfl ?_
                    refine zz_iload_n M 4 dX8_law_103 rfl rfl ?_
                    refine zz_putI M f_X8_32 tM_0 rfl dX8_law_104 ?_
                    refine zz_sg (fun σ212 eσ212 => ?_)
                    have h := h σ212 eσ212
                    refine zz_goto M 130 dX8_law_107 (by decide) ?_
                    refine zz_iload M 0 dX8_law_130 rfl ?_
                    exact zz_iret M dX8_law_132 h
              · have h := zif (c := x1 = 0) h c
                refine zz_aload_n M 0 dX8_law_71 rfl rfl ?_
                refine zz_getI M f_X8_32 tM_0 rfl dX8_law_72 ?_
                refine zz_goto M 96 dX8_law_75 (by decide) ?_
                refine zz_topi (fun x213 ex213 => ?_)
                have h := h x213 ex213
                refine zz_istore M [(4, .int x213), (0, .ref (ad 0)), (1, .int x1), (2, .int x2), (3, .int x3)] dX8_law_96 (by decide) rfl ?_
                refine zz_iload_n M 2 dX8_law_98 rfl rfl ?_
                refine zz_if_ne (y0 := 0) M 110 dX8_law_99 (by decide) (fun c => ?_) (fun c => ?_)
                · have h := zifn (c := x1 = 0) h c
                  refine zz_iload_n M 2 dX8_law_110 rfl rfl ?_
                  refine zz_iconst (v := 1) M dX8_law_111 (by decide) ?_
                  refine zz_icmp_ne M 123 dX8_law_112 (by decide) (fun c => ?_) (fun c => ?_)
                  · have h := zifn (c := x1 = 1) h c
                    refine zz_aload_n M 1 dX8_law_123 rfl rfl ?_
                    refine zz_getR M f_X8_41 tM_0 rfl dX8_law_124 ?_
                    refine zz_iload_n M 3 dX8_law_127 rfl rfl ?_
                    refine zz_iload_n M 4 dX8_law_128 rfl rfl ?_
                    refine zz_iast M tM_8 h.1 dX8_law_129 ?_
                    have h := h.2
                    refine zz_sg (fun σ214 eσ214 => ?_)
                    have h := h σ214 eσ214
                    refine zz_iload M 0 dX8_law_130 rfl ?_
                    exact zz_iret M dX8_law_132 h
                  · have h := zif (c := x1 = 1) h c
                    refine zz_aload_n M 1 dX8_law_115 rfl rfl ?_
                    refine zz_iload_n M 4 dX8_law_116 rfl rfl ?_
                    refine zz_putI M f_X8_35 tM_0 rfl dX8_law_117 ?_
                    refine zz_sg (fun σ215 eσ215 => ?_)
                    have h := h σ215 eσ215
                    refine zz_goto M 130 dX8_law_120 (by decide) ?_
                    refine zz_iload M 0 dX8_law_130 rfl ?_
                    exact zz_iret M dX8_law_132 h
                · have h := zif (c := x1 = 0) h c
                  refine zz_aload_n M 1 dX8_law_102 rfl rfl ?_
                  refine zz_iload_n M 4 dX8_law_103 rfl rfl ?_
                  refine zz_putI M f_X8_32 tM_0 rfl dX8_law_104 ?_
                  refine zz_sg (fun σ216 eσ216 => ?_)
                  have h := h σ216 eσ216
                  refine zz_goto M 130 dX8_law_107 (by decide) ?_
                  refine zz_iload M 0 dX8_law_130 rfl ?_
                  exact zz_iret M dX8_law_132 h
            · have h := zif (c := r203 = 0) h c
              refine zz_bipush (v := (-2)) M dX8_law_64 (by decide) ?_
              exact zz_iret M dX8_law_66 h
end
