section
variable {p : Program} {l : Launch} {e : Env} {s : State} {m : MethodId} {args : Array Value} {below : List Frame} {meth : Method} {c : Code} {D : va_G} {cA : Nat → ClassId} {ad : Nat → Nat} {y : zX}
def wX8_law (x1 : Int32) (x2 : Int32) (x3 : Int32) (σ : zSt) (Q : Int32 → zSt → Prop) : Prop := ∀ a101 : Int64, a101 = ((x1 : Int32).toInt64) → (wX8_in a101 0 2 σ (fun r102 σ103 => if r102 = 0 then (Q (-2) σ103) else (if x1 = 2 then (∀ a164 : Int64, a164 = ((x2 : Int32).toInt64) → (∀ a165 : Int64, a165 = (((σ103.1 0 16) - 1 : Int32).toInt64) → (wX8_in a164 0 a165 σ103 (fun r166 σ167 => if r166 = 0 then (Q (-2) σ167) else (if x1 = 2 then (if x1 = 0 then (∀ a213 : Int64, a213 = ((x3 : Int32).toInt64) → (wX8_in a213 0 4 σ167 (fun r214 σ215 => if r214 = 0 then (Q (-2) σ215) else (if x1 = 0 then (∀ x224 : Int32, x224 = (σ215.1 0 12) → (if x1 = 0 then (∀ σ227 : zSt, σ227 = zput σ215 0 12 x3 → (Q x224 σ227)) else (if x1 = 1 then (∀ σ226 : zSt, σ226 = zput σ215 0 13 x3 → (Q x224 σ226)) else (vp_in x2 4 ∧ (∀ σ225 : zSt, σ225 = zput σ215 8 x2.toNatClampNeg x3 → (Q x224 σ225)))))) else (if x1 = 1 then (∀ x220 : Int32, x220 = (σ215.1 0 13) → (if x1 = 0 then (∀ σ223 : zSt, σ223 = zput σ215 0 12 x3 → (Q x220 σ223)) else (if x1 = 1 then (∀ σ222 : zSt, σ222 = zput σ215 0 13 x3 → (Q x220 σ222)) else (vp_in x2 4 ∧ (∀ σ221 : zSt, σ221 = zput σ215 8 x2.toNatClampNeg x3 → (Q x220 σ221)))))) else (vp_in x2 4 ∧ (∀ x216 : Int32, x216 = (σ215.1 8 x2.toNatClampNeg) → (if x1 = 0 then (∀ σ219 : zSt, σ219 = zput σ215 0 12 x3 → (Q x216 σ219)) else (if x1 = 1 then (∀ σ218 : zSt, σ218 = zput σ215 0 13 x3 → (Q x216 σ218)) else (vp_in x2 4 ∧ (∀ σ217 : zSt, σ217 = zput σ215 8 x2.toNatClampNeg x3 → (Q x216 σ217)))))))))))) else (∀ a198 : Int64, a198 = ((x3 : Int32).toInt64) → (wX8_in a198 0 9 σ167 (fun r199 σ200 => if r199 = 0 then (Q (-2) σ200) else (if x1 = 0 then (∀ x209 : Int32, x209 = (σ200.1 0 12) → (if x1 = 0 then (∀ σ212 : zSt, σ212 = zput σ200 0 12 x3 → (Q x209 σ212)) else (if x1 = 1 then (∀ σ211 : zSt, σ211 = zput σ200 0 13 x3 → (Q x209 σ211)) else (vp_in x2 4 ∧ (∀ σ210 : zSt, σ210 = zput σ200 8 x2.toNatClampNeg x3 → (Q x209 σ210)))))) else (if x1 = 1 then (∀ x205 : Int32, x205 = (σ200.1 0 13) → (if x1 = 0 then (∀ σ208 : zSt, σ208 = zput σ200 0 12 x3 → (Q x205 σ208)) else (if x1 = 1 then (∀ σ207 : zSt, σ207 = zput σ200 0 13 x3 → (Q x205 σ207)) else (vp_in x2 4 ∧ (∀ σ206 : zSt, σ206 = zput σ200 8 x2.toNatClampNeg x3 → (Q x205 σ206)))))) else (vp_in x2 4 ∧ (∀ x201 : Int32, x201 = (σ200.1 8 x2.toNatClampNeg) → (if x1 = 0 then (∀ σ204 : zSt, σ204 = zput σ200 0 12 x3 → (Q x201 σ204)) else (if x1 = 1 then (∀ σ203 : zSt, σ203 = zput σ200 0 13 x3 → (Q x201 σ203)) else (vp_in x2 4 ∧ (∀ σ202 : zSt, σ202 = zput σ200 8 x2.toNatClampNeg x3 → (Q x201 σ202))))))))))))) else (if x1 = 0 then (∀ a183 : Int64, a183 = ((x3 : Int32).toInt64) → (wX8_in a183 1 4 σ167 (fun r184 σ185 => if r184 = 0 then (Q (-2) σ185) else (if x1 = 0 then (∀ x194 : Int32, x194 = (σ185.1 0 12) → (if x1 = 0 then (∀ σ197 : zSt, σ197 = zput σ185 0 12 x3 → (Q x194 σ197)) else (if x1 = 1 then (∀ σ196 : zSt, σ196 = zput σ185 0 13 x3 → (Q x194 σ196)) else (vp_in x2 4 ∧ (∀ σ195 : zSt, σ195 = zput σ185 8 x2.toNatClampNeg x3 → (Q x194 σ195)))))) else (if x1 = 1 then (∀ x190 : Int32, x190 = (σ185.1 0 13) → (if x1 = 0 then (∀ σ193 : zSt, σ193 = zput σ185 0 12 x3 → (Q x190 σ193)) else (if x1 = 1 then (∀ σ192 : zSt, σ192 = zput σ185 0 13 x3 → (Q x190 σ192)) else (vp_in x2 4 ∧ (∀ σ191 : zSt, σ191 = zput σ185 8 x2.toNatClampNeg x3 → (Q x190 σ191)))))) else (vp_in x2 4 ∧ (∀ x186 : Int32, x186 = (σ185.1 8 x2.toNatClampNeg) → (if x1 = 0 then (∀ σ189 : zSt, σ189 = zput σ185 0 12 x3 → (Q x186 σ189)) else (if x1 = 1 then (∀ σ188 : zSt, σ188 = zput σ185 0 13 x3 → (Q x186 σ188)) else (vp_in x2 4 ∧ (∀ σ187 : zSt, σ187 = zput σ185 8 x2.toNatClampNeg x3 → (Q x186 σ187)))))))))))) else (∀ a168 : Int64, a168 = ((x3 : Int32).toInt64) → (wX8_in a168 1 9 σ167 (fun r169 σ170 => if r169 = 0 then (Q (-2) σ170) else (if x1 = 0 then (∀ x179 : Int32, x179 = (σ170.1 0 12) → (if x1 = 0 then (∀ σ182 : zSt, σ182 = zput σ170 0 12 x3 → (Q x179 σ182)) else (if x1 = 1 then (∀ σ181 : zSt, σ181 = zput σ170 0 13 x3 → (Q x179 σ181)) else (vp_in x2 4 ∧ (∀ σ180 : zSt, σ180 = zput σ170 8 x2.toNatClampNeg x3 → (Q x179 σ180)))))) else (if x1 = 1 then (∀ x175 : Int32, x175 = (σ170.1 0 13) → (if x1 = 0 then (∀ σ178 : zSt, σ178 = zput σ170 0 12 x3 → (Q x175 σ178)) else (if x1 = 1 then (∀ σ177 : zSt, σ177 = zput σ170 0 13 x3 → (Q x175 σ177)) else (vp_in x2 4 ∧ (∀ σ176 : zSt, σ176 = zput σ170 8 x2.toNatClampNeg x3 → (Q x175 σ176)))))) else (vp_in x2 4 ∧ (∀ x171 : Int32, x171 = (σ170.1 8 x2.toNatClampNeg) → (if x1 = 0 then (∀ σ174 : zSt, σ174 = zput σ170 0 12 x3 → (Q x171 σ174)) else (if x1 = 1 then (∀ σ173 : zSt, σ173 = zput σ170 0 13 x3 → (Q x171 σ173)) else (vp_in x2 4 ∧ (∀ σ172 : zSt, σ172 = zput σ170 8 x2.toNatClampNeg x3 → (Q x171 σ172)))))))))))))))))) else (if x1 = 2 then (if x1 = 0 then (∀ a149 : Int64, a149 = ((x3 : Int32).toInt64) → (wX8_in a149 0 4 σ103 (fun r150 σ151 => if r150 = 0 then (Q (-2) σ151) else (if x1 = 0 then (∀ x160 : Int32, x160 = (σ151.1 0 12) → (if x1 = 0 then (∀ σ163 : zSt, σ163 = zput σ151 0 12 x3 → (Q x160 σ163)) else (if x1 = 1 then (∀ σ162 : zSt, σ162 = zput σ151 0 13 x3 → (Q x160 σ162)) else (vp_in x2 4 ∧ (∀ σ161 : zSt, σ161 = zput σ151 8 x2.toNatClampNeg x3 → (Q x160 σ161)))))) else (if x1 = 1 then (∀ x156 : Int32, x156 = (σ151.1 0 13) → (if x1 = 0 then (∀ σ159 : zSt, σ159 = zput σ151 0 12 x3 → (Q x156 σ159)) else (if x1 = 1 then (∀ σ158 : zSt, σ158 = zput σ151 0 13 x3 → (Q x156 σ158)) else (vp_in x2 4 ∧ (∀ σ157 : zSt, σ157 = zput σ151 8 x2.toNatClampNeg x3 → (Q x156 σ157)))))) else (vp_in x2 4 ∧ (∀ x152 : Int32, x152 = (σ151.1 8 x2.toNatClampNeg) → (if x1 = 0 then (∀ σ155 : zSt, σ155 = zput σ151 0 12 x3 → (Q x152 σ155)) else (if x1 = 1 then (∀ σ154 : zSt, σ154 = zput σ151 0 13 x3 → (Q x152 σ154)) else (vp_in x2 4 ∧ (∀ σ153 : zSt, σ153 = zput σ151 8 x2.toNatClampNeg x3 → (Q x152 σ153)))))))))))) else (∀ a134 : Int64, a134 = ((x3 : Int32).toInt64) → (wX8_in a134 0 9 σ103 (fun r135 σ136 => if r135 = 0 then (Q (-2) σ136) else (if x1 = 0 then (∀ x145 : Int32, x145 = (σ136.1 0 12) → (if x1 = 0 then (∀ σ148 : zSt, σ148 = zput σ136 0 12 x3 → (Q x145 σ148)) else (if x1 = 1 then (∀ σ147 : zSt, σ147 = zput σ136 0 13 x3 → (Q x145 σ147)) else (vp_in x2 4 ∧ (∀ σ146 : zSt, σ146 = zput σ136 8 x2.toNatClampNeg x3 → (Q x145 σ146)))))) else (if x1 = 1 then (∀ x141 : Int32, x141 = (σ136.1 0 13) → (if x1 = 0 then (∀ σ144 : zSt, σ144 = zput σ136 0 12 x3 → (Q x141 σ144)) else (if x1 = 1 then (∀ σ143 : zSt, σ143 = zput σ136 0 13 x3 → (Q x141 σ143)) else (vp_in x2 4 ∧ (∀ σ142 : zSt, σ142 = zput σ136 8 x2.toNatClampNeg x3 → (Q x141 σ142)))))) else (vp_in x2 4 ∧ (∀ x137 : Int32, x137 = (σ136.1 8 x2.toNatClampNeg) → (if x1 = 0 then (∀ σ140 : zSt, σ140 = zput σ136 0 12 x3 → (Q x137 σ140)) else (if x1 = 1 then (∀ σ139 : zSt, σ139 = zput σ136 0 13 x3 → (Q x137 σ139)) else (vp_in x2 4 ∧ (∀ σ138 : zSt, σ138 = zput σ136 8 x2.toNatClampNeg x3 → (Q x137 σ138))))))))))))) else (if x1 = 0 then (∀ a119 : Int64, a119 = ((x3 : Int32).toInt64) → (wX8_in a119 1 4 σ103 (fun r120 σ121 => if r120 = 0 then (Q (-2) σ121) else (if x1 = 0 then (∀ x130 : Int32, x130 = (σ121.1 0 12) → (if x1 = 0 then (∀ σ133 : zSt, σ133 = zput σ121 0 12 x3 → (Q x130 σ133)) else (if x1 = 1 then (∀ σ132 : zSt, σ132 = zput σ121 0 13 x3 → (Q x130 σ132)) else (vp_in x2 4 ∧ (∀ σ131 : zSt, σ131 = zput σ121 8 x2.toNatClampNeg x3 → (Q x130 σ131)))))) else (if x1 = 1 then (∀ x126 : Int32, x126 = (σ121.1 0 13) → (if x1 = 0 then (∀ σ129 : zSt, σ129 = zput σ121 0 12 x3 → (Q x126 σ129)) else (if x1 = 1 then (∀ σ128 : zSt, σ128 = zput σ121 0 13 x3 → (Q x126 σ128)) else (vp_in x2 4 ∧ (∀ σ127 : zSt, σ127 = zput σ121 8 x2.toNatClampNeg x3 → (Q x126 σ127)))))) else (vp_in x2 4 ∧ (∀ x122 : Int32, x122 = (σ121.1 8 x2.toNatClampNeg) → (if x1 = 0 then (∀ σ125 : zSt, σ125 = zput σ121 0 12 x3 → (Q x122 σ125)) else (if x1 = 1 then (∀ σ124 : zSt, σ124 = zput σ121 0 13 x3 → (Q x122 σ124)) else (vp_in x2 4 ∧ (∀ σ123 : zSt, σ123 = zput σ121 8 x2.toNatClampNeg x3 → (Q x122 σ123)))))))))))) else (∀ a104 : Int64, a104 = ((x3 : Int32).toInt64) → (wX8_in a104 1 9 σ103 (fun r105 σ106 => if r105 = 0 then (Q (-2) σ106) else (if x1 = 0 then (∀ x115 : Int32, x115 = (σ106.1 0 12) → (if x1 = 0 then (∀ σ118 : zSt, σ118 = zput σ106 0 12 x3 → (Q x115 σ118)) else (if x1 = 1 then (∀ σ117 : zSt, σ117 = zput σ106 0 13 x3 → (Q x115 σ117)) else (vp_in x2 4 ∧ (∀ σ116 : zSt, σ116 = zput σ106 8 x2.toNatClampNeg x3 → (Q x115 σ116)))))) else (if x1 = 1 then (∀ x111 : Int32, x111 = (σ106.1 0 13) → (if x1 = 0 then (∀ σ114 : zSt, σ114 = zput σ106 0 12 x3 → (Q x111 σ114)) else (if x1 = 1 then (∀ σ113 : zSt, σ113 = zput σ106 0 13 x3 → (Q x111 σ113)) else (vp_in x2 4 ∧ (∀ σ112 : zSt, σ112 = zput σ106 8 x2.toNatClampNeg x3 → (Q x111 σ112)))))) else (vp_in x2 4 ∧ (∀ x107 : Int32, x107 = (σ106.1 8 x2.toNatClampNeg) → (if x1 = 0 then (∀ σ110 : zSt, σ110 = zput σ106 0 12 x3 → (Q x107 σ110)) else (if x1 = 1 then (∀ σ109 : zSt, σ109 = zput σ106 0 13 x3 → (Q x107 σ109)) else (vp_in x2 4 ∧ (∀ σ108 : zSt, σ108 = zput σ106 8 x2.toNatClampNeg x3 → (Q x107 σ108)))))))))))))))))
set_option maxRecDepth 20000 in
set_option maxHeartbeats 4000000 in
theorem kX8_law (hI : zInj tabM ad) (x1 : Int32) (x2 : Int32) (x3 : Int32)  (σ : zSt) (Q : Int32 → zSt → Prop) (h : wX8_law x1 x2 x3 σ Q) : zOkI l tabM D cA ad y 2 yX8_law cX8_law 5 (some .int) [.ref (ad 0), .int x1, .int x2, .int x3] σ Q := by
  refine zz_enter hI (by decide) (Nat.le_of_ble_eq_true rfl) (fun p e s m below meth c M => ?_)
  have M : zM p s m _ meth c cX8_law 5 RX8 (some .int) tabM D cA ad y := M
  refine zz_ls [(0, .ref (ad 0)), (1, .int x1), (2, .int x2), (3, .int x3)] rfl ?_
  unfold wX8_law at h
  refine zz_iload_n M 1 dX8_law_0 rfl rfl ?_
  refine zz_i2l M dX8_law_1 ?_
  refine zz_lconst (v := 0) M dX8_law_2 (by decide) ?_
  refine zz_ldc2 (v := 2) M k_X8_104 dX8_law_3 ?_
  obtain ⟨a101, ea101⟩ : ∃ z : Int64, z = ((x1 : Int32).toInt64) := ⟨_, rfl⟩
  have h := h a101 ea101
  refine zz_st [.long 2, .long 0, .long a101] (by rw [ea101]) ?_
  refine zz_callSI (d' := 1) (As := [.long a101, .long 0, .long 2]) (rest := []) M l_X8_92 dX8_law_6 rfl rfl (by decide) (Nat.le_of_ble_eq_true rfl) (by have hI := M.2.2.2.2.2.2.2.2; exact kX8_in hI _ _ _  _ _ h) (fun r102 σ103 h => ?_)
  refine zz_if_eq (y0 := 0) M 64 dX8_law_9 (by decide) (fun c => ?_) (fun c => ?_)
  · have h := zif (c := r102 = 0) h c
    refine zz_bipush (v := (-2)) M dX8_law_64 (by decide) ?_
    exact zz_iret M dX8_law_66 h
  · have h := zifn (c := r102 = 0) h c
    refine zz_iload_n M 1 dX8_law_12 rfl rfl ?_
    refine zz_iconst (v := 2) M dX8_law_13 (by decide) ?_
    refine zz_icmp_ne M 33 dX8_law_14 (by decide) (fun c => ?_) (fun c => ?_)
    · have h := zifn (c := x1 = 2) h c
      refine zz_iload_n M 3 dX8_law_33 rfl rfl ?_
      refine zz_i2l M dX8_law_34 ?_
      refine zz_iload_n M 1 dX8_law_35 rfl rfl ?_
      refine zz_iconst (v := 2) M dX8_law_36 (by decide) ?_
      refine zz_icmp_ne M 44 dX8_law_37 (by decide) (fun c => ?_) (fun c => ?_)
      · have h := zifn (c := x1 = 2) h c
        refine zz_lconst (v := 1) M dX8_law_44 (by decide) ?_
        refine zz_iload_n M 1 dX8_law_45 rfl rfl ?_
        refine zz_if_ne (y0 := 0) M 55 dX8_law_46 (by decide) (fun c => ?_) (fun c => ?_)
        · have h := zifn (c := x1 = 0) h c
          refine zz_ldc2 (v := 9) M k_X8_106 dX8_law_55 ?_
          obtain ⟨a104, ea104⟩ : ∃ z : Int64, z = ((x3 : Int32).toInt64) := ⟨_, rfl⟩
          have h := h a104 ea104
          refine zz_st [.long 9, .long 1, .long a104] (by rw [ea104]) ?_
          refine zz_callSI (d' := 1) (As := [.long a104, .long 1, .long 9]) (rest := []) M l_X8_92 dX8_law_58 rfl rfl (by decide) (Nat.le_of_ble_eq_true rfl) (by have hI := M.2.2.2.2.2.2.2.2; exact kX8_in hI _ _ _  _ _ h) (fun r105 σ106 h => ?_)
          refine zz_if_ne (y0 := 0) M 67 dX8_law_61 (by decide) (fun c => ?_) (fun c => ?_)
          · have h := zifn (c := r105 = 0) h c
            refine zz_iload_n M 1 dX8_law_67 rfl rfl ?_
            refine zz_if_ne (y0 := 0) M 78 dX8_law_68 (by decide) (fun c => ?_) (fun c => ?_)
            · have h := zifn (c := x1 = 0) h c
              refine zz_iload_n M 1 dX8_law_78 rfl rfl ?_
              refine zz_iconst (v := 1) M dX8_law_79 (by decide) ?_
              refine zz_icmp_ne M 90 dX8_law_80 (by decide) (fun c => ?_) (fun c => ?_)
              · have h := zifn (c := x1 = 1) h c
                refine zz_aload_n M 0 dX8_law_90 rfl rfl ?_
                refine zz_getR M f_X8_41 tM_0 rfl dX8_law_91 ?_
                refine zz_iload_n M 2 dX8_law_94 rfl rfl ?_
                refine zz_iald M tM_8 h.1 dX8_law_95 ?_
                have h := h.2
                refine zz_topi (fun x107 ex107 => ?_)
                have h := h x107 ex107
                refine zz_istore M [(4, .int x107), (0, .ref (ad 0)), (1, .int x1), (2, .int x2), (3, .int x3)] dX8_law_96 (by decide) rfl ?_
                refine zz_iload_n M 2 dX8_law_98 rfl rfl ?_
                refine zz_if_ne (y0 := 0) M 110 dX8_law_99 (by decide) (fun c => ?_) (fun c => ?_)
                · have h := zifn (c := x1 = 0) h c
                  refine zz_iload_n M 2 dX8_law_110 rfl rfl ?_
                  refine zz_iconst (v := 1) M dX8_law_111 (by decide) ?_
                  refine zz_icmp_ne M 123 dX8_law_112 (by decide) (fun c => ?_) (fun c => ?_)
                  · have h := zifn (c := x1 = 1) h c
                    refine zz_aload_n M 1 dX8_law_123 rfl rfl ?_
                    refine zz_getR M f_X8_41 tM_0 rfl dX8_law_124 ?_
                    refine zz_iload_n M 3 dX8_law_127 rfl rfl ?_
                    refine zz_iload_n M 4 dX8_law_128 rfl rfl ?_
                    refine zz_iast M tM_8 h.1 dX8_law_129 ?_
                    have h := h.2
                    refine zz_sg (fun σ108 eσ108 => ?_)
                    have h := h σ108 eσ108
                    refine zz_iload M 0 dX8_law_130 rfl ?_
                    exact zz_iret M dX8_law_132 h
                  · have h := zif (c := x1 = 1) h c
                    refine zz_aload_n M 1 dX8_law_115 rfl rfl ?_
                    refine zz_iload_n M 4 dX8_law_116 rfl rfl ?_
                    refine zz_putI M f_X8_35 tM_0 rfl dX8_law_117 ?_
                    refine zz_sg (fun σ109 eσ109 => ?_)
                    have h := h σ109 eσ109
                    refine zz_goto M 130 dX8_law_120 (by decide) ?_
                    refine zz_iload M 0 dX8_law_130 rfl ?_
                    exact zz_iret M dX8_law_132 h
                · have h := zif (c := x1 = 0) h c
                  refine zz_aload_n M 1 dX8_law_102 rfl rfl ?_
                  refine zz_iload_n M 4 dX8_law_103 rfl rfl ?_
                  refine zz_putI M f_X8_32 tM_0 rfl dX8_law_104 ?_
                  refine zz_sg (fun σ110 eσ110 => ?_)
                  have h := h σ110 eσ110
                  refine zz_goto M 130 dX8_law_107 (by decide) ?_
                  refine zz_iload M 0 dX8_law_130 rfl ?_
                  exact zz_iret M dX8_law_132 h
              · have h := zif (c := x1 = 1) h c
                refine zz_aload_n M 0 dX8_law_83 rfl rfl ?_
                refine zz_getI M f_X8_35 tM_0 rfl dX8_law_84 ?_
                refine zz_goto M 96 dX8_law_87 (by decide) ?_
                refine zz_topi (fun x111 ex111 => ?_)
                have h := h x111 ex111
                refine zz_istore M [(4, .int x111), (0, .ref (ad 0)), (1, .int x1), (2, .int x2), (3, .int x3)] dX8_law_96 (by decide) rfl ?_
                refine zz_iload_n M 2 dX8_law_98 rfl rfl ?_
                refine zz_if_ne (y0 := 0) M 110 dX8_law_99 (by decide) (fun c => ?_) (fun c => ?_)
                · have h := zifn (c := x1 = 0) h c
                  refine zz_iload_n M 2 dX8_law_110 rfl rfl ?_
                  refine zz_iconst (v := 1) M dX8_law_111 (by decide) ?_
                  refine zz_icmp_ne M 123 dX8_law_112 (by decide) (fun c => ?_) (fun c => ?_)
                  · have h := zifn (c := x1 = 1) h c
                    refine zz_aload_n M 1 dX8_law_123 rfl rfl ?_
                    refine zz_getR M f_X8_41 tM_0 rfl dX8_law_124 ?_
                    refine zz_iload_n M 3 dX8_law_127 rfl rfl ?_
                    refine zz_iload_n M 4 dX8_law_128 rfl rfl ?_
                    refine zz_iast M tM_8 h.1 dX8_law_129 ?_
                    have h := h.2
                    refine zz_sg (fun σ112 eσ112 => ?_)
                    have h := h σ112 eσ112
                    refine zz_iload M 0 dX8_law_130 rfl ?_
                    exact zz_iret M dX8_law_132 h
                  · have h := zif (c := x1 = 1) h c
                    refine zz_aload_n M 1 dX8_law_115 rfl rfl ?_
                    refine zz_iload_n M 4 dX8_law_116 rfl rfl ?_
                    refine zz_putI M f_X8_35 tM_0 rfl dX8_law_117 ?_
                    refine zz_sg (fun σ113 eσ113 => ?_)
                    have h := h σ113 eσ113
                    refine zz_goto M 130 dX8_law_120 (by decide) ?_
                    refine zz_iload M 0 dX8_law_130 rfl ?_
                    exact zz_iret M dX8_law_132 h
                · have h := zif (c := x1 = 0) h c
                  refine zz_aload_n M 1 dX8_law_102 rfl rfl ?_
                  refine zz_iload_n M 4 dX8_law_103 rfl rfl ?_
                  refine zz_putI M f_X8_32 tM_0 rfl dX8_law_104 ?_
                  refine zz_sg (fun σ114 eσ114 => ?_)
                  have h := h σ114 eσ114
                  refine zz_goto M 130 dX8_law_107 (by decide) ?_
                  refine zz_iload M 0 dX8_law_130 rfl ?_
                  exact zz_iret M dX8_law_132 h
            · have h := zif (c := x1 = 0) h c
              refine zz_aload_n M 0 dX8_law_71 rfl rfl ?_
              refine zz_getI M f_X8_32 tM_0 rfl dX8_law_72 ?_
              refine zz_goto M 96 dX8_law_75 (by decide) ?_
              refine zz_topi (fun x115 ex115 => ?_)
              have h := h x115 ex115
              refine zz_istore M [(4, .int x115), (0, .ref (ad 0)), (1, .int x1), (2, .int x2), (3, .int x3)] dX8_law_96 (by decide) rfl ?_
              refine zz_iload_n M 2 dX8_law_98 rfl rfl ?_
              refine zz_if_ne (y0 := 0) M 110 dX8_law_99 (by decide) (fun c => ?_) (fun c => ?_)
              · have h := zifn (c := x1 = 0) h c
                refine zz_iload_n M 2 dX8_law_110 rfl rfl ?_
                refine zz_iconst (v := 1) M dX8_law_111 (by decide) ?_
                refine zz_icmp_ne M 123 dX8_law_112 (by decide) (fun c => ?_) (fun c => ?_)
                · have h := zifn (c := x1 = 1) h c
                  refine zz_aload_n M 1 dX8_law_123 rfl rfl ?_
                  refine zz_getR M f_X8_41 tM_0 rfl dX8_law_124 ?_
                  refine zz_iload_n M 3 dX8_law_127 rfl rfl ?_
                  refine zz_iload_n M 4 dX8_law_128 rfl rfl ?_
                  refine zz_iast M tM_8 h.1 dX8_law_129 ?_
                  have h := h.2
                  refine zz_sg (fun σ116 eσ116 => ?_)
                  have h := h σ116 eσ116
                  refine zz_iload M 0 dX8_law_130 rfl ?_
                  exact zz_iret M dX8_law_132 h
                · have h := zif (c := x1 = 1) h c
                  refine zz_aload_n M 1 dX8_law_115 rfl rfl ?_
                  refine zz_iload_n M 4 dX8_law_116 rfl rfl ?_
                  refine zz_putI M f_X8_35 tM_0 rfl dX8_law_117 ?_
                  refine zz_sg (fun σ117 eσ117 => ?_)
                  have h := h σ117 eσ117
                  refine zz_goto M 130 dX8_law_120 (by decide) ?_
                  refine zz_iload M 0 dX8_law_130 rfl ?_
                  exact zz_iret M dX8_law_132 h
              · have h := zif (c := x1 = 0) h c
                refine zz_aload_n M 1 dX8_law_102 rfl rfl ?_
                refine zz_iload_n M 4 dX8_law_103 rfl rfl ?_
                refine zz_putI M f_X8_32 tM_0 rfl dX8_law_104 ?_
                refine zz_sg (fun σ118 eσ118 => ?_)
                have h := h σ118 eσ118
                refine zz_goto M 130 dX8_law_107 (by decide) ?_
                refine zz_iload M 0 dX8_law_130 rfl ?_
                exact zz_iret M dX8_law_132 h
          · have h := zif (c := r105 = 0) h c
            refine zz_bipush (v := (-2)) M dX8_law_64 (by decide) ?_
            exact zz_iret M dX8_law_66 h
        · have h := zif (c := x1 = 0) h c
          refine zz_ldc2 (v := 4) M k_X8_117 dX8_law_49 ?_
          refine zz_goto M 58 dX8_law_52 (by decide) ?_
          obtain ⟨a119, ea119⟩ : ∃ z : Int64, z = ((x3 : Int32).toInt64) := ⟨_, rfl⟩
          have h := h a119 ea119
          refine zz_st [.long 4, .long 1, .long a119] (by rw [ea119]) ?_
          refine zz_callSI (d' := 1) (As := [.long a119, .long 1, .long 4]) (rest := []) M l_X8_92 dX8_law_58 rfl rfl (by decide) (Nat.le_of_ble_eq_true rfl) (by have hI := M.2.2.2.2.2.2.2.2; exact kX8_in hI _ _ _  _ _ h) (fun r120 σ121 h => ?_)
          refine zz_if_ne (y0 := 0) M 67 dX8_law_61 (by decide) (fun c => ?_) (fun c => ?_)
          · have h := zifn (c := r120 = 0) h c
            refine zz_iload_n M 1 dX8_law_67 rfl rfl ?_
            refine zz_if_ne (y0 := 0) M 78 dX8_law_68 (by decide) (fun c => ?_) (fun c => ?_)
            · have h := zifn (c := x1 = 0) h c
              refine zz_iload_n M 1 dX8_law_78 rfl rfl ?_
              refine zz_iconst (v := 1) M dX8_law_79 (by decide) ?_
              refine zz_icmp_ne M 90 dX8_law_80 (by decide) (fun c => ?_) (fun c => ?_)
              · have h := zifn (c := x1 = 1) h c
                refine zz_aload_n M 0 dX8_law_90 rfl rfl ?_
                refine zz_getR M f_X8_41 tM_0 rfl dX8_law_91 ?_
                refine zz_iload_n M 2 dX8_law_94 rfl rfl ?_
                refine zz_iald M tM_8 h.1 dX8_law_95 ?_
                have h := h.2
                refine zz_topi (fun x122 ex122 => ?_)
                have h := h x122 ex122
                refine zz_istore M [(4, .int x122), (0, .ref (ad 0)), (1, .int x1), (2, .int x2), (3, .int x3)] dX8_law_96 (by decide) rfl ?_
                refine zz_iload_n M 2 dX8_law_98 rfl rfl ?_
                refine zz_if_ne (y0 := 0) M 110 dX8_law_99 (by decide) (fun c => ?_) (fun c => ?_)
                · have h := zifn (c := x1 = 0) h c
                  refine zz_iload_n M 2 dX8_law_110 rfl rfl ?_
                  refine zz_iconst (v := 1) M dX8_law_111 (by decide) ?_
                  refine zz_icmp_ne M 123 dX8_law_112 (by decide) (fun c => ?_) (fun c => ?_)
                  · have h := zifn (c := x1 = 1) h c
                    refine zz_aload_n M 1 dX8_law_123 rfl rfl ?_
                    refine zz_getR M f_X8_41 tM_0 rfl dX8_law_124 ?_
                    refine zz_iload_n M 3 dX8_law_127 rfl rfl ?_
                    refine zz_iload_n M 4 dX8_law_128 rfl rfl ?_
                    refine zz_iast M tM_8 h.1 dX8_law_129 ?_
                    have h := h.2
                    refine zz_sg (fun σ123 eσ123 => ?_)
                    have h := h σ123 eσ123
                    refine zz_iload M 0 dX8_law_130 rfl ?_
                    exact zz_iret M dX8_law_132 h
                  · have h := zif (c := x1 = 1) h c
                    refine zz_aload_n M 1 dX8_law_115 rfl rfl ?_
                    refine zz_iload_n M 4 dX8_law_116 rfl rfl ?_
                    refine zz_putI M f_X8_35 tM_0 rfl dX8_law_117 ?_
                    refine zz_sg (fun σ124 eσ124 => ?_)
                    have h := h σ124 eσ124
                    refine zz_goto M 130 dX8_law_120 (by decide) ?_
                    refine zz_iload M 0 dX8_law_130 rfl ?_
                    exact zz_iret M dX8_law_132 h
                · have h := zif (c := x1 = 0) h c
                  refine zz_aload_n M 1 dX8_law_102 rfl rfl ?_
                  refine zz_iload_n M 4 dX8_law_103 rfl rfl ?_
                  refine zz_putI M f_X8_32 tM_0 rfl dX8_law_104 ?_
                  refine zz_sg (fun σ125 eσ125 => ?_)
                  have h := h σ125 eσ125
                  refine zz_goto M 130 dX8_law_107 (by decide) ?_
                  refine zz_iload M 0 dX8_law_130 rfl ?_
                  exact zz_iret M dX8_law_132 h
              · have h := zif (c := x1 = 1) h c
                refine zz_aload_n M 0 dX8_law_83 rfl rfl ?_
                refine zz_getI M f_X8_35 tM_0 rfl dX8_law_84 ?_
                refine zz_goto M 96 dX8_law_87 (by decide) ?_
                refine zz_topi (fun x126 ex126 => ?_)
                have h := h x126 ex126
                refine zz_istore M [(4, .int x126), (0, .ref (ad 0)), (1, .int x1), (2, .int x2), (3, .int x3)] dX8_law_96 (by decide) rfl ?_
                refine zz_iload_n M 2 dX8_law_98 rfl rfl ?_
                refine zz_if_ne (y0 := 0) M 110 dX8_law_99 (by decide) (fun c => ?_) (fun c => ?_)
                · have h := zifn (c := x1 = 0) h c
                  refine zz_iload_n M 2 dX8_law_110 rfl rfl ?_
                  refine zz_iconst (v := 1) M dX8_law_111 (by decide) ?_
                  refine zz_icmp_ne M 123 dX8_law_112 (by decide) (fun c => ?_) (fun c => ?_)
                  · have h := zifn (c := x1 = 1) h c
                    refine zz_aload_n M 1 dX8_law_123 rfl rfl ?_
                    refine zz_getR M f_X8_41 tM_0 rfl dX8_law_124 ?_
                    refine zz_iload_n M 3 dX8_law_127 rfl rfl ?_
                    refine zz_iload_n M 4 dX8_law_128 rfl rfl ?_
                    refine zz_iast M tM_8 h.1 dX8_law_129 ?_
                    have h := h.2
                    refine zz_sg (fun σ127 eσ127 => ?_)
                    have h := h σ127 eσ127
                    refine zz_iload M 0 dX8_law_130 rfl ?_
                    exact zz_iret M dX8_law_132 h
                  · have h := zif (c := x1 = 1) h c
                    refine zz_aload_n M 1 dX8_law_115 rfl rfl ?_
                    refine zz_iload_n M 4 dX8_law_116 rfl rfl ?_
                    refine zz_putI M f_X8_35 tM_0 rfl dX8_law_117 ?_
                    refine zz_sg (fun σ128 eσ128 => ?_)
                    have h := h σ128 eσ128
                    refine zz_goto M 130 dX8_law_120 (by decide) ?_
                    refine zz_iload M 0 dX8_law_130 rfl ?_
                    exact zz_iret M dX8_law_132 h
                · have h := zif (c := x1 = 0) h c
                  refine zz_aload_n M 1 dX8_law_102 rfl rfl ?_
                  refine zz_iload_n M 4 dX8_law_103 rfl rfl ?_
                  refine zz_putI M f_X8_32 tM_0 rfl dX8_law_104 ?_
                  refine zz_sg (fun σ129 eσ129 => ?_)
                  have h := h σ129 eσ129
                  refine zz_goto M 130 dX8_law_107 (by decide) ?_
                  refine zz_iload M 0 dX8_law_130 rfl ?_
                  exact zz_iret M dX8_law_132 h
            · have h := zif (c := x1 = 0) h c
              refine zz_aload_n M 0 dX8_law_71 rfl rfl ?_
              refine zz_getI M f_X8_32 tM_0 rfl dX8_law_72 ?_
              refine zz_goto M 96 dX8_law_75 (by decide) ?_
              refine zz_topi (fun x130 ex130 => ?_)
              have h := h x130 ex130
              refine zz_istore M [(4, .int x130), (0, .ref (ad 0)), (1, .int x1), (2, .int x2), (3, .int x3)] dX8_law_96 (by decide) rfl ?_
              refine zz_iload_n M 2 dX8_law_98 rfl rfl ?_
              refine zz_if_ne (y0 := 0) M 110 dX8_law_99 (by decide) (fun c => ?_) (fun c => ?_)
              · have h := zifn (c := x1 = 0) h c
                refine zz_iload_n M 2 dX8_law_110 rfl rfl ?_
                refine zz_iconst (v := 1) M dX8_law_111 (by decide) ?_
                refine zz_icmp_ne M 123 dX8_law_112 (by decide) (fun c => ?_) (fun c => ?_)
                · have h := zifn (c := x1 = 1) h c
                  refine zz_aload_n M 1 dX8_law_123 rfl rfl ?_
                  refine zz_getR M f_X8_41 tM_0 rfl dX8_law_124 ?_
                  refine zz_iload_n M 3 dX8_law_127 rfl rfl ?_
                  refine zz_iload_n M 4 dX8_law_128 rfl rfl ?_
                  refine zz_iast M tM_8 h.1 dX8_law_129 ?_
                  have h := h.2
                  refine zz_sg (fun σ131 eσ131 => ?_)
                  have h := h σ131 eσ131
                  refine zz_iload M 0 dX8_law_130 rfl ?_
                  exact zz_iret M dX8_law_132 h
                · have h := zif (c := x1 = 1) h c
                  refine zz_aload_n M 1 dX8_law_115 rfl rfl ?_
                  refine zz_iload_n M 4 dX8_law_116 rfl rfl ?_
                  refine zz_putI M f_X8_35 tM_0 rfl dX8_law_117 ?_
                  refine zz_sg (fun σ132 eσ132 => ?_)
                  have h := h σ132 eσ132
                  refine zz_goto M 130 dX8_law_120 (by decide) ?_
                  refine zz_iload M 0 dX8_law_130 rfl ?_
                  exact zz_iret M dX8_law_132 h
              · have h := zif (c := x1 = 0) h c
                refine zz_aload_n M 1 dX8_law_102 rfl rfl ?_
                refine zz_iload_n M 4 dX8_law_103 rfl rfl ?_
                refine zz_putI M f_X8_32 tM_0 rfl dX8_law_104 ?_
                refine zz_sg (fun σ133 eσ133 => ?_)
                have h := h σ133 eσ133
                refine zz_goto M 130 dX8_law_107 (by decide) ?_
                refine zz_iload M 0 dX8_law_130 rfl ?_
                exact zz_iret M dX8_law_132 h
          · have h := zif (c := r120 = 0) h c
            refine zz_bipush (v := (-2)) M dX8_law_64 (by decide) ?_
            exact zz_iret M dX8_law_66 h
      · have h := zif (c := x1 = 2) h c
        refine zz_lconst (v := 0) M dX8_law_40 (by decide) ?_
        refine zz_goto M 45 dX8_law_41 (by decide) ?_
        refine zz_iload_n M 1 dX8_law_45 rfl rfl ?_
        refine zz_if_ne (y0 := 0) M 55 dX8_law_46 (by decide) (fun c => ?_) (fun c => ?_)
        · have h := zifn (c := x1 = 0) h c
          refine zz_ldc2 (v := 9) M k_X8_106 dX8_law_55 ?_
          obtain ⟨a134, ea134⟩ : ∃ z : Int64, z = ((x3 : Int32).toInt64) := ⟨_, rfl⟩
          have h := h a134 ea134
          refine zz_st [.long 9, .long 0, .long a134] (by rw [ea134]) ?_
          refine zz_callSI (d' := 1) (As := [.long a134, .long 0, .long 9]) (rest := []) M l_X8_92 dX8_law_58 rfl rfl (by decide) (Nat.le_of_ble_eq_true rfl) (by have hI := M.2.2.2.2.2.2.2.2; exact kX8_in hI _ _ _  _ _ h) (fun r135 σ136 h => ?_)
          refine zz_if_ne (y0 := 0) M 67 dX8_law_61 (by decide) (fun c => ?_) (fun c => ?_)
          · have h := zifn (c := r135 = 0) h c
            refine zz_iload_n M 1 dX8_law_67 rfl rfl ?_
            refine zz_if_ne (y0 := 0) M 78 dX8_law_68 (by decide) (fun c => ?_) (fun c => ?_)
            · have h := zifn (c := x1 = 0) h c
              refine zz_iload_n M 1 dX8_law_78 rfl rfl ?_
              refine zz_iconst (v := 1) M dX8_law_79 (by decide) ?_
              refine zz_icmp_ne M 90 dX8_law_80 (by decide) (fun c => ?_) (fun c => ?_)
              · have h := zifn (c := x1 = 1) h c
                refine zz_aload_n M 0 dX8_law_90 rfl rfl ?_
                refine zz_getR M f_X8_41 tM_0 rfl dX8_law_91 ?_
                refine zz_iload_n M 2 dX8_law_94 rfl rfl ?_
                refine zz_iald M tM_8 h.1 dX8_law_95 ?_
                have h := h.2
                refine zz_topi (fun x137 ex137 => ?_)
                have h := h x137 ex137
                refine zz_istore M [(4, .int x137), (0, .ref (ad 0)), (1, .int x1), (2, .int x2), (3, .int x3)] dX8_law_96 (by decide) rfl ?_
                refine zz_iload_n M 2 dX8_law_98 rfl rfl ?_
                refine zz_if_ne (y0 := 0) M 110 dX8_law_99 (by decide) (fun c => ?_) (fun c => ?_)
                · have h := zifn (c := x1 = 0) h c
                  refine zz_iload_n M 2 dX8_law_110 rfl rfl ?_
                  refine zz_iconst (v := 1) M dX8_law_111 (by decide) ?_
                  refine zz_icmp_ne M 123 dX8_law_112 (by decide) (fun c => ?_) (fun c => ?_)
                  · have h := zifn (c := x1 = 1) h c
                    refine zz_aload_n M 1 dX8_law_123 rfl rfl ?_
                    refine zz_getR M f_X8_41 tM_0 rfl dX8_law_124 ?_
                    refine zz_iload_n M 3 dX8_law_127 rfl rfl ?_
                    refine zz_iload_n M 4 dX8_law_128 rfl rfl ?_
                    refine zz_iast M tM_8 h.1 dX8_law_129 ?_
                    have h := h.2
                    refine zz_sg (fun σ138 eσ138 => ?_)
                    have h := h σ138 eσ138
                    refine zz_iload M 0 dX8_law_130 rfl ?_
                    exact zz_iret M dX8_law_132 h
                  · have h := zif (c := x1 = 1) h c
                    refine zz_aload_n M 1 dX8_law_115 rfl rfl ?_
                    refine zz_iload_n M 4 dX8_law_116 rfl rfl ?_
                    refine zz_putI M f_X8_35 tM_0 rfl dX8_law_117 ?_
                    refine zz_sg (fun σ139 eσ139 => ?_)
                    have h := h σ139 eσ139
                    refine zz_goto M 130 dX8_law_120 (by decide) ?_
                    refine zz_iload M 0 dX8_law_130 rfl ?_
                    exact zz_iret M dX8_law_132 h
                · have h := zif (c := x1 = 0) h c
                  refine zz_aload_n M 1 dX8_law_102 rfl rfl ?_
                  refine zz_iload_n M 4 dX8_law_103 rfl rfl ?_
                  refine zz_putI M f_X8_32 tM_0 rfl dX8_law_104 ?_
                  refine zz_sg (fun σ140 eσ140 => ?_)
                  have h := h σ140 eσ140
                  refine zz_goto M 130 dX8_law_107 (by decide) ?_
                  refine zz_iload M 0 dX8_law_130 rfl ?_
                  exact zz_iret M dX8_law_132 h
              · have h := zif (c := x1 = 1) h c
                refine zz_aload_n M 0 dX8_law_83 rfl rfl ?_
                refine zz_getI M f_X8_35 tM_0 rfl dX8_law_84 ?_
                refine zz_goto M 96 dX8_law_87 (by decide) ?_
                refine zz_topi (fun x141 ex141 => ?_)
                have h := h x141 ex141
                refine zz_istore M [(4, .int x141), (0, .ref (ad 0)), (1, .int x1), (2, .int x2), (3, .int x3)] dX8_law_96 (by decide) rfl ?_
                refine zz_iload_n M 2 dX8_law_98 rfl rfl ?_
                refine zz_if_ne (y0 := 0) M 110 dX8_law_99 (by decide) (fun c => ?_) (fun c => ?_)
                · have h := zifn (c := x1 = 0) h c
                  refine zz_iload_n M 2 dX8_law_110 rfl rfl ?_
                  refine zz_iconst (v := 1) M dX8_law_111 (by decide) ?_
                  refine zz_icmp_ne M 123 dX8_law_112 (by decide) (fun c => ?_) (fun c => ?_)
                  · have h := zifn (c := x1 = 1) h c
                    refine zz_aload_n M 1 dX8_law_123 rfl rfl ?_
                    refine zz_getR M f_X8_41 tM_0 rfl dX8_law_124 ?_
                    refine zz_iload_n M 3 dX8_law_127 rfl rfl ?_
                    refine zz_iload_n M 4 dX8_law_128 rfl rfl ?_
                    refine zz_iast M tM_8 h.1 dX8_law_129 ?_
                    have h := h.2
                    refine zz_sg (fun σ142 eσ142 => ?_)
                    have h := h σ142 eσ142
                    refine zz_iload M 0 dX8_law_130 rfl ?_
                    exact zz_iret M dX8_law_132 h
                  · have h := zif (c := x1 = 1) h c
                    refine zz_aload_n M 1 dX8_law_115 rfl rfl ?_
                    refine zz_iload_n M 4 dX8_law_116 rfl rfl ?_
                    refine zz_putI M f_X8_35 tM_0 rfl dX8_law_117 ?_
                    refine zz_sg (fun σ143 eσ143 => ?_)
                    have h := h σ143 eσ143
                    refine zz_goto M 130 dX8_law_120 (by decide) ?_
                    refine zz_iload M 0 dX8_law_130 rfl ?_
                    exact zz_iret M dX8_law_132 h
                · have h := zif (c := x1 = 0) h c
                  refine zz_aload_n M 1 dX8_law_102 rfl rfl ?_
                  refine zz_iload_n M 4 dX8_law_103 rfl rfl ?_
                  refine zz_putI M f_X8_32 tM_0 rfl dX8_law_104 ?_
                  refine zz_sg (fun σ144 eσ144 => ?_)
                  have h := h σ144 eσ144
                  refine zz_goto M 130 dX8_law_107 (by decide) ?_
                  refine zz_iload M 0 dX8_law_130 rfl ?_
                  exact zz_iret M dX8_law_132 h
            · have h := zif (c := x1 = 0) h c
              refine zz_aload_n M 0 dX8_law_71 rfl rfl ?_
              refine zz_getI M f_X8_32 tM_0 rfl dX8_law_72 ?_
              refine zz_goto M 96 dX8_law_75 (by decide) ?_
              refine zz_topi (fun x145 ex145 => ?_)
              have h := h x145 ex145
              refine zz_istore M [(4, .int x145), (0, .ref (ad 0)), (1, .int x1), (2, .int x2), (3, .int x3)] dX8_law_96 (by decide) rfl ?_
              refine zz_iload_n M 2 dX8_law_98 rfl rfl ?_
              refine zz_if_ne (y0 := 0) M 110 dX8_law_99 (by decide) (fun c => ?_) (fun c => ?_)
              · have h := zifn (c := x1 = 0) h c
                refine zz_iload_n M 2 dX8_law_110 rfl rfl ?_
                refine zz_iconst (v := 1) M dX8_law_111 (by decide) ?_
                refine zz_icmp_ne M 123 dX8_law_112 (by decide) (fun c => ?_) (fun c => ?_)
                · have h := zifn (c := x1 = 1) h c
                  refine zz_aload_n M 1 dX8_law_123 rfl rfl ?_
                  refine zz_getR M f_X8_41 tM_0 rfl dX8_law_124 ?_
                  refine zz_iload_n M 3 dX8_law_127 rfl rfl ?_
                  refine zz_iload_n M 4 dX8_law_128 rfl rfl ?_
                  refine zz_iast M tM_8 h.1 dX8_law_129 ?_
                  have h := h.2
                  refine zz_sg (fun σ146 eσ146 => ?_)
                  have h := h σ146 eσ146
                  refine zz_iload M 0 dX8_law_130 rfl ?_
                  exact zz_iret M dX8_law_132 h
                · have h := zif (c := x1 = 1) h c
                  refine zz_aload_n M 1 dX8_law_115 rfl rfl ?_
                  refine zz_iload_n M 4 dX8_law_116 rfl rfl ?_
                  refine zz_putI M f_X8_35 tM_0 rfl dX8_law_117 ?_
                  refine zz_sg (fun σ147 eσ147 => ?_)
                  have h := h σ147 eσ147
                  refine zz_goto M 130 dX8_law_120 (by decide) ?_
                  refine zz_iload M 0 dX8_law_130 rfl ?_
                  exact zz_iret M dX8_law_132 h
              · have h := zif (c := x1 = 0) h c
                refine zz_aload_n M 1 dX8_law_102 rfl rfl ?_
                refine zz_iload_n M 4 dX8_law_103 rfl rfl ?_
                refine zz_putI M f_X8_32 tM_0 rfl dX8_law_104 ?_
                refine zz_sg (fun σ148 eσ148 => ?_)
                have h := h σ148 eσ148
                refine zz_goto M 130 dX8_law_107 (by decide) ?_
                refine zz_iload M 0 dX8_law_130 rfl ?_
                exact zz_iret M dX8_law_132 h
          · have h := zif (c := r135 = 0) h c
            refine zz_bipush (v := (-2)) M dX8_law_64 (by decide) ?_
            exact zz_iret M dX8_law_66 h
        · have h := zif (c := x1 = 0) h c
          refine zz_ldc2 (v := 4) M k_X8_117 dX8_law_49 ?_
          refine zz_goto M 58 dX8_law_52 (by decide) ?_
          obtain ⟨a149, ea149⟩ : ∃ z : Int64, z = ((x3 : Int32).toInt64) := ⟨_, rfl⟩
          have h := h a149 ea149
          refine zz_st [.long 4, .long 0, .long a149] (by rw [ea149]) ?_
          refine zz_callSI (d' := 1) (As := [.long a149, .long 0, .long 4]) (rest := []) M l_X8_92 dX8_law_58 rfl rfl (by decide) (Nat.le_of_ble_eq_true rfl) (by have hI := M.2.2.2.2.2.2.2.2; exact kX8_in hI _ _ _  _ _ h) (fun r150 σ151 h => ?_)
          refine zz_if_ne (y0 := 0) M 67 dX8_law_61 (by decide) (fun c => ?_) (fun c => ?_)
          · have h := zifn (c := r150 = 0) h c
            refine zz_iload_n M 1 dX8_law_67 rfl rfl ?_
            refine zz_if_ne (y0 := 0) M 78 dX8_law_68 (by decide) (fun c => ?_) (fun c => ?_)
            · have h := zifn (c := x1 = 0) h c
              refine zz_iload_n M 1 dX8_law_78 rfl rfl ?_
              refine zz_iconst (v := 1) M dX8_law_79 (by decide) ?_
              refine zz_icmp_ne M 90 dX8_law_80 (by decide) (fun c => ?_) (fun c => ?_)
              · have h := zifn (c := x1 = 1) h c
                refine zz_aload_n M 0 dX8_law_90 rfl rfl ?_
                refine zz_getR M f_X8_41 tM_0 rfl dX8_law_91 ?_
                refine zz_iload_n M 2 dX8_law_94 rfl rfl ?_
                refine zz_iald M tM_8 h.1 dX8_law_95 ?_
                have h := h.2
                refine zz_topi (fun x152 ex152 => ?_)
                have h := h x152 ex152
                refine zz_istore M [(4, .int x152), (0, .ref (ad 0)), (1, .int x1), (2, .int x2), (3, .int x3)] dX8_law_96 (by decide) rfl ?_
                refine zz_iload_n M 2 dX8_law_98 rfl rfl ?_
                refine zz_if_ne (y0 := 0) M 110 dX8_law_99 (by decide) (fun c => ?_) (fun c => ?_)
                · have h := zifn (c := x1 = 0) h c
                  refine zz_iload_n M 2 dX8_law_110 rfl rfl ?_
                  refine zz_iconst (v := 1) M dX8_law_111 (by decide) ?_
                  refine zz_icmp_ne M 123 dX8_law_112 (by decide) (fun c => ?_) (fun c => ?_)
                  · have h := zifn (c := x1 = 1) h c
                    refine zz_aload_n M 1 dX8_law_123 rfl rfl ?_
                    refine zz_getR M f_X8_41 tM_0 rfl dX8_law_124 ?_
                    refine zz_iload_n M 3 dX8_law_127 rfl rfl ?_
                    refine zz_iload_n M 4 dX8_law_128 rfl rfl ?_
                    refine zz_iast M tM_8 h.1 dX8_law_129 ?_
                    have h := h.2
                    refine zz_sg (fun σ153 eσ153 => ?_)
                    have h := h σ153 eσ153
                    refine zz_iload M 0 dX8_law_130 rfl ?_
                    exact zz_iret M dX8_law_132 h
                  · have h := zif (c := x1 = 1) h c
                    refine zz_aload_n M 1 dX8_law_115 rfl rfl ?_
                    refine zz_iload_n M 4 dX8_law_116 rfl rfl ?_
                    refine zz_putI M f_X8_35 tM_0 rfl dX8_law_117 ?_
                    refine zz_sg (fun σ154 eσ154 => ?_)
                    have h := h σ154 eσ154
                    refine zz_goto M 130 dX8_law_120 (by decide) ?_
                    refine zz_iload M 0 dX8_law_130 rfl ?_
                    exact zz_iret M dX8_law_132 h
                · have h := zif (c := x1 = 0) h c
                  refine zz_aload_n M 1 dX8_law_102 rfl rfl ?_
                  refine zz_iload_n M 4 dX8_law_103 rfl rfl ?_
                  refine zz_putI M f_X8_32 tM_0 rfl dX8_law_104 ?_
                  refine zz_sg (fun σ155 eσ155 => ?_)
                  have h := h σ155 eσ155
                  refine zz_goto M 130 dX8_law_107 (by decide) ?_
                  refine zz_iload M 0 dX8_law_130 rfl ?_
                  exact zz_iret M dX8_law_132 h
              · have h := zif (c := x1 = 1) h c
                refine zz_aload_n M 0 dX8_law_83 rfl rfl ?_
                refine zz_getI M f_X8_35 tM_0 rfl dX8_law_84 ?_
                refine zz_goto M 96 dX8_law_87 (by decide) ?_
                refine zz_topi (fun x156 ex156 => ?_)
                have h := h x156 ex156
                refine zz_istore M [(4, .int x156), (0, .ref (ad 0)), (1, .int x1), (2, .int x2), (3, .int x3)] dX8_law_96 (by decide) rfl ?_
                refine zz_iload_n M 2 dX8_law_98 rfl rfl ?_
                refine zz_if_ne (y0 := 0) M 110 dX8_law_99 (by decide) (fun c => ?_) (fun c => ?_)
                · have h := zifn (c := x1 = 0) h c
                  refine zz_iload_n M 2 dX8_law_110 rfl rfl ?_
                  refine zz_iconst (v := 1) M dX8_law_111 (by decide) ?_
                  refine zz_icmp_ne M 123 dX8_law_112 (by decide) (fun c => ?_) (fun c => ?_)
                  · have h := zifn (c := x1 = 1) h c
                    refine zz_aload_n M 1 dX8_law_123 rfl rfl ?_
                    refine zz_getR M f_X8_41 tM_0 rfl dX8_law_124 ?_
                    refine zz_iload_n M 3 dX8_law_127 rfl rfl ?_
                    refine zz_iload_n M 4 dX8_law_128 rfl rfl ?_
                    refine zz_iast M tM_8 h.1 dX8_law_129 ?_
                    have h := h.2
                    refine zz_sg (fun σ157 eσ157 => ?_)
                    have h := h σ157 eσ157
                    refine zz_iload M 0 dX8_law_130 rfl ?_
                    exact zz_iret M dX8_law_132 h
                  · have h := zif (c := x1 = 1) h c
                    refine zz_aload_n M 1 dX8_law_115 rfl rfl ?_
                    refine zz_iload_n M 4 dX8_law_116 rfl rfl ?_
                    refine zz_putI M f_X8_35 tM_0 rfl dX8_law_117 ?_
                    refine zz_sg (fun σ158 eσ158 => ?_)
                    have h := h σ158 eσ158
                    refine zz_goto M 130 dX8_law_120 (by decide) ?_
                    refine zz_iload M 0 dX8_law_130 rfl ?_
                    exact zz_iret M dX8_law_132 h
                · have h := zif (c := x1 = 0) h c
                  refine zz_aload_n M 1 dX8_law_102 rfl rfl ?_
                  refine zz_iload_n M 4 dX8_law_103 rfl rfl ?_
                  refine zz_putI M f_X8_32 tM_0 rfl dX8_law_104 ?_
                  refine zz_sg (fun σ159 eσ159 => ?_)
                  have h := h σ159 eσ159
                  refine zz_goto M 130 dX8_law_107 (by decide) ?_
                  refine zz_iload M 0 dX8_law_130 rfl ?_
                  exact zz_iret M dX8_law_132 h
            · have h := zif (c := x1 = 0) h c
              refine zz_aload_n M 0 dX8_law_71 rfl rfl ?_
              refine zz_getI M f_X8_32 tM_0 rfl dX8_law_72 ?_
              refine zz_goto M 96 dX8_law_75 (by decide) ?_
              refine zz_topi (fun x160 ex160 => ?_)
              have h := h x160 ex160
              refine zz_istore M [(4, .int x160), (0, .ref (ad 0)), (1, .int x1), (2, .int x2), (3, .int x3)] dX8_law_96 (by decide) rfl ?_
              refine zz_iload_n M 2 dX8_law_98 rfl rfl ?_
              refine zz_if_ne (y0 := 0) M 110 dX8_law_99 (by decide) (fun c => ?_) (fun c => ?_)
              · have h := zifn (c := x1 = 0) h c
                refine zz_iload_n M 2 dX8_law_110 rfl rfl ?_
                refine zz_iconst (v := 1) M dX8_law_111 (by decide) ?_
                refine zz_icmp_ne M 123 dX8_law_112 (by decide) (fun c => ?_) (fun c => ?_)
                · have h := zifn (c := x1 = 1) h c
                  refine zz_aload_n M 1 dX8_law_123 rfl rfl ?_
                  refine zz_getR M f_X8_41 tM_0 rfl dX8_law_124 ?_
                  refine zz_iload_n M 3 dX8_law_127 rfl rfl ?_
                  refine zz_iload_n M 4 dX8_law_128 rfl rfl ?_
                  refine zz_iast M tM_8 h.1 dX8_law_129 ?_
                  have h := h.2
                  refine zz_sg (fun σ161 eσ161 => ?_)
                  have h := h σ161 eσ161
                  refine zz_iload M 0 dX8_law_130 rfl ?_
                  exact zz_iret M dX8_law_132 h
                · have h := zif (c := x1 = 1) h c
                  refine zz_aload_n M 1 dX8_law_115 rfl rfl ?_
                  refine zz_iload_n M 4 dX8_law_116 rfl rfl ?_
                  refine zz_putI M f_X8_35 tM_0 rfl dX8_law_117 ?_
                  refine zz_sg (fun σ162 eσ162 => ?_)
                  have h := h σ162 eσ162
                  refine zz_goto M 130 dX8_law_120 (by decide) ?_
                  refine zz_iload M 0 dX8_law_130 rfl ?_
                  exact zz_iret M dX8_law_132 h
              · have h := zif (c := x1 = 0) h c
                refine zz_aload_n M 1 dX8_law_102 rfl rfl ?_
                refine zz_iload_n M 4 dX8_law_103 rfl rfl ?_
                refine zz_putI M f_X8_32 tM_0 rfl dX8_law_104 ?_
                refine zz_sg (fun σ163 eσ163 => ?_)
                have h := h σ163 eσ163
                refine zz_goto M 130 dX8_law_107 (by decide) ?_
                refine zz_iload M 0 dX8_law_130 rfl ?_
                exact zz_iret M dX8_law_132 h
          · have h := zif (c := r150 = 0) h c
            refine zz_bipush (v := (-2)) M dX8_law_64 (by decide) ?_
            exact zz_iret M dX8_law_66 h
    · have h := zif (c := x1 = 2) h c
      refine zz_iload_n M 2 dX8_law_17 rfl rfl ?_
      refine zz_i2l M dX8_law_18 ?_
      refine zz_lconst (v := 0) M dX8_law_19 (by decide) ?_
      refine zz_aload_n M 0 dX8_law_20 rfl rfl ?_
      refine zz_getI M f_X8_114 tM_0 rfl dX8_law_21 ?_
      refine zz_iconst (v := 1) M dX8_law_24 (by decide) ?_
      refine zz_isub M dX8_law_25 ?_
      refine zz_i2l M dX8_law_26 ?_
      obtain ⟨a164, ea164⟩ : ∃ z : Int64, z = ((x2 : Int32).toInt64) := ⟨_, rfl⟩
      have h := h a164 ea164
      obtain ⟨a165, ea165⟩ : ∃ z : Int64, z = (((σ103.1 0 16) - 1 : Int32).toInt64) := ⟨_, rfl⟩
      have h := h a165 ea165
      refine zz_st [.long a165, .long 0, .long a164] (by rw [ea164, ea165]) ?_
      refine zz_callSI (d' := 1) (As := [.long a164, .long 0, .long a165]) (rest := []) M l_X8_92 dX8_law_27 rfl rfl (by decide) (Nat.le_of_ble_eq_true rfl) (by have hI := M.2.2.2.2.2.2.2.2; exact kX8_in hI _ _ _  _ _ h) (fun r166 σ167 h => ?_)
      refine zz_if_eq (y0 := 0) M 64 dX8_law_30 (by decide) (fun c => ?_) (fun c => ?_)
      · have h := zif (c := r166 = 0) h c
        refine zz_bipush (v := (-2)) M dX8_law_64 (by decide) ?_
        exact zz_iret M dX8_law_66 h
      · have h := zifn (c := r166 = 0) h c
        refine zz_iload_n M 3 dX8_law_33 rfl rfl ?_
        refine zz_i2l M dX8_law_34 ?_
        refine zz_iload_n M 1 dX8_law_35 rfl rfl ?_
        refine zz_iconst (v := 2) M dX8_law_36 (by decide) ?_
        refine zz_icmp_ne M 44 dX8_law_37 (by decide) (fun c => ?_) (fun c => ?_)
        · have h := zifn (c := x1 = 2) h c
          refine zz_lconst (v := 1) M dX8_law_44 (by decide) ?_
          refine zz_iload_n M 1 dX8_law_45 rfl rfl ?_
          refine zz_if_ne (y0 := 0) M 55 dX8_law_46 (by decide) (fun c => ?_) (fun c => ?_)
          · have h := zifn (c := x1 = 0) h c
            refine zz_ldc2 (v := 9) M k_X8_106 dX8_law_55 ?_
            obtain ⟨a168, ea168⟩ : ∃ z : Int64, z = ((x3 : Int32).toInt64) := ⟨_, rfl⟩
            have h := h a168 ea168
            refine zz_st [.long 9, .long 1, .long a168] (by rw [ea168]) ?_
            refine zz_callSI (d' := 1) (As := [.long a168, .long 1, .long 9]) (rest := []) M l_X8_92 dX8_law_58 rfl rfl (by decide) (Nat.le_of_ble_eq_true rfl) (by have hI := M.2.2.2.2.2.2.2.2; exact kX8_in hI _ _ _  _ _ h) (fun r169 σ170 h => ?_)
            refine zz_if_ne (y0 := 0) M 67 dX8_law_61 (by decide) (fun c => ?_) (fun c => ?_)
            · have h := zifn (c := r169 = 0) h c
              refine zz_iload_n M 1 dX8_law_67 rfl rfl ?_
              refine zz_if_ne (y0 := 0) M 78 dX8_law_68 (by decide) (fun c => ?_) (fun c => ?_)
              · have h := zifn (c := x1 = 0) h c
                refine zz_iload_n M 1 dX8_law_78 rfl rfl ?_
                refine zz_iconst (v := 1) M dX8_law_79 (by decide) ?_
                refine zz_icmp_ne M 90 dX8_law_80 (by decide) (fun c => ?_) (fun c => ?_)
                · have h := zifn (c := x1 = 1) h c
                  refine zz_aload_n M 0 dX8_law_90 rfl rfl ?_
                  refine zz_getR M f_X8_41 tM_0 rfl dX8_law_91 ?_
                  refine zz_iload_n M 2 dX8_law_94 rfl rfl ?_
                  refine zz_iald M tM_8 h.1 dX8_law_95 ?_
                  have h := h.2
                  refine zz_topi (fun x171 ex171 => ?_)
                  have h := h x171 ex171
                  refine zz_istore M [(4, .int x171), (0, .ref (ad 0)), (1, .int x1), (2, .int x2), (3, .int x3)] dX8_law_96 (by decide) rfl ?_
                  refine zz_iload_n M 2 dX8_law_98 rfl rfl ?_
                  refine zz_if_ne (y0 := 0) M 110 dX8_law_99 (by decide) (fun c => ?_) (fun c => ?_)
                  · have h := zifn (c := x1 = 0) h c
                    refine zz_iload_n M 2 dX8_law_110 rfl rfl ?_
                    refine zz_iconst (v := 1) M dX8_law_111 (by decide) ?_
                    refine zz_icmp_ne M 123 dX8_law_112 (by decide) (fun c => ?_) (fun c => ?_)
                    · have h := zifn (c := x1 = 1) h c
                      refine zz_aload_n M 1 dX8_law_123 rfl rfl ?_
                      refine zz_getR M f_X8_41 tM_0 rfl dX8_law_124 ?_
                      refine zz_iload_n M 3 dX8_law_127 rfl rfl ?_
                      refine zz_iload_n M 4 dX8_law_128 rfl rfl ?_
                      refine zz_iast M tM_8 h.1 dX8_law_129 ?_
                      have h := h.2
                      refine zz_sg (fun σ172 eσ172 => ?_)
                      have h := h σ172 eσ172
                      refine zz_iload M 0 dX8_law_130 rfl ?_
                      exact zz_iret M dX8_law_132 h
                    · have h := zif (c := x1 = 1) h c
                      refine zz_aload_n M 1 dX8_law_115 rfl rfl ?_
                      refine zz_iload_n M 4 dX8_law_116 rfl rfl ?_
                      refine zz_putI M f_X8_35 tM_0 rfl dX8_law_117 ?_
                      refine zz_sg (fun σ173 eσ173 => ?_)
                      have h := h σ173 eσ173
                      refine zz_goto M 130 dX8_law_120 (by decide) ?_
                      refine zz_iload M 0 dX8_law_130 rfl ?_
                      exact zz_iret M dX8_law_132 h
                  · have h := zif (c := x1 = 0) h c
                    refine zz_aload_n M 1 dX8_law_102 rfl rfl ?_
                    refine zz_iload_n M 4 dX8_law_103 rfl rfl ?_
                    refine zz_putI M f_X8_32 tM_0 rfl dX8_law_104 ?_
                    refine zz_sg (fun σ174 eσ174 => ?_)
                    have h := h σ174 eσ174
                    refine zz_goto M 130 dX8_law_107 (by decide) ?_
                    refine zz_iload M 0 dX8_law_130 rfl ?_
                    exact zz_iret M dX8_law_132 h
                · have h := zif (c := x1 = 1) h c
                  refine zz_aload_n M 0 dX8_law_83 rfl rfl ?_
                  refine zz_getI M f_X8_35 tM_0 rfl dX8_law_84 ?_
                  refine zz_goto M 96 dX8_law_87 (by decide) ?_
                  refine zz_topi (fun x175 ex175 => ?_)
                  have h := h x175 ex175
                  refine zz_istore M [(4, .int x175), (0, .ref (ad 0)), (1, .int x1), (2, .int x2), (3, .int x3)] dX8_law_96 (by decide) rfl ?_
                  refine zz_iload_n M 2 dX8_law_98 rfl rfl ?_
                  refine zz_if_ne (y0 := 0) M 110 dX8_law_99 (by decide) (fun c => ?_) (fun c => ?_)
                  · have h := zifn (c := x1 = 0) h c
                    refine zz_iload_n M 2 dX8_law_110 rfl rfl ?_
                    refine zz_iconst (v := 1) M dX8_law_111 (by decide) ?_
                    refine zz_icmp_ne M 123 dX8_law_112 (by decide) (fun c => ?_) (fun c => ?_)
                    · have h := zifn (c := x1 = 1) h c
                      refine zz_aload_n M 1 dX8_law_123 rfl rfl ?_
                      refine zz_getR M f_X8_41 tM_0 rfl dX8_law_124 ?_
                      refine zz_iload_n M 3 dX8_law_127 rfl rfl ?_
                      refine zz_iload_n M 4 dX8_law_128 rfl rfl ?_
                      refine zz_iast M tM_8 h.1 dX8_law_129 ?_
                      have h := h.2
                      refine zz_sg (fun σ176 eσ176 => ?_)
                      have h := h σ176 eσ176
                      refine zz_iload M 0 dX8_law_130 rfl ?_
                      exact zz_iret M dX8_law_132 h
                    · have h := zif (c := x1 = 1) h c
                      refine zz_aload_n M 1 dX8_law_115 rfl rfl ?_
                      refine zz_iload_n M 4 dX8_law_116 rfl rfl ?_
                      refine zz_putI M f_X8_35 tM_0 rfl dX8_law_117 ?_
                      refine zz_sg (fun σ177 eσ177 => ?_)
                      have h := h σ177 eσ177
                      refine zz_goto M 130 dX8_law_120 (by decide) ?_
                      refine zz_iload M 0 dX8_law_130 rfl ?_
                      exact zz_iret M dX8_law_132 h
                  · have h := zif (c := x1 = 0) h c
                    refine zz_aload_n M 1 dX8_law_102 rfl rfl ?_
                    refine zz_iload_n M 4 dX8_law_103 rfl rfl ?_
                    refine zz_putI M f_X8_32 tM_0 rfl dX8_law_104 ?_
                    refine zz_sg (fun σ178 eσ178 => ?_)
                    have h := h σ178 eσ178
                    refine zz_goto M 130 dX8_law_107 (by decide) ?_
                    refine zz_iload M 0 dX8_law_130 rfl ?_
                    exact zz_iret M dX8_law_132 h
              · have h := zif (c := x1 = 0) h c
                refine zz_aload_n M 0 dX8_law_71 rfl rfl ?_
                refine zz_getI M f_X8_32 tM_0 rfl dX8_law_72 ?_
                refine zz_goto M 96 dX8_law_75 (by decide) ?_
                refine zz_topi (fun x179 ex179 => ?_)
                have h := h x179 ex179
                refine zz_istore M [(4, .int x179), (0, .ref (ad 0)), (1, .int x1), (2, .int x2), (3, .int x3)] dX8_law_96 (by decide) rfl ?_
                refine zz_iload_n M 2 dX8_law_98 rfl rfl ?_
                refine zz_if_ne (y0 := 0) M 110 dX8_law_99 (by decide) (fun c => ?_) (fun c => ?_)
                · have h := zifn (c := x1 = 0) h c
                  refine zz_iload_n M 2 dX8_law_110 rfl rfl ?_
                  refine zz_iconst (v := 1) M dX8_law_111 (by decide) ?_
                  refine zz_icmp_ne M 123 dX8_law_112 (by decide) (fun c => ?_) (fun c => ?_)
                  · have h := zifn (c := x1 = 1) h c
                    refine zz_aload_n M 1 dX8_law_123 rfl rfl ?_
                    refine zz_getR M f_X8_41 tM_0 rfl dX8_law_124 ?_
                    refine zz_iload_n M 3 dX8_law_127 rfl rfl ?_
                    refine zz_iload_n M 4 dX8_law_128 rfl rfl ?_
                    refine zz_iast M tM_8 h.1 dX8_law_129 ?_
                    have h := h.2
                    refine zz_sg (fun σ180 eσ180 => ?_)
                    have h := h σ180 eσ180
                    refine zz_iload M 0 dX8_law_130 rfl ?_
                    exact zz_iret M dX8_law_132 h
                  · have h := zif (c := x1 = 1) h c
                    refine zz_aload_n M 1 dX8_law_115 rfl rfl ?_
                    refine zz_iload_n M 4 dX8_law_116 rfl rfl ?_
                    refine zz_putI M f_X8_35 tM_0 rfl dX8_law_117 ?_
                    refine zz_sg (fun σ181 eσ181 => ?_)
                    have h := h σ181 eσ181
                    refine zz_goto M 130 dX8_law_120 (by decide) ?_
                    refine zz_iload M 0 dX8_law_130 rfl ?_
                    exact zz_iret M dX8_law_132 h
                · have h := zif (c := x1 = 0) h c
                  refine zz_aload_n M 1 dX8_law_102 rfl rfl ?_
                  refine zz_iload_n M 4 dX8_law_103 rfl rfl ?_
                  refine zz_putI M f_X8_32 tM_0 rfl dX8_law_104 ?_
                  refine zz_sg (fun σ182 eσ182 => ?_)
                  have h := h σ182 eσ182
                  refine zz_goto M 130 dX8_law_107 (by decide) ?_
                  refine zz_iload M 0 dX8_law_130 rfl ?_
                  exact zz_iret M dX8_law_132 h
            · have h := zif (c := r169 = 0) h c
              refine zz_bipush (v := (-2)) M dX8_law_64 (by decide) ?_
              exact zz_iret M dX8_law_66 h
          · have h := zif (c := x1 = 0) h c
            refine zz_ldc2 (v := 4) M k_X8_117 dX8_law_49 ?_
            refine zz_goto M 58 dX8_law_52 (by decide) ?_
            obtain ⟨a183, ea183⟩ : ∃ z : Int64, z = ((x3 : Int32).toInt64) := ⟨_, rfl⟩
            have h := h a183 ea183
            refine zz_st [.long 4, .long 1, .long a183] (by rw [ea183]) ?_
            refine zz_callSI (d' := 1) (As := [.long a183, .long 1, .long 4]) (rest := []) M l_X8_92 dX8_law_58 rfl rfl (by decide) (Nat.le_of_ble_eq_true rfl) (by have hI := M.2.2.2.2.2.2.2.2; exact kX8_in hI _ _ _  _ _ h) (fun r184 σ185 h => ?_)
            refine zz_if_ne (y0 := 0) M 67 dX8_law_61 (by decide) (fun c => ?_) (fun c => ?_)
            · have h := zifn (c := r184 = 0) h c
              refine zz_iload_n M 1 dX8_law_67 rfl rfl ?_
              refine zz_if_ne (y0 := 0) M 78 dX8_law_68 (by decide) (fun c => ?_) (fun c => ?_)
              · have h := zifn (c := x1 = 0) h c
                refine zz_iload_n M 1 dX8_law_78 rfl rfl ?_
                refine zz_iconst (v := 1) M dX8_law_79 (by decide) ?_
                refine zz_icmp_ne M 90 dX8_law_80 (by decide) (fun c => ?_) (fun c => ?_)
                · have h := zifn (c := x1 = 1) h c
                  refine zz_aload_n M 0 dX8_law_90 rfl rfl ?_
                  refine zz_getR M f_X8_41 tM_0 rfl dX8_law_91 ?_
                  refine zz_iload_n M 2 dX8_law_94 rfl rfl ?_
                  refine zz_iald M tM_8 h.1 dX8_law_95 ?_
                  have h := h.2
                  refine zz_topi (fun x186 ex186 => ?_)
                  have h := h x186 ex186
                  refine zz_istore M [(4, .int x186), (0, .ref (ad 0)), (1, .int x1), (2, .int x2), (3, .int x3)] dX8_law_96 (by decide) rfl ?_
                  refine zz_iload_n M 2 dX8_law_98 rfl rfl ?_
                  refine zz_if_ne (y0 := 0) M 110 dX8_law_99 (by decide) (fun c => ?_) (fun c => ?_)
                  · have h := zifn (c := x1 = 0) h c
                    refine zz_iload_n M 2 dX8_law_110 rfl rfl ?_
                    refine zz_iconst (v := 1) M dX8_law_111 (by decide) ?_
                    refine zz_icmp_ne M 123 dX8_law_112 (by decide) (fun c => ?_) (fun c => ?_)
                    · have h := zifn (c := x1 = 1) h c
                      refine zz_aload_n M 1 dX8_law_123 rfl rfl ?_
                      refine zz_getR M f_X8_41 tM_0 rfl dX8_law_124 ?_
                      refine zz_iload_n M 3 dX8_law_127 rfl rfl ?_
                      refine zz_iload_n M 4 dX8_law_128 rfl rfl ?_
                      refine zz_iast M tM_8 h.1 dX8_law_129 ?_
                      have h := h.2
                      refine zz_sg (fun σ187 eσ187 => ?_)
                      have h := h σ187 eσ187
                      refine zz_iload M 0 dX8_law_130 rfl ?_
                      exact zz_iret M dX8_law_132 h
                    · have h := zif (c := x1 = 1) h c
                      refine zz_aload_n M 1 dX8_law_115 rfl rfl ?_
                      refine zz_iload_n M 4 dX8_law_116 rfl rfl ?_
                      refine zz_putI M f_X8_35 tM_0 rfl dX8_law_117 ?_
                      refine zz_sg (fun σ188 eσ188 => ?_)
                      have h := h σ188 eσ188
                      refine zz_goto M 130 dX8_law_120 (by decide) ?_
                      refine zz_iload M 0 dX8_law_130 rfl ?_
                      exact zz_iret M dX8_law_132 h
                  · have h := zif (c := x1 = 0) h c
                    refine zz_aload_n M 1 dX8_law_102 rfl rfl ?_
                    refine zz_iload_n M 4 dX8_law_103 rfl rfl ?_
                    refine zz_putI M f_X8_32 tM_0 rfl dX8_law_104 ?_
                    refine zz_sg (fun σ189 eσ189 => ?_)
                    have h := h σ189 eσ189
                    refine zz_goto M 130 dX8_law_107 (by decide) ?_
                    refine zz_iload M 0 dX8_law_130 rfl ?_
                    exact zz_iret M dX8_law_132 h
                · have h := zif (c := x1 = 1) h c
                  refine zz_aload_n M 0 dX8_law_83 rfl rfl ?_
                  refine zz_getI M f_X8_35 tM_0 rfl dX8_law_84 ?_
                  refine zz_goto M 96 dX8_law_87 (by decide) ?_
                  refine zz_topi (fun x190 ex190 => ?_)
                  have h := h x190 ex190
                  refine zz_istore M [(4, .int x190), (0, .ref (ad 0)), (1, .int x1), (2, .int x2), (3, .int x3)] dX8_law_96 (by decide) rfl ?_
                  refine zz_iload_n M 2 dX8_law_98 rfl rfl ?_
                  refine zz_if_ne (y0 := 0) M 110 dX8_law_99 (by decide) (fun c => ?_) (fun c => ?_)
                  · have h := zifn (c := x1 = 0) h c
                    refine zz_iload_n M 2 dX8_law_110 rfl rfl ?_
                    refine zz_iconst (v := 1) M dX8_law_111 (by decide) ?_
                    refine zz_icmp_ne M 123 dX8_law_112 (by decide) (fun c => ?_) (fun c => ?_)
                    · have h := zifn (c := x1 = 1) h c
                      refine zz_aload_n M 1 dX8_law_123 rfl rfl ?_
                      refine zz_getR M f_X8_41 tM_0 rfl dX8_law_124 ?_
                      refine zz_iload_n M 3 dX8_law_127 rfl rfl ?_
                      refine zz_iload_n M 4 dX8_law_128 rfl rfl ?_
                      refine zz_iast M tM_8 h.1 dX8_law_129 ?_
                      have h := h.2
                      refine zz_sg (fun σ191 eσ191 => ?_)
                      have h := h σ191 eσ191
                      refine zz_iload M 0 dX8_law_130 rfl ?_
                      exact zz_iret M dX8_law_132 h
                    · have h := zif (c := x1 = 1) h c
                      refine zz_aload_n M 1 dX8_law_115 rfl rfl ?_
                      refine zz_iload_n M 4 dX8_law_116 rfl rfl ?_
                      refine zz_putI M f_X8_35 tM_0 rfl dX8_law_117 ?_
                      refine zz_sg (fun σ192 eσ192 => ?_)
                      have h := h σ192 eσ192
                      refine zz_goto M 130 dX8_law_120 (by decide) ?_
                      refine zz_iload M 0 dX8_law_130 rfl ?_
                      exact zz_iret M dX8_law_132 h
                  · have h := zif (c := x1 = 0) h c
                    refine zz_aload_n M 1 dX8_law_102 rfl rfl ?_
                    refine zz_iload_n M 4 dX8_law_103 rfl rfl ?_
                    refine zz_putI M f_X8_32 tM_0 rfl dX8_law_104 ?_
                    refine zz_sg (fun σ193 eσ193 => ?_)
                    have h := h σ193 eσ193
                    refine zz_goto M 130 dX8_law_107 (by decide) ?_
                    refine zz_iload M 0 dX8_law_130 rfl ?_
                    exact zz_iret M dX8_law_132 h
              · have h := zif (c := x1 = 0) h c
                refine zz_aload_n M 0 dX8_law_71 rfl rfl ?_
                refine zz_getI M f_X8_32 tM_0 rfl dX8_law_72 ?_
                refine zz_goto M 96 dX8_law_75 (by decide) ?_
                refine zz_topi (fun x194 ex194 => ?_)
                have h := h x194 ex194
                refine zz_istore M [(4, .int x194), (0, .ref (ad 0)), (1, .int x1), (2, .int x2), (3, .int x3)] dX8_law_96 (by decide) rfl ?_
                refine zz_iload_n M 2 dX8_law_98 rfl rfl ?_
                refine zz_if_ne (y0 := 0) M 110 dX8_law_99 (by decide) (fun c => ?_) (fun c => ?_)
                · have h := zifn (c := x1 = 0) h c
                  refine zz_iload_n M 2 dX8_law_110 rfl rfl ?_
                  refine zz_iconst (v := 1) M dX8_law_111 (by decide) ?_
                  refine zz_icmp_ne M 123 dX8_law_112 (by decide) (fun c => ?_) (fun c => ?_)
                  · have h := zifn (c := x1 = 1) h c
                    refine zz_aload_n M 1 dX8_law_123 rfl rfl ?_
                    refine zz_getR M f_X8_41 tM_0 rfl dX8_law_124 ?_
                    refine zz_iload_n M 3 dX8_law_127 rfl rfl ?_
                    refine zz_iload_n M 4 dX8_law_128 rfl rfl ?_
                    refine zz_iast M tM_8 h.1 dX8_law_129 ?_
                    have h := h.2
                    refine zz_sg (fun σ195 eσ195 => ?_)
                    have h := h σ195 eσ195
                    refine zz_iload M 0 dX8_law_130 rfl ?_
                    exact zz_iret M dX8_law_132 h
                  · have h := zif (c := x1 = 1) h c
                    refine zz_aload_n M 1 dX8_law_115 rfl rfl ?_
                    refine zz_iload_n M 4 dX8_law_116 rfl rfl ?_
                    refine zz_putI M f_X8_35 tM_0 rfl dX8_law_117 ?_
                    refine zz_sg (fun σ196 eσ196 => ?_)
                    have h := h σ196 eσ196
                    refine zz_goto M 130 dX8_law_120 (by decide) ?_
                    refine zz_iload M 0 dX8_law_130 rfl ?_
                    exact zz_iret M dX8_law_132 h
                · have h := zif (c := x1 = 0) h c
                  refine zz_aload_n M 1 dX8_law_102 rfl rfl ?_
                  refine zz_iload_n M 4 dX8_law_103 rfl rfl ?_
                  refine zz_putI M f_X8_32 tM_0 rfl dX8_law_104 ?_
                  refine zz_sg (fun σ197 eσ197 => ?_)
                  have h := h σ197 eσ197
                  refine zz_goto M 130 dX8_law_107 (by decide) ?_
                  refine zz_iload M 0 dX8_law_130 rfl ?_
                  exact zz_iret M dX8_law_132 h
            · have h := zif (c := r184 = 0) h c
              refine zz_bipush (v := (-2)) M dX8_law_64 (by decide) ?_
              exact zz_iret M dX8_law_66 h
        · have h := zif (c := x1 = 2) h c
          refine zz_lconst (v := 0) M dX8_law_40 (by decide) ?_
          refine zz_goto M 45 dX8_law_41 (by decide) ?_
          refine zz_iload_n M 1 dX8_law_45 rfl rfl ?_
          refine zz_if_ne (y0 := 0) M 55 dX8_law_46 (by decide) (fun c => ?_) (fun c => ?_)
          · have h := zifn (c := x1 = 0) h c
            refine zz_ldc2 (v := 9) M k_X8_106 dX8_law_55 ?_
            obtain ⟨a198, ea198⟩ : ∃ z : Int64, z = ((x3 : Int32).toInt64) := ⟨_, rfl⟩
            have h := h a198 ea198
            refine zz_st [.long 9, .long 0, .long a198] (by rw [ea198]) ?_
            refine zz_callSI (d' := 1) (As := [.long a198, .long 0, .long 9]) (rest := []) M l_X8_92 dX8_law_58 rfl rfl (by decide) (Nat.le_of_ble_eq_true rfl) (by have hI := M.2.2.2.2.2.2.2.2; exact kX8_in hI _ _ _  _ _ h) (fun r199 σ200 h => ?_)
            refine zz_if_ne (y0 := 0) M 67 dX8_law_61 (by decide) (fun c => ?_) (fun c => ?_)
            · have h := zifn (c := r199 = 0) h c
              refine zz_iload_n M 1 dX8_law_67 rfl rfl ?_
              refine zz_if_ne (y0 := 0) M 78 dX8_law_68 (by decide) (fun c => ?_) (fun c => ?_)
              · have h := zifn (c := x1 = 0) h c
                refine zz_iload_n M 1 dX8_law_78 rfl rfl ?_
                refine zz_iconst (v := 1) M dX8_law_79 (by decide) ?_
                refine zz_icmp_ne M 90 dX8_law_80 (by decide) (fun c => ?_) (fun c => ?_)
                · have h := zifn (c := x1 = 1) h c
                  refine zz_aload_n M 0 dX8_law_90 rfl rfl ?_
                  refine zz_getR M f_X8_41 tM_0 rfl dX8_law_91 ?_
                  refine zz_iload_n M 2 dX8_law_94 rfl rfl ?_
                  refine zz_iald M tM_8 h.1 dX8_law_95 ?_
                  have h := h.2
                  refine zz_topi (fun x201 ex201 => ?_)
                  have h := h x201 ex201
                  refine zz_istore M [(4, .int x201), (0, .ref (ad 0)), (1, .int x1), (2, .int x2), (3, .int x3)] dX8_law_96 (by decide) rfl ?_
                  refine zz_iload_n M 2 dX8_law_98 rfl rfl ?_
                  refine zz_if_ne (y0 := 0) M 110 dX8_law_99 (by decide) (fun c => ?_) (fun c => ?_)
                  · have h := zifn (c := x1 = 0) h c
                    refine zz_iload_n M 2 dX8_law_110 rfl rfl ?_
                    refine zz_iconst (v := 1) M dX8_law_111 (by decide) ?_
                    refine zz_icmp_ne M 123 dX8_law_112 (by decide) (fun c => ?_) (fun c => ?_)
                    · have h := zifn (c := x1 = 1) h c
                      refine zz_aload_n M 1 dX8_law_123 rfl rfl ?_
                      refine zz_getR M f_X8_41 tM_0 rfl dX8_law_124 ?_
                      refine zz_iload_n M 3 dX8_law_127 rfl rfl ?_
                      refine zz_iload_n M 4 dX8_law_128 rfl rfl ?_
                      refine zz_iast M tM_8 h.1 dX8_law_129 ?_
                      have h := h.2
                      refine zz_sg (fun σ202 eσ202 => ?_)
                      have h := h σ202 eσ202
                      refine zz_iload M 0 dX8_law_130 rfl ?_
                      exact zz_iret M dX8_law_132 h
                    · have h := zif (c := x1 = 1) h c
                      refine zz_aload_n M 1 dX8_law_115 rfl rfl ?_
                      refine zz_iload_n M 4 dX8_law_116 rfl rfl ?_
                      refine zz_putI M f_X8_35 tM_0 rfl dX8_law_117 ?_
                      refine zz_sg (fun σ203 eσ203 => ?_)
                      have h := h σ203 eσ203
                      refine zz_goto M 130 dX8_law_120 (by decide) ?_
                      refine zz_iload M 0 dX8_law_130 rfl ?_
                      exact zz_iret M dX8_law_132 h
                  · have h := zif (c := x1 = 0) h c
                    refine zz_aload_n M 1 dX8_law_102 rfl rfl ?_
                    refine zz_iload_n M 4 dX8_law_103 rfl rfl ?_
                    refine zz_putI M f_X8_32 tM_0 rfl dX8_law_104 ?_
                    refine zz_sg (fun σ204 eσ204 => ?_)
                    have h := h σ204 eσ204
                    refine zz_goto M 130 dX8_law_107 (by decide) ?_
                    refine zz_iload M 0 dX8_law_130 rfl ?_
                    exact zz_iret M dX8_law_132 h
                · have h := zif (c := x1 = 1) h c
                  refine zz_aload_n M 0 dX8_law_83 rfl rfl ?_
                  refine zz_getI M f_X8_35 tM_0 rfl dX8_law_84 ?_
                  refine zz_goto M 96 dX8_law_87 (by decide) ?_
                  refine zz_topi (fun x205 ex205 => ?_)
                  have h := h x205 ex205
                  refine zz_istore M [(4, .int x205), (0, .ref (ad 0)), (1, .int x1), (2, .int x2), (3, .int x3)] dX8_law_96 (by decide) rfl ?_
                  refine zz_iload_n M 2 dX8_law_98 rfl rfl ?_
                  refine zz_if_ne (y0 := 0) M 110 dX8_law_99 (by decide) (fun c => ?_) (fun c => ?_)
                  · have h := zifn (c := x1 = 0) h c
                    refine zz_iload_n M 2 dX8_law_110 rfl rfl ?_
                    refine zz_iconst (v := 1) M dX8_law_111 (by decide) ?_
                    refine zz_icmp_ne M 123 dX8_law_112 (by decide) (fun c => ?_) (fun c => ?_)
                    · have h := zifn (c := x1 = 1) h c
                      refine zz_aload_n M 1 dX8_law_123 rfl rfl ?_
                      refine zz_getR M f_X8_41 tM_0 rfl dX8_law_124 ?_
                      refine zz_iload_n M 3 dX8_law_127 rfl rfl ?_
                      refine zz_iload_n M 4 dX8_law_128 rfl rfl ?_
                      refine zz_iast M tM_8 h.1 dX8_law_129 ?_
                      have h := h.2
                      refine zz_sg (fun σ206 eσ206 => ?_)
                      have h := h σ206 eσ206
                      refine zz_iload M 0 dX8_law_130 rfl ?_
                      exact zz_iret M dX8_law_132 h
                    · have h := zif (c := x1 = 1) h c
                      refine zz_aload_n M 1 dX8_law_115 rfl rfl ?_
                      refine zz_iload_n M 4 dX8_law_116 rfl rfl ?_
                      refine zz_putI M f_X8_35 tM_0 rfl dX8_law_117 ?_
                      refine zz_sg (fun σ207 eσ207 => ?_)
                      have h := h σ207 eσ207
                      refine zz_goto M 130 dX8_law_120 (by decide) ?_
                      refine zz_iload M 0 dX8_law_130 rfl ?_
                      exact zz_iret M dX8_law_132 h
                  · have h := zif (c := x1 = 0) h c
                    refine zz_aload_n M 1 dX8_law_102 rfl rfl ?_
                    refine zz_iload_n M 4 dX8_law_103 rfl rfl ?_
                    refine zz_putI M f_X8_32 tM_0 rfl dX8_law_104 ?_
                    refine zz_sg (fun σ208 eσ208 => ?_)
                    have h := h σ208 eσ208
                    refine zz_goto M 130 dX8_law_107 (by decide) ?_
                    refine zz_iload M 0 dX8_law_130 rfl ?_
                    exact zz_iret M dX8_law_132 h
              · have h := zif (c := x1 = 0) h c
                refine zz_aload_n M 0 dX8_law_71 rfl rfl ?_
                refine zz_getI M f_X8_32 tM_0 rfl dX8_law_72 ?_
                refine zz_goto M 96 dX8_law_75 (by decide) ?_
                refine zz_topi (fun x209 ex209 => ?_)
                have h := h x209 ex209
                refine zz_istore M [(4, .int x209), (0, .ref (ad 0)), (1, .int x1), (2, .int x2), (3, .int x3)] dX8_law_96 (by decide) rfl ?_
                refine zz_iload_n M 2 dX8_law_98 rfl rfl ?_
                refine zz_if_ne (y0 := 0) M 110 dX8_law_99 (by decide) (fun c => ?_) (fun c => ?_)
                · have h := zifn (c := x1 = 0) h c
                  refine zz_iload_n M 2 dX8_law_110 rfl rfl ?_
                  refine zz_iconst (v := 1) M dX8_law_111 (by decide) ?_
                  refine zz_icmp_ne M 123 dX8_law_112 (by decide) (fun c => ?_) (fun c => ?_)
                  · have h := zifn (c := x1 = 1) h c
                    refine zz_aload_n M 1 dX8_law_123 rfl rfl ?_
                    refine zz_getR M f_X8_41 tM_0 rfl dX8_law_124 ?_
                    refine zz_iload_n M 3 dX8_law_127 rfl rfl ?_
                    refine zz_iload_n M 4 dX8_law_128 rfl rfl ?_
                    refine zz_iast M tM_8 h.1 dX8_law_129 ?_
                    have h := h.2
                    refine zz_sg (fun σ210 eσ210 => ?_)
                    have h := h σ210 eσ210
                    refine zz_iload M 0 dX8_law_130 rfl ?_
                    exact zz_iret M dX8_law_132 h
                  · have h := zif (c := x1 = 1) h c
                    refine zz_aload_n M 1 dX8_law_115 rfl rfl ?_
                    refine zz_iload_n M 4 dX8_law_116 rfl rfl ?_
                    refine zz_putI M f_X8_35 tM_0 rfl dX8_law_117 ?_
                    refine zz_sg (fun σ211 eσ211 => ?_)
                    have h := h σ211 eσ211
                    refine zz_goto M 130 dX8_law_120 (by decide) ?_
                    refine zz_iload M 0 dX8_law_130 rfl ?_
                    exact zz_iret M dX8_law_132 h
                · have h := zif (c := x1 = 0) h c
                  refine zz_aload_n M 1 dX8_law_102 rfl rfl ?_
                  refine zz_iload_n M 4 dX8_law_103 rfl rfl ?_
                  refine zz_putI M f_X8_32 tM_0 rfl dX8_law_104 ?_
                  refine zz_sg (fun σ212 eσ212 => ?_)
                  have h := h σ212 eσ212
                  refine zz_goto M 130 dX8_law_107 (by decide) ?_
                  refine zz_iload M 0 dX8_law_130 rfl ?_
                  exact zz_iret M dX8_law_132 h
            · have h := zif (c := r199 = 0) h c
              refine zz_bipush (v := (-2)) M dX8_law_64 (by decide) ?_
              exact zz_iret M dX8_law_66 h
          · have h := zif (c := x1 = 0) h c
            refine zz_ldc2 (v := 4) M k_X8_117 dX8_law_49 ?_
            refine zz_goto M 58 dX8_law_52 (by decide) ?_
            obtain ⟨a213, ea213⟩ : ∃ z : Int64, z = ((x3 : Int32).toInt64) := ⟨_, rfl⟩
            have h := h a213 ea213
            refine zz_st [.long 4, .long 0, .long a213] (by rw [ea213]) ?_
            refine zz_callSI (d' := 1) (As := [.long a213, .long 0, .long 4]) (rest := []) M l_X8_92 dX8_law_58 rfl rfl (by decide) (Nat.le_of_ble_eq_true rfl) (by have hI := M.2.2.2.2.2.2.2.2; exact kX8_in hI _ _ _  _ _ h) (fun r214 σ215 h => ?_)
            refine zz_if_ne (y0 := 0) M 67 dX8_law_61 (by decide) (fun c => ?_) (fun c => ?_)
            · have h := zifn (c := r214 = 0) h c
              refine zz_iload_n M 1 dX8_law_67 rfl rfl ?_
              refine zz_if_ne (y0 := 0) M 78 dX8_law_68 (by decide) (fun c => ?_) (fun c => ?_)
              · have h := zifn (c := x1 = 0) h c
                refine zz_iload_n M 1 dX8_law_78 rfl rfl ?_
                refine zz_iconst (v := 1) M dX8_law_79 (by decide) ?_
                refine zz_icmp_ne M 90 dX8_law_80 (by decide) (fun c => ?_) (fun c => ?_)
                · have h := zifn (c := x1 = 1) h c
                  refine zz_aload_n M 0 dX8_law_90 rfl rfl ?_
                  refine zz_getR M f_X8_41 tM_0 rfl dX8_law_91 ?_
                  refine zz_iload_n M 2 dX8_law_94 rfl rfl ?_
                  refine zz_iald M tM_8 h.1 dX8_law_95 ?_
                  have h := h.2
                  refine zz_topi (fun x216 ex216 => ?_)
                  have h := h x216 ex216
                  refine zz_istore M [(4, .int x216), (0, .ref (ad 0)), (1, .int x1), (2, .int x2), (3, .int x3)] dX8_law_96 (by decide) rfl ?_
                  refine zz_iload_n M 2 dX8_law_98 rfl rfl ?_
                  refine zz_if_ne (y0 := 0) M 110 dX8_law_99 (by decide) (fun c => ?_) (fun c => ?_)
                  · have h := zifn (c := x1 = 0) h c
                    refine zz_iload_n M 2 dX8_law_110 rfl rfl ?_
                    refine zz_iconst (v := 1) M dX8_law_111 (by decide) ?_
                    refine zz_icmp_ne M 123 dX8_law_112 (by decide) (fun c => ?_) (fun c => ?_)
                    · have h := zifn (c := x1 = 1) h c
                      refine zz_aload_n M 1 dX8_law_123 rfl rfl ?_
                      refine zz_getR M f_X8_41 tM_0 rfl dX8_law_124 ?_
                      refine zz_iload_n M 3 dX8_law_127 rfl rfl ?_
                      refine zz_iload_n M 4 dX8_law_128 rfl rfl ?_
                      refine zz_iast M tM_8 h.1 dX8_law_129 ?_
                      have h := h.2
                      refine zz_sg (fun σ217 eσ217 => ?_)
                      have h := h σ217 eσ217
                      refine zz_iload M 0 dX8_law_130 rfl ?_
                      exact zz_iret M dX8_law_132 h
                    · have h := zif (c := x1 = 1) h c
                      refine zz_aload_n M 1 dX8_law_115 rfl rfl ?_
                      refine zz_iload_n M 4 dX8_law_116 rfl rfl ?_
                      refine zz_putI M f_X8_35 tM_0 rfl dX8_law_117 ?_
                      refine zz_sg (fun σ218 eσ218 => ?_)
                      have h := h σ218 eσ218
                      refine zz_goto M 130 dX8_law_120 (by decide) ?_
                      refine zz_iload M 0 dX8_law_130 rfl ?_
                      exact zz_iret M dX8_law_132 h
                  · have h := zif (c := x1 = 0) h c
                    refine zz_aload_n M 1 dX8_law_102 rfl rfl ?_
                    refine zz_iload_n M 4 dX8_law_103 rfl rfl ?_
                    refine zz_putI M f_X8_32 tM_0 rfl dX8_law_104 ?_
                    refine zz_sg (fun σ219 eσ219 => ?_)
                    have h := h σ219 eσ219
                    refine zz_goto M 130 dX8_law_107 (by decide) ?_
                    refine zz_iload M 0 dX8_law_130 rfl ?_
                    exact zz_iret M dX8_law_132 h
                · have h := zif (c := x1 = 1) h c
                  refine zz_aload_n M 0 dX8_law_83 rfl rfl ?_
                  refine zz_getI M f_X8_35 tM_0 rfl dX8_law_84 ?_
                  refine zz_goto M 96 dX8_law_87 (by decide) ?_
                  refine zz_topi (fun x220 ex220 => ?_)
                  have h := h x220 ex220
                  refine zz_istore M [(4, .int x220), (0, .ref (ad 0)), (1, .int x1), (2, .int x2), (3, .int x3)] dX8_law_96 (by decide) rfl ?_
                  refine zz_iload_n M 2 dX8_law_98 rfl rfl ?_
                  refine zz_if_ne (y0 := 0) M 110 dX8_law_99 (by decide) (fun c => ?_) (fun c => ?_)
                  · have h := zifn (c := x1 = 0) h c
                    refine zz_iload_n M 2 dX8_law_110 rfl rfl ?_
                    refine zz_iconst (v := 1) M dX8_law_111 (by decide) ?_
                    refine zz_icmp_ne M 123 dX8_law_112 (by decide) (fun c => ?_) (fun c => ?_)
                    · have h := zifn (c := x1 = 1) h c
                      refine zz_aload_n M 1 dX8_law_123 rfl rfl ?_
                      refine zz_getR M f_X8_41 tM_0 rfl dX8_law_124 ?_
                      refine zz_iload_n M 3 dX8_law_127 rfl rfl ?_
                      refine zz_iload_n M 4 dX8_law_128 rfl rfl ?_
                      refine zz_iast M tM_8 h.1 dX8_law_129 ?_
                      have h := h.2
                      refine zz_sg (fun σ221 eσ221 => ?_)
                      have h := h σ221 eσ221
                      refine zz_iload M 0 dX8_law_130 rfl ?_
                      exact zz_iret M dX8_law_132 h
                    · have h := zif (c := x1 = 1) h c
                      refine zz_aload_n M 1 dX8_law_115 rfl rfl ?_
                      refine zz_iload_n M 4 dX8_law_116 rfl rfl ?_
                      refine zz_putI M f_X8_35 tM_0 rfl dX8_law_117 ?_
                      refine zz_sg (fun σ222 eσ222 => ?_)
                      have h := h σ222 eσ222
                      refine zz_goto M 130 dX8_law_120 (by decide) ?_
                      refine zz_iload M 0 dX8_law_130 rfl ?_
                      exact zz_iret M dX8_law_132 h
                  · have h := zif (c := x1 = 0) h c
                    refine zz_aload_n M 1 dX8_law_102 rfl rfl ?_
                    refine zz_iload_n M 4 dX8_law_103 rfl rfl ?_
                    refine zz_putI M f_X8_32 tM_0 rfl dX8_law_104 ?_
                    refine zz_sg (fun σ223 eσ223 => ?_)
                    have h := h σ223 eσ223
                    refine zz_goto M 130 dX8_law_107 (by decide) ?_
                    refine zz_iload M 0 dX8_law_130 rfl ?_
                    exact zz_iret M dX8_law_132 h
              · have h := zif (c := x1 = 0) h c
                refine zz_aload_n M 0 dX8_law_71 rfl rfl ?_
                refine zz_getI M f_X8_32 tM_0 rfl dX8_law_72 ?_
                refine zz_goto M 96 dX8_law_75 (by decide) ?_
                refine zz_topi (fun x224 ex224 => ?_)
                have h := h x224 ex224
                refine zz_istore M [(4, .int x224), (0, .ref (ad 0)), (1, .int x1), (2, .int x2), (3, .int x3)] dX8_law_96 (by decide) rfl ?_
                refine zz_iload_n M 2 dX8_law_98 rfl rfl ?_
                refine zz_if_ne (y0 := 0) M 110 dX8_law_99 (by decide) (fun c => ?_) (fun c => ?_)
                · have h := zifn (c := x1 = 0) h c
                  refine zz_iload_n M 2 dX8_law_110 rfl rfl ?_
                  refine zz_iconst (v := 1) M dX8_law_111 (by decide) ?_
                  refine zz_icmp_ne M 123 dX8_law_112 (by decide) (fun c => ?_) (fun c => ?_)
                  · have h := zifn (c := x1 = 1) h c
                    refine zz_aload_n M 1 dX8_law_123 rfl rfl ?_
                    refine zz_getR M f_X8_41 tM_0 rfl dX8_law_124 ?_
                    refine zz_iload_n M 3 dX8_law_127 rfl rfl ?_
                    refine zz_iload_n M 4 dX8_law_128 rfl rfl ?_
                    refine zz_iast M tM_8 h.1 dX8_law_129 ?_
                    have h := h.2
                    refine zz_sg (fun σ225 eσ225 => ?_)
                    have h := h σ225 eσ225
                    refine zz_iload M 0 dX8_law_130 rfl ?_
                    exact zz_iret M dX8_law_132 h
                  · have h := zif (c := x1 = 1) h c
                    refine zz_aload_n M 1 dX8_law_115 rfl rfl ?_
                    refine zz_iload_n M 4 dX8_law_116 rfl rfl ?_
                    refine zz_putI M f_X8_35 tM_0 rfl dX8_law_117 ?_
                    refine zz_sg (fun σ226 eσ226 => ?_)
                    have h := h σ226 eσ226
                    refine zz_goto M 130 dX8_law_120 (by decide) ?_
                    refine zz_iload M 0 dX8_law_130 rfl ?_
                    exact zz_iret M dX8_law_132 h
                · have h := zif (c := x1 = 0) h c
                  refine zz_aload_n M 1 dX8_law_102 rfl rfl ?_
                  refine zz_iload_n M 4 dX8_law_103 rfl rfl ?_
                  refine zz_putI M f_X8_32 tM_0 rfl dX8_law_104 ?_
                  refine zz_sg (fun σ227 eσ227 => ?_)
                  have h := h σ227 eσ227
                  refine zz_goto M 130 dX8_law_107 (by decide) ?_
                  refine zz_iload M 0 dX8_law_130 rfl ?_
                  exact zz_iret M dX8_law_132 h
            · have h := zif (c := r214 = 0) h c
              refine zz_bipush (v := (-2)) M dX8_law_64 (by decide) ?_
              exact zz_iret M dX8_law_66 h
end
