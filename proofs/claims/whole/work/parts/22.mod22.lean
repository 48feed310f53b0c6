section
variable {p : Program} {l : Launch} {e : Env} {s : State} {m : MethodId} {args : Array Value} {below : List Frame} {meth : Method} {c : Code} {D : va_G} {cA : Nat → ClassId} {ad : Nat → Nat} {y : zX}
def wX8_law (x1 : Int32) (x2 : Int32) (x3 : Int32) (σ : zSt) (Q : Int32 → zSt → Prop) : Prop := wX8_in ((x1 : Int32).toInt64) 0 2 σ (fun r1 σ2 => if r1 = 0 then (Q (-2) σ2) else (if x1 = 2 then (wX8_in ((x2 : Int32).toInt64) 0 (((σ2.1 0 16) - 1 : Int32).toInt64) σ2 (fun r59 σ60 => if r59 = 0 then (Q (-2) σ60) else (if x1 = 2 then (if x1 = 0 then (wX8_in ((x3 : Int32).toInt64) 0 4 σ60 (fun r103 σ104 => if r103 = 0 then (Q (-2) σ104) else (if x1 = 0 then (∀ x113 : Int32, x113 = σ104.1 0 12 → (if x1 = 0 then (∀ σ116 : zSt, σ116 = zput σ104 0 12 x3 → (Q x113 σ116)) else (if x1 = 1 then (∀ σ115 : zSt, σ115 = zput σ104 0 13 x3 → (Q x113 σ115)) else (vp_in x2 4 ∧ (∀ σ114 : zSt, σ114 = zput σ104 8 x2.toNatClampNeg x3 → (Q x113 σ114)))))) else (if x1 = 1 then (∀ x109 : Int32, x109 = σ104.1 0 13 → (if x1 = 0 then (∀ σ112 : zSt, σ112 = zput σ104 0 12 x3 → (Q x109 σ112)) else (if x1 = 1 then (∀ σ111 : zSt, σ111 = zput σ104 0 13 x3 → (Q x109 σ111)) else (vp_in x2 4 ∧ (∀ σ110 : zSt, σ110 = zput σ104 8 x2.toNatClampNeg x3 → (Q x109 σ110)))))) else (vp_in x2 4 ∧ (∀ x105 : Int32, x105 = σ104.1 8 x2.toNatClampNeg → (if x1 = 0 then (∀ σ108 : zSt, σ108 = zput σ104 0 12 x3 → (Q x105 σ108)) else (if x1 = 1 then (∀ σ107 : zSt, σ107 = zput σ104 0 13 x3 → (Q x105 σ107)) else (vp_in x2 4 ∧ (∀ σ106 : zSt, σ106 = zput σ104 8 x2.toNatClampNeg x3 → (Q x105 σ106))))))))))) else (wX8_in ((x3 : Int32).toInt64) 0 9 σ60 (fun r89 σ90 => if r89 = 0 then (Q (-2) σ90) else (if x1 = 0 then (∀ x99 : Int32, x99 = σ90.1 0 12 → (if x1 = 0 then (∀ σ102 : zSt, σ102 = zput σ90 0 12 x3 → (Q x99 σ102)) else (if x1 = 1 then (∀ σ101 : zSt, σ101 = zput σ90 0 13 x3 → (Q x99 σ101)) else (vp_in x2 4 ∧ (∀ σ100 : zSt, σ100 = zput σ90 8 x2.toNatClampNeg x3 → (Q x99 σ100)))))) else (if x1 = 1 then (∀ x95 : Int32, x95 = σ90.1 0 13 → (if x1 = 0 then (∀ σ98 : zSt, σ98 = zput σ90 0 12 x3 → (Q x95 σ98)) else (if x1 = 1 then (∀ σ97 : zSt, σ97 = zput σ90 0 13 x3 → (Q x95 σ97)) else (vp_in x2 4 ∧ (∀ σ96 : zSt, σ96 = zput σ90 8 x2.toNatClampNeg x3 → (Q x95 σ96)))))) else (vp_in x2 4 ∧ (∀ x91 : Int32, x91 = σ90.1 8 x2.toNatClampNeg → (if x1 = 0 then (∀ σ94 : zSt, σ94 = zput σ90 0 12 x3 → (Q x91 σ94)) else (if x1 = 1 then (∀ σ93 : zSt, σ93 = zput σ90 0 13 x3 → (Q x91 σ93)) else (vp_in x2 4 ∧ (∀ σ92 : zSt, σ92 = zput σ90 8 x2.toNatClampNeg x3 → (Q x91 σ92)))))))))))) else (if x1 = 0 then (wX8_in ((x3 : Int32).toInt64) 1 4 σ60 (fun r75 σ76 => if r75 = 0 then (Q (-2) σ76) else (if x1 = 0 then (∀ x85 : Int32, x85 = σ76.1 0 12 → (if x1 = 0 then (∀ σ88 : zSt, σ88 = zput σ76 0 12 x3 → (Q x85 σ88)) else (if x1 = 1 then (∀ σ87 : zSt, σ87 = zput σ76 0 13 x3 → (Q x85 σ87)) else (vp_in x2 4 ∧ (∀ σ86 : zSt, σ86 = zput σ76 8 x2.toNatClampNeg x3 → (Q x85 σ86)))))) else (if x1 = 1 then (∀ x81 : Int32, x81 = σ76.1 0 13 → (if x1 = 0 then (∀ σ84 : zSt, σ84 = zput σ76 0 12 x3 → (Q x81 σ84)) else (if x1 = 1 then (∀ σ83 : zSt, σ83 = zput σ76 0 13 x3 → (Q x81 σ83)) else (vp_in x2 4 ∧ (∀ σ82 : zSt, σ82 = zput σ76 8 x2.toNatClampNeg x3 → (Q x81 σ82)))))) else (vp_in x2 4 ∧ (∀ x77 : Int32, x77 = σ76.1 8 x2.toNatClampNeg → (if x1 = 0 then (∀ σ80 : zSt, σ80 = zput σ76 0 12 x3 → (Q x77 σ80)) else (if x1 = 1 then (∀ σ79 : zSt, σ79 = zput σ76 0 13 x3 → (Q x77 σ79)) else (vp_in x2 4 ∧ (∀ σ78 : zSt, σ78 = zput σ76 8 x2.toNatClampNeg x3 → (Q x77 σ78))))))))))) else (wX8_in ((x3 : Int32).toInt64) 1 9 σ60 (fun r61 σ62 => if r61 = 0 then (Q (-2) σ62) else (if x1 = 0 then (∀ x71 : Int32, x71 = σ62.1 0 12 → (if x1 = 0 then (∀ σ74 : zSt, σ74 = zput σ62 0 12 x3 → (Q x71 σ74)) else (if x1 = 1 then (∀ σ73 : zSt, σ73 = zput σ62 0 13 x3 → (Q x71 σ73)) else (vp_in x2 4 ∧ (∀ σ72 : zSt, σ72 = zput σ62 8 x2.toNatClampNeg x3 → (Q x71 σ72)))))) else (if x1 = 1 then (∀ x67 : Int32, x67 = σ62.1 0 13 → (if x1 = 0 then (∀ σ70 : zSt, σ70 = zput σ62 0 12 x3 → (Q x67 σ70)) else (if x1 = 1 then (∀ σ69 : zSt, σ69 = zput σ62 0 13 x3 → (Q x67 σ69)) else (vp_in x2 4 ∧ (∀ σ68 : zSt, σ68 = zput σ62 8 x2.toNatClampNeg x3 → (Q x67 σ68)))))) else (vp_in x2 4 ∧ (∀ x63 : Int32, x63 = σ62.1 8 x2.toNatClampNeg → (if x1 = 0 then (∀ σ66 : zSt, σ66 = zput σ62 0 12 x3 → (Q x63 σ66)) else (if x1 = 1 then (∀ σ65 : zSt, σ65 = zput σ62 0 13 x3 → (Q x63 σ65)) else (vp_in x2 4 ∧ (∀ σ64 : zSt, σ64 = zput σ62 8 x2.toNatClampNeg x3 → (Q x63 σ64))))))))))))))) else (if x1 = 2 then (if x1 = 0 then (wX8_in ((x3 : Int32).toInt64) 0 4 σ2 (fun r45 σ46 => if r45 = 0 then (Q (-2) σ46) else (if x1 = 0 then (∀ x55 : Int32, x55 = σ46.1 0 12 → (if x1 = 0 then (∀ σ58 : zSt, σ58 = zput σ46 0 12 x3 → (Q x55 σ58)) else (if x1 = 1 then (∀ σ57 : zSt, σ57 = zput σ46 0 13 x3 → (Q x55 σ57)) else (vp_in x2 4 ∧ (∀ σ56 : zSt, σ56 = zput σ46 8 x2.toNatClampNeg x3 → (Q x55 σ56)))))) else (if x1 = 1 then (∀ x51 : Int32, x51 = σ46.1 0 13 → (if x1 = 0 then (∀ σ54 : zSt, σ54 = zput σ46 0 12 x3 → (Q x51 σ54)) else (if x1 = 1 then (∀ σ53 : zSt, σ53 = zput σ46 0 13 x3 → (Q x51 σ53)) else (vp_in x2 4 ∧ (∀ σ52 : zSt, σ52 = zput σ46 8 x2.toNatClampNeg x3 → (Q x51 σ52)))))) else (vp_in x2 4 ∧ (∀ x47 : Int32, x47 = σ46.1 8 x2.toNatClampNeg → (if x1 = 0 then (∀ σ50 : zSt, σ50 = zput σ46 0 12 x3 → (Q x47 σ50)) else (if x1 = 1 then (∀ σ49 : zSt, σ49 = zput σ46 0 13 x3 → (Q x47 σ49)) else (vp_in x2 4 ∧ (∀ σ48 : zSt, σ48 = zput σ46 8 x2.toNatClampNeg x3 → (Q x47 σ48))))))))))) else (wX8_in ((x3 : Int32).toInt64) 0 9 σ2 (fun r31 σ32 => if r31 = 0 then (Q (-2) σ32) else (if x1 = 0 then (∀ x41 : Int32, x41 = σ32.1 0 12 → (if x1 = 0 then (∀ σ44 : zSt, σ44 = zput σ32 0 12 x3 → (Q x41 σ44)) else (if x1 = 1 then (∀ σ43 : zSt, σ43 = zput σ32 0 13 x3 → (Q x41 σ43)) else (vp_in x2 4 ∧ (∀ σ42 : zSt, σ42 = zput σ32 8 x2.toNatClampNeg x3 → (Q x41 σ42)))))) else (if x1 = 1 then (∀ x37 : Int32, x37 = σ32.1 0 13 → (if x1 = 0 then (∀ σ40 : zSt, σ40 = zput σ32 0 12 x3 → (Q x37 σ40)) else (if x1 = 1 then (∀ σ39 : zSt, σ39 = zput σ32 0 13 x3 → (Q x37 σ39)) else (vp_in x2 4 ∧ (∀ σ38 : zSt, σ38 = zput σ32 8 x2.toNatClampNeg x3 → (Q x37 σ38)))))) else (vp_in x2 4 ∧ (∀ x33 : Int32, x33 = σ32.1 8 x2.toNatClampNeg → (if x1 = 0 then (∀ σ36 : zSt, σ36 = zput σ32 0 12 x3 → (Q x33 σ36)) else (if x1 = 1 then (∀ σ35 : zSt, σ35 = zput σ32 0 13 x3 → (Q x33 σ35)) else (vp_in x2 4 ∧ (∀ σ34 : zSt, σ34 = zput σ32 8 x2.toNatClampNeg x3 → (Q x33 σ34)))))))))))) else (if x1 = 0 then (wX8_in ((x3 : Int32).toInt64) 1 4 σ2 (fun r17 σ18 => if r17 = 0 then (Q (-2) σ18) else (if x1 = 0 then (∀ x27 : Int32, x27 = σ18.1 0 12 → (if x1 = 0 then (∀ σ30 : zSt, σ30 = zput σ18 0 12 x3 → (Q x27 σ30)) else (if x1 = 1 then (∀ σ29 : zSt, σ29 = zput σ18 0 13 x3 → (Q x27 σ29)) else (vp_in x2 4 ∧ (∀ σ28 : zSt, σ28 = zput σ18 8 x2.toNatClampNeg x3 → (Q x27 σ28)))))) else (if x1 = 1 then (∀ x23 : Int32, x23 = σ18.1 0 13 → (if x1 = 0 then (∀ σ26 : zSt, σ26 = zput σ18 0 12 x3 → (Q x23 σ26)) else (if x1 = 1 then (∀ σ25 : zSt, σ25 = zput σ18 0 13 x3 → (Q x23 σ25)) else (vp_in x2 4 ∧ (∀ σ24 : zSt, σ24 = zput σ18 8 x2.toNatClampNeg x3 → (Q x23 σ24)))))) else (vp_in x2 4 ∧ (∀ x19 : Int32, x19 = σ18.1 8 x2.toNatClampNeg → (if x1 = 0 then (∀ σ22 : zSt, σ22 = zput σ18 0 12 x3 → (Q x19 σ22)) else (if x1 = 1 then (∀ σ21 : zSt, σ21 = zput σ18 0 13 x3 → (Q x19 σ21)) else (vp_in x2 4 ∧ (∀ σ20 : zSt, σ20 = zput σ18 8 x2.toNatClampNeg x3 → (Q x19 σ20))))))))))) else (wX8_in ((x3 : Int32).toInt64) 1 9 σ2 (fun r3 σ4 => if r3 = 0 then (Q (-2) σ4) else (if x1 = 0 then (∀ x13 : Int32, x13 = σ4.1 0 12 → (if x1 = 0 then (∀ σ16 : zSt, σ16 = zput σ4 0 12 x3 → (Q x13 σ16)) else (if x1 = 1 then (∀ σ15 : zSt, σ15 = zput σ4 0 13 x3 → (Q x13 σ15)) else (vp_in x2 4 ∧ (∀ σ14 : zSt, σ14 = zput σ4 8 x2.toNatClampNeg x3 → (Q x13 σ14)))))) else (if x1 = 1 then (∀ x9 : Int32, x9 = σ4.1 0 13 → (if x1 = 0 then (∀ σ12 : zSt, σ12 = zput σ4 0 12 x3 → (Q x9 σ12)) else (if x1 = 1 then (∀ σ11 : zSt, σ11 = zput σ4 0 13 x3 → (Q x9 σ11)) else (vp_in x2 4 ∧ (∀ σ10 : zSt, σ10 = zput σ4 8 x2.toNatClampNeg x3 → (Q x9 σ10)))))) else (vp_in x2 4 ∧ (∀ x5 : Int32, x5 = σ4.1 8 x2.toNatClampNeg → (if x1 = 0 then (∀ σ8 : zSt, σ8 = zput σ4 0 12 x3 → (Q x5 σ8)) else (if x1 = 1 then (∀ σ7 : zSt, σ7 = zput σ4 0 13 x3 → (Q x5 σ7)) else (vp_in x2 4 ∧ (∀ σ6 : zSt, σ6 = zput σ4 8 x2.toNatClampNeg x3 → (Q x5 σ6)))))))))))))))
set_option maxRecDepth 20000 in
set_option maxHeartbeats 4000000 in
theorem kX8_law (hI : zInj tabM ad) (x1 : Int32) (x2 : Int32) (x3 : Int32)  (σ : zSt) (Q : Int32 → zSt → Prop) (h : wX8_law x1 x2 x3 σ Q) : zOkI l tabM D cA ad y 2 yX8_law cX8_law 5 (some .int) [.ref (ad 0), .int x1, .int x2, .int x3] σ Q := by
  refine zz_enter hI (by decide) (Nat.le_of_ble_eq_true rfl) (fun p e s m below meth c M => ?_)
  have M : zM p s m _ meth c cX8_law 5 RX8 (some .int) tabM D cA ad y := M
  refine zz_ls [(0, .ref (ad 0)), (1, .int x1), (2, .int x2), (3, .int x3)] rfl ?_
  unfold wX8_law at h
  refine zz_iload_n M 1 dX8_law_0 rfl rfl ?_
  refine zz_i2l M dX8_law_1 ?_
  refine zz_lconst (v := 0) M dX8_law_2 (by decide) ?_
  refine zz_ldc2 (v := 2) M k_X8_104 dX8_law_3 ?_
  refine zz_callSI (d' := 1) (As := [.long ((x1 : Int32).toInt64), .long 0, .long 2]) (rest := []) M l_X8_92 dX8_law_6 rfl rfl (by decide) (Nat.le_of_ble_eq_true rfl) (by have hI := M.2.2.2.2.2.2.2.2; exact kX8_in hI _ _ _  _ _ h) (fun r1 σ2 h => ?_)
  refine zz_if_eq (y0 := 0) M 64 dX8_law_9 (by decide) (fun c => ?_) (fun c => ?_)
  · have h := zif h c
    refine zz_bipush (v := (-2)) M dX8_law_64 (by decide) ?_
    exact zz_iret M dX8_law_66 h
  · have h := zifn h c
    refine zz_iload_n M 1 dX8_law_12 rfl rfl ?_
    refine zz_iconst (v := 2) M dX8_law_13 (by decide) ?_
    refine zz_icmp_ne M 33 dX8_law_14 (by decide) (fun c => ?_) (fun c => ?_)
    · have h := zifn h c
      refine zz_iload_n M 3 dX8_law_33 rfl rfl ?_
      refine zz_i2l M dX8_law_34 ?_
      refine zz_iload_n M 1 dX8_law_35 rfl rfl ?_
      refine zz_iconst (v := 2) M dX8_law_36 (by decide) ?_
      refine zz_icmp_ne M 44 dX8_law_37 (by decide) (fun c => ?_) (fun c => ?_)
      · have h := zifn h c
        refine zz_lconst (v := 1) M dX8_law_44 (by decide) ?_
        refine zz_iload_n M 1 dX8_law_45 rfl rfl ?_
        refine zz_if_ne (y0 := 0) M 55 dX8_law_46 (by decide) (fun c => ?_) (fun c => ?_)
        · have h := zifn h c
          refine zz_ldc2 (v := 9) M k_X8_106 dX8_law_55 ?_
          refine zz_callSI (d' := 1) (As := [.long ((x3 : Int32).toInt64), .long 1, .long 9]) (rest := []) M l_X8_92 dX8_law_58 rfl rfl (by decide) (Nat.le_of_ble_eq_true rfl) (by have hI := M.2.2.2.2.2.2.2.2; exact kX8_in hI _ _ _  _ _ h) (fun r3 σ4 h => ?_)
          refine zz_if_ne (y0 := 0) M 67 dX8_law_61 (by decide) (fun c => ?_) (fun c => ?_)
          · have h := zifn h c
            refine zz_iload_n M 1 dX8_law_67 rfl rfl ?_
            refine zz_if_ne (y0 := 0) M 78 dX8_law_68 (by decide) (fun c => ?_) (fun c => ?_)
            · have h := zifn h c
              refine zz_iload_n M 1 dX8_law_78 rfl rfl ?_
              refine zz_iconst (v := 1) M dX8_law_79 (by decide) ?_
              refine zz_icmp_ne M 90 dX8_law_80 (by decide) (fun c => ?_) (fun c => ?_)
              · have h := zifn h c
                refine zz_aload_n M 0 dX8_law_90 rfl rfl ?_
                refine zz_getR M f_X8_41 tM_0 rfl dX8_law_91 ?_
                refine zz_iload_n M 2 dX8_law_94 rfl rfl ?_
                refine zz_iald M tM_8 h.1 dX8_law_95 ?_
                have h := h.2
                refine zz_topi (fun x5 ex5 => ?_)
                have h := h x5 ex5
                refine zz_istore M [(4, .int x5), (0, .ref (ad 0)), (1, .int x1), (2, .int x2), (3, .int x3)] dX8_law_96 (by decide) rfl ?_
                refine zz_iload_n M 2 dX8_law_98 rfl rfl ?_
                refine zz_if_ne (y0 := 0) M 110 dX8_law_99 (by decide) (fun c => ?_) (fun c => ?_)
                · have h := zifn h c
                  refine zz_iload_n M 2 dX8_law_110 rfl rfl ?_
                  refine zz_iconst (v := 1) M dX8_law_111 (by decide) ?_
                  refine zz_icmp_ne M 123 dX8_law_112 (by decide) (fun c => ?_) (fun c => ?_)
                  · have h := zifn h c
                    refine zz_aload_n M 1 dX8_law_123 rfl rfl ?_
                    refine zz_getR M f_X8_41 tM_0 rfl dX8_law_124 ?_
                    refine zz_iload_n M 3 dX8_law_127 rfl rfl ?_
                    refine zz_iload_n M 4 dX8_law_128 rfl rfl ?_
                    refine zz_iast M tM_8 h.1 dX8_law_129 ?_
                    have h := h.2
                    refine zz_sg (fun σ6 eσ6 => ?_)
                    have h := h σ6 eσ6
                    refine zz_iload M 0 dX8_law_130 rfl ?_
                    exact zz_iret M dX8_law_132 h
                  · have h := zif h c
                    refine zz_aload_n M 1 dX8_law_115 rfl rfl ?_
                    refine zz_iload_n M 4 dX8_law_116 rfl rfl ?_
                    refine zz_putI M f_X8_35 tM_0 rfl dX8_law_117 ?_
                    refine zz_sg (fun σ7 eσ7 => ?_)
                    have h := h σ7 eσ7
                    refine zz_goto M 130 dX8_law_120 (by decide) ?_
                    refine zz_iload M 0 dX8_law_130 rfl ?_
                    exact zz_iret M dX8_law_132 h
                · have h := zif h c
                  refine zz_aload_n M 1 dX8_law_102 rfl rfl ?_
                  refine zz_iload_n M 4 dX8_law_103 rfl rfl ?_
                  refine zz_putI M f_X8_32 tM_0 rfl dX8_law_104 ?_
                  refine zz_sg (fun σ8 eσ8 => ?_)
                  have h := h σ8 eσ8
                  refine zz_goto M 130 dX8_law_107 (by decide) ?_
                  refine zz_iload M 0 dX8_law_130 rfl ?_
                  exact zz_iret M dX8_law_132 h
              · have h := zif h c
                refine zz_aload_n M 0 dX8_law_83 rfl rfl ?_
                refine zz_getI M f_X8_35 tM_0 rfl dX8_law_84 ?_
                refine zz_goto M 96 dX8_law_87 (by decide) ?_
                refine zz_topi (fun x9 ex9 => ?_)
                have h := h x9 ex9
                refine zz_istore M [(4, .int x9), (0, .ref (ad 0)), (1, .int x1), (2, .int x2), (3, .int x3)] dX8_law_96 (by decide) rfl ?_
                refine zz_iload_n M 2 dX8_law_98 rfl rfl ?_
                refine zz_if_ne (y0 := 0) M 110 dX8_law_99 (by decide) (fun c => ?_) (fun c => ?_)
                · have h := zifn h c
                  refine zz_iload_n M 2 dX8_law_110 rfl rfl ?_
                  refine zz_iconst (v := 1) M dX8_law_111 (by decide) ?_
                  refine zz_icmp_ne M 123 dX8_law_112 (by decide) (fun c => ?_) (fun c => ?_)
                  · have h := zifn h c
                    refine zz_aload_n M 1 dX8_law_123 rfl rfl ?_
                    refine zz_getR M f_X8_41 tM_0 rfl dX8_law_124 ?_
                    refine zz_iload_n M 3 dX8_law_127 rfl rfl ?_
                    refine zz_iload_n M 4 dX8_law_128 rfl rfl ?_
                    refine zz_iast M tM_8 h.1 dX8_law_129 ?_
                    have h := h.2
                    refine zz_sg (fun σ10 eσ10 => ?_)
                    have h := h σ10 eσ10
                    refine zz_iload M 0 dX8_law_130 rfl ?_
                    exact zz_iret M dX8_law_132 h
                  · have h := zif h c
                    refine zz_aload_n M 1 dX8_law_115 rfl rfl ?_
                    refine zz_iload_n M 4 dX8_law_116 rfl rfl ?_
                    refine zz_putI M f_X8_35 tM_0 rfl dX8_law_117 ?_
                    refine zz_sg (fun σ11 eσ11 => ?_)
                    have h := h σ11 eσ11
                    refine zz_goto M 130 dX8_law_120 (by decide) ?_
                    refine zz_iload M 0 dX8_law_130 rfl ?_
                    exact zz_iret M dX8_law_132 h
                · have h := zif h c
                  refine zz_aload_n M 1 dX8_law_102 rfl rfl ?_
                  refine zz_iload_n M 4 dX8_law_103 rfl rfl ?_
                  refine zz_putI M f_X8_32 tM_0 rfl dX8_law_104 ?_
                  refine zz_sg (fun σ12 eσ12 => ?_)
                  have h := h σ12 eσ12
                  refine zz_goto M 130 dX8_law_107 (by decide) ?_
                  refine zz_iload M 0 dX8_law_130 rfl ?_
                  exact zz_iret M dX8_law_132 h
            · have h := zif h c
              refine zz_aload_n M 0 dX8_law_71 rfl rfl ?_
              refine zz_getI M f_X8_32 tM_0 rfl dX8_law_72 ?_
              refine zz_goto M 96 dX8_law_75 (by decide) ?_
              refine zz_topi (fun x13 ex13 => ?_)
              have h := h x13 ex13
              refine zz_istore M [(4, .int x13), (0, .ref (ad 0)), (1, .int x1), (2, .int x2), (3, .int x3)] dX8_law_96 (by decide) rfl ?_
              refine zz_iload_n M 2 dX8_law_98 rfl rfl ?_
              refine zz_if_ne (y0 := 0) M 110 dX8_law_99 (by decide) (fun c => ?_) (fun c => ?_)
              · have h := zifn h c
                refine zz_iload_n M 2 dX8_law_110 rfl rfl ?_
                refine zz_iconst (v := 1) M dX8_law_111 (by decide) ?_
                refine zz_icmp_ne M 123 dX8_law_112 (by decide) (fun c => ?_) (fun c => ?_)
                · have h := zifn h c
                  refine zz_aload_n M 1 dX8_law_123 rfl rfl ?_
                  refine zz_getR M f_X8_41 tM_0 rfl dX8_law_124 ?_
                  refine zz_iload_n M 3 dX8_law_127 rfl rfl ?_
                  refine zz_iload_n M 4 dX8_law_128 rfl rfl ?_
                  refine zz_iast M tM_8 h.1 dX8_law_129 ?_
                  have h := h.2
                  refine zz_sg (fun σ14 eσ14 => ?_)
                  have h := h σ14 eσ14
                  refine zz_iload M 0 dX8_law_130 rfl ?_
                  exact zz_iret M dX8_law_132 h
                · have h := zif h c
                  refine zz_aload_n M 1 dX8_law_115 rfl rfl ?_
                  refine zz_iload_n M 4 dX8_law_116 rfl rfl ?_
                  refine zz_putI M f_X8_35 tM_0 rfl dX8_law_117 ?_
                  refine zz_sg (fun σ15 eσ15 => ?_)
                  have h := h σ15 eσ15
                  refine zz_goto M 130 dX8_law_120 (by decide) ?_
                  refine zz_iload M 0 dX8_law_130 rfl ?_
                  exact zz_iret M dX8_law_132 h
              · have h := zif h c
                refine zz_aload_n M 1 dX8_law_102 rfl rfl ?_
                refine zz_iload_n M 4 dX8_law_103 rfl rfl ?_
                refine zz_putI M f_X8_32 tM_0 rfl dX8_law_104 ?_
                refine zz_sg (fun σ16 eσ16 => ?_)
                have h := h σ16 eσ16
                refine zz_goto M 130 dX8_law_107 (by decide) ?_
                refine zz_iload M 0 dX8_law_130 rfl ?_
                exact zz_iret M dX8_law_132 h
          · have h := zif h c
            refine zz_bipush (v := (-2)) M dX8_law_64 (by decide) ?_
            exact zz_iret M dX8_law_66 h
        · have h := zif h c
          refine zz_ldc2 (v := 4) M k_X8_117 dX8_law_49 ?_
          refine zz_goto M 58 dX8_law_52 (by decide) ?_
          refine zz_callSI (d' := 1) (As := [.long ((x3 : Int32).toInt64), .long 1, .long 4]) (rest := []) M l_X8_92 dX8_law_58 rfl rfl (by decide) (Nat.le_of_ble_eq_true rfl) (by have hI := M.2.2.2.2.2.2.2.2; exact kX8_in hI _ _ _  _ _ h) (fun r17 σ18 h => ?_)
          refine zz_if_ne (y0 := 0) M 67 dX8_law_61 (by decide) (fun c => ?_) (fun c => ?_)
          · have h := zifn h c
            refine zz_iload_n M 1 dX8_law_67 rfl rfl ?_
            refine zz_if_ne (y0 := 0) M 78 dX8_law_68 (by decide) (fun c => ?_) (fun c => ?_)
            · have h := zifn h c
              refine zz_iload_n M 1 dX8_law_78 rfl rfl ?_
              refine zz_iconst (v := 1) M dX8_law_79 (by decide) ?_
              refine zz_icmp_ne M 90 dX8_law_80 (by decide) (fun c => ?_) (fun c => ?_)
              · have h := zifn h c
                refine zz_aload_n M 0 dX8_law_90 rfl rfl ?_
                refine zz_getR M f_X8_41 tM_0 rfl dX8_law_91 ?_
                refine zz_iload_n M 2 dX8_law_94 rfl rfl ?_
                refine zz_iald M tM_8 h.1 dX8_law_95 ?_
                have h := h.2
                refine zz_topi (fun x19 ex19 => ?_)
                have h := h x19 ex19
                refine zz_istore M [(4, .int x19), (0, .ref (ad 0)), (1, .int x1), (2, .int x2), (3, .int x3)] dX8_law_96 (by decide) rfl ?_
                refine zz_iload_n M 2 dX8_law_98 rfl rfl ?_
                refine zz_if_ne (y0 := 0) M 110 dX8_law_99 (by decide) (fun c => ?_) (fun c => ?_)
                · have h := zifn h c
                  refine zz_iload_n M 2 dX8_law_110 rfl rfl ?_
                  refine zz_iconst (v := 1) M dX8_law_111 (by decide) ?_
                  refine zz_icmp_ne M 123 dX8_law_112 (by decide) (fun c => ?_) (fun c => ?_)
                  · have h := zifn h c
                    refine zz_aload_n M 1 dX8_law_123 rfl rfl ?_
                    refine zz_getR M f_X8_41 tM_0 rfl dX8_law_124 ?_
                    refine zz_iload_n M 3 dX8_law_127 rfl rfl ?_
                    refine zz_iload_n M 4 dX8_law_128 rfl rfl ?_
                    refine zz_iast M tM_8 h.1 dX8_law_129 ?_
                    have h := h.2
                    refine zz_sg (fun σ20 eσ20 => ?_)
                    have h := h σ20 eσ20
                    refine zz_iload M 0 dX8_law_130 rfl ?_
                    exact zz_iret M dX8_law_132 h
                  · have h := zif h c
                    refine zz_aload_n M 1 dX8_law_115 rfl rfl ?_
                    refine zz_iload_n M 4 dX8_law_116 rfl rfl ?_
                    refine zz_putI M f_X8_35 tM_0 rfl dX8_law_117 ?_
                    refine zz_sg (fun σ21 eσ21 => ?_)
                    have h := h σ21 eσ21
                    refine zz_goto M 130 dX8_law_120 (by decide) ?_
                    refine zz_iload M 0 dX8_law_130 rfl ?_
                    exact zz_iret M dX8_law_132 h
                · have h := zif h c
                  refine zz_aload_n M 1 dX8_law_102 rfl rfl ?_
                  refine zz_iload_n M 4 dX8_law_103 rfl rfl ?_
                  refine zz_putI M f_X8_32 tM_0 rfl dX8_law_104 ?_
                  refine zz_sg (fun σ22 eσ22 => ?_)
                  have h := h σ22 eσ22
                  refine zz_goto M 130 dX8_law_107 (by decide) ?_
                  refine zz_iload M 0 dX8_law_130 rfl ?_
                  exact zz_iret M dX8_law_132 h
              · have h := zif h c
                refine zz_aload_n M 0 dX8_law_83 rfl rfl ?_
                refine zz_getI M f_X8_35 tM_0 rfl dX8_law_84 ?_
                refine zz_goto M 96 dX8_law_87 (by decide) ?_
                refine zz_topi (fun x23 ex23 => ?_)
                have h := h x23 ex23
                refine zz_istore M [(4, .int x23), (0, .ref (ad 0)), (1, .int x1), (2, .int x2), (3, .int x3)] dX8_law_96 (by decide) rfl ?_
                refine zz_iload_n M 2 dX8_law_98 rfl rfl ?_
                refine zz_if_ne (y0 := 0) M 110 dX8_law_99 (by decide) (fun c => ?_) (fun c => ?_)
                · have h := zifn h c
                  refine zz_iload_n M 2 dX8_law_110 rfl rfl ?_
                  refine zz_iconst (v := 1) M dX8_law_111 (by decide) ?_
                  refine zz_icmp_ne M 123 dX8_law_112 (by decide) (fun c => ?_) (fun c => ?_)
                  · have h := zifn h c
                    refine zz_aload_n M 1 dX8_law_123 rfl rfl ?_
                    refine zz_getR M f_X8_41 tM_0 rfl dX8_law_124 ?_
                    refine zz_iload_n M 3 dX8_law_127 rfl rfl ?_
                    refine zz_iload_n M 4 dX8_law_128 rfl rfl ?_
                    refine zz_iast M tM_8 h.1 dX8_law_129 ?_
                    have h := h.2
                    refine zz_sg (fun σ24 eσ24 => ?_)
                    have h := h σ24 eσ24
                    refine zz_iload M 0 dX8_law_130 rfl ?_
                    exact zz_iret M dX8_law_132 h
                  · have h := zif h c
                    refine zz_aload_n M 1 dX8_law_115 rfl rfl ?_
                    refine zz_iload_n M 4 dX8_law_116 rfl rfl ?_
                    refine zz_putI M f_X8_35 tM_0 rfl dX8_law_117 ?_
                    refine zz_sg (fun σ25 eσ25 => ?_)
                    have h := h σ25 eσ25
                    refine zz_goto M 130 dX8_law_120 (by decide) ?_
                    refine zz_iload M 0 dX8_law_130 rfl ?_
                    exact zz_iret M dX8_law_132 h
                · have h := zif h c
                  refine zz_aload_n M 1 dX8_law_102 rfl rfl ?_
                  refine zz_iload_n M 4 dX8_law_103 rfl rfl ?_
                  refine zz_putI M f_X8_32 tM_0 rfl dX8_law_104 ?_
                  refine zz_sg (fun σ26 eσ26 => ?_)
                  have h := h σ26 eσ26
                  refine zz_goto M 130 dX8_law_107 (by decide) ?_
                  refine zz_iload M 0 dX8_law_130 rfl ?_
                  exact zz_iret M dX8_law_132 h
            · have h := zif h c
              refine zz_aload_n M 0 dX8_law_71 rfl rfl ?_
              refine zz_getI M f_X8_32 tM_0 rfl dX8_law_72 ?_
              refine zz_goto M 96 dX8_law_75 (by decide) ?_
              refine zz_topi (fun x27 ex27 => ?_)
              have h := h x27 ex27
              refine zz_istore M [(4, .int x27), (0, .ref (ad 0)), (1, .int x1), (2, .int x2), (3, .int x3)] dX8_law_96 (by decide) rfl ?_
              refine zz_iload_n M 2 dX8_law_98 rfl rfl ?_
              refine zz_if_ne (y0 := 0) M 110 dX8_law_99 (by decide) (fun c => ?_) (fun c => ?_)
              · have h := zifn h c
                refine zz_iload_n M 2 dX8_law_110 rfl rfl ?_
                refine zz_iconst (v := 1) M dX8_law_111 (by decide) ?_
                refine zz_icmp_ne M 123 dX8_law_112 (by decide) (fun c => ?_) (fun c => ?_)
                · have h := zifn h c
                  refine zz_aload_n M 1 dX8_law_123 rfl rfl ?_
                  refine zz_getR M f_X8_41 tM_0 rfl dX8_law_124 ?_
                  refine zz_iload_n M 3 dX8_law_127 rfl rfl ?_
                  refine zz_iload_n M 4 dX8_law_128 rfl rfl ?_
                  refine zz_iast M tM_8 h.1 dX8_law_129 ?_
                  have h := h.2
                  refine zz_sg (fun σ28 eσ28 => ?_)
                  have h := h σ28 eσ28
                  refine zz_iload M 0 dX8_law_130 rfl ?_
                  exact zz_iret M dX8_law_132 h
                · have h := zif h c
                  refine zz_aload_n M 1 dX8_law_115 rfl rfl ?_
                  refine zz_iload_n M 4 dX8_law_116 rfl rfl ?_
                  refine zz_putI M f_X8_35 tM_0 rfl dX8_law_117 ?_
                  refine zz_sg (fun σ29 eσ29 => ?_)
                  have h := h σ29 eσ29
                  refine zz_goto M 130 dX8_law_120 (by decide) ?_
                  refine zz_iload M 0 dX8_law_130 rfl ?_
                  exact zz_iret M dX8_law_132 h
              · have h := zif h c
                refine zz_aload_n M 1 dX8_law_102 rfl rfl ?_
                refine zz_iload_n M 4 dX8_law_103 rfl rfl ?_
                refine zz_putI M f_X8_32 tM_0 rfl dX8_law_104 ?_
                refine zz_sg (fun σ30 eσ30 => ?_)
                have h := h σ30 eσ30
                refine zz_goto M 130 dX8_law_107 (by decide) ?_
                refine zz_iload M 0 dX8_law_130 rfl ?_
                exact zz_iret M dX8_law_132 h
          · have h := zif h c
            refine zz_bipush (v := (-2)) M dX8_law_64 (by decide) ?_
            exact zz_iret M dX8_law_66 h
      · have h := zif h c
        refine zz_lconst (v := 0) M dX8_law_40 (by decide) ?_
        refine zz_goto M 45 dX8_law_41 (by decide) ?_
        refine zz_iload_n M 1 dX8_law_45 rfl rfl ?_
        refine zz_if_ne (y0 := 0) M 55 dX8_law_46 (by decide) (fun c => ?_) (fun c => ?_)
        · have h := zifn h c
          refine zz_ldc2 (v := 9) M k_X8_106 dX8_law_55 ?_
          refine zz_callSI (d' := 1) (As := [.long ((x3 : Int32).toInt64), .long 0, .long 9]) (rest := []) M l_X8_92 dX8_law_58 rfl rfl (by decide) (Nat.le_of_ble_eq_true rfl) (by have hI := M.2.2.2.2.2.2.2.2; exact kX8_in hI _ _ _  _ _ h) (fun r31 σ32 h => ?_)
          refine zz_if_ne (y0 := 0) M 67 dX8_law_61 (by decide) (fun c => ?_) (fun c => ?_)
          · have h := zifn h c
            refine zz_iload_n M 1 dX8_law_67 rfl rfl ?_
            refine zz_if_ne (y0 := 0) M 78 dX8_law_68 (by decide) (fun c => ?_) (fun c => ?_)
            · have h := zifn h c
              refine zz_iload_n M 1 dX8_law_78 rfl rfl ?_
              refine zz_iconst (v := 1) M dX8_law_79 (by decide) ?_
              refine zz_icmp_ne M 90 dX8_law_80 (by decide) (fun c => ?_) (fun c => ?_)
              · have h := zifn h c
                refine zz_aload_n M 0 dX8_law_90 rfl rfl ?_
                refine zz_getR M f_X8_41 tM_0 rfl dX8_law_91 ?_
                refine zz_iload_n M 2 dX8_law_94 rfl rfl ?_
                refine zz_iald M tM_8 h.1 dX8_law_95 ?_
                have h := h.2
                refine zz_topi (fun x33 ex33 => ?_)
                have h := h x33 ex33
                refine zz_istore M [(4, .int x33), (0, .ref (ad 0)), (1, .int x1), (2, .int x2), (3, .int x3)] dX8_law_96 (by decide) rfl ?_
                refine zz_iload_n M 2 dX8_law_98 rfl rfl ?_
                refine zz_if_ne (y0 := 0) M 110 dX8_law_99 (by decide) (fun c => ?_) (fun c => ?_)
                · have h := zifn h c
                  refine zz_iload_n M 2 dX8_law_110 rfl rfl ?_
                  refine zz_iconst (v := 1) M dX8_law_111 (by decide) ?_
                  refine zz_icmp_ne M 123 dX8_law_112 (by decide) (fun c => ?_) (fun c => ?_)
                  · have h := zifn h c
                    refine zz_aload_n M 1 dX8_law_123 rfl rfl ?_
                    refine zz_getR M f_X8_41 tM_0 rfl dX8_law_124 ?_
                    refine zz_iload_n M 3 dX8_law_127 rfl rfl ?_
                    refine zz_iload_n M 4 dX8_law_128 rfl rfl ?_
                    refine zz_iast M tM_8 h.1 dX8_law_129 ?_
                    have h := h.2
                    refine zz_sg (fun σ34 eσ34 => ?_)
                    have h := h σ34 eσ34
                    refine zz_iload M 0 dX8_law_130 rfl ?_
                    exact zz_iret M dX8_law_132 h
                  · have h := zif h c
                    refine zz_aload_n M 1 dX8_law_115 rfl rfl ?_
                    refine zz_iload_n M 4 dX8_law_116 rfl rfl ?_
                    refine zz_putI M f_X8_35 tM_0 rfl dX8_law_117 ?_
                    refine zz_sg (fun σ35 eσ35 => ?_)
                    have h := h σ35 eσ35
                    refine zz_goto M 130 dX8_law_120 (by decide) ?_
                    refine zz_iload M 0 dX8_law_130 rfl ?_
                    exact zz_iret M dX8_law_132 h
                · have h := zif h c
                  refine zz_aload_n M 1 dX8_law_102 rfl rfl ?_
                  refine zz_iload_n M 4 dX8_law_103 rfl rfl ?_
                  refine zz_putI M f_X8_32 tM_0 rfl dX8_law_104 ?_
                  refine zz_sg (fun σ36 eσ36 => ?_)
                  have h := h σ36 eσ36
                  refine zz_goto M 130 dX8_law_107 (by decide) ?_
                  refine zz_iload M 0 dX8_law_130 rfl ?_
                  exact zz_iret M dX8_law_132 h
              · have h := zif h c
                refine zz_aload_n M 0 dX8_law_83 rfl rfl ?_
                refine zz_getI M f_X8_35 tM_0 rfl dX8_law_84 ?_
                refine zz_goto M 96 dX8_law_87 (by decide) ?_
                refine zz_topi (fun x37 ex37 => ?_)
                have h := h x37 ex37
                refine zz_istore M [(4, .int x37), (0, .ref (ad 0)), (1, .int x1), (2, .int x2), (3, .int x3)] dX8_law_96 (by decide) rfl ?_
                refine zz_iload_n M 2 dX8_law_98 rfl rfl ?_
                refine zz_if_ne (y0 := 0) M 110 dX8_law_99 (by decide) (fun c => ?_) (fun c => ?_)
                · have h := zifn h c
                  refine zz_iload_n M 2 dX8_law_110 rfl rfl ?_
                  refine zz_iconst (v := 1) M dX8_law_111 (by decide) ?_
                  refine zz_icmp_ne M 123 dX8_law_112 (by decide) (fun c => ?_) (fun c => ?_)
                  · have h := zifn h c
                    refine zz_aload_n M 1 dX8_law_123 rfl rfl ?_
                    refine zz_getR M f_X8_41 tM_0 rfl dX8_law_124 ?_
                    refine zz_iload_n M 3 dX8_law_127 rfl rfl ?_
                    refine zz_iload_n M 4 dX8_law_128 rfl rfl ?_
                    refine zz_iast M tM_8 h.1 dX8_law_129 ?_
                    have h := h.2
                    refine zz_sg (fun σ38 eσ38 => ?_)
                    have h := h σ38 eσ38
                    refine zz_iload M 0 dX8_law_130 rfl ?_
                    exact zz_iret M dX8_law_132 h
                  · have h := zif h c
                    refine zz_aload_n M 1 dX8_law_115 rfl rfl ?_
                    refine zz_iload_n M 4 dX8_law_116 rfl rfl ?_
                    refine zz_putI M f_X8_35 tM_0 rfl dX8_law_117 ?_
                    refine zz_sg (fun σ39 eσ39 => ?_)
                    have h := h σ39 eσ39
                    refine zz_goto M 130 dX8_law_120 (by decide) ?_
                    refine zz_iload M 0 dX8_law_130 rfl ?_
                    exact zz_iret M dX8_law_132 h
                · have h := zif h c
                  refine zz_aload_n M 1 dX8_law_102 rfl rfl ?_
                  refine zz_iload_n M 4 dX8_law_103 rfl rfl ?_
                  refine zz_putI M f_X8_32 tM_0 rfl dX8_law_104 ?_
                  refine zz_sg (fun σ40 eσ40 => ?_)
                  have h := h σ40 eσ40
                  refine zz_goto M 130 dX8_law_107 (by decide) ?_
                  refine zz_iload M 0 dX8_law_130 rfl ?_
                  exact zz_iret M dX8_law_132 h
            · have h := zif h c
              refine zz_aload_n M 0 dX8_law_71 rfl rfl ?_
              refine zz_getI M f_X8_32 tM_0 rfl dX8_law_72 ?_
              refine zz_goto M 96 dX8_law_75 (by decide) ?_
              refine zz_topi (fun x41 ex41 => ?_)
              have h := h x41 ex41
              refine zz_istore M [(4, .int x41), (0, .ref (ad 0)), (1, .int x1), (2, .int x2), (3, .int x3)] dX8_law_96 (by decide) rfl ?_
              refine zz_iload_n M 2 dX8_law_98 rfl rfl ?_
              refine zz_if_ne (y0 := 0) M 110 dX8_law_99 (by decide) (fun c => ?_) (fun c => ?_)
              · have h := zifn h c
                refine zz_iload_n M 2 dX8_law_110 rfl rfl ?_
                refine zz_iconst (v := 1) M dX8_law_111 (by decide) ?_
                refine zz_icmp_ne M 123 dX8_law_112 (by decide) (fun c => ?_) (fun c => ?_)
                · have h := zifn h c
                  refine zz_aload_n M 1 dX8_law_123 rfl rfl ?_
                  refine zz_getR M f_X8_41 tM_0 rfl dX8_law_124 ?_
                  refine zz_iload_n M 3 dX8_law_127 rfl rfl ?_
                  refine zz_iload_n M 4 dX8_law_128 rfl rfl ?_
                  refine zz_iast M tM_8 h.1 dX8_law_129 ?_
                  have h := h.2
                  refine zz_sg (fun σ42 eσ42 => ?_)
                  have h := h σ42 eσ42
                  refine zz_iload M 0 dX8_law_130 rfl ?_
                  exact zz_iret M dX8_law_132 h
                · have h := zif h c
                  refine zz_aload_n M 1 dX8_law_115 rfl rfl ?_
                  refine zz_iload_n M 4 dX8_law_116 rfl rfl ?_
                  refine zz_putI M f_X8_35 tM_0 rfl dX8_law_117 ?_
                  refine zz_sg (fun σ43 eσ43 => ?_)
                  have h := h σ43 eσ43
                  refine zz_goto M 130 dX8_law_120 (by decide) ?_
                  refine zz_iload M 0 dX8_law_130 rfl ?_
                  exact zz_iret M dX8_law_132 h
              · have h := zif h c
                refine zz_aload_n M 1 dX8_law_102 rfl rfl ?_
                refine zz_iload_n M 4 dX8_law_103 rfl rfl ?_
                refine zz_putI M f_X8_32 tM_0 rfl dX8_law_104 ?_
                refine zz_sg (fun σ44 eσ44 => ?_)
                have h := h σ44 eσ44
                refine zz_goto M 130 dX8_law_107 (by decide) ?_
                refine zz_iload M 0 dX8_law_130 rfl ?_
                exact zz_iret M dX8_law_132 h
          · have h := zif h c
            refine zz_bipush (v := (-2)) M dX8_law_64 (by decide) ?_
            exact zz_iret M dX8_law_66 h
        · have h := zif h c
          refine zz_ldc2 (v := 4) M k_X8_117 dX8_law_49 ?_
          refine zz_goto M 58 dX8_law_52 (by decide) ?_
          refine zz_callSI (d' := 1) (As := [.long ((x3 : Int32).toInt64), .long 0, .long 4]) (rest := []) M l_X8_92 dX8_law_58 rfl rfl (by decide) (Nat.le_of_ble_eq_true rfl) (by have hI := M.2.2.2.2.2.2.2.2; exact kX8_in hI _ _ _  _ _ h) (fun r45 σ46 h => ?_)
          refine zz_if_ne (y0 := 0) M 67 dX8_law_61 (by decide) (fun c => ?_) (fun c => ?_)
          · have h := zifn h c
            refine zz_iload_n M 1 dX8_law_67 rfl rfl ?_
            refine zz_if_ne (y0 := 0) M 78 dX8_law_68 (by decide) (fun c => ?_) (fun c => ?_)
            · have h := zifn h c
              refine zz_iload_n M 1 dX8_law_78 rfl rfl ?_
              refine zz_iconst (v := 1) M dX8_law_79 (by decide) ?_
              refine zz_icmp_ne M 90 dX8_law_80 (by decide) (fun c => ?_) (fun c => ?_)
              · have h := zifn h c
                refine zz_aload_n M 0 dX8_law_90 rfl rfl ?_
                refine zz_getR M f_X8_41 tM_0 rfl dX8_law_91 ?_
                refine zz_iload_n M 2 dX8_law_94 rfl rfl ?_
                refine zz_iald M tM_8 h.1 dX8_law_95 ?_
                have h := h.2
                refine zz_topi (fun x47 ex47 => ?_)
                have h := h x47 ex47
                refine zz_istore M [(4, .int x47), (0, .ref (ad 0)), (1, .int x1), (2, .int x2), (3, .int x3)] dX8_law_96 (by decide) rfl ?_
                refine zz_iload_n M 2 dX8_law_98 rfl rfl ?_
                refine zz_if_ne (y0 := 0) M 110 dX8_law_99 (by decide) (fun c => ?_) (fun c => ?_)
                · have h := zifn h c
                  refine zz_iload_n M 2 dX8_law_110 rfl rfl ?_
                  refine zz_iconst (v := 1) M dX8_law_111 (by decide) ?_
                  refine zz_icmp_ne M 123 dX8_law_112 (by decide) (fun c => ?_) (fun c => ?_)
                  · have h := zifn h c
                    refine zz_aload_n M 1 dX8_law_123 rfl rfl ?_
                    refine zz_getR M f_X8_41 tM_0 rfl dX8_law_124 ?_
                    refine zz_iload_n M 3 dX8_law_127 rfl rfl ?_
                    refine zz_iload_n M 4 dX8_law_128 rfl rfl ?_
                    refine zz_iast M tM_8 h.1 dX8_law_129 ?_
                    have h := h.2
                    refine zz_sg (fun σ48 eσ48 => ?_)
                    have h := h σ48 eσ48
                    refine zz_iload M 0 dX8_law_130 rfl ?_
                    exact zz_iret M dX8_law_132 h
                  · have h := zif h c
                    refine zz_aload_n M 1 dX8_law_115 rfl rfl ?_
                    refine zz_iload_n M 4 dX8_law_116 rfl rfl ?_
                    refine zz_putI M f_X8_35 tM_0 rfl dX8_law_117 ?_
                    refine zz_sg (fun σ49 eσ49 => ?_)
                    have h := h σ49 eσ49
                    refine zz_goto M 130 dX8_law_120 (by decide) ?_
                    refine zz_iload M 0 dX8_law_130 rfl ?_
                    exact zz_iret M dX8_law_132 h
                · have h := zif h c
                  refine zz_aload_n M 1 dX8_law_102 rfl rfl ?_
                  refine zz_iload_n M 4 dX8_law_103 rfl rfl ?_
                  refine zz_putI M f_X8_32 tM_0 rfl dX8_law_104 ?_
                  refine zz_sg (fun σ50 eσ50 => ?_)
                  have h := h σ50 eσ50
                  refine zz_goto M 130 dX8_law_107 (by decide) ?_
                  refine zz_iload M 0 dX8_law_130 rfl ?_
                  exact zz_iret M dX8_law_132 h
              · have h := zif h c
                refine zz_aload_n M 0 dX8_law_83 rfl rfl ?_
                refine zz_getI M f_X8_35 tM_0 rfl dX8_law_84 ?_
                refine zz_goto M 96 dX8_law_87 (by decide) ?_
                refine zz_topi (fun x51 ex51 => ?_)
                have h := h x51 ex51
                refine zz_istore M [(4, .int x51), (0, .ref (ad 0)), (1, .int x1), (2, .int x2), (3, .int x3)] dX8_law_96 (by decide) rfl ?_
                refine zz_iload_n M 2 dX8_law_98 rfl rfl ?_
                refine zz_if_ne (y0 := 0) M 110 dX8_law_99 (by decide) (fun c => ?_) (fun c => ?_)
                · have h := zifn h c
                  refine zz_iload_n M 2 dX8_law_110 rfl rfl ?_
                  refine zz_iconst (v := 1) M dX8_law_111 (by decide) ?_
                  refine zz_icmp_ne M 123 dX8_law_112 (by decide) (fun c => ?_) (fun c => ?_)
                  · have h := zifn h c
                    refine zz_aload_n M 1 dX8_law_123 rfl rfl ?_
                    refine zz_getR M f_X8_41 tM_0 rfl dX8_law_124 ?_
                    refine zz_iload_n M 3 dX8_law_127 rfl rfl ?_
                    refine zz_iload_n M 4 dX8_law_128 rfl rfl ?_
                    refine zz_iast M tM_8 h.1 dX8_law_129 ?_
                    have h := h.2
                    refine zz_sg (fun σ52 eσ52 => ?_)
                    have h := h σ52 eσ52
                    refine zz_iload M 0 dX8_law_130 rfl ?_
                    exact zz_iret M dX8_law_132 h
                  · have h := zif h c
                    refine zz_aload_n M 1 dX8_law_115 rfl rfl ?_
                    refine zz_iload_n M 4 dX8_law_116 rfl rfl ?_
                    refine zz_putI M f_X8_35 tM_0 rfl dX8_law_117 ?_
                    refine zz_sg (fun σ53 eσ53 => ?_)
                    have h := h σ53 eσ53
                    refine zz_goto M 130 dX8_law_120 (by decide) ?_
                    refine zz_iload M 0 dX8_law_130 rfl ?_
                    exact zz_iret M dX8_law_132 h
                · have h := zif h c
                  refine zz_aload_n M 1 dX8_law_102 rfl rfl ?_
                  refine zz_iload_n M 4 dX8_law_103 rfl rfl ?_
                  refine zz_putI M f_X8_32 tM_0 rfl dX8_law_104 ?_
                  refine zz_sg (fun σ54 eσ54 => ?_)
                  have h := h σ54 eσ54
                  refine zz_goto M 130 dX8_law_107 (by decide) ?_
                  refine zz_iload M 0 dX8_law_130 rfl ?_
                  exact zz_iret M dX8_law_132 h
            · have h := zif h c
              refine zz_aload_n M 0 dX8_law_71 rfl rfl ?_
              refine zz_getI M f_X8_32 tM_0 rfl dX8_law_72 ?_
              refine zz_goto M 96 dX8_law_75 (by decide) ?_
              refine zz_topi (fun x55 ex55 => ?_)
              have h := h x55 ex55
              refine zz_istore M [(4, .int x55), (0, .ref (ad 0)), (1, .int x1), (2, .int x2), (3, .int x3)] dX8_law_96 (by decide) rfl ?_
              refine zz_iload_n M 2 dX8_law_98 rfl rfl ?_
              refine zz_if_ne (y0 := 0) M 110 dX8_law_99 (by decide) (fun c => ?_) (fun c => ?_)
              · have h := zifn h c
                refine zz_iload_n M 2 dX8_law_110 rfl rfl ?_
                refine zz_iconst (v := 1) M dX8_law_111 (by decide) ?_
                refine zz_icmp_ne M 123 dX8_law_112 (by decide) (fun c => ?_) (fun c => ?_)
                · have h := zifn h c
                  refine zz_aload_n M 1 dX8_law_123 rfl rfl ?_
                  refine zz_getR M f_X8_41 tM_0 rfl dX8_law_124 ?_
                  refine zz_iload_n M 3 dX8_law_127 rfl rfl ?_
                  refine zz_iload_n M 4 dX8_law_128 rfl rfl ?_
                  refine zz_iast M tM_8 h.1 dX8_law_129 ?_
                  have h := h.2
                  refine zz_sg (fun σ56 eσ56 => ?_)
                  have h := h σ56 eσ56
                  refine zz_iload M 0 dX8_law_130 rfl ?_
                  exact zz_iret M dX8_law_132 h
                · have h := zif h c
                  refine zz_aload_n M 1 dX8_law_115 rfl rfl ?_
                  refine zz_iload_n M 4 dX8_law_116 rfl rfl ?_
                  refine zz_putI M f_X8_35 tM_0 rfl dX8_law_117 ?_
                  refine zz_sg (fun σ57 eσ57 => ?_)
                  have h := h σ57 eσ57
                  refine zz_goto M 130 dX8_law_120 (by decide) ?_
                  refine zz_iload M 0 dX8_law_130 rfl ?_
                  exact zz_iret M dX8_law_132 h
              · have h := zif h c
                refine zz_aload_n M 1 dX8_law_102 rfl rfl ?_
                refine zz_iload_n M 4 dX8_law_103 rfl rfl ?_
                refine zz_putI M f_X8_32 tM_0 rfl dX8_law_104 ?_
                refine zz_sg (fun σ58 eσ58 => ?_)
                have h := h σ58 eσ58
                refine zz_goto M 130 dX8_law_107 (by decide) ?_
                refine zz_iload M 0 dX8_law_130 rfl ?_
                exact zz_iret M dX8_law_132 h
          · have h := zif h c
            refine zz_bipush (v := (-2)) M dX8_law_64 (by decide) ?_
            exact zz_iret M dX8_law_66 h
    · have h := zif h c
      refine zz_iload_n M 2 dX8_law_17 rfl rfl ?_
      refine zz_i2l M dX8_law_18 ?_
      refine zz_lconst (v := 0) M dX8_law_19 (by decide) ?_
      refine zz_aload_n M 0 dX8_law_20 rfl rfl ?_
      refine zz_getI M f_X8_114 tM_0 rfl dX8_law_21 ?_
      refine zz_iconst (v := 1) M dX8_law_24 (by decide) ?_
      refine zz_isub M dX8_law_25 ?_
      refine zz_i2l M dX8_law_26 ?_
      refine zz_callSI (d' := 1) (As := [.long ((x2 : Int32).toInt64), .long 0, .long (((σ2.1 0 16) - 1 : Int32).toInt64)]) (rest := []) M l_X8_92 dX8_law_27 rfl rfl (by decide) (Nat.le_of_ble_eq_true rfl) (by have hI := M.2.2.2.2.2.2.2.2; exact kX8_in hI _ _ _  _ _ h) (fun r59 σ60 h => ?_)
      refine zz_if_eq (y0 := 0) M 64 dX8_law_30 (by decide) (fun c => ?_) (fun c => ?_)
      · have h := zif h c
        refine zz_bipush (v := (-2)) M dX8_law_64 (by decide) ?_
        exact zz_iret M dX8_law_66 h
      · have h := zifn h c
        refine zz_iload_n M 3 dX8_law_33 rfl rfl ?_
        refine zz_i2l M dX8_law_34 ?_
        refine zz_iload_n M 1 dX8_law_35 rfl rfl ?_
        refine zz_iconst (v := 2) M dX8_law_36 (by decide) ?_
        refine zz_icmp_ne M 44 dX8_law_37 (by decide) (fun c => ?_) (fun c => ?_)
        · have h := zifn h c
          refine zz_lconst (v := 1) M dX8_law_44 (by decide) ?_
          refine zz_iload_n M 1 dX8_law_45 rfl rfl ?_
          refine zz_if_ne (y0 := 0) M 55 dX8_law_46 (by decide) (fun c => ?_) (fun c => ?_)
          · have h := zifn h c
            refine zz_ldc2 (v := 9) M k_X8_106 dX8_law_55 ?_
            refine zz_callSI (d' := 1) (As := [.long ((x3 : Int32).toInt64), .long 1, .long 9]) (rest := []) M l_X8_92 dX8_law_58 rfl rfl (by decide) (Nat.le_of_ble_eq_true rfl) (by have hI := M.2.2.2.2.2.2.2.2; exact kX8_in hI _ _ _  _ _ h) (fun r61 σ62 h => ?_)
            refine zz_if_ne (y0 := 0) M 67 dX8_law_61 (by decide) (fun c => ?_) (fun c => ?_)
            · have h := zifn h c
              refine zz_iload_n M 1 dX8_law_67 rfl rfl ?_
              refine zz_if_ne (y0 := 0) M 78 dX8_law_68 (by decide) (fun c => ?_) (fun c => ?_)
              · have h := zifn h c
                refine zz_iload_n M 1 dX8_law_78 rfl rfl ?_
                refine zz_iconst (v := 1) M dX8_law_79 (by decide) ?_
                refine zz_icmp_ne M 90 dX8_law_80 (by decide) (fun c => ?_) (fun c => ?_)
                · have h := zifn h c
                  refine zz_aload_n M 0 dX8_law_90 rfl rfl ?_
                  refine zz_getR M f_X8_41 tM_0 rfl dX8_law_91 ?_
                  refine zz_iload_n M 2 dX8_law_94 rfl rfl ?_
                  refine zz_iald M tM_8 h.1 dX8_law_95 ?_
                  have h := h.2
                  refine zz_topi (fun x63 ex63 => ?_)
                  have h := h x63 ex63
                  refine zz_istore M [(4, .int x63), (0, .ref (ad 0)), (1, .int x1), (2, .int x2), (3, .int x3)] dX8_law_96 (by decide) rfl ?_
                  refine zz_iload_n M 2 dX8_law_98 rfl rfl ?_
                  refine zz_if_ne (y0 := 0) M 110 dX8_law_99 (by decide) (fun c => ?_) (fun c => ?_)
                  · have h := zifn h c
                    refine zz_iload_n M 2 dX8_law_110 rfl rfl ?_
                    refine zz_iconst (v := 1) M dX8_law_111 (by decide) ?_
                    refine zz_icmp_ne M 123 dX8_law_112 (by decide) (fun c => ?_) (fun c => ?_)
                    · have h := zifn h c
                      refine zz_aload_n M 1 dX8_law_123 rfl rfl ?_
                      refine zz_getR M f_X8_41 tM_0 rfl dX8_law_124 ?_
                      refine zz_iload_n M 3 dX8_law_127 rfl rfl ?_
                      refine zz_iload_n M 4 dX8_law_128 rfl rfl ?_
                      refine zz_iast M tM_8 h.1 dX8_law_129 ?_
                      have h := h.2
                      refine zz_sg (fun σ64 eσ64 => ?_)
                      have h := h σ64 eσ64
                      refine zz_iload M 0 dX8_law_130 rfl ?_
                      exact zz_iret M dX8_law_132 h
                    · have h := zif h c
                      refine zz_aload_n M 1 dX8_law_115 rfl rfl ?_
                      refine zz_iload_n M 4 dX8_law_116 rfl rfl ?_
                      refine zz_putI M f_X8_35 tM_0 rfl dX8_law_117 ?_
                      refine zz_sg (fun σ65 eσ65 => ?_)
                      have h := h σ65 eσ65
                      refine zz_goto M 130 dX8_law_120 (by decide) ?_
                      refine zz_iload M 0 dX8_law_130 rfl ?_
                      exact zz_iret M dX8_law_132 h
                  · have h := zif h c
                    refine zz_aload_n M 1 dX8_law_102 rfl rfl ?_
                    refine zz_iload_n M 4 dX8_law_103 rfl rfl ?_
                    refine zz_putI M f_X8_32 tM_0 rfl dX8_law_104 ?_
                    refine zz_sg (fun σ66 eσ66 => ?_)
                    have h := h σ66 eσ66
                    refine zz_goto M 130 dX8_law_107 (by decide) ?_
                    refine zz_iload M 0 dX8_law_130 rfl ?_
                    exact zz_iret M dX8_law_132 h
                · have h := zif h c
                  refine zz_aload_n M 0 dX8_law_83 rfl rfl ?_
                  refine zz_getI M f_X8_35 tM_0 rfl dX8_law_84 ?_
                  refine zz_goto M 96 dX8_law_87 (by decide) ?_
                  refine zz_topi (fun x67 ex67 => ?_)
                  have h := h x67 ex67
                  refine zz_istore M [(4, .int x67), (0, .ref (ad 0)), (1, .int x1), (2, .int x2), (3, .int x3)] dX8_law_96 (by decide) rfl ?_
                  refine zz_iload_n M 2 dX8_law_98 rfl rfl ?_
                  refine zz_if_ne (y0 := 0) M 110 dX8_law_99 (by decide) (fun c => ?_) (fun c => ?_)
                  · have h := zifn h c
                    refine zz_iload_n M 2 dX8_law_110 rfl rfl ?_
                    refine zz_iconst (v := 1) M dX8_law_111 (by decide) ?_
                    refine zz_icmp_ne M 123 dX8_law_112 (by decide) (fun c => ?_) (fun c => ?_)
                    · have h := zifn h c
                      refine zz_aload_n M 1 dX8_law_123 rfl rfl ?_
                      refine zz_getR M f_X8_41 tM_0 rfl dX8_law_124 ?_
                      refine zz_iload_n M 3 dX8_law_127 rfl rfl ?_
                      refine zz_iload_n M 4 dX8_law_128 rfl rfl ?_
                      refine zz_iast M tM_8 h.1 dX8_law_129 ?_
                      have h := h.2
                      refine zz_sg (fun σ68 eσ68 => ?_)
                      have h := h σ68 eσ68
                      refine zz_iload M 0 dX8_law_130 rfl ?_
                      exact zz_iret M dX8_law_132 h
                    · have h := zif h c
                      refine zz_aload_n M 1 dX8_law_115 rfl rfl ?_
                      refine zz_iload_n M 4 dX8_law_116 rfl rfl ?_
                      refine zz_putI M f_X8_35 tM_0 rfl dX8_law_117 ?_
                      refine zz_sg (fun σ69 eσ69 => ?_)
                      have h := h σ69 eσ69
                      refine zz_goto M 130 dX8_law_120 (by decide) ?_
                      refine zz_iload M 0 dX8_law_130 rfl ?_
                      exact zz_iret M dX8_law_132 h
                  · have h := zif h c
                    refine zz_aload_n M 1 dX8_law_102 rfl rfl ?_
                    refine zz_iload_n M 4 dX8_law_103 rfl rfl ?_
                    refine zz_putI M f_X8_32 tM_0 rfl dX8_law_104 ?_
                    refine zz_sg (fun σ70 eσ70 => ?_)
                    have h := h σ70 eσ70
                    refine zz_goto M 130 dX8_law_107 (by decide) ?_
                    refine zz_iload M 0 dX8_law_130 rfl ?_
                    exact zz_iret M dX8_law_132 h
              · have h := zif h c
                refine zz_aload_n M 0 dX8_law_71 rfl rfl ?_
                refine zz_getI M f_X8_32 tM_0 rfl dX8_law_72 ?_
                refine zz_goto M 96 dX8_law_75 (by decide) ?_
                refine zz_topi (fun x71 ex71 => ?_)
                have h := h x71 ex71
                refine zz_istore M [(4, .int x71), (0, .ref (ad 0)), (1, .int x1), (2, .int x2), (3, .int x3)] dX8_law_96 (by decide) rfl ?_
                refine zz_iload_n M 2 dX8_law_98 rfl rfl ?_
                refine zz_if_ne (y0 := 0) M 110 dX8_law_99 (by decide) (fun c => ?_) (fun c => ?_)
                · have h := zifn h c
                  refine zz_iload_n M 2 dX8_law_110 rfl rfl ?_
                  refine zz_iconst (v := 1) M dX8_law_111 (by decide) ?_
                  refine zz_icmp_ne M 123 dX8_law_112 (by decide) (fun c => ?_) (fun c => ?_)
                  · have h := zifn h c
                    refine zz_aload_n M 1 dX8_law_123 rfl rfl ?_
                    refine zz_getR M f_X8_41 tM_0 rfl dX8_law_124 ?_
                    refine zz_iload_n M 3 dX8_law_127 rfl rfl ?_
                    refine zz_iload_n M 4 dX8_law_128 rfl rfl ?_
                    refine zz_iast M tM_8 h.1 dX8_law_129 ?_
                    have h := h.2
                    refine zz_sg (fun σ72 eσ72 => ?_)
                    have h := h σ72 eσ72
                    refine zz_iload M 0 dX8_law_130 rfl ?_
                    exact zz_iret M dX8_law_132 h
                  · have h := zif h c
                    refine zz_aload_n M 1 dX8_law_115 rfl rfl ?_
                    refine zz_iload_n M 4 dX8_law_116 rfl rfl ?_
                    refine zz_putI M f_X8_35 tM_0 rfl dX8_law_117 ?_
                    refine zz_sg (fun σ73 eσ73 => ?_)
                    have h := h σ73 eσ73
                    refine zz_goto M 130 dX8_law_120 (by decide) ?_
                    refine zz_iload M 0 dX8_law_130 rfl ?_
                    exact zz_iret M dX8_law_132 h
                · have h := zif h c
                  refine zz_aload_n M 1 dX8_law_102 rfl rfl ?_
                  refine zz_iload_n M 4 dX8_law_103 rfl rfl ?_
                  refine zz_putI M f_X8_32 tM_0 rfl dX8_law_104 ?_
                  refine zz_sg (fun σ74 eσ74 => ?_)
                  have h := h σ74 eσ74
                  refine zz_goto M 130 dX8_law_107 (by decide) ?_
                  refine zz_iload M 0 dX8_law_130 rfl ?_
                  exact zz_iret M dX8_law_132 h
            · have h := zif h c
              refine zz_bipush (v := (-2)) M dX8_law_64 (by decide) ?_
              exact zz_iret M dX8_law_66 h
          · have h := zif h c
            refine zz_ldc2 (v := 4) M k_X8_117 dX8_law_49 ?_
            refine zz_goto M 58 dX8_law_52 (by decide) ?_
            refine zz_callSI (d' := 1) (As := [.long ((x3 : Int32).toInt64), .long 1, .long 4]) (rest := []) M l_X8_92 dX8_law_58 rfl rfl (by decide) (Nat.le_of_ble_eq_true rfl) (by have hI := M.2.2.2.2.2.2.2.2; exact kX8_in hI _ _ _  _ _ h) (fun r75 σ76 h => ?_)
            refine zz_if_ne (y0 := 0) M 67 dX8_law_61 (by decide) (fun c => ?_) (fun c => ?_)
            · have h := zifn h c
              refine zz_iload_n M 1 dX8_law_67 rfl rfl ?_
              refine zz_if_ne (y0 := 0) M 78 dX8_law_68 (by decide) (fun c => ?_) (fun c => ?_)
              · have h := zifn h c
                refine zz_iload_n M 1 dX8_law_78 rfl rfl ?_
                refine zz_iconst (v := 1) M dX8_law_79 (by decide) ?_
                refine zz_icmp_ne M 90 dX8_law_80 (by decide) (fun c => ?_) (fun c => ?_)
                · have h := zifn h c
                  refine zz_aload_n M 0 dX8_law_90 rfl rfl ?_
                  refine zz_getR M f_X8_41 tM_0 rfl dX8_law_91 ?_
                  refine zz_iload_n M 2 dX8_law_94 rfl rfl ?_
                  refine zz_iald M tM_8 h.1 dX8_law_95 ?_
                  have h := h.2
                  refine zz_topi (fun x77 ex77 => ?_)
                  have h := h x77 ex77
                  refine zz_istore M [(4, .int x77), (0, .ref (ad 0)), (1, .int x1), (2, .int x2), (3, .int x3)] dX8_law_96 (by decide) rfl ?_
                  refine zz_iload_n M 2 dX8_law_98 rfl rfl ?_
                  refine zz_if_ne (y0 := 0) M 110 dX8_law_99 (by decide) (fun c => ?_) (fun c => ?_)
                  · have h := zifn h c
                    refine zz_iload_n M 2 dX8_law_110 rfl rfl ?_
                    refine zz_iconst (v := 1) M dX8_law_111 (by decide) ?_
                    refine zz_icmp_ne M 123 dX8_law_112 (by decide) (fun c => ?_) (fun c => ?_)
                    · have h := zifn h c
                      refine zz_aload_n M 1 dX8_law_123 rfl rfl ?_
                      refine zz_getR M f_X8_41 tM_0 rfl dX8_law_124 ?_
                      refine zz_iload_n M 3 dX8_law_127 rfl rfl ?_
                      refine zz_iload_n M 4 dX8_law_128 rfl rfl ?_
                      refine zz_iast M tM_8 h.1 dX8_law_129 ?_
                      have h := h.2
                      refine zz_sg (fun σ78 eσ78 => ?_)
                      have h := h σ78 eσ78
                      refine zz_iload M 0 dX8_law_130 rfl ?_
                      exact zz_iret M dX8_law_132 h
                    · have h := zif h c
                      refine zz_aload_n M 1 dX8_law_115 rfl rfl ?_
                      refine zz_iload_n M 4 dX8_law_116 rfl rfl ?_
                      refine zz_putI M f_X8_35 tM_0 rfl dX8_law_117 ?_
                      refine zz_sg (fun σ79 eσ79 => ?_)
                      have h := h σ79 eσ79
                      refine zz_goto M 130 dX8_law_120 (by decide) ?_
                      refine zz_iload M 0 dX8_law_130 rfl ?_
                      exact zz_iret M dX8_law_132 h
                  · have h := zif h c
                    refine zz_aload_n M 1 dX8_law_102 rfl rfl ?_
                    refine zz_iload_n M 4 dX8_law_103 rfl rfl ?_
                    refine zz_putI M f_X8_32 tM_0 rfl dX8_law_104 ?_
                    refine zz_sg (fun σ80 eσ80 => ?_)
                    have h := h σ80 eσ80
                    refine zz_goto M 130 dX8_law_107 (by decide) ?_
                    refine zz_iload M 0 dX8_law_130 rfl ?_
                    exact zz_iret M dX8_law_132 h
                · have h := zif h c
                  refine zz_aload_n M 0 dX8_law_83 rfl rfl ?_
                  refine zz_getI M f_X8_35 tM_0 rfl dX8_law_84 ?_
                  refine zz_goto M 96 dX8_law_87 (by decide) ?_
                  refine zz_topi (fun x81 ex81 => ?_)
                  have h := h x81 ex81
                  refine zz_istore M [(4, .int x81), (0, .ref (ad 0)), (1, .int x1), (2, .int x2), (3, .int x3)] dX8_law_96 (by decide) rfl ?_
                  refine zz_iload_n M 2 dX8_law_98 rfl rfl ?_
                  refine zz_if_ne (y0 := 0) M 110 dX8_law_99 (by decide) (fun c => ?_) (fun c => ?_)
                  · have h := zifn h c
                    refine zz_iload_n M 2 dX8_law_110 rfl rfl ?_
                    refine zz_iconst (v := 1) M dX8_law_111 (by decide) ?_
                    refine zz_icmp_ne M 123 dX8_law_112 (by decide) (fun c => ?_) (fun c => ?_)
                    · have h := zifn h c
                      refine zz_aload_n M 1 dX8_law_123 rfl rfl ?_
                      refine zz_getR M f_X8_41 tM_0 rfl dX8_law_124 ?_
                      refine zz_iload_n M 3 dX8_law_127 rfl rfl ?_
                      refine zz_iload_n M 4 dX8_law_128 rfl rfl ?_
                      refine zz_iast M tM_8 h.1 dX8_law_129 ?_
                      have h := h.2
                      refine zz_sg (fun σ82 eσ82 => ?_)
                      have h := h σ82 eσ82
                      refine zz_iload M 0 dX8_law_130 rfl ?_
                      exact zz_iret M dX8_law_132 h
                    · have h := zif h c
                      refine zz_aload_n M 1 dX8_law_115 rfl rfl ?_
                      refine zz_iload_n M 4 dX8_law_116 rfl rfl ?_
                      refine zz_putI M f_X8_35 tM_0 rfl dX8_law_117 ?_
                      refine zz_sg (fun σ83 eσ83 => ?_)
                      have h := h σ83 eσ83
                      refine zz_goto M 130 dX8_law_120 (by decide) ?_
                      refine zz_iload M 0 dX8_law_130 rfl ?_
                      exact zz_iret M dX8_law_132 h
                  · have h := zif h c
                    refine zz_aload_n M 1 dX8_law_102 rfl rfl ?_
                    refine zz_iload_n M 4 dX8_law_103 rfl rfl ?_
                    refine zz_putI M f_X8_32 tM_0 rfl dX8_law_104 ?_
                    refine zz_sg (fun σ84 eσ84 => ?_)
                    have h := h σ84 eσ84
                    refine zz_goto M 130 dX8_law_107 (by decide) ?_
                    refine zz_iload M 0 dX8_law_130 rfl ?_
                    exact zz_iret M dX8_law_132 h
              · have h := zif h c
                refine zz_aload_n M 0 dX8_law_71 rfl rfl ?_
                refine zz_getI M f_X8_32 tM_0 rfl dX8_law_72 ?_
                refine zz_goto M 96 dX8_law_75 (by decide) ?_
                refine zz_topi (fun x85 ex85 => ?_)
                have h := h x85 ex85
                refine zz_istore M [(4, .int x85), (0, .ref (ad 0)), (1, .int x1), (2, .int x2), (3, .int x3)] dX8_law_96 (by decide) rfl ?_
                refine zz_iload_n M 2 dX8_law_98 rfl rfl ?_
                refine zz_if_ne (y0 := 0) M 110 dX8_law_99 (by decide) (fun c => ?_) (fun c => ?_)
                · have h := zifn h c
                  refine zz_iload_n M 2 dX8_law_110 rfl rfl ?_
                  refine zz_iconst (v := 1) M dX8_law_111 (by decide) ?_
                  refine zz_icmp_ne M 123 dX8_law_112 (by decide) (fun c => ?_) (fun c => ?_)
                  · have h := zifn h c
                    refine zz_aload_n M 1 dX8_law_123 rfl rfl ?_
                    refine zz_getR M f_X8_41 tM_0 rfl dX8_law_124 ?_
                    refine zz_iload_n M 3 dX8_law_127 rfl rfl ?_
                    refine zz_iload_n M 4 dX8_law_128 rfl rfl ?_
                    refine zz_iast M tM_8 h.1 dX8_law_129 ?_
                    have h := h.2
                    refine zz_sg (fun σ86 eσ86 => ?_)
                    have h := h σ86 eσ86
                    refine zz_iload M 0 dX8_law_130 rfl ?_
                    exact zz_iret M dX8_law_132 h
                  · have h := zif h c
                    refine zz_aload_n M 1 dX8_law_115 rfl rfl ?_
                    refine zz_iload_n M 4 dX8_law_116 rfl rfl ?_
                    refine zz_putI M f_X8_35 tM_0 rfl dX8_law_117 ?_
                    refine zz_sg (fun σ87 eσ87 => ?_)
                    have h := h σ87 eσ87
                    refine zz_goto M 130 dX8_law_120 (by decide) ?_
                    refine zz_iload M 0 dX8_law_130 rfl ?_
                    exact zz_iret M dX8_law_132 h
                · have h := zif h c
                  refine zz_aload_n M 1 dX8_law_102 rfl rfl ?_
                  refine zz_iload_n M 4 dX8_law_103 rfl rfl ?_
                  refine zz_putI M f_X8_32 tM_0 rfl dX8_law_104 ?_
                  refine zz_sg (fun σ88 eσ88 => ?_)
                  have h := h σ88 eσ88
                  refine zz_goto M 130 dX8_law_107 (by decide) ?_
                  refine zz_iload M 0 dX8_law_130 rfl ?_
                  exact zz_iret M dX8_law_132 h
            · have h := zif h c
              refine zz_bipush (v := (-2)) M dX8_law_64 (by decide) ?_
              exact zz_iret M dX8_law_66 h
        · have h := zif h c
          refine zz_lconst (v := 0) M dX8_law_40 (by decide) ?_
          refine zz_goto M 45 dX8_law_41 (by decide) ?_
          refine zz_iload_n M 1 dX8_law_45 rfl rfl ?_
          refine zz_if_ne (y0 := 0) M 55 dX8_law_46 (by decide) (fun c => ?_) (fun c => ?_)
          · have h := zifn h c
            refine zz_ldc2 (v := 9) M k_X8_106 dX8_law_55 ?_
            refine zz_callSI (d' := 1) (As := [.long ((x3 : Int32).toInt64), .long 0, .long 9]) (rest := []) M l_X8_92 dX8_law_58 rfl rfl (by decide) (Nat.le_of_ble_eq_true rfl) (by have hI := M.2.2.2.2.2.2.2.2; exact kX8_in hI _ _ _  _ _ h) (fun r89 σ90 h => ?_)
            refine zz_if_ne (y0 := 0) M 67 dX8_law_61 (by decide) (fun c => ?_) (fun c => ?_)
            · have h := zifn h c
              refine zz_iload_n M 1 dX8_law_67 rfl rfl ?_
              refine zz_if_ne (y0 := 0) M 78 dX8_law_68 (by decide) (fun c => ?_) (fun c => ?_)
              · have h := zifn h c
                refine zz_iload_n M 1 dX8_law_78 rfl rfl ?_
                refine zz_iconst (v := 1) M dX8_law_79 (by decide) ?_
                refine zz_icmp_ne M 90 dX8_law_80 (by decide) (fun c => ?_) (fun c => ?_)
                · have h := zifn h c
                  refine zz_aload_n M 0 dX8_law_90 rfl rfl ?_
                  refine zz_getR M f_X8_41 tM_0 rfl dX8_law_91 ?_
                  refine zz_iload_n M 2 dX8_law_94 rfl rfl ?_
                  refine zz_iald M tM_8 h.1 dX8_law_95 ?_
                  have h := h.2
                  refine zz_topi (fun x91 ex91 => ?_)
                  have h := h x91 ex91
                  refine zz_istore M [(4, .int x91), (0, .ref (ad 0)), (1, .int x1), (2, .int x2), (3, .int x3)] dX8_law_96 (by decide) rfl ?_
                  refine zz_iload_n M 2 dX8_law_98 rfl rfl ?_
                  refine zz_if_ne (y0 := 0) M 110 dX8_law_99 (by decide) (fun c => ?_) (fun c => ?_)
                  · have h := zifn h c
                    refine zz_iload_n M 2 dX8_law_110 rfl rfl ?_
                    refine zz_iconst (v := 1) M dX8_law_111 (by decide) ?_
                    refine zz_icmp_ne M 123 dX8_law_112 (by decide) (fun c => ?_) (fun c => ?_)
                    · have h := zifn h c
                      refine zz_aload_n M 1 dX8_law_123 rfl rfl ?_
                      refine zz_getR M f_X8_41 tM_0 rfl dX8_law_124 ?_
                      refine zz_iload_n M 3 dX8_law_127 rfl rfl ?_
                      refine zz_iload_n M 4 dX8_law_128 rfl rfl ?_
                      refine zz_iast M tM_8 h.1 dX8_law_129 ?_
                      have h := h.2
                      refine zz_sg (fun σ92 eσ92 => ?_)
                      have h := h σ92 eσ92
                      refine zz_iload M 0 dX8_law_130 rfl ?_
                      exact zz_iret M dX8_law_132 h
                    · have h := zif h c
                      refine zz_aload_n M 1 dX8_law_115 rfl rfl ?_
                      refine zz_iload_n M 4 dX8_law_116 rfl rfl ?_
                      refine zz_putI M f_X8_35 tM_0 rfl dX8_law_117 ?_
                      refine zz_sg (fun σ93 eσ93 => ?_)
                      have h := h σ93 eσ93
                      refine zz_goto M 130 dX8_law_120 (by decide) ?_
                      refine zz_iload M 0 dX8_law_130 rfl ?_
                      exact zz_iret M dX8_law_132 h
                  · have h := zif h c
                    refine zz_aload_n M 1 dX8_law_102 rfl rfl ?_
                    refine zz_iload_n M 4 dX8_law_103 rfl rfl ?_
                    refine zz_putI M f_X8_32 tM_0 rfl dX8_law_104 ?_
                    refine zz_sg (fun σ94 eσ94 => ?_)
                    have h := h σ94 eσ94
                    refine zz_goto M 130 dX8_law_107 (by decide) ?_
                    refine zz_iload M 0 dX8_law_130 rfl ?_
                    exact zz_iret M dX8_law_132 h
                · have h := zif h c
                  refine zz_aload_n M 0 dX8_law_83 rfl rfl ?_
                  refine zz_getI M f_X8_35 tM_0 rfl dX8_law_84 ?_
                  refine zz_goto M 96 dX8_law_87 (by decide) ?_
                  refine zz_topi (fun x95 ex95 => ?_)
                  have h := h x95 ex95
                  refine zz_istore M [(4, .int x95), (0, .ref (ad 0)), (1, .int x1), (2, .int x2), (3, .int x3)] dX8_law_96 (by decide) rfl ?_
                  refine zz_iload_n M 2 dX8_law_98 rfl rfl ?_
                  refine zz_if_ne (y0 := 0) M 110 dX8_law_99 (by decide) (fun c => ?_) (fun c => ?_)
                  · have h := zifn h c
                    refine zz_iload_n M 2 dX8_law_110 rfl rfl ?_
                    refine zz_iconst (v := 1) M dX8_law_111 (by decide) ?_
                    refine zz_icmp_ne M 123 dX8_law_112 (by decide) (fun c => ?_) (fun c => ?_)
                    · have h := zifn h c
                      refine zz_aload_n M 1 dX8_law_123 rfl rfl ?_
                      refine zz_getR M f_X8_41 tM_0 rfl dX8_law_124 ?_
                      refine zz_iload_n M 3 dX8_law_127 rfl rfl ?_
                      refine zz_iload_n M 4 dX8_law_128 rfl rfl ?_
                      refine zz_iast M tM_8 h.1 dX8_law_129 ?_
                      have h := h.2
                      refine zz_sg (fun σ96 eσ96 => ?_)
                      have h := h σ96 eσ96
                      refine zz_iload M 0 dX8_law_130 rfl ?_
                      exact zz_iret M dX8_law_132 h
                    · have h := zif h c
                      refine zz_aload_n M 1 dX8_law_115 rfl rfl ?_
                      refine zz_iload_n M 4 dX8_law_116 rfl rfl ?_
                      refine zz_putI M f_X8_35 tM_0 rfl dX8_law_117 ?_
                      refine zz_sg (fun σ97 eσ97 => ?_)
                      have h := h σ97 eσ97
                      refine zz_goto M 130 dX8_law_120 (by decide) ?_
                      refine zz_iload M 0 dX8_law_130 rfl ?_
                      exact zz_iret M dX8_law_132 h
                  · have h := zif h c
                    refine zz_aload_n M 1 dX8_law_102 rfl rfl ?_
                    refine zz_iload_n M 4 dX8_law_103 rfl rfl ?_
                    refine zz_putI M f_X8_32 tM_0 rfl dX8_law_104 ?_
                    refine zz_sg (fun σ98 eσ98 => ?_)
                    have h := h σ98 eσ98
                    refine zz_goto M 130 dX8_law_107 (by decide) ?_
                    refine zz_iload M 0 dX8_law_130 rfl ?_
                    exact zz_iret M dX8_law_132 h
              · have h := zif h c
                refine zz_aload_n M 0 dX8_law_71 rfl rfl ?_
                refine zz_getI M f_X8_32 tM_0 rfl dX8_law_72 ?_
                refine zz_goto M 96 dX8_law_75 (by decide) ?_
                refine zz_topi (fun x99 ex99 => ?_)
                have h := h x99 ex99
                refine zz_istore M [(4, .int x99), (0, .ref (ad 0)), (1, .int x1), (2, .int x2), (3, .int x3)] dX8_law_96 (by decide) rfl ?_
                refine zz_iload_n M 2 dX8_law_98 rfl rfl ?_
                refine zz_if_ne (y0 := 0) M 110 dX8_law_99 (by decide) (fun c => ?_) (fun c => ?_)
                · have h := zifn h c
                  refine zz_iload_n M 2 dX8_law_110 rfl rfl ?_
                  refine zz_iconst (v := 1) M dX8_law_111 (by decide) ?_
                  refine zz_icmp_ne M 123 dX8_law_112 (by decide) (fun c => ?_) (fun c => ?_)
                  · have h := zifn h c
                    refine zz_aload_n M 1 dX8_law_123 rfl rfl ?_
                    refine zz_getR M f_X8_41 tM_0 rfl dX8_law_124 ?_
                    refine zz_iload_n M 3 dX8_law_127 rfl rfl ?_
                    refine zz_iload_n M 4 dX8_law_128 rfl rfl ?_
                    refine zz_iast M tM_8 h.1 dX8_law_129 ?_
                    have h := h.2
                    refine zz_sg (fun σ100 eσ100 => ?_)
                    have h := h σ100 eσ100
                    refine zz_iload M 0 dX8_law_130 rfl ?_
                    exact zz_iret M dX8_law_132 h
                  · have h := zif h c
                    refine zz_aload_n M 1 dX8_law_115 rfl rfl ?_
                    refine zz_iload_n M 4 dX8_law_116 rfl rfl ?_
                    refine zz_putI M f_X8_35 tM_0 rfl dX8_law_117 ?_
                    refine zz_sg (fun σ101 eσ101 => ?_)
                    have h := h σ101 eσ101
                    refine zz_goto M 130 dX8_law_120 (by decide) ?_
                    refine zz_iload M 0 dX8_law_130 rfl ?_
                    exact zz_iret M dX8_law_132 h
                · have h := zif h c
                  refine zz_aload_n M 1 dX8_law_102 rfl rfl ?_
                  refine zz_iload_n M 4 dX8_law_103 rfl rfl ?_
                  refine zz_putI M f_X8_32 tM_0 rfl dX8_law_104 ?_
                  refine zz_sg (fun σ102 eσ102 => ?_)
                  have h := h σ102 eσ102
                  refine zz_goto M 130 dX8_law_107 (by decide) ?_
                  refine zz_iload M 0 dX8_law_130 rfl ?_
                  exact zz_iret M dX8_law_132 h
            · have h := zif h c
              refine zz_bipush (v := (-2)) M dX8_law_64 (by decide) ?_
              exact zz_iret M dX8_law_66 h
          · have h := zif h c
            refine zz_ldc2 (v := 4) M k_X8_117 dX8_law_49 ?_
            refine zz_goto M 58 dX8_law_52 (by decide) ?_
            refine zz_callSI (d' := 1) (As := [.long ((x3 : Int32).toInt64), .long 0, .long 4]) (rest := []) M l_X8_92 dX8_law_58 rfl rfl (by decide) (Nat.le_of_ble_eq_true rfl) (by have hI := M.2.2.2.2.2.2.2.2; exact kX8_in hI _ _ _  _ _ h) (fun r103 σ104 h => ?_)
            refine zz_if_ne (y0 := 0) M 67 dX8_law_61 (by decide) (fun c => ?_) (fun c => ?_)
            · have h := zifn h c
              refine zz_iload_n M 1 dX8_law_67 rfl rfl ?_
              refine zz_if_ne (y0 := 0) M 78 dX8_law_68 (by decide) (fun c => ?_) (fun c => ?_)
              · have h := zifn h c
                refine zz_iload_n M 1 dX8_law_78 rfl rfl ?_
                refine zz_iconst (v := 1) M dX8_law_79 (by decide) ?_
                refine zz_icmp_ne M 90 dX8_law_80 (by decide) (fun c => ?_) (fun c => ?_)
                · have h := zifn h c
                  refine zz_aload_n M 0 dX8_law_90 rfl rfl ?_
                  refine zz_getR M f_X8_41 tM_0 rfl dX8_law_91 ?_
                  refine zz_iload_n M 2 dX8_law_94 rfl rfl ?_
                  refine zz_iald M tM_8 h.1 dX8_law_95 ?_
                  have h := h.2
                  refine zz_topi (fun x105 ex105 => ?_)
                  have h := h x105 ex105
                  refine zz_istore M [(4, .int x105), (0, .ref (ad 0)), (1, .int x1), (2, .int x2), (3, .int x3)] dX8_law_96 (by decide) rfl ?_
                  refine zz_iload_n M 2 dX8_law_98 rfl rfl ?_
                  refine zz_if_ne (y0 := 0) M 110 dX8_law_99 (by decide) (fun c => ?_) (fun c => ?_)
                  · have h := zifn h c
                    refine zz_iload_n M 2 dX8_law_110 rfl rfl ?_
                    refine zz_iconst (v := 1) M dX8_law_111 (by decide) ?_
                    refine zz_icmp_ne M 123 dX8_law_112 (by decide) (fun c => ?_) (fun c => ?_)
                    · have h := zifn h c
                      refine zz_aload_n M 1 dX8_law_123 rfl rfl ?_
                      refine zz_getR M f_X8_41 tM_0 rfl dX8_law_124 ?_
                      refine zz_iload_n M 3 dX8_law_127 rfl rfl ?_
                      refine zz_iload_n M 4 dX8_law_128 rfl rfl ?_
                      refine zz_iast M tM_8 h.1 dX8_law_129 ?_
                      have h := h.2
                      refine zz_sg (fun σ106 eσ106 => ?_)
                      have h := h σ106 eσ106
                      refine zz_iload M 0 dX8_law_130 rfl ?_
                      exact zz_iret M dX8_law_132 h
                    · have h := zif h c
                      refine zz_aload_n M 1 dX8_law_115 rfl rfl ?_
                      refine zz_iload_n M 4 dX8_law_116 rfl rfl ?_
                      refine zz_putI M f_X8_35 tM_0 rfl dX8_law_117 ?_
                      refine zz_sg (fun σ107 eσ107 => ?_)
                      have h := h σ107 eσ107
                      refine zz_goto M 130 dX8_law_120 (by decide) ?_
                      refine zz_iload M 0 dX8_law_130 rfl ?_
                      exact zz_iret M dX8_law_132 h
                  · have h := zif h c
                    refine zz_aload_n M 1 dX8_law_102 rfl rfl ?_
                    refine zz_iload_n M 4 dX8_law_103 rfl rfl ?_
                    refine zz_putI M f_X8_32 tM_0 rfl dX8_law_104 ?_
                    refine zz_sg (fun σ108 eσ108 => ?_)
                    have h := h σ108 eσ108
                    refine zz_goto M 130 dX8_law_107 (by decide) ?_
                    refine zz_iload M 0 dX8_law_130 rfl ?_
                    exact zz_iret M dX8_law_132 h
                · have h := zif h c
                  refine zz_aload_n M 0 dX8_law_83 rfl rfl ?_
                  refine zz_getI M f_X8_35 tM_0 rfl dX8_law_84 ?_
                  refine zz_goto M 96 dX8_law_87 (by decide) ?_
                  refine zz_topi (fun x109 ex109 => ?_)
                  have h := h x109 ex109
                  refine zz_istore M [(4, .int x109), (0, .ref (ad 0)), (1, .int x1), (2, .int x2), (3, .int x3)] dX8_law_96 (by decide) rfl ?_
                  refine zz_iload_n M 2 dX8_law_98 rfl rfl ?_
                  refine zz_if_ne (y0 := 0) M 110 dX8_law_99 (by decide) (fun c => ?_) (fun c => ?_)
                  · have h := zifn h c
                    refine zz_iload_n M 2 dX8_law_110 rfl rfl ?_
                    refine zz_iconst (v := 1) M dX8_law_111 (by decide) ?_
                    refine zz_icmp_ne M 123 dX8_law_112 (by decide) (fun c => ?_) (fun c => ?_)
                    · have h := zifn h c
                      refine zz_aload_n M 1 dX8_law_123 rfl rfl ?_
                      refine zz_getR M f_X8_41 tM_0 rfl dX8_law_124 ?_
                      refine zz_iload_n M 3 dX8_law_127 rfl rfl ?_
                      refine zz_iload_n M 4 dX8_law_128 rfl rfl ?_
                      refine zz_iast M tM_8 h.1 dX8_law_129 ?_
                      have h := h.2
                      refine zz_sg (fun σ110 eσ110 => ?_)
                      have h := h σ110 eσ110
                      refine zz_iload M 0 dX8_law_130 rfl ?_
                      exact zz_iret M dX8_law_132 h
                    · have h := zif h c
                      refine zz_aload_n M 1 dX8_law_115 rfl rfl ?_
                      refine zz_iload_n M 4 dX8_law_116 rfl rfl ?_
                      refine zz_putI M f_X8_35 tM_0 rfl dX8_law_117 ?_
                      refine zz_sg (fun σ111 eσ111 => ?_)
                      have h := h σ111 eσ111
                      refine zz_goto M 130 dX8_law_120 (by decide) ?_
                      refine zz_iload M 0 dX8_law_130 rfl ?_
                      exact zz_iret M dX8_law_132 h
                  · have h := zif h c
                    refine zz_aload_n M 1 dX8_law_102 rfl rfl ?_
                    refine zz_iload_n M 4 dX8_law_103 rfl rfl ?_
                    refine zz_putI M f_X8_32 tM_0 rfl dX8_law_104 ?_
                    refine zz_sg (fun σ112 eσ112 => ?_)
                    have h := h σ112 eσ112
                    refine zz_goto M 130 dX8_law_107 (by decide) ?_
                    refine zz_iload M 0 dX8_law_130 rfl ?_
                    exact zz_iret M dX8_law_132 h
              · have h := zif h c
                refine zz_aload_n M 0 dX8_law_71 rfl rfl ?_
                refine zz_getI M f_X8_32 tM_0 rfl dX8_law_72 ?_
                refine zz_goto M 96 dX8_law_75 (by decide) ?_
                refine zz_topi (fun x113 ex113 => ?_)
                have h := h x113 ex113
                refine zz_istore M [(4, .int x113), (0, .ref (ad 0)), (1, .int x1), (2, .int x2), (3, .int x3)] dX8_law_96 (by decide) rfl ?_
                refine zz_iload_n M 2 dX8_law_98 rfl rfl ?_
                refine zz_if_ne (y0 := 0) M 110 dX8_law_99 (by decide) (fun c => ?_) (fun c => ?_)
                · have h := zifn h c
                  refine zz_iload_n M 2 dX8_law_110 rfl rfl ?_
                  refine zz_iconst (v := 1) M dX8_law_111 (by decide) ?_
                  refine zz_icmp_ne M 123 dX8_law_112 (by decide) (fun c => ?_) (fun c => ?_)
                  · have h := zifn h c
                    refine zz_aload_n M 1 dX8_law_123 rfl rfl ?_
                    refine zz_getR M f_X8_41 tM_0 rfl dX8_law_124 ?_
                    refine zz_iload_n M 3 dX8_law_127 rfl rfl ?_
                    refine zz_iload_n M 4 dX8_law_128 rfl rfl ?_
                    refine zz_iast M tM_8 h.1 dX8_law_129 ?_
                    have h := h.2
                    refine zz_sg (fun σ114 eσ114 => ?_)
                    have h := h σ114 eσ114
                    refine zz_iload M 0 dX8_law_130 rfl ?_
                    exact zz_iret M dX8_law_132 h
                  · have h := zif h c
                    refine zz_aload_n M 1 dX8_law_115 rfl rfl ?_
                    refine zz_iload_n M 4 dX8_law_116 rfl rfl ?_
                    refine zz_putI M f_X8_35 tM_0 rfl dX8_law_117 ?_
                    refine zz_sg (fun σ115 eσ115 => ?_)
                    have h := h σ115 eσ115
                    refine zz_goto M 130 dX8_law_120 (by decide) ?_
                    refine zz_iload M 0 dX8_law_130 rfl ?_
                    exact zz_iret M dX8_law_132 h
                · have h := zif h c
                  refine zz_aload_n M 1 dX8_law_102 rfl rfl ?_
                  refine zz_iload_n M 4 dX8_law_103 rfl rfl ?_
                  refine zz_putI M f_X8_32 tM_0 rfl dX8_law_104 ?_
                  refine zz_sg (fun σ116 eσ116 => ?_)
                  have h := h σ116 eσ116
                  refine zz_goto M 130 dX8_law_107 (by decide) ?_
                  refine zz_iload M 0 dX8_law_130 rfl ?_
                  exact zz_iret M dX8_law_132 h
            · have h := zif h c
              refine zz_bipush (v := (-2)) M dX8_law_64 (by decide) ?_
              exact zz_iret M dX8_law_66 h
end
