section
variable {p : Program} {l : Launch} {e : Env} {s : State} {m : MethodId} {args : Array Value} {below : List Frame} {meth : Method} {c : Code} {D : va_G} {cA : Nat → ClassId} {ad : Nat → Nat} {y : zX}
def wX0_ofOne (x1 : Int32) (x2 : Int32) (σ : zSt) (Q : Int32 → zSt → Prop) : Prop := if x1 < 0 then (Q 0 σ) else (if 8 ≤ x1 then (Q 0 σ) else (if x2 < 0 then (Q 0 σ) else (if x2 ≤ 24 then (∀ x101 : Int32, x101 = ((x1 * 25) + x2) → (vp_in x101 416 ∧ (if (σ.1 25 x101.toNatClampNeg) = (-1) then (vp_in x1 8 ∧ (∀ σ102 : zSt, σ102 = zput σ 26 0 (x2 - (σ.1 5 x1.toNatClampNeg)) → (vp_in x1 8 ∧ (∀ σ103 : zSt, σ103 = zput σ102 26 1 (σ102.1 6 x1.toNatClampNeg) → (∀ σ104 : zSt, σ104 = zput σ103 26 2 x2 → (vp_in x1 8 ∧ (∀ σ105 : zSt, σ105 = zput σ104 26 3 (σ104.1 4 x1.toNatClampNeg) → (∀ σ106 : zSt, σ106 = zput σ105 26 4 0 → (if 4 ≤ x1 then (wX0_reckon 1 σ106 (fun r107 σ108 => vp_in x101 416 ∧ (∀ σ109 : zSt, σ109 = zput σ108 25 x101.toNatClampNeg r107 → (vp_in x101 416 ∧ (Q (σ109.1 25 x101.toNatClampNeg) σ109))))) else (wX0_reckon 0 σ106 (fun r110 σ111 => vp_in x101 416 ∧ (∀ σ112 : zSt, σ112 = zput σ111 25 x101.toNatClampNeg r110 → (vp_in x101 416 ∧ (Q (σ112.1 25 x101.toNatClampNeg) σ112)))))))))))))) else (vp_in x101 416 ∧ (Q (σ.1 25 x101.toNatClampNeg) σ))))) else (Q 0 σ))))
set_option maxRecDepth 20000 in
set_option maxHeartbeats 4000000 in
theorem kX0_ofOne (hI : zInj tabX ad) (x1 : Int32) (x2 : Int32)  (σ : zSt) (Q : Int32 → zSt → Prop) (h : wX0_ofOne x1 x2 σ Q) : zOkI l tabX D cA ad y 4 yX0_ofOne cX0_ofOne 4 (some .int) [.ref (ad 24), .int x1, .int x2] σ Q := by
  refine zz_enter hI (by decide) (Nat.le_of_ble_eq_true rfl) (fun p e s m below meth c M => ?_)
  have M : zM p s m _ meth c cX0_ofOne 4 RX0 (some .int) tabX D cA ad y := M
  refine zz_ls [(0, .ref (ad 24)), (1, .int x1), (2, .int x2)] rfl ?_
  unfold wX0_ofOne at h
  refine zz_iload_n M 1 dX0_ofOne_0 rfl rfl ?_
  refine zz_if_lt (y0 := 0) M 20 dX0_ofOne_1 (by decide) (fun c => ?_) (fun c => ?_)
  · have h := zif (c := x1 < 0) h c
    refine zz_iconst (v := 0) M dX0_ofOne_20 (by decide) ?_
    exact zz_iret M dX0_ofOne_21 h
  · have h := zifn (c := x1 < 0) h c
    refine zz_iload_n M 1 dX0_ofOne_4 rfl rfl ?_
    refine zz_bipush (v := 8) M dX0_ofOne_5 (by decide) ?_
    refine zz_icmp_ge M 20 dX0_ofOne_7 (by decide) (fun c => ?_) (fun c => ?_)
    · have h := zif (c := 8 ≤ x1) h c
      refine zz_iconst (v := 0) M dX0_ofOne_20 (by decide) ?_
      exact zz_iret M dX0_ofOne_21 h
    · have h := zifn (c := 8 ≤ x1) h c
      refine zz_iload_n M 2 dX0_ofOne_10 rfl rfl ?_
      refine zz_if_lt (y0 := 0) M 20 dX0_ofOne_11 (by decide) (fun c => ?_) (fun c => ?_)
      · have h := zif (c := x2 < 0) h c
        refine zz_iconst (v := 0) M dX0_ofOne_20 (by decide) ?_
        exact zz_iret M dX0_ofOne_21 h
      · have h := zifn (c := x2 < 0) h c
        refine zz_iload_n M 2 dX0_ofOne_14 rfl rfl ?_
        refine zz_bipush (v := 24) M dX0_ofOne_15 (by decide) ?_
        refine zz_icmp_le M 22 dX0_ofOne_17 (by decide) (fun c => ?_) (fun c => ?_)
        · have h := zif (c := x2 ≤ 24) h c
          refine zz_iload_n M 1 dX0_ofOne_22 rfl rfl ?_
          refine zz_bipush (v := 25) M dX0_ofOne_23 (by decide) ?_
          refine zz_imul M dX0_ofOne_25 ?_
          refine zz_iload_n M 2 dX0_ofOne_26 rfl rfl ?_
          refine zz_iadd M dX0_ofOne_27 ?_
          refine zz_topi (fun x101 ex101 => ?_)
          have h := h x101 ex101
          refine zz_istore_n M [(3, .int x101), (0, .ref (ad 24)), (1, .int x1), (2, .int x2)] dX0_ofOne_28 rfl (by decide) rfl ?_
          refine zz_aload_n M 1 dX0_ofOne_29 rfl rfl ?_
          refine zz_getR M f_X0_11 tX_24 rfl dX0_ofOne_30 ?_
          refine zz_iload_n M 0 dX0_ofOne_33 rfl rfl ?_
          refine zz_iald M tX_25 h.1 dX0_ofOne_34 ?_
          have h := h.2
          refine zz_iconst (v := (-1)) M dX0_ofOne_35 (by decide) ?_
          refine zz_icmp_ne M 120 dX0_ofOne_36 (by decide) (fun c => ?_) (fun c => ?_)
          · have h := zifn (c := (σ.1 25 x101.toNatClampNeg) = (-1)) h c
            refine zz_aload_n M 1 dX0_ofOne_120 rfl rfl ?_
            refine zz_getR M f_X0_11 tX_24 rfl dX0_ofOne_121 ?_
            refine zz_iload_n M 0 dX0_ofOne_124 rfl rfl ?_
            refine zz_iald M tX_25 h.1 dX0_ofOne_125 ?_
            have h := h.2
            exact zz_iret M dX0_ofOne_126 h
          · have h := zif (c := (σ.1 25 x101.toNatClampNeg) = (-1)) h c
            refine zz_aload_n M 1 dX0_ofOne_39 rfl rfl ?_
            refine zz_getR M f_X0_15 tX_24 rfl dX0_ofOne_40 ?_
            refine zz_iconst (v := 0) M dX0_ofOne_43 (by decide) ?_
            refine zz_iload_n M 3 dX0_ofOne_44 rfl rfl ?_
            refine zz_aload_n M 1 dX0_ofOne_45 rfl rfl ?_
            refine zz_getR M f_X0_21 tX_24 rfl dX0_ofOne_46 ?_
            refine zz_getR M f_X0_35 tX_1 rfl dX0_ofOne_49 ?_
            refine zz_iload_n M 2 dX0_ofOne_52 rfl rfl ?_
            refine zz_iald M tX_5 h.1 dX0_ofOne_53 ?_
            have h := h.2
            refine zz_isub M dX0_ofOne_54 ?_
            refine zz_iastK (kk := 0) M tX_26 (zlit (by decide)) (by decide) dX0_ofOne_55 ?_
            refine zz_sg (fun σ102 eσ102 => ?_)
            have h := h σ102 eσ102
            refine zz_aload_n M 1 dX0_ofOne_56 rfl rfl ?_
            refine zz_getR M f_X0_15 tX_24 rfl dX0_ofOne_57 ?_
            refine zz_iconst (v := 1) M dX0_ofOne_60 (by decide) ?_
            refine zz_aload_n M 1 dX0_ofOne_61 rfl rfl ?_
            refine zz_getR M f_X0_21 tX_24 rfl dX0_ofOne_62 ?_
            refine zz_getR M f_X0_40 tX_1 rfl dX0_ofOne_65 ?_
            refine zz_iload_n M 2 dX0_ofOne_68 rfl rfl ?_
            refine zz_iald M tX_6 h.1 dX0_ofOne_69 ?_
            have h := h.2
            refine zz_iastK (kk := 1) M tX_26 (zlit (by decide)) (by decide) dX0_ofOne_70 ?_
            refine zz_sg (fun σ103 eσ103 => ?_)
            have h := h σ103 eσ103
            refine zz_aload_n M 1 dX0_ofOne_71 rfl rfl ?_
            refine zz_getR M f_X0_15 tX_24 rfl dX0_ofOne_72 ?_
            refine zz_iconst (v := 2) M dX0_ofOne_75 (by decide) ?_
            refine zz_iload_n M 3 dX0_ofOne_76 rfl rfl ?_
            refine zz_iastK (kk := 2) M tX_26 (zlit (by decide)) (by decide) dX0_ofOne_77 ?_
            refine zz_sg (fun σ104 eσ104 => ?_)
            have h := h σ104 eσ104
            refine zz_aload_n M 1 dX0_ofOne_78 rfl rfl ?_
            refine zz_getR M f_X0_15 tX_24 rfl dX0_ofOne_79 ?_
            refine zz_iconst (v := 3) M dX0_ofOne_82 (by decide) ?_
            refine zz_aload_n M 1 dX0_ofOne_83 rfl rfl ?_
            refine zz_getR M f_X0_21 tX_24 rfl dX0_ofOne_84 ?_
            refine zz_getR M f_X0_43 tX_1 rfl dX0_ofOne_87 ?_
            refine zz_iload_n M 2 dX0_ofOne_90 rfl rfl ?_
            refine zz_iald M tX_4 h.1 dX0_ofOne_91 ?_
            have h := h.2
            refine zz_iastK (kk := 3) M tX_26 (zlit (by decide)) (by decide) dX0_ofOne_92 ?_
            refine zz_sg (fun σ105 eσ105 => ?_)
            have h := h σ105 eσ105
            refine zz_aload_n M 1 dX0_ofOne_93 rfl rfl ?_
            refine zz_getR M f_X0_15 tX_24 rfl dX0_ofOne_94 ?_
            refine zz_iconst (v := 4) M dX0_ofOne_97 (by decide) ?_
            refine zz_iconst (v := 0) M dX0_ofOne_98 (by decide) ?_
            refine zz_iastK (kk := 4) M tX_26 (zlit (by decide)) (by decide) dX0_ofOne_99 ?_
            refine zz_sg (fun σ106 eσ106 => ?_)
            have h := h σ106 eσ106
            refine zz_aload_n M 1 dX0_ofOne_100 rfl rfl ?_
            refine zz_getR M f_X0_11 tX_24 rfl dX0_ofOne_101 ?_
            refine zz_iload_n M 0 dX0_ofOne_104 rfl rfl ?_
            refine zz_aload_n M 1 dX0_ofOne_105 rfl rfl ?_
            refine zz_iload_n M 2 dX0_ofOne_106 rfl rfl ?_
            refine zz_iconst (v := 4) M dX0_ofOne_107 (by decide) ?_
            refine zz_icmp_ge M 115 dX0_ofOne_108 (by decide) (fun c => ?_) (fun c => ?_)
            · have h := zif (c := 4 ≤ x1) h c
              refine zz_iconst (v := 1) M dX0_ofOne_115 (by decide) ?_
              refine zz_callVI (d' := 3) (As := [.int 1]) (rest := [.int x101, .ref (ad 25)]) M l_X0_46 tX_24 rfl rfl dX0_ofOne_116 rfl rfl (by decide) (Nat.le_of_ble_eq_true rfl) (by have hI := M.2.2.2.2.2.2.2.2; exact kX0_reckon hI _  _ _ h) (fun r107 σ108 h => ?_)
              refine zz_iast M tX_25 h.1 dX0_ofOne_119 ?_
              have h := h.2
              refine zz_sg (fun σ109 eσ109 => ?_)
              have h := h σ109 eσ109
              refine zz_aload_n M 1 dX0_ofOne_120 rfl rfl ?_
              refine zz_getR M f_X0_11 tX_24 rfl dX0_ofOne_121 ?_
              refine zz_iload_n M 0 dX0_ofOne_124 rfl rfl ?_
              refine zz_iald M tX_25 h.1 dX0_ofOne_125 ?_
              have h := h.2
              exact zz_iret M dX0_ofOne_126 h
            · have h := zifn (c := 4 ≤ x1) h c
              refine zz_iconst (v := 0) M dX0_ofOne_111 (by decide) ?_
              refine zz_goto M 116 dX0_ofOne_112 (by decide) ?_
              refine zz_callVI (d' := 3) (As := [.int 0]) (rest := [.int x101, .ref (ad 25)]) M l_X0_46 tX_24 rfl rfl dX0_ofOne_116 rfl rfl (by decide) (Nat.le_of_ble_eq_true rfl) (by have hI := M.2.2.2.2.2.2.2.2; exact kX0_reckon hI _  _ _ h) (fun r110 σ111 h => ?_)
              refine zz_iast M tX_25 h.1 dX0_ofOne_119 ?_
              have h := h.2
              refine zz_sg (fun σ112 eσ112 => ?_)
              have h := h σ112 eσ112
              refine zz_aload_n M 1 dX0_ofOne_120 rfl rfl ?_
              refine zz_getR M f_X0_11 tX_24 rfl dX0_ofOne_121 ?_
              refine zz_iload_n M 0 dX0_ofOne_124 rfl rfl ?_
              refine zz_iald M tX_25 h.1 dX0_ofOne_125 ?_
              have h := h.2
              exact zz_iret M dX0_ofOne_126 h
        · have h := zifn (c := x2 ≤ 24) h c
          refine zz_iconst (v := 0) M dX0_ofOne_20 (by decide) ?_
          exact zz_iret M dX0_ofOne_21 h
def wX7_told (x1 : Int32) (x2 : Int32) (x3 : Int32) (σ : zSt) (Q : Int32 → zSt → Prop) : Prop := wX7_isOne x1 x2 σ (fun r101 σ102 => if r101 = 0 then (Q (-2) σ102) else (∀ x103 : Int32, x103 = ((x1 * 4) + x2) → (wX1_through_2 x103 σ102 (fun r104 σ105 => if x3 = 0 then (vp_in x103 8 ∧ (Q (σ105.1 4 x103.toNatClampNeg) σ105)) else (if x3 = 1 then (vp_in x103 8 ∧ (Q (σ105.1 5 x103.toNatClampNeg) σ105)) else (if x3 = 2 then (vp_in x103 8 ∧ (Q (σ105.1 6 x103.toNatClampNeg) σ105)) else (if x3 = 3 then (if 24 ≤ r104 then (Q (-1) σ105) else (Q r104 σ105)) else (if x3 = 4 then (vp_in x103 8 ∧ (Q (r104 - (σ105.1 5 x103.toNatClampNeg)) σ105)) else (if x3 = 5 then (wX0_ofOne x103 r104 σ105 (fun r106 σ107 => Q r106 σ107)) else (Q (-2) σ105))))))))))
set_option maxRecDepth 20000 in
set_option maxHeartbeats 4000000 in
theorem kX7_told (hI : zInj tabX ad) (x1 : Int32) (x2 : Int32) (x3 : Int32)  (σ : zSt) (Q : Int32 → zSt → Prop) (h : wX7_told x1 x2 x3 σ Q) : zOkI l tabX D cA ad y 5 yX7_told cX7_told 6 (some .int) [.ref (ad 0), .int x1, .int x2, .int x3] σ Q := by
  refine zz_enter hI (by decide) (Nat.le_of_ble_eq_true rfl) (fun p e s m below meth c M => ?_)
  have M : zM p s m _ meth c cX7_told 6 RX7 (some .int) tabX D cA ad y := M
  refine zz_ls [(0, .ref (ad 0)), (1, .int x1), (2, .int x2), (3, .int x3)] rfl ?_
  unfold wX7_told at h
  refine zz_aload_n M 0 dX7_told_0 rfl rfl ?_
  refine zz_iload_n M 1 dX7_told_1 rfl rfl ?_
  refine zz_iload_n M 2 dX7_told_2 rfl rfl ?_
  refine zz_callVI (d' := 2) (As := [.int x1, .int x2]) (rest := []) M l_X7_128 tX_0 rfl rfl dX7_told_3 rfl rfl (by decide) (Nat.le_of_ble_eq_true rfl) (by have hI := M.2.2.2.2.2.2.2.2; exact kX7_isOne hI _ _  _ _ h) (fun r101 σ102 h => ?_)
  refine zz_if_ne (y0 := 0) M 12 dX7_told_6 (by decide) (fun c => ?_) (fun c => ?_)
  · have h := zifn (c := r101 = 0) h c
    refine zz_iload_n M 1 dX7_told_12 rfl rfl ?_
    refine zz_iconst (v := 4) M dX7_told_13 (by decide) ?_
    refine zz_imul M dX7_told_14 ?_
    refine zz_iload_n M 2 dX7_told_15 rfl rfl ?_
    refine zz_iadd M dX7_told_16 ?_
    refine zz_topi (fun x103 ex103 => ?_)
    have h := h x103 ex103
    refine zz_istore M [(4, .int x103), (0, .ref (ad 0)), (1, .int x1), (2, .int x2), (3, .int x3)] dX7_told_17 (by decide) rfl ?_
    refine zz_aload_n M 1 dX7_told_19 rfl rfl ?_
    refine zz_getR M f_X7_12 tX_0 rfl dX7_told_20 ?_
    refine zz_iload M 0 dX7_told_23 rfl ?_
    refine zz_aload_n M 1 dX7_told_25 rfl rfl ?_
    refine zz_getR M f_X7_12 tX_0 rfl dX7_told_26 ?_
    refine zz_getR M f_X7_148 tX_1 rfl dX7_told_29 ?_
    refine zz_callVI (d' := 2) (As := [.int x103, .ref (ad 2)]) (rest := []) M l_X7_151 tX_1 rfl rfl dX7_told_32 rfl rfl (by decide) (Nat.le_of_ble_eq_true rfl) (by have hI := M.2.2.2.2.2.2.2.2; exact kX1_through_2 hI _  _ _ h) (fun r104 σ105 h => ?_)
    refine zz_istore M [(5, .int r104), (4, .int x103), (0, .ref (ad 0)), (1, .int x1), (2, .int x2), (3, .int x3)] dX7_told_35 (by decide) rfl ?_
    refine zz_iload_n M 5 dX7_told_37 rfl rfl ?_
    by_cases c0 : x3 = 0
    · have h := zif h c0
      refine zz_tinK M c0 76 dX7_told_38 (by decide) (by decide) rfl (by decide) ?_
      refine zz_aload_n M 2 dX7_told_76 rfl rfl ?_
      refine zz_getR M f_X7_12 tX_0 rfl dX7_told_77 ?_
      refine zz_getR M f_X7_116 tX_1 rfl dX7_told_80 ?_
      refine zz_iload M 1 dX7_told_83 rfl ?_
      refine zz_iald M tX_4 h.1 dX7_told_85 ?_
      have h := h.2
      exact zz_iret M dX7_told_86 h
    have h := zifn h c0
    by_cases c1 : x3 = 1
    · have h := zif h c1
      refine zz_tinK M c1 87 dX7_told_38 (by decide) (by decide) rfl (by decide) ?_
      refine zz_aload_n M 2 dX7_told_87 rfl rfl ?_
      refine zz_getR M f_X7_12 tX_0 rfl dX7_told_88 ?_
      refine zz_getR M f_X7_119 tX_1 rfl dX7_told_91 ?_
      refine zz_iload M 1 dX7_told_94 rfl ?_
      refine zz_iald M tX_5 h.1 dX7_told_96 ?_
      have h := h.2
      exact zz_iret M dX7_told_97 h
    have h := zifn h c1
    by_cases c2 : x3 = 2
    · have h := zif h c2
      refine zz_tinK M c2 98 dX7_told_38 (by decide) (by decide) rfl (by decide) ?_
      refine zz_aload_n M 2 dX7_told_98 rfl rfl ?_
      refine zz_getR M f_X7_12 tX_0 rfl dX7_told_99 ?_
      refine zz_getR M f_X7_122 tX_1 rfl dX7_told_102 ?_
      refine zz_iload M 1 dX7_told_105 rfl ?_
      refine zz_iald M tX_6 h.1 dX7_told_107 ?_
      have h := h.2
      exact zz_iret M dX7_told_108 h
    have h := zifn h c2
    by_cases c3 : x3 = 3
    · have h := zif h c3
      refine zz_tinK M c3 109 dX7_told_38 (by decide) (by decide) rfl (by decide) ?_
      refine zz_iload M 0 dX7_told_109 rfl ?_
      refine zz_bipush (v := 24) M dX7_told_111 (by decide) ?_
      refine zz_icmp_ge M 121 dX7_told_113 (by decide) (fun c => ?_) (fun c => ?_)
      · have h := zif (c := 24 ≤ r104) h c
        refine zz_iconst (v := (-1)) M dX7_told_121 (by decide) ?_
        exact zz_iret M dX7_told_122 h
      · have h := zifn (c := 24 ≤ r104) h c
        refine zz_iload M 0 dX7_told_116 rfl ?_
        refine zz_goto M 122 dX7_told_118 (by decide) ?_
        exact zz_iret M dX7_told_122 h
    have h := zifn h c3
    by_cases c4 : x3 = 4
    · have h := zif h c4
      refine zz_tinK M c4 123 dX7_told_38 (by decide) (by decide) rfl (by decide) ?_
      refine zz_iload M 0 dX7_told_123 rfl ?_
      refine zz_aload_n M 2 dX7_told_125 rfl rfl ?_
      refine zz_getR M f_X7_12 tX_0 rfl dX7_told_126 ?_
      refine zz_getR M f_X7_119 tX_1 rfl dX7_told_129 ?_
      refine zz_iload M 1 dX7_told_132 rfl ?_
      refine zz_iald M tX_5 h.1 dX7_told_134 ?_
      have h := h.2
      refine zz_isub M dX7_told_135 ?_
      exact zz_iret M dX7_told_136 h
    have h := zifn h c4
    by_cases c5 : x3 = 5
    · have h := zif h c5
      refine zz_tinK M c5 137 dX7_told_38 (by decide) (by decide) rfl (by decide) ?_
      refine zz_aload_n M 2 dX7_told_137 rfl rfl ?_
      refine zz_getR M f_X7_58 tX_0 rfl dX7_told_138 ?_
      refine zz_iload M 1 dX7_told_141 rfl ?_
      refine zz_iload M 0 dX7_told_143 rfl ?_
      refine zz_callVI (d' := 4) (As := [.int x103, .int r104]) (rest := []) M l_X7_155 tX_24 rfl rfl dX7_told_145 rfl rfl (by decide) (Nat.le_of_ble_eq_true rfl) (by have hI := M.2.2.2.2.2.2.2.2; exact kX0_ofOne hI _ _  _ _ h) (fun r106 σ107 h => ?_)
      exact zz_iret M dX7_told_148 h
    have h := zifn h c5
    refine zz_tout M 149 dX7_told_38 (ztab0_5 c0 c1 c2 c3 c4 c5) (by decide) ?_
    refine zz_bipush (v := (-2)) M dX7_told_149 (by decide) ?_
    exact zz_iret M dX7_told_151 h
  · have h := zif (c := r101 = 0) h c
    refine zz_bipush (v := (-2)) M dX7_told_9 (by decide) ?_
    exact zz_iret M dX7_told_11 h
def wX7_isKind (x0 : Int32) (σ : zSt) (Q : Int32 → zSt → Prop) : Prop := if x0 < 0 then (Q 0 σ) else (if 5 < x0 then (Q 0 σ) else (Q 1 σ))
set_option maxRecDepth 20000 in
set_option maxHeartbeats 4000000 in
theorem kX7_isKind (hI : zInj tabX ad) (x0 : Int32)  (σ : zSt) (Q : Int32 → zSt → Prop) (h : wX7_isKind x0 σ Q) : zOkI l tabX D cA ad y 1 yX7_isKind cX7_isKind 1 (some .boolean) [.int x0] σ Q := by
  refine zz_enter hI (by decide) (Nat.le_of_ble_eq_true rfl) (fun p e s m below meth c M => ?_)
  have M : zM p s m _ meth c cX7_isKind 1 RX7 (some .boolean) tabX D cA ad y := M
  refine zz_ls [(0, .int x0)] rfl ?_
  unfold wX7_isKind at h
  refine zz_iload_n M 0 dX7_isKind_0 rfl rfl ?_
  refine zz_if_lt (y0 := 0) M 13 dX7_isKind_1 (by decide) (fun c => ?_) (fun c => ?_)
  · have h := zif (c := x0 < 0) h c
    refine zz_iconst (v := 0) M dX7_isKind_13 (by decide) ?_
    exact zz_zret M dX7_isKind_14 (Or.inl rfl) h
  · have h := zifn (c := x0 < 0) h c
    refine zz_iload_n M 0 dX7_isKind_4 rfl rfl ?_
    refine zz_iconst (v := 5) M dX7_isKind_5 (by decide) ?_
    refine zz_icmp_gt M 13 dX7_isKind_6 (by decide) (fun c => ?_) (fun c => ?_)
    · have h := zif (c := 5 < x0) h c
      refine zz_iconst (v := 0) M dX7_isKind_13 (by decide) ?_
      exact zz_zret M dX7_isKind_14 (Or.inl rfl) h
    · have h := zifn (c := 5 < x0) h c
      refine zz_iconst (v := 1) M dX7_isKind_9 (by decide) ?_
      refine zz_goto M 14 dX7_isKind_10 (by decide) ?_
      exact zz_zret M dX7_isKind_14 (Or.inr rfl) h
def wX7_master (x1 : Int32) (x2 : Int32) (σ : zSt) (Q : Int32 → zSt → Prop) : Prop := wX7_isKind x1 σ (fun r101 σ102 => if r101 = 0 then (Q (-2) σ102) else (wX7_isDigit x2 σ102 (fun r103 σ104 => if r103 = 0 then (Q (-2) σ104) else (∀ x105 : Int32, x105 = (σ104.1 1 7) → (if x105 < 4 then (vp_in x105 4 ∧ (∀ σ106 : zSt, σ106 = zput σ104 7 x105.toNatClampNeg x1 → (vp_in x105 4 ∧ (∀ σ107 : zSt, σ107 = zput σ106 8 x105.toNatClampNeg x2 → (∀ σ108 : zSt, σ108 = zput σ107 1 7 (x105 + 1) → (Q x105 σ108)))))) else (Q (-4) σ104))))))
set_option maxRecDepth 20000 in
set_option maxHeartbeats 4000000 in
theorem kX7_master (hI : zInj tabX ad) (x1 : Int32) (x2 : Int32)  (σ : zSt) (Q : Int32 → zSt → Prop) (h : wX7_master x1 x2 σ Q) : zOkI l tabX D cA ad y 2 yX7_master cX7_master 4 (some .int) [.ref (ad 0), .int x1, .int x2] σ Q := by
  refine zz_enter hI (by decide) (Nat.le_of_ble_eq_true rfl) (fun p e s m below meth c M => ?_)
  have M : zM p s m _ meth c cX7_master 4 RX7 (some .int) tabX D cA ad y := M
  refine zz_ls [(0, .ref (ad 0)), (1, .int x1), (2, .int x2)] rfl ?_
  unfold wX7_master at h
  refine zz_iload_n M 1 dX7_master_0 rfl rfl ?_
  refine zz_callSI (d' := 1) (As := [.int x1]) (rest := []) M l_X7_159 dX7_master_1 rfl rfl (by decide) (Nat.le_of_ble_eq_true rfl) (by have hI := M.2.2.2.2.2.2.2.2; exact kX7_isKind hI _  _ _ h) (fun r101 σ102 h => ?_)
  refine zz_if_eq (y0 := 0) M 14 dX7_master_4 (by decide) (fun c => ?_) (fun c => ?_)
  · have h := zif (c := r101 = 0) h c
    refine zz_bipush (v := (-2)) M dX7_master_14 (by decide) ?_
    exact zz_iret M dX7_master_16 h
  · have h := zifn (c := r101 = 0) h c
    refine zz_iload_n M 2 dX7_master_7 rfl rfl ?_
    refine zz_callSI (d' := 1) (As := [.int x2]) (rest := []) M l_X7_110 dX7_master_8 rfl rfl (by decide) (Nat.le_of_ble_eq_true rfl) (by have hI := M.2.2.2.2.2.2.2.2; exact kX7_isDigit hI _  _ _ h) (fun r103 σ104 h => ?_)
    refine zz_if_ne (y0 := 0) M 17 dX7_master_11 (by decide) (fun c => ?_) (fun c => ?_)
    · have h := zifn (c := r103 = 0) h c
      refine zz_aload_n M 0 dX7_master_17 rfl rfl ?_
      refine zz_getR M f_X7_12 tX_0 rfl dX7_master_18 ?_
      refine zz_getI M f_X7_162 tX_1 rfl dX7_master_21 ?_
      refine zz_topi (fun x105 ex105 => ?_)
      have h := h x105 ex105
      refine zz_istore_n M [(3, .int x105), (0, .ref (ad 0)), (1, .int x1), (2, .int x2)] dX7_master_24 rfl (by decide) rfl ?_
      refine zz_iload_n M 0 dX7_master_25 rfl rfl ?_
      refine zz_iconst (v := 4) M dX7_master_26 (by decide) ?_
      refine zz_icmp_lt M 33 dX7_master_27 (by decide) (fun c => ?_) (fun c => ?_)
      · have h := zif (c := x105 < 4) h c
        refine zz_aload_n M 1 dX7_master_33 rfl rfl ?_
        refine zz_getR M f_X7_12 tX_0 rfl dX7_master_34 ?_
        refine zz_getR M f_X7_165 tX_1 rfl dX7_master_37 ?_
        refine zz_iload_n M 0 dX7_master_40 rfl rfl ?_
        refine zz_iload_n M 2 dX7_master_41 rfl rfl ?_
        refine zz_iast M tX_7 h.1 dX7_master_42 ?_
        have h := h.2
        refine zz_sg (fun σ106 eσ106 => ?_)
        have h := h σ106 eσ106
        refine zz_aload_n M 1 dX7_master_43 rfl rfl ?_
        refine zz_getR M f_X7_12 tX_0 rfl dX7_master_44 ?_
        refine zz_getR M f_X7_145 tX_1 rfl dX7_master_47 ?_
        refine zz_iload_n M 0 dX7_master_50 rfl rfl ?_
        refine zz_iload_n M 3 dX7_master_51 rfl rfl ?_
        refine zz_iast M tX_8 h.1 dX7_master_52 ?_
        have h := h.2
        refine zz_sg (fun σ107 eσ107 => ?_)
        have h := h σ107 eσ107
        refine zz_aload_n M 1 dX7_master_53 rfl rfl ?_
        refine zz_getR M f_X7_12 tX_0 rfl dX7_master_54 ?_
        refine zz_iload_n M 0 dX7_master_57 rfl rfl ?_
        refine zz_iconst (v := 1) M dX7_master_58 (by decide) ?_
        refine zz_iadd M dX7_master_59 ?_
        refine zz_putI M f_X7_162 tX_1 rfl dX7_master_60 ?_
        refine zz_sg (fun σ108 eσ108 => ?_)
        have h := h σ108 eσ108
        refine zz_iload_n M 0 dX7_master_63 rfl rfl ?_
        exact zz_iret M dX7_master_64 h
      · have h := zifn (c := x105 < 4) h c
        refine zz_bipush (v := (-4)) M dX7_master_30 (by decide) ?_
        exact zz_iret M dX7_master_32 h
    · have h := zif (c := r103 = 0) h c
      refine zz_bipush (v := (-2)) M dX7_master_14 (by decide) ?_
      exact zz_iret M dX7_master_16 h
def wX7_feed (x1 : Int32) (σ : zSt) (Q : Int32 → zSt → Prop) : Prop := if x1 < 0 then (Q (-2) σ) else (if x1 ≤ 255 then (if (σ.1 0 4) < 160 then (vp_in (σ.1 0 4) 160 ∧ (∀ σ101 : zSt, σ101 = zput σ 17 (σ.1 0 4 : Int32).toNatClampNeg x1 → (∀ σ102 : zSt, σ102 = zput σ101 0 4 ((σ101.1 0 4) + 1) → (Q (σ102.1 0 4) σ102)))) else (Q (-4) σ)) else (Q (-2) σ))
set_option maxRecDepth 20000 in
set_option maxHeartbeats 4000000 in
theorem kX7_feed (hI : zInj tabX ad) (x1 : Int32)  (σ : zSt) (Q : Int32 → zSt → Prop) (h : wX7_feed x1 σ Q) : zOkI l tabX D cA ad y 1 yX7_feed cX7_feed 2 (some .int) [.ref (ad 0), .int x1] σ Q := by
  refine zz_enter hI (by decide) (Nat.le_of_ble_eq_true rfl) (fun p e s m below meth c M => ?_)
  have M : zM p s m _ meth c cX7_feed 2 RX7 (some .int) tabX D cA ad y := M
  refine zz_ls [(0, .ref (ad 0)), (1, .int x1)] rfl ?_
  unfold wX7_feed at h
  refine zz_iload_n M 1 dX7_feed_0 rfl rfl ?_
  refine zz_if_lt (y0 := 0) M 11 dX7_feed_1 (by decide) (fun c => ?_) (fun c => ?_)
  · have h := zif (c := x1 < 0) h c
    refine zz_bipush (v := (-2)) M dX7_feed_11 (by decide) ?_
    exact zz_iret M dX7_feed_13 h
  · have h := zifn (c := x1 < 0) h c
    refine zz_iload_n M 1 dX7_feed_4 rfl rfl ?_
    refine zz_sipush (v := 255) M dX7_feed_5 (by decide) ?_
    refine zz_icmp_le M 14 dX7_feed_8 (by decide) (fun c => ?_) (fun c => ?_)
    · have h := zif (c := x1 ≤ 255) h c
      refine zz_aload_n M 0 dX7_feed_14 rfl rfl ?_
      refine zz_getI M f_X7_27 tX_0 rfl dX7_feed_15 ?_
      refine zz_sipush (v := 160) M dX7_feed_18 (by decide) ?_
      refine zz_icmp_lt M 27 dX7_feed_21 (by decide) (fun c => ?_) (fun c => ?_)
      · have h := zif (c := (σ.1 0 4) < 160) h c
        refine zz_aload_n M 0 dX7_feed_27 rfl rfl ?_
        refine zz_getR M f_X7_23 tX_0 rfl dX7_feed_28 ?_
        refine zz_aload_n M 0 dX7_feed_31 rfl rfl ?_
        refine zz_getI M f_X7_27 tX_0 rfl dX7_feed_32 ?_
        refine zz_iload_n M 1 dX7_feed_35 rfl rfl ?_
        refine zz_iast M tX_17 h.1 dX7_feed_36 ?_
        have h := h.2
        refine zz_sg (fun σ101 eσ101 => ?_)
        have h := h σ101 eσ101
        refine zz_aload_n M 0 dX7_feed_37 rfl rfl ?_
        refine zz_dup M dX7_feed_38 rfl ?_
        refine zz_getI M f_X7_27 tX_0 rfl dX7_feed_39 ?_
        refine zz_iconst (v := 1) M dX7_feed_42 (by decide) ?_
        refine zz_iadd M dX7_feed_43 ?_
        refine zz_putI M f_X7_27 tX_0 rfl dX7_feed_44 ?_
        refine zz_sg (fun σ102 eσ102 => ?_)
        have h := h σ102 eσ102
        refine zz_aload_n M 0 dX7_feed_47 rfl rfl ?_
        refine zz_getI M f_X7_27 tX_0 rfl dX7_feed_48 ?_
        exact zz_iret M dX7_feed_51 h
      · have h := zifn (c := (σ.1 0 4) < 160) h c
        refine zz_bipush (v := (-4)) M dX7_feed_24 (by decide) ?_
        exact zz_iret M dX7_feed_26 h
    · have h := zifn (c := x1 ≤ 255) h c
      refine zz_bipush (v := (-2)) M dX7_feed_11 (by decide) ?_
      exact zz_iret M dX7_feed_13 h
def wX3_isLetter (x0 : Int32) (σ : zSt) (Q : Int32 → zSt → Prop) : Prop := if x0 < 97 then (Q 0 σ) else (if 122 < x0 then (Q 0 σ) else (Q 1 σ))
set_option maxRecDepth 20000 in
set_option maxHeartbeats 4000000 in
theorem kX3_isLetter (hI : zInj tabX ad) (x0 : Int32)  (σ : zSt) (Q : Int32 → zSt → Prop) (h : wX3_isLetter x0 σ Q) : zOkI l tabX D cA ad y 1 yX3_isLetter cX3_isLetter 1 (some .boolean) [.int x0] σ Q := by
  refine zz_enter hI (by decide) (Nat.le_of_ble_eq_true rfl) (fun p e s m below meth c M => ?_)
  have M : zM p s m _ meth c cX3_isLetter 1 RX3 (some .boolean) tabX D cA ad y := M
  refine zz_ls [(0, .int x0)] rfl ?_
  unfold wX3_isLetter at h
  refine zz_iload_n M 0 dX3_isLetter_0 rfl rfl ?_
  refine zz_bipush (v := 97) M dX3_isLetter_1 (by decide) ?_
  refine zz_icmp_lt M 16 dX3_isLetter_3 (by decide) (fun c => ?_) (fun c => ?_)
  · have h := zif (c := x0 < 97) h c
    refine zz_iconst (v := 0) M dX3_isLetter_16 (by decide) ?_
    exact zz_zret M dX3_isLetter_17 (Or.inl rfl) h
  · have h := zifn (c := x0 < 97) h c
    refine zz_iload_n M 0 dX3_isLetter_6 rfl rfl ?_
    refine zz_bipush (v := 122) M dX3_isLetter_7 (by decide) ?_
    refine zz_icmp_gt M 16 dX3_isLetter_9 (by decide) (fun c => ?_) (fun c => ?_)
    · have h := zif (c := 122 < x0) h c
      refine zz_iconst (v := 0) M dX3_isLetter_16 (by decide) ?_
      exact zz_zret M dX3_isLetter_17 (Or.inl rfl) h
    · have h := zifn (c := 122 < x0) h c
      refine zz_iconst (v := 1) M dX3_isLetter_12 (by decide) ?_
      refine zz_goto M 17 dX3_isLetter_13 (by decide) ?_
      exact zz_zret M dX3_isLetter_17 (Or.inr rfl) h
def wX3_isNumeral (x0 : Int32) (σ : zSt) (Q : Int32 → zSt → Prop) : Prop := if x0 < 48 then (Q 0 σ) else (if 57 < x0 then (Q 0 σ) else (Q 1 σ))
set_option maxRecDepth 20000 in
set_option maxHeartbeats 4000000 in
theorem kX3_isNumeral (hI : zInj tabX ad) (x0 : Int32)  (σ : zSt) (Q : Int32 → zSt → Prop) (h : wX3_isNumeral x0 σ Q) : zOkI l tabX D cA ad y 1 yX3_isNumeral cX3_isNumeral 1 (some .boolean) [.int x0] σ Q := by
  refine zz_enter hI (by decide) (Nat.le_of_ble_eq_true rfl) (fun p e s m below meth c M => ?_)
  have M : zM p s m _ meth c cX3_isNumeral 1 RX3 (some .boolean) tabX D cA ad y := M
  refine zz_ls [(0, .int x0)] rfl ?_
  unfold wX3_isNumeral at h
  refine zz_iload_n M 0 dX3_isNumeral_0 rfl rfl ?_
  refine zz_bipush (v := 48) M dX3_isNumeral_1 (by decide) ?_
  refine zz_icmp_lt M 16 dX3_isNumeral_3 (by decide) (fun c => ?_) (fun c => ?_)
  · have h := zif (c := x0 < 48) h c
    refine zz_iconst (v := 0) M dX3_isNumeral_16 (by decide) ?_
    exact zz_zret M dX3_isNumeral_17 (Or.inl rfl) h
  · have h := zifn (c := x0 < 48) h c
    refine zz_iload_n M 0 dX3_isNumeral_6 rfl rfl ?_
    refine zz_bipush (v := 57) M dX3_isNumeral_7 (by decide) ?_
    refine zz_icmp_gt M 16 dX3_isNumeral_9 (by decide) (fun c => ?_) (fun c => ?_)
    · have h := zif (c := 57 < x0) h c
      refine zz_iconst (v := 0) M dX3_isNumeral_16 (by decide) ?_
      exact zz_zret M dX3_isNumeral_17 (Or.inl rfl) h
    · have h := zifn (c := 57 < x0) h c
      refine zz_iconst (v := 1) M dX3_isNumeral_12 (by decide) ?_
      refine zz_goto M 17 dX3_isNumeral_13 (by decide) ?_
      exact zz_zret M dX3_isNumeral_17 (Or.inr rfl) h
def wX3_isSign (x0 : Int32) (σ : zSt) (Q : Int32 → zSt → Prop) : Prop := if x0 = 40 then (Q 1 σ) else (if x0 = 41 then (Q 1 σ) else (if x0 = 59 then (Q 1 σ) else (if x0 = 43 then (Q 1 σ) else (if x0 = 45 then (Q 1 σ) else (if x0 = 42 then (Q 1 σ) else (if x0 = 60 then (Q 1 σ) else (if x0 = 61 then (Q 1 σ) else (Q 0 σ))))))))
set_option maxRecDepth 20000 in
set_option maxHeartbeats 4000000 in
theorem kX3_isSign (hI : zInj tabX ad) (x0 : Int32)  (σ : zSt) (Q : Int32 → zSt → Prop) (h : wX3_isSign x0 σ Q) : zOkI l tabX D cA ad y 1 yX3_isSign cX3_isSign 1 (some .boolean) [.int x0] σ Q := by
  refine zz_enter hI (by decide) (Nat.le_of_ble_eq_true rfl) (fun p e s m below meth c M => ?_)
  have M : zM p s m _ meth c cX3_isSign 1 RX3 (some .boolean) tabX D cA ad y := M
  refine zz_ls [(0, .int x0)] rfl ?_
  unfold wX3_isSign at h
  refine zz_iload_n M 0 dX3_isSign_0 rfl rfl ?_
  refine zz_bipush (v := 40) M dX3_isSign_1 (by decide) ?_
  refine zz_icmp_eq M 48 dX3_isSign_3 (by decide) (fun c => ?_) (fun c => ?_)
  · have h := zif (c := x0 = 40) h c
    refine zz_iconst (v := 1) M dX3_isSign_48 (by decide) ?_
    refine zz_goto M 53 dX3_isSign_49 (by decide) ?_
    exact zz_zret M dX3_isSign_53 (Or.inr rfl) h
  · have h := zifn (c := x0 = 40) h c
    refine zz_iload_n M 0 dX3_isSign_6 rfl rfl ?_
    refine zz_bipush (v := 41) M dX3_isSign_7 (by decide) ?_
    refine zz_icmp_eq M 48 dX3_isSign_9 (by decide) (fun c => ?_) (fun c => ?_)
    · have h := zif (c := x0 = 41) h c
      refine zz_iconst (v := 1) M dX3_isSign_48 (by decide) ?_
      refine zz_goto M 53 dX3_isSign_49 (by decide) ?_
      exact zz_zret M dX3_isSign_53 (Or.inr rfl) h
    · have h := zifn (c := x0 = 41) h c
      refine zz_iload_n M 0 dX3_isSign_12 rfl rfl ?_
      refine zz_bipush (v := 59) M dX3_isSign_13 (by decide) ?_
      refine zz_icmp_eq M 48 dX3_isSign_15 (by decide) (fun c => ?_) (fun c => ?_)
      · have h := zif (c := x0 = 59) h c
        refine zz_iconst (v := 1) M dX3_isSign_48 (by decide) ?_
        refine zz_goto M 53 dX3_isSign_49 (by decide) ?_
        exact zz_zret M dX3_isSign_53 (Or.inr rfl) h
      · have h := zifn (c := x0 = 59) h c
        refine zz_iload_n M 0 dX3_isSign_18 rfl rfl ?_
        refine zz_bipush (v := 43) M dX3_isSign_19 (by decide) ?_
        refine zz_icmp_eq M 48 dX3_isSign_21 (by decide) (fun c => ?_) (fun c => ?_)
        · have h := zif (c := x0 = 43) h c
          refine zz_iconst (v := 1) M dX3_isSign_48 (by decide) ?_
          refine zz_goto M 53 dX3_isSign_49 (by decide) ?_
          exact zz_zret M dX3_isSign_53 (Or.inr rfl) h
        · have h := zifn (c := x0 = 43) h c
          refine zz_iload_n M 0 dX3_isSign_24 rfl rfl ?_
          refine zz_bipush (v := 45) M dX3_isSign_25 (by decide) ?_
          refine zz_icmp_eq M 48 dX3_isSign_27 (by decide) (fun c => ?_) (fun c => ?_)
          · have h := zif (c := x0 = 45) h c
            refine zz_iconst (v := 1) M dX3_isSign_48 (by decide) ?_
            refine zz_goto M 53 dX3_isSign_49 (by decide) ?_
            exact zz_zret M dX3_isSign_53 (Or.inr rfl) h
          · have h := zifn (c := x0 = 45) h c
            refine zz_iload_n M 0 dX3_isSign_30 rfl rfl ?_
            refine zz_bipush (v := 42) M dX3_isSign_31 (by decide) ?_
            refine zz_icmp_eq M 48 dX3_isSign_33 (by decide) (fun c => ?_) (fun c => ?_)
            · have h := zif (c := x0 = 42) h c
              refine zz_iconst (v := 1) M dX3_isSign_48 (by decide) ?_
              refine zz_goto M 53 dX3_isSign_49 (by decide) ?_
              exact zz_zret M dX3_isSign_53 (Or.inr rfl) h
            · have h := zifn (c := x0 = 42) h c
              refine zz_iload_n M 0 dX3_isSign_36 rfl rfl ?_
              refine zz_bipush (v := 60) M dX3_isSign_37 (by decide) ?_
              refine zz_icmp_eq M 48 dX3_isSign_39 (by decide) (fun c => ?_) (fun c => ?_)
              · have h := zif (c := x0 = 60) h c
                refine zz_iconst (v := 1) M dX3_isSign_48 (by decide) ?_
                refine zz_goto M 53 dX3_isSign_49 (by decide) ?_
                exact zz_zret M dX3_isSign_53 (Or.inr rfl) h
              · have h := zifn (c := x0 = 60) h c
                refine zz_iload_n M 0 dX3_isSign_42 rfl rfl ?_
                refine zz_bipush (v := 61) M dX3_isSign_43 (by decide) ?_
                refine zz_icmp_ne M 52 dX3_isSign_45 (by decide) (fun c => ?_) (fun c => ?_)
                · have h := zifn (c := x0 = 61) h c
                  refine zz_iconst (v := 0) M dX3_isSign_52 (by decide) ?_
                  exact zz_zret M dX3_isSign_53 (Or.inl rfl) h
                · have h := zif (c := x0 = 61) h c
                  refine zz_iconst (v := 1) M dX3_isSign_48 (by decide) ?_
                  refine zz_goto M 53 dX3_isSign_49 (by decide) ?_
                  exact zz_zret M dX3_isSign_53 (Or.inr rfl) h
def wX3_keep (x1 : Int32) (x2 : Int32) (x3 : Int32) (σ : zSt) (Q : zSt → Prop) : Prop := if 161 ≤ (σ.1 19 3) then (Q σ) else (vp_in (σ.1 19 3) 161 ∧ (∀ σ101 : zSt, σ101 = zput σ 20 (σ.1 19 3 : Int32).toNatClampNeg x1 → (vp_in (σ101.1 19 3) 161 ∧ (∀ σ102 : zSt, σ102 = zput σ101 21 (σ101.1 19 3 : Int32).toNatClampNeg x2 → (vp_in (σ102.1 19 3) 161 ∧ (∀ σ103 : zSt, σ103 = zput σ102 22 (σ102.1 19 3 : Int32).toNatClampNeg x3 → (∀ σ104 : zSt, σ104 = zput σ103 19 3 ((σ103.1 19 3) + 1) → (Q σ104))))))))
set_option maxRecDepth 20000 in
set_option maxHeartbeats 4000000 in
theorem kX3_keep (hI : zInj tabX ad) (x1 : Int32) (x2 : Int32) (x3 : Int32)  (σ : zSt) (Q : zSt → Prop) (h : wX3_keep x1 x2 x3 σ Q) : zOkV l tabX D cA ad y 1 yX3_keep cX3_keep 4 none [.ref (ad 19), .int x1, .int x2, .int x3] σ Q := by
  refine zz_enter hI (by decide) (Nat.le_of_ble_eq_true rfl) (fun p e s m below meth c M => ?_)
  have M : zM p s m _ meth c cX3_keep 4 RX3 none tabX D cA ad y := M
  refine zz_ls [(0, .ref (ad 19)), (1, .int x1), (2, .int x2), (3, .int x3)] rfl ?_
  unfold wX3_keep at h
  refine zz_aload_n M 0 dX3_keep_0 rfl rfl ?_
  refine zz_getI M f_X3_21 tX_19 rfl dX3_keep_1 ?_
  refine zz_aload_n M 0 dX3_keep_4 rfl rfl ?_
  refine zz_getR M f_X3_9 tX_19 rfl dX3_keep_5 ?_
  refine zz_alen (v := 161) M tX_20 (by decide) (by decide) dX3_keep_8 ?_
  refine zz_icmp_ge M 52 dX3_keep_9 (by decide) (fun c => ?_) (fun c => ?_)
  · have h := zif (c := 161 ≤ (σ.1 19 3)) h c
    exact zz_vret M dX3_keep_52 h
  · have h := zifn (c := 161 ≤ (σ.1 19 3)) h c
    refine zz_aload_n M 0 dX3_keep_12 rfl rfl ?_
    refine zz_getR M f_X3_9 tX_19 rfl dX3_keep_13 ?_
    refine zz_aload_n M 0 dX3_keep_16 rfl rfl ?_
    refine zz_getI M f_X3_21 tX_19 rfl dX3_keep_17 ?_
    refine zz_iload_n M 1 dX3_keep_20 rfl rfl ?_
    refine zz_iast M tX_20 h.1 dX3_keep_21 ?_
    have h := h.2
    refine zz_sg (fun σ101 eσ101 => ?_)
    have h := h σ101 eσ101
    refine zz_aload_n M 0 dX3_keep_22 rfl rfl ?_
    refine zz_getR M f_X3_15 tX_19 rfl dX3_keep_23 ?_
    refine zz_aload_n M 0 dX3_keep_26 rfl rfl ?_
    refine zz_getI M f_X3_21 tX_19 rfl dX3_keep_27 ?_
    refine zz_iload_n M 2 dX3_keep_30 rfl rfl ?_
    refine zz_iast M tX_21 h.1 dX3_keep_31 ?_
    have h := h.2
    refine zz_sg (fun σ102 eσ102 => ?_)
    have h := h σ102 eσ102
    refine zz_aload_n M 0 dX3_keep_32 rfl rfl ?_
    refine zz_getR M f_X3_18 tX_19 rfl dX3_keep_33 ?_
    refine zz_aload_n M 0 dX3_keep_36 rfl rfl ?_
    refine zz_getI M f_X3_21 tX_19 rfl dX3_keep_37 ?_
    refine zz_iload_n M 3 dX3_keep_40 rfl rfl ?_
    refine zz_iast M tX_22 h.1 dX3_keep_41 ?_
    have h := h.2
    refine zz_sg (fun σ103 eσ103 => ?_)
    have h := h σ103 eσ103
    refine zz_aload_n M 0 dX3_keep_42 rfl rfl ?_
    refine zz_dup M dX3_keep_43 rfl ?_
    refine zz_getI M f_X3_21 tX_19 rfl dX3_keep_44 ?_
    refine zz_iconst (v := 1) M dX3_keep_47 (by decide) ?_
    refine zz_iadd M dX3_keep_48 ?_
    refine zz_putI M f_X3_21 tX_19 rfl dX3_keep_49 ?_
    refine zz_sg (fun σ104 eσ104 => ?_)
    have h := h σ104 eσ104
    exact zz_vret M dX3_keep_52 h
def wX3_takeNumber_17_L6 (Q : Int32 → zSt → Prop) (K43 : Int32 → Int32 → zSt → Prop) (x2 : Int32) (x3 : Int32) : Nat → Int32 → Int32 → zSt → Prop
  | 0, _, _, _ => False
  | n + 1, x4, x5, σ => if x3 ≤ x4 then (K43 x4 x5 σ) else (vp_in x4 160 ∧ (∀ a101 : Int32, a101 = (σ.1 17 x4.toNatClampNeg) → (wX3_isNumeral a101 σ (fun r102 σ103 => if r102 = 0 then (K43 x4 x5 σ103) else (vp_in x4 160 ∧ (∀ x104 : Int32, x104 = (((x5 * 10) + (σ103.1 17 x4.toNatClampNeg)) - 48) → (∀ x105 : Int32, x105 = x4 + 1 → (wX3_takeNumber_17_L6 Q K43 x2 x3 n x105 x104 σ103))))))))
set_option maxRecDepth 20000 in
set_option maxHeartbeats 4000000 in
theorem sX3_takeNumber_17_L6 {Q : Int32 → zSt → Prop} {K43 : Int32 → Int32 → zSt → Prop} (x2 : Int32) (x3 : Int32)  (M : zM p s m args meth c cX3_takeNumber 6 RX3 (some .int) tabX D cA ad y) (hK43 : ∀ (v4 : Int32) (v5 : Int32) (σ : zSt), K43 v4 v5 σ → zG p l e (zrm 2) s m args below meth c 6 tabX D cA ad (MQ below (va_Qi Q (fun σ' t => va_P D vwCl (zws tabX cA ad σ') t.heap) (zIn tabX ad)) args s 0 0 (zIn tabX ad)) 43 [(0, .ref (ad 19)), (2, .int x2), (4, .int v4), (5, .int v5)] [] σ) : ∀ (n : Nat) (x4 : Int32) (x5 : Int32) (σ : zSt), wX3_takeNumber_17_L6 Q K43 x2 x3 n x4 x5 σ → zG p l e (zrm 2) s m args below meth c 6 tabX D cA ad (MQ below (va_Qi Q (fun σ' t => va_P D vwCl (zws tabX cA ad σ') t.heap) (zIn tabX ad)) args s 0 0 (zIn tabX ad)) 6 [(0, .ref (ad 19)), (1, .ref (ad 17)), (2, .int x2), (3, .int x3), (4, .int x4), (5, .int x5)] [] σ := by
  intro n
  induction n with
  | zero => intro x4 x5 σ h; exact absurd h (by simp [wX3_takeNumber_17_L6])
  | succ n ih =>
    intro x4 x5 σ h
    unfold wX3_takeNumber_17_L6 at h
    refine zz_iload M 4 dX3_takeNumber_6 rfl ?_
    refine zz_iload_n M 3 dX3_takeNumber_8 rfl rfl ?_
    refine zz_icmp_ge M 43 dX3_takeNumber_9 (by decide) (fun c => ?_) (fun c => ?_)
    · have h := zif (c := x3 ≤ x4) h c
      refine zz_sub [(0, .ref (ad 19)), (2, .int x2), (4, .int x4), (5, .int x5)] [0, 2, 4, 5] rfl ?_
      exact hK43 _ _ _ h
    · have h := zifn (c := x3 ≤ x4) h c
      refine zz_aload_n M 1 dX3_takeNumber_12 rfl rfl ?_
      refine zz_iload M 4 dX3_takeNumber_13 rfl ?_
      refine zz_iald M tX_17 h.1 dX3_takeNumber_15 ?_
      have h := h.2
      obtain ⟨a101, ea101⟩ : ∃ z : Int32, z = (σ.1 17 x4.toNatClampNeg) := ⟨_, rfl⟩
      have h := h a101 ea101
      refine zz_st [.int a101] (by rw [ea101]) ?_
      refine zz_callSI (d' := 1) (As := [.int a101]) (rest := []) M l_X3_74 dX3_takeNumber_16 rfl rfl (by decide) (Nat.le_of_ble_eq_true rfl) (by have hI := M.2.2.2.2.2.2.2.2; exact kX3_isNumeral hI _  _ _ h) (fun r102 σ103 h => ?_)
      refine zz_if_eq (y0 := 0) M 43 dX3_takeNumber_19 (by decide) (fun c => ?_) (fun c => ?_)
      · have h := zif (c := r102 = 0) h c
        refine zz_sub [(0, .ref (ad 19)), (2, .int x2), (4, .int x4), (5, .int x5)] [0, 2, 4, 5] rfl ?_
        exact hK43 _ _ _ h
      · have h := zifn (c := r102 = 0) h c
        refine zz_iload M 5 dX3_takeNumber_22 rfl ?_
        refine zz_bipush (v := 10) M dX3_takeNumber_24 (by decide) ?_
        refine zz_imul M dX3_takeNumber_26 ?_
        refine zz_aload_n M 1 dX3_takeNumber_27 rfl rfl ?_
        refine zz_iload M 4 dX3_takeNumber_28 rfl ?_
        refine zz_iald M tX_17 h.1 dX3_takeNumber_30 ?_
        have h := h.2
        refine zz_iadd M dX3_takeNumber_31 ?_
        refine zz_bipush (v := 48) M dX3_takeNumber_32 (by decide) ?_
        refine zz_isub M dX3_takeNumber_34 ?_
        refine zz_topi (fun x104 ex104 => ?_)
        have h := h x104 ex104
        refine zz_istore M [(5, .int x104), (0, .ref (ad 19)), (1, .ref (ad 17)), (2, .int x2), (3, .int x3), (4, .int x4)] dX3_takeNumber_35 (by decide) rfl ?_
        obtain ⟨x105, ex105⟩ : ∃ z : Int32, z = x4 + 1 := ⟨_, rfl⟩
        have h := h x105 ex105
        refine zz_iinc M [(4, .int x105), (5, .int x104), (0, .ref (ad 19)), (1, .ref (ad 17)), (2, .int x2), (3, .int x3)] 5 dX3_takeNumber_37 rfl (n32 := 1) (by decide) ex105 (by decide) rfl ?_
        refine zz_goto M 6 dX3_takeNumber_40 (by decide) ?_
        refine zz_sub [(0, .ref (ad 19)), (1, .ref (ad 17)), (2, .int x2), (3, .int x3), (4, .int x105), (5, .int x104)] [2, 3, 4, 5, 0, 1] rfl ?_
        exact ih _ _ _ h
def wX3_takeNumber_17 (x2 : Int32) (x3 : Int32) (σ : zSt) (Q : Int32 → zSt → Prop) : Prop := wX3_takeNumber_17_L6 Q (fun v106 v107 σ108 => if (v106 - x2) ≤ 4 then (wX3_keep 2 v107 x2 σ108 (fun σ110 => Q v106 σ110)) else (wX3_keep 1 v107 x2 σ108 (fun σ112 => Q v106 σ112))) x2 x3 300 x2 0 σ
set_option maxRecDepth 20000 in
set_option maxHeartbeats 4000000 in
theorem kX3_takeNumber_17 (hI : zInj tabX ad) (x2 : Int32) (x3 : Int32)  (σ : zSt) (Q : Int32 → zSt → Prop) (h : wX3_takeNumber_17 x2 x3 σ Q) : zOkI l tabX D cA ad y 2 yX3_takeNumber cX3_takeNumber 6 (some .int) [.ref (ad 19), .ref (ad 17), .int x2, .int x3] σ Q := by
  refine zz_enter hI (by decide) (Nat.le_of_ble_eq_true rfl) (fun p e s m below meth c M => ?_)
  have M : zM p s m _ meth c cX3_takeNumber 6 RX3 (some .int) tabX D cA ad y := M
  refine zz_ls [(0, .ref (ad 19)), (1, .ref (ad 17)), (2, .int x2), (3, .int x3)] rfl ?_
  unfold wX3_takeNumber_17 at h
  refine zz_iload_n M 2 dX3_takeNumber_0 rfl rfl ?_
  refine zz_istore M [(4, .int x2), (0, .ref (ad 19)), (1, .ref (ad 17)), (2, .int x2), (3, .int x3)] dX3_takeNumber_1 (by decide) rfl ?_
  refine zz_iconst (v := 0) M dX3_takeNumber_3 (by decide) ?_
  refine zz_istore M [(5, .int 0), (4, .int x2), (0, .ref (ad 19)), (1, .ref (ad 17)), (2, .int x2), (3, .int x3)] dX3_takeNumber_4 (by decide) rfl ?_
  refine zz_sub [(0, .ref (ad 19)), (1, .ref (ad 17)), (2, .int x2), (3, .int x3), (4, .int x2), (5, .int 0)] [2, 3, 4, 5, 1, 0] rfl ?_
  refine sX3_takeNumber_17_L6 x2 x3  M (fun v106 v107 σ108 h => ?_) 300 _ _ _ h
  refine zz_aload_n M 0 dX3_takeNumber_43 rfl rfl ?_
  refine zz_iload M 2 dX3_takeNumber_44 rfl ?_
  refine zz_iload_n M 1 dX3_takeNumber_46 rfl rfl ?_
  refine zz_isub M dX3_takeNumber_47 ?_
  refine zz_iconst (v := 4) M dX3_takeNumber_48 (by decide) ?_
  refine zz_icmp_le M 56 dX3_takeNumber_49 (by decide) (fun c => ?_) (fun c => ?_)
  · have h := zif (c := (v106 - x2) ≤ 4) h c
    refine zz_iconst (v := 2) M dX3_takeNumber_56 (by decide) ?_
    refine zz_iload M 3 dX3_takeNumber_57 rfl ?_
    refine zz_iload_n M 1 dX3_takeNumber_59 rfl rfl ?_
    refine zz_callVV (d' := 1) (As := [.int 2, .int v107, .int x2]) (rest := []) M l_X3_83 tX_19 rfl rfl dX3_takeNumber_60 rfl rfl (by decide) (Nat.le_of_ble_eq_true rfl) (by have hI := M.2.2.2.2.2.2.2.2; exact kX3_keep hI _ _ _  _ _ h) (fun σ110 h => ?_)
    refine zz_iload M 2 dX3_takeNumber_63 rfl ?_
    exact zz_iret M dX3_takeNumber_65 h
  · have h := zifn (c := (v106 - x2) ≤ 4) h c
    refine zz_iconst (v := 1) M dX3_takeNumber_52 (by decide) ?_
    refine zz_goto M 57 dX3_takeNumber_53 (by decide) ?_
    refine zz_iload M 3 dX3_takeNumber_57 rfl ?_
    refine zz_iload_n M 1 dX3_takeNumber_59 rfl rfl ?_
    refine zz_callVV (d' := 1) (As := [.int 1, .int v107, .int x2]) (rest := []) M l_X3_83 tX_19 rfl rfl dX3_takeNumber_60 rfl rfl (by decide) (Nat.le_of_ble_eq_true rfl) (by have hI := M.2.2.2.2.2.2.2.2; exact kX3_keep hI _ _ _  _ _ h) (fun σ112 h => ?_)
    refine zz_iload M 2 dX3_takeNumber_63 rfl ?_
    exact zz_iret M dX3_takeNumber_65 h
end
