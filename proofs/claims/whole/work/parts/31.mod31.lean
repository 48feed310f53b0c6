section
variable {p : Program} {l : Launch} {e : Env} {s : State} {m : MethodId} {args : Array Value} {below : List Frame} {meth : Method} {c : Code} {D : va_G} {cA : Nat → ClassId} {ad : Nat → Nat} {y : zX}
def wX8_read (x1 : Int32) (x2 : Int32) (σ : zSt) (Q : Int32 → zSt → Prop) : Prop := ∀ σ101 : zSt, σ101 = zput σ 0 24 (160 * x1) → (vp_in x1 6 ∧ (∀ σ102 : zSt, σ102 = zput σ101 0 25 (σ101.1 2 x1.toNatClampNeg) → (∀ σ103 : zSt, σ103 = zput σ102 0 26 0 → (∀ σ104 : zSt, σ104 = zput σ103 0 30 0 → (∀ σ105 : zSt, σ105 = zput σ104 0 31 0 → (wX8_next  σ105 (fun σ107 => wX8_isWord 115 104 105 112 0 0 0 0 σ107 (fun r108 σ109 => wX8_part r108 σ109 (fun r110 σ111 => if (σ111.1 0 31) = 0 then (wX8_isWord 99 97 114 116 0 0 0 0 σ111 (fun r112 σ113 => wX8_part r112 σ113 (fun r114 σ115 => if (σ115.1 0 31) = 0 then (wX8_isWord 99 104 97 110 103 101 0 0 σ115 (fun r116 σ117 => wX8_part r116 σ117 (fun r118 σ119 => if (σ119.1 0 31) = 0 then (if (σ119.1 0 27) = 0 then (if x2 = 0 then (Q r110 σ119) else (if x2 = 1 then (Q r114 σ119) else (Q r118 σ119))) else (wX8_fail  σ119 (fun σ121 => if x2 = 0 then (Q r110 σ121) else (if x2 = 1 then (Q r114 σ121) else (Q r118 σ121))))) else (if x2 = 0 then (Q r110 σ119) else (if x2 = 1 then (Q r114 σ119) else (Q r118 σ119)))))) else (if (σ115.1 0 31) = 0 then (if (σ115.1 0 27) = 0 then (if x2 = 0 then (Q r110 σ115) else (if x2 = 1 then (Q r114 σ115) else (Q 0 σ115))) else (wX8_fail  σ115 (fun σ123 => if x2 = 0 then (Q r110 σ123) else (if x2 = 1 then (Q r114 σ123) else (Q 0 σ123))))) else (if x2 = 0 then (Q r110 σ115) else (if x2 = 1 then (Q r114 σ115) else (Q 0 σ115))))))) else (if (σ111.1 0 31) = 0 then (wX8_isWord 99 104 97 110 103 101 0 0 σ111 (fun r124 σ125 => wX8_part r124 σ125 (fun r126 σ127 => if (σ127.1 0 31) = 0 then (if (σ127.1 0 27) = 0 then (if x2 = 0 then (Q r110 σ127) else (if x2 = 1 then (Q 0 σ127) else (Q r126 σ127))) else (wX8_fail  σ127 (fun σ129 => if x2 = 0 then (Q r110 σ129) else (if x2 = 1 then (Q 0 σ129) else (Q r126 σ129))))) else (if x2 = 0 then (Q r110 σ127) else (if x2 = 1 then (Q 0 σ127) else (Q r126 σ127)))))) else (if (σ111.1 0 31) = 0 then (if (σ111.1 0 27) = 0 then (if x2 = 0 then (Q r110 σ111) else (if x2 = 1 then (Q 0 σ111) else (Q 0 σ111))) else (wX8_fail  σ111 (fun σ131 => if x2 = 0 then (Q r110 σ131) else (if x2 = 1 then (Q 0 σ131) else (Q 0 σ131))))) else (if x2 = 0 then (Q r110 σ111) else (if x2 = 1 then (Q 0 σ111) else (Q 0 σ111))))))))))))))
set_option maxRecDepth 20000 in
set_option maxHeartbeats 4000000 in
theorem kX8_read (hI : zInj tabM ad) (x1 : Int32) (x2 : Int32)  (σ : zSt) (Q : Int32 → zSt → Prop) (h : wX8_read x1 x2 σ Q) : zOkI l tabM D cA ad y 42 yX8_read cX8_read 6 (some .int) [.ref (ad 0), .int x1, .int x2] σ Q := by
  refine zz_enter hI (by decide) (Nat.le_of_ble_eq_true rfl) (fun p e s m below meth c M => ?_)
  have M : zM p s m _ meth c cX8_read 6 RX8 (some .int) tabM D cA ad y := M
  refine zz_ls [(0, .ref (ad 0)), (1, .int x1), (2, .int x2)] rfl ?_
  unfold wX8_read at h
  refine zz_aload_n M 0 dX8_read_0 rfl rfl ?_
  refine zz_sipush (v := 160) M dX8_read_1 (by decide) ?_
  refine zz_iload_n M 1 dX8_read_4 rfl rfl ?_
  refine zz_imul M dX8_read_5 ?_
  refine zz_putI M f_X8_129 tM_0 rfl dX8_read_6 ?_
  refine zz_sg (fun σ101 eσ101 => ?_)
  have h := h σ101 eσ101
  refine zz_aload_n M 0 dX8_read_9 rfl rfl ?_
  refine zz_aload_n M 0 dX8_read_10 rfl rfl ?_
  refine zz_getR M f_X8_17 tM_0 rfl dX8_read_11 ?_
  refine zz_iload_n M 1 dX8_read_14 rfl rfl ?_
  refine zz_iald M tM_2 h.1 dX8_read_15 ?_
  have h := h.2
  refine zz_putI M f_X8_126 tM_0 rfl dX8_read_16 ?_
  refine zz_sg (fun σ102 eσ102 => ?_)
  have h := h σ102 eσ102
  refine zz_aload_n M 0 dX8_read_19 rfl rfl ?_
  refine zz_iconst (v := 0) M dX8_read_20 (by decide) ?_
  refine zz_putI M f_X8_132 tM_0 rfl dX8_read_21 ?_
  refine zz_sg (fun σ103 eσ103 => ?_)
  have h := h σ103 eσ103
  refine zz_aload_n M 0 dX8_read_24 rfl rfl ?_
  refine zz_iconst (v := 0) M dX8_read_25 (by decide) ?_
  refine zz_putI M f_X8_169 tM_0 rfl dX8_read_26 ?_
  refine zz_sg (fun σ104 eσ104 => ?_)
  have h := h σ104 eσ104
  refine zz_aload_n M 0 dX8_read_29 rfl rfl ?_
  refine zz_iconst (v := 0) M dX8_read_30 (by decide) ?_
  refine zz_putZ M f_X8_159 tM_0 rfl (by decide) dX8_read_31 ?_
  refine zz_sg (fun σ105 eσ105 => ?_)
  have h := h σ105 eσ105
  refine zz_aload_n M 0 dX8_read_34 rfl rfl ?_
  refine zz_callVV (d' := 2) (As := []) (rest := []) M l_X8_175 tM_0 rfl rfl dX8_read_35 rfl rfl (by decide) (Nat.le_of_ble_eq_true rfl) (by have hI := M.2.2.2.2.2.2.2.2; exact kX8_next hI   _ _ h) (fun σ107 h => ?_)
  refine zz_aload_n M 0 dX8_read_38 rfl rfl ?_
  refine zz_aload_n M 0 dX8_read_39 rfl rfl ?_
  refine zz_bipush (v := 115) M dX8_read_40 (by decide) ?_
  refine zz_bipush (v := 104) M dX8_read_42 (by decide) ?_
  refine zz_bipush (v := 105) M dX8_read_44 (by decide) ?_
  refine zz_bipush (v := 112) M dX8_read_46 (by decide) ?_
  refine zz_iconst (v := 0) M dX8_read_48 (by decide) ?_
  refine zz_iconst (v := 0) M dX8_read_49 (by decide) ?_
  refine zz_iconst (v := 0) M dX8_read_50 (by decide) ?_
  refine zz_iconst (v := 0) M dX8_read_51 (by decide) ?_
  refine zz_callVI (d' := 3) (As := [.int 115, .int 104, .int 105, .int 112, .int 0, .int 0, .int 0, .int 0]) (rest := [.ref (ad 0)]) M l_X8_178 tM_0 rfl rfl dX8_read_52 rfl rfl (by decide) (Nat.le_of_ble_eq_true rfl) (by have hI := M.2.2.2.2.2.2.2.2; exact kX8_isWord hI _ _ _ _ _ _ _ _  _ _ h) (fun r108 σ109 h => ?_)
  refine zz_callVI (d' := 41) (As := [.int r108]) (rest := []) M l_X8_324 tM_0 rfl rfl dX8_read_55 rfl rfl (by decide) (Nat.le_of_ble_eq_true rfl) (by have hI := M.2.2.2.2.2.2.2.2; exact kX8_part hI _  _ _ h) (fun r110 σ111 h => ?_)
  refine zz_istore_n M [(3, .int r110), (0, .ref (ad 0)), (1, .int x1), (2, .int x2)] dX8_read_58 rfl (by decide) rfl ?_
  refine zz_aload_n M 1 dX8_read_59 rfl rfl ?_
  refine zz_getI M f_X8_159 tM_0 rfl dX8_read_60 ?_
  refine zz_if_eq (y0 := 0) M 70 dX8_read_63 (by decide) (fun c => ?_) (fun c => ?_)
  · have h := zif (c := (σ111.1 0 31) = 0) h c
    refine zz_aload_n M 1 dX8_read_70 rfl rfl ?_
    refine zz_aload_n M 1 dX8_read_71 rfl rfl ?_
    refine zz_bipush (v := 99) M dX8_read_72 (by decide) ?_
    refine zz_bipush (v := 97) M dX8_read_74 (by decide) ?_
    refine zz_bipush (v := 114) M dX8_read_76 (by decide) ?_
    refine zz_bipush (v := 116) M dX8_read_78 (by decide) ?_
    refine zz_iconst (v := 0) M dX8_read_80 (by decide) ?_
    refine zz_iconst (v := 0) M dX8_read_81 (by decide) ?_
    refine zz_iconst (v := 0) M dX8_read_82 (by decide) ?_
    refine zz_iconst (v := 0) M dX8_read_83 (by decide) ?_
    refine zz_callVI (d' := 3) (As := [.int 99, .int 97, .int 114, .int 116, .int 0, .int 0, .int 0, .int 0]) (rest := [.ref (ad 0)]) M l_X8_178 tM_0 rfl rfl dX8_read_84 rfl rfl (by decide) (Nat.le_of_ble_eq_true rfl) (by have hI := M.2.2.2.2.2.2.2.2; exact kX8_isWord hI _ _ _ _ _ _ _ _  _ _ h) (fun r112 σ113 h => ?_)
    refine zz_callVI (d' := 41) (As := [.int r112]) (rest := []) M l_X8_324 tM_0 rfl rfl dX8_read_87 rfl rfl (by decide) (Nat.le_of_ble_eq_true rfl) (by have hI := M.2.2.2.2.2.2.2.2; exact kX8_part hI _  _ _ h) (fun r114 σ115 h => ?_)
    refine zz_istore M [(4, .int r114), (3, .int r110), (0, .ref (ad 0)), (1, .int x1), (2, .int x2)] dX8_read_90 (by decide) rfl ?_
    refine zz_aload_n M 2 dX8_read_92 rfl rfl ?_
    refine zz_getI M f_X8_159 tM_0 rfl dX8_read_93 ?_
    refine zz_if_eq (y0 := 0) M 103 dX8_read_96 (by decide) (fun c => ?_) (fun c => ?_)
    · have h := zif (c := (σ115.1 0 31) = 0) h c
      refine zz_aload_n M 2 dX8_read_103 rfl rfl ?_
      refine zz_aload_n M 2 dX8_read_104 rfl rfl ?_
      refine zz_bipush (v := 99) M dX8_read_105 (by decide) ?_
      refine zz_bipush (v := 104) M dX8_read_107 (by decide) ?_
      refine zz_bipush (v := 97) M dX8_read_109 (by decide) ?_
      refine zz_bipush (v := 110) M dX8_read_111 (by decide) ?_
      refine zz_bipush (v := 103) M dX8_read_113 (by decide) ?_
      refine zz_bipush (v := 101) M dX8_read_115 (by decide) ?_
      refine zz_iconst (v := 0) M dX8_read_117 (by decide) ?_
      refine zz_iconst (v := 0) M dX8_read_118 (by decide) ?_
      refine zz_callVI (d' := 3) (As := [.int 99, .int 104, .int 97, .int 110, .int 103, .int 101, .int 0, .int 0]) (rest := [.ref (ad 0)]) M l_X8_178 tM_0 rfl rfl dX8_read_119 rfl rfl (by decide) (Nat.le_of_ble_eq_true rfl) (by have hI := M.2.2.2.2.2.2.2.2; exact kX8_isWord hI _ _ _ _ _ _ _ _  _ _ h) (fun r116 σ117 h => ?_)
      refine zz_callVI (d' := 41) (As := [.int r116]) (rest := []) M l_X8_324 tM_0 rfl rfl dX8_read_122 rfl rfl (by decide) (Nat.le_of_ble_eq_true rfl) (by have hI := M.2.2.2.2.2.2.2.2; exact kX8_part hI _  _ _ h) (fun r118 σ119 h => ?_)
      refine zz_istore M [(5, .int r118), (4, .int r114), (3, .int r110), (0, .ref (ad 0)), (1, .int x1), (2, .int x2)] dX8_read_125 (by decide) rfl ?_
      refine zz_aload_n M 3 dX8_read_127 rfl rfl ?_
      refine zz_getI M f_X8_159 tM_0 rfl dX8_read_128 ?_
      refine zz_if_ne (y0 := 0) M 145 dX8_read_131 (by decide) (fun c => ?_) (fun c => ?_)
      · have h := zifn (c := (σ119.1 0 31) = 0) h c
        refine zz_iload_n M 5 dX8_read_145 rfl rfl ?_
        refine zz_if_ne (y0 := 0) M 153 dX8_read_146 (by decide) (fun c => ?_) (fun c => ?_)
        · have h := zifn (c := x2 = 0) h c
          refine zz_iload_n M 5 dX8_read_153 rfl rfl ?_
          refine zz_iconst (v := 1) M dX8_read_154 (by decide) ?_
          refine zz_icmp_ne M 163 dX8_read_155 (by decide) (fun c => ?_) (fun c => ?_)
          · have h := zifn (c := x2 = 1) h c
            refine zz_iload M 0 dX8_read_163 rfl ?_
            exact zz_iret M dX8_read_165 h
          · have h := zif (c := x2 = 1) h c
            refine zz_iload M 1 dX8_read_158 rfl ?_
            refine zz_goto M 165 dX8_read_160 (by decide) ?_
            exact zz_iret M dX8_read_165 h
        · have h := zif (c := x2 = 0) h c
          refine zz_iload_n M 2 dX8_read_149 rfl rfl ?_
          refine zz_goto M 165 dX8_read_150 (by decide) ?_
          exact zz_iret M dX8_read_165 h
      · have h := zif (c := (σ119.1 0 31) = 0) h c
        refine zz_aload_n M 3 dX8_read_134 rfl rfl ?_
        refine zz_getI M f_X8_142 tM_0 rfl dX8_read_135 ?_
        refine zz_if_eq (y0 := 0) M 145 dX8_read_138 (by decide) (fun c => ?_) (fun c => ?_)
        · have h := zif (c := (σ119.1 0 27) = 0) h c
          refine zz_iload_n M 5 dX8_read_145 rfl rfl ?_
          refine zz_if_ne (y0 := 0) M 153 dX8_read_146 (by decide) (fun c => ?_) (fun c => ?_)
          · have h := zifn (c := x2 = 0) h c
            refine zz_iload_n M 5 dX8_read_153 rfl rfl ?_
            refine zz_iconst (v := 1) M dX8_read_154 (by decide) ?_
            refine zz_icmp_ne M 163 dX8_read_155 (by decide) (fun c => ?_) (fun c => ?_)
            · have h := zifn (c := x2 = 1) h c
              refine zz_iload M 0 dX8_read_163 rfl ?_
              exact zz_iret M dX8_read_165 h
            · have h := zif (c := x2 = 1) h c
              refine zz_iload M 1 dX8_read_158 rfl ?_
              refine zz_goto M 165 dX8_read_160 (by decide) ?_
              exact zz_iret M dX8_read_165 h
          · have h := zif (c := x2 = 0) h c
            refine zz_iload_n M 2 dX8_read_149 rfl rfl ?_
            refine zz_goto M 165 dX8_read_150 (by decide) ?_
            exact zz_iret M dX8_read_165 h
        · have h := zifn (c := (σ119.1 0 27) = 0) h c
          refine zz_aload_n M 3 dX8_read_141 rfl rfl ?_
          refine zz_callVV (d' := 1) (As := []) (rest := []) M l_X8_172 tM_0 rfl rfl dX8_read_142 rfl rfl (by decide) (Nat.le_of_ble_eq_true rfl) (by have hI := M.2.2.2.2.2.2.2.2; exact kX8_fail hI   _ _ h) (fun σ121 h => ?_)
          refine zz_iload_n M 5 dX8_read_145 rfl rfl ?_
          refine zz_if_ne (y0 := 0) M 153 dX8_read_146 (by decide) (fun c => ?_) (fun c => ?_)
          · have h := zifn (c := x2 = 0) h c
            refine zz_iload_n M 5 dX8_read_153 rfl rfl ?_
            refine zz_iconst (v := 1) M dX8_read_154 (by decide) ?_
            refine zz_icmp_ne M 163 dX8_read_155 (by decide) (fun c => ?_) (fun c => ?_)
            · have h := zifn (c := x2 = 1) h c
              refine zz_iload M 0 dX8_read_163 rfl ?_
              exact zz_iret M dX8_read_165 h
            · have h := zif (c := x2 = 1) h c
              refine zz_iload M 1 dX8_read_158 rfl ?_
              refine zz_goto M 165 dX8_read_160 (by decide) ?_
              exact zz_iret M dX8_read_165 h
          · have h := zif (c := x2 = 0) h c
            refine zz_iload_n M 2 dX8_read_149 rfl rfl ?_
            refine zz_goto M 165 dX8_read_150 (by decide) ?_
            exact zz_iret M dX8_read_165 h
    · have h := zifn (c := (σ115.1 0 31) = 0) h c
      refine zz_iconst (v := 0) M dX8_read_99 (by decide) ?_
      refine zz_goto M 125 dX8_read_100 (by decide) ?_
      refine zz_istore M [(5, .int 0), (4, .int r114), (3, .int r110), (0, .ref (ad 0)), (1, .int x1), (2, .int x2)] dX8_read_125 (by decide) rfl ?_
      refine zz_aload_n M 3 dX8_read_127 rfl rfl ?_
      refine zz_getI M f_X8_159 tM_0 rfl dX8_read_128 ?_
      refine zz_if_ne (y0 := 0) M 145 dX8_read_131 (by decide) (fun c => ?_) (fun c => ?_)
      · have h := zifn (c := (σ115.1 0 31) = 0) h c
        refine zz_iload_n M 5 dX8_read_145 rfl rfl ?_
        refine zz_if_ne (y0 := 0) M 153 dX8_read_146 (by decide) (fun c => ?_) (fun c => ?_)
        · have h := zifn (c := x2 = 0) h c
          refine zz_iload_n M 5 dX8_read_153 rfl rfl ?_
          refine zz_iconst (v := 1) M dX8_read_154 (by decide) ?_
          refine zz_icmp_ne M 163 dX8_read_155 (by decide) (fun c => ?_) (fun c => ?_)
          · have h := zifn (c := x2 = 1) h c
            refine zz_iload M 0 dX8_read_163 rfl ?_
            exact zz_iret M dX8_read_165 h
          · have h := zif (c := x2 = 1) h c
            refine zz_iload M 1 dX8_read_158 rfl ?_
            refine zz_goto M 165 dX8_read_160 (by decide) ?_
            exact zz_iret M dX8_read_165 h
        · have h := zif (c := x2 = 0) h c
          refine zz_iload_n M 2 dX8_read_149 rfl rfl ?_
          refine zz_goto M 165 dX8_read_150 (by decide) ?_
          exact zz_iret M dX8_read_165 h
      · have h := zif (c := (σ115.1 0 31) = 0) h c
        refine zz_aload_n M 3 dX8_read_134 rfl rfl ?_
        refine zz_getI M f_X8_142 tM_0 rfl dX8_read_135 ?_
        refine zz_if_eq (y0 := 0) M 145 dX8_read_138 (by decide) (fun c => ?_) (fun c => ?_)
        · have h := zif (c := (σ115.1 0 27) = 0) h c
          refine zz_iload_n M 5 dX8_read_145 rfl rfl ?_
          refine zz_if_ne (y0 := 0) M 153 dX8_read_146 (by decide) (fun c => ?_) (fun c => ?_)
          · have h := zifn (c := x2 = 0) h c
            refine zz_iload_n M 5 dX8_read_153 rfl rfl ?_
            refine zz_iconst (v := 1) M dX8_read_154 (by decide) ?_
            refine zz_icmp_ne M 163 dX8_read_155 (by decide) (fun c => ?_) (fun c => ?_)
            · have h := zifn (c := x2 = 1) h c
              refine zz_iload M 0 dX8_read_163 rfl ?_
              exact zz_iret M dX8_read_165 h
            · have h := zif (c := x2 = 1) h c
              refine zz_iload M 1 dX8_read_158 rfl ?_
              refine zz_goto M 165 dX8_read_160 (by decide) ?_
              exact zz_iret M dX8_read_165 h
          · have h := zif (c := x2 = 0) h c
            refine zz_iload_n M 2 dX8_read_149 rfl rfl ?_
            refine zz_goto M 165 dX8_read_150 (by decide) ?_
            exact zz_iret M dX8_read_165 h
        · have h := zifn (c := (σ115.1 0 27) = 0) h c
          refine zz_aload_n M 3 dX8_read_141 rfl rfl ?_
          refine zz_callVV (d' := 1) (As := []) (rest := []) M l_X8_172 tM_0 rfl rfl dX8_read_142 rfl rfl (by decide) (Nat.le_of_ble_eq_true rfl) (by have hI := M.2.2.2.2.2.2.2.2; exact kX8_fail hI   _ _ h) (fun σ123 h => ?_)
          refine zz_iload_n M 5 dX8_read_145 rfl rfl ?_
          refine zz_if_ne (y0 := 0) M 153 dX8_read_146 (by decide) (fun c => ?_) (fun c => ?_)
          · have h := zifn (c := x2 = 0) h c
            refine zz_iload_n M 5 dX8_read_153 rfl rfl ?_
            refine zz_iconst (v := 1) M dX8_read_154 (by decide) ?_
            refine zz_icmp_ne M 163 dX8_read_155 (by decide) (fun c => ?_) (fun c => ?_)
            · have h := zifn (c := x2 = 1) h c
              refine zz_iload M 0 dX8_read_163 rfl ?_
              exact zz_iret M dX8_read_165 h
            · have h := zif (c := x2 = 1) h c
              refine zz_iload M 1 dX8_read_158 rfl ?_
              refine zz_goto M 165 dX8_read_160 (by decide) ?_
              exact zz_iret M dX8_read_165 h
          · have h := zif (c := x2 = 0) h c
            refine zz_iload_n M 2 dX8_read_149 rfl rfl ?_
            refine zz_goto M 165 dX8_read_150 (by decide) ?_
            exact zz_iret M dX8_read_165 h
  · have h := zifn (c := (σ111.1 0 31) = 0) h c
    refine zz_iconst (v := 0) M dX8_read_66 (by decide) ?_
    refine zz_goto M 90 dX8_read_67 (by decide) ?_
    refine zz_istore M [(4, .int 0), (3, .int r110), (0, .ref (ad 0)), (1, .int x1), (2, .int x2)] dX8_read_90 (by decide) rfl ?_
    refine zz_aload_n M 2 dX8_read_92 rfl rfl ?_
    refine zz_getI M f_X8_159 tM_0 rfl dX8_read_93 ?_
    refine zz_if_eq (y0 := 0) M 103 dX8_read_96 (by decide) (fun c => ?_) (fun c => ?_)
    · have h := zif (c := (σ111.1 0 31) = 0) h c
      refine zz_aload_n M 2 dX8_read_103 rfl rfl ?_
      refine zz_aload_n M 2 dX8_read_104 rfl rfl ?_
      refine zz_bipush (v := 99) M dX8_read_105 (by decide) ?_
      refine zz_bipush (v := 104) M dX8_read_107 (by decide) ?_
      refine zz_bipush (v := 97) M dX8_read_109 (by decide) ?_
      refine zz_bipush (v := 110) M dX8_read_111 (by decide) ?_
      refine zz_bipush (v := 103) M dX8_read_113 (by decide) ?_
      refine zz_bipush (v := 101) M dX8_read_115 (by decide) ?_
      refine zz_iconst (v := 0) M dX8_read_117 (by decide) ?_
      refine zz_iconst (v := 0) M dX8_read_118 (by decide) ?_
      refine zz_callVI (d' := 3) (As := [.int 99, .int 104, .int 97, .int 110, .int 103, .int 101, .int 0, .int 0]) (rest := [.ref (ad 0)]) M l_X8_178 tM_0 rfl rfl dX8_read_119 rfl rfl (by decide) (Nat.le_of_ble_eq_true rfl) (by have hI := M.2.2.2.2.2.2.2.2; exact kX8_isWord hI _ _ _ _ _ _ _ _  _ _ h) (fun r124 σ125 h => ?_)
      refine zz_callVI (d' := 41) (As := [.int r124]) (rest := []) M l_X8_324 tM_0 rfl rfl dX8_read_122 rfl rfl (by decide) (Nat.le_of_ble_eq_true rfl) (by have hI := M.2.2.2.2.2.2.2.2; exact kX8_part hI _  _ _ h) (fun r126 σ127 h => ?_)
      refine zz_istore M [(5, .int r126), (4, .int 0), (3, .int r110), (0, .ref (ad 0)), (1, .int x1), (2, .int x2)] dX8_read_125 (by decide) rfl ?_
      refine zz_aload_n M 3 dX8_read_127 rfl rfl ?_
      refine zz_getI M f_X8_159 tM_0 rfl dX8_read_128 ?_
      refine zz_if_ne (y0 := 0) M 145 dX8_read_131 (by decide) (fun c => ?_) (fun c => ?_)
      · have h := zifn (c := (σ127.1 0 31) = 0) h c
        refine zz_iload_n M 5 dX8_read_145 rfl rfl ?_
        refine zz_if_ne (y0 := 0) M 153 dX8_read_146 (by decide) (fun c => ?_) (fun c => ?_)
        · have h := zifn (c := x2 = 0) h c
          refine zz_iload_n M 5 dX8_read_153 rfl rfl ?_
          refine zz_iconst (v := 1) M dX8_read_154 (by decide) ?_
          refine zz_icmp_ne M 163 dX8_read_155 (by decide) (fun c => ?_) (fun c => ?_)
          · have h := zifn (c := x2 = 1) h c
            refine zz_iload M 0 dX8_read_163 rfl ?_
            exact zz_iret M dX8_read_165 h
          · have h := zif (c := x2 = 1) h c
            refine zz_iload M 1 dX8_read_158 rfl ?_
            refine zz_goto M 165 dX8_read_160 (by decide) ?_
            exact zz_iret M dX8_read_165 h
        · have h := zif (c := x2 = 0) h c
          refine zz_iload_n M 2 dX8_read_149 rfl rfl ?_
          refine zz_goto M 165 dX8_read_150 (by decide) ?_
          exact zz_iret M dX8_read_165 h
      · have h := zif (c := (σ127.1 0 31) = 0) h c
        refine zz_aload_n M 3 dX8_read_134 rfl rfl ?_
        refine zz_getI M f_X8_142 tM_0 rfl dX8_read_135 ?_
        refine zz_if_eq (y0 := 0) M 145 dX8_read_138 (by decide) (fun c => ?_) (fun c => ?_)
        · have h := zif (c := (σ127.1 0 27) = 0) h c
          refine zz_iload_n M 5 dX8_read_145 rfl rfl ?_
          refine zz_if_ne (y0 := 0) M 153 dX8_read_146 (by decide) (fun c => ?_) (fun c => ?_)
          · have h := zifn (c := x2 = 0) h c
            refine zz_iload_n M 5 dX8_read_153 rfl rfl ?_
            refine zz_iconst (v := 1) M dX8_read_154 (by decide) ?_
            refine zz_icmp_ne M 163 dX8_read_155 (by decide) (fun c => ?_) (fun c => ?_)
            · have h := zifn (c := x2 = 1) h c
              refine zz_iload M 0 dX8_read_163 rfl ?_
              exact zz_iret M dX8_read_165 h
            · have h := zif (c := x2 = 1) h c
              refine zz_iload M 1 dX8_read_158 rfl ?_
              refine zz_goto M 165 dX8_read_160 (by decide) ?_
              exact zz_iret M dX8_read_165 h
          · have h := zif (c := x2 = 0) h c
            refine zz_iload_n M 2 dX8_read_149 rfl rfl ?_
            refine zz_goto M 165 dX8_read_150 (by decide) ?_
            exact zz_iret M dX8_read_165 h
        · have h := zifn (c := (σ127.1 0 27) = 0) h c
          refine zz_aload_n M 3 dX8_read_141 rfl rfl ?_
          refine zz_callVV (d' := 1) (As := []) (rest := []) M l_X8_172 tM_0 rfl rfl dX8_read_142 rfl rfl (by decide) (Nat.le_of_ble_eq_true rfl) (by have hI := M.2.2.2.2.2.2.2.2; exact kX8_fail hI   _ _ h) (fun σ129 h => ?_)
          refine zz_iload_n M 5 dX8_read_145 rfl rfl ?_
          refine zz_if_ne (y0 := 0) M 153 dX8_read_146 (by decide) (fun c => ?_) (fun c => ?_)
          · have h := zifn (c := x2 = 0) h c
            refine zz_iload_n M 5 dX8_read_153 rfl rfl ?_
            refine zz_iconst (v := 1) M dX8_read_154 (by decide) ?_
            refine zz_icmp_ne M 163 dX8_read_155 (by decide) (fun c => ?_) (fun c => ?_)
            · have h := zifn (c := x2 = 1) h c
              refine zz_iload M 0 dX8_read_163 rfl ?_
              exact zz_iret M dX8_read_165 h
            · have h := zif (c := x2 = 1) h c
              refine zz_iload M 1 dX8_read_158 rfl ?_
              refine zz_goto M 165 dX8_read_160 (by decide) ?_
              exact zz_iret M dX8_read_165 h
          · have h := zif (c := x2 = 0) h c
            refine zz_iload_n M 2 dX8_read_149 rfl rfl ?_
            refine zz_goto M 165 dX8_read_150 (by decide) ?_
            exact zz_iret M dX8_read_165 h
    · have h := zifn (c := (σ111.1 0 31) = 0) h c
      refine zz_iconst (v := 0) M dX8_read_99 (by decide) ?_
      refine zz_goto M 125 dX8_read_100 (by decide) ?_
      refine zz_istore M [(5, .int 0), (4, .int 0), (3, .int r110), (0, .ref (ad 0)), (1, .int x1), (2, .int x2)] dX8_read_125 (by decide) rfl ?_
      refine zz_aload_n M 3 dX8_read_127 rfl rfl ?_
      refine zz_getI M f_X8_159 tM_0 rfl dX8_read_128 ?_
      refine zz_if_ne (y0 := 0) M 145 dX8_read_131 (by decide) (fun c => ?_) (fun c => ?_)
      · have h := zifn (c := (σ111.1 0 31) = 0) h c
        refine zz_iload_n M 5 dX8_read_145 rfl rfl ?_
        refine zz_if_ne (y0 := 0) M 153 dX8_read_146 (by decide) (fun c => ?_) (fun c => ?_)
        · have h := zifn (c := x2 = 0) h c
          refine zz_iload_n M 5 dX8_read_153 rfl rfl ?_
          refine zz_iconst (v := 1) M dX8_read_154 (by decide) ?_
          refine zz_icmp_ne M 163 dX8_read_155 (by decide) (fun c => ?_) (fun c => ?_)
          · have h := zifn (c := x2 = 1) h c
            refine zz_iload M 0 dX8_read_163 rfl ?_
            exact zz_iret M dX8_read_165 h
          · have h := zif (c := x2 = 1) h c
            refine zz_iload M 1 dX8_read_158 rfl ?_
            refine zz_goto M 165 dX8_read_160 (by decide) ?_
            exact zz_iret M dX8_read_165 h
        · have h := zif (c := x2 = 0) h c
          refine zz_iload_n M 2 dX8_read_149 rfl rfl ?_
          refine zz_goto M 165 dX8_read_150 (by decide) ?_
          exact zz_iret M dX8_read_165 h
      · have h := zif (c := (σ111.1 0 31) = 0) h c
        refine zz_aload_n M 3 dX8_read_134 rfl rfl ?_
        refine zz_getI M f_X8_142 tM_0 rfl dX8_read_135 ?_
        refine zz_if_eq (y0 := 0) M 145 dX8_read_138 (by decide) (fun c => ?_) (fun c => ?_)
        · have h := zif (c := (σ111.1 0 27) = 0) h c
          refine zz_iload_n M 5 dX8_read_145 rfl rfl ?_
          refine zz_if_ne (y0 := 0) M 153 dX8_read_146 (by decide) (fun c => ?_) (fun c => ?_)
          · have h := zifn (c := x2 = 0) h c
            refine zz_iload_n M 5 dX8_read_153 rfl rfl ?_
            refine zz_iconst (v := 1) M dX8_read_154 (by decide) ?_
            refine zz_icmp_ne M 163 dX8_read_155 (by decide) (fun c => ?_) (fun c => ?_)
            · have h := zifn (c := x2 = 1) h c
              refine zz_iload M 0 dX8_read_163 rfl ?_
              exact zz_iret M dX8_read_165 h
            · have h := zif (c := x2 = 1) h c
              refine zz_iload M 1 dX8_read_158 rfl ?_
              refine zz_goto M 165 dX8_read_160 (by decide) ?_
              exact zz_iret M dX8_read_165 h
          · have h := zif (c := x2 = 0) h c
            refine zz_iload_n M 2 dX8_read_149 rfl rfl ?_
            refine zz_goto M 165 dX8_read_150 (by decide) ?_
            exact zz_iret M dX8_read_165 h
        · have h := zifn (c := (σ111.1 0 27) = 0) h c
          refine zz_aload_n M 3 dX8_read_141 rfl rfl ?_
          refine zz_callVV (d' := 1) (As := []) (rest := []) M l_X8_172 tM_0 rfl rfl dX8_read_142 rfl rfl (by decide) (Nat.le_of_ble_eq_true rfl) (by have hI := M.2.2.2.2.2.2.2.2; exact kX8_fail hI   _ _ h) (fun σ131 h => ?_)
          refine zz_iload_n M 5 dX8_read_145 rfl rfl ?_
          refine zz_if_ne (y0 := 0) M 153 dX8_read_146 (by decide) (fun c => ?_) (fun c => ?_)
          · have h := zifn (c := x2 = 0) h c
            refine zz_iload_n M 5 dX8_read_153 rfl rfl ?_
            refine zz_iconst (v := 1) M dX8_read_154 (by decide) ?_
            refine zz_icmp_ne M 163 dX8_read_155 (by decide) (fun c => ?_) (fun c => ?_)
            · have h := zifn (c := x2 = 1) h c
              refine zz_iload M 0 dX8_read_163 rfl ?_
              exact zz_iret M dX8_read_165 h
            · have h := zif (c := x2 = 1) h c
              refine zz_iload M 1 dX8_read_158 rfl ?_
              refine zz_goto M 165 dX8_read_160 (by decide) ?_
              exact zz_iret M dX8_read_165 h
          · have h := zif (c := x2 = 0) h c
            refine zz_iload_n M 2 dX8_read_149 rfl rfl ?_
            refine zz_goto M 165 dX8_read_150 (by decide) ?_
            exact zz_iret M dX8_read_165 h
def wX8_text_L14 (Q : Int32 → zSt → Prop) (K49 : zSt → Prop)  : Nat → Int32 → zSt → Prop
  | 0, _, _ => False
  | n + 1, x1, σ => if (σ.1 0 6) ≤ x1 then (K49  σ) else (vp_in x1 160 ∧ (vp_in ((160 * (σ.1 0 3)) + x1) 960 ∧ (∀ σ101 : zSt, σ101 = zput σ 1 ((160 * (σ.1 0 3)) + x1 : Int32).toNatClampNeg (σ.1 3 x1.toNatClampNeg) → (∀ x102 : Int32, x102 = x1 + 1 → (wX8_text_L14 Q K49  n x102 σ101)))))
set_option maxRecDepth 20000 in
set_option maxHeartbeats 4000000 in
theorem sX8_text_L14 {Q : Int32 → zSt → Prop} {K49 : zSt → Prop}   (M : zM p s m args meth c cX8_text 2 RX8 (some .int) tabM D cA ad y) (hK49 : ∀ (σ : zSt), K49  σ → zG p l e (zrm 43) s m args below meth c 2 tabM D cA ad (MQ below (va_Qi Q (fun σ' t => va_P D vwCl (zws tabM cA ad σ') t.heap) (zIn tabM ad)) args s 0 0 (zIn tabM ad)) 49 [(0, .ref (ad 0))] [] σ) : ∀ (n : Nat) (x1 : Int32) (σ : zSt), wX8_text_L14 Q K49  n x1 σ → zG p l e (zrm 43) s m args below meth c 2 tabM D cA ad (MQ below (va_Qi Q (fun σ' t => va_P D vwCl (zws tabM cA ad σ') t.heap) (zIn tabM ad)) args s 0 0 (zIn tabM ad)) 14 [(0, .ref (ad 0)), (1, .int x1)] [] σ := by
  intro n
  induction n with
  | zero => intro x1 σ h; exact absurd h (by simp [wX8_text_L14])
  | succ n ih =>
    intro x1 σ h
    unfold wX8_text_L14 at h
    refine zz_iload_n M 1 dX8_text_14 rfl rfl ?_
    refine zz_aload_n M 0 dX8_text_15 rfl rfl ?_
    refine zz_getI M f_X8_123 tM_0 rfl dX8_text_16 ?_
    refine zz_icmp_ge M 49 dX8_text_19 (by decide) (fun c => ?_) (fun c => ?_)
    · have h := zif (c := (σ.1 0 6) ≤ x1) h c
      refine zz_sub [(0, .ref (ad 0))] [0] rfl ?_
      exact hK49  _ h
    · have h := zifn (c := (σ.1 0 6) ≤ x1) h c
      refine zz_aload_n M 0 dX8_text_22 rfl rfl ?_
      refine zz_getR M f_X8_13 tM_0 rfl dX8_text_23 ?_
      refine zz_sipush (v := 160) M dX8_text_26 (by decide) ?_
      refine zz_aload_n M 0 dX8_text_29 rfl rfl ?_
      refine zz_getI M f_X8_89 tM_0 rfl dX8_text_30 ?_
      refine zz_imul M dX8_text_33 ?_
      refine zz_iload_n M 1 dX8_text_34 rfl rfl ?_
      refine zz_iadd M dX8_text_35 ?_
      refine zz_aload_n M 0 dX8_text_36 rfl rfl ?_
      refine zz_getR M f_X8_20 tM_0 rfl dX8_text_37 ?_
      refine zz_iload_n M 1 dX8_text_40 rfl rfl ?_
      refine zz_iald M tM_3 h.1 dX8_text_41 ?_
      have h := h.2
      refine zz_iast M tM_1 h.1 dX8_text_42 ?_
      have h := h.2
      refine zz_sg (fun σ101 eσ101 => ?_)
      have h := h σ101 eσ101
      obtain ⟨x102, ex102⟩ : ∃ z : Int32, z = x1 + 1 := ⟨_, rfl⟩
      have h := h x102 ex102
      refine zz_iinc M [(1, .int x102), (0, .ref (ad 0))] 1 dX8_text_43 rfl (n32 := 1) (by decide) ex102 (by decide) rfl ?_
      refine zz_goto M 14 dX8_text_46 (by decide) ?_
      refine zz_sub [(0, .ref (ad 0)), (1, .int x102)] [1, 0] rfl ?_
      exact ih _ _ h
def wX8_text  (σ : zSt) (Q : Int32 → zSt → Prop) : Prop := if (σ.1 0 3) = 6 then (Q (-4) σ) else (wX8_text_L14 Q (fun  σ103 => vp_in (σ103.1 0 3) 6 ∧ (∀ σ104 : zSt, σ104 = zput σ103 2 (σ103.1 0 3 : Int32).toNatClampNeg (σ103.1 0 6) → (∀ σ105 : zSt, σ105 = zput σ104 0 6 0 → (∀ a106 : Int32, a106 = (σ105.1 0 3) → (wX8_read a106 0 σ105 (fun r107 σ108 => if (σ108.1 0 31) = 0 then (∀ σ109 : zSt, σ109 = zput σ108 0 3 ((σ108.1 0 3) + 1) → (Q ((σ109.1 0 3) - 1) σ109)) else (Q ((-100) - (σ108.1 0 32)) σ108)))))))  300 0 σ)
set_option maxRecDepth 20000 in
set_option maxHeartbeats 4000000 in
theorem kX8_text (hI : zInj tabM ad)   (σ : zSt) (Q : Int32 → zSt → Prop) (h : wX8_text  σ Q) : zOkI l tabM D cA ad y 43 yX8_text cX8_text 2 (some .int) [.ref (ad 0)] σ Q := by
  refine zz_enter hI (by decide) (Nat.le_of_ble_eq_true rfl) (fun p e s m below meth c M => ?_)
  have M : zM p s m _ meth c cX8_text 2 RX8 (some .int) tabM D cA ad y := M
  refine zz_ls [(0, .ref (ad 0))] rfl ?_
  unfold wX8_text at h
  refine zz_aload_n M 0 dX8_text_0 rfl rfl ?_
  refine zz_getI M f_X8_89 tM_0 rfl dX8_text_1 ?_
  refine zz_bipush (v := 6) M dX8_text_4 (by decide) ?_
  refine zz_icmp_ne M 12 dX8_text_6 (by decide) (fun c => ?_) (fun c => ?_)
  · have h := zifn (c := (σ.1 0 3) = 6) h c
    refine zz_iconst (v := 0) M dX8_text_12 (by decide) ?_
    refine zz_istore_n M [(1, .int 0), (0, .ref (ad 0))] dX8_text_13 rfl (by decide) rfl ?_
    refine zz_sub [(0, .ref (ad 0)), (1, .int 0)] [1, 0] rfl ?_
    refine sX8_text_L14   M (fun  σ103 h => ?_) 300 _ _ h
    refine zz_aload_n M 0 dX8_text_49 rfl rfl ?_
    refine zz_getR M f_X8_17 tM_0 rfl dX8_text_50 ?_
    refine zz_aload_n M 0 dX8_text_53 rfl rfl ?_
    refine zz_getI M f_X8_89 tM_0 rfl dX8_text_54 ?_
    refine zz_aload_n M 0 dX8_text_57 rfl rfl ?_
    refine zz_getI M f_X8_123 tM_0 rfl dX8_text_58 ?_
    refine zz_iast M tM_2 h.1 dX8_text_61 ?_
    have h := h.2
    refine zz_sg (fun σ104 eσ104 => ?_)
    have h := h σ104 eσ104
    refine zz_aload_n M 0 dX8_text_62 rfl rfl ?_
    refine zz_iconst (v := 0) M dX8_text_63 (by decide) ?_
    refine zz_putI M f_X8_123 tM_0 rfl dX8_text_64 ?_
    refine zz_sg (fun σ105 eσ105 => ?_)
    have h := h σ105 eσ105
    refine zz_aload_n M 0 dX8_text_67 rfl rfl ?_
    refine zz_aload_n M 0 dX8_text_68 rfl rfl ?_
    refine zz_getI M f_X8_89 tM_0 rfl dX8_text_69 ?_
    refine zz_iconst (v := 0) M dX8_text_72 (by decide) ?_
    obtain ⟨a106, ea106⟩ : ∃ z : Int32, z = (σ105.1 0 3) := ⟨_, rfl⟩
    have h := h a106 ea106
    refine zz_st [.int 0, .int a106, .ref (ad 0)] (by rw [ea106]) ?_
    refine zz_callVI (d' := 42) (As := [.int a106, .int 0]) (rest := []) M l_X8_328 tM_0 rfl rfl dX8_text_73 rfl rfl (by decide) (Nat.le_of_ble_eq_true rfl) (by have hI := M.2.2.2.2.2.2.2.2; exact kX8_read hI _ _  _ _ h) (fun r107 σ108 h => ?_)
    refine zz_istore_n M [(1, .int r107), (0, .ref (ad 0))] dX8_text_76 rfl (by decide) rfl ?_
    refine zz_aload_n M 1 dX8_text_77 rfl rfl ?_
    refine zz_getI M f_X8_159 tM_0 rfl dX8_text_78 ?_
    refine zz_if_eq (y0 := 0) M 92 dX8_text_81 (by decide) (fun c => ?_) (fun c => ?_)
    · have h := zif (c := (σ108.1 0 31) = 0) h c
      refine zz_aload_n M 1 dX8_text_92 rfl rfl ?_
      refine zz_dup M dX8_text_93 rfl ?_
      refine zz_getI M f_X8_89 tM_0 rfl dX8_text_94 ?_
      refine zz_iconst (v := 1) M dX8_text_97 (by decide) ?_
      refine zz_iadd M dX8_text_98 ?_
      refine zz_putI M f_X8_89 tM_0 rfl dX8_text_99 ?_
      refine zz_sg (fun σ109 eσ109 => ?_)
      have h := h σ109 eσ109
      refine zz_aload_n M 1 dX8_text_102 rfl rfl ?_
      refine zz_getI M f_X8_89 tM_0 rfl dX8_text_103 ?_
      refine zz_iconst (v := 1) M dX8_text_106 (by decide) ?_
      refine zz_isub M dX8_text_107 ?_
      exact zz_iret M dX8_text_108 h
    · have h := zifn (c := (σ108.1 0 31) = 0) h c
      refine zz_bipush (v := (-100)) M dX8_text_84 (by decide) ?_
      refine zz_aload_n M 1 dX8_text_86 rfl rfl ?_
      refine zz_getI M f_X8_163 tM_0 rfl dX8_text_87 ?_
      refine zz_isub M dX8_text_90 ?_
      exact zz_iret M dX8_text_91 h
  · have h := zif (c := (σ.1 0 3) = 6) h c
    refine zz_bipush (v := (-4)) M dX8_text_9 (by decide) ?_
    exact zz_iret M dX8_text_11 h
def wX8_force (x1 : Int32) (σ : zSt) (Q : Int32 → zSt → Prop) : Prop := ∀ a101 : Int64, a101 = ((x1 : Int32).toInt64) → (∀ a102 : Int64, a102 = (((σ.1 0 3) - 1 : Int32).toInt64) → (wX8_in a101 0 a102 σ (fun r103 σ104 => if r103 = 0 then (Q (-2) σ104) else (∀ x105 : Int32, x105 = (σ104.1 0 4) → (∀ σ106 : zSt, σ106 = zput σ104 0 4 x1 → (Q x105 σ106))))))
set_option maxRecDepth 20000 in
set_option maxHeartbeats 4000000 in
theorem kX8_force (hI : zInj tabM ad) (x1 : Int32)  (σ : zSt) (Q : Int32 → zSt → Prop) (h : wX8_force x1 σ Q) : zOkI l tabM D cA ad y 2 yX8_force cX8_force 3 (some .int) [.ref (ad 0), .int x1] σ Q := by
  refine zz_enter hI (by decide) (Nat.le_of_ble_eq_true rfl) (fun p e s m below meth c M => ?_)
  have M : zM p s m _ meth c cX8_force 3 RX8 (some .int) tabM D cA ad y := M
  refine zz_ls [(0, .ref (ad 0)), (1, .int x1)] rfl ?_
  unfold wX8_force at h
  refine zz_iload_n M 1 dX8_force_0 rfl rfl ?_
  refine zz_i2l M dX8_force_1 ?_
  refine zz_lconst (v := 0) M dX8_force_2 (by decide) ?_
  refine zz_aload_n M 0 dX8_force_3 rfl rfl ?_
  refine zz_getI M f_X8_89 tM_0 rfl dX8_force_4 ?_
  refine zz_iconst (v := 1) M dX8_force_7 (by decide) ?_
  refine zz_isub M dX8_force_8 ?_
  refine zz_i2l M dX8_force_9 ?_
  obtain ⟨a101, ea101⟩ : ∃ z : Int64, z = ((x1 : Int32).toInt64) := ⟨_, rfl⟩
  have h := h a101 ea101
  obtain ⟨a102, ea102⟩ : ∃ z : Int64, z = (((σ.1 0 3) - 1 : Int32).toInt64) := ⟨_, rfl⟩
  have h := h a102 ea102
  refine zz_st [.long a102, .long 0, .long a101] (by rw [ea101, ea102]) ?_
  refine zz_callSI (d' := 1) (As := [.long a101, .long 0, .long a102]) (rest := []) M l_X8_92 dX8_force_10 rfl rfl (by decide) (Nat.le_of_ble_eq_true rfl) (by have hI := M.2.2.2.2.2.2.2.2; exact kX8_in hI _ _ _  _ _ h) (fun r103 σ104 h => ?_)
  refine zz_if_ne (y0 := 0) M 19 dX8_force_13 (by decide) (fun c => ?_) (fun c => ?_)
  · have h := zifn (c := r103 = 0) h c
    refine zz_aload_n M 0 dX8_force_19 rfl rfl ?_
    refine zz_getI M f_X8_332 tM_0 rfl dX8_force_20 ?_
    refine zz_topi (fun x105 ex105 => ?_)
    have h := h x105 ex105
    refine zz_istore_n M [(2, .int x105), (0, .ref (ad 0)), (1, .int x1)] dX8_force_23 rfl (by decide) rfl ?_
    refine zz_aload_n M 1 dX8_force_24 rfl rfl ?_
    refine zz_iload_n M 2 dX8_force_25 rfl rfl ?_
    refine zz_putI M f_X8_332 tM_0 rfl dX8_force_26 ?_
    refine zz_sg (fun σ106 eσ106 => ?_)
    have h := h σ106 eσ106
    refine zz_iload_n M 0 dX8_force_29 rfl rfl ?_
    exact zz_iret M dX8_force_30 h
  · have h := zif (c := r103 = 0) h c
    refine zz_bipush (v := (-2)) M dX8_force_16 (by decide) ?_
    exact zz_iret M dX8_force_18 h
def wX8_takesPlan_L2 (Q : zSt → Prop) (K26 : zSt → Prop)  : Nat → Int32 → zSt → Prop
  | 0, _, _ => False
  | n + 1, x1, σ => if 24 ≤ x1 then (K26  σ) else (vp_in x1 24 ∧ (vp_in x1 24 ∧ (∀ σ101 : zSt, σ101 = zput σ 10 x1.toNatClampNeg (σ.1 9 x1.toNatClampNeg) → (∀ x102 : Int32, x102 = x1 + 1 → (wX8_takesPlan_L2 Q K26  n x102 σ101)))))
set_option maxRecDepth 20000 in
set_option maxHeartbeats 4000000 in
theorem sX8_takesPlan_L2 {Q : zSt → Prop} {K26 : zSt → Prop}   (M : zM p s m args meth c cX8_takesPlan 2 RX8 none tabM D cA ad y) (hK26 : ∀ (σ : zSt), K26  σ → zG p l e (zrm 1) s m args below meth c 2 tabM D cA ad (MQ below (va_Qv Q (fun σ' t => va_P D vwCl (zws tabM cA ad σ') t.heap) (zIn tabM ad)) args s 0 0 (zIn tabM ad)) 26 [] [] σ) : ∀ (n : Nat) (x1 : Int32) (σ : zSt), wX8_takesPlan_L2 Q K26  n x1 σ → zG p l e (zrm 1) s m args below meth c 2 tabM D cA ad (MQ below (va_Qv Q (fun σ' t => va_P D vwCl (zws tabM cA ad σ') t.heap) (zIn tabM ad)) args s 0 0 (zIn tabM ad)) 2 [(0, .ref (ad 0)), (1, .int x1)] [] σ := by
  intro n
  induction n with
  | zero => intro x1 σ h; exact absurd h (by simp [wX8_takesPlan_L2])
  | succ n ih =>
    intro x1 σ h
    unfold wX8_takesPlan_L2 at h
    refine zz_iload_n M 1 dX8_takesPlan_2 rfl rfl ?_
    refine zz_bipush (v := 24) M dX8_takesPlan_3 (by decide) ?_
    refine zz_icmp_ge M 26 dX8_takesPlan_5 (by decide) (fun c => ?_) (fun c => ?_)
    · have h := zif (c := 24 ≤ x1) h c
      refine zz_sub [] [] rfl ?_
      exact hK26  _ h
    · have h := zifn (c := 24 ≤ x1) h c
      refine zz_aload_n M 0 dX8_takesPlan_8 rfl rfl ?_
      refine zz_getR M f_X8_47 tM_0 rfl dX8_takesPlan_9 ?_
      refine zz_iload_n M 1 dX8_takesPlan_12 rfl rfl ?_
      refine zz_aload_n M 0 dX8_takesPlan_13 rfl rfl ?_
      refine zz_getR M f_X8_44 tM_0 rfl dX8_takesPlan_14 ?_
      refine zz_iload_n M 1 dX8_takesPlan_17 rfl rfl ?_
      refine zz_iald M tM_9 h.1 dX8_takesPlan_18 ?_
      have h := h.2
      refine zz_iast M tM_10 h.1 dX8_takesPlan_19 ?_
      have h := h.2
      refine zz_sg (fun σ101 eσ101 => ?_)
      have h := h σ101 eσ101
      obtain ⟨x102, ex102⟩ : ∃ z : Int32, z = x1 + 1 := ⟨_, rfl⟩
      have h := h x102 ex102
      refine zz_iinc M [(1, .int x102), (0, .ref (ad 0))] 1 dX8_takesPlan_20 rfl (n32 := 1) (by decide) ex102 (by decide) rfl ?_
      refine zz_goto M 2 dX8_takesPlan_23 (by decide) ?_
      refine zz_sub [(0, .ref (ad 0)), (1, .int x102)] [1, 0] rfl ?_
      exact ih _ _ h
def wX8_takesPlan  (σ : zSt) (Q : zSt → Prop) : Prop := wX8_takesPlan_L2 Q (fun  σ103 => Q σ103)  300 0 σ
set_option maxRecDepth 20000 in
set_option maxHeartbeats 4000000 in
theorem kX8_takesPlan (hI : zInj tabM ad)   (σ : zSt) (Q : zSt → Prop) (h : wX8_takesPlan  σ Q) : zOkV l tabM D cA ad y 1 yX8_takesPlan cX8_takesPlan 2 none [.ref (ad 0)] σ Q := by
  refine zz_enter hI (by decide) (Nat.le_of_ble_eq_true rfl) (fun p e s m below meth c M => ?_)
  have M : zM p s m _ meth c cX8_takesPlan 2 RX8 none tabM D cA ad y := M
  refine zz_ls [(0, .ref (ad 0))] rfl ?_
  unfold wX8_takesPlan at h
  refine zz_iconst (v := 0) M dX8_takesPlan_0 (by decide) ?_
  refine zz_istore_n M [(1, .int 0), (0, .ref (ad 0))] dX8_takesPlan_1 rfl (by decide) rfl ?_
  refine zz_sub [(0, .ref (ad 0)), (1, .int 0)] [1, 0] rfl ?_
  refine sX8_takesPlan_L2   M (fun  σ103 h => ?_) 300 _ _ h
  exact zz_vret M dX8_takesPlan_26 h
def wX8_goes (x1 : Int32) (x2 : Int32) (σ : zSt) (Q : Int32 → zSt → Prop) : Prop := if 4 ≤ x1 then (vp_in x1 8 ∧ (if (σ.1 4 x1.toNatClampNeg) = x2 then (Q 0 σ) else (Q 1 σ))) else (vp_in x1 8 ∧ (if (σ.1 4 x1.toNatClampNeg) = x2 then (Q 1 σ) else (Q 0 σ)))
set_option maxRecDepth 20000 in
set_option maxHeartbeats 4000000 in
theorem kX8_goes (hI : zInj tabM ad) (x1 : Int32) (x2 : Int32)  (σ : zSt) (Q : Int32 → zSt → Prop) (h : wX8_goes x1 x2 σ Q) : zOkI l tabM D cA ad y 1 yX8_goes cX8_goes 3 (some .boolean) [.ref (ad 0), .int x1, .int x2] σ Q := by
  refine zz_enter hI (by decide) (Nat.le_of_ble_eq_true rfl) (fun p e s m below meth c M => ?_)
  have M : zM p s m _ meth c cX8_goes 3 RX8 (some .boolean) tabM D cA ad y := M
  refine zz_ls [(0, .ref (ad 0)), (1, .int x1), (2, .int x2)] rfl ?_
  unfold wX8_goes at h
  refine zz_iload_n M 1 dX8_goes_0 rfl rfl ?_
  refine zz_iconst (v := 4) M dX8_goes_1 (by decide) ?_
  refine zz_icmp_ge M 9 dX8_goes_2 (by decide) (fun c => ?_) (fun c => ?_)
  · have h := zif (c := 4 ≤ x1) h c
    refine zz_iconst (v := 0) M dX8_goes_9 (by decide) ?_
    refine zz_aload_n M 0 dX8_goes_10 rfl rfl ?_
    refine zz_getR M f_X8_23 tM_0 rfl dX8_goes_11 ?_
    refine zz_iload_n M 1 dX8_goes_14 rfl rfl ?_
    refine zz_iald M tM_4 h.1 dX8_goes_15 ?_
    have h := h.2
    refine zz_iload_n M 2 dX8_goes_16 rfl rfl ?_
    refine zz_icmp_ne M 24 dX8_goes_17 (by decide) (fun c => ?_) (fun c => ?_)
    · have h := zifn (c := (σ.1 4 x1.toNatClampNeg) = x2) h c
      refine zz_iconst (v := 0) M dX8_goes_24 (by decide) ?_
      refine zz_icmp_ne M 32 dX8_goes_25 (by decide) (fun c => absurd c (by decide)) (fun c => ?_)
      refine zz_iconst (v := 1) M dX8_goes_28 (by decide) ?_
      refine zz_goto M 33 dX8_goes_29 (by decide) ?_
      exact zz_zret M dX8_goes_33 (Or.inr rfl) h
    · have h := zif (c := (σ.1 4 x1.toNatClampNeg) = x2) h c
      refine zz_iconst (v := 1) M dX8_goes_20 (by decide) ?_
      refine zz_goto M 25 dX8_goes_21 (by decide) ?_
      refine zz_icmp_ne M 32 dX8_goes_25 (by decide) (fun c => ?_) (fun c => absurd c (by decide))
      refine zz_iconst (v := 0) M dX8_goes_32 (by decide) ?_
      exact zz_zret M dX8_goes_33 (Or.inl rfl) h
  · have h := zifn (c := 4 ≤ x1) h c
    refine zz_iconst (v := 1) M dX8_goes_5 (by decide) ?_
    refine zz_goto M 10 dX8_goes_6 (by decide) ?_
    refine zz_aload_n M 0 dX8_goes_10 rfl rfl ?_
    refine zz_getR M f_X8_23 tM_0 rfl dX8_goes_11 ?_
    refine zz_iload_n M 1 dX8_goes_14 rfl rfl ?_
    refine zz_iald M tM_4 h.1 dX8_goes_15 ?_
    have h := h.2
    refine zz_iload_n M 2 dX8_goes_16 rfl rfl ?_
    refine zz_icmp_ne M 24 dX8_goes_17 (by decide) (fun c => ?_) (fun c => ?_)
    · have h := zifn (c := (σ.1 4 x1.toNatClampNeg) = x2) h c
      refine zz_iconst (v := 0) M dX8_goes_24 (by decide) ?_
      refine zz_icmp_ne M 32 dX8_goes_25 (by decide) (fun c => ?_) (fun c => absurd c (by decide))
      refine zz_iconst (v := 0) M dX8_goes_32 (by decide) ?_
      exact zz_zret M dX8_goes_33 (Or.inl rfl) h
    · have h := zif (c := (σ.1 4 x1.toNatClampNeg) = x2) h c
      refine zz_iconst (v := 1) M dX8_goes_20 (by decide) ?_
      refine zz_goto M 25 dX8_goes_21 (by decide) ?_
      refine zz_icmp_ne M 32 dX8_goes_25 (by decide) (fun c => absurd c (by decide)) (fun c => ?_)
      refine zz_iconst (v := 1) M dX8_goes_28 (by decide) ?_
      refine zz_goto M 33 dX8_goes_29 (by decide) ?_
      exact zz_zret M dX8_goes_33 (Or.inr rfl) h
def wX8_through_L7 (Q : Int32 → zSt → Prop) (K33 : Int32 → zSt → Prop) (x1 : Int32) : Nat → Int32 → zSt → Prop
  | 0, _, _ => False
  | n + 1, x2, σ => if 24 ≤ x2 then (K33 x2 σ) else (vp_in x2 24 ∧ (∀ a102 : Int32, a102 = (σ.1 10 x2.toNatClampNeg) → (wX8_goes x1 a102 σ (fun r103 σ104 => if r103 = 0 then (∀ x105 : Int32, x105 = x2 + 1 → (wX8_through_L7 Q K33 x1 n x105 σ104)) else (K33 x2 σ104)))))
set_option maxRecDepth 20000 in
set_option maxHeartbeats 4000000 in
theorem sX8_through_L7 {Q : Int32 → zSt → Prop} {K33 : Int32 → zSt → Prop} (x1 : Int32)  (M : zM p s m args meth c cX8_through 3 RX8 (some .int) tabM D cA ad y) (hK33 : ∀ (v2 : Int32) (σ : zSt), K33 v2 σ → zG p l e (zrm 2) s m args below meth c 3 tabM D cA ad (MQ below (va_Qi Q (fun σ' t => va_P D vwCl (zws tabM cA ad σ') t.heap) (zIn tabM ad)) args s 0 0 (zIn tabM ad)) 33 [(2, .int v2)] [] σ) : ∀ (n : Nat) (x2 : Int32) (σ : zSt), wX8_through_L7 Q K33 x1 n x2 σ → zG p l e (zrm 2) s m args below meth c 3 tabM D cA ad (MQ below (va_Qi Q (fun σ' t => va_P D vwCl (zws tabM cA ad σ') t.heap) (zIn tabM ad)) args s 0 0 (zIn tabM ad)) 7 [(0, .ref (ad 0)), (1, .int x1), (2, .int x2)] [] σ := by
  intro n
  induction n with
  | zero => intro x2 σ h; exact absurd h (by simp [wX8_through_L7])
  | succ n ih =>
    intro x2 σ h
    unfold wX8_through_L7 at h
    refine zz_iload_n M 2 dX8_through_7 rfl rfl ?_
    refine zz_bipush (v := 24) M dX8_through_8 (by decide) ?_
    refine zz_icmp_ge M 33 dX8_through_10 (by decide) (fun c => ?_) (fun c => ?_)
    · have h := zif (c := 24 ≤ x2) h c
      refine zz_sub [(2, .int x2)] [2] rfl ?_
      exact hK33 _ _ h
    · have h := zifn (c := 24 ≤ x2) h c
      refine zz_aload_n M 0 dX8_through_13 rfl rfl ?_
      refine zz_iload_n M 1 dX8_through_14 rfl rfl ?_
      refine zz_aload_n M 0 dX8_through_15 rfl rfl ?_
      refine zz_getR M f_X8_47 tM_0 rfl dX8_through_16 ?_
      refine zz_iload_n M 2 dX8_through_19 rfl rfl ?_
      refine zz_iald M tM_10 h.1 dX8_through_20 ?_
      have h := h.2
      obtain ⟨a102, ea102⟩ : ∃ z : Int32, z = (σ.1 10 x2.toNatClampNeg) := ⟨_, rfl⟩
      have h := h a102 ea102
      refine zz_st [.int a102, .int x1, .ref (ad 0)] (by rw [ea102]) ?_
      refine zz_callVI (d' := 1) (As := [.int x1, .int a102]) (rest := []) M l_X8_339 tM_0 rfl rfl dX8_through_21 rfl rfl (by decide) (Nat.le_of_ble_eq_true rfl) (by have hI := M.2.2.2.2.2.2.2.2; exact kX8_goes hI _ _  _ _ h) (fun r103 σ104 h => ?_)
      refine zz_if_ne (y0 := 0) M 33 dX8_through_24 (by decide) (fun c => ?_) (fun c => ?_)
      · have h := zifn (c := r103 = 0) h c
        refine zz_sub [(2, .int x2)] [2] rfl ?_
        exact hK33 _ _ h
      · have h := zif (c := r103 = 0) h c
        obtain ⟨x105, ex105⟩ : ∃ z : Int32, z = x2 + 1 := ⟨_, rfl⟩
        have h := h x105 ex105
        refine zz_iinc M [(2, .int x105), (0, .ref (ad 0)), (1, .int x1)] 2 dX8_through_27 rfl (n32 := 1) (by decide) ex105 (by decide) rfl ?_
        refine zz_goto M 7 dX8_through_30 (by decide) ?_
        refine zz_sub [(0, .ref (ad 0)), (1, .int x1), (2, .int x105)] [1, 2, 0] rfl ?_
        exact ih _ _ h
def wX8_through (x1 : Int32) (σ : zSt) (Q : Int32 → zSt → Prop) : Prop := vp_in x1 8 ∧ (∀ x101 : Int32, x101 = (σ.1 5 x1.toNatClampNeg) → (wX8_through_L7 Q (fun v106 σ107 => Q v106 σ107) x1 300 x101 σ))
set_option maxRecDepth 20000 in
set_option maxHeartbeats 4000000 in
theorem kX8_through (hI : zInj tabM ad) (x1 : Int32)  (σ : zSt) (Q : Int32 → zSt → Prop) (h : wX8_through x1 σ Q) : zOkI l tabM D cA ad y 2 yX8_through cX8_through 3 (some .int) [.ref (ad 0), .int x1] σ Q := by
  refine zz_enter hI (by decide) (Nat.le_of_ble_eq_true rfl) (fun p e s m below meth c M => ?_)
  have M : zM p s m _ meth c cX8_through 3 RX8 (some .int) tabM D cA ad y := M
  refine zz_ls [(0, .ref (ad 0)), (1, .int x1)] rfl ?_
  unfold wX8_through at h
  refine zz_aload_n M 0 dX8_through_0 rfl rfl ?_
  refine zz_getR M f_X8_26 tM_0 rfl dX8_through_1 ?_
  refine zz_iload_n M 1 dX8_through_4 rfl rfl ?_
  refine zz_iald M tM_5 h.1 dX8_through_5 ?_
  have h := h.2
  refine zz_topi (fun x101 ex101 => ?_)
  have h := h x101 ex101
  refine zz_istore_n M [(2, .int x101), (0, .ref (ad 0)), (1, .int x1)] dX8_through_6 rfl (by decide) rfl ?_
  refine zz_sub [(0, .ref (ad 0)), (1, .int x1), (2, .int x101)] [1, 2, 0] rfl ?_
  refine sX8_through_L7 x1  M (fun v106 σ107 h => ?_) 300 _ _ h
  refine zz_iload_n M 0 dX8_through_33 rfl rfl ?_
  exact zz_iret M dX8_through_34 h
def wX8_within (x0 : Int32) (x1 : Int32) (x2 : Int32) (σ : zSt) (Q : Int32 → zSt → Prop) : Prop := if x1 ≤ x0 then (if x0 ≤ x2 then (Q x0 σ) else (Q x2 σ)) else (Q x1 σ)
set_option maxRecDepth 20000 in
set_option maxHeartbeats 4000000 in
theorem kX8_within (hI : zInj tabM ad) (x0 : Int32) (x1 : Int32) (x2 : Int32)  (σ : zSt) (Q : Int32 → zSt → Prop) (h : wX8_within x0 x1 x2 σ Q) : zOkI l tabM D cA ad y 1 yX8_within cX8_within 3 (some .int) [.int x0, .int x1, .int x2] σ Q := by
  refine zz_enter hI (by decide) (Nat.le_of_ble_eq_true rfl) (fun p e s m below meth c M => ?_)
  have M : zM p s m _ meth c cX8_within 3 RX8 (some .int) tabM D cA ad y := M
  refine zz_ls [(0, .int x0), (1, .int x1), (2, .int x2)] rfl ?_
  unfold wX8_within at h
  refine zz_iload_n M 0 dX8_within_0 rfl rfl ?_
  refine zz_iload_n M 1 dX8_within_1 rfl rfl ?_
  refine zz_icmp_ge M 9 dX8_within_2 (by decide) (fun c => ?_) (fun c => ?_)
  · have h := zif (c := x1 ≤ x0) h c
    refine zz_iload_n M 0 dX8_within_9 rfl rfl ?_
    refine zz_iload_n M 2 dX8_within_10 rfl rfl ?_
    refine zz_icmp_le M 18 dX8_within_11 (by decide) (fun c => ?_) (fun c => ?_)
    · have h := zif (c := x0 ≤ x2) h c
      refine zz_iload_n M 0 dX8_within_18 rfl rfl ?_
      exact zz_iret M dX8_within_19 h
    · have h := zifn (c := x0 ≤ x2) h c
      refine zz_iload_n M 2 dX8_within_14 rfl rfl ?_
      refine zz_goto M 19 dX8_within_15 (by decide) ?_
      exact zz_iret M dX8_within_19 h
  · have h := zifn (c := x1 ≤ x0) h c
    refine zz_iload_n M 1 dX8_within_5 rfl rfl ?_
    refine zz_goto M 19 dX8_within_6 (by decide) ?_
    exact zz_iret M dX8_within_19 h
end
