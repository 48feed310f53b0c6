section
variable {p : Program} {l : Launch} {e : Env} {s : State} {m : MethodId} {args : Array Value} {below : List Frame} {meth : Method} {c : Code} {D : va_G} {cA : Nat → ClassId} {ad : Nat → Nat} {y : zX}
def wX8_isWord (x1 : Int32) (x2 : Int32) (x3 : Int32) (x4 : Int32) (x5 : Int32) (x6 : Int32) (x7 : Int32) (x8 : Int32) (σ : zSt) (Q : Int32 → zSt → Prop) : Prop := if (σ.1 0 31) = 0 then (if (σ.1 0 27) = 1 then (if ((σ.1 0 28) + 8) < (σ.1 0 26) then (Q 0 σ) else (wX8_isLetter 0 x1 σ (fun r101 σ102 => if r101 = 0 then (Q 0 σ102) else (wX8_isLetter 1 x2 σ102 (fun r103 σ104 => if r103 = 0 then (Q 0 σ104) else (wX8_isLetter 2 x3 σ104 (fun r105 σ106 => if r105 = 0 then (Q 0 σ106) else (wX8_isLetter 3 x4 σ106 (fun r107 σ108 => if r107 = 0 then (Q 0 σ108) else (wX8_isLetter 4 x5 σ108 (fun r109 σ110 => if r109 = 0 then (Q 0 σ110) else (wX8_isLetter 5 x6 σ110 (fun r111 σ112 => if r111 = 0 then (Q 0 σ112) else (wX8_isLetter 6 x7 σ112 (fun r113 σ114 => if r113 = 0 then (Q 0 σ114) else (wX8_isLetter 7 x8 σ114 (fun r115 σ116 => if r115 = 0 then (Q 0 σ116) else (Q 1 σ116)))))))))))))))))) else (Q 0 σ)) else (Q 0 σ)
set_option maxRecDepth 20000 in
set_option maxHeartbeats 4000000 in
theorem kX8_isWord (hI : zInj tabM ad) (x1 : Int32) (x2 : Int32) (x3 : Int32) (x4 : Int32) (x5 : Int32) (x6 : Int32) (x7 : Int32) (x8 : Int32)  (σ : zSt) (Q : Int32 → zSt → Prop) (h : wX8_isWord x1 x2 x3 x4 x5 x6 x7 x8 σ Q) : zOkI l tabM D cA ad y 3 yX8_isWord cX8_isWord 9 (some .boolean) [.ref (ad 0), .int x1, .int x2, .int x3, .int x4, .int x5, .int x6, .int x7, .int x8] σ Q := by
  refine zz_enter hI (by decide) (Nat.le_of_ble_eq_true rfl) (fun p e s m below meth c M => ?_)
  have M : zM p s m _ meth c cX8_isWord 9 RX8 (some .boolean) tabM D cA ad y := M
  refine zz_ls [(0, .ref (ad 0)), (1, .int x1), (2, .int x2), (3, .int x3), (4, .int x4), (5, .int x5), (6, .int x6), (7, .int x7), (8, .int x8)] rfl ?_
  unfold wX8_isWord at h
  refine zz_aload_n M 0 dX8_isWord_0 rfl rfl ?_
  refine zz_getI M f_X8_159 tM_0 rfl dX8_isWord_1 ?_
  refine zz_if_ne (y0 := 0) M 112 dX8_isWord_4 (by decide) (fun c => ?_) (fun c => ?_)
  · have h := zifn (c := (σ.1 0 31) = 0) h c
    refine zz_iconst (v := 0) M dX8_isWord_112 (by decide) ?_
    exact zz_zret M dX8_isWord_113 (Or.inl rfl) h
  · have h := zif (c := (σ.1 0 31) = 0) h c
    refine zz_aload_n M 0 dX8_isWord_7 rfl rfl ?_
    refine zz_getI M f_X8_142 tM_0 rfl dX8_isWord_8 ?_
    refine zz_iconst (v := 1) M dX8_isWord_11 (by decide) ?_
    refine zz_icmp_ne M 112 dX8_isWord_12 (by decide) (fun c => ?_) (fun c => ?_)
    · have h := zifn (c := (σ.1 0 27) = 1) h c
      refine zz_iconst (v := 0) M dX8_isWord_112 (by decide) ?_
      exact zz_zret M dX8_isWord_113 (Or.inl rfl) h
    · have h := zif (c := (σ.1 0 27) = 1) h c
      refine zz_aload_n M 0 dX8_isWord_15 rfl rfl ?_
      refine zz_getI M f_X8_132 tM_0 rfl dX8_isWord_16 ?_
      refine zz_aload_n M 0 dX8_isWord_19 rfl rfl ?_
      refine zz_getI M f_X8_139 tM_0 rfl dX8_isWord_20 ?_
      refine zz_bipush (v := 8) M dX8_isWord_23 (by decide) ?_
      refine zz_iadd M dX8_isWord_25 ?_
      refine zz_icmp_gt M 112 dX8_isWord_26 (by decide) (fun c => ?_) (fun c => ?_)
      · have h := zif (c := ((σ.1 0 28) + 8) < (σ.1 0 26)) h c
        refine zz_iconst (v := 0) M dX8_isWord_112 (by decide) ?_
        exact zz_zret M dX8_isWord_113 (Or.inl rfl) h
      · have h := zifn (c := ((σ.1 0 28) + 8) < (σ.1 0 26)) h c
        refine zz_aload_n M 0 dX8_isWord_29 rfl rfl ?_
        refine zz_iconst (v := 0) M dX8_isWord_30 (by decide) ?_
        refine zz_iload_n M 1 dX8_isWord_31 rfl rfl ?_
        refine zz_callVI (d' := 2) (As := [.int 0, .int x1]) (rest := []) M l_X8_166 tM_0 rfl rfl dX8_isWord_32 rfl rfl (by decide) (Nat.le_of_ble_eq_true rfl) (by have hI := M.2.2.2.2.2.2.2.2; exact kX8_isLetter hI _ _  _ _ h) (fun r101 σ102 h => ?_)
        refine zz_if_eq (y0 := 0) M 112 dX8_isWord_35 (by decide) (fun c => ?_) (fun c => ?_)
        · have h := zif (c := r101 = 0) h c
          refine zz_iconst (v := 0) M dX8_isWord_112 (by decide) ?_
          exact zz_zret M dX8_isWord_113 (Or.inl rfl) h
        · have h := zifn (c := r101 = 0) h c
          refine zz_aload_n M 0 dX8_isWord_38 rfl rfl ?_
          refine zz_iconst (v := 1) M dX8_isWord_39 (by decide) ?_
          refine zz_iload_n M 2 dX8_isWord_40 rfl rfl ?_
          refine zz_callVI (d' := 2) (As := [.int 1, .int x2]) (rest := []) M l_X8_166 tM_0 rfl rfl dX8_isWord_41 rfl rfl (by decide) (Nat.le_of_ble_eq_true rfl) (by have hI := M.2.2.2.2.2.2.2.2; exact kX8_isLetter hI _ _  _ _ h) (fun r103 σ104 h => ?_)
          refine zz_if_eq (y0 := 0) M 112 dX8_isWord_44 (by decide) (fun c => ?_) (fun c => ?_)
          · have h := zif (c := r103 = 0) h c
            refine zz_iconst (v := 0) M dX8_isWord_112 (by decide) ?_
            exact zz_zret M dX8_isWord_113 (Or.inl rfl) h
          · have h := zifn (c := r103 = 0) h c
            refine zz_aload_n M 0 dX8_isWord_47 rfl rfl ?_
            refine zz_iconst (v := 2) M dX8_isWord_48 (by decide) ?_
            refine zz_iload_n M 3 dX8_isWord_49 rfl rfl ?_
            refine zz_callVI (d' := 2) (As := [.int 2, .int x3]) (rest := []) M l_X8_166 tM_0 rfl rfl dX8_isWord_50 rfl rfl (by decide) (Nat.le_of_ble_eq_true rfl) (by have hI := M.2.2.2.2.2.2.2.2; exact kX8_isLetter hI _ _  _ _ h) (fun r105 σ106 h => ?_)
            refine zz_if_eq (y0 := 0) M 112 dX8_isWord_53 (by decide) (fun c => ?_) (fun c => ?_)
            · have h := zif (c := r105 = 0) h c
              refine zz_iconst (v := 0) M dX8_isWord_112 (by decide) ?_
              exact zz_zret M dX8_isWord_113 (Or.inl rfl) h
            · have h := zifn (c := r105 = 0) h c
              refine zz_aload_n M 0 dX8_isWord_56 rfl rfl ?_
              refine zz_iconst (v := 3) M dX8_isWord_57 (by decide) ?_
              refine zz_iload M 4 dX8_isWord_58 rfl ?_
              refine zz_callVI (d' := 2) (As := [.int 3, .int x4]) (rest := []) M l_X8_166 tM_0 rfl rfl dX8_isWord_60 rfl rfl (by decide) (Nat.le_of_ble_eq_true rfl) (by have hI := M.2.2.2.2.2.2.2.2; exact kX8_isLetter hI _ _  _ _ h) (fun r107 σ108 h => ?_)
              refine zz_if_eq (y0 := 0) M 112 dX8_isWord_63 (by decide) (fun c => ?_) (fun c => ?_)
              · have h := zif (c := r107 = 0) h c
                refine zz_iconst (v := 0) M dX8_isWord_112 (by decide) ?_
                exact zz_zret M dX8_isWord_113 (Or.inl rfl) h
              · have h := zifn (c := r107 = 0) h c
                refine zz_aload_n M 0 dX8_isWord_66 rfl rfl ?_
                refine zz_iconst (v := 4) M dX8_isWord_67 (by decide) ?_
                refine zz_iload M 5 dX8_isWord_68 rfl ?_
                refine zz_callVI (d' := 2) (As := [.int 4, .int x5]) (rest := []) M l_X8_166 tM_0 rfl rfl dX8_isWord_70 rfl rfl (by decide) (Nat.le_of_ble_eq_true rfl) (by have hI := M.2.2.2.2.2.2.2.2; exact kX8_isLetter hI _ _  _ _ h) (fun r109 σ110 h => ?_)
                refine zz_if_eq (y0 := 0) M 112 dX8_isWord_73 (by decide) (fun c => ?_) (fun c => ?_)
                · have h := zif (c := r109 = 0) h c
                  refine zz_iconst (v := 0) M dX8_isWord_112 (by decide) ?_
                  exact zz_zret M dX8_isWord_113 (Or.inl rfl) h
                · have h := zifn (c := r109 = 0) h c
                  refine zz_aload_n M 0 dX8_isWord_76 rfl rfl ?_
                  refine zz_iconst (v := 5) M dX8_isWord_77 (by decide) ?_
                  refine zz_iload M 6 dX8_isWord_78 rfl ?_
                  refine zz_callVI (d' := 2) (As := [.int 5, .int x6]) (rest := []) M l_X8_166 tM_0 rfl rfl dX8_isWord_80 rfl rfl (by decide) (Nat.le_of_ble_eq_true rfl) (by have hI := M.2.2.2.2.2.2.2.2; exact kX8_isLetter hI _ _  _ _ h) (fun r111 σ112 h => ?_)
                  refine zz_if_eq (y0 := 0) M 112 dX8_isWord_83 (by decide) (fun c => ?_) (fun c => ?_)
                  · have h := zif (c := r111 = 0) h c
                    refine zz_iconst (v := 0) M dX8_isWord_112 (by decide) ?_
                    exact zz_zret M dX8_isWord_113 (Or.inl rfl) h
                  · have h := zifn (c := r111 = 0) h c
                    refine zz_aload_n M 0 dX8_isWord_86 rfl rfl ?_
                    refine zz_bipush (v := 6) M dX8_isWord_87 (by decide) ?_
                    refine zz_iload M 7 dX8_isWord_89 rfl ?_
                    refine zz_callVI (d' := 2) (As := [.int 6, .int x7]) (rest := []) M l_X8_166 tM_0 rfl rfl dX8_isWord_91 rfl rfl (by decide) (Nat.le_of_ble_eq_true rfl) (by have hI := M.2.2.2.2.2.2.2.2; exact kX8_isLetter hI _ _  _ _ h) (fun r113 σ114 h => ?_)
                    refine zz_if_eq (y0 := 0) M 112 dX8_isWord_94 (by decide) (fun c => ?_) (fun c => ?_)
                    · have h := zif (c := r113 = 0) h c
                      refine zz_iconst (v := 0) M dX8_isWord_112 (by decide) ?_
                      exact zz_zret M dX8_isWord_113 (Or.inl rfl) h
                    · have h := zifn (c := r113 = 0) h c
                      refine zz_aload_n M 0 dX8_isWord_97 rfl rfl ?_
                      refine zz_bipush (v := 7) M dX8_isWord_98 (by decide) ?_
                      refine zz_iload M 8 dX8_isWord_100 rfl ?_
                      refine zz_callVI (d' := 2) (As := [.int 7, .int x8]) (rest := []) M l_X8_166 tM_0 rfl rfl dX8_isWord_102 rfl rfl (by decide) (Nat.le_of_ble_eq_true rfl) (by have hI := M.2.2.2.2.2.2.2.2; exact kX8_isLetter hI _ _  _ _ h) (fun r115 σ116 h => ?_)
                      refine zz_if_eq (y0 := 0) M 112 dX8_isWord_105 (by decide) (fun c => ?_) (fun c => ?_)
                      · have h := zif (c := r115 = 0) h c
                        refine zz_iconst (v := 0) M dX8_isWord_112 (by decide) ?_
                        exact zz_zret M dX8_isWord_113 (Or.inl rfl) h
                      · have h := zifn (c := r115 = 0) h c
                        refine zz_iconst (v := 1) M dX8_isWord_108 (by decide) ?_
                        refine zz_goto M 113 dX8_isWord_109 (by decide) ?_
                        exact zz_zret M dX8_isWord_113 (Or.inr rfl) h
def wX8_isSign (x1 : Int32) (σ : zSt) (Q : Int32 → zSt → Prop) : Prop := if (σ.1 0 31) = 0 then (if (σ.1 0 27) = 3 then (if (lg_cmp (σ.2) ((x1 : Int32).toInt64)) = 0 then (Q 1 σ) else (Q 0 σ)) else (Q 0 σ)) else (Q 0 σ)
set_option maxRecDepth 20000 in
set_option maxHeartbeats 4000000 in
theorem kX8_isSign (hI : zInj tabM ad) (x1 : Int32)  (σ : zSt) (Q : Int32 → zSt → Prop) (h : wX8_isSign x1 σ Q) : zOkI l tabM D cA ad y 1 yX8_isSign cX8_isSign 2 (some .boolean) [.ref (ad 0), .int x1] σ Q := by
  refine zz_enter hI (by decide) (Nat.le_of_ble_eq_true rfl) (fun p e s m below meth c M => ?_)
  have M : zM p s m _ meth c cX8_isSign 2 RX8 (some .boolean) tabM D cA ad y := M
  refine zz_ls [(0, .ref (ad 0)), (1, .int x1)] rfl ?_
  unfold wX8_isSign at h
  refine zz_aload_n M 0 dX8_isSign_0 rfl rfl ?_
  refine zz_getI M f_X8_159 tM_0 rfl dX8_isSign_1 ?_
  refine zz_if_ne (y0 := 0) M 29 dX8_isSign_4 (by decide) (fun c => ?_) (fun c => ?_)
  · have h := zifn (c := (σ.1 0 31) = 0) h c
    refine zz_iconst (v := 0) M dX8_isSign_29 (by decide) ?_
    exact zz_zret M dX8_isSign_30 (Or.inl rfl) h
  · have h := zif (c := (σ.1 0 31) = 0) h c
    refine zz_aload_n M 0 dX8_isSign_7 rfl rfl ?_
    refine zz_getI M f_X8_142 tM_0 rfl dX8_isSign_8 ?_
    refine zz_iconst (v := 3) M dX8_isSign_11 (by decide) ?_
    refine zz_icmp_ne M 29 dX8_isSign_12 (by decide) (fun c => ?_) (fun c => ?_)
    · have h := zifn (c := (σ.1 0 27) = 3) h c
      refine zz_iconst (v := 0) M dX8_isSign_29 (by decide) ?_
      exact zz_zret M dX8_isSign_30 (Or.inl rfl) h
    · have h := zif (c := (σ.1 0 27) = 3) h c
      refine zz_aload_n M 0 dX8_isSign_15 rfl rfl ?_
      refine zz_getL M f_X8_153 tM_0 rfl dX8_isSign_16 ?_
      refine zz_iload_n M 1 dX8_isSign_19 rfl rfl ?_
      refine zz_i2l M dX8_isSign_20 ?_
      refine zz_lcmp M dX8_isSign_21 ?_
      refine zz_if_ne (y0 := 0) M 29 dX8_isSign_22 (by decide) (fun c => ?_) (fun c => ?_)
      · have h := zifn (c := (lg_cmp (σ.2) ((x1 : Int32).toInt64)) = 0) h c
        refine zz_iconst (v := 0) M dX8_isSign_29 (by decide) ?_
        exact zz_zret M dX8_isSign_30 (Or.inl rfl) h
      · have h := zif (c := (lg_cmp (σ.2) ((x1 : Int32).toInt64)) = 0) h c
        refine zz_iconst (v := 1) M dX8_isSign_25 (by decide) ?_
        refine zz_goto M 30 dX8_isSign_26 (by decide) ?_
        exact zz_zret M dX8_isSign_30 (Or.inr rfl) h
def wX8_fail  (σ : zSt) (Q : zSt → Prop) : Prop := if (σ.1 0 31) = 0 then (∀ σ101 : zSt, σ101 = zput σ 0 31 1 → (∀ σ102 : zSt, σ102 = zput σ101 0 32 (σ101.1 0 28) → (Q σ102))) else (Q σ)
set_option maxRecDepth 20000 in
set_option maxHeartbeats 4000000 in
theorem kX8_fail (hI : zInj tabM ad)   (σ : zSt) (Q : zSt → Prop) (h : wX8_fail  σ Q) : zOkV l tabM D cA ad y 1 yX8_fail cX8_fail 1 none [.ref (ad 0)] σ Q := by
  refine zz_enter hI (by decide) (Nat.le_of_ble_eq_true rfl) (fun p e s m below meth c M => ?_)
  have M : zM p s m _ meth c cX8_fail 1 RX8 none tabM D cA ad y := M
  refine zz_ls [(0, .ref (ad 0))] rfl ?_
  unfold wX8_fail at h
  refine zz_aload_n M 0 dX8_fail_0 rfl rfl ?_
  refine zz_getI M f_X8_159 tM_0 rfl dX8_fail_1 ?_
  refine zz_if_ne (y0 := 0) M 20 dX8_fail_4 (by decide) (fun c => ?_) (fun c => ?_)
  · have h := zifn (c := (σ.1 0 31) = 0) h c
    exact zz_vret M dX8_fail_20 h
  · have h := zif (c := (σ.1 0 31) = 0) h c
    refine zz_aload_n M 0 dX8_fail_7 rfl rfl ?_
    refine zz_iconst (v := 1) M dX8_fail_8 (by decide) ?_
    refine zz_putZ M f_X8_159 tM_0 rfl (by decide) dX8_fail_9 ?_
    refine zz_sg (fun σ101 eσ101 => ?_)
    have h := h σ101 eσ101
    refine zz_aload_n M 0 dX8_fail_12 rfl rfl ?_
    refine zz_aload_n M 0 dX8_fail_13 rfl rfl ?_
    refine zz_getI M f_X8_139 tM_0 rfl dX8_fail_14 ?_
    refine zz_putI M f_X8_163 tM_0 rfl dX8_fail_17 ?_
    refine zz_sg (fun σ102 eσ102 => ?_)
    have h := h σ102 eσ102
    exact zz_vret M dX8_fail_20 h
def wX8_name  (σ : zSt) (Q : Int32 → zSt → Prop) : Prop := wX8_isWord 119 97 105 116 101 100 0 0 σ (fun r101 σ102 => if r101 = 0 then (wX8_isWord 112 114 105 99 101 0 0 0 σ102 (fun r103 σ104 => if r103 = 0 then (wX8_isWord 109 105 110 117 116 101 0 0 σ104 (fun r105 σ106 => if r105 = 0 then (wX8_isWord 98 114 105 100 103 101 0 0 σ106 (fun r107 σ108 => if r107 = 0 then (wX8_isWord 119 97 115 0 0 0 0 0 σ108 (fun r109 σ110 => if r109 = 0 then (wX8_isWord 109 97 110 121 0 0 0 0 σ110 (fun r111 σ112 => if r111 = 0 then (wX8_fail  σ112 (fun σ114 => Q 0 σ114)) else (Q (σ112.1 0 23) σ112))) else (Q (σ110.1 0 22) σ110))) else (Q (σ108.1 0 21) σ108))) else (Q (σ106.1 0 20) σ106))) else (Q (σ104.1 0 19) σ104))) else (Q (σ102.1 0 18) σ102))
set_option maxRecDepth 20000 in
set_option maxHeartbeats 4000000 in
theorem kX8_name (hI : zInj tabM ad)   (σ : zSt) (Q : Int32 → zSt → Prop) (h : wX8_name  σ Q) : zOkI l tabM D cA ad y 4 yX8_name cX8_name 1 (some .int) [.ref (ad 0)] σ Q := by
  refine zz_enter hI (by decide) (Nat.le_of_ble_eq_true rfl) (fun p e s m below meth c M => ?_)
  have M : zM p s m _ meth c cX8_name 1 RX8 (some .int) tabM D cA ad y := M
  refine zz_ls [(0, .ref (ad 0))] rfl ?_
  unfold wX8_name at h
  refine zz_aload_n M 0 dX8_name_0 rfl rfl ?_
  refine zz_bipush (v := 119) M dX8_name_1 (by decide) ?_
  refine zz_bipush (v := 97) M dX8_name_3 (by decide) ?_
  refine zz_bipush (v := 105) M dX8_name_5 (by decide) ?_
  refine zz_bipush (v := 116) M dX8_name_7 (by decide) ?_
  refine zz_bipush (v := 101) M dX8_name_9 (by decide) ?_
  refine zz_bipush (v := 100) M dX8_name_11 (by decide) ?_
  refine zz_iconst (v := 0) M dX8_name_13 (by decide) ?_
  refine zz_iconst (v := 0) M dX8_name_14 (by decide) ?_
  refine zz_callVI (d' := 3) (As := [.int 119, .int 97, .int 105, .int 116, .int 101, .int 100, .int 0, .int 0]) (rest := []) M l_X8_178 tM_0 rfl rfl dX8_name_15 rfl rfl (by decide) (Nat.le_of_ble_eq_true rfl) (by have hI := M.2.2.2.2.2.2.2.2; exact kX8_isWord hI _ _ _ _ _ _ _ _  _ _ h) (fun r101 σ102 h => ?_)
  refine zz_if_eq (y0 := 0) M 26 dX8_name_18 (by decide) (fun c => ?_) (fun c => ?_)
  · have h := zif (c := r101 = 0) h c
    refine zz_aload_n M 0 dX8_name_26 rfl rfl ?_
    refine zz_bipush (v := 112) M dX8_name_27 (by decide) ?_
    refine zz_bipush (v := 114) M dX8_name_29 (by decide) ?_
    refine zz_bipush (v := 105) M dX8_name_31 (by decide) ?_
    refine zz_bipush (v := 99) M dX8_name_33 (by decide) ?_
    refine zz_bipush (v := 101) M dX8_name_35 (by decide) ?_
    refine zz_iconst (v := 0) M dX8_name_37 (by decide) ?_
    refine zz_iconst (v := 0) M dX8_name_38 (by decide) ?_
    refine zz_iconst (v := 0) M dX8_name_39 (by decide) ?_
    refine zz_callVI (d' := 3) (As := [.int 112, .int 114, .int 105, .int 99, .int 101, .int 0, .int 0, .int 0]) (rest := []) M l_X8_178 tM_0 rfl rfl dX8_name_40 rfl rfl (by decide) (Nat.le_of_ble_eq_true rfl) (by have hI := M.2.2.2.2.2.2.2.2; exact kX8_isWord hI _ _ _ _ _ _ _ _  _ _ h) (fun r103 σ104 h => ?_)
    refine zz_if_eq (y0 := 0) M 51 dX8_name_43 (by decide) (fun c => ?_) (fun c => ?_)
    · have h := zif (c := r103 = 0) h c
      refine zz_aload_n M 0 dX8_name_51 rfl rfl ?_
      refine zz_bipush (v := 109) M dX8_name_52 (by decide) ?_
      refine zz_bipush (v := 105) M dX8_name_54 (by decide) ?_
      refine zz_bipush (v := 110) M dX8_name_56 (by decide) ?_
      refine zz_bipush (v := 117) M dX8_name_58 (by decide) ?_
      refine zz_bipush (v := 116) M dX8_name_60 (by decide) ?_
      refine zz_bipush (v := 101) M dX8_name_62 (by decide) ?_
      refine zz_iconst (v := 0) M dX8_name_64 (by decide) ?_
      refine zz_iconst (v := 0) M dX8_name_65 (by decide) ?_
      refine zz_callVI (d' := 3) (As := [.int 109, .int 105, .int 110, .int 117, .int 116, .int 101, .int 0, .int 0]) (rest := []) M l_X8_178 tM_0 rfl rfl dX8_name_66 rfl rfl (by decide) (Nat.le_of_ble_eq_true rfl) (by have hI := M.2.2.2.2.2.2.2.2; exact kX8_isWord hI _ _ _ _ _ _ _ _  _ _ h) (fun r105 σ106 h => ?_)
      refine zz_if_eq (y0 := 0) M 77 dX8_name_69 (by decide) (fun c => ?_) (fun c => ?_)
      · have h := zif (c := r105 = 0) h c
        refine zz_aload_n M 0 dX8_name_77 rfl rfl ?_
        refine zz_bipush (v := 98) M dX8_name_78 (by decide) ?_
        refine zz_bipush (v := 114) M dX8_name_80 (by decide) ?_
        refine zz_bipush (v := 105) M dX8_name_82 (by decide) ?_
        refine zz_bipush (v := 100) M dX8_name_84 (by decide) ?_
        refine zz_bipush (v := 103) M dX8_name_86 (by decide) ?_
        refine zz_bipush (v := 101) M dX8_name_88 (by decide) ?_
        refine zz_iconst (v := 0) M dX8_name_90 (by decide) ?_
        refine zz_iconst (v := 0) M dX8_name_91 (by decide) ?_
        refine zz_callVI (d' := 3) (As := [.int 98, .int 114, .int 105, .int 100, .int 103, .int 101, .int 0, .int 0]) (rest := []) M l_X8_178 tM_0 rfl rfl dX8_name_92 rfl rfl (by decide) (Nat.le_of_ble_eq_true rfl) (by have hI := M.2.2.2.2.2.2.2.2; exact kX8_isWord hI _ _ _ _ _ _ _ _  _ _ h) (fun r107 σ108 h => ?_)
        refine zz_if_eq (y0 := 0) M 103 dX8_name_95 (by decide) (fun c => ?_) (fun c => ?_)
        · have h := zif (c := r107 = 0) h c
          refine zz_aload_n M 0 dX8_name_103 rfl rfl ?_
          refine zz_bipush (v := 119) M dX8_name_104 (by decide) ?_
          refine zz_bipush (v := 97) M dX8_name_106 (by decide) ?_
          refine zz_bipush (v := 115) M dX8_name_108 (by decide) ?_
          refine zz_iconst (v := 0) M dX8_name_110 (by decide) ?_
          refine zz_iconst (v := 0) M dX8_name_111 (by decide) ?_
          refine zz_iconst (v := 0) M dX8_name_112 (by decide) ?_
          refine zz_iconst (v := 0) M dX8_name_113 (by decide) ?_
          refine zz_iconst (v := 0) M dX8_name_114 (by decide) ?_
          refine zz_callVI (d' := 3) (As := [.int 119, .int 97, .int 115, .int 0, .int 0, .int 0, .int 0, .int 0]) (rest := []) M l_X8_178 tM_0 rfl rfl dX8_name_115 rfl rfl (by decide) (Nat.le_of_ble_eq_true rfl) (by have hI := M.2.2.2.2.2.2.2.2; exact kX8_isWord hI _ _ _ _ _ _ _ _  _ _ h) (fun r109 σ110 h => ?_)
          refine zz_if_eq (y0 := 0) M 126 dX8_name_118 (by decide) (fun c => ?_) (fun c => ?_)
          · have h := zif (c := r109 = 0) h c
            refine zz_aload_n M 0 dX8_name_126 rfl rfl ?_
            refine zz_bipush (v := 109) M dX8_name_127 (by decide) ?_
            refine zz_bipush (v := 97) M dX8_name_129 (by decide) ?_
            refine zz_bipush (v := 110) M dX8_name_131 (by decide) ?_
            refine zz_bipush (v := 121) M dX8_name_133 (by decide) ?_
            refine zz_iconst (v := 0) M dX8_name_135 (by decide) ?_
            refine zz_iconst (v := 0) M dX8_name_136 (by decide) ?_
            refine zz_iconst (v := 0) M dX8_name_137 (by decide) ?_
            refine zz_iconst (v := 0) M dX8_name_138 (by decide) ?_
            refine zz_callVI (d' := 3) (As := [.int 109, .int 97, .int 110, .int 121, .int 0, .int 0, .int 0, .int 0]) (rest := []) M l_X8_178 tM_0 rfl rfl dX8_name_139 rfl rfl (by decide) (Nat.le_of_ble_eq_true rfl) (by have hI := M.2.2.2.2.2.2.2.2; exact kX8_isWord hI _ _ _ _ _ _ _ _  _ _ h) (fun r111 σ112 h => ?_)
            refine zz_if_eq (y0 := 0) M 150 dX8_name_142 (by decide) (fun c => ?_) (fun c => ?_)
            · have h := zif (c := r111 = 0) h c
              refine zz_aload_n M 0 dX8_name_150 rfl rfl ?_
              refine zz_callVV (d' := 1) (As := []) (rest := []) M l_X8_172 tM_0 rfl rfl dX8_name_151 rfl rfl (by decide) (Nat.le_of_ble_eq_true rfl) (by have hI := M.2.2.2.2.2.2.2.2; exact kX8_fail hI   _ _ h) (fun σ114 h => ?_)
              refine zz_iconst (v := 0) M dX8_name_154 (by decide) ?_
              exact zz_iret M dX8_name_155 h
            · have h := zifn (c := r111 = 0) h c
              refine zz_aload_n M 0 dX8_name_145 rfl rfl ?_
              refine zz_getI M f_X8_197 tM_0 rfl dX8_name_146 ?_
              exact zz_iret M dX8_name_149 h
          · have h := zifn (c := r109 = 0) h c
            refine zz_aload_n M 0 dX8_name_121 rfl rfl ?_
            refine zz_getI M f_X8_194 tM_0 rfl dX8_name_122 ?_
            exact zz_iret M dX8_name_125 h
        · have h := zifn (c := r107 = 0) h c
          refine zz_aload_n M 0 dX8_name_98 rfl rfl ?_
          refine zz_getI M f_X8_191 tM_0 rfl dX8_name_99 ?_
          exact zz_iret M dX8_name_102 h
      · have h := zifn (c := r105 = 0) h c
        refine zz_aload_n M 0 dX8_name_72 rfl rfl ?_
        refine zz_getI M f_X8_188 tM_0 rfl dX8_name_73 ?_
        exact zz_iret M dX8_name_76 h
    · have h := zifn (c := r103 = 0) h c
      refine zz_aload_n M 0 dX8_name_46 rfl rfl ?_
      refine zz_getI M f_X8_185 tM_0 rfl dX8_name_47 ?_
      exact zz_iret M dX8_name_50 h
  · have h := zifn (c := r101 = 0) h c
    refine zz_aload_n M 0 dX8_name_21 rfl rfl ?_
    refine zz_getI M f_X8_182 tM_0 rfl dX8_name_22 ?_
    exact zz_iret M dX8_name_25 h
def wX8_opens  (σ : zSt) (Q : Int32 → zSt → Prop) : Prop := if (σ.1 0 30) = 5 then (wX8_fail  σ (fun σ105 => Q 0 σ105)) else (∀ σ101 : zSt, σ101 = zput σ 0 30 ((σ.1 0 30) + 1) → (wX8_next  σ101 (fun σ103 => Q 1 σ103)))
set_option maxRecDepth 20000 in
set_option maxHeartbeats 4000000 in
theorem kX8_opens (hI : zInj tabM ad)   (σ : zSt) (Q : Int32 → zSt → Prop) (h : wX8_opens  σ Q) : zOkI l tabM D cA ad y 3 yX8_opens cX8_opens 1 (some .boolean) [.ref (ad 0)] σ Q := by
  refine zz_enter hI (by decide) (Nat.le_of_ble_eq_true rfl) (fun p e s m below meth c M => ?_)
  have M : zM p s m _ meth c cX8_opens 1 RX8 (some .boolean) tabM D cA ad y := M
  refine zz_ls [(0, .ref (ad 0))] rfl ?_
  unfold wX8_opens at h
  refine zz_aload_n M 0 dX8_opens_0 rfl rfl ?_
  refine zz_getI M f_X8_169 tM_0 rfl dX8_opens_1 ?_
  refine zz_iconst (v := 5) M dX8_opens_4 (by decide) ?_
  refine zz_icmp_ne M 14 dX8_opens_5 (by decide) (fun c => ?_) (fun c => ?_)
  · have h := zifn (c := (σ.1 0 30) = 5) h c
    refine zz_aload_n M 0 dX8_opens_14 rfl rfl ?_
    refine zz_dup M dX8_opens_15 rfl ?_
    refine zz_getI M f_X8_169 tM_0 rfl dX8_opens_16 ?_
    refine zz_iconst (v := 1) M dX8_opens_19 (by decide) ?_
    refine zz_iadd M dX8_opens_20 ?_
    refine zz_putI M f_X8_169 tM_0 rfl dX8_opens_21 ?_
    refine zz_sg (fun σ101 eσ101 => ?_)
    have h := h σ101 eσ101
    refine zz_aload_n M 0 dX8_opens_24 rfl rfl ?_
    refine zz_callVV (d' := 2) (As := []) (rest := []) M l_X8_175 tM_0 rfl rfl dX8_opens_25 rfl rfl (by decide) (Nat.le_of_ble_eq_true rfl) (by have hI := M.2.2.2.2.2.2.2.2; exact kX8_next hI   _ _ h) (fun σ103 h => ?_)
    refine zz_iconst (v := 1) M dX8_opens_28 (by decide) ?_
    exact zz_zret M dX8_opens_29 (Or.inr rfl) h
  · have h := zif (c := (σ.1 0 30) = 5) h c
    refine zz_aload_n M 0 dX8_opens_8 rfl rfl ?_
    refine zz_callVV (d' := 1) (As := []) (rest := []) M l_X8_172 tM_0 rfl rfl dX8_opens_9 rfl rfl (by decide) (Nat.le_of_ble_eq_true rfl) (by have hI := M.2.2.2.2.2.2.2.2; exact kX8_fail hI   _ _ h) (fun σ105 h => ?_)
    refine zz_iconst (v := 0) M dX8_opens_12 (by decide) ?_
    exact zz_zret M dX8_opens_13 (Or.inl rfl) h
def wX8_atom5  (σ : zSt) (Q : Int32 → zSt → Prop) : Prop := wX8_isSign 45 σ (fun r101 σ102 => if r101 = 0 then (wX8_isSign 40 σ102 (fun r103 σ104 => if r103 = 0 then (if (σ104.1 0 31) = 0 then (if (σ104.1 0 27) = 2 then (∀ x121 : Int32, x121 = ((σ104.2 : Int64).toInt32) → (wX8_next  σ104 (fun σ123 => Q x121 σ123))) else (if (σ104.1 0 31) = 0 then (if (σ104.1 0 27) = 1 then (wX8_name  σ104 (fun r117 σ118 => if (σ118.1 0 31) = 0 then (wX8_next  σ118 (fun σ120 => Q r117 σ120)) else (Q r117 σ118))) else (wX8_fail  σ104 (fun σ116 => Q 0 σ116))) else (wX8_fail  σ104 (fun σ114 => Q 0 σ114)))) else (if (σ104.1 0 31) = 0 then (if (σ104.1 0 27) = 1 then (wX8_name  σ104 (fun r109 σ110 => if (σ110.1 0 31) = 0 then (wX8_next  σ110 (fun σ112 => Q r109 σ112)) else (Q r109 σ110))) else (wX8_fail  σ104 (fun σ108 => Q 0 σ108))) else (wX8_fail  σ104 (fun σ106 => Q 0 σ106)))) else (wX8_opens  σ104 (fun r124 σ125 => Q 0 σ125)))) else (wX8_opens  σ102 (fun r126 σ127 => Q 0 σ127)))
set_option maxRecDepth 20000 in
set_option maxHeartbeats 4000000 in
theorem kX8_atom5 (hI : zInj tabM ad)   (σ : zSt) (Q : Int32 → zSt → Prop) (h : wX8_atom5  σ Q) : zOkI l tabM D cA ad y 5 yX8_atom5 cX8_atom5 2 (some .int) [.ref (ad 0)] σ Q := by
  refine zz_enter hI (by decide) (Nat.le_of_ble_eq_true rfl) (fun p e s m below meth c M => ?_)
  have M : zM p s m _ meth c cX8_atom5 2 RX8 (some .int) tabM D cA ad y := M
  refine zz_ls [(0, .ref (ad 0))] rfl ?_
  unfold wX8_atom5 at h
  refine zz_iconst (v := 0) M dX8_atom5_0 (by decide) ?_
  refine zz_istore_n M [(1, .int 0), (0, .ref (ad 0))] dX8_atom5_1 rfl (by decide) rfl ?_
  refine zz_aload_n M 1 dX8_atom5_2 rfl rfl ?_
  refine zz_bipush (v := 45) M dX8_atom5_3 (by decide) ?_
  refine zz_callVI (d' := 1) (As := [.int 45]) (rest := []) M l_X8_200 tM_0 rfl rfl dX8_atom5_5 rfl rfl (by decide) (Nat.le_of_ble_eq_true rfl) (by have hI := M.2.2.2.2.2.2.2.2; exact kX8_isSign hI _  _ _ h) (fun r101 σ102 h => ?_)
  refine zz_if_eq (y0 := 0) M 19 dX8_atom5_8 (by decide) (fun c => ?_) (fun c => ?_)
  · have h := zif (c := r101 = 0) h c
    refine zz_aload_n M 1 dX8_atom5_19 rfl rfl ?_
    refine zz_bipush (v := 40) M dX8_atom5_20 (by decide) ?_
    refine zz_callVI (d' := 1) (As := [.int 40]) (rest := []) M l_X8_200 tM_0 rfl rfl dX8_atom5_22 rfl rfl (by decide) (Nat.le_of_ble_eq_true rfl) (by have hI := M.2.2.2.2.2.2.2.2; exact kX8_isSign hI _  _ _ h) (fun r103 σ104 h => ?_)
    refine zz_if_eq (y0 := 0) M 36 dX8_atom5_25 (by decide) (fun c => ?_) (fun c => ?_)
    · have h := zif (c := r103 = 0) h c
      refine zz_aload_n M 1 dX8_atom5_36 rfl rfl ?_
      refine zz_getI M f_X8_159 tM_0 rfl dX8_atom5_37 ?_
      refine zz_if_ne (y0 := 0) M 64 dX8_atom5_40 (by decide) (fun c => ?_) (fun c => ?_)
      · have h := zifn (c := (σ104.1 0 31) = 0) h c
        refine zz_aload_n M 1 dX8_atom5_64 rfl rfl ?_
        refine zz_getI M f_X8_159 tM_0 rfl dX8_atom5_65 ?_
        refine zz_if_ne (y0 := 0) M 98 dX8_atom5_68 (by decide) (fun c => ?_) (fun c => ?_)
        · have h := zifn (c := (σ104.1 0 31) = 0) h c
          refine zz_aload_n M 1 dX8_atom5_98 rfl rfl ?_
          refine zz_callVV (d' := 1) (As := []) (rest := []) M l_X8_172 tM_0 rfl rfl dX8_atom5_99 rfl rfl (by decide) (Nat.le_of_ble_eq_true rfl) (by have hI := M.2.2.2.2.2.2.2.2; exact kX8_fail hI   _ _ h) (fun σ106 h => ?_)
          refine zz_iload_n M 0 dX8_atom5_102 rfl rfl ?_
          exact zz_iret M dX8_atom5_103 h
        · have h := zif (c := (σ104.1 0 31) = 0) h c
          refine zz_aload_n M 1 dX8_atom5_71 rfl rfl ?_
          refine zz_getI M f_X8_142 tM_0 rfl dX8_atom5_72 ?_
          refine zz_iconst (v := 1) M dX8_atom5_75 (by decide) ?_
          refine zz_icmp_ne M 98 dX8_atom5_76 (by decide) (fun c => ?_) (fun c => ?_)
          · have h := zifn (c := (σ104.1 0 27) = 1) h c
            refine zz_aload_n M 1 dX8_atom5_98 rfl rfl ?_
            refine zz_callVV (d' := 1) (As := []) (rest := []) M l_X8_172 tM_0 rfl rfl dX8_atom5_99 rfl rfl (by decide) (Nat.le_of_ble_eq_true rfl) (by have hI := M.2.2.2.2.2.2.2.2; exact kX8_fail hI   _ _ h) (fun σ108 h => ?_)
            refine zz_iload_n M 0 dX8_atom5_102 rfl rfl ?_
            exact zz_iret M dX8_atom5_103 h
          · have h := zif (c := (σ104.1 0 27) = 1) h c
            refine zz_aload_n M 1 dX8_atom5_79 rfl rfl ?_
            refine zz_callVI (d' := 4) (As := []) (rest := []) M l_X8_208 tM_0 rfl rfl dX8_atom5_80 rfl rfl (by decide) (Nat.le_of_ble_eq_true rfl) (by have hI := M.2.2.2.2.2.2.2.2; exact kX8_name hI   _ _ h) (fun r109 σ110 h => ?_)
            refine zz_istore_n M [(1, .int r109), (0, .ref (ad 0))] dX8_atom5_83 rfl (by decide) rfl ?_
            refine zz_aload_n M 1 dX8_atom5_84 rfl rfl ?_
            refine zz_getI M f_X8_159 tM_0 rfl dX8_atom5_85 ?_
            refine zz_if_ne (y0 := 0) M 102 dX8_atom5_88 (by decide) (fun c => ?_) (fun c => ?_)
            · have h := zifn (c := (σ110.1 0 31) = 0) h c
              refine zz_iload_n M 0 dX8_atom5_102 rfl rfl ?_
              exact zz_iret M dX8_atom5_103 h
            · have h := zif (c := (σ110.1 0 31) = 0) h c
              refine zz_aload_n M 1 dX8_atom5_91 rfl rfl ?_
              refine zz_callVV (d' := 2) (As := []) (rest := []) M l_X8_175 tM_0 rfl rfl dX8_atom5_92 rfl rfl (by decide) (Nat.le_of_ble_eq_true rfl) (by have hI := M.2.2.2.2.2.2.2.2; exact kX8_next hI   _ _ h) (fun σ112 h => ?_)
              refine zz_goto M 102 dX8_atom5_95 (by decide) ?_
              refine zz_iload_n M 0 dX8_atom5_102 rfl rfl ?_
              exact zz_iret M dX8_atom5_103 h
      · have h := zif (c := (σ104.1 0 31) = 0) h c
        refine zz_aload_n M 1 dX8_atom5_43 rfl rfl ?_
        refine zz_getI M f_X8_142 tM_0 rfl dX8_atom5_44 ?_
        refine zz_iconst (v := 2) M dX8_atom5_47 (by decide) ?_
        refine zz_icmp_ne M 64 dX8_atom5_48 (by decide) (fun c => ?_) (fun c => ?_)
        · have h := zifn (c := (σ104.1 0 27) = 2) h c
          refine zz_aload_n M 1 dX8_atom5_64 rfl rfl ?_
          refine zz_getI M f_X8_159 tM_0 rfl dX8_atom5_65 ?_
          refine zz_if_ne (y0 := 0) M 98 dX8_atom5_68 (by decide) (fun c => ?_) (fun c => ?_)
          · have h := zifn (c := (σ104.1 0 31) = 0) h c
            refine zz_aload_n M 1 dX8_atom5_98 rfl rfl ?_
            refine zz_callVV (d' := 1) (As := []) (rest := []) M l_X8_172 tM_0 rfl rfl dX8_atom5_99 rfl rfl (by decide) (Nat.le_of_ble_eq_true rfl) (by have hI := M.2.2.2.2.2.2.2.2; exact kX8_fail hI   _ _ h) (fun σ114 h => ?_)
            refine zz_iload_n M 0 dX8_atom5_102 rfl rfl ?_
            exact zz_iret M dX8_atom5_103 h
          · have h := zif (c := (σ104.1 0 31) = 0) h c
            refine zz_aload_n M 1 dX8_atom5_71 rfl rfl ?_
            refine zz_getI M f_X8_142 tM_0 rfl dX8_atom5_72 ?_
            refine zz_iconst (v := 1) M dX8_atom5_75 (by decide) ?_
            refine zz_icmp_ne M 98 dX8_atom5_76 (by decide) (fun c => ?_) (fun c => ?_)
            · have h := zifn (c := (σ104.1 0 27) = 1) h c
              refine zz_aload_n M 1 dX8_atom5_98 rfl rfl ?_
              refine zz_callVV (d' := 1) (As := []) (rest := []) M l_X8_172 tM_0 rfl rfl dX8_atom5_99 rfl rfl (by decide) (Nat.le_of_ble_eq_true rfl) (by have hI := M.2.2.2.2.2.2.2.2; exact kX8_fail hI   _ _ h) (fun σ116 h => ?_)
              refine zz_iload_n M 0 dX8_atom5_102 rfl rfl ?_
              exact zz_iret M dX8_atom5_103 h
            · have h := zif (c := (σ104.1 0 27) = 1) h c
              refine zz_aload_n M 1 dX8_atom5_79 rfl rfl ?_
              refine zz_callVI (d' := 4) (As := []) (rest := []) M l_X8_208 tM_0 rfl rfl dX8_atom5_80 rfl rfl (by decide) (Nat.le_of_ble_eq_true rfl) (by have hI := M.2.2.2.2.2.2.2.2; exact kX8_name hI   _ _ h) (fun r117 σ118 h => ?_)
              refine zz_istore_n M [(1, .int r117), (0, .ref (ad 0))] dX8_atom5_83 rfl (by decide) rfl ?_
              refine zz_aload_n M 1 dX8_atom5_84 rfl rfl ?_
              refine zz_getI M f_X8_159 tM_0 rfl dX8_atom5_85 ?_
              refine zz_if_ne (y0 := 0) M 102 dX8_atom5_88 (by decide) (fun c => ?_) (fun c => ?_)
              · have h := zifn (c := (σ118.1 0 31) = 0) h c
                refine zz_iload_n M 0 dX8_atom5_102 rfl rfl ?_
                exact zz_iret M dX8_atom5_103 h
              · have h := zif (c := (σ118.1 0 31) = 0) h c
                refine zz_aload_n M 1 dX8_atom5_91 rfl rfl ?_
                refine zz_callVV (d' := 2) (As := []) (rest := []) M l_X8_175 tM_0 rfl rfl dX8_atom5_92 rfl rfl (by decide) (Nat.le_of_ble_eq_true rfl) (by have hI := M.2.2.2.2.2.2.2.2; exact kX8_next hI   _ _ h) (fun σ120 h => ?_)
                refine zz_goto M 102 dX8_atom5_95 (by decide) ?_
                refine zz_iload_n M 0 dX8_atom5_102 rfl rfl ?_
                exact zz_iret M dX8_atom5_103 h
        · have h := zif (c := (σ104.1 0 27) = 2) h c
          refine zz_aload_n M 1 dX8_atom5_51 rfl rfl ?_
          refine zz_getL M f_X8_153 tM_0 rfl dX8_atom5_52 ?_
          refine zz_l2i M dX8_atom5_55 ?_
          refine zz_topi (fun x121 ex121 => ?_)
          have h := h x121 ex121
          refine zz_istore_n M [(1, .int x121), (0, .ref (ad 0))] dX8_atom5_56 rfl (by decide) rfl ?_
          refine zz_aload_n M 1 dX8_atom5_57 rfl rfl ?_
          refine zz_callVV (d' := 2) (As := []) (rest := []) M l_X8_175 tM_0 rfl rfl dX8_atom5_58 rfl rfl (by decide) (Nat.le_of_ble_eq_true rfl) (by have hI := M.2.2.2.2.2.2.2.2; exact kX8_next hI   _ _ h) (fun σ123 h => ?_)
          refine zz_goto M 102 dX8_atom5_61 (by decide) ?_
          refine zz_iload_n M 0 dX8_atom5_102 rfl rfl ?_
          exact zz_iret M dX8_atom5_103 h
    · have h := zifn (c := r103 = 0) h c
      refine zz_aload_n M 1 dX8_atom5_28 rfl rfl ?_
      refine zz_callVI (d' := 3) (As := []) (rest := []) M l_X8_204 tM_0 rfl rfl dX8_atom5_29 rfl rfl (by decide) (Nat.le_of_ble_eq_true rfl) (by have hI := M.2.2.2.2.2.2.2.2; exact kX8_opens hI   _ _ h) (fun r124 σ125 h => ?_)
      refine zz_pop M dX8_atom5_32 rfl ?_
      refine zz_goto M 102 dX8_atom5_33 (by decide) ?_
      refine zz_iload_n M 0 dX8_atom5_102 rfl rfl ?_
      exact zz_iret M dX8_atom5_103 h
  · have h := zifn (c := r101 = 0) h c
    refine zz_aload_n M 1 dX8_atom5_11 rfl rfl ?_
    refine zz_callVI (d' := 3) (As := []) (rest := []) M l_X8_204 tM_0 rfl rfl dX8_atom5_12 rfl rfl (by decide) (Nat.le_of_ble_eq_true rfl) (by have hI := M.2.2.2.2.2.2.2.2; exact kX8_opens hI   _ _ h) (fun r126 σ127 h => ?_)
    refine zz_pop M dX8_atom5_15 rfl ?_
    refine zz_goto M 102 dX8_atom5_16 (by decide) ?_
    refine zz_iload_n M 0 dX8_atom5_102 rfl rfl ?_
    exact zz_iret M dX8_atom5_103 h
def wX8_term5_L5 (Q : Int32 → zSt → Prop) (K28 : Int32 → zSt → Prop)  : Nat → Int32 → zSt → Prop
  | 0, _, _ => False
  | n + 1, x1, σ => wX8_isSign 42 σ (fun r103 σ104 => if r103 = 0 then (K28 x1 σ104) else (wX8_next  σ104 (fun σ106 => wX8_atom5  σ106 (fun r107 σ108 => ∀ x109 : Int32, x109 = (x1 * r107) → (wX8_term5_L5 Q K28  n x109 σ108)))))
set_option maxRecDepth 20000 in
set_option maxHeartbeats 4000000 in
theorem sX8_term5_L5 {Q : Int32 → zSt → Prop} {K28 : Int32 → zSt → Prop}   (M : zM p s m args meth c cX8_term5 2 RX8 (some .int) tabM D cA ad y) (hK28 : ∀ (v1 : Int32) (σ : zSt), K28 v1 σ → zG p l e (zrm 6) s m args below meth c 2 tabM D cA ad (MQ below (va_Qi Q (fun σ' t => va_P D vwCl (zws tabM cA ad σ') t.heap) (zIn tabM ad)) args s 0 0 (zIn tabM ad)) 28 [(1, .int v1)] [] σ) : ∀ (n : Nat) (x1 : Int32) (σ : zSt), wX8_term5_L5 Q K28  n x1 σ → zG p l e (zrm 6) s m args below meth c 2 tabM D cA ad (MQ below (va_Qi Q (fun σ' t => va_P D vwCl (zws tabM cA ad σ') t.heap) (zIn tabM ad)) args s 0 0 (zIn tabM ad)) 5 [(0, .ref (ad 0)), (1, .int x1)] [] σ := by
  intro n
  induction n with
  | zero => intro x1 σ h; exact absurd h (by simp [wX8_term5_L5])
  | succ n ih =>
    intro x1 σ h
    unfold wX8_term5_L5 at h
    refine zz_aload_n M 0 dX8_term5_5 rfl rfl ?_
    refine zz_bipush (v := 42) M dX8_term5_6 (by decide) ?_
    refine zz_callVI (d' := 1) (As := [.int 42]) (rest := []) M l_X8_200 tM_0 rfl rfl dX8_term5_8 rfl rfl (by decide) (Nat.le_of_ble_eq_true rfl) (by have hI := M.2.2.2.2.2.2.2.2; exact kX8_isSign hI _  _ _ h) (fun r103 σ104 h => ?_)
    refine zz_if_eq (y0 := 0) M 28 dX8_term5_11 (by decide) (fun c => ?_) (fun c => ?_)
    · have h := zif (c := r103 = 0) h c
      refine zz_sub [(1, .int x1)] [1] rfl ?_
      exact hK28 _ _ h
    · have h := zifn (c := r103 = 0) h c
      refine zz_aload_n M 0 dX8_term5_14 rfl rfl ?_
      refine zz_callVV (d' := 2) (As := []) (rest := []) M l_X8_175 tM_0 rfl rfl dX8_term5_15 rfl rfl (by decide) (Nat.le_of_ble_eq_true rfl) (by have hI := M.2.2.2.2.2.2.2.2; exact kX8_next hI   _ _ h) (fun σ106 h => ?_)
      refine zz_iload_n M 1 dX8_term5_18 rfl rfl ?_
      refine zz_aload_n M 0 dX8_term5_19 rfl rfl ?_
      refine zz_callVI (d' := 5) (As := []) (rest := [.int x1]) M l_X8_212 tM_0 rfl rfl dX8_term5_20 rfl rfl (by decide) (Nat.le_of_ble_eq_true rfl) (by have hI := M.2.2.2.2.2.2.2.2; exact kX8_atom5 hI   _ _ h) (fun r107 σ108 h => ?_)
      refine zz_imul M dX8_term5_23 ?_
      refine zz_topi (fun x109 ex109 => ?_)
      have h := h x109 ex109
      refine zz_istore_n M [(1, .int x109), (0, .ref (ad 0))] dX8_term5_24 rfl (by decide) rfl ?_
      refine zz_goto M 5 dX8_term5_25 (by decide) ?_
      refine zz_sub [(0, .ref (ad 0)), (1, .int x109)] [1, 0] rfl ?_
      exact ih _ _ h
def wX8_term5  (σ : zSt) (Q : Int32 → zSt → Prop) : Prop := wX8_atom5  σ (fun r101 σ102 => wX8_term5_L5 Q (fun v110 σ111 => Q v110 σ111)  300 r101 σ102)
set_option maxRecDepth 20000 in
set_option maxHeartbeats 4000000 in
theorem kX8_term5 (hI : zInj tabM ad)   (σ : zSt) (Q : Int32 → zSt → Prop) (h : wX8_term5  σ Q) : zOkI l tabM D cA ad y 6 yX8_term5 cX8_term5 2 (some .int) [.ref (ad 0)] σ Q := by
  refine zz_enter hI (by decide) (Nat.le_of_ble_eq_true rfl) (fun p e s m below meth c M => ?_)
  have M : zM p s m _ meth c cX8_term5 2 RX8 (some .int) tabM D cA ad y := M
  refine zz_ls [(0, .ref (ad 0))] rfl ?_
  unfold wX8_term5 at h
  refine zz_aload_n M 0 dX8_term5_0 rfl rfl ?_
  refine zz_callVI (d' := 5) (As := []) (rest := []) M l_X8_212 tM_0 rfl rfl dX8_term5_1 rfl rfl (by decide) (Nat.le_of_ble_eq_true rfl) (by have hI := M.2.2.2.2.2.2.2.2; exact kX8_atom5 hI   _ _ h) (fun r101 σ102 h => ?_)
  refine zz_istore_n M [(1, .int r101), (0, .ref (ad 0))] dX8_term5_4 rfl (by decide) rfl ?_
  refine zz_sub [(0, .ref (ad 0)), (1, .int r101)] [1, 0] rfl ?_
  refine sX8_term5_L5   M (fun v110 σ111 h => ?_) 300 _ _ h
  refine zz_iload_n M 0 dX8_term5_28 rfl rfl ?_
  exact zz_iret M dX8_term5_29 h
def wX8_added5_L5 (Q : Int32 → zSt → Prop) (K66 : Int32 → zSt → Prop)  : Nat → Int32 → zSt → Prop
  | 0, _, _ => False
  | n + 1, x1, σ => wX8_isSign 43 σ (fun r103 σ104 => if r103 = 0 then (wX8_isSign 45 σ104 (fun r115 σ116 => if r115 = 0 then (K66 x1 σ116) else (if (lg_cmp (σ116.2) 43) = 0 then (wX8_next  σ116 (fun σ123 => wX8_term5  σ123 (fun r124 σ125 => ∀ x126 : Int32, x126 = (x1 + r124) → (wX8_added5_L5 Q K66  n x126 σ125)))) else (wX8_next  σ116 (fun σ118 => wX8_term5  σ118 (fun r119 σ120 => ∀ x121 : Int32, x121 = (x1 - r119) → (wX8_added5_L5 Q K66  n x121 σ120))))))) else (if (lg_cmp (σ104.2) 43) = 0 then (wX8_next  σ104 (fun σ111 => wX8_term5  σ111 (fun r112 σ113 => ∀ x114 : Int32, x114 = (x1 + r112) → (wX8_added5_L5 Q K66  n x114 σ113)))) else (wX8_next  σ104 (fun σ106 => wX8_term5  σ106 (fun r107 σ108 => ∀ x109 : Int32, x109 = (x1 - r107) → (wX8_added5_L5 Q K66  n x109 σ108))))))
set_option maxRecDepth 20000 in
set_option maxHeartbeats 4000000 in
theorem sX8_added5_L5 {Q : Int32 → zSt → Prop} {K66 : Int32 → zSt → Prop}   (M : zM p s m args meth c cX8_added5 4 RX8 (some .int) tabM D cA ad y) (hK66 : ∀ (v1 : Int32) (σ : zSt), K66 v1 σ → zG p l e (zrm 7) s m args below meth c 4 tabM D cA ad (MQ below (va_Qi Q (fun σ' t => va_P D vwCl (zws tabM cA ad σ') t.heap) (zIn tabM ad)) args s 0 0 (zIn tabM ad)) 66 [(1, .int v1)] [] σ) : ∀ (n : Nat) (x1 : Int32) (σ : zSt), wX8_added5_L5 Q K66  n x1 σ → zG p l e (zrm 7) s m args below meth c 4 tabM D cA ad (MQ below (va_Qi Q (fun σ' t => va_P D vwCl (zws tabM cA ad σ') t.heap) (zIn tabM ad)) args s 0 0 (zIn tabM ad)) 5 [(0, .ref (ad 0)), (1, .int x1)] [] σ := by
  intro n
  induction n with
  | zero => intro x1 σ h; exact absurd h (by simp [wX8_added5_L5])
  | succ n ih =>
    intro x1 σ h
    unfold wX8_added5_L5 at h
    refine zz_aload_n M 0 dX8_added5_5 rfl rfl ?_
    refine zz_bipush (v := 43) M dX8_added5_6 (by decide) ?_
    refine zz_callVI (d' := 1) (As := [.int 43]) (rest := []) M l_X8_200 tM_0 rfl rfl dX8_added5_8 rfl rfl (by decide) (Nat.le_of_ble_eq_true rfl) (by have hI := M.2.2.2.2.2.2.2.2; exact kX8_isSign hI _  _ _ h) (fun r103 σ104 h => ?_)
    refine zz_if_ne (y0 := 0) M 23 dX8_added5_11 (by decide) (fun c => ?_) (fun c => ?_)
    · have h := zifn (c := r103 = 0) h c
      refine zz_aload_n M 0 dX8_added5_23 rfl rfl ?_
      refine zz_getL M f_X8_153 tM_0 rfl dX8_added5_24 ?_
      refine zz_ldc2 (v := 43) M k_X8_218 dX8_added5_27 ?_
      refine zz_lcmp M dX8_added5_30 ?_
      refine zz_if_ne (y0 := 0) M 38 dX8_added5_31 (by decide) (fun c => ?_) (fun c => ?_)
      · have h := zifn (c := (lg_cmp (σ104.2) 43) = 0) h c
        refine zz_iconst (v := 0) M dX8_added5_38 (by decide) ?_
        refine zz_istore_n M [(2, .int 0), (0, .ref (ad 0)), (1, .int x1)] dX8_added5_39 rfl (by decide) rfl ?_
        refine zz_aload_n M 1 dX8_added5_40 rfl rfl ?_
        refine zz_callVV (d' := 2) (As := []) (rest := []) M l_X8_175 tM_0 rfl rfl dX8_added5_41 rfl rfl (by decide) (Nat.le_of_ble_eq_true rfl) (by have hI := M.2.2.2.2.2.2.2.2; exact kX8_next hI   _ _ h) (fun σ106 h => ?_)
        refine zz_aload_n M 1 dX8_added5_44 rfl rfl ?_
        refine zz_callVI (d' := 6) (As := []) (rest := []) M l_X8_215 tM_0 rfl rfl dX8_added5_45 rfl rfl (by decide) (Nat.le_of_ble_eq_true rfl) (by have hI := M.2.2.2.2.2.2.2.2; exact kX8_term5 hI   _ _ h) (fun r107 σ108 h => ?_)
        refine zz_istore_n M [(3, .int r107), (2, .int 0), (0, .ref (ad 0)), (1, .int x1)] dX8_added5_48 rfl (by decide) rfl ?_
        refine zz_iload_n M 1 dX8_added5_49 rfl rfl ?_
        refine zz_if_eq (y0 := 0) M 59 dX8_added5_50 (by decide) (fun c => ?_) (fun c => absurd c (by decide))
        refine zz_iload_n M 3 dX8_added5_59 rfl rfl ?_
        refine zz_iload_n M 0 dX8_added5_60 rfl rfl ?_
        refine zz_isub M dX8_added5_61 ?_
        refine zz_topi (fun x109 ex109 => ?_)
        have h := h x109 ex109
        refine zz_istore_n M [(1, .int x109), (3, .int r107), (2, .int 0), (0, .ref (ad 0))] dX8_added5_62 rfl (by decide) rfl ?_
        refine zz_goto M 5 dX8_added5_63 (by decide) ?_
        refine zz_sub [(0, .ref (ad 0)), (1, .int x109)] [3, 0] rfl ?_
        exact ih _ _ h
      · have h := zif (c := (lg_cmp (σ104.2) 43) = 0) h c
        refine zz_iconst (v := 1) M dX8_added5_34 (by decide) ?_
        refine zz_goto M 39 dX8_added5_35 (by decide) ?_
        refine zz_istore_n M [(2, .int 1), (0, .ref (ad 0)), (1, .int x1)] dX8_added5_39 rfl (by decide) rfl ?_
        refine zz_aload_n M 1 dX8_added5_40 rfl rfl ?_
        refine zz_callVV (d' := 2) (As := []) (rest := []) M l_X8_175 tM_0 rfl rfl dX8_added5_41 rfl rfl (by decide) (Nat.le_of_ble_eq_true rfl) (by have hI := M.2.2.2.2.2.2.2.2; exact kX8_next hI   _ _ h) (fun σ111 h => ?_)
        refine zz_aload_n M 1 dX8_added5_44 rfl rfl ?_
        refine zz_callVI (d' := 6) (As := []) (rest := []) M l_X8_215 tM_0 rfl rfl dX8_added5_45 rfl rfl (by decide) (Nat.le_of_ble_eq_true rfl) (by have hI := M.2.2.2.2.2.2.2.2; exact kX8_term5 hI   _ _ h) (fun r112 σ113 h => ?_)
        refine zz_istore_n M [(3, .int r112), (2, .int 1), (0, .ref (ad 0)), (1, .int x1)] dX8_added5_48 rfl (by decide) rfl ?_
        refine zz_iload_n M 1 dX8_added5_49 rfl rfl ?_
        refine zz_if_eq (y0 := 0) M 59 dX8_added5_50 (by decide) (fun c => absurd c (by decide)) (fun c => ?_)
        refine zz_iload_n M 3 dX8_added5_53 rfl rfl ?_
        refine zz_iload_n M 0 dX8_added5_54 rfl rfl ?_
        refine zz_iadd M dX8_added5_55 ?_
        refine zz_goto M 62 dX8_added5_56 (by decide) ?_
        refine zz_topi (fun x114 ex114 => ?_)
        have h := h x114 ex114
        refine zz_istore_n M [(1, .int x114), (3, .int r112), (2, .int 1), (0, .ref (ad 0))] dX8_added5_62 rfl (by decide) rfl ?_
        refine zz_goto M 5 dX8_added5_63 (by decide) ?_
        refine zz_sub [(0, .ref (ad 0)), (1, .int x114)] [3, 0] rfl ?_
        exact ih _ _ h
    · have h := zif (c := r103 = 0) h c
      refine zz_aload_n M 0 dX8_added5_14 rfl rfl ?_
      refine zz_bipush (v := 45) M dX8_added5_15 (by decide) ?_
      refine zz_callVI (d' := 1) (As := [.int 45]) (rest := []) M l_X8_200 tM_0 rfl rfl dX8_added5_17 rfl rfl (by decide) (Nat.le_of_ble_eq_true rfl) (by have hI := M.2.2.2.2.2.2.2.2; exact kX8_isSign hI _  _ _ h) (fun r115 σ116 h => ?_)
      refine zz_if_eq (y0 := 0) M 66 dX8_added5_20 (by decide) (fun c => ?_) (fun c => ?_)
      · have h := zif (c := r115 = 0) h c
        refine zz_sub [(1, .int x1)] [1] rfl ?_
        exact hK66 _ _ h
      · have h := zifn (c := r115 = 0) h c
        refine zz_aload_n M 0 dX8_added5_23 rfl rfl ?_
        refine zz_getL M f_X8_153 tM_0 rfl dX8_added5_24 ?_
        refine zz_ldc2 (v := 43) M k_X8_218 dX8_added5_27 ?_
        refine zz_lcmp M dX8_added5_30 ?_
        refine zz_if_ne (y0 := 0) M 38 dX8_added5_31 (by decide) (fun c => ?_) (fun c => ?_)
        · have h := zifn (c := (lg_cmp (σ116.2) 43) = 0) h c
          refine zz_iconst (v := 0) M dX8_added5_38 (by decide) ?_
          refine zz_istore_n M [(2, .int 0), (0, .ref (ad 0)), (1, .int x1)] dX8_added5_39 rfl (by decide) rfl ?_
          refine zz_aload_n M 1 dX8_added5_40 rfl rfl ?_
          refine zz_callVV (d' := 2) (As := []) (rest := []) M l_X8_175 tM_0 rfl rfl dX8_added5_41 rfl rfl (by decide) (Nat.le_of_ble_eq_true rfl) (by have hI := M.2.2.2.2.2.2.2.2; exact kX8_next hI   _ _ h) (fun σ118 h => ?_)
          refine zz_aload_n M 1 dX8_added5_44 rfl rfl ?_
          refine zz_callVI (d' := 6) (As := []) (rest := []) M l_X8_215 tM_0 rfl rfl dX8_added5_45 rfl rfl (by decide) (Nat.le_of_ble_eq_true rfl) (by have hI := M.2.2.2.2.2.2.2.2; exact kX8_term5 hI   _ _ h) (fun r119 σ120 h => ?_)
          refine zz_istore_n M [(3, .int r119), (2, .int 0), (0, .ref (ad 0)), (1, .int x1)] dX8_added5_48 rfl (by decide) rfl ?_
          refine zz_iload_n M 1 dX8_added5_49 rfl rfl ?_
          refine zz_if_eq (y0 := 0) M 59 dX8_added5_50 (by decide) (fun c => ?_) (fun c => absurd c (by decide))
          refine zz_iload_n M 3 dX8_added5_59 rfl rfl ?_
          refine zz_iload_n M 0 dX8_added5_60 rfl rfl ?_
          refine zz_isub M dX8_added5_61 ?_
          refine zz_topi (fun x121 ex121 => ?_)
          have h := h x121 ex121
          refine zz_istore_n M [(1, .int x121), (3, .int r119), (2, .int 0), (0, .ref (ad 0))] dX8_added5_62 rfl (by decide) rfl ?_
          refine zz_goto M 5 dX8_added5_63 (by decide) ?_
          refine zz_sub [(0, .ref (ad 0)), (1, .int x121)] [3, 0] rfl ?_
          exact ih _ _ h
        · have h := zif (c := (lg_cmp (σ116.2) 43) = 0) h c
          refine zz_iconst (v := 1) M dX8_added5_34 (by decide) ?_
          refine zz_goto M 39 dX8_added5_35 (by decide) ?_
          refine zz_istore_n M [(2, .int 1), (0, .ref (ad 0)), (1, .int x1)] dX8_added5_39 rfl (by decide) rfl ?_
          refine zz_aload_n M 1 dX8_added5_40 rfl rfl ?_
          refine zz_callVV (d' := 2) (As := []) (rest := []) M l_X8_175 tM_0 rfl rfl dX8_added5_41 rfl rfl (by decide) (Nat.le_of_ble_eq_true rfl) (by have hI := M.2.2.2.2.2.2.2.2; exact kX8_next hI   _ _ h) (fun σ123 h => ?_)
          refine zz_aload_n M 1 dX8_added5_44 rfl rfl ?_
          refine zz_callVI (d' := 6) (As := []) (rest := []) M l_X8_215 tM_0 rfl rfl dX8_added5_45 rfl rfl (by decide) (Nat.le_of_ble_eq_true rfl) (by have hI := M.2.2.2.2.2.2.2.2; exact kX8_term5 hI   _ _ h) (fun r124 σ125 h => ?_)
          refine zz_istore_n M [(3, .int r124), (2, .int 1), (0, .ref (ad 0)), (1, .int x1)] dX8_added5_48 rfl (by decide) rfl ?_
          refine zz_iload_n M 1 dX8_added5_49 rfl rfl ?_
          refine zz_if_eq (y0 := 0) M 59 dX8_added5_50 (by decide) (fun c => absurd c (by decide)) (fun c => ?_)
          refine zz_iload_n M 3 dX8_added5_53 rfl rfl ?_
          refine zz_iload_n M 0 dX8_added5_54 rfl rfl ?_
          refine zz_iadd M dX8_added5_55 ?_
          refine zz_goto M 62 dX8_added5_56 (by decide) ?_
          refine zz_topi (fun x126 ex126 => ?_)
          have h := h x126 ex126
          refine zz_istore_n M [(1, .int x126), (3, .int r124), (2, .int 1), (0, .ref (ad 0))] dX8_added5_62 rfl (by decide) rfl ?_
          refine zz_goto M 5 dX8_added5_63 (by decide) ?_
          refine zz_sub [(0, .ref (ad 0)), (1, .int x126)] [3, 0] rfl ?_
          exact ih _ _ h
def wX8_added5  (σ : zSt) (Q : Int32 → zSt → Prop) : Prop := wX8_term5  σ (fun r101 σ102 => wX8_added5_L5 Q (fun v127 σ128 => Q v127 σ128)  300 r101 σ102)
set_option maxRecDepth 20000 in
set_option maxHeartbeats 4000000 in
theorem kX8_added5 (hI : zInj tabM ad)   (σ : zSt) (Q : Int32 → zSt → Prop) (h : wX8_added5  σ Q) : zOkI l tabM D cA ad y 7 yX8_added5 cX8_added5 4 (some .int) [.ref (ad 0)] σ Q := by
  refine zz_enter hI (by decide) (Nat.le_of_ble_eq_true rfl) (fun p e s m below meth c M => ?_)
  have M : zM p s m _ meth c cX8_added5 4 RX8 (some .int) tabM D cA ad y := M
  refine zz_ls [(0, .ref (ad 0))] rfl ?_
  unfold wX8_added5 at h
  refine zz_aload_n M 0 dX8_added5_0 rfl rfl ?_
  refine zz_callVI (d' := 6) (As := []) (rest := []) M l_X8_215 tM_0 rfl rfl dX8_added5_1 rfl rfl (by decide) (Nat.le_of_ble_eq_true rfl) (by have hI := M.2.2.2.2.2.2.2.2; exact kX8_term5 hI   _ _ h) (fun r101 σ102 h => ?_)
  refine zz_istore_n M [(1, .int r101), (0, .ref (ad 0))] dX8_added5_4 rfl (by decide) rfl ?_
  refine zz_sub [(0, .ref (ad 0)), (1, .int r101)] [1, 0] rfl ?_
  refine sX8_added5_L5   M (fun v127 σ128 h => ?_) 300 _ _ h
  refine zz_iload_n M 0 dX8_added5_66 rfl rfl ?_
  exact zz_iret M dX8_added5_67 h
end
