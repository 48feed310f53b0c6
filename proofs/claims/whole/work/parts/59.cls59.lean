section
variable {p : Program} {l : Launch} {e : Env} {s : State} {m : MethodId} {args : Array Value} {below : List Frame} {meth : Method} {c : Code} {D : va_G} {cA : Nat → ClassId} {ad : Nat → Nat} {y : zX}
def wX7_count (x1 : Int32) (σ : zSt) (Q : Int32 → zSt → Prop) : Prop := if x1 = 0 then (Q (σ.1 3 0) σ) else (if x1 = 1 then (Q (σ.1 3 1) σ) else (if x1 = 2 then (Q (σ.1 1 7) σ) else (if x1 = 3 then (Q (σ.1 1 8) σ) else (if x1 = 4 then (Q (σ.1 1 9) σ) else (if x1 = 5 then (Q (σ.1 0 6) σ) else (if x1 = 6 then (Q (σ.1 0 4) σ) else (if x1 = 7 then (Q (σ.1 1 10) σ) else (Q (-2) σ))))))))
set_option maxRecDepth 20000 in
set_option maxHeartbeats 4000000 in
theorem kX7_count (hI : zInj tabX ad) (x1 : Int32)  (σ : zSt) (Q : Int32 → zSt → Prop) (h : wX7_count x1 σ Q) : zOkI l tabX D cA ad y 1 yX7_count cX7_count 2 (some .int) [.ref (ad 0), .int x1] σ Q := by
  refine zz_enter hI (by decide) (Nat.le_of_ble_eq_true rfl) (fun p e s m below meth c M => ?_)
  have M : zM p s m _ meth c cX7_count 2 RX7 (some .int) tabX D cA ad y := M
  refine zz_ls [(0, .ref (ad 0)), (1, .int x1)] rfl ?_
  unfold wX7_count at h
  refine zz_iload_n M 1 dX7_count_0 rfl rfl ?_
  by_cases c0 : x1 = 0
  · have h := zif h c0
    refine zz_tinK M c0 48 dX7_count_1 (by decide) (by decide) rfl (by decide) ?_
    refine zz_aload_n M 0 dX7_count_48 rfl rfl ?_
    refine zz_getR M f_X7_12 tX_0 rfl dX7_count_49 ?_
    refine zz_getR M f_X7_113 tX_1 rfl dX7_count_52 ?_
    refine zz_iconst (v := 0) M dX7_count_55 (by decide) ?_
    refine zz_ialdK (kk := 0) M tX_3 (zlit (by decide)) (by decide) dX7_count_56 ?_
    exact zz_iret M dX7_count_57 h
  have h := zifn h c0
  by_cases c1 : x1 = 1
  · have h := zif h c1
    refine zz_tinK M c1 58 dX7_count_1 (by decide) (by decide) rfl (by decide) ?_
    refine zz_aload_n M 0 dX7_count_58 rfl rfl ?_
    refine zz_getR M f_X7_12 tX_0 rfl dX7_count_59 ?_
    refine zz_getR M f_X7_113 tX_1 rfl dX7_count_62 ?_
    refine zz_iconst (v := 1) M dX7_count_65 (by decide) ?_
    refine zz_ialdK (kk := 1) M tX_3 (zlit (by decide)) (by decide) dX7_count_66 ?_
    exact zz_iret M dX7_count_67 h
  have h := zifn h c1
  by_cases c2 : x1 = 2
  · have h := zif h c2
    refine zz_tinK M c2 68 dX7_count_1 (by decide) (by decide) rfl (by decide) ?_
    refine zz_aload_n M 0 dX7_count_68 rfl rfl ?_
    refine zz_getR M f_X7_12 tX_0 rfl dX7_count_69 ?_
    refine zz_getI M f_X7_162 tX_1 rfl dX7_count_72 ?_
    exact zz_iret M dX7_count_75 h
  have h := zifn h c2
  by_cases c3 : x1 = 3
  · have h := zif h c3
    refine zz_tinK M c3 76 dX7_count_1 (by decide) (by decide) rfl (by decide) ?_
    refine zz_aload_n M 0 dX7_count_76 rfl rfl ?_
    refine zz_getR M f_X7_12 tX_0 rfl dX7_count_77 ?_
    refine zz_getI M f_X7_136 tX_1 rfl dX7_count_80 ?_
    exact zz_iret M dX7_count_83 h
  have h := zifn h c3
  by_cases c4 : x1 = 4
  · have h := zif h c4
    refine zz_tinK M c4 84 dX7_count_1 (by decide) (by decide) rfl (by decide) ?_
    refine zz_aload_n M 0 dX7_count_84 rfl rfl ?_
    refine zz_getR M f_X7_12 tX_0 rfl dX7_count_85 ?_
    refine zz_getI M f_X7_139 tX_1 rfl dX7_count_88 ?_
    exact zz_iret M dX7_count_91 h
  have h := zifn h c4
  by_cases c5 : x1 = 5
  · have h := zif h c5
    refine zz_tinK M c5 92 dX7_count_1 (by decide) (by decide) rfl (by decide) ?_
    refine zz_aload_n M 0 dX7_count_92 rfl rfl ?_
    refine zz_getI M f_X7_37 tX_0 rfl dX7_count_93 ?_
    exact zz_iret M dX7_count_96 h
  have h := zifn h c5
  by_cases c6 : x1 = 6
  · have h := zif h c6
    refine zz_tinK M c6 97 dX7_count_1 (by decide) (by decide) rfl (by decide) ?_
    refine zz_aload_n M 0 dX7_count_97 rfl rfl ?_
    refine zz_getI M f_X7_27 tX_0 rfl dX7_count_98 ?_
    exact zz_iret M dX7_count_101 h
  have h := zifn h c6
  by_cases c7 : x1 = 7
  · have h := zif h c7
    refine zz_tinK M c7 102 dX7_count_1 (by decide) (by decide) rfl (by decide) ?_
    refine zz_aload_n M 0 dX7_count_102 rfl rfl ?_
    refine zz_getR M f_X7_12 tX_0 rfl dX7_count_103 ?_
    refine zz_getI M f_X7_168 tX_1 rfl dX7_count_106 ?_
    exact zz_iret M dX7_count_109 h
  have h := zifn h c7
  refine zz_tout M 110 dX7_count_1 (ztab0_7 c0 c1 c2 c3 c4 c5 c6 c7) (by decide) ?_
  refine zz_bipush (v := (-2)) M dX7_count_110 (by decide) ?_
  exact zz_iret M dX7_count_112 h
def wX5_become (i0 : Nat) (x1 : Int32) (x2 : Int32) (σ : zSt) (Q : zSt → Prop) : Prop := ∀ σ101 : zSt, σ101 = zfill σ (65 + i0) 40 0 → (∀ σ102 : zSt, σ102 = zput σ101 (61 + i0) 1 x1 → (∀ σ103 : zSt, σ103 = zput σ102 (61 + i0) 2 (if (0 : Int32) < (if (40 : Int32) < x2 then 40 else x2) then (if (40 : Int32) < x2 then 40 else x2) else 0) → (Q σ103)))
set_option maxRecDepth 20000 in
set_option maxHeartbeats 4000000 in
theorem kX5_become (hI : zInj tabX ad) (i0 : Nat) (x1 : Int32) (x2 : Int32) (hi0 : i0 < 4) (σ : zSt) (Q : zSt → Prop) (h : wX5_become i0 x1 x2 σ Q) : zOkV l tabX D cA ad y 2 yX5_become cX5_become 3 none [.ref (ad (61 + i0)), .int x1, .int x2] σ Q := by
  refine zz_enter hI (by decide) (Nat.le_of_ble_eq_true rfl) (fun p e s m below meth c M => ?_)
  have M : zM p s m _ meth c cX5_become 3 RX5 none tabX D cA ad y := M
  refine zz_ls [(0, .ref (ad (61 + i0))), (1, .int x1), (2, .int x2)] rfl ?_
  unfold wX5_become at h
  refine zz_aload_n M 0 dX5_become_0 rfl rfl ?_
  refine zz_getR M f_X5_9 (tX_Sheet hi0) rfl dX5_become_1 ?_
  refine zz_iconst (v := 0) M dX5_become_4 (by decide) ?_
  refine zz_fill (rest := []) M l_X5_22 (tX_Sheet_cells hi0) (by decide) dX5_become_5 rfl (by decide) (Nat.le_of_ble_eq_true rfl) ?_
  refine zz_sg (fun σ101 eσ101 => ?_)
  have h := h σ101 eσ101
  refine zz_aload_n M 0 dX5_become_8 rfl rfl ?_
  refine zz_iload_n M 1 dX5_become_9 rfl rfl ?_
  refine zz_putI M f_X5_15 (tX_Sheet hi0) rfl dX5_become_10 ?_
  refine zz_sg (fun σ102 eσ102 => ?_)
  have h := h σ102 eσ102
  refine zz_aload_n M 0 dX5_become_13 rfl rfl ?_
  refine zz_iconst (v := 0) M dX5_become_14 (by decide) ?_
  refine zz_iload_n M 2 dX5_become_15 rfl rfl ?_
  refine zz_bipush (v := 40) M dX5_become_16 (by decide) ?_
  refine zz_min M l_X5_28 zmath_min (by decide) (Nat.le_of_ble_eq_true rfl) dX5_become_18 ?_
  refine zz_max M l_X5_34 zmath_max (by decide) (Nat.le_of_ble_eq_true rfl) dX5_become_21 ?_
  refine zz_putI M f_X5_19 (tX_Sheet hi0) rfl dX5_become_24 ?_
  refine zz_sg (fun σ103 eσ103 => ?_)
  have h := h σ103 eσ103
  exact zz_vret M dX5_become_27 h
def wX7_isSheetSort (x0 : Int32) (σ : zSt) (Q : Int32 → zSt → Prop) : Prop := if x0 < 0 then (Q 0 σ) else (if 2 < x0 then (Q 0 σ) else (Q 1 σ))
set_option maxRecDepth 20000 in
set_option maxHeartbeats 4000000 in
theorem kX7_isSheetSort (hI : zInj tabX ad) (x0 : Int32)  (σ : zSt) (Q : Int32 → zSt → Prop) (h : wX7_isSheetSort x0 σ Q) : zOkI l tabX D cA ad y 1 yX7_isSheetSort cX7_isSheetSort 1 (some .boolean) [.int x0] σ Q := by
  refine zz_enter hI (by decide) (Nat.le_of_ble_eq_true rfl) (fun p e s m below meth c M => ?_)
  have M : zM p s m _ meth c cX7_isSheetSort 1 RX7 (some .boolean) tabX D cA ad y := M
  refine zz_ls [(0, .int x0)] rfl ?_
  unfold wX7_isSheetSort at h
  refine zz_iload_n M 0 dX7_isSheetSort_0 rfl rfl ?_
  refine zz_if_lt (y0 := 0) M 13 dX7_isSheetSort_1 (by decide) (fun c => ?_) (fun c => ?_)
  · have h := zif (c := x0 < 0) h c
    refine zz_iconst (v := 0) M dX7_isSheetSort_13 (by decide) ?_
    exact zz_zret M dX7_isSheetSort_14 (Or.inl rfl) h
  · have h := zifn (c := x0 < 0) h c
    refine zz_iload_n M 0 dX7_isSheetSort_4 rfl rfl ?_
    refine zz_iconst (v := 2) M dX7_isSheetSort_5 (by decide) ?_
    refine zz_icmp_gt M 13 dX7_isSheetSort_6 (by decide) (fun c => ?_) (fun c => ?_)
    · have h := zif (c := 2 < x0) h c
      refine zz_iconst (v := 0) M dX7_isSheetSort_13 (by decide) ?_
      exact zz_zret M dX7_isSheetSort_14 (Or.inl rfl) h
    · have h := zifn (c := 2 < x0) h c
      refine zz_iconst (v := 1) M dX7_isSheetSort_9 (by decide) ?_
      refine zz_goto M 14 dX7_isSheetSort_10 (by decide) ?_
      exact zz_zret M dX7_isSheetSort_14 (Or.inr rfl) h
def wX7_sheet (x1 : Int32) (x2 : Int32) (x3 : Int32) (σ : zSt) (Q : Int32 → zSt → Prop) : Prop := wX7_isSheet x1 σ (fun r101 σ102 => if r101 = 0 then (Q (-2) σ102) else (if x2 = (-1) then (if x2 = (-1) then (if x2 = (-1) then (vp_in x1 4 ∧ (if x2 = (-1) then (wX5_become (x1.toNatClampNeg) x2 0 σ102 (fun σ107 => Q 1 σ107)) else (wX5_become (x1.toNatClampNeg) x2 x3 σ102 (fun σ105 => Q 1 σ105)))) else (if 0 ≤ x3 then (vp_in x1 4 ∧ (if x2 = (-1) then (wX5_become (x1.toNatClampNeg) x2 0 σ102 (fun σ112 => Q 1 σ112)) else (wX5_become (x1.toNatClampNeg) x2 x3 σ102 (fun σ110 => Q 1 σ110)))) else (Q (-14) σ102))) else (if x3 ≤ 40 then (if x2 = (-1) then (vp_in x1 4 ∧ (if x2 = (-1) then (wX5_become (x1.toNatClampNeg) x2 0 σ102 (fun σ117 => Q 1 σ117)) else (wX5_become (x1.toNatClampNeg) x2 x3 σ102 (fun σ115 => Q 1 σ115)))) else (if 0 ≤ x3 then (vp_in x1 4 ∧ (if x2 = (-1) then (wX5_become (x1.toNatClampNeg) x2 0 σ102 (fun σ122 => Q 1 σ122)) else (wX5_become (x1.toNatClampNeg) x2 x3 σ102 (fun σ120 => Q 1 σ120)))) else (Q (-14) σ102))) else (Q (-2) σ102))) else (wX7_isSheetSort x2 σ102 (fun r123 σ124 => if r123 = 0 then (Q (-2) σ124) else (if x2 = (-1) then (if x2 = (-1) then (vp_in x1 4 ∧ (if x2 = (-1) then (wX5_become (x1.toNatClampNeg) x2 0 σ124 (fun σ129 => Q 1 σ129)) else (wX5_become (x1.toNatClampNeg) x2 x3 σ124 (fun σ127 => Q 1 σ127)))) else (if 0 ≤ x3 then (vp_in x1 4 ∧ (if x2 = (-1) then (wX5_become (x1.toNatClampNeg) x2 0 σ124 (fun σ134 => Q 1 σ134)) else (wX5_become (x1.toNatClampNeg) x2 x3 σ124 (fun σ132 => Q 1 σ132)))) else (Q (-14) σ124))) else (if x3 ≤ 40 then (if x2 = (-1) then (vp_in x1 4 ∧ (if x2 = (-1) then (wX5_become (x1.toNatClampNeg) x2 0 σ124 (fun σ139 => Q 1 σ139)) else (wX5_become (x1.toNatClampNeg) x2 x3 σ124 (fun σ137 => Q 1 σ137)))) else (if 0 ≤ x3 then (vp_in x1 4 ∧ (if x2 = (-1) then (wX5_become (x1.toNatClampNeg) x2 0 σ124 (fun σ144 => Q 1 σ144)) else (wX5_become (x1.toNatClampNeg) x2 x3 σ124 (fun σ142 => Q 1 σ142)))) else (Q (-14) σ124))) else (Q (-2) σ124)))))))
set_option maxRecDepth 20000 in
set_option maxHeartbeats 4000000 in
theorem kX7_sheet (hI : zInj tabX ad) (x1 : Int32) (x2 : Int32) (x3 : Int32)  (σ : zSt) (Q : Int32 → zSt → Prop) (h : wX7_sheet x1 x2 x3 σ Q) : zOkI l tabX D cA ad y 3 yX7_sheet cX7_sheet 4 (some .int) [.ref (ad 0), .int x1, .int x2, .int x3] σ Q := by
  refine zz_enter hI (by decide) (Nat.le_of_ble_eq_true rfl) (fun p e s m below meth c M => ?_)
  have M : zM p s m _ meth c cX7_sheet 4 RX7 (some .int) tabX D cA ad y := M
  refine zz_ls [(0, .ref (ad 0)), (1, .int x1), (2, .int x2), (3, .int x3)] rfl ?_
  unfold wX7_sheet at h
  refine zz_iload_n M 1 dX7_sheet_0 rfl rfl ?_
  refine zz_callSI (d' := 1) (As := [.int x1]) (rest := []) M l_X7_249 dX7_sheet_1 rfl rfl (by decide) (Nat.le_of_ble_eq_true rfl) (by have hI := M.2.2.2.2.2.2.2.2; exact kX7_isSheet hI _  _ _ h) (fun r101 σ102 h => ?_)
  refine zz_if_eq (y0 := 0) M 19 dX7_sheet_4 (by decide) (fun c => ?_) (fun c => ?_)
  · have h := zif (c := r101 = 0) h c
    refine zz_bipush (v := (-2)) M dX7_sheet_19 (by decide) ?_
    exact zz_iret M dX7_sheet_21 h
  · have h := zifn (c := r101 = 0) h c
    refine zz_iload_n M 2 dX7_sheet_7 rfl rfl ?_
    refine zz_iconst (v := (-1)) M dX7_sheet_8 (by decide) ?_
    refine zz_icmp_eq M 22 dX7_sheet_9 (by decide) (fun c => ?_) (fun c => ?_)
    · have h := zif (c := x2 = (-1)) h c
      refine zz_iload_n M 2 dX7_sheet_22 rfl rfl ?_
      refine zz_iconst (v := (-1)) M dX7_sheet_23 (by decide) ?_
      refine zz_icmp_eq M 36 dX7_sheet_24 (by decide) (fun c => ?_) (fun c => ?_)
      · have h := zif (c := x2 = (-1)) h c
        refine zz_iload_n M 2 dX7_sheet_36 rfl rfl ?_
        refine zz_iconst (v := (-1)) M dX7_sheet_37 (by decide) ?_
        refine zz_icmp_eq M 48 dX7_sheet_38 (by decide) (fun c => ?_) (fun c => ?_)
        · have h := zif (c := x2 = (-1)) h c
          refine zz_aload_n M 0 dX7_sheet_48 rfl rfl ?_
          refine zz_getR M f_X7_49 tX_0 rfl dX7_sheet_49 ?_
          refine zz_iload_n M 1 dX7_sheet_52 rfl rfl ?_
          have hq103 := h.1
          refine zz_aald M tX_23 (by decide) hq103 dX7_sheet_53 ?_
          have h := h.2
          refine zz_iload_n M 2 dX7_sheet_54 rfl rfl ?_
          refine zz_iload_n M 2 dX7_sheet_55 rfl rfl ?_
          refine zz_iconst (v := (-1)) M dX7_sheet_56 (by decide) ?_
          refine zz_icmp_ne M 64 dX7_sheet_57 (by decide) (fun c => ?_) (fun c => ?_)
          · have h := zifn (c := x2 = (-1)) h c
            refine zz_iload_n M 3 dX7_sheet_64 rfl rfl ?_
            refine zz_callVV (d' := 2) (As := [.int x2, .int x3]) (rest := []) M l_X7_255 (tX_Sheet (zclt hq103)) rfl rfl dX7_sheet_65 rfl rfl (by decide) (Nat.le_of_ble_eq_true rfl) (by have hI := M.2.2.2.2.2.2.2.2; exact kX5_become hI _ _ _ (zclt hq103) _ _ h) (fun σ105 h => ?_)
            refine zz_iconst (v := 1) M dX7_sheet_68 (by decide) ?_
            exact zz_iret M dX7_sheet_69 h
          · have h := zif (c := x2 = (-1)) h c
            refine zz_iconst (v := 0) M dX7_sheet_60 (by decide) ?_
            refine zz_goto M 65 dX7_sheet_61 (by decide) ?_
            refine zz_callVV (d' := 2) (As := [.int x2, .int 0]) (rest := []) M l_X7_255 (tX_Sheet (zclt hq103)) rfl rfl dX7_sheet_65 rfl rfl (by decide) (Nat.le_of_ble_eq_true rfl) (by have hI := M.2.2.2.2.2.2.2.2; exact kX5_become hI _ _ _ (zclt hq103) _ _ h) (fun σ107 h => ?_)
            refine zz_iconst (v := 1) M dX7_sheet_68 (by decide) ?_
            exact zz_iret M dX7_sheet_69 h
        · have h := zifn (c := x2 = (-1)) h c
          refine zz_iload_n M 3 dX7_sheet_41 rfl rfl ?_
          refine zz_if_ge (y0 := 0) M 48 dX7_sheet_42 (by decide) (fun c => ?_) (fun c => ?_)
          · have h := zif (c := 0 ≤ x3) h c
            refine zz_aload_n M 0 dX7_sheet_48 rfl rfl ?_
            refine zz_getR M f_X7_49 tX_0 rfl dX7_sheet_49 ?_
            refine zz_iload_n M 1 dX7_sheet_52 rfl rfl ?_
            have hq108 := h.1
            refine zz_aald M tX_23 (by decide) hq108 dX7_sheet_53 ?_
            have h := h.2
            refine zz_iload_n M 2 dX7_sheet_54 rfl rfl ?_
            refine zz_iload_n M 2 dX7_sheet_55 rfl rfl ?_
            refine zz_iconst (v := (-1)) M dX7_sheet_56 (by decide) ?_
            refine zz_icmp_ne M 64 dX7_sheet_57 (by decide) (fun c => ?_) (fun c => ?_)
            · have h := zifn (c := x2 = (-1)) h c
              refine zz_iload_n M 3 dX7_sheet_64 rfl rfl ?_
              refine zz_callVV (d' := 2) (As := [.int x2, .int x3]) (rest := []) M l_X7_255 (tX_Sheet (zclt hq108)) rfl rfl dX7_sheet_65 rfl rfl (by decide) (Nat.le_of_ble_eq_true rfl) (by have hI := M.2.2.2.2.2.2.2.2; exact kX5_become hI _ _ _ (zclt hq108) _ _ h) (fun σ110 h => ?_)
              refine zz_iconst (v := 1) M dX7_sheet_68 (by decide) ?_
              exact zz_iret M dX7_sheet_69 h
            · have h := zif (c := x2 = (-1)) h c
              refine zz_iconst (v := 0) M dX7_sheet_60 (by decide) ?_
              refine zz_goto M 65 dX7_sheet_61 (by decide) ?_
              refine zz_callVV (d' := 2) (As := [.int x2, .int 0]) (rest := []) M l_X7_255 (tX_Sheet (zclt hq108)) rfl rfl dX7_sheet_65 rfl rfl (by decide) (Nat.le_of_ble_eq_true rfl) (by have hI := M.2.2.2.2.2.2.2.2; exact kX5_become hI _ _ _ (zclt hq108) _ _ h) (fun σ112 h => ?_)
              refine zz_iconst (v := 1) M dX7_sheet_68 (by decide) ?_
              exact zz_iret M dX7_sheet_69 h
          · have h := zifn (c := 0 ≤ x3) h c
            refine zz_bipush (v := (-14)) M dX7_sheet_45 (by decide) ?_
            exact zz_iret M dX7_sheet_47 h
      · have h := zifn (c := x2 = (-1)) h c
        refine zz_iload_n M 3 dX7_sheet_27 rfl rfl ?_
        refine zz_bipush (v := 40) M dX7_sheet_28 (by decide) ?_
        refine zz_icmp_le M 36 dX7_sheet_30 (by decide) (fun c => ?_) (fun c => ?_)
        · have h := zif (c := x3 ≤ 40) h c
          refine zz_iload_n M 2 dX7_sheet_36 rfl rfl ?_
          refine zz_iconst (v := (-1)) M dX7_sheet_37 (by decide) ?_
          refine zz_icmp_eq M 48 dX7_sheet_38 (by decide) (fun c => ?_) (fun c => ?_)
          · have h := zif (c := x2 = (-1)) h c
            refine zz_aload_n M 0 dX7_sheet_48 rfl rfl ?_
            refine zz_getR M f_X7_49 tX_0 rfl dX7_sheet_49 ?_
            refine zz_iload_n M 1 dX7_sheet_52 rfl rfl ?_
            have hq113 := h.1
            refine zz_aald M tX_23 (by decide) hq113 dX7_sheet_53 ?_
            have h := h.2
            refine zz_iload_n M 2 dX7_sheet_54 rfl rfl ?_
            refine zz_iload_n M 2 dX7_sheet_55 rfl rfl ?_
            refine zz_iconst (v := (-1)) M dX7_sheet_56 (by decide) ?_
            refine zz_icmp_ne M 64 dX7_sheet_57 (by decide) (fun c => ?_) (fun c => ?_)
            · have h := zifn (c := x2 = (-1)) h c
              refine zz_iload_n M 3 dX7_sheet_64 rfl rfl ?_
              refine zz_callVV (d' := 2) (As := [.int x2, .int x3]) (rest := []) M l_X7_255 (tX_Sheet (zclt hq113)) rfl rfl dX7_sheet_65 rfl rfl (by decide) (Nat.le_of_ble_eq_true rfl) (by have hI := M.2.2.2.2.2.2.2.2; exact kX5_become hI _ _ _ (zclt hq113) _ _ h) (fun σ115 h => ?_)
              refine zz_iconst (v := 1) M dX7_sheet_68 (by decide) ?_
              exact zz_iret M dX7_sheet_69 h
            · have h := zif (c := x2 = (-1)) h c
              refine zz_iconst (v := 0) M dX7_sheet_60 (by decide) ?_
              refine zz_goto M 65 dX7_sheet_61 (by decide) ?_
              refine zz_callVV (d' := 2) (As := [.int x2, .int 0]) (rest := []) M l_X7_255 (tX_Sheet (zclt hq113)) rfl rfl dX7_sheet_65 rfl rfl (by decide) (Nat.le_of_ble_eq_true rfl) (by have hI := M.2.2.2.2.2.2.2.2; exact kX5_become hI _ _ _ (zclt hq113) _ _ h) (fun σ117 h => ?_)
              refine zz_iconst (v := 1) M dX7_sheet_68 (by decide) ?_
              exact zz_iret M dX7_sheet_69 h
          · have h := zifn (c := x2 = (-1)) h c
            refine zz_iload_n M 3 dX7_sheet_41 rfl rfl ?_
            refine zz_if_ge (y0 := 0) M 48 dX7_sheet_42 (by decide) (fun c => ?_) (fun c => ?_)
            · have h := zif (c := 0 ≤ x3) h c
              refine zz_aload_n M 0 dX7_sheet_48 rfl rfl ?_
              refine zz_getR M f_X7_49 tX_0 rfl dX7_sheet_49 ?_
              refine zz_iload_n M 1 dX7_sheet_52 rfl rfl ?_
              have hq118 := h.1
              refine zz_aald M tX_23 (by decide) hq118 dX7_sheet_53 ?_
              have h := h.2
              refine zz_iload_n M 2 dX7_sheet_54 rfl rfl ?_
              refine zz_iload_n M 2 dX7_sheet_55 rfl rfl ?_
              refine zz_iconst (v := (-1)) M dX7_sheet_56 (by decide) ?_
              refine zz_icmp_ne M 64 dX7_sheet_57 (by decide) (fun c => ?_) (fun c => ?_)
              · have h := zifn (c := x2 = (-1)) h c
                refine zz_iload_n M 3 dX7_sheet_64 rfl rfl ?_
                refine zz_callVV (d' := 2) (As := [.int x2, .int x3]) (rest := []) M l_X7_255 (tX_Sheet (zclt hq118)) rfl rfl dX7_sheet_65 rfl rfl (by decide) (Nat.le_of_ble_eq_true rfl) (by have hI := M.2.2.2.2.2.2.2.2; exact kX5_become hI _ _ _ (zclt hq118) _ _ h) (fun σ120 h => ?_)
                refine zz_iconst (v := 1) M dX7_sheet_68 (by decide) ?_
                exact zz_iret M dX7_sheet_69 h
              · have h := zif (c := x2 = (-1)) h c
                refine zz_iconst (v := 0) M dX7_sheet_60 (by decide) ?_
                refine zz_goto M 65 dX7_sheet_61 (by decide) ?_
                refine zz_callVV (d' := 2) (As := [.int x2, .int 0]) (rest := []) M l_X7_255 (tX_Sheet (zclt hq118)) rfl rfl dX7_sheet_65 rfl rfl (by decide) (Nat.le_of_ble_eq_true rfl) (by have hI := M.2.2.2.2.2.2.2.2; exact kX5_become hI _ _ _ (zclt hq118) _ _ h) (fun σ122 h => ?_)
                refine zz_iconst (v := 1) M dX7_sheet_68 (by decide) ?_
                exact zz_iret M dX7_sheet_69 h
            · have h := zifn (c := 0 ≤ x3) h c
              refine zz_bipush (v := (-14)) M dX7_sheet_45 (by decide) ?_
              exact zz_iret M dX7_sheet_47 h
        · have h := zifn (c := x3 ≤ 40) h c
          refine zz_bipush (v := (-2)) M dX7_sheet_33 (by decide) ?_
          exact zz_iret M dX7_sheet_35 h
    · have h := zifn (c := x2 = (-1)) h c
      refine zz_iload_n M 2 dX7_sheet_12 rfl rfl ?_
      refine zz_callSI (d' := 1) (As := [.int x2]) (rest := []) M l_X7_252 dX7_sheet_13 rfl rfl (by decide) (Nat.le_of_ble_eq_true rfl) (by have hI := M.2.2.2.2.2.2.2.2; exact kX7_isSheetSort hI _  _ _ h) (fun r123 σ124 h => ?_)
      refine zz_if_ne (y0 := 0) M 22 dX7_sheet_16 (by decide) (fun c => ?_) (fun c => ?_)
      · have h := zifn (c := r123 = 0) h c
        refine zz_iload_n M 2 dX7_sheet_22 rfl rfl ?_
        refine zz_iconst (v := (-1)) M dX7_sheet_23 (by decide) ?_
        refine zz_icmp_eq M 36 dX7_sheet_24 (by decide) (fun c => ?_) (fun c => ?_)
        · have h := zif (c := x2 = (-1)) h c
          refine zz_iload_n M 2 dX7_sheet_36 rfl rfl ?_
          refine zz_iconst (v := (-1)) M dX7_sheet_37 (by decide) ?_
          refine zz_icmp_eq M 48 dX7_sheet_38 (by decide) (fun c => ?_) (fun c => ?_)
          · have h := zif (c := x2 = (-1)) h c
            refine zz_aload_n M 0 dX7_sheet_48 rfl rfl ?_
            refine zz_getR M f_X7_49 tX_0 rfl dX7_sheet_49 ?_
            refine zz_iload_n M 1 dX7_sheet_52 rfl rfl ?_
            have hq125 := h.1
            refine zz_aald M tX_23 (by decide) hq125 dX7_sheet_53 ?_
            have h := h.2
            refine zz_iload_n M 2 dX7_sheet_54 rfl rfl ?_
            refine zz_iload_n M 2 dX7_sheet_55 rfl rfl ?_
            refine zz_iconst (v := (-1)) M dX7_sheet_56 (by decide) ?_
            refine zz_icmp_ne M 64 dX7_sheet_57 (by decide) (fun c => ?_) (fun c => ?_)
            · have h := zifn (c := x2 = (-1)) h c
              refine zz_iload_n M 3 dX7_sheet_64 rfl rfl ?_
              refine zz_callVV (d' := 2) (As := [.int x2, .int x3]) (rest := []) M l_X7_255 (tX_Sheet (zclt hq125)) rfl rfl dX7_sheet_65 rfl rfl (by decide) (Nat.le_of_ble_eq_true rfl) (by have hI := M.2.2.2.2.2.2.2.2; exact kX5_become hI _ _ _ (zclt hq125) _ _ h) (fun σ127 h => ?_)
              refine zz_iconst (v := 1) M dX7_sheet_68 (by decide) ?_
              exact zz_iret M dX7_sheet_69 h
            · have h := zif (c := x2 = (-1)) h c
              refine zz_iconst (v := 0) M dX7_sheet_60 (by decide) ?_
              refine zz_goto M 65 dX7_sheet_61 (by decide) ?_
              refine zz_callVV (d' := 2) (As := [.int x2, .int 0]) (rest := []) M l_X7_255 (tX_Sheet (zclt hq125)) rfl rfl dX7_sheet_65 rfl rfl (by decide) (Nat.le_of_ble_eq_true rfl) (by have hI := M.2.2.2.2.2.2.2.2; exact kX5_become hI _ _ _ (zclt hq125) _ _ h) (fun σ129 h => ?_)
              refine zz_iconst (v := 1) M dX7_sheet_68 (by decide) ?_
              exact zz_iret M dX7_sheet_69 h
          · have h := zifn (c := x2 = (-1)) h c
            refine zz_iload_n M 3 dX7_sheet_41 rfl rfl ?_
            refine zz_if_ge (y0 := 0) M 48 dX7_sheet_42 (by decide) (fun c => ?_) (fun c => ?_)
            · have h := zif (c := 0 ≤ x3) h c
              refine zz_aload_n M 0 dX7_sheet_48 rfl rfl ?_
              refine zz_getR M f_X7_49 tX_0 rfl dX7_sheet_49 ?_
              refine zz_iload_n M 1 dX7_sheet_52 rfl rfl ?_
              have hq130 := h.1
              refine zz_aald M tX_23 (by decide) hq130 dX7_sheet_53 ?_
              have h := h.2
              refine zz_iload_n M 2 dX7_sheet_54 rfl rfl ?_
              refine zz_iload_n M 2 dX7_sheet_55 rfl rfl ?_
              refine zz_iconst (v := (-1)) M dX7_sheet_56 (by decide) ?_
              refine zz_icmp_ne M 64 dX7_sheet_57 (by decide) (fun c => ?_) (fun c => ?_)
              · have h := zifn (c := x2 = (-1)) h c
                refine zz_iload_n M 3 dX7_sheet_64 rfl rfl ?_
                refine zz_callVV (d' := 2) (As := [.int x2, .int x3]) (rest := []) M l_X7_255 (tX_Sheet (zclt hq130)) rfl rfl dX7_sheet_65 rfl rfl (by decide) (Nat.le_of_ble_eq_true rfl) (by have hI := M.2.2.2.2.2.2.2.2; exact kX5_become hI _ _ _ (zclt hq130) _ _ h) (fun σ132 h => ?_)
                refine zz_iconst (v := 1) M dX7_sheet_68 (by decide) ?_
                exact zz_iret M dX7_sheet_69 h
              · have h := zif (c := x2 = (-1)) h c
                refine zz_iconst (v := 0) M dX7_sheet_60 (by decide) ?_
                refine zz_goto M 65 dX7_sheet_61 (by decide) ?_
                refine zz_callVV (d' := 2) (As := [.int x2, .int 0]) (rest := []) M l_X7_255 (tX_Sheet (zclt hq130)) rfl rfl dX7_sheet_65 rfl rfl (by decide) (Nat.le_of_ble_eq_true rfl) (by have hI := M.2.2.2.2.2.2.2.2; exact kX5_become hI _ _ _ (zclt hq130) _ _ h) (fun σ134 h => ?_)
                refine zz_iconst (v := 1) M dX7_sheet_68 (by decide) ?_
                exact zz_iret M dX7_sheet_69 h
            · have h := zifn (c := 0 ≤ x3) h c
              refine zz_bipush (v := (-14)) M dX7_sheet_45 (by decide) ?_
              exact zz_iret M dX7_sheet_47 h
        · have h := zifn (c := x2 = (-1)) h c
          refine zz_iload_n M 3 dX7_sheet_27 rfl rfl ?_
          refine zz_bipush (v := 40) M dX7_sheet_28 (by decide) ?_
          refine zz_icmp_le M 36 dX7_sheet_30 (by decide) (fun c => ?_) (fun c => ?_)
          · have h := zif (c := x3 ≤ 40) h c
            refine zz_iload_n M 2 dX7_sheet_36 rfl rfl ?_
            refine zz_iconst (v := (-1)) M dX7_sheet_37 (by decide) ?_
            refine zz_icmp_eq M 48 dX7_sheet_38 (by decide) (fun c => ?_) (fun c => ?_)
            · have h := zif (c := x2 = (-1)) h c
              refine zz_aload_n M 0 dX7_sheet_48 rfl rfl ?_
              refine zz_getR M f_X7_49 tX_0 rfl dX7_sheet_49 ?_
              refine zz_iload_n M 1 dX7_sheet_52 rfl rfl ?_
              have hq135 := h.1
              refine zz_aald M tX_23 (by decide) hq135 dX7_sheet_53 ?_
              have h := h.2
              refine zz_iload_n M 2 dX7_sheet_54 rfl rfl ?_
              refine zz_iload_n M 2 dX7_sheet_55 rfl rfl ?_
              refine zz_iconst (v := (-1)) M dX7_sheet_56 (by decide) ?_
              refine zz_icmp_ne M 64 dX7_sheet_57 (by decide) (fun c => ?_) (fun c => ?_)
              · have h := zifn (c := x2 = (-1)) h c
                refine zz_iload_n M 3 dX7_sheet_64 rfl rfl ?_
                refine zz_callVV (d' := 2) (As := [.int x2, .int x3]) (rest := []) M l_X7_255 (tX_Sheet (zclt hq135)) rfl rfl dX7_sheet_65 rfl rfl (by decide) (Nat.le_of_ble_eq_true rfl) (by have hI := M.2.2.2.2.2.2.2.2; exact kX5_become hI _ _ _ (zclt hq135) _ _ h) (fun σ137 h => ?_)
                refine zz_iconst (v := 1) M dX7_sheet_68 (by decide) ?_
                exact zz_iret M dX7_sheet_69 h
              · have h := zif (c := x2 = (-1)) h c
                refine zz_iconst (v := 0) M dX7_sheet_60 (by decide) ?_
                refine zz_goto M 65 dX7_sheet_61 (by decide) ?_
                refine zz_callVV (d' := 2) (As := [.int x2, .int 0]) (rest := []) M l_X7_255 (tX_Sheet (zclt hq135)) rfl rfl dX7_sheet_65 rfl rfl (by decide) (Nat.le_of_ble_eq_true rfl) (by have hI := M.2.2.2.2.2.2.2.2; exact kX5_become hI _ _ _ (zclt hq135) _ _ h) (fun σ139 h => ?_)
                refine zz_iconst (v := 1) M dX7_sheet_68 (by decide) ?_
                exact zz_iret M dX7_sheet_69 h
            · have h := zifn (c := x2 = (-1)) h c
              refine zz_iload_n M 3 dX7_sheet_41 rfl rfl ?_
              refine zz_if_ge (y0 := 0) M 48 dX7_sheet_42 (by decide) (fun c => ?_) (fun c => ?_)
              · have h := zif (c := 0 ≤ x3) h c
                refine zz_aload_n M 0 dX7_sheet_48 rfl rfl ?_
                refine zz_getR M f_X7_49 tX_0 rfl dX7_sheet_49 ?_
                refine zz_iload_n M 1 dX7_sheet_52 rfl rfl ?_
                have hq140 := h.1
                refine zz_aald M tX_23 (by decide) hq140 dX7_sheet_53 ?_
                have h := h.2
                refine zz_iload_n M 2 dX7_sheet_54 rfl rfl ?_
                refine zz_iload_n M 2 dX7_sheet_55 rfl rfl ?_
                refine zz_iconst (v := (-1)) M dX7_sheet_56 (by decide) ?_
                refine zz_icmp_ne M 64 dX7_sheet_57 (by decide) (fun c => ?_) (fun c => ?_)
                · have h := zifn (c := x2 = (-1)) h c
                  refine zz_iload_n M 3 dX7_sheet_64 rfl rfl ?_
                  refine zz_callVV (d' := 2) (As := [.int x2, .int x3]) (rest := []) M l_X7_255 (tX_Sheet (zclt hq140)) rfl rfl dX7_sheet_65 rfl rfl (by decide) (Nat.le_of_ble_eq_true rfl) (by have hI := M.2.2.2.2.2.2.2.2; exact kX5_become hI _ _ _ (zclt hq140) _ _ h) (fun σ142 h => ?_)
                  refine zz_iconst (v := 1) M dX7_sheet_68 (by decide) ?_
                  exact zz_iret M dX7_sheet_69 h
                · have h := zif (c := x2 = (-1)) h c
                  refine zz_iconst (v := 0) M dX7_sheet_60 (by decide) ?_
                  refine zz_goto M 65 dX7_sheet_61 (by decide) ?_
                  refine zz_callVV (d' := 2) (As := [.int x2, .int 0]) (rest := []) M l_X7_255 (tX_Sheet (zclt hq140)) rfl rfl dX7_sheet_65 rfl rfl (by decide) (Nat.le_of_ble_eq_true rfl) (by have hI := M.2.2.2.2.2.2.2.2; exact kX5_become hI _ _ _ (zclt hq140) _ _ h) (fun σ144 h => ?_)
                  refine zz_iconst (v := 1) M dX7_sheet_68 (by decide) ?_
                  exact zz_iret M dX7_sheet_69 h
              · have h := zifn (c := 0 ≤ x3) h c
                refine zz_bipush (v := (-14)) M dX7_sheet_45 (by decide) ?_
                exact zz_iret M dX7_sheet_47 h
          · have h := zifn (c := x3 ≤ 40) h c
            refine zz_bipush (v := (-2)) M dX7_sheet_33 (by decide) ?_
            exact zz_iret M dX7_sheet_35 h
      · have h := zif (c := r123 = 0) h c
        refine zz_bipush (v := (-2)) M dX7_sheet_19 (by decide) ?_
        exact zz_iret M dX7_sheet_21 h
def wX5_holds (i0 : Nat) (x1 : Int32) (x2 : Int32) (σ : zSt) (Q : Int32 → zSt → Prop) : Prop := if x1 < 0 then (Q 0 σ) else (if x2 < 0 then (Q 0 σ) else (if ((σ.1 (61 + i0) 2) - x2) < x1 then (Q 0 σ) else (Q 1 σ)))
set_option maxRecDepth 20000 in
set_option maxHeartbeats 4000000 in
theorem kX5_holds (hI : zInj tabX ad) (i0 : Nat) (x1 : Int32) (x2 : Int32) (hi0 : i0 < 4) (σ : zSt) (Q : Int32 → zSt → Prop) (h : wX5_holds i0 x1 x2 σ Q) : zOkI l tabX D cA ad y 1 yX5_holds cX5_holds 3 (some .boolean) [.ref (ad (61 + i0)), .int x1, .int x2] σ Q := by
  refine zz_enter hI (by decide) (Nat.le_of_ble_eq_true rfl) (fun p e s m below meth c M => ?_)
  have M : zM p s m _ meth c cX5_holds 3 RX5 (some .boolean) tabX D cA ad y := M
  refine zz_ls [(0, .ref (ad (61 + i0))), (1, .int x1), (2, .int x2)] rfl ?_
  unfold wX5_holds at h
  refine zz_iload_n M 1 dX5_holds_0 rfl rfl ?_
  refine zz_if_lt (y0 := 0) M 22 dX5_holds_1 (by decide) (fun c => ?_) (fun c => ?_)
  · have h := zif (c := x1 < 0) h c
    refine zz_iconst (v := 0) M dX5_holds_22 (by decide) ?_
    exact zz_zret M dX5_holds_23 (Or.inl rfl) h
  · have h := zifn (c := x1 < 0) h c
    refine zz_iload_n M 2 dX5_holds_4 rfl rfl ?_
    refine zz_if_lt (y0 := 0) M 22 dX5_holds_5 (by decide) (fun c => ?_) (fun c => ?_)
    · have h := zif (c := x2 < 0) h c
      refine zz_iconst (v := 0) M dX5_holds_22 (by decide) ?_
      exact zz_zret M dX5_holds_23 (Or.inl rfl) h
    · have h := zifn (c := x2 < 0) h c
      refine zz_iload_n M 1 dX5_holds_8 rfl rfl ?_
      refine zz_aload_n M 0 dX5_holds_9 rfl rfl ?_
      refine zz_getI M f_X5_19 (tX_Sheet hi0) rfl dX5_holds_10 ?_
      refine zz_iload_n M 2 dX5_holds_13 rfl rfl ?_
      refine zz_isub M dX5_holds_14 ?_
      refine zz_icmp_gt M 22 dX5_holds_15 (by decide) (fun c => ?_) (fun c => ?_)
      · have h := zif (c := ((σ.1 (61 + i0) 2) - x2) < x1) h c
        refine zz_iconst (v := 0) M dX5_holds_22 (by decide) ?_
        exact zz_zret M dX5_holds_23 (Or.inl rfl) h
      · have h := zifn (c := ((σ.1 (61 + i0) 2) - x2) < x1) h c
        refine zz_iconst (v := 1) M dX5_holds_18 (by decide) ?_
        refine zz_goto M 23 dX5_holds_19 (by decide) ?_
        exact zz_zret M dX5_holds_23 (Or.inr rfl) h
def wX7_cell (x1 : Int32) (x2 : Int32) (x3 : Int32) (σ : zSt) (Q : Int32 → zSt → Prop) : Prop := wX7_isSheet x1 σ (fun r101 σ102 => if r101 = 0 then (Q (-2) σ102) else (vp_in x1 4 ∧ (if (σ102.1 (61 + x1.toNatClampNeg) 1) = (-1) then (Q (-11) σ102) else (wX5_holds (x1.toNatClampNeg) x2 1 σ102 (fun r104 σ105 => if r104 = 0 then (Q (-12) σ105) else (if (σ105.1 (61 + x1.toNatClampNeg) 1) = 0 then (vp_in x2 40 ∧ (∀ σ108 : zSt, σ108 = zput σ105 (65 + x1.toNatClampNeg) x2.toNatClampNeg ((x3 : Int32).toInt8.toInt32) → (Q 1 σ108))) else (if (σ105.1 (61 + x1.toNatClampNeg) 1) = 1 then (vp_in x2 40 ∧ (∀ σ107 : zSt, σ107 = zput σ105 (65 + x1.toNatClampNeg) x2.toNatClampNeg ((x3 : Int32).toInt16.toInt32) → (Q 1 σ107))) else (vp_in x2 40 ∧ (∀ σ106 : zSt, σ106 = zput σ105 (65 + x1.toNatClampNeg) x2.toNatClampNeg x3 → (Q 1 σ106))))))))))
set_option maxRecDepth 20000 in
set_option maxHeartbeats 4000000 in
theorem kX7_cell (hI : zInj tabX ad) (x1 : Int32) (x2 : Int32) (x3 : Int32)  (σ : zSt) (Q : Int32 → zSt → Prop) (h : wX7_cell x1 x2 x3 σ Q) : zOkI l tabX D cA ad y 2 yX7_cell cX7_cell 5 (some .int) [.ref (ad 0), .int x1, .int x2, .int x3] σ Q := by
  refine zz_enter hI (by decide) (Nat.le_of_ble_eq_true rfl) (fun p e s m below meth c M => ?_)
  have M : zM p s m _ meth c cX7_cell 5 RX7 (some .int) tabX D cA ad y := M
  refine zz_ls [(0, .ref (ad 0)), (1, .int x1), (2, .int x2), (3, .int x3)] rfl ?_
  unfold wX7_cell at h
  refine zz_iload_n M 1 dX7_cell_0 rfl rfl ?_
  refine zz_callSI (d' := 1) (As := [.int x1]) (rest := []) M l_X7_249 dX7_cell_1 rfl rfl (by decide) (Nat.le_of_ble_eq_true rfl) (by have hI := M.2.2.2.2.2.2.2.2; exact kX7_isSheet hI _  _ _ h) (fun r101 σ102 h => ?_)
  refine zz_if_ne (y0 := 0) M 10 dX7_cell_4 (by decide) (fun c => ?_) (fun c => ?_)
  · have h := zifn (c := r101 = 0) h c
    refine zz_aload_n M 0 dX7_cell_10 rfl rfl ?_
    refine zz_getR M f_X7_49 tX_0 rfl dX7_cell_11 ?_
    refine zz_iload_n M 1 dX7_cell_14 rfl rfl ?_
    have hq103 := h.1
    refine zz_aald M tX_23 (by decide) hq103 dX7_cell_15 ?_
    have h := h.2
    refine zz_astore M [(4, .ref (ad (61 + x1.toNatClampNeg))), (0, .ref (ad 0)), (1, .int x1), (2, .int x2), (3, .int x3)] dX7_cell_16 (by decide) rfl ?_
    refine zz_aload M 0 dX7_cell_18 rfl ?_
    refine zz_getI M f_X7_259 (tX_Sheet (zclt hq103)) rfl dX7_cell_20 ?_
    refine zz_iconst (v := (-1)) M dX7_cell_23 (by decide) ?_
    refine zz_icmp_ne M 30 dX7_cell_24 (by decide) (fun c => ?_) (fun c => ?_)
    · have h := zifn (c := (σ102.1 (61 + x1.toNatClampNeg) 1) = (-1)) h c
      refine zz_aload M 0 dX7_cell_30 rfl ?_
      refine zz_iload_n M 3 dX7_cell_32 rfl rfl ?_
      refine zz_iconst (v := 1) M dX7_cell_33 (by decide) ?_
      refine zz_callVI (d' := 1) (As := [.int x2, .int 1]) (rest := []) M l_X7_262 (tX_Sheet (zclt hq103)) rfl rfl dX7_cell_34 rfl rfl (by decide) (Nat.le_of_ble_eq_true rfl) (by have hI := M.2.2.2.2.2.2.2.2; exact kX5_holds hI _ _ _ (zclt hq103) _ _ h) (fun r104 σ105 h => ?_)
      refine zz_if_ne (y0 := 0) M 43 dX7_cell_37 (by decide) (fun c => ?_) (fun c => ?_)
      · have h := zifn (c := r104 = 0) h c
        refine zz_aload M 0 dX7_cell_43 rfl ?_
        refine zz_getR M f_X7_225 (tX_Sheet (zclt hq103)) rfl dX7_cell_45 ?_
        refine zz_iload_n M 3 dX7_cell_48 rfl rfl ?_
        refine zz_aload M 0 dX7_cell_49 rfl ?_
        refine zz_getI M f_X7_259 (tX_Sheet (zclt hq103)) rfl dX7_cell_51 ?_
        refine zz_if_ne (y0 := 0) M 62 dX7_cell_54 (by decide) (fun c => ?_) (fun c => ?_)
        · have h := zifn (c := (σ105.1 (61 + x1.toNatClampNeg) 1) = 0) h c
          refine zz_aload M 0 dX7_cell_62 rfl ?_
          refine zz_getI M f_X7_259 (tX_Sheet (zclt hq103)) rfl dX7_cell_64 ?_
          refine zz_iconst (v := 1) M dX7_cell_67 (by decide) ?_
          refine zz_icmp_ne M 76 dX7_cell_68 (by decide) (fun c => ?_) (fun c => ?_)
          · have h := zifn (c := (σ105.1 (61 + x1.toNatClampNeg) 1) = 1) h c
            refine zz_iload_n M 4 dX7_cell_76 rfl rfl ?_
            refine zz_iast M (tX_Sheet_cells (zclt hq103)) h.1 dX7_cell_77 ?_
            have h := h.2
            refine zz_sg (fun σ106 eσ106 => ?_)
            have h := h σ106 eσ106
            refine zz_iconst (v := 1) M dX7_cell_78 (by decide) ?_
            exact zz_iret M dX7_cell_79 h
          · have h := zif (c := (σ105.1 (61 + x1.toNatClampNeg) 1) = 1) h c
            refine zz_iload_n M 4 dX7_cell_71 rfl rfl ?_
            refine zz_i2s M dX7_cell_72 ?_
            refine zz_goto M 77 dX7_cell_73 (by decide) ?_
            refine zz_iast M (tX_Sheet_cells (zclt hq103)) h.1 dX7_cell_77 ?_
            have h := h.2
            refine zz_sg (fun σ107 eσ107 => ?_)
            have h := h σ107 eσ107
            refine zz_iconst (v := 1) M dX7_cell_78 (by decide) ?_
            exact zz_iret M dX7_cell_79 h
        · have h := zif (c := (σ105.1 (61 + x1.toNatClampNeg) 1) = 0) h c
          refine zz_iload_n M 4 dX7_cell_57 rfl rfl ?_
          refine zz_i2b M dX7_cell_58 ?_
          refine zz_goto M 77 dX7_cell_59 (by decide) ?_
          refine zz_iast M (tX_Sheet_cells (zclt hq103)) h.1 dX7_cell_77 ?_
          have h := h.2
          refine zz_sg (fun σ108 eσ108 => ?_)
          have h := h σ108 eσ108
          refine zz_iconst (v := 1) M dX7_cell_78 (by decide) ?_
          exact zz_iret M dX7_cell_79 h
      · have h := zif (c := r104 = 0) h c
        refine zz_bipush (v := (-12)) M dX7_cell_40 (by decide) ?_
        exact zz_iret M dX7_cell_42 h
    · have h := zif (c := (σ102.1 (61 + x1.toNatClampNeg) 1) = (-1)) h c
      refine zz_bipush (v := (-11)) M dX7_cell_27 (by decide) ?_
      exact zz_iret M dX7_cell_29 h
  · have h := zif (c := r101 = 0) h c
    refine zz_bipush (v := (-2)) M dX7_cell_7 (by decide) ?_
    exact zz_iret M dX7_cell_9 h
def wX7_copy (x1 : Int32) (x2 : Int32) (x3 : Int32) (x4 : Int32) (x5 : Int32) (σ : zSt) (Q : Int32 → zSt → Prop) : Prop := wX7_isSheet x1 σ (fun r101 σ102 => if r101 = 0 then (Q (-2) σ102) else (wX7_isSheet x3 σ102 (fun r103 σ104 => if r103 = 0 then (Q (-2) σ104) else (vp_in x1 4 ∧ (vp_in x3 4 ∧ (if (σ104.1 (61 + x1.toNatClampNeg) 1) = (-1) then (Q (-11) σ104) else (if (σ104.1 (61 + x3.toNatClampNeg) 1) = (-1) then (Q (-11) σ104) else (if (σ104.1 (61 + x1.toNatClampNeg) 1) = (σ104.1 (61 + x3.toNatClampNeg) 1) then (wX5_holds (x1.toNatClampNeg) x2 x5 σ104 (fun r107 σ108 => if r107 = 0 then (Q (-12) σ108) else (wX5_holds (x3.toNatClampNeg) x4 x5 σ108 (fun r109 σ110 => if r109 = 0 then (Q (-12) σ110) else (((¬ x2 < 0 ∧ ¬ x4 < 0 ∧ ¬ x5 < 0) ∧ (x2 : Int32).toNatClampNeg + (x5 : Int32).toNatClampNeg ≤ 40 ∧ (x4 : Int32).toNatClampNeg + (x5 : Int32).toNatClampNeg ≤ 40) ∧ (∀ σ111 : zSt, σ111 = zcopy σ110 (65 + x1.toNatClampNeg) (x2 : Int32).toNatClampNeg (65 + x3.toNatClampNeg) (x4 : Int32).toNatClampNeg (x5 : Int32).toNatClampNeg → (Q x5 σ111))))))) else (Q (-13) σ104)))))))))
set_option maxRecDepth 20000 in
set_option maxHeartbeats 4000000 in
theorem kX7_copy (hI : zInj tabX ad) (x1 : Int32) (x2 : Int32) (x3 : Int32) (x4 : Int32) (x5 : Int32)  (σ : zSt) (Q : Int32 → zSt → Prop) (h : wX7_copy x1 x2 x3 x4 x5 σ Q) : zOkI l tabX D cA ad y 2 yX7_copy cX7_copy 8 (some .int) [.ref (ad 0), .int x1, .int x2, .int x3, .int x4, .int x5] σ Q := by
  refine zz_enter hI (by decide) (Nat.le_of_ble_eq_true rfl) (fun p e s m below meth c M => ?_)
  have M : zM p s m _ meth c cX7_copy 8 RX7 (some .int) tabX D cA ad y := M
  refine zz_ls [(0, .ref (ad 0)), (1, .int x1), (2, .int x2), (3, .int x3), (4, .int x4), (5, .int x5)] rfl ?_
  unfold wX7_copy at h
  refine zz_iload_n M 1 dX7_copy_0 rfl rfl ?_
  refine zz_callSI (d' := 1) (As := [.int x1]) (rest := []) M l_X7_249 dX7_copy_1 rfl rfl (by decide) (Nat.le_of_ble_eq_true rfl) (by have hI := M.2.2.2.2.2.2.2.2; exact kX7_isSheet hI _  _ _ h) (fun r101 σ102 h => ?_)
  refine zz_if_eq (y0 := 0) M 14 dX7_copy_4 (by decide) (fun c => ?_) (fun c => ?_)
  · have h := zif (c := r101 = 0) h c
    refine zz_bipush (v := (-2)) M dX7_copy_14 (by decide) ?_
    exact zz_iret M dX7_copy_16 h
  · have h := zifn (c := r101 = 0) h c
    refine zz_iload_n M 3 dX7_copy_7 rfl rfl ?_
    refine zz_callSI (d' := 1) (As := [.int x3]) (rest := []) M l_X7_249 dX7_copy_8 rfl rfl (by decide) (Nat.le_of_ble_eq_true rfl) (by have hI := M.2.2.2.2.2.2.2.2; exact kX7_isSheet hI _  _ _ h) (fun r103 σ104 h => ?_)
    refine zz_if_ne (y0 := 0) M 17 dX7_copy_11 (by decide) (fun c => ?_) (fun c => ?_)
    · have h := zifn (c := r103 = 0) h c
      refine zz_aload_n M 0 dX7_copy_17 rfl rfl ?_
      refine zz_getR M f_X7_49 tX_0 rfl dX7_copy_18 ?_
      refine zz_iload_n M 1 dX7_copy_21 rfl rfl ?_
      have hq105 := h.1
      refine zz_aald M tX_23 (by decide) hq105 dX7_copy_22 ?_
      have h := h.2
      refine zz_astore M [(6, .ref (ad (61 + x1.toNatClampNeg))), (0, .ref (ad 0)), (1, .int x1), (2, .int x2), (3, .int x3), (4, .int x4), (5, .int x5)] dX7_copy_23 (by decide) rfl ?_
      refine zz_aload_n M 1 dX7_copy_25 rfl rfl ?_
      refine zz_getR M f_X7_49 tX_0 rfl dX7_copy_26 ?_
      refine zz_iload_n M 4 dX7_copy_29 rfl rfl ?_
      have hq106 := h.1
      refine zz_aald M tX_23 (by decide) hq106 dX7_copy_30 ?_
      have h := h.2
      refine zz_astore M [(7, .ref (ad (61 + x3.toNatClampNeg))), (6, .ref (ad (61 + x1.toNatClampNeg))), (0, .ref (ad 0)), (1, .int x1), (2, .int x2), (3, .int x3), (4, .int x4), (5, .int x5)] dX7_copy_31 (by decide) rfl ?_
      refine zz_aload M 1 dX7_copy_33 rfl ?_
      refine zz_getI M f_X7_259 (tX_Sheet (zclt hq105)) rfl dX7_copy_35 ?_
      refine zz_iconst (v := (-1)) M dX7_copy_38 (by decide) ?_
      refine zz_icmp_eq M 51 dX7_copy_39 (by decide) (fun c => ?_) (fun c => ?_)
      · have h := zif (c := (σ104.1 (61 + x1.toNatClampNeg) 1) = (-1)) h c
        refine zz_bipush (v := (-11)) M dX7_copy_51 (by decide) ?_
        exact zz_iret M dX7_copy_53 h
      · have h := zifn (c := (σ104.1 (61 + x1.toNatClampNeg) 1) = (-1)) h c
        refine zz_aload M 0 dX7_copy_42 rfl ?_
        refine zz_getI M f_X7_259 (tX_Sheet (zclt hq106)) rfl dX7_copy_44 ?_
        refine zz_iconst (v := (-1)) M dX7_copy_47 (by decide) ?_
        refine zz_icmp_ne M 54 dX7_copy_48 (by decide) (fun c => ?_) (fun c => ?_)
        · have h := zifn (c := (σ104.1 (61 + x3.toNatClampNeg) 1) = (-1)) h c
          refine zz_aload M 1 dX7_copy_54 rfl ?_
          refine zz_getI M f_X7_259 (tX_Sheet (zclt hq105)) rfl dX7_copy_56 ?_
          refine zz_aload M 0 dX7_copy_59 rfl ?_
          refine zz_getI M f_X7_259 (tX_Sheet (zclt hq106)) rfl dX7_copy_61 ?_
          refine zz_icmp_eq M 70 dX7_copy_64 (by decide) (fun c => ?_) (fun c => ?_)
          · have h := zif (c := (σ104.1 (61 + x1.toNatClampNeg) 1) = (σ104.1 (61 + x3.toNatClampNeg) 1)) h c
            refine zz_aload M 1 dX7_copy_70 rfl ?_
            refine zz_iload_n M 4 dX7_copy_72 rfl rfl ?_
            refine zz_iload M 7 dX7_copy_73 rfl ?_
            refine zz_callVI (d' := 1) (As := [.int x2, .int x5]) (rest := []) M l_X7_262 (tX_Sheet (zclt hq105)) rfl rfl dX7_copy_75 rfl rfl (by decide) (Nat.le_of_ble_eq_true rfl) (by have hI := M.2.2.2.2.2.2.2.2; exact kX5_holds hI _ _ _ (zclt hq105) _ _ h) (fun r107 σ108 h => ?_)
            refine zz_if_eq (y0 := 0) M 93 dX7_copy_78 (by decide) (fun c => ?_) (fun c => ?_)
            · have h := zif (c := r107 = 0) h c
              refine zz_bipush (v := (-12)) M dX7_copy_93 (by decide) ?_
              exact zz_iret M dX7_copy_95 h
            · have h := zifn (c := r107 = 0) h c
              refine zz_aload M 0 dX7_copy_81 rfl ?_
              refine zz_iload M 6 dX7_copy_83 rfl ?_
              refine zz_iload M 7 dX7_copy_85 rfl ?_
              refine zz_callVI (d' := 1) (As := [.int x4, .int x5]) (rest := []) M l_X7_262 (tX_Sheet (zclt hq106)) rfl rfl dX7_copy_87 rfl rfl (by decide) (Nat.le_of_ble_eq_true rfl) (by have hI := M.2.2.2.2.2.2.2.2; exact kX5_holds hI _ _ _ (zclt hq106) _ _ h) (fun r109 σ110 h => ?_)
              refine zz_if_ne (y0 := 0) M 96 dX7_copy_90 (by decide) (fun c => ?_) (fun c => ?_)
              · have h := zifn (c := r109 = 0) h c
                refine zz_aload M 1 dX7_copy_96 rfl ?_
                refine zz_getR M f_X7_225 (tX_Sheet (zclt hq105)) rfl dX7_copy_98 ?_
                refine zz_iload_n M 4 dX7_copy_101 rfl rfl ?_
                refine zz_aload M 0 dX7_copy_102 rfl ?_
                refine zz_getR M f_X7_225 (tX_Sheet (zclt hq106)) rfl dX7_copy_104 ?_
                refine zz_iload M 6 dX7_copy_107 rfl ?_
                refine zz_iload M 7 dX7_copy_109 rfl ?_
                refine zz_copy M l_X7_194 zarrcopy (tX_Sheet_cells (zclt hq105)) (tX_Sheet_cells (zclt hq106)) (by decide) (Nat.le_of_ble_eq_true rfl) dX7_copy_111 h.1 ?_
                have h := h.2
                refine zz_sg (fun σ111 eσ111 => ?_)
                have h := h σ111 eσ111
                refine zz_iload M 7 dX7_copy_114 rfl ?_
                exact zz_iret M dX7_copy_116 h
              · have h := zif (c := r109 = 0) h c
                refine zz_bipush (v := (-12)) M dX7_copy_93 (by decide) ?_
                exact zz_iret M dX7_copy_95 h
          · have h := zifn (c := (σ104.1 (61 + x1.toNatClampNeg) 1) = (σ104.1 (61 + x3.toNatClampNeg) 1)) h c
            refine zz_bipush (v := (-13)) M dX7_copy_67 (by decide) ?_
            exact zz_iret M dX7_copy_69 h
        · have h := zif (c := (σ104.1 (61 + x3.toNatClampNeg) 1) = (-1)) h c
          refine zz_bipush (v := (-11)) M dX7_copy_51 (by decide) ?_
          exact zz_iret M dX7_copy_53 h
    · have h := zif (c := r103 = 0) h c
      refine zz_bipush (v := (-2)) M dX7_copy_14 (by decide) ?_
      exact zz_iret M dX7_copy_16 h
end
