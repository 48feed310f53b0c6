section
variable {p : Program} {l : Launch} {e : Env} {s : State} {m : MethodId} {args : Array Value} {below : List Frame} {meth : Method} {c : Code} {D : va_G} {cA : Nat → ClassId} {ad : Nat → Nat} {y : zX}
def wX7_sheet (x1 : Int32) (x2 : Int32) (x3 : Int32) (σ : zSt) (Q : Int32 → zSt → Prop) : Prop := wX7_isSheet x1 σ (fun r101 σ102 => if r101 = 0 then (Q (-2) σ102) else (if x2 = (-1) then (if x2 = (-1) then (if x2 = (-1) then (vp_in x1 4 ∧ (if x2 = (-1) then (wX5_become (x1.toNatClampNeg) x2 0 σ102 (fun σ107 => Q 1 σ107)) else (wX5_become (x1.toNatClampNeg) x2 x3 σ102 (fun σ105 => Q 1 σ105)))) else (if 0 ≤ x3 then (vp_in x1 4 ∧ (if x2 = (-1) then (wX5_become (x1.toNatClampNeg) x2 0 σ102 (fun σ112 => Q 1 σ112)) else (wX5_become (x1.toNatClampNeg) x2 x3 σ102 (fun σ110 => Q 1 σ110)))) else (Q (-14) σ102))) else (if x3 ≤ 40 then (if x2 = (-1) then (vp_in x1 4 ∧ (if x2 = (-1) then (wX5_become (x1.toNatClampNeg) x2 0 σ102 (fun σ117 => Q 1 σ117)) else (wX5_become (x1.toNatClampNeg) x2 x3 σ102 (fun σ115 => Q 1 σ115)))) else (if 0 ≤ x3 then (vp_in x1 4 ∧ (if x2 = (-1) then (wX5_become (x1.toNatClampNeg) x2 0 σ102 (fun σ122 => Q 1 σ122)) else (wX5_become (x1.toNatClampNeg) x2 x3 σ102 (fun σ120 => Q 1 σ120)))) else (Q (-14) σ102))) else (Q (-2) σ102))) else (wX7_isSheetSort x2 σ102 (fun r123 σ124 => if r123 = 0 then (Q (-2) σ124) else (if x2 = (-1) then (if x2 = (-1) then (vp_in x1 4 ∧ (if x2 = (-1) then (wX5_become (x1.toNatClampNeg) x2 0 σ124 (fun σ129 => Q 1 σ129)) else (wX5_become (x1.toNatClampNeg) x2 x3 σ124 (fun σ127 => Q 1 σ127)))) else (if 0 ≤ x3 then (vp_in x1 4 ∧ (if x2 = (-1) then (wX5_become (x1.toNatClampNeg) x2 0 σ124 (fun σ134 => Q 1 σ134)) else (wX5_become (x1.toNatClampNeg) x2 x3 σ124 (fun σ132 => Q 1 σ132)))) else (Q (-14) σ124))) else (if x3 ≤ 40 then (if x2 = (-1) then (vp_in x1 4 ∧ (if x2 = (-1) then (wX5_become (x1.toNatClampNeg) x2 0 σ124 (fun σ139 => Q 1 σ139)) else (wX5_become (x1.toNatClampNeg) x2 x3 σ124 (fun σ137 => Q 1 σ137)))) else (if 0 ≤ x3 then (vp_in x1 4 ∧ (if x2 = (-1) then (wX5_become (x1.toNatClampNeg) x2 0 σ124 (fun σ144 => Q 1 σ144)) else (wX5_become (x1.toNatClampNeg) x2 x3 σ124 (fun σ142 => Q 1 σ142)))) else (Q (-14) σ124))) else (Q (-2) σ124)))))))
set_option maxRecDepth 20000 in
set_option maxHeartbeats 4000000 in
theorem kX7_sheet (hI : zInj tabX ad) (x1 : Int32) (x2 : Int32) (x3 : Int32)  (σ : zSt) (Q : Int32 → zSt → Prop) (h : wX7_sheet x1 x2 x3 σ Q) : zOkI l tabX D cA ad y 3 yX7_sheet cX7_sheet 4 (some .int) [.ref (ad 0), .int x1, .int x2, .int x3] σ Q := by
  refine zz_enter hI (by decide) (Nat.le_of_ble_eq_true rfl) (fun p e s m below meth c M => ?_)
  have M : zM p s m _ meth c cX7_sheet 4 RX7 (some .int) tabX D cA ad y := M
  refine zz_ls [(0, .ref (ad 0)), (1, .int x1), (2, .int x2), (3, .int x3)] rfl ?_
  unfold wX7_sheet at h
  refine zz_iload_n M 1 dX7_sheet_0 rfl rfl ?_
  refine zz_callSI (d' := 1) (As := [.int x1]) (rest := []) M l_X7_249 dX7_sheet_1 rfl rfl (by decide) (Nat.le_of_ble_eq_true rfl) (by have hI := M.2.2.2.2.2.2.2.2; exact kX7_isSheet hI _  _ _ h) (fun r101 σ102 h => ?_)
  refine zz_if_eq (y0 := 0) M 19 dX7_sheet_4 (by decide) (fun c => ?_) (fun c => ?_)
  · have h := zif (c := r101 = 0) h c
    refine zz_bipush (v := (-2)) M dX7_sheet_19 (by decide) ?_
    exact zz_iret M dX7_sheet_21 h
  · have h := zifn (c := r101 = 0) h c
    refine zz_iload_n M 2 dX7_sheet_7 rfl rfl ?_
    refine zz_iconst (v := (-1)) M dX7_sheet_8 (by decide) ?_
    refine zz_icmp_eq M 22 dX7_sheet_9 (by decide) (fun c => ?_) (fun c => ?_)
    · have h := zif (c := x2 = (-1)) h c
      refine zz_iload_n M 2 dX7_sheet_22 rfl rfl ?_
      refine zz_iconst (v := (-1)) M dX7_sheet_23 (by decide) ?_
      refine zz_icmp_eq M 36 dX7_sheet_24 (by decide) (fun c => ?_) (fun c => ?_)
      · have h := zif (c := x2 = (-1)) h c
        refine zz_iload_n M 2 dX7_sheet_36 rfl rfl ?_
        refine zz_iconst (v := (-1)) M dX7_sheet_37 (by decide) ?_
        refine zz_icmp_eq M 48 dX7_sheet_38 (by decide) (fun c => ?_) (fun c => ?_)
        · have h := zif (c := x2 = (-1)) h c
          refine zz_aload_n M 0 dX7_sheet_48 rfl rfl ?_
          refine zz_getR M f_X7_49 tX_0 rfl dX7_sheet_49 ?_
          refine zz_iload_n M 1 dX7_sheet_52 rfl rfl ?_
          have hq103 := h.1
          refine zz_aald M tX_23 (by decide) hq103 dX7_sheet_53 ?_
          have h := h.2
          refine zz_iload_n M 2 dX7_sheet_54 rfl rfl ?_
          refine zz_iload_n M 2 dX7_sheet_55 rfl rfl ?_
          refine zz_iconst (v := (-1)) M dX7_sheet_56 (by decide) ?_
          refine zz_icmp_ne M 64 dX7_sheet_57 (by decide) (fun c => ?_) (fun c => ?_)
          · have h := zifn (c := x2 = (-1)) h c
            refine zz_iload_n M 3 dX7_sheet_64 rfl rfl ?_
            refine zz_callVV (d' := 2) (As := [.int x2, .int x3]) (rest := []) M l_X7_255 (tX_Sheet (zclt hq103)) rfl rfl dX7_sheet_65 rfl rfl (by decide) (Nat.le_of_ble_eq_true rfl) (by have hI := M.2.2.2.2.2.2.2.2; exact kX5_become hI _ _ _ (zclt hq103) _ _ h) (fun σ105 h => ?_)
            refine zz_iconst (v := 1) M dX7_sheet_68 (by decide) ?_
            exact zz_iret M dX7_sheet_69 h
          · have h := zif (c := x2 = (-1)) h c
            refine zz_iconst (v := 0) M dX7_sheet_60 (by decide) ?_
            refine zz_goto M 65 dX7_sheet_61 (by decide) ?_
            refine zz_callVV (d' := 2) (As := [.int x2, .int 0]) (rest := []) M l_X7_255 (tX_Sheet (zclt hq103)) rfl rfl dX7_sheet_65 rfl rfl (by decide) (Nat.le_of_ble_eq_true rfl) (by have hI := M.2.2.2.2.2.2.2.2; exact kX5_become hI _ _ _ (zclt hq103) _ _ h) (fun σ107 h => ?_)
            refine zz_iconst (v := 1) M dX7_sheet_68 (by decide) ?_
            exact zz_iret M dX7_sheet_69 h
        · have h := zifn (c := x2 = (-1)) h c
          refine zz_iload_n M 3 dX7_sheet_41 rfl rfl ?_
          refine zz_if_ge (y0 := 0) M 48 dX7_sheet_42 (by decide) (fun c => ?_) (fun c => ?_)
          · have h := zif (c := 0 ≤ x3) h c
            refine zz_aload_n M 0 dX7_sheet_48 rfl rfl ?_
            refine zz_getR M f_X7_49 tX_0 rfl dX7_sheet_49 ?_
            refine zz_iload_n M 1 dX7_sheet_52 rfl rfl ?_
            have hq108 := h.1
            refine zz_aald M tX_23 (by decide) hq108 dX7_sheet_53 ?_
            have h := h.2
            refine zz_iload_n M 2 dX7_sheet_54 rfl rfl ?_
            refine zz_iload_n M 2 dX7_sheet_55 rfl rfl ?_
            refine zz_iconst (v := (-1)) M dX7_sheet_56 (by decide) ?_
            refine zz_icmp_ne M 64 dX7_sheet_57 (by decide) (fun c => ?_) (fun c => ?_)
            · have h := zifn (c := x2 = (-1)) h c
              refine zz_iload_n M 3 dX7_sheet_64 rfl rfl ?_
              refine zz_callVV (d' := 2) (As := [.int x2, .int x3]) (rest := []) M l_X7_255 (tX_Sheet (zclt hq108)) rfl rfl dX7_sheet_65 rfl rfl (by decide) (Nat.le_of_ble_eq_true rfl) (by have hI := M.2.2.2.2.2.2.2.2; exact kX5_become hI _ _ _ (zclt hq108) _ _ h) (fun σ110 h => ?_)
              refine zz_iconst (v := 1) M dX7_sheet_68 (by decide) ?_
              exact zz_iret M dX7_sheet_69 h
            · have h := zif (c := x2 = (-1)) h c
              refine zz_iconst (v := 0) M dX7_sheet_60 (by decide) ?_
              refine zz_goto M 65 dX7_sheet_61 (by decide) ?_
              refine zz_callVV (d' := 2) (As := [.int x2, .int 0]) (rest := []) M l_X7_255 (tX_Sheet (zclt hq108)) rfl rfl dX7_sheet_65 rfl rfl (by decide) (Nat.le_of_ble_eq_true rfl) (by have hI := M.2.2.2.2.2.2.2.2; exact kX5_become hI _ _ _ (zclt hq108) _ _ h) (fun σ112 h => ?_)
              refine zz_iconst (v := 1) M dX7_sheet_68 (by decide) ?_
              exact zz_iret M dX7_sheet_69 h
          · have h := zifn (c := 0 ≤ x3) h c
            refine zz_bipush (v := (-14)) M dX7_sheet_45 (by decide) ?_
            exact zz_iret M dX7_sheet_47 h
      · have h := zifn (c := x2 = (-1)) h c
        refine zz_iload_n M 3 dX7_sheet_27 rfl rfl ?_
        refine zz_bipush (v := 40) M dX7_sheet_28 (by decide) ?_
        refine zz_icmp_le M 36 dX7_sheet_30 (by decide) (fun c => ?_) (fun c => ?_)
        · have h := zif (c := x3 ≤ 40) h c
          refine zz_iload_n M 2 dX7_sheet_36 rfl rfl ?_
          refine zz_iconst (v := (-1)) M dX7_sheet_37 (by decide) ?_
          refine zz_icmp_eq M 48 dX7_sheet_38 (by decide) (fun c => ?_) (fun c => ?_)
          · have h := zif (c := x2 = (-1)) h c
            refine zz_aload_n M 0 dX7_sheet_48 rfl rfl ?_
            refine zz_getR M f_X7_49 tX_0 rfl dX7_sheet_49 ?_
            refine zz_iload_n M 1 dX7_sheet_52 rfl rfl ?_
            have hq113 := h.1
            refine zz_aald M tX_23 (by decide) hq113 dX7_sheet_53 ?_
            have h := h.2
            refine zz_iload_n M 2 dX7_sheet_54 rfl rfl ?_
            refine zz_iload_n M 2 dX7_sheet_55 rfl rfl ?_
            refine zz_iconst (v := (-1)) M dX7_sheet_56 (by decide) ?_
            refine zz_icmp_ne M 64 dX7_sheet_57 (by decide) (fun c => ?_) (fun c => ?_)
            · have h := zifn (c := x2 = (-1)) h c
              refine zz_iload_n M 3 dX7_sheet_64 rfl rfl ?_
              refine zz_callVV (d' := 2) (As := [.int x2, .int x3]) (rest := []) M l_X7_255 (tX_Sheet (zclt hq113)) rfl rfl dX7_sheet_65 rfl rfl (by decide) (Nat.le_of_ble_eq_true rfl) (by have hI := M.2.2.2.2.2.2.2.2; exact kX5_become hI _ _ _ (zclt hq113) _ _ h) (fun σ115 h => ?_)
              refine zz_iconst (v := 1) M dX7_sheet_68 (by decide) ?_
              exact zz_iret M dX7_sheet_69 h
            · have h := zif (c := x2 = (-1)) h c
              refine zz_iconst (v := 0) M dX7_sheet_60 (by decide) ?_
              refine zz_goto M 65 dX7_sheet_61 (by decide) ?_
              refine zz_callVV (d' := 2) (As := [.int x2, .int 0]) (rest := []) M l_X7_255 (tX_Sheet (zclt hq113)) rfl rfl dX7_sheet_65 rfl rfl (by decide) (Nat.le_of_ble_eq_true rfl) (by have hI := M.2.2.2.2.2.2.2.2; exact kX5_become hI _ _ _ (zclt hq113) _ _ h) (fun σ117 h => ?_)
              refine zz_iconst (v := 1) M dX7_sheet_68 (by decide) ?_
              exact zz_iret M dX7_sheet_69 h
          · have h := zifn (c := x2 = (-1)) h c
            refine zz_iload_n M 3 dX7_sheet_41 rfl rfl ?_
            refine zz_if_ge (y0 := 0) M 48 dX7_sheet_42 (by decide) (fun c => ?_) (fun c => ?_)
            · have h := zif (c := 0 ≤ x3) h c
              refine zz_aload_n M 0 dX7_sheet_48 rfl rfl ?_
              refine zz_getR M f_X7_49 tX_0 rfl dX7_sheet_49 ?_
              refine zz_iload_n M 1 dX7_sheet_52 rfl rfl ?_
              have hq118 := h.1
              refine zz_aald M tX_23 (by decide) hq118 dX7_sheet_53 ?_
              have h := h.2
              refine zz_iload_n M 2 dX7_sheet_54 rfl rfl ?_
              refine zz_iload_n M 2 dX7_sheet_55 rfl rfl ?_
              refine zz_iconst (v := (-1)) M dX7_sheet_56 (by decide) ?_
              refine zz_icmp_ne M 64 dX7_sheet_57 (by decide) (fun c => ?_) (fun c => ?_)
              · have h := zifn (c := x2 = (-1)) h c
                refine zz_iload_n M 3 dX7_sheet_64 rfl rfl ?_
                refine zz_callVV (d' := 2) (As := [.int x2, .int x3]) (rest := []) M l_X7_255 (tX_Sheet (zclt hq118)) rfl rfl dX7_sheet_65 rfl rfl (by decide) (Nat.le_of_ble_eq_true rfl) (by have hI := M.2.2.2.2.2.2.2.2; exact kX5_become hI _ _ _ (zclt hq118) _ _ h) (fun σ120 h => ?_)
                refine zz_iconst (v := 1) M dX7_sheet_68 (by decide) ?_
                exact zz_iret M dX7_sheet_69 h
              · have h := zif (c := x2 = (-1)) h c
                refine zz_iconst (v := 0) M dX7_sheet_60 (by decide) ?_
                refine zz_goto M 65 dX7_sheet_61 (by decide) ?_
                refine zz_callVV (d' := 2) (As := [.int x2, .int 0]) (rest := []) M l_X7_255 (tX_Sheet (zclt hq118)) rfl rfl dX7_sheet_65 rfl rfl (by decide) (Nat.le_of_ble_eq_true rfl) (by have hI := M.2.2.2.2.2.2.2.2; exact kX5_become hI _ _ _ (zclt hq118) _ _ h) (fun σ122 h => ?_)
                refine zz_iconst (v := 1) M dX7_sheet_68 (by decide) ?_
                exact zz_iret M dX7_sheet_69 h
            · have h := zifn (c := 0 ≤ x3) h c
              refine zz_bipush (v := (-14)) M dX7_sheet_45 (by decide) ?_
              exact zz_iret M dX7_sheet_47 h
        · have h := zifn (c := x3 ≤ 40) h c
          refine zz_bipush (v := (-2)) M dX7_sheet_33 (by decide) ?_
          exact zz_iret M dX7_sheet_35 h
    · have h := zifn (c := x2 = (-1)) h c
      refine zz_iload_n M 2 dX7_sheet_12 rfl rfl ?_
      refine zz_callSI (d' := 1) (As := [.int x2]) (rest := []) M l_X7_252 dX7_sheet_13 rfl rfl (by decide) (Nat.le_of_ble_eq_true rfl) (by have hI := M.2.2.2.2.2.2.2.2; exact kX7_isSheetSort hI _  _ _ h) (fun r123 σ124 h => ?_)
      refine zz_if_ne (y0 := 0) M 22 dX7_sheet_16 (by decide) (fun c => ?_) (fun c => ?_)
      · have h := zifn (c := r123 = 0) h c
        refine zz_iload_n M 2 dX7_sheet_22 rfl rfl ?_
        refine zz_iconst (v := (-1)) M dX7_sheet_23 (by decide) ?_
        refine zz_icmp_eq M 36 dX7_sheet_24 (by decide) (fun c => ?_) (fun c => ?_)
        · have h := zif (c := x2 = (-1)) h c
          refine zz_iload_n M 2 dX7_sheet_36 rfl rfl ?_
          refine zz_iconst (v := (-1)) M dX7_sheet_37 (by decide) ?_
          refine zz_icmp_eq M 48 dX7_sheet_38 (by decide) (fun c => ?_) (fun c => ?_)
          · have h := zif (c := x2 = (-1)) h c
            refine zz_aload_n M 0 dX7_sheet_48 rfl rfl ?_
            refine zz_getR M f_X7_49 tX_0 rfl dX7_sheet_49 ?_
            refine zz_iload_n M 1 dX7_sheet_52 rfl rfl ?_
            have hq125 := h.1
            refine zz_aald M tX_23 (by decide) hq125 dX7_sheet_53 ?_
            have h := h.2
            refine zz_iload_n M 2 dX7_sheet_54 rfl rfl ?_
            refine zz_iload_n M 2 dX7_sheet_55 rfl rfl ?_
            refine zz_iconst (v := (-1)) M dX7_sheet_56 (by decide) ?_
            refine zz_icmp_ne M 64 dX7_sheet_57 (by decide) (fun c => ?_) (fun c => ?_)
            · have h := zifn (c := x2 = (-1)) h c
              refine zz_iload_n M 3 dX7_sheet_64 rfl rfl ?_
              refine zz_callVV (d' := 2) (As := [.int x2, .int x3]) (rest := []) M l_X7_255 (tX_Sheet (zclt hq125)) rfl rfl dX7_sheet_65 rfl rfl (by decide) (Nat.le_of_ble_eq_true rfl) (by have hI := M.2.2.2.2.2.2.2.2; exact kX5_become hI _ _ _ (zclt hq125) _ _ h) (fun σ127 h => ?_)
              refine zz_iconst (v := 1) M dX7_sheet_68 (by decide) ?_
              exact zz_iret M dX7_sheet_69 h
            · have h := zif (c := x2 = (-1)) h c
              refine zz_iconst (v := 0) M dX7_sheet_60 (by decide) ?_
              refine zz_goto M 65 dX7_sheet_61 (by decide) ?_
              refine zz_callVV (d' := 2) (As := [.int x2, .int 0]) (rest := []) M l_X7_255 (tX_Sheet (zclt hq125)) rfl rfl dX7_sheet_65 rfl rfl (by decide) (Nat.le_of_ble_eq_true rfl) (by have hI := M.2.2.2.2.2.2.2.2; exact kX5_become hI _ _ _ (zclt hq125) _ _ h) (fun σ129 h => ?_)
              refine zz_iconst (v := 1) M dX7_sheet_68 (by decide) ?_
              exact zz_iret M dX7_sheet_69 h
          · have h := zifn (c := x2 = (-1)) h c
            refine zz_iload_n M 3 dX7_sheet_41 rfl rfl ?_
            refine zz_if_ge (y0 := 0) M 48 dX7_sheet_42 (by decide) (fun c => ?_) (fun c => ?_)
            · have h := zif (c := 0 ≤ x3) h c
              refine zz_aload_n M 0 dX7_sheet_48 rfl rfl ?_
              refine zz_getR M f_X7_49 tX_0 rfl dX7_sheet_49 ?_
              refine zz_iload_n M 1 dX7_sheet_52 rfl rfl ?_
              have hq130 := h.1
              refine zz_aald M tX_23 (by decide) hq130 dX7_sheet_53 ?_
              have h := h.2
              refine zz_iload_n M 2 dX7_sheet_54 rfl rfl ?_
              refine zz_iload_n M 2 dX7_sheet_55 rfl rfl ?_
              refine zz_iconst (v := (-1)) M dX7_sheet_56 (by decide) ?_
              refine zz_icmp_ne M 64 dX7_sheet_57 (by decide) (fun c => ?_) (fun c => ?_)
              · have h := zifn (c := x2 = (-1)) h c
                refine zz_iload_n M 3 dX7_sheet_64 rfl rfl ?_
                refine zz_callVV (d' := 2) (As := [.int x2, .int x3]) (rest := []) M l_X7_255 (tX_Sheet (zclt hq130)) rfl rfl dX7_sheet_65 rfl rfl (by decide) (Nat.le_of_ble_eq_true rfl) (by have hI := M.2.2.2.2.2.2.2.2; exact kX5_become hI _ _ _ (zclt hq130) _ _ h) (fun σ132 h => ?_)
                refine zz_iconst (v := 1) M dX7_sheet_68 (by decide) ?_
                exact zz_iret M dX7_sheet_69 h
              · have h := zif (c := x2 = (-1)) h c
                refine zz_iconst (v := 0) M dX7_sheet_60 (by decide) ?_
                refine zz_goto M 65 dX7_sheet_61 (by decide) ?_
                refine zz_callVV (d' := 2) (As := [.int x2, .int 0]) (rest := []) M l_X7_255 (tX_Sheet (zclt hq130)) rfl rfl dX7_sheet_65 rfl rfl (by decide) (Nat.le_of_ble_eq_true rfl) (by have hI := M.2.2.2.2.2.2.2.2; exact kX5_become hI _ _ _ (zclt hq130) _ _ h) (fun σ134 h => ?_)
                refine zz_iconst (v := 1) M dX7_sheet_68 (by decide) ?_
                exact zz_iret M dX7_sheet_69 h
            · have h := zifn (c := 0 ≤ x3) h c
              refine zz_bipush (v := (-14)) M dX7_sheet_45 (by decide) ?_
              exact zz_iret M dX7_sheet_47 h
        · have h := zifn (c := x2 = (-1)) h c
          refine zz_iload_n M 3 dX7_sheet_27 rfl rfl ?_
          refine zz_bipush (v := 40) M dX7_sheet_28 (by decide) ?_
          refine zz_icmp_le M 36 dX7_sheet_30 (by decide) (fun c => ?_) (fun c => ?_)
          · have h := zif (c := x3 ≤ 40) h c
            refine zz_iload_n M 2 dX7_sheet_36 rfl rfl ?_
            refine zz_iconst (v := (-1)) M dX7_sheet_37 (by decide) ?_
            refine zz_icmp_eq M 48 dX7_sheet_38 (by decide) (fun c => ?_) (fun c => ?_)
            · have h := zif (c := x2 = (-1)) h c
              refine zz_aload_n M 0 dX7_sheet_48 rfl rfl ?_
              refine zz_getR M f_X7_49 tX_0 rfl dX7_sheet_49 ?_
              refine zz_iload_n M 1 dX7_sheet_52 rfl rfl ?_
              have hq135 := h.1
              refine zz_aald M tX_23 (by decide) hq135 dX7_sheet_53 ?_
              have h := h.2
              refine zz_iload_n M 2 dX7_sheet_54 rfl rfl ?_
              refine zz_iload_n M 2 dX7_sheet_55 rfl rfl ?_
              refine zz_iconst (v := (-1)) M dX7_sheet_56 (by decide) ?_
              refine zz_icmp_ne M 64 dX7_sheet_57 (by decide) (fun c => ?_) (fun c => ?_)
              · have h := zifn (c := x2 = (-1)) h c
                refine zz_iload_n M 3 dX7_sheet_64 rfl rfl ?_
                refine zz_callVV (d' := 2) (As := [.int x2, .int x3]) (rest := []) M l_X7_255 (tX_Sheet (zclt hq135)) rfl rfl dX7_sheet_65 rfl rfl (by decide) (Nat.le_of_ble_eq_true rfl) (by have hI := M.2.2.2.2.2.2.2.2; exact kX5_become hI _ _ _ (zclt hq135) _ _ h) (fun σ137 h => ?_)
                refine zz_iconst (v := 1) M dX7_sheet_68 (by decide) ?_
                exact zz_iret M dX7_sheet_69 h
              · have h := zif (c := x2 = (-1)) h c
                refine zz_iconst (v := 0) M dX7_sheet_60 (by decide) ?_
                refine zz_goto M 65 dX7_sheet_61 (by decide) ?_
                refine zz_callVV (d' := 2) (As := [.int x2, .int 0]) (rest := []) M l_X7_255 (tX_Sheet (zclt hq135)) rfl rfl dX7_sheet_65 rfl rfl (by decide) (Nat.le_of_ble_eq_true rfl) (by have hI := M.2.2.2.2.2.2.2.2; exact kX5_become hI _ _ _ (zclt hq135) _ _ h) (fun σ139 h => ?_)
                refine zz_iconst (v := 1) M dX7_sheet_68 (by decide) ?_
                exact zz_iret M dX7_sheet_69 h
            · have h := zifn (c := x2 = (-1)) h c
              refine zz_iload_n M 3 dX7_sheet_41 rfl rfl ?_
              refine zz_if_ge (y0 := 0) M 48 dX7_sheet_42 (by decide) (fun c => ?_) (fun c => ?_)
              · have h := zif (c := 0 ≤ x3) h c
                refine zz_aload_n M 0 dX7_sheet_48 rfl rfl ?_
                refine zz_getR M f_X7_49 tX_0 rfl dX7_sheet_49 ?_
                refine zz_iload_n M 1 dX7_sheet_52 rfl rfl ?_
                have hq140 := h.1
                refine zz_aald M tX_23 (by decide) hq140 dX7_sheet_53 ?_
                have h := h.2
                refine zz_iload_n M 2 dX7_sheet_54 rfl rfl ?_
                refine zz_iload_n M 2 dX7_sheet_55 rfl rfl ?_
                refine zz_iconst (v := (-1)) M dX7_sheet_56 (by decide) ?_
                refine zz_icmp_ne M 64 dX7_sheet_57 (by decide) (fun c => ?_) (fun c => ?_)
                · have h := zifn (c := x2 = (-1)) h c
                  refine zz_iload_n M 3 dX7_sheet_64 rfl rfl ?_
                  refine zz_callVV (d' := 2) (As := [.int x2, .int x3]) (rest := []) M l_X7_255 (tX_Sheet (zclt hq140)) rfl rfl dX7_sheet_65 rfl rfl (by decide) (Nat.le_of_ble_eq_true rfl) (by have hI := M.2.2.2.2.2.2.2.2; exact kX5_become hI _ _ _ (zclt hq140) _ _ h) (fun σ142 h => ?_)
                  refine zz_iconst (v := 1) M dX7_sheet_68 (by decide) ?_
                  exact zz_iret M dX7_sheet_69 h
                · have h := zif (c := x2 = (-1)) h c
                  refine zz_iconst (v := 0) M dX7_sheet_60 (by decide) ?_
                  refine zz_goto M 65 dX7_sheet_61 (by decide) ?_
                  refine zz_callVV (d' := 2) (As := [.int x2, .int 0]) (rest := []) M l_X7_255 (tX_Sheet (zclt hq140)) rfl rfl dX7_sheet_65 rfl rfl (by decide) (Nat.le_of_ble_eq_true rfl) (by have hI := M.2.2.2.2.2.2.2.2; exact kX5_become hI _ _ _ (zclt hq140) _ _ h) (fun σ144 h => ?_)
                  refine zz_iconst (v := 1) M dX7_sheet_68 (by decide) ?_
                  exact zz_iret M dX7_sheet_69 h
              · have h := zifn (c := 0 ≤ x3) h c
                refine zz_bipush (v := (-14)) M dX7_sheet_45 (by decide) ?_
                exact zz_iret M dX7_sheet_47 h
          · have h := zifn (c := x3 ≤ 40) h c
            refine zz_bipush (v := (-2)) M dX7_sheet_33 (by decide) ?_
            exact zz_iret M dX7_sheet_35 h
      · have h := zif (c := r123 = 0) h c
        refine zz_bipush (v := (-2)) M dX7_sheet_19 (by decide) ?_
        exact zz_iret M dX7_sheet_21 h
def wX5_holds (i0 : Nat) (x1 : Int32) (x2 : Int32) (σ : zSt) (Q : Int32 → zSt → Prop) : Prop := if x1 < 0 then (Q 0 σ) else (if x2 < 0 then (Q 0 σ) else (if ((σ.1 (61 + i0) 2) - x2) < x1 then (Q 0 σ) else (Q 1 σ)))
set_option maxRecDepth 20000 in
set_option maxHeartbeats 4000000 in
theorem kX5_holds (hI : zInj tabX ad) (i0 : Nat) (x1 : Int32) (x2 : Int32) (hi0 : i0 < 4) (σ : zSt) (Q : Int32 → zSt → Prop) (h : wX5_holds i0 x1 x2 σ Q) : zOkI l tabX D cA ad y 1 yX5_holds cX5_holds 3 (some .boolean) [.ref (ad (61 + i0)), .int x1, .int x2] σ Q := by
  refine zz_enter hI (by decide) (Nat.le_of_ble_eq_true rfl) (fun p e s m below meth c M => ?_)
  have M : zM p s m _ meth c cX5_holds 3 RX5 (some .boolean) tabX D cA ad y := M
  refine zz_ls [(0, .ref (ad (61 + i0))), (1, .int x1), (2, .int x2)] rfl ?_
  unfold wX5_holds at h
  refine zz_iload_n M 1 dX5_holds_0 rfl rfl ?_
  refine zz_if_lt (y0 := 0) M 22 dX5_holds_1 (by decide) (fun c => ?_) (fun c => ?_)
  · have h := zif (c := x1 < 0) h c
    refine zz_iconst (v := 0) M dX5_holds_22 (by decide) ?_
    exact zz_zret M dX5_holds_23 (Or.inl rfl) h
  · have h := zifn (c := x1 < 0) h c
    refine zz_iload_n M 2 dX5_holds_4 rfl rfl ?_
    refine zz_if_lt (y0 := 0) M 22 dX5_holds_5 (by decide) (fun c => ?_) (fun c => ?_)
    · have h := zif (c := x2 < 0) h c
      refine zz_iconst (v := 0) M dX5_holds_22 (by decide) ?_
      exact zz_zret M dX5_holds_23 (Or.inl rfl) h
    · have h := zifn (c := x2 < 0) h c
      refine zz_iload_n M 1 dX5_holds_8 rfl rfl ?_
      refine zz_aload_n M 0 dX5_holds_9 rfl rfl ?_
      refine zz_getI M f_X5_19 (tX_Sheet hi0) rfl dX5_holds_10 ?_
      refine zz_iload_n M 2 dX5_holds_13 rfl rfl ?_
      refine zz_isub M dX5_holds_14 ?_
      refine zz_icmp_gt M 22 dX5_holds_15 (by decide) (fun c => ?_) (fun c => ?_)
      · have h := zif (c := ((σ.1 (61 + i0) 2) - x2) < x1) h c
        refine zz_iconst (v := 0) M dX5_holds_22 (by decide) ?_
        exact zz_zret M dX5_holds_23 (Or.inl rfl) h
      · have h := zifn (c := ((σ.1 (61 + i0) 2) - x2) < x1) h c
        refine zz_iconst (v := 1) M dX5_holds_18 (by decide) ?_
        refine zz_goto M 23 dX5_holds_19 (by decide) ?_
        exact zz_zret M dX5_holds_23 (Or.inr rfl) h
def wX7_cell (x1 : Int32) (x2 : Int32) (x3 : Int32) (σ : zSt) (Q : Int32 → zSt → Prop) : Prop := wX7_isSheet x1 σ (fun r101 σ102 => if r101 = 0 then (Q (-2) σ102) else (vp_in x1 4 ∧ (if (σ102.1 (61 + x1.toNatClampNeg) 1) = (-1) then (Q (-11) σ102) else (wX5_holds (x1.toNatClampNeg) x2 1 σ102 (fun r104 σ105 => if r104 = 0 then (Q (-12) σ105) else (if (σ105.1 (61 + x1.toNatClampNeg) 1) = 0 then (vp_in x2 40 ∧ (∀ σ108 : zSt, σ108 = zput σ105 (65 + x1.toNatClampNeg) x2.toNatClampNeg ((x3 : Int32).toInt8.toInt32) → (Q 1 σ108))) else (if (σ105.1 (61 + x1.toNatClampNeg) 1) = 1 then (vp_in x2 40 ∧ (∀ σ107 : zSt, σ107 = zput σ105 (65 + x1.toNatClampNeg) x2.toNatClampNeg ((x3 : Int32).toInt16.toInt32) → (Q 1 σ107))) else (vp_in x2 40 ∧ (∀ σ106 : zSt, σ106 = zput σ105 (65 + x1.toNatClampNeg) x2.toNatClampNeg x3 → (Q 1 σ106))))))))))
set_option maxRecDepth 20000 in
set_option maxHeartbeats 4000000 in
theorem kX7_cell (hI : zInj tabX ad) (x1 : Int32) (x2 : Int32) (x3 : Int32)  (σ : zSt) (Q : Int32 → zSt → Prop) (h : wX7_cell x1 x2 x3 σ Q) : zOkI l tabX D cA ad y 2 yX7_cell cX7_cell 5 (some .int) [.ref (ad 0), .int x1, .int x2, .int x3] σ Q := by
  refine zz_enter hI (by decide) (Nat.le_of_ble_eq_true rfl) (fun p e s m below meth c M => ?_)
  have M : zM p s m _ meth c cX7_cell 5 RX7 (some .int) tabX D cA ad y := M
  refine zz_ls [(0, .ref (ad 0)), (1, .int x1), (2, .int x2), (3, .int x3)] rfl ?_
  unfold wX7_cell at h
  refine zz_iload_n M 1 dX7_cell_0 rfl rfl ?_
  refine zz_callSI (d' := 1) (As := [.int x1]) (rest := []) M l_X7_249 dX7_cell_1 rfl rfl (by decide) (Nat.le_of_ble_eq_true rfl) (by have hI := M.2.2.2.2.2.2.2.2; exact kX7_isSheet hI _  _ _ h) (fun r101 σ102 h => ?_)
  refine zz_if_ne (y0 := 0) M 10 dX7_cell_4 (by decide) (fun c => ?_) (fun c => ?_)
  · have h := zifn (c := r101 = 0) h c
    refine zz_aload_n M 0 dX7_cell_10 rfl rfl ?_
    refine zz_getR M f_X7_49 tX_0 rfl dX7_cell_11 ?_
    refine zz_iload_n M 1 dX7_cell_14 rfl rfl ?_
    have hq103 := h.1
    refine zz_aald M tX_23 (by decide) hq103 dX7_cell_15 ?_
    have h := h.2
    refine zz_astore M [(4, .ref (ad (61 + x1.toNatClampNeg))), (0, .ref (ad 0)), (1, .int x1), (2, .int x2), (3, .int x3)] dX7_cell_16 (by decide) rfl ?_
    refine zz_aload M 0 dX7_cell_18 rfl ?_
    refine zz_getI M f_X7_259 (tX_Sheet (zclt hq103)) rfl dX7_cell_20 ?_
    refine zz_iconst (v := (-1)) M dX7_cell_23 (by decide) ?_
    refine zz_icmp_ne M 30 dX7_cell_24 (by decide) (fun c => ?_) (fun c => ?_)
    · have h := zifn (c := (σ102.1 (61 + x1.toNatClampNeg) 1) = (-1)) h c
      refine zz_aload M 0 dX7_cell_30 rfl ?_
      refine zz_iload_n M 3 dX7_cell_32 rfl rfl ?_
      refine zz_iconst (v := 1) M dX7_cell_33 (by decide) ?_
      refine zz_callVI (d' := 1) (As := [.int x2, .int 1]) (rest := []) M l_X7_262 (tX_Sheet (zclt hq103)) rfl rfl dX7_cell_34 rfl rfl (by decide) (Nat.le_of_ble_eq_true rfl) (by have hI := M.2.2.2.2.2.2.2.2; exact kX5_holds hI _ _ _ (zclt hq103) _ _ h) (fun r104 σ105 h => ?_)
      refine zz_if_ne (y0 := 0) M 43 dX7_cell_37 (by decide) (fun c => ?_) (fun c => ?_)
      · have h := zifn (c := r104 = 0) h c
        refine zz_aload M 0 dX7_cell_43 rfl ?_
        refine zz_getR M f_X7_225 (tX_Sheet (zclt hq103)) rfl dX7_cell_45 ?_
        refine zz_iload_n M 3 dX7_cell_48 rfl rfl ?_
        refine zz_aload M 0 dX7_cell_49 rfl ?_
        refine zz_getI M f_X7_259 (tX_Sheet (zclt hq103)) rfl dX7_cell_51 ?_
        refine zz_if_ne (y0 := 0) M 62 dX7_cell_54 (by decide) (fun c => ?_) (fun c => ?_)
        · have h := zifn (c := (σ105.1 (61 + x1.toNatClampNeg) 1) = 0) h c
          refine zz_aload M 0 dX7_cell_62 rfl ?_
          refine zz_getI M f_X7_259 (tX_Sheet (zclt hq103)) rfl dX7_cell_64 ?_
          refine zz_iconst (v := 1) M dX7_cell_67 (by decide) ?_
          refine zz_icmp_ne M 76 dX7_cell_68 (by decide) (fun c => ?_) (fun c => ?_)
          · have h := zifn (c := (σ105.1 (61 + x1.toNatClampNeg) 1) = 1) h c
            refine zz_iload_n M 4 dX7_cell_76 rfl rfl ?_
            refine zz_iast M (tX_Sheet_cells (zclt hq103)) h.1 dX7_cell_77 ?_
            have h := h.2
            refine zz_sg (fun σ106 eσ106 => ?_)
            have h := h σ106 eσ106
            refine zz_iconst (v := 1) M dX7_cell_78 (by decide) ?_
            exact zz_iret M dX7_cell_79 h
          · have h := zif (c := (σ105.1 (61 + x1.toNatClampNeg) 1) = 1) h c
            refine zz_iload_n M 4 dX7_cell_71 rfl rfl ?_
            refine zz_i2s M dX7_cell_72 ?_
            refine zz_goto M 77 dX7_cell_73 (by decide) ?_
            refine zz_iast M (tX_Sheet_cells (zclt hq103)) h.1 dX7_cell_77 ?_
            have h := h.2
            refine zz_sg (fun σ107 eσ107 => ?_)
            have h := h σ107 eσ107
            refine zz_iconst (v := 1) M dX7_cell_78 (by decide) ?_
            exact zz_iret M dX7_cell_79 h
        · have h := zif (c := (σ105.1 (61 + x1.toNatClampNeg) 1) = 0) h c
          refine zz_iload_n M 4 dX7_cell_57 rfl rfl ?_
          refine zz_i2b M dX7_cell_58 ?_
          refine zz_goto M 77 dX7_cell_59 (by decide) ?_
          refine zz_iast M (tX_Sheet_cells (zclt hq103)) h.1 dX7_cell_77 ?_
          have h := h.2
          refine zz_sg (fun σ108 eσ108 => ?_)
          have h := h σ108 eσ108
          refine zz_iconst (v := 1) M dX7_cell_78 (by decide) ?_
          exact zz_iret M dX7_cell_79 h
      · have h := zif (c := r104 = 0) h c
        refine zz_bipush (v := (-12)) M dX7_cell_40 (by decide) ?_
        exact zz_iret M dX7_cell_42 h
    · have h := zif (c := (σ102.1 (61 + x1.toNatClampNeg) 1) = (-1)) h c
      refine zz_bipush (v := (-11)) M dX7_cell_27 (by decide) ?_
      exact zz_iret M dX7_cell_29 h
  · have h := zif (c := r101 = 0) h c
    refine zz_bipush (v := (-2)) M dX7_cell_7 (by decide) ?_
    exact zz_iret M dX7_cell_9 h
def wX7_copy (x1 : Int32) (x2 : Int32) (x3 : Int32) (x4 : Int32) (x5 : Int32) (σ : zSt) (Q : Int32 → zSt → Prop) : Prop := wX7_isSheet x1 σ (fun r101 σ102 => if r101 = 0 then (Q (-2) σ102) else (wX7_isSheet x3 σ102 (fun r103 σ104 => if r103 = 0 then (Q (-2) σ104) else (vp_in x1 4 ∧ (vp_in x3 4 ∧ (if (σ104.1 (61 + x1.toNatClampNeg) 1) = (-1) then (Q (-11) σ104) else (if (σ104.1 (61 + x3.toNatClampNeg) 1) = (-1) then (Q (-11) σ104) else (if (σ104.1 (61 + x1.toNatClampNeg) 1) = (σ104.1 (61 + x3.toNatClampNeg) 1) then (wX5_holds (x1.toNatClampNeg) x2 x5 σ104 (fun r107 σ108 => if r107 = 0 then (Q (-12) σ108) else (wX5_holds (x3.toNatClampNeg) x4 x5 σ108 (fun r109 σ110 => if r109 = 0 then (Q (-12) σ110) else (((¬ x2 < 0 ∧ ¬ x4 < 0 ∧ ¬ x5 < 0) ∧ (x2 : Int32).toNatClampNeg + (x5 : Int32).toNatClampNeg ≤ 40 ∧ (x4 : Int32).toNatClampNeg + (x5 : Int32).toNatClampNeg ≤ 40) ∧ (∀ σ111 : zSt, σ111 = zcopy σ110 (65 + x1.toNatClampNeg) (x2 : Int32).toNatClampNeg (65 + x3.toNatClampNeg) (x4 : Int32).toNatClampNeg (x5 : Int32).toNatClampNeg → (Q x5 σ111))))))) else (Q (-13) σ104)))))))))
set_option maxRecDepth 20000 in
set_option maxHeartbeats 4000000 in
theorem kX7_copy (hI : zInj tabX ad) (x1 : Int32) (x2 : Int32) (x3 : Int32) (x4 : Int32) (x5 : Int32)  (σ : zSt) (Q : Int32 → zSt → Prop) (h : wX7_copy x1 x2 x3 x4 x5 σ Q) : zOkI l tabX D cA ad y 2 yX7_copy cX7_copy 8 (some .int) [.ref (ad 0), .int x1, .int x2, .int x3, .int x4, .int x5] σ Q := by
  refine zz_enter hI (by decide) (Nat.le_of_ble_eq_true rfl) (fun p e s m below meth c M => ?_)
  have M : zM p s m _ meth c cX7_copy 8 RX7 (some .int) tabX D cA ad y := M
  refine zz_ls [(0, .ref (ad 0)), (1, .int x1), (2, .int x2), (3, .int x3), (4, .int x4), (5, .int x5)] rfl ?_
  unfold wX7_copy at h
  refine zz_iload_n M 1 dX7_copy_0 rfl rfl ?_
  refine zz_callSI (d' := 1) (As := [.int x1]) (rest := []) M l_X7_249 dX7_copy_1 rfl rfl (by decide) (Nat.le_of_ble_eq_true rfl) (by have hI := M.2.2.2.2.2.2.2.2; exact kX7_isSheet hI _  _ _ h) (fun r101 σ102 h => ?_)
  refine zz_if_eq (y0 := 0) M 14 dX7_copy_4 (by decide) (fun c => ?_) (fun c => ?_)
  · have h := zif (c := r101 = 0) h c
    refine zz_bipush (v := (-2)) M dX7_copy_14 (by decide) ?_
    exact zz_iret M dX7_copy_16 h
  · have h := zifn (c := r101 = 0) h c
    refine zz_iload_n M 3 dX7_copy_7 rfl rfl ?_
    refine zz_callSI (d' := 1) (As := [.int x3]) (rest := []) M l_X7_249 dX7_copy_8 rfl rfl (by decide) (Nat.le_of_ble_eq_true rfl) (by have hI := M.2.2.2.2.2.2.2.2; exact kX7_isSheet hI _  _ _ h) (fun r103 σ104 h => ?_)
    refine zz_if_ne (y0 := 0) M 17 dX7_copy_11 (by decide) (fun c => ?_) (fun c => ?_)
    · have h := zifn (c := r103 = 0) h c
      refine zz_aload_n M 0 dX7_copy_17 rfl rfl ?_
      refine zz_getR M f_X7_49 tX_0 rfl dX7_copy_18 ?_
      refine zz_iload_n M 1 dX7_copy_21 rfl rfl ?_
      have hq105 := h.1
      refine zz_aald M tX_23 (by decide) hq105 dX7_copy_22 ?_
      have h := h.2
      refine zz_astore M [(6, .ref (ad (61 + x1.toNatClampNeg))), (0, .ref (ad 0)), (1, .int x1), (2, .int x2), (3, .int x3), (4, .int x4), (5, .int x5)] dX7_copy_23 (by decide) rfl ?_
      refine zz_aload_n M 1 dX7_copy_25 rfl rfl ?_
      refine zz_getR M f_X7_49 tX_0 rfl dX7_copy_26 ?_
      refine zz_iload_n M 4 dX7_copy_29 rfl rfl ?_
      have hq106 := h.1
      refine zz_aald M tX_23 (by decide) hq106 dX7_copy_30 ?_
      have h := h.2
      refine zz_astore M [(7, .ref (ad (61 + x3.toNatClampNeg))), (6, .ref (ad (61 + x1.toNatClampNeg))), (0, .ref (ad 0)), (1, .int x1), (2, .int x2), (3, .int x3), (4, .int x4), (5, .int x5)] dX7_copy_31 (by decide) rfl ?_
      refine zz_aload M 1 dX7_copy_33 rfl ?_
      refine zz_getI M f_X7_259 (tX_Sheet (zclt hq105)) rfl dX7_copy_35 ?_
      refine zz_iconst (v := (-1)) M dX7_copy_38 (by decide) ?_
      refine zz_icmp_eq M 51 dX7_copy_39 (by decide) (fun c => ?_) (fun c => ?_)
      · have h := zif (c := (σ104.1 (61 + x1.toNatClampNeg) 1) = (-1)) h c
        refine zz_bipush (v := (-11)) M dX7_copy_51 (by decide) ?_
        exact zz_iret M dX7_copy_53 h
      · have h := zifn (c := (σ104.1 (61 + x1.toNatClampNeg) 1) = (-1)) h c
        refine zz_aload M 0 dX7_copy_42 rfl ?_
        refine zz_getI M f_X7_259 (tX_Sheet (zclt hq106)) rfl dX7_copy_44 ?_
        refine zz_iconst (v := (-1)) M dX7_copy_47 (by decide) ?_
        refine zz_icmp_ne M 54 dX7_copy_48 (by decide) (fun c => ?_) (fun c => ?_)
        · have h := zifn (c := (σ104.1 (61 + x3.toNatClampNeg) 1) = (-1)) h c
          refine zz_aload M 1 dX7_copy_54 rfl ?_
          refine zz_getI M f_X7_259 (tX_Sheet (zclt hq105)) rfl dX7_copy_56 ?_
          refine zz_aload M 0 dX7_copy_59 rfl ?_
          refine zz_getI M f_X7_259 (tX_Sheet (zclt hq106)) rfl dX7_copy_61 ?_
          refine zz_icmp_eq M 70 dX7_copy_64 (by decide) (fun c => ?_) (fun c => ?_)
          · have h := zif (c := (σ104.1 (61 + x1.toNatClampNeg) 1) = (σ104.1 (61 + x3.toNatClampNeg) 1)) h c
            refine zz_aload M 1 dX7_copy_70 rfl ?_
            refine zz_iload_n M 4 dX7_copy_72 rfl rfl ?_
            refine zz_iload M 7 dX7_copy_73 rfl ?_
            refine zz_callVI (d' := 1) (As := [.int x2, .int x5]) (rest := []) M l_X7_262 (tX_Sheet (zclt hq105)) rfl rfl dX7_copy_75 rfl rfl (by decide) (Nat.le_of_ble_eq_true rfl) (by have hI := M.2.2.2.2.2.2.2.2; exact kX5_holds hI _ _ _ (zclt hq105) _ _ h) (fun r107 σ108 h => ?_)
            refine zz_if_eq (y0 := 0) M 93 dX7_copy_78 (by decide) (fun c => ?_) (fun c => ?_)
            · have h := zif (c := r107 = 0) h c
              refine zz_bipush (v := (-12)) M dX7_copy_93 (by decide) ?_
              exact zz_iret M dX7_copy_95 h
            · have h := zifn (c := r107 = 0) h c
              refine zz_aload M 0 dX7_copy_81 rfl ?_
              refine zz_iload M 6 dX7_copy_83 rfl ?_
              refine zz_iload M 7 dX7_copy_85 rfl ?_
              refine zz_callVI (d' := 1) (As := [.int x4, .int x5]) (rest := []) M l_X7_262 (tX_Sheet (zclt hq106)) rfl rfl dX7_copy_87 rfl rfl (by decide) (Nat.le_of_ble_eq_true rfl) (by have hI := M.2.2.2.2.2.2.2.2; exact kX5_holds hI _ _ _ (zclt hq106) _ _ h) (fun r109 σ110 h => ?_)
              refine zz_if_ne (y0 := 0) M 96 dX7_copy_90 (by decide) (fun c => ?_) (fun c => ?_)
              · have h := zifn (c := r109 = 0) h c
                refine zz_aload M 1 dX7_copy_96 rfl ?_
                refine zz_getR M f_X7_225 (tX_Sheet (zclt hq105)) rfl dX7_copy_98 ?_
                refine zz_iload_n M 4 dX7_copy_101 rfl rfl ?_
                refine zz_aload M 0 dX7_copy_102 rfl ?_
                refine zz_getR M f_X7_225 (tX_Sheet (zclt hq106)) rfl dX7_copy_104 ?_
                refine zz_iload M 6 dX7_copy_107 rfl ?_
                refine zz_iload M 7 dX7_copy_109 rfl ?_
                refine zz_copy M l_X7_194 zarrcopy (tX_Sheet_cells (zclt hq105)) (tX_Sheet_cells (zclt hq106)) (by decide) (Nat.le_of_ble_eq_true rfl) dX7_copy_111 h.1 ?_
                have h := h.2
                refine zz_sg (fun σ111 eσ111 => ?_)
                have h := h σ111 eσ111
                refine zz_iload M 7 dX7_copy_114 rfl ?_
                exact zz_iret M dX7_copy_116 h
              · have h := zif (c := r109 = 0) h c
                refine zz_bipush (v := (-12)) M dX7_copy_93 (by decide) ?_
                exact zz_iret M dX7_copy_95 h
          · have h := zifn (c := (σ104.1 (61 + x1.toNatClampNeg) 1) = (σ104.1 (61 + x3.toNatClampNeg) 1)) h c
            refine zz_bipush (v := (-13)) M dX7_copy_67 (by decide) ?_
            exact zz_iret M dX7_copy_69 h
        · have h := zif (c := (σ104.1 (61 + x3.toNatClampNeg) 1) = (-1)) h c
          refine zz_bipush (v := (-11)) M dX7_copy_51 (by decide) ?_
          exact zz_iret M dX7_copy_53 h
    · have h := zif (c := r103 = 0) h c
      refine zz_bipush (v := (-2)) M dX7_copy_14 (by decide) ?_
      exact zz_iret M dX7_copy_16 h
def wX7_comes_L67 (Q : Int32 → zSt → Prop) (K93 : zSt → Prop) (K140 : Int32 → zSt → Prop) (x3 : Int32) (x4 : Int32) (i5 : Nat) : Nat → Int32 → Int32 → zSt → Prop
  | 0, _, _, _ => False
  | n + 1, x6, x7, σ => if x4 ≤ x7 then (K140 x6 σ) else (∀ x106 : Int32, x106 = (x3 + (3 * x7)) → (wX5_holds i5 x106 3 σ (fun r107 σ108 => if r107 = 0 then (K93  σ108) else (vp_in x106 40 ∧ (vp_in (x106 + 1) 40 ∧ (vp_in (x106 + 2) 40 ∧ (wX7_come (σ108.1 (65 + i5) x106.toNatClampNeg) (σ108.1 (65 + i5) (x106 + 1 : Int32).toNatClampNeg) (σ108.1 (65 + i5) (x106 + 2 : Int32).toNatClampNeg) σ108 (fun r109 σ110 => if r109 < 0 then (∀ x111 : Int32, x111 = x7 + 1 → (wX7_comes_L67 Q K93 K140 x3 x4 i5 n x6 x111 σ110)) else (∀ x112 : Int32, x112 = x6 + 1 → (∀ x113 : Int32, x113 = x7 + 1 → (wX7_comes_L67 Q K93 K140 x3 x4 i5 n x112 x113 σ110)))))))))))
set_option maxRecDepth 20000 in
set_option maxHeartbeats 4000000 in
theorem sX7_comes_L67 {Q : Int32 → zSt → Prop} {K93 : zSt → Prop} {K140 : Int32 → zSt → Prop} (x3 : Int32) (x4 : Int32) (i5 : Nat) (hi5 : i5 < 4) (M : zM p s m args meth c cX7_comes 9 RX7 (some .int) tabX D cA ad y) (hK93 : ∀ (σ : zSt), K93  σ → zG p l e (zrm 5) s m args below meth c 9 tabX D cA ad (MQ below (va_Qi Q (fun σ' t => va_P D vwCl (zws tabX cA ad σ') t.heap) (zIn tabX ad)) args s 0 0 (zIn tabX ad)) 93 [] [] σ) (hK140 : ∀ (v6 : Int32) (σ : zSt), K140 v6 σ → zG p l e (zrm 5) s m args below meth c 9 tabX D cA ad (MQ below (va_Qi Q (fun σ' t => va_P D vwCl (zws tabX cA ad σ') t.heap) (zIn tabX ad)) args s 0 0 (zIn tabX ad)) 140 [(6, .int v6)] [] σ) : ∀ (n : Nat) (x6 : Int32) (x7 : Int32) (σ : zSt), wX7_comes_L67 Q K93 K140 x3 x4 i5 n x6 x7 σ → zG p l e (zrm 5) s m args below meth c 9 tabX D cA ad (MQ below (va_Qi Q (fun σ' t => va_P D vwCl (zws tabX cA ad σ') t.heap) (zIn tabX ad)) args s 0 0 (zIn tabX ad)) 67 [(0, .ref (ad 0)), (3, .int x3), (4, .int x4), (5, .ref (ad (61 + i5))), (6, .int x6), (7, .int x7)] [] σ := by
  intro n
  induction n with
  | zero => intro x6 x7 σ h; exact absurd h (by simp [wX7_comes_L67])
  | succ n ih =>
    intro x6 x7 σ h
    unfold wX7_comes_L67 at h
    refine zz_iload M 5 dX7_comes_67 rfl ?_
    refine zz_iload M 2 dX7_comes_69 rfl ?_
    refine zz_icmp_ge M 140 dX7_comes_71 (by decide) (fun c => ?_) (fun c => ?_)
    · have h := zif (c := x4 ≤ x7) h c
      refine zz_sub [(6, .int x6)] [4] rfl ?_
      exact hK140 _ _ h
    · have h := zifn (c := x4 ≤ x7) h c
      refine zz_iload_n M 1 dX7_comes_74 rfl rfl ?_
      refine zz_iconst (v := 3) M dX7_comes_75 (by decide) ?_
      refine zz_iload M 5 dX7_comes_76 rfl ?_
      refine zz_imul M dX7_comes_78 ?_
      refine zz_iadd M dX7_comes_79 ?_
      refine zz_topi (fun x106 ex106 => ?_)
      have h := h x106 ex106
      refine zz_istore M [(8, .int x106), (0, .ref (ad 0)), (3, .int x3), (4, .int x4), (5, .ref (ad (61 + i5))), (6, .int x6), (7, .int x7)] dX7_comes_80 (by decide) rfl ?_
      refine zz_aload M 4 dX7_comes_82 rfl ?_
      refine zz_iload M 0 dX7_comes_84 rfl ?_
      refine zz_iconst (v := 3) M dX7_comes_86 (by decide) ?_
      refine zz_callVI (d' := 1) (As := [.int x106, .int 3]) (rest := []) M l_X7_262 (tX_Sheet hi5) rfl rfl dX7_comes_87 rfl rfl (by decide) (Nat.le_of_ble_eq_true rfl) (by have hI := M.2.2.2.2.2.2.2.2; exact kX5_holds hI _ _ _ hi5 _ _ h) (fun r107 σ108 h => ?_)
      refine zz_if_ne (y0 := 0) M 96 dX7_comes_90 (by decide) (fun c => ?_) (fun c => ?_)
      · have h := zifn (c := r107 = 0) h c
        refine zz_aload_n M 1 dX7_comes_96 rfl rfl ?_
        refine zz_aload M 4 dX7_comes_97 rfl ?_
        refine zz_getR M f_X7_225 (tX_Sheet hi5) rfl dX7_comes_99 ?_
        refine zz_iload M 0 dX7_comes_102 rfl ?_
        refine zz_iald M (tX_Sheet_cells hi5) h.1 dX7_comes_104 ?_
        have h := h.2
        refine zz_aload M 4 dX7_comes_105 rfl ?_
        refine zz_getR M f_X7_225 (tX_Sheet hi5) rfl dX7_comes_107 ?_
        refine zz_iload M 0 dX7_comes_110 rfl ?_
        refine zz_iconst (v := 1) M dX7_comes_112 (by decide) ?_
        refine zz_iadd M dX7_comes_113 ?_
        refine zz_iald M (tX_Sheet_cells hi5) h.1 dX7_comes_114 ?_
        have h := h.2
        refine zz_aload M 4 dX7_comes_115 rfl ?_
        refine zz_getR M f_X7_225 (tX_Sheet hi5) rfl dX7_comes_117 ?_
        refine zz_iload M 0 dX7_comes_120 rfl ?_
        refine zz_iconst (v := 2) M dX7_comes_122 (by decide) ?_
        refine zz_iadd M dX7_comes_123 ?_
        refine zz_iald M (tX_Sheet_cells hi5) h.1 dX7_comes_124 ?_
        have h := h.2
        refine zz_callVI (d' := 4) (As := [.int (σ108.1 (65 + i5) x106.toNatClampNeg), .int (σ108.1 (65 + i5) (x106 + 1 : Int32).toNatClampNeg), .int (σ108.1 (65 + i5) (x106 + 2 : Int32).toNatClampNeg)]) (rest := []) M l_X7_265 tX_0 rfl rfl dX7_comes_125 rfl rfl (by decide) (Nat.le_of_ble_eq_true rfl) (by have hI := M.2.2.2.2.2.2.2.2; exact kX7_come hI _ _ _  _ _ h) (fun r109 σ110 h => ?_)
        refine zz_if_lt (y0 := 0) M 134 dX7_comes_128 (by decide) (fun c => ?_) (fun c => ?_)
        · have h := zif (c := r109 < 0) h c
          obtain ⟨x111, ex111⟩ : ∃ z : Int32, z = x7 + 1 := ⟨_, rfl⟩
          have h := h x111 ex111
          refine zz_iinc M [(7, .int x111), (8, .int x106), (0, .ref (ad 0)), (3, .int x3), (4, .int x4), (5, .ref (ad (61 + i5))), (6, .int x6)] 6 dX7_comes_134 rfl (n32 := 1) (by decide) ex111 (by decide) rfl ?_
          refine zz_goto M 67 dX7_comes_137 (by decide) ?_
          refine zz_sub [(0, .ref (ad 0)), (3, .int x3), (4, .int x4), (5, .ref (ad (61 + i5))), (6, .int x6), (7, .int x111)] [2, 3, 4, 5, 6, 0] rfl ?_
          exact ih _ _ _ h
        · have h := zifn (c := r109 < 0) h c
          obtain ⟨x112, ex112⟩ : ∃ z : Int32, z = x6 + 1 := ⟨_, rfl⟩
          have h := h x112 ex112
          refine zz_iinc M [(6, .int x112), (8, .int x106), (0, .ref (ad 0)), (3, .int x3), (4, .int x4), (5, .ref (ad (61 + i5))), (7, .int x7)] 5 dX7_comes_131 rfl (n32 := 1) (by decide) ex112 (by decide) rfl ?_
          obtain ⟨x113, ex113⟩ : ∃ z : Int32, z = x7 + 1 := ⟨_, rfl⟩
          have h := h x113 ex113
          refine zz_iinc M [(7, .int x113), (6, .int x112), (8, .int x106), (0, .ref (ad 0)), (3, .int x3), (4, .int x4), (5, .ref (ad (61 + i5)))] 6 dX7_comes_134 rfl (n32 := 1) (by decide) ex113 (by decide) rfl ?_
          refine zz_goto M 67 dX7_comes_137 (by decide) ?_
          refine zz_sub [(0, .ref (ad 0)), (3, .int x3), (4, .int x4), (5, .ref (ad (61 + i5))), (6, .int x112), (7, .int x113)] [3, 4, 5, 6, 1, 0] rfl ?_
          exact ih _ _ _ h
      · have h := zif (c := r107 = 0) h c
        refine zz_sub [] [] rfl ?_
        exact hK93  _ h
def wX7_comes (x1 : Int32) (x2 : Int32) (x3 : Int32) (x4 : Int32) (σ : zSt) (Q : Int32 → zSt → Prop) : Prop := wX7_isSheet x1 σ (fun r101 σ102 => if r101 = 0 then (Q (-2) σ102) else (wX7_isSheetSort x2 σ102 (fun r103 σ104 => if r103 = 0 then (Q (-2) σ104) else (if x4 < 0 then (Q (-2) σ104) else (if x4 ≤ 8 then (vp_in x1 4 ∧ (if (σ104.1 (61 + x1.toNatClampNeg) 1) = (-1) then (Q (-11) σ104) else (if (σ104.1 (61 + x1.toNatClampNeg) 1) = x2 then (wX7_comes_L67 Q (fun  σ114 => Q (-12) σ114) (fun v115 σ116 => Q v115 σ116) x3 x4 (x1.toNatClampNeg) 300 0 0 σ104) else (Q (-13) σ104)))) else (Q (-2) σ104))))))
set_option maxRecDepth 20000 in
set_option maxHeartbeats 4000000 in
theorem kX7_comes (hI : zInj tabX ad) (x1 : Int32) (x2 : Int32) (x3 : Int32) (x4 : Int32)  (σ : zSt) (Q : Int32 → zSt → Prop) (h : wX7_comes x1 x2 x3 x4 σ Q) : zOkI l tabX D cA ad y 5 yX7_comes cX7_comes 9 (some .int) [.ref (ad 0), .int x1, .int x2, .int x3, .int x4] σ Q := by
  refine zz_enter hI (by decide) (Nat.le_of_ble_eq_true rfl) (fun p e s m below meth c M => ?_)
  have M : zM p s m _ meth c cX7_comes 9 RX7 (some .int) tabX D cA ad y := M
  refine zz_ls [(0, .ref (ad 0)), (1, .int x1), (2, .int x2), (3, .int x3), (4, .int x4)] rfl ?_
  unfold wX7_comes at h
  refine zz_iload_n M 1 dX7_comes_0 rfl rfl ?_
  refine zz_callSI (d' := 1) (As := [.int x1]) (rest := []) M l_X7_249 dX7_comes_1 rfl rfl (by decide) (Nat.le_of_ble_eq_true rfl) (by have hI := M.2.2.2.2.2.2.2.2; exact kX7_isSheet hI _  _ _ h) (fun r101 σ102 h => ?_)
  refine zz_if_eq (y0 := 0) M 26 dX7_comes_4 (by decide) (fun c => ?_) (fun c => ?_)
  · have h := zif (c := r101 = 0) h c
    refine zz_bipush (v := (-2)) M dX7_comes_26 (by decide) ?_
    exact zz_iret M dX7_comes_28 h
  · have h := zifn (c := r101 = 0) h c
    refine zz_iload_n M 2 dX7_comes_7 rfl rfl ?_
    refine zz_callSI (d' := 1) (As := [.int x2]) (rest := []) M l_X7_252 dX7_comes_8 rfl rfl (by decide) (Nat.le_of_ble_eq_true rfl) (by have hI := M.2.2.2.2.2.2.2.2; exact kX7_isSheetSort hI _  _ _ h) (fun r103 σ104 h => ?_)
    refine zz_if_eq (y0 := 0) M 26 dX7_comes_11 (by decide) (fun c => ?_) (fun c => ?_)
    · have h := zif (c := r103 = 0) h c
      refine zz_bipush (v := (-2)) M dX7_comes_26 (by decide) ?_
      exact zz_iret M dX7_comes_28 h
    · have h := zifn (c := r103 = 0) h c
      refine zz_iload M 4 dX7_comes_14 rfl ?_
      refine zz_if_lt (y0 := 0) M 26 dX7_comes_16 (by decide) (fun c => ?_) (fun c => ?_)
      · have h := zif (c := x4 < 0) h c
        refine zz_bipush (v := (-2)) M dX7_comes_26 (by decide) ?_
        exact zz_iret M dX7_comes_28 h
      · have h := zifn (c := x4 < 0) h c
        refine zz_iload M 4 dX7_comes_19 rfl ?_
        refine zz_bipush (v := 8) M dX7_comes_21 (by decide) ?_
        refine zz_icmp_le M 29 dX7_comes_23 (by decide) (fun c => ?_) (fun c => ?_)
        · have h := zif (c := x4 ≤ 8) h c
          refine zz_aload_n M 0 dX7_comes_29 rfl rfl ?_
          refine zz_getR M f_X7_49 tX_0 rfl dX7_comes_30 ?_
          refine zz_iload_n M 1 dX7_comes_33 rfl rfl ?_
          have hq105 := h.1
          refine zz_aald M tX_23 (by decide) hq105 dX7_comes_34 ?_
          have h := h.2
          refine zz_astore M [(5, .ref (ad (61 + x1.toNatClampNeg))), (0, .ref (ad 0)), (1, .int x1), (2, .int x2), (3, .int x3), (4, .int x4)] dX7_comes_35 (by decide) rfl ?_
          refine zz_aload M 0 dX7_comes_37 rfl ?_
          refine zz_getI M f_X7_259 (tX_Sheet (zclt hq105)) rfl dX7_comes_39 ?_
          refine zz_iconst (v := (-1)) M dX7_comes_42 (by decide) ?_
          refine zz_icmp_ne M 49 dX7_comes_43 (by decide) (fun c => ?_) (fun c => ?_)
          · have h := zifn (c := (σ104.1 (61 + x1.toNatClampNeg) 1) = (-1)) h c
            refine zz_aload M 0 dX7_comes_49 rfl ?_
            refine zz_getI M f_X7_259 (tX_Sheet (zclt hq105)) rfl dX7_comes_51 ?_
            refine zz_iload_n M 3 dX7_comes_54 rfl rfl ?_
            refine zz_icmp_eq M 61 dX7_comes_55 (by decide) (fun c => ?_) (fun c => ?_)
            · have h := zif (c := (σ104.1 (61 + x1.toNatClampNeg) 1) = x2) h c
              refine zz_iconst (v := 0) M dX7_comes_61 (by decide) ?_
              refine zz_istore M [(6, .int 0), (5, .ref (ad (61 + x1.toNatClampNeg))), (0, .ref (ad 0)), (1, .int x1), (2, .int x2), (3, .int x3), (4, .int x4)] dX7_comes_62 (by decide) rfl ?_
              refine zz_iconst (v := 0) M dX7_comes_64 (by decide) ?_
              refine zz_istore M [(7, .int 0), (6, .int 0), (5, .ref (ad (61 + x1.toNatClampNeg))), (0, .ref (ad 0)), (1, .int x1), (2, .int x2), (3, .int x3), (4, .int x4)] dX7_comes_65 (by decide) rfl ?_
              refine zz_sub [(0, .ref (ad 0)), (3, .int x3), (4, .int x4), (5, .ref (ad (61 + x1.toNatClampNeg))), (6, .int 0), (7, .int 0)] [3, 6, 7, 2, 1, 0] rfl ?_
              refine sX7_comes_L67 x3 x4 (x1.toNatClampNeg) (zclt hq105) M (fun  σ114 h => ?_) (fun v115 σ116 h => ?_) 300 _ _ _ h
              · refine zz_bipush (v := (-12)) M dX7_comes_93 (by decide) ?_
                exact zz_iret M dX7_comes_95 h
              · refine zz_iload M 0 dX7_comes_140 rfl ?_
                exact zz_iret M dX7_comes_142 h
            · have h := zifn (c := (σ104.1 (61 + x1.toNatClampNeg) 1) = x2) h c
              refine zz_bipush (v := (-13)) M dX7_comes_58 (by decide) ?_
              exact zz_iret M dX7_comes_60 h
          · have h := zif (c := (σ104.1 (61 + x1.toNatClampNeg) 1) = (-1)) h c
            refine zz_bipush (v := (-11)) M dX7_comes_46 (by decide) ?_
            exact zz_iret M dX7_comes_48 h
        · have h := zifn (c := x4 ≤ 8) h c
          refine zz_bipush (v := (-2)) M dX7_comes_26 (by decide) ?_
          exact zz_iret M dX7_comes_28 h
def wX7_taken_L34 (Q : Int32 → zSt → Prop) (K55 : zSt → Prop) (K77 : zSt → Prop) (x1 : Int32) (x2 : Int32) : Nat → Int32 → Int32 → zSt → Prop
  | 0, _, _, _ => False
  | n + 1, x3, x4, σ => if 6 ≤ x4 then (K77  σ) else (wX7_isKind x3 σ (fun r106 σ107 => if r106 = 0 then (K77  σ107) else (if x3 = x2 then (K55  σ107) else (vp_in x3 6 ∧ (∀ x108 : Int32, x108 = (zover x3.toNatClampNeg) → (∀ x109 : Int32, x109 = x4 + 1 → (wX7_taken_L34 Q K55 K77 x1 x2 n x108 x109 σ107)))))))
set_option maxRecDepth 20000 in
set_option maxHeartbeats 4000000 in
theorem sX7_taken_L34 {Q : Int32 → zSt → Prop} {K55 : zSt → Prop} {K77 : zSt → Prop} (x1 : Int32) (x2 : Int32)  (M : zM p s m args meth c cX7_taken 5 RX7 (some .int) tabX D cA ad y) (hK55 : ∀ (σ : zSt), K55  σ → zG p l e (zrm 2) s m args below meth c 5 tabX D cA ad (MQ below (va_Qi Q (fun σ' t => va_P D vwCl (zws tabX cA ad σ') t.heap) (zIn tabX ad)) args s 0 0 (zIn tabX ad)) 55 [(0, .ref (ad 0)), (1, .int x1)] [] σ) (hK77 : ∀ (σ : zSt), K77  σ → zG p l e (zrm 2) s m args below meth c 5 tabX D cA ad (MQ below (va_Qi Q (fun σ' t => va_P D vwCl (zws tabX cA ad σ') t.heap) (zIn tabX ad)) args s 0 0 (zIn tabX ad)) 77 [] [] σ) : ∀ (n : Nat) (x3 : Int32) (x4 : Int32) (σ : zSt), wX7_taken_L34 Q K55 K77 x1 x2 n x3 x4 σ → zG p l e (zrm 2) s m args below meth c 5 tabX D cA ad (MQ below (va_Qi Q (fun σ' t => va_P D vwCl (zws tabX cA ad σ') t.heap) (zIn tabX ad)) args s 0 0 (zIn tabX ad)) 34 [(0, .ref (ad 0)), (1, .int x1), (2, .int x2), (3, .int x3), (4, .int x4)] [] σ := by
  intro n
  induction n with
  | zero => intro x3 x4 σ h; exact absurd h (by simp [wX7_taken_L34])
  | succ n ih =>
    intro x3 x4 σ h
    unfold wX7_taken_L34 at h
    refine zz_iload M 4 dX7_taken_34 rfl ?_
    refine zz_over M over_269 dX7_taken_36 ?_
    refine zz_overn M dX7_taken_39 ?_
    refine zz_icmp_ge M 77 dX7_taken_40 (by decide) (fun c => ?_) (fun c => ?_)
    · have h := zif (c := 6 ≤ x4) h c
      refine zz_sub [] [] rfl ?_
      exact hK77  _ h
    · have h := zifn (c := 6 ≤ x4) h c
      refine zz_iload_n M 3 dX7_taken_43 rfl rfl ?_
      refine zz_callSI (d' := 1) (As := [.int x3]) (rest := []) M l_X7_159 dX7_taken_44 rfl rfl (by decide) (Nat.le_of_ble_eq_true rfl) (by have hI := M.2.2.2.2.2.2.2.2; exact kX7_isKind hI _  _ _ h) (fun r106 σ107 h => ?_)
      refine zz_if_eq (y0 := 0) M 77 dX7_taken_47 (by decide) (fun c => ?_) (fun c => ?_)
      · have h := zif (c := r106 = 0) h c
        refine zz_sub [] [] rfl ?_
        exact hK77  _ h
      · have h := zifn (c := r106 = 0) h c
        refine zz_iload_n M 3 dX7_taken_50 rfl rfl ?_
        refine zz_iload_n M 2 dX7_taken_51 rfl rfl ?_
        refine zz_icmp_ne M 65 dX7_taken_52 (by decide) (fun c => ?_) (fun c => ?_)
        · have h := zifn (c := x3 = x2) h c
          refine zz_over M over_269 dX7_taken_65 ?_
          refine zz_iload_n M 3 dX7_taken_68 rfl rfl ?_
          refine zz_overl M h.1 dX7_taken_69 ?_
          have h := h.2
          refine zz_topi (fun x108 ex108 => ?_)
          have h := h x108 ex108
          refine zz_istore_n M [(3, .int x108), (0, .ref (ad 0)), (1, .int x1), (2, .int x2), (4, .int x4)] dX7_taken_70 rfl (by decide) rfl ?_
          obtain ⟨x109, ex109⟩ : ∃ z : Int32, z = x4 + 1 := ⟨_, rfl⟩
          have h := h x109 ex109
          refine zz_iinc M [(4, .int x109), (3, .int x108), (0, .ref (ad 0)), (1, .int x1), (2, .int x2)] 4 dX7_taken_71 rfl (n32 := 1) (by decide) ex109 (by decide) rfl ?_
          refine zz_goto M 34 dX7_taken_74 (by decide) ?_
          refine zz_sub [(0, .ref (ad 0)), (1, .int x1), (2, .int x2), (3, .int x108), (4, .int x109)] [2, 3, 4, 1, 0] rfl ?_
          exact ih _ _ _ h
        · have h := zif (c := x3 = x2) h c
          refine zz_sub [(0, .ref (ad 0)), (1, .int x1)] [0, 1] rfl ?_
          exact hK55  _ h
def wX7_taken (x1 : Int32) (x2 : Int32) (σ : zSt) (Q : Int32 → zSt → Prop) : Prop := wX7_isKind x2 σ (fun r101 σ102 => if r101 = 0 then (Q (-2) σ102) else (wX7_isMaster x1 σ102 (fun r103 σ104 => if r103 = 0 then (Q (-11) σ104) else (vp_in x1 4 ∧ (∀ x105 : Int32, x105 = (σ104.1 7 x1.toNatClampNeg) → (wX7_taken_L34 Q (fun  σ110 => vp_in x1 4 ∧ (Q (σ110.1 8 x1.toNatClampNeg) σ110)) (fun  σ111 => Q (-13) σ111) x1 x2 300 x105 0 σ104))))))
set_option maxRecDepth 20000 in
set_option maxHeartbeats 4000000 in
theorem kX7_taken (hI : zInj tabX ad) (x1 : Int32) (x2 : Int32)  (σ : zSt) (Q : Int32 → zSt → Prop) (h : wX7_taken x1 x2 σ Q) : zOkI l tabX D cA ad y 2 yX7_taken cX7_taken 5 (some .int) [.ref (ad 0), .int x1, .int x2] σ Q := by
  refine zz_enter hI (by decide) (Nat.le_of_ble_eq_true rfl) (fun p e s m below meth c M => ?_)
  have M : zM p s m _ meth c cX7_taken 5 RX7 (some .int) tabX D cA ad y := M
  refine zz_ls [(0, .ref (ad 0)), (1, .int x1), (2, .int x2)] rfl ?_
  unfold wX7_taken at h
  refine zz_iload_n M 2 dX7_taken_0 rfl rfl ?_
  refine zz_callSI (d' := 1) (As := [.int x2]) (rest := []) M l_X7_159 dX7_taken_1 rfl rfl (by decide) (Nat.le_of_ble_eq_true rfl) (by have hI := M.2.2.2.2.2.2.2.2; exact kX7_isKind hI _  _ _ h) (fun r101 σ102 h => ?_)
  refine zz_if_ne (y0 := 0) M 10 dX7_taken_4 (by decide) (fun c => ?_) (fun c => ?_)
  · have h := zifn (c := r101 = 0) h c
    refine zz_aload_n M 0 dX7_taken_10 rfl rfl ?_
    refine zz_iload_n M 1 dX7_taken_11 rfl rfl ?_
    refine zz_callVI (d' := 1) (As := [.int x1]) (rest := []) M l_X7_142 tX_0 rfl rfl dX7_taken_12 rfl rfl (by decide) (Nat.le_of_ble_eq_true rfl) (by have hI := M.2.2.2.2.2.2.2.2; exact kX7_isMaster hI _  _ _ h) (fun r103 σ104 h => ?_)
    refine zz_if_ne (y0 := 0) M 21 dX7_taken_15 (by decide) (fun c => ?_) (fun c => ?_)
    · have h := zifn (c := r103 = 0) h c
      refine zz_aload_n M 0 dX7_taken_21 rfl rfl ?_
      refine zz_getR M f_X7_12 tX_0 rfl dX7_taken_22 ?_
      refine zz_getR M f_X7_165 tX_1 rfl dX7_taken_25 ?_
      refine zz_iload_n M 1 dX7_taken_28 rfl rfl ?_
      refine zz_iald M tX_7 h.1 dX7_taken_29 ?_
      have h := h.2
      refine zz_topi (fun x105 ex105 => ?_)
      have h := h x105 ex105
      refine zz_istore_n M [(3, .int x105), (0, .ref (ad 0)), (1, .int x1), (2, .int x2)] dX7_taken_30 rfl (by decide) rfl ?_
      refine zz_iconst (v := 0) M dX7_taken_31 (by decide) ?_
      refine zz_istore M [(4, .int 0), (3, .int x105), (0, .ref (ad 0)), (1, .int x1), (2, .int x2)] dX7_taken_32 (by decide) rfl ?_
      refine zz_sub [(0, .ref (ad 0)), (1, .int x1), (2, .int x2), (3, .int x105), (4, .int 0)] [2, 3, 4, 1, 0] rfl ?_
      refine sX7_taken_L34 x1 x2  M (fun  σ110 h => ?_) (fun  σ111 h => ?_) 300 _ _ _ h
      · refine zz_aload_n M 0 dX7_taken_55 rfl rfl ?_
        refine zz_getR M f_X7_12 tX_0 rfl dX7_taken_56 ?_
        refine zz_getR M f_X7_145 tX_1 rfl dX7_taken_59 ?_
        refine zz_iload_n M 1 dX7_taken_62 rfl rfl ?_
        refine zz_iald M tX_8 h.1 dX7_taken_63 ?_
        have h := h.2
        exact zz_iret M dX7_taken_64 h
      · refine zz_bipush (v := (-13)) M dX7_taken_77 (by decide) ?_
        exact zz_iret M dX7_taken_79 h
    · have h := zif (c := r103 = 0) h c
      refine zz_bipush (v := (-11)) M dX7_taken_18 (by decide) ?_
      exact zz_iret M dX7_taken_20 h
  · have h := zif (c := r101 = 0) h c
    refine zz_bipush (v := (-2)) M dX7_taken_7 (by decide) ?_
    exact zz_iret M dX7_taken_9 h
end
