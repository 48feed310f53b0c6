section
variable {p : Program} {l : Launch} {e : Env} {s : State} {m : MethodId} {args : Array Value} {below : List Frame} {meth : Method} {c : Code} {D : va_G} {cA : Nat → ClassId} {ad : Nat → Nat} {y : zX}
def wX7_sheet (x1 : Int32) (x2 : Int32) (x3 : Int32) (σ : zSt) (Q : Int32 → zSt → Prop) : Prop := wX7_isSheet x1 σ (fun r1 σ2 => if r1 = 0 then (Q (-2) σ2) else (if x2 = (-1) then (if x2 = (-1) then (if x2 = (-1) then (vp_in x1 4 ∧ (if x2 = (-1) then (wX5_become (x1.toNatClampNeg) x2 0 σ2 (fun σ7 => Q 1 σ7)) else (wX5_become (x1.toNatClampNeg) x2 x3 σ2 (fun σ5 => Q 1 σ5)))) else (if 0 ≤ x3 then (vp_in x1 4 ∧ (if x2 = (-1) then (wX5_become (x1.toNatClampNeg) x2 0 σ2 (fun σ12 => Q 1 σ12)) else (wX5_become (x1.toNatClampNeg) x2 x3 σ2 (fun σ10 => Q 1 σ10)))) else (Q (-14) σ2))) else (if x3 ≤ 40 then (if x2 = (-1) then (vp_in x1 4 ∧ (if x2 = (-1) then (wX5_become (x1.toNatClampNeg) x2 0 σ2 (fun σ17 => Q 1 σ17)) else (wX5_become (x1.toNatClampNeg) x2 x3 σ2 (fun σ15 => Q 1 σ15)))) else (if 0 ≤ x3 then (vp_in x1 4 ∧ (if x2 = (-1) then (wX5_become (x1.toNatClampNeg) x2 0 σ2 (fun σ22 => Q 1 σ22)) else (wX5_become (x1.toNatClampNeg) x2 x3 σ2 (fun σ20 => Q 1 σ20)))) else (Q (-14) σ2))) else (Q (-2) σ2))) else (wX7_isSheetSort x2 σ2 (fun r23 σ24 => if r23 = 0 then (Q (-2) σ24) else (if x2 = (-1) then (if x2 = (-1) then (vp_in x1 4 ∧ (if x2 = (-1) then (wX5_become (x1.toNatClampNeg) x2 0 σ24 (fun σ29 => Q 1 σ29)) else (wX5_become (x1.toNatClampNeg) x2 x3 σ24 (fun σ27 => Q 1 σ27)))) else (if 0 ≤ x3 then (vp_in x1 4 ∧ (if x2 = (-1) then (wX5_become (x1.toNatClampNeg) x2 0 σ24 (fun σ34 => Q 1 σ34)) else (wX5_become (x1.toNatClampNeg) x2 x3 σ24 (fun σ32 => Q 1 σ32)))) else (Q (-14) σ24))) else (if x3 ≤ 40 then (if x2 = (-1) then (vp_in x1 4 ∧ (if x2 = (-1) then (wX5_become (x1.toNatClampNeg) x2 0 σ24 (fun σ39 => Q 1 σ39)) else (wX5_become (x1.toNatClampNeg) x2 x3 σ24 (fun σ37 => Q 1 σ37)))) else (if 0 ≤ x3 then (vp_in x1 4 ∧ (if x2 = (-1) then (wX5_become (x1.toNatClampNeg) x2 0 σ24 (fun σ44 => Q 1 σ44)) else (wX5_become (x1.toNatClampNeg) x2 x3 σ24 (fun σ42 => Q 1 σ42)))) else (Q (-14) σ24))) else (Q (-2) σ24)))))))
set_option maxRecDepth 20000 in
set_option maxHeartbeats 4000000 in
theorem kX7_sheet (hI : zInj tabX ad) (x1 : Int32) (x2 : Int32) (x3 : Int32)  (σ : zSt) (Q : Int32 → zSt → Prop) (h : wX7_sheet x1 x2 x3 σ Q) : zOkI l tabX D cA ad y 3 yX7_sheet cX7_sheet 4 (some .int) [.ref (ad 0), .int x1, .int x2, .int x3] σ Q := by
  refine zz_enter hI (by decide) (Nat.le_of_ble_eq_true rfl) (fun p e s m below meth c M => ?_)
  have M : zM p s m _ meth c cX7_sheet 4 RX7 (some .int) tabX D cA ad y := M
  refine zz_ls [(0, .ref (ad 0)), (1, .int x1), (2, .int x2), (3, .int x3)] rfl ?_
  unfold wX7_sheet at h
  refine zz_iload_n M 1 dX7_sheet_0 rfl rfl ?_
  refine zz_callSI (d' := 1) (As := [.int x1]) (rest := []) M l_X7_249 dX7_sheet_1 rfl rfl (by decide) (Nat.le_of_ble_eq_true rfl) (by have hI := M.2.2.2.2.2.2.2.2; exact kX7_isSheet hI _  _ _ h) (fun r1 σ2 h => ?_)
  refine zz_if_eq (y0 := 0) M 19 dX7_sheet_4 (by decide) (fun c => ?_) (fun c => ?_)
  · have h := zif h c
    refine zz_bipush (v := (-2)) M dX7_sheet_19 (by decide) ?_
    exact zz_iret M dX7_sheet_21 h
  · have h := zifn h c
    refine zz_iload_n M 2 dX7_sheet_7 rfl rfl ?_
    refine zz_iconst (v := (-1)) M dX7_sheet_8 (by decide) ?_
    refine zz_icmp_eq M 22 dX7_sheet_9 (by decide) (fun c => ?_) (fun c => ?_)
    · have h := zif h c
      refine zz_iload_n M 2 dX7_sheet_22 rfl rfl ?_
      refine zz_iconst (v := (-1)) M dX7_sheet_23 (by decide) ?_
      refine zz_icmp_eq M 36 dX7_sheet_24 (by decide) (fun c => ?_) (fun c => ?_)
      · have h := zif h c
        refine zz_iload_n M 2 dX7_sheet_36 rfl rfl ?_
        refine zz_iconst (v := (-1)) M dX7_sheet_37 (by decide) ?_
        refine zz_icmp_eq M 48 dX7_sheet_38 (by decide) (fun c => ?_) (fun c => ?_)
        · have h := zif h c
          refine zz_aload_n M 0 dX7_sheet_48 rfl rfl ?_
          refine zz_getR M f_X7_49 tX_0 rfl dX7_sheet_49 ?_
          refine zz_iload_n M 1 dX7_sheet_52 rfl rfl ?_
          have hq3 := h.1
          refine zz_aald M tX_23 (by decide) hq3 dX7_sheet_53 ?_
          have h := h.2
          refine zz_iload_n M 2 dX7_sheet_54 rfl rfl ?_
          refine zz_iload_n M 2 dX7_sheet_55 rfl rfl ?_
          refine zz_iconst (v := (-1)) M dX7_sheet_56 (by decide) ?_
          refine zz_icmp_ne M 64 dX7_sheet_57 (by decide) (fun c => ?_) (fun c => ?_)
          · have h := zifn h c
            refine zz_iload_n M 3 dX7_sheet_64 rfl rfl ?_
            refine zz_callVV (d' := 2) (As := [.int x2, .int x3]) (rest := []) M l_X7_255 (tX_Sheet (zclt hq3)) rfl rfl dX7_sheet_65 rfl rfl (by decide) (Nat.le_of_ble_eq_true rfl) (by have hI := M.2.2.2.2.2.2.2.2; exact kX5_become hI _ _ _ (zclt hq3) _ _ h) (fun σ5 h => ?_)
            refine zz_iconst (v := 1) M dX7_sheet_68 (by decide) ?_
            exact zz_iret M dX7_sheet_69 h
          · have h := zif h c
            refine zz_iconst (v := 0) M dX7_sheet_60 (by decide) ?_
            refine zz_goto M 65 dX7_sheet_61 (by decide) ?_
            refine zz_callVV (d' := 2) (As := [.int x2, .int 0]) (rest := []) M l_X7_255 (tX_Sheet (zclt hq3)) rfl rfl dX7_sheet_65 rfl rfl (by decide) (Nat.le_of_ble_eq_true rfl) (by have hI := M.2.2.2.2.2.2.2.2; exact kX5_become hI _ _ _ (zclt hq3) _ _ h) (fun σ7 h => ?_)
            refine zz_iconst (v := 1) M dX7_sheet_68 (by decide) ?_
            exact zz_iret M dX7_sheet_69 h
        · have h := zifn h c
          refine zz_iload_n M 3 dX7_sheet_41 rfl rfl ?_
          refine zz_if_ge (y0 := 0) M 48 dX7_sheet_42 (by decide) (fun c => ?_) (fun c => ?_)
          · have h := zif h c
            refine zz_aload_n M 0 dX7_sheet_48 rfl rfl ?_
            refine zz_getR M f_X7_49 tX_0 rfl dX7_sheet_49 ?_
            refine zz_iload_n M 1 dX7_sheet_52 rfl rfl ?_
            have hq8 := h.1
            refine zz_aald M tX_23 (by decide) hq8 dX7_sheet_53 ?_
            have h := h.2
            refine zz_iload_n M 2 dX7_sheet_54 rfl rfl ?_
            refine zz_iload_n M 2 dX7_sheet_55 rfl rfl ?_
            refine zz_iconst (v := (-1)) M dX7_sheet_56 (by decide) ?_
            refine zz_icmp_ne M 64 dX7_sheet_57 (by decide) (fun c => ?_) (fun c => ?_)
            · have h := zifn h c
              refine zz_iload_n M 3 dX7_sheet_64 rfl rfl ?_
              refine zz_callVV (d' := 2) (As := [.int x2, .int x3]) (rest := []) M l_X7_255 (tX_Sheet (zclt hq8)) rfl rfl dX7_sheet_65 rfl rfl (by decide) (Nat.le_of_ble_eq_true rfl) (by have hI := M.2.2.2.2.2.2.2.2; exact kX5_become hI _ _ _ (zclt hq8) _ _ h) (fun σ10 h => ?_)
              refine zz_iconst (v := 1) M dX7_sheet_68 (by decide) ?_
              exact zz_iret M dX7_sheet_69 h
            · have h := zif h c
              refine zz_iconst (v := 0) M dX7_sheet_60 (by decide) ?_
              refine zz_goto M 65 dX7_sheet_61 (by decide) ?_
              refine zz_callVV (d' := 2) (As := [.int x2, .int 0]) (rest := []) M l_X7_255 (tX_Sheet (zclt hq8)) rfl rfl dX7_sheet_65 rfl rfl (by decide) (Nat.le_of_ble_eq_true rfl) (by have hI := M.2.2.2.2.2.2.2.2; exact kX5_become hI _ _ _ (zclt hq8) _ _ h) (fun σ12 h => ?_)
              refine zz_iconst (v := 1) M dX7_sheet_68 (by decide) ?_
              exact zz_iret M dX7_sheet_69 h
          · have h := zifn h c
            refine zz_bipush (v := (-14)) M dX7_sheet_45 (by decide) ?_
            exact zz_iret M dX7_sheet_47 h
      · have h := zifn h c
        refine zz_iload_n M 3 dX7_sheet_27 rfl rfl ?_
        refine zz_bipush (v := 40) M dX7_sheet_28 (by decide) ?_
        refine zz_icmp_le M 36 dX7_sheet_30 (by decide) (fun c => ?_) (fun c => ?_)
        · have h := zif h c
          refine zz_iload_n M 2 dX7_sheet_36 rfl rfl ?_
          refine zz_iconst (v := (-1)) M dX7_sheet_37 (by decide) ?_
          refine zz_icmp_eq M 48 dX7_sheet_38 (by decide) (fun c => ?_) (fun c => ?_)
          · have h := zif h c
            refine zz_aload_n M 0 dX7_sheet_48 rfl rfl ?_
            refine zz_getR M f_X7_49 tX_0 rfl dX7_sheet_49 ?_
            refine zz_iload_n M 1 dX7_sheet_52 rfl rfl ?_
            have hq13 := h.1
            refine zz_aald M tX_23 (by decide) hq13 dX7_sheet_53 ?_
            have h := h.2
            refine zz_iload_n M 2 dX7_sheet_54 rfl rfl ?_
            refine zz_iload_n M 2 dX7_sheet_55 rfl rfl ?_
            refine zz_iconst (v := (-1)) M dX7_sheet_56 (by decide) ?_
            refine zz_icmp_ne M 64 dX7_sheet_57 (by decide) (fun c => ?_) (fun c => ?_)
            · have h := zifn h c
              refine zz_iload_n M 3 dX7_sheet_64 rfl rfl ?_
              refine zz_callVV (d' := 2) (As := [.int x2, .int x3]) (rest := []) M l_X7_255 (tX_Sheet (zclt hq13)) rfl rfl dX7_sheet_65 rfl rfl (by decide) (Nat.le_of_ble_eq_true rfl) (by have hI := M.2.2.2.2.2.2.2.2; exact kX5_become hI _ _ _ (zclt hq13) _ _ h) (fun σ15 h => ?_)
              refine zz_iconst (v := 1) M dX7_sheet_68 (by decide) ?_
              exact zz_iret M dX7_sheet_69 h
            · have h := zif h c
              refine zz_iconst (v := 0) M dX7_sheet_60 (by decide) ?_
              refine zz_goto M 65 dX7_sheet_61 (by decide) ?_
              refine zz_callVV (d' := 2) (As := [.int x2, .int 0]) (rest := []) M l_X7_255 (tX_Sheet (zclt hq13)) rfl rfl dX7_sheet_65 rfl rfl (by decide) (Nat.le_of_ble_eq_true rfl) (by have hI := M.2.2.2.2.2.2.2.2; exact kX5_become hI _ _ _ (zclt hq13) _ _ h) (fun σ17 h => ?_)
              refine zz_iconst (v := 1) M dX7_sheet_68 (by decide) ?_
              exact zz_iret M dX7_sheet_69 h
          · have h := zifn h c
            refine zz_iload_n M 3 dX7_sheet_41 rfl rfl ?_
            refine zz_if_ge (y0 := 0) M 48 dX7_sheet_42 (by decide) (fun c => ?_) (fun c => ?_)
            · have h := zif h c
              refine zz_aload_n M 0 dX7_sheet_48 rfl rfl ?_
              refine zz_getR M f_X7_49 tX_0 rfl dX7_sheet_49 ?_
              refine zz_iload_n M 1 dX7_sheet_52 rfl rfl ?_
              have hq18 := h.1
              refine zz_aald M tX_23 (by decide) hq18 dX7_sheet_53 ?_
              have h := h.2
              refine zz_iload_n M 2 dX7_sheet_54 rfl rfl ?_
              refine zz_iload_n M 2 dX7_sheet_55 rfl rfl ?_
              refine zz_iconst (v := (-1)) M dX7_sheet_56 (by decide) ?_
              refine zz_icmp_ne M 64 dX7_sheet_57 (by decide) (fun c => ?_) (fun c => ?_)
              · have h := zifn h c
                refine zz_iload_n M 3 dX7_sheet_64 rfl rfl ?_
                refine zz_callVV (d' := 2) (As := [.int x2, .int x3]) (rest := []) M l_X7_255 (tX_Sheet (zclt hq18)) rfl rfl dX7_sheet_65 rfl rfl (by decide) (Nat.le_of_ble_eq_true rfl) (by have hI := M.2.2.2.2.2.2.2.2; exact kX5_become hI _ _ _ (zclt hq18) _ _ h) (fun σ20 h => ?_)
                refine zz_iconst (v := 1) M dX7_sheet_68 (by decide) ?_
                exact zz_iret M dX7_sheet_69 h
              · have h := zif h c
                refine zz_iconst (v := 0) M dX7_sheet_60 (by decide) ?_
                refine zz_goto M 65 dX7_sheet_61 (by decide) ?_
                refine zz_callVV (d' := 2) (As := [.int x2, .int 0]) (rest := []) M l_X7_255 (tX_Sheet (zclt hq18)) rfl rfl dX7_sheet_65 rfl rfl (by decide) (Nat.le_of_ble_eq_true rfl) (by have hI := M.2.2.2.2.2.2.2.2; exact kX5_become hI _ _ _ (zclt hq18) _ _ h) (fun σ22 h => ?_)
                refine zz_iconst (v := 1) M dX7_sheet_68 (by decide) ?_
                exact zz_iret M dX7_sheet_69 h
            · have h := zifn h c
              refine zz_bipush (v := (-14)) M dX7_sheet_45 (by decide) ?_
              exact zz_iret M dX7_sheet_47 h
        · have h := zifn h c
          refine zz_bipush (v := (-2)) M dX7_sheet_33 (by decide) ?_
          exact zz_iret M dX7_sheet_35 h
    · have h := zifn h c
      refine zz_iload_n M 2 dX7_sheet_12 rfl rfl ?_
      refine zz_callSI (d' := 1) (As := [.int x2]) (rest := []) M l_X7_252 dX7_sheet_13 rfl rfl (by decide) (Nat.le_of_ble_eq_true rfl) (by have hI := M.2.2.2.2.2.2.2.2; exact kX7_isSheetSort hI _  _ _ h) (fun r23 σ24 h => ?_)
      refine zz_if_ne (y0 := 0) M 22 dX7_sheet_16 (by decide) (fun c => ?_) (fun c => ?_)
      · have h := zifn h c
        refine zz_iload_n M 2 dX7_sheet_22 rfl rfl ?_
        refine zz_iconst (v := (-1)) M dX7_sheet_23 (by decide) ?_
        refine zz_icmp_eq M 36 dX7_sheet_24 (by decide) (fun c => ?_) (fun c => ?_)
        · have h := zif h c
          refine zz_iload_n M 2 dX7_sheet_36 rfl rfl ?_
          refine zz_iconst (v := (-1)) M dX7_sheet_37 (by decide) ?_
          refine zz_icmp_eq M 48 dX7_sheet_38 (by decide) (fun c => ?_) (fun c => ?_)
          · have h := zif h c
            refine zz_aload_n M 0 dX7_sheet_48 rfl rfl ?_
            refine zz_getR M f_X7_49 tX_0 rfl dX7_sheet_49 ?_
            refine zz_iload_n M 1 dX7_sheet_52 rfl rfl ?_
            have hq25 := h.1
            refine zz_aald M tX_23 (by decide) hq25 dX7_sheet_53 ?_
            have h := h.2
            refine zz_iload_n M 2 dX7_sheet_54 rfl rfl ?_
            refine zz_iload_n M 2 dX7_sheet_55 rfl rfl ?_
            refine zz_iconst (v := (-1)) M dX7_sheet_56 (by decide) ?_
            refine zz_icmp_ne M 64 dX7_sheet_57 (by decide) (fun c => ?_) (fun c => ?_)
            · have h := zifn h c
              refine zz_iload_n M 3 dX7_sheet_64 rfl rfl ?_
              refine zz_callVV (d' := 2) (As := [.int x2, .int x3]) (rest := []) M l_X7_255 (tX_Sheet (zclt hq25)) rfl rfl dX7_sheet_65 rfl rfl (by decide) (Nat.le_of_ble_eq_true rfl) (by have hI := M.2.2.2.2.2.2.2.2; exact kX5_become hI _ _ _ (zclt hq25) _ _ h) (fun σ27 h => ?_)
              refine zz_iconst (v := 1) M dX7_sheet_68 (by decide) ?_
              exact zz_iret M dX7_sheet_69 h
            · have h := zif h c
              refine zz_iconst (v := 0) M dX7_sheet_60 (by decide) ?_
              refine zz_goto M 65 dX7_sheet_61 (by decide) ?_
              refine zz_callVV (d' := 2) (As := [.int x2, .int 0]) (rest := []) M l_X7_255 (tX_Sheet (zclt hq25)) rfl rfl dX7_sheet_65 rfl rfl (by decide) (Nat.le_of_ble_eq_true rfl) (by have hI := M.2.2.2.2.2.2.2.2; exact kX5_become hI _ _ _ (zclt hq25) _ _ h) (fun σ29 h => ?_)
              refine zz_iconst (v := 1) M dX7_sheet_68 (by decide) ?_
              exact zz_iret M dX7_sheet_69 h
          · have h := zifn h c
            refine zz_iload_n M 3 dX7_sheet_41 rfl rfl ?_
            refine zz_if_ge (y0 := 0) M 48 dX7_sheet_42 (by decide) (fun c => ?_) (fun c => ?_)
            · have h := zif h c
              refine zz_aload_n M 0 dX7_sheet_48 rfl rfl ?_
              refine zz_getR M f_X7_49 tX_0 rfl dX7_sheet_49 ?_
              refine zz_iload_n M 1 dX7_sheet_52 rfl rfl ?_
              have hq30 := h.1
              refine zz_aald M tX_23 (by decide) hq30 dX7_sheet_53 ?_
              have h := h.2
              refine zz_iload_n M 2 dX7_sheet_54 rfl rfl ?_
              refine zz_iload_n M 2 dX7_sheet_55 rfl rfl ?_
              refine zz_iconst (v := (-1)) M dX7_sheet_56 (by decide) ?_
              refine zz_icmp_ne M 64 dX7_sheet_57 (by decide) (fun c => ?_) (fun c => ?_)
              · have h := zifn h c
                refine zz_iload_n M 3 dX7_sheet_64 rfl rfl ?_
                refine zz_callVV (d' := 2) (As := [.int x2, .int x3]) (rest := []) M l_X7_255 (tX_Sheet (zclt hq30)) rfl rfl dX7_sheet_65 rfl rfl (by decide) (Nat.le_of_ble_eq_true rfl) (by have hI := M.2.2.2.2.2.2.2.2; exact kX5_become hI _ _ _ (zclt hq30) _ _ h) (fun σ32 h => ?_)
                refine zz_iconst (v := 1) M dX7_sheet_68 (by decide) ?_
                exact zz_iret M dX7_sheet_69 h
              · have h := zif h c
                refine zz_iconst (v := 0) M dX7_sheet_60 (by decide) ?_
                refine zz_goto M 65 dX7_sheet_61 (by decide) ?_
                refine zz_callVV (d' := 2) (As := [.int x2, .int 0]) (rest := []) M l_X7_255 (tX_Sheet (zclt hq30)) rfl rfl dX7_sheet_65 rfl rfl (by decide) (Nat.le_of_ble_eq_true rfl) (by have hI := M.2.2.2.2.2.2.2.2; exact kX5_become hI _ _ _ (zclt hq30) _ _ h) (fun σ34 h => ?_)
                refine zz_iconst (v := 1) M dX7_sheet_68 (by decide) ?_
                exact zz_iret M dX7_sheet_69 h
            · have h := zifn h c
              refine zz_bipush (v := (-14)) M dX7_sheet_45 (by decide) ?_
              exact zz_iret M dX7_sheet_47 h
        · have h := zifn h c
          refine zz_iload_n M 3 dX7_sheet_27 rfl rfl ?_
          refine zz_bipush (v := 40) M dX7_sheet_28 (by decide) ?_
          refine zz_icmp_le M 36 dX7_sheet_30 (by decide) (fun c => ?_) (fun c => ?_)
          · have h := zif h c
            refine zz_iload_n M 2 dX7_sheet_36 rfl rfl ?_
            refine zz_iconst (v := (-1)) M dX7_sheet_37 (by decide) ?_
            refine zz_icmp_eq M 48 dX7_sheet_38 (by decide) (fun c => ?_) (fun c => ?_)
            · have h := zif h c
              refine zz_aload_n M 0 dX7_sheet_48 rfl rfl ?_
              refine zz_getR M f_X7_49 tX_0 rfl dX7_sheet_49 ?_
              refine zz_iload_n M 1 dX7_sheet_52 rfl rfl ?_
              have hq35 := h.1
              refine zz_aald M tX_23 (by decide) hq35 dX7_sheet_53 ?_
              have h := h.2
              refine zz_iload_n M 2 dX7_sheet_54 rfl rfl ?_
              refine zz_iload_n M 2 dX7_sheet_55 rfl rfl ?_
              refine zz_iconst (v := (-1)) M dX7_sheet_56 (by decide) ?_
              refine zz_icmp_ne M 64 dX7_sheet_57 (by decide) (fun c => ?_) (fun c => ?_)
              · have h := zifn h c
                refine zz_iload_n M 3 dX7_sheet_64 rfl rfl ?_
                refine zz_callVV (d' := 2) (As := [.int x2, .int x3]) (rest := []) M l_X7_255 (tX_Sheet (zclt hq35)) rfl rfl dX7_sheet_65 rfl rfl (by decide) (Nat.le_of_ble_eq_true rfl) (by have hI := M.2.2.2.2.2.2.2.2; exact kX5_become hI _ _ _ (zclt hq35) _ _ h) (fun σ37 h => ?_)
                refine zz_iconst (v := 1) M dX7_sheet_68 (by decide) ?_
                exact zz_iret M dX7_sheet_69 h
              · have h := zif h c
                refine zz_iconst (v := 0) M dX7_sheet_60 (by decide) ?_
                refine zz_goto M 65 dX7_sheet_61 (by decide) ?_
                refine zz_callVV (d' := 2) (As := [.int x2, .int 0]) (rest := []) M l_X7_255 (tX_Sheet (zclt hq35)) rfl rfl dX7_sheet_65 rfl rfl (by decide) (Nat.le_of_ble_eq_true rfl) (by have hI := M.2.2.2.2.2.2.2.2; exact kX5_become hI _ _ _ (zclt hq35) _ _ h) (fun σ39 h => ?_)
                refine zz_iconst (v := 1) M dX7_sheet_68 (by decide) ?_
                exact zz_iret M dX7_sheet_69 h
            · have h := zifn h c
              refine zz_iload_n M 3 dX7_sheet_41 rfl rfl ?_
              refine zz_if_ge (y0 := 0) M 48 dX7_sheet_42 (by decide) (fun c => ?_) (fun c => ?_)
              · have h := zif h c
                refine zz_aload_n M 0 dX7_sheet_48 rfl rfl ?_
                refine zz_getR M f_X7_49 tX_0 rfl dX7_sheet_49 ?_
                refine zz_iload_n M 1 dX7_sheet_52 rfl rfl ?_
                have hq40 := h.1
                refine zz_aald M tX_23 (by decide) hq40 dX7_sheet_53 ?_
                have h := h.2
                refine zz_iload_n M 2 dX7_sheet_54 rfl rfl ?_
                refine zz_iload_n M 2 dX7_sheet_55 rfl rfl ?_
                refine zz_iconst (v := (-1)) M dX7_sheet_56 (by decide) ?_
                refine zz_icmp_ne M 64 dX7_sheet_57 (by decide) (fun c => ?_) (fun c => ?_)
                · have h := zifn h c
                  refine zz_iload_n M 3 dX7_sheet_64 rfl rfl ?_
                  refine zz_callVV (d' := 2) (As := [.int x2, .int x3]) (rest := []) M l_X7_255 (tX_Sheet (zclt hq40)) rfl rfl dX7_sheet_65 rfl rfl (by decide) (Nat.le_of_ble_eq_true rfl) (by have hI := M.2.2.2.2.2.2.2.2; exact kX5_become hI _ _ _ (zclt hq40) _ _ h) (fun σ42 h => ?_)
                  refine zz_iconst (v := 1) M dX7_sheet_68 (by decide) ?_
                  exact zz_iret M dX7_sheet_69 h
                · have h := zif h c
                  refine zz_iconst (v := 0) M dX7_sheet_60 (by decide) ?_
                  refine zz_goto M 65 dX7_sheet_61 (by decide) ?_
                  refine zz_callVV (d' := 2) (As := [.int x2, .int 0]) (rest := []) M l_X7_255 (tX_Sheet (zclt hq40)) rfl rfl dX7_sheet_65 rfl rfl (by decide) (Nat.le_of_ble_eq_true rfl) (by have hI := M.2.2.2.2.2.2.2.2; exact kX5_become hI _ _ _ (zclt hq40) _ _ h) (fun σ44 h => ?_)
                  refine zz_iconst (v := 1) M dX7_sheet_68 (by decide) ?_
                  exact zz_iret M dX7_sheet_69 h
              · have h := zifn h c
                refine zz_bipush (v := (-14)) M dX7_sheet_45 (by decide) ?_
                exact zz_iret M dX7_sheet_47 h
          · have h := zifn h c
            refine zz_bipush (v := (-2)) M dX7_sheet_33 (by decide) ?_
            exact zz_iret M dX7_sheet_35 h
      · have h := zif h c
        refine zz_bipush (v := (-2)) M dX7_sheet_19 (by decide) ?_
        exact zz_iret M dX7_sheet_21 h
def wX5_holds (i0 : Nat) (x1 : Int32) (x2 : Int32) (σ : zSt) (Q : Int32 → zSt → Prop) : Prop := if x1 < 0 then (Q 0 σ) else (if x2 < 0 then (Q 0 σ) else (if ((σ.1 (61 + i0) 2) - x2) < x1 then (Q 0 σ) else (Q 1 σ)))
set_option maxRecDepth 20000 in
set_option maxHeartbeats 4000000 in
theorem kX5_holds (hI : zInj tabX ad) (i0 : Nat) (x1 : Int32) (x2 : Int32) (hi0 : i0 < 4) (σ : zSt) (Q : Int32 → zSt → Prop) (h : wX5_holds i0 x1 x2 σ Q) : zOkI l tabX D cA ad y 1 yX5_holds cX5_holds 3 (some .boolean) [.ref (ad (61 + i0)), .int x1, .int x2] σ Q := by
  refine zz_enter hI (by decide) (Nat.le_of_ble_eq_true rfl) (fun p e s m below meth c M => ?_)
  have M : zM p s m _ meth c cX5_holds 3 RX5 (some .boolean) tabX D cA ad y := M
  refine zz_ls [(0, .ref (ad (61 + i0))), (1, .int x1), (2, .int x2)] rfl ?_
  unfold wX5_holds at h
  refine zz_iload_n M 1 dX5_holds_0 rfl rfl ?_
  refine zz_if_lt (y0 := 0) M 22 dX5_holds_1 (by decide) (fun c => ?_) (fun c => ?_)
  · have h := zif h c
    refine zz_iconst (v := 0) M dX5_holds_22 (by decide) ?_
    exact zz_zret M dX5_holds_23 (Or.inl rfl) h
  · have h := zifn h c
    refine zz_iload_n M 2 dX5_holds_4 rfl rfl ?_
    refine zz_if_lt (y0 := 0) M 22 dX5_holds_5 (by decide) (fun c => ?_) (fun c => ?_)
    · have h := zif h c
      refine zz_iconst (v := 0) M dX5_holds_22 (by decide) ?_
      exact zz_zret M dX5_holds_23 (Or.inl rfl) h
    · have h := zifn h c
      refine zz_iload_n M 1 dX5_holds_8 rfl rfl ?_
      refine zz_aload_n M 0 dX5_holds_9 rfl rfl ?_
      refine zz_getI M f_X5_19 (tX_Sheet hi0) rfl dX5_holds_10 ?_
      refine zz_iload_n M 2 dX5_holds_13 rfl rfl ?_
      refine zz_isub M dX5_holds_14 ?_
      refine zz_icmp_gt M 22 dX5_holds_15 (by decide) (fun c => ?_) (fun c => ?_)
      · have h := zif h c
        refine zz_iconst (v := 0) M dX5_holds_22 (by decide) ?_
        exact zz_zret M dX5_holds_23 (Or.inl rfl) h
      · have h := zifn h c
        refine zz_iconst (v := 1) M dX5_holds_18 (by decide) ?_
        refine zz_goto M 23 dX5_holds_19 (by decide) ?_
        exact zz_zret M dX5_holds_23 (Or.inr rfl) h
def wX7_cell (x1 : Int32) (x2 : Int32) (x3 : Int32) (σ : zSt) (Q : Int32 → zSt → Prop) : Prop := wX7_isSheet x1 σ (fun r1 σ2 => if r1 = 0 then (Q (-2) σ2) else (vp_in x1 4 ∧ (if (σ2.1 (61 + x1.toNatClampNeg) 1) = (-1) then (Q (-11) σ2) else (wX5_holds (x1.toNatClampNeg) x2 1 σ2 (fun r4 σ5 => if r4 = 0 then (Q (-12) σ5) else (if (σ5.1 (61 + x1.toNatClampNeg) 1) = 0 then (vp_in x2 40 ∧ (∀ σ8 : zSt, σ8 = zput σ5 (65 + x1.toNatClampNeg) x2.toNatClampNeg ((x3 : Int32).toInt8.toInt32) → (Q 1 σ8))) else (if (σ5.1 (61 + x1.toNatClampNeg) 1) = 1 then (vp_in x2 40 ∧ (∀ σ7 : zSt, σ7 = zput σ5 (65 + x1.toNatClampNeg) x2.toNatClampNeg ((x3 : Int32).toInt16.toInt32) → (Q 1 σ7))) else (vp_in x2 40 ∧ (∀ σ6 : zSt, σ6 = zput σ5 (65 + x1.toNatClampNeg) x2.toNatClampNeg x3 → (Q 1 σ6))))))))))
set_option maxRecDepth 20000 in
set_option maxHeartbeats 4000000 in
theorem kX7_cell (hI : zInj tabX ad) (x1 : Int32) (x2 : Int32) (x3 : Int32)  (σ : zSt) (Q : Int32 → zSt → Prop) (h : wX7_cell x1 x2 x3 σ Q) : zOkI l tabX D cA ad y 2 yX7_cell cX7_cell 5 (some .int) [.ref (ad 0), .int x1, .int x2, .int x3] σ Q := by
  refine zz_enter hI (by decide) (Nat.le_of_ble_eq_true rfl) (fun p e s m below meth c M => ?_)
  have M : zM p s m _ meth c cX7_cell 5 RX7 (some .int) tabX D cA ad y := M
  refine zz_ls [(0, .ref (ad 0)), (1, .int x1), (2, .int x2), (3, .int x3)] rfl ?_
  unfold wX7_cell at h
  refine zz_iload_n M 1 dX7_cell_0 rfl rfl ?_
  refine zz_callSI (d' := 1) (As := [.int x1]) (rest := []) M l_X7_249 dX7_cell_1 rfl rfl (by decide) (Nat.le_of_ble_eq_true rfl) (by have hI := M.2.2.2.2.2.2.2.2; exact kX7_isSheet hI _  _ _ h) (fun r1 σ2 h => ?_)
  refine zz_if_ne (y0 := 0) M 10 dX7_cell_4 (by decide) (fun c => ?_) (fun c => ?_)
  · have h := zifn h c
    refine zz_aload_n M 0 dX7_cell_10 rfl rfl ?_
    refine zz_getR M f_X7_49 tX_0 rfl dX7_cell_11 ?_
    refine zz_iload_n M 1 dX7_cell_14 rfl rfl ?_
    have hq3 := h.1
    refine zz_aald M tX_23 (by decide) hq3 dX7_cell_15 ?_
    have h := h.2
    refine zz_astore M [(4, .ref (ad (61 + x1.toNatClampNeg))), (0, .ref (ad 0)), (1, .int x1), (2, .int x2), (3, .int x3)] dX7_cell_16 (by decide) rfl ?_
    refine zz_aload M 0 dX7_cell_18 rfl ?_
    refine zz_getI M f_X7_259 (tX_Sheet (zclt hq3)) rfl dX7_cell_20 ?_
    refine zz_iconst (v := (-1)) M dX7_cell_23 (by decide) ?_
    refine zz_icmp_ne M 30 dX7_cell_24 (by decide) (fun c => ?_) (fun c => ?_)
    · have h := zifn h c
      refine zz_aload M 0 dX7_cell_30 rfl ?_
      refine zz_iload_n M 3 dX7_cell_32 rfl rfl ?_
      refine zz_iconst (v := 1) M dX7_cell_33 (by decide) ?_
      refine zz_callVI (d' := 1) (As := [.int x2, .int 1]) (rest := []) M l_X7_262 (tX_Sheet (zclt hq3)) rfl rfl dX7_cell_34 rfl rfl (by decide) (Nat.le_of_ble_eq_true rfl) (by have hI := M.2.2.2.2.2.2.2.2; exact kX5_holds hI _ _ _ (zclt hq3) _ _ h) (fun r4 σ5 h => ?_)
      refine zz_if_ne (y0 := 0) M 43 dX7_cell_37 (by decide) (fun c => ?_) (fun c => ?_)
      · have h := zifn h c
        refine zz_aload M 0 dX7_cell_43 rfl ?_
        refine zz_getR M f_X7_225 (tX_Sheet (zclt hq3)) rfl dX7_cell_45 ?_
        refine zz_iload_n M 3 dX7_cell_48 rfl rfl ?_
        refine zz_aload M 0 dX7_cell_49 rfl ?_
        refine zz_getI M f_X7_259 (tX_Sheet (zclt hq3)) rfl dX7_cell_51 ?_
        refine zz_if_ne (y0 := 0) M 62 dX7_cell_54 (by decide) (fun c => ?_) (fun c => ?_)
        · have h := zifn h c
          refine zz_aload M 0 dX7_cell_62 rfl ?_
          refine zz_getI M f_X7_259 (tX_Sheet (zclt hq3)) rfl dX7_cell_64 ?_
          refine zz_iconst (v := 1) M dX7_cell_67 (by decide) ?_
          refine zz_icmp_ne M 76 dX7_cell_68 (by decide) (fun c => ?_) (fun c => ?_)
          · have h := zifn h c
            refine zz_iload_n M 4 dX7_cell_76 rfl rfl ?_
            refine zz_iast M (tX_Sheet_cells (zclt hq3)) h.1 dX7_cell_77 ?_
            have h := h.2
            refine zz_sg (fun σ6 eσ6 => ?_)
            have h := h σ6 eσ6
            refine zz_iconst (v := 1) M dX7_cell_78 (by decide) ?_
            exact zz_iret M dX7_cell_79 h
          · have h := zif h c
            refine zz_iload_n M 4 dX7_cell_71 rfl rfl ?_
            refine zz_i2s M dX7_cell_72 ?_
            refine zz_goto M 77 dX7_cell_73 (by decide) ?_
            refine zz_iast M (tX_Sheet_cells (zclt hq3)) h.1 dX7_cell_77 ?_
            have h := h.2
            refine zz_sg (fun σ7 eσ7 => ?_)
            have h := h σ7 eσ7
            refine zz_iconst (v := 1) M dX7_cell_78 (by decide) ?_
            exact zz_iret M dX7_cell_79 h
        · have h := zif h c
          refine zz_iload_n M 4 dX7_cell_57 rfl rfl ?_
          refine zz_i2b M dX7_cell_58 ?_
          refine zz_goto M 77 dX7_cell_59 (by decide) ?_
          refine zz_iast M (tX_Sheet_cells (zclt hq3)) h.1 dX7_cell_77 ?_
          have h := h.2
          refine zz_sg (fun σ8 eσ8 => ?_)
          have h := h σ8 eσ8
          refine zz_iconst (v := 1) M dX7_cell_78 (by decide) ?_
          exact zz_iret M dX7_cell_79 h
      · have h := zif h c
        refine zz_bipush (v := (-12)) M dX7_cell_40 (by decide) ?_
        exact zz_iret M dX7_cell_42 h
    · have h := zif h c
      refine zz_bipush (v := (-11)) M dX7_cell_27 (by decide) ?_
      exact zz_iret M dX7_cell_29 h
  · have h := zif h c
    refine zz_bipush (v := (-2)) M dX7_cell_7 (by decide) ?_
    exact zz_iret M dX7_cell_9 h
def wX7_copy (x1 : Int32) (x2 : Int32) (x3 : Int32) (x4 : Int32) (x5 : Int32) (σ : zSt) (Q : Int32 → zSt → Prop) : Prop := wX7_isSheet x1 σ (fun r1 σ2 => if r1 = 0 then (Q (-2) σ2) else (wX7_isSheet x3 σ2 (fun r3 σ4 => if r3 = 0 then (Q (-2) σ4) else (vp_in x1 4 ∧ (vp_in x3 4 ∧ (if (σ4.1 (61 + x1.toNatClampNeg) 1) = (-1) then (Q (-11) σ4) else (if (σ4.1 (61 + x3.toNatClampNeg) 1) = (-1) then (Q (-11) σ4) else (if (σ4.1 (61 + x1.toNatClampNeg) 1) = (σ4.1 (61 + x3.toNatClampNeg) 1) then (wX5_holds (x1.toNatClampNeg) x2 x5 σ4 (fun r7 σ8 => if r7 = 0 then (Q (-12) σ8) else (wX5_holds (x3.toNatClampNeg) x4 x5 σ8 (fun r9 σ10 => if r9 = 0 then (Q (-12) σ10) else (((¬ x2 < 0 ∧ ¬ x4 < 0 ∧ ¬ x5 < 0) ∧ (x2 : Int32).toNatClampNeg + (x5 : Int32).toNatClampNeg ≤ 40 ∧ (x4 : Int32).toNatClampNeg + (x5 : Int32).toNatClampNeg ≤ 40) ∧ (∀ σ11 : zSt, σ11 = zcopy σ10 (65 + x1.toNatClampNeg) (x2 : Int32).toNatClampNeg (65 + x3.toNatClampNeg) (x4 : Int32).toNatClampNeg (x5 : Int32).toNatClampNeg → (Q x5 σ11))))))) else (Q (-13) σ4)))))))))
set_option maxRecDepth 20000 in
set_option maxHeartbeats 4000000 in
theorem kX7_copy (hI : zInj tabX ad) (x1 : Int32) (x2 : Int32) (x3 : Int32) (x4 : Int32) (x5 : Int32)  (σ : zSt) (Q : Int32 → zSt → Prop) (h : wX7_copy x1 x2 x3 x4 x5 σ Q) : zOkI l tabX D cA ad y 2 yX7_copy cX7_copy 8 (some .int) [.ref (ad 0), .int x1, .int x2, .int x3, .int x4, .int x5] σ Q := by
  refine zz_enter hI (by decide) (Nat.le_of_ble_eq_true rfl) (fun p e s m below meth c M => ?_)
  have M : zM p s m _ meth c cX7_copy 8 RX7 (some .int) tabX D cA ad y := M
  refine zz_ls [(0, .ref (ad 0)), (1, .int x1), (2, .int x2), (3, .int x3), (4, .int x4), (5, .int x5)] rfl ?_
  unfold wX7_copy at h
  refine zz_iload_n M 1 dX7_copy_0 rfl rfl ?_
  refine zz_callSI (d' := 1) (As := [.int x1]) (rest := []) M l_X7_249 dX7_copy_1 rfl rfl (by decide) (Nat.le_of_ble_eq_true rfl) (by have hI := M.2.2.2.2.2.2.2.2; exact kX7_isSheet hI _  _ _ h) (fun r1 σ2 h => ?_)
  refine zz_if_eq (y0 := 0) M 14 dX7_copy_4 (by decide) (fun c => ?_) (fun c => ?_)
  · have h := zif h c
    refine zz_bipush (v := (-2)) M dX7_copy_14 (by decide) ?_
    exact zz_iret M dX7_copy_16 h
  · have h := zifn h c
    refine zz_iload_n M 3 dX7_copy_7 rfl rfl ?_
    refine zz_callSI (d' := 1) (As := [.int x3]) (rest := []) M l_X7_249 dX7_copy_8 rfl rfl (by decide) (Nat.le_of_ble_eq_true rfl) (by have hI := M.2.2.2.2.2.2.2.2; exact kX7_isSheet hI _  _ _ h) (fun r3 σ4 h => ?_)
    refine zz_if_ne (y0 := 0) M 17 dX7_copy_11 (by decide) (fun c => ?_) (fun c => ?_)
    · have h := zifn h c
      refine zz_aload_n M 0 dX7_copy_17 rfl rfl ?_
      refine zz_getR M f_X7_49 tX_0 rfl dX7_copy_18 ?_
      refine zz_iload_n M 1 dX7_copy_21 rfl rfl ?_
      have hq5 := h.1
      refine zz_aald M tX_23 (by decide) hq5 dX7_copy_22 ?_
      have h := h.2
      refine zz_astore M [(6, .ref (ad (61 + x1.toNatClampNeg))), (0, .ref (ad 0)), (1, .int x1), (2, .int x2), (3, .int x3), (4, .int x4), (5, .int x5)] dX7_copy_23 (by decide) rfl ?_
      refine zz_aload_n M 1 dX7_copy_25 rfl rfl ?_
      refine zz_getR M f_X7_49 tX_0 rfl dX7_copy_26 ?_
      refine zz_iload_n M 4 dX7_copy_29 rfl rfl ?_
      have hq6 := h.1
      refine zz_aald M tX_23 (by decide) hq6 dX7_copy_30 ?_
      have h := h.2
      refine zz_astore M [(7, .ref (ad (61 + x3.toNatClampNeg))), (6, .ref (ad (61 + x1.toNatClampNeg))), (0, .ref (ad 0)), (1, .int x1), (2, .int x2), (3, .int x3), (4, .int x4), (5, .int x5)] dX7_copy_31 (by decide) rfl ?_
      refine zz_aload M 1 dX7_copy_33 rfl ?_
      refine zz_getI M f_X7_259 (tX_Sheet (zclt hq5)) rfl dX7_copy_35 ?_
      refine zz_iconst (v := (-1)) M dX7_copy_38 (by decide) ?_
      refine zz_icmp_eq M 51 dX7_copy_39 (by decide) (fun c => ?_) (fun c => ?_)
      · have h := zif h c
        refine zz_bipush (v := (-11)) M dX7_copy_51 (by decide) ?_
        exact zz_iret M dX7_copy_53 h
      · have h := zifn h c
        refine zz_aload M 0 dX7_copy_42 rfl ?_
        refine zz_getI M f_X7_259 (tX_Sheet (zclt hq6)) rfl dX7_copy_44 ?_
        refine zz_iconst (v := (-1)) M dX7_copy_47 (by decide) ?_
        refine zz_icmp_ne M 54 dX7_copy_48 (by decide) (fun c => ?_) (fun c => ?_)
        · have h := zifn h c
          refine zz_aload M 1 dX7_copy_54 rfl ?_
          refine zz_getI M f_X7_259 (tX_Sheet (zclt hq5)) rfl dX7_copy_56 ?_
          refine zz_aload M 0 dX7_copy_59 rfl ?_
          refine zz_getI M f_X7_259 (tX_Sheet (zclt hq6)) rfl dX7_copy_61 ?_
          refine zz_icmp_eq M 70 dX7_copy_64 (by decide) (fun c => ?_) (fun c => ?_)
          · have h := zif h c
            refine zz_aload M 1 dX7_copy_70 rfl ?_
            refine zz_iload_n M 4 dX7_copy_72 rfl rfl ?_
            refine zz_iload M 7 dX7_copy_73 rfl ?_
            refine zz_callVI (d' := 1) (As := [.int x2, .int x5]) (rest := []) M l_X7_262 (tX_Sheet (zclt hq5)) rfl rfl dX7_copy_75 rfl rfl (by decide) (Nat.le_of_ble_eq_true rfl) (by have hI := M.2.2.2.2.2.2.2.2; exact kX5_holds hI _ _ _ (zclt hq5) _ _ h) (fun r7 σ8 h => ?_)
            refine zz_if_eq (y0 := 0) M 93 dX7_copy_78 (by decide) (fun c => ?_) (fun c => ?_)
            · have h := zif h c
              refine zz_bipush (v := (-12)) M dX7_copy_93 (by decide) ?_
              exact zz_iret M dX7_copy_95 h
            · have h := zifn h c
              refine zz_aload M 0 dX7_copy_81 rfl ?_
              refine zz_iload M 6 dX7_copy_83 rfl ?_
              refine zz_iload M 7 dX7_copy_85 rfl ?_
              refine zz_callVI (d' := 1) (As := [.int x4, .int x5]) (rest := []) M l_X7_262 (tX_Sheet (zclt hq6)) rfl rfl dX7_copy_87 rfl rfl (by decide) (Nat.le_of_ble_eq_true rfl) (by have hI := M.2.2.2.2.2.2.2.2; exact kX5_holds hI _ _ _ (zclt hq6) _ _ h) (fun r9 σ10 h => ?_)
              refine zz_if_ne (y0 := 0) M 96 dX7_copy_90 (by decide) (fun c => ?_) (fun c => ?_)
              · have h := zifn h c
                refine zz_aload M 1 dX7_copy_96 rfl ?_
                refine zz_getR M f_X7_225 (tX_Sheet (zclt hq5)) rfl dX7_copy_98 ?_
                refine zz_iload_n M 4 dX7_copy_101 rfl rfl ?_
                refine zz_aload M 0 dX7_copy_102 rfl ?_
                refine zz_getR M f_X7_225 (tX_Sheet (zclt hq6)) rfl dX7_copy_104 ?_
                refine zz_iload M 6 dX7_copy_107 rfl ?_
                refine zz_iload M 7 dX7_copy_109 rfl ?_
                refine zz_copy M l_X7_194 zarrcopy (tX_Sheet_cells (zclt hq5)) (tX_Sheet_cells (zclt hq6)) (by decide) (Nat.le_of_ble_eq_true rfl) dX7_copy_111 h.1 ?_
                have h := h.2
                refine zz_sg (fun σ11 eσ11 => ?_)
                have h := h σ11 eσ11
                refine zz_iload M 7 dX7_copy_114 rfl ?_
                exact zz_iret M dX7_copy_116 h
              · have h := zif h c
                refine zz_bipush (v := (-12)) M dX7_copy_93 (by decide) ?_
                exact zz_iret M dX7_copy_95 h
          · have h := zifn h c
            refine zz_bipush (v := (-13)) M dX7_copy_67 (by decide) ?_
            exact zz_iret M dX7_copy_69 h
        · have h := zif h c
          refine zz_bipush (v := (-11)) M dX7_copy_51 (by decide) ?_
          exact zz_iret M dX7_copy_53 h
    · have h := zif h c
      refine zz_bipush (v := (-2)) M dX7_copy_14 (by decide) ?_
      exact zz_iret M dX7_copy_16 h
def wX7_comes_L67 (Q : Int32 → zSt → Prop) (K93 : zSt → Prop) (K140 : Int32 → zSt → Prop) (x3 : Int32) (x4 : Int32) (i5 : Nat) : Nat → Int32 → Int32 → zSt → Prop
  | 0, _, _, _ => False
  | n + 1, x6, x7, σ => if x4 ≤ x7 then (K140 x6 σ) else (∀ x6 : Int32, x6 = x3 + (3 * x7) → (wX5_holds i5 x6 3 σ (fun r7 σ8 => if r7 = 0 then (K93  σ8) else (vp_in x6 40 ∧ (vp_in (x6 + 1) 40 ∧ (vp_in (x6 + 2) 40 ∧ (wX7_come (σ8.1 (65 + i5) x6.toNatClampNeg) (σ8.1 (65 + i5) (x6 + 1 : Int32).toNatClampNeg) (σ8.1 (65 + i5) (x6 + 2 : Int32).toNatClampNeg) σ8 (fun r9 σ10 => if r9 < 0 then (∀ x11 : Int32, x11 = x7 + 1 → (wX7_comes_L67 Q K93 K140 x3 x4 i5 n x6 x11 σ10)) else (∀ x12 : Int32, x12 = x6 + 1 → (∀ x13 : Int32, x13 = x7 + 1 → (wX7_comes_L67 Q K93 K140 x3 x4 i5 n x12 x13 σ10)))))))))))
set_option maxRecDepth 20000 in
set_option maxHeartbeats 4000000 in
theorem sX7_comes_L67 {Q : Int32 → zSt → Prop} {K93 : zSt → Prop} {K140 : Int32 → zSt → Prop} (x3 : Int32) (x4 : Int32) (i5 : Nat) (hi5 : i5 < 4) (M : zM p s m args meth c cX7_comes 9 RX7 (some .int) tabX D cA ad y) (hK93 : ∀ (σ : zSt), K93  σ → zG p l e (zrm 5) s m args below meth c 9 tabX D cA ad (MQ below (va_Qi Q (fun σ' t => va_P D vwCl (zws tabX cA ad σ') t.heap) (zIn tabX ad)) args s 0 0 (zIn tabX ad)) 93 [] [] σ) (hK140 : ∀ (v6 : Int32) (σ : zSt), K140 v6 σ → zG p l e (zrm 5) s m args below meth c 9 tabX D cA ad (MQ below (va_Qi Q (fun σ' t => va_P D vwCl (zws tabX cA ad σ') t.heap) (zIn tabX ad)) args s 0 0 (zIn tabX ad)) 140 [(6, .int v6)] [] σ) : ∀ (n : Nat) (x6 : Int32) (x7 : Int32) (σ : zSt), wX7_comes_L67 Q K93 K140 x3 x4 i5 n x6 x7 σ → zG p l e (zrm 5) s m args below meth c 9 tabX D cA ad (MQ below (va_Qi Q (fun σ' t => va_P D vwCl (zws tabX cA ad σ') t.heap) (zIn tabX ad)) args s 0 0 (zIn tabX ad)) 67 [(0, .ref (ad 0)), (3, .int x3), (4, .int x4), (5, .ref (ad (61 + i5))), (6, .int x6), (7, .int x7)] [] σ := by
  intro n
  induction n with
  | zero => intro x6 x7 σ h; exact absurd h (by simp [wX7_comes_L67])
  | succ n ih =>
    intro x6 x7 σ h
    unfold wX7_comes_L67 at h
    refine zz_iload M 5 dX7_comes_67 rfl ?_
    refine zz_iload M 2 dX7_comes_69 rfl ?_
    refine zz_icmp_ge M 140 dX7_comes_71 (by decide) (fun c => ?_) (fun c => ?_)
    · have h := zif h c
      refine zz_sub [(6, .int x6)] [4] rfl ?_
      exact hK140 _ _ h
    · have h := zifn h c
      refine zz_iload_n M 1 dX7_comes_74 rfl rfl ?_
      refine zz_iconst (v := 3) M dX7_comes_75 (by decide) ?_
      refine zz_iload M 5 dX7_comes_76 rfl ?_
      refine zz_imul M dX7_comes_78 ?_
      refine zz_iadd M dX7_comes_79 ?_
      refine zz_topi (fun x6 ex6 => ?_)
      have h := h x6 ex6
      refine zz_istore M [(8, .int x6), (0, .ref (ad 0)), (3, .int x3), (4, .int x4), (5, .ref (ad (61 + i5))), (6, .int x6), (7, .int x7)] dX7_comes_80 (by decide) rfl ?_
      refine zz_aload M 4 dX7_comes_82 rfl ?_
      refine zz_iload M 0 dX7_comes_84 rfl ?_
      refine zz_iconst (v := 3) M dX7_comes_86 (by decide) ?_
      refine zz_callVI (d' := 1) (As := [.int x6, .int 3]) (rest := []) M l_X7_262 (tX_Sheet hi5) rfl rfl dX7_comes_87 rfl rfl (by decide) (Nat.le_of_ble_eq_true rfl) (by have hI := M.2.2.2.2.2.2.2.2; exact kX5_holds hI _ _ _ hi5 _ _ h) (fun r7 σ8 h => ?_)
      refine zz_if_ne (y0 := 0) M 96 dX7_comes_90 (by decide) (fun c => ?_) (fun c => ?_)
      · have h := zifn h c
        refine zz_aload_n M 1 dX7_comes_96 rfl rfl ?_
        refine zz_aload M 4 dX7_comes_97 rfl ?_
        refine zz_getR M f_X7_225 (tX_Sheet hi5) rfl dX7_comes_99 ?_
        refine zz_iload M 0 dX7_comes_102 rfl ?_
        refine zz_iald M (tX_Sheet_cells hi5) h.1 dX7_comes_104 ?_
        have h := h.2
        refine zz_aload M 4 dX7_comes_105 rfl ?_
        refine zz_getR M f_X7_225 (tX_Sheet hi5) rfl dX7_comes_107 ?_
        refine zz_iload M 0 dX7_comes_110 rfl ?_
        refine zz_iconst (v := 1) M dX7_comes_112 (by decide) ?_
        refine zz_iadd M dX7_comes_113 ?_
        refine zz_iald M (tX_Sheet_cells hi5) h.1 dX7_comes_114 ?_
        have h := h.2
        refine zz_aload M 4 dX7_comes_115 rfl ?_
        refine zz_getR M f_X7_225 (tX_Sheet hi5) rfl dX7_comes_117 ?_
        refine zz_iload M 0 dX7_comes_120 rfl ?_
        refine zz_iconst (v := 2) M dX7_comes_122 (by decide) ?_
        refine zz_iadd M dX7_comes_123 ?_
        refine zz_iald M (tX_Sheet_cells hi5) h.1 dX7_comes_124 ?_
        have h := h.2
        refine zz_callVI (d' := 4) (As := [.int (σ8.1 (65 + i5) x6.toNatClampNeg), .int (σ8.1 (65 + i5) (x6 + 1 : Int32).toNatClampNeg), .int (σ8.1 (65 + i5) (x6 + 2 : Int32).toNatClampNeg)]) (rest := []) M l_X7_265 tX_0 rfl rfl dX7_comes_125 rfl rfl (by decide) (Nat.le_of_ble_eq_true rfl) (by have hI := M.2.2.2.2.2.2.2.2; exact kX7_come hI _ _ _  _ _ h) (fun r9 σ10 h => ?_)
        refine zz_if_lt (y0 := 0) M 134 dX7_comes_128 (by decide) (fun c => ?_) (fun c => ?_)
        · have h := zif h c
          obtain ⟨x11, ex11⟩ : ∃ z : Int32, z = x7 + 1 := ⟨_, rfl⟩
          have h := h x11 ex11
          refine zz_iinc M [(7, .int x11), (8, .int x6), (0, .ref (ad 0)), (3, .int x3), (4, .int x4), (5, .ref (ad (61 + i5))), (6, .int x6)] 6 dX7_comes_134 rfl (n32 := 1) (by decide) ex11 (by decide) rfl ?_
          refine zz_goto M 67 dX7_comes_137 (by decide) ?_
          refine zz_sub [(0, .ref (ad 0)), (3, .int x3), (4, .int x4), (5, .ref (ad (61 + i5))), (6, .int x6), (7, .int x11)] [2, 3, 4, 5, 6, 0] rfl ?_
          exact ih _ _ _ h
        · have h := zifn h c
          obtain ⟨x12, ex12⟩ : ∃ z : Int32, z = x6 + 1 := ⟨_, rfl⟩
          have h := h x12 ex12
          refine zz_iinc M [(6, .int x12), (8, .int x6), (0, .ref (ad 0)), (3, .int x3), (4, .int x4), (5, .ref (ad (61 + i5))), (7, .int x7)] 5 dX7_comes_131 rfl (n32 := 1) (by decide) ex12 (by decide) rfl ?_
          obtain ⟨x13, ex13⟩ : ∃ z : Int32, z = x7 + 1 := ⟨_, rfl⟩
          have h := h x13 ex13
          refine zz_iinc M [(7, .int x13), (6, .int x12), (8, .int x6), (0, .ref (ad 0)), (3, .int x3), (4, .int x4), (5, .ref (ad (61 + i5)))] 6 dX7_comes_134 rfl (n32 := 1) (by decide) ex13 (by decide) rfl ?_
          refine zz_goto M 67 dX7_comes_137 (by decide) ?_
          refine zz_sub [(0, .ref (ad 0)), (3, .int x3), (4, .int x4), (5, .ref (ad (61 + i5))), (6, .int x12), (7, .int x13)] [3, 4, 5, 6, 1, 0] rfl ?_
          exact ih _ _ _ h
      · have h := zif h c
        refine zz_sub [] [] rfl ?_
        exact hK93  _ h
def wX7_comes (x1 : Int32) (x2 : Int32) (x3 : Int32) (x4 : Int32) (σ : zSt) (Q : Int32 → zSt → Prop) : Prop := wX7_isSheet x1 σ (fun r1 σ2 => if r1 = 0 then (Q (-2) σ2) else (wX7_isSheetSort x2 σ2 (fun r3 σ4 => if r3 = 0 then (Q (-2) σ4) else (if x4 < 0 then (Q (-2) σ4) else (if x4 ≤ 8 then (vp_in x1 4 ∧ (if (σ4.1 (61 + x1.toNatClampNeg) 1) = (-1) then (Q (-11) σ4) else (if (σ4.1 (61 + x1.toNatClampNeg) 1) = x2 then (wX7_comes_L67 Q (fun  σ14 => Q (-12) σ14) (fun v15 σ16 => Q v15 σ16) x3 x4 (x1.toNatClampNeg) 300 0 0 σ4) else (Q (-13) σ4)))) else (Q (-2) σ4))))))
set_option maxRecDepth 20000 in
set_option maxHeartbeats 4000000 in
theorem kX7_comes (hI : zInj tabX ad) (x1 : Int32) (x2 : Int32) (x3 : Int32) (x4 : Int32)  (σ : zSt) (Q : Int32 → zSt → Prop) (h : wX7_comes x1 x2 x3 x4 σ Q) : zOkI l tabX D cA ad y 5 yX7_comes cX7_comes 9 (some .int) [.ref (ad 0), .int x1, .int x2, .int x3, .int x4] σ Q := by
  refine zz_enter hI (by decide) (Nat.le_of_ble_eq_true rfl) (fun p e s m below meth c M => ?_)
  have M : zM p s m _ meth c cX7_comes 9 RX7 (some .int) tabX D cA ad y := M
  refine zz_ls [(0, .ref (ad 0)), (1, .int x1), (2, .int x2), (3, .int x3), (4, .int x4)] rfl ?_
  unfold wX7_comes at h
  refine zz_iload_n M 1 dX7_comes_0 rfl rfl ?_
  refine zz_callSI (d' := 1) (As := [.int x1]) (rest := []) M l_X7_249 dX7_comes_1 rfl rfl (by decide) (Nat.le_of_ble_eq_true rfl) (by have hI := M.2.2.2.2.2.2.2.2; exact kX7_isSheet hI _  _ _ h) (fun r1 σ2 h => ?_)
  refine zz_if_eq (y0 := 0) M 26 dX7_comes_4 (by decide) (fun c => ?_) (fun c => ?_)
  · have h := zif h c
    refine zz_bipush (v := (-2)) M dX7_comes_26 (by decide) ?_
    exact zz_iret M dX7_comes_28 h
  · have h := zifn h c
    refine zz_iload_n M 2 dX7_comes_7 rfl rfl ?_
    refine zz_callSI (d' := 1) (As := [.int x2]) (rest := []) M l_X7_252 dX7_comes_8 rfl rfl (by decide) (Nat.le_of_ble_eq_true rfl) (by have hI := M.2.2.2.2.2.2.2.2; exact kX7_isSheetSort hI _  _ _ h) (fun r3 σ4 h => ?_)
    refine zz_if_eq (y0 := 0) M 26 dX7_comes_11 (by decide) (fun c => ?_) (fun c => ?_)
    · have h := zif h c
      refine zz_bipush (v := (-2)) M dX7_comes_26 (by decide) ?_
      exact zz_iret M dX7_comes_28 h
    · have h := zifn h c
      refine zz_iload M 4 dX7_comes_14 rfl ?_
      refine zz_if_lt (y0 := 0) M 26 dX7_comes_16 (by decide) (fun c => ?_) (fun c => ?_)
      · have h := zif h c
        refine zz_bipush (v := (-2)) M dX7_comes_26 (by decide) ?_
        exact zz_iret M dX7_comes_28 h
      · have h := zifn h c
        refine zz_iload M 4 dX7_comes_19 rfl ?_
        refine zz_bipush (v := 8) M dX7_comes_21 (by decide) ?_
        refine zz_icmp_le M 29 dX7_comes_23 (by decide) (fun c => ?_) (fun c => ?_)
        · have h := zif h c
          refine zz_aload_n M 0 dX7_comes_29 rfl rfl ?_
          refine zz_getR M f_X7_49 tX_0 rfl dX7_comes_30 ?_
          refine zz_iload_n M 1 dX7_comes_33 rfl rfl ?_
          have hq5 := h.1
          refine zz_aald M tX_23 (by decide) hq5 dX7_comes_34 ?_
          have h := h.2
          refine zz_astore M [(5, .ref (ad (61 + x1.toNatClampNeg))), (0, .ref (ad 0)), (1, .int x1), (2, .int x2), (3, .int x3), (4, .int x4)] dX7_comes_35 (by decide) rfl ?_
          refine zz_aload M 0 dX7_comes_37 rfl ?_
          refine zz_getI M f_X7_259 (tX_Sheet (zclt hq5)) rfl dX7_comes_39 ?_
          refine zz_iconst (v := (-1)) M dX7_comes_42 (by decide) ?_
          refine zz_icmp_ne M 49 dX7_comes_43 (by decide) (fun c => ?_) (fun c => ?_)
          · have h := zifn h c
            refine zz_aload M 0 dX7_comes_49 rfl ?_
            refine zz_getI M f_X7_259 (tX_Sheet (zclt hq5)) rfl dX7_comes_51 ?_
            refine zz_iload_n M 3 dX7_comes_54 rfl rfl ?_
            refine zz_icmp_eq M 61 dX7_comes_55 (by decide) (fun c => ?_) (fun c => ?_)
            · have h := zif h c
              refine zz_iconst (v := 0) M dX7_comes_61 (by decide) ?_
              refine zz_istore M [(6, .int 0), (5, .ref (ad (61 + x1.toNatClampNeg))), (0, .ref (ad 0)), (1, .int x1), (2, .int x2), (3, .int x3), (4, .int x4)] dX7_comes_62 (by decide) rfl ?_
              refine zz_iconst (v := 0) M dX7_comes_64 (by decide) ?_
              refine zz_istore M [(7, .int 0), (6, .int 0), (5, .ref (ad (61 + x1.toNatClampNeg))), (0, .ref (ad 0)), (1, .int x1), (2, .int x2), (3, .int x3), (4, .int x4)] dX7_comes_65 (by decide) rfl ?_
              refine zz_sub [(0, .ref (ad 0)), (3, .int x3), (4, .int x4), (5, .ref (ad (61 + x1.toNatClampNeg))), (6, .int 0), (7, .int 0)] [3, 6, 7, 2, 1, 0] rfl ?_
              refine sX7_comes_L67 x3 x4 (x1.toNatClampNeg) (zclt hq5) M (fun  σ14 h => ?_) (fun v15 σ16 h => ?_) 300 _ _ _ h
              · refine zz_bipush (v := (-12)) M dX7_comes_93 (by decide) ?_
                exact zz_iret M dX7_comes_95 h
              · refine zz_iload M 0 dX7_comes_140 rfl ?_
                exact zz_iret M dX7_comes_142 h
            · have h := zifn h c
              refine zz_bipush (v := (-13)) M dX7_comes_58 (by decide) ?_
              exact zz_iret M dX7_comes_60 h
          · have h := zif h c
            refine zz_bipush (v := (-11)) M dX7_comes_46 (by decide) ?_
            exact zz_iret M dX7_comes_48 h
        · have h := zifn h c
          refine zz_bipush (v := (-2)) M dX7_comes_26 (by decide) ?_
          exact zz_iret M dX7_comes_28 h
def wX7_taken_L34 (Q : Int32 → zSt → Prop) (K55 : zSt → Prop) (K77 : zSt → Prop) (x1 : Int32) (x2 : Int32) : Nat → Int32 → Int32 → zSt → Prop
  | 0, _, _, _ => False
  | n + 1, x3, x4, σ => if 6 ≤ x4 then (K77  σ) else (wX7_isKind x3 σ (fun r6 σ7 => if r6 = 0 then (K77  σ7) else (if x3 = x2 then (K55  σ7) else (vp_in x3 6 ∧ (∀ x8 : Int32, x8 = zover x3.toNatClampNeg → (∀ x9 : Int32, x9 = x4 + 1 → (wX7_taken_L34 Q K55 K77 x1 x2 n x8 x9 σ7)))))))
set_option maxRecDepth 20000 in
set_option maxHeartbeats 4000000 in
theorem sX7_taken_L34 {Q : Int32 → zSt → Prop} {K55 : zSt → Prop} {K77 : zSt → Prop} (x1 : Int32) (x2 : Int32)  (M : zM p s m args meth c cX7_taken 5 RX7 (some .int) tabX D cA ad y) (hK55 : ∀ (σ : zSt), K55  σ → zG p l e (zrm 2) s m args below meth c 5 tabX D cA ad (MQ below (va_Qi Q (fun σ' t => va_P D vwCl (zws tabX cA ad σ') t.heap) (zIn tabX ad)) args s 0 0 (zIn tabX ad)) 55 [(0, .ref (ad 0)), (1, .int x1)] [] σ) (hK77 : ∀ (σ : zSt), K77  σ → zG p l e (zrm 2) s m args below meth c 5 tabX D cA ad (MQ below (va_Qi Q (fun σ' t => va_P D vwCl (zws tabX cA ad σ') t.heap) (zIn tabX ad)) args s 0 0 (zIn tabX ad)) 77 [] [] σ) : ∀ (n : Nat) (x3 : Int32) (x4 : Int32) (σ : zSt), wX7_taken_L34 Q K55 K77 x1 x2 n x3 x4 σ → zG p l e (zrm 2) s m args below meth c 5 tabX D cA ad (MQ below (va_Qi Q (fun σ' t => va_P D vwCl (zws tabX cA ad σ') t.heap) (zIn tabX ad)) args s 0 0 (zIn tabX ad)) 34 [(0, .ref (ad 0)), (1, .int x1), (2, .int x2), (3, .int x3), (4, .int x4)] [] σ := by
  intro n
  induction n with
  | zero => intro x3 x4 σ h; exact absurd h (by simp [wX7_taken_L34])
  | succ n ih =>
    intro x3 x4 σ h
    unfold wX7_taken_L34 at h
    refine zz_iload M 4 dX7_taken_34 rfl ?_
    refine zz_over M over_269 dX7_taken_36 ?_
    refine zz_overn M dX7_taken_39 ?_
    refine zz_icmp_ge M 77 dX7_taken_40 (by decide) (fun c => ?_) (fun c => ?_)
    · have h := zif h c
      refine zz_sub [] [] rfl ?_
      exact hK77  _ h
    · have h := zifn h c
      refine zz_iload_n M 3 dX7_taken_43 rfl rfl ?_
      refine zz_callSI (d' := 1) (As := [.int x3]) (rest := []) M l_X7_159 dX7_taken_44 rfl rfl (by decide) (Nat.le_of_ble_eq_true rfl) (by have hI := M.2.2.2.2.2.2.2.2; exact kX7_isKind hI _  _ _ h) (fun r6 σ7 h => ?_)
      refine zz_if_eq (y0 := 0) M 77 dX7_taken_47 (by decide) (fun c => ?_) (fun c => ?_)
      · have h := zif h c
        refine zz_sub [] [] rfl ?_
        exact hK77  _ h
      · have h := zifn h c
        refine zz_iload_n M 3 dX7_taken_50 rfl rfl ?_
        refine zz_iload_n M 2 dX7_taken_51 rfl rfl ?_
        refine zz_icmp_ne M 65 dX7_taken_52 (by decide) (fun c => ?_) (fun c => ?_)
        · have h := zifn h c
          refine zz_over M over_269 dX7_taken_65 ?_
          refine zz_iload_n M 3 dX7_taken_68 rfl rfl ?_
          refine zz_overl M h.1 dX7_taken_69 ?_
          have h := h.2
          refine zz_topi (fun x8 ex8 => ?_)
          have h := h x8 ex8
          refine zz_istore_n M [(3, .int x8), (0, .ref (ad 0)), (1, .int x1), (2, .int x2), (4, .int x4)] dX7_taken_70 rfl (by decide) rfl ?_
          obtain ⟨x9, ex9⟩ : ∃ z : Int32, z = x4 + 1 := ⟨_, rfl⟩
          have h := h x9 ex9
          refine zz_iinc M [(4, .int x9), (3, .int x8), (0, .ref (ad 0)), (1, .int x1), (2, .int x2)] 4 dX7_taken_71 rfl (n32 := 1) (by decide) ex9 (by decide) rfl ?_
          refine zz_goto M 34 dX7_taken_74 (by decide) ?_
          refine zz_sub [(0, .ref (ad 0)), (1, .int x1), (2, .int x2), (3, .int x8), (4, .int x9)] [2, 3, 4, 1, 0] rfl ?_
          exact ih _ _ _ h
        · have h := zif h c
          refine zz_sub [(0, .ref (ad 0)), (1, .int x1)] [0, 1] rfl ?_
          exact hK55  _ h
def wX7_taken (x1 : Int32) (x2 : Int32) (σ : zSt) (Q : Int32 → zSt → Prop) : Prop := wX7_isKind x2 σ (fun r1 σ2 => if r1 = 0 then (Q (-2) σ2) else (wX7_isMaster x1 σ2 (fun r3 σ4 => if r3 = 0 then (Q (-11) σ4) else (vp_in x1 4 ∧ (∀ x5 : Int32, x5 = σ4.1 7 x1.toNatClampNeg → (wX7_taken_L34 Q (fun  σ10 => vp_in x1 4 ∧ (Q (σ10.1 8 x1.toNatClampNeg) σ10)) (fun  σ11 => Q (-13) σ11) x1 x2 300 x5 0 σ4))))))
set_option maxRecDepth 20000 in
set_option maxHeartbeats 4000000 in
theorem kX7_taken (hI : zInj tabX ad) (x1 : Int32) (x2 : Int32)  (σ : zSt) (Q : Int32 → zSt → Prop) (h : wX7_taken x1 x2 σ Q) : zOkI l tabX D cA ad y 2 yX7_taken cX7_taken 5 (some .int) [.ref (ad 0), .int x1, .int x2] σ Q := by
  refine zz_enter hI (by decide) (Nat.le_of_ble_eq_true rfl) (fun p e s m below meth c M => ?_)
  have M : zM p s m _ meth c cX7_taken 5 RX7 (some .int) tabX D cA ad y := M
  refine zz_ls [(0, .ref (ad 0)), (1, .int x1), (2, .int x2)] rfl ?_
  unfold wX7_taken at h
  refine zz_iload_n M 2 dX7_taken_0 rfl rfl ?_
  refine zz_callSI (d' := 1) (As := [.int x2]) (rest := []) M l_X7_159 dX7_taken_1 rfl rfl (by decide) (Nat.le_of_ble_eq_true rfl) (by have hI := M.2.2.2.2.2.2.2.2; exact kX7_isKind hI _  _ _ h) (fun r1 σ2 h => ?_)
  refine zz_if_ne (y0 := 0) M 10 dX7_taken_4 (by decide) (fun c => ?_) (fun c => ?_)
  · have h := zifn h c
    refine zz_aload_n M 0 dX7_taken_10 rfl rfl ?_
    refine zz_iload_n M 1 dX7_taken_11 rfl rfl ?_
    refine zz_callVI (d' := 1) (As := [.int x1]) (rest := []) M l_X7_142 tX_0 rfl rfl dX7_taken_12 rfl rfl (by decide) (Nat.le_of_ble_eq_true rfl) (by have hI := M.2.2.2.2.2.2.2.2; exact kX7_isMaster hI _  _ _ h) (fun r3 σ4 h => ?_)
    refine zz_if_ne (y0 := 0) M 21 dX7_taken_15 (by decide) (fun c => ?_) (fun c => ?_)
    · have h := zifn h c
      refine zz_aload_n M 0 dX7_taken_21 rfl rfl ?_
      refine zz_getR M f_X7_12 tX_0 rfl dX7_taken_22 ?_
      refine zz_getR M f_X7_165 tX_1 rfl dX7_taken_25 ?_
      refine zz_iload_n M 1 dX7_taken_28 rfl rfl ?_
      refine zz_iald M tX_7 h.1 dX7_taken_29 ?_
      have h := h.2
      refine zz_topi (fun x5 ex5 => ?_)
      have h := h x5 ex5
      refine zz_istore_n M [(3, .int x5), (0, .ref (ad 0)), (1, .int x1), (2, .int x2)] dX7_taken_30 rfl (by decide) rfl ?_
      refine zz_iconst (v := 0) M dX7_taken_31 (by decide) ?_
      refine zz_istore M [(4, .int 0), (3, .int x5), (0, .ref (ad 0)), (1, .int x1), (2, .int x2)] dX7_taken_32 (by decide) rfl ?_
      refine zz_sub [(0, .ref (ad 0)), (1, .int x1), (2, .int x2), (3, .int x5), (4, .int 0)] [2, 3, 4, 1, 0] rfl ?_
      refine sX7_taken_L34 x1 x2  M (fun  σ10 h => ?_) (fun  σ11 h => ?_) 300 _ _ _ h
      · refine zz_aload_n M 0 dX7_taken_55 rfl rfl ?_
        refine zz_getR M f_X7_12 tX_0 rfl dX7_taken_56 ?_
        refine zz_getR M f_X7_145 tX_1 rfl dX7_taken_59 ?_
        refine zz_iload_n M 1 dX7_taken_62 rfl rfl ?_
        refine zz_iald M tX_8 h.1 dX7_taken_63 ?_
        have h := h.2
        exact zz_iret M dX7_taken_64 h
      · refine zz_bipush (v := (-13)) M dX7_taken_77 (by decide) ?_
        exact zz_iret M dX7_taken_79 h
    · have h := zif h c
      refine zz_bipush (v := (-11)) M dX7_taken_18 (by decide) ?_
      exact zz_iret M dX7_taken_20 h
  · have h := zif h c
    refine zz_bipush (v := (-2)) M dX7_taken_7 (by decide) ?_
    exact zz_iret M dX7_taken_9 h
end
