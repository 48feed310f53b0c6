section
variable {p : Program} {l : Launch} {e : Env} {s : State} {m : MethodId} {args : Array Value} {below : List Frame} {meth : Method} {c : Code} {D : va_G} {cA : Nat → ClassId} {ad : Nat → Nat} {y : zX}
def wX8_not0  (σ : zSt) (Q : Int32 → zSt → Prop) : Prop := wX8_isWord 110 111 116 0 0 0 0 0 σ (fun r1 σ2 => if r1 = 0 then (wX8_added0  σ2 (fun r3 σ4 => wX8_isSign 60 σ4 (fun r5 σ6 => if r5 = 0 then (wX8_isSign 61 σ6 (fun r15 σ16 => if r15 = 0 then (Q r3 σ16) else (if (lg_cmp (σ16.2) 60) = 0 then (wX8_next  σ16 (fun σ22 => wX8_added0  σ22 (fun r23 σ24 => if r23 ≤ r3 then (Q 0 σ24) else (Q 1 σ24)))) else (wX8_next  σ16 (fun σ18 => wX8_added0  σ18 (fun r19 σ20 => if r3 = r19 then (Q 1 σ20) else (Q 0 σ20))))))) else (if (lg_cmp (σ6.2) 60) = 0 then (wX8_next  σ6 (fun σ12 => wX8_added0  σ12 (fun r13 σ14 => if r13 ≤ r3 then (Q 0 σ14) else (Q 1 σ14)))) else (wX8_next  σ6 (fun σ8 => wX8_added0  σ8 (fun r9 σ10 => if r3 = r9 then (Q 1 σ10) else (Q 0 σ10)))))))) else (wX8_opens  σ2 (fun r25 σ26 => if r25 = 0 then (Q 0 σ26) else (wX8_not1  σ26 (fun r27 σ28 => ∀ σ29 : zSt, σ29 = zput σ28 0 30 ((σ28.1 0 30) - 1) → (if r27 = 0 then (Q 1 σ29) else (Q 0 σ29)))))))
set_option maxRecDepth 20000 in
set_option maxHeartbeats 4000000 in
theorem kX8_not0 (hI : zInj tabM ad)   (σ : zSt) (Q : Int32 → zSt → Prop) (h : wX8_not0  σ Q) : zOkI l tabM D cA ad y 38 yX8_not0 cX8_not0 4 (some .int) [.ref (ad 0)] σ Q := by
  refine zz_enter hI (by decide) (Nat.le_of_ble_eq_true rfl) (fun p e s m below meth c M => ?_)
  have M : zM p s m _ meth c cX8_not0 4 RX8 (some .int) tabM D cA ad y := M
  refine zz_ls [(0, .ref (ad 0))] rfl ?_
  unfold wX8_not0 at h
  refine zz_aload_n M 0 dX8_not0_0 rfl rfl ?_
  refine zz_bipush (v := 110) M dX8_not0_1 (by decide) ?_
  refine zz_bipush (v := 111) M dX8_not0_3 (by decide) ?_
  refine zz_bipush (v := 116) M dX8_not0_5 (by decide) ?_
  refine zz_iconst (v := 0) M dX8_not0_7 (by decide) ?_
  refine zz_iconst (v := 0) M dX8_not0_8 (by decide) ?_
  refine zz_iconst (v := 0) M dX8_not0_9 (by decide) ?_
  refine zz_iconst (v := 0) M dX8_not0_10 (by decide) ?_
  refine zz_iconst (v := 0) M dX8_not0_11 (by decide) ?_
  refine zz_callVI (d' := 3) (As := [.int 110, .int 111, .int 116, .int 0, .int 0, .int 0, .int 0, .int 0]) (rest := []) M l_X8_178 tM_0 rfl rfl dX8_not0_12 rfl rfl (by decide) (Nat.le_of_ble_eq_true rfl) (by have hI := M.2.2.2.2.2.2.2.2; exact kX8_isWord hI _ _ _ _ _ _ _ _  _ _ h) (fun r1 σ2 h => ?_)
  refine zz_if_eq (y0 := 0) M 52 dX8_not0_15 (by decide) (fun c => ?_) (fun c => ?_)
  · have h := zif h c
    refine zz_aload_n M 0 dX8_not0_52 rfl rfl ?_
    refine zz_callVI (d' := 37) (As := []) (rest := []) M l_X8_312 tM_0 rfl rfl dX8_not0_53 rfl rfl (by decide) (Nat.le_of_ble_eq_true rfl) (by have hI := M.2.2.2.2.2.2.2.2; exact kX8_added0 hI   _ _ h) (fun r3 σ4 h => ?_)
    refine zz_istore_n M [(1, .int r3), (0, .ref (ad 0))] dX8_not0_56 rfl (by decide) rfl ?_
    refine zz_aload_n M 1 dX8_not0_57 rfl rfl ?_
    refine zz_bipush (v := 60) M dX8_not0_58 (by decide) ?_
    refine zz_callVI (d' := 1) (As := [.int 60]) (rest := []) M l_X8_200 tM_0 rfl rfl dX8_not0_60 rfl rfl (by decide) (Nat.le_of_ble_eq_true rfl) (by have hI := M.2.2.2.2.2.2.2.2; exact kX8_isSign hI _  _ _ h) (fun r5 σ6 h => ?_)
    refine zz_if_ne (y0 := 0) M 77 dX8_not0_63 (by decide) (fun c => ?_) (fun c => ?_)
    · have h := zifn h c
      refine zz_aload_n M 1 dX8_not0_77 rfl rfl ?_
      refine zz_getL M f_X8_153 tM_0 rfl dX8_not0_78 ?_
      refine zz_ldc2 (v := 60) M k_X8_223 dX8_not0_81 ?_
      refine zz_lcmp M dX8_not0_84 ?_
      refine zz_if_ne (y0 := 0) M 92 dX8_not0_85 (by decide) (fun c => ?_) (fun c => ?_)
      · have h := zifn h c
        refine zz_iconst (v := 0) M dX8_not0_92 (by decide) ?_
        refine zz_istore_n M [(2, .int 0), (1, .int r3), (0, .ref (ad 0))] dX8_not0_93 rfl (by decide) rfl ?_
        refine zz_aload_n M 2 dX8_not0_94 rfl rfl ?_
        refine zz_callVV (d' := 2) (As := []) (rest := []) M l_X8_175 tM_0 rfl rfl dX8_not0_95 rfl rfl (by decide) (Nat.le_of_ble_eq_true rfl) (by have hI := M.2.2.2.2.2.2.2.2; exact kX8_next hI   _ _ h) (fun σ8 h => ?_)
        refine zz_aload_n M 2 dX8_not0_98 rfl rfl ?_
        refine zz_callVI (d' := 37) (As := []) (rest := []) M l_X8_312 tM_0 rfl rfl dX8_not0_99 rfl rfl (by decide) (Nat.le_of_ble_eq_true rfl) (by have hI := M.2.2.2.2.2.2.2.2; exact kX8_added0 hI   _ _ h) (fun r9 σ10 h => ?_)
        refine zz_istore_n M [(3, .int r9), (2, .int 0), (1, .int r3), (0, .ref (ad 0))] dX8_not0_102 rfl (by decide) rfl ?_
        refine zz_iload_n M 1 dX8_not0_103 rfl rfl ?_
        refine zz_if_eq (y0 := 0) M 115 dX8_not0_104 (by decide) (fun c => ?_) (fun c => absurd c (by decide))
        refine zz_iload_n M 2 dX8_not0_115 rfl rfl ?_
        refine zz_iload_n M 0 dX8_not0_116 rfl rfl ?_
        refine zz_icmp_ne M 124 dX8_not0_117 (by decide) (fun c => ?_) (fun c => ?_)
        · have h := zifn h c
          refine zz_iconst (v := 0) M dX8_not0_124 (by decide) ?_
          exact zz_iret M dX8_not0_125 h
        · have h := zif h c
          refine zz_iconst (v := 1) M dX8_not0_120 (by decide) ?_
          refine zz_goto M 125 dX8_not0_121 (by decide) ?_
          exact zz_iret M dX8_not0_125 h
      · have h := zif h c
        refine zz_iconst (v := 1) M dX8_not0_88 (by decide) ?_
        refine zz_goto M 93 dX8_not0_89 (by decide) ?_
        refine zz_istore_n M [(2, .int 1), (1, .int r3), (0, .ref (ad 0))] dX8_not0_93 rfl (by decide) rfl ?_
        refine zz_aload_n M 2 dX8_not0_94 rfl rfl ?_
        refine zz_callVV (d' := 2) (As := []) (rest := []) M l_X8_175 tM_0 rfl rfl dX8_not0_95 rfl rfl (by decide) (Nat.le_of_ble_eq_true rfl) (by have hI := M.2.2.2.2.2.2.2.2; exact kX8_next hI   _ _ h) (fun σ12 h => ?_)
        refine zz_aload_n M 2 dX8_not0_98 rfl rfl ?_
        refine zz_callVI (d' := 37) (As := []) (rest := []) M l_X8_312 tM_0 rfl rfl dX8_not0_99 rfl rfl (by decide) (Nat.le_of_ble_eq_true rfl) (by have hI := M.2.2.2.2.2.2.2.2; exact kX8_added0 hI   _ _ h) (fun r13 σ14 h => ?_)
        refine zz_istore_n M [(3, .int r13), (2, .int 1), (1, .int r3), (0, .ref (ad 0))] dX8_not0_102 rfl (by decide) rfl ?_
        refine zz_iload_n M 1 dX8_not0_103 rfl rfl ?_
        refine zz_if_eq (y0 := 0) M 115 dX8_not0_104 (by decide) (fun c => absurd c (by decide)) (fun c => ?_)
        refine zz_iload_n M 2 dX8_not0_107 rfl rfl ?_
        refine zz_iload_n M 0 dX8_not0_108 rfl rfl ?_
        refine zz_icmp_ge M 124 dX8_not0_109 (by decide) (fun c => ?_) (fun c => ?_)
        · have h := zif h c
          refine zz_iconst (v := 0) M dX8_not0_124 (by decide) ?_
          exact zz_iret M dX8_not0_125 h
        · have h := zifn h c
          refine zz_goto M 120 dX8_not0_112 (by decide) ?_
          refine zz_iconst (v := 1) M dX8_not0_120 (by decide) ?_
          refine zz_goto M 125 dX8_not0_121 (by decide) ?_
          exact zz_iret M dX8_not0_125 h
    · have h := zif h c
      refine zz_aload_n M 1 dX8_not0_66 rfl rfl ?_
      refine zz_bipush (v := 61) M dX8_not0_67 (by decide) ?_
      refine zz_callVI (d' := 1) (As := [.int 61]) (rest := []) M l_X8_200 tM_0 rfl rfl dX8_not0_69 rfl rfl (by decide) (Nat.le_of_ble_eq_true rfl) (by have hI := M.2.2.2.2.2.2.2.2; exact kX8_isSign hI _  _ _ h) (fun r15 σ16 h => ?_)
      refine zz_if_ne (y0 := 0) M 77 dX8_not0_72 (by decide) (fun c => ?_) (fun c => ?_)
      · have h := zifn h c
        refine zz_aload_n M 1 dX8_not0_77 rfl rfl ?_
        refine zz_getL M f_X8_153 tM_0 rfl dX8_not0_78 ?_
        refine zz_ldc2 (v := 60) M k_X8_223 dX8_not0_81 ?_
        refine zz_lcmp M dX8_not0_84 ?_
        refine zz_if_ne (y0 := 0) M 92 dX8_not0_85 (by decide) (fun c => ?_) (fun c => ?_)
        · have h := zifn h c
          refine zz_iconst (v := 0) M dX8_not0_92 (by decide) ?_
          refine zz_istore_n M [(2, .int 0), (1, .int r3), (0, .ref (ad 0))] dX8_not0_93 rfl (by decide) rfl ?_
          refine zz_aload_n M 2 dX8_not0_94 rfl rfl ?_
          refine zz_callVV (d' := 2) (As := []) (rest := []) M l_X8_175 tM_0 rfl rfl dX8_not0_95 rfl rfl (by decide) (Nat.le_of_ble_eq_true rfl) (by have hI := M.2.2.2.2.2.2.2.2; exact kX8_next hI   _ _ h) (fun σ18 h => ?_)
          refine zz_aload_n M 2 dX8_not0_98 rfl rfl ?_
          refine zz_callVI (d' := 37) (As := []) (rest := []) M l_X8_312 tM_0 rfl rfl dX8_not0_99 rfl rfl (by decide) (Nat.le_of_ble_eq_true rfl) (by have hI := M.2.2.2.2.2.2.2.2; exact kX8_added0 hI   _ _ h) (fun r19 σ20 h => ?_)
          refine zz_istore_n M [(3, .int r19), (2, .int 0), (1, .int r3), (0, .ref (ad 0))] dX8_not0_102 rfl (by decide) rfl ?_
          refine zz_iload_n M 1 dX8_not0_103 rfl rfl ?_
          refine zz_if_eq (y0 := 0) M 115 dX8_not0_104 (by decide) (fun c => ?_) (fun c => absurd c (by decide))
          refine zz_iload_n M 2 dX8_not0_115 rfl rfl ?_
          refine zz_iload_n M 0 dX8_not0_116 rfl rfl ?_
          refine zz_icmp_ne M 124 dX8_not0_117 (by decide) (fun c => ?_) (fun c => ?_)
          · have h := zifn h c
            refine zz_iconst (v := 0) M dX8_not0_124 (by decide) ?_
            exact zz_iret M dX8_not0_125 h
          · have h := zif h c
            refine zz_iconst (v := 1) M dX8_not0_120 (by decide) ?_
            refine zz_goto M 125 dX8_not0_121 (by decide) ?_
            exact zz_iret M dX8_not0_125 h
        · have h := zif h c
          refine zz_iconst (v := 1) M dX8_not0_88 (by decide) ?_
          refine zz_goto M 93 dX8_not0_89 (by decide) ?_
          refine zz_istore_n M [(2, .int 1), (1, .int r3), (0, .ref (ad 0))] dX8_not0_93 rfl (by decide) rfl ?_
          refine zz_aload_n M 2 dX8_not0_94 rfl rfl ?_
          refine zz_callVV (d' := 2) (As := []) (rest := []) M l_X8_175 tM_0 rfl rfl dX8_not0_95 rfl rfl (by decide) (Nat.le_of_ble_eq_true rfl) (by have hI := M.2.2.2.2.2.2.2.2; exact kX8_next hI   _ _ h) (fun σ22 h => ?_)
          refine zz_aload_n M 2 dX8_not0_98 rfl rfl ?_
          refine zz_callVI (d' := 37) (As := []) (rest := []) M l_X8_312 tM_0 rfl rfl dX8_not0_99 rfl rfl (by decide) (Nat.le_of_ble_eq_true rfl) (by have hI := M.2.2.2.2.2.2.2.2; exact kX8_added0 hI   _ _ h) (fun r23 σ24 h => ?_)
          refine zz_istore_n M [(3, .int r23), (2, .int 1), (1, .int r3), (0, .ref (ad 0))] dX8_not0_102 rfl (by decide) rfl ?_
          refine zz_iload_n M 1 dX8_not0_103 rfl rfl ?_
          refine zz_if_eq (y0 := 0) M 115 dX8_not0_104 (by decide) (fun c => absurd c (by decide)) (fun c => ?_)
          refine zz_iload_n M 2 dX8_not0_107 rfl rfl ?_
          refine zz_iload_n M 0 dX8_not0_108 rfl rfl ?_
          refine zz_icmp_ge M 124 dX8_not0_109 (by decide) (fun c => ?_) (fun c => ?_)
          · have h := zif h c
            refine zz_iconst (v := 0) M dX8_not0_124 (by decide) ?_
            exact zz_iret M dX8_not0_125 h
          · have h := zifn h c
            refine zz_goto M 120 dX8_not0_112 (by decide) ?_
            refine zz_iconst (v := 1) M dX8_not0_120 (by decide) ?_
            refine zz_goto M 125 dX8_not0_121 (by decide) ?_
            exact zz_iret M dX8_not0_125 h
      · have h := zif h c
        refine zz_iload_n M 0 dX8_not0_75 rfl rfl ?_
        exact zz_iret M dX8_not0_76 h
  · have h := zifn h c
    refine zz_aload_n M 0 dX8_not0_18 rfl rfl ?_
    refine zz_callVI (d' := 3) (As := []) (rest := []) M l_X8_204 tM_0 rfl rfl dX8_not0_19 rfl rfl (by decide) (Nat.le_of_ble_eq_true rfl) (by have hI := M.2.2.2.2.2.2.2.2; exact kX8_opens hI   _ _ h) (fun r25 σ26 h => ?_)
    refine zz_if_ne (y0 := 0) M 27 dX8_not0_22 (by decide) (fun c => ?_) (fun c => ?_)
    · have h := zifn h c
      refine zz_aload_n M 0 dX8_not0_27 rfl rfl ?_
      refine zz_callVI (d' := 32) (As := []) (rest := []) M l_X8_297 tM_0 rfl rfl dX8_not0_28 rfl rfl (by decide) (Nat.le_of_ble_eq_true rfl) (by have hI := M.2.2.2.2.2.2.2.2; exact kX8_not1 hI   _ _ h) (fun r27 σ28 h => ?_)
      refine zz_istore_n M [(1, .int r27), (0, .ref (ad 0))] dX8_not0_31 rfl (by decide) rfl ?_
      refine zz_aload_n M 1 dX8_not0_32 rfl rfl ?_
      refine zz_dup M dX8_not0_33 rfl ?_
      refine zz_getI M f_X8_169 tM_0 rfl dX8_not0_34 ?_
      refine zz_iconst (v := 1) M dX8_not0_37 (by decide) ?_
      refine zz_isub M dX8_not0_38 ?_
      refine zz_putI M f_X8_169 tM_0 rfl dX8_not0_39 ?_
      refine zz_sg (fun σ29 eσ29 => ?_)
      have h := h σ29 eσ29
      refine zz_iload_n M 0 dX8_not0_42 rfl rfl ?_
      refine zz_if_ne (y0 := 0) M 50 dX8_not0_43 (by decide) (fun c => ?_) (fun c => ?_)
      · have h := zifn h c
        refine zz_iconst (v := 0) M dX8_not0_50 (by decide) ?_
        exact zz_iret M dX8_not0_51 h
      · have h := zif h c
        refine zz_iconst (v := 1) M dX8_not0_46 (by decide) ?_
        refine zz_goto M 51 dX8_not0_47 (by decide) ?_
        exact zz_iret M dX8_not0_51 h
    · have h := zif h c
      refine zz_iconst (v := 0) M dX8_not0_25 (by decide) ?_
      exact zz_iret M dX8_not0_26 h
def wX8_both0_L5 (Q : Int32 → zSt → Prop) (K49 : Int32 → zSt → Prop)  : Nat → Int32 → zSt → Prop
  | 0, _, _ => False
  | n + 1, x1, σ => wX8_isWord 97 110 100 0 0 0 0 0 σ (fun r3 σ4 => if r3 = 0 then (K49 x1 σ4) else (wX8_next  σ4 (fun σ6 => wX8_not0  σ6 (fun r7 σ8 => if x1 = 0 then (wX8_both0_L5 Q K49  n 0 σ8) else (if r7 = 0 then (wX8_both0_L5 Q K49  n 0 σ8) else (wX8_both0_L5 Q K49  n 1 σ8))))))
set_option maxRecDepth 20000 in
set_option maxHeartbeats 4000000 in
theorem sX8_both0_L5 {Q : Int32 → zSt → Prop} {K49 : Int32 → zSt → Prop}   (M : zM p s m args meth c cX8_both0 3 RX8 (some .int) tabM D cA ad y) (hK49 : ∀ (v1 : Int32) (σ : zSt), K49 v1 σ → zG p l e (zrm 39) s m args below meth c 3 tabM D cA ad (MQ below (va_Qi Q (fun σ' t => va_P D vwCl (zws tabM cA ad σ') t.heap) (zIn tabM ad)) args s 0 0 (zIn tabM ad)) 49 [(1, .int v1)] [] σ) : ∀ (n : Nat) (x1 : Int32) (σ : zSt), wX8_both0_L5 Q K49  n x1 σ → zG p l e (zrm 39) s m args below meth c 3 tabM D cA ad (MQ below (va_Qi Q (fun σ' t => va_P D vwCl (zws tabM cA ad σ') t.heap) (zIn tabM ad)) args s 0 0 (zIn tabM ad)) 5 [(0, .ref (ad 0)), (1, .int x1)] [] σ := by
  intro n
  induction n with
  | zero => intro x1 σ h; exact absurd h (by simp [wX8_both0_L5])
  | succ n ih =>
    intro x1 σ h
    unfold wX8_both0_L5 at h
    refine zz_aload_n M 0 dX8_both0_5 rfl rfl ?_
    refine zz_bipush (v := 97) M dX8_both0_6 (by decide) ?_
    refine zz_bipush (v := 110) M dX8_both0_8 (by decide) ?_
    refine zz_bipush (v := 100) M dX8_both0_10 (by decide) ?_
    refine zz_iconst (v := 0) M dX8_both0_12 (by decide) ?_
    refine zz_iconst (v := 0) M dX8_both0_13 (by decide) ?_
    refine zz_iconst (v := 0) M dX8_both0_14 (by decide) ?_
    refine zz_iconst (v := 0) M dX8_both0_15 (by decide) ?_
    refine zz_iconst (v := 0) M dX8_both0_16 (by decide) ?_
    refine zz_callVI (d' := 3) (As := [.int 97, .int 110, .int 100, .int 0, .int 0, .int 0, .int 0, .int 0]) (rest := []) M l_X8_178 tM_0 rfl rfl dX8_both0_17 rfl rfl (by decide) (Nat.le_of_ble_eq_true rfl) (by have hI := M.2.2.2.2.2.2.2.2; exact kX8_isWord hI _ _ _ _ _ _ _ _  _ _ h) (fun r3 σ4 h => ?_)
    refine zz_if_eq (y0 := 0) M 49 dX8_both0_20 (by decide) (fun c => ?_) (fun c => ?_)
    · have h := zif h c
      refine zz_sub [(1, .int x1)] [1] rfl ?_
      exact hK49 _ _ h
    · have h := zifn h c
      refine zz_aload_n M 0 dX8_both0_23 rfl rfl ?_
      refine zz_callVV (d' := 2) (As := []) (rest := []) M l_X8_175 tM_0 rfl rfl dX8_both0_24 rfl rfl (by decide) (Nat.le_of_ble_eq_true rfl) (by have hI := M.2.2.2.2.2.2.2.2; exact kX8_next hI   _ _ h) (fun σ6 h => ?_)
      refine zz_aload_n M 0 dX8_both0_27 rfl rfl ?_
      refine zz_callVI (d' := 38) (As := []) (rest := []) M l_X8_315 tM_0 rfl rfl dX8_both0_28 rfl rfl (by decide) (Nat.le_of_ble_eq_true rfl) (by have hI := M.2.2.2.2.2.2.2.2; exact kX8_not0 hI   _ _ h) (fun r7 σ8 h => ?_)
      refine zz_istore_n M [(2, .int r7), (0, .ref (ad 0)), (1, .int x1)] dX8_both0_31 rfl (by decide) rfl ?_
      refine zz_iload_n M 2 dX8_both0_32 rfl rfl ?_
      refine zz_if_eq (y0 := 0) M 44 dX8_both0_33 (by decide) (fun c => ?_) (fun c => ?_)
      · have h := zif h c
        refine zz_iconst (v := 0) M dX8_both0_44 (by decide) ?_
        refine zz_istore_n M [(1, .int 0), (2, .int r7), (0, .ref (ad 0))] dX8_both0_45 rfl (by decide) rfl ?_
        refine zz_goto M 5 dX8_both0_46 (by decide) ?_
        refine zz_sub [(0, .ref (ad 0)), (1, .int 0)] [2, 0] rfl ?_
        exact ih _ _ h
      · have h := zifn h c
        refine zz_iload_n M 0 dX8_both0_36 rfl rfl ?_
        refine zz_if_eq (y0 := 0) M 44 dX8_both0_37 (by decide) (fun c => ?_) (fun c => ?_)
        · have h := zif h c
          refine zz_iconst (v := 0) M dX8_both0_44 (by decide) ?_
          refine zz_istore_n M [(1, .int 0), (2, .int r7), (0, .ref (ad 0))] dX8_both0_45 rfl (by decide) rfl ?_
          refine zz_goto M 5 dX8_both0_46 (by decide) ?_
          refine zz_sub [(0, .ref (ad 0)), (1, .int 0)] [2, 0] rfl ?_
          exact ih _ _ h
        · have h := zifn h c
          refine zz_iconst (v := 1) M dX8_both0_40 (by decide) ?_
          refine zz_goto M 45 dX8_both0_41 (by decide) ?_
          refine zz_istore_n M [(1, .int 1), (2, .int r7), (0, .ref (ad 0))] dX8_both0_45 rfl (by decide) rfl ?_
          refine zz_goto M 5 dX8_both0_46 (by decide) ?_
          refine zz_sub [(0, .ref (ad 0)), (1, .int 1)] [2, 0] rfl ?_
          exact ih _ _ h
def wX8_both0  (σ : zSt) (Q : Int32 → zSt → Prop) : Prop := wX8_not0  σ (fun r1 σ2 => wX8_both0_L5 Q (fun v9 σ10 => Q v9 σ10)  300 r1 σ2)
set_option maxRecDepth 20000 in
set_option maxHeartbeats 4000000 in
theorem kX8_both0 (hI : zInj tabM ad)   (σ : zSt) (Q : Int32 → zSt → Prop) (h : wX8_both0  σ Q) : zOkI l tabM D cA ad y 39 yX8_both0 cX8_both0 3 (some .int) [.ref (ad 0)] σ Q := by
  refine zz_enter hI (by decide) (Nat.le_of_ble_eq_true rfl) (fun p e s m below meth c M => ?_)
  have M : zM p s m _ meth c cX8_both0 3 RX8 (some .int) tabM D cA ad y := M
  refine zz_ls [(0, .ref (ad 0))] rfl ?_
  unfold wX8_both0 at h
  refine zz_aload_n M 0 dX8_both0_0 rfl rfl ?_
  refine zz_callVI (d' := 38) (As := []) (rest := []) M l_X8_315 tM_0 rfl rfl dX8_both0_1 rfl rfl (by decide) (Nat.le_of_ble_eq_true rfl) (by have hI := M.2.2.2.2.2.2.2.2; exact kX8_not0 hI   _ _ h) (fun r1 σ2 h => ?_)
  refine zz_istore_n M [(1, .int r1), (0, .ref (ad 0))] dX8_both0_4 rfl (by decide) rfl ?_
  refine zz_sub [(0, .ref (ad 0)), (1, .int r1)] [1, 0] rfl ?_
  refine sX8_both0_L5   M (fun v9 σ10 h => ?_) 300 _ _ h
  refine zz_iload_n M 0 dX8_both0_49 rfl rfl ?_
  exact zz_iret M dX8_both0_50 h
def wX8_either0_L5 (Q : Int32 → zSt → Prop) (K48 : Int32 → zSt → Prop)  : Nat → Int32 → zSt → Prop
  | 0, _, _ => False
  | n + 1, x1, σ => wX8_isWord 111 114 0 0 0 0 0 0 σ (fun r3 σ4 => if r3 = 0 then (K48 x1 σ4) else (wX8_next  σ4 (fun σ6 => wX8_both0  σ6 (fun r7 σ8 => if x1 = 0 then (if r7 = 0 then (wX8_either0_L5 Q K48  n 0 σ8) else (wX8_either0_L5 Q K48  n 1 σ8)) else (wX8_either0_L5 Q K48  n 1 σ8)))))
set_option maxRecDepth 20000 in
set_option maxHeartbeats 4000000 in
theorem sX8_either0_L5 {Q : Int32 → zSt → Prop} {K48 : Int32 → zSt → Prop}   (M : zM p s m args meth c cX8_either0 3 RX8 (some .int) tabM D cA ad y) (hK48 : ∀ (v1 : Int32) (σ : zSt), K48 v1 σ → zG p l e (zrm 40) s m args below meth c 3 tabM D cA ad (MQ below (va_Qi Q (fun σ' t => va_P D vwCl (zws tabM cA ad σ') t.heap) (zIn tabM ad)) args s 0 0 (zIn tabM ad)) 48 [(1, .int v1)] [] σ) : ∀ (n : Nat) (x1 : Int32) (σ : zSt), wX8_either0_L5 Q K48  n x1 σ → zG p l e (zrm 40) s m args below meth c 3 tabM D cA ad (MQ below (va_Qi Q (fun σ' t => va_P D vwCl (zws tabM cA ad σ') t.heap) (zIn tabM ad)) args s 0 0 (zIn tabM ad)) 5 [(0, .ref (ad 0)), (1, .int x1)] [] σ := by
  intro n
  induction n with
  | zero => intro x1 σ h; exact absurd h (by simp [wX8_either0_L5])
  | succ n ih =>
    intro x1 σ h
    unfold wX8_either0_L5 at h
    refine zz_aload_n M 0 dX8_either0_5 rfl rfl ?_
    refine zz_bipush (v := 111) M dX8_either0_6 (by decide) ?_
    refine zz_bipush (v := 114) M dX8_either0_8 (by decide) ?_
    refine zz_iconst (v := 0) M dX8_either0_10 (by decide) ?_
    refine zz_iconst (v := 0) M dX8_either0_11 (by decide) ?_
    refine zz_iconst (v := 0) M dX8_either0_12 (by decide) ?_
    refine zz_iconst (v := 0) M dX8_either0_13 (by decide) ?_
    refine zz_iconst (v := 0) M dX8_either0_14 (by decide) ?_
    refine zz_iconst (v := 0) M dX8_either0_15 (by decide) ?_
    refine zz_callVI (d' := 3) (As := [.int 111, .int 114, .int 0, .int 0, .int 0, .int 0, .int 0, .int 0]) (rest := []) M l_X8_178 tM_0 rfl rfl dX8_either0_16 rfl rfl (by decide) (Nat.le_of_ble_eq_true rfl) (by have hI := M.2.2.2.2.2.2.2.2; exact kX8_isWord hI _ _ _ _ _ _ _ _  _ _ h) (fun r3 σ4 h => ?_)
    refine zz_if_eq (y0 := 0) M 48 dX8_either0_19 (by decide) (fun c => ?_) (fun c => ?_)
    · have h := zif h c
      refine zz_sub [(1, .int x1)] [1] rfl ?_
      exact hK48 _ _ h
    · have h := zifn h c
      refine zz_aload_n M 0 dX8_either0_22 rfl rfl ?_
      refine zz_callVV (d' := 2) (As := []) (rest := []) M l_X8_175 tM_0 rfl rfl dX8_either0_23 rfl rfl (by decide) (Nat.le_of_ble_eq_true rfl) (by have hI := M.2.2.2.2.2.2.2.2; exact kX8_next hI   _ _ h) (fun σ6 h => ?_)
      refine zz_aload_n M 0 dX8_either0_26 rfl rfl ?_
      refine zz_callVI (d' := 39) (As := []) (rest := []) M l_X8_318 tM_0 rfl rfl dX8_either0_27 rfl rfl (by decide) (Nat.le_of_ble_eq_true rfl) (by have hI := M.2.2.2.2.2.2.2.2; exact kX8_both0 hI   _ _ h) (fun r7 σ8 h => ?_)
      refine zz_istore_n M [(2, .int r7), (0, .ref (ad 0)), (1, .int x1)] dX8_either0_30 rfl (by decide) rfl ?_
      refine zz_iload_n M 2 dX8_either0_31 rfl rfl ?_
      refine zz_if_ne (y0 := 0) M 39 dX8_either0_32 (by decide) (fun c => ?_) (fun c => ?_)
      · have h := zifn h c
        refine zz_iconst (v := 1) M dX8_either0_39 (by decide) ?_
        refine zz_goto M 44 dX8_either0_40 (by decide) ?_
        refine zz_istore_n M [(1, .int 1), (2, .int r7), (0, .ref (ad 0))] dX8_either0_44 rfl (by decide) rfl ?_
        refine zz_goto M 5 dX8_either0_45 (by decide) ?_
        refine zz_sub [(0, .ref (ad 0)), (1, .int 1)] [2, 0] rfl ?_
        exact ih _ _ h
      · have h := zif h c
        refine zz_iload_n M 0 dX8_either0_35 rfl rfl ?_
        refine zz_if_eq (y0 := 0) M 43 dX8_either0_36 (by decide) (fun c => ?_) (fun c => ?_)
        · have h := zif h c
          refine zz_iconst (v := 0) M dX8_either0_43 (by decide) ?_
          refine zz_istore_n M [(1, .int 0), (2, .int r7), (0, .ref (ad 0))] dX8_either0_44 rfl (by decide) rfl ?_
          refine zz_goto M 5 dX8_either0_45 (by decide) ?_
          refine zz_sub [(0, .ref (ad 0)), (1, .int 0)] [2, 0] rfl ?_
          exact ih _ _ h
        · have h := zifn h c
          refine zz_iconst (v := 1) M dX8_either0_39 (by decide) ?_
          refine zz_goto M 44 dX8_either0_40 (by decide) ?_
          refine zz_istore_n M [(1, .int 1), (2, .int r7), (0, .ref (ad 0))] dX8_either0_44 rfl (by decide) rfl ?_
          refine zz_goto M 5 dX8_either0_45 (by decide) ?_
          refine zz_sub [(0, .ref (ad 0)), (1, .int 1)] [2, 0] rfl ?_
          exact ih _ _ h
def wX8_either0  (σ : zSt) (Q : Int32 → zSt → Prop) : Prop := wX8_both0  σ (fun r1 σ2 => wX8_either0_L5 Q (fun v9 σ10 => Q v9 σ10)  300 r1 σ2)
set_option maxRecDepth 20000 in
set_option maxHeartbeats 4000000 in
theorem kX8_either0 (hI : zInj tabM ad)   (σ : zSt) (Q : Int32 → zSt → Prop) (h : wX8_either0  σ Q) : zOkI l tabM D cA ad y 40 yX8_either0 cX8_either0 3 (some .int) [.ref (ad 0)] σ Q := by
  refine zz_enter hI (by decide) (Nat.le_of_ble_eq_true rfl) (fun p e s m below meth c M => ?_)
  have M : zM p s m _ meth c cX8_either0 3 RX8 (some .int) tabM D cA ad y := M
  refine zz_ls [(0, .ref (ad 0))] rfl ?_
  unfold wX8_either0 at h
  refine zz_aload_n M 0 dX8_either0_0 rfl rfl ?_
  refine zz_callVI (d' := 39) (As := []) (rest := []) M l_X8_318 tM_0 rfl rfl dX8_either0_1 rfl rfl (by decide) (Nat.le_of_ble_eq_true rfl) (by have hI := M.2.2.2.2.2.2.2.2; exact kX8_both0 hI   _ _ h) (fun r1 σ2 h => ?_)
  refine zz_istore_n M [(1, .int r1), (0, .ref (ad 0))] dX8_either0_4 rfl (by decide) rfl ?_
  refine zz_sub [(0, .ref (ad 0)), (1, .int r1)] [1, 0] rfl ?_
  refine sX8_either0_L5   M (fun v9 σ10 h => ?_) 300 _ _ h
  refine zz_iload_n M 0 dX8_either0_48 rfl rfl ?_
  exact zz_iret M dX8_either0_49 h
def wX8_part (x1 : Int32) (σ : zSt) (Q : Int32 → zSt → Prop) : Prop := if x1 = 0 then (wX8_fail  σ (fun σ40 => if (σ40.1 0 31) = 0 then (wX8_next  σ40 (fun σ60 => if (σ60.1 0 31) = 0 then (wX8_either0  σ60 (fun r61 σ62 => wX8_isSign 59 σ62 (fun r63 σ64 => if r63 = 0 then (wX8_fail  σ64 (fun σ68 => if (σ68.1 0 31) = 0 then (wX8_next  σ68 (fun σ70 => Q r61 σ70)) else (Q r61 σ68))) else (if (σ64.1 0 31) = 0 then (wX8_next  σ64 (fun σ66 => Q r61 σ66)) else (Q r61 σ64))))) else (wX8_isSign 59 σ60 (fun r71 σ72 => if r71 = 0 then (wX8_fail  σ72 (fun σ76 => if (σ76.1 0 31) = 0 then (wX8_next  σ76 (fun σ78 => Q 0 σ78)) else (Q 0 σ76))) else (if (σ72.1 0 31) = 0 then (wX8_next  σ72 (fun σ74 => Q 0 σ74)) else (Q 0 σ72)))))) else (if (σ40.1 0 31) = 0 then (wX8_either0  σ40 (fun r41 σ42 => wX8_isSign 59 σ42 (fun r43 σ44 => if r43 = 0 then (wX8_fail  σ44 (fun σ48 => if (σ48.1 0 31) = 0 then (wX8_next  σ48 (fun σ50 => Q r41 σ50)) else (Q r41 σ48))) else (if (σ44.1 0 31) = 0 then (wX8_next  σ44 (fun σ46 => Q r41 σ46)) else (Q r41 σ44))))) else (wX8_isSign 59 σ40 (fun r51 σ52 => if r51 = 0 then (wX8_fail  σ52 (fun σ56 => if (σ56.1 0 31) = 0 then (wX8_next  σ56 (fun σ58 => Q 0 σ58)) else (Q 0 σ56))) else (if (σ52.1 0 31) = 0 then (wX8_next  σ52 (fun σ54 => Q 0 σ54)) else (Q 0 σ52))))))) else (if (σ.1 0 31) = 0 then (wX8_next  σ (fun σ20 => if (σ20.1 0 31) = 0 then (wX8_either0  σ20 (fun r21 σ22 => wX8_isSign 59 σ22 (fun r23 σ24 => if r23 = 0 then (wX8_fail  σ24 (fun σ28 => if (σ28.1 0 31) = 0 then (wX8_next  σ28 (fun σ30 => Q r21 σ30)) else (Q r21 σ28))) else (if (σ24.1 0 31) = 0 then (wX8_next  σ24 (fun σ26 => Q r21 σ26)) else (Q r21 σ24))))) else (wX8_isSign 59 σ20 (fun r31 σ32 => if r31 = 0 then (wX8_fail  σ32 (fun σ36 => if (σ36.1 0 31) = 0 then (wX8_next  σ36 (fun σ38 => Q 0 σ38)) else (Q 0 σ36))) else (if (σ32.1 0 31) = 0 then (wX8_next  σ32 (fun σ34 => Q 0 σ34)) else (Q 0 σ32)))))) else (if (σ.1 0 31) = 0 then (wX8_either0  σ (fun r1 σ2 => wX8_isSign 59 σ2 (fun r3 σ4 => if r3 = 0 then (wX8_fail  σ4 (fun σ8 => if (σ8.1 0 31) = 0 then (wX8_next  σ8 (fun σ10 => Q r1 σ10)) else (Q r1 σ8))) else (if (σ4.1 0 31) = 0 then (wX8_next  σ4 (fun σ6 => Q r1 σ6)) else (Q r1 σ4))))) else (wX8_isSign 59 σ (fun r11 σ12 => if r11 = 0 then (wX8_fail  σ12 (fun σ16 => if (σ16.1 0 31) = 0 then (wX8_next  σ16 (fun σ18 => Q 0 σ18)) else (Q 0 σ16))) else (if (σ12.1 0 31) = 0 then (wX8_next  σ12 (fun σ14 => Q 0 σ14)) else (Q 0 σ12))))))
set_option maxRecDepth 20000 in
set_option maxHeartbeats 4000000 in
theorem kX8_part (hI : zInj tabM ad) (x1 : Int32)  (σ : zSt) (Q : Int32 → zSt → Prop) (h : wX8_part x1 σ Q) : zOkI l tabM D cA ad y 41 yX8_part cX8_part 3 (some .int) [.ref (ad 0), .int x1] σ Q := by
  refine zz_enter hI (by decide) (Nat.le_of_ble_eq_true rfl) (fun p e s m below meth c M => ?_)
  have M : zM p s m _ meth c cX8_part 3 RX8 (some .int) tabM D cA ad y := M
  refine zz_ls [(0, .ref (ad 0)), (1, .int x1)] rfl ?_
  unfold wX8_part at h
  refine zz_iload_n M 1 dX8_part_0 rfl rfl ?_
  refine zz_if_ne (y0 := 0) M 8 dX8_part_1 (by decide) (fun c => ?_) (fun c => ?_)
  · have h := zifn h c
    refine zz_aload_n M 0 dX8_part_8 rfl rfl ?_
    refine zz_getI M f_X8_159 tM_0 rfl dX8_part_9 ?_
    refine zz_if_ne (y0 := 0) M 19 dX8_part_12 (by decide) (fun c => ?_) (fun c => ?_)
    · have h := zifn h c
      refine zz_aload_n M 0 dX8_part_19 rfl rfl ?_
      refine zz_getI M f_X8_159 tM_0 rfl dX8_part_20 ?_
      refine zz_if_eq (y0 := 0) M 30 dX8_part_23 (by decide) (fun c => ?_) (fun c => ?_)
      · have h := zif h c
        refine zz_aload_n M 0 dX8_part_30 rfl rfl ?_
        refine zz_callVI (d' := 40) (As := []) (rest := []) M l_X8_321 tM_0 rfl rfl dX8_part_31 rfl rfl (by decide) (Nat.le_of_ble_eq_true rfl) (by have hI := M.2.2.2.2.2.2.2.2; exact kX8_either0 hI   _ _ h) (fun r1 σ2 h => ?_)
        refine zz_istore_n M [(2, .int r1), (0, .ref (ad 0)), (1, .int x1)] dX8_part_34 rfl (by decide) rfl ?_
        refine zz_aload_n M 1 dX8_part_35 rfl rfl ?_
        refine zz_bipush (v := 59) M dX8_part_36 (by decide) ?_
        refine zz_callVI (d' := 1) (As := [.int 59]) (rest := []) M l_X8_200 tM_0 rfl rfl dX8_part_38 rfl rfl (by decide) (Nat.le_of_ble_eq_true rfl) (by have hI := M.2.2.2.2.2.2.2.2; exact kX8_isSign hI _  _ _ h) (fun r3 σ4 h => ?_)
        refine zz_if_ne (y0 := 0) M 48 dX8_part_41 (by decide) (fun c => ?_) (fun c => ?_)
        · have h := zifn h c
          refine zz_aload_n M 1 dX8_part_48 rfl rfl ?_
          refine zz_getI M f_X8_159 tM_0 rfl dX8_part_49 ?_
          refine zz_if_ne (y0 := 0) M 59 dX8_part_52 (by decide) (fun c => ?_) (fun c => ?_)
          · have h := zifn h c
            refine zz_iload_n M 0 dX8_part_59 rfl rfl ?_
            exact zz_iret M dX8_part_60 h
          · have h := zif h c
            refine zz_aload_n M 1 dX8_part_55 rfl rfl ?_
            refine zz_callVV (d' := 2) (As := []) (rest := []) M l_X8_175 tM_0 rfl rfl dX8_part_56 rfl rfl (by decide) (Nat.le_of_ble_eq_true rfl) (by have hI := M.2.2.2.2.2.2.2.2; exact kX8_next hI   _ _ h) (fun σ6 h => ?_)
            refine zz_iload_n M 0 dX8_part_59 rfl rfl ?_
            exact zz_iret M dX8_part_60 h
        · have h := zif h c
          refine zz_aload_n M 1 dX8_part_44 rfl rfl ?_
          refine zz_callVV (d' := 1) (As := []) (rest := []) M l_X8_172 tM_0 rfl rfl dX8_part_45 rfl rfl (by decide) (Nat.le_of_ble_eq_true rfl) (by have hI := M.2.2.2.2.2.2.2.2; exact kX8_fail hI   _ _ h) (fun σ8 h => ?_)
          refine zz_aload_n M 1 dX8_part_48 rfl rfl ?_
          refine zz_getI M f_X8_159 tM_0 rfl dX8_part_49 ?_
          refine zz_if_ne (y0 := 0) M 59 dX8_part_52 (by decide) (fun c => ?_) (fun c => ?_)
          · have h := zifn h c
            refine zz_iload_n M 0 dX8_part_59 rfl rfl ?_
            exact zz_iret M dX8_part_60 h
          · have h := zif h c
            refine zz_aload_n M 1 dX8_part_55 rfl rfl ?_
            refine zz_callVV (d' := 2) (As := []) (rest := []) M l_X8_175 tM_0 rfl rfl dX8_part_56 rfl rfl (by decide) (Nat.le_of_ble_eq_true rfl) (by have hI := M.2.2.2.2.2.2.2.2; exact kX8_next hI   _ _ h) (fun σ10 h => ?_)
            refine zz_iload_n M 0 dX8_part_59 rfl rfl ?_
            exact zz_iret M dX8_part_60 h
      · have h := zifn h c
        refine zz_iconst (v := 0) M dX8_part_26 (by decide) ?_
        refine zz_goto M 34 dX8_part_27 (by decide) ?_
        refine zz_istore_n M [(2, .int 0), (0, .ref (ad 0)), (1, .int x1)] dX8_part_34 rfl (by decide) rfl ?_
        refine zz_aload_n M 1 dX8_part_35 rfl rfl ?_
        refine zz_bipush (v := 59) M dX8_part_36 (by decide) ?_
        refine zz_callVI (d' := 1) (As := [.int 59]) (rest := []) M l_X8_200 tM_0 rfl rfl dX8_part_38 rfl rfl (by decide) (Nat.le_of_ble_eq_true rfl) (by have hI := M.2.2.2.2.2.2.2.2; exact kX8_isSign hI _  _ _ h) (fun r11 σ12 h => ?_)
        refine zz_if_ne (y0 := 0) M 48 dX8_part_41 (by decide) (fun c => ?_) (fun c => ?_)
        · have h := zifn h c
          refine zz_aload_n M 1 dX8_part_48 rfl rfl ?_
          refine zz_getI M f_X8_159 tM_0 rfl dX8_part_49 ?_
          refine zz_if_ne (y0 := 0) M 59 dX8_part_52 (by decide) (fun c => ?_) (fun c => ?_)
          · have h := zifn h c
            refine zz_iload_n M 0 dX8_part_59 rfl rfl ?_
            exact zz_iret M dX8_part_60 h
          · have h := zif h c
            refine zz_aload_n M 1 dX8_part_55 rfl rfl ?_
            refine zz_callVV (d' := 2) (As := []) (rest := []) M l_X8_175 tM_0 rfl rfl dX8_part_56 rfl rfl (by decide) (Nat.le_of_ble_eq_true rfl) (by have hI := M.2.2.2.2.2.2.2.2; exact kX8_next hI   _ _ h) (fun σ14 h => ?_)
            refine zz_iload_n M 0 dX8_part_59 rfl rfl ?_
            exact zz_iret M dX8_part_60 h
        · have h := zif h c
          refine zz_aload_n M 1 dX8_part_44 rfl rfl ?_
          refine zz_callVV (d' := 1) (As := []) (rest := []) M l_X8_172 tM_0 rfl rfl dX8_part_45 rfl rfl (by decide) (Nat.le_of_ble_eq_true rfl) (by have hI := M.2.2.2.2.2.2.2.2; exact kX8_fail hI   _ _ h) (fun σ16 h => ?_)
          refine zz_aload_n M 1 dX8_part_48 rfl rfl ?_
          refine zz_getI M f_X8_159 tM_0 rfl dX8_part_49 ?_
          refine zz_if_ne (y0 := 0) M 59 dX8_part_52 (by decide) (fun c => ?_) (fun c => ?_)
          · have h := zifn h c
            refine zz_iload_n M 0 dX8_part_59 rfl rfl ?_
            exact zz_iret M dX8_part_60 h
          · have h := zif h c
            refine zz_aload_n M 1 dX8_part_55 rfl rfl ?_
            refine zz_callVV (d' := 2) (As := []) (rest := []) M l_X8_175 tM_0 rfl rfl dX8_part_56 rfl rfl (by decide) (Nat.le_of_ble_eq_true rfl) (by have hI := M.2.2.2.2.2.2.2.2; exact kX8_next hI   _ _ h) (fun σ18 h => ?_)
            refine zz_iload_n M 0 dX8_part_59 rfl rfl ?_
            exact zz_iret M dX8_part_60 h
    · have h := zif h c
      refine zz_aload_n M 0 dX8_part_15 rfl rfl ?_
      refine zz_callVV (d' := 2) (As := []) (rest := []) M l_X8_175 tM_0 rfl rfl dX8_part_16 rfl rfl (by decide) (Nat.le_of_ble_eq_true rfl) (by have hI := M.2.2.2.2.2.2.2.2; exact kX8_next hI   _ _ h) (fun σ20 h => ?_)
      refine zz_aload_n M 0 dX8_part_19 rfl rfl ?_
      refine zz_getI M f_X8_159 tM_0 rfl dX8_part_20 ?_
      refine zz_if_eq (y0 := 0) M 30 dX8_part_23 (by decide) (fun c => ?_) (fun c => ?_)
      · have h := zif h c
        refine zz_aload_n M 0 dX8_part_30 rfl rfl ?_
        refine zz_callVI (d' := 40) (As := []) (rest := []) M l_X8_321 tM_0 rfl rfl dX8_part_31 rfl rfl (by decide) (Nat.le_of_ble_eq_true rfl) (by have hI := M.2.2.2.2.2.2.2.2; exact kX8_either0 hI   _ _ h) (fun r21 σ22 h => ?_)
        refine zz_istore_n M [(2, .int r21), (0, .ref (ad 0)), (1, .int x1)] dX8_part_34 rfl (by decide) rfl ?_
        refine zz_aload_n M 1 dX8_part_35 rfl rfl ?_
        refine zz_bipush (v := 59) M dX8_part_36 (by decide) ?_
        refine zz_callVI (d' := 1) (As := [.int 59]) (rest := []) M l_X8_200 tM_0 rfl rfl dX8_part_38 rfl rfl (by decide) (Nat.le_of_ble_eq_true rfl) (by have hI := M.2.2.2.2.2.2.2.2; exact kX8_isSign hI _  _ _ h) (fun r23 σ24 h => ?_)
        refine zz_if_ne (y0 := 0) M 48 dX8_part_41 (by decide) (fun c => ?_) (fun c => ?_)
        · have h := zifn h c
          refine zz_aload_n M 1 dX8_part_48 rfl rfl ?_
          refine zz_getI M f_X8_159 tM_0 rfl dX8_part_49 ?_
          refine zz_if_ne (y0 := 0) M 59 dX8_part_52 (by decide) (fun c => ?_) (fun c => ?_)
          · have h := zifn h c
            refine zz_iload_n M 0 dX8_part_59 rfl rfl ?_
            exact zz_iret M dX8_part_60 h
          · have h := zif h c
            refine zz_aload_n M 1 dX8_part_55 rfl rfl ?_
            refine zz_callVV (d' := 2) (As := []) (rest := []) M l_X8_175 tM_0 rfl rfl dX8_part_56 rfl rfl (by decide) (Nat.le_of_ble_eq_true rfl) (by have hI := M.2.2.2.2.2.2.2.2; exact kX8_next hI   _ _ h) (fun σ26 h => ?_)
            refine zz_iload_n M 0 dX8_part_59 rfl rfl ?_
            exact zz_iret M dX8_part_60 h
        · have h := zif h c
          refine zz_aload_n M 1 dX8_part_44 rfl rfl ?_
          refine zz_callVV (d' := 1) (As := []) (rest := []) M l_X8_172 tM_0 rfl rfl dX8_part_45 rfl rfl (by decide) (Nat.le_of_ble_eq_true rfl) (by have hI := M.2.2.2.2.2.2.2.2; exact kX8_fail hI   _ _ h) (fun σ28 h => ?_)
          refine zz_aload_n M 1 dX8_part_48 rfl rfl ?_
          refine zz_getI M f_X8_159 tM_0 rfl dX8_part_49 ?_
          refine zz_if_ne (y0 := 0) M 59 dX8_part_52 (by decide) (fun c => ?_) (fun c => ?_)
          · have h := zifn h c
            refine zz_iload_n M 0 dX8_part_59 rfl rfl ?_
            exact zz_iret M dX8_part_60 h
          · have h := zif h c
            refine zz_aload_n M 1 dX8_part_55 rfl rfl ?_
            refine zz_callVV (d' := 2) (As := []) (rest := []) M l_X8_175 tM_0 rfl rfl dX8_part_56 rfl rfl (by decide) (Nat.le_of_ble_eq_true rfl) (by have hI := M.2.2.2.2.2.2.2.2; exact kX8_next hI   _ _ h) (fun σ30 h => ?_)
            refine zz_iload_n M 0 dX8_part_59 rfl rfl ?_
            exact zz_iret M dX8_part_60 h
      · have h := zifn h c
        refine zz_iconst (v := 0) M dX8_part_26 (by decide) ?_
        refine zz_goto M 34 dX8_part_27 (by decide) ?_
        refine zz_istore_n M [(2, .int 0), (0, .ref (ad 0)), (1, .int x1)] dX8_part_34 rfl (by decide) rfl ?_
        refine zz_aload_n M 1 dX8_part_35 rfl rfl ?_
        refine zz_bipush (v := 59) M dX8_part_36 (by decide) ?_
        refine zz_callVI (d' := 1) (As := [.int 59]) (rest := []) M l_X8_200 tM_0 rfl rfl dX8_part_38 rfl rfl (by decide) (Nat.le_of_ble_eq_true rfl) (by have hI := M.2.2.2.2.2.2.2.2; exact kX8_isSign hI _  _ _ h) (fun r31 σ32 h => ?_)
        refine zz_if_ne (y0 := 0) M 48 dX8_part_41 (by decide) (fun c => ?_) (fun c => ?_)
        · have h := zifn h c
          refine zz_aload_n M 1 dX8_part_48 rfl rfl ?_
          refine zz_getI M f_X8_159 tM_0 rfl dX8_part_49 ?_
          refine zz_if_ne (y0 := 0) M 59 dX8_part_52 (by decide) (fun c => ?_) (fun c => ?_)
          · have h := zifn h c
            refine zz_iload_n M 0 dX8_part_59 rfl rfl ?_
            exact zz_iret M dX8_part_60 h
          · have h := zif h c
            refine zz_aload_n M 1 dX8_part_55 rfl rfl ?_
            refine zz_callVV (d' := 2) (As := []) (rest := []) M l_X8_175 tM_0 rfl rfl dX8_part_56 rfl rfl (by decide) (Nat.le_of_ble_eq_true rfl) (by have hI := M.2.2.2.2.2.2.2.2; exact kX8_next hI   _ _ h) (fun σ34 h => ?_)
            refine zz_iload_n M 0 dX8_part_59 rfl rfl ?_
            exact zz_iret M dX8_part_60 h
        · have h := zif h c
          refine zz_aload_n M 1 dX8_part_44 rfl rfl ?_
          refine zz_callVV (d' := 1) (As := []) (rest := []) M l_X8_172 tM_0 rfl rfl dX8_part_45 rfl rfl (by decide) (Nat.le_of_ble_eq_true rfl) (by have hI := M.2.2.2.2.2.2.2.2; exact kX8_fail hI   _ _ h) (fun σ36 h => ?_)
          refine zz_aload_n M 1 dX8_part_48 rfl rfl ?_
          refine zz_getI M f_X8_159 tM_0 rfl dX8_part_49 ?_
          refine zz_if_ne (y0 := 0) M 59 dX8_part_52 (by decide) (fun c => ?_) (fun c => ?_)
          · have h := zifn h c
            refine zz_iload_n M 0 dX8_part_59 rfl rfl ?_
            exact zz_iret M dX8_part_60 h
          · have h := zif h c
            refine zz_aload_n M 1 dX8_part_55 rfl rfl ?_
            refine zz_callVV (d' := 2) (As := []) (rest := []) M l_X8_175 tM_0 rfl rfl dX8_part_56 rfl rfl (by decide) (Nat.le_of_ble_eq_true rfl) (by have hI := M.2.2.2.2.2.2.2.2; exact kX8_next hI   _ _ h) (fun σ38 h => ?_)
            refine zz_iload_n M 0 dX8_part_59 rfl rfl ?_
            exact zz_iret M dX8_part_60 h
  · have h := zif h c
    refine zz_aload_n M 0 dX8_part_4 rfl rfl ?_
    refine zz_callVV (d' := 1) (As := []) (rest := []) M l_X8_172 tM_0 rfl rfl dX8_part_5 rfl rfl (by decide) (Nat.le_of_ble_eq_true rfl) (by have hI := M.2.2.2.2.2.2.2.2; exact kX8_fail hI   _ _ h) (fun σ40 h => ?_)
    refine zz_aload_n M 0 dX8_part_8 rfl rfl ?_
    refine zz_getI M f_X8_159 tM_0 rfl dX8_part_9 ?_
    refine zz_if_ne (y0 := 0) M 19 dX8_part_12 (by decide) (fun c => ?_) (fun c => ?_)
    · have h := zifn h c
      refine zz_aload_n M 0 dX8_part_19 rfl rfl ?_
      refine zz_getI M f_X8_159 tM_0 rfl dX8_part_20 ?_
      refine zz_if_eq (y0 := 0) M 30 dX8_part_23 (by decide) (fun c => ?_) (fun c => ?_)
      · have h := zif h c
        refine zz_aload_n M 0 dX8_part_30 rfl rfl ?_
        refine zz_callVI (d' := 40) (As := []) (rest := []) M l_X8_321 tM_0 rfl rfl dX8_part_31 rfl rfl (by decide) (Nat.le_of_ble_eq_true rfl) (by have hI := M.2.2.2.2.2.2.2.2; exact kX8_either0 hI   _ _ h) (fun r41 σ42 h => ?_)
        refine zz_istore_n M [(2, .int r41), (0, .ref (ad 0)), (1, .int x1)] dX8_part_34 rfl (by decide) rfl ?_
        refine zz_aload_n M 1 dX8_part_35 rfl rfl ?_
        refine zz_bipush (v := 59) M dX8_part_36 (by decide) ?_
        refine zz_callVI (d' := 1) (As := [.int 59]) (rest := []) M l_X8_200 tM_0 rfl rfl dX8_part_38 rfl rfl (by decide) (Nat.le_of_ble_eq_true rfl) (by have hI := M.2.2.2.2.2.2.2.2; exact kX8_isSign hI _  _ _ h) (fun r43 σ44 h => ?_)
        refine zz_if_ne (y0 := 0) M 48 dX8_part_41 (by decide) (fun c => ?_) (fun c => ?_)
        · have h := zifn h c
          refine zz_aload_n M 1 dX8_part_48 rfl rfl ?_
          refine zz_getI M f_X8_159 tM_0 rfl dX8_part_49 ?_
          refine zz_if_ne (y0 := 0) M 59 dX8_part_52 (by decide) (fun c => ?_) (fun c => ?_)
          · have h := zifn h c
            refine zz_iload_n M 0 dX8_part_59 rfl rfl ?_
            exact zz_iret M dX8_part_60 h
          · have h := zif h c
            refine zz_aload_n M 1 dX8_part_55 rfl rfl ?_
            refine zz_callVV (d' := 2) (As := []) (rest := []) M l_X8_175 tM_0 rfl rfl dX8_part_56 rfl rfl (by decide) (Nat.le_of_ble_eq_true rfl) (by have hI := M.2.2.2.2.2.2.2.2; exact kX8_next hI   _ _ h) (fun σ46 h => ?_)
            refine zz_iload_n M 0 dX8_part_59 rfl rfl ?_
            exact zz_iret M dX8_part_60 h
        · have h := zif h c
          refine zz_aload_n M 1 dX8_part_44 rfl rfl ?_
          refine zz_callVV (d' := 1) (As := []) (rest := []) M l_X8_172 tM_0 rfl rfl dX8_part_45 rfl rfl (by decide) (Nat.le_of_ble_eq_true rfl) (by have hI := M.2.2.2.2.2.2.2.2; exact kX8_fail hI   _ _ h) (fun σ48 h => ?_)
          refine zz_aload_n M 1 dX8_part_48 rfl rfl ?_
          refine zz_getI M f_X8_159 tM_0 rfl dX8_part_49 ?_
          refine zz_if_ne (y0 := 0) M 59 dX8_part_52 (by decide) (fun c => ?_) (fun c => ?_)
          · have h := zifn h c
            refine zz_iload_n M 0 dX8_part_59 rfl rfl ?_
            exact zz_iret M dX8_part_60 h
          · have h := zif h c
            refine zz_aload_n M 1 dX8_part_55 rfl rfl ?_
            refine zz_callVV (d' := 2) (As := []) (rest := []) M l_X8_175 tM_0 rfl rfl dX8_part_56 rfl rfl (by decide) (Nat.le_of_ble_eq_true rfl) (by have hI := M.2.2.2.2.2.2.2.2; exact kX8_next hI   _ _ h) (fun σ50 h => ?_)
            refine zz_iload_n M 0 dX8_part_59 rfl rfl ?_
            exact zz_iret M dX8_part_60 h
      · have h := zifn h c
        refine zz_iconst (v := 0) M dX8_part_26 (by decide) ?_
        refine zz_goto M 34 dX8_part_27 (by decide) ?_
        refine zz_istore_n M [(2, .int 0), (0, .ref (ad 0)), (1, .int x1)] dX8_part_34 rfl (by decide) rfl ?_
        refine zz_aload_n M 1 dX8_part_35 rfl rfl ?_
        refine zz_bipush (v := 59) M dX8_part_36 (by decide) ?_
        refine zz_callVI (d' := 1) (As := [.int 59]) (rest := []) M l_X8_200 tM_0 rfl rfl dX8_part_38 rfl rfl (by decide) (Nat.le_of_ble_eq_true rfl) (by have hI := M.2.2.2.2.2.2.2.2; exact kX8_isSign hI _  _ _ h) (fun r51 σ52 h => ?_)
        refine zz_if_ne (y0 := 0) M 48 dX8_part_41 (by decide) (fun c => ?_) (fun c => ?_)
        · have h := zifn h c
          refine zz_aload_n M 1 dX8_part_48 rfl rfl ?_
          refine zz_getI M f_X8_159 tM_0 rfl dX8_part_49 ?_
          refine zz_if_ne (y0 := 0) M 59 dX8_part_52 (by decide) (fun c => ?_) (fun c => ?_)
          · have h := zifn h c
            refine zz_iload_n M 0 dX8_part_59 rfl rfl ?_
            exact zz_iret M dX8_part_60 h
          · have h := zif h c
            refine zz_aload_n M 1 dX8_part_55 rfl rfl ?_
            refine zz_callVV (d' := 2) (As := []) (rest := []) M l_X8_175 tM_0 rfl rfl dX8_part_56 rfl rfl (by decide) (Nat.le_of_ble_eq_true rfl) (by have hI := M.2.2.2.2.2.2.2.2; exact kX8_next hI   _ _ h) (fun σ54 h => ?_)
            refine zz_iload_n M 0 dX8_part_59 rfl rfl ?_
            exact zz_iret M dX8_part_60 h
        · have h := zif h c
          refine zz_aload_n M 1 dX8_part_44 rfl rfl ?_
          refine zz_callVV (d' := 1) (As := []) (rest := []) M l_X8_172 tM_0 rfl rfl dX8_part_45 rfl rfl (by decide) (Nat.le_of_ble_eq_true rfl) (by have hI := M.2.2.2.2.2.2.2.2; exact kX8_fail hI   _ _ h) (fun σ56 h => ?_)
          refine zz_aload_n M 1 dX8_part_48 rfl rfl ?_
          refine zz_getI M f_X8_159 tM_0 rfl dX8_part_49 ?_
          refine zz_if_ne (y0 := 0) M 59 dX8_part_52 (by decide) (fun c => ?_) (fun c => ?_)
          · have h := zifn h c
            refine zz_iload_n M 0 dX8_part_59 rfl rfl ?_
            exact zz_iret M dX8_part_60 h
          · have h := zif h c
            refine zz_aload_n M 1 dX8_part_55 rfl rfl ?_
            refine zz_callVV (d' := 2) (As := []) (rest := []) M l_X8_175 tM_0 rfl rfl dX8_part_56 rfl rfl (by decide) (Nat.le_of_ble_eq_true rfl) (by have hI := M.2.2.2.2.2.2.2.2; exact kX8_next hI   _ _ h) (fun σ58 h => ?_)
            refine zz_iload_n M 0 dX8_part_59 rfl rfl ?_
            exact zz_iret M dX8_part_60 h
    · have h := zif h c
      refine zz_aload_n M 0 dX8_part_15 rfl rfl ?_
      refine zz_callVV (d' := 2) (As := []) (rest := []) M l_X8_175 tM_0 rfl rfl dX8_part_16 rfl rfl (by decide) (Nat.le_of_ble_eq_true rfl) (by have hI := M.2.2.2.2.2.2.2.2; exact kX8_next hI   _ _ h) (fun σ60 h => ?_)
      refine zz_aload_n M 0 dX8_part_19 rfl rfl ?_
      refine zz_getI M f_X8_159 tM_0 rfl dX8_part_20 ?_
      refine zz_if_eq (y0 := 0) M 30 dX8_part_23 (by decide) (fun c => ?_) (fun c => ?_)
      · have h := zif h c
        refine zz_aload_n M 0 dX8_part_30 rfl rfl ?_
        refine zz_callVI (d' := 40) (As := []) (rest := []) M l_X8_321 tM_0 rfl rfl dX8_part_31 rfl rfl (by decide) (Nat.le_of_ble_eq_true rfl) (by have hI := M.2.2.2.2.2.2.2.2; exact kX8_either0 hI   _ _ h) (fun r61 σ62 h => ?_)
        refine zz_istore_n M [(2, .int r61), (0, .ref (ad 0)), (1, .int x1)] dX8_part_34 rfl (by decide) rfl ?_
        refine zz_aload_n M 1 dX8_part_35 rfl rfl ?_
        refine zz_bipush (v := 59) M dX8_part_36 (by decide) ?_
        refine zz_callVI (d' := 1) (As := [.int 59]) (rest := []) M l_X8_200 tM_0 rfl rfl dX8_part_38 rfl rfl (by decide) (Nat.le_of_ble_eq_true rfl) (by have hI := M.2.2.2.2.2.2.2.2; exact kX8_isSign hI _  _ _ h) (fun r63 σ64 h => ?_)
        refine zz_if_ne (y0 := 0) M 48 dX8_part_41 (by decide) (fun c => ?_) (fun c => ?_)
        · have h := zifn h c
          refine zz_aload_n M 1 dX8_part_48 rfl rfl ?_
          refine zz_getI M f_X8_159 tM_0 rfl dX8_part_49 ?_
          refine zz_if_ne (y0 := 0) M 59 dX8_part_52 (by decide) (fun c => ?_) (fun c => ?_)
          · have h := zifn h c
            refine zz_iload_n M 0 dX8_part_59 rfl rfl ?_
            exact zz_iret M dX8_part_60 h
          · have h := zif h c
            refine zz_aload_n M 1 dX8_part_55 rfl rfl ?_
            refine zz_callVV (d' := 2) (As := []) (rest := []) M l_X8_175 tM_0 rfl rfl dX8_part_56 rfl rfl (by decide) (Nat.le_of_ble_eq_true rfl) (by have hI := M.2.2.2.2.2.2.2.2; exact kX8_next hI   _ _ h) (fun σ66 h => ?_)
            refine zz_iload_n M 0 dX8_part_59 rfl rfl ?_
            exact zz_iret M dX8_part_60 h
        · have h := zif h c
          refine zz_aload_n M 1 dX8_part_44 rfl rfl ?_
          refine zz_callVV (d' := 1) (As := []) (rest := []) M l_X8_172 tM_0 rfl rfl dX8_part_45 rfl rfl (by decide) (Nat.le_of_ble_eq_true rfl) (by have hI := M.2.2.2.2.2.2.2.2; exact kX8_fail hI   _ _ h) (fun σ68 h => ?_)
          refine zz_aload_n M 1 dX8_part_48 rfl rfl ?_
          refine zz_getI M f_X8_159 tM_0 rfl dX8_part_49 ?_
          refine zz_if_ne (y0 := 0) M 59 dX8_part_52 (by decide) (fun c => ?_) (fun c => ?_)
          · have h := zifn h c
            refine zz_iload_n M 0 dX8_part_59 rfl rfl ?_
            exact zz_iret M dX8_part_60 h
          · have h := zif h c
            refine zz_aload_n M 1 dX8_part_55 rfl rfl ?_
            refine zz_callVV (d' := 2) (As := []) (rest := []) M l_X8_175 tM_0 rfl rfl dX8_part_56 rfl rfl (by decide) (Nat.le_of_ble_eq_true rfl) (by have hI := M.2.2.2.2.2.2.2.2; exact kX8_next hI   _ _ h) (fun σ70 h => ?_)
            refine zz_iload_n M 0 dX8_part_59 rfl rfl ?_
            exact zz_iret M dX8_part_60 h
      · have h := zifn h c
        refine zz_iconst (v := 0) M dX8_part_26 (by decide) ?_
        refine zz_goto M 34 dX8_part_27 (by decide) ?_
        refine zz_istore_n M [(2, .int 0), (0, .ref (ad 0)), (1, .int x1)] dX8_part_34 rfl (by decide) rfl ?_
        refine zz_aload_n M 1 dX8_part_35 rfl rfl ?_
        refine zz_bipush (v := 59) M dX8_part_36 (by decide) ?_
        refine zz_callVI (d' := 1) (As := [.int 59]) (rest := []) M l_X8_200 tM_0 rfl rfl dX8_part_38 rfl rfl (by decide) (Nat.le_of_ble_eq_true rfl) (by have hI := M.2.2.2.2.2.2.2.2; exact kX8_isSign hI _  _ _ h) (fun r71 σ72 h => ?_)
        refine zz_if_ne (y0 := 0) M 48 dX8_part_41 (by decide) (fun c => ?_) (fun c => ?_)
        · have h := zifn h c
          refine zz_aload_n M 1 dX8_part_48 rfl rfl ?_
          refine zz_getI M f_X8_159 tM_0 rfl dX8_part_49 ?_
          refine zz_if_ne (y0 := 0) M 59 dX8_part_52 (by decide) (fun c => ?_) (fun c => ?_)
          · have h := zifn h c
            refine zz_iload_n M 0 dX8_part_59 rfl rfl ?_
            exact zz_iret M dX8_part_60 h
          · have h := zif h c
            refine zz_aload_n M 1 dX8_part_55 rfl rfl ?_
            refine zz_callVV (d' := 2) (As := []) (rest := []) M l_X8_175 tM_0 rfl rfl dX8_part_56 rfl rfl (by decide) (Nat.le_of_ble_eq_true rfl) (by have hI := M.2.2.2.2.2.2.2.2; exact kX8_next hI   _ _ h) (fun σ74 h => ?_)
            refine zz_iload_n M 0 dX8_part_59 rfl rfl ?_
            exact zz_iret M dX8_part_60 h
        · have h := zif h c
          refine zz_aload_n M 1 dX8_part_44 rfl rfl ?_
          refine zz_callVV (d' := 1) (As := []) (rest := []) M l_X8_172 tM_0 rfl rfl dX8_part_45 rfl rfl (by decide) (Nat.le_of_ble_eq_true rfl) (by have hI := M.2.2.2.2.2.2.2.2; exact kX8_fail hI   _ _ h) (fun σ76 h => ?_)
          refine zz_aload_n M 1 dX8_part_48 rfl rfl ?_
          refine zz_getI M f_X8_159 tM_0 rfl dX8_part_49 ?_
          refine zz_if_ne (y0 := 0) M 59 dX8_part_52 (by decide) (fun c => ?_) (fun c => ?_)
          · have h := zifn h c
            refine zz_iload_n M 0 dX8_part_59 rfl rfl ?_
            exact zz_iret M dX8_part_60 h
          · have h := zif h c
            refine zz_aload_n M 1 dX8_part_55 rfl rfl ?_
            refine zz_callVV (d' := 2) (As := []) (rest := []) M l_X8_175 tM_0 rfl rfl dX8_part_56 rfl rfl (by decide) (Nat.le_of_ble_eq_true rfl) (by have hI := M.2.2.2.2.2.2.2.2; exact kX8_next hI   _ _ h) (fun σ78 h => ?_)
            refine zz_iload_n M 0 dX8_part_59 rfl rfl ?_
            exact zz_iret M dX8_part_60 h
end
