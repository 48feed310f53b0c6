section
variable {p : Program} {l : Launch} {e : Env} {s : State} {m : MethodId} {args : Array Value} {below : List Frame} {meth : Method} {c : Code} {D : va_G} {cA : Nat → ClassId} {ad : Nat → Nat} {y : zX}
def wX8_not1  (σ : zSt) (Q : Int32 → zSt → Prop) : Prop := wX8_isWord 110 111 116 0 0 0 0 0 σ (fun r101 σ102 => if r101 = 0 then (wX8_added1  σ102 (fun r103 σ104 => wX8_isSign 60 σ104 (fun r105 σ106 => if r105 = 0 then (wX8_isSign 61 σ106 (fun r115 σ116 => if r115 = 0 then (Q r103 σ116) else (if (lg_cmp (σ116.2) 60) = 0 then (wX8_next  σ116 (fun σ122 => wX8_added1  σ122 (fun r123 σ124 => if r123 ≤ r103 then (Q 0 σ124) else (Q 1 σ124)))) else (wX8_next  σ116 (fun σ118 => wX8_added1  σ118 (fun r119 σ120 => if r103 = r119 then (Q 1 σ120) else (Q 0 σ120))))))) else (if (lg_cmp (σ106.2) 60) = 0 then (wX8_next  σ106 (fun σ112 => wX8_added1  σ112 (fun r113 σ114 => if r113 ≤ r103 then (Q 0 σ114) else (Q 1 σ114)))) else (wX8_next  σ106 (fun σ108 => wX8_added1  σ108 (fun r109 σ110 => if r103 = r109 then (Q 1 σ110) else (Q 0 σ110)))))))) else (wX8_opens  σ102 (fun r125 σ126 => if r125 = 0 then (Q 0 σ126) else (wX8_not2  σ126 (fun r127 σ128 => ∀ σ129 : zSt, σ129 = zput σ128 0 30 ((σ128.1 0 30) - 1) → (if r127 = 0 then (Q 1 σ129) else (Q 0 σ129)))))))
set_option maxRecDepth 20000 in
set_option maxHeartbeats 4000000 in
theorem kX8_not1 (hI : zInj tabM ad)   (σ : zSt) (Q : Int32 → zSt → Prop) (h : wX8_not1  σ Q) : zOkI l tabM D cA ad y 32 yX8_not1 cX8_not1 4 (some .int) [.ref (ad 0)] σ Q := by
  refine zz_enter hI (by decide) (Nat.le_of_ble_eq_true rfl) (fun p e s m below meth c M => ?_)
  have M : zM p s m _ meth c cX8_not1 4 RX8 (some .int) tabM D cA ad y := M
  refine zz_ls [(0, .ref (ad 0))] rfl ?_
  unfold wX8_not1 at h
  refine zz_aload_n M 0 dX8_not1_0 rfl rfl ?_
  refine zz_bipush (v := 110) M dX8_not1_1 (by decide) ?_
  refine zz_bipush (v := 111) M dX8_not1_3 (by decide) ?_
  refine zz_bipush (v := 116) M dX8_not1_5 (by decide) ?_
  refine zz_iconst (v := 0) M dX8_not1_7 (by decide) ?_
  refine zz_iconst (v := 0) M dX8_not1_8 (by decide) ?_
  refine zz_iconst (v := 0) M dX8_not1_9 (by decide) ?_
  refine zz_iconst (v := 0) M dX8_not1_10 (by decide) ?_
  refine zz_iconst (v := 0) M dX8_not1_11 (by decide) ?_
  refine zz_callVI (d' := 3) (As := [.int 110, .int 111, .int 116, .int 0, .int 0, .int 0, .int 0, .int 0]) (rest := []) M l_X8_178 tM_0 rfl rfl dX8_not1_12 rfl rfl (by decide) (Nat.le_of_ble_eq_true rfl) (by have hI := M.2.2.2.2.2.2.2.2; exact kX8_isWord hI _ _ _ _ _ _ _ _  _ _ h) (fun r101 σ102 h => ?_)
  refine zz_if_eq (y0 := 0) M 52 dX8_not1_15 (by decide) (fun c => ?_) (fun c => ?_)
  · have h := zif (c := r101 = 0) h c
    refine zz_aload_n M 0 dX8_not1_52 rfl rfl ?_
    refine zz_callVI (d' := 31) (As := []) (rest := []) M l_X8_294 tM_0 rfl rfl dX8_not1_53 rfl rfl (by decide) (Nat.le_of_ble_eq_true rfl) (by have hI := M.2.2.2.2.2.2.2.2; exact kX8_added1 hI   _ _ h) (fun r103 σ104 h => ?_)
    refine zz_istore_n M [(1, .int r103), (0, .ref (ad 0))] dX8_not1_56 rfl (by decide) rfl ?_
    refine zz_aload_n M 1 dX8_not1_57 rfl rfl ?_
    refine zz_bipush (v := 60) M dX8_not1_58 (by decide) ?_
    refine zz_callVI (d' := 1) (As := [.int 60]) (rest := []) M l_X8_200 tM_0 rfl rfl dX8_not1_60 rfl rfl (by decide) (Nat.le_of_ble_eq_true rfl) (by have hI := M.2.2.2.2.2.2.2.2; exact kX8_isSign hI _  _ _ h) (fun r105 σ106 h => ?_)
    refine zz_if_ne (y0 := 0) M 77 dX8_not1_63 (by decide) (fun c => ?_) (fun c => ?_)
    · have h := zifn (c := r105 = 0) h c
      refine zz_aload_n M 1 dX8_not1_77 rfl rfl ?_
      refine zz_getL M f_X8_153 tM_0 rfl dX8_not1_78 ?_
      refine zz_ldc2 (v := 60) M k_X8_223 dX8_not1_81 ?_
      refine zz_lcmp M dX8_not1_84 ?_
      refine zz_if_ne (y0 := 0) M 92 dX8_not1_85 (by decide) (fun c => ?_) (fun c => ?_)
      · have h := zifn (c := (lg_cmp (σ106.2) 60) = 0) h c
        refine zz_iconst (v := 0) M dX8_not1_92 (by decide) ?_
        refine zz_istore_n M [(2, .int 0), (1, .int r103), (0, .ref (ad 0))] dX8_not1_93 rfl (by decide) rfl ?_
        refine zz_aload_n M 2 dX8_not1_94 rfl rfl ?_
        refine zz_callVV (d' := 2) (As := []) (rest := []) M l_X8_175 tM_0 rfl rfl dX8_not1_95 rfl rfl (by decide) (Nat.le_of_ble_eq_true rfl) (by have hI := M.2.2.2.2.2.2.2.2; exact kX8_next hI   _ _ h) (fun σ108 h => ?_)
        refine zz_aload_n M 2 dX8_not1_98 rfl rfl ?_
        refine zz_callVI (d' := 31) (As := []) (rest := []) M l_X8_294 tM_0 rfl rfl dX8_not1_99 rfl rfl (by decide) (Nat.le_of_ble_eq_true rfl) (by have hI := M.2.2.2.2.2.2.2.2; exact kX8_added1 hI   _ _ h) (fun r109 σ110 h => ?_)
        refine zz_istore_n M [(3, .int r109), (2, .int 0), (1, .int r103), (0, .ref (ad 0))] dX8_not1_102 rfl (by decide) rfl ?_
        refine zz_iload_n M 1 dX8_not1_103 rfl rfl ?_
        refine zz_if_eq (y0 := 0) M 115 dX8_not1_104 (by decide) (fun c => ?_) (fun c => absurd c (by decide))
        refine zz_iload_n M 2 dX8_not1_115 rfl rfl ?_
        refine zz_iload_n M 0 dX8_not1_116 rfl rfl ?_
        refine zz_icmp_ne M 124 dX8_not1_117 (by decide) (fun c => ?_) (fun c => ?_)
        · have h := zifn (c := r103 = r109) h c
          refine zz_iconst (v := 0) M dX8_not1_124 (by decide) ?_
          exact zz_iret M dX8_not1_125 h
        · have h := zif (c := r103 = r109) h c
          refine zz_iconst (v := 1) M dX8_not1_120 (by decide) ?_
          refine zz_goto M 125 dX8_not1_121 (by decide) ?_
          exact zz_iret M dX8_not1_125 h
      · have h := zif (c := (lg_cmp (σ106.2) 60) = 0) h c
        refine zz_iconst (v := 1) M dX8_not1_88 (by decide) ?_
        refine zz_goto M 93 dX8_not1_89 (by decide) ?_
        refine zz_istore_n M [(2, .int 1), (1, .int r103), (0, .ref (ad 0))] dX8_not1_93 rfl (by decide) rfl ?_
        refine zz_aload_n M 2 dX8_not1_94 rfl rfl ?_
        refine zz_callVV (d' := 2) (As := []) (rest := []) M l_X8_175 tM_0 rfl rfl dX8_not1_95 rfl rfl (by decide) (Nat.le_of_ble_eq_true rfl) (by have hI := M.2.2.2.2.2.2.2.2; exact kX8_next hI   _ _ h) (fun σ112 h => ?_)
        refine zz_aload_n M 2 dX8_not1_98 rfl rfl ?_
        refine zz_callVI (d' := 31) (As := []) (rest := []) M l_X8_294 tM_0 rfl rfl dX8_not1_99 rfl rfl (by decide) (Nat.le_of_ble_eq_true rfl) (by have hI := M.2.2.2.2.2.2.2.2; exact kX8_added1 hI   _ _ h) (fun r113 σ114 h => ?_)
        refine zz_istore_n M [(3, .int r113), (2, .int 1), (1, .int r103), (0, .ref (ad 0))] dX8_not1_102 rfl (by decide) rfl ?_
        refine zz_iload_n M 1 dX8_not1_103 rfl rfl ?_
        refine zz_if_eq (y0 := 0) M 115 dX8_not1_104 (by decide) (fun c => absurd c (by decide)) (fun c => ?_)
        refine zz_iload_n M 2 dX8_not1_107 rfl rfl ?_
        refine zz_iload_n M 0 dX8_not1_108 rfl rfl ?_
        refine zz_icmp_ge M 124 dX8_not1_109 (by decide) (fun c => ?_) (fun c => ?_)
        · have h := zif (c := r113 ≤ r103) h c
          refine zz_iconst (v := 0) M dX8_not1_124 (by decide) ?_
          exact zz_iret M dX8_not1_125 h
        · have h := zifn (c := r113 ≤ r103) h c
          refine zz_goto M 120 dX8_not1_112 (by decide) ?_
          refine zz_iconst (v := 1) M dX8_not1_120 (by decide) ?_
          refine zz_goto M 125 dX8_not1_121 (by decide) ?_
          exact zz_iret M dX8_not1_125 h
    · have h := zif (c := r105 = 0) h c
      refine zz_aload_n M 1 dX8_not1_66 rfl rfl ?_
      refine zz_bipush (v := 61) M dX8_not1_67 (by decide) ?_
      refine zz_callVI (d' := 1) (As := [.int 61]) (rest := []) M l_X8_200 tM_0 rfl rfl dX8_not1_69 rfl rfl (by decide) (Nat.le_of_ble_eq_true rfl) (by have hI := M.2.2.2.2.2.2.2.2; exact kX8_isSign hI _  _ _ h) (fun r115 σ116 h => ?_)
      refine zz_if_ne (y0 := 0) M 77 dX8_not1_72 (by decide) (fun c => ?_) (fun c => ?_)
      · have h := zifn (c := r115 = 0) h c
        refine zz_aload_n M 1 dX8_not1_77 rfl rfl ?_
        refine zz_getL M f_X8_153 tM_0 rfl dX8_not1_78 ?_
        refine zz_ldc2 (v := 60) M k_X8_223 dX8_not1_81 ?_
        refine zz_lcmp M dX8_not1_84 ?_
        refine zz_if_ne (y0 := 0) M 92 dX8_not1_85 (by decide) (fun c => ?_) (fun c => ?_)
        · have h := zifn (c := (lg_cmp (σ116.2) 60) = 0) h c
          refine zz_iconst (v := 0) M dX8_not1_92 (by decide) ?_
          refine zz_istore_n M [(2, .int 0), (1, .int r103), (0, .ref (ad 0))] dX8_not1_93 rfl (by decide) rfl ?_
          refine zz_aload_n M 2 dX8_not1_94 rfl rfl ?_
          refine zz_callVV (d' := 2) (As := []) (rest := []) M l_X8_175 tM_0 rfl rfl dX8_not1_95 rfl rfl (by decide) (Nat.le_of_ble_eq_true rfl) (by have hI := M.2.2.2.2.2.2.2.2; exact kX8_next hI   _ _ h) (fun σ118 h => ?_)
          refine zz_aload_n M 2 dX8_not1_98 rfl rfl ?_
          refine zz_callVI (d' := 31) (As := []) (rest := []) M l_X8_294 tM_0 rfl rfl dX8_not1_99 rfl rfl (by decide) (Nat.le_of_ble_eq_true rfl) (by have hI := M.2.2.2.2.2.2.2.2; exact kX8_added1 hI   _ _ h) (fun r119 σ120 h => ?_)
          refine zz_istore_n M [(3, .int r119), (2, .int 0), (1, .int r103), (0, .ref (ad 0))] dX8_not1_102 rfl (by decide) rfl ?_
          refine zz_iload_n M 1 dX8_not1_103 rfl rfl ?_
          refine zz_if_eq (y0 := 0) M 115 dX8_not1_104 (by decide) (fun c => ?_) (fun c => absurd c (by decide))
          refine zz_iload_n M 2 dX8_not1_115 rfl rfl ?_
          refine zz_iload_n M 0 dX8_not1_116 rfl rfl ?_
          refine zz_icmp_ne M 124 dX8_not1_117 (by decide) (fun c => ?_) (fun c => ?_)
          · have h := zifn (c := r103 = r119) h c
            refine zz_iconst (v := 0) M dX8_not1_124 (by decide) ?_
            exact zz_iret M dX8_not1_125 h
          · have h := zif (c := r103 = r119) h c
            refine zz_iconst (v := 1) M dX8_not1_120 (by decide) ?_
            refine zz_goto M 125 dX8_not1_121 (by decide) ?_
            exact zz_iret M dX8_not1_125 h
        · have h := zif (c := (lg_cmp (σ116.2) 60) = 0) h c
          refine zz_iconst (v := 1) M dX8_not1_88 (by decide) ?_
          refine zz_goto M 93 dX8_not1_89 (by decide) ?_
          refine zz_istore_n M [(2, .int 1), (1, .int r103), (0, .ref (ad 0))] dX8_not1_93 rfl (by decide) rfl ?_
          refine zz_aload_n M 2 dX8_not1_94 rfl rfl ?_
          refine zz_callVV (d' := 2) (As := []) (rest := []) M l_X8_175 tM_0 rfl rfl dX8_not1_95 rfl rfl (by decide) (Nat.le_of_ble_eq_true rfl) (by have hI := M.2.2.2.2.2.2.2.2; exact kX8_next hI   _ _ h) (fun σ122 h => ?_)
          refine zz_aload_n M 2 dX8_not1_98 rfl rfl ?_
          refine zz_callVI (d' := 31) (As := []) (rest := []) M l_X8_294 tM_0 rfl rfl dX8_not1_99 rfl rfl (by decide) (Nat.le_of_ble_eq_true rfl) (by have hI := M.2.2.2.2.2.2.2.2; exact kX8_added1 hI   _ _ h) (fun r123 σ124 h => ?_)
          refine zz_istore_n M [(3, .int r123), (2, .int 1), (1, .int r103), (0, .ref (ad 0))] dX8_not1_102 rfl (by decide) rfl ?_
          refine zz_iload_n M 1 dX8_not1_103 rfl rfl ?_
          refine zz_if_eq (y0 := 0) M 115 dX8_not1_104 (by decide) (fun c => absurd c (by decide)) (fun c => ?_)
          refine zz_iload_n M 2 dX8_not1_107 rfl rfl ?_
          refine zz_iload_n M 0 dX8_not1_108 rfl rfl ?_
          refine zz_icmp_ge M 124 dX8_not1_109 (by decide) (fun c => ?_) (fun c => ?_)
          · have h := zif (c := r123 ≤ r103) h c
            refine zz_iconst (v := 0) M dX8_not1_124 (by decide) ?_
            exact zz_iret M dX8_not1_125 h
          · have h := zifn (c := r123 ≤ r103) h c
            refine zz_goto M 120 dX8_not1_112 (by decide) ?_
            refine zz_iconst (v := 1) M dX8_not1_120 (by decide) ?_
            refine zz_goto M 125 dX8_not1_121 (by decide) ?_
            exact zz_iret M dX8_not1_125 h
      · have h := zif (c := r115 = 0) h c
        refine zz_iload_n M 0 dX8_not1_75 rfl rfl ?_
        exact zz_iret M dX8_not1_76 h
  · have h := zifn (c := r101 = 0) h c
    refine zz_aload_n M 0 dX8_not1_18 rfl rfl ?_
    refine zz_callVI (d' := 3) (As := []) (rest := []) M l_X8_204 tM_0 rfl rfl dX8_not1_19 rfl rfl (by decide) (Nat.le_of_ble_eq_true rfl) (by have hI := M.2.2.2.2.2.2.2.2; exact kX8_opens hI   _ _ h) (fun r125 σ126 h => ?_)
    refine zz_if_ne (y0 := 0) M 27 dX8_not1_22 (by decide) (fun c => ?_) (fun c => ?_)
    · have h := zifn (c := r125 = 0) h c
      refine zz_aload_n M 0 dX8_not1_27 rfl rfl ?_
      refine zz_callVI (d' := 26) (As := []) (rest := []) M l_X8_279 tM_0 rfl rfl dX8_not1_28 rfl rfl (by decide) (Nat.le_of_ble_eq_true rfl) (by have hI := M.2.2.2.2.2.2.2.2; exact kX8_not2 hI   _ _ h) (fun r127 σ128 h => ?_)
      refine zz_istore_n M [(1, .int r127), (0, .ref (ad 0))] dX8_not1_31 rfl (by decide) rfl ?_
      refine zz_aload_n M 1 dX8_not1_32 rfl rfl ?_
      refine zz_dup M dX8_not1_33 rfl ?_
      refine zz_getI M f_X8_169 tM_0 rfl dX8_not1_34 ?_
      refine zz_iconst (v := 1) M dX8_not1_37 (by decide) ?_
      refine zz_isub M dX8_not1_38 ?_
      refine zz_putI M f_X8_169 tM_0 rfl dX8_not1_39 ?_
      refine zz_sg (fun σ129 eσ129 => ?_)
      have h := h σ129 eσ129
      refine zz_iload_n M 0 dX8_not1_42 rfl rfl ?_
      refine zz_if_ne (y0 := 0) M 50 dX8_not1_43 (by decide) (fun c => ?_) (fun c => ?_)
      · have h := zifn (c := r127 = 0) h c
        refine zz_iconst (v := 0) M dX8_not1_50 (by decide) ?_
        exact zz_iret M dX8_not1_51 h
      · have h := zif (c := r127 = 0) h c
        refine zz_iconst (v := 1) M dX8_not1_46 (by decide) ?_
        refine zz_goto M 51 dX8_not1_47 (by decide) ?_
        exact zz_iret M dX8_not1_51 h
    · have h := zif (c := r125 = 0) h c
      refine zz_iconst (v := 0) M dX8_not1_25 (by decide) ?_
      exact zz_iret M dX8_not1_26 h
def wX8_both1_L5 (Q : Int32 → zSt → Prop) (K49 : Int32 → zSt → Prop)  : Nat → Int32 → zSt → Prop
  | 0, _, _ => False
  | n + 1, x1, σ => wX8_isWord 97 110 100 0 0 0 0 0 σ (fun r103 σ104 => if r103 = 0 then (K49 x1 σ104) else (wX8_next  σ104 (fun σ106 => wX8_not1  σ106 (fun r107 σ108 => if x1 = 0 then (wX8_both1_L5 Q K49  n 0 σ108) else (if r107 = 0 then (wX8_both1_L5 Q K49  n 0 σ108) else (wX8_both1_L5 Q K49  n 1 σ108))))))
set_option maxRecDepth 20000 in
set_option maxHeartbeats 4000000 in
theorem sX8_both1_L5 {Q : Int32 → zSt → Prop} {K49 : Int32 → zSt → Prop}   (M : zM p s m args meth c cX8_both1 3 RX8 (some .int) tabM D cA ad y) (hK49 : ∀ (v1 : Int32) (σ : zSt), K49 v1 σ → zG p l e (zrm 33) s m args below meth c 3 tabM D cA ad (MQ below (va_Qi Q (fun σ' t => va_P D vwCl (zws tabM cA ad σ') t.heap) (zIn tabM ad)) args s 0 0 (zIn tabM ad)) 49 [(1, .int v1)] [] σ) : ∀ (n : Nat) (x1 : Int32) (σ : zSt), wX8_both1_L5 Q K49  n x1 σ → zG p l e (zrm 33) s m args below meth c 3 tabM D cA ad (MQ below (va_Qi Q (fun σ' t => va_P D vwCl (zws tabM cA ad σ') t.heap) (zIn tabM ad)) args s 0 0 (zIn tabM ad)) 5 [(0, .ref (ad 0)), (1, .int x1)] [] σ := by
  intro n
  induction n with
  | zero => intro x1 σ h; exact absurd h (by simp [wX8_both1_L5])
  | succ n ih =>
    intro x1 σ h
    unfold wX8_both1_L5 at h
    refine zz_aload_n M 0 dX8_both1_5 rfl rfl ?_
    refine zz_bipush (v := 97) M dX8_both1_6 (by decide) ?_
    refine zz_bipush (v := 110) M dX8_both1_8 (by decide) ?_
    refine zz_bipush (v := 100) M dX8_both1_10 (by decide) ?_
    refine zz_iconst (v := 0) M dX8_both1_12 (by decide) ?_
    refine zz_iconst (v := 0) M dX8_both1_13 (by decide) ?_
    refine zz_iconst (v := 0) M dX8_both1_14 (by decide) ?_
    refine zz_iconst (v := 0) M dX8_both1_15 (by decide) ?_
    refine zz_iconst (v := 0) M dX8_both1_16 (by decide) ?_
    refine zz_callVI (d' := 3) (As := [.int 97, .int 110, .int 100, .int 0, .int 0, .int 0, .int 0, .int 0]) (rest := []) M l_X8_178 tM_0 rfl rfl dX8_both1_17 rfl rfl (by decide) (Nat.le_of_ble_eq_true rfl) (by have hI := M.2.2.2.2.2.2.2.2; exact kX8_isWord hI _ _ _ _ _ _ _ _  _ _ h) (fun r103 σ104 h => ?_)
    refine zz_if_eq (y0 := 0) M 49 dX8_both1_20 (by decide) (fun c => ?_) (fun c => ?_)
    · have h := zif (c := r103 = 0) h c
      refine zz_sub [(1, .int x1)] [1] rfl ?_
      exact hK49 _ _ h
    · have h := zifn (c := r103 = 0) h c
      refine zz_aload_n M 0 dX8_both1_23 rfl rfl ?_
      refine zz_callVV (d' := 2) (As := []) (rest := []) M l_X8_175 tM_0 rfl rfl dX8_both1_24 rfl rfl (by decide) (Nat.le_of_ble_eq_true rfl) (by have hI := M.2.2.2.2.2.2.2.2; exact kX8_next hI   _ _ h) (fun σ106 h => ?_)
      refine zz_aload_n M 0 dX8_both1_27 rfl rfl ?_
      refine zz_callVI (d' := 32) (As := []) (rest := []) M l_X8_297 tM_0 rfl rfl dX8_both1_28 rfl rfl (by decide) (Nat.le_of_ble_eq_true rfl) (by have hI := M.2.2.2.2.2.2.2.2; exact kX8_not1 hI   _ _ h) (fun r107 σ108 h => ?_)
      refine zz_istore_n M [(2, .int r107), (0, .ref (ad 0)), (1, .int x1)] dX8_both1_31 rfl (by decide) rfl ?_
      refine zz_iload_n M 2 dX8_both1_32 rfl rfl ?_
      refine zz_if_eq (y0 := 0) M 44 dX8_both1_33 (by decide) (fun c => ?_) (fun c => ?_)
      · have h := zif (c := x1 = 0) h c
        refine zz_iconst (v := 0) M dX8_both1_44 (by decide) ?_
        refine zz_istore_n M [(1, .int 0), (2, .int r107), (0, .ref (ad 0))] dX8_both1_45 rfl (by decide) rfl ?_
        refine zz_goto M 5 dX8_both1_46 (by decide) ?_
        refine zz_sub [(0, .ref (ad 0)), (1, .int 0)] [2, 0] rfl ?_
        exact ih _ _ h
      · have h := zifn (c := x1 = 0) h c
        refine zz_iload_n M 0 dX8_both1_36 rfl rfl ?_
        refine zz_if_eq (y0 := 0) M 44 dX8_both1_37 (by decide) (fun c => ?_) (fun c => ?_)
        · have h := zif (c := r107 = 0) h c
          refine zz_iconst (v := 0) M dX8_both1_44 (by decide) ?_
          refine zz_istore_n M [(1, .int 0), (2, .int r107), (0, .ref (ad 0))] dX8_both1_45 rfl (by decide) rfl ?_
          refine zz_goto M 5 dX8_both1_46 (by decide) ?_
          refine zz_sub [(0, .ref (ad 0)), (1, .int 0)] [2, 0] rfl ?_
          exact ih _ _ h
        · have h := zifn (c := r107 = 0) h c
          refine zz_iconst (v := 1) M dX8_both1_40 (by decide) ?_
          refine zz_goto M 45 dX8_both1_41 (by decide) ?_
          refine zz_istore_n M [(1, .int 1), (2, .int r107), (0, .ref (ad 0))] dX8_both1_45 rfl (by decide) rfl ?_
          refine zz_goto M 5 dX8_both1_46 (by decide) ?_
          refine zz_sub [(0, .ref (ad 0)), (1, .int 1)] [2, 0] rfl ?_
          exact ih _ _ h
def wX8_both1  (σ : zSt) (Q : Int32 → zSt → Prop) : Prop := wX8_not1  σ (fun r101 σ102 => wX8_both1_L5 Q (fun v109 σ110 => Q v109 σ110)  300 r101 σ102)
set_option maxRecDepth 20000 in
set_option maxHeartbeats 4000000 in
theorem kX8_both1 (hI : zInj tabM ad)   (σ : zSt) (Q : Int32 → zSt → Prop) (h : wX8_both1  σ Q) : zOkI l tabM D cA ad y 33 yX8_both1 cX8_both1 3 (some .int) [.ref (ad 0)] σ Q := by
  refine zz_enter hI (by decide) (Nat.le_of_ble_eq_true rfl) (fun p e s m below meth c M => ?_)
  have M : zM p s m _ meth c cX8_both1 3 RX8 (some .int) tabM D cA ad y := M
  refine zz_ls [(0, .ref (ad 0))] rfl ?_
  unfold wX8_both1 at h
  refine zz_aload_n M 0 dX8_both1_0 rfl rfl ?_
  refine zz_callVI (d' := 32) (As := []) (rest := []) M l_X8_297 tM_0 rfl rfl dX8_both1_1 rfl rfl (by decide) (Nat.le_of_ble_eq_true rfl) (by have hI := M.2.2.2.2.2.2.2.2; exact kX8_not1 hI   _ _ h) (fun r101 σ102 h => ?_)
  refine zz_istore_n M [(1, .int r101), (0, .ref (ad 0))] dX8_both1_4 rfl (by decide) rfl ?_
  refine zz_sub [(0, .ref (ad 0)), (1, .int r101)] [1, 0] rfl ?_
  refine sX8_both1_L5   M (fun v109 σ110 h => ?_) 300 _ _ h
  refine zz_iload_n M 0 dX8_both1_49 rfl rfl ?_
  exact zz_iret M dX8_both1_50 h
def wX8_either1_L5 (Q : Int32 → zSt → Prop) (K48 : Int32 → zSt → Prop)  : Nat → Int32 → zSt → Prop
  | 0, _, _ => False
  | n + 1, x1, σ => wX8_isWord 111 114 0 0 0 0 0 0 σ (fun r103 σ104 => if r103 = 0 then (K48 x1 σ104) else (wX8_next  σ104 (fun σ106 => wX8_both1  σ106 (fun r107 σ108 => if x1 = 0 then (if r107 = 0 then (wX8_either1_L5 Q K48  n 0 σ108) else (wX8_either1_L5 Q K48  n 1 σ108)) else (wX8_either1_L5 Q K48  n 1 σ108)))))
set_option maxRecDepth 20000 in
set_option maxHeartbeats 4000000 in
theorem sX8_either1_L5 {Q : Int32 → zSt → Prop} {K48 : Int32 → zSt → Prop}   (M : zM p s m args meth c cX8_either1 3 RX8 (some .int) tabM D cA ad y) (hK48 : ∀ (v1 : Int32) (σ : zSt), K48 v1 σ → zG p l e (zrm 34) s m args below meth c 3 tabM D cA ad (MQ below (va_Qi Q (fun σ' t => va_P D vwCl (zws tabM cA ad σ') t.heap) (zIn tabM ad)) args s 0 0 (zIn tabM ad)) 48 [(1, .int v1)] [] σ) : ∀ (n : Nat) (x1 : Int32) (σ : zSt), wX8_either1_L5 Q K48  n x1 σ → zG p l e (zrm 34) s m args below meth c 3 tabM D cA ad (MQ below (va_Qi Q (fun σ' t => va_P D vwCl (zws tabM cA ad σ') t.heap) (zIn tabM ad)) args s 0 0 (zIn tabM ad)) 5 [(0, .ref (ad 0)), (1, .int x1)] [] σ := by
  intro n
  induction n with
  | zero => intro x1 σ h; exact absurd h (by simp [wX8_either1_L5])
  | succ n ih =>
    intro x1 σ h
    unfold wX8_either1_L5 at h
    refine zz_aload_n M 0 dX8_either1_5 rfl rfl ?_
    refine zz_bipush (v := 111) M dX8_either1_6 (by decide) ?_
    refine zz_bipush (v := 114) M dX8_either1_8 (by decide) ?_
    refine zz_iconst (v := 0) M dX8_either1_10 (by decide) ?_
    refine zz_iconst (v := 0) M dX8_either1_11 (by decide) ?_
    refine zz_iconst (v := 0) M dX8_either1_12 (by decide) ?_
    refine zz_iconst (v := 0) M dX8_either1_13 (by decide) ?_
    refine zz_iconst (v := 0) M dX8_either1_14 (by decide) ?_
    refine zz_iconst (v := 0) M dX8_either1_15 (by decide) ?_
    refine zz_callVI (d' := 3) (As := [.int 111, .int 114, .int 0, .int 0, .int 0, .int 0, .int 0, .int 0]) (rest := []) M l_X8_178 tM_0 rfl rfl dX8_either1_16 rfl rfl (by decide) (Nat.le_of_ble_eq_true rfl) (by have hI := M.2.2.2.2.2.2.2.2; exact kX8_isWord hI _ _ _ _ _ _ _ _  _ _ h) (fun r103 σ104 h => ?_)
    refine zz_if_eq (y0 := 0) M 48 dX8_either1_19 (by decide) (fun c => ?_) (fun c => ?_)
    · have h := zif (c := r103 = 0) h c
      refine zz_sub [(1, .int x1)] [1] rfl ?_
      exact hK48 _ _ h
    · have h := zifn (c := r103 = 0) h c
      refine zz_aload_n M 0 dX8_either1_22 rfl rfl ?_
      refine zz_callVV (d' := 2) (As := []) (rest := []) M l_X8_175 tM_0 rfl rfl dX8_either1_23 rfl rfl (by decide) (Nat.le_of_ble_eq_true rfl) (by have hI := M.2.2.2.2.2.2.2.2; exact kX8_next hI   _ _ h) (fun σ106 h => ?_)
      refine zz_aload_n M 0 dX8_either1_26 rfl rfl ?_
      refine zz_callVI (d' := 33) (As := []) (rest := []) M l_X8_300 tM_0 rfl rfl dX8_either1_27 rfl rfl (by decide) (Nat.le_of_ble_eq_true rfl) (by have hI := M.2.2.2.2.2.2.2.2; exact kX8_both1 hI   _ _ h) (fun r107 σ108 h => ?_)
      refine zz_istore_n M [(2, .int r107), (0, .ref (ad 0)), (1, .int x1)] dX8_either1_30 rfl (by decide) rfl ?_
      refine zz_iload_n M 2 dX8_either1_31 rfl rfl ?_
      refine zz_if_ne (y0 := 0) M 39 dX8_either1_32 (by decide) (fun c => ?_) (fun c => ?_)
      · have h := zifn (c := x1 = 0) h c
        refine zz_iconst (v := 1) M dX8_either1_39 (by decide) ?_
        refine zz_goto M 44 dX8_either1_40 (by decide) ?_
        refine zz_istore_n M [(1, .int 1), (2, .int r107), (0, .ref (ad 0))] dX8_either1_44 rfl (by decide) rfl ?_
        refine zz_goto M 5 dX8_either1_45 (by decide) ?_
        refine zz_sub [(0, .ref (ad 0)), (1, .int 1)] [2, 0] rfl ?_
        exact ih _ _ h
      · have h := zif (c := x1 = 0) h c
        refine zz_iload_n M 0 dX8_either1_35 rfl rfl ?_
        refine zz_if_eq (y0 := 0) M 43 dX8_either1_36 (by decide) (fun c => ?_) (fun c => ?_)
        · have h := zif (c := r107 = 0) h c
          refine zz_iconst (v := 0) M dX8_either1_43 (by decide) ?_
          refine zz_istore_n M [(1, .int 0), (2, .int r107), (0, .ref (ad 0))] dX8_either1_44 rfl (by decide) rfl ?_
          refine zz_goto M 5 dX8_either1_45 (by decide) ?_
          refine zz_sub [(0, .ref (ad 0)), (1, .int 0)] [2, 0] rfl ?_
          exact ih _ _ h
        · have h := zifn (c := r107 = 0) h c
          refine zz_iconst (v := 1) M dX8_either1_39 (by decide) ?_
          refine zz_goto M 44 dX8_either1_40 (by decide) ?_
          refine zz_istore_n M [(1, .int 1), (2, .int r107), (0, .ref (ad 0))] dX8_either1_44 rfl (by decide) rfl ?_
          refine zz_goto M 5 dX8_either1_45 (by decide) ?_
          refine zz_sub [(0, .ref (ad 0)), (1, .int 1)] [2, 0] rfl ?_
          exact ih _ _ h
def wX8_either1  (σ : zSt) (Q : Int32 → zSt → Prop) : Prop := wX8_both1  σ (fun r101 σ102 => wX8_either1_L5 Q (fun v109 σ110 => Q v109 σ110)  300 r101 σ102)
set_option maxRecDepth 20000 in
set_option maxHeartbeats 4000000 in
theorem kX8_either1 (hI : zInj tabM ad)   (σ : zSt) (Q : Int32 → zSt → Prop) (h : wX8_either1  σ Q) : zOkI l tabM D cA ad y 34 yX8_either1 cX8_either1 3 (some .int) [.ref (ad 0)] σ Q := by
  refine zz_enter hI (by decide) (Nat.le_of_ble_eq_true rfl) (fun p e s m below meth c M => ?_)
  have M : zM p s m _ meth c cX8_either1 3 RX8 (some .int) tabM D cA ad y := M
  refine zz_ls [(0, .ref (ad 0))] rfl ?_
  unfold wX8_either1 at h
  refine zz_aload_n M 0 dX8_either1_0 rfl rfl ?_
  refine zz_callVI (d' := 33) (As := []) (rest := []) M l_X8_300 tM_0 rfl rfl dX8_either1_1 rfl rfl (by decide) (Nat.le_of_ble_eq_true rfl) (by have hI := M.2.2.2.2.2.2.2.2; exact kX8_both1 hI   _ _ h) (fun r101 σ102 h => ?_)
  refine zz_istore_n M [(1, .int r101), (0, .ref (ad 0))] dX8_either1_4 rfl (by decide) rfl ?_
  refine zz_sub [(0, .ref (ad 0)), (1, .int r101)] [1, 0] rfl ?_
  refine sX8_either1_L5   M (fun v109 σ110 h => ?_) 300 _ _ h
  refine zz_iload_n M 0 dX8_either1_48 rfl rfl ?_
  exact zz_iret M dX8_either1_49 h
def wX8_atom0  (σ : zSt) (Q : Int32 → zSt → Prop) : Prop := wX8_isSign 45 σ (fun r101 σ102 => if r101 = 0 then (wX8_isSign 40 σ102 (fun r103 σ104 => if r103 = 0 then (if (σ104.1 0 31) = 0 then (if (σ104.1 0 27) = 2 then (∀ x121 : Int32, x121 = ((σ104.2 : Int64).toInt32) → (wX8_next  σ104 (fun σ123 => Q x121 σ123))) else (if (σ104.1 0 31) = 0 then (if (σ104.1 0 27) = 1 then (wX8_name  σ104 (fun r117 σ118 => if (σ118.1 0 31) = 0 then (wX8_next  σ118 (fun σ120 => Q r117 σ120)) else (Q r117 σ118))) else (wX8_fail  σ104 (fun σ116 => Q 0 σ116))) else (wX8_fail  σ104 (fun σ114 => Q 0 σ114)))) else (if (σ104.1 0 31) = 0 then (if (σ104.1 0 27) = 1 then (wX8_name  σ104 (fun r109 σ110 => if (σ110.1 0 31) = 0 then (wX8_next  σ110 (fun σ112 => Q r109 σ112)) else (Q r109 σ110))) else (wX8_fail  σ104 (fun σ108 => Q 0 σ108))) else (wX8_fail  σ104 (fun σ106 => Q 0 σ106)))) else (wX8_opens  σ104 (fun r124 σ125 => if r124 = 0 then (Q 0 σ125) else (wX8_either1  σ125 (fun r126 σ127 => wX8_isSign 41 σ127 (fun r128 σ129 => if r128 = 0 then (wX8_fail  σ129 (fun σ134 => ∀ σ135 : zSt, σ135 = zput σ134 0 30 ((σ134.1 0 30) - 1) → (if (σ135.1 0 31) = 0 then (wX8_next  σ135 (fun σ137 => Q r126 σ137)) else (Q r126 σ135)))) else (∀ σ130 : zSt, σ130 = zput σ129 0 30 ((σ129.1 0 30) - 1) → (if (σ130.1 0 31) = 0 then (wX8_next  σ130 (fun σ132 => Q r126 σ132)) else (Q r126 σ130)))))))))) else (wX8_opens  σ102 (fun r138 σ139 => if r138 = 0 then (Q 0 σ139) else (wX8_atom1  σ139 (fun r140 σ141 => ∀ x142 : Int32, x142 = (-r140) → (∀ σ143 : zSt, σ143 = zput σ141 0 30 ((σ141.1 0 30) - 1) → (Q x142 σ143)))))))
set_option maxRecDepth 20000 in
set_option maxHeartbeats 4000000 in
theorem kX8_atom0 (hI : zInj tabM ad)   (σ : zSt) (Q : Int32 → zSt → Prop) (h : wX8_atom0  σ Q) : zOkI l tabM D cA ad y 35 yX8_atom0 cX8_atom0 2 (some .int) [.ref (ad 0)] σ Q := by
  refine zz_enter hI (by decide) (Nat.le_of_ble_eq_true rfl) (fun p e s m below meth c M => ?_)
  have M : zM p s m _ meth c cX8_atom0 2 RX8 (some .int) tabM D cA ad y := M
  refine zz_ls [(0, .ref (ad 0))] rfl ?_
  unfold wX8_atom0 at h
  refine zz_iconst (v := 0) M dX8_atom0_0 (by decide) ?_
  refine zz_istore_n M [(1, .int 0), (0, .ref (ad 0))] dX8_atom0_1 rfl (by decide) rfl ?_
  refine zz_aload_n M 1 dX8_atom0_2 rfl rfl ?_
  refine zz_bipush (v := 45) M dX8_atom0_3 (by decide) ?_
  refine zz_callVI (d' := 1) (As := [.int 45]) (rest := []) M l_X8_200 tM_0 rfl rfl dX8_atom0_5 rfl rfl (by decide) (Nat.le_of_ble_eq_true rfl) (by have hI := M.2.2.2.2.2.2.2.2; exact kX8_isSign hI _  _ _ h) (fun r101 σ102 h => ?_)
  refine zz_if_eq (y0 := 0) M 37 dX8_atom0_8 (by decide) (fun c => ?_) (fun c => ?_)
  · have h := zif (c := r101 = 0) h c
    refine zz_aload_n M 1 dX8_atom0_37 rfl rfl ?_
    refine zz_bipush (v := 40) M dX8_atom0_38 (by decide) ?_
    refine zz_callVI (d' := 1) (As := [.int 40]) (rest := []) M l_X8_200 tM_0 rfl rfl dX8_atom0_40 rfl rfl (by decide) (Nat.le_of_ble_eq_true rfl) (by have hI := M.2.2.2.2.2.2.2.2; exact kX8_isSign hI _  _ _ h) (fun r103 σ104 h => ?_)
    refine zz_if_eq (y0 := 0) M 95 dX8_atom0_43 (by decide) (fun c => ?_) (fun c => ?_)
    · have h := zif (c := r103 = 0) h c
      refine zz_aload_n M 1 dX8_atom0_95 rfl rfl ?_
      refine zz_getI M f_X8_159 tM_0 rfl dX8_atom0_96 ?_
      refine zz_if_ne (y0 := 0) M 123 dX8_atom0_99 (by decide) (fun c => ?_) (fun c => ?_)
      · have h := zifn (c := (σ104.1 0 31) = 0) h c
        refine zz_aload_n M 1 dX8_atom0_123 rfl rfl ?_
        refine zz_getI M f_X8_159 tM_0 rfl dX8_atom0_124 ?_
        refine zz_if_ne (y0 := 0) M 157 dX8_atom0_127 (by decide) (fun c => ?_) (fun c => ?_)
        · have h := zifn (c := (σ104.1 0 31) = 0) h c
          refine zz_aload_n M 1 dX8_atom0_157 rfl rfl ?_
          refine zz_callVV (d' := 1) (As := []) (rest := []) M l_X8_172 tM_0 rfl rfl dX8_atom0_158 rfl rfl (by decide) (Nat.le_of_ble_eq_true rfl) (by have hI := M.2.2.2.2.2.2.2.2; exact kX8_fail hI   _ _ h) (fun σ106 h => ?_)
          refine zz_iload_n M 0 dX8_atom0_161 rfl rfl ?_
          exact zz_iret M dX8_atom0_162 h
        · have h := zif (c := (σ104.1 0 31) = 0) h c
          refine zz_aload_n M 1 dX8_atom0_130 rfl rfl ?_
          refine zz_getI M f_X8_142 tM_0 rfl dX8_atom0_131 ?_
          refine zz_iconst (v := 1) M dX8_atom0_134 (by decide) ?_
          refine zz_icmp_ne M 157 dX8_atom0_135 (by decide) (fun c => ?_) (fun c => ?_)
          · have h := zifn (c := (σ104.1 0 27) = 1) h c
            refine zz_aload_n M 1 dX8_atom0_157 rfl rfl ?_
            refine zz_callVV (d' := 1) (As := []) (rest := []) M l_X8_172 tM_0 rfl rfl dX8_atom0_158 rfl rfl (by decide) (Nat.le_of_ble_eq_true rfl) (by have hI := M.2.2.2.2.2.2.2.2; exact kX8_fail hI   _ _ h) (fun σ108 h => ?_)
            refine zz_iload_n M 0 dX8_atom0_161 rfl rfl ?_
            exact zz_iret M dX8_atom0_162 h
          · have h := zif (c := (σ104.1 0 27) = 1) h c
            refine zz_aload_n M 1 dX8_atom0_138 rfl rfl ?_
            refine zz_callVI (d' := 4) (As := []) (rest := []) M l_X8_208 tM_0 rfl rfl dX8_atom0_139 rfl rfl (by decide) (Nat.le_of_ble_eq_true rfl) (by have hI := M.2.2.2.2.2.2.2.2; exact kX8_name hI   _ _ h) (fun r109 σ110 h => ?_)
            refine zz_istore_n M [(1, .int r109), (0, .ref (ad 0))] dX8_atom0_142 rfl (by decide) rfl ?_
            refine zz_aload_n M 1 dX8_atom0_143 rfl rfl ?_
            refine zz_getI M f_X8_159 tM_0 rfl dX8_atom0_144 ?_
            refine zz_if_ne (y0 := 0) M 161 dX8_atom0_147 (by decide) (fun c => ?_) (fun c => ?_)
            · have h := zifn (c := (σ110.1 0 31) = 0) h c
              refine zz_iload_n M 0 dX8_atom0_161 rfl rfl ?_
              exact zz_iret M dX8_atom0_162 h
            · have h := zif (c := (σ110.1 0 31) = 0) h c
              refine zz_aload_n M 1 dX8_atom0_150 rfl rfl ?_
              refine zz_callVV (d' := 2) (As := []) (rest := []) M l_X8_175 tM_0 rfl rfl dX8_atom0_151 rfl rfl (by decide) (Nat.le_of_ble_eq_true rfl) (by have hI := M.2.2.2.2.2.2.2.2; exact kX8_next hI   _ _ h) (fun σ112 h => ?_)
              refine zz_goto M 161 dX8_atom0_154 (by decide) ?_
              refine zz_iload_n M 0 dX8_atom0_161 rfl rfl ?_
              exact zz_iret M dX8_atom0_162 h
      · have h := zif (c := (σ104.1 0 31) = 0) h c
        refine zz_aload_n M 1 dX8_atom0_102 rfl rfl ?_
        refine zz_getI M f_X8_142 tM_0 rfl dX8_atom0_103 ?_
        refine zz_iconst (v := 2) M dX8_atom0_106 (by decide) ?_
        refine zz_icmp_ne M 123 dX8_atom0_107 (by decide) (fun c => ?_) (fun c => ?_)
        · have h := zifn (c := (σ104.1 0 27) = 2) h c
          refine zz_aload_n M 1 dX8_atom0_123 rfl rfl ?_
          refine zz_getI M f_X8_159 tM_0 rfl dX8_atom0_124 ?_
          refine zz_if_ne (y0 := 0) M 157 dX8_atom0_127 (by decide) (fun c => ?_) (fun c => ?_)
          · have h := zifn (c := (σ104.1 0 31) = 0) h c
            refine zz_aload_n M 1 dX8_atom0_157 rfl rfl ?_
            refine zz_callVV (d' := 1) (As := []) (rest := []) M l_X8_172 tM_0 rfl rfl dX8_atom0_158 rfl rfl (by decide) (Nat.le_of_ble_eq_true rfl) (by have hI := M.2.2.2.2.2.2.2.2; exact kX8_fail hI   _ _ h) (fun σ114 h => ?_)
            refine zz_iload_n M 0 dX8_atom0_161 rfl rfl ?_
            exact zz_iret M dX8_atom0_162 h
          · have h := zif (c := (σ104.1 0 31) = 0) h c
            refine zz_aload_n M 1 dX8_atom0_130 rfl rfl ?_
            refine zz_getI M f_X8_142 tM_0 rfl dX8_atom0_131 ?_
            refine zz_iconst (v := 1) M dX8_atom0_134 (by decide) ?_
            refine zz_icmp_ne M 157 dX8_atom0_135 (by decide) (fun c => ?_) (fun c => ?_)
            · have h := zifn (c := (σ104.1 0 27) = 1) h c
              refine zz_aload_n M 1 dX8_atom0_157 rfl rfl ?_
              refine zz_callVV (d' := 1) (As := []) (rest := []) M l_X8_172 tM_0 rfl rfl dX8_atom0_158 rfl rfl (by decide) (Nat.le_of_ble_eq_true rfl) (by have hI := M.2.2.2.2.2.2.2.2; exact kX8_fail hI   _ _ h) (fun σ116 h => ?_)
              refine zz_iload_n M 0 dX8_atom0_161 rfl rfl ?_
              exact zz_iret M dX8_atom0_162 h
            · have h := zif (c := (σ104.1 0 27) = 1) h c
              refine zz_aload_n M 1 dX8_atom0_138 rfl rfl ?_
              refine zz_callVI (d' := 4) (As := []) (rest := []) M l_X8_208 tM_0 rfl rfl dX8_atom0_139 rfl rfl (by decide) (Nat.le_of_ble_eq_true rfl) (by have hI := M.2.2.2.2.2.2.2.2; exact kX8_name hI   _ _ h) (fun r117 σ118 h => ?_)
              refine zz_istore_n M [(1, .int r117), (0, .ref (ad 0))] dX8_atom0_142 rfl (by decide) rfl ?_
              refine zz_aload_n M 1 dX8_atom0_143 rfl rfl ?_
              refine zz_getI M f_X8_159 tM_0 rfl dX8_atom0_144 ?_
              refine zz_if_ne (y0 := 0) M 161 dX8_atom0_147 (by decide) (fun c => ?_) (fun c => ?_)
              · have h := zifn (c := (σ118.1 0 31) = 0) h c
                refine zz_iload_n M 0 dX8_atom0_161 rfl rfl ?_
                exact zz_iret M dX8_atom0_162 h
              · have h := zif (c := (σ118.1 0 31) = 0) h c
                refine zz_aload_n M 1 dX8_atom0_150 rfl rfl ?_
                refine zz_callVV (d' := 2) (As := []) (rest := []) M l_X8_175 tM_0 rfl rfl dX8_atom0_151 rfl rfl (by decide) (Nat.le_of_ble_eq_true rfl) (by have hI := M.2.2.2.2.2.2.2.2; exact kX8_next hI   _ _ h) (fun σ120 h => ?_)
                refine zz_goto M 161 dX8_atom0_154 (by decide) ?_
                refine zz_iload_n M 0 dX8_atom0_161 rfl rfl ?_
                exact zz_iret M dX8_atom0_162 h
        · have h := zif (c := (σ104.1 0 27) = 2) h c
          refine zz_aload_n M 1 dX8_atom0_110 rfl rfl ?_
          refine zz_getL M f_X8_153 tM_0 rfl dX8_atom0_111 ?_
          refine zz_l2i M dX8_atom0_114 ?_
          refine zz_topi (fun x121 ex121 => ?_)
          have h := h x121 ex121
          refine zz_istore_n M [(1, .int x121), (0, .ref (ad 0))] dX8_atom0_115 rfl (by decide) rfl ?_
          refine zz_aload_n M 1 dX8_atom0_116 rfl rfl ?_
          refine zz_callVV (d' := 2) (As := []) (rest := []) M l_X8_175 tM_0 rfl rfl dX8_atom0_117 rfl rfl (by decide) (Nat.le_of_ble_eq_true rfl) (by have hI := M.2.2.2.2.2.2.2.2; exact kX8_next hI   _ _ h) (fun σ123 h => ?_)
          refine zz_goto M 161 dX8_atom0_120 (by decide) ?_
          refine zz_iload_n M 0 dX8_atom0_161 rfl rfl ?_
          exact zz_iret M dX8_atom0_162 h
    · have h := zifn (c := r103 = 0) h c
      refine zz_aload_n M 1 dX8_atom0_46 rfl rfl ?_
      refine zz_callVI (d' := 3) (As := []) (rest := []) M l_X8_204 tM_0 rfl rfl dX8_atom0_47 rfl rfl (by decide) (Nat.le_of_ble_eq_true rfl) (by have hI := M.2.2.2.2.2.2.2.2; exact kX8_opens hI   _ _ h) (fun r124 σ125 h => ?_)
      refine zz_if_eq (y0 := 0) M 161 dX8_atom0_50 (by decide) (fun c => ?_) (fun c => ?_)
      · have h := zif (c := r124 = 0) h c
        refine zz_iload_n M 0 dX8_atom0_161 rfl rfl ?_
        exact zz_iret M dX8_atom0_162 h
      · have h := zifn (c := r124 = 0) h c
        refine zz_aload_n M 1 dX8_atom0_53 rfl rfl ?_
        refine zz_callVI (d' := 34) (As := []) (rest := []) M l_X8_303 tM_0 rfl rfl dX8_atom0_54 rfl rfl (by decide) (Nat.le_of_ble_eq_true rfl) (by have hI := M.2.2.2.2.2.2.2.2; exact kX8_either1 hI   _ _ h) (fun r126 σ127 h => ?_)
        refine zz_istore_n M [(1, .int r126), (0, .ref (ad 0))] dX8_atom0_57 rfl (by decide) rfl ?_
        refine zz_aload_n M 1 dX8_atom0_58 rfl rfl ?_
        refine zz_bipush (v := 41) M dX8_atom0_59 (by decide) ?_
        refine zz_callVI (d' := 1) (As := [.int 41]) (rest := []) M l_X8_200 tM_0 rfl rfl dX8_atom0_61 rfl rfl (by decide) (Nat.le_of_ble_eq_true rfl) (by have hI := M.2.2.2.2.2.2.2.2; exact kX8_isSign hI _  _ _ h) (fun r128 σ129 h => ?_)
        refine zz_if_ne (y0 := 0) M 71 dX8_atom0_64 (by decide) (fun c => ?_) (fun c => ?_)
        · have h := zifn (c := r128 = 0) h c
          refine zz_aload_n M 1 dX8_atom0_71 rfl rfl ?_
          refine zz_dup M dX8_atom0_72 rfl ?_
          refine zz_getI M f_X8_169 tM_0 rfl dX8_atom0_73 ?_
          refine zz_iconst (v := 1) M dX8_atom0_76 (by decide) ?_
          refine zz_isub M dX8_atom0_77 ?_
          refine zz_putI M f_X8_169 tM_0 rfl dX8_atom0_78 ?_
          refine zz_sg (fun σ130 eσ130 => ?_)
          have h := h σ130 eσ130
          refine zz_aload_n M 1 dX8_atom0_81 rfl rfl ?_
          refine zz_getI M f_X8_159 tM_0 rfl dX8_atom0_82 ?_
          refine zz_if_ne (y0 := 0) M 161 dX8_atom0_85 (by decide) (fun c => ?_) (fun c => ?_)
          · have h := zifn (c := (σ130.1 0 31) = 0) h c
            refine zz_iload_n M 0 dX8_atom0_161 rfl rfl ?_
            exact zz_iret M dX8_atom0_162 h
          · have h := zif (c := (σ130.1 0 31) = 0) h c
            refine zz_aload_n M 1 dX8_atom0_88 rfl rfl ?_
            refine zz_callVV (d' := 2) (As := []) (rest := []) M l_X8_175 tM_0 rfl rfl dX8_atom0_89 rfl rfl (by decide) (Nat.le_of_ble_eq_true rfl) (by have hI := M.2.2.2.2.2.2.2.2; exact kX8_next hI   _ _ h) (fun σ132 h => ?_)
            refine zz_goto M 161 dX8_atom0_92 (by decide) ?_
            refine zz_iload_n M 0 dX8_atom0_161 rfl rfl ?_
            exact zz_iret M dX8_atom0_162 h
        · have h := zif (c := r128 = 0) h c
          refine zz_aload_n M 1 dX8_atom0_67 rfl rfl ?_
          refine zz_callVV (d' := 1) (As := []) (rest := []) M l_X8_172 tM_0 rfl rfl dX8_atom0_68 rfl rfl (by decide) (Nat.le_of_ble_eq_true rfl) (by have hI := M.2.2.2.2.2.2.2.2; exact kX8_fail hI   _ _ h) (fun σ134 h => ?_)
          refine zz_aload_n M 1 dX8_atom0_71 rfl rfl ?_
          refine zz_dup M dX8_atom0_72 rfl ?_
          refine zz_getI M f_X8_169 tM_0 rfl dX8_atom0_73 ?_
          refine zz_iconst (v := 1) M dX8_atom0_76 (by decide) ?_
          refine zz_isub M dX8_atom0_77 ?_
          refine zz_putI M f_X8_169 tM_0 rfl dX8_atom0_78 ?_
          refine zz_sg (fun σ135 eσ135 => ?_)
          have h := h σ135 eσ135
          refine zz_aload_n M 1 dX8_atom0_81 rfl rfl ?_
          refine zz_getI M f_X8_159 tM_0 rfl dX8_atom0_82 ?_
          refine zz_if_ne (y0 := 0) M 161 dX8_atom0_85 (by decide) (fun c => ?_) (fun c => ?_)
          · have h := zifn (c := (σ135.1 0 31) = 0) h c
            refine zz_iload_n M 0 dX8_atom0_161 rfl rfl ?_
            exact zz_iret M dX8_atom0_162 h
          · have h := zif (c := (σ135.1 0 31) = 0) h c
            refine zz_aload_n M 1 dX8_atom0_88 rfl rfl ?_
            refine zz_callVV (d' := 2) (As := []) (rest := []) M l_X8_175 tM_0 rfl rfl dX8_atom0_89 rfl rfl (by decide) (Nat.le_of_ble_eq_true rfl) (by have hI := M.2.2.2.2.2.2.2.2; exact kX8_next hI   _ _ h) (fun σ137 h => ?_)
            refine zz_goto M 161 dX8_atom0_92 (by decide) ?_
            refine zz_iload_n M 0 dX8_atom0_161 rfl rfl ?_
            exact zz_iret M dX8_atom0_162 h
  · have h := zifn (c := r101 = 0) h c
    refine zz_aload_n M 1 dX8_atom0_11 rfl rfl ?_
    refine zz_callVI (d' := 3) (As := []) (rest := []) M l_X8_204 tM_0 rfl rfl dX8_atom0_12 rfl rfl (by decide) (Nat.le_of_ble_eq_true rfl) (by have hI := M.2.2.2.2.2.2.2.2; exact kX8_opens hI   _ _ h) (fun r138 σ139 h => ?_)
    refine zz_if_eq (y0 := 0) M 161 dX8_atom0_15 (by decide) (fun c => ?_) (fun c => ?_)
    · have h := zif (c := r138 = 0) h c
      refine zz_iload_n M 0 dX8_atom0_161 rfl rfl ?_
      exact zz_iret M dX8_atom0_162 h
    · have h := zifn (c := r138 = 0) h c
      refine zz_aload_n M 1 dX8_atom0_18 rfl rfl ?_
      refine zz_callVI (d' := 29) (As := []) (rest := []) M l_X8_288 tM_0 rfl rfl dX8_atom0_19 rfl rfl (by decide) (Nat.le_of_ble_eq_true rfl) (by have hI := M.2.2.2.2.2.2.2.2; exact kX8_atom1 hI   _ _ h) (fun r140 σ141 h => ?_)
      refine zz_ineg M dX8_atom0_22 ?_
      refine zz_topi (fun x142 ex142 => ?_)
      have h := h x142 ex142
      refine zz_istore_n M [(1, .int x142), (0, .ref (ad 0))] dX8_atom0_23 rfl (by decide) rfl ?_
      refine zz_aload_n M 1 dX8_atom0_24 rfl rfl ?_
      refine zz_dup M dX8_atom0_25 rfl ?_
      refine zz_getI M f_X8_169 tM_0 rfl dX8_atom0_26 ?_
      refine zz_iconst (v := 1) M dX8_atom0_29 (by decide) ?_
      refine zz_isub M dX8_atom0_30 ?_
      refine zz_putI M f_X8_169 tM_0 rfl dX8_atom0_31 ?_
      refine zz_sg (fun σ143 eσ143 => ?_)
      have h := h σ143 eσ143
      refine zz_goto M 161 dX8_atom0_34 (by decide) ?_
      refine zz_iload_n M 0 dX8_atom0_161 rfl rfl ?_
      exact zz_iret M dX8_atom0_162 h
def wX8_term0_L5 (Q : Int32 → zSt → Prop) (K28 : Int32 → zSt → Prop)  : Nat → Int32 → zSt → Prop
  | 0, _, _ => False
  | n + 1, x1, σ => wX8_isSign 42 σ (fun r103 σ104 => if r103 = 0 then (K28 x1 σ104) else (wX8_next  σ104 (fun σ106 => wX8_atom0  σ106 (fun r107 σ108 => ∀ x109 : Int32, x109 = (x1 * r107) → (wX8_term0_L5 Q K28  n x109 σ108)))))
set_option maxRecDepth 20000 in
set_option maxHeartbeats 4000000 in
theorem sX8_term0_L5 {Q : Int32 → zSt → Prop} {K28 : Int32 → zSt → Prop}   (M : zM p s m args meth c cX8_term0 2 RX8 (some .int) tabM D cA ad y) (hK28 : ∀ (v1 : Int32) (σ : zSt), K28 v1 σ → zG p l e (zrm 36) s m args below meth c 2 tabM D cA ad (MQ below (va_Qi Q (fun σ' t => va_P D vwCl (zws tabM cA ad σ') t.heap) (zIn tabM ad)) args s 0 0 (zIn tabM ad)) 28 [(1, .int v1)] [] σ) : ∀ (n : Nat) (x1 : Int32) (σ : zSt), wX8_term0_L5 Q K28  n x1 σ → zG p l e (zrm 36) s m args below meth c 2 tabM D cA ad (MQ below (va_Qi Q (fun σ' t => va_P D vwCl (zws tabM cA ad σ') t.heap) (zIn tabM ad)) args s 0 0 (zIn tabM ad)) 5 [(0, .ref (ad 0)), (1, .int x1)] [] σ := by
  intro n
  induction n with
  | zero => intro x1 σ h; exact absurd h (by simp [wX8_term0_L5])
  | succ n ih =>
    intro x1 σ h
    unfold wX8_term0_L5 at h
    refine zz_aload_n M 0 dX8_term0_5 rfl rfl ?_
    refine zz_bipush (v := 42) M dX8_term0_6 (by decide) ?_
    refine zz_callVI (d' := 1) (As := [.int 42]) (rest := []) M l_X8_200 tM_0 rfl rfl dX8_term0_8 rfl rfl (by decide) (Nat.le_of_ble_eq_true rfl) (by have hI := M.2.2.2.2.2.2.2.2; exact kX8_isSign hI _  _ _ h) (fun r103 σ104 h => ?_)
    refine zz_if_eq (y0 := 0) M 28 dX8_term0_11 (by decide) (fun c => ?_) (fun c => ?_)
    · have h := zif (c := r103 = 0) h c
      refine zz_sub [(1, .int x1)] [1] rfl ?_
      exact hK28 _ _ h
    · have h := zifn (c := r103 = 0) h c
      refine zz_aload_n M 0 dX8_term0_14 rfl rfl ?_
      refine zz_callVV (d' := 2) (As := []) (rest := []) M l_X8_175 tM_0 rfl rfl dX8_term0_15 rfl rfl (by decide) (Nat.le_of_ble_eq_true rfl) (by have hI := M.2.2.2.2.2.2.2.2; exact kX8_next hI   _ _ h) (fun σ106 h => ?_)
      refine zz_iload_n M 1 dX8_term0_18 rfl rfl ?_
      refine zz_aload_n M 0 dX8_term0_19 rfl rfl ?_
      refine zz_callVI (d' := 35) (As := []) (rest := [.int x1]) M l_X8_306 tM_0 rfl rfl dX8_term0_20 rfl rfl (by decide) (Nat.le_of_ble_eq_true rfl) (by have hI := M.2.2.2.2.2.2.2.2; exact kX8_atom0 hI   _ _ h) (fun r107 σ108 h => ?_)
      refine zz_imul M dX8_term0_23 ?_
      refine zz_topi (fun x109 ex109 => ?_)
      have h := h x109 ex109
      refine zz_istore_n M [(1, .int x109), (0, .ref (ad 0))] dX8_term0_24 rfl (by decide) rfl ?_
      refine zz_goto M 5 dX8_term0_25 (by decide) ?_
      refine zz_sub [(0, .ref (ad 0)), (1, .int x109)] [1, 0] rfl ?_
      exact ih _ _ h
def wX8_term0  (σ : zSt) (Q : Int32 → zSt → Prop) : Prop := wX8_atom0  σ (fun r101 σ102 => wX8_term0_L5 Q (fun v110 σ111 => Q v110 σ111)  300 r101 σ102)
set_option maxRecDepth 20000 in
set_option maxHeartbeats 4000000 in
theorem kX8_term0 (hI : zInj tabM ad)   (σ : zSt) (Q : Int32 → zSt → Prop) (h : wX8_term0  σ Q) : zOkI l tabM D cA ad y 36 yX8_term0 cX8_term0 2 (some .int) [.ref (ad 0)] σ Q := by
  refine zz_enter hI (by decide) (Nat.le_of_ble_eq_true rfl) (fun p e s m below meth c M => ?_)
  have M : zM p s m _ meth c cX8_term0 2 RX8 (some .int) tabM D cA ad y := M
  refine zz_ls [(0, .ref (ad 0))] rfl ?_
  unfold wX8_term0 at h
  refine zz_aload_n M 0 dX8_term0_0 rfl rfl ?_
  refine zz_callVI (d' := 35) (As := []) (rest := []) M l_X8_306 tM_0 rfl rfl dX8_term0_1 rfl rfl (by decide) (Nat.le_of_ble_eq_true rfl) (by have hI := M.2.2.2.2.2.2.2.2; exact kX8_atom0 hI   _ _ h) (fun r101 σ102 h => ?_)
  refine zz_istore_n M [(1, .int r101), (0, .ref (ad 0))] dX8_term0_4 rfl (by decide) rfl ?_
  refine zz_sub [(0, .ref (ad 0)), (1, .int r101)] [1, 0] rfl ?_
  refine sX8_term0_L5   M (fun v110 σ111 h => ?_) 300 _ _ h
  refine zz_iload_n M 0 dX8_term0_28 rfl rfl ?_
  exact zz_iret M dX8_term0_29 h
def wX8_added0_L5 (Q : Int32 → zSt → Prop) (K66 : Int32 → zSt → Prop)  : Nat → Int32 → zSt → Prop
  | 0, _, _ => False
  | n + 1, x1, σ => wX8_isSign 43 σ (fun r103 σ104 => if r103 = 0 then (wX8_isSign 45 σ104 (fun r115 σ116 => if r115 = 0 then (K66 x1 σ116) else (if (lg_cmp (σ116.2) 43) = 0 then (wX8_next  σ116 (fun σ123 => wX8_term0  σ123 (fun r124 σ125 => ∀ x126 : Int32, x126 = (x1 + r124) → (wX8_added0_L5 Q K66  n x126 σ125)))) else (wX8_next  σ116 (fun σ118 => wX8_term0  σ118 (fun r119 σ120 => ∀ x121 : Int32, x121 = (x1 - r119) → (wX8_added0_L5 Q K66  n x121 σ120))))))) else (if (lg_cmp (σ104.2) 43) = 0 then (wX8_next  σ104 (fun σ111 => wX8_term0  σ111 (fun r112 σ113 => ∀ x114 : Int32, x114 = (x1 + r112) → (wX8_added0_L5 Q K66  n x114 σ113)))) else (wX8_next  σ104 (fun σ106 => wX8_term0  σ106 (fun r107 σ108 => ∀ x109 : Int32, x109 = (x1 - r107) → (wX8_added0_L5 Q K66  n x109 σ108))))))
set_option maxRecDepth 20000 in
set_option maxHeartbeats 4000000 in
theorem sX8_added0_L5 {Q : Int32 → zSt → Prop} {K66 : Int32 → zSt → Prop}   (M : zM p s m args meth c cX8_added0 4 RX8 (some .int) tabM D cA ad y) (hK66 : ∀ (v1 : Int32) (σ : zSt), K66 v1 σ → zG p l e (zrm 37) s m args below meth c 4 tabM D cA ad (MQ below (va_Qi Q (fun σ' t => va_P D vwCl (zws tabM cA ad σ') t.heap) (zIn tabM ad)) args s 0 0 (zIn tabM ad)) 66 [(1, .int v1)] [] σ) : ∀ (n : Nat) (x1 : Int32) (σ : zSt), wX8_added0_L5 Q K66  n x1 σ → zG p l e (zrm 37) s m args below meth c 4 tabM D cA ad (MQ below (va_Qi Q (fun σ' t => va_P D vwCl (zws tabM cA ad σ') t.heap) (zIn tabM ad)) args s 0 0 (zIn tabM ad)) 5 [(0, .ref (ad 0)), (1, .int x1)] [] σ := by
  intro n
  induction n with
  | zero => intro x1 σ h; exact absurd h (by simp [wX8_added0_L5])
  | succ n ih =>
    intro x1 σ h
    unfold wX8_added0_L5 at h
    refine zz_aload_n M 0 dX8_added0_5 rfl rfl ?_
    refine zz_bipush (v := 43) M dX8_added0_6 (by decide) ?_
    refine zz_callVI (d' := 1) (As := [.int 43]) (rest := []) M l_X8_200 tM_0 rfl rfl dX8_added0_8 rfl rfl (by decide) (Nat.le_of_ble_eq_true rfl) (by have hI := M.2.2.2.2.2.2.2.2; exact kX8_isSign hI _  _ _ h) (fun r103 σ104 h => ?_)
    refine zz_if_ne (y0 := 0) M 23 dX8_added0_11 (by decide) (fun c => ?_) (fun c => ?_)
    · have h := zifn (c := r103 = 0) h c
      refine zz_aload_n M 0 dX8_added0_23 rfl rfl ?_
      refine zz_getL M f_X8_153 tM_0 rfl dX8_added0_24 ?_
      refine zz_ldc2 (v := 43) M k_X8_218 dX8_added0_27 ?_
      refine zz_lcmp M dX8_added0_30 ?_
      refine zz_if_ne (y0 := 0) M 38 dX8_added0_31 (by decide) (fun c => ?_) (fun c => ?_)
      · have h := zifn (c := (lg_cmp (σ104.2) 43) = 0) h c
        refine zz_iconst (v := 0) M dX8_added0_38 (by decide) ?_
        refine zz_istore_n M [(2, .int 0), (0, .ref (ad 0)), (1, .int x1)] dX8_added0_39 rfl (by decide) rfl ?_
        refine zz_aload_n M 1 dX8_added0_40 rfl rfl ?_
        refine zz_callVV (d' := 2) (As := []) (rest := []) M l_X8_175 tM_0 rfl rfl dX8_added0_41 rfl rfl (by decide) (Nat.le_of_ble_eq_true rfl) (by have hI := M.2.2.2.2.2.2.2.2; exact kX8_next hI   _ _ h) (fun σ106 h => ?_)
        refine zz_aload_n M 1 dX8_added0_44 rfl rfl ?_
        refine zz_callVI (d' := 36) (As := []) (rest := []) M l_X8_309 tM_0 rfl rfl dX8_added0_45 rfl rfl (by decide) (Nat.le_of_ble_eq_true rfl) (by have hI := M.2.2.2.2.2.2.2.2; exact kX8_term0 hI   _ _ h) (fun r107 σ108 h => ?_)
        refine zz_istore_n M [(3, .int r107), (2, .int 0), (0, .ref (ad 0)), (1, .int x1)] dX8_added0_48 rfl (by decide) rfl ?_
        refine zz_iload_n M 1 dX8_added0_49 rfl rfl ?_
        refine zz_if_eq (y0 := 0) M 59 dX8_added0_50 (by decide) (fun c => ?_) (fun c => absurd c (by decide))
        refine zz_iload_n M 3 dX8_added0_59 rfl rfl ?_
        refine zz_iload_n M 0 dX8_added0_60 rfl rfl ?_
        refine zz_isub M dX8_added0_61 ?_
        refine zz_topi (fun x109 ex109 => ?_)
        have h := h x109 ex109
        refine zz_istore_n M [(1, .int x109), (3, .int r107), (2, .int 0), (0, .ref (ad 0))] dX8_added0_62 rfl (by decide) rfl ?_
        refine zz_goto M 5 dX8_added0_63 (by decide) ?_
        refine zz_sub [(0, .ref (ad 0)), (1, .int x109)] [3, 0] rfl ?_
        exact ih _ _ h
      · have h := zif (c := (lg_cmp (σ104.2) 43) = 0) h c
        refine zz_iconst (v := 1) M dX8_added0_34 (by decide) ?_
        refine zz_goto M 39 dX8_added0_35 (by decide) ?_
        refine zz_istore_n M [(2, .int 1), (0, .ref (ad 0)), (1, .int x1)] dX8_added0_39 rfl (by decide) rfl ?_
        refine zz_aload_n M 1 dX8_added0_40 rfl rfl ?_
        refine zz_callVV (d' := 2) (As := []) (rest := []) M l_X8_175 tM_0 rfl rfl dX8_added0_41 rfl rfl (by decide) (Nat.le_of_ble_eq_true rfl) (by have hI := M.2.2.2.2.2.2.2.2; exact kX8_next hI   _ _ h) (fun σ111 h => ?_)
        refine zz_aload_n M 1 dX8_added0_44 rfl rfl ?_
        refine zz_callVI (d' := 36) (As := []) (rest := []) M l_X8_309 tM_0 rfl rfl dX8_added0_45 rfl rfl (by decide) (Nat.le_of_ble_eq_true rfl) (by have hI := M.2.2.2.2.2.2.2.2; exact kX8_term0 hI   _ _ h) (fun r112 σ113 h => ?_)
        refine zz_istore_n M [(3, .int r112), (2, .int 1), (0, .ref (ad 0)), (1, .int x1)] dX8_added0_48 rfl (by decide) rfl ?_
        refine zz_iload_n M 1 dX8_added0_49 rfl rfl ?_
        refine zz_if_eq (y0 := 0) M 59 dX8_added0_50 (by decide) (fun c => absurd c (by decide)) (fun c => ?_)
        refine zz_iload_n M 3 dX8_added0_53 rfl rfl ?_
        refine zz_iload_n M 0 dX8_added0_54 rfl rfl ?_
        refine zz_iadd M dX8_added0_55 ?_
        refine zz_goto M 62 dX8_added0_56 (by decide) ?_
        refine zz_topi (fun x114 ex114 => ?_)
        have h := h x114 ex114
        refine zz_istore_n M [(1, .int x114), (3, .int r112), (2, .int 1), (0, .ref (ad 0))] dX8_added0_62 rfl (by decide) rfl ?_
        refine zz_goto M 5 dX8_added0_63 (by decide) ?_
        refine zz_sub [(0, .ref (ad 0)), (1, .int x114)] [3, 0] rfl ?_
        exact ih _ _ h
    · have h := zif (c := r103 = 0) h c
      refine zz_aload_n M 0 dX8_added0_14 rfl rfl ?_
      refine zz_bipush (v := 45) M dX8_added0_15 (by decide) ?_
      refine zz_callVI (d' := 1) (As := [.int 45]) (rest := []) M l_X8_200 tM_0 rfl rfl dX8_added0_17 rfl rfl (by decide) (Nat.le_of_ble_eq_true rfl) (by have hI := M.2.2.2.2.2.2.2.2; exact kX8_isSign hI _  _ _ h) (fun r115 σ116 h => ?_)
      refine zz_if_eq (y0 := 0) M 66 dX8_added0_20 (by decide) (fun c => ?_) (fun c => ?_)
      · have h := zif (c := r115 = 0) h c
        refine zz_sub [(1, .int x1)] [1] rfl ?_
        exact hK66 _ _ h
      · have h := zifn (c := r115 = 0) h c
        refine zz_aload_n M 0 dX8_added0_23 rfl rfl ?_
        refine zz_getL M f_X8_153 tM_0 rfl dX8_added0_24 ?_
        refine zz_ldc2 (v := 43) M k_X8_218 dX8_added0_27 ?_
        refine zz_lcmp M dX8_added0_30 ?_
        refine zz_if_ne (y0 := 0) M 38 dX8_added0_31 (by decide) (fun c => ?_) (fun c => ?_)
        · have h := zifn (c := (lg_cmp (σ116.2) 43) = 0) h c
          refine zz_iconst (v := 0) M dX8_added0_38 (by decide) ?_
          refine zz_istore_n M [(2, .int 0), (0, .ref (ad 0)), (1, .int x1)] dX8_added0_39 rfl (by decide) rfl ?_
          refine zz_aload_n M 1 dX8_added0_40 rfl rfl ?_
          refine zz_callVV (d' := 2) (As := []) (rest := []) M l_X8_175 tM_0 rfl rfl dX8_added0_41 rfl rfl (by decide) (Nat.le_of_ble_eq_true rfl) (by have hI := M.2.2.2.2.2.2.2.2; exact kX8_next hI   _ _ h) (fun σ118 h => ?_)
          refine zz_aload_n M 1 dX8_added0_44 rfl rfl ?_
          refine zz_callVI (d' := 36) (As := []) (rest := []) M l_X8_309 tM_0 rfl rfl dX8_added0_45 rfl rfl (by decide) (Nat.le_of_ble_eq_true rfl) (by have hI := M.2.2.2.2.2.2.2.2; exact kX8_term0 hI   _ _ h) (fun r119 σ120 h => ?_)
          refine zz_istore_n M [(3, .int r119), (2, .int 0), (0, .ref (ad 0)), (1, .int x1)] dX8_added0_48 rfl (by decide) rfl ?_
          refine zz_iload_n M 1 dX8_added0_49 rfl rfl ?_
          refine zz_if_eq (y0 := 0) M 59 dX8_added0_50 (by decide) (fun c => ?_) (fun c => absurd c (by decide))
          refine zz_iload_n M 3 dX8_added0_59 rfl rfl ?_
          refine zz_iload_n M 0 dX8_added0_60 rfl rfl ?_
          refine zz_isub M dX8_added0_61 ?_
          refine zz_topi (fun x121 ex121 => ?_)
          have h := h x121 ex121
          refine zz_istore_n M [(1, .int x121), (3, .int r119), (2, .int 0), (0, .ref (ad 0))] dX8_added0_62 rfl (by decide) rfl ?_
          refine zz_goto M 5 dX8_added0_63 (by decide) ?_
          refine zz_sub [(0, .ref (ad 0)), (1, .int x121)] [3, 0] rfl ?_
          exact ih _ _ h
        · have h := zif (c := (lg_cmp (σ116.2) 43) = 0) h c
          refine zz_iconst (v := 1) M dX8_added0_34 (by decide) ?_
          refine zz_goto M 39 dX8_added0_35 (by decide) ?_
          refine zz_istore_n M [(2, .int 1), (0, .ref (ad 0)), (1, .int x1)] dX8_added0_39 rfl (by decide) rfl ?_
          refine zz_aload_n M 1 dX8_added0_40 rfl rfl ?_
          refine zz_callVV (d' := 2) (As := []) (rest := []) M l_X8_175 tM_0 rfl rfl dX8_added0_41 rfl rfl (by decide) (Nat.le_of_ble_eq_true rfl) (by have hI := M.2.2.2.2.2.2.2.2; exact kX8_next hI   _ _ h) (fun σ123 h => ?_)
          refine zz_aload_n M 1 dX8_added0_44 rfl rfl ?_
          refine zz_callVI (d' := 36) (As := []) (rest := []) M l_X8_309 tM_0 rfl rfl dX8_added0_45 rfl rfl (by decide) (Nat.le_of_ble_eq_true rfl) (by have hI := M.2.2.2.2.2.2.2.2; exact kX8_term0 hI   _ _ h) (fun r124 σ125 h => ?_)
          refine zz_istore_n M [(3, .int r124), (2, .int 1), (0, .ref (ad 0)), (1, .int x1)] dX8_added0_48 rfl (by decide) rfl ?_
          refine zz_iload_n M 1 dX8_added0_49 rfl rfl ?_
          refine zz_if_eq (y0 := 0) M 59 dX8_added0_50 (by decide) (fun c => absurd c (by decide)) (fun c => ?_)
          refine zz_iload_n M 3 dX8_added0_53 rfl rfl ?_
          refine zz_iload_n M 0 dX8_added0_54 rfl rfl ?_
          refine zz_iadd M dX8_added0_55 ?_
          refine zz_goto M 62 dX8_added0_56 (by decide) ?_
          refine zz_topi (fun x126 ex126 => ?_)
          have h := h x126 ex126
          refine zz_istore_n M [(1, .int x126), (3, .int r124), (2, .int 1), (0, .ref (ad 0))] dX8_added0_62 rfl (by decide) rfl ?_
          refine zz_goto M 5 dX8_added0_63 (by decide) ?_
          refine zz_sub [(0, .ref (ad 0)), (1, .int x126)] [3, 0] rfl ?_
          exact ih _ _ h
def wX8_added0  (σ : zSt) (Q : Int32 → zSt → Prop) : Prop := wX8_term0  σ (fun r101 σ102 => wX8_added0_L5 Q (fun v127 σ128 => Q v127 σ128)  300 r101 σ102)
set_option maxRecDepth 20000 in
set_option maxHeartbeats 4000000 in
theorem kX8_added0 (hI : zInj tabM ad)   (σ : zSt) (Q : Int32 → zSt → Prop) (h : wX8_added0  σ Q) : zOkI l tabM D cA ad y 37 yX8_added0 cX8_added0 4 (some .int) [.ref (ad 0)] σ Q := by
  refine zz_enter hI (by decide) (Nat.le_of_ble_eq_true rfl) (fun p e s m below meth c M => ?_)
  have M : zM p s m _ meth c cX8_added0 4 RX8 (some .int) tabM D cA ad y := M
  refine zz_ls [(0, .ref (ad 0))] rfl ?_
  unfold wX8_added0 at h
  refine zz_aload_n M 0 dX8_added0_0 rfl rfl ?_
  refine zz_callVI (d' := 36) (As := []) (rest := []) M l_X8_309 tM_0 rfl rfl dX8_added0_1 rfl rfl (by decide) (Nat.le_of_ble_eq_true rfl) (by have hI := M.2.2.2.2.2.2.2.2; exact kX8_term0 hI   _ _ h) (fun r101 σ102 h => ?_)
  refine zz_istore_n M [(1, .int r101), (0, .ref (ad 0))] dX8_added0_4 rfl (by decide) rfl ?_
  refine zz_sub [(0, .ref (ad 0)), (1, .int r101)] [1, 0] rfl ?_
  refine sX8_added0_L5   M (fun v127 σ128 h => ?_) 300 _ _ h
  refine zz_iload_n M 0 dX8_added0_66 rfl rfl ?_
  exact zz_iret M dX8_added0_67 h
end
