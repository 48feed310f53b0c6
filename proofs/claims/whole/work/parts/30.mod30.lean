section
variable {p : Program} {l : Launch} {e : Env} {s : State} {m : MethodId} {args : Array Value} {below : List Frame} {meth : Method} {c : Code} {D : va_G} {cA : Nat → ClassId} {ad : Nat → Nat} {y : zX}
def wX8_not0  (σ : zSt) (Q : Int32 → zSt → Prop) : Prop := wX8_isWord 110 111 116 0 0 0 0 0 σ (fun r101 σ102 => if r101 = 0 then (wX8_added0  σ102 (fun r103 σ104 => wX8_isSign 60 σ104 (fun r105 σ106 => if r105 = 0 then (wX8_isSign 61 σ106 (fun r115 σ116 => if r115 = 0 then (Q r103 σ116) else (if (lg_cmp (σ116.2) 60) = 0 then (wX8_next  σ116 (fun σ122 => wX8_added0  σ122 (fun r123 σ124 => if r123 ≤ r103 then (Q 0 σ124) else (Q 1 σ124)))) else (wX8_next  σ116 (fun σ118 => wX8_added0  σ118 (fun r119 σ120 => if r103 = r119 then (Q 1 σ120) else (Q 0 σ120))))))) else (if (lg_cmp (σ106.2) 60) = 0 then (wX8_next  σ106 (fun σ112 => wX8_added0  σ112 (fun r113 σ114 => if r113 ≤ r103 then (Q 0 σ114) else (Q 1 σ114)))) else (wX8_next  σ106 (fun σ108 => wX8_added0  σ108 (fun r109 σ110 => if r103 = r109 then (Q 1 σ110) else (Q 0 σ110)))))))) else (wX8_opens  σ102 (fun r125 σ126 => if r125 = 0 then (Q 0 σ126) else (wX8_not1  σ126 (fun r127 σ128 => ∀ σ129 : zSt, σ129 = zput σ128 0 30 ((σ128.1 0 30) - 1) → (if r127 = 0 then (Q 1 σ129) else (Q 0 σ129)))))))
set_option maxRecDepth 20000 in
set_option maxHeartbeats 4000000 in
theorem kX8_not0 (hI : zInj tabM ad)   (σ : zSt) (Q : Int32 → zSt → Prop) (h : wX8_not0  σ Q) : zOkI l tabM D cA ad y 38 yX8_not0 cX8_not0 4 (some .int) [.ref (ad 0)] σ Q := by
  refine zz_enter hI (by decide) (Nat.le_of_ble_eq_true rfl) (fun p e s m below meth c M => ?_)
  have M : zM p s m _ meth c cX8_not0 4 RX8 (some .int) tabM D cA ad y := M
  refine zz_ls [(0, .ref (ad 0))] rfl ?_
  unfold wX8_not0 at h
  refine zz_aload_n M 0 dX8_not0_0 rfl rfl ?_
  refine zz_bipush (v := 110) M dX8_not0_1 (by decide) ?_
  refine zz_bipush (v := 111) M dX8_not0_3 (by decide) ?_
  refine zz_bipush (v := 116) M dX8_not0_5 (by decide) ?_
  refine zz_iconst (v := 0) M dX8_not0_7 (by decide) ?_
  refine zz_iconst (v := 0) M dX8_not0_8 (by decide) ?_
  refine zz_iconst (v := 0) M dX8_not0_9 (by decide) ?_
  refine zz_iconst (v := 0) M dX8_not0_10 (by decide) ?_
  refine zz_iconst (v := 0) M dX8_not0_11 (by decide) ?_
  refine zz_callVI (d' := 3) (As := [.int 110, .int 111, .int 116, .int 0, .int 0, .int 0, .int 0, .int 0]) (rest := []) M l_X8_178 tM_0 rfl rfl dX8_not0_12 rfl rfl (by decide) (Nat.le_of_ble_eq_true rfl) (by have hI := M.2.2.2.2.2.2.2.2; exact kX8_isWord hI _ _ _ _ _ _ _ _  _ _ h) (fun r101 σ102 h => ?_)
  refine zz_if_eq (y0 := 0) M 52 dX8_not0_15 (by decide) (fun c => ?_) (fun c => ?_)
  · have h := zif (c := r101 = 0) h c
    refine zz_aload_n M 0 dX8_not0_52 rfl rfl ?_
    refine zz_callVI (d' := 37) (As := []) (rest := []) M l_X8_312 tM_0 rfl rfl dX8_not0_53 rfl rfl (by decide) (Nat.le_of_ble_eq_true rfl) (by have hI := M.2.2.2.2.2.2.2.2; exact kX8_added0 hI   _ _ h) (fun r103 σ104 h => ?_)
    refine zz_istore_n M [(1, .int r103), (0, .ref (ad 0))] dX8_not0_56 rfl (by decide) rfl ?_
    refine zz_aload_n M 1 dX8_not0_57 rfl rfl ?_
    refine zz_bipush (v := 60) M dX8_not0_58 (by decide) ?_
    refine zz_callVI (d' := 1) (As := [.int 60]) (rest := []) M l_X8_200 tM_0 rfl rfl dX8_not0_60 rfl rfl (by decide) (Nat.le_of_ble_eq_true rfl) (by have hI := M.2.2.2.2.2.2.2.2; exact kX8_isSign hI _  _ _ h) (fun r105 σ106 h => ?_)
    refine zz_if_ne (y0 := 0) M 77 dX8_not0_63 (by decide) (fun c => ?_) (fun c => ?_)
    · have h := zifn (c := r105 = 0) h c
      refine zz_aload_n M 1 dX8_not0_77 rfl rfl ?_
      refine zz_getL M f_X8_153 tM_0 rfl dX8_not0_78 ?_
      refine zz_ldc2 (v := 60) M k_X8_223 dX8_not0_81 ?_
      refine zz_lcmp M dX8_not0_84 ?_
      refine zz_if_ne (y0 := 0) M 92 dX8_not0_85 (by decide) (fun c => ?_) (fun c => ?_)
      · have h := zifn (c := (lg_cmp (σ106.2) 60) = 0) h c
        refine zz_iconst (v := 0) M dX8_not0_92 (by decide) ?_
        refine zz_istore_n M [(2, .int 0), (1, .int r103), (0, .ref (ad 0))] dX8_not0_93 rfl (by decide) rfl ?_
        refine zz_aload_n M 2 dX8_not0_94 rfl rfl ?_
        refine zz_callVV (d' := 2) (As := []) (rest := []) M l_X8_175 tM_0 rfl rfl dX8_not0_95 rfl rfl (by decide) (Nat.le_of_ble_eq_true rfl) (by have hI := M.2.2.2.2.2.2.2.2; exact kX8_next hI   _ _ h) (fun σ108 h => ?_)
        refine zz_aload_n M 2 dX8_not0_98 rfl rfl ?_
        refine zz_callVI (d' := 37) (As := []) (rest := []) M l_X8_312 tM_0 rfl rfl dX8_not0_99 rfl rfl (by decide) (Nat.le_of_ble_eq_true rfl) (by have hI := M.2.2.2.2.2.2.2.2; exact kX8_added0 hI   _ _ h) (fun r109 σ110 h => ?_)
        refine zz_istore_n M [(3, .int r109), (2, .int 0), (1, .int r103), (0, .ref (ad 0))] dX8_not0_102 rfl (by decide) rfl ?_
        refine zz_iload_n M 1 dX8_not0_103 rfl rfl ?_
        refine zz_if_eq (y0 := 0) M 115 dX8_not0_104 (by decide) (fun c => ?_) (fun c => absurd c (by decide))
        refine zz_iload_n M 2 dX8_not0_115 rfl rfl ?_
        refine zz_iload_n M 0 dX8_not0_116 rfl rfl ?_
        refine zz_icmp_ne M 124 dX8_not0_117 (by decide) (fun c => ?_) (fun c => ?_)
        · have h := zifn (c := r103 = r109) h c
          refine zz_iconst (v := 0) M dX8_not0_124 (by decide) ?_
          exact zz_iret M dX8_not0_125 h
        · have h := zif (c := r103 = r109) h c
          refine zz_iconst (v := 1) M dX8_not0_120 (by decide) ?_
          refine zz_goto M 125 dX8_not0_121 (by decide) ?_
          exact zz_iret M dX8_not0_125 h
      · have h := zif (c := (lg_cmp (σ106.2) 60) = 0) h c
        refine zz_iconst (v := 1) M dX8_not0_88 (by decide) ?_
        refine zz_goto M 93 dX8_not0_89 (by decide) ?_
        refine zz_istore_n M [(2, .int 1), (1, .int r103), (0, .ref (ad 0))] dX8_not0_93 rfl (by decide) rfl ?_
        refine zz_aload_n M 2 dX8_not0_94 rfl rfl ?_
        refine zz_callVV (d' := 2) (As := []) (rest := []) M l_X8_175 tM_0 rfl rfl dX8_not0_95 rfl rfl (by decide) (Nat.le_of_ble_eq_true rfl) (by have hI := M.2.2.2.2.2.2.2.2; exact kX8_next hI   _ _ h) (fun σ112 h => ?_)
        refine zz_aload_n M 2 dX8_not0_98 rfl rfl ?_
        refine zz_callVI (d' := 37) (As := []) (rest := []) M l_X8_312 tM_0 rfl rfl dX8_not0_99 rfl rfl (by decide) (Nat.le_of_ble_eq_true rfl) (by have hI := M.2.2.2.2.2.2.2.2; exact kX8_added0 hI   _ _ h) (fun r113 σ114 h => ?_)
        refine zz_istore_n M [(3, .int r113), (2, .int 1), (1, .int r103), (0, .ref (ad 0))] dX8_not0_102 rfl (by decide) rfl ?_
        refine zz_iload_n M 1 dX8_not0_103 rfl rfl ?_
        refine zz_if_eq (y0 := 0) M 115 dX8_not0_104 (by decide) (fun c => absurd c (by decide)) (fun c => ?_)
        refine zz_iload_n M 2 dX8_not0_107 rfl rfl ?_
        refine zz_iload_n M 0 dX8_not0_108 rfl rfl ?_
        refine zz_icmp_ge M 124 dX8_not0_109 (by decide) (fun c => ?_) (fun c => ?_)
        · have h := zif (c := r113 ≤ r103) h c
          refine zz_iconst (v := 0) M dX8_not0_124 (by decide) ?_
          exact zz_iret M dX8_not0_125 h
        · have h := zifn (c := r113 ≤ r103) h c
          refine zz_goto M 120 dX8_not0_112 (by decide) ?_
          refine zz_iconst (v := 1) M dX8_not0_120 (by decide) ?_
          refine zz_goto M 125 dX8_not0_121 (by decide) ?_
          exact zz_iret M dX8_not0_125 h
    · have h := zif (c := r105 = 0) h c
      refine zz_aload_n M 1 dX8_not0_66 rfl rfl ?_
      refine zz_bipush (v := 61) M dX8_not0_67 (by decide) ?_
      refine zz_callVI (d' := 1) (As := [.int 61]) (rest := []) M l_X8_200 tM_0 rfl rfl dX8_not0_69 rfl rfl (by decide) (Nat.le_of_ble_eq_true rfl) (by have hI := M.2.2.2.2.2.2.2.2; exact kX8_isSign hI _  _ _ h) (fun r115 σ116 h => ?_)
      refine zz_if_ne (y0 := 0) M 77 dX8_not0_72 (by decide) (fun c => ?_) (fun c => ?_)
      · have h := zifn (c := r115 = 0) h c
        refine zz_aload_n M 1 dX8_not0_77 rfl rfl ?_
        refine zz_getL M f_X8_153 tM_0 rfl dX8_not0_78 ?_
        refine zz_ldc2 (v := 60) M k_X8_223 dX8_not0_81 ?_
        refine zz_lcmp M dX8_not0_84 ?_
        refine zz_if_ne (y0 := 0) M 92 dX8_not0_85 (by decide) (fun c => ?_) (fun c => ?_)
        · have h := zifn (c := (lg_cmp (σ116.2) 60) = 0) h c
          refine zz_iconst (v := 0) M dX8_not0_92 (by decide) ?_
          refine zz_istore_n M [(2, .int 0), (1, .int r103), (0, .ref (ad 0))] dX8_not0_93 rfl (by decide) rfl ?_
          refine zz_aload_n M 2 dX8_not0_94 rfl rfl ?_
          refine zz_callVV (d' := 2) (As := []) (rest := []) M l_X8_175 tM_0 rfl rfl dX8_not0_95 rfl rfl (by decide) (Nat.le_of_ble_eq_true rfl) (by have hI := M.2.2.2.2.2.2.2.2; exact kX8_next hI   _ _ h) (fun σ118 h => ?_)
          refine zz_aload_n M 2 dX8_not0_98 rfl rfl ?_
          refine zz_callVI (d' := 37) (As := []) (rest := []) M l_X8_312 tM_0 rfl rfl dX8_not0_99 rfl rfl (by decide) (Nat.le_of_ble_eq_true rfl) (by have hI := M.2.2.2.2.2.2.2.2; exact kX8_added0 hI   _ _ h) (fun r119 σ120 h => ?_)
          refine zz_istore_n M [(3, .int r119), (2, .int 0), (1, .int r103), (0, .ref (ad 0))] dX8_not0_102 rfl (by decide) rfl ?_
          refine zz_iload_n M 1 dX8_not0_103 rfl rfl ?_
          refine zz_if_eq (y0 := 0) M 115 dX8_not0_104 (by decide) (fun c => ?_) (fun c => absurd c (by decide))
          refine zz_iload_n M 2 dX8_not0_115 rfl rfl ?_
          refine zz_iload_n M 0 dX8_not0_116 rfl rfl ?_
          refine zz_icmp_ne M 124 dX8_not0_117 (by decide) (fun c => ?_) (fun c => ?_)
          · have h := zifn (c := r103 = r119) h c
            refine zz_iconst (v := 0) M dX8_not0_124 (by decide) ?_
            exact zz_iret M dX8_not0_125 h
          · have h := zif (c := r103 = r119) h c
            refine zz_iconst (v := 1) M dX8_not0_120 (by decide) ?_
            refine zz_goto M 125 dX8_not0_121 (by decide) ?_
            exact zz_iret M dX8_not0_125 h
        · have h := zif (c := (lg_cmp (σ116.2) 60) = 0) h c
          refine zz_iconst (v := 1) M dX8_not0_88 (by decide) ?_
          refine zz_goto M 93 dX8_not0_89 (by decide) ?_
          refine zz_istore_n M [(2, .int 1), (1, .int r103), (0, .ref (ad 0))] dX8_not0_93 rfl (by decide) rfl ?_
          refine zz_aload_n M 2 dX8_not0_94 rfl rfl ?_
          refine zz_callVV (d' := 2) (As := []) (rest := []) M l_X8_175 tM_0 rfl rfl dX8_not0_95 rfl rfl (by decide) (Nat.le_of_ble_eq_true rfl) (by have hI := M.2.2.2.2.2.2.2.2; exact kX8_next hI   _ _ h) (fun σ122 h => ?_)
          refine zz_aload_n M 2 dX8_not0_98 rfl rfl ?_
          refine zz_callVI (d' := 37) (As := []) (rest := []) M l_X8_312 tM_0 rfl rfl dX8_not0_99 rfl rfl (by decide) (Nat.le_of_ble_eq_true rfl) (by have hI := M.2.2.2.2.2.2.2.2; exact kX8_added0 hI   _ _ h) (fun r123 σ124 h => ?_)
          refine zz_istore_n M [(3, .int r123), (2, .int 1), (1, .int r103), (0, .ref (ad 0))] dX8_not0_102 rfl (by decide) rfl ?_
          refine zz_iload_n M 1 dX8_not0_103 rfl rfl ?_
          refine zz_if_eq (y0 := 0) M 115 dX8_not0_104 (by decide) (fun c => absurd c (by decide)) (fun c => ?_)
          refine zz_iload_n M 2 dX8_not0_107 rfl rfl ?_
          refine zz_iload_n M 0 dX8_not0_108 rfl rfl ?_
          refine zz_icmp_ge M 124 dX8_not0_109 (by decide) (fun c => ?_) (fun c => ?_)
          · have h := zif (c := r123 ≤ r103) h c
            refine zz_iconst (v := 0) M dX8_not0_124 (by decide) ?_
            exact zz_iret M dX8_not0_125 h
          · have h := zifn (c := r123 ≤ r103) h c
            refine zz_goto M 120 dX8_not0_112 (by decide) ?_
            refine zz_iconst (v := 1) M dX8_not0_120 (by decide) ?_
            refine zz_goto M 125 dX8_not0_121 (by decide) ?_
            exact zz_iret M dX8_not0_125 h
      · have h := zif (c := r115 = 0) h c
        refine zz_iload_n M 0 dX8_not0_75 rfl rfl ?_
        exact zz_iret M dX8_not0_76 h
  · have h := zifn (c := r101 = 0) h c
    refine zz_aload_n M 0 dX8_not0_18 rfl rfl ?_
    refine zz_callVI (d' := 3) (As := []) (rest := []) M l_X8_204 tM_0 rfl rfl dX8_not0_19 rfl rfl (by decide) (Nat.le_of_ble_eq_true rfl) (by have hI := M.2.2.2.2.2.2.2.2; exact kX8_opens hI   _ _ h) (fun r125 σ126 h => ?_)
    refine zz_if_ne (y0 := 0) M 27 dX8_not0_22 (by decide) (fun c => ?_) (fun c => ?_)
    · have h := zifn (c := r125 = 0) h c
      refine zz_aload_n M 0 dX8_not0_27 rfl rfl ?_
      refine zz_callVI (d' := 32) (As := []) (rest := []) M l_X8_297 tM_0 rfl rfl dX8_not0_28 rfl rfl (by decide) (Nat.le_of_ble_eq_true rfl) (by have hI := M.2.2.2.2.2.2.2.2; exact kX8_not1 hI   _ _ h) (fun r127 σ128 h => ?_)
      refine zz_istore_n M [(1, .int r127), (0, .ref (ad 0))] dX8_not0_31 rfl (by decide) rfl ?_
      refine zz_aload_n M 1 dX8_not0_32 rfl rfl ?_
      refine zz_dup M dX8_not0_33 rfl ?_
      refine zz_getI M f_X8_169 tM_0 rfl dX8_not0_34 ?_
      refine zz_iconst (v := 1) M dX8_not0_37 (by decide) ?_
      refine zz_isub M dX8_not0_38 ?_
      refine zz_putI M f_X8_169 tM_0 rfl dX8_not0_39 ?_
      refine zz_sg (fun σ129 eσ129 => ?_)
      have h := h σ129 eσ129
      refine zz_iload_n M 0 dX8_not0_42 rfl rfl ?_
      refine zz_if_ne (y0 := 0) M 50 dX8_not0_43 (by decide) (fun c => ?_) (fun c => ?_)
      · have h := zifn (c := r127 = 0) h c
        refine zz_iconst (v := 0) M dX8_not0_50 (by decide) ?_
        exact zz_iret M dX8_not0_51 h
      · have h := zif (c := r127 = 0) h c
        refine zz_iconst (v := 1) M dX8_not0_46 (by decide) ?_
        refine zz_goto M 51 dX8_not0_47 (by decide) ?_
        exact zz_iret M dX8_not0_51 h
    · have h := zif (c := r125 = 0) h c
      refine zz_iconst (v := 0) M dX8_not0_25 (by decide) ?_
      exact zz_iret M dX8_not0_26 h
def wX8_both0_L5 (Q : Int32 → zSt → Prop) (K49 : Int32 → zSt → Prop)  : Nat → Int32 → zSt → Prop
  | 0, _, _ => False
  | n + 1, x1, σ => wX8_isWord 97 110 100 0 0 0 0 0 σ (fun r103 σ104 => if r103 = 0 then (K49 x1 σ104) else (wX8_next  σ104 (fun σ106 => wX8_not0  σ106 (fun r107 σ108 => if x1 = 0 then (wX8_both0_L5 Q K49  n 0 σ108) else (if r107 = 0 then (wX8_both0_L5 Q K49  n 0 σ108) else (wX8_both0_L5 Q K49  n 1 σ108))))))
set_option maxRecDepth 20000 in
set_option maxHeartbeats 4000000 in
theorem sX8_both0_L5 {Q : Int32 → zSt → Prop} {K49 : Int32 → zSt → Prop}   (M : zM p s m args meth c cX8_both0 3 RX8 (some .int) tabM D cA ad y) (hK49 : ∀ (v1 : Int32) (σ : zSt), K49 v1 σ → zG p l e (zrm 39) s m args below meth c 3 tabM D cA ad (MQ below (va_Qi Q (fun σ' t => va_P D vwCl (zws tabM cA ad σ') t.heap) (zIn tabM ad)) args s 0 0 (zIn tabM ad)) 49 [(1, .int v1)] [] σ) : ∀ (n : Nat) (x1 : Int32) (σ : zSt), wX8_both0_L5 Q K49  n x1 σ → zG p l e (zrm 39) s m args below meth c 3 tabM D cA ad (MQ below (va_Qi Q (fun σ' t => va_P D vwCl (zws tabM cA ad σ') t.heap) (zIn tabM ad)) args s 0 0 (zIn tabM ad)) 5 [(0, .ref (ad 0)), (1, .int x1)] [] σ := by
  intro n
  induction n with
  | zero => intro x1 σ h; exact absurd h (by simp [wX8_both0_L5])
  | succ n ih =>
    intro x1 σ h
    unfold wX8_both0_L5 at h
    refine zz_aload_n M 0 dX8_both0_5 rfl rfl ?_
    refine zz_bipush (v := 97) M dX8_both0_6 (by decide) ?_
    refine zz_bipush (v := 110) M dX8_both0_8 (by decide) ?_
    refine zz_bipush (v := 100) M dX8_both0_10 (by decide) ?_
    refine zz_iconst (v := 0) M dX8_both0_12 (by decide) ?_
    refine zz_iconst (v := 0) M dX8_both0_13 (by decide) ?_
    refine zz_iconst (v := 0) M dX8_both0_14 (by decide) ?_
    refine zz_iconst (v := 0) M dX8_both0_15 (by decide) ?_
    refine zz_iconst (v := 0) M dX8_both0_16 (by decide) ?_
    refine zz_callVI (d' := 3) (As := [.int 97, .int 110, .int 100, .int 0, .int 0, .int 0, .int 0, .int 0]) (rest := []) M l_X8_178 tM_0 rfl rfl dX8_both0_17 rfl rfl (by decide) (Nat.le_of_ble_eq_true rfl) (by have hI := M.2.2.2.2.2.2.2.2; exact kX8_isWord hI _ _ _ _ _ _ _ _  _ _ h) (fun r103 σ104 h => ?_)
    refine zz_if_eq (y0 := 0) M 49 dX8_both0_20 (by decide) (fun c => ?_) (fun c => ?_)
    · have h := zif (c := r103 = 0) h c
      refine zz_sub [(1, .int x1)] [1] rfl ?_
      exact hK49 _ _ h
    · have h := zifn (c := r103 = 0) h c
      refine zz_aload_n M 0 dX8_both0_23 rfl rfl ?_
      refine zz_callVV (d' := 2) (As := []) (rest := []) M l_X8_175 tM_0 rfl rfl dX8_both0_24 rfl rfl (by decide) (Nat.le_of_ble_eq_true rfl) (by have hI := M.2.2.2.2.2.2.2.2; exact kX8_next hI   _ _ h) (fun σ106 h => ?_)
      refine zz_aload_n M 0 dX8_both0_27 rfl rfl ?_
      refine zz_callVI (d' := 38) (As := []) (rest := []) M l_X8_315 tM_0 rfl rfl dX8_both0_28 rfl rfl (by decide) (Nat.le_of_ble_eq_true rfl) (by have hI := M.2.2.2.2.2.2.2.2; exact kX8_not0 hI   _ _ h) (fun r107 σ108 h => ?_)
      refine zz_istore_n M [(2, .int r107), (0, .ref (ad 0)), (1, .int x1)] dX8_both0_31 rfl (by decide) rfl ?_
      refine zz_iload_n M 2 dX8_both0_32 rfl rfl ?_
      refine zz_if_eq (y0 := 0) M 44 dX8_both0_33 (by decide) (fun c => ?_) (fun c => ?_)
      · have h := zif (c := x1 = 0) h c
        refine zz_iconst (v := 0) M dX8_both0_44 (by decide) ?_
        refine zz_istore_n M [(1, .int 0), (2, .int r107), (0, .ref (ad 0))] dX8_both0_45 rfl (by decide) rfl ?_
        refine zz_goto M 5 dX8_both0_46 (by decide) ?_
        refine zz_sub [(0, .ref (ad 0)), (1, .int 0)] [2, 0] rfl ?_
        exact ih _ _ h
      · have h := zifn (c := x1 = 0) h c
        refine zz_iload_n M 0 dX8_both0_36 rfl rfl ?_
        refine zz_if_eq (y0 := 0) M 44 dX8_both0_37 (by decide) (fun c => ?_) (fun c => ?_)
        · have h := zif (c := r107 = 0) h c
          refine zz_iconst (v := 0) M dX8_both0_44 (by decide) ?_
          refine zz_istore_n M [(1, .int 0), (2, .int r107), (0, .ref (ad 0))] dX8_both0_45 rfl (by decide) rfl ?_
          refine zz_goto M 5 dX8_both0_46 (by decide) ?_
          refine zz_sub [(0, .ref (ad 0)), (1, .int 0)] [2, 0] rfl ?_
          exact ih _ _ h
        · have h := zifn (c := r107 = 0) h c
          refine zz_iconst (v := 1) M dX8_both0_40 (by decide) ?_
          refine zz_goto M 45 dX8_both0_41 (by decide) ?_
          refine zz_istore_n M [(1, .int 1), (2, .int r107), (0, .ref (ad 0))] dX8_both0_45 rfl (by decide) rfl ?_
          refine zz_goto M 5 dX8_both0_46 (by decide) ?_
          refine zz_sub [(0, .ref (ad 0)), (1, .int 1)] [2, 0] rfl ?_
          exact ih _ _ h
def wX8_both0  (σ : zSt) (Q : Int32 → zSt → Prop) : Prop := wX8_not0  σ (fun r101 σ102 => wX8_both0_L5 Q (fun v109 σ110 => Q v109 σ110)  300 r101 σ102)
set_option maxRecDepth 20000 in
set_option maxHeartbeats 4000000 in
theorem kX8_both0 (hI : zInj tabM ad)   (σ : zSt) (Q : Int32 → zSt → Prop) (h : wX8_both0  σ Q) : zOkI l tabM D cA ad y 39 yX8_both0 cX8_both0 3 (some .int) [.ref (ad 0)] σ Q := by
  refine zz_enter hI (by decide) (Nat.le_of_ble_eq_true rfl) (fun p e s m below meth c M => ?_)
  have M : zM p s m _ meth c cX8_both0 3 RX8 (some .int) tabM D cA ad y := M
  refine zz_ls [(0, .ref (ad 0))] rfl ?_
  unfold wX8_both0 at h
  refine zz_aload_n M 0 dX8_both0_0 rfl rfl ?_
  refine zz_callVI (d' := 38) (As := []) (rest := []) M l_X8_315 tM_0 rfl rfl dX8_both0_1 rfl rfl (by decide) (Nat.le_of_ble_eq_true rfl) (by have hI := M.2.2.2.2.2.2.2.2; exact kX8_not0 hI   _ _ h) (fun r101 σ102 h => ?_)
  refine zz_istore_n M [(1, .int r101), (0, .ref (ad 0))] dX8_both0_4 rfl (by decide) rfl ?_
  refine zz_sub [(0, .ref (ad 0)), (1, .int r101)] [1, 0] rfl ?_
  refine sX8_both0_L5   M (fun v109 σ110 h => ?_) 300 _ _ h
  refine zz_iload_n M 0 dX8_both0_49 rfl rfl ?_
  exact zz_iret M dX8_both0_50 h
def wX8_either0_L5 (Q : Int32 → zSt → Prop) (K48 : Int32 → zSt → Prop)  : Nat → Int32 → zSt → Prop
  | 0, _, _ => False
  | n + 1, x1, σ => wX8_isWord 111 114 0 0 0 0 0 0 σ (fun r103 σ104 => if r103 = 0 then (K48 x1 σ104) else (wX8_next  σ104 (fun σ106 => wX8_both0  σ106 (fun r107 σ108 => if x1 = 0 then (if r107 = 0 then (wX8_either0_L5 Q K48  n 0 σ108) else (wX8_either0_L5 Q K48  n 1 σ108)) else (wX8_either0_L5 Q K48  n 1 σ108)))))
set_option maxRecDepth 20000 in
set_option maxHeartbeats 4000000 in
theorem sX8_either0_L5 {Q : Int32 → zSt → Prop} {K48 : Int32 → zSt → Prop}   (M : zM p s m args meth c cX8_either0 3 RX8 (some .int) tabM D cA ad y) (hK48 : ∀ (v1 : Int32) (σ : zSt), K48 v1 σ → zG p l e (zrm 40) s m args below meth c 3 tabM D cA ad (MQ below (va_Qi Q (fun σ' t => va_P D vwCl (zws tabM cA ad σ') t.heap) (zIn tabM ad)) args s 0 0 (zIn tabM ad)) 48 [(1, .int v1)] [] σ) : ∀ (n : Nat) (x1 : Int32) (σ : zSt), wX8_either0_L5 Q K48  n x1 σ → zG p l e (zrm 40) s m args below meth c 3 tabM D cA ad (MQ below (va_Qi Q (fun σ' t => va_P D vwCl (zws tabM cA ad σ') t.heap) (zIn tabM ad)) args s 0 0 (zIn tabM ad)) 5 [(0, .ref (ad 0)), (1, .int x1)] [] σ := by
  intro n
  induction n with
  | zero => intro x1 σ h; exact absurd h (by simp [wX8_either0_L5])
  | succ n ih =>
    intro x1 σ h
    unfold wX8_either0_L5 at h
    refine zz_aload_n M 0 dX8_either0_5 rfl rfl ?_
    refine zz_bipush (v := 111) M dX8_either0_6 (by decide) ?_
    refine zz_bipush (v := 114) M dX8_either0_8 (by decide) ?_
    refine zz_iconst (v := 0) M dX8_either0_10 (by decide) ?_
    refine zz_iconst (v := 0) M dX8_either0_11 (by decide) ?_
    refine zz_iconst (v := 0) M dX8_either0_12 (by decide) ?_
    refine zz_iconst (v := 0) M dX8_either0_13 (by decide) ?_
    refine zz_iconst (v := 0) M dX8_either0_14 (by decide) ?_
    refine zz_iconst (v := 0) M dX8_either0_15 (by decide) ?_
    refine zz_callVI (d' := 3) (As := [.int 111, .int 114, .int 0, .int 0, .int 0, .int 0, .int 0, .int 0]) (rest := []) M l_X8_178 tM_0 rfl rfl dX8_either0_16 rfl rfl (by decide) (Nat.le_of_ble_eq_true rfl) (by have hI := M.2.2.2.2.2.2.2.2; exact kX8_isWord hI _ _ _ _ _ _ _ _  _ _ h) (fun r103 σ104 h => ?_)
    refine zz_if_eq (y0 := 0) M 48 dX8_either0_19 (by decide) (fun c => ?_) (fun c => ?_)
    · have h := zif (c := r103 = 0) h c
      refine zz_sub [(1, .int x1)] [1] rfl ?_
      exact hK48 _ _ h
    · have h := zifn (c := r103 = 0) h c
      refine zz_aload_n M 0 dX8_either0_22 rfl rfl ?_
      refine zz_callVV (d' := 2) (As := []) (rest := []) M l_X8_175 tM_0 rfl rfl dX8_either0_23 rfl rfl (by decide) (Nat.le_of_ble_eq_true rfl) (by have hI := M.2.2.2.2.2.2.2.2; exact kX8_next hI   _ _ h) (fun σ106 h => ?_)
      refine zz_aload_n M 0 dX8_either0_26 rfl rfl ?_
      refine zz_callVI (d' := 39) (As := []) (rest := []) M l_X8_318 tM_0 rfl rfl dX8_either0_27 rfl rfl (by decide) (Nat.le_of_ble_eq_true rfl) (by have hI := M.2.2.2.2.2.2.2.2; exact kX8_both0 hI   _ _ h) (fun r107 σ108 h => ?_)
      refine zz_istore_n M [(2, .int r107), (0, .ref (ad 0)), (1, .int x1)] dX8_either0_30 rfl (by decide) rfl ?_
      refine zz_iload_n M 2 dX8_either0_31 rfl rfl ?_
      refine zz_if_ne (y0 := 0) M 39 dX8_either0_32 (by decide) (fun c => ?_) (fun c => ?_)
      · have h := zifn (c := x1 = 0) h c
        refine zz_iconst (v := 1) M dX8_either0_39 (by decide) ?_
        refine zz_goto M 44 dX8_either0_40 (by decide) ?_
        refine zz_istore_n M [(1, .int 1), (2, .int r107), (0, .ref (ad 0))] dX8_either0_44 rfl (by decide) rfl ?_
        refine zz_goto M 5 dX8_either0_45 (by decide) ?_
        refine zz_sub [(0, .ref (ad 0)), (1, .int 1)] [2, 0] rfl ?_
        exact ih _ _ h
      · have h := zif (c := x1 = 0) h c
        refine zz_iload_n M 0 dX8_either0_35 rfl rfl ?_
        refine zz_if_eq (y0 := 0) M 43 dX8_either0_36 (by decide) (fun c => ?_) (fun c => ?_)
        · have h := zif (c := r107 = 0) h c
          refine zz_iconst (v := 0) M dX8_either0_43 (by decide) ?_
          refine zz_istore_n M [(1, .int 0), (2, .int r107), (0, .ref (ad 0))] dX8_either0_44 rfl (by decide) rfl ?_
          refine zz_goto M 5 dX8_either0_45 (by decide) ?_
          refine zz_sub [(0, .ref (ad 0)), (1, .int 0)] [2, 0] rfl ?_
          exact ih _ _ h
        · have h := zifn (c := r107 = 0) h c
          refine zz_iconst (v := 1) M dX8_either0_39 (by decide) ?_
          refine zz_goto M 44 dX8_either0_40 (by decide) ?_
          refine zz_istore_n M [(1, .int 1), (2, .int r107), (0, .ref (ad 0))] dX8_either0_44 rfl (by decide) rfl ?_
          refine zz_goto M 5 dX8_either0_45 (by decide) ?_
          refine zz_sub [(0, .ref (ad 0)), (1, .int 1)] [2, 0] rfl ?_
          exact ih _ _ h
def wX8_either0  (σ : zSt) (Q : Int32 → zSt → Prop) : Prop := wX8_both0  σ (fun r101 σ102 => wX8_either0_L5 Q (fun v109 σ110 => Q v109 σ110)  300 r101 σ102)
set_option maxRecDepth 20000 in
set_option maxHeartbeats 4000000 in
theorem kX8_either0 (hI : zInj tabM ad)   (σ : zSt) (Q : Int32 → zSt → Prop) (h : wX8_either0  σ Q) : zOkI l tabM D cA ad y 40 yX8_either0 cX8_either0 3 (some .int) [.ref (ad 0)] σ Q := by
  refine zz_enter hI (by decide) (Nat.le_of_ble_eq_true rfl) (fun p e s m below meth c M => ?_)
  have M : zM p s m _ meth c cX8_either0 3 RX8 (some .int) tabM D cA ad y := M
  refine zz_ls [(0, .ref (ad 0))] rfl ?_
  unfold wX8_either0 at h
  refine zz_aload_n M 0 dX8_either0_0 rfl rfl ?_
  refine zz_callVI (d' := 39) (As := []) (rest := []) M l_X8_318 tM_0 rfl rfl dX8_either0_1 rfl rfl (by decide) (Nat.le_of_ble_eq_true rfl) (by have hI := M.2.2.2.2.2.2.2.2; exact kX8_both0 hI   _ _ h) (fun r101 σ102 h => ?_)
  refine zz_istore_n M [(1, .int r101), (0, .ref (ad 0))] dX8_either0_4 rfl (by decide) rfl ?_
  refine zz_sub [(0, .ref (ad 0)), (1, .int r101)] [1, 0] rfl ?_
  refine sX8_either0_L5   M (fun v109 σ110 h => ?_) 300 _ _ h
  refine zz_iload_n M 0 dX8_either0_48 rfl rfl ?_
  exact zz_iret M dX8_either0_49 h
def wX8_part (x1 : Int32) (σ : zSt) (Q : Int32 → zSt → Prop) : Prop := if x1 = 0 then (wX8_fail  σ (fun σ140 => if (σ140.1 0 31) = 0 then (wX8_next  σ140 (fun σ160 => if (σ160.1 0 31) = 0 then (wX8_either0  σ160 (fun r161 σ162 => wX8_isSign 59 σ162 (fun r163 σ164 => if r163 = 0 then (wX8_fail  σ164 (fun σ168 => if (σ168.1 0 31) = 0 then (wX8_next  σ168 (fun σ170 => Q r161 σ170)) else (Q r161 σ168))) else (if (σ164.1 0 31) = 0 then (wX8_next  σ164 (fun σ166 => Q r161 σ166)) else (Q r161 σ164))))) else (wX8_isSign 59 σ160 (fun r171 σ172 => if r171 = 0 then (wX8_fail  σ172 (fun σ176 => if (σ176.1 0 31) = 0 then (wX8_next  σ176 (fun σ178 => Q 0 σ178)) else (Q 0 σ176))) else (if (σ172.1 0 31) = 0 then (wX8_next  σ172 (fun σ174 => Q 0 σ174)) else (Q 0 σ172)))))) else (if (σ140.1 0 31) = 0 then (wX8_either0  σ140 (fun r141 σ142 => wX8_isSign 59 σ142 (fun r143 σ144 => if r143 = 0 then (wX8_fail  σ144 (fun σ148 => if (σ148.1 0 31) = 0 then (wX8_next  σ148 (fun σ150 => Q r141 σ150)) else (Q r141 σ148))) else (if (σ144.1 0 31) = 0 then (wX8_next  σ144 (fun σ146 => Q r141 σ146)) else (Q r141 σ144))))) else (wX8_isSign 59 σ140 (fun r151 σ152 => if r151 = 0 then (wX8_fail  σ152 (fun σ156 => if (σ156.1 0 31) = 0 then (wX8_next  σ156 (fun σ158 => Q 0 σ158)) else (Q 0 σ156))) else (if (σ152.1 0 31) = 0 then (wX8_next  σ152 (fun σ154 => Q 0 σ154)) else (Q 0 σ152))))))) else (if (σ.1 0 31) = 0 then (wX8_next  σ (fun σ120 => if (σ120.1 0 31) = 0 then (wX8_either0  σ120 (fun r121 σ122 => wX8_isSign 59 σ122 (fun r123 σ124 => if r123 = 0 then (wX8_fail  σ124 (fun σ128 => if (σ128.1 0 31) = 0 then (wX8_next  σ128 (fun σ130 => Q r121 σ130)) else (Q r121 σ128))) else (if (σ124.1 0 31) = 0 then (wX8_next  σ124 (fun σ126 => Q r121 σ126)) else (Q r121 σ124))))) else (wX8_isSign 59 σ120 (fun r131 σ132 => if r131 = 0 then (wX8_fail  σ132 (fun σ136 => if (σ136.1 0 31) = 0 then (wX8_next  σ136 (fun σ138 => Q 0 σ138)) else (Q 0 σ136))) else (if (σ132.1 0 31) = 0 then (wX8_next  σ132 (fun σ134 => Q 0 σ134)) else (Q 0 σ132)))))) else (if (σ.1 0 31) = 0 then (wX8_either0  σ (fun r101 σ102 => wX8_isSign 59 σ102 (fun r103 σ104 => if r103 = 0 then (wX8_fail  σ104 (fun σ108 => if (σ108.1 0 31) = 0 then (wX8_next  σ108 (fun σ110 => Q r101 σ110)) else (Q r101 σ108))) else (if (σ104.1 0 31) = 0 then (wX8_next  σ104 (fun σ106 => Q r101 σ106)) else (Q r101 σ104))))) else (wX8_isSign 59 σ (fun r111 σ112 => if r111 = 0 then (wX8_fail  σ112 (fun σ116 => if (σ116.1 0 31) = 0 then (wX8_next  σ116 (fun σ118 => Q 0 σ118)) else (Q 0 σ116))) else (if (σ112.1 0 31) = 0 then (wX8_next  σ112 (fun σ114 => Q 0 σ114)) else (Q 0 σ112))))))
set_option maxRecDepth 20000 in
set_option maxHeartbeats 4000000 in
theorem kX8_part (hI : zInj tabM ad) (x1 : Int32)  (σ : zSt) (Q : Int32 → zSt → Prop) (h : wX8_part x1 σ Q) : zOkI l tabM D cA ad y 41 yX8_part cX8_part 3 (some .int) [.ref (ad 0), .int x1] σ Q := by
  refine zz_enter hI (by decide) (Nat.le_of_ble_eq_true rfl) (fun p e s m below meth c M => ?_)
  have M : zM p s m _ meth c cX8_part 3 RX8 (some .int) tabM D cA ad y := M
  refine zz_ls [(0, .ref (ad 0)), (1, .int x1)] rfl ?_
  unfold wX8_part at h
  refine zz_iload_n M 1 dX8_part_0 rfl rfl ?_
  refine zz_if_ne (y0 := 0) M 8 dX8_part_1 (by decide) (fun c => ?_) (fun c => ?_)
  · have h := zifn (c := x1 = 0) h c
    refine zz_aload_n M 0 dX8_part_8 rfl rfl ?_
    refine zz_getI M f_X8_159 tM_0 rfl dX8_part_9 ?_
    refine zz_if_ne (y0 := 0) M 19 dX8_part_12 (by decide) (fun c => ?_) (fun c => ?_)
    · have h := zifn (c := (σ.1 0 31) = 0) h c
      refine zz_aload_n M 0 dX8_part_19 rfl rfl ?_
      refine zz_getI M f_X8_159 tM_0 rfl dX8_part_20 ?_
      refine zz_if_eq (y0 := 0) M 30 dX8_part_23 (by decide) (fun c => ?_) (fun c => ?_)
      · have h := zif (c := (σ.1 0 31) = 0) h c
        refine zz_aload_n M 0 dX8_part_30 rfl rfl ?_
        refine zz_callVI (d' := 40) (As := []) (rest := []) M l_X8_321 tM_0 rfl rfl dX8_part_31 rfl rfl (by decide) (Nat.le_of_ble_eq_true rfl) (by have hI := M.2.2.2.2.2.2.2.2; exact kX8_either0 hI   _ _ h) (fun r101 σ102 h => ?_)
        refine zz_istore_n M [(2, .int r101), (0, .ref (ad 0)), (1, .int x1)] dX8_part_34 rfl (by decide) rfl ?_
        refine zz_aload_n M 1 dX8_part_35 rfl rfl ?_
        refine zz_bipush (v := 59) M dX8_part_36 (by decide) ?_
        refine zz_callVI (d' := 1) (As := [.int 59]) (rest := []) M l_X8_200 tM_0 rfl rfl dX8_part_38 rfl rfl (by decide) (Nat.le_of_ble_eq_true rfl) (by have hI := M.2.2.2.2.2.2.2.2; exact kX8_isSign hI _  _ _ h) (fun r103 σ104 h => ?_)
        refine zz_if_ne (y0 := 0) M 48 dX8_part_41 (by decide) (fun c => ?_) (fun c => ?_)
        · have h := zifn (c := r103 = 0) h c
          refine zz_aload_n M 1 dX8_part_48 rfl rfl ?_
          refine zz_getI M f_X8_159 tM_0 rfl dX8_part_49 ?_
          refine zz_if_ne (y0 := 0) M 59 dX8_part_52 (by decide) (fun c => ?_) (fun c => ?_)
          · have h := zifn (c := (σ104.1 0 31) = 0) h c
            refine zz_iload_n M 0 dX8_part_59 rfl rfl ?_
            exact zz_iret M dX8_part_60 h
          · have h := zif (c := (σ104.1 0 31) = 0) h c
            refine zz_aload_n M 1 dX8_part_55 rfl rfl ?_
            refine zz_callVV (d' := 2) (As := []) (rest := []) M l_X8_175 tM_0 rfl rfl dX8_part_56 rfl rfl (by decide) (Nat.le_of_ble_eq_true rfl) (by have hI := M.2.2.2.2.2.2.2.2; exact kX8_next hI   _ _ h) (fun σ106 h => ?_)
            refine zz_iload_n M 0 dX8_part_59 rfl rfl ?_
            exact zz_iret M dX8_part_60 h
        · have h := zif (c := r103 = 0) h c
          refine zz_aload_n M 1 dX8_part_44 rfl rfl ?_
          refine zz_callVV (d' := 1) (As := []) (rest := []) M l_X8_172 tM_0 rfl rfl dX8_part_45 rfl rfl (by decide) (Nat.le_of_ble_eq_true rfl) (by have hI := M.2.2.2.2.2.2.2.2; exact kX8_fail hI   _ _ h) (fun σ108 h => ?_)
          refine zz_aload_n M 1 dX8_part_48 rfl rfl ?_
          refine zz_getI M f_X8_159 tM_0 rfl dX8_part_49 ?_
          refine zz_if_ne (y0 := 0) M 59 dX8_part_52 (by decide) (fun c => ?_) (fun c => ?_)
          · have h := zifn (c := (σ108.1 0 31) = 0) h c
            refine zz_iload_n M 0 dX8_part_59 rfl rfl ?_
            exact zz_iret M dX8_part_60 h
          · have h := zif (c := (σ108.1 0 31) = 0) h c
            refine zz_aload_n M 1 dX8_part_55 rfl rfl ?_
            refine zz_callVV (d' := 2) (As := []) (rest := []) M l_X8_175 tM_0 rfl rfl dX8_part_56 rfl rfl (by decide) (Nat.le_of_ble_eq_true rfl) (by have hI := M.2.2.2.2.2.2.2.2; exact kX8_next hI   _ _ h) (fun σ110 h => ?_)
            refine zz_iload_n M 0 dX8_part_59 rfl rfl ?_
            exact zz_iret M dX8_part_60 h
      · have h := zifn (c := (σ.1 0 31) = 0) h c
        refine zz_iconst (v := 0) M dX8_part_26 (by decide) ?_
        refine zz_goto M 34 dX8_part_27 (by decide) ?_
        refine zz_istore_n M [(2, .int 0), (0, .ref (ad 0)), (1, .int x1)] dX8_part_34 rfl (by decide) rfl ?_
        refine zz_aload_n M 1 dX8_part_35 rfl rfl ?_
        refine zz_bipush (v := 59) M dX8_part_36 (by decide) ?_
        refine zz_callVI (d' := 1) (As := [.int 59]) (rest := []) M l_X8_200 tM_0 rfl rfl dX8_part_38 rfl rfl (by decide) (Nat.le_of_ble_eq_true rfl) (by have hI := M.2.2.2.2.2.2.2.2; exact kX8_isSign hI _  _ _ h) (fun r111 σ112 h => ?_)
        refine zz_if_ne (y0 := 0) M 48 dX8_part_41 (by decide) (fun c => ?_) (fun c => ?_)
        · have h := zifn (c := r111 = 0) h c
          refine zz_aload_n M 1 dX8_part_48 rfl rfl ?_
          refine zz_getI M f_X8_159 tM_0 rfl dX8_part_49 ?_
          refine zz_if_ne (y0 := 0) M 59 dX8_part_52 (by decide) (fun c => ?_) (fun c => ?_)
          · have h := zifn (c := (σ112.1 0 31) = 0) h c
            refine zz_iload_n M 0 dX8_part_59 rfl rfl ?_
            exact zz_iret M dX8_part_60 h
          · have h := zif (c := (σ112.1 0 31) = 0) h c
            refine zz_aload_n M 1 dX8_part_55 rfl rfl ?_
            refine zz_callVV (d' := 2) (As := []) (rest := []) M l_X8_175 tM_0 rfl rfl dX8_part_56 rfl rfl (by decide) (Nat.le_of_ble_eq_true rfl) (by have hI := M.2.2.2.2.2.2.2.2; exact kX8_next hI   _ _ h) (fun σ114 h => ?_)
            refine zz_iload_n M 0 dX8_part_59 rfl rfl ?_
            exact zz_iret M dX8_part_60 h
        · have h := zif (c := r111 = 0) h c
          refine zz_aload_n M 1 dX8_part_44 rfl rfl ?_
          refine zz_callVV (d' := 1) (As := []) (rest := []) M l_X8_172 tM_0 rfl rfl dX8_part_45 rfl rfl (by decide) (Nat.le_of_ble_eq_true rfl) (by have hI := M.2.2.2.2.2.2.2.2; exact kX8_fail hI   _ _ h) (fun σ116 h => ?_)
          refine zz_aload_n M 1 dX8_part_48 rfl rfl ?_
          refine zz_getI M f_X8_159 tM_0 rfl dX8_part_49 ?_
          refine zz_if_ne (y0 := 0) M 59 dX8_part_52 (by decide) (fun c => ?_) (fun c => ?_)
          · have h := zifn (c := (σ116.1 0 31) = 0) h c
            refine zz_iload_n M 0 dX8_part_59 rfl rfl ?_
            exact zz_iret M dX8_part_60 h
          · have h := zif (c := (σ116.1 0 31) = 0) h c
            refine zz_aload_n M 1 dX8_part_55 rfl rfl ?_
            refine zz_callVV (d' := 2) (As := []) (rest := []) M l_X8_175 tM_0 rfl rfl dX8_part_56 rfl rfl (by decide) (Nat.le_of_ble_eq_true rfl) (by have hI := M.2.2.2.2.2.2.2.2; exact kX8_next hI   _ _ h) (fun σ118 h => ?_)
            refine zz_iload_n M 0 dX8_part_59 rfl rfl ?_
            exact zz_iret M dX8_part_60 h
    · have h := zif (c := (σ.1 0 31) = 0) h c
      refine zz_aload_n M 0 dX8_part_15 rfl rfl ?_
      refine zz_callVV (d' := 2) (As := []) (rest := []) M l_X8_175 tM_0 rfl rfl dX8_part_16 rfl rfl (by decide) (Nat.le_of_ble_eq_true rfl) (by have hI := M.2.2.2.2.2.2.2.2; exact kX8_next hI   _ _ h) (fun σ120 h => ?_)
      refine zz_aload_n M 0 dX8_part_19 rfl rfl ?_
      refine zz_getI M f_X8_159 tM_0 rfl dX8_part_20 ?_
      refine zz_if_eq (y0 := 0) M 30 dX8_part_23 (by decide) (fun c => ?_) (fun c => ?_)
      · have h := zif (c := (σ120.1 0 31) = 0) h c
        refine zz_aload_n M 0 dX8_part_30 rfl rfl ?_
        refine zz_callVI (d' := 40) (As := []) (rest := []) M l_X8_321 tM_0 rfl rfl dX8_part_31 rfl rfl (by decide) (Nat.le_of_ble_eq_true rfl) (by have hI := M.2.2.2.2.2.2.2.2; exact kX8_either0 hI   _ _ h) (fun r121 σ122 h => ?_)
        refine zz_istore_n M [(2, .int r121), (0, .ref (ad 0)), (1, .int x1)] dX8_part_34 rfl (by decide) rfl ?_
        refine zz_aload_n M 1 dX8_part_35 rfl rfl ?_
        refine zz_bipush (v := 59) M dX8_part_36 (by decide) ?_
        refine zz_callVI (d' := 1) (As := [.int 59]) (rest := []) M l_X8_200 tM_0 rfl rfl dX8_part_38 rfl rfl (by decide) (Nat.le_of_ble_eq_true rfl) (by have hI := M.2.2.2.2.2.2.2.2; exact kX8_isSign hI _  _ _ h) (fun r123 σ124 h => ?_)
        refine zz_if_ne (y0 := 0) M 48 dX8_part_41 (by decide) (fun c => ?_) (fun c => ?_)
        · have h := zifn (c := r123 = 0) h c
          refine zz_aload_n M 1 dX8_part_48 rfl rfl ?_
          refine zz_getI M f_X8_159 tM_0 rfl dX8_part_49 ?_
          refine zz_if_ne (y0 := 0) M 59 dX8_part_52 (by decide) (fun c => ?_) (fun c => ?_)
          · have h := zifn (c := (σ124.1 0 31) = 0) h c
            refine zz_iload_n M 0 dX8_part_59 rfl rfl ?_
            exact zz_iret M dX8_part_60 h
          · have h := zif (c := (σ124.1 0 31) = 0) h c
            refine zz_aload_n M 1 dX8_part_55 rfl rfl ?_
            refine zz_callVV (d' := 2) (As := []) (rest := []) M l_X8_175 tM_0 rfl rfl dX8_part_56 rfl rfl (by decide) (Nat.le_of_ble_eq_true rfl) (by have hI := M.2.2.2.2.2.2.2.2; exact kX8_next hI   _ _ h) (fun σ126 h => ?_)
            refine zz_iload_n M 0 dX8_part_59 rfl rfl ?_
            exact zz_iret M dX8_part_60 h
        · have h := zif (c := r123 = 0) h c
          refine zz_aload_n M 1 dX8_part_44 rfl rfl ?_
          refine zz_callVV (d' := 1) (As := []) (rest := []) M l_X8_172 tM_0 rfl rfl dX8_part_45 rfl rfl (by decide) (Nat.le_of_ble_eq_true rfl) (by have hI := M.2.2.2.2.2.2.2.2; exact kX8_fail hI   _ _ h) (fun σ128 h => ?_)
          refine zz_aload_n M 1 dX8_part_48 rfl rfl ?_
          refine zz_getI M f_X8_159 tM_0 rfl dX8_part_49 ?_
          refine zz_if_ne (y0 := 0) M 59 dX8_part_52 (by decide) (fun c => ?_) (fun c => ?_)
          · have h := zifn (c := (σ128.1 0 31) = 0) h c
            refine zz_iload_n M 0 dX8_part_59 rfl rfl ?_
            exact zz_iret M dX8_part_60 h
          · have h := zif (c := (σ128.1 0 31) = 0) h c
            refine zz_aload_n M 1 dX8_part_55 rfl rfl ?_
            refine zz_callVV (d' := 2) (As := []) (rest := []) M l_X8_175 tM_0 rfl rfl dX8_part_56 rfl rfl (by decide) (Nat.le_of_ble_eq_true rfl) (by have hI := M.2.2.2.2.2.2.2.2; exact kX8_next hI   _ _ h) (fun σ130 h => ?_)
            refine zz_iload_n M 0 dX8_part_59 rfl rfl ?_
            exact zz_iret M dX8_part_60 h
      · have h := zifn (c := (σ120.1 0 31) = 0) h c
        refine zz_iconst (v := 0) M dX8_part_26 (by decide) ?_
        refine zz_goto M 34 dX8_part_27 (by decide) ?_
        refine zz_istore_n M [(2, .int 0), (0, .ref (ad 0)), (1, .int x1)] dX8_part_34 rfl (by decide) rfl ?_
        refine zz_aload_n M 1 dX8_part_35 rfl rfl ?_
        refine zz_bipush (v := 59) M dX8_part_36 (by decide) ?_
        refine zz_callVI (d' := 1) (As := [.int 59]) (rest := []) M l_X8_200 tM_0 rfl rfl dX8_part_38 rfl rfl (by decide) (Nat.le_of_ble_eq_true rfl) (by have hI := M.2.2.2.2.2.2.2.2; exact kX8_isSign hI _  _ _ h) (fun r131 σ132 h => ?_)
        refine zz_if_ne (y0 := 0) M 48 dX8_part_41 (by decide) (fun c => ?_) (fun c => ?_)
        · have h := zifn (c := r131 = 0) h c
          refine zz_aload_n M 1 dX8_part_48 rfl rfl ?_
          refine zz_getI M f_X8_159 tM_0 rfl dX8_part_49 ?_
          refine zz_if_ne (y0 := 0) M 59 dX8_part_52 (by decide) (fun c => ?_) (fun c => ?_)
          · have h := zifn (c := (σ132.1 0 31) = 0) h c
            refine zz_iload_n M 0 dX8_part_59 rfl rfl ?_
            exact zz_iret M dX8_part_60 h
          · have h := zif (c := (σ132.1 0 31) = 0) h c
            refine zz_aload_n M 1 dX8_part_55 rfl rfl ?_
            refine zz_callVV (d' := 2) (As := []) (rest := []) M l_X8_175 tM_0 rfl rfl dX8_part_56 rfl rfl (by decide) (Nat.le_of_ble_eq_true rfl) (by have hI := M.2.2.2.2.2.2.2.2; exact kX8_next hI   _ _ h) (fun σ134 h => ?_)
            refine zz_iload_n M 0 dX8_part_59 rfl rfl ?_
            exact zz_iret M dX8_part_60 h
        · have h := zif (c := r131 = 0) h c
          refine zz_aload_n M 1 dX8_part_44 rfl rfl ?_
          refine zz_callVV (d' := 1) (As := []) (rest := []) M l_X8_172 tM_0 rfl rfl dX8_part_45 rfl rfl (by decide) (Nat.le_of_ble_eq_true rfl) (by have hI := M.2.2.2.2.2.2.2.2; exact kX8_fail hI   _ _ h) (fun σ136 h => ?_)
          refine zz_aload_n M 1 dX8_part_48 rfl rfl ?_
          refine zz_getI M f_X8_159 tM_0 rfl dX8_part_49 ?_
          refine zz_if_ne (y0 := 0) M 59 dX8_part_52 (by decide) (fun c => ?_) (fun c => ?_)
          · have h := zifn (c := (σ136.1 0 31) = 0) h c
            refine zz_iload_n M 0 dX8_part_59 rfl rfl ?_
            exact zz_iret M dX8_part_60 h
          · have h := zif (c := (σ136.1 0 31) = 0) h c
            refine zz_aload_n M 1 dX8_part_55 rfl rfl ?_
            refine zz_callVV (d' := 2) (As := []) (rest := []) M l_X8_175 tM_0 rfl rfl dX8_part_56 rfl rfl (by decide) (Nat.le_of_ble_eq_true rfl) (by have hI := M.2.2.2.2.2.2.2.2; exact kX8_next hI   _ _ h) (fun σ138 h => ?_)
            refine zz_iload_n M 0 dX8_part_59 rfl rfl ?_
            exact zz_iret M dX8_part_60 h
  · have h := zif (c := x1 = 0) h c
    refine zz_aload_n M 0 dX8_part_4 rfl rfl ?_
    refine zz_callVV (d' := 1) (As := []) (rest := []) M l_X8_172 tM_0 rfl rfl dX8_part_5 rfl rfl (by decide) (Nat.le_of_ble_eq_true rfl) (by have hI := M.2.2.2.2.2.2.2.2; exact kX8_fail hI   _ _ h) (fun σ140 h => ?_)
    refine zz_aload_n M 0 dX8_part_8 rfl rfl ?_
    refine zz_getI M f_X8_159 tM_0 rfl dX8_part_9 ?_
    refine zz_if_ne (y0 := 0) M 19 dX8_part_12 (by decide) (fun c => ?_) (fun c => ?_)
    · have h := zifn (c := (σ140.1 0 31) = 0) h c
      refine zz_aload_n M 0 dX8_part_19 rfl rfl ?_
      refine zz_getI M f_X8_159 tM_0 rfl dX8_part_20 ?_
      refine zz_if_eq (y0 := 0) M 30 dX8_part_23 (by decide) (fun c => ?_) (fun c => ?_)
      · have h := zif (c := (σ140.1 0 31) = 0) h c
        refine zz_aload_n M 0 dX8_part_30 rfl rfl ?_
        refine zz_callVI (d' := 40) (As := []) (rest := []) M l_X8_321 tM_0 rfl rfl dX8_part_31 rfl rfl (by decide) (Nat.le_of_ble_eq_true rfl) (by have hI := M.2.2.2.2.2.2.2.2; exact kX8_either0 hI   _ _ h) (fun r141 σ142 h => ?_)
        refine zz_istore_n M [(2, .int r141), (0, .ref (ad 0)), (1, .int x1)] dX8_part_34 rfl (by decide) rfl ?_
        refine zz_aload_n M 1 dX8_part_35 rfl rfl ?_
        refine zz_bipush (v := 59) M dX8_part_36 (by decide) ?_
        refine zz_callVI (d' := 1) (As := [.int 59]) (rest := []) M l_X8_200 tM_0 rfl rfl dX8_part_38 rfl rfl (by decide) (Nat.le_of_ble_eq_true rfl) (by have hI := M.2.2.2.2.2.2.2.2; exact kX8_isSign hI _  _ _ h) (fun r143 σ144 h => ?_)
        refine zz_if_ne (y0 := 0) M 48 dX8_part_41 (by decide) (fun c => ?_) (fun c => ?_)
        · have h := zifn (c := r143 = 0) h c
          refine zz_aload_n M 1 dX8_part_48 rfl rfl ?_
          refine zz_getI M f_X8_159 tM_0 rfl dX8_part_49 ?_
          refine zz_if_ne (y0 := 0) M 59 dX8_part_52 (by decide) (fun c => ?_) (fun c => ?_)
          · have h := zifn (c := (σ144.1 0 31) = 0) h c
            refine zz_iload_n M 0 dX8_part_59 rfl rfl ?_
            exact zz_iret M dX8_part_60 h
          · have h := zif (c := (σ144.1 0 31) = 0) h c
            refine zz_aload_n M 1 dX8_part_55 rfl rfl ?_
            refine zz_callVV (d' := 2) (As := []) (rest := []) M l_X8_175 tM_0 rfl rfl dX8_part_56 rfl rfl (by decide) (Nat.le_of_ble_eq_true rfl) (by have hI := M.2.2.2.2.2.2.2.2; exact kX8_next hI   _ _ h) (fun σ146 h => ?_)
            refine zz_iload_n M 0 dX8_part_59 rfl rfl ?_
            exact zz_iret M dX8_part_60 h
        · have h := zif (c := r143 = 0) h c
          refine zz_aload_n M 1 dX8_part_44 rfl rfl ?_
          refine zz_callVV (d' := 1) (As := []) (rest := []) M l_X8_172 tM_0 rfl rfl dX8_part_45 rfl rfl (by decide) (Nat.le_of_ble_eq_true rfl) (by have hI := M.2.2.2.2.2.2.2.2; exact kX8_fail hI   _ _ h) (fun σ148 h => ?_)
          refine zz_aload_n M 1 dX8_part_48 rfl rfl ?_
          refine zz_getI M f_X8_159 tM_0 rfl dX8_part_49 ?_
          refine zz_if_ne (y0 := 0) M 59 dX8_part_52 (by decide) (fun c => ?_) (fun c => ?_)
          · have h := zifn (c := (σ148.1 0 31) = 0) h c
            refine zz_iload_n M 0 dX8_part_59 rfl rfl ?_
            exact zz_iret M dX8_part_60 h
          · have h := zif (c := (σ148.1 0 31) = 0) h c
            refine zz_aload_n M 1 dX8_part_55 rfl rfl ?_
            refine zz_callVV (d' := 2) (As := []) (rest := []) M l_X8_175 tM_0 rfl rfl dX8_part_56 rfl rfl (by decide) (Nat.le_of_ble_eq_true rfl) (by have hI := M.2.2.2.2.2.2.2.2; exact kX8_next hI   _ _ h) (fun σ150 h => ?_)
            refine zz_iload_n M 0 dX8_part_59 rfl rfl ?_
            exact zz_iret M dX8_part_60 h
      · have h := zifn (c := (σ140.1 0 31) = 0) h c
        refine zz_iconst (v := 0) M dX8_part_26 (by decide) ?_
        refine zz_goto M 34 dX8_part_27 (by decide) ?_
        refine zz_istore_n M [(2, .int 0), (0, .ref (ad 0)), (1, .int x1)] dX8_part_34 rfl (by decide) rfl ?_
        refine zz_aload_n M 1 dX8_part_35 rfl rfl ?_
        refine zz_bipush (v := 59) M dX8_part_36 (by decide) ?_
        refine zz_callVI (d' := 1) (As := [.int 59]) (rest := []) M l_X8_200 tM_0 rfl rfl dX8_part_38 rfl rfl (by decide) (Nat.le_of_ble_eq_true rfl) (by have hI := M.2.2.2.2.2.2.2.2; exact kX8_isSign hI _  _ _ h) (fun r151 σ152 h => ?_)
        refine zz_if_ne (y0 := 0) M 48 dX8_part_41 (by decide) (fun c => ?_) (fun c => ?_)
        · have h := zifn (c := r151 = 0) h c
          refine zz_aload_n M 1 dX8_part_48 rfl rfl ?_
          refine zz_getI M f_X8_159 tM_0 rfl dX8_part_49 ?_
          refine zz_if_ne (y0 := 0) M 59 dX8_part_52 (by decide) (fun c => ?_) (fun c => ?_)
          · have h := zifn (c := (σ152.1 0 31) = 0) h c
            refine zz_iload_n M 0 dX8_part_59 rfl rfl ?_
            exact zz_iret M dX8_part_60 h
          · have h := zif (c := (σ152.1 0 31) = 0) h c
            refine zz_aload_n M 1 dX8_part_55 rfl rfl ?_
            refine zz_callVV (d' := 2) (As := []) (rest := []) M l_X8_175 tM_0 rfl rfl dX8_part_56 rfl rfl (by decide) (Nat.le_of_ble_eq_true rfl) (by have hI := M.2.2.2.2.2.2.2.2; exact kX8_next hI   _ _ h) (fun σ154 h => ?_)
            refine zz_iload_n M 0 dX8_part_59 rfl rfl ?_
            exact zz_iret M dX8_part_60 h
        · have h := zif (c := r151 = 0) h c
          refine zz_aload_n M 1 dX8_part_44 rfl rfl ?_
          refine zz_callVV (d' := 1) (As := []) (rest := []) M l_X8_172 tM_0 rfl rfl dX8_part_45 rfl rfl (by decide) (Nat.le_of_ble_eq_true rfl) (by have hI := M.2.2.2.2.2.2.2.2; exact kX8_fail hI   _ _ h) (fun σ156 h => ?_)
          refine zz_aload_n M 1 dX8_part_48 rfl rfl ?_
          refine zz_getI M f_X8_159 tM_0 rfl dX8_part_49 ?_
          refine zz_if_ne (y0 := 0) M 59 dX8_part_52 (by decide) (fun c => ?_) (fun c => ?_)
          · have h := zifn (c := (σ156.1 0 31) = 0) h c
            refine zz_iload_n M 0 dX8_part_59 rfl rfl ?_
            exact zz_iret M dX8_part_60 h
          · have h := zif (c := (σ156.1 0 31) = 0) h c
            refine zz_aload_n M 1 dX8_part_55 rfl rfl ?_
            refine zz_callVV (d' := 2) (As := []) (rest := []) M l_X8_175 tM_0 rfl rfl dX8_part_56 rfl rfl (by decide) (Nat.le_of_ble_eq_true rfl) (by have hI := M.2.2.2.2.2.2.2.2; exact kX8_next hI   _ _ h) (fun σ158 h => ?_)
            refine zz_iload_n M 0 dX8_part_59 rfl rfl ?_
            exact zz_iret M dX8_part_60 h
    · have h := zif (c := (σ140.1 0 31) = 0) h c
      refine zz_aload_n M 0 dX8_part_15 rfl rfl ?_
      refine zz_callVV (d' := 2) (As := []) (rest := []) M l_X8_175 tM_0 rfl rfl dX8_part_16 rfl rfl (by decide) (Nat.le_of_ble_eq_true rfl) (by have hI := M.2.2.2.2.2.2.2.2; exact kX8_next hI   _ _ h) (fun σ160 h => ?_)
      refine zz_aload_n M 0 dX8_part_19 rfl rfl ?_
      refine zz_getI M f_X8_159 tM_0 rfl dX8_part_20 ?_
      refine zz_if_eq (y0 := 0) M 30 dX8_part_23 (by decide) (fun c => ?_) (fun c => ?_)
      · have h := zif (c := (σ160.1 0 31) = 0) h c
        refine zz_aload_n M 0 dX8_part_30 rfl rfl ?_
        refine zz_callVI (d' := 40) (As := []) (rest := []) M l_X8_321 tM_0 rfl rfl dX8_part_31 rfl rfl (by decide) (Nat.le_of_ble_eq_true rfl) (by have hI := M.2.2.2.2.2.2.2.2; exact kX8_either0 hI   _ _ h) (fun r161 σ162 h => ?_)
        refine zz_istore_n M [(2, .int r161), (0, .ref (ad 0)), (1, .int x1)] dX8_part_34 rfl (by decide) rfl ?_
        refine zz_aload_n M 1 dX8_part_35 rfl rfl ?_
        refine zz_bipush (v := 59) M dX8_part_36 (by decide) ?_
        refine zz_callVI (d' := 1) (As := [.int 59]) (rest := []) M l_X8_200 tM_0 rfl rfl dX8_part_38 rfl rfl (by decide) (Nat.le_of_ble_eq_true rfl) (by have hI := M.2.2.2.2.2.2.2.2; exact kX8_isSign hI _  _ _ h) (fun r163 σ164 h => ?_)
        refine zz_if_ne (y0 := 0) M 48 dX8_part_41 (by decide) (fun c => ?_) (fun c => ?_)
        · have h := zifn (c := r163 = 0) h c
          refine zz_aload_n M 1 dX8_part_48 rfl rfl ?_
          refine zz_getI M f_X8_159 tM_0 rfl dX8_part_49 ?_
          refine zz_if_ne (y0 := 0) M 59 dX8_part_52 (by decide) (fun c => ?_) (fun c => ?_)
          · have h := zifn (c := (σ164.1 0 31) = 0) h c
            refine zz_iload_n M 0 dX8_part_59 rfl rfl ?_
            exact zz_iret M dX8_part_60 h
          · have h := zif (c := (σ164.1 0 31) = 0) h c
            refine zz_aload_n M 1 dX8_part_55 rfl rfl ?_
            refine zz_callVV (d' := 2) (As := []) (rest := []) M l_X8_175 tM_0 rfl rfl dX8_part_56 rfl rfl (by decide) (Nat.le_of_ble_eq_true rfl) (by have hI := M.2.2.2.2.2.2.2.2; exact kX8_next hI   _ _ h) (fun σ166 h => ?_)
            refine zz_iload_n M 0 dX8_part_59 rfl rfl ?_
            exact zz_iret M dX8_part_60 h
        · have h := zif (c := r163 = 0) h c
          refine zz_aload_n M 1 dX8_part_44 rfl rfl ?_
          refine zz_callVV (d' := 1) (As := []) (rest := []) M l_X8_172 tM_0 rfl rfl dX8_part_45 rfl rfl (by decide) (Nat.le_of_ble_eq_true rfl) (by have hI := M.2.2.2.2.2.2.2.2; exact kX8_fail hI   _ _ h) (fun σ168 h => ?_)
          refine zz_aload_n M 1 dX8_part_48 rfl rfl ?_
          refine zz_getI M f_X8_159 tM_0 rfl dX8_part_49 ?_
          refine zz_if_ne (y0 := 0) M 59 dX8_part_52 (by decide) (fun c => ?_) (fun c => ?_)
          · have h := zifn (c := (σ168.1 0 31) = 0) h c
            refine zz_iload_n M 0 dX8_part_59 rfl rfl ?_
            exact zz_iret M dX8_part_60 h
          · have h := zif (c := (σ168.1 0 31) = 0) h c
            refine zz_aload_n M 1 dX8_part_55 rfl rfl ?_
            refine zz_callVV (d' := 2) (As := []) (rest := []) M l_X8_175 tM_0 rfl rfl dX8_part_56 rfl rfl (by decide) (Nat.le_of_ble_eq_true rfl) (by have hI := M.2.2.2.2.2.2.2.2; exact kX8_next hI   _ _ h) (fun σ170 h => ?_)
            refine zz_iload_n M 0 dX8_part_59 rfl rfl ?_
            exact zz_iret M dX8_part_60 h
      · have h := zifn (c := (σ160.1 0 31) = 0) h c
        refine zz_iconst (v := 0) M dX8_part_26 (by decide) ?_
        refine zz_goto M 34 dX8_part_27 (by decide) ?_
        refine zz_istore_n M [(2, .int 0), (0, .ref (ad 0)), (1, .int x1)] dX8_part_34 rfl (by decide) rfl ?_
        refine zz_aload_n M 1 dX8_part_35 rfl rfl ?_
        refine zz_bipush (v := 59) M dX8_part_36 (by decide) ?_
        refine zz_callVI (d' := 1) (As := [.int 59]) (rest := []) M l_X8_200 tM_0 rfl rfl dX8_part_38 rfl rfl (by decide) (Nat.le_of_ble_eq_true rfl) (by have hI := M.2.2.2.2.2.2.2.2; exact kX8_isSign hI _  _ _ h) (fun r171 σ172 h => ?_)
        refine zz_if_ne (y0 := 0) M 48 dX8_part_41 (by decide) (fun c => ?_) (fun c => ?_)
        · have h := zifn (c := r171 = 0) h c
          refine zz_aload_n M 1 dX8_part_48 rfl rfl ?_
          refine zz_getI M f_X8_159 tM_0 rfl dX8_part_49 ?_
          refine zz_if_ne (y0 := 0) M 59 dX8_part_52 (by decide) (fun c => ?_) (fun c => ?_)
          · have h := zifn (c := (σ172.1 0 31) = 0) h c
            refine zz_iload_n M 0 dX8_part_59 rfl rfl ?_
            exact zz_iret M dX8_part_60 h
          · have h := zif (c := (σ172.1 0 31) = 0) h c
            refine zz_aload_n M 1 dX8_part_55 rfl rfl ?_
            refine zz_callVV (d' := 2) (As := []) (rest := []) M l_X8_175 tM_0 rfl rfl dX8_part_56 rfl rfl (by decide) (Nat.le_of_ble_eq_true rfl) (by have hI := M.2.2.2.2.2.2.2.2; exact kX8_next hI   _ _ h) (fun σ174 h => ?_)
            refine zz_iload_n M 0 dX8_part_59 rfl rfl ?_
            exact zz_iret M dX8_part_60 h
        · have h := zif (c := r171 = 0) h c
          refine zz_aload_n M 1 dX8_part_44 rfl rfl ?_
          refine zz_callVV (d' := 1) (As := []) (rest := []) M l_X8_172 tM_0 rfl rfl dX8_part_45 rfl rfl (by decide) (Nat.le_of_ble_eq_true rfl) (by have hI := M.2.2.2.2.2.2.2.2; exact kX8_fail hI   _ _ h) (fun σ176 h => ?_)
          refine zz_aload_n M 1 dX8_part_48 rfl rfl ?_
          refine zz_getI M f_X8_159 tM_0 rfl dX8_part_49 ?_
          refine zz_if_ne (y0 := 0) M 59 dX8_part_52 (by decide) (fun c => ?_) (fun c => ?_)
          · have h := zifn (c := (σ176.1 0 31) = 0) h c
            refine zz_iload_n M 0 dX8_part_59 rfl rfl ?_
            exact zz_iret M dX8_part_60 h
          · have h := zif (c := (σ176.1 0 31) = 0) h c
            refine zz_aload_n M 1 dX8_part_55 rfl rfl ?_
            refine zz_callVV (d' := 2) (As := []) (rest := []) M l_X8_175 tM_0 rfl rfl dX8_part_56 rfl rfl (by decide) (Nat.le_of_ble_eq_true rfl) (by have hI := M.2.2.2.2.2.2.2.2; exact kX8_next hI   _ _ h) (fun σ178 h => ?_)
            refine zz_iload_n M 0 dX8_part_59 rfl rfl ?_
            exact zz_iret M dX8_part_60 h
end
