section
variable {p : Program} {l : Launch} {e : Env} {s : State} {m : MethodId} {args : Array Value} {below : List Frame} {meth : Method} {c : Code} {D : va_G} {cA : Nat → ClassId} {ad : Nat → Nat} {y : zX}
def wX7_set (x1 : Int32) (x2 : Int32) (x3 : Int32) (x4 : Int32) (σ : zSt) (Q : Int32 → zSt → Prop) : Prop := wX7_isOne x1 x2 σ (fun r1 σ2 => if r1 = 0 then (Q (-2) σ2) else (∀ x3 : Int32, x3 = (x1 * 4) + x2 → (if x3 = 0 then (wX7_isBridge x4 σ2 (fun r16 σ17 => if r16 = 0 then (if x3 = 1 then (wX7_isMinute x4 σ17 (fun r22 σ23 => if r22 = 0 then (if x3 = 2 then (wX7_isDigit x4 σ23 (fun r24 σ25 => if r24 = 0 then (Q (-2) σ25) else (wX7_changed_6 x3 x4 σ25 (fun r26 σ27 => Q r26 σ27)))) else (Q (-2) σ23)) else (wX7_changed_5 x3 x4 σ23 (fun r28 σ29 => Q r28 σ29)))) else (if x3 = 2 then (wX7_isDigit x4 σ17 (fun r18 σ19 => if r18 = 0 then (Q (-2) σ19) else (wX7_changed_6 x3 x4 σ19 (fun r20 σ21 => Q r20 σ21)))) else (Q (-2) σ17))) else (wX7_changed_4 x3 x4 σ17 (fun r30 σ31 => Q r30 σ31)))) else (if x3 = 1 then (wX7_isMinute x4 σ2 (fun r8 σ9 => if r8 = 0 then (if x3 = 2 then (wX7_isDigit x4 σ9 (fun r10 σ11 => if r10 = 0 then (Q (-2) σ11) else (wX7_changed_6 x3 x4 σ11 (fun r12 σ13 => Q r12 σ13)))) else (Q (-2) σ9)) else (wX7_changed_5 x3 x4 σ9 (fun r14 σ15 => Q r14 σ15)))) else (if x3 = 2 then (wX7_isDigit x4 σ2 (fun r4 σ5 => if r4 = 0 then (Q (-2) σ5) else (wX7_changed_6 x3 x4 σ5 (fun r6 σ7 => Q r6 σ7)))) else (Q (-2) σ2))))))
set_option maxRecDepth 20000 in
set_option maxHeartbeats 4000000 in
theorem kX7_set (hI : zInj tabX ad) (x1 : Int32) (x2 : Int32) (x3 : Int32) (x4 : Int32)  (σ : zSt) (Q : Int32 → zSt → Prop) (h : wX7_set x1 x2 x3 x4 σ Q) : zOkI l tabX D cA ad y 5 yX7_set cX7_set 6 (some .int) [.ref (ad 0), .int x1, .int x2, .int x3, .int x4] σ Q := by
  refine zz_enter hI (by decide) (Nat.le_of_ble_eq_true rfl) (fun p e s m below meth c M => ?_)
  have M : zM p s m _ meth c cX7_set 6 RX7 (some .int) tabX D cA ad y := M
  refine zz_ls [(0, .ref (ad 0)), (1, .int x1), (2, .int x2), (3, .int x3), (4, .int x4)] rfl ?_
  unfold wX7_set at h
  refine zz_aload_n M 0 dX7_set_0 rfl rfl ?_
  refine zz_iload_n M 1 dX7_set_1 rfl rfl ?_
  refine zz_iload_n M 2 dX7_set_2 rfl rfl ?_
  refine zz_callVI (d' := 2) (As := [.int x1, .int x2]) (rest := []) M l_X7_128 tX_0 rfl rfl dX7_set_3 rfl rfl (by decide) (Nat.le_of_ble_eq_true rfl) (by have hI := M.2.2.2.2.2.2.2.2; exact kX7_isOne hI _ _  _ _ h) (fun r1 σ2 h => ?_)
  refine zz_if_ne (y0 := 0) M 12 dX7_set_6 (by decide) (fun c => ?_) (fun c => ?_)
  · have h := zifn h c
    refine zz_iload_n M 1 dX7_set_12 rfl rfl ?_
    refine zz_iconst (v := 4) M dX7_set_13 (by decide) ?_
    refine zz_imul M dX7_set_14 ?_
    refine zz_iload_n M 2 dX7_set_15 rfl rfl ?_
    refine zz_iadd M dX7_set_16 ?_
    refine zz_topi (fun x3 ex3 => ?_)
    have h := h x3 ex3
    refine zz_istore M [(5, .int x3), (0, .ref (ad 0)), (1, .int x1), (2, .int x2), (3, .int x3), (4, .int x4)] dX7_set_17 (by decide) rfl ?_
    refine zz_iload_n M 4 dX7_set_19 rfl rfl ?_
    refine zz_if_ne (y0 := 0) M 47 dX7_set_20 (by decide) (fun c => ?_) (fun c => ?_)
    · have h := zifn h c
      refine zz_iload_n M 4 dX7_set_47 rfl rfl ?_
      refine zz_iconst (v := 1) M dX7_set_48 (by decide) ?_
      refine zz_icmp_ne M 76 dX7_set_49 (by decide) (fun c => ?_) (fun c => ?_)
      · have h := zifn h c
        refine zz_iload_n M 4 dX7_set_76 rfl rfl ?_
        refine zz_iconst (v := 2) M dX7_set_77 (by decide) ?_
        refine zz_icmp_ne M 105 dX7_set_78 (by decide) (fun c => ?_) (fun c => ?_)
        · have h := zifn h c
          refine zz_bipush (v := (-2)) M dX7_set_105 (by decide) ?_
          exact zz_iret M dX7_set_107 h
        · have h := zif h c
          refine zz_iload M 5 dX7_set_81 rfl ?_
          refine zz_callSI (d' := 1) (As := [.int x4]) (rest := []) M l_X7_110 dX7_set_83 rfl rfl (by decide) (Nat.le_of_ble_eq_true rfl) (by have hI := M.2.2.2.2.2.2.2.2; exact kX7_isDigit hI _  _ _ h) (fun r4 σ5 h => ?_)
          refine zz_if_eq (y0 := 0) M 105 dX7_set_86 (by decide) (fun c => ?_) (fun c => ?_)
          · have h := zif h c
            refine zz_bipush (v := (-2)) M dX7_set_105 (by decide) ?_
            exact zz_iret M dX7_set_107 h
          · have h := zifn h c
            refine zz_aload_n M 1 dX7_set_89 rfl rfl ?_
            refine zz_aload_n M 1 dX7_set_90 rfl rfl ?_
            refine zz_getR M f_X7_12 tX_0 rfl dX7_set_91 ?_
            refine zz_getR M f_X7_122 tX_1 rfl dX7_set_94 ?_
            refine zz_iload M 0 dX7_set_97 rfl ?_
            refine zz_iload M 5 dX7_set_99 rfl ?_
            refine zz_callVI (d' := 4) (As := [.ref (ad 6), .int x3, .int x4]) (rest := []) M l_X7_132 tX_0 rfl rfl dX7_set_101 rfl rfl (by decide) (Nat.le_of_ble_eq_true rfl) (by have hI := M.2.2.2.2.2.2.2.2; exact kX7_changed_6 hI _ _  _ _ h) (fun r6 σ7 h => ?_)
            exact zz_iret M dX7_set_104 h
      · have h := zif h c
        refine zz_iload M 5 dX7_set_52 rfl ?_
        refine zz_callSI (d' := 1) (As := [.int x4]) (rest := []) M l_X7_107 dX7_set_54 rfl rfl (by decide) (Nat.le_of_ble_eq_true rfl) (by have hI := M.2.2.2.2.2.2.2.2; exact kX7_isMinute hI _  _ _ h) (fun r8 σ9 h => ?_)
        refine zz_if_eq (y0 := 0) M 76 dX7_set_57 (by decide) (fun c => ?_) (fun c => ?_)
        · have h := zif h c
          refine zz_iload_n M 4 dX7_set_76 rfl rfl ?_
          refine zz_iconst (v := 2) M dX7_set_77 (by decide) ?_
          refine zz_icmp_ne M 105 dX7_set_78 (by decide) (fun c => ?_) (fun c => ?_)
          · have h := zifn h c
            refine zz_bipush (v := (-2)) M dX7_set_105 (by decide) ?_
            exact zz_iret M dX7_set_107 h
          · have h := zif h c
            refine zz_iload M 5 dX7_set_81 rfl ?_
            refine zz_callSI (d' := 1) (As := [.int x4]) (rest := []) M l_X7_110 dX7_set_83 rfl rfl (by decide) (Nat.le_of_ble_eq_true rfl) (by have hI := M.2.2.2.2.2.2.2.2; exact kX7_isDigit hI _  _ _ h) (fun r10 σ11 h => ?_)
            refine zz_if_eq (y0 := 0) M 105 dX7_set_86 (by decide) (fun c => ?_) (fun c => ?_)
            · have h := zif h c
              refine zz_bipush (v := (-2)) M dX7_set_105 (by decide) ?_
              exact zz_iret M dX7_set_107 h
            · have h := zifn h c
              refine zz_aload_n M 1 dX7_set_89 rfl rfl ?_
              refine zz_aload_n M 1 dX7_set_90 rfl rfl ?_
              refine zz_getR M f_X7_12 tX_0 rfl dX7_set_91 ?_
              refine zz_getR M f_X7_122 tX_1 rfl dX7_set_94 ?_
              refine zz_iload M 0 dX7_set_97 rfl ?_
              refine zz_iload M 5 dX7_set_99 rfl ?_
              refine zz_callVI (d' := 4) (As := [.ref (ad 6), .int x3, .int x4]) (rest := []) M l_X7_132 tX_0 rfl rfl dX7_set_101 rfl rfl (by decide) (Nat.le_of_ble_eq_true rfl) (by have hI := M.2.2.2.2.2.2.2.2; exact kX7_changed_6 hI _ _  _ _ h) (fun r12 σ13 h => ?_)
              exact zz_iret M dX7_set_104 h
        · have h := zifn h c
          refine zz_aload_n M 1 dX7_set_60 rfl rfl ?_
          refine zz_aload_n M 1 dX7_set_61 rfl rfl ?_
          refine zz_getR M f_X7_12 tX_0 rfl dX7_set_62 ?_
          refine zz_getR M f_X7_119 tX_1 rfl dX7_set_65 ?_
          refine zz_iload M 0 dX7_set_68 rfl ?_
          refine zz_iload M 5 dX7_set_70 rfl ?_
          refine zz_callVI (d' := 4) (As := [.ref (ad 5), .int x3, .int x4]) (rest := []) M l_X7_132 tX_0 rfl rfl dX7_set_72 rfl rfl (by decide) (Nat.le_of_ble_eq_true rfl) (by have hI := M.2.2.2.2.2.2.2.2; exact kX7_changed_5 hI _ _  _ _ h) (fun r14 σ15 h => ?_)
          exact zz_iret M dX7_set_75 h
    · have h := zif h c
      refine zz_iload M 5 dX7_set_23 rfl ?_
      refine zz_callSI (d' := 1) (As := [.int x4]) (rest := []) M l_X7_104 dX7_set_25 rfl rfl (by decide) (Nat.le_of_ble_eq_true rfl) (by have hI := M.2.2.2.2.2.2.2.2; exact kX7_isBridge hI _  _ _ h) (fun r16 σ17 h => ?_)
      refine zz_if_eq (y0 := 0) M 47 dX7_set_28 (by decide) (fun c => ?_) (fun c => ?_)
      · have h := zif h c
        refine zz_iload_n M 4 dX7_set_47 rfl rfl ?_
        refine zz_iconst (v := 1) M dX7_set_48 (by decide) ?_
        refine zz_icmp_ne M 76 dX7_set_49 (by decide) (fun c => ?_) (fun c => ?_)
        · have h := zifn h c
          refine zz_iload_n M 4 dX7_set_76 rfl rfl ?_
          refine zz_iconst (v := 2) M dX7_set_77 (by decide) ?_
          refine zz_icmp_ne M 105 dX7_set_78 (by decide) (fun c => ?_) (fun c => ?_)
          · have h := zifn h c
            refine zz_bipush (v := (-2)) M dX7_set_105 (by decide) ?_
            exact zz_iret M dX7_set_107 h
          · have h := zif h c
            refine zz_iload M 5 dX7_set_81 rfl ?_
            refine zz_callSI (d' := 1) (As := [.int x4]) (rest := []) M l_X7_110 dX7_set_83 rfl rfl (by decide) (Nat.le_of_ble_eq_true rfl) (by have hI := M.2.2.2.2.2.2.2.2; exact kX7_isDigit hI _  _ _ h) (fun r18 σ19 h => ?_)
            refine zz_if_eq (y0 := 0) M 105 dX7_set_86 (by decide) (fun c => ?_) (fun c => ?_)
            · have h := zif h c
              refine zz_bipush (v := (-2)) M dX7_set_105 (by decide) ?_
              exact zz_iret M dX7_set_107 h
            · have h := zifn h c
              refine zz_aload_n M 1 dX7_set_89 rfl rfl ?_
              refine zz_aload_n M 1 dX7_set_90 rfl rfl ?_
              refine zz_getR M f_X7_12 tX_0 rfl dX7_set_91 ?_
              refine zz_getR M f_X7_122 tX_1 rfl dX7_set_94 ?_
              refine zz_iload M 0 dX7_set_97 rfl ?_
              refine zz_iload M 5 dX7_set_99 rfl ?_
              refine zz_callVI (d' := 4) (As := [.ref (ad 6), .int x3, .int x4]) (rest := []) M l_X7_132 tX_0 rfl rfl dX7_set_101 rfl rfl (by decide) (Nat.le_of_ble_eq_true rfl) (by have hI := M.2.2.2.2.2.2.2.2; exact kX7_changed_6 hI _ _  _ _ h) (fun r20 σ21 h => ?_)
              exact zz_iret M dX7_set_104 h
        · have h := zif h c
          refine zz_iload M 5 dX7_set_52 rfl ?_
          refine zz_callSI (d' := 1) (As := [.int x4]) (rest := []) M l_X7_107 dX7_set_54 rfl rfl (by decide) (Nat.le_of_ble_eq_true rfl) (by have hI := M.2.2.2.2.2.2.2.2; exact kX7_isMinute hI _  _ _ h) (fun r22 σ23 h => ?_)
          refine zz_if_eq (y0 := 0) M 76 dX7_set_57 (by decide) (fun c => ?_) (fun c => ?_)
          · have h := zif h c
            refine zz_iload_n M 4 dX7_set_76 rfl rfl ?_
            refine zz_iconst (v := 2) M dX7_set_77 (by decide) ?_
            refine zz_icmp_ne M 105 dX7_set_78 (by decide) (fun c => ?_) (fun c => ?_)
            · have h := zifn h c
              refine zz_bipush (v := (-2)) M dX7_set_105 (by decide) ?_
              exact zz_iret M dX7_set_107 h
            · have h := zif h c
              refine zz_iload M 5 dX7_set_81 rfl ?_
              refine zz_callSI (d' := 1) (As := [.int x4]) (rest := []) M l_X7_110 dX7_set_83 rfl rfl (by decide) (Nat.le_of_ble_eq_true rfl) (by have hI := M.2.2.2.2.2.2.2.2; exact kX7_isDigit hI _  _ _ h) (fun r24 σ25 h => ?_)
              refine zz_if_eq (y0 := 0) M 105 dX7_set_86 (by decide) (fun c => ?_) (fun c => ?_)
              · have h := zif h c
                refine zz_bipush (v := (-2)) M dX7_set_105 (by decide) ?_
                exact zz_iret M dX7_set_107 h
              · have h := zifn h c
                refine zz_aload_n M 1 dX7_set_89 rfl rfl ?_
                refine zz_aload_n M 1 dX7_set_90 rfl rfl ?_
                refine zz_getR M f_X7_12 tX_0 rfl dX7_set_91 ?_
                refine zz_getR M f_X7_122 tX_1 rfl dX7_set_94 ?_
                refine zz_iload M 0 dX7_set_97 rfl ?_
                refine zz_iload M 5 dX7_set_99 rfl ?_
                refine zz_callVI (d' := 4) (As := [.ref (ad 6), .int x3, .int x4]) (rest := []) M l_X7_132 tX_0 rfl rfl dX7_set_101 rfl rfl (by decide) (Nat.le_of_ble_eq_true rfl) (by have hI := M.2.2.2.2.2.2.2.2; exact kX7_changed_6 hI _ _  _ _ h) (fun r26 σ27 h => ?_)
                exact zz_iret M dX7_set_104 h
          · have h := zifn h c
            refine zz_aload_n M 1 dX7_set_60 rfl rfl ?_
            refine zz_aload_n M 1 dX7_set_61 rfl rfl ?_
            refine zz_getR M f_X7_12 tX_0 rfl dX7_set_62 ?_
            refine zz_getR M f_X7_119 tX_1 rfl dX7_set_65 ?_
            refine zz_iload M 0 dX7_set_68 rfl ?_
            refine zz_iload M 5 dX7_set_70 rfl ?_
            refine zz_callVI (d' := 4) (As := [.ref (ad 5), .int x3, .int x4]) (rest := []) M l_X7_132 tX_0 rfl rfl dX7_set_72 rfl rfl (by decide) (Nat.le_of_ble_eq_true rfl) (by have hI := M.2.2.2.2.2.2.2.2; exact kX7_changed_5 hI _ _  _ _ h) (fun r28 σ29 h => ?_)
            exact zz_iret M dX7_set_75 h
      · have h := zifn h c
        refine zz_aload_n M 1 dX7_set_31 rfl rfl ?_
        refine zz_aload_n M 1 dX7_set_32 rfl rfl ?_
        refine zz_getR M f_X7_12 tX_0 rfl dX7_set_33 ?_
        refine zz_getR M f_X7_116 tX_1 rfl dX7_set_36 ?_
        refine zz_iload M 0 dX7_set_39 rfl ?_
        refine zz_iload M 5 dX7_set_41 rfl ?_
        refine zz_callVI (d' := 4) (As := [.ref (ad 4), .int x3, .int x4]) (rest := []) M l_X7_132 tX_0 rfl rfl dX7_set_43 rfl rfl (by decide) (Nat.le_of_ble_eq_true rfl) (by have hI := M.2.2.2.2.2.2.2.2; exact kX7_changed_4 hI _ _  _ _ h) (fun r30 σ31 h => ?_)
        exact zz_iret M dX7_set_46 h
  · have h := zif h c
    refine zz_bipush (v := (-2)) M dX7_set_9 (by decide) ?_
    exact zz_iret M dX7_set_11 h
def wX7_isMaster (x1 : Int32) (σ : zSt) (Q : Int32 → zSt → Prop) : Prop := if x1 < 0 then (Q 0 σ) else (if (σ.1 1 7) ≤ x1 then (Q 0 σ) else (Q 1 σ))
set_option maxRecDepth 20000 in
set_option maxHeartbeats 4000000 in
theorem kX7_isMaster (hI : zInj tabX ad) (x1 : Int32)  (σ : zSt) (Q : Int32 → zSt → Prop) (h : wX7_isMaster x1 σ Q) : zOkI l tabX D cA ad y 1 yX7_isMaster cX7_isMaster 2 (some .boolean) [.ref (ad 0), .int x1] σ Q := by
  refine zz_enter hI (by decide) (Nat.le_of_ble_eq_true rfl) (fun p e s m below meth c M => ?_)
  have M : zM p s m _ meth c cX7_isMaster 2 RX7 (some .boolean) tabX D cA ad y := M
  refine zz_ls [(0, .ref (ad 0)), (1, .int x1)] rfl ?_
  unfold wX7_isMaster at h
  refine zz_iload_n M 1 dX7_isMaster_0 rfl rfl ?_
  refine zz_if_lt (y0 := 0) M 19 dX7_isMaster_1 (by decide) (fun c => ?_) (fun c => ?_)
  · have h := zif h c
    refine zz_iconst (v := 0) M dX7_isMaster_19 (by decide) ?_
    exact zz_zret M dX7_isMaster_20 (Or.inl rfl) h
  · have h := zifn h c
    refine zz_iload_n M 1 dX7_isMaster_4 rfl rfl ?_
    refine zz_aload_n M 0 dX7_isMaster_5 rfl rfl ?_
    refine zz_getR M f_X7_12 tX_0 rfl dX7_isMaster_6 ?_
    refine zz_getI M f_X7_162 tX_1 rfl dX7_isMaster_9 ?_
    refine zz_icmp_ge M 19 dX7_isMaster_12 (by decide) (fun c => ?_) (fun c => ?_)
    · have h := zif h c
      refine zz_iconst (v := 0) M dX7_isMaster_19 (by decide) ?_
      exact zz_zret M dX7_isMaster_20 (Or.inl rfl) h
    · have h := zifn h c
      refine zz_iconst (v := 1) M dX7_isMaster_15 (by decide) ?_
      refine zz_goto M 20 dX7_isMaster_16 (by decide) ?_
      exact zz_zret M dX7_isMaster_20 (Or.inr rfl) h
def wX7_law (x1 : Int32) (x2 : Int32) (x3 : Int32) (σ : zSt) (Q : Int32 → zSt → Prop) : Prop := if x1 = 0 then (if x3 < 1 then (if x1 = 1 then (if x3 < 1 then (if x1 = 2 then (wX7_isMaster x2 σ (fun r27 σ28 => if r27 = 0 then (Q (-2) σ28) else (wX7_isDigit x3 σ28 (fun r29 σ30 => if r29 = 0 then (Q (-2) σ30) else (vp_in x2 4 ∧ (∀ x31 : Int32, x31 = σ30.1 8 x2.toNatClampNeg → (vp_in x2 4 ∧ (∀ σ32 : zSt, σ32 = zput σ30 8 x2.toNatClampNeg x3 → (Q x31 σ32))))))))) else (Q (-2) σ)) else (if 9 < x3 then (if x1 = 2 then (wX7_isMaster x2 σ (fun r33 σ34 => if r33 = 0 then (Q (-2) σ34) else (wX7_isDigit x3 σ34 (fun r35 σ36 => if r35 = 0 then (Q (-2) σ36) else (vp_in x2 4 ∧ (∀ x37 : Int32, x37 = σ36.1 8 x2.toNatClampNeg → (vp_in x2 4 ∧ (∀ σ38 : zSt, σ38 = zput σ36 8 x2.toNatClampNeg x3 → (Q x37 σ38))))))))) else (Q (-2) σ)) else (∀ x39 : Int32, x39 = σ.1 1 9 → (∀ σ40 : zSt, σ40 = zput σ 1 9 x3 → (Q x39 σ40))))) else (if x1 = 2 then (wX7_isMaster x2 σ (fun r21 σ22 => if r21 = 0 then (Q (-2) σ22) else (wX7_isDigit x3 σ22 (fun r23 σ24 => if r23 = 0 then (Q (-2) σ24) else (vp_in x2 4 ∧ (∀ x25 : Int32, x25 = σ24.1 8 x2.toNatClampNeg → (vp_in x2 4 ∧ (∀ σ26 : zSt, σ26 = zput σ24 8 x2.toNatClampNeg x3 → (Q x25 σ26))))))))) else (Q (-2) σ))) else (if 4 < x3 then (if x1 = 1 then (if x3 < 1 then (if x1 = 2 then (wX7_isMaster x2 σ (fun r47 σ48 => if r47 = 0 then (Q (-2) σ48) else (wX7_isDigit x3 σ48 (fun r49 σ50 => if r49 = 0 then (Q (-2) σ50) else (vp_in x2 4 ∧ (∀ x51 : Int32, x51 = σ50.1 8 x2.toNatClampNeg → (vp_in x2 4 ∧ (∀ σ52 : zSt, σ52 = zput σ50 8 x2.toNatClampNeg x3 → (Q x51 σ52))))))))) else (Q (-2) σ)) else (if 9 < x3 then (if x1 = 2 then (wX7_isMaster x2 σ (fun r53 σ54 => if r53 = 0 then (Q (-2) σ54) else (wX7_isDigit x3 σ54 (fun r55 σ56 => if r55 = 0 then (Q (-2) σ56) else (vp_in x2 4 ∧ (∀ x57 : Int32, x57 = σ56.1 8 x2.toNatClampNeg → (vp_in x2 4 ∧ (∀ σ58 : zSt, σ58 = zput σ56 8 x2.toNatClampNeg x3 → (Q x57 σ58))))))))) else (Q (-2) σ)) else (∀ x59 : Int32, x59 = σ.1 1 9 → (∀ σ60 : zSt, σ60 = zput σ 1 9 x3 → (Q x59 σ60))))) else (if x1 = 2 then (wX7_isMaster x2 σ (fun r41 σ42 => if r41 = 0 then (Q (-2) σ42) else (wX7_isDigit x3 σ42 (fun r43 σ44 => if r43 = 0 then (Q (-2) σ44) else (vp_in x2 4 ∧ (∀ x45 : Int32, x45 = σ44.1 8 x2.toNatClampNeg → (vp_in x2 4 ∧ (∀ σ46 : zSt, σ46 = zput σ44 8 x2.toNatClampNeg x3 → (Q x45 σ46))))))))) else (Q (-2) σ))) else (∀ x61 : Int32, x61 = σ.1 1 8 → (∀ σ62 : zSt, σ62 = zput σ 1 8 x3 → (wX7_forget  σ62 (fun σ64 => Q x61 σ64)))))) else (if x1 = 1 then (if x3 < 1 then (if x1 = 2 then (wX7_isMaster x2 σ (fun r7 σ8 => if r7 = 0 then (Q (-2) σ8) else (wX7_isDigit x3 σ8 (fun r9 σ10 => if r9 = 0 then (Q (-2) σ10) else (vp_in x2 4 ∧ (∀ x11 : Int32, x11 = σ10.1 8 x2.toNatClampNeg → (vp_in x2 4 ∧ (∀ σ12 : zSt, σ12 = zput σ10 8 x2.toNatClampNeg x3 → (Q x11 σ12))))))))) else (Q (-2) σ)) else (if 9 < x3 then (if x1 = 2 then (wX7_isMaster x2 σ (fun r13 σ14 => if r13 = 0 then (Q (-2) σ14) else (wX7_isDigit x3 σ14 (fun r15 σ16 => if r15 = 0 then (Q (-2) σ16) else (vp_in x2 4 ∧ (∀ x17 : Int32, x17 = σ16.1 8 x2.toNatClampNeg → (vp_in x2 4 ∧ (∀ σ18 : zSt, σ18 = zput σ16 8 x2.toNatClampNeg x3 → (Q x17 σ18))))))))) else (Q (-2) σ)) else (∀ x19 : Int32, x19 = σ.1 1 9 → (∀ σ20 : zSt, σ20 = zput σ 1 9 x3 → (Q x19 σ20))))) else (if x1 = 2 then (wX7_isMaster x2 σ (fun r1 σ2 => if r1 = 0 then (Q (-2) σ2) else (wX7_isDigit x3 σ2 (fun r3 σ4 => if r3 = 0 then (Q (-2) σ4) else (vp_in x2 4 ∧ (∀ x5 : Int32, x5 = σ4.1 8 x2.toNatClampNeg → (vp_in x2 4 ∧ (∀ σ6 : zSt, σ6 = zput σ4 8 x2.toNatClampNeg x3 → (Q x5 σ6))))))))) else (Q (-2) σ)))
set_option maxRecDepth 20000 in
set_option maxHeartbeats 4000000 in
theorem kX7_law (hI : zInj tabX ad) (x1 : Int32) (x2 : Int32) (x3 : Int32)  (σ : zSt) (Q : Int32 → zSt → Prop) (h : wX7_law x1 x2 x3 σ Q) : zOkI l tabX D cA ad y 4 yX7_law cX7_law 5 (some .int) [.ref (ad 0), .int x1, .int x2, .int x3] σ Q := by
  refine zz_enter hI (by decide) (Nat.le_of_ble_eq_true rfl) (fun p e s m below meth c M => ?_)
  have M : zM p s m _ meth c cX7_law 5 RX7 (some .int) tabX D cA ad y := M
  refine zz_ls [(0, .ref (ad 0)), (1, .int x1), (2, .int x2), (3, .int x3)] rfl ?_
  unfold wX7_law at h
  refine zz_iload_n M 1 dX7_law_0 rfl rfl ?_
  refine zz_if_ne (y0 := 0) M 38 dX7_law_1 (by decide) (fun c => ?_) (fun c => ?_)
  · have h := zifn h c
    refine zz_iload_n M 1 dX7_law_38 rfl rfl ?_
    refine zz_iconst (v := 1) M dX7_law_39 (by decide) ?_
    refine zz_icmp_ne M 74 dX7_law_40 (by decide) (fun c => ?_) (fun c => ?_)
    · have h := zifn h c
      refine zz_iload_n M 1 dX7_law_74 rfl rfl ?_
      refine zz_iconst (v := 2) M dX7_law_75 (by decide) ?_
      refine zz_icmp_ne M 118 dX7_law_76 (by decide) (fun c => ?_) (fun c => ?_)
      · have h := zifn h c
        refine zz_bipush (v := (-2)) M dX7_law_118 (by decide) ?_
        exact zz_iret M dX7_law_120 h
      · have h := zif h c
        refine zz_aload_n M 0 dX7_law_79 rfl rfl ?_
        refine zz_iload_n M 2 dX7_law_80 rfl rfl ?_
        refine zz_callVI (d' := 1) (As := [.int x2]) (rest := []) M l_X7_142 tX_0 rfl rfl dX7_law_81 rfl rfl (by decide) (Nat.le_of_ble_eq_true rfl) (by have hI := M.2.2.2.2.2.2.2.2; exact kX7_isMaster hI _  _ _ h) (fun r1 σ2 h => ?_)
        refine zz_if_eq (y0 := 0) M 118 dX7_law_84 (by decide) (fun c => ?_) (fun c => ?_)
        · have h := zif h c
          refine zz_bipush (v := (-2)) M dX7_law_118 (by decide) ?_
          exact zz_iret M dX7_law_120 h
        · have h := zifn h c
          refine zz_iload_n M 3 dX7_law_87 rfl rfl ?_
          refine zz_callSI (d' := 1) (As := [.int x3]) (rest := []) M l_X7_110 dX7_law_88 rfl rfl (by decide) (Nat.le_of_ble_eq_true rfl) (by have hI := M.2.2.2.2.2.2.2.2; exact kX7_isDigit hI _  _ _ h) (fun r3 σ4 h => ?_)
          refine zz_if_eq (y0 := 0) M 118 dX7_law_91 (by decide) (fun c => ?_) (fun c => ?_)
          · have h := zif h c
            refine zz_bipush (v := (-2)) M dX7_law_118 (by decide) ?_
            exact zz_iret M dX7_law_120 h
          · have h := zifn h c
            refine zz_aload_n M 0 dX7_law_94 rfl rfl ?_
            refine zz_getR M f_X7_12 tX_0 rfl dX7_law_95 ?_
            refine zz_getR M f_X7_145 tX_1 rfl dX7_law_98 ?_
            refine zz_iload_n M 2 dX7_law_101 rfl rfl ?_
            refine zz_iald M tX_8 h.1 dX7_law_102 ?_
            have h := h.2
            refine zz_topi (fun x5 ex5 => ?_)
            have h := h x5 ex5
            refine zz_istore M [(4, .int x5), (0, .ref (ad 0)), (1, .int x1), (2, .int x2), (3, .int x3)] dX7_law_103 (by decide) rfl ?_
            refine zz_aload_n M 1 dX7_law_105 rfl rfl ?_
            refine zz_getR M f_X7_12 tX_0 rfl dX7_law_106 ?_
            refine zz_getR M f_X7_145 tX_1 rfl dX7_law_109 ?_
            refine zz_iload_n M 3 dX7_law_112 rfl rfl ?_
            refine zz_iload_n M 4 dX7_law_113 rfl rfl ?_
            refine zz_iast M tX_8 h.1 dX7_law_114 ?_
            have h := h.2
            refine zz_sg (fun σ6 eσ6 => ?_)
            have h := h σ6 eσ6
            refine zz_iload M 0 dX7_law_115 rfl ?_
            exact zz_iret M dX7_law_117 h
    · have h := zif h c
      refine zz_iload_n M 3 dX7_law_43 rfl rfl ?_
      refine zz_iconst (v := 1) M dX7_law_44 (by decide) ?_
      refine zz_icmp_lt M 74 dX7_law_45 (by decide) (fun c => ?_) (fun c => ?_)
      · have h := zif h c
        refine zz_iload_n M 1 dX7_law_74 rfl rfl ?_
        refine zz_iconst (v := 2) M dX7_law_75 (by decide) ?_
        refine zz_icmp_ne M 118 dX7_law_76 (by decide) (fun c => ?_) (fun c => ?_)
        · have h := zifn h c
          refine zz_bipush (v := (-2)) M dX7_law_118 (by decide) ?_
          exact zz_iret M dX7_law_120 h
        · have h := zif h c
          refine zz_aload_n M 0 dX7_law_79 rfl rfl ?_
          refine zz_iload_n M 2 dX7_law_80 rfl rfl ?_
          refine zz_callVI (d' := 1) (As := [.int x2]) (rest := []) M l_X7_142 tX_0 rfl rfl dX7_law_81 rfl rfl (by decide) (Nat.le_of_ble_eq_true rfl) (by have hI := M.2.2.2.2.2.2.2.2; exact kX7_isMaster hI _  _ _ h) (fun r7 σ8 h => ?_)
          refine zz_if_eq (y0 := 0) M 118 dX7_law_84 (by decide) (fun c => ?_) (fun c => ?_)
          · have h := zif h c
            refine zz_bipush (v := (-2)) M dX7_law_118 (by decide) ?_
            exact zz_iret M dX7_law_120 h
          · have h := zifn h c
            refine zz_iload_n M 3 dX7_law_87 rfl rfl ?_
            refine zz_callSI (d' := 1) (As := [.int x3]) (rest := []) M l_X7_110 dX7_law_88 rfl rfl (by decide) (Nat.le_of_ble_eq_true rfl) (by have hI := M.2.2.2.2.2.2.2.2; exact kX7_isDigit hI _  _ _ h) (fun r9 σ10 h => ?_)
            refine zz_if_eq (y0 := 0) M 118 dX7_law_91 (by decide) (fun c => ?_) (fun c => ?_)
            · have h := zif h c
              refine zz_bipush (v := (-2)) M dX7_law_118 (by decide) ?_
              exact zz_iret M dX7_law_120 h
            · have h := zifn h c
              refine zz_aload_n M 0 dX7_law_94 rfl rfl ?_
              refine zz_getR M f_X7_12 tX_0 rfl dX7_law_95 ?_
              refine zz_getR M f_X7_145 tX_1 rfl dX7_law_98 ?_
              refine zz_iload_n M 2 dX7_law_101 rfl rfl ?_
              refine zz_iald M tX_8 h.1 dX7_law_102 ?_
              have h := h.2
              refine zz_topi (fun x11 ex11 => ?_)
              have h := h x11 ex11
              refine zz_istore M [(4, .int x11), (0, .ref (ad 0)), (1, .int x1), (2, .int x2), (3, .int x3)] dX7_law_103 (by decide) rfl ?_
              refine zz_aload_n M 1 dX7_law_105 rfl rfl ?_
              refine zz_getR M f_X7_12 tX_0 rfl dX7_law_106 ?_
              refine zz_getR M f_X7_145 tX_1 rfl dX7_law_109 ?_
              refine zz_iload_n M 3 dX7_law_112 rfl rfl ?_
              refine zz_iload_n M 4 dX7_law_113 rfl rfl ?_
              refine zz_iast M tX_8 h.1 dX7_law_114 ?_
              have h := h.2
              refine zz_sg (fun σ12 eσ12 => ?_)
              have h := h σ12 eσ12
              refine zz_iload M 0 dX7_law_115 rfl ?_
              exact zz_iret M dX7_law_117 h
      · have h := zifn h c
        refine zz_iload_n M 3 dX7_law_48 rfl rfl ?_
        refine zz_bipush (v := 9) M dX7_law_49 (by decide) ?_
        refine zz_icmp_gt M 74 dX7_law_51 (by decide) (fun c => ?_) (fun c => ?_)
        · have h := zif h c
          refine zz_iload_n M 1 dX7_law_74 rfl rfl ?_
          refine zz_iconst (v := 2) M dX7_law_75 (by decide) ?_
          refine zz_icmp_ne M 118 dX7_law_76 (by decide) (fun c => ?_) (fun c => ?_)
          · have h := zifn h c
            refine zz_bipush (v := (-2)) M dX7_law_118 (by decide) ?_
            exact zz_iret M dX7_law_120 h
          · have h := zif h c
            refine zz_aload_n M 0 dX7_law_79 rfl rfl ?_
            refine zz_iload_n M 2 dX7_law_80 rfl rfl ?_
            refine zz_callVI (d' := 1) (As := [.int x2]) (rest := []) M l_X7_142 tX_0 rfl rfl dX7_law_81 rfl rfl (by decide) (Nat.le_of_ble_eq_true rfl) (by have hI := M.2.2.2.2.2.2.2.2; exact kX7_isMaster hI _  _ _ h) (fun r13 σ14 h => ?_)
            refine zz_if_eq (y0 := 0) M 118 dX7_law_84 (by decide) (fun c => ?_) (fun c => ?_)
            · have h := zif h c
              refine zz_bipush (v := (-2)) M dX7_law_118 (by decide) ?_
              exact zz_iret M dX7_law_120 h
            · have h := zifn h c
              refine zz_iload_n M 3 dX7_law_87 rfl rfl ?_
              refine zz_callSI (d' := 1) (As := [.int x3]) (rest := []) M l_X7_110 dX7_law_88 rfl rfl (by decide) (Nat.le_of_ble_eq_true rfl) (by have hI := M.2.2.2.2.2.2.2.2; exact kX7_isDigit hI _  _ _ h) (fun r15 σ16 h => ?_)
              refine zz_if_eq (y0 := 0) M 118 dX7_law_91 (by decide) (fun c => ?_) (fun c => ?_)
              · have h := zif h c
                refine zz_bipush (v := (-2)) M dX7_law_118 (by decide) ?_
                exact zz_iret M dX7_law_120 h
              · have h := zifn h c
                refine zz_aload_n M 0 dX7_law_94 rfl rfl ?_
                refine zz_getR M f_X7_12 tX_0 rfl dX7_law_95 ?_
                refine zz_getR M f_X7_145 tX_1 rfl dX7_law_98 ?_
                refine zz_iload_n M 2 dX7_law_101 rfl rfl ?_
                refine zz_iald M tX_8 h.1 dX7_law_102 ?_
                have h := h.2
                refine zz_topi (fun x17 ex17 => ?_)
                have h := h x17 ex17
                refine zz_istore M [(4, .int x17), (0, .ref (ad 0)), (1, .int x1), (2, .int x2), (3, .int x3)] dX7_law_103 (by decide) rfl ?_
                refine zz_aload_n M 1 dX7_law_105 rfl rfl ?_
                refine zz_getR M f_X7_12 tX_0 rfl dX7_law_106 ?_
                refine zz_getR M f_X7_145 tX_1 rfl dX7_law_109 ?_
                refine zz_iload_n M 3 dX7_law_112 rfl rfl ?_
                refine zz_iload_n M 4 dX7_law_113 rfl rfl ?_
                refine zz_iast M tX_8 h.1 dX7_law_114 ?_
                have h := h.2
                refine zz_sg (fun σ18 eσ18 => ?_)
                have h := h σ18 eσ18
                refine zz_iload M 0 dX7_law_115 rfl ?_
                exact zz_iret M dX7_law_117 h
        · have h := zifn h c
          refine zz_aload_n M 0 dX7_law_54 rfl rfl ?_
          refine zz_getR M f_X7_12 tX_0 rfl dX7_law_55 ?_
          refine zz_getI M f_X7_139 tX_1 rfl dX7_law_58 ?_
          refine zz_topi (fun x19 ex19 => ?_)
          have h := h x19 ex19
          refine zz_istore M [(4, .int x19), (0, .ref (ad 0)), (1, .int x1), (2, .int x2), (3, .int x3)] dX7_law_61 (by decide) rfl ?_
          refine zz_aload_n M 1 dX7_law_63 rfl rfl ?_
          refine zz_getR M f_X7_12 tX_0 rfl dX7_law_64 ?_
          refine zz_iload_n M 4 dX7_law_67 rfl rfl ?_
          refine zz_putI M f_X7_139 tX_1 rfl dX7_law_68 ?_
          refine zz_sg (fun σ20 eσ20 => ?_)
          have h := h σ20 eσ20
          refine zz_iload M 0 dX7_law_71 rfl ?_
          exact zz_iret M dX7_law_73 h
  · have h := zif h c
    refine zz_iload_n M 3 dX7_law_4 rfl rfl ?_
    refine zz_iconst (v := 1) M dX7_law_5 (by decide) ?_
    refine zz_icmp_lt M 38 dX7_law_6 (by decide) (fun c => ?_) (fun c => ?_)
    · have h := zif h c
      refine zz_iload_n M 1 dX7_law_38 rfl rfl ?_
      refine zz_iconst (v := 1) M dX7_law_39 (by decide) ?_
      refine zz_icmp_ne M 74 dX7_law_40 (by decide) (fun c => ?_) (fun c => ?_)
      · have h := zifn h c
        refine zz_iload_n M 1 dX7_law_74 rfl rfl ?_
        refine zz_iconst (v := 2) M dX7_law_75 (by decide) ?_
        refine zz_icmp_ne M 118 dX7_law_76 (by decide) (fun c => ?_) (fun c => ?_)
        · have h := zifn h c
          refine zz_bipush (v := (-2)) M dX7_law_118 (by decide) ?_
          exact zz_iret M dX7_law_120 h
        · have h := zif h c
          refine zz_aload_n M 0 dX7_law_79 rfl rfl ?_
          refine zz_iload_n M 2 dX7_law_80 rfl rfl ?_
          refine zz_callVI (d' := 1) (As := [.int x2]) (rest := []) M l_X7_142 tX_0 rfl rfl dX7_law_81 rfl rfl (by decide) (Nat.le_of_ble_eq_true rfl) (by have hI := M.2.2.2.2.2.2.2.2; exact kX7_isMaster hI _  _ _ h) (fun r21 σ22 h => ?_)
          refine zz_if_eq (y0 := 0) M 118 dX7_law_84 (by decide) (fun c => ?_) (fun c => ?_)
          · have h := zif h c
            refine zz_bipush (v := (-2)) M dX7_law_118 (by decide) ?_
            exact zz_iret M dX7_law_120 h
          · have h := zifn h c
            refine zz_iload_n M 3 dX7_law_87 rfl rfl ?_
            refine zz_callSI (d' := 1) (As := [.int x3]) (rest := []) M l_X7_110 dX7_law_88 rfl rfl (by decide) (Nat.le_of_ble_eq_true rfl) (by have hI := M.2.2.2.2.2.2.2.2; exact kX7_isDigit hI _  _ _ h) (fun r23 σ24 h => ?_)
            refine zz_if_eq (y0 := 0) M 118 dX7_law_91 (by decide) (fun c => ?_) (fun c => ?_)
            · have h := zif h c
              refine zz_bipush (v := (-2)) M dX7_law_118 (by decide) ?_
              exact zz_iret M dX7_law_120 h
            · have h := zifn h c
              refine zz_aload_n M 0 dX7_law_94 rfl rfl ?_
              refine zz_getR M f_X7_12 tX_0 rfl dX7_law_95 ?_
              refine zz_getR M f_X7_145 tX_1 rfl dX7_law_98 ?_
              refine zz_iload_n M 2 dX7_law_101 rfl rfl ?_
              refine zz_iald M tX_8 h.1 dX7_law_102 ?_
              have h := h.2
              refine zz_topi (fun x25 ex25 => ?_)
              have h := h x25 ex25
              refine zz_istore M [(4, .int x25), (0, .ref (ad 0)), (1, .int x1), (2, .int x2), (3, .int x3)] dX7_law_103 (by decide) rfl ?_
              refine zz_aload_n M 1 dX7_law_105 rfl rfl ?_
              refine zz_getR M f_X7_12 tX_0 rfl dX7_law_106 ?_
              refine zz_getR M f_X7_145 tX_1 rfl dX7_law_109 ?_
              refine zz_iload_n M 3 dX7_law_112 rfl rfl ?_
              refine zz_iload_n M 4 dX7_law_113 rfl rfl ?_
              refine zz_iast M tX_8 h.1 dX7_law_114 ?_
              have h := h.2
              refine zz_sg (fun σ26 eσ26 => ?_)
              have h := h σ26 eσ26
              refine zz_iload M 0 dX7_law_115 rfl ?_
              exact zz_iret M dX7_law_117 h
      · have h := zif h c
        refine zz_iload_n M 3 dX7_law_43 rfl rfl ?_
        refine zz_iconst (v := 1) M dX7_law_44 (by decide) ?_
        refine zz_icmp_lt M 74 dX7_law_45 (by decide) (fun c => ?_) (fun c => ?_)
        · have h := zif h c
          refine zz_iload_n M 1 dX7_law_74 rfl rfl ?_
          refine zz_iconst (v := 2) M dX7_law_75 (by decide) ?_
          refine zz_icmp_ne M 118 dX7_law_76 (by decide) (fun c => ?_) (fun c => ?_)
          · have h := zifn h c
            refine zz_bipush (v := (-2)) M dX7_law_118 (by decide) ?_
            exact zz_iret M dX7_law_120 h
          · have h := zif h c
            refine zz_aload_n M 0 dX7_law_79 rfl rfl ?_
            refine zz_iload_n M 2 dX7_law_80 rfl rfl ?_
            refine zz_callVI (d' := 1) (As := [.int x2]) (rest := []) M l_X7_142 tX_0 rfl rfl dX7_law_81 rfl rfl (by decide) (Nat.le_of_ble_eq_true rfl) (by have hI := M.2.2.2.2.2.2.2.2; exact kX7_isMaster hI _  _ _ h) (fun r27 σ28 h => ?_)
            refine zz_if_eq (y0 := 0) M 118 dX7_law_84 (by decide) (fun c => ?_) (fun c => ?_)
            · have h := zif h c
              refine zz_bipush (v := (-2)) M dX7_law_118 (by decide) ?_
              exact zz_iret M dX7_law_120 h
            · have h := zifn h c
              refine zz_iload_n M 3 dX7_law_87 rfl rfl ?_
              refine zz_callSI (d' := 1) (As := [.int x3]) (rest := []) M l_X7_110 dX7_law_88 rfl rfl (by decide) (Nat.le_of_ble_eq_true rfl) (by have hI := M.2.2.2.2.2.2.2.2; exact kX7_isDigit hI _  _ _ h) (fun r29 σ30 h => ?_)
              refine zz_if_eq (y0 := 0) M 118 dX7_law_91 (by decide) (fun c => ?_) (fun c => ?_)
              · have h := zif h c
                refine zz_bipush (v := (-2)) M dX7_law_118 (by decide) ?_
                exact zz_iret M dX7_law_120 h
              · have h := zifn h c
                refine zz_aload_n M 0 dX7_law_94 rfl rfl ?_
                refine zz_getR M f_X7_12 tX_0 rfl dX7_law_95 ?_
                refine zz_getR M f_X7_145 tX_1 rfl dX7_law_98 ?_
                refine zz_iload_n M 2 dX7_law_101 rfl rfl ?_
                refine zz_iald M tX_8 h.1 dX7_law_102 ?_
                have h := h.2
                refine zz_topi (fun x31 ex31 => ?_)
                have h := h x31 ex31
                refine zz_istore M [(4, .int x31), (0, .ref (ad 0)), (1, .int x1), (2, .int x2), (3, .int x3)] dX7_law_103 (by decide) rfl ?_
                refine zz_aload_n M 1 dX7_law_105 rfl rfl ?_
                refine zz_getR M f_X7_12 tX_0 rfl dX7_law_106 ?_
                refine zz_getR M f_X7_145 tX_1 rfl dX7_law_109 ?_
                refine zz_iload_n M 3 dX7_law_112 rfl rfl ?_
                refine zz_iload_n M 4 dX7_law_113 rfl rfl ?_
                refine zz_iast M tX_8 h.1 dX7_law_114 ?_
                have h := h.2
                refine zz_sg (fun σ32 eσ32 => ?_)
                have h := h σ32 eσ32
                refine zz_iload M 0 dX7_law_115 rfl ?_
                exact zz_iret M dX7_law_117 h
        · have h := zifn h c
          refine zz_iload_n M 3 dX7_law_48 rfl rfl ?_
          refine zz_bipush (v := 9) M dX7_law_49 (by decide) ?_
          refine zz_icmp_gt M 74 dX7_law_51 (by decide) (fun c => ?_) (fun c => ?_)
          · have h := zif h c
            refine zz_iload_n M 1 dX7_law_74 rfl rfl ?_
            refine zz_iconst (v := 2) M dX7_law_75 (by decide) ?_
            refine zz_icmp_ne M 118 dX7_law_76 (by decide) (fun c => ?_) (fun c => ?_)
            · have h := zifn h c
              refine zz_bipush (v := (-2)) M dX7_law_118 (by decide) ?_
              exact zz_iret M dX7_law_120 h
            · have h := zif h c
              refine zz_aload_n M 0 dX7_law_79 rfl rfl ?_
              refine zz_iload_n M 2 dX7_law_80 rfl rfl ?_
              refine zz_callVI (d' := 1) (As := [.int x2]) (rest := []) M l_X7_142 tX_0 rfl rfl dX7_law_81 rfl rfl (by decide) (Nat.le_of_ble_eq_true rfl) (by have hI := M.2.2.2.2.2.2.2.2; exact kX7_isMaster hI _  _ _ h) (fun r33 σ34 h => ?_)
              refine zz_if_eq (y0 := 0) M 118 dX7_law_84 (by decide) (fun c => ?_) (fun c => ?_)
              · have h := zif h c
                refine zz_bipush (v := (-2)) M dX7_law_118 (by decide) ?_
                exact zz_iret M dX7_law_120 h
              · have h := zifn h c
                refine zz_iload_n M 3 dX7_law_87 rfl rfl ?_
                refine zz_callSI (d' := 1) (As := [.int x3]) (rest := []) M l_X7_110 dX7_law_88 rfl rfl (by decide) (Nat.le_of_ble_eq_true rfl) (by have hI := M.2.2.2.2.2.2.2.2; exact kX7_isDigit hI _  _ _ h) (fun r35 σ36 h => ?_)
                refine zz_if_eq (y0 := 0) M 118 dX7_law_91 (by decide) (fun c => ?_) (fun c => ?_)
                · have h := zif h c
                  refine zz_bipush (v := (-2)) M dX7_law_118 (by decide) ?_
                  exact zz_iret M dX7_law_120 h
                · have h := zifn h c
                  refine zz_aload_n M 0 dX7_law_94 rfl rfl ?_
                  refine zz_getR M f_X7_12 tX_0 rfl dX7_law_95 ?_
                  refine zz_getR M f_X7_145 tX_1 rfl dX7_law_98 ?_
                  refine zz_iload_n M 2 dX7_law_101 rfl rfl ?_
                  refine zz_iald M tX_8 h.1 dX7_law_102 ?_
                  have h := h.2
                  refine zz_topi (fun x37 ex37 => ?_)
                  have h := h x37 ex37
                  refine zz_istore M [(4, .int x37), (0, .ref (ad 0)), (1, .int x1), (2, .int x2), (3, .int x3)] dX7_law_103 (by decide) rfl ?_
                  refine zz_aload_n M 1 dX7_law_105 rfl rfl ?_
                  refine zz_getR M f_X7_12 tX_0 rfl dX7_law_106 ?_
                  refine zz_getR M f_X7_145 tX_1 rfl dX7_law_109 ?_
                  refine zz_iload_n M 3 dX7_law_112 rfl rfl ?_
                  refine zz_iload_n M 4 dX7_law_113 rfl rfl ?_
                  refine zz_iast M tX_8 h.1 dX7_law_114 ?_
                  have h := h.2
                  refine zz_sg (fun σ38 eσ38 => ?_)
                  have h := h σ38 eσ38
                  refine zz_iload M 0 dX7_law_115 rfl ?_
                  exact zz_iret M dX7_law_117 h
          · have h := zifn h c
            refine zz_aload_n M 0 dX7_law_54 rfl rfl ?_
            refine zz_getR M f_X7_12 tX_0 rfl dX7_law_55 ?_
            refine zz_getI M f_X7_139 tX_1 rfl dX7_law_58 ?_
            refine zz_topi (fun x39 ex39 => ?_)
            have h := h x39 ex39
            refine zz_istore M [(4, .int x39), (0, .ref (ad 0)), (1, .int x1), (2, .int x2), (3, .int x3)] dX7_law_61 (by decide) rfl ?_
            refine zz_aload_n M 1 dX7_law_63 rfl rfl ?_
            refine zz_getR M f_X7_12 tX_0 rfl dX7_law_64 ?_
            refine zz_iload_n M 4 dX7_law_67 rfl rfl ?_
            refine zz_putI M f_X7_139 tX_1 rfl dX7_law_68 ?_
            refine zz_sg (fun σ40 eσ40 => ?_)
            have h := h σ40 eσ40
            refine zz_iload M 0 dX7_law_71 rfl ?_
            exact zz_iret M dX7_law_73 h
    · have h := zifn h c
      refine zz_iload_n M 3 dX7_law_9 rfl rfl ?_
      refine zz_iconst (v := 4) M dX7_law_10 (by decide) ?_
      refine zz_icmp_gt M 38 dX7_law_11 (by decide) (fun c => ?_) (fun c => ?_)
      · have h := zif h c
        refine zz_iload_n M 1 dX7_law_38 rfl rfl ?_
        refine zz_iconst (v := 1) M dX7_law_39 (by decide) ?_
        refine zz_icmp_ne M 74 dX7_law_40 (by decide) (fun c => ?_) (fun c => ?_)
        · have h := zifn h c
          refine zz_iload_n M 1 dX7_law_74 rfl rfl ?_
          refine zz_iconst (v := 2) M dX7_law_75 (by decide) ?_
          refine zz_icmp_ne M 118 dX7_law_76 (by decide) (fun c => ?_) (fun c => ?_)
          · have h := zifn h c
            refine zz_bipush (v := (-2)) M dX7_law_118 (by decide) ?_
            exact zz_iret M dX7_law_120 h
          · have h := zif h c
            refine zz_aload_n M 0 dX7_law_79 rfl rfl ?_
            refine zz_iload_n M 2 dX7_law_80 rfl rfl ?_
            refine zz_callVI (d' := 1) (As := [.int x2]) (rest := []) M l_X7_142 tX_0 rfl rfl dX7_law_81 rfl rfl (by decide) (Nat.le_of_ble_eq_true rfl) (by have hI := M.2.2.2.2.2.2.2.2; exact kX7_isMaster hI _  _ _ h) (fun r41 σ42 h => ?_)
            refine zz_if_eq (y0 := 0) M 118 dX7_law_84 (by decide) (fun c => ?_) (fun c => ?_)
            · have h := zif h c
              refine zz_bipush (v := (-2)) M dX7_law_118 (by decide) ?_
              exact zz_iret M dX7_law_120 h
            · have h := zifn h c
              refine zz_iload_n M 3 dX7_law_87 rfl rfl ?_
              refine zz_callSI (d' := 1) (As := [.int x3]) (rest := []) M l_X7_110 dX7_law_88 rfl rfl (by decide) (Nat.le_of_ble_eq_true rfl) (by have hI := M.2.2.2.2.2.2.2.2; exact kX7_isDigit hI _  _ _ h) (fun r43 σ44 h => ?_)
              refine zz_if_eq (y0 := 0) M 118 dX7_law_91 (by decide) (fun c => ?_) (fun c => ?_)
              · have h := zif h c
                refine zz_bipush (v := (-2)) M dX7_law_118 (by decide) ?_
                exact zz_iret M dX7_law_120 h
              · have h := zifn h c
                refine zz_aload_n M 0 dX7_law_94 rfl rfl ?_
                refine zz_getR M f_X7_12 tX_0 rfl dX7_law_95 ?_
                refine zz_getR M f_X7_145 tX_1 rfl dX7_law_98 ?_
                refine zz_iload_n M 2 dX7_law_101 rfl rfl ?_
                refine zz_iald M tX_8 h.1 dX7_law_102 ?_
                have h := h.2
                refine zz_topi (fun x45 ex45 => ?_)
                have h := h x45 ex45
                refine zz_istore M [(4, .int x45), (0, .ref (ad 0)), (1, .int x1), (2, .int x2), (3, .int x3)] dX7_law_103 (by decide) rfl ?_
                refine zz_aload_n M 1 dX7_law_105 rfl rfl ?_
                refine zz_getR M f_X7_12 tX_0 rfl dX7_law_106 ?_
                refine zz_getR M f_X7_145 tX_1 rfl dX7_law_109 ?_
                refine zz_iload_n M 3 dX7_law_112 rfl rfl ?_
                refine zz_iload_n M 4 dX7_law_113 rfl rfl ?_
                refine zz_iast M tX_8 h.1 dX7_law_114 ?_
                have h := h.2
                refine zz_sg (fun σ46 eσ46 => ?_)
                have h := h σ46 eσ46
                refine zz_iload M 0 dX7_law_115 rfl ?_
                exact zz_iret M dX7_law_117 h
        · have h := zif h c
          refine zz_iload_n M 3 dX7_law_43 rfl rfl ?_
          refine zz_iconst (v := 1) M dX7_law_44 (by decide) ?_
          refine zz_icmp_lt M 74 dX7_law_45 (by decide) (fun c => ?_) (fun c => ?_)
          · have h := zif h c
            refine zz_iload_n M 1 dX7_law_74 rfl rfl ?_
            refine zz_iconst (v := 2) M dX7_law_75 (by decide) ?_
            refine zz_icmp_ne M 118 dX7_law_76 (by decide) (fun c => ?_) (fun c => ?_)
            · have h := zifn h c
              refine zz_bipush (v := (-2)) M dX7_law_118 (by decide) ?_
              exact zz_iret M dX7_law_120 h
            · have h := zif h c
              refine zz_aload_n M 0 dX7_law_79 rfl rfl ?_
              refine zz_iload_n M 2 dX7_law_80 rfl rfl ?_
              refine zz_callVI (d' := 1) (As := [.int x2]) (rest := []) M l_X7_142 tX_0 rfl rfl dX7_law_81 rfl rfl (by decide) (Nat.le_of_ble_eq_true rfl) (by have hI := M.2.2.2.2.2.2.2.2; exact kX7_isMaster hI _  _ _ h) (fun r47 σ48 h => ?_)
              refine zz_if_eq (y0 := 0) M 118 dX7_law_84 (by decide) (fun c => ?_) (fun c => ?_)
              · have h := zif h c
                refine zz_bipush (v := (-2)) M dX7_law_118 (by decide) ?_
                exact zz_iret M dX7_law_120 h
              · have h := zifn h c
                refine zz_iload_n M 3 dX7_law_87 rfl rfl ?_
                refine zz_callSI (d' := 1) (As := [.int x3]) (rest := []) M l_X7_110 dX7_law_88 rfl rfl (by decide) (Nat.le_of_ble_eq_true rfl) (by have hI := M.2.2.2.2.2.2.2.2; exact kX7_isDigit hI _  _ _ h) (fun r49 σ50 h => ?_)
                refine zz_if_eq (y0 := 0) M 118 dX7_law_91 (by decide) (fun c => ?_) (fun c => ?_)
                · have h := zif h c
                  refine zz_bipush (v := (-2)) M dX7_law_118 (by decide) ?_
                  exact zz_iret M dX7_law_120 h
                · have h := zifn h c
                  refine zz_aload_n M 0 dX7_law_94 rfl rfl ?_
                  refine zz_getR M f_X7_12 tX_0 rfl dX7_law_95 ?_
                  refine zz_getR M f_X7_145 tX_1 rfl dX7_law_98 ?_
                  refine zz_iload_n M 2 dX7_law_101 rfl rfl ?_
                  refine zz_iald M tX_8 h.1 dX7_law_102 ?_
                  have h := h.2
                  refine zz_topi (fun x51 ex51 => ?_)
                  have h := h x51 ex51
                  refine zz_istore M [(4, .int x51), (0, .ref (ad 0)), (1, .int x1), (2, .int x2), (3, .int x3)] dX7_law_103 (by decide) rfl ?_
                  refine zz_aload_n M 1 dX7_law_105 rfl rfl ?_
                  refine zz_getR M f_X7_12 tX_0 rfl dX7_law_106 ?_
                  refine zz_getR M f_X7_145 tX_1 rfl dX7_law_109 ?_
                  refine zz_iload_n M 3 dX7_law_112 rfl rfl ?_
                  refine zz_iload_n M 4 dX7_law_113 rfl rfl ?_
                  refine zz_iast M tX_8 h.1 dX7_law_114 ?_
                  have h := h.2
                  refine zz_sg (fun σ52 eσ52 => ?_)
                  have h := h σ52 eσ52
                  refine zz_iload M 0 dX7_law_115 rfl ?_
                  exact zz_iret M dX7_law_117 h
          · have h := zifn h c
            refine zz_iload_n M 3 dX7_law_48 rfl rfl ?_
            refine zz_bipush (v := 9) M dX7_law_49 (by decide) ?_
            refine zz_icmp_gt M 74 dX7_law_51 (by decide) (fun c => ?_) (fun c => ?_)
            · have h := zif h c
              refine zz_iload_n M 1 dX7_law_74 rfl rfl ?_
              refine zz_iconst (v := 2) M dX7_law_75 (by decide) ?_
              refine zz_icmp_ne M 118 dX7_law_76 (by decide) (fun c => ?_) (fun c => ?_)
              · have h := zifn h c
                refine zz_bipush (v := (-2)) M dX7_law_118 (by decide) ?_
                exact zz_iret M dX7_law_120 h
              · have h := zif h c
                refine zz_aload_n M 0 dX7_law_79 rfl rfl ?_
                refine zz_iload_n M 2 dX7_law_80 rfl rfl ?_
                refine zz_callVI (d' := 1) (As := [.int x2]) (rest := []) M l_X7_142 tX_0 rfl rfl dX7_law_81 rfl rfl (by decide) (Nat.le_of_ble_eq_true rfl) (by have hI := M.2.2.2.2.2.2.2.2; exact kX7_isMaster hI _  _ _ h) (fun r53 σ54 h => ?_)
                refine zz_if_eq (y0 := 0) M 118 dX7_law_84 (by decide) (fun c => ?_) (fun c => ?_)
                · have h := zif h c
                  refine zz_bipush (v := (-2)) M dX7_law_118 (by decide) ?_
                  exact zz_iret M dX7_law_120 h
                · have h := zifn h c
                  refine zz_iload_n M 3 dX7_law_87 rfl rfl ?_
                  refine zz_callSI (d' := 1) (As := [.int x3]) (rest := []) M l_X7_110 dX7_law_88 rfl rfl (by decide) (Nat.le_of_ble_eq_true rfl) (by have hI := M.2.2.2.2.2.2.2.2; exact kX7_isDigit hI _  _ _ h) (fun r55 σ56 h => ?_)
                  refine zz_if_eq (y0 := 0) M 118 dX7_law_91 (by decide) (fun c => ?_) (fun c => ?_)
                  · have h := zif h c
                    refine zz_bipush (v := (-2)) M dX7_law_118 (by decide) ?_
                    exact zz_iret M dX7_law_120 h
                  · have h := zifn h c
                    refine zz_aload_n M 0 dX7_law_94 rfl rfl ?_
                    refine zz_getR M f_X7_12 tX_0 rfl dX7_law_95 ?_
                    refine zz_getR M f_X7_145 tX_1 rfl dX7_law_98 ?_
                    refine zz_iload_n M 2 dX7_law_101 rfl rfl ?_
                    refine zz_iald M tX_8 h.1 dX7_law_102 ?_
                    have h := h.2
                    refine zz_topi (fun x57 ex57 => ?_)
                    have h := h x57 ex57
                    refine zz_istore M [(4, .int x57), (0, .ref (ad 0)), (1, .int x1), (2, .int x2), (3, .int x3)] dX7_law_103 (by decide) rfl ?_
                    refine zz_aload_n M 1 dX7_law_105 rfl rfl ?_
                    refine zz_getR M f_X7_12 tX_0 rfl dX7_law_106 ?_
                    refine zz_getR M f_X7_145 tX_1 rfl dX7_law_109 ?_
                    refine zz_iload_n M 3 dX7_law_112 rfl rfl ?_
                    refine zz_iload_n M 4 dX7_law_113 rfl rfl ?_
                    refine zz_iast M tX_8 h.1 dX7_law_114 ?_
                    have h := h.2
                    refine zz_sg (fun σ58 eσ58 => ?_)
                    have h := h σ58 eσ58
                    refine zz_iload M 0 dX7_law_115 rfl ?_
                    exact zz_iret M dX7_law_117 h
            · have h := zifn h c
              refine zz_aload_n M 0 dX7_law_54 rfl rfl ?_
              refine zz_getR M f_X7_12 tX_0 rfl dX7_law_55 ?_
              refine zz_getI M f_X7_139 tX_1 rfl dX7_law_58 ?_
              refine zz_topi (fun x59 ex59 => ?_)
              have h := h x59 ex59
              refine zz_istore M [(4, .int x59), (0, .ref (ad 0)), (1, .int x1), (2, .int x2), (3, .int x3)] dX7_law_61 (by decide) rfl ?_
              refine zz_aload_n M 1 dX7_law_63 rfl rfl ?_
              refine zz_getR M f_X7_12 tX_0 rfl dX7_law_64 ?_
              refine zz_iload_n M 4 dX7_law_67 rfl rfl ?_
              refine zz_putI M f_X7_139 tX_1 rfl dX7_law_68 ?_
              refine zz_sg (fun σ60 eσ60 => ?_)
              have h := h σ60 eσ60
              refine zz_iload M 0 dX7_law_71 rfl ?_
              exact zz_iret M dX7_law_73 h
      · have h := zifn h c
        refine zz_aload_n M 0 dX7_law_14 rfl rfl ?_
        refine zz_getR M f_X7_12 tX_0 rfl dX7_law_15 ?_
        refine zz_getI M f_X7_136 tX_1 rfl dX7_law_18 ?_
        refine zz_topi (fun x61 ex61 => ?_)
        have h := h x61 ex61
        refine zz_istore M [(4, .int x61), (0, .ref (ad 0)), (1, .int x1), (2, .int x2), (3, .int x3)] dX7_law_21 (by decide) rfl ?_
        refine zz_aload_n M 1 dX7_law_23 rfl rfl ?_
        refine zz_getR M f_X7_12 tX_0 rfl dX7_law_24 ?_
        refine zz_iload_n M 4 dX7_law_27 rfl rfl ?_
        refine zz_putI M f_X7_136 tX_1 rfl dX7_law_28 ?_
        refine zz_sg (fun σ62 eσ62 => ?_)
        have h := h σ62 eσ62
        refine zz_aload_n M 1 dX7_law_31 rfl rfl ?_
        refine zz_callVV (d' := 3) (As := []) (rest := []) M l_X7_125 tX_0 rfl rfl dX7_law_32 rfl rfl (by decide) (Nat.le_of_ble_eq_true rfl) (by have hI := M.2.2.2.2.2.2.2.2; exact kX7_forget hI   _ _ h) (fun σ64 h => ?_)
        refine zz_iload M 0 dX7_law_35 rfl ?_
        exact zz_iret M dX7_law_37 h
end
