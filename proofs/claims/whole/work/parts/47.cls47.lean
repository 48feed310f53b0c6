section
variable {p : Program} {l : Launch} {e : Env} {s : State} {m : MethodId} {args : Array Value} {below : List Frame} {meth : Method} {c : Code} {D : va_G} {cA : Nat → ClassId} {ad : Nat → Nat} {y : zX}
def wX7_set (x1 : Int32) (x2 : Int32) (x3 : Int32) (x4 : Int32) (σ : zSt) (Q : Int32 → zSt → Prop) : Prop := wX7_isOne x1 x2 σ (fun r101 σ102 => if r101 = 0 then (Q (-2) σ102) else (∀ x103 : Int32, x103 = ((x1 * 4) + x2) → (if x3 = 0 then (wX7_isBridge x4 σ102 (fun r116 σ117 => if r116 = 0 then (if x3 = 1 then (wX7_isMinute x4 σ117 (fun r122 σ123 => if r122 = 0 then (if x3 = 2 then (wX7_isDigit x4 σ123 (fun r124 σ125 => if r124 = 0 then (Q (-2) σ125) else (wX7_changed_6 x103 x4 σ125 (fun r126 σ127 => Q r126 σ127)))) else (Q (-2) σ123)) else (wX7_changed_5 x103 x4 σ123 (fun r128 σ129 => Q r128 σ129)))) else (if x3 = 2 then (wX7_isDigit x4 σ117 (fun r118 σ119 => if r118 = 0 then (Q (-2) σ119) else (wX7_changed_6 x103 x4 σ119 (fun r120 σ121 => Q r120 σ121)))) else (Q (-2) σ117))) else (wX7_changed_4 x103 x4 σ117 (fun r130 σ131 => Q r130 σ131)))) else (if x3 = 1 then (wX7_isMinute x4 σ102 (fun r108 σ109 => if r108 = 0 then (if x3 = 2 then (wX7_isDigit x4 σ109 (fun r110 σ111 => if r110 = 0 then (Q (-2) σ111) else (wX7_changed_6 x103 x4 σ111 (fun r112 σ113 => Q r112 σ113)))) else (Q (-2) σ109)) else (wX7_changed_5 x103 x4 σ109 (fun r114 σ115 => Q r114 σ115)))) else (if x3 = 2 then (wX7_isDigit x4 σ102 (fun r104 σ105 => if r104 = 0 then (Q (-2) σ105) else (wX7_changed_6 x103 x4 σ105 (fun r106 σ107 => Q r106 σ107)))) else (Q (-2) σ102))))))
set_option maxRecDepth 20000 in
set_option maxHeartbeats 4000000 in
theorem kX7_set (hI : zInj tabX ad) (x1 : Int32) (x2 : Int32) (x3 : Int32) (x4 : Int32)  (σ : zSt) (Q : Int32 → zSt → Prop) (h : wX7_set x1 x2 x3 x4 σ Q) : zOkI l tabX D cA ad y 5 yX7_set cX7_set 6 (some .int) [.ref (ad 0), .int x1, .int x2, .int x3, .int x4] σ Q := by
  refine zz_enter hI (by decide) (Nat.le_of_ble_eq_true rfl) (fun p e s m below meth c M => ?_)
  have M : zM p s m _ meth c cX7_set 6 RX7 (some .int) tabX D cA ad y := M
  refine zz_ls [(0, .ref (ad 0)), (1, .int x1), (2, .int x2), (3, .int x3), (4, .int x4)] rfl ?_
  unfold wX7_set at h
  refine zz_aload_n M 0 dX7_set_0 rfl rfl ?_
  refine zz_iload_n M 1 dX7_set_1 rfl rfl ?_
  refine zz_iload_n M 2 dX7_set_2 rfl rfl ?_
  refine zz_callVI (d' := 2) (As := [.int x1, .int x2]) (rest := []) M l_X7_128 tX_0 rfl rfl dX7_set_3 rfl rfl (by decide) (Nat.le_of_ble_eq_true rfl) (by have hI := M.2.2.2.2.2.2.2.2; exact kX7_isOne hI _ _  _ _ h) (fun r101 σ102 h => ?_)
  refine zz_if_ne (y0 := 0) M 12 dX7_set_6 (by decide) (fun c => ?_) (fun c => ?_)
  · have h := zifn (c := r101 = 0) h c
    refine zz_iload_n M 1 dX7_set_12 rfl rfl ?_
    refine zz_iconst (v := 4) M dX7_set_13 (by decide) ?_
    refine zz_imul M dX7_set_14 ?_
    refine zz_iload_n M 2 dX7_set_15 rfl rfl ?_
    refine zz_iadd M dX7_set_16 ?_
    refine zz_topi (fun x103 ex103 => ?_)
    have h := h x103 ex103
    refine zz_istore M [(5, .int x103), (0, .ref (ad 0)), (1, .int x1), (2, .int x2), (3, .int x3), (4, .int x4)] dX7_set_17 (by decide) rfl ?_
    refine zz_iload_n M 4 dX7_set_19 rfl rfl ?_
    refine zz_if_ne (y0 := 0) M 47 dX7_set_20 (by decide) (fun c => ?_) (fun c => ?_)
    · have h := zifn (c := x3 = 0) h c
      refine zz_iload_n M 4 dX7_set_47 rfl rfl ?_
      refine zz_iconst (v := 1) M dX7_set_48 (by decide) ?_
      refine zz_icmp_ne M 76 dX7_set_49 (by decide) (fun c => ?_) (fun c => ?_)
      · have h := zifn (c := x3 = 1) h c
        refine zz_iload_n M 4 dX7_set_76 rfl rfl ?_
        refine zz_iconst (v := 2) M dX7_set_77 (by decide) ?_
        refine zz_icmp_ne M 105 dX7_set_78 (by decide) (fun c => ?_) (fun c => ?_)
        · have h := zifn (c := x3 = 2) h c
          refine zz_bipush (v := (-2)) M dX7_set_105 (by decide) ?_
          exact zz_iret M dX7_set_107 h
        · have h := zif (c := x3 = 2) h c
          refine zz_iload M 5 dX7_set_81 rfl ?_
          refine zz_callSI (d' := 1) (As := [.int x4]) (rest := []) M l_X7_110 dX7_set_83 rfl rfl (by decide) (Nat.le_of_ble_eq_true rfl) (by have hI := M.2.2.2.2.2.2.2.2; exact kX7_isDigit hI _  _ _ h) (fun r104 σ105 h => ?_)
          refine zz_if_eq (y0 := 0) M 105 dX7_set_86 (by decide) (fun c => ?_) (fun c => ?_)
          · have h := zif (c := r104 = 0) h c
            refine zz_bipush (v := (-2)) M dX7_set_105 (by decide) ?_
            exact zz_iret M dX7_set_107 h
          · have h := zifn (c := r104 = 0) h c
            refine zz_aload_n M 1 dX7_set_89 rfl rfl ?_
            refine zz_aload_n M 1 dX7_set_90 rfl rfl ?_
            refine zz_getR M f_X7_12 tX_0 rfl dX7_set_91 ?_
            refine zz_getR M f_X7_122 tX_1 rfl dX7_set_94 ?_
            refine zz_iload M 0 dX7_set_97 rfl ?_
            refine zz_iload M 5 dX7_set_99 rfl ?_
            refine zz_callVI (d' := 4) (As := [.ref (ad 6), .int x103, .int x4]) (rest := []) M l_X7_132 tX_0 rfl rfl dX7_set_101 rfl rfl (by decide) (Nat.le_of_ble_eq_true rfl) (by have hI := M.2.2.2.2.2.2.2.2; exact kX7_changed_6 hI _ _  _ _ h) (fun r106 σ107 h => ?_)
            exact zz_iret M dX7_set_104 h
      · have h := zif (c := x3 = 1) h c
        refine zz_iload M 5 dX7_set_52 rfl ?_
        refine zz_callSI (d' := 1) (As := [.int x4]) (rest := []) M l_X7_107 dX7_set_54 rfl rfl (by decide) (Nat.le_of_ble_eq_true rfl) (by have hI := M.2.2.2.2.2.2.2.2; exact kX7_isMinute hI _  _ _ h) (fun r108 σ109 h => ?_)
        refine zz_if_eq (y0 := 0) M 76 dX7_set_57 (by decide) (fun c => ?_) (fun c => ?_)
        · have h := zif (c := r108 = 0) h c
          refine zz_iload_n M 4 dX7_set_76 rfl rfl ?_
          refine zz_iconst (v := 2) M dX7_set_77 (by decide) ?_
          refine zz_icmp_ne M 105 dX7_set_78 (by decide) (fun c => ?_) (fun c => ?_)
          · have h := zifn (c := x3 = 2) h c
            refine zz_bipush (v := (-2)) M dX7_set_105 (by decide) ?_
            exact zz_iret M dX7_set_107 h
          · have h := zif (c := x3 = 2) h c
            refine zz_iload M 5 dX7_set_81 rfl ?_
            refine zz_callSI (d' := 1) (As := [.int x4]) (rest := []) M l_X7_110 dX7_set_83 rfl rfl (by decide) (Nat.le_of_ble_eq_true rfl) (by have hI := M.2.2.2.2.2.2.2.2; exact kX7_isDigit hI _  _ _ h) (fun r110 σ111 h => ?_)
            refine zz_if_eq (y0 := 0) M 105 dX7_set_86 (by decide) (fun c => ?_) (fun c => ?_)
            · have h := zif (c := r110 = 0) h c
              refine zz_bipush (v := (-2)) M dX7_set_105 (by decide) ?_
              exact zz_iret M dX7_set_107 h
            · have h := zifn (c := r110 = 0) h c
              refine zz_aload_n M 1 dX7_set_89 rfl rfl ?_
              refine zz_aload_n M 1 dX7_set_90 rfl rfl ?_
              refine zz_getR M f_X7_12 tX_0 rfl dX7_set_91 ?_
              refine zz_getR M f_X7_122 tX_1 rfl dX7_set_94 ?_
              refine zz_iload M 0 dX7_set_97 rfl ?_
              refine zz_iload M 5 dX7_set_99 rfl ?_
              refine zz_callVI (d' := 4) (As := [.ref (ad 6), .int x103, .int x4]) (rest := []) M l_X7_132 tX_0 rfl rfl dX7_set_101 rfl rfl (by decide) (Nat.le_of_ble_eq_true rfl) (by have hI := M.2.2.2.2.2.2.2.2; exact kX7_changed_6 hI _ _  _ _ h) (fun r112 σ113 h => ?_)
              exact zz_iret M dX7_set_104 h
        · have h := zifn (c := r108 = 0) h c
          refine zz_aload_n M 1 dX7_set_60 rfl rfl ?_
          refine zz_aload_n M 1 dX7_set_61 rfl rfl ?_
          refine zz_getR M f_X7_12 tX_0 rfl dX7_set_62 ?_
          refine zz_getR M f_X7_119 tX_1 rfl dX7_set_65 ?_
          refine zz_iload M 0 dX7_set_68 rfl ?_
          refine zz_iload M 5 dX7_set_70 rfl ?_
          refine zz_callVI (d' := 4) (As := [.ref (ad 5), .int x103, .int x4]) (rest := []) M l_X7_132 tX_0 rfl rfl dX7_set_72 rfl rfl (by decide) (Nat.le_of_ble_eq_true rfl) (by have hI := M.2.2.2.2.2.2.2.2; exact kX7_changed_5 hI _ _  _ _ h) (fun r114 σ115 h => ?_)
          exact zz_iret M dX7_set_75 h
    · have h := zif (c := x3 = 0) h c
      refine zz_iload M 5 dX7_set_23 rfl ?_
      refine zz_callSI (d' := 1) (As := [.int x4]) (rest := []) M l_X7_104 dX7_set_25 rfl rfl (by decide) (Nat.le_of_ble_eq_true rfl) (by have hI := M.2.2.2.2.2.2.2.2; exact kX7_isBridge hI _  _ _ h) (fun r116 σ117 h => ?_)
      refine zz_if_eq (y0 := 0) M 47 dX7_set_28 (by decide) (fun c => ?_) (fun c => ?_)
      · have h := zif (c := r116 = 0) h c
        refine zz_iload_n M 4 dX7_set_47 rfl rfl ?_
        refine zz_iconst (v := 1) M dX7_set_48 (by decide) ?_
        refine zz_icmp_ne M 76 dX7_set_49 (by decide) (fun c => ?_) (fun c => ?_)
        · have h := zifn (c := x3 = 1) h c
          refine zz_iload_n M 4 dX7_set_76 rfl rfl ?_
          refine zz_iconst (v := 2) M dX7_set_77 (by decide) ?_
          refine zz_icmp_ne M 105 dX7_set_78 (by decide) (fun c => ?_) (fun c => ?_)
          · have h := zifn (c := x3 = 2) h c
            refine zz_bipush (v := (-2)) M dX7_set_105 (by decide) ?_
            exact zz_iret M dX7_set_107 h
          · have h := zif (c := x3 = 2) h c
            refine zz_iload M 5 dX7_set_81 rfl ?_
            refine zz_callSI (d' := 1) (As := [.int x4]) (rest := []) M l_X7_110 dX7_set_83 rfl rfl (by decide) (Nat.le_of_ble_eq_true rfl) (by have hI := M.2.2.2.2.2.2.2.2; exact kX7_isDigit hI _  _ _ h) (fun r118 σ119 h => ?_)
            refine zz_if_eq (y0 := 0) M 105 dX7_set_86 (by decide) (fun c => ?_) (fun c => ?_)
            · have h := zif (c := r118 = 0) h c
              refine zz_bipush (v := (-2)) M dX7_set_105 (by decide) ?_
              exact zz_iret M dX7_set_107 h
            · have h := zifn (c := r118 = 0) h c
              refine zz_aload_n M 1 dX7_set_89 rfl rfl ?_
              refine zz_aload_n M 1 dX7_set_90 rfl rfl ?_
              refine zz_getR M f_X7_12 tX_0 rfl dX7_set_91 ?_
              refine zz_getR M f_X7_122 tX_1 rfl dX7_set_94 ?_
              refine zz_iload M 0 dX7_set_97 rfl ?_
              refine zz_iload M 5 dX7_set_99 rfl ?_
              refine zz_callVI (d' := 4) (As := [.ref (ad 6), .int x103, .int x4]) (rest := []) M l_X7_132 tX_0 rfl rfl dX7_set_101 rfl rfl (by decide) (Nat.le_of_ble_eq_true rfl) (by have hI := M.2.2.2.2.2.2.2.2; exact kX7_changed_6 hI _ _  _ _ h) (fun r120 σ121 h => ?_)
              exact zz_iret M dX7_set_104 h
        · have h := zif (c := x3 = 1) h c
          refine zz_iload M 5 dX7_set_52 rfl ?_
          refine zz_callSI (d' := 1) (As := [.int x4]) (rest := []) M l_X7_107 dX7_set_54 rfl rfl (by decide) (Nat.le_of_ble_eq_true rfl) (by have hI := M.2.2.2.2.2.2.2.2; exact kX7_isMinute hI _  _ _ h) (fun r122 σ123 h => ?_)
          refine zz_if_eq (y0 := 0) M 76 dX7_set_57 (by decide) (fun c => ?_) (fun c => ?_)
          · have h := zif (c := r122 = 0) h c
            refine zz_iload_n M 4 dX7_set_76 rfl rfl ?_
            refine zz_iconst (v := 2) M dX7_set_77 (by decide) ?_
            refine zz_icmp_ne M 105 dX7_set_78 (by decide) (fun c => ?_) (fun c => ?_)
            · have h := zifn (c := x3 = 2) h c
              refine zz_bipush (v := (-2)) M dX7_set_105 (by decide) ?_
              exact zz_iret M dX7_set_107 h
            · have h := zif (c := x3 = 2) h c
              refine zz_iload M 5 dX7_set_81 rfl ?_
              refine zz_callSI (d' := 1) (As := [.int x4]) (rest := []) M l_X7_110 dX7_set_83 rfl rfl (by decide) (Nat.le_of_ble_eq_true rfl) (by have hI := M.2.2.2.2.2.2.2.2; exact kX7_isDigit hI _  _ _ h) (fun r124 σ125 h => ?_)
              refine zz_if_eq (y0 := 0) M 105 dX7_set_86 (by decide) (fun c => ?_) (fun c => ?_)
              · have h := zif (c := r124 = 0) h c
                refine zz_bipush (v := (-2)) M dX7_set_105 (by decide) ?_
                exact zz_iret M dX7_set_107 h
              · have h := zifn (c := r124 = 0) h c
                refine zz_aload_n M 1 dX7_set_89 rfl rfl ?_
                refine zz_aload_n M 1 dX7_set_90 rfl rfl ?_
                refine zz_getR M f_X7_12 tX_0 rfl dX7_set_91 ?_
                refine zz_getR M f_X7_122 tX_1 rfl dX7_set_94 ?_
                refine zz_iload M 0 dX7_set_97 rfl ?_
                refine zz_iload M 5 dX7_set_99 rfl ?_
                refine zz_callVI (d' := 4) (As := [.ref (ad 6), .int x103, .int x4]) (rest := []) M l_X7_132 tX_0 rfl rfl dX7_set_101 rfl rfl (by decide) (Nat.le_of_ble_eq_true rfl) (by have hI := M.2.2.2.2.2.2.2.2; exact kX7_changed_6 hI _ _  _ _ h) (fun r126 σ127 h => ?_)
                exact zz_iret M dX7_set_104 h
          · have h := zifn (c := r122 = 0) h c
            refine zz_aload_n M 1 dX7_set_60 rfl rfl ?_
            refine zz_aload_n M 1 dX7_set_61 rfl rfl ?_
            refine zz_getR M f_X7_12 tX_0 rfl dX7_set_62 ?_
            refine zz_getR M f_X7_119 tX_1 rfl dX7_set_65 ?_
            refine zz_iload M 0 dX7_set_68 rfl ?_
            refine zz_iload M 5 dX7_set_70 rfl ?_
            refine zz_callVI (d' := 4) (As := [.ref (ad 5), .int x103, .int x4]) (rest := []) M l_X7_132 tX_0 rfl rfl dX7_set_72 rfl rfl (by decide) (Nat.le_of_ble_eq_true rfl) (by have hI := M.2.2.2.2.2.2.2.2; exact kX7_changed_5 hI _ _  _ _ h) (fun r128 σ129 h => ?_)
            exact zz_iret M dX7_set_75 h
      · have h := zifn (c := r116 = 0) h c
        refine zz_aload_n M 1 dX7_set_31 rfl rfl ?_
        refine zz_aload_n M 1 dX7_set_32 rfl rfl ?_
        refine zz_getR M f_X7_12 tX_0 rfl dX7_set_33 ?_
        refine zz_getR M f_X7_116 tX_1 rfl dX7_set_36 ?_
        refine zz_iload M 0 dX7_set_39 rfl ?_
        refine zz_iload M 5 dX7_set_41 rfl ?_
        refine zz_callVI (d' := 4) (As := [.ref (ad 4), .int x103, .int x4]) (rest := []) M l_X7_132 tX_0 rfl rfl dX7_set_43 rfl rfl (by decide) (Nat.le_of_ble_eq_true rfl) (by have hI := M.2.2.2.2.2.2.2.2; exact kX7_changed_4 hI _ _  _ _ h) (fun r130 σ131 h => ?_)
        exact zz_iret M dX7_set_46 h
  · have h := zif (c := r101 = 0) h c
    refine zz_bipush (v := (-2)) M dX7_set_9 (by decide) ?_
    exact zz_iret M dX7_set_11 h
def wX7_isMaster (x1 : Int32) (σ : zSt) (Q : Int32 → zSt → Prop) : Prop := if x1 < 0 then (Q 0 σ) else (if (σ.1 1 7) ≤ x1 then (Q 0 σ) else (Q 1 σ))
set_option maxRecDepth 20000 in
set_option maxHeartbeats 4000000 in
theorem kX7_isMaster (hI : zInj tabX ad) (x1 : Int32)  (σ : zSt) (Q : Int32 → zSt → Prop) (h : wX7_isMaster x1 σ Q) : zOkI l tabX D cA ad y 1 yX7_isMaster cX7_isMaster 2 (some .boolean) [.ref (ad 0), .int x1] σ Q := by
  refine zz_enter hI (by decide) (Nat.le_of_ble_eq_true rfl) (fun p e s m below meth c M => ?_)
  have M : zM p s m _ meth c cX7_isMaster 2 RX7 (some .boolean) tabX D cA ad y := M
  refine zz_ls [(0, .ref (ad 0)), (1, .int x1)] rfl ?_
  unfold wX7_isMaster at h
  refine zz_iload_n M 1 dX7_isMaster_0 rfl rfl ?_
  refine zz_if_lt (y0 := 0) M 19 dX7_isMaster_1 (by decide) (fun c => ?_) (fun c => ?_)
  · have h := zif (c := x1 < 0) h c
    refine zz_iconst (v := 0) M dX7_isMaster_19 (by decide) ?_
    exact zz_zret M dX7_isMaster_20 (Or.inl rfl) h
  · have h := zifn (c := x1 < 0) h c
    refine zz_iload_n M 1 dX7_isMaster_4 rfl rfl ?_
    refine zz_aload_n M 0 dX7_isMaster_5 rfl rfl ?_
    refine zz_getR M f_X7_12 tX_0 rfl dX7_isMaster_6 ?_
    refine zz_getI M f_X7_162 tX_1 rfl dX7_isMaster_9 ?_
    refine zz_icmp_ge M 19 dX7_isMaster_12 (by decide) (fun c => ?_) (fun c => ?_)
    · have h := zif (c := (σ.1 1 7) ≤ x1) h c
      refine zz_iconst (v := 0) M dX7_isMaster_19 (by decide) ?_
      exact zz_zret M dX7_isMaster_20 (Or.inl rfl) h
    · have h := zifn (c := (σ.1 1 7) ≤ x1) h c
      refine zz_iconst (v := 1) M dX7_isMaster_15 (by decide) ?_
      refine zz_goto M 20 dX7_isMaster_16 (by decide) ?_
      exact zz_zret M dX7_isMaster_20 (Or.inr rfl) h
def wX7_law (x1 : Int32) (x2 : Int32) (x3 : Int32) (σ : zSt) (Q : Int32 → zSt → Prop) : Prop := if x1 = 0 then (if x3 < 1 then (if x1 = 1 then (if x3 < 1 then (if x1 = 2 then (wX7_isMaster x2 σ (fun r127 σ128 => if r127 = 0 then (Q (-2) σ128) else (wX7_isDigit x3 σ128 (fun r129 σ130 => if r129 = 0 then (Q (-2) σ130) else (vp_in x2 4 ∧ (∀ x131 : Int32, x131 = (σ130.1 8 x2.toNatClampNeg) → (vp_in x2 4 ∧ (∀ σ132 : zSt, σ132 = zput σ130 8 x2.toNatClampNeg x3 → (Q x131 σ132))))))))) else (Q (-2) σ)) else (if 9 < x3 then (if x1 = 2 then (wX7_isMaster x2 σ (fun r133 σ134 => if r133 = 0 then (Q (-2) σ134) else (wX7_isDigit x3 σ134 (fun r135 σ136 => if r135 = 0 then (Q (-2) σ136) else (vp_in x2 4 ∧ (∀ x137 : Int32, x137 = (σ136.1 8 x2.toNatClampNeg) → (vp_in x2 4 ∧ (∀ σ138 : zSt, σ138 = zput σ136 8 x2.toNatClampNeg x3 → (Q x137 σ138))))))))) else (Q (-2) σ)) else (∀ x139 : Int32, x139 = (σ.1 1 9) → (∀ σ140 : zSt, σ140 = zput σ 1 9 x3 → (Q x139 σ140))))) else (if x1 = 2 then (wX7_isMaster x2 σ (fun r121 σ122 => if r121 = 0 then (Q (-2) σ122) else (wX7_isDigit x3 σ122 (fun r123 σ124 => if r123 = 0 then (Q (-2) σ124) else (vp_in x2 4 ∧ (∀ x125 : Int32, x125 = (σ124.1 8 x2.toNatClampNeg) → (vp_in x2 4 ∧ (∀ σ126 : zSt, σ126 = zput σ124 8 x2.toNatClampNeg x3 → (Q x125 σ126))))))))) else (Q (-2) σ))) else (if 4 < x3 then (if x1 = 1 then (if x3 < 1 then (if x1 = 2 then (wX7_isMaster x2 σ (fun r147 σ148 => if r147 = 0 then (Q (-2) σ148) else (wX7_isDigit x3 σ148 (fun r149 σ150 => if r149 = 0 then (Q (-2) σ150) else (vp_in x2 4 ∧ (∀ x151 : Int32, x151 = (σ150.1 8 x2.toNatClampNeg) → (vp_in x2 4 ∧ (∀ σ152 : zSt, σ152 = zput σ150 8 x2.toNatClampNeg x3 → (Q x151 σ152))))))))) else (Q (-2) σ)) else (if 9 < x3 then (if x1 = 2 then (wX7_isMaster x2 σ (fun r153 σ154 => if r153 = 0 then (Q (-2) σ154) else (wX7_isDigit x3 σ154 (fun r155 σ156 => if r155 = 0 then (Q (-2) σ156) else (vp_in x2 4 ∧ (∀ x157 : Int32, x157 = (σ156.1 8 x2.toNatClampNeg) → (vp_in x2 4 ∧ (∀ σ158 : zSt, σ158 = zput σ156 8 x2.toNatClampNeg x3 → (Q x157 σ158))))))))) else (Q (-2) σ)) else (∀ x159 : Int32, x159 = (σ.1 1 9) → (∀ σ160 : zSt, σ160 = zput σ 1 9 x3 → (Q x159 σ160))))) else (if x1 = 2 then (wX7_isMaster x2 σ (fun r141 σ142 => if r141 = 0 then (Q (-2) σ142) else (wX7_isDigit x3 σ142 (fun r143 σ144 => if r143 = 0 then (Q (-2) σ144) else (vp_in x2 4 ∧ (∀ x145 : Int32, x145 = (σ144.1 8 x2.toNatClampNeg) → (vp_in x2 4 ∧ (∀ σ146 : zSt, σ146 = zput σ144 8 x2.toNatClampNeg x3 → (Q x145 σ146))))))))) else (Q (-2) σ))) else (∀ x161 : Int32, x161 = (σ.1 1 8) → (∀ σ162 : zSt, σ162 = zput σ 1 8 x3 → (wX7_forget  σ162 (fun σ164 => Q x161 σ164)))))) else (if x1 = 1 then (if x3 < 1 then (if x1 = 2 then (wX7_isMaster x2 σ (fun r107 σ108 => if r107 = 0 then (Q (-2) σ108) else (wX7_isDigit x3 σ108 (fun r109 σ110 => if r109 = 0 then (Q (-2) σ110) else (vp_in x2 4 ∧ (∀ x111 : Int32, x111 = (σ110.1 8 x2.toNatClampNeg) → (vp_in x2 4 ∧ (∀ σ112 : zSt, σ112 = zput σ110 8 x2.toNatClampNeg x3 → (Q x111 σ112))))))))) else (Q (-2) σ)) else (if 9 < x3 then (if x1 = 2 then (wX7_isMaster x2 σ (fun r113 σ114 => if r113 = 0 then (Q (-2) σ114) else (wX7_isDigit x3 σ114 (fun r115 σ116 => if r115 = 0 then (Q (-2) σ116) else (vp_in x2 4 ∧ (∀ x117 : Int32, x117 = (σ116.1 8 x2.toNatClampNeg) → (vp_in x2 4 ∧ (∀ σ118 : zSt, σ118 = zput σ116 8 x2.toNatClampNeg x3 → (Q x117 σ118))))))))) else (Q (-2) σ)) else (∀ x119 : Int32, x119 = (σ.1 1 9) → (∀ σ120 : zSt, σ120 = zput σ 1 9 x3 → (Q x119 σ120))))) else (if x1 = 2 then (wX7_isMaster x2 σ (fun r101 σ102 => if r101 = 0 then (Q (-2) σ102) else (wX7_isDigit x3 σ102 (fun r103 σ104 => if r103 = 0 then (Q (-2) σ104) else (vp_in x2 4 ∧ (∀ x105 : Int32, x105 = (σ104.1 8 x2.toNatClampNeg) → (vp_in x2 4 ∧ (∀ σ106 : zSt, σ106 = zput σ104 8 x2.toNatClampNeg x3 → (Q x105 σ106))))))))) else (Q (-2) σ)))
set_option maxRecDepth 20000 in
set_option maxHeartbeats 4000000 in
theorem kX7_law (hI : zInj tabX ad) (x1 : Int32) (x2 : Int32) (x3 : Int32)  (σ : zSt) (Q : Int32 → zSt → Prop) (h : wX7_law x1 x2 x3 σ Q) : zOkI l tabX D cA ad y 4 yX7_law cX7_law 5 (some .int) [.ref (ad 0), .int x1, .int x2, .int x3] σ Q := by
  refine zz_enter hI (by decide) (Nat.le_of_ble_eq_true rfl) (fun p e s m below meth c M => ?_)
  have M : zM p s m _ meth c cX7_law 5 RX7 (some .int) tabX D cA ad y := M
  refine zz_ls [(0, .ref (ad 0)), (1, .int x1), (2, .int x2), (3, .int x3)] rfl ?_
  unfold wX7_law at h
  refine zz_iload_n M 1 dX7_law_0 rfl rfl ?_
  refine zz_if_ne (y0 := 0) M 38 dX7_law_1 (by decide) (fun c => ?_) (fun c => ?_)
  · have h := zifn (c := x1 = 0) h c
    refine zz_iload_n M 1 dX7_law_38 rfl rfl ?_
    refine zz_iconst (v := 1) M dX7_law_39 (by decide) ?_
    refine zz_icmp_ne M 74 dX7_law_40 (by decide) (fun c => ?_) (fun c => ?_)
    · have h := zifn (c := x1 = 1) h c
      refine zz_iload_n M 1 dX7_law_74 rfl rfl ?_
      refine zz_iconst (v := 2) M dX7_law_75 (by decide) ?_
      refine zz_icmp_ne M 118 dX7_law_76 (by decide) (fun c => ?_) (fun c => ?_)
      · have h := zifn (c := x1 = 2) h c
        refine zz_bipush (v := (-2)) M dX7_law_118 (by decide) ?_
        exact zz_iret M dX7_law_120 h
      · have h := zif (c := x1 = 2) h c
        refine zz_aload_n M 0 dX7_law_79 rfl rfl ?_
        refine zz_iload_n M 2 dX7_law_80 rfl rfl ?_
        refine zz_callVI (d' := 1) (As := [.int x2]) (rest := []) M l_X7_142 tX_0 rfl rfl dX7_law_81 rfl rfl (by decide) (Nat.le_of_ble_eq_true rfl) (by have hI := M.2.2.2.2.2.2.2.2; exact kX7_isMaster hI _  _ _ h) (fun r101 σ102 h => ?_)
        refine zz_if_eq (y0 := 0) M 118 dX7_law_84 (by decide) (fun c => ?_) (fun c => ?_)
        · have h := zif (c := r101 = 0) h c
          refine zz_bipush (v := (-2)) M dX7_law_118 (by decide) ?_
          exact zz_iret M dX7_law_120 h
        · have h := zifn (c := r101 = 0) h c
          refine zz_iload_n M 3 dX7_law_87 rfl rfl ?_
          refine zz_callSI (d' := 1) (As := [.int x3]) (rest := []) M l_X7_110 dX7_law_88 rfl rfl (by decide) (Nat.le_of_ble_eq_true rfl) (by have hI := M.2.2.2.2.2.2.2.2; exact kX7_isDigit hI _  _ _ h) (fun r103 σ104 h => ?_)
          refine zz_if_eq (y0 := 0) M 118 dX7_law_91 (by decide) (fun c => ?_) (fun c => ?_)
          · have h := zif (c := r103 = 0) h c
            refine zz_bipush (v := (-2)) M dX7_law_118 (by decide) ?_
            exact zz_iret M dX7_law_120 h
          · have h := zifn (c := r103 = 0) h c
            refine zz_aload_n M 0 dX7_law_94 rfl rfl ?_
            refine zz_getR M f_X7_12 tX_0 rfl dX7_law_95 ?_
            refine zz_getR M f_X7_145 tX_1 rfl dX7_law_98 ?_
            refine zz_iload_n M 2 dX7_law_101 rfl rfl ?_
            refine zz_iald M tX_8 h.1 dX7_law_102 ?_
            have h := h.2
            refine zz_topi (fun x105 ex105 => ?_)
            have h := h x105 ex105
            refine zz_istore M [(4, .int x105), (0, .ref (ad 0)), (1, .int x1), (2, .int x2), (3, .int x3)] dX7_law_103 (by decide) rfl ?_
            refine zz_aload_n M 1 dX7_law_105 rfl rfl ?_
            refine zz_getR M f_X7_12 tX_0 rfl dX7_law_106 ?_
            refine zz_getR M f_X7_145 tX_1 rfl dX7_law_109 ?_
            refine zz_iload_n M 3 dX7_law_112 rfl rfl ?_
            refine zz_iload_n M 4 dX7_law_113 rfl rfl ?_
            refine zz_iast M tX_8 h.1 dX7_law_114 ?_
            have h := h.2
            refine zz_sg (fun σ106 eσ106 => ?_)
            have h := h σ106 eσ106
            refine zz_iload M 0 dX7_law_115 rfl ?_
            exact zz_iret M dX7_law_117 h
    · have h := zif (c := x1 = 1) h c
      refine zz_iload_n M 3 dX7_law_43 rfl rfl ?_
      refine zz_iconst (v := 1) M dX7_law_44 (by decide) ?_
      refine zz_icmp_lt M 74 dX7_law_45 (by decide) (fun c => ?_) (fun c => ?_)
      · have h := zif (c := x3 < 1) h c
        refine zz_iload_n M 1 dX7_law_74 rfl rfl ?_
        refine zz_iconst (v := 2) M dX7_law_75 (by decide) ?_
        refine zz_icmp_ne M 118 dX7_law_76 (by decide) (fun c => ?_) (fun c => ?_)
        · have h := zifn (c := x1 = 2) h c
          refine zz_bipush (v := (-2)) M dX7_law_118 (by decide) ?_
          exact zz_iret M dX7_law_120 h
        · have h := zif (c := x1 = 2) h c
          refine zz_aload_n M 0 dX7_law_79 rfl rfl ?_
          refine zz_iload_n M 2 dX7_law_80 rfl rfl ?_
          refine zz_callVI (d' := 1) (As := [.int x2]) (rest := []) M l_X7_142 tX_0 rfl rfl dX7_law_81 rfl rfl (by decide) (Nat.le_of_ble_eq_true rfl) (by have hI := M.2.2.2.2.2.2.2.2; exact kX7_isMaster hI _  _ _ h) (fun r107 σ108 h => ?_)
          refine zz_if_eq (y0 := 0) M 118 dX7_law_84 (by decide) (fun c => ?_) (fun c => ?_)
          · have h := zif (c := r107 = 0) h c
            refine zz_bipush (v := (-2)) M dX7_law_118 (by decide) ?_
            exact zz_iret M dX7_law_120 h
          · have h := zifn (c := r107 = 0) h c
            refine zz_iload_n M 3 dX7_law_87 rfl rfl ?_
            refine zz_callSI (d' := 1) (As := [.int x3]) (rest := []) M l_X7_110 dX7_law_88 rfl rfl (by decide) (Nat.le_of_ble_eq_true rfl) (by have hI := M.2.2.2.2.2.2.2.2; exact kX7_isDigit hI _  _ _ h) (fun r109 σ110 h => ?_)
            refine zz_if_eq (y0 := 0) M 118 dX7_law_91 (by decide) (fun c => ?_) (fun c => ?_)
            · have h := zif (c := r109 = 0) h c
              refine zz_bipush (v := (-2)) M dX7_law_118 (by decide) ?_
              exact zz_iret M dX7_law_120 h
            · have h := zifn (c := r109 = 0) h c
              refine zz_aload_n M 0 dX7_law_94 rfl rfl ?_
              refine zz_getR M f_X7_12 tX_0 rfl dX7_law_95 ?_
              refine zz_getR M f_X7_145 tX_1 rfl dX7_law_98 ?_
              refine zz_iload_n M 2 dX7_law_101 rfl rfl ?_
              refine zz_iald M tX_8 h.1 dX7_law_102 ?_
              have h := h.2
              refine zz_topi (fun x111 ex111 => ?_)
              have h := h x111 ex111
              refine zz_istore M [(4, .int x111), (0, .ref (ad 0)), (1, .int x1), (2, .int x2), (3, .int x3)] dX7_law_103 (by decide) rfl ?_
              refine zz_aload_n M 1 dX7_law_105 rfl rfl ?_
              refine zz_getR M f_X7_12 tX_0 rfl dX7_law_106 ?_
              refine zz_getR M f_X7_145 tX_1 rfl dX7_law_109 ?_
              refine zz_iload_n M 3 dX7_law_112 rfl rfl ?_
              refine zz_iload_n M 4 dX7_law_113 rfl rfl ?_
              refine zz_iast M tX_8 h.1 dX7_law_114 ?_
              have h := h.2
              refine zz_sg (fun σ112 eσ112 => ?_)
              have h := h σ112 eσ112
              refine zz_iload M 0 dX7_law_115 rfl ?_
              exact zz_iret M dX7_law_117 h
      · have h := zifn (c := x3 < 1) h c
        refine zz_iload_n M 3 dX7_law_48 rfl rfl ?_
        refine zz_bipush (v := 9) M dX7_law_49 (by decide) ?_
        refine zz_icmp_gt M 74 dX7_law_51 (by decide) (fun c => ?_) (fun c => ?_)
        · have h := zif (c := 9 < x3) h c
          refine zz_iload_n M 1 dX7_law_74 rfl rfl ?_
          refine zz_iconst (v := 2) M dX7_law_75 (by decide) ?_
          refine zz_icmp_ne M 118 dX7_law_76 (by decide) (fun c => ?_) (fun c => ?_)
          · have h := zifn (c := x1 = 2) h c
            refine zz_bipush (v := (-2)) M dX7_law_118 (by decide) ?_
            exact zz_iret M dX7_law_120 h
          · have h := zif (c := x1 = 2) h c
            refine zz_aload_n M 0 dX7_law_79 rfl rfl ?_
            refine zz_iload_n M 2 dX7_law_80 rfl rfl ?_
            refine zz_callVI (d' := 1) (As := [.int x2]) (rest := []) M l_X7_142 tX_0 rfl rfl dX7_law_81 rfl rfl (by decide) (Nat.le_of_ble_eq_true rfl) (by have hI := M.2.2.2.2.2.2.2.2; exact kX7_isMaster hI _  _ _ h) (fun r113 σ114 h => ?_)
            refine zz_if_eq (y0 := 0) M 118 dX7_law_84 (by decide) (fun c => ?_) (fun c => ?_)
            · have h := zif (c := r113 = 0) h c
              refine zz_bipush (v := (-2)) M dX7_law_118 (by decide) ?_
              exact zz_iret M dX7_law_120 h
            · have h := zifn (c := r113 = 0) h c
              refine zz_iload_n M 3 dX7_law_87 rfl rfl ?_
              refine zz_callSI (d' := 1) (As := [.int x3]) (rest := []) M l_X7_110 dX7_law_88 rfl rfl (by decide) (Nat.le_of_ble_eq_true rfl) (by have hI := M.2.2.2.2.2.2.2.2; exact kX7_isDigit hI _  _ _ h) (fun r115 σ116 h => ?_)
              refine zz_if_eq (y0 := 0) M 118 dX7_law_91 (by decide) (fun c => ?_) (fun c => ?_)
              · have h := zif (c := r115 = 0) h c
                refine zz_bipush (v := (-2)) M dX7_law_118 (by decide) ?_
                exact zz_iret M dX7_law_120 h
              · have h := zifn (c := r115 = 0) h c
                refine zz_aload_n M 0 dX7_law_94 rfl rfl ?_
                refine zz_getR M f_X7_12 tX_0 rfl dX7_law_95 ?_
                refine zz_getR M f_X7_145 tX_1 rfl dX7_law_98 ?_
                refine zz_iload_n M 2 dX7_law_101 rfl rfl ?_
                refine zz_iald M tX_8 h.1 dX7_law_102 ?_
                have h := h.2
                refine zz_topi (fun x117 ex117 => ?_)
                have h := h x117 ex117
                refine zz_istore M [(4, .int x117), (0, .ref (ad 0)), (1, .int x1), (2, .int x2), (3, .int x3)] dX7_law_103 (by decide) rfl ?_
                refine zz_aload_n M 1 dX7_law_105 rfl rfl ?_
                refine zz_getR M f_X7_12 tX_0 rfl dX7_law_106 ?_
                refine zz_getR M f_X7_145 tX_1 rfl dX7_law_109 ?_
                refine zz_iload_n M 3 dX7_law_112 rfl rfl ?_
                refine zz_iload_n M 4 dX7_law_113 rfl rfl ?_
                refine zz_iast M tX_8 h.1 dX7_law_114 ?_
                have h := h.2
                refine zz_sg (fun σ118 eσ118 => ?_)
                have h := h σ118 eσ118
                refine zz_iload M 0 dX7_law_115 rfl ?_
                exact zz_iret M dX7_law_117 h
        · have h := zifn (c := 9 < x3) h c
          refine zz_aload_n M 0 dX7_law_54 rfl rfl ?_
          refine zz_getR M f_X7_12 tX_0 rfl dX7_law_55 ?_
          refine zz_getI M f_X7_139 tX_1 rfl dX7_law_58 ?_
          refine zz_topi (fun x119 ex119 => ?_)
          have h := h x119 ex119
          refine zz_istore M [(4, .int x119), (0, .ref (ad 0)), (1, .int x1), (2, .int x2), (3, .int x3)] dX7_law_61 (by decide) rfl ?_
          refine zz_aload_n M 1 dX7_law_63 rfl rfl ?_
          refine zz_getR M f_X7_12 tX_0 rfl dX7_law_64 ?_
          refine zz_iload_n M 4 dX7_law_67 rfl rfl ?_
          refine zz_putI M f_X7_139 tX_1 rfl dX7_law_68 ?_
          refine zz_sg (fun σ120 eσ120 => ?_)
          have h := h σ120 eσ120
          refine zz_iload M 0 dX7_law_71 rfl ?_
          exact zz_iret M dX7_law_73 h
  · have h := zif (c := x1 = 0) h c
    refine zz_iload_n M 3 dX7_law_4 rfl rfl ?_
    refine zz_iconst (v := 1) M dX7_law_5 (by decide) ?_
    refine zz_icmp_lt M 38 dX7_law_6 (by decide) (fun c => ?_) (fun c => ?_)
    · have h := zif (c := x3 < 1) h c
      refine zz_iload_n M 1 dX7_law_38 rfl rfl ?_
      refine zz_iconst (v := 1) M dX7_law_39 (by decide) ?_
      refine zz_icmp_ne M 74 dX7_law_40 (by decide) (fun c => ?_) (fun c => ?_)
      · have h := zifn (c := x1 = 1) h c
        refine zz_iload_n M 1 dX7_law_74 rfl rfl ?_
        refine zz_iconst (v := 2) M dX7_law_75 (by decide) ?_
        refine zz_icmp_ne M 118 dX7_law_76 (by decide) (fun c => ?_) (fun c => ?_)
        · have h := zifn (c := x1 = 2) h c
          refine zz_bipush (v := (-2)) M dX7_law_118 (by decide) ?_
          exact zz_iret M dX7_law_120 h
        · have h := zif (c := x1 = 2) h c
          refine zz_aload_n M 0 dX7_law_79 rfl rfl ?_
          refine zz_iload_n M 2 dX7_law_80 rfl rfl ?_
          refine zz_callVI (d' := 1) (As := [.int x2]) (rest := []) M l_X7_142 tX_0 rfl rfl dX7_law_81 rfl rfl (by decide) (Nat.le_of_ble_eq_true rfl) (by have hI := M.2.2.2.2.2.2.2.2; exact kX7_isMaster hI _  _ _ h) (fun r121 σ122 h => ?_)
          refine zz_if_eq (y0 := 0) M 118 dX7_law_84 (by decide) (fun c => ?_) (fun c => ?_)
          · have h := zif (c := r121 = 0) h c
            refine zz_bipush (v := (-2)) M dX7_law_118 (by decide) ?_
            exact zz_iret M dX7_law_120 h
          · have h := zifn (c := r121 = 0) h c
            refine zz_iload_n M 3 dX7_law_87 rfl rfl ?_
            refine zz_callSI (d' := 1) (As := [.int x3]) (rest := []) M l_X7_110 dX7_law_88 rfl rfl (by decide) (Nat.le_of_ble_eq_true rfl) (by have hI := M.2.2.2.2.2.2.2.2; exact kX7_isDigit hI _  _ _ h) (fun r123 σ124 h => ?_)
            refine zz_if_eq (y0 := 0) M 118 dX7_law_91 (by decide) (fun c => ?_) (fun c => ?_)
            · have h := zif (c := r123 = 0) h c
              refine zz_bipush (v := (-2)) M dX7_law_118 (by decide) ?_
              exact zz_iret M dX7_law_120 h
            · have h := zifn (c := r123 = 0) h c
              refine zz_aload_n M 0 dX7_law_94 rfl rfl ?_
              refine zz_getR M f_X7_12 tX_0 rfl dX7_law_95 ?_
              refine zz_getR M f_X7_145 tX_1 rfl dX7_law_98 ?_
              refine zz_iload_n M 2 dX7_law_101 rfl rfl ?_
              refine zz_iald M tX_8 h.1 dX7_law_102 ?_
              have h := h.2
              refine zz_topi (fun x125 ex125 => ?_)
              have h := h x125 ex125
              refine zz_istore M [(4, .int x125), (0, .ref (ad 0)), (1, .int x1), (2, .int x2), (3, .int x3)] dX7_law_103 (by decide) rfl ?_
              refine zz_aload_n M 1 dX7_law_105 rfl rfl ?_
              refine zz_getR M f_X7_12 tX_0 rfl dX7_law_106 ?_
              refine zz_getR M f_X7_145 tX_1 rfl dX7_law_109 ?_
              refine zz_iload_n M 3 dX7_law_112 rfl rfl ?_
              refine zz_iload_n M 4 dX7_law_113 rfl rfl ?_
              refine zz_iast M tX_8 h.1 dX7_law_114 ?_
              have h := h.2
              refine zz_sg (fun σ126 eσ126 => ?_)
              have h := h σ126 eσ126
              refine zz_iload M 0 dX7_law_115 rfl ?_
              exact zz_iret M dX7_law_117 h
      · have h := zif (c := x1 = 1) h c
        refine zz_iload_n M 3 dX7_law_43 rfl rfl ?_
        refine zz_iconst (v := 1) M dX7_law_44 (by decide) ?_
        refine zz_icmp_lt M 74 dX7_law_45 (by decide) (fun c => ?_) (fun c => ?_)
        · have h := zif (c := x3 < 1) h c
          refine zz_iload_n M 1 dX7_law_74 rfl rfl ?_
          refine zz_iconst (v := 2) M dX7_law_75 (by decide) ?_
          refine zz_icmp_ne M 118 dX7_law_76 (by decide) (fun c => ?_) (fun c => ?_)
          · have h := zifn (c := x1 = 2) h c
            refine zz_bipush (v := (-2)) M dX7_law_118 (by decide) ?_
            exact zz_iret M dX7_law_120 h
          · have h := zif (c := x1 = 2) h c
            refine zz_aload_n M 0 dX7_law_79 rfl rfl ?_
            refine zz_iload_n M 2 dX7_law_80 rfl rfl ?_
            refine zz_callVI (d' := 1) (As := [.int x2]) (rest := []) M l_X7_142 tX_0 rfl rfl dX7_law_81 rfl rfl (by decide) (Nat.le_of_ble_eq_true rfl) (by have hI := M.2.2.2.2.2.2.2.2; exact kX7_isMaster hI _  _ _ h) (fun r127 σ128 h => ?_)
            refine zz_if_eq (y0 := 0) M 118 dX7_law_84 (by decide) (fun c => ?_) (fun c => ?_)
            · have h := zif (c := r127 = 0) h c
              refine zz_bipush (v := (-2)) M dX7_law_118 (by decide) ?_
              exact zz_iret M dX7_law_120 h
            · have h := zifn (c := r127 = 0) h c
              refine zz_iload_n M 3 dX7_law_87 rfl rfl ?_
              refine zz_callSI (d' := 1) (As := [.int x3]) (rest := []) M l_X7_110 dX7_law_88 rfl rfl (by decide) (Nat.le_of_ble_eq_true rfl) (by have hI := M.2.2.2.2.2.2.2.2; exact kX7_isDigit hI _  _ _ h) (fun r129 σ130 h => ?_)
              refine zz_if_eq (y0 := 0) M 118 dX7_law_91 (by decide) (fun c => ?_) (fun c => ?_)
              · have h := zif (c := r129 = 0) h c
                refine zz_bipush (v := (-2)) M dX7_law_118 (by decide) ?_
                exact zz_iret M dX7_law_120 h
              · have h := zifn (c := r129 = 0) h c
                refine zz_aload_n M 0 dX7_law_94 rfl rfl ?_
                refine zz_getR M f_X7_12 tX_0 rfl dX7_law_95 ?_
                refine zz_getR M f_X7_145 tX_1 rfl dX7_law_98 ?_
                refine zz_iload_n M 2 dX7_law_101 rfl rfl ?_
                refine zz_iald M tX_8 h.1 dX7_law_102 ?_
                have h := h.2
                refine zz_topi (fun x131 ex131 => ?_)
                have h := h x131 ex131
                refine zz_istore M [(4, .int x131), (0, .ref (ad 0)), (1, .int x1), (2, .int x2), (3, .int x3)] dX7_law_103 (by decide) rfl ?_
                refine zz_aload_n M 1 dX7_law_105 rfl rfl ?_
                refine zz_getR M f_X7_12 tX_0 rfl dX7_law_106 ?_
                refine zz_getR M f_X7_145 tX_1 rfl dX7_law_109 ?_
                refine zz_iload_n M 3 dX7_law_112 rfl rfl ?_
                refine zz_iload_n M 4 dX7_law_113 rfl rfl ?_
                refine zz_iast M tX_8 h.1 dX7_law_114 ?_
                have h := h.2
                refine zz_sg (fun σ132 eσ132 => ?_)
                have h := h σ132 eσ132
                refine zz_iload M 0 dX7_law_115 rfl ?_
                exact zz_iret M dX7_law_117 h
        · have h := zifn (c := x3 < 1) h c
          refine zz_iload_n M 3 dX7_law_48 rfl rfl ?_
          refine zz_bipush (v := 9) M dX7_law_49 (by decide) ?_
          refine zz_icmp_gt M 74 dX7_law_51 (by decide) (fun c => ?_) (fun c => ?_)
          · have h := zif (c := 9 < x3) h c
            refine zz_iload_n M 1 dX7_law_74 rfl rfl ?_
            refine zz_iconst (v := 2) M dX7_law_75 (by decide) ?_
            refine zz_icmp_ne M 118 dX7_law_76 (by decide) (fun c => ?_) (fun c => ?_)
            · have h := zifn (c := x1 = 2) h c
              refine zz_bipush (v := (-2)) M dX7_law_118 (by decide) ?_
              exact zz_iret M dX7_law_120 h
            · have h := zif (c := x1 = 2) h c
              refine zz_aload_n M 0 dX7_law_79 rfl rfl ?_
              refine zz_iload_n M 2 dX7_law_80 rfl rfl ?_
              refine zz_callVI (d' := 1) (As := [.int x2]) (rest := []) M l_X7_142 tX_0 rfl rfl dX7_law_81 rfl rfl (by decide) (Nat.le_of_ble_eq_true rfl) (by have hI := M.2.2.2.2.2.2.2.2; exact kX7_isMaster hI _  _ _ h) (fun r133 σ134 h => ?_)
              refine zz_if_eq (y0 := 0) M 118 dX7_law_84 (by decide) (fun c => ?_) (fun c => ?_)
              · have h := zif (c := r133 = 0) h c
                refine zz_bipush (v := (-2)) M dX7_law_118 (by decide) ?_
                exact zz_iret M dX7_law_120 h
              · have h := zifn (c := r133 = 0) h c
                refine zz_iload_n M 3 dX7_law_87 rfl rfl ?_
                refine zz_callSI (d' := 1) (As := [.int x3]) (rest := []) M l_X7_110 dX7_law_88 rfl rfl (by decide) (Nat.le_of_ble_eq_true rfl) (by have hI := M.2.2.2.2.2.2.2.2; exact kX7_isDigit hI _  _ _ h) (fun r135 σ136 h => ?_)
                refine zz_if_eq (y0 := 0) M 118 dX7_law_91 (by decide) (fun c => ?_) (fun c => ?_)
                · have h := zif (c := r135 = 0) h c
                  refine zz_bipush (v := (-2)) M dX7_law_118 (by decide) ?_
                  exact zz_iret M dX7_law_120 h
                · have h := zifn (c := r135 = 0) h c
                  refine zz_aload_n M 0 dX7_law_94 rfl rfl ?_
                  refine zz_getR M f_X7_12 tX_0 rfl dX7_law_95 ?_
                  refine zz_getR M f_X7_145 tX_1 rfl dX7_law_98 ?_
                  refine zz_iload_n M 2 dX7_law_101 rfl rfl ?_
                  refine zz_iald M tX_8 h.1 dX7_law_102 ?_
                  have h := h.2
                  refine zz_topi (fun x137 ex137 => ?_)
                  have h := h x137 ex137
                  refine zz_istore M [(4, .int x137), (0, .ref (ad 0)), (1, .int x1), (2, .int x2), (3, .int x3)] dX7_law_103 (by decide) rfl ?_
                  refine zz_aload_n M 1 dX7_law_105 rfl rfl ?_
                  refine zz_getR M f_X7_12 tX_0 rfl dX7_law_106 ?_
                  refine zz_getR M f_X7_145 tX_1 rfl dX7_law_109 ?_
                  refine zz_iload_n M 3 dX7_law_112 rfl rfl ?_
                  refine zz_iload_n M 4 dX7_law_113 rfl rfl ?_
                  refine zz_iast M tX_8 h.1 dX7_law_114 ?_
                  have h := h.2
                  refine zz_sg (fun σ138 eσ138 => ?_)
                  have h := h σ138 eσ138
                  refine zz_iload M 0 dX7_law_115 rfl ?_
                  exact zz_iret M dX7_law_117 h
          · have h := zifn (c := 9 < x3) h c
            refine zz_aload_n M 0 dX7_law_54 rfl rfl ?_
            refine zz_getR M f_X7_12 tX_0 rfl dX7_law_55 ?_
            refine zz_getI M f_X7_139 tX_1 rfl dX7_law_58 ?_
            refine zz_topi (fun x139 ex139 => ?_)
            have h := h x139 ex139
            refine zz_istore M [(4, .int x139), (0, .ref (ad 0)), (1, .int x1), (2, .int x2), (3, .int x3)] dX7_law_61 (by decide) rfl ?_
            refine zz_aload_n M 1 dX7_law_63 rfl rfl ?_
            refine zz_getR M f_X7_12 tX_0 rfl dX7_law_64 ?_
            refine zz_iload_n M 4 dX7_law_67 rfl rfl ?_
            refine zz_putI M f_X7_139 tX_1 rfl dX7_law_68 ?_
            refine zz_sg (fun σ140 eσ140 => ?_)
            have h := h σ140 eσ140
            refine zz_iload M 0 dX7_law_71 rfl ?_
            exact zz_iret M dX7_law_73 h
    · have h := zifn (c := x3 < 1) h c
      refine zz_iload_n M 3 dX7_law_9 rfl rfl ?_
      refine zz_iconst (v := 4) M dX7_law_10 (by decide) ?_
      refine zz_icmp_gt M 38 dX7_law_11 (by decide) (fun c => ?_) (fun c => ?_)
      · have h := zif (c := 4 < x3) h c
        refine zz_iload_n M 1 dX7_law_38 rfl rfl ?_
        refine zz_iconst (v := 1) M dX7_law_39 (by decide) ?_
        refine zz_icmp_ne M 74 dX7_law_40 (by decide) (fun c => ?_) (fun c => ?_)
        · have h := zifn (c := x1 = 1) h c
          refine zz_iload_n M 1 dX7_law_74 rfl rfl ?_
          refine zz_iconst (v := 2) M dX7_law_75 (by decide) ?_
          refine zz_icmp_ne M 118 dX7_law_76 (by decide) (fun c => ?_) (fun c => ?_)
          · have h := zifn (c := x1 = 2) h c
            refine zz_bipush (v := (-2)) M dX7_law_118 (by decide) ?_
            exact zz_iret M dX7_law_120 h
          · have h := zif (c := x1 = 2) h c
            refine zz_aload_n M 0 dX7_law_79 rfl rfl ?_
            refine zz_iload_n M 2 dX7_law_80 rfl rfl ?_
            refine zz_callVI (d' := 1) (As := [.int x2]) (rest := []) M l_X7_142 tX_0 rfl rfl dX7_law_81 rfl rfl (by decide) (Nat.le_of_ble_eq_true rfl) (by have hI := M.2.2.2.2.2.2.2.2; exact kX7_isMaster hI _  _ _ h) (fun r141 σ142 h => ?_)
            refine zz_if_eq (y0 := 0) M 118 dX7_law_84 (by decide) (fun c => ?_) (fun c => ?_)
            · have h := zif (c := r141 = 0) h c
              refine zz_bipush (v := (-2)) M dX7_law_118 (by decide) ?_
              exact zz_iret M dX7_law_120 h
            · have h := zifn (c := r141 = 0) h c
              refine zz_iload_n M 3 dX7_law_87 rfl rfl ?_
              refine zz_callSI (d' := 1) (As := [.int x3]) (rest := []) M l_X7_110 dX7_law_88 rfl rfl (by decide) (Nat.le_of_ble_eq_true rfl) (by have hI := M.2.2.2.2.2.2.2.2; exact kX7_isDigit hI _  _ _ h) (fun r143 σ144 h => ?_)
              refine zz_if_eq (y0 := 0) M 118 dX7_law_91 (by decide) (fun c => ?_) (fun c => ?_)
              · have h := zif (c := r143 = 0) h c
                refine zz_bipush (v := (-2)) M dX7_law_118 (by decide) ?_
                exact zz_iret M dX7_law_120 h
              · have h := zifn (c := r143 = 0) h c
                refine zz_aload_n M 0 dX7_law_94 rfl rfl ?_
                refine zz_getR M f_X7_12 tX_0 rfl dX7_law_95 ?_
                refine zz_getR M f_X7_145 tX_1 rfl dX7_law_98 ?_
                refine zz_iload_n M 2 dX7_law_101 rfl rfl ?_
                refine zz_iald M tX_8 h.1 dX7_law_102 ?_
                have h := h.2
                refine zz_topi (fun x145 ex145 => ?_)
                have h := h x145 ex145
                refine zz_istore M [(4, .int x145), (0, .ref (ad 0)), (1, .int x1), (2, .int x2), (3, .int x3)] dX7_law_103 (by decide) rfl ?_
                refine zz_aload_n M 1 dX7_law_105 rfl rfl ?_
                refine zz_getR M f_X7_12 tX_0 rfl dX7_law_106 ?_
                refine zz_getR M f_X7_145 tX_1 rfl dX7_law_109 ?_
                refine zz_iload_n M 3 dX7_law_112 rfl rfl ?_
                refine zz_iload_n M 4 dX7_law_113 rfl rfl ?_
                refine zz_iast M tX_8 h.1 dX7_law_114 ?_
                have h := h.2
                refine zz_sg (fun σ146 eσ146 => ?_)
                have h := h σ146 eσ146
                refine zz_iload M 0 dX7_law_115 rfl ?_
                exact zz_iret M dX7_law_117 h
        · have h := zif (c := x1 = 1) h c
          refine zz_iload_n M 3 dX7_law_43 rfl rfl ?_
          refine zz_iconst (v := 1) M dX7_law_44 (by decide) ?_
          refine zz_icmp_lt M 74 dX7_law_45 (by decide) (fun c => ?_) (fun c => ?_)
          · have h := zif (c := x3 < 1) h c
            refine zz_iload_n M 1 dX7_law_74 rfl rfl ?_
            refine zz_iconst (v := 2) M dX7_law_75 (by decide) ?_
            refine zz_icmp_ne M 118 dX7_law_76 (by decide) (fun c => ?_) (fun c => ?_)
            · have h := zifn (c := x1 = 2) h c
              refine zz_bipush (v := (-2)) M dX7_law_118 (by decide) ?_
              exact zz_iret M dX7_law_120 h
            · have h := zif (c := x1 = 2) h c
              refine zz_aload_n M 0 dX7_law_79 rfl rfl ?_
              refine zz_iload_n M 2 dX7_law_80 rfl rfl ?_
              refine zz_callVI (d' := 1) (As := [.int x2]) (rest := []) M l_X7_142 tX_0 rfl rfl dX7_law_81 rfl rfl (by decide) (Nat.le_of_ble_eq_true rfl) (by have hI := M.2.2.2.2.2.2.2.2; exact kX7_isMaster hI _  _ _ h) (fun r147 σ148 h => ?_)
              refine zz_if_eq (y0 := 0) M 118 dX7_law_84 (by decide) (fun c => ?_) (fun c => ?_)
              · have h := zif (c := r147 = 0) h c
                refine zz_bipush (v := (-2)) M dX7_law_118 (by decide) ?_
                exact zz_iret M dX7_law_120 h
              · have h := zifn (c := r147 = 0) h c
                refine zz_iload_n M 3 dX7_law_87 rfl rfl ?_
                refine zz_callSI (d' := 1) (As := [.int x3]) (rest := []) M l_X7_110 dX7_law_88 rfl rfl (by decide) (Nat.le_of_ble_eq_true rfl) (by have hI := M.2.2.2.2.2.2.2.2; exact kX7_isDigit hI _  _ _ h) (fun r149 σ150 h => ?_)
                refine zz_if_eq (y0 := 0) M 118 dX7_law_91 (by decide) (fun c => ?_) (fun c => ?_)
                · have h := zif (c := r149 = 0) h c
                  refine zz_bipush (v := (-2)) M dX7_law_118 (by decide) ?_
                  exact zz_iret M dX7_law_120 h
                · have h := zifn (c := r149 = 0) h c
                  refine zz_aload_n M 0 dX7_law_94 rfl rfl ?_
                  refine zz_getR M f_X7_12 tX_0 rfl dX7_law_95 ?_
                  refine zz_getR M f_X7_145 tX_1 rfl dX7_law_98 ?_
                  refine zz_iload_n M 2 dX7_law_101 rfl rfl ?_
                  refine zz_iald M tX_8 h.1 dX7_law_102 ?_
                  have h := h.2
                  refine zz_topi (fun x151 ex151 => ?_)
                  have h := h x151 ex151
                  refine zz_istore M [(4, .int x151), (0, .ref (ad 0)), (1, .int x1), (2, .int x2), (3, .int x3)] dX7_law_103 (by decide) rfl ?_
                  refine zz_aload_n M 1 dX7_law_105 rfl rfl ?_
                  refine zz_getR M f_X7_12 tX_0 rfl dX7_law_106 ?_
                  refine zz_getR M f_X7_145 tX_1 rfl dX7_law_109 ?_
                  refine zz_iload_n M 3 dX7_law_112 rfl rfl ?_
                  refine zz_iload_n M 4 dX7_law_113 rfl rfl ?_
                  refine zz_iast M tX_8 h.1 dX7_law_114 ?_
                  have h := h.2
                  refine zz_sg (fun σ152 eσ152 => ?_)
                  have h := h σ152 eσ152
                  refine zz_iload M 0 dX7_law_115 rfl ?_
                  exact zz_iret M dX7_law_117 h
          · have h := zifn (c := x3 < 1) h c
            refine zz_iload_n M 3 dX7_law_48 rfl rfl ?_
            refine zz_bipush (v := 9) M dX7_law_49 (by decide) ?_
            refine zz_icmp_gt M 74 dX7_law_51 (by decide) (fun c => ?_) (fun c => ?_)
            · have h := zif (c := 9 < x3) h c
              refine zz_iload_n M 1 dX7_law_74 rfl rfl ?_
              refine zz_iconst (v := 2) M dX7_law_75 (by decide) ?_
              refine zz_icmp_ne M 118 dX7_law_76 (by decide) (fun c => ?_) (fun c => ?_)
              · have h := zifn (c := x1 = 2) h c
                refine zz_bipush (v := (-2)) M dX7_law_118 (by decide) ?_
                exact zz_iret M dX7_law_120 h
              · have h := zif (c := x1 = 2) h c
                refine zz_aload_n M 0 dX7_law_79 rfl rfl ?_
                refine zz_iload_n M 2 dX7_law_80 rfl rfl ?_
                refine zz_callVI (d' := 1) (As := [.int x2]) (rest := []) M l_X7_142 tX_0 rfl rfl dX7_law_81 rfl rfl (by decide) (Nat.le_of_ble_eq_true rfl) (by have hI := M.2.2.2.2.2.2.2.2; exact kX7_isMaster hI _  _ _ h) (fun r153 σ154 h => ?_)
                refine zz_if_eq (y0 := 0) M 118 dX7_law_84 (by decide) (fun c => ?_) (fun c => ?_)
                · have h := zif (c := r153 = 0) h c
                  refine zz_bipush (v := (-2)) M dX7_law_118 (by decide) ?_
                  exact zz_iret M dX7_law_120 h
                · have h := zifn (c := r153 = 0) h c
                  refine zz_iload_n M 3 dX7_law_87 rfl rfl ?_
                  refine zz_callSI (d' := 1) (As := [.int x3]) (rest := []) M l_X7_110 dX7_law_88 rfl rfl (by decide) (Nat.le_of_ble_eq_true rfl) (by have hI := M.2.2.2.2.2.2.2.2; exact kX7_isDigit hI _  _ _ h) (fun r155 σ156 h => ?_)
                  refine zz_if_eq (y0 := 0) M 118 dX7_law_91 (by decide) (fun c => ?_) (fun c => ?_)
                  · have h := zif (c := r155 = 0) h c
                    refine zz_bipush (v := (-2)) M dX7_law_118 (by decide) ?_
                    exact zz_iret M dX7_law_120 h
                  · have h := zifn (c := r155 = 0) h c
                    refine zz_aload_n M 0 dX7_law_94 rfl rfl ?_
                    refine zz_getR M f_X7_12 tX_0 rfl dX7_law_95 ?_
                    refine zz_getR M f_X7_145 tX_1 rfl dX7_law_98 ?_
                    refine zz_iload_n M 2 dX7_law_101 rfl rfl ?_
                    refine zz_iald M tX_8 h.1 dX7_law_102 ?_
                    have h := h.2
                    refine zz_topi (fun x157 ex157 => ?_)
                    have h := h x157 ex157
                    refine zz_istore M [(4, .int x157), (0, .ref (ad 0)), (1, .int x1), (2, .int x2), (3, .int x3)] dX7_law_103 (by decide) rfl ?_
                    refine zz_aload_n M 1 dX7_law_105 rfl rfl ?_
                    refine zz_getR M f_X7_12 tX_0 rfl dX7_law_106 ?_
                    refine zz_getR M f_X7_145 tX_1 rfl dX7_law_109 ?_
                    refine zz_iload_n M 3 dX7_law_112 rfl rfl ?_
                    refine zz_iload_n M 4 dX7_law_113 rfl rfl ?_
                    refine zz_iast M tX_8 h.1 dX7_law_114 ?_
                    have h := h.2
                    refine zz_sg (fun σ158 eσ158 => ?_)
                    have h := h σ158 eσ158
                    refine zz_iload M 0 dX7_law_115 rfl ?_
                    exact zz_iret M dX7_law_117 h
            · have h := zifn (c := 9 < x3) h c
              refine zz_aload_n M 0 dX7_law_54 rfl rfl ?_
              refine zz_getR M f_X7_12 tX_0 rfl dX7_law_55 ?_
              refine zz_getI M f_X7_139 tX_1 rfl dX7_law_58 ?_
              refine zz_topi (fun x159 ex159 => ?_)
              have h := h x159 ex159
              refine zz_istore M [(4, .int x159), (0, .ref (ad 0)), (1, .int x1), (2, .int x2), (3, .int x3)] dX7_law_61 (by decide) rfl ?_
              refine zz_aload_n M 1 dX7_law_63 rfl rfl ?_
              refine zz_getR M f_X7_12 tX_0 rfl dX7_law_64 ?_
              refine zz_iload_n M 4 dX7_law_67 rfl rfl ?_
              refine zz_putI M f_X7_139 tX_1 rfl dX7_law_68 ?_
              refine zz_sg (fun σ160 eσ160 => ?_)
              have h := h σ160 eσ160
              refine zz_iload M 0 dX7_law_71 rfl ?_
              exact zz_iret M dX7_law_73 h
      · have h := zifn (c := 4 < x3) h c
        refine zz_aload_n M 0 dX7_law_14 rfl rfl ?_
        refine zz_getR M f_X7_12 tX_0 rfl dX7_law_15 ?_
        refine zz_getI M f_X7_136 tX_1 rfl dX7_law_18 ?_
        refine zz_topi (fun x161 ex161 => ?_)
        have h := h x161 ex161
        refine zz_istore M [(4, .int x161), (0, .ref (ad 0)), (1, .int x1), (2, .int x2), (3, .int x3)] dX7_law_21 (by decide) rfl ?_
        refine zz_aload_n M 1 dX7_law_23 rfl rfl ?_
        refine zz_getR M f_X7_12 tX_0 rfl dX7_law_24 ?_
        refine zz_iload_n M 4 dX7_law_27 rfl rfl ?_
        refine zz_putI M f_X7_136 tX_1 rfl dX7_law_28 ?_
        refine zz_sg (fun σ162 eσ162 => ?_)
        have h := h σ162 eσ162
        refine zz_aload_n M 1 dX7_law_31 rfl rfl ?_
        refine zz_callVV (d' := 3) (As := []) (rest := []) M l_X7_125 tX_0 rfl rfl dX7_law_32 rfl rfl (by decide) (Nat.le_of_ble_eq_true rfl) (by have hI := M.2.2.2.2.2.2.2.2; exact kX7_forget hI   _ _ h) (fun σ164 h => ?_)
        refine zz_iload M 0 dX7_law_35 rfl ?_
        exact zz_iret M dX7_law_37 h
end
