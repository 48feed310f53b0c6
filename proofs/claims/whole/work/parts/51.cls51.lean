section
variable {p : Program} {l : Launch} {e : Env} {s : State} {m : MethodId} {args : Array Value} {below : List Frame} {meth : Method} {c : Code} {D : va_G} {cA : Nat → ClassId} {ad : Nat → Nat} {y : zX}
def wX7_up (x1 : Int32) (x2 : Int32) (σ : zSt) (Q : Int32 → zSt → Prop) : Prop := wX7_isMinute x1 σ (fun r101 σ102 => if r101 = 0 then (Q (-2) σ102) else (wX7_isBridge x2 σ102 (fun r103 σ104 => if r103 = 0 then (Q (-2) σ104) else (vp_in x1 24 ∧ (∀ x105 : Int32, x105 = (σ104.1 2 x1.toNatClampNeg) → (vp_in x1 24 ∧ (∀ σ106 : zSt, σ106 = zput σ104 2 x1.toNatClampNeg x2 → (Q x105 σ106))))))))
set_option maxRecDepth 20000 in
set_option maxHeartbeats 4000000 in
theorem kX7_up (hI : zInj tabX ad) (x1 : Int32) (x2 : Int32)  (σ : zSt) (Q : Int32 → zSt → Prop) (h : wX7_up x1 x2 σ Q) : zOkI l tabX D cA ad y 2 yX7_up cX7_up 4 (some .int) [.ref (ad 0), .int x1, .int x2] σ Q := by
  refine zz_enter hI (by decide) (Nat.le_of_ble_eq_true rfl) (fun p e s m below meth c M => ?_)
  have M : zM p s m _ meth c cX7_up 4 RX7 (some .int) tabX D cA ad y := M
  refine zz_ls [(0, .ref (ad 0)), (1, .int x1), (2, .int x2)] rfl ?_
  unfold wX7_up at h
  refine zz_iload_n M 1 dX7_up_0 rfl rfl ?_
  refine zz_callSI (d' := 1) (As := [.int x1]) (rest := []) M l_X7_107 dX7_up_1 rfl rfl (by decide) (Nat.le_of_ble_eq_true rfl) (by have hI := M.2.2.2.2.2.2.2.2; exact kX7_isMinute hI _  _ _ h) (fun r101 σ102 h => ?_)
  refine zz_if_eq (y0 := 0) M 14 dX7_up_4 (by decide) (fun c => ?_) (fun c => ?_)
  · have h := zif (c := r101 = 0) h c
    refine zz_bipush (v := (-2)) M dX7_up_14 (by decide) ?_
    exact zz_iret M dX7_up_16 h
  · have h := zifn (c := r101 = 0) h c
    refine zz_iload_n M 2 dX7_up_7 rfl rfl ?_
    refine zz_callSI (d' := 1) (As := [.int x2]) (rest := []) M l_X7_104 dX7_up_8 rfl rfl (by decide) (Nat.le_of_ble_eq_true rfl) (by have hI := M.2.2.2.2.2.2.2.2; exact kX7_isBridge hI _  _ _ h) (fun r103 σ104 h => ?_)
    refine zz_if_ne (y0 := 0) M 17 dX7_up_11 (by decide) (fun c => ?_) (fun c => ?_)
    · have h := zifn (c := r103 = 0) h c
      refine zz_aload_n M 0 dX7_up_17 rfl rfl ?_
      refine zz_getR M f_X7_12 tX_0 rfl dX7_up_18 ?_
      refine zz_getR M f_X7_148 tX_1 rfl dX7_up_21 ?_
      refine zz_iload_n M 1 dX7_up_24 rfl rfl ?_
      refine zz_iald M tX_2 h.1 dX7_up_25 ?_
      have h := h.2
      refine zz_topi (fun x105 ex105 => ?_)
      have h := h x105 ex105
      refine zz_istore_n M [(3, .int x105), (0, .ref (ad 0)), (1, .int x1), (2, .int x2)] dX7_up_26 rfl (by decide) rfl ?_
      refine zz_aload_n M 1 dX7_up_27 rfl rfl ?_
      refine zz_getR M f_X7_12 tX_0 rfl dX7_up_28 ?_
      refine zz_getR M f_X7_148 tX_1 rfl dX7_up_31 ?_
      refine zz_iload_n M 2 dX7_up_34 rfl rfl ?_
      refine zz_iload_n M 3 dX7_up_35 rfl rfl ?_
      refine zz_iast M tX_2 h.1 dX7_up_36 ?_
      have h := h.2
      refine zz_sg (fun σ106 eσ106 => ?_)
      have h := h σ106 eσ106
      refine zz_iload_n M 0 dX7_up_37 rfl rfl ?_
      exact zz_iret M dX7_up_38 h
    · have h := zif (c := r103 = 0) h c
      refine zz_bipush (v := (-2)) M dX7_up_14 (by decide) ?_
      exact zz_iret M dX7_up_16 h
def wX7_at (x1 : Int32) (σ : zSt) (Q : Int32 → zSt → Prop) : Prop := wX7_isMinute x1 σ (fun r101 σ102 => if r101 = 0 then (Q (-2) σ102) else (vp_in x1 24 ∧ (Q (σ102.1 2 x1.toNatClampNeg) σ102)))
set_option maxRecDepth 20000 in
set_option maxHeartbeats 4000000 in
theorem kX7_at (hI : zInj tabX ad) (x1 : Int32)  (σ : zSt) (Q : Int32 → zSt → Prop) (h : wX7_at x1 σ Q) : zOkI l tabX D cA ad y 2 yX7_at cX7_at 2 (some .int) [.ref (ad 0), .int x1] σ Q := by
  refine zz_enter hI (by decide) (Nat.le_of_ble_eq_true rfl) (fun p e s m below meth c M => ?_)
  have M : zM p s m _ meth c cX7_at 2 RX7 (some .int) tabX D cA ad y := M
  refine zz_ls [(0, .ref (ad 0)), (1, .int x1)] rfl ?_
  unfold wX7_at at h
  refine zz_iload_n M 1 dX7_at_0 rfl rfl ?_
  refine zz_callSI (d' := 1) (As := [.int x1]) (rest := []) M l_X7_107 dX7_at_1 rfl rfl (by decide) (Nat.le_of_ble_eq_true rfl) (by have hI := M.2.2.2.2.2.2.2.2; exact kX7_isMinute hI _  _ _ h) (fun r101 σ102 h => ?_)
  refine zz_if_eq (y0 := 0) M 19 dX7_at_4 (by decide) (fun c => ?_) (fun c => ?_)
  · have h := zif (c := r101 = 0) h c
    refine zz_bipush (v := (-2)) M dX7_at_19 (by decide) ?_
    exact zz_iret M dX7_at_21 h
  · have h := zifn (c := r101 = 0) h c
    refine zz_aload_n M 0 dX7_at_7 rfl rfl ?_
    refine zz_getR M f_X7_12 tX_0 rfl dX7_at_8 ?_
    refine zz_getR M f_X7_148 tX_1 rfl dX7_at_11 ?_
    refine zz_iload_n M 1 dX7_at_14 rfl rfl ?_
    refine zz_iald M tX_2 h.1 dX7_at_15 ?_
    have h := h.2
    refine zz_goto M 21 dX7_at_16 (by decide) ?_
    exact zz_iret M dX7_at_21 h
def wX1_isThere (x1 : Int32) (σ : zSt) (Q : Int32 → zSt → Prop) : Prop := if 4 ≤ x1 then (if (σ.1 3 1) ≤ (x1 - 4) then (Q 0 σ) else (Q 1 σ)) else (if x1 < 0 then (Q 0 σ) else (if (σ.1 3 0) ≤ x1 then (Q 0 σ) else (Q 1 σ)))
set_option maxRecDepth 20000 in
set_option maxHeartbeats 4000000 in
theorem kX1_isThere (hI : zInj tabX ad) (x1 : Int32)  (σ : zSt) (Q : Int32 → zSt → Prop) (h : wX1_isThere x1 σ Q) : zOkI l tabX D cA ad y 1 yX1_isThere cX1_isThere 2 (some .boolean) [.ref (ad 1), .int x1] σ Q := by
  refine zz_enter hI (by decide) (Nat.le_of_ble_eq_true rfl) (fun p e s m below meth c M => ?_)
  have M : zM p s m _ meth c cX1_isThere 2 RX1 (some .boolean) tabX D cA ad y := M
  refine zz_ls [(0, .ref (ad 1)), (1, .int x1)] rfl ?_
  unfold wX1_isThere at h
  refine zz_iload_n M 1 dX1_isThere_0 rfl rfl ?_
  refine zz_iconst (v := 4) M dX1_isThere_1 (by decide) ?_
  refine zz_icmp_ge M 27 dX1_isThere_2 (by decide) (fun c => ?_) (fun c => ?_)
  · have h := zif (c := 4 ≤ x1) h c
    refine zz_iload_n M 1 dX1_isThere_27 rfl rfl ?_
    refine zz_iconst (v := 4) M dX1_isThere_28 (by decide) ?_
    refine zz_isub M dX1_isThere_29 ?_
    refine zz_aload_n M 0 dX1_isThere_30 rfl rfl ?_
    refine zz_getR M f_X1_15 tX_1 rfl dX1_isThere_31 ?_
    refine zz_iconst (v := 1) M dX1_isThere_34 (by decide) ?_
    refine zz_ialdK (kk := 1) M tX_3 (zlit (by decide)) (by decide) dX1_isThere_35 ?_
    refine zz_icmp_ge M 43 dX1_isThere_36 (by decide) (fun c => ?_) (fun c => ?_)
    · have h := zif (c := (σ.1 3 1) ≤ (x1 - 4)) h c
      refine zz_iconst (v := 0) M dX1_isThere_43 (by decide) ?_
      exact zz_zret M dX1_isThere_44 (Or.inl rfl) h
    · have h := zifn (c := (σ.1 3 1) ≤ (x1 - 4)) h c
      refine zz_iconst (v := 1) M dX1_isThere_39 (by decide) ?_
      refine zz_goto M 44 dX1_isThere_40 (by decide) ?_
      exact zz_zret M dX1_isThere_44 (Or.inr rfl) h
  · have h := zifn (c := 4 ≤ x1) h c
    refine zz_iload_n M 1 dX1_isThere_5 rfl rfl ?_
    refine zz_if_lt (y0 := 0) M 23 dX1_isThere_6 (by decide) (fun c => ?_) (fun c => ?_)
    · have h := zif (c := x1 < 0) h c
      refine zz_iconst (v := 0) M dX1_isThere_23 (by decide) ?_
      refine zz_goto M 44 dX1_isThere_24 (by decide) ?_
      exact zz_zret M dX1_isThere_44 (Or.inl rfl) h
    · have h := zifn (c := x1 < 0) h c
      refine zz_iload_n M 1 dX1_isThere_9 rfl rfl ?_
      refine zz_aload_n M 0 dX1_isThere_10 rfl rfl ?_
      refine zz_getR M f_X1_15 tX_1 rfl dX1_isThere_11 ?_
      refine zz_iconst (v := 0) M dX1_isThere_14 (by decide) ?_
      refine zz_ialdK (kk := 0) M tX_3 (zlit (by decide)) (by decide) dX1_isThere_15 ?_
      refine zz_icmp_ge M 23 dX1_isThere_16 (by decide) (fun c => ?_) (fun c => ?_)
      · have h := zif (c := (σ.1 3 0) ≤ x1) h c
        refine zz_iconst (v := 0) M dX1_isThere_23 (by decide) ?_
        refine zz_goto M 44 dX1_isThere_24 (by decide) ?_
        exact zz_zret M dX1_isThere_44 (Or.inl rfl) h
      · have h := zifn (c := (σ.1 3 0) ≤ x1) h c
        refine zz_iconst (v := 1) M dX1_isThere_19 (by decide) ?_
        refine zz_goto M 44 dX1_isThere_20 (by decide) ?_
        exact zz_zret M dX1_isThere_44 (Or.inr rfl) h
def wX0_ofChange (x1 : Int32) (x2 : Int32) (x3 : Int32) (σ : zSt) (Q : Int32 → zSt → Prop) : Prop := wX7_isMinute x1 σ (fun r101 σ102 => if r101 = 0 then (Q 0 σ102) else (wX7_isBridge x2 σ102 (fun r103 σ104 => if r103 = 0 then (Q 0 σ104) else (wX7_isBridge x3 σ104 (fun r105 σ106 => if r105 = 0 then (Q 0 σ106) else (∀ x107 : Int32, x107 = ((200 + (((x1 * 3) + x2) * 3)) + x3) → (vp_in x107 416 ∧ (if (σ106.1 25 x107.toNatClampNeg) = (-1) then (∀ σ108 : zSt, σ108 = zput σ106 26 0 0 → (∀ σ109 : zSt, σ109 = zput σ108 26 1 0 → (∀ σ110 : zSt, σ110 = zput σ109 26 2 x1 → (∀ σ111 : zSt, σ111 = zput σ110 26 3 x3 → (∀ σ112 : zSt, σ112 = zput σ111 26 4 x2 → (wX0_reckon 2 σ112 (fun r113 σ114 => vp_in x107 416 ∧ (∀ σ115 : zSt, σ115 = zput σ114 25 x107.toNatClampNeg r113 → (vp_in x107 416 ∧ (Q (σ115.1 25 x107.toNatClampNeg) σ115)))))))))) else (vp_in x107 416 ∧ (Q (σ106.1 25 x107.toNatClampNeg) σ106))))))))))
set_option maxRecDepth 20000 in
set_option maxHeartbeats 4000000 in
theorem kX0_ofChange (hI : zInj tabX ad) (x1 : Int32) (x2 : Int32) (x3 : Int32)  (σ : zSt) (Q : Int32 → zSt → Prop) (h : wX0_ofChange x1 x2 x3 σ Q) : zOkI l tabX D cA ad y 4 yX0_ofChange cX0_ofChange 5 (some .int) [.ref (ad 24), .int x1, .int x2, .int x3] σ Q := by
  refine zz_enter hI (by decide) (Nat.le_of_ble_eq_true rfl) (fun p e s m below meth c M => ?_)
  have M : zM p s m _ meth c cX0_ofChange 5 RX0 (some .int) tabX D cA ad y := M
  refine zz_ls [(0, .ref (ad 24)), (1, .int x1), (2, .int x2), (3, .int x3)] rfl ?_
  unfold wX0_ofChange at h
  refine zz_iload_n M 1 dX0_ofChange_0 rfl rfl ?_
  refine zz_callNI (d' := 1) (As := [.int x1]) (rest := []) M l_X0_50 dX0_ofChange_1 rfl rfl (by decide) (Nat.le_of_ble_eq_true rfl) (by have hI := M.2.2.2.2.2.2.2.2; exact kX7_isMinute hI _  _ _ h) (fun r101 σ102 h => ?_)
  refine zz_if_eq (y0 := 0) M 21 dX0_ofChange_4 (by decide) (fun c => ?_) (fun c => ?_)
  · have h := zif (c := r101 = 0) h c
    refine zz_iconst (v := 0) M dX0_ofChange_21 (by decide) ?_
    exact zz_iret M dX0_ofChange_22 h
  · have h := zifn (c := r101 = 0) h c
    refine zz_iload_n M 2 dX0_ofChange_7 rfl rfl ?_
    refine zz_callNI (d' := 1) (As := [.int x2]) (rest := []) M l_X0_54 dX0_ofChange_8 rfl rfl (by decide) (Nat.le_of_ble_eq_true rfl) (by have hI := M.2.2.2.2.2.2.2.2; exact kX7_isBridge hI _  _ _ h) (fun r103 σ104 h => ?_)
    refine zz_if_eq (y0 := 0) M 21 dX0_ofChange_11 (by decide) (fun c => ?_) (fun c => ?_)
    · have h := zif (c := r103 = 0) h c
      refine zz_iconst (v := 0) M dX0_ofChange_21 (by decide) ?_
      exact zz_iret M dX0_ofChange_22 h
    · have h := zifn (c := r103 = 0) h c
      refine zz_iload_n M 3 dX0_ofChange_14 rfl rfl ?_
      refine zz_callNI (d' := 1) (As := [.int x3]) (rest := []) M l_X0_54 dX0_ofChange_15 rfl rfl (by decide) (Nat.le_of_ble_eq_true rfl) (by have hI := M.2.2.2.2.2.2.2.2; exact kX7_isBridge hI _  _ _ h) (fun r105 σ106 h => ?_)
      refine zz_if_ne (y0 := 0) M 23 dX0_ofChange_18 (by decide) (fun c => ?_) (fun c => ?_)
      · have h := zifn (c := r105 = 0) h c
        refine zz_sipush (v := 200) M dX0_ofChange_23 (by decide) ?_
        refine zz_iload_n M 1 dX0_ofChange_26 rfl rfl ?_
        refine zz_iconst (v := 3) M dX0_ofChange_27 (by decide) ?_
        refine zz_imul M dX0_ofChange_28 ?_
        refine zz_iload_n M 2 dX0_ofChange_29 rfl rfl ?_
        refine zz_iadd M dX0_ofChange_30 ?_
        refine zz_iconst (v := 3) M dX0_ofChange_31 (by decide) ?_
        refine zz_imul M dX0_ofChange_32 ?_
        refine zz_iadd M dX0_ofChange_33 ?_
        refine zz_iload_n M 3 dX0_ofChange_34 rfl rfl ?_
        refine zz_iadd M dX0_ofChange_35 ?_
        refine zz_topi (fun x107 ex107 => ?_)
        have h := h x107 ex107
        refine zz_istore M [(4, .int x107), (0, .ref (ad 24)), (1, .int x1), (2, .int x2), (3, .int x3)] dX0_ofChange_36 (by decide) rfl ?_
        refine zz_aload_n M 1 dX0_ofChange_38 rfl rfl ?_
        refine zz_getR M f_X0_11 tX_24 rfl dX0_ofChange_39 ?_
        refine zz_iload M 0 dX0_ofChange_42 rfl ?_
        refine zz_iald M tX_25 h.1 dX0_ofChange_44 ?_
        have h := h.2
        refine zz_iconst (v := (-1)) M dX0_ofChange_45 (by decide) ?_
        refine zz_icmp_ne M 96 dX0_ofChange_46 (by decide) (fun c => ?_) (fun c => ?_)
        · have h := zifn (c := (σ106.1 25 x107.toNatClampNeg) = (-1)) h c
          refine zz_aload_n M 1 dX0_ofChange_96 rfl rfl ?_
          refine zz_getR M f_X0_11 tX_24 rfl dX0_ofChange_97 ?_
          refine zz_iload M 0 dX0_ofChange_100 rfl ?_
          refine zz_iald M tX_25 h.1 dX0_ofChange_102 ?_
          have h := h.2
          exact zz_iret M dX0_ofChange_103 h
        · have h := zif (c := (σ106.1 25 x107.toNatClampNeg) = (-1)) h c
          refine zz_aload_n M 1 dX0_ofChange_49 rfl rfl ?_
          refine zz_getR M f_X0_15 tX_24 rfl dX0_ofChange_50 ?_
          refine zz_iconst (v := 0) M dX0_ofChange_53 (by decide) ?_
          refine zz_iconst (v := 0) M dX0_ofChange_54 (by decide) ?_
          refine zz_iastK (kk := 0) M tX_26 (zlit (by decide)) (by decide) dX0_ofChange_55 ?_
          refine zz_sg (fun σ108 eσ108 => ?_)
          have h := h σ108 eσ108
          refine zz_aload_n M 1 dX0_ofChange_56 rfl rfl ?_
          refine zz_getR M f_X0_15 tX_24 rfl dX0_ofChange_57 ?_
          refine zz_iconst (v := 1) M dX0_ofChange_60 (by decide) ?_
          refine zz_iconst (v := 0) M dX0_ofChange_61 (by decide) ?_
          refine zz_iastK (kk := 1) M tX_26 (zlit (by decide)) (by decide) dX0_ofChange_62 ?_
          refine zz_sg (fun σ109 eσ109 => ?_)
          have h := h σ109 eσ109
          refine zz_aload_n M 1 dX0_ofChange_63 rfl rfl ?_
          refine zz_getR M f_X0_15 tX_24 rfl dX0_ofChange_64 ?_
          refine zz_iconst (v := 2) M dX0_ofChange_67 (by decide) ?_
          refine zz_iload_n M 2 dX0_ofChange_68 rfl rfl ?_
          refine zz_iastK (kk := 2) M tX_26 (zlit (by decide)) (by decide) dX0_ofChange_69 ?_
          refine zz_sg (fun σ110 eσ110 => ?_)
          have h := h σ110 eσ110
          refine zz_aload_n M 1 dX0_ofChange_70 rfl rfl ?_
          refine zz_getR M f_X0_15 tX_24 rfl dX0_ofChange_71 ?_
          refine zz_iconst (v := 3) M dX0_ofChange_74 (by decide) ?_
          refine zz_iload_n M 4 dX0_ofChange_75 rfl rfl ?_
          refine zz_iastK (kk := 3) M tX_26 (zlit (by decide)) (by decide) dX0_ofChange_76 ?_
          refine zz_sg (fun σ111 eσ111 => ?_)
          have h := h σ111 eσ111
          refine zz_aload_n M 1 dX0_ofChange_77 rfl rfl ?_
          refine zz_getR M f_X0_15 tX_24 rfl dX0_ofChange_78 ?_
          refine zz_iconst (v := 4) M dX0_ofChange_81 (by decide) ?_
          refine zz_iload_n M 3 dX0_ofChange_82 rfl rfl ?_
          refine zz_iastK (kk := 4) M tX_26 (zlit (by decide)) (by decide) dX0_ofChange_83 ?_
          refine zz_sg (fun σ112 eσ112 => ?_)
          have h := h σ112 eσ112
          refine zz_aload_n M 1 dX0_ofChange_84 rfl rfl ?_
          refine zz_getR M f_X0_11 tX_24 rfl dX0_ofChange_85 ?_
          refine zz_iload M 0 dX0_ofChange_88 rfl ?_
          refine zz_aload_n M 1 dX0_ofChange_90 rfl rfl ?_
          refine zz_iconst (v := 2) M dX0_ofChange_91 (by decide) ?_
          refine zz_callVI (d' := 3) (As := [.int 2]) (rest := [.int x107, .ref (ad 25)]) M l_X0_46 tX_24 rfl rfl dX0_ofChange_92 rfl rfl (by decide) (Nat.le_of_ble_eq_true rfl) (by have hI := M.2.2.2.2.2.2.2.2; exact kX0_reckon hI _  _ _ h) (fun r113 σ114 h => ?_)
          refine zz_iast M tX_25 h.1 dX0_ofChange_95 ?_
          have h := h.2
          refine zz_sg (fun σ115 eσ115 => ?_)
          have h := h σ115 eσ115
          refine zz_aload_n M 1 dX0_ofChange_96 rfl rfl ?_
          refine zz_getR M f_X0_11 tX_24 rfl dX0_ofChange_97 ?_
          refine zz_iload M 0 dX0_ofChange_100 rfl ?_
          refine zz_iald M tX_25 h.1 dX0_ofChange_102 ?_
          have h := h.2
          exact zz_iret M dX0_ofChange_103 h
      · have h := zif (c := r105 = 0) h c
        refine zz_iconst (v := 0) M dX0_ofChange_21 (by decide) ?_
        exact zz_iret M dX0_ofChange_22 h
def wX0_ofRow_2_L4 (Q : Int32 → zSt → Prop) (K44 : Int32 → zSt → Prop)  : Nat → Int32 → Int32 → zSt → Prop
  | 0, _, _, _ => False
  | n + 1, x2, x3, σ => if 8 ≤ x3 then (K44 x2 σ) else (wX1_isThere x3 σ (fun r101 σ102 => if r101 = 0 then (∀ x103 : Int32, x103 = x3 + 1 → (wX0_ofRow_2_L4 Q K44  n x2 x103 σ102)) else (wX1_through_2 x3 σ102 (fun r104 σ105 => wX0_ofOne x3 r104 σ105 (fun r106 σ107 => ∀ x108 : Int32, x108 = (x2 + r106) → (∀ x109 : Int32, x109 = x3 + 1 → (wX0_ofRow_2_L4 Q K44  n x108 x109 σ107)))))))
set_option maxRecDepth 20000 in
set_option maxHeartbeats 4000000 in
theorem sX0_ofRow_2_L4 {Q : Int32 → zSt → Prop} {K44 : Int32 → zSt → Prop}   (M : zM p s m args meth c cX0_ofRow 4 RX0 (some .int) tabX D cA ad y) (hK44 : ∀ (v2 : Int32) (σ : zSt), K44 v2 σ → zG p l e (zrm 5) s m args below meth c 4 tabX D cA ad (MQ below (va_Qi Q (fun σ' t => va_P D vwCl (zws tabX cA ad σ') t.heap) (zIn tabX ad)) args s 0 0 (zIn tabX ad)) 44 [(0, .ref (ad 24)), (1, .ref (ad 2)), (2, .int v2)] [] σ) : ∀ (n : Nat) (x2 : Int32) (x3 : Int32) (σ : zSt), wX0_ofRow_2_L4 Q K44  n x2 x3 σ → zG p l e (zrm 5) s m args below meth c 4 tabX D cA ad (MQ below (va_Qi Q (fun σ' t => va_P D vwCl (zws tabX cA ad σ') t.heap) (zIn tabX ad)) args s 0 0 (zIn tabX ad)) 4 [(0, .ref (ad 24)), (1, .ref (ad 2)), (2, .int x2), (3, .int x3)] [] σ := by
  intro n
  induction n with
  | zero => intro x2 x3 σ h; exact absurd h (by simp [wX0_ofRow_2_L4])
  | succ n ih =>
    intro x2 x3 σ h
    unfold wX0_ofRow_2_L4 at h
    refine zz_iload_n M 3 dX0_ofRow_4 rfl rfl ?_
    refine zz_bipush (v := 8) M dX0_ofRow_5 (by decide) ?_
    refine zz_icmp_ge M 44 dX0_ofRow_7 (by decide) (fun c => ?_) (fun c => ?_)
    · have h := zif (c := 8 ≤ x3) h c
      refine zz_sub [(0, .ref (ad 24)), (1, .ref (ad 2)), (2, .int x2)] [0, 1, 2] rfl ?_
      exact hK44 _ _ h
    · have h := zifn (c := 8 ≤ x3) h c
      refine zz_aload_n M 0 dX0_ofRow_10 rfl rfl ?_
      refine zz_getR M f_X0_21 tX_24 rfl dX0_ofRow_11 ?_
      refine zz_iload_n M 3 dX0_ofRow_14 rfl rfl ?_
      refine zz_callVI (d' := 1) (As := [.int x3]) (rest := []) M l_X0_57 tX_1 rfl rfl dX0_ofRow_15 rfl rfl (by decide) (Nat.le_of_ble_eq_true rfl) (by have hI := M.2.2.2.2.2.2.2.2; exact kX1_isThere hI _  _ _ h) (fun r101 σ102 h => ?_)
      refine zz_if_eq (y0 := 0) M 38 dX0_ofRow_18 (by decide) (fun c => ?_) (fun c => ?_)
      · have h := zif (c := r101 = 0) h c
        obtain ⟨x103, ex103⟩ : ∃ z : Int32, z = x3 + 1 := ⟨_, rfl⟩
        have h := h x103 ex103
        refine zz_iinc M [(3, .int x103), (0, .ref (ad 24)), (1, .ref (ad 2)), (2, .int x2)] 3 dX0_ofRow_38 rfl (n32 := 1) (by decide) ex103 (by decide) rfl ?_
        refine zz_goto M 4 dX0_ofRow_41 (by decide) ?_
        refine zz_sub [(0, .ref (ad 24)), (1, .ref (ad 2)), (2, .int x2), (3, .int x103)] [1, 2, 3, 0] rfl ?_
        exact ih _ _ _ h
      · have h := zifn (c := r101 = 0) h c
        refine zz_iload_n M 2 dX0_ofRow_21 rfl rfl ?_
        refine zz_aload_n M 0 dX0_ofRow_22 rfl rfl ?_
        refine zz_iload_n M 3 dX0_ofRow_23 rfl rfl ?_
        refine zz_aload_n M 0 dX0_ofRow_24 rfl rfl ?_
        refine zz_getR M f_X0_21 tX_24 rfl dX0_ofRow_25 ?_
        refine zz_iload_n M 3 dX0_ofRow_28 rfl rfl ?_
        refine zz_aload_n M 1 dX0_ofRow_29 rfl rfl ?_
        refine zz_callVI (d' := 2) (As := [.int x3, .ref (ad 2)]) (rest := [.int x3, .ref (ad 24), .int x2]) M l_X0_60 tX_1 rfl rfl dX0_ofRow_30 rfl rfl (by decide) (Nat.le_of_ble_eq_true rfl) (by have hI := M.2.2.2.2.2.2.2.2; exact kX1_through_2 hI _  _ _ h) (fun r104 σ105 h => ?_)
        refine zz_callVI (d' := 4) (As := [.int x3, .int r104]) (rest := [.int x2]) M l_X0_64 tX_24 rfl rfl dX0_ofRow_33 rfl rfl (by decide) (Nat.le_of_ble_eq_true rfl) (by have hI := M.2.2.2.2.2.2.2.2; exact kX0_ofOne hI _ _  _ _ h) (fun r106 σ107 h => ?_)
        refine zz_iadd M dX0_ofRow_36 ?_
        refine zz_topi (fun x108 ex108 => ?_)
        have h := h x108 ex108
        refine zz_istore_n M [(2, .int x108), (0, .ref (ad 24)), (1, .ref (ad 2)), (3, .int x3)] dX0_ofRow_37 rfl (by decide) rfl ?_
        obtain ⟨x109, ex109⟩ : ∃ z : Int32, z = x3 + 1 := ⟨_, rfl⟩
        have h := h x109 ex109
        refine zz_iinc M [(3, .int x109), (2, .int x108), (0, .ref (ad 24)), (1, .ref (ad 2))] 3 dX0_ofRow_38 rfl (n32 := 1) (by decide) ex109 (by decide) rfl ?_
        refine zz_goto M 4 dX0_ofRow_41 (by decide) ?_
        refine zz_sub [(0, .ref (ad 24)), (1, .ref (ad 2)), (2, .int x108), (3, .int x109)] [2, 3, 1, 0] rfl ?_
        exact ih _ _ _ h
def wX0_ofRow_2_L46 (Q : Int32 → zSt → Prop) (K91 : Int32 → zSt → Prop)  : Nat → Int32 → Int32 → zSt → Prop
  | 0, _, _, _ => False
  | n + 1, x2, x3, σ => if 24 ≤ x3 then (K91 x2 σ) else (if 24 ≤ x3 then (K91 x2 σ) else (vp_in x3 24 ∧ (vp_in (x3 - 1) 24 ∧ (if (σ.1 2 x3.toNatClampNeg) = (σ.1 2 (x3 - 1 : Int32).toNatClampNeg) then (∀ x112 : Int32, x112 = x3 + 1 → (wX0_ofRow_2_L46 Q K91  n x2 x112 σ)) else (vp_in (x3 - 1) 24 ∧ (vp_in x3 24 ∧ (∀ a113 : Int32, a113 = (σ.1 2 (x3 - 1 : Int32).toNatClampNeg) → (∀ a114 : Int32, a114 = (σ.1 2 x3.toNatClampNeg) → (wX0_ofChange x3 a113 a114 σ (fun r115 σ116 => ∀ x117 : Int32, x117 = (x2 + r115) → (∀ x118 : Int32, x118 = x3 + 1 → (wX0_ofRow_2_L46 Q K91  n x117 x118 σ116))))))))))))
set_option maxRecDepth 20000 in
set_option maxHeartbeats 4000000 in
theorem sX0_ofRow_2_L46 {Q : Int32 → zSt → Prop} {K91 : Int32 → zSt → Prop}   (M : zM p s m args meth c cX0_ofRow 4 RX0 (some .int) tabX D cA ad y) (hK91 : ∀ (v2 : Int32) (σ : zSt), K91 v2 σ → zG p l e (zrm 5) s m args below meth c 4 tabX D cA ad (MQ below (va_Qi Q (fun σ' t => va_P D vwCl (zws tabX cA ad σ') t.heap) (zIn tabX ad)) args s 0 0 (zIn tabX ad)) 91 [(2, .int v2)] [] σ) : ∀ (n : Nat) (x2 : Int32) (x3 : Int32) (σ : zSt), wX0_ofRow_2_L46 Q K91  n x2 x3 σ → zG p l e (zrm 5) s m args below meth c 4 tabX D cA ad (MQ below (va_Qi Q (fun σ' t => va_P D vwCl (zws tabX cA ad σ') t.heap) (zIn tabX ad)) args s 0 0 (zIn tabX ad)) 46 [(0, .ref (ad 24)), (1, .ref (ad 2)), (2, .int x2), (3, .int x3)] [] σ := by
  intro n
  induction n with
  | zero => intro x2 x3 σ h; exact absurd h (by simp [wX0_ofRow_2_L46])
  | succ n ih =>
    intro x2 x3 σ h
    unfold wX0_ofRow_2_L46 at h
    refine zz_iload_n M 3 dX0_ofRow_46 rfl rfl ?_
    refine zz_bipush (v := 24) M dX0_ofRow_47 (by decide) ?_
    refine zz_icmp_ge M 91 dX0_ofRow_49 (by decide) (fun c => ?_) (fun c => ?_)
    · have h := zif (c := 24 ≤ x3) h c
      refine zz_sub [(2, .int x2)] [2] rfl ?_
      exact hK91 _ _ h
    · have h := zifn (c := 24 ≤ x3) h c
      refine zz_iload_n M 3 dX0_ofRow_52 rfl rfl ?_
      refine zz_aload_n M 1 dX0_ofRow_53 rfl rfl ?_
      refine zz_alen (v := 24) M tX_2 (by decide) (by decide) dX0_ofRow_54 ?_
      refine zz_icmp_ge M 91 dX0_ofRow_55 (by decide) (fun c => ?_) (fun c => ?_)
      · have h := zif (c := 24 ≤ x3) h c
        refine zz_sub [(2, .int x2)] [2] rfl ?_
        exact hK91 _ _ h
      · have h := zifn (c := 24 ≤ x3) h c
        refine zz_aload_n M 1 dX0_ofRow_58 rfl rfl ?_
        refine zz_iload_n M 3 dX0_ofRow_59 rfl rfl ?_
        refine zz_iald M tX_2 h.1 dX0_ofRow_60 ?_
        have h := h.2
        refine zz_aload_n M 1 dX0_ofRow_61 rfl rfl ?_
        refine zz_iload_n M 3 dX0_ofRow_62 rfl rfl ?_
        refine zz_iconst (v := 1) M dX0_ofRow_63 (by decide) ?_
        refine zz_isub M dX0_ofRow_64 ?_
        refine zz_iald M tX_2 h.1 dX0_ofRow_65 ?_
        have h := h.2
        refine zz_icmp_eq M 85 dX0_ofRow_66 (by decide) (fun c => ?_) (fun c => ?_)
        · have h := zif (c := (σ.1 2 x3.toNatClampNeg) = (σ.1 2 (x3 - 1 : Int32).toNatClampNeg)) h c
          obtain ⟨x112, ex112⟩ : ∃ z : Int32, z = x3 + 1 := ⟨_, rfl⟩
          have h := h x112 ex112
          refine zz_iinc M [(3, .int x112), (0, .ref (ad 24)), (1, .ref (ad 2)), (2, .int x2)] 3 dX0_ofRow_85 rfl (n32 := 1) (by decide) ex112 (by decide) rfl ?_
          refine zz_goto M 46 dX0_ofRow_88 (by decide) ?_
          refine zz_sub [(0, .ref (ad 24)), (1, .ref (ad 2)), (2, .int x2), (3, .int x112)] [1, 2, 3, 0] rfl ?_
          exact ih _ _ _ h
        · have h := zifn (c := (σ.1 2 x3.toNatClampNeg) = (σ.1 2 (x3 - 1 : Int32).toNatClampNeg)) h c
          refine zz_iload_n M 2 dX0_ofRow_69 rfl rfl ?_
          refine zz_aload_n M 0 dX0_ofRow_70 rfl rfl ?_
          refine zz_iload_n M 3 dX0_ofRow_71 rfl rfl ?_
          refine zz_aload_n M 1 dX0_ofRow_72 rfl rfl ?_
          refine zz_iload_n M 3 dX0_ofRow_73 rfl rfl ?_
          refine zz_iconst (v := 1) M dX0_ofRow_74 (by decide) ?_
          refine zz_isub M dX0_ofRow_75 ?_
          refine zz_iald M tX_2 h.1 dX0_ofRow_76 ?_
          have h := h.2
          refine zz_aload_n M 1 dX0_ofRow_77 rfl rfl ?_
          refine zz_iload_n M 3 dX0_ofRow_78 rfl rfl ?_
          refine zz_iald M tX_2 h.1 dX0_ofRow_79 ?_
          have h := h.2
          obtain ⟨a113, ea113⟩ : ∃ z : Int32, z = (σ.1 2 (x3 - 1 : Int32).toNatClampNeg) := ⟨_, rfl⟩
          have h := h a113 ea113
          obtain ⟨a114, ea114⟩ : ∃ z : Int32, z = (σ.1 2 x3.toNatClampNeg) := ⟨_, rfl⟩
          have h := h a114 ea114
          refine zz_st [.int a114, .int a113, .int x3, .ref (ad 24), .int x2] (by rw [ea113, ea114]) ?_
          refine zz_callVI (d' := 4) (As := [.int x3, .int a113, .int a114]) (rest := [.int x2]) M l_X0_68 tX_24 rfl rfl dX0_ofRow_80 rfl rfl (by decide) (Nat.le_of_ble_eq_true rfl) (by have hI := M.2.2.2.2.2.2.2.2; exact kX0_ofChange hI _ _ _  _ _ h) (fun r115 σ116 h => ?_)
          refine zz_iadd M dX0_ofRow_83 ?_
          refine zz_topi (fun x117 ex117 => ?_)
          have h := h x117 ex117
          refine zz_istore_n M [(2, .int x117), (0, .ref (ad 24)), (1, .ref (ad 2)), (3, .int x3)] dX0_ofRow_84 rfl (by decide) rfl ?_
          obtain ⟨x118, ex118⟩ : ∃ z : Int32, z = x3 + 1 := ⟨_, rfl⟩
          have h := h x118 ex118
          refine zz_iinc M [(3, .int x118), (2, .int x117), (0, .ref (ad 24)), (1, .ref (ad 2))] 3 dX0_ofRow_85 rfl (n32 := 1) (by decide) ex118 (by decide) rfl ?_
          refine zz_goto M 46 dX0_ofRow_88 (by decide) ?_
          refine zz_sub [(0, .ref (ad 24)), (1, .ref (ad 2)), (2, .int x117), (3, .int x118)] [2, 3, 1, 0] rfl ?_
          exact ih _ _ _ h
def wX0_ofRow_2  (σ : zSt) (Q : Int32 → zSt → Prop) : Prop := wX0_ofRow_2_L4 Q (fun v110 σ111 => wX0_ofRow_2_L46 Q (fun v119 σ120 => Q v119 σ120)  300 v110 1 σ111)  300 0 0 σ
set_option maxRecDepth 20000 in
set_option maxHeartbeats 4000000 in
theorem kX0_ofRow_2 (hI : zInj tabX ad)   (σ : zSt) (Q : Int32 → zSt → Prop) (h : wX0_ofRow_2  σ Q) : zOkI l tabX D cA ad y 5 yX0_ofRow cX0_ofRow 4 (some .int) [.ref (ad 24), .ref (ad 2)] σ Q := by
  refine zz_enter hI (by decide) (Nat.le_of_ble_eq_true rfl) (fun p e s m below meth c M => ?_)
  have M : zM p s m _ meth c cX0_ofRow 4 RX0 (some .int) tabX D cA ad y := M
  refine zz_ls [(0, .ref (ad 24)), (1, .ref (ad 2))] rfl ?_
  unfold wX0_ofRow_2 at h
  refine zz_iconst (v := 0) M dX0_ofRow_0 (by decide) ?_
  refine zz_istore_n M [(2, .int 0), (0, .ref (ad 24)), (1, .ref (ad 2))] dX0_ofRow_1 rfl (by decide) rfl ?_
  refine zz_iconst (v := 0) M dX0_ofRow_2 (by decide) ?_
  refine zz_istore_n M [(3, .int 0), (2, .int 0), (0, .ref (ad 24)), (1, .ref (ad 2))] dX0_ofRow_3 rfl (by decide) rfl ?_
  refine zz_sub [(0, .ref (ad 24)), (1, .ref (ad 2)), (2, .int 0), (3, .int 0)] [2, 3, 1, 0] rfl ?_
  refine sX0_ofRow_2_L4   M (fun v110 σ111 h => ?_) 300 _ _ _ h
  refine zz_iconst (v := 1) M dX0_ofRow_44 (by decide) ?_
  refine zz_istore_n M [(3, .int 1), (0, .ref (ad 24)), (1, .ref (ad 2)), (2, .int v110)] dX0_ofRow_45 rfl (by decide) rfl ?_
  refine zz_sub [(0, .ref (ad 24)), (1, .ref (ad 2)), (2, .int v110), (3, .int 1)] [1, 2, 3, 0] rfl ?_
  refine sX0_ofRow_2_L46   M (fun v119 σ120 h => ?_) 300 _ _ _ h
  refine zz_iload_n M 0 dX0_ofRow_91 rfl rfl ?_
  exact zz_iret M dX0_ofRow_92 h
def wX7_changes_2_L4 (Q : Int32 → zSt → Prop) (K36 : Int32 → zSt → Prop)  : Nat → Int32 → Int32 → zSt → Prop
  | 0, _, _, _ => False
  | n + 1, x1, x2, σ => if 24 ≤ x2 then (K36 x1 σ) else (if 24 ≤ x2 then (K36 x1 σ) else (vp_in x2 24 ∧ (vp_in (x2 - 1) 24 ∧ (if (σ.1 2 x2.toNatClampNeg) = (σ.1 2 (x2 - 1 : Int32).toNatClampNeg) then (∀ x101 : Int32, x101 = x2 + 1 → (wX7_changes_2_L4 Q K36  n x1 x101 σ)) else (∀ x102 : Int32, x102 = x1 + 1 → (∀ x103 : Int32, x103 = x2 + 1 → (wX7_changes_2_L4 Q K36  n x102 x103 σ)))))))
set_option maxRecDepth 20000 in
set_option maxHeartbeats 4000000 in
theorem sX7_changes_2_L4 {Q : Int32 → zSt → Prop} {K36 : Int32 → zSt → Prop}   (M : zM p s m args meth c cX7_changes 3 RX7 (some .int) tabX D cA ad y) (hK36 : ∀ (v1 : Int32) (σ : zSt), K36 v1 σ → zG p l e (zrm 1) s m args below meth c 3 tabX D cA ad (MQ below (va_Qi Q (fun σ' t => va_P D vwCl (zws tabX cA ad σ') t.heap) (zIn tabX ad)) args s 0 0 (zIn tabX ad)) 36 [(1, .int v1)] [] σ) : ∀ (n : Nat) (x1 : Int32) (x2 : Int32) (σ : zSt), wX7_changes_2_L4 Q K36  n x1 x2 σ → zG p l e (zrm 1) s m args below meth c 3 tabX D cA ad (MQ below (va_Qi Q (fun σ' t => va_P D vwCl (zws tabX cA ad σ') t.heap) (zIn tabX ad)) args s 0 0 (zIn tabX ad)) 4 [(0, .ref (ad 2)), (1, .int x1), (2, .int x2)] [] σ := by
  intro n
  induction n with
  | zero => intro x1 x2 σ h; exact absurd h (by simp [wX7_changes_2_L4])
  | succ n ih =>
    intro x1 x2 σ h
    unfold wX7_changes_2_L4 at h
    refine zz_iload_n M 2 dX7_changes_4 rfl rfl ?_
    refine zz_bipush (v := 24) M dX7_changes_5 (by decide) ?_
    refine zz_icmp_ge M 36 dX7_changes_7 (by decide) (fun c => ?_) (fun c => ?_)
    · have h := zif (c := 24 ≤ x2) h c
      refine zz_sub [(1, .int x1)] [1] rfl ?_
      exact hK36 _ _ h
    · have h := zifn (c := 24 ≤ x2) h c
      refine zz_iload_n M 2 dX7_changes_10 rfl rfl ?_
      refine zz_aload_n M 0 dX7_changes_11 rfl rfl ?_
      refine zz_alen (v := 24) M tX_2 (by decide) (by decide) dX7_changes_12 ?_
      refine zz_icmp_ge M 36 dX7_changes_13 (by decide) (fun c => ?_) (fun c => ?_)
      · have h := zif (c := 24 ≤ x2) h c
        refine zz_sub [(1, .int x1)] [1] rfl ?_
        exact hK36 _ _ h
      · have h := zifn (c := 24 ≤ x2) h c
        refine zz_aload_n M 0 dX7_changes_16 rfl rfl ?_
        refine zz_iload_n M 2 dX7_changes_17 rfl rfl ?_
        refine zz_iald M tX_2 h.1 dX7_changes_18 ?_
        have h := h.2
        refine zz_aload_n M 0 dX7_changes_19 rfl rfl ?_
        refine zz_iload_n M 2 dX7_changes_20 rfl rfl ?_
        refine zz_iconst (v := 1) M dX7_changes_21 (by decide) ?_
        refine zz_isub M dX7_changes_22 ?_
        refine zz_iald M tX_2 h.1 dX7_changes_23 ?_
        have h := h.2
        refine zz_icmp_eq M 30 dX7_changes_24 (by decide) (fun c => ?_) (fun c => ?_)
        · have h := zif (c := (σ.1 2 x2.toNatClampNeg) = (σ.1 2 (x2 - 1 : Int32).toNatClampNeg)) h c
          obtain ⟨x101, ex101⟩ : ∃ z : Int32, z = x2 + 1 := ⟨_, rfl⟩
          have h := h x101 ex101
          refine zz_iinc M [(2, .int x101), (0, .ref (ad 2)), (1, .int x1)] 2 dX7_changes_30 rfl (n32 := 1) (by decide) ex101 (by decide) rfl ?_
          refine zz_goto M 4 dX7_changes_33 (by decide) ?_
          refine zz_sub [(0, .ref (ad 2)), (1, .int x1), (2, .int x101)] [1, 2, 0] rfl ?_
          exact ih _ _ _ h
        · have h := zifn (c := (σ.1 2 x2.toNatClampNeg) = (σ.1 2 (x2 - 1 : Int32).toNatClampNeg)) h c
          obtain ⟨x102, ex102⟩ : ∃ z : Int32, z = x1 + 1 := ⟨_, rfl⟩
          have h := h x102 ex102
          refine zz_iinc M [(1, .int x102), (0, .ref (ad 2)), (2, .int x2)] 1 dX7_changes_27 rfl (n32 := 1) (by decide) ex102 (by decide) rfl ?_
          obtain ⟨x103, ex103⟩ : ∃ z : Int32, z = x2 + 1 := ⟨_, rfl⟩
          have h := h x103 ex103
          refine zz_iinc M [(2, .int x103), (1, .int x102), (0, .ref (ad 2))] 2 dX7_changes_30 rfl (n32 := 1) (by decide) ex103 (by decide) rfl ?_
          refine zz_goto M 4 dX7_changes_33 (by decide) ?_
          refine zz_sub [(0, .ref (ad 2)), (1, .int x102), (2, .int x103)] [2, 1, 0] rfl ?_
          exact ih _ _ _ h
def wX7_changes_2  (σ : zSt) (Q : Int32 → zSt → Prop) : Prop := wX7_changes_2_L4 Q (fun v104 σ105 => Q v104 σ105)  300 0 1 σ
set_option maxRecDepth 20000 in
set_option maxHeartbeats 4000000 in
theorem kX7_changes_2 (hI : zInj tabX ad)   (σ : zSt) (Q : Int32 → zSt → Prop) (h : wX7_changes_2  σ Q) : zOkI l tabX D cA ad y 1 yX7_changes cX7_changes 3 (some .int) [.ref (ad 2)] σ Q := by
  refine zz_enter hI (by decide) (Nat.le_of_ble_eq_true rfl) (fun p e s m below meth c M => ?_)
  have M : zM p s m _ meth c cX7_changes 3 RX7 (some .int) tabX D cA ad y := M
  refine zz_ls [(0, .ref (ad 2))] rfl ?_
  unfold wX7_changes_2 at h
  refine zz_iconst (v := 0) M dX7_changes_0 (by decide) ?_
  refine zz_istore_n M [(1, .int 0), (0, .ref (ad 2))] dX7_changes_1 rfl (by decide) rfl ?_
  refine zz_iconst (v := 1) M dX7_changes_2 (by decide) ?_
  refine zz_istore_n M [(2, .int 1), (1, .int 0), (0, .ref (ad 2))] dX7_changes_3 rfl (by decide) rfl ?_
  refine zz_sub [(0, .ref (ad 2)), (1, .int 0), (2, .int 1)] [2, 1, 0] rfl ?_
  refine sX7_changes_2_L4   M (fun v104 σ105 h => ?_) 300 _ _ _ h
  refine zz_iload_n M 0 dX7_changes_36 rfl rfl ?_
  exact zz_iret M dX7_changes_37 h
def wX7_firstUnlawful_2_L5 (Q : Int32 → zSt → Prop) (K69 : Int32 → zSt → Prop) (K91 : zSt → Prop) (x2 : Int32) : Nat → Int32 → Int32 → zSt → Prop
  | 0, _, _, _ => False
  | n + 1, x3, x4, σ => if x2 ≤ x4 then (K91  σ) else (if 24 ≤ x4 then (K91  σ) else (if x4 ≤ 0 then (vp_in x4 24 ∧ (∀ a101 : Int32, a101 = (σ.1 2 x4.toNatClampNeg) → (wX7_isBridge a101 σ (fun r102 σ103 => if r102 = 0 then (K69 x4 σ103) else (∀ x104 : Int32, x104 = (x3 + 1) → (∀ x105 : Int32, x105 = x4 + 1 → (wX7_firstUnlawful_2_L5 Q K69 K91 x2 n x104 x105 σ103))))))) else (vp_in x4 24 ∧ (vp_in (x4 - 1) 24 ∧ (if (σ.1 2 x4.toNatClampNeg) = (σ.1 2 (x4 - 1 : Int32).toNatClampNeg) then (vp_in x4 24 ∧ (∀ a106 : Int32, a106 = (σ.1 2 x4.toNatClampNeg) → (wX7_isBridge a106 σ (fun r107 σ108 => if r107 = 0 then (K69 x4 σ108) else (∀ x109 : Int32, x109 = (x3 + 1) → (∀ x110 : Int32, x110 = x4 + 1 → (wX7_firstUnlawful_2_L5 Q K69 K91 x2 n x109 x110 σ108))))))) else (vp_in x4 24 ∧ (∀ a111 : Int32, a111 = (σ.1 2 x4.toNatClampNeg) → (wX7_isBridge a111 σ (fun r112 σ113 => if r112 = 0 then (K69 x4 σ113) else (if (σ113.1 1 8) ≤ x3 then (∀ x114 : Int32, x114 = x4 + 1 → (wX7_firstUnlawful_2_L5 Q K69 K91 x2 n 1 x114 σ113)) else (K69 x4 σ113)))))))))))
set_option maxRecDepth 20000 in
set_option maxHeartbeats 4000000 in
theorem sX7_firstUnlawful_2_L5 {Q : Int32 → zSt → Prop} {K69 : Int32 → zSt → Prop} {K91 : zSt → Prop} (x2 : Int32)  (M : zM p s m args meth c cX7_firstUnlawful 6 RX7 (some .int) tabX D cA ad y) (hK69 : ∀ (v4 : Int32) (σ : zSt), K69 v4 σ → zG p l e (zrm 2) s m args below meth c 6 tabX D cA ad (MQ below (va_Qi Q (fun σ' t => va_P D vwCl (zws tabX cA ad σ') t.heap) (zIn tabX ad)) args s 0 0 (zIn tabX ad)) 69 [(4, .int v4)] [] σ) (hK91 : ∀ (σ : zSt), K91  σ → zG p l e (zrm 2) s m args below meth c 6 tabX D cA ad (MQ below (va_Qi Q (fun σ' t => va_P D vwCl (zws tabX cA ad σ') t.heap) (zIn tabX ad)) args s 0 0 (zIn tabX ad)) 91 [] [] σ) : ∀ (n : Nat) (x3 : Int32) (x4 : Int32) (σ : zSt), wX7_firstUnlawful_2_L5 Q K69 K91 x2 n x3 x4 σ → zG p l e (zrm 2) s m args below meth c 6 tabX D cA ad (MQ below (va_Qi Q (fun σ' t => va_P D vwCl (zws tabX cA ad σ') t.heap) (zIn tabX ad)) args s 0 0 (zIn tabX ad)) 5 [(0, .ref (ad 0)), (1, .ref (ad 2)), (2, .int x2), (3, .int x3), (4, .int x4)] [] σ := by
  intro n
  induction n with
  | zero => intro x3 x4 σ h; exact absurd h (by simp [wX7_firstUnlawful_2_L5])
  | succ n ih =>
    intro x3 x4 σ h
    unfold wX7_firstUnlawful_2_L5 at h
    refine zz_iload M 4 dX7_firstUnlawful_5 rfl ?_
    refine zz_iload_n M 2 dX7_firstUnlawful_7 rfl rfl ?_
    refine zz_icmp_ge M 91 dX7_firstUnlawful_8 (by decide) (fun c => ?_) (fun c => ?_)
    · have h := zif (c := x2 ≤ x4) h c
      refine zz_sub [] [] rfl ?_
      exact hK91  _ h
    · have h := zifn (c := x2 ≤ x4) h c
      refine zz_iload M 4 dX7_firstUnlawful_11 rfl ?_
      refine zz_aload_n M 1 dX7_firstUnlawful_13 rfl rfl ?_
      refine zz_alen (v := 24) M tX_2 (by decide) (by decide) dX7_firstUnlawful_14 ?_
      refine zz_icmp_ge M 91 dX7_firstUnlawful_15 (by decide) (fun c => ?_) (fun c => ?_)
      · have h := zif (c := 24 ≤ x4) h c
        refine zz_sub [] [] rfl ?_
        exact hK91  _ h
      · have h := zifn (c := 24 ≤ x4) h c
        refine zz_iload M 4 dX7_firstUnlawful_18 rfl ?_
        refine zz_if_le (y0 := 0) M 40 dX7_firstUnlawful_20 (by decide) (fun c => ?_) (fun c => ?_)
        · have h := zif (c := x4 ≤ 0) h c
          refine zz_iconst (v := 0) M dX7_firstUnlawful_40 (by decide) ?_
          refine zz_istore M [(5, .int 0), (0, .ref (ad 0)), (1, .ref (ad 2)), (2, .int x2), (3, .int x3), (4, .int x4)] dX7_firstUnlawful_41 (by decide) rfl ?_
          refine zz_aload_n M 2 dX7_firstUnlawful_43 rfl rfl ?_
          refine zz_iload M 5 dX7_firstUnlawful_44 rfl ?_
          refine zz_iald M tX_2 h.1 dX7_firstUnlawful_46 ?_
          have h := h.2
          obtain ⟨a101, ea101⟩ : ∃ z : Int32, z = (σ.1 2 x4.toNatClampNeg) := ⟨_, rfl⟩
          have h := h a101 ea101
          refine zz_st [.int a101] (by rw [ea101]) ?_
          refine zz_callSI (d' := 1) (As := [.int a101]) (rest := []) M l_X7_104 dX7_firstUnlawful_47 rfl rfl (by decide) (Nat.le_of_ble_eq_true rfl) (by have hI := M.2.2.2.2.2.2.2.2; exact kX7_isBridge hI _  _ _ h) (fun r102 σ103 h => ?_)
          refine zz_if_eq (y0 := 0) M 69 dX7_firstUnlawful_50 (by decide) (fun c => ?_) (fun c => ?_)
          · have h := zif (c := r102 = 0) h c
            refine zz_sub [(4, .int x4)] [5] rfl ?_
            exact hK69 _ _ h
          · have h := zifn (c := r102 = 0) h c
            refine zz_iload M 0 dX7_firstUnlawful_53 rfl ?_
            refine zz_if_eq (y0 := 0) M 72 dX7_firstUnlawful_55 (by decide) (fun c => ?_) (fun c => absurd c (by decide))
            refine zz_iload M 0 dX7_firstUnlawful_72 rfl ?_
            refine zz_if_eq (y0 := 0) M 81 dX7_firstUnlawful_74 (by decide) (fun c => ?_) (fun c => absurd c (by decide))
            refine zz_iload_n M 4 dX7_firstUnlawful_81 rfl rfl ?_
            refine zz_iconst (v := 1) M dX7_firstUnlawful_82 (by decide) ?_
            refine zz_iadd M dX7_firstUnlawful_83 ?_
            refine zz_topi (fun x104 ex104 => ?_)
            have h := h x104 ex104
            refine zz_istore_n M [(3, .int x104), (5, .int 0), (0, .ref (ad 0)), (1, .ref (ad 2)), (2, .int x2), (4, .int x4)] dX7_firstUnlawful_84 rfl (by decide) rfl ?_
            obtain ⟨x105, ex105⟩ : ∃ z : Int32, z = x4 + 1 := ⟨_, rfl⟩
            have h := h x105 ex105
            refine zz_iinc M [(4, .int x105), (3, .int x104), (5, .int 0), (0, .ref (ad 0)), (1, .ref (ad 2)), (2, .int x2)] 5 dX7_firstUnlawful_85 rfl (n32 := 1) (by decide) ex105 (by decide) rfl ?_
            refine zz_goto M 5 dX7_firstUnlawful_88 (by decide) ?_
            refine zz_sub [(0, .ref (ad 0)), (1, .ref (ad 2)), (2, .int x2), (3, .int x104), (4, .int x105)] [3, 4, 5, 1, 0] rfl ?_
            exact ih _ _ _ h
        · have h := zifn (c := x4 ≤ 0) h c
          refine zz_aload_n M 1 dX7_firstUnlawful_23 rfl rfl ?_
          refine zz_iload M 4 dX7_firstUnlawful_24 rfl ?_
          refine zz_iald M tX_2 h.1 dX7_firstUnlawful_26 ?_
          have h := h.2
          refine zz_aload_n M 1 dX7_firstUnlawful_27 rfl rfl ?_
          refine zz_iload M 4 dX7_firstUnlawful_28 rfl ?_
          refine zz_iconst (v := 1) M dX7_firstUnlawful_30 (by decide) ?_
          refine zz_isub M dX7_firstUnlawful_31 ?_
          refine zz_iald M tX_2 h.1 dX7_firstUnlawful_32 ?_
          have h := h.2
          refine zz_icmp_eq M 40 dX7_firstUnlawful_33 (by decide) (fun c => ?_) (fun c => ?_)
          · have h := zif (c := (σ.1 2 x4.toNatClampNeg) = (σ.1 2 (x4 - 1 : Int32).toNatClampNeg)) h c
            refine zz_iconst (v := 0) M dX7_firstUnlawful_40 (by decide) ?_
            refine zz_istore M [(5, .int 0), (0, .ref (ad 0)), (1, .ref (ad 2)), (2, .int x2), (3, .int x3), (4, .int x4)] dX7_firstUnlawful_41 (by decide) rfl ?_
            refine zz_aload_n M 2 dX7_firstUnlawful_43 rfl rfl ?_
            refine zz_iload M 5 dX7_firstUnlawful_44 rfl ?_
            refine zz_iald M tX_2 h.1 dX7_firstUnlawful_46 ?_
            have h := h.2
            obtain ⟨a106, ea106⟩ : ∃ z : Int32, z = (σ.1 2 x4.toNatClampNeg) := ⟨_, rfl⟩
            have h := h a106 ea106
            refine zz_st [.int a106] (by rw [ea106]) ?_
            refine zz_callSI (d' := 1) (As := [.int a106]) (rest := []) M l_X7_104 dX7_firstUnlawful_47 rfl rfl (by decide) (Nat.le_of_ble_eq_true rfl) (by have hI := M.2.2.2.2.2.2.2.2; exact kX7_isBridge hI _  _ _ h) (fun r107 σ108 h => ?_)
            refine zz_if_eq (y0 := 0) M 69 dX7_firstUnlawful_50 (by decide) (fun c => ?_) (fun c => ?_)
            · have h := zif (c := r107 = 0) h c
              refine zz_sub [(4, .int x4)] [5] rfl ?_
              exact hK69 _ _ h
            · have h := zifn (c := r107 = 0) h c
              refine zz_iload M 0 dX7_firstUnlawful_53 rfl ?_
              refine zz_if_eq (y0 := 0) M 72 dX7_firstUnlawful_55 (by decide) (fun c => ?_) (fun c => absurd c (by decide))
              refine zz_iload M 0 dX7_firstUnlawful_72 rfl ?_
              refine zz_if_eq (y0 := 0) M 81 dX7_firstUnlawful_74 (by decide) (fun c => ?_) (fun c => absurd c (by decide))
              refine zz_iload_n M 4 dX7_firstUnlawful_81 rfl rfl ?_
              refine zz_iconst (v := 1) M dX7_firstUnlawful_82 (by decide) ?_
              refine zz_iadd M dX7_firstUnlawful_83 ?_
              refine zz_topi (fun x109 ex109 => ?_)
              have h := h x109 ex109
              refine zz_istore_n M [(3, .int x109), (5, .int 0), (0, .ref (ad 0)), (1, .ref (ad 2)), (2, .int x2), (4, .int x4)] dX7_firstUnlawful_84 rfl (by decide) rfl ?_
              obtain ⟨x110, ex110⟩ : ∃ z : Int32, z = x4 + 1 := ⟨_, rfl⟩
              have h := h x110 ex110
              refine zz_iinc M [(4, .int x110), (3, .int x109), (5, .int 0), (0, .ref (ad 0)), (1, .ref (ad 2)), (2, .int x2)] 5 dX7_firstUnlawful_85 rfl (n32 := 1) (by decide) ex110 (by decide) rfl ?_
              refine zz_goto M 5 dX7_firstUnlawful_88 (by decide) ?_
              refine zz_sub [(0, .ref (ad 0)), (1, .ref (ad 2)), (2, .int x2), (3, .int x109), (4, .int x110)] [3, 4, 5, 1, 0] rfl ?_
              exact ih _ _ _ h
          · have h := zifn (c := (σ.1 2 x4.toNatClampNeg) = (σ.1 2 (x4 - 1 : Int32).toNatClampNeg)) h c
            refine zz_iconst (v := 1) M dX7_firstUnlawful_36 (by decide) ?_
            refine zz_goto M 41 dX7_firstUnlawful_37 (by decide) ?_
            refine zz_istore M [(5, .int 1), (0, .ref (ad 0)), (1, .ref (ad 2)), (2, .int x2), (3, .int x3), (4, .int x4)] dX7_firstUnlawful_41 (by decide) rfl ?_
            refine zz_aload_n M 2 dX7_firstUnlawful_43 rfl rfl ?_
            refine zz_iload M 5 dX7_firstUnlawful_44 rfl ?_
            refine zz_iald M tX_2 h.1 dX7_firstUnlawful_46 ?_
            have h := h.2
            obtain ⟨a111, ea111⟩ : ∃ z : Int32, z = (σ.1 2 x4.toNatClampNeg) := ⟨_, rfl⟩
            have h := h a111 ea111
            refine zz_st [.int a111] (by rw [ea111]) ?_
            refine zz_callSI (d' := 1) (As := [.int a111]) (rest := []) M l_X7_104 dX7_firstUnlawful_47 rfl rfl (by decide) (Nat.le_of_ble_eq_true rfl) (by have hI := M.2.2.2.2.2.2.2.2; exact kX7_isBridge hI _  _ _ h) (fun r112 σ113 h => ?_)
            refine zz_if_eq (y0 := 0) M 69 dX7_firstUnlawful_50 (by decide) (fun c => ?_) (fun c => ?_)
            · have h := zif (c := r112 = 0) h c
              refine zz_sub [(4, .int x4)] [5] rfl ?_
              exact hK69 _ _ h
            · have h := zifn (c := r112 = 0) h c
              refine zz_iload M 0 dX7_firstUnlawful_53 rfl ?_
              refine zz_if_eq (y0 := 0) M 72 dX7_firstUnlawful_55 (by decide) (fun c => absurd c (by decide)) (fun c => ?_)
              refine zz_iload_n M 4 dX7_firstUnlawful_58 rfl rfl ?_
              refine zz_aload_n M 1 dX7_firstUnlawful_59 rfl rfl ?_
              refine zz_getR M f_X7_12 tX_0 rfl dX7_firstUnlawful_60 ?_
              refine zz_getI M f_X7_136 tX_1 rfl dX7_firstUnlawful_63 ?_
              refine zz_icmp_ge M 72 dX7_firstUnlawful_66 (by decide) (fun c => ?_) (fun c => ?_)
              · have h := zif (c := (σ113.1 1 8) ≤ x3) h c
                refine zz_iload M 0 dX7_firstUnlawful_72 rfl ?_
                refine zz_if_eq (y0 := 0) M 81 dX7_firstUnlawful_74 (by decide) (fun c => absurd c (by decide)) (fun c => ?_)
                refine zz_iconst (v := 1) M dX7_firstUnlawful_77 (by decide) ?_
                refine zz_goto M 84 dX7_firstUnlawful_78 (by decide) ?_
                refine zz_istore_n M [(3, .int 1), (5, .int 1), (0, .ref (ad 0)), (1, .ref (ad 2)), (2, .int x2), (4, .int x4)] dX7_firstUnlawful_84 rfl (by decide) rfl ?_
                obtain ⟨x114, ex114⟩ : ∃ z : Int32, z = x4 + 1 := ⟨_, rfl⟩
                have h := h x114 ex114
                refine zz_iinc M [(4, .int x114), (3, .int 1), (5, .int 1), (0, .ref (ad 0)), (1, .ref (ad 2)), (2, .int x2)] 5 dX7_firstUnlawful_85 rfl (n32 := 1) (by decide) ex114 (by decide) rfl ?_
                refine zz_goto M 5 dX7_firstUnlawful_88 (by decide) ?_
                refine zz_sub [(0, .ref (ad 0)), (1, .ref (ad 2)), (2, .int x2), (3, .int 1), (4, .int x114)] [3, 4, 5, 1, 0] rfl ?_
                exact ih _ _ _ h
              · have h := zifn (c := (σ113.1 1 8) ≤ x3) h c
                refine zz_sub [(4, .int x4)] [5] rfl ?_
                exact hK69 _ _ h
def wX7_firstUnlawful_2 (x2 : Int32) (σ : zSt) (Q : Int32 → zSt → Prop) : Prop := wX7_firstUnlawful_2_L5 Q (fun v115 σ116 => Q v115 σ116) (fun  σ117 => Q (-1) σ117) x2 300 0 0 σ
set_option maxRecDepth 20000 in
set_option maxHeartbeats 4000000 in
theorem kX7_firstUnlawful_2 (hI : zInj tabX ad) (x2 : Int32)  (σ : zSt) (Q : Int32 → zSt → Prop) (h : wX7_firstUnlawful_2 x2 σ Q) : zOkI l tabX D cA ad y 2 yX7_firstUnlawful cX7_firstUnlawful 6 (some .int) [.ref (ad 0), .ref (ad 2), .int x2] σ Q := by
  refine zz_enter hI (by decide) (Nat.le_of_ble_eq_true rfl) (fun p e s m below meth c M => ?_)
  have M : zM p s m _ meth c cX7_firstUnlawful 6 RX7 (some .int) tabX D cA ad y := M
  refine zz_ls [(0, .ref (ad 0)), (1, .ref (ad 2)), (2, .int x2)] rfl ?_
  unfold wX7_firstUnlawful_2 at h
  refine zz_iconst (v := 0) M dX7_firstUnlawful_0 (by decide) ?_
  refine zz_istore_n M [(3, .int 0), (0, .ref (ad 0)), (1, .ref (ad 2)), (2, .int x2)] dX7_firstUnlawful_1 rfl (by decide) rfl ?_
  refine zz_iconst (v := 0) M dX7_firstUnlawful_2 (by decide) ?_
  refine zz_istore M [(4, .int 0), (3, .int 0), (0, .ref (ad 0)), (1, .ref (ad 2)), (2, .int x2)] dX7_firstUnlawful_3 (by decide) rfl ?_
  refine zz_sub [(0, .ref (ad 0)), (1, .ref (ad 2)), (2, .int x2), (3, .int 0), (4, .int 0)] [2, 3, 4, 1, 0] rfl ?_
  refine sX7_firstUnlawful_2_L5 x2  M (fun v115 σ116 h => ?_) (fun  σ117 h => ?_) 300 _ _ _ h
  · refine zz_iload M 0 dX7_firstUnlawful_69 rfl ?_
    exact zz_iret M dX7_firstUnlawful_71 h
  · refine zz_iconst (v := (-1)) M dX7_firstUnlawful_91 (by decide) ?_
    exact zz_iret M dX7_firstUnlawful_92 h
def wX1_throughCount_2_L4 (Q : Int32 → zSt → Prop) (K38 : Int32 → zSt → Prop)  : Nat → Int32 → Int32 → zSt → Prop
  | 0, _, _, _ => False
  | n + 1, x2, x3, σ => if 8 ≤ x3 then (K38 x2 σ) else (wX1_isThere x3 σ (fun r101 σ102 => if r101 = 0 then (∀ x103 : Int32, x103 = x3 + 1 → (wX1_throughCount_2_L4 Q K38  n x2 x103 σ102)) else (wX1_through_2 x3 σ102 (fun r104 σ105 => if 24 ≤ r104 then (∀ x106 : Int32, x106 = x3 + 1 → (wX1_throughCount_2_L4 Q K38  n x2 x106 σ105)) else (∀ x107 : Int32, x107 = x2 + 1 → (∀ x108 : Int32, x108 = x3 + 1 → (wX1_throughCount_2_L4 Q K38  n x107 x108 σ105)))))))
set_option maxRecDepth 20000 in
set_option maxHeartbeats 4000000 in
theorem sX1_throughCount_2_L4 {Q : Int32 → zSt → Prop} {K38 : Int32 → zSt → Prop}   (M : zM p s m args meth c cX1_throughCount 4 RX1 (some .int) tabX D cA ad y) (hK38 : ∀ (v2 : Int32) (σ : zSt), K38 v2 σ → zG p l e (zrm 3) s m args below meth c 4 tabX D cA ad (MQ below (va_Qi Q (fun σ' t => va_P D vwCl (zws tabX cA ad σ') t.heap) (zIn tabX ad)) args s 0 0 (zIn tabX ad)) 38 [(2, .int v2)] [] σ) : ∀ (n : Nat) (x2 : Int32) (x3 : Int32) (σ : zSt), wX1_throughCount_2_L4 Q K38  n x2 x3 σ → zG p l e (zrm 3) s m args below meth c 4 tabX D cA ad (MQ below (va_Qi Q (fun σ' t => va_P D vwCl (zws tabX cA ad σ') t.heap) (zIn tabX ad)) args s 0 0 (zIn tabX ad)) 4 [(0, .ref (ad 1)), (1, .ref (ad 2)), (2, .int x2), (3, .int x3)] [] σ := by
  intro n
  induction n with
  | zero => intro x2 x3 σ h; exact absurd h (by simp [wX1_throughCount_2_L4])
  | succ n ih =>
    intro x2 x3 σ h
    unfold wX1_throughCount_2_L4 at h
    refine zz_iload_n M 3 dX1_throughCount_4 rfl rfl ?_
    refine zz_bipush (v := 8) M dX1_throughCount_5 (by decide) ?_
    refine zz_icmp_ge M 38 dX1_throughCount_7 (by decide) (fun c => ?_) (fun c => ?_)
    · have h := zif (c := 8 ≤ x3) h c
      refine zz_sub [(2, .int x2)] [2] rfl ?_
      exact hK38 _ _ h
    · have h := zifn (c := 8 ≤ x3) h c
      refine zz_aload_n M 0 dX1_throughCount_10 rfl rfl ?_
      refine zz_iload_n M 3 dX1_throughCount_11 rfl rfl ?_
      refine zz_callVI (d' := 1) (As := [.int x3]) (rest := []) M l_X1_62 tX_1 rfl rfl dX1_throughCount_12 rfl rfl (by decide) (Nat.le_of_ble_eq_true rfl) (by have hI := M.2.2.2.2.2.2.2.2; exact kX1_isThere hI _  _ _ h) (fun r101 σ102 h => ?_)
      refine zz_if_eq (y0 := 0) M 32 dX1_throughCount_15 (by decide) (fun c => ?_) (fun c => ?_)
      · have h := zif (c := r101 = 0) h c
        obtain ⟨x103, ex103⟩ : ∃ z : Int32, z = x3 + 1 := ⟨_, rfl⟩
        have h := h x103 ex103
        refine zz_iinc M [(3, .int x103), (0, .ref (ad 1)), (1, .ref (ad 2)), (2, .int x2)] 3 dX1_throughCount_32 rfl (n32 := 1) (by decide) ex103 (by decide) rfl ?_
        refine zz_goto M 4 dX1_throughCount_35 (by decide) ?_
        refine zz_sub [(0, .ref (ad 1)), (1, .ref (ad 2)), (2, .int x2), (3, .int x103)] [1, 2, 3, 0] rfl ?_
        exact ih _ _ _ h
      · have h := zifn (c := r101 = 0) h c
        refine zz_aload_n M 0 dX1_throughCount_18 rfl rfl ?_
        refine zz_iload_n M 3 dX1_throughCount_19 rfl rfl ?_
        refine zz_aload_n M 1 dX1_throughCount_20 rfl rfl ?_
        refine zz_callVI (d' := 2) (As := [.int x3, .ref (ad 2)]) (rest := []) M l_X1_66 tX_1 rfl rfl dX1_throughCount_21 rfl rfl (by decide) (Nat.le_of_ble_eq_true rfl) (by have hI := M.2.2.2.2.2.2.2.2; exact kX1_through_2 hI _  _ _ h) (fun r104 σ105 h => ?_)
        refine zz_bipush (v := 24) M dX1_throughCount_24 (by decide) ?_
        refine zz_icmp_ge M 32 dX1_throughCount_26 (by decide) (fun c => ?_) (fun c => ?_)
        · have h := zif (c := 24 ≤ r104) h c
          obtain ⟨x106, ex106⟩ : ∃ z : Int32, z = x3 + 1 := ⟨_, rfl⟩
          have h := h x106 ex106
          refine zz_iinc M [(3, .int x106), (0, .ref (ad 1)), (1, .ref (ad 2)), (2, .int x2)] 3 dX1_throughCount_32 rfl (n32 := 1) (by decide) ex106 (by decide) rfl ?_
          refine zz_goto M 4 dX1_throughCount_35 (by decide) ?_
          refine zz_sub [(0, .ref (ad 1)), (1, .ref (ad 2)), (2, .int x2), (3, .int x106)] [1, 2, 3, 0] rfl ?_
          exact ih _ _ _ h
        · have h := zifn (c := 24 ≤ r104) h c
          obtain ⟨x107, ex107⟩ : ∃ z : Int32, z = x2 + 1 := ⟨_, rfl⟩
          have h := h x107 ex107
          refine zz_iinc M [(2, .int x107), (0, .ref (ad 1)), (1, .ref (ad 2)), (3, .int x3)] 2 dX1_throughCount_29 rfl (n32 := 1) (by decide) ex107 (by decide) rfl ?_
          obtain ⟨x108, ex108⟩ : ∃ z : Int32, z = x3 + 1 := ⟨_, rfl⟩
          have h := h x108 ex108
          refine zz_iinc M [(3, .int x108), (2, .int x107), (0, .ref (ad 1)), (1, .ref (ad 2))] 3 dX1_throughCount_32 rfl (n32 := 1) (by decide) ex108 (by decide) rfl ?_
          refine zz_goto M 4 dX1_throughCount_35 (by decide) ?_
          refine zz_sub [(0, .ref (ad 1)), (1, .ref (ad 2)), (2, .int x107), (3, .int x108)] [2, 3, 1, 0] rfl ?_
          exact ih _ _ _ h
def wX1_throughCount_2  (σ : zSt) (Q : Int32 → zSt → Prop) : Prop := wX1_throughCount_2_L4 Q (fun v109 σ110 => Q v109 σ110)  300 0 0 σ
set_option maxRecDepth 20000 in
set_option maxHeartbeats 4000000 in
theorem kX1_throughCount_2 (hI : zInj tabX ad)   (σ : zSt) (Q : Int32 → zSt → Prop) (h : wX1_throughCount_2  σ Q) : zOkI l tabX D cA ad y 3 yX1_throughCount cX1_throughCount 4 (some .int) [.ref (ad 1), .ref (ad 2)] σ Q := by
  refine zz_enter hI (by decide) (Nat.le_of_ble_eq_true rfl) (fun p e s m below meth c M => ?_)
  have M : zM p s m _ meth c cX1_throughCount 4 RX1 (some .int) tabX D cA ad y := M
  refine zz_ls [(0, .ref (ad 1)), (1, .ref (ad 2))] rfl ?_
  unfold wX1_throughCount_2 at h
  refine zz_iconst (v := 0) M dX1_throughCount_0 (by decide) ?_
  refine zz_istore_n M [(2, .int 0), (0, .ref (ad 1)), (1, .ref (ad 2))] dX1_throughCount_1 rfl (by decide) rfl ?_
  refine zz_iconst (v := 0) M dX1_throughCount_2 (by decide) ?_
  refine zz_istore_n M [(3, .int 0), (2, .int 0), (0, .ref (ad 1)), (1, .ref (ad 2))] dX1_throughCount_3 rfl (by decide) rfl ?_
  refine zz_sub [(0, .ref (ad 1)), (1, .ref (ad 2)), (2, .int 0), (3, .int 0)] [2, 3, 1, 0] rfl ?_
  refine sX1_throughCount_2_L4   M (fun v109 σ110 h => ?_) 300 _ _ _ h
  refine zz_iload_n M 0 dX1_throughCount_38 rfl rfl ?_
  exact zz_iret M dX1_throughCount_39 h
end
