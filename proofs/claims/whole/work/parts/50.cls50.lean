section
variable {p : Program} {l : Launch} {e : Env} {s : State} {m : MethodId} {args : Array Value} {below : List Frame} {meth : Method} {c : Code} {D : va_G} {cA : Nat → ClassId} {ad : Nat → Nat} {y : zX}
def wX3_isWord_s_17_L25 (Q : Int32 → zSt → Prop) (K49 : zSt → Prop) (K57 : zSt → Prop) (w0 : Nat) (x2 : Int32) : Nat → Int32 → zSt → Prop
  | 0, _, _ => False
  | n + 1, x4, σ => if (Int32.ofNat (zlen.getD w0 0)) ≤ x4 then (K57  σ) else (vp_in (x2 + x4) 160 ∧ (vp_in x4 (zlen.getD w0 0) ∧ (if (σ.1 17 (x2 + x4 : Int32).toNatClampNeg) = ((zbyt.getD w0 []).getD x4.toNatClampNeg 0) then (∀ x1 : Int32, x1 = x4 + 1 → (wX3_isWord_s_17_L25 Q K49 K57 w0 x2 n x1 σ)) else (K49  σ))))
set_option maxRecDepth 20000 in
set_option maxHeartbeats 4000000 in
theorem sX3_isWord_s_17_L25 {Q : Int32 → zSt → Prop} {K49 : zSt → Prop} {K57 : zSt → Prop} (w0 : Nat) (x2 : Int32) (hw0 : w0 < 13) (M : zM p s m args meth c cX3_isWord 5 RX3 (some .boolean) tabX D cA ad y) (hK49 : ∀ (σ : zSt), K49  σ → zG p l e (zrm 5) s m args below meth c 5 tabX D cA ad (MQ below (va_Qi Q (fun σ' t => va_P D vwCl (zws tabX cA ad σ') t.heap) (zIn tabX ad)) args s 0 0 (zIn tabX ad)) 49 [] [] σ) (hK57 : ∀ (σ : zSt), K57  σ → zG p l e (zrm 5) s m args below meth c 5 tabX D cA ad (MQ below (va_Qi Q (fun σ' t => va_P D vwCl (zws tabX cA ad σ') t.heap) (zIn tabX ad)) args s 0 0 (zIn tabX ad)) 57 [] [] σ) : ∀ (n : Nat) (x4 : Int32) (σ : zSt), wX3_isWord_s_17_L25 Q K49 K57 w0 x2 n x4 σ → zG p l e (zrm 5) s m args below meth c 5 tabX D cA ad (MQ below (va_Qi Q (fun σ' t => va_P D vwCl (zws tabX cA ad σ') t.heap) (zIn tabX ad)) args s 0 0 (zIn tabX ad)) 25 [(0, .ref (y.1 w0)), (1, .ref (ad 17)), (2, .int x2), (4, .int x4)] [] σ := by
  intro n
  induction n with
  | zero => intro x4 σ h; exact absurd h (by simp [wX3_isWord_s_17_L25])
  | succ n ih =>
    intro x4 σ h
    unfold wX3_isWord_s_17_L25 at h
    refine zz_iload M 3 dX3_isWord_25 rfl ?_
    refine zz_aload_n M 0 dX3_isWord_27 rfl rfl ?_
    refine zz_slen (rest := [.int x4]) M hw0 l_X3_121 rfl dX3_isWord_28 (by decide) (Nat.le_of_ble_eq_true rfl) ?_
    refine zz_icmp_ge M 57 dX3_isWord_31 (by decide) (fun c => ?_) (fun c => ?_)
    · have h := zif h c
      refine zz_sub [] [] rfl ?_
      exact hK57  _ h
    · have h := zifn h c
      refine zz_aload_n M 1 dX3_isWord_34 rfl rfl ?_
      refine zz_iload_n M 2 dX3_isWord_35 rfl rfl ?_
      refine zz_iload M 3 dX3_isWord_36 rfl ?_
      refine zz_iadd M dX3_isWord_38 ?_
      refine zz_iald M tX_17 h.1 dX3_isWord_39 ?_
      have h := h.2
      refine zz_aload_n M 0 dX3_isWord_40 rfl rfl ?_
      refine zz_iload M 3 dX3_isWord_41 rfl ?_
      refine zz_schar (rest := [.int (σ.1 17 (x2 + x4 : Int32).toNatClampNeg)]) M hw0 l_X3_127 rfl dX3_isWord_43 h.1 (by decide) (Nat.le_of_ble_eq_true rfl) ?_
      have h := h.2
      refine zz_icmp_eq M 51 dX3_isWord_46 (by decide) (fun c => ?_) (fun c => ?_)
      · have h := zif h c
        obtain ⟨x1, ex1⟩ : ∃ z : Int32, z = x4 + 1 := ⟨_, rfl⟩
        have h := h x1 ex1
        refine zz_iinc M [(4, .int x1), (0, .ref (y.1 w0)), (1, .ref (ad 17)), (2, .int x2)] 3 dX3_isWord_51 rfl (n32 := 1) (by decide) ex1 (by decide) rfl ?_
        refine zz_goto M 25 dX3_isWord_54 (by decide) ?_
        refine zz_sub [(0, .ref (y.1 w0)), (1, .ref (ad 17)), (2, .int x2), (4, .int x1)] [1, 2, 3, 0] rfl ?_
        exact ih _ _ h
      · have h := zifn h c
        refine zz_sub [] [] rfl ?_
        exact hK49  _ h
def wX3_isWord_s_17 (w0 : Nat) (x2 : Int32) (x3 : Int32) (σ : zSt) (Q : Int32 → zSt → Prop) : Prop := if (Int32.ofNat (zlen.getD w0 0)) = (x3 - x2) then (if x2 < 0 then (Q 0 σ) else (if x3 ≤ 160 then (wX3_isWord_s_17_L25 Q (fun  σ2 => Q 0 σ2) (fun  σ3 => Q 1 σ3) w0 x2 300 0 σ) else (Q 0 σ))) else (Q 0 σ)
set_option maxRecDepth 20000 in
set_option maxHeartbeats 4000000 in
theorem kX3_isWord_s_17 (hI : zInj tabX ad) (w0 : Nat) (x2 : Int32) (x3 : Int32) (hw0 : w0 < 13) (σ : zSt) (Q : Int32 → zSt → Prop) (h : wX3_isWord_s_17 w0 x2 x3 σ Q) : zOkI l tabX D cA ad y 5 yX3_isWord cX3_isWord 5 (some .boolean) [.ref (y.1 w0), .ref (ad 17), .int x2, .int x3] σ Q := by
  refine zz_enter hI (by decide) (Nat.le_of_ble_eq_true rfl) (fun p e s m below meth c M => ?_)
  have M : zM p s m _ meth c cX3_isWord 5 RX3 (some .boolean) tabX D cA ad y := M
  refine zz_ls [(0, .ref (y.1 w0)), (1, .ref (ad 17)), (2, .int x2), (3, .int x3)] rfl ?_
  unfold wX3_isWord_s_17 at h
  refine zz_aload_n M 0 dX3_isWord_0 rfl rfl ?_
  refine zz_slen (rest := []) M hw0 l_X3_121 rfl dX3_isWord_1 (by decide) (Nat.le_of_ble_eq_true rfl) ?_
  refine zz_iload_n M 3 dX3_isWord_4 rfl rfl ?_
  refine zz_iload_n M 2 dX3_isWord_5 rfl rfl ?_
  refine zz_isub M dX3_isWord_6 ?_
  refine zz_icmp_ne M 20 dX3_isWord_7 (by decide) (fun c => ?_) (fun c => ?_)
  · have h := zifn h c
    refine zz_iconst (v := 0) M dX3_isWord_20 (by decide) ?_
    exact zz_zret M dX3_isWord_21 (Or.inl rfl) h
  · have h := zif h c
    refine zz_iload_n M 2 dX3_isWord_10 rfl rfl ?_
    refine zz_if_lt (y0 := 0) M 20 dX3_isWord_11 (by decide) (fun c => ?_) (fun c => ?_)
    · have h := zif h c
      refine zz_iconst (v := 0) M dX3_isWord_20 (by decide) ?_
      exact zz_zret M dX3_isWord_21 (Or.inl rfl) h
    · have h := zifn h c
      refine zz_iload_n M 3 dX3_isWord_14 rfl rfl ?_
      refine zz_aload_n M 1 dX3_isWord_15 rfl rfl ?_
      refine zz_alen (v := 160) M tX_17 (by decide) (by decide) dX3_isWord_16 ?_
      refine zz_icmp_le M 22 dX3_isWord_17 (by decide) (fun c => ?_) (fun c => ?_)
      · have h := zif h c
        refine zz_iconst (v := 0) M dX3_isWord_22 (by decide) ?_
        refine zz_istore M [(4, .int 0), (0, .ref (y.1 w0)), (1, .ref (ad 17)), (2, .int x2), (3, .int x3)] dX3_isWord_23 (by decide) rfl ?_
        refine zz_sub [(0, .ref (y.1 w0)), (1, .ref (ad 17)), (2, .int x2), (4, .int 0)] [1, 2, 3, 0] rfl ?_
        refine sX3_isWord_s_17_L25 w0 x2 hw0 M (fun  σ2 h => ?_) (fun  σ3 h => ?_) 300 _ _ h
        · refine zz_iconst (v := 0) M dX3_isWord_49 (by decide) ?_
          exact zz_zret M dX3_isWord_50 (Or.inl rfl) h
        · refine zz_iconst (v := 1) M dX3_isWord_57 (by decide) ?_
          exact zz_zret M dX3_isWord_58 (Or.inr rfl) h
      · have h := zifn h c
        refine zz_iconst (v := 0) M dX3_isWord_20 (by decide) ?_
        exact zz_zret M dX3_isWord_21 (Or.inl rfl) h
def wX3_nameOf_17 (x1 : Int32) (x2 : Int32) (σ : zSt) (Q : Int32 → zSt → Prop) : Prop := wX3_isWord_s_17 1 x1 x2 σ (fun r1 σ2 => if r1 = 0 then (wX3_isWord_s_17 2 x1 x2 σ2 (fun r3 σ4 => if r3 = 0 then (wX3_isWord_s_17 3 x1 x2 σ4 (fun r5 σ6 => if r5 = 0 then (wX3_isWord_s_17 4 x1 x2 σ6 (fun r7 σ8 => if r7 = 0 then (wX3_isWord_s_17 5 x1 x2 σ8 (fun r9 σ10 => if r9 = 0 then (wX3_isWord_s_17 6 x1 x2 σ10 (fun r11 σ12 => if r11 = 0 then (Q (-1) σ12) else (Q 5 σ12))) else (Q 4 σ10))) else (Q 3 σ8))) else (Q 2 σ6))) else (Q 1 σ4))) else (Q 0 σ2))
set_option maxRecDepth 20000 in
set_option maxHeartbeats 4000000 in
theorem kX3_nameOf_17 (hI : zInj tabX ad) (x1 : Int32) (x2 : Int32)  (σ : zSt) (Q : Int32 → zSt → Prop) (h : wX3_nameOf_17 x1 x2 σ Q) : zOkI l tabX D cA ad y 6 yX3_nameOf cX3_nameOf 3 (some .int) [.ref (ad 17), .int x1, .int x2] σ Q := by
  refine zz_enter hI (by decide) (Nat.le_of_ble_eq_true rfl) (fun p e s m below meth c M => ?_)
  have M : zM p s m _ meth c cX3_nameOf 3 RX3 (some .int) tabX D cA ad y := M
  refine zz_ls [(0, .ref (ad 17)), (1, .int x1), (2, .int x2)] rfl ?_
  unfold wX3_nameOf_17 at h
  refine zz_ldcS (i := 1) M rfl dX3_nameOf_0 ?_
  refine zz_aload_n M 0 dX3_nameOf_2 rfl rfl ?_
  refine zz_iload_n M 1 dX3_nameOf_3 rfl rfl ?_
  refine zz_iload_n M 2 dX3_nameOf_4 rfl rfl ?_
  refine zz_callSI (d' := 5) (As := [.ref (y.1 1), .ref (ad 17), .int x1, .int x2]) (rest := []) M l_X3_95 dX3_nameOf_5 rfl rfl (by decide) (Nat.le_of_ble_eq_true rfl) (by have hI := M.2.2.2.2.2.2.2.2; exact kX3_isWord_s_17 hI _ _ _ (by decide) _ _ h) (fun r1 σ2 h => ?_)
  refine zz_if_eq (y0 := 0) M 13 dX3_nameOf_8 (by decide) (fun c => ?_) (fun c => ?_)
  · have h := zif h c
    refine zz_ldcS (i := 2) M rfl dX3_nameOf_13 ?_
    refine zz_aload_n M 0 dX3_nameOf_15 rfl rfl ?_
    refine zz_iload_n M 1 dX3_nameOf_16 rfl rfl ?_
    refine zz_iload_n M 2 dX3_nameOf_17 rfl rfl ?_
    refine zz_callSI (d' := 5) (As := [.ref (y.1 2), .ref (ad 17), .int x1, .int x2]) (rest := []) M l_X3_95 dX3_nameOf_18 rfl rfl (by decide) (Nat.le_of_ble_eq_true rfl) (by have hI := M.2.2.2.2.2.2.2.2; exact kX3_isWord_s_17 hI _ _ _ (by decide) _ _ h) (fun r3 σ4 h => ?_)
    refine zz_if_eq (y0 := 0) M 26 dX3_nameOf_21 (by decide) (fun c => ?_) (fun c => ?_)
    · have h := zif h c
      refine zz_ldcS (i := 3) M rfl dX3_nameOf_26 ?_
      refine zz_aload_n M 0 dX3_nameOf_28 rfl rfl ?_
      refine zz_iload_n M 1 dX3_nameOf_29 rfl rfl ?_
      refine zz_iload_n M 2 dX3_nameOf_30 rfl rfl ?_
      refine zz_callSI (d' := 5) (As := [.ref (y.1 3), .ref (ad 17), .int x1, .int x2]) (rest := []) M l_X3_95 dX3_nameOf_31 rfl rfl (by decide) (Nat.le_of_ble_eq_true rfl) (by have hI := M.2.2.2.2.2.2.2.2; exact kX3_isWord_s_17 hI _ _ _ (by decide) _ _ h) (fun r5 σ6 h => ?_)
      refine zz_if_eq (y0 := 0) M 39 dX3_nameOf_34 (by decide) (fun c => ?_) (fun c => ?_)
      · have h := zif h c
        refine zz_ldcS (i := 4) M rfl dX3_nameOf_39 ?_
        refine zz_aload_n M 0 dX3_nameOf_41 rfl rfl ?_
        refine zz_iload_n M 1 dX3_nameOf_42 rfl rfl ?_
        refine zz_iload_n M 2 dX3_nameOf_43 rfl rfl ?_
        refine zz_callSI (d' := 5) (As := [.ref (y.1 4), .ref (ad 17), .int x1, .int x2]) (rest := []) M l_X3_95 dX3_nameOf_44 rfl rfl (by decide) (Nat.le_of_ble_eq_true rfl) (by have hI := M.2.2.2.2.2.2.2.2; exact kX3_isWord_s_17 hI _ _ _ (by decide) _ _ h) (fun r7 σ8 h => ?_)
        refine zz_if_eq (y0 := 0) M 52 dX3_nameOf_47 (by decide) (fun c => ?_) (fun c => ?_)
        · have h := zif h c
          refine zz_ldcS (i := 5) M rfl dX3_nameOf_52 ?_
          refine zz_aload_n M 0 dX3_nameOf_54 rfl rfl ?_
          refine zz_iload_n M 1 dX3_nameOf_55 rfl rfl ?_
          refine zz_iload_n M 2 dX3_nameOf_56 rfl rfl ?_
          refine zz_callSI (d' := 5) (As := [.ref (y.1 5), .ref (ad 17), .int x1, .int x2]) (rest := []) M l_X3_95 dX3_nameOf_57 rfl rfl (by decide) (Nat.le_of_ble_eq_true rfl) (by have hI := M.2.2.2.2.2.2.2.2; exact kX3_isWord_s_17 hI _ _ _ (by decide) _ _ h) (fun r9 σ10 h => ?_)
          refine zz_if_eq (y0 := 0) M 65 dX3_nameOf_60 (by decide) (fun c => ?_) (fun c => ?_)
          · have h := zif h c
            refine zz_ldcS (i := 6) M rfl dX3_nameOf_65 ?_
            refine zz_aload_n M 0 dX3_nameOf_67 rfl rfl ?_
            refine zz_iload_n M 1 dX3_nameOf_68 rfl rfl ?_
            refine zz_iload_n M 2 dX3_nameOf_69 rfl rfl ?_
            refine zz_callSI (d' := 5) (As := [.ref (y.1 6), .ref (ad 17), .int x1, .int x2]) (rest := []) M l_X3_95 dX3_nameOf_70 rfl rfl (by decide) (Nat.le_of_ble_eq_true rfl) (by have hI := M.2.2.2.2.2.2.2.2; exact kX3_isWord_s_17 hI _ _ _ (by decide) _ _ h) (fun r11 σ12 h => ?_)
            refine zz_if_eq (y0 := 0) M 80 dX3_nameOf_73 (by decide) (fun c => ?_) (fun c => ?_)
            · have h := zif h c
              refine zz_iconst (v := (-1)) M dX3_nameOf_80 (by decide) ?_
              exact zz_iret M dX3_nameOf_81 h
            · have h := zifn h c
              refine zz_iconst (v := 5) M dX3_nameOf_76 (by decide) ?_
              refine zz_goto M 81 dX3_nameOf_77 (by decide) ?_
              exact zz_iret M dX3_nameOf_81 h
          · have h := zifn h c
            refine zz_iconst (v := 4) M dX3_nameOf_63 (by decide) ?_
            exact zz_iret M dX3_nameOf_64 h
        · have h := zifn h c
          refine zz_iconst (v := 3) M dX3_nameOf_50 (by decide) ?_
          exact zz_iret M dX3_nameOf_51 h
      · have h := zifn h c
        refine zz_iconst (v := 2) M dX3_nameOf_37 (by decide) ?_
        exact zz_iret M dX3_nameOf_38 h
    · have h := zifn h c
      refine zz_iconst (v := 1) M dX3_nameOf_24 (by decide) ?_
      exact zz_iret M dX3_nameOf_25 h
  · have h := zifn h c
    refine zz_iconst (v := 0) M dX3_nameOf_11 (by decide) ?_
    exact zz_iret M dX3_nameOf_12 h
def wX3_keyOf_17 (x1 : Int32) (x2 : Int32) (σ : zSt) (Q : Int32 → zSt → Prop) : Prop := wX3_isWord_s_17 7 x1 x2 σ (fun r1 σ2 => if r1 = 0 then (wX3_isWord_s_17 8 x1 x2 σ2 (fun r3 σ4 => if r3 = 0 then (wX3_isWord_s_17 9 x1 x2 σ4 (fun r5 σ6 => if r5 = 0 then (wX3_isWord_s_17 10 x1 x2 σ6 (fun r7 σ8 => if r7 = 0 then (wX3_isWord_s_17 11 x1 x2 σ8 (fun r9 σ10 => if r9 = 0 then (wX3_isWord_s_17 12 x1 x2 σ10 (fun r11 σ12 => if r11 = 0 then (Q 1 σ12) else (Q 9 σ12))) else (Q 8 σ10))) else (Q 7 σ8))) else (Q 6 σ6))) else (Q 5 σ4))) else (Q 4 σ2))
set_option maxRecDepth 20000 in
set_option maxHeartbeats 4000000 in
theorem kX3_keyOf_17 (hI : zInj tabX ad) (x1 : Int32) (x2 : Int32)  (σ : zSt) (Q : Int32 → zSt → Prop) (h : wX3_keyOf_17 x1 x2 σ Q) : zOkI l tabX D cA ad y 6 yX3_keyOf cX3_keyOf 3 (some .int) [.ref (ad 17), .int x1, .int x2] σ Q := by
  refine zz_enter hI (by decide) (Nat.le_of_ble_eq_true rfl) (fun p e s m below meth c M => ?_)
  have M : zM p s m _ meth c cX3_keyOf 3 RX3 (some .int) tabX D cA ad y := M
  refine zz_ls [(0, .ref (ad 17)), (1, .int x1), (2, .int x2)] rfl ?_
  unfold wX3_keyOf_17 at h
  refine zz_ldcS (i := 7) M rfl dX3_keyOf_0 ?_
  refine zz_aload_n M 0 dX3_keyOf_2 rfl rfl ?_
  refine zz_iload_n M 1 dX3_keyOf_3 rfl rfl ?_
  refine zz_iload_n M 2 dX3_keyOf_4 rfl rfl ?_
  refine zz_callSI (d' := 5) (As := [.ref (y.1 7), .ref (ad 17), .int x1, .int x2]) (rest := []) M l_X3_95 dX3_keyOf_5 rfl rfl (by decide) (Nat.le_of_ble_eq_true rfl) (by have hI := M.2.2.2.2.2.2.2.2; exact kX3_isWord_s_17 hI _ _ _ (by decide) _ _ h) (fun r1 σ2 h => ?_)
  refine zz_if_eq (y0 := 0) M 13 dX3_keyOf_8 (by decide) (fun c => ?_) (fun c => ?_)
  · have h := zif h c
    refine zz_ldcS (i := 8) M rfl dX3_keyOf_13 ?_
    refine zz_aload_n M 0 dX3_keyOf_15 rfl rfl ?_
    refine zz_iload_n M 1 dX3_keyOf_16 rfl rfl ?_
    refine zz_iload_n M 2 dX3_keyOf_17 rfl rfl ?_
    refine zz_callSI (d' := 5) (As := [.ref (y.1 8), .ref (ad 17), .int x1, .int x2]) (rest := []) M l_X3_95 dX3_keyOf_18 rfl rfl (by decide) (Nat.le_of_ble_eq_true rfl) (by have hI := M.2.2.2.2.2.2.2.2; exact kX3_isWord_s_17 hI _ _ _ (by decide) _ _ h) (fun r3 σ4 h => ?_)
    refine zz_if_eq (y0 := 0) M 26 dX3_keyOf_21 (by decide) (fun c => ?_) (fun c => ?_)
    · have h := zif h c
      refine zz_ldcS (i := 9) M rfl dX3_keyOf_26 ?_
      refine zz_aload_n M 0 dX3_keyOf_28 rfl rfl ?_
      refine zz_iload_n M 1 dX3_keyOf_29 rfl rfl ?_
      refine zz_iload_n M 2 dX3_keyOf_30 rfl rfl ?_
      refine zz_callSI (d' := 5) (As := [.ref (y.1 9), .ref (ad 17), .int x1, .int x2]) (rest := []) M l_X3_95 dX3_keyOf_31 rfl rfl (by decide) (Nat.le_of_ble_eq_true rfl) (by have hI := M.2.2.2.2.2.2.2.2; exact kX3_isWord_s_17 hI _ _ _ (by decide) _ _ h) (fun r5 σ6 h => ?_)
      refine zz_if_eq (y0 := 0) M 40 dX3_keyOf_34 (by decide) (fun c => ?_) (fun c => ?_)
      · have h := zif h c
        refine zz_ldcS (i := 10) M rfl dX3_keyOf_40 ?_
        refine zz_aload_n M 0 dX3_keyOf_42 rfl rfl ?_
        refine zz_iload_n M 1 dX3_keyOf_43 rfl rfl ?_
        refine zz_iload_n M 2 dX3_keyOf_44 rfl rfl ?_
        refine zz_callSI (d' := 5) (As := [.ref (y.1 10), .ref (ad 17), .int x1, .int x2]) (rest := []) M l_X3_95 dX3_keyOf_45 rfl rfl (by decide) (Nat.le_of_ble_eq_true rfl) (by have hI := M.2.2.2.2.2.2.2.2; exact kX3_isWord_s_17 hI _ _ _ (by decide) _ _ h) (fun r7 σ8 h => ?_)
        refine zz_if_eq (y0 := 0) M 54 dX3_keyOf_48 (by decide) (fun c => ?_) (fun c => ?_)
        · have h := zif h c
          refine zz_ldcS (i := 11) M rfl dX3_keyOf_54 ?_
          refine zz_aload_n M 0 dX3_keyOf_56 rfl rfl ?_
          refine zz_iload_n M 1 dX3_keyOf_57 rfl rfl ?_
          refine zz_iload_n M 2 dX3_keyOf_58 rfl rfl ?_
          refine zz_callSI (d' := 5) (As := [.ref (y.1 11), .ref (ad 17), .int x1, .int x2]) (rest := []) M l_X3_95 dX3_keyOf_59 rfl rfl (by decide) (Nat.le_of_ble_eq_true rfl) (by have hI := M.2.2.2.2.2.2.2.2; exact kX3_isWord_s_17 hI _ _ _ (by decide) _ _ h) (fun r9 σ10 h => ?_)
          refine zz_if_eq (y0 := 0) M 68 dX3_keyOf_62 (by decide) (fun c => ?_) (fun c => ?_)
          · have h := zif h c
            refine zz_ldcS (i := 12) M rfl dX3_keyOf_68 ?_
            refine zz_aload_n M 0 dX3_keyOf_70 rfl rfl ?_
            refine zz_iload_n M 1 dX3_keyOf_71 rfl rfl ?_
            refine zz_iload_n M 2 dX3_keyOf_72 rfl rfl ?_
            refine zz_callSI (d' := 5) (As := [.ref (y.1 12), .ref (ad 17), .int x1, .int x2]) (rest := []) M l_X3_95 dX3_keyOf_73 rfl rfl (by decide) (Nat.le_of_ble_eq_true rfl) (by have hI := M.2.2.2.2.2.2.2.2; exact kX3_isWord_s_17 hI _ _ _ (by decide) _ _ h) (fun r11 σ12 h => ?_)
            refine zz_if_eq (y0 := 0) M 84 dX3_keyOf_76 (by decide) (fun c => ?_) (fun c => ?_)
            · have h := zif h c
              refine zz_iconst (v := 1) M dX3_keyOf_84 (by decide) ?_
              exact zz_iret M dX3_keyOf_85 h
            · have h := zifn h c
              refine zz_bipush (v := 9) M dX3_keyOf_79 (by decide) ?_
              refine zz_goto M 85 dX3_keyOf_81 (by decide) ?_
              exact zz_iret M dX3_keyOf_85 h
          · have h := zifn h c
            refine zz_bipush (v := 8) M dX3_keyOf_65 (by decide) ?_
            exact zz_iret M dX3_keyOf_67 h
        · have h := zifn h c
          refine zz_bipush (v := 7) M dX3_keyOf_51 (by decide) ?_
          exact zz_iret M dX3_keyOf_53 h
      · have h := zifn h c
        refine zz_bipush (v := 6) M dX3_keyOf_37 (by decide) ?_
        exact zz_iret M dX3_keyOf_39 h
    · have h := zifn h c
      refine zz_iconst (v := 5) M dX3_keyOf_24 (by decide) ?_
      exact zz_iret M dX3_keyOf_25 h
  · have h := zifn h c
    refine zz_iconst (v := 4) M dX3_keyOf_11 (by decide) ?_
    exact zz_iret M dX3_keyOf_12 h
def wX3_takeWord_17_L3 (Q : Int32 → zSt → Prop) (K25 : Int32 → zSt → Prop) (x2 : Int32) (x3 : Int32) : Nat → Int32 → zSt → Prop
  | 0, _, _ => False
  | n + 1, x4, σ => if x3 ≤ x4 then (K25 x4 σ) else (vp_in x4 160 ∧ (wX3_isLetter (σ.1 17 x4.toNatClampNeg) σ (fun r1 σ2 => if r1 = 0 then (K25 x4 σ2) else (∀ x3 : Int32, x3 = x4 + 1 → (wX3_takeWord_17_L3 Q K25 x2 x3 n x3 σ2)))))
set_option maxRecDepth 20000 in
set_option maxHeartbeats 4000000 in
theorem sX3_takeWord_17_L3 {Q : Int32 → zSt → Prop} {K25 : Int32 → zSt → Prop} (x2 : Int32) (x3 : Int32)  (M : zM p s m args meth c cX3_takeWord 6 RX3 (some .int) tabX D cA ad y) (hK25 : ∀ (v4 : Int32) (σ : zSt), K25 v4 σ → zG p l e (zrm 7) s m args below meth c 6 tabX D cA ad (MQ below (va_Qi Q (fun σ' t => va_P D vwCl (zws tabX cA ad σ') t.heap) (zIn tabX ad)) args s 0 0 (zIn tabX ad)) 25 [(0, .ref (ad 19)), (1, .ref (ad 17)), (2, .int x2), (4, .int v4)] [] σ) : ∀ (n : Nat) (x4 : Int32) (σ : zSt), wX3_takeWord_17_L3 Q K25 x2 x3 n x4 σ → zG p l e (zrm 7) s m args below meth c 6 tabX D cA ad (MQ below (va_Qi Q (fun σ' t => va_P D vwCl (zws tabX cA ad σ') t.heap) (zIn tabX ad)) args s 0 0 (zIn tabX ad)) 3 [(0, .ref (ad 19)), (1, .ref (ad 17)), (2, .int x2), (3, .int x3), (4, .int x4)] [] σ := by
  intro n
  induction n with
  | zero => intro x4 σ h; exact absurd h (by simp [wX3_takeWord_17_L3])
  | succ n ih =>
    intro x4 σ h
    unfold wX3_takeWord_17_L3 at h
    refine zz_iload M 4 dX3_takeWord_3 rfl ?_
    refine zz_iload_n M 3 dX3_takeWord_5 rfl rfl ?_
    refine zz_icmp_ge M 25 dX3_takeWord_6 (by decide) (fun c => ?_) (fun c => ?_)
    · have h := zif h c
      refine zz_sub [(0, .ref (ad 19)), (1, .ref (ad 17)), (2, .int x2), (4, .int x4)] [0, 1, 2, 4] rfl ?_
      exact hK25 _ _ h
    · have h := zifn h c
      refine zz_aload_n M 1 dX3_takeWord_9 rfl rfl ?_
      refine zz_iload M 4 dX3_takeWord_10 rfl ?_
      refine zz_iald M tX_17 h.1 dX3_takeWord_12 ?_
      have h := h.2
      refine zz_callSI (d' := 1) (As := [.int (σ.1 17 x4.toNatClampNeg)]) (rest := []) M l_X3_66 dX3_takeWord_13 rfl rfl (by decide) (Nat.le_of_ble_eq_true rfl) (by have hI := M.2.2.2.2.2.2.2.2; exact kX3_isLetter hI _  _ _ h) (fun r1 σ2 h => ?_)
      refine zz_if_eq (y0 := 0) M 25 dX3_takeWord_16 (by decide) (fun c => ?_) (fun c => ?_)
      · have h := zif h c
        refine zz_sub [(0, .ref (ad 19)), (1, .ref (ad 17)), (2, .int x2), (4, .int x4)] [0, 1, 2, 4] rfl ?_
        exact hK25 _ _ h
      · have h := zifn h c
        obtain ⟨x3, ex3⟩ : ∃ z : Int32, z = x4 + 1 := ⟨_, rfl⟩
        have h := h x3 ex3
        refine zz_iinc M [(4, .int x3), (0, .ref (ad 19)), (1, .ref (ad 17)), (2, .int x2), (3, .int x3)] 4 dX3_takeWord_19 rfl (n32 := 1) (by decide) ex3 (by decide) rfl ?_
        refine zz_goto M 3 dX3_takeWord_22 (by decide) ?_
        refine zz_sub [(0, .ref (ad 19)), (1, .ref (ad 17)), (2, .int x2), (3, .int x3), (4, .int x3)] [1, 2, 3, 4, 0] rfl ?_
        exact ih _ _ h
def wX3_takeWord_17 (x2 : Int32) (x3 : Int32) (σ : zSt) (Q : Int32 → zSt → Prop) : Prop := wX3_takeWord_17_L3 Q (fun v4 σ5 => wX3_nameOf_17 x2 v4 σ5 (fun r6 σ7 => if r6 = (-1) then (wX3_keyOf_17 x2 v4 σ7 (fun r10 σ11 => wX3_keep r10 r6 x2 σ11 (fun σ13 => Q v4 σ13))) else (wX3_keep 3 r6 x2 σ7 (fun σ9 => Q v4 σ9)))) x2 x3 300 x2 σ
set_option maxRecDepth 20000 in
set_option maxHeartbeats 4000000 in
theorem kX3_takeWord_17 (hI : zInj tabX ad) (x2 : Int32) (x3 : Int32)  (σ : zSt) (Q : Int32 → zSt → Prop) (h : wX3_takeWord_17 x2 x3 σ Q) : zOkI l tabX D cA ad y 7 yX3_takeWord cX3_takeWord 6 (some .int) [.ref (ad 19), .ref (ad 17), .int x2, .int x3] σ Q := by
  refine zz_enter hI (by decide) (Nat.le_of_ble_eq_true rfl) (fun p e s m below meth c M => ?_)
  have M : zM p s m _ meth c cX3_takeWord 6 RX3 (some .int) tabX D cA ad y := M
  refine zz_ls [(0, .ref (ad 19)), (1, .ref (ad 17)), (2, .int x2), (3, .int x3)] rfl ?_
  unfold wX3_takeWord_17 at h
  refine zz_iload_n M 2 dX3_takeWord_0 rfl rfl ?_
  refine zz_istore M [(4, .int x2), (0, .ref (ad 19)), (1, .ref (ad 17)), (2, .int x2), (3, .int x3)] dX3_takeWord_1 (by decide) rfl ?_
  refine zz_sub [(0, .ref (ad 19)), (1, .ref (ad 17)), (2, .int x2), (3, .int x3), (4, .int x2)] [1, 2, 3, 4, 0] rfl ?_
  refine sX3_takeWord_17_L3 x2 x3  M (fun v4 σ5 h => ?_) 300 _ _ h
  refine zz_aload_n M 1 dX3_takeWord_25 rfl rfl ?_
  refine zz_iload_n M 2 dX3_takeWord_26 rfl rfl ?_
  refine zz_iload M 3 dX3_takeWord_27 rfl ?_
  refine zz_callSI (d' := 6) (As := [.ref (ad 17), .int x2, .int v4]) (rest := []) M l_X3_87 dX3_takeWord_29 rfl rfl (by decide) (Nat.le_of_ble_eq_true rfl) (by have hI := M.2.2.2.2.2.2.2.2; exact kX3_nameOf_17 hI _ _  _ _ h) (fun r6 σ7 h => ?_)
  refine zz_istore M [(5, .int r6), (0, .ref (ad 19)), (1, .ref (ad 17)), (2, .int x2), (4, .int v4)] dX3_takeWord_32 (by decide) rfl ?_
  refine zz_aload_n M 1 dX3_takeWord_34 rfl rfl ?_
  refine zz_iload M 0 dX3_takeWord_35 rfl ?_
  refine zz_iconst (v := (-1)) M dX3_takeWord_37 (by decide) ?_
  refine zz_icmp_ne M 51 dX3_takeWord_38 (by decide) (fun c => ?_) (fun c => ?_)
  · have h := zifn h c
    refine zz_iconst (v := 3) M dX3_takeWord_51 (by decide) ?_
    refine zz_iload M 0 dX3_takeWord_52 rfl ?_
    refine zz_iload_n M 3 dX3_takeWord_54 rfl rfl ?_
    refine zz_callVV (d' := 1) (As := [.int 3, .int r6, .int x2]) (rest := []) M l_X3_83 tX_19 rfl rfl dX3_takeWord_55 rfl rfl (by decide) (Nat.le_of_ble_eq_true rfl) (by have hI := M.2.2.2.2.2.2.2.2; exact kX3_keep hI _ _ _  _ _ h) (fun σ9 h => ?_)
    refine zz_iload M 4 dX3_takeWord_58 rfl ?_
    exact zz_iret M dX3_takeWord_60 h
  · have h := zif h c
    refine zz_aload_n M 2 dX3_takeWord_41 rfl rfl ?_
    refine zz_iload_n M 3 dX3_takeWord_42 rfl rfl ?_
    refine zz_iload M 4 dX3_takeWord_43 rfl ?_
    refine zz_callSI (d' := 6) (As := [.ref (ad 17), .int x2, .int v4]) (rest := [.ref (ad 19)]) M l_X3_90 dX3_takeWord_45 rfl rfl (by decide) (Nat.le_of_ble_eq_true rfl) (by have hI := M.2.2.2.2.2.2.2.2; exact kX3_keyOf_17 hI _ _  _ _ h) (fun r10 σ11 h => ?_)
    refine zz_goto M 52 dX3_takeWord_48 (by decide) ?_
    refine zz_iload M 0 dX3_takeWord_52 rfl ?_
    refine zz_iload_n M 3 dX3_takeWord_54 rfl rfl ?_
    refine zz_callVV (d' := 1) (As := [.int r10, .int r6, .int x2]) (rest := []) M l_X3_83 tX_19 rfl rfl dX3_takeWord_55 rfl rfl (by decide) (Nat.le_of_ble_eq_true rfl) (by have hI := M.2.2.2.2.2.2.2.2; exact kX3_keep hI _ _ _  _ _ h) (fun σ13 h => ?_)
    refine zz_iload M 4 dX3_takeWord_58 rfl ?_
    exact zz_iret M dX3_takeWord_60 h
def wX3_scan_17_L10 (Q : zSt → Prop) (K109 : zSt → Prop) (x2 : Int32) : Nat → Int32 → Int32 → zSt → Prop
  | 0, _, _, _ => False
  | n + 1, x3, x4, σ => if 160 ≤ x4 then (K109  σ) else (if x2 ≤ x3 then (K109  σ) else (vp_in x3 160 ∧ (∀ x2 : Int32, x2 = σ.1 17 x3.toNatClampNeg → (wX3_isLetter x2 σ (fun r3 σ4 => if r3 = 0 then (wX3_isNumeral x2 σ4 (fun r5 σ6 => if r5 = 0 then (if x2 = 32 then (∀ x7 : Int32, x7 = x3 + 1 → (∀ x8 : Int32, x8 = x4 + 1 → (wX3_scan_17_L10 Q K109 x2 n x7 x8 σ6))) else (if x2 = 10 then (∀ x9 : Int32, x9 = x3 + 1 → (∀ x10 : Int32, x10 = x4 + 1 → (wX3_scan_17_L10 Q K109 x2 n x9 x10 σ6))) else (wX3_isSign x2 σ6 (fun r11 σ12 => if r11 = 0 then (wX3_keep 1 0 x3 σ12 (fun σ14 => ∀ x15 : Int32, x15 = x3 + 1 → (∀ x16 : Int32, x16 = x4 + 1 → (wX3_scan_17_L10 Q K109 x2 n x15 x16 σ14)))) else (wX3_keep x2 0 x3 σ12 (fun σ18 => ∀ x19 : Int32, x19 = x3 + 1 → (∀ x20 : Int32, x20 = x4 + 1 → (wX3_scan_17_L10 Q K109 x2 n x19 x20 σ18)))))))) else (wX3_takeNumber_17 x3 x2 σ6 (fun r21 σ22 => ∀ x23 : Int32, x23 = x4 + 1 → (wX3_scan_17_L10 Q K109 x2 n r21 x23 σ22))))) else (wX3_takeWord_17 x3 x2 σ4 (fun r24 σ25 => ∀ x26 : Int32, x26 = x4 + 1 → (wX3_scan_17_L10 Q K109 x2 n r24 x26 σ25))))))))
set_option maxRecDepth 20000 in
set_option maxHeartbeats 4000000 in
theorem sX3_scan_17_L10 {Q : zSt → Prop} {K109 : zSt → Prop} (x2 : Int32)  (M : zM p s m args meth c cX3_scan 6 RX3 none tabX D cA ad y) (hK109 : ∀ (σ : zSt), K109  σ → zG p l e (zrm 8) s m args below meth c 6 tabX D cA ad (MQ below (va_Qv Q (fun σ' t => va_P D vwCl (zws tabX cA ad σ') t.heap) (zIn tabX ad)) args s 0 0 (zIn tabX ad)) 109 [(0, .ref (ad 19)), (2, .int x2)] [] σ) : ∀ (n : Nat) (x3 : Int32) (x4 : Int32) (σ : zSt), wX3_scan_17_L10 Q K109 x2 n x3 x4 σ → zG p l e (zrm 8) s m args below meth c 6 tabX D cA ad (MQ below (va_Qv Q (fun σ' t => va_P D vwCl (zws tabX cA ad σ') t.heap) (zIn tabX ad)) args s 0 0 (zIn tabX ad)) 10 [(0, .ref (ad 19)), (1, .ref (ad 17)), (2, .int x2), (3, .int x3), (4, .int x4)] [] σ := by
  intro n
  induction n with
  | zero => intro x3 x4 σ h; exact absurd h (by simp [wX3_scan_17_L10])
  | succ n ih =>
    intro x3 x4 σ h
    unfold wX3_scan_17_L10 at h
    refine zz_iload M 4 dX3_scan_10 rfl ?_
    refine zz_sipush (v := 160) M dX3_scan_12 (by decide) ?_
    refine zz_icmp_ge M 109 dX3_scan_15 (by decide) (fun c => ?_) (fun c => ?_)
    · have h := zif h c
      refine zz_sub [(0, .ref (ad 19)), (2, .int x2)] [0, 2] rfl ?_
      exact hK109  _ h
    · have h := zifn h c
      refine zz_iload_n M 3 dX3_scan_18 rfl rfl ?_
      refine zz_iload_n M 2 dX3_scan_19 rfl rfl ?_
      refine zz_icmp_ge M 109 dX3_scan_20 (by decide) (fun c => ?_) (fun c => ?_)
      · have h := zif h c
        refine zz_sub [(0, .ref (ad 19)), (2, .int x2)] [0, 2] rfl ?_
        exact hK109  _ h
      · have h := zifn h c
        refine zz_aload_n M 1 dX3_scan_23 rfl rfl ?_
        refine zz_iload_n M 3 dX3_scan_24 rfl rfl ?_
        refine zz_iald M tX_17 h.1 dX3_scan_25 ?_
        have h := h.2
        refine zz_topi (fun x2 ex2 => ?_)
        have h := h x2 ex2
        refine zz_istore M [(5, .int x2), (0, .ref (ad 19)), (1, .ref (ad 17)), (2, .int x2), (3, .int x3), (4, .int x4)] dX3_scan_26 (by decide) rfl ?_
        refine zz_iload M 0 dX3_scan_28 rfl ?_
        refine zz_callSI (d' := 1) (As := [.int x2]) (rest := []) M l_X3_66 dX3_scan_30 rfl rfl (by decide) (Nat.le_of_ble_eq_true rfl) (by have hI := M.2.2.2.2.2.2.2.2; exact kX3_isLetter hI _  _ _ h) (fun r3 σ4 h => ?_)
        refine zz_if_eq (y0 := 0) M 47 dX3_scan_33 (by decide) (fun c => ?_) (fun c => ?_)
        · have h := zif h c
          refine zz_iload M 0 dX3_scan_47 rfl ?_
          refine zz_callSI (d' := 1) (As := [.int x2]) (rest := []) M l_X3_74 dX3_scan_49 rfl rfl (by decide) (Nat.le_of_ble_eq_true rfl) (by have hI := M.2.2.2.2.2.2.2.2; exact kX3_isNumeral hI _  _ _ h) (fun r5 σ6 h => ?_)
          refine zz_if_eq (y0 := 0) M 66 dX3_scan_52 (by decide) (fun c => ?_) (fun c => ?_)
          · have h := zif h c
            refine zz_iload M 0 dX3_scan_66 rfl ?_
            refine zz_bipush (v := 32) M dX3_scan_68 (by decide) ?_
            refine zz_icmp_eq M 100 dX3_scan_70 (by decide) (fun c => ?_) (fun c => ?_)
            · have h := zif h c
              obtain ⟨x7, ex7⟩ : ∃ z : Int32, z = x3 + 1 := ⟨_, rfl⟩
              have h := h x7 ex7
              refine zz_iinc M [(3, .int x7), (5, .int x2), (0, .ref (ad 19)), (1, .ref (ad 17)), (2, .int x2), (4, .int x4)] 4 dX3_scan_100 rfl (n32 := 1) (by decide) ex7 (by decide) rfl ?_
              obtain ⟨x8, ex8⟩ : ∃ z : Int32, z = x4 + 1 := ⟨_, rfl⟩
              have h := h x8 ex8
              refine zz_iinc M [(4, .int x8), (3, .int x7), (5, .int x2), (0, .ref (ad 19)), (1, .ref (ad 17)), (2, .int x2)] 5 dX3_scan_103 rfl (n32 := 1) (by decide) ex8 (by decide) rfl ?_
              refine zz_goto M 10 dX3_scan_106 (by decide) ?_
              refine zz_sub [(0, .ref (ad 19)), (1, .ref (ad 17)), (2, .int x2), (3, .int x7), (4, .int x8)] [3, 4, 5, 1, 0] rfl ?_
              exact ih _ _ _ h
            · have h := zifn h c
              refine zz_iload M 0 dX3_scan_73 rfl ?_
              refine zz_bipush (v := 10) M dX3_scan_75 (by decide) ?_
              refine zz_icmp_eq M 100 dX3_scan_77 (by decide) (fun c => ?_) (fun c => ?_)
              · have h := zif h c
                obtain ⟨x9, ex9⟩ : ∃ z : Int32, z = x3 + 1 := ⟨_, rfl⟩
                have h := h x9 ex9
                refine zz_iinc M [(3, .int x9), (5, .int x2), (0, .ref (ad 19)), (1, .ref (ad 17)), (2, .int x2), (4, .int x4)] 4 dX3_scan_100 rfl (n32 := 1) (by decide) ex9 (by decide) rfl ?_
                obtain ⟨x10, ex10⟩ : ∃ z : Int32, z = x4 + 1 := ⟨_, rfl⟩
                have h := h x10 ex10
                refine zz_iinc M [(4, .int x10), (3, .int x9), (5, .int x2), (0, .ref (ad 19)), (1, .ref (ad 17)), (2, .int x2)] 5 dX3_scan_103 rfl (n32 := 1) (by decide) ex10 (by decide) rfl ?_
                refine zz_goto M 10 dX3_scan_106 (by decide) ?_
                refine zz_sub [(0, .ref (ad 19)), (1, .ref (ad 17)), (2, .int x2), (3, .int x9), (4, .int x10)] [3, 4, 5, 1, 0] rfl ?_
                exact ih _ _ _ h
              · have h := zifn h c
                refine zz_aload_n M 1 dX3_scan_80 rfl rfl ?_
                refine zz_iload M 0 dX3_scan_81 rfl ?_
                refine zz_callSI (d' := 1) (As := [.int x2]) (rest := [.ref (ad 19)]) M l_X3_80 dX3_scan_83 rfl rfl (by decide) (Nat.le_of_ble_eq_true rfl) (by have hI := M.2.2.2.2.2.2.2.2; exact kX3_isSign hI _  _ _ h) (fun r11 σ12 h => ?_)
                refine zz_if_eq (y0 := 0) M 94 dX3_scan_86 (by decide) (fun c => ?_) (fun c => ?_)
                · have h := zif h c
                  refine zz_iconst (v := 1) M dX3_scan_94 (by decide) ?_
                  refine zz_iconst (v := 0) M dX3_scan_95 (by decide) ?_
                  refine zz_iload_n M 4 dX3_scan_96 rfl rfl ?_
                  refine zz_callVV (d' := 1) (As := [.int 1, .int 0, .int x3]) (rest := []) M l_X3_83 tX_19 rfl rfl dX3_scan_97 rfl rfl (by decide) (Nat.le_of_ble_eq_true rfl) (by have hI := M.2.2.2.2.2.2.2.2; exact kX3_keep hI _ _ _  _ _ h) (fun σ14 h => ?_)
                  obtain ⟨x15, ex15⟩ : ∃ z : Int32, z = x3 + 1 := ⟨_, rfl⟩
                  have h := h x15 ex15
                  refine zz_iinc M [(3, .int x15), (5, .int x2), (0, .ref (ad 19)), (1, .ref (ad 17)), (2, .int x2), (4, .int x4)] 4 dX3_scan_100 rfl (n32 := 1) (by decide) ex15 (by decide) rfl ?_
                  obtain ⟨x16, ex16⟩ : ∃ z : Int32, z = x4 + 1 := ⟨_, rfl⟩
                  have h := h x16 ex16
                  refine zz_iinc M [(4, .int x16), (3, .int x15), (5, .int x2), (0, .ref (ad 19)), (1, .ref (ad 17)), (2, .int x2)] 5 dX3_scan_103 rfl (n32 := 1) (by decide) ex16 (by decide) rfl ?_
                  refine zz_goto M 10 dX3_scan_106 (by decide) ?_
                  refine zz_sub [(0, .ref (ad 19)), (1, .ref (ad 17)), (2, .int x2), (3, .int x15), (4, .int x16)] [3, 4, 5, 1, 0] rfl ?_
                  exact ih _ _ _ h
                · have h := zifn h c
                  refine zz_iload M 0 dX3_scan_89 rfl ?_
                  refine zz_goto M 95 dX3_scan_91 (by decide) ?_
                  refine zz_iconst (v := 0) M dX3_scan_95 (by decide) ?_
                  refine zz_iload_n M 4 dX3_scan_96 rfl rfl ?_
                  refine zz_callVV (d' := 1) (As := [.int x2, .int 0, .int x3]) (rest := []) M l_X3_83 tX_19 rfl rfl dX3_scan_97 rfl rfl (by decide) (Nat.le_of_ble_eq_true rfl) (by have hI := M.2.2.2.2.2.2.2.2; exact kX3_keep hI _ _ _  _ _ h) (fun σ18 h => ?_)
                  obtain ⟨x19, ex19⟩ : ∃ z : Int32, z = x3 + 1 := ⟨_, rfl⟩
                  have h := h x19 ex19
                  refine zz_iinc M [(3, .int x19), (5, .int x2), (0, .ref (ad 19)), (1, .ref (ad 17)), (2, .int x2), (4, .int x4)] 4 dX3_scan_100 rfl (n32 := 1) (by decide) ex19 (by decide) rfl ?_
                  obtain ⟨x20, ex20⟩ : ∃ z : Int32, z = x4 + 1 := ⟨_, rfl⟩
                  have h := h x20 ex20
                  refine zz_iinc M [(4, .int x20), (3, .int x19), (5, .int x2), (0, .ref (ad 19)), (1, .ref (ad 17)), (2, .int x2)] 5 dX3_scan_103 rfl (n32 := 1) (by decide) ex20 (by decide) rfl ?_
                  refine zz_goto M 10 dX3_scan_106 (by decide) ?_
                  refine zz_sub [(0, .ref (ad 19)), (1, .ref (ad 17)), (2, .int x2), (3, .int x19), (4, .int x20)] [3, 4, 5, 1, 0] rfl ?_
                  exact ih _ _ _ h
          · have h := zifn h c
            refine zz_aload_n M 1 dX3_scan_55 rfl rfl ?_
            refine zz_aload_n M 2 dX3_scan_56 rfl rfl ?_
            refine zz_iload_n M 4 dX3_scan_57 rfl rfl ?_
            refine zz_iload_n M 3 dX3_scan_58 rfl rfl ?_
            refine zz_callVI (d' := 2) (As := [.ref (ad 17), .int x3, .int x2]) (rest := []) M l_X3_77 tX_19 rfl rfl dX3_scan_59 rfl rfl (by decide) (Nat.le_of_ble_eq_true rfl) (by have hI := M.2.2.2.2.2.2.2.2; exact kX3_takeNumber_17 hI _ _  _ _ h) (fun r21 σ22 h => ?_)
            refine zz_istore_n M [(3, .int r21), (5, .int x2), (0, .ref (ad 19)), (1, .ref (ad 17)), (2, .int x2), (4, .int x4)] dX3_scan_62 rfl (by decide) rfl ?_
            refine zz_goto M 103 dX3_scan_63 (by decide) ?_
            obtain ⟨x23, ex23⟩ : ∃ z : Int32, z = x4 + 1 := ⟨_, rfl⟩
            have h := h x23 ex23
            refine zz_iinc M [(4, .int x23), (3, .int r21), (5, .int x2), (0, .ref (ad 19)), (1, .ref (ad 17)), (2, .int x2)] 5 dX3_scan_103 rfl (n32 := 1) (by decide) ex23 (by decide) rfl ?_
            refine zz_goto M 10 dX3_scan_106 (by decide) ?_
            refine zz_sub [(0, .ref (ad 19)), (1, .ref (ad 17)), (2, .int x2), (3, .int r21), (4, .int x23)] [3, 4, 5, 1, 0] rfl ?_
            exact ih _ _ _ h
        · have h := zifn h c
          refine zz_aload_n M 1 dX3_scan_36 rfl rfl ?_
          refine zz_aload_n M 2 dX3_scan_37 rfl rfl ?_
          refine zz_iload_n M 4 dX3_scan_38 rfl rfl ?_
          refine zz_iload_n M 3 dX3_scan_39 rfl rfl ?_
          refine zz_callVI (d' := 7) (As := [.ref (ad 17), .int x3, .int x2]) (rest := []) M l_X3_70 tX_19 rfl rfl dX3_scan_40 rfl rfl (by decide) (Nat.le_of_ble_eq_true rfl) (by have hI := M.2.2.2.2.2.2.2.2; exact kX3_takeWord_17 hI _ _  _ _ h) (fun r24 σ25 h => ?_)
          refine zz_istore_n M [(3, .int r24), (5, .int x2), (0, .ref (ad 19)), (1, .ref (ad 17)), (2, .int x2), (4, .int x4)] dX3_scan_43 rfl (by decide) rfl ?_
          refine zz_goto M 103 dX3_scan_44 (by decide) ?_
          obtain ⟨x26, ex26⟩ : ∃ z : Int32, z = x4 + 1 := ⟨_, rfl⟩
          have h := h x26 ex26
          refine zz_iinc M [(4, .int x26), (3, .int r24), (5, .int x2), (0, .ref (ad 19)), (1, .ref (ad 17)), (2, .int x2)] 5 dX3_scan_103 rfl (n32 := 1) (by decide) ex26 (by decide) rfl ?_
          refine zz_goto M 10 dX3_scan_106 (by decide) ?_
          refine zz_sub [(0, .ref (ad 19)), (1, .ref (ad 17)), (2, .int x2), (3, .int r24), (4, .int x26)] [3, 4, 5, 1, 0] rfl ?_
          exact ih _ _ _ h
def wX3_scan_17 (x2 : Int32) (σ : zSt) (Q : zSt → Prop) : Prop := ∀ σ1 : zSt, σ1 = zput σ 19 3 0 → (wX3_scan_17_L10 Q (fun  σ27 => wX3_keep 0 0 x2 σ27 (fun σ29 => Q σ29)) x2 300 0 0 σ1)
set_option maxRecDepth 20000 in
set_option maxHeartbeats 4000000 in
theorem kX3_scan_17 (hI : zInj tabX ad) (x2 : Int32)  (σ : zSt) (Q : zSt → Prop) (h : wX3_scan_17 x2 σ Q) : zOkV l tabX D cA ad y 8 yX3_scan cX3_scan 6 none [.ref (ad 19), .ref (ad 17), .int x2] σ Q := by
  refine zz_enter hI (by decide) (Nat.le_of_ble_eq_true rfl) (fun p e s m below meth c M => ?_)
  have M : zM p s m _ meth c cX3_scan 6 RX3 none tabX D cA ad y := M
  refine zz_ls [(0, .ref (ad 19)), (1, .ref (ad 17)), (2, .int x2)] rfl ?_
  unfold wX3_scan_17 at h
  refine zz_aload_n M 0 dX3_scan_0 rfl rfl ?_
  refine zz_iconst (v := 0) M dX3_scan_1 (by decide) ?_
  refine zz_putI M f_X3_21 tX_19 rfl dX3_scan_2 ?_
  refine zz_sg (fun σ1 eσ1 => ?_)
  have h := h σ1 eσ1
  refine zz_iconst (v := 0) M dX3_scan_5 (by decide) ?_
  refine zz_istore_n M [(3, .int 0), (0, .ref (ad 19)), (1, .ref (ad 17)), (2, .int x2)] dX3_scan_6 rfl (by decide) rfl ?_
  refine zz_iconst (v := 0) M dX3_scan_7 (by decide) ?_
  refine zz_istore M [(4, .int 0), (3, .int 0), (0, .ref (ad 19)), (1, .ref (ad 17)), (2, .int x2)] dX3_scan_8 (by decide) rfl ?_
  refine zz_sub [(0, .ref (ad 19)), (1, .ref (ad 17)), (2, .int x2), (3, .int 0), (4, .int 0)] [2, 3, 4, 1, 0] rfl ?_
  refine sX3_scan_17_L10 x2  M (fun  σ27 h => ?_) 300 _ _ _ h
  refine zz_aload_n M 0 dX3_scan_109 rfl rfl ?_
  refine zz_iconst (v := 0) M dX3_scan_110 (by decide) ?_
  refine zz_iconst (v := 0) M dX3_scan_111 (by decide) ?_
  refine zz_iload_n M 1 dX3_scan_112 rfl rfl ?_
  refine zz_callVV (d' := 1) (As := [.int 0, .int 0, .int x2]) (rest := []) M l_X3_83 tX_19 rfl rfl dX3_scan_113 rfl rfl (by decide) (Nat.le_of_ble_eq_true rfl) (by have hI := M.2.2.2.2.2.2.2.2; exact kX3_keep hI _ _ _  _ _ h) (fun σ29 h => ?_)
  exact zz_vret M dX3_scan_116 h
def wX6_clear (i0 : Nat) (σ : zSt) (Q : zSt → Prop) : Prop := ∀ σ1 : zSt, σ1 = zput σ (43 + i0) 2 0 → (Q σ1)
set_option maxRecDepth 20000 in
set_option maxHeartbeats 4000000 in
theorem kX6_clear (hI : zInj tabX ad) (i0 : Nat) (hi0 : i0 < 6) (σ : zSt) (Q : zSt → Prop) (h : wX6_clear i0 σ Q) : zOkV l tabX D cA ad y 1 yX6_clear cX6_clear 1 none [.ref (ad (43 + i0))] σ Q := by
  refine zz_enter hI (by decide) (Nat.le_of_ble_eq_true rfl) (fun p e s m below meth c M => ?_)
  have M : zM p s m _ meth c cX6_clear 1 RX6 none tabX D cA ad y := M
  refine zz_ls [(0, .ref (ad (43 + i0)))] rfl ?_
  unfold wX6_clear at h
  refine zz_aload_n M 0 dX6_clear_0 rfl rfl ?_
  refine zz_iconst (v := 0) M dX6_clear_1 (by decide) ?_
  refine zz_putI M f_X6_18 (tX_Text hi0) rfl dX6_clear_2 ?_
  refine zz_sg (fun σ1 eσ1 => ?_)
  have h := h σ1 eσ1
  exact zz_vret M dX6_clear_5 h
def wX6_endPart (i0 : Nat) (x1 : Int32) (σ : zSt) (Q : zSt → Prop) : Prop := if x1 < 0 then (Q σ) else (if 3 ≤ x1 then (Q σ) else (vp_in x1 3 ∧ (∀ σ1 : zSt, σ1 = zput σ (55 + i0) x1.toNatClampNeg (σ.1 (43 + i0) 2) → (Q σ1))))
set_option maxRecDepth 20000 in
set_option maxHeartbeats 4000000 in
theorem kX6_endPart (hI : zInj tabX ad) (i0 : Nat) (x1 : Int32) (hi0 : i0 < 6) (σ : zSt) (Q : zSt → Prop) (h : wX6_endPart i0 x1 σ Q) : zOkV l tabX D cA ad y 1 yX6_endPart cX6_endPart 2 none [.ref (ad (43 + i0)), .int x1] σ Q := by
  refine zz_enter hI (by decide) (Nat.le_of_ble_eq_true rfl) (fun p e s m below meth c M => ?_)
  have M : zM p s m _ meth c cX6_endPart 2 RX6 none tabX D cA ad y := M
  refine zz_ls [(0, .ref (ad (43 + i0))), (1, .int x1)] rfl ?_
  unfold wX6_endPart at h
  refine zz_iload_n M 1 dX6_endPart_0 rfl rfl ?_
  refine zz_if_lt (y0 := 0) M 23 dX6_endPart_1 (by decide) (fun c => ?_) (fun c => ?_)
  · have h := zif h c
    exact zz_vret M dX6_endPart_23 h
  · have h := zifn h c
    refine zz_iload_n M 1 dX6_endPart_4 rfl rfl ?_
    refine zz_aload_n M 0 dX6_endPart_5 rfl rfl ?_
    refine zz_getR M f_X6_15 (tX_Text hi0) rfl dX6_endPart_6 ?_
    refine zz_alen (v := 3) M (tX_Text_ends hi0) (by decide) (by decide) dX6_endPart_9 ?_
    refine zz_icmp_ge M 23 dX6_endPart_10 (by decide) (fun c => ?_) (fun c => ?_)
    · have h := zif h c
      exact zz_vret M dX6_endPart_23 h
    · have h := zifn h c
      refine zz_aload_n M 0 dX6_endPart_13 rfl rfl ?_
      refine zz_getR M f_X6_15 (tX_Text hi0) rfl dX6_endPart_14 ?_
      refine zz_iload_n M 1 dX6_endPart_17 rfl rfl ?_
      refine zz_aload_n M 0 dX6_endPart_18 rfl rfl ?_
      refine zz_getI M f_X6_18 (tX_Text hi0) rfl dX6_endPart_19 ?_
      refine zz_iast M (tX_Text_ends hi0) h.1 dX6_endPart_22 ?_
      have h := h.2
      refine zz_sg (fun σ1 eσ1 => ?_)
      have h := h σ1 eσ1
      exact zz_vret M dX6_endPart_23 h
def wX3_part (x1 : Int32) (x2 : Int32) (σ : zSt) (Q : Int32 → zSt → Prop) : Prop := wX3_passes x2 σ (fun r1 σ2 => if r1 = 0 then (Q 0 σ2) else (wX3_rec 60 0 0 σ2 (fun r3 σ4 => if r3 = 0 then (Q 0 σ4) else (wX3_passes 59 σ4 (fun r5 σ6 => if r5 = 0 then (Q 0 σ6) else (vp_in (σ6.1 19 8) 6 ∧ (wX6_endPart ((σ6.1 19 8).toNatClampNeg) x1 σ6 (fun σ9 => Q 1 σ9))))))))
set_option maxRecDepth 20000 in
set_option maxHeartbeats 4000000 in
theorem kX3_part (hI : zInj tabX ad) (x1 : Int32) (x2 : Int32)  (σ : zSt) (Q : Int32 → zSt → Prop) (h : wX3_part x1 x2 σ Q) : zOkI l tabX D cA ad y 68 yX3_part cX3_part 3 (some .boolean) [.ref (ad 19), .int x1, .int x2] σ Q := by
  refine zz_enter hI (by decide) (Nat.le_of_ble_eq_true rfl) (fun p e s m below meth c M => ?_)
  have M : zM p s m _ meth c cX3_part 3 RX3 (some .boolean) tabX D cA ad y := M
  refine zz_ls [(0, .ref (ad 19)), (1, .int x1), (2, .int x2)] rfl ?_
  unfold wX3_part at h
  refine zz_aload_n M 0 dX3_part_0 rfl rfl ?_
  refine zz_iload_n M 2 dX3_part_1 rfl rfl ?_
  refine zz_callVI (d' := 2) (As := [.int x2]) (rest := []) M l_X3_131 tX_19 rfl rfl dX3_part_2 rfl rfl (by decide) (Nat.le_of_ble_eq_true rfl) (by have hI := M.2.2.2.2.2.2.2.2; exact kX3_passes hI _  _ _ h) (fun r1 σ2 h => ?_)
  refine zz_if_eq (y0 := 0) M 25 dX3_part_5 (by decide) (fun c => ?_) (fun c => ?_)
  · have h := zif h c
    refine zz_iconst (v := 0) M dX3_part_25 (by decide) ?_
    exact zz_zret M dX3_part_26 (Or.inl rfl) h
  · have h := zifn h c
    refine zz_aload_n M 0 dX3_part_8 rfl rfl ?_
    refine zz_iconst (v := 0) M dX3_part_9 (by decide) ?_
    refine zz_callVI (d' := 66) (As := [.int 0]) (rest := []) M l_X3_134 tX_19 rfl rfl dX3_part_10 rfl rfl (by decide) (Nat.le_of_ble_eq_true rfl) (by have hI := M.2.2.2.2.2.2.2.2; exact (kX3_rec hI 60).1 _ _ _ h) (fun r3 σ4 h => ?_)
    refine zz_if_eq (y0 := 0) M 25 dX3_part_13 (by decide) (fun c => ?_) (fun c => ?_)
    · have h := zif h c
      refine zz_iconst (v := 0) M dX3_part_25 (by decide) ?_
      exact zz_zret M dX3_part_26 (Or.inl rfl) h
    · have h := zifn h c
      refine zz_aload_n M 0 dX3_part_16 rfl rfl ?_
      refine zz_bipush (v := 59) M dX3_part_17 (by decide) ?_
      refine zz_callVI (d' := 2) (As := [.int 59]) (rest := []) M l_X3_131 tX_19 rfl rfl dX3_part_19 rfl rfl (by decide) (Nat.le_of_ble_eq_true rfl) (by have hI := M.2.2.2.2.2.2.2.2; exact kX3_passes hI _  _ _ h) (fun r5 σ6 h => ?_)
      refine zz_if_ne (y0 := 0) M 27 dX3_part_22 (by decide) (fun c => ?_) (fun c => ?_)
      · have h := zifn h c
        refine zz_aload_n M 0 dX3_part_27 rfl rfl ?_
        have hq7 := h.1
        refine zz_getD (b := 43) M f_X3_37 tX_19 rfl hq7 dX3_part_28 ?_
        have h := h.2
        refine zz_iload_n M 1 dX3_part_31 rfl rfl ?_
        refine zz_callVV (d' := 1) (As := [.int x1]) (rest := []) M l_X3_137 (tX_Text (zclt hq7)) rfl rfl dX3_part_32 rfl rfl (by decide) (Nat.le_of_ble_eq_true rfl) (by have hI := M.2.2.2.2.2.2.2.2; exact kX6_endPart hI _ _ (zclt hq7) _ _ h) (fun σ9 h => ?_)
        refine zz_iconst (v := 1) M dX3_part_35 (by decide) ?_
        exact zz_zret M dX3_part_36 (Or.inr rfl) h
      · have h := zif h c
        refine zz_iconst (v := 0) M dX3_part_25 (by decide) ?_
        exact zz_zret M dX3_part_26 (Or.inl rfl) h
def wX3_reads_17_Text (x2 : Int32) (i3 : Nat) (σ : zSt) (Q : Int32 → zSt → Prop) : Prop := wX3_scan_17 (if (0 : Int32) < (if (160 : Int32) < (if (160 : Int32) < x2 then 160 else x2) then 160 else (if (160 : Int32) < x2 then 160 else x2)) then (if (160 : Int32) < (if (160 : Int32) < x2 then 160 else x2) then 160 else (if (160 : Int32) < x2 then 160 else x2)) else 0) σ (fun σ2 => ∀ σ3 : zSt, σ3 = zput σ2 19 8 (nI i3) → (vp_in (σ3.1 19 8) 6 ∧ (wX6_clear ((σ3.1 19 8).toNatClampNeg) σ3 (fun σ6 => ∀ σ7 : zSt, σ7 = zput σ6 19 4 0 → (wX3_advance  σ7 (fun σ9 => wX3_part 0 4 σ9 (fun r10 σ11 => if r10 = 0 then (Q 0 σ11) else (wX3_part 1 5 σ11 (fun r12 σ13 => if r12 = 0 then (Q 0 σ13) else (wX3_part 2 6 σ13 (fun r14 σ15 => if r14 = 0 then (Q 0 σ15) else (if (σ15.1 19 5) = 0 then (Q 1 σ15) else (Q 0 σ15)))))))))))))
set_option maxRecDepth 20000 in
set_option maxHeartbeats 4000000 in
theorem kX3_reads_17_Text (hI : zInj tabX ad) (x2 : Int32) (i3 : Nat) (hi3 : i3 < 6) (σ : zSt) (Q : Int32 → zSt → Prop) (h : wX3_reads_17_Text x2 i3 σ Q) : zOkI l tabX D cA ad y 69 yX3_reads cX3_reads 4 (some .boolean) [.ref (ad 19), .ref (ad 17), .int x2, .ref (ad (43 + i3))] σ Q := by
  refine zz_enter hI (by decide) (Nat.le_of_ble_eq_true rfl) (fun p e s m below meth c M => ?_)
  have M : zM p s m _ meth c cX3_reads 4 RX3 (some .boolean) tabX D cA ad y := M
  refine zz_ls [(0, .ref (ad 19)), (1, .ref (ad 17)), (2, .int x2), (3, .ref (ad (43 + i3)))] rfl ?_
  unfold wX3_reads_17_Text at h
  refine zz_aload_n M 1 dX3_reads_0 rfl rfl ?_
  refine zz_ifnull M dX3_reads_1 ?_
  refine zz_aload_n M 3 dX3_reads_4 rfl rfl ?_
  refine zz_ifnonnull M 10 dX3_reads_5 (by decide) ?_
  refine zz_aload_n M 0 dX3_reads_10 rfl rfl ?_
  refine zz_aload_n M 1 dX3_reads_11 rfl rfl ?_
  refine zz_iconst (v := 0) M dX3_reads_12 (by decide) ?_
  refine zz_iload_n M 2 dX3_reads_13 rfl rfl ?_
  refine zz_sipush (v := 160) M dX3_reads_14 (by decide) ?_
  refine zz_min M l_X3_41 zmath_min (by decide) (Nat.le_of_ble_eq_true rfl) dX3_reads_17 ?_
  refine zz_aload_n M 1 dX3_reads_20 rfl rfl ?_
  refine zz_alen (v := 160) M tX_17 (by decide) (by decide) dX3_reads_21 ?_
  refine zz_min M l_X3_41 zmath_min (by decide) (Nat.le_of_ble_eq_true rfl) dX3_reads_22 ?_
  refine zz_max M l_X3_47 zmath_max (by decide) (Nat.le_of_ble_eq_true rfl) dX3_reads_25 ?_
  refine zz_callVV (d' := 8) (As := [.ref (ad 17), .int (if (0 : Int32) < (if (160 : Int32) < (if (160 : Int32) < x2 then 160 else x2) then 160 else (if (160 : Int32) < x2 then 160 else x2)) then (if (160 : Int32) < (if (160 : Int32) < x2 then 160 else x2) then 160 else (if (160 : Int32) < x2 then 160 else x2)) else 0)]) (rest := []) M l_X3_50 tX_19 rfl rfl dX3_reads_28 rfl rfl (by decide) (Nat.le_of_ble_eq_true rfl) (by have hI := M.2.2.2.2.2.2.2.2; exact kX3_scan_17 hI _  _ _ h) (fun σ2 h => ?_)
  refine zz_aload_n M 0 dX3_reads_31 rfl rfl ?_
  refine zz_aload_n M 3 dX3_reads_32 rfl rfl ?_
  refine zz_putD (b := 43) (q := i3) M f_X3_37 (Nat.lt_trans hi3 (by decide)) tX_19 rfl dX3_reads_33 ?_
  refine zz_sg (fun σ3 eσ3 => ?_)
  have h := h σ3 eσ3
  refine zz_aload_n M 0 dX3_reads_36 rfl rfl ?_
  have hq4 := h.1
  refine zz_getD (b := 43) M f_X3_37 tX_19 rfl hq4 dX3_reads_37 ?_
  have h := h.2
  refine zz_callVV (d' := 1) (As := []) (rest := []) M l_X3_54 (tX_Text (zclt hq4)) rfl rfl dX3_reads_40 rfl rfl (by decide) (Nat.le_of_ble_eq_true rfl) (by have hI := M.2.2.2.2.2.2.2.2; exact kX6_clear hI _ (zclt hq4) _ _ h) (fun σ6 h => ?_)
  refine zz_aload_n M 0 dX3_reads_43 rfl rfl ?_
  refine zz_iconst (v := 0) M dX3_reads_44 (by decide) ?_
  refine zz_putI M f_X3_25 tX_19 rfl dX3_reads_45 ?_
  refine zz_sg (fun σ7 eσ7 => ?_)
  have h := h σ7 eσ7
  refine zz_aload_n M 0 dX3_reads_48 rfl rfl ?_
  refine zz_callVV (d' := 1) (As := []) (rest := []) M l_X3_59 tX_19 rfl rfl dX3_reads_49 rfl rfl (by decide) (Nat.le_of_ble_eq_true rfl) (by have hI := M.2.2.2.2.2.2.2.2; exact kX3_advance hI   _ _ h) (fun σ9 h => ?_)
  refine zz_aload_n M 0 dX3_reads_52 rfl rfl ?_
  refine zz_iconst (v := 0) M dX3_reads_53 (by decide) ?_
  refine zz_iconst (v := 4) M dX3_reads_54 (by decide) ?_
  refine zz_callVI (d' := 68) (As := [.int 0, .int 4]) (rest := []) M l_X3_62 tX_19 rfl rfl dX3_reads_55 rfl rfl (by decide) (Nat.le_of_ble_eq_true rfl) (by have hI := M.2.2.2.2.2.2.2.2; exact kX3_part hI _ _  _ _ h) (fun r10 σ11 h => ?_)
  refine zz_if_eq (y0 := 0) M 91 dX3_reads_58 (by decide) (fun c => ?_) (fun c => ?_)
  · have h := zif h c
    refine zz_iconst (v := 0) M dX3_reads_91 (by decide) ?_
    exact zz_zret M dX3_reads_92 (Or.inl rfl) h
  · have h := zifn h c
    refine zz_aload_n M 0 dX3_reads_61 rfl rfl ?_
    refine zz_iconst (v := 1) M dX3_reads_62 (by decide) ?_
    refine zz_iconst (v := 5) M dX3_reads_63 (by decide) ?_
    refine zz_callVI (d' := 68) (As := [.int 1, .int 5]) (rest := []) M l_X3_62 tX_19 rfl rfl dX3_reads_64 rfl rfl (by decide) (Nat.le_of_ble_eq_true rfl) (by have hI := M.2.2.2.2.2.2.2.2; exact kX3_part hI _ _  _ _ h) (fun r12 σ13 h => ?_)
    refine zz_if_eq (y0 := 0) M 91 dX3_reads_67 (by decide) (fun c => ?_) (fun c => ?_)
    · have h := zif h c
      refine zz_iconst (v := 0) M dX3_reads_91 (by decide) ?_
      exact zz_zret M dX3_reads_92 (Or.inl rfl) h
    · have h := zifn h c
      refine zz_aload_n M 0 dX3_reads_70 rfl rfl ?_
      refine zz_iconst (v := 2) M dX3_reads_71 (by decide) ?_
      refine zz_bipush (v := 6) M dX3_reads_72 (by decide) ?_
      refine zz_callVI (d' := 68) (As := [.int 2, .int 6]) (rest := []) M l_X3_62 tX_19 rfl rfl dX3_reads_74 rfl rfl (by decide) (Nat.le_of_ble_eq_true rfl) (by have hI := M.2.2.2.2.2.2.2.2; exact kX3_part hI _ _  _ _ h) (fun r14 σ15 h => ?_)
      refine zz_if_eq (y0 := 0) M 91 dX3_reads_77 (by decide) (fun c => ?_) (fun c => ?_)
      · have h := zif h c
        refine zz_iconst (v := 0) M dX3_reads_91 (by decide) ?_
        exact zz_zret M dX3_reads_92 (Or.inl rfl) h
      · have h := zifn h c
        refine zz_aload_n M 0 dX3_reads_80 rfl rfl ?_
        refine zz_getI M f_X3_28 tX_19 rfl dX3_reads_81 ?_
        refine zz_if_ne (y0 := 0) M 91 dX3_reads_84 (by decide) (fun c => ?_) (fun c => ?_)
        · have h := zifn h c
          refine zz_iconst (v := 0) M dX3_reads_91 (by decide) ?_
          exact zz_zret M dX3_reads_92 (Or.inl rfl) h
        · have h := zif h c
          refine zz_iconst (v := 1) M dX3_reads_87 (by decide) ?_
          refine zz_goto M 92 dX3_reads_88 (by decide) ?_
          exact zz_zret M dX3_reads_92 (Or.inr rfl) h
def wX7_takeTape  (σ : zSt) (Q : Int32 → zSt → Prop) : Prop := if (σ.1 0 6) < 6 then (∀ x1 : Int32, x1 = σ.1 0 4 → (∀ σ2 : zSt, σ2 = zput σ 0 4 0 → (vp_in (σ2.1 0 6) 6 ∧ (wX3_reads_17_Text x1 ((σ2.1 0 6 : Int32).toNatClampNeg) σ2 (fun r4 σ5 => if r4 = 0 then (Q ((-100) - (σ5.1 19 7)) σ5) else (∀ σ6 : zSt, σ6 = zput σ5 0 6 ((σ5.1 0 6) + 1) → (Q ((σ6.1 0 6) - 1) σ6))))))) else (Q (-4) σ)
set_option maxRecDepth 20000 in
set_option maxHeartbeats 4000000 in
theorem kX7_takeTape (hI : zInj tabX ad)   (σ : zSt) (Q : Int32 → zSt → Prop) (h : wX7_takeTape  σ Q) : zOkI l tabX D cA ad y 70 yX7_takeTape cX7_takeTape 2 (some .int) [.ref (ad 0)] σ Q := by
  refine zz_enter hI (by decide) (Nat.le_of_ble_eq_true rfl) (fun p e s m below meth c M => ?_)
  have M : zM p s m _ meth c cX7_takeTape 2 RX7 (some .int) tabX D cA ad y := M
  refine zz_ls [(0, .ref (ad 0))] rfl ?_
  unfold wX7_takeTape at h
  refine zz_aload_n M 0 dX7_takeTape_0 rfl rfl ?_
  refine zz_getI M f_X7_37 tX_0 rfl dX7_takeTape_1 ?_
  refine zz_bipush (v := 6) M dX7_takeTape_4 (by decide) ?_
  refine zz_icmp_lt M 12 dX7_takeTape_6 (by decide) (fun c => ?_) (fun c => ?_)
  · have h := zif h c
    refine zz_aload_n M 0 dX7_takeTape_12 rfl rfl ?_
    refine zz_getI M f_X7_27 tX_0 rfl dX7_takeTape_13 ?_
    refine zz_topi (fun x1 ex1 => ?_)
    have h := h x1 ex1
    refine zz_istore_n M [(1, .int x1), (0, .ref (ad 0))] dX7_takeTape_16 rfl (by decide) rfl ?_
    refine zz_aload_n M 1 dX7_takeTape_17 rfl rfl ?_
    refine zz_iconst (v := 0) M dX7_takeTape_18 (by decide) ?_
    refine zz_putI M f_X7_27 tX_0 rfl dX7_takeTape_19 ?_
    refine zz_sg (fun σ2 eσ2 => ?_)
    have h := h σ2 eσ2
    refine zz_aload_n M 1 dX7_takeTape_22 rfl rfl ?_
    refine zz_getR M f_X7_43 tX_0 rfl dX7_takeTape_23 ?_
    refine zz_aload_n M 1 dX7_takeTape_26 rfl rfl ?_
    refine zz_getR M f_X7_23 tX_0 rfl dX7_takeTape_27 ?_
    refine zz_iload_n M 0 dX7_takeTape_30 rfl rfl ?_
    refine zz_aload_n M 1 dX7_takeTape_31 rfl rfl ?_
    refine zz_getR M f_X7_33 tX_0 rfl dX7_takeTape_32 ?_
    refine zz_aload_n M 1 dX7_takeTape_35 rfl rfl ?_
    refine zz_getI M f_X7_37 tX_0 rfl dX7_takeTape_36 ?_
    have hq3 := h.1
    refine zz_aald M tX_18 (by decide) hq3 dX7_takeTape_39 ?_
    have h := h.2
    refine zz_callVI (d' := 69) (As := [.ref (ad 17), .int x1, .ref (ad (43 + (σ2.1 0 6 : Int32).toNatClampNeg))]) (rest := []) M l_X7_274 tX_19 rfl rfl dX7_takeTape_40 rfl rfl (by decide) (Nat.le_of_ble_eq_true rfl) (by have hI := M.2.2.2.2.2.2.2.2; exact kX3_reads_17_Text hI _ _ (zclt hq3) _ _ h) (fun r4 σ5 h => ?_)
    refine zz_if_ne (y0 := 0) M 57 dX7_takeTape_43 (by decide) (fun c => ?_) (fun c => ?_)
    · have h := zifn h c
      refine zz_aload_n M 1 dX7_takeTape_57 rfl rfl ?_
      refine zz_dup M dX7_takeTape_58 rfl ?_
      refine zz_getI M f_X7_37 tX_0 rfl dX7_takeTape_59 ?_
      refine zz_iconst (v := 1) M dX7_takeTape_62 (by decide) ?_
      refine zz_iadd M dX7_takeTape_63 ?_
      refine zz_putI M f_X7_37 tX_0 rfl dX7_takeTape_64 ?_
      refine zz_sg (fun σ6 eσ6 => ?_)
      have h := h σ6 eσ6
      refine zz_aload_n M 1 dX7_takeTape_67 rfl rfl ?_
      refine zz_getI M f_X7_37 tX_0 rfl dX7_takeTape_68 ?_
      refine zz_iconst (v := 1) M dX7_takeTape_71 (by decide) ?_
      refine zz_isub M dX7_takeTape_72 ?_
      exact zz_iret M dX7_takeTape_73 h
    · have h := zif h c
      refine zz_bipush (v := (-100)) M dX7_takeTape_46 (by decide) ?_
      refine zz_aload_n M 1 dX7_takeTape_48 rfl rfl ?_
      refine zz_getR M f_X7_43 tX_0 rfl dX7_takeTape_49 ?_
      refine zz_getI M f_X7_278 tX_19 rfl dX7_takeTape_52 ?_
      refine zz_isub M dX7_takeTape_55 ?_
      exact zz_iret M dX7_takeTape_56 h
  · have h := zifn h c
    refine zz_bipush (v := (-4)) M dX7_takeTape_9 (by decide) ?_
    exact zz_iret M dX7_takeTape_11 h
def wX7_text  (σ : zSt) (Q : Int32 → zSt → Prop) : Prop := wX7_takeTape  σ (fun r1 σ2 => Q r1 σ2)
set_option maxRecDepth 20000 in
set_option maxHeartbeats 4000000 in
theorem kX7_text (hI : zInj tabX ad)   (σ : zSt) (Q : Int32 → zSt → Prop) (h : wX7_text  σ Q) : zOkI l tabX D cA ad y 71 yX7_text cX7_text 1 (some .int) [.ref (ad 0)] σ Q := by
  refine zz_enter hI (by decide) (Nat.le_of_ble_eq_true rfl) (fun p e s m below meth c M => ?_)
  have M : zM p s m _ meth c cX7_text 1 RX7 (some .int) tabX D cA ad y := M
  refine zz_ls [(0, .ref (ad 0))] rfl ?_
  unfold wX7_text at h
  refine zz_aload_n M 0 dX7_text_0 rfl rfl ?_
  refine zz_callVI (d' := 70) (As := []) (rest := []) M l_X7_97 tX_0 rfl rfl dX7_text_1 rfl rfl (by decide) (Nat.le_of_ble_eq_true rfl) (by have hI := M.2.2.2.2.2.2.2.2; exact kX7_takeTape hI   _ _ h) (fun r1 σ2 h => ?_)
  exact zz_iret M dX7_text_4 h
def wX7_force (x1 : Int32) (σ : zSt) (Q : Int32 → zSt → Prop) : Prop := if x1 < 0 then (Q (-2) σ) else (if x1 < (σ.1 0 6) then (∀ x1 : Int32, x1 = σ.1 1 10 → (∀ σ2 : zSt, σ2 = zput σ 1 10 x1 → (wX7_forget  σ2 (fun σ4 => Q x1 σ4)))) else (Q (-2) σ))
set_option maxRecDepth 20000 in
set_option maxHeartbeats 4000000 in
theorem kX7_force (hI : zInj tabX ad) (x1 : Int32)  (σ : zSt) (Q : Int32 → zSt → Prop) (h : wX7_force x1 σ Q) : zOkI l tabX D cA ad y 4 yX7_force cX7_force 3 (some .int) [.ref (ad 0), .int x1] σ Q := by
  refine zz_enter hI (by decide) (Nat.le_of_ble_eq_true rfl) (fun p e s m below meth c M => ?_)
  have M : zM p s m _ meth c cX7_force 3 RX7 (some .int) tabX D cA ad y := M
  refine zz_ls [(0, .ref (ad 0)), (1, .int x1)] rfl ?_
  unfold wX7_force at h
  refine zz_iload_n M 1 dX7_force_0 rfl rfl ?_
  refine zz_if_lt (y0 := 0) M 12 dX7_force_1 (by decide) (fun c => ?_) (fun c => ?_)
  · have h := zif h c
    refine zz_bipush (v := (-2)) M dX7_force_12 (by decide) ?_
    exact zz_iret M dX7_force_14 h
  · have h := zifn h c
    refine zz_iload_n M 1 dX7_force_4 rfl rfl ?_
    refine zz_aload_n M 0 dX7_force_5 rfl rfl ?_
    refine zz_getI M f_X7_37 tX_0 rfl dX7_force_6 ?_
    refine zz_icmp_lt M 15 dX7_force_9 (by decide) (fun c => ?_) (fun c => ?_)
    · have h := zif h c
      refine zz_aload_n M 0 dX7_force_15 rfl rfl ?_
      refine zz_getR M f_X7_12 tX_0 rfl dX7_force_16 ?_
      refine zz_getI M f_X7_168 tX_1 rfl dX7_force_19 ?_
      refine zz_topi (fun x1 ex1 => ?_)
      have h := h x1 ex1
      refine zz_istore_n M [(2, .int x1), (0, .ref (ad 0)), (1, .int x1)] dX7_force_22 rfl (by decide) rfl ?_
      refine zz_aload_n M 1 dX7_force_23 rfl rfl ?_
      refine zz_getR M f_X7_12 tX_0 rfl dX7_force_24 ?_
      refine zz_iload_n M 2 dX7_force_27 rfl rfl ?_
      refine zz_putI M f_X7_168 tX_1 rfl dX7_force_28 ?_
      refine zz_sg (fun σ2 eσ2 => ?_)
      have h := h σ2 eσ2
      refine zz_aload_n M 1 dX7_force_31 rfl rfl ?_
      refine zz_callVV (d' := 3) (As := []) (rest := []) M l_X7_125 tX_0 rfl rfl dX7_force_32 rfl rfl (by decide) (Nat.le_of_ble_eq_true rfl) (by have hI := M.2.2.2.2.2.2.2.2; exact kX7_forget hI   _ _ h) (fun σ4 h => ?_)
      refine zz_iload_n M 0 dX7_force_35 rfl rfl ?_
      exact zz_iret M dX7_force_36 h
    · have h := zifn h c
      refine zz_bipush (v := (-2)) M dX7_force_12 (by decide) ?_
      exact zz_iret M dX7_force_14 h
end
