section
variable {p : Program} {l : Launch} {e : Env} {s : State} {m : MethodId} {args : Array Value} {below : List Frame} {meth : Method} {c : Code} {D : va_G} {cA : Nat → ClassId} {ad : Nat → Nat} {y : zX}
def wX3_isWord_s_17_L25 (Q : Int32 → zSt → Prop) (K49 : zSt → Prop) (K57 : zSt → Prop) (w0 : Nat) (x2 : Int32) : Nat → Int32 → zSt → Prop
  | 0, _, _ => False
  | n + 1, x4, σ => if (Int32.ofNat (zlen.getD w0 0)) ≤ x4 then (K57  σ) else (vp_in (x2 + x4) 160 ∧ (vp_in x4 (zlen.getD w0 0) ∧ (if (σ.1 17 (x2 + x4 : Int32).toNatClampNeg) = ((zbyt.getD w0 []).getD x4.toNatClampNeg 0) then (∀ x101 : Int32, x101 = x4 + 1 → (wX3_isWord_s_17_L25 Q K49 K57 w0 x2 n x101 σ)) else (K49  σ))))
set_option maxRecDepth 20000 in
set_option maxHeartbeats 4000000 in
theorem sX3_isWord_s_17_L25 {Q : Int32 → zSt → Prop} {K49 : zSt → Prop} {K57 : zSt → Prop} (w0 : Nat) (x2 : Int32) (hw0 : w0 < 13) (M : zM p s m args meth c cX3_isWord 5 RX3 (some .boolean) tabX D cA ad y) (hK49 : ∀ (σ : zSt), K49  σ → zG p l e (zrm 5) s m args below meth c 5 tabX D cA ad (MQ below (va_Qi Q (fun σ' t => va_P D vwCl (zws tabX cA ad σ') t.heap) (zIn tabX ad)) args s 0 0 (zIn tabX ad)) 49 [] [] σ) (hK57 : ∀ (σ : zSt), K57  σ → zG p l e (zrm 5) s m args below meth c 5 tabX D cA ad (MQ below (va_Qi Q (fun σ' t => va_P D vwCl (zws tabX cA ad σ') t.heap) (zIn tabX ad)) args s 0 0 (zIn tabX ad)) 57 [] [] σ) : ∀ (n : Nat) (x4 : Int32) (σ : zSt), wX3_isWord_s_17_L25 Q K49 K57 w0 x2 n x4 σ → zG p l e (zrm 5) s m args below meth c 5 tabX D cA ad (MQ below (va_Qi Q (fun σ' t => va_P D vwCl (zws tabX cA ad σ') t.heap) (zIn tabX ad)) args s 0 0 (zIn tabX ad)) 25 [(0, .ref (y.1 w0)), (1, .ref (ad 17)), (2, .int x2), (4, .int x4)] [] σ := by
  intro n
  induction n with
  | zero => intro x4 σ h; exact absurd h (by simp [wX3_isWord_s_17_L25])
  | succ n ih =>
    intro x4 σ h
    unfold wX3_isWord_s_17_L25 at h
    refine zz_iload M 3 dX3_isWord_25 rfl ?_
    refine zz_aload_n M 0 dX3_isWord_27 rfl rfl ?_
    refine zz_slen (rest := [.int x4]) M hw0 l_X3_121 rfl dX3_isWord_28 (by decide) (Nat.le_of_ble_eq_true rfl) ?_
    refine zz_icmp_ge M 57 dX3_isWord_31 (by decide) (fun c => ?_) (fun c => ?_)
    · have h := zif (c := (Int32.ofNat (zlen.getD w0 0)) ≤ x4) h c
      refine zz_sub [] [] rfl ?_
      exact hK57  _ h
    · have h := zifn (c := (Int32.ofNat (zlen.getD w0 0)) ≤ x4) h c
      refine zz_aload_n M 1 dX3_isWord_34 rfl rfl ?_
      refine zz_iload_n M 2 dX3_isWord_35 rfl rfl ?_
      refine zz_iload M 3 dX3_isWord_36 rfl ?_
      refine zz_iadd M dX3_isWord_38 ?_
      refine zz_iald M tX_17 h.1 dX3_isWord_39 ?_
      have h := h.2
      refine zz_aload_n M 0 dX3_isWord_40 rfl rfl ?_
      refine zz_iload M 3 dX3_isWord_41 rfl ?_
      refine zz_schar (rest := [.int (σ.1 17 (x2 + x4 : Int32).toNatClampNeg)]) M hw0 l_X3_127 rfl dX3_isWord_43 h.1 (by decide) (Nat.le_of_ble_eq_true rfl) ?_
      have h := h.2
      refine zz_icmp_eq M 51 dX3_isWord_46 (by decide) (fun c => ?_) (fun c => ?_)
      · have h := zif (c := (σ.1 17 (x2 + x4 : Int32).toNatClampNeg) = ((zbyt.getD w0 []).getD x4.toNatClampNeg 0)) h c
        obtain ⟨x101, ex101⟩ : ∃ z : Int32, z = x4 + 1 := ⟨_, rfl⟩
        have h := h x101 ex101
        refine zz_iinc M [(4, .int x101), (0, .ref (y.1 w0)), (1, .ref (ad 17)), (2, .int x2)] 3 dX3_isWord_51 rfl (n32 := 1) (by decide) ex101 (by decide) rfl ?_
        refine zz_goto M 25 dX3_isWord_54 (by decide) ?_
        refine zz_sub [(0, .ref (y.1 w0)), (1, .ref (ad 17)), (2, .int x2), (4, .int x101)] [1, 2, 3, 0] rfl ?_
        exact ih _ _ h
      · have h := zifn (c := (σ.1 17 (x2 + x4 : Int32).toNatClampNeg) = ((zbyt.getD w0 []).getD x4.toNatClampNeg 0)) h c
        refine zz_sub [] [] rfl ?_
        exact hK49  _ h
def wX3_isWord_s_17 (w0 : Nat) (x2 : Int32) (x3 : Int32) (σ : zSt) (Q : Int32 → zSt → Prop) : Prop := if (Int32.ofNat (zlen.getD w0 0)) = (x3 - x2) then (if x2 < 0 then (Q 0 σ) else (if x3 ≤ 160 then (wX3_isWord_s_17_L25 Q (fun  σ102 => Q 0 σ102) (fun  σ103 => Q 1 σ103) w0 x2 300 0 σ) else (Q 0 σ))) else (Q 0 σ)
set_option maxRecDepth 20000 in
set_option maxHeartbeats 4000000 in
theorem kX3_isWord_s_17 (hI : zInj tabX ad) (w0 : Nat) (x2 : Int32) (x3 : Int32) (hw0 : w0 < 13) (σ : zSt) (Q : Int32 → zSt → Prop) (h : wX3_isWord_s_17 w0 x2 x3 σ Q) : zOkI l tabX D cA ad y 5 yX3_isWord cX3_isWord 5 (some .boolean) [.ref (y.1 w0), .ref (ad 17), .int x2, .int x3] σ Q := by
  refine zz_enter hI (by decide) (Nat.le_of_ble_eq_true rfl) (fun p e s m below meth c M => ?_)
  have M : zM p s m _ meth c cX3_isWord 5 RX3 (some .boolean) tabX D cA ad y := M
  refine zz_ls [(0, .ref (y.1 w0)), (1, .ref (ad 17)), (2, .int x2), (3, .int x3)] rfl ?_
  unfold wX3_isWord_s_17 at h
  refine zz_aload_n M 0 dX3_isWord_0 rfl rfl ?_
  refine zz_slen (rest := []) M hw0 l_X3_121 rfl dX3_isWord_1 (by decide) (Nat.le_of_ble_eq_true rfl) ?_
  refine zz_iload_n M 3 dX3_isWord_4 rfl rfl ?_
  refine zz_iload_n M 2 dX3_isWord_5 rfl rfl ?_
  refine zz_isub M dX3_isWord_6 ?_
  refine zz_icmp_ne M 20 dX3_isWord_7 (by decide) (fun c => ?_) (fun c => ?_)
  · have h := zifn (c := (Int32.ofNat (zlen.getD w0 0)) = (x3 - x2)) h c
    refine zz_iconst (v := 0) M dX3_isWord_20 (by decide) ?_
    exact zz_zret M dX3_isWord_21 (Or.inl rfl) h
  · have h := zif (c := (Int32.ofNat (zlen.getD w0 0)) = (x3 - x2)) h c
    refine zz_iload_n M 2 dX3_isWord_10 rfl rfl ?_
    refine zz_if_lt (y0 := 0) M 20 dX3_isWord_11 (by decide) (fun c => ?_) (fun c => ?_)
    · have h := zif (c := x2 < 0) h c
      refine zz_iconst (v := 0) M dX3_isWord_20 (by decide) ?_
      exact zz_zret M dX3_isWord_21 (Or.inl rfl) h
    · have h := zifn (c := x2 < 0) h c
      refine zz_iload_n M 3 dX3_isWord_14 rfl rfl ?_
      refine zz_aload_n M 1 dX3_isWord_15 rfl rfl ?_
      refine zz_alen (v := 160) M tX_17 (by decide) (by decide) dX3_isWord_16 ?_
      refine zz_icmp_le M 22 dX3_isWord_17 (by decide) (fun c => ?_) (fun c => ?_)
      · have h := zif (c := x3 ≤ 160) h c
        refine zz_iconst (v := 0) M dX3_isWord_22 (by decide) ?_
        refine zz_istore M [(4, .int 0), (0, .ref (y.1 w0)), (1, .ref (ad 17)), (2, .int x2), (3, .int x3)] dX3_isWord_23 (by decide) rfl ?_
        refine zz_sub [(0, .ref (y.1 w0)), (1, .ref (ad 17)), (2, .int x2), (4, .int 0)] [1, 2, 3, 0] rfl ?_
        refine sX3_isWord_s_17_L25 w0 x2 hw0 M (fun  σ102 h => ?_) (fun  σ103 h => ?_) 300 _ _ h
        · refine zz_iconst (v := 0) M dX3_isWord_49 (by decide) ?_
          exact zz_zret M dX3_isWord_50 (Or.inl rfl) h
        · refine zz_iconst (v := 1) M dX3_isWord_57 (by decide) ?_
          exact zz_zret M dX3_isWord_58 (Or.inr rfl) h
      · have h := zifn (c := x3 ≤ 160) h c
        refine zz_iconst (v := 0) M dX3_isWord_20 (by decide) ?_
        exact zz_zret M dX3_isWord_21 (Or.inl rfl) h
def wX3_nameOf_17 (x1 : Int32) (x2 : Int32) (σ : zSt) (Q : Int32 → zSt → Prop) : Prop := wX3_isWord_s_17 1 x1 x2 σ (fun r101 σ102 => if r101 = 0 then (wX3_isWord_s_17 2 x1 x2 σ102 (fun r103 σ104 => if r103 = 0 then (wX3_isWord_s_17 3 x1 x2 σ104 (fun r105 σ106 => if r105 = 0 then (wX3_isWord_s_17 4 x1 x2 σ106 (fun r107 σ108 => if r107 = 0 then (wX3_isWord_s_17 5 x1 x2 σ108 (fun r109 σ110 => if r109 = 0 then (wX3_isWord_s_17 6 x1 x2 σ110 (fun r111 σ112 => if r111 = 0 then (Q (-1) σ112) else (Q 5 σ112))) else (Q 4 σ110))) else (Q 3 σ108))) else (Q 2 σ106))) else (Q 1 σ104))) else (Q 0 σ102))
set_option maxRecDepth 20000 in
set_option maxHeartbeats 4000000 in
theorem kX3_nameOf_17 (hI : zInj tabX ad) (x1 : Int32) (x2 : Int32)  (σ : zSt) (Q : Int32 → zSt → Prop) (h : wX3_nameOf_17 x1 x2 σ Q) : zOkI l tabX D cA ad y 6 yX3_nameOf cX3_nameOf 3 (some .int) [.ref (ad 17), .int x1, .int x2] σ Q := by
  refine zz_enter hI (by decide) (Nat.le_of_ble_eq_true rfl) (fun p e s m below meth c M => ?_)
  have M : zM p s m _ meth c cX3_nameOf 3 RX3 (some .int) tabX D cA ad y := M
  refine zz_ls [(0, .ref (ad 17)), (1, .int x1), (2, .int x2)] rfl ?_
  unfold wX3_nameOf_17 at h
  refine zz_ldcS (i := 1) M rfl dX3_nameOf_0 ?_
  refine zz_aload_n M 0 dX3_nameOf_2 rfl rfl ?_
  refine zz_iload_n M 1 dX3_nameOf_3 rfl rfl ?_
  refine zz_iload_n M 2 dX3_nameOf_4 rfl rfl ?_
  refine zz_callSI (d' := 5) (As := [.ref (y.1 1), .ref (ad 17), .int x1, .int x2]) (rest := []) M l_X3_95 dX3_nameOf_5 rfl rfl (by decide) (Nat.le_of_ble_eq_true rfl) (by have hI := M.2.2.2.2.2.2.2.2; exact kX3_isWord_s_17 hI _ _ _ (by decide) _ _ h) (fun r101 σ102 h => ?_)
  refine zz_if_eq (y0 := 0) M 13 dX3_nameOf_8 (by decide) (fun c => ?_) (fun c => ?_)
  · have h := zif (c := r101 = 0) h c
    refine zz_ldcS (i := 2) M rfl dX3_nameOf_13 ?_
    refine zz_aload_n M 0 dX3_nameOf_15 rfl rfl ?_
    refine zz_iload_n M 1 dX3_nameOf_16 rfl rfl ?_
    refine zz_iload_n M 2 dX3_nameOf_17 rfl rfl ?_
    refine zz_callSI (d' := 5) (As := [.ref (y.1 2), .ref (ad 17), .int x1, .int x2]) (rest := []) M l_X3_95 dX3_nameOf_18 rfl rfl (by decide) (Nat.le_of_ble_eq_true rfl) (by have hI := M.2.2.2.2.2.2.2.2; exact kX3_isWord_s_17 hI _ _ _ (by decide) _ _ h) (fun r103 σ104 h => ?_)
    refine zz_if_eq (y0 := 0) M 26 dX3_nameOf_21 (by decide) (fun c => ?_) (fun c => ?_)
    · have h := zif (c := r103 = 0) h c
      refine zz_ldcS (i := 3) M rfl dX3_nameOf_26 ?_
      refine zz_aload_n M 0 dX3_nameOf_28 rfl rfl ?_
      refine zz_iload_n M 1 dX3_nameOf_29 rfl rfl ?_
      refine zz_iload_n M 2 dX3_nameOf_30 rfl rfl ?_
      refine zz_callSI (d' := 5) (As := [.ref (y.1 3), .ref (ad 17), .int x1, .int x2]) (rest := []) M l_X3_95 dX3_nameOf_31 rfl rfl (by decide) (Nat.le_of_ble_eq_true rfl) (by have hI := M.2.2.2.2.2.2.2.2; exact kX3_isWord_s_17 hI _ _ _ (by decide) _ _ h) (fun r105 σ106 h => ?_)
      refine zz_if_eq (y0 := 0) M 39 dX3_nameOf_34 (by decide) (fun c => ?_) (fun c => ?_)
      · have h := zif (c := r105 = 0) h c
        refine zz_ldcS (i := 4) M rfl dX3_nameOf_39 ?_
        refine zz_aload_n M 0 dX3_nameOf_41 rfl rfl ?_
        refine zz_iload_n M 1 dX3_nameOf_42 rfl rfl ?_
        refine zz_iload_n M 2 dX3_nameOf_43 rfl rfl ?_
        refine zz_callSI (d' := 5) (As := [.ref (y.1 4), .ref (ad 17), .int x1, .int x2]) (rest := []) M l_X3_95 dX3_nameOf_44 rfl rfl (by decide) (Nat.le_of_ble_eq_true rfl) (by have hI := M.2.2.2.2.2.2.2.2; exact kX3_isWord_s_17 hI _ _ _ (by decide) _ _ h) (fun r107 σ108 h => ?_)
        refine zz_if_eq (y0 := 0) M 52 dX3_nameOf_47 (by decide) (fun c => ?_) (fun c => ?_)
        · have h := zif (c := r107 = 0) h c
          refine zz_ldcS (i := 5) M rfl dX3_nameOf_52 ?_
          refine zz_aload_n M 0 dX3_nameOf_54 rfl rfl ?_
          refine zz_iload_n M 1 dX3_nameOf_55 rfl rfl ?_
          refine zz_iload_n M 2 dX3_nameOf_56 rfl rfl ?_
          refine zz_callSI (d' := 5) (As := [.ref (y.1 5), .ref (ad 17), .int x1, .int x2]) (rest := []) M l_X3_95 dX3_nameOf_57 rfl rfl (by decide) (Nat.le_of_ble_eq_true rfl) (by have hI := M.2.2.2.2.2.2.2.2; exact kX3_isWord_s_17 hI _ _ _ (by decide) _ _ h) (fun r109 σ110 h => ?_)
          refine zz_if_eq (y0 := 0) M 65 dX3_nameOf_60 (by decide) (fun c => ?_) (fun c => ?_)
          · have h := zif (c := r109 = 0) h c
            refine zz_ldcS (i := 6) M rfl dX3_nameOf_65 ?_
            refine zz_aload_n M 0 dX3_nameOf_67 rfl rfl ?_
            refine zz_iload_n M 1 dX3_nameOf_68 rfl rfl ?_
            refine zz_iload_n M 2 dX3_nameOf_69 rfl rfl ?_
            refine zz_callSI (d' := 5) (As := [.ref (y.1 6), .ref (ad 17), .int x1, .int x2]) (rest := []) M l_X3_95 dX3_nameOf_70 rfl rfl (by decide) (Nat.le_of_ble_eq_true rfl) (by have hI := M.2.2.2.2.2.2.2.2; exact kX3_isWord_s_17 hI _ _ _ (by decide) _ _ h) (fun r111 σ112 h => ?_)
            refine zz_if_eq (y0 := 0) M 80 dX3_nameOf_73 (by decide) (fun c => ?_) (fun c => ?_)
            · have h := zif (c := r111 = 0) h c
              refine zz_iconst (v := (-1)) M dX3_nameOf_80 (by decide) ?_
              exact zz_iret M dX3_nameOf_81 h
            · have h := zifn (c := r111 = 0) h c
              refine zz_iconst (v := 5) M dX3_nameOf_76 (by decide) ?_
              refine zz_goto M 81 dX3_nameOf_77 (by decide) ?_
              exact zz_iret M dX3_nameOf_81 h
          · have h := zifn (c := r109 = 0) h c
            refine zz_iconst (v := 4) M dX3_nameOf_63 (by decide) ?_
            exact zz_iret M dX3_nameOf_64 h
        · have h := zifn (c := r107 = 0) h c
          refine zz_iconst (v := 3) M dX3_nameOf_50 (by decide) ?_
          exact zz_iret M dX3_nameOf_51 h
      · have h := zifn (c := r105 = 0) h c
        refine zz_iconst (v := 2) M dX3_nameOf_37 (by decide) ?_
        exact zz_iret M dX3_nameOf_38 h
    · have h := zifn (c := r103 = 0) h c
      refine zz_iconst (v := 1) M dX3_nameOf_24 (by decide) ?_
      exact zz_iret M dX3_nameOf_25 h
  · have h := zifn (c := r101 = 0) h c
    refine zz_iconst (v := 0) M dX3_nameOf_11 (by decide) ?_
    exact zz_iret M dX3_nameOf_12 h
def wX3_keyOf_17 (x1 : Int32) (x2 : Int32) (σ : zSt) (Q : Int32 → zSt → Prop) : Prop := wX3_isWord_s_17 7 x1 x2 σ (fun r101 σ102 => if r101 = 0 then (wX3_isWord_s_17 8 x1 x2 σ102 (fun r103 σ104 => if r103 = 0 then (wX3_isWord_s_17 9 x1 x2 σ104 (fun r105 σ106 => if r105 = 0 then (wX3_isWord_s_17 10 x1 x2 σ106 (fun r107 σ108 => if r107 = 0 then (wX3_isWord_s_17 11 x1 x2 σ108 (fun r109 σ110 => if r109 = 0 then (wX3_isWord_s_17 12 x1 x2 σ110 (fun r111 σ112 => if r111 = 0 then (Q 1 σ112) else (Q 9 σ112))) else (Q 8 σ110))) else (Q 7 σ108))) else (Q 6 σ106))) else (Q 5 σ104))) else (Q 4 σ102))
set_option maxRecDepth 20000 in
set_option maxHeartbeats 4000000 in
theorem kX3_keyOf_17 (hI : zInj tabX ad) (x1 : Int32) (x2 : Int32)  (σ : zSt) (Q : Int32 → zSt → Prop) (h : wX3_keyOf_17 x1 x2 σ Q) : zOkI l tabX D cA ad y 6 yX3_keyOf cX3_keyOf 3 (some .int) [.ref (ad 17), .int x1, .int x2] σ Q := by
  refine zz_enter hI (by decide) (Nat.le_of_ble_eq_true rfl) (fun p e s m below meth c M => ?_)
  have M : zM p s m _ meth c cX3_keyOf 3 RX3 (some .int) tabX D cA ad y := M
  refine zz_ls [(0, .ref (ad 17)), (1, .int x1), (2, .int x2)] rfl ?_
  unfold wX3_keyOf_17 at h
  refine zz_ldcS (i := 7) M rfl dX3_keyOf_0 ?_
  refine zz_aload_n M 0 dX3_keyOf_2 rfl rfl ?_
  refine zz_iload_n M 1 dX3_keyOf_3 rfl rfl ?_
  refine zz_iload_n M 2 dX3_keyOf_4 rfl rfl ?_
  refine zz_callSI (d' := 5) (As := [.ref (y.1 7), .ref (ad 17), .int x1, .int x2]) (rest := []) M l_X3_95 dX3_keyOf_5 rfl rfl (by decide) (Nat.le_of_ble_eq_true rfl) (by have hI := M.2.2.2.2.2.2.2.2; exact kX3_isWord_s_17 hI _ _ _ (by decide) _ _ h) (fun r101 σ102 h => ?_)
  refine zz_if_eq (y0 := 0) M 13 dX3_keyOf_8 (by decide) (fun c => ?_) (fun c => ?_)
  · have h := zif (c := r101 = 0) h c
    refine zz_ldcS (i := 8) M rfl dX3_keyOf_13 ?_
    refine zz_aload_n M 0 dX3_keyOf_15 rfl rfl ?_
    refine zz_iload_n M 1 dX3_keyOf_16 rfl rfl ?_
    refine zz_iload_n M 2 dX3_keyOf_17 rfl rfl ?_
    refine zz_callSI (d' := 5) (As := [.ref (y.1 8), .ref (ad 17), .int x1, .int x2]) (rest := []) M l_X3_95 dX3_keyOf_18 rfl rfl (by decide) (Nat.le_of_ble_eq_true rfl) (by have hI := M.2.2.2.2.2.2.2.2; exact kX3_isWord_s_17 hI _ _ _ (by decide) _ _ h) (fun r103 σ104 h => ?_)
    refine zz_if_eq (y0 := 0) M 26 dX3_keyOf_21 (by decide) (fun c => ?_) (fun c => ?_)
    · have h := zif (c := r103 = 0) h c
      refine zz_ldcS (i := 9) M rfl dX3_keyOf_26 ?_
      refine zz_aload_n M 0 dX3_keyOf_28 rfl rfl ?_
      refine zz_iload_n M 1 dX3_keyOf_29 rfl rfl ?_
      refine zz_iload_n M 2 dX3_keyOf_30 rfl rfl ?_
      refine zz_callSI (d' := 5) (As := [.ref (y.1 9), .ref (ad 17), .int x1, .int x2]) (rest := []) M l_X3_95 dX3_keyOf_31 rfl rfl (by decide) (Nat.le_of_ble_eq_true rfl) (by have hI := M.2.2.2.2.2.2.2.2; exact kX3_isWord_s_17 hI _ _ _ (by decide) _ _ h) (fun r105 σ106 h => ?_)
      refine zz_if_eq (y0 := 0) M 40 dX3_keyOf_34 (by decide) (fun c => ?_) (fun c => ?_)
      · have h := zif (c := r105 = 0) h c
        refine zz_ldcS (i := 10) M rfl dX3_keyOf_40 ?_
        refine zz_aload_n M 0 dX3_keyOf_42 rfl rfl ?_
        refine zz_iload_n M 1 dX3_keyOf_43 rfl rfl ?_
        refine zz_iload_n M 2 dX3_keyOf_44 rfl rfl ?_
        refine zz_callSI (d' := 5) (As := [.ref (y.1 10), .ref (ad 17), .int x1, .int x2]) (rest := []) M l_X3_95 dX3_keyOf_45 rfl rfl (by decide) (Nat.le_of_ble_eq_true rfl) (by have hI := M.2.2.2.2.2.2.2.2; exact kX3_isWord_s_17 hI _ _ _ (by decide) _ _ h) (fun r107 σ108 h => ?_)
        refine zz_if_eq (y0 := 0) M 54 dX3_keyOf_48 (by decide) (fun c => ?_) (fun c => ?_)
        · have h := zif (c := r107 = 0) h c
          refine zz_ldcS (i := 11) M rfl dX3_keyOf_54 ?_
          refine zz_aload_n M 0 dX3_keyOf_56 rfl rfl ?_
          refine zz_iload_n M 1 dX3_keyOf_57 rfl rfl ?_
          refine zz_iload_n M 2 dX3_keyOf_58 rfl rfl ?_
          refine zz_callSI (d' := 5) (As := [.ref (y.1 11), .ref (ad 17), .int x1, .int x2]) (rest := []) M l_X3_95 dX3_keyOf_59 rfl rfl (by decide) (Nat.le_of_ble_eq_true rfl) (by have hI := M.2.2.2.2.2.2.2.2; exact kX3_isWord_s_17 hI _ _ _ (by decide) _ _ h) (fun r109 σ110 h => ?_)
          refine zz_if_eq (y0 := 0) M 68 dX3_keyOf_62 (by decide) (fun c => ?_) (fun c => ?_)
          · have h := zif (c := r109 = 0) h c
            refine zz_ldcS (i := 12) M rfl dX3_keyOf_68 ?_
            refine zz_aload_n M 0 dX3_keyOf_70 rfl rfl ?_
            refine zz_iload_n M 1 dX3_keyOf_71 rfl rfl ?_
            refine zz_iload_n M 2 dX3_keyOf_72 rfl rfl ?_
            refine zz_callSI (d' := 5) (As := [.ref (y.1 12), .ref (ad 17), .int x1, .int x2]) (rest := []) M l_X3_95 dX3_keyOf_73 rfl rfl (by decide) (Nat.le_of_ble_eq_true rfl) (by have hI := M.2.2.2.2.2.2.2.2; exact kX3_isWord_s_17 hI _ _ _ (by decide) _ _ h) (fun r111 σ112 h => ?_)
            refine zz_if_eq (y0 := 0) M 84 dX3_keyOf_76 (by decide) (fun c => ?_) (fun c => ?_)
            · have h := zif (c := r111 = 0) h c
              refine zz_iconst (v := 1) M dX3_keyOf_84 (by decide) ?_
              exact zz_iret M dX3_keyOf_85 h
            · have h := zifn (c := r111 = 0) h c
              refine zz_bipush (v := 9) M dX3_keyOf_79 (by decide) ?_
              refine zz_goto M 85 dX3_keyOf_81 (by decide) ?_
              exact zz_iret M dX3_keyOf_85 h
          · have h := zifn (c := r109 = 0) h c
            refine zz_bipush (v := 8) M dX3_keyOf_65 (by decide) ?_
            exact zz_iret M dX3_keyOf_67 h
        · have h := zifn (c := r107 = 0) h c
          refine zz_bipush (v := 7) M dX3_keyOf_51 (by decide) ?_
          exact zz_iret M dX3_keyOf_53 h
      · have h := zifn (c := r105 = 0) h c
        refine zz_bipush (v := 6) M dX3_keyOf_37 (by decide) ?_
        exact zz_iret M dX3_keyOf_39 h
    · have h := zifn (c := r103 = 0) h c
      refine zz_iconst (v := 5) M dX3_keyOf_24 (by decide) ?_
      exact zz_iret M dX3_keyOf_25 h
  · have h := zifn (c := r101 = 0) h c
    refine zz_iconst (v := 4) M dX3_keyOf_11 (by decide) ?_
    exact zz_iret M dX3_keyOf_12 h
def wX3_takeWord_17_L3 (Q : Int32 → zSt → Prop) (K25 : Int32 → zSt → Prop) (x2 : Int32) (x3 : Int32) : Nat → Int32 → zSt → Prop
  | 0, _, _ => False
  | n + 1, x4, σ => if x3 ≤ x4 then (K25 x4 σ) else (vp_in x4 160 ∧ (∀ a101 : Int32, a101 = (σ.1 17 x4.toNatClampNeg) → (wX3_isLetter a101 σ (fun r102 σ103 => if r102 = 0 then (K25 x4 σ103) else (∀ x104 : Int32, x104 = x4 + 1 → (wX3_takeWord_17_L3 Q K25 x2 x3 n x104 σ103))))))
set_option maxRecDepth 20000 in
set_option maxHeartbeats 4000000 in
theorem sX3_takeWord_17_L3 {Q : Int32 → zSt → Prop} {K25 : Int32 → zSt → Prop} (x2 : Int32) (x3 : Int32)  (M : zM p s m args meth c cX3_takeWord 6 RX3 (some .int) tabX D cA ad y) (hK25 : ∀ (v4 : Int32) (σ : zSt), K25 v4 σ → zG p l e (zrm 7) s m args below meth c 6 tabX D cA ad (MQ below (va_Qi Q (fun σ' t => va_P D vwCl (zws tabX cA ad σ') t.heap) (zIn tabX ad)) args s 0 0 (zIn tabX ad)) 25 [(0, .ref (ad 19)), (1, .ref (ad 17)), (2, .int x2), (4, .int v4)] [] σ) : ∀ (n : Nat) (x4 : Int32) (σ : zSt), wX3_takeWord_17_L3 Q K25 x2 x3 n x4 σ → zG p l e (zrm 7) s m args below meth c 6 tabX D cA ad (MQ below (va_Qi Q (fun σ' t => va_P D vwCl (zws tabX cA ad σ') t.heap) (zIn tabX ad)) args s 0 0 (zIn tabX ad)) 3 [(0, .ref (ad 19)), (1, .ref (ad 17)), (2, .int x2), (3, .int x3), (4, .int x4)] [] σ := by
  intro n
  induction n with
  | zero => intro x4 σ h; exact absurd h (by simp [wX3_takeWord_17_L3])
  | succ n ih =>
    intro x4 σ h
    unfold wX3_takeWord_17_L3 at h
    refine zz_iload M 4 dX3_takeWord_3 rfl ?_
    refine zz_iload_n M 3 dX3_takeWord_5 rfl rfl ?_
    refine zz_icmp_ge M 25 dX3_takeWord_6 (by decide) (fun c => ?_) (fun c => ?_)
    · have h := zif (c := x3 ≤ x4) h c
      refine zz_sub [(0, .ref (ad 19)), (1, .ref (ad 17)), (2, .int x2), (4, .int x4)] [0, 1, 2, 4] rfl ?_
      exact hK25 _ _ h
    · have h := zifn (c := x3 ≤ x4) h c
      refine zz_aload_n M 1 dX3_takeWord_9 rfl rfl ?_
      refine zz_iload M 4 dX3_takeWord_10 rfl ?_
      refine zz_iald M tX_17 h.1 dX3_takeWord_12 ?_
      have h := h.2
      obtain ⟨a101, ea101⟩ : ∃ z : Int32, z = (σ.1 17 x4.toNatClampNeg) := ⟨_, rfl⟩
      have h := h a101 ea101
      refine zz_st [.int a101] (by rw [ea101]) ?_
      refine zz_callSI (d' := 1) (As := [.int a101]) (rest := []) M l_X3_66 dX3_takeWord_13 rfl rfl (by decide) (Nat.le_of_ble_eq_true rfl) (by have hI := M.2.2.2.2.2.2.2.2; exact kX3_isLetter hI _  _ _ h) (fun r102 σ103 h => ?_)
      refine zz_if_eq (y0 := 0) M 25 dX3_takeWord_16 (by decide) (fun c => ?_) (fun c => ?_)
      · have h := zif (c := r102 = 0) h c
        refine zz_sub [(0, .ref (ad 19)), (1, .ref (ad 17)), (2, .int x2), (4, .int x4)] [0, 1, 2, 4] rfl ?_
        exact hK25 _ _ h
      · have h := zifn (c := r102 = 0) h c
        obtain ⟨x104, ex104⟩ : ∃ z : Int32, z = x4 + 1 := ⟨_, rfl⟩
        have h := h x104 ex104
        refine zz_iinc M [(4, .int x104), (0, .ref (ad 19)), (1, .ref (ad 17)), (2, .int x2), (3, .int x3)] 4 dX3_takeWord_19 rfl (n32 := 1) (by decide) ex104 (by decide) rfl ?_
        refine zz_goto M 3 dX3_takeWord_22 (by decide) ?_
        refine zz_sub [(0, .ref (ad 19)), (1, .ref (ad 17)), (2, .int x2), (3, .int x3), (4, .int x104)] [1, 2, 3, 4, 0] rfl ?_
        exact ih _ _ h
def wX3_takeWord_17 (x2 : Int32) (x3 : Int32) (σ : zSt) (Q : Int32 → zSt → Prop) : Prop := wX3_takeWord_17_L3 Q (fun v105 σ106 => wX3_nameOf_17 x2 v105 σ106 (fun r107 σ108 => if r107 = (-1) then (wX3_keyOf_17 x2 v105 σ108 (fun r111 σ112 => wX3_keep r111 r107 x2 σ112 (fun σ114 => Q v105 σ114))) else (wX3_keep 3 r107 x2 σ108 (fun σ110 => Q v105 σ110)))) x2 x3 300 x2 σ
set_option maxRecDepth 20000 in
set_option maxHeartbeats 4000000 in
theorem kX3_takeWord_17 (hI : zInj tabX ad) (x2 : Int32) (x3 : Int32)  (σ : zSt) (Q : Int32 → zSt → Prop) (h : wX3_takeWord_17 x2 x3 σ Q) : zOkI l tabX D cA ad y 7 yX3_takeWord cX3_takeWord 6 (some .int) [.ref (ad 19), .ref (ad 17), .int x2, .int x3] σ Q := by
  refine zz_enter hI (by decide) (Nat.le_of_ble_eq_true rfl) (fun p e s m below meth c M => ?_)
  have M : zM p s m _ meth c cX3_takeWord 6 RX3 (some .int) tabX D cA ad y := M
  refine zz_ls [(0, .ref (ad 19)), (1, .ref (ad 17)), (2, .int x2), (3, .int x3)] rfl ?_
  unfold wX3_takeWord_17 at h
  refine zz_iload_n M 2 dX3_takeWord_0 rfl rfl ?_
  refine zz_istore M [(4, .int x2), (0, .ref (ad 19)), (1, .ref (ad 17)), (2, .int x2), (3, .int x3)] dX3_takeWord_1 (by decide) rfl ?_
  refine zz_sub [(0, .ref (ad 19)), (1, .ref (ad 17)), (2, .int x2), (3, .int x3), (4, .int x2)] [1, 2, 3, 4, 0] rfl ?_
  refine sX3_takeWord_17_L3 x2 x3  M (fun v105 σ106 h => ?_) 300 _ _ h
  refine zz_aload_n M 1 dX3_takeWord_25 rfl rfl ?_
  refine zz_iload_n M 2 dX3_takeWord_26 rfl rfl ?_
  refine zz_iload M 3 dX3_takeWord_27 rfl ?_
  refine zz_callSI (d' := 6) (As := [.ref (ad 17), .int x2, .int v105]) (rest := []) M l_X3_87 dX3_takeWord_29 rfl rfl (by decide) (Nat.le_of_ble_eq_true rfl) (by have hI := M.2.2.2.2.2.2.2.2; exact kX3_nameOf_17 hI _ _  _ _ h) (fun r107 σ108 h => ?_)
  refine zz_istore M [(5, .int r107), (0, .ref (ad 19)), (1, .ref (ad 17)), (2, .int x2), (4, .int v105)] dX3_takeWord_32 (by decide) rfl ?_
  refine zz_aload_n M 1 dX3_takeWord_34 rfl rfl ?_
  refine zz_iload M 0 dX3_takeWord_35 rfl ?_
  refine zz_iconst (v := (-1)) M dX3_takeWord_37 (by decide) ?_
  refine zz_icmp_ne M 51 dX3_takeWord_38 (by decide) (fun c => ?_) (fun c => ?_)
  · have h := zifn (c := r107 = (-1)) h c
    refine zz_iconst (v := 3) M dX3_takeWord_51 (by decide) ?_
    refine zz_iload M 0 dX3_takeWord_52 rfl ?_
    refine zz_iload_n M 3 dX3_takeWord_54 rfl rfl ?_
    refine zz_callVV (d' := 1) (As := [.int 3, .int r107, .int x2]) (rest := []) M l_X3_83 tX_19 rfl rfl dX3_takeWord_55 rfl rfl (by decide) (Nat.le_of_ble_eq_true rfl) (by have hI := M.2.2.2.2.2.2.2.2; exact kX3_keep hI _ _ _  _ _ h) (fun σ110 h => ?_)
    refine zz_iload M 4 dX3_takeWord_58 rfl ?_
    exact zz_iret M dX3_takeWord_60 h
  · have h := zif (c := r107 = (-1)) h c
    refine zz_aload_n M 2 dX3_takeWord_41 rfl rfl ?_
    refine zz_iload_n M 3 dX3_takeWord_42 rfl rfl ?_
    refine zz_iload M 4 dX3_takeWord_43 rfl ?_
    refine zz_callSI (d' := 6) (As := [.ref (ad 17), .int x2, .int v105]) (rest := [.ref (ad 19)]) M l_X3_90 dX3_takeWord_45 rfl rfl (by decide) (Nat.le_of_ble_eq_true rfl) (by have hI := M.2.2.2.2.2.2.2.2; exact kX3_keyOf_17 hI _ _  _ _ h) (fun r111 σ112 h => ?_)
    refine zz_goto M 52 dX3_takeWord_48 (by decide) ?_
    refine zz_iload M 0 dX3_takeWord_52 rfl ?_
    refine zz_iload_n M 3 dX3_takeWord_54 rfl rfl ?_
    refine zz_callVV (d' := 1) (As := [.int r111, .int r107, .int x2]) (rest := []) M l_X3_83 tX_19 rfl rfl dX3_takeWord_55 rfl rfl (by decide) (Nat.le_of_ble_eq_true rfl) (by have hI := M.2.2.2.2.2.2.2.2; exact kX3_keep hI _ _ _  _ _ h) (fun σ114 h => ?_)
    refine zz_iload M 4 dX3_takeWord_58 rfl ?_
    exact zz_iret M dX3_takeWord_60 h
def wX3_scan_17_L10 (Q : zSt → Prop) (K109 : zSt → Prop) (x2 : Int32) : Nat → Int32 → Int32 → zSt → Prop
  | 0, _, _, _ => False
  | n + 1, x3, x4, σ => if 160 ≤ x4 then (K109  σ) else (if x2 ≤ x3 then (K109  σ) else (vp_in x3 160 ∧ (∀ x102 : Int32, x102 = (σ.1 17 x3.toNatClampNeg) → (wX3_isLetter x102 σ (fun r103 σ104 => if r103 = 0 then (wX3_isNumeral x102 σ104 (fun r105 σ106 => if r105 = 0 then (if x102 = 32 then (∀ x107 : Int32, x107 = x3 + 1 → (∀ x108 : Int32, x108 = x4 + 1 → (wX3_scan_17_L10 Q K109 x2 n x107 x108 σ106))) else (if x102 = 10 then (∀ x109 : Int32, x109 = x3 + 1 → (∀ x110 : Int32, x110 = x4 + 1 → (wX3_scan_17_L10 Q K109 x2 n x109 x110 σ106))) else (wX3_isSign x102 σ106 (fun r111 σ112 => if r111 = 0 then (wX3_keep 1 0 x3 σ112 (fun σ114 => ∀ x115 : Int32, x115 = x3 + 1 → (∀ x116 : Int32, x116 = x4 + 1 → (wX3_scan_17_L10 Q K109 x2 n x115 x116 σ114)))) else (wX3_keep x102 0 x3 σ112 (fun σ118 => ∀ x119 : Int32, x119 = x3 + 1 → (∀ x120 : Int32, x120 = x4 + 1 → (wX3_scan_17_L10 Q K109 x2 n x119 x120 σ118)))))))) else (wX3_takeNumber_17 x3 x2 σ106 (fun r121 σ122 => ∀ x123 : Int32, x123 = x4 + 1 → (wX3_scan_17_L10 Q K109 x2 n r121 x123 σ122))))) else (wX3_takeWord_17 x3 x2 σ104 (fun r124 σ125 => ∀ x126 : Int32, x126 = x4 + 1 → (wX3_scan_17_L10 Q K109 x2 n r124 x126 σ125))))))))
set_option maxRecDepth 20000 in
set_option maxHeartbeats 4000000 in
theorem sX3_scan_17_L10 {Q : zSt → Prop} {K109 : zSt → Prop} (x2 : Int32)  (M : zM p s m args meth c cX3_scan 6 RX3 none tabX D cA ad y) (hK109 : ∀ (σ : zSt), K109  σ → zG p l e (zrm 8) s m args below meth c 6 tabX D cA ad (MQ below (va_Qv Q (fun σ' t => va_P D vwCl (zws tabX cA ad σ') t.heap) (zIn tabX ad)) args s 0 0 (zIn tabX ad)) 109 [(0, .ref (ad 19)), (2, .int x2)] [] σ) : ∀ (n : Nat) (x3 : Int32) (x4 : Int32) (σ : zSt), wX3_scan_17_L10 Q K109 x2 n x3 x4 σ → zG p l e (zrm 8) s m args below meth c 6 tabX D cA ad (MQ below (va_Qv Q (fun σ' t => va_P D vwCl (zws tabX cA ad σ') t.heap) (zIn tabX ad)) args s 0 0 (zIn tabX ad)) 10 [(0, .ref (ad 19)), (1, .ref (ad 17)), (2, .int x2), (3, .int x3), (4, .int x4)] [] σ := by
  intro n
  induction n with
  | zero => intro x3 x4 σ h; exact absurd h (by simp [wX3_scan_17_L10])
  | succ n ih =>
    intro x3 x4 σ h
    unfold wX3_scan_17_L10 at h
    refine zz_iload M 4 dX3_scan_10 rfl ?_
    refine zz_sipush (v := 160) M dX3_scan_12 (by decide) ?_
    refine zz_icmp_ge M 109 dX3_scan_15 (by decide) (fun c => ?_) (fun c => ?_)
    · have h := zif (c := 160 ≤ x4) h c
      refine zz_sub [(0, .ref (ad 19)), (2, .int x2)] [0, 2] rfl ?_
      exact hK109  _ h
    · have h := zifn (c := 160 ≤ x4) h c
      refine zz_iload_n M 3 dX3_scan_18 rfl rfl ?_
      refine zz_iload_n M 2 dX3_scan_19 rfl rfl ?_
      refine zz_icmp_ge M 109 dX3_scan_20 (by decide) (fun c => ?_) (fun c => ?_)
      · have h := zif (c := x2 ≤ x3) h c
        refine zz_sub [(0, .ref (ad 19)), (2, .int x2)] [0, 2] rfl ?_
        exact hK109  _ h
      · have h := zifn (c := x2 ≤ x3) h c
        refine zz_aload_n M 1 dX3_scan_23 rfl rfl ?_
        refine zz_iload_n M 3 dX3_scan_24 rfl rfl ?_
        refine zz_iald M tX_17 h.1 dX3_scan_25 ?_
        have h := h.2
        refine zz_topi (fun x102 ex102 => ?_)
        have h := h x102 ex102
        refine zz_istore M [(5, .int x102), (0, .ref (ad 19)), (1, .ref (ad 17)), (2, .int x2), (3, .int x3), (4, .int x4)] dX3_scan_26 (by decide) rfl ?_
        refine zz_iload M 0 dX3_scan_28 rfl ?_
        refine zz_callSI (d' := 1) (As := [.int x102]) (rest := []) M l_X3_66 dX3_scan_30 rfl rfl (by decide) (Nat.le_of_ble_eq_true rfl) (by have hI := M.2.2.2.2.2.2.2.2; exact kX3_isLetter hI _  _ _ h) (fun r103 σ104 h => ?_)
        refine zz_if_eq (y0 := 0) M 47 dX3_scan_33 (by decide) (fun c => ?_) (fun c => ?_)
        · have h := zif (c := r103 = 0) h c
          refine zz_iload M 0 dX3_scan_47 rfl ?_
          refine zz_callSI (d' := 1) (As := [.int x102]) (rest := []) M l_X3_74 dX3_scan_49 rfl rfl (by decide) (Nat.le_of_ble_eq_true rfl) (by have hI := M.2.2.2.2.2.2.2.2; exact kX3_isNumeral hI _  _ _ h) (fun r105 σ106 h => ?_)
          refine zz_if_eq (y0 := 0) M 66 dX3_scan_52 (by decide) (fun c => ?_) (fun c => ?_)
          · have h := zif (c := r105 = 0) h c
            refine zz_iload M 0 dX3_scan_66 rfl ?_
            refine zz_bipush (v := 32) M dX3_scan_68 (by decide) ?_
            refine zz_icmp_eq M 100 dX3_scan_70 (by decide) (fun c => ?_) (fun c => ?_)
            · have h := zif (c := x102 = 32) h c
              obtain ⟨x107, ex107⟩ : ∃ z : Int32, z = x3 + 1 := ⟨_, rfl⟩
              have h := h x107 ex107
              refine zz_iinc M [(3, .int x107), (5, .int x102), (0, .ref (ad 19)), (1, .ref (ad 17)), (2, .int x2), (4, .int x4)] 4 dX3_scan_100 rfl (n32 := 1) (by decide) ex107 (by decide) rfl ?_
              obtain ⟨x108, ex108⟩ : ∃ z : Int32, z = x4 + 1 := ⟨_, rfl⟩
              have h := h x108 ex108
              refine zz_iinc M [(4, .int x108), (3, .int x107), (5, .int x102), (0, .ref (ad 19)), (1, .ref (ad 17)), (2, .int x2)] 5 dX3_scan_103 rfl (n32 := 1) (by decide) ex108 (by decide) rfl ?_
              refine zz_goto M 10 dX3_scan_106 (by decide) ?_
              refine zz_sub [(0, .ref (ad 19)), (1, .ref (ad 17)), (2, .int x2), (3, .int x107), (4, .int x108)] [3, 4, 5, 1, 0] rfl ?_
              exact ih _ _ _ h
            · have h := zifn (c := x102 = 32) h c
              refine zz_iload M 0 dX3_scan_73 rfl ?_
              refine zz_bipush (v := 10) M dX3_scan_75 (by decide) ?_
              refine zz_icmp_eq M 100 dX3_scan_77 (by decide) (fun c => ?_) (fun c => ?_)
              · have h := zif (c := x102 = 10) h c
                obtain ⟨x109, ex109⟩ : ∃ z : Int32, z = x3 + 1 := ⟨_, rfl⟩
                have h := h x109 ex109
                refine zz_iinc M [(3, .int x109), (5, .int x102), (0, .ref (ad 19)), (1, .ref (ad 17)), (2, .int x2), (4, .int x4)] 4 dX3_scan_100 rfl (n32 := 1) (by decide) ex109 (by decide) rfl ?_
                obtain ⟨x110, ex110⟩ : ∃ z : Int32, z = x4 + 1 := ⟨_, rfl⟩
                have h := h x110 ex110
                refine zz_iinc M [(4, .int x110), (3, .int x109), (5, .int x102), (0, .ref (ad 19)), (1, .ref (ad 17)), (2, .int x2)] 5 dX3_scan_103 rfl (n32 := 1) (by decide) ex110 (by decide) rfl ?_
                refine zz_goto M 10 dX3_scan_106 (by decide) ?_
                refine zz_sub [(0, .ref (ad 19)), (1, .ref (ad 17)), (2, .int x2), (3, .int x109), (4, .int x110)] [3, 4, 5, 1, 0] rfl ?_
                exact ih _ _ _ h
              · have h := zifn (c := x102 = 10) h c
                refine zz_aload_n M 1 dX3_scan_80 rfl rfl ?_
                refine zz_iload M 0 dX3_scan_81 rfl ?_
                refine zz_callSI (d' := 1) (As := [.int x102]) (rest := [.ref (ad 19)]) M l_X3_80 dX3_scan_83 rfl rfl (by decide) (Nat.le_of_ble_eq_true rfl) (by have hI := M.2.2.2.2.2.2.2.2; exact kX3_isSign hI _  _ _ h) (fun r111 σ112 h => ?_)
                refine zz_if_eq (y0 := 0) M 94 dX3_scan_86 (by decide) (fun c => ?_) (fun c => ?_)
                · have h := zif (c := r111 = 0) h c
                  refine zz_iconst (v := 1) M dX3_scan_94 (by decide) ?_
                  refine zz_iconst (v := 0) M dX3_scan_95 (by decide) ?_
                  refine zz_iload_n M 4 dX3_scan_96 rfl rfl ?_
                  refine zz_callVV (d' := 1) (As := [.int 1, .int 0, .int x3]) (rest := []) M l_X3_83 tX_19 rfl rfl dX3_scan_97 rfl rfl (by decide) (Nat.le_of_ble_eq_true rfl) (by have hI := M.2.2.2.2.2.2.2.2; exact kX3_keep hI _ _ _  _ _ h) (fun σ114 h => ?_)
                  obtain ⟨x115, ex115⟩ : ∃ z : Int32, z = x3 + 1 := ⟨_, rfl⟩
                  have h := h x115 ex115
                  refine zz_iinc M [(3, .int x115), (5, .int x102), (0, .ref (ad 19)), (1, .ref (ad 17)), (2, .int x2), (4, .int x4)] 4 dX3_scan_100 rfl (n32 := 1) (by decide) ex115 (by decide) rfl ?_
                  obtain ⟨x116, ex116⟩ : ∃ z : Int32, z = x4 + 1 := ⟨_, rfl⟩
                  have h := h x116 ex116
                  refine zz_iinc M [(4, .int x116), (3, .int x115), (5, .int x102), (0, .ref (ad 19)), (1, .ref (ad 17)), (2, .int x2)] 5 dX3_scan_103 rfl (n32 := 1) (by decide) ex116 (by decide) rfl ?_
                  refine zz_goto M 10 dX3_scan_106 (by decide) ?_
                  refine zz_sub [(0, .ref (ad 19)), (1, .ref (ad 17)), (2, .int x2), (3, .int x115), (4, .int x116)] [3, 4, 5, 1, 0] rfl ?_
                  exact ih _ _ _ h
                · have h := zifn (c := r111 = 0) h c
                  refine zz_iload M 0 dX3_scan_89 rfl ?_
                  refine zz_goto M 95 dX3_scan_91 (by decide) ?_
                  refine zz_iconst (v := 0) M dX3_scan_95 (by decide) ?_
                  refine zz_iload_n M 4 dX3_scan_96 rfl rfl ?_
                  refine zz_callVV (d' := 1) (As := [.int x102, .int 0, .int x3]) (rest := []) M l_X3_83 tX_19 rfl rfl dX3_scan_97 rfl rfl (by decide) (Nat.le_of_ble_eq_true rfl) (by have hI := M.2.2.2.2.2.2.2.2; exact kX3_keep hI _ _ _  _ _ h) (fun σ118 h => ?_)
                  obtain ⟨x119, ex119⟩ : ∃ z : Int32, z = x3 + 1 := ⟨_, rfl⟩
                  have h := h x119 ex119
                  refine zz_iinc M [(3, .int x119), (5, .int x102), (0, .ref (ad 19)), (1, .ref (ad 17)), (2, .int x2), (4, .int x4)] 4 dX3_scan_100 rfl (n32 := 1) (by decide) ex119 (by decide) rfl ?_
                  obtain ⟨x120, ex120⟩ : ∃ z : Int32, z = x4 + 1 := ⟨_, rfl⟩
                  have h := h x120 ex120
                  refine zz_iinc M [(4, .int x120), (3, .int x119), (5, .int x102), (0, .ref (ad 19)), (1, .ref (ad 17)), (2, .int x2)] 5 dX3_scan_103 rfl (n32 := 1) (by decide) ex120 (by decide) rfl ?_
                  refine zz_goto M 10 dX3_scan_106 (by decide) ?_
                  refine zz_sub [(0, .ref (ad 19)), (1, .ref (ad 17)), (2, .int x2), (3, .int x119), (4, .int x120)] [3, 4, 5, 1, 0] rfl ?_
                  exact ih _ _ _ h
          · have h := zifn (c := r105 = 0) h c
            refine zz_aload_n M 1 dX3_scan_55 rfl rfl ?_
            refine zz_aload_n M 2 dX3_scan_56 rfl rfl ?_
            refine zz_iload_n M 4 dX3_scan_57 rfl rfl ?_
            refine zz_iload_n M 3 dX3_scan_58 rfl rfl ?_
            refine zz_callVI (d' := 2) (As := [.ref (ad 17), .int x3, .int x2]) (rest := []) M l_X3_77 tX_19 rfl rfl dX3_scan_59 rfl rfl (by decide) (Nat.le_of_ble_eq_true rfl) (by have hI := M.2.2.2.2.2.2.2.2; exact kX3_takeNumber_17 hI _ _  _ _ h) (fun r121 σ122 h => ?_)
            refine zz_istore_n M [(3, .int r121), (5, .int x102), (0, .ref (ad 19)), (1, .ref (ad 17)), (2, .int x2), (4, .int x4)] dX3_scan_62 rfl (by decide) rfl ?_
            refine zz_goto M 103 dX3_scan_63 (by decide) ?_
            obtain ⟨x123, ex123⟩ : ∃ z : Int32, z = x4 + 1 := ⟨_, rfl⟩
            have h := h x123 ex123
            refine zz_iinc M [(4, .int x123), (3, .int r121), (5, .int x102), (0, .ref (ad 19)), (1, .ref (ad 17)), (2, .int x2)] 5 dX3_scan_103 rfl (n32 := 1) (by decide) ex123 (by decide) rfl ?_
            refine zz_goto M 10 dX3_scan_106 (by decide) ?_
            refine zz_sub [(0, .ref (ad 19)), (1, .ref (ad 17)), (2, .int x2), (3, .int r121), (4, .int x123)] [3, 4, 5, 1, 0] rfl ?_
            exact ih _ _ _ h
        · have h := zifn (c := r103 = 0) h c
          refine zz_aload_n M 1 dX3_scan_36 rfl rfl ?_
          refine zz_aload_n M 2 dX3_scan_37 rfl rfl ?_
          refine zz_iload_n M 4 dX3_scan_38 rfl rfl ?_
          refine zz_iload_n M 3 dX3_scan_39 rfl rfl ?_
          refine zz_callVI (d' := 7) (As := [.ref (ad 17), .int x3, .int x2]) (rest := []) M l_X3_70 tX_19 rfl rfl dX3_scan_40 rfl rfl (by decide) (Nat.le_of_ble_eq_true rfl) (by have hI := M.2.2.2.2.2.2.2.2; exact kX3_takeWord_17 hI _ _  _ _ h) (fun r124 σ125 h => ?_)
          refine zz_istore_n M [(3, .int r124), (5, .int x102), (0, .ref (ad 19)), (1, .ref (ad 17)), (2, .int x2), (4, .int x4)] dX3_scan_43 rfl (by decide) rfl ?_
          refine zz_goto M 103 dX3_scan_44 (by decide) ?_
          obtain ⟨x126, ex126⟩ : ∃ z : Int32, z = x4 + 1 := ⟨_, rfl⟩
          have h := h x126 ex126
          refine zz_iinc M [(4, .int x126), (3, .int r124), (5, .int x102), (0, .ref (ad 19)), (1, .ref (ad 17)), (2, .int x2)] 5 dX3_scan_103 rfl (n32 := 1) (by decide) ex126 (by decide) rfl ?_
          refine zz_goto M 10 dX3_scan_106 (by decide) ?_
          refine zz_sub [(0, .ref (ad 19)), (1, .ref (ad 17)), (2, .int x2), (3, .int r124), (4, .int x126)] [3, 4, 5, 1, 0] rfl ?_
          exact ih _ _ _ h
def wX3_scan_17 (x2 : Int32) (σ : zSt) (Q : zSt → Prop) : Prop := ∀ σ101 : zSt, σ101 = zput σ 19 3 0 → (wX3_scan_17_L10 Q (fun  σ127 => wX3_keep 0 0 x2 σ127 (fun σ129 => Q σ129)) x2 300 0 0 σ101)
set_option maxRecDepth 20000 in
set_option maxHeartbeats 4000000 in
theorem kX3_scan_17 (hI : zInj tabX ad) (x2 : Int32)  (σ : zSt) (Q : zSt → Prop) (h : wX3_scan_17 x2 σ Q) : zOkV l tabX D cA ad y 8 yX3_scan cX3_scan 6 none [.ref (ad 19), .ref (ad 17), .int x2] σ Q := by
  refine zz_enter hI (by decide) (Nat.le_of_ble_eq_true rfl) (fun p e s m below meth c M => ?_)
  have M : zM p s m _ meth c cX3_scan 6 RX3 none tabX D cA ad y := M
  refine zz_ls [(0, .ref (ad 19)), (1, .ref (ad 17)), (2, .int x2)] rfl ?_
  unfold wX3_scan_17 at h
  refine zz_aload_n M 0 dX3_scan_0 rfl rfl ?_
  refine zz_iconst (v := 0) M dX3_scan_1 (by decide) ?_
  refine zz_putI M f_X3_21 tX_19 rfl dX3_scan_2 ?_
  refine zz_sg (fun σ101 eσ101 => ?_)
  have h := h σ101 eσ101
  refine zz_iconst (v := 0) M dX3_scan_5 (by decide) ?_
  refine zz_istore_n M [(3, .int 0), (0, .ref (ad 19)), (1, .ref (ad 17)), (2, .int x2)] dX3_scan_6 rfl (by decide) rfl ?_
  refine zz_iconst (v := 0) M dX3_scan_7 (by decide) ?_
  refine zz_istore M [(4, .int 0), (3, .int 0), (0, .ref (ad 19)), (1, .ref (ad 17)), (2, .int x2)] dX3_scan_8 (by decide) rfl ?_
  refine zz_sub [(0, .ref (ad 19)), (1, .ref (ad 17)), (2, .int x2), (3, .int 0), (4, .int 0)] [2, 3, 4, 1, 0] rfl ?_
  refine sX3_scan_17_L10 x2  M (fun  σ127 h => ?_) 300 _ _ _ h
  refine zz_aload_n M 0 dX3_scan_109 rfl rfl ?_
  refine zz_iconst (v := 0) M dX3_scan_110 (by decide) ?_
  refine zz_iconst (v := 0) M dX3_scan_111 (by decide) ?_
  refine zz_iload_n M 1 dX3_scan_112 rfl rfl ?_
  refine zz_callVV (d' := 1) (As := [.int 0, .int 0, .int x2]) (rest := []) M l_X3_83 tX_19 rfl rfl dX3_scan_113 rfl rfl (by decide) (Nat.le_of_ble_eq_true rfl) (by have hI := M.2.2.2.2.2.2.2.2; exact kX3_keep hI _ _ _  _ _ h) (fun σ129 h => ?_)
  exact zz_vret M dX3_scan_116 h
def wX6_clear (i0 : Nat) (σ : zSt) (Q : zSt → Prop) : Prop := ∀ σ101 : zSt, σ101 = zput σ (43 + i0) 2 0 → (Q σ101)
set_option maxRecDepth 20000 in
set_option maxHeartbeats 4000000 in
theorem kX6_clear (hI : zInj tabX ad) (i0 : Nat) (hi0 : i0 < 6) (σ : zSt) (Q : zSt → Prop) (h : wX6_clear i0 σ Q) : zOkV l tabX D cA ad y 1 yX6_clear cX6_clear 1 none [.ref (ad (43 + i0))] σ Q := by
  refine zz_enter hI (by decide) (Nat.le_of_ble_eq_true rfl) (fun p e s m below meth c M => ?_)
  have M : zM p s m _ meth c cX6_clear 1 RX6 none tabX D cA ad y := M
  refine zz_ls [(0, .ref (ad (43 + i0)))] rfl ?_
  unfold wX6_clear at h
  refine zz_aload_n M 0 dX6_clear_0 rfl rfl ?_
  refine zz_iconst (v := 0) M dX6_clear_1 (by decide) ?_
  refine zz_putI M f_X6_18 (tX_Text hi0) rfl dX6_clear_2 ?_
  refine zz_sg (fun σ101 eσ101 => ?_)
  have h := h σ101 eσ101
  exact zz_vret M dX6_clear_5 h
def wX6_endPart (i0 : Nat) (x1 : Int32) (σ : zSt) (Q : zSt → Prop) : Prop := if x1 < 0 then (Q σ) else (if 3 ≤ x1 then (Q σ) else (vp_in x1 3 ∧ (∀ σ101 : zSt, σ101 = zput σ (55 + i0) x1.toNatClampNeg (σ.1 (43 + i0) 2) → (Q σ101))))
set_option maxRecDepth 20000 in
set_option maxHeartbeats 4000000 in
theorem kX6_endPart (hI : zInj tabX ad) (i0 : Nat) (x1 : Int32) (hi0 : i0 < 6) (σ : zSt) (Q : zSt → Prop) (h : wX6_endPart i0 x1 σ Q) : zOkV l tabX D cA ad y 1 yX6_endPart cX6_endPart 2 none [.ref (ad (43 + i0)), .int x1] σ Q := by
  refine zz_enter hI (by decide) (Nat.le_of_ble_eq_true rfl) (fun p e s m below meth c M => ?_)
  have M : zM p s m _ meth c cX6_endPart 2 RX6 none tabX D cA ad y := M
  refine zz_ls [(0, .ref (ad (43 + i0))), (1, .int x1)] rfl ?_
  unfold wX6_endPart at h
  refine zz_iload_n M 1 dX6_endPart_0 rfl rfl ?_
  refine zz_if_lt (y0 := 0) M 23 dX6_endPart_1 (by decide) (fun c => ?_) (fun c => ?_)
  · have h := zif (c := x1 < 0) h c
    exact zz_vret M dX6_endPart_23 h
  · have h := zifn (c := x1 < 0) h c
    refine zz_iload_n M 1 dX6_endPart_4 rfl rfl ?_
    refine zz_aload_n M 0 dX6_endPart_5 rfl rfl ?_
    refine zz_getR M f_X6_15 (tX_Text hi0) rfl dX6_endPart_6 ?_
    refine zz_alen (v := 3) M (tX_Text_ends hi0) (by decide) (by decide) dX6_endPart_9 ?_
    refine zz_icmp_ge M 23 dX6_endPart_10 (by decide) (fun c => ?_) (fun c => ?_)
    · have h := zif (c := 3 ≤ x1) h c
      exact zz_vret M dX6_endPart_23 h
    · have h := zifn (c := 3 ≤ x1) h c
      refine zz_aload_n M 0 dX6_endPart_13 rfl rfl ?_
      refine zz_getR M f_X6_15 (tX_Text hi0) rfl dX6_endPart_14 ?_
      refine zz_iload_n M 1 dX6_endPart_17 rfl rfl ?_
      refine zz_aload_n M 0 dX6_endPart_18 rfl rfl ?_
      refine zz_getI M f_X6_18 (tX_Text hi0) rfl dX6_endPart_19 ?_
      refine zz_iast M (tX_Text_ends hi0) h.1 dX6_endPart_22 ?_
      have h := h.2
      refine zz_sg (fun σ101 eσ101 => ?_)
      have h := h σ101 eσ101
      exact zz_vret M dX6_endPart_23 h
def wX3_part (x1 : Int32) (x2 : Int32) (σ : zSt) (Q : Int32 → zSt → Prop) : Prop := wX3_passes x2 σ (fun r101 σ102 => if r101 = 0 then (Q 0 σ102) else (wX3_rec 60 0 0 σ102 (fun r103 σ104 => if r103 = 0 then (Q 0 σ104) else (wX3_passes 59 σ104 (fun r105 σ106 => if r105 = 0 then (Q 0 σ106) else (vp_in (σ106.1 19 8) 6 ∧ (wX6_endPart ((σ106.1 19 8).toNatClampNeg) x1 σ106 (fun σ109 => Q 1 σ109))))))))
set_option maxRecDepth 20000 in
set_option maxHeartbeats 4000000 in
theorem kX3_part (hI : zInj tabX ad) (x1 : Int32) (x2 : Int32)  (σ : zSt) (Q : Int32 → zSt → Prop) (h : wX3_part x1 x2 σ Q) : zOkI l tabX D cA ad y 68 yX3_part cX3_part 3 (some .boolean) [.ref (ad 19), .int x1, .int x2] σ Q := by
  refine zz_enter hI (by decide) (Nat.le_of_ble_eq_true rfl) (fun p e s m below meth c M => ?_)
  have M : zM p s m _ meth c cX3_part 3 RX3 (some .boolean) tabX D cA ad y := M
  refine zz_ls [(0, .ref (ad 19)), (1, .int x1), (2, .int x2)] rfl ?_
  unfold wX3_part at h
  refine zz_aload_n M 0 dX3_part_0 rfl rfl ?_
  refine zz_iload_n M 2 dX3_part_1 rfl rfl ?_
  refine zz_callVI (d' := 2) (As := [.int x2]) (rest := []) M l_X3_131 tX_19 rfl rfl dX3_part_2 rfl rfl (by decide) (Nat.le_of_ble_eq_true rfl) (by have hI := M.2.2.2.2.2.2.2.2; exact kX3_passes hI _  _ _ h) (fun r101 σ102 h => ?_)
  refine zz_if_eq (y0 := 0) M 25 dX3_part_5 (by decide) (fun c => ?_) (fun c => ?_)
  · have h := zif (c := r101 = 0) h c
    refine zz_iconst (v := 0) M dX3_part_25 (by decide) ?_
    exact zz_zret M dX3_part_26 (Or.inl rfl) h
  · have h := zifn (c := r101 = 0) h c
    refine zz_aload_n M 0 dX3_part_8 rfl rfl ?_
    refine zz_iconst (v := 0) M dX3_part_9 (by decide) ?_
    refine zz_callVI (d' := 66) (As := [.int 0]) (rest := []) M l_X3_134 tX_19 rfl rfl dX3_part_10 rfl rfl (by decide) (Nat.le_of_ble_eq_true rfl) (by have hI := M.2.2.2.2.2.2.2.2; exact (kX3_rec hI 60).1 _ _ _ h) (fun r103 σ104 h => ?_)
    refine zz_if_eq (y0 := 0) M 25 dX3_part_13 (by decide) (fun c => ?_) (fun c => ?_)
    · have h := zif (c := r103 = 0) h c
      refine zz_iconst (v := 0) M dX3_part_25 (by decide) ?_
      exact zz_zret M dX3_part_26 (Or.inl rfl) h
    · have h := zifn (c := r103 = 0) h c
      refine zz_aload_n M 0 dX3_part_16 rfl rfl ?_
      refine zz_bipush (v := 59) M dX3_part_17 (by decide) ?_
      refine zz_callVI (d' := 2) (As := [.int 59]) (rest := []) M l_X3_131 tX_19 rfl rfl dX3_part_19 rfl rfl (by decide) (Nat.le_of_ble_eq_true rfl) (by have hI := M.2.2.2.2.2.2.2.2; exact kX3_passes hI _  _ _ h) (fun r105 σ106 h => ?_)
      refine zz_if_ne (y0 := 0) M 27 dX3_part_22 (by decide) (fun c => ?_) (fun c => ?_)
      · have h := zifn (c := r105 = 0) h c
        refine zz_aload_n M 0 dX3_part_27 rfl rfl ?_
        have hq107 := h.1
        refine zz_getD (b := 43) M f_X3_37 tX_19 rfl hq107 dX3_part_28 ?_
        have h := h.2
        refine zz_iload_n M 1 dX3_part_31 rfl rfl ?_
        refine zz_callVV (d' := 1) (As := [.int x1]) (rest := []) M l_X3_137 (tX_Text (zclt hq107)) rfl rfl dX3_part_32 rfl rfl (by decide) (Nat.le_of_ble_eq_true rfl) (by have hI := M.2.2.2.2.2.2.2.2; exact kX6_endPart hI _ _ (zclt hq107) _ _ h) (fun σ109 h => ?_)
        refine zz_iconst (v := 1) M dX3_part_35 (by decide) ?_
        exact zz_zret M dX3_part_36 (Or.inr rfl) h
      · have h := zif (c := r105 = 0) h c
        refine zz_iconst (v := 0) M dX3_part_25 (by decide) ?_
        exact zz_zret M dX3_part_26 (Or.inl rfl) h
def wX3_reads_17_Text (x2 : Int32) (i3 : Nat) (σ : zSt) (Q : Int32 → zSt → Prop) : Prop := ∀ a101 : Int32, a101 = (if (0 : Int32) < (if (160 : Int32) < (if (160 : Int32) < x2 then 160 else x2) then 160 else (if (160 : Int32) < x2 then 160 else x2)) then (if (160 : Int32) < (if (160 : Int32) < x2 then 160 else x2) then 160 else (if (160 : Int32) < x2 then 160 else x2)) else 0) → (wX3_scan_17 a101 σ (fun σ103 => ∀ σ104 : zSt, σ104 = zput σ103 19 8 (nI i3) → (vp_in (σ104.1 19 8) 6 ∧ (wX6_clear ((σ104.1 19 8).toNatClampNeg) σ104 (fun σ107 => ∀ σ108 : zSt, σ108 = zput σ107 19 4 0 → (wX3_advance  σ108 (fun σ110 => wX3_part 0 4 σ110 (fun r111 σ112 => if r111 = 0 then (Q 0 σ112) else (wX3_part 1 5 σ112 (fun r113 σ114 => if r113 = 0 then (Q 0 σ114) else (wX3_part 2 6 σ114 (fun r115 σ116 => if r115 = 0 then (Q 0 σ116) else (if (σ116.1 19 5) = 0 then (Q 1 σ116) else (Q 0 σ116))))))))))))))
set_option maxRecDepth 20000 in
set_option maxHeartbeats 4000000 in
theorem kX3_reads_17_Text (hI : zInj tabX ad) (x2 : Int32) (i3 : Nat) (hi3 : i3 < 6) (σ : zSt) (Q : Int32 → zSt → Prop) (h : wX3_reads_17_Text x2 i3 σ Q) : zOkI l tabX D cA ad y 69 yX3_reads cX3_reads 4 (some .boolean) [.ref (ad 19), .ref (ad 17), .int x2, .ref (ad (43 + i3))] σ Q := by
  refine zz_enter hI (by decide) (Nat.le_of_ble_eq_true rfl) (fun p e s m below meth c M => ?_)
  have M : zM p s m _ meth c cX3_reads 4 RX3 (some .boolean) tabX D cA ad y := M
  refine zz_ls [(0, .ref (ad 19)), (1, .ref (ad 17)), (2, .int x2), (3, .ref (ad (43 + i3)))] rfl ?_
  unfold wX3_reads_17_Text at h
  refine zz_aload_n M 1 dX3_reads_0 rfl rfl ?_
  refine zz_ifnull M dX3_reads_1 ?_
  refine zz_aload_n M 3 dX3_reads_4 rfl rfl ?_
  refine zz_ifnonnull M 10 dX3_reads_5 (by decide) ?_
  refine zz_aload_n M 0 dX3_reads_10 rfl rfl ?_
  refine zz_aload_n M 1 dX3_reads_11 rfl rfl ?_
  refine zz_iconst (v := 0) M dX3_reads_12 (by decide) ?_
  refine zz_iload_n M 2 dX3_reads_13 rfl rfl ?_
  refine zz_sipush (v := 160) M dX3_reads_14 (by decide) ?_
  refine zz_min M l_X3_41 zmath_min (by decide) (Nat.le_of_ble_eq_true rfl) dX3_reads_17 ?_
  refine zz_aload_n M 1 dX3_reads_20 rfl rfl ?_
  refine zz_alen (v := 160) M tX_17 (by decide) (by decide) dX3_reads_21 ?_
  refine zz_min M l_X3_41 zmath_min (by decide) (Nat.le_of_ble_eq_true rfl) dX3_reads_22 ?_
  refine zz_max M l_X3_47 zmath_max (by decide) (Nat.le_of_ble_eq_true rfl) dX3_reads_25 ?_
  obtain ⟨a101, ea101⟩ : ∃ z : Int32, z = (if (0 : Int32) < (if (160 : Int32) < (if (160 : Int32) < x2 then 160 else x2) then 160 else (if (160 : Int32) < x2 then 160 else x2)) then (if (160 : Int32) < (if (160 : Int32) < x2 then 160 else x2) then 160 else (if (160 : Int32) < x2 then 160 else x2)) else 0) := ⟨_, rfl⟩
  have h := h a101 ea101
  refine zz_st [.int a101, .ref (ad 17), .ref (ad 19)] (by rw [ea101]) ?_
  refine zz_callVV (d' := 8) (As := [.ref (ad 17), .int a101]) (rest := []) M l_X3_50 tX_19 rfl rfl dX3_reads_28 rfl rfl (by decide) (Nat.le_of_ble_eq_true rfl) (by have hI := M.2.2.2.2.2.2.2.2; exact kX3_scan_17 hI _  _ _ h) (fun σ103 h => ?_)
  refine zz_aload_n M 0 dX3_reads_31 rfl rfl ?_
  refine zz_aload_n M 3 dX3_reads_32 rfl rfl ?_
  refine zz_putD (b := 43) (q := i3) M f_X3_37 (Nat.lt_trans hi3 (by decide)) tX_19 rfl dX3_reads_33 ?_
  refine zz_sg (fun σ104 eσ104 => ?_)
  have h := h σ104 eσ104
  refine zz_aload_n M 0 dX3_reads_36 rfl rfl ?_
  have hq105 := h.1
  refine zz_getD (b := 43) M f_X3_37 tX_19 rfl hq105 dX3_reads_37 ?_
  have h := h.2
  refine zz_callVV (d' := 1) (As := []) (rest := []) M l_X3_54 (tX_Text (zclt hq105)) rfl rfl dX3_reads_40 rfl rfl (by decide) (Nat.le_of_ble_eq_true rfl) (by have hI := M.2.2.2.2.2.2.2.2; exact kX6_clear hI _ (zclt hq105) _ _ h) (fun σ107 h => ?_)
  refine zz_aload_n M 0 dX3_reads_43 rfl rfl ?_
  refine zz_iconst (v := 0) M dX3_reads_44 (by decide) ?_
  refine zz_putI M f_X3_25 tX_19 rfl dX3_reads_45 ?_
  refine zz_sg (fun σ108 eσ108 => ?_)
  have h := h σ108 eσ108
  refine zz_aload_n M 0 dX3_reads_48 rfl rfl ?_
  refine zz_callVV (d' := 1) (As := []) (rest := []) M l_X3_59 tX_19 rfl rfl dX3_reads_49 rfl rfl (by decide) (Nat.le_of_ble_eq_true rfl) (by have hI := M.2.2.2.2.2.2.2.2; exact kX3_advance hI   _ _ h) (fun σ110 h => ?_)
  refine zz_aload_n M 0 dX3_reads_52 rfl rfl ?_
  refine zz_iconst (v := 0) M dX3_reads_53 (by decide) ?_
  refine zz_iconst (v := 4) M dX3_reads_54 (by decide) ?_
  refine zz_callVI (d' := 68) (As := [.int 0, .int 4]) (rest := []) M l_X3_62 tX_19 rfl rfl dX3_reads_55 rfl rfl (by decide) (Nat.le_of_ble_eq_true rfl) (by have hI := M.2.2.2.2.2.2.2.2; exact kX3_part hI _ _  _ _ h) (fun r111 σ112 h => ?_)
  refine zz_if_eq (y0 := 0) M 91 dX3_reads_58 (by decide) (fun c => ?_) (fun c => ?_)
  · have h := zif (c := r111 = 0) h c
    refine zz_iconst (v := 0) M dX3_reads_91 (by decide) ?_
    exact zz_zret M dX3_reads_92 (Or.inl rfl) h
  · have h := zifn (c := r111 = 0) h c
    refine zz_aload_n M 0 dX3_reads_61 rfl rfl ?_
    refine zz_iconst (v := 1) M dX3_reads_62 (by decide) ?_
    refine zz_iconst (v := 5) M dX3_reads_63 (by decide) ?_
    refine zz_callVI (d' := 68) (As := [.int 1, .int 5]) (rest := []) M l_X3_62 tX_19 rfl rfl dX3_reads_64 rfl rfl (by decide) (Nat.le_of_ble_eq_true rfl) (by have hI := M.2.2.2.2.2.2.2.2; exact kX3_part hI _ _  _ _ h) (fun r113 σ114 h => ?_)
    refine zz_if_eq (y0 := 0) M 91 dX3_reads_67 (by decide) (fun c => ?_) (fun c => ?_)
    · have h := zif (c := r113 = 0) h c
      refine zz_iconst (v := 0) M dX3_reads_91 (by decide) ?_
      exact zz_zret M dX3_reads_92 (Or.inl rfl) h
    · have h := zifn (c := r113 = 0) h c
      refine zz_aload_n M 0 dX3_reads_70 rfl rfl ?_
      refine zz_iconst (v := 2) M dX3_reads_71 (by decide) ?_
      refine zz_bipush (v := 6) M dX3_reads_72 (by decide) ?_
      refine zz_callVI (d' := 68) (As := [.int 2, .int 6]) (rest := []) M l_X3_62 tX_19 rfl rfl dX3_reads_74 rfl rfl (by decide) (Nat.le_of_ble_eq_true rfl) (by have hI := M.2.2.2.2.2.2.2.2; exact kX3_part hI _ _  _ _ h) (fun r115 σ116 h => ?_)
      refine zz_if_eq (y0 := 0) M 91 dX3_reads_77 (by decide) (fun c => ?_) (fun c => ?_)
      · have h := zif (c := r115 = 0) h c
        refine zz_iconst (v := 0) M dX3_reads_91 (by decide) ?_
        exact zz_zret M dX3_reads_92 (Or.inl rfl) h
      · have h := zifn (c := r115 = 0) h c
        refine zz_aload_n M 0 dX3_reads_80 rfl rfl ?_
        refine zz_getI M f_X3_28 tX_19 rfl dX3_reads_81 ?_
        refine zz_if_ne (y0 := 0) M 91 dX3_reads_84 (by decide) (fun c => ?_) (fun c => ?_)
        · have h := zifn (c := (σ116.1 19 5) = 0) h c
          refine zz_iconst (v := 0) M dX3_reads_91 (by decide) ?_
          exact zz_zret M dX3_reads_92 (Or.inl rfl) h
        · have h := zif (c := (σ116.1 19 5) = 0) h c
          refine zz_iconst (v := 1) M dX3_reads_87 (by decide) ?_
          refine zz_goto M 92 dX3_reads_88 (by decide) ?_
          exact zz_zret M dX3_reads_92 (Or.inr rfl) h
def wX7_takeTape  (σ : zSt) (Q : Int32 → zSt → Prop) : Prop := if (σ.1 0 6) < 6 then (∀ x101 : Int32, x101 = (σ.1 0 4) → (∀ σ102 : zSt, σ102 = zput σ 0 4 0 → (vp_in (σ102.1 0 6) 6 ∧ (wX3_reads_17_Text x101 ((σ102.1 0 6 : Int32).toNatClampNeg) σ102 (fun r104 σ105 => if r104 = 0 then (Q ((-100) - (σ105.1 19 7)) σ105) else (∀ σ106 : zSt, σ106 = zput σ105 0 6 ((σ105.1 0 6) + 1) → (Q ((σ106.1 0 6) - 1) σ106))))))) else (Q (-4) σ)
set_option maxRecDepth 20000 in
set_option maxHeartbeats 4000000 in
theorem kX7_takeTape (hI : zInj tabX ad)   (σ : zSt) (Q : Int32 → zSt → Prop) (h : wX7_takeTape  σ Q) : zOkI l tabX D cA ad y 70 yX7_takeTape cX7_takeTape 2 (some .int) [.ref (ad 0)] σ Q := by
  refine zz_enter hI (by decide) (Nat.le_of_ble_eq_true rfl) (fun p e s m below meth c M => ?_)
  have M : zM p s m _ meth c cX7_takeTape 2 RX7 (some .int) tabX D cA ad y := M
  refine zz_ls [(0, .ref (ad 0))] rfl ?_
  unfold wX7_takeTape at h
  refine zz_aload_n M 0 dX7_takeTape_0 rfl rfl ?_
  refine zz_getI M f_X7_37 tX_0 rfl dX7_takeTape_1 ?_
  refine zz_bipush (v := 6) M dX7_takeTape_4 (by decide) ?_
  refine zz_icmp_lt M 12 dX7_takeTape_6 (by decide) (fun c => ?_) (fun c => ?_)
  · have h := zif (c := (σ.1 0 6) < 6) h c
    refine zz_aload_n M 0 dX7_takeTape_12 rfl rfl ?_
    refine zz_getI M f_X7_27 tX_0 rfl dX7_takeTape_13 ?_
    refine zz_topi (fun x101 ex101 => ?_)
    have h := h x101 ex101
    refine zz_istore_n M [(1, .int x101), (0, .ref (ad 0))] dX7_takeTape_16 rfl (by decide) rfl ?_
    refine zz_aload_n M 1 dX7_takeTape_17 rfl rfl ?_
    refine zz_iconst (v := 0) M dX7_takeTape_18 (by decide) ?_
    refine zz_putI M f_X7_27 tX_0 rfl dX7_takeTape_19 ?_
    refine zz_sg (fun σ102 eσ102 => ?_)
    have h := h σ102 eσ102
    refine zz_aload_n M 1 dX7_takeTape_22 rfl rfl ?_
    refine zz_getR M f_X7_43 tX_0 rfl dX7_takeTape_23 ?_
    refine zz_aload_n M 1 dX7_takeTape_26 rfl rfl ?_
    refine zz_getR M f_X7_23 tX_0 rfl dX7_takeTape_27 ?_
    refine zz_iload_n M 0 dX7_takeTape_30 rfl rfl ?_
    refine zz_aload_n M 1 dX7_takeTape_31 rfl rfl ?_
    refine zz_getR M f_X7_33 tX_0 rfl dX7_takeTape_32 ?_
    refine zz_aload_n M 1 dX7_takeTape_35 rfl rfl ?_
    refine zz_getI M f_X7_37 tX_0 rfl dX7_takeTape_36 ?_
    have hq103 := h.1
    refine zz_aald M tX_18 (by decide) hq103 dX7_takeTape_39 ?_
    have h := h.2
    refine zz_callVI (d' := 69) (As := [.ref (ad 17), .int x101, .ref (ad (43 + (σ102.1 0 6 : Int32).toNatClampNeg))]) (rest := []) M l_X7_274 tX_19 rfl rfl dX7_takeTape_40 rfl rfl (by decide) (Nat.le_of_ble_eq_true rfl) (by have hI := M.2.2.2.2.2.2.2.2; exact kX3_reads_17_Text hI _ _ (zclt hq103) _ _ h) (fun r104 σ105 h => ?_)
    refine zz_if_ne (y0 := 0) M 57 dX7_takeTape_43 (by decide) (fun c => ?_) (fun c => ?_)
    · have h := zifn (c := r104 = 0) h c
      refine zz_aload_n M 1 dX7_takeTape_57 rfl rfl ?_
      refine zz_dup M dX7_takeTape_58 rfl ?_
      refine zz_getI M f_X7_37 tX_0 rfl dX7_takeTape_59 ?_
      refine zz_iconst (v := 1) M dX7_takeTape_62 (by decide) ?_
      refine zz_iadd M dX7_takeTape_63 ?_
      refine zz_putI M f_X7_37 tX_0 rfl dX7_takeTape_64 ?_
      refine zz_sg (fun σ106 eσ106 => ?_)
      have h := h σ106 eσ106
      refine zz_aload_n M 1 dX7_takeTape_67 rfl rfl ?_
      refine zz_getI M f_X7_37 tX_0 rfl dX7_takeTape_68 ?_
      refine zz_iconst (v := 1) M dX7_takeTape_71 (by decide) ?_
      refine zz_isub M dX7_takeTape_72 ?_
      exact zz_iret M dX7_takeTape_73 h
    · have h := zif (c := r104 = 0) h c
      refine zz_bipush (v := (-100)) M dX7_takeTape_46 (by decide) ?_
      refine zz_aload_n M 1 dX7_takeTape_48 rfl rfl ?_
      refine zz_getR M f_X7_43 tX_0 rfl dX7_takeTape_49 ?_
      refine zz_getI M f_X7_278 tX_19 rfl dX7_takeTape_52 ?_
      refine zz_isub M dX7_takeTape_55 ?_
      exact zz_iret M dX7_takeTape_56 h
  · have h := zifn (c := (σ.1 0 6) < 6) h c
    refine zz_bipush (v := (-4)) M dX7_takeTape_9 (by decide) ?_
    exact zz_iret M dX7_takeTape_11 h
def wX7_text  (σ : zSt) (Q : Int32 → zSt → Prop) : Prop := wX7_takeTape  σ (fun r101 σ102 => Q r101 σ102)
set_option maxRecDepth 20000 in
set_option maxHeartbeats 4000000 in
theorem kX7_text (hI : zInj tabX ad)   (σ : zSt) (Q : Int32 → zSt → Prop) (h : wX7_text  σ Q) : zOkI l tabX D cA ad y 71 yX7_text cX7_text 1 (some .int) [.ref (ad 0)] σ Q := by
  refine zz_enter hI (by decide) (Nat.le_of_ble_eq_true rfl) (fun p e s m below meth c M => ?_)
  have M : zM p s m _ meth c cX7_text 1 RX7 (some .int) tabX D cA ad y := M
  refine zz_ls [(0, .ref (ad 0))] rfl ?_
  unfold wX7_text at h
  refine zz_aload_n M 0 dX7_text_0 rfl rfl ?_
  refine zz_callVI (d' := 70) (As := []) (rest := []) M l_X7_97 tX_0 rfl rfl dX7_text_1 rfl rfl (by decide) (Nat.le_of_ble_eq_true rfl) (by have hI := M.2.2.2.2.2.2.2.2; exact kX7_takeTape hI   _ _ h) (fun r101 σ102 h => ?_)
  exact zz_iret M dX7_text_4 h
def wX7_force (x1 : Int32) (σ : zSt) (Q : Int32 → zSt → Prop) : Prop := if x1 < 0 then (Q (-2) σ) else (if x1 < (σ.1 0 6) then (∀ x101 : Int32, x101 = (σ.1 1 10) → (∀ σ102 : zSt, σ102 = zput σ 1 10 x1 → (wX7_forget  σ102 (fun σ104 => Q x101 σ104)))) else (Q (-2) σ))
set_option maxRecDepth 20000 in
set_option maxHeartbeats 4000000 in
theorem kX7_force (hI : zInj tabX ad) (x1 : Int32)  (σ : zSt) (Q : Int32 → zSt → Prop) (h : wX7_force x1 σ Q) : zOkI l tabX D cA ad y 4 yX7_force cX7_force 3 (some .int) [.ref (ad 0), .int x1] σ Q := by
  refine zz_enter hI (by decide) (Nat.le_of_ble_eq_true rfl) (fun p e s m below meth c M => ?_)
  have M : zM p s m _ meth c cX7_force 3 RX7 (some .int) tabX D cA ad y := M
  refine zz_ls [(0, .ref (ad 0)), (1, .int x1)] rfl ?_
  unfold wX7_force at h
  refine zz_iload_n M 1 dX7_force_0 rfl rfl ?_
  refine zz_if_lt (y0 := 0) M 12 dX7_force_1 (by decide) (fun c => ?_) (fun c => ?_)
  · have h := zif (c := x1 < 0) h c
    refine zz_bipush (v := (-2)) M dX7_force_12 (by decide) ?_
    exact zz_iret M dX7_force_14 h
  · have h := zifn (c := x1 < 0) h c
    refine zz_iload_n M 1 dX7_force_4 rfl rfl ?_
    refine zz_aload_n M 0 dX7_force_5 rfl rfl ?_
    refine zz_getI M f_X7_37 tX_0 rfl dX7_force_6 ?_
    refine zz_icmp_lt M 15 dX7_force_9 (by decide) (fun c => ?_) (fun c => ?_)
    · have h := zif (c := x1 < (σ.1 0 6)) h c
      refine zz_aload_n M 0 dX7_force_15 rfl rfl ?_
      refine zz_getR M f_X7_12 tX_0 rfl dX7_force_16 ?_
      refine zz_getI M f_X7_168 tX_1 rfl dX7_force_19 ?_
      refine zz_topi (fun x101 ex101 => ?_)
      have h := h x101 ex101
      refine zz_istore_n M [(2, .int x101), (0, .ref (ad 0)), (1, .int x1)] dX7_force_22 rfl (by decide) rfl ?_
      refine zz_aload_n M 1 dX7_force_23 rfl rfl ?_
      refine zz_getR M f_X7_12 tX_0 rfl dX7_force_24 ?_
      refine zz_iload_n M 2 dX7_force_27 rfl rfl ?_
      refine zz_putI M f_X7_168 tX_1 rfl dX7_force_28 ?_
      refine zz_sg (fun σ102 eσ102 => ?_)
      have h := h σ102 eσ102
      refine zz_aload_n M 1 dX7_force_31 rfl rfl ?_
      refine zz_callVV (d' := 3) (As := []) (rest := []) M l_X7_125 tX_0 rfl rfl dX7_force_32 rfl rfl (by decide) (Nat.le_of_ble_eq_true rfl) (by have hI := M.2.2.2.2.2.2.2.2; exact kX7_forget hI   _ _ h) (fun σ104 h => ?_)
      refine zz_iload_n M 0 dX7_force_35 rfl rfl ?_
      exact zz_iret M dX7_force_36 h
    · have h := zifn (c := x1 < (σ.1 0 6)) h c
      refine zz_bipush (v := (-2)) M dX7_force_12 (by decide) ?_
      exact zz_iret M dX7_force_14 h
end
