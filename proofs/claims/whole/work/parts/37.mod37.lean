section
variable {p : Program} {l : Launch} {e : Env} {s : State} {m : MethodId} {args : Array Value} {below : List Frame} {meth : Method} {c : Code} {D : va_G} {cA : Nat → ClassId} {ad : Nat → Nat} {y : zX}
def wX8_fourth_L23 (Q : Int32 → zSt → Prop) (K78 : Int32 → zSt → Prop) (x1 : Int32) : Nat → Int32 → Int32 → zSt → Prop
  | 0, _, _, _ => False
  | n + 1, x2, x3, σ => if 8 ≤ x3 then (K78 x2 σ) else (wX8_isOne x3 σ (fun r5 σ6 => if r5 = 0 then (∀ x7 : Int32, x7 = x3 + 1 → (wX8_fourth_L23 Q K78 x1 n x2 x7 σ6)) else (vp_in x3 8 ∧ (if (σ6.1 4 x3.toNatClampNeg) = x1 then (wX8_through x3 σ6 (fun r9 σ10 => wX8_costOf x3 r9 σ10 (fun r11 σ12 => vp_in x3 8 ∧ (wX8_costOf x3 (σ12.1 5 x3.toNatClampNeg) σ12 (fun r13 σ14 => ∀ x15 : Int32, x15 = x2 + (r11 - r13) → (∀ x16 : Int32, x16 = x3 + 1 → (wX8_fourth_L23 Q K78 x1 n x15 x16 σ14))))))) else (∀ x8 : Int32, x8 = x3 + 1 → (wX8_fourth_L23 Q K78 x1 n x2 x8 σ6))))))
set_option maxRecDepth 20000 in
set_option maxHeartbeats 4000000 in
theorem sX8_fourth_L23 {Q : Int32 → zSt → Prop} {K78 : Int32 → zSt → Prop} (x1 : Int32)  (M : zM p s m args meth c cX8_fourth 4 RX8 (some .int) tabM D cA ad y) (hK78 : ∀ (v2 : Int32) (σ : zSt), K78 v2 σ → zG p l e (zrm 44) s m args below meth c 4 tabM D cA ad (MQ below (va_Qi Q (fun σ' t => va_P D vwCl (zws tabM cA ad σ') t.heap) (zIn tabM ad)) args s 0 0 (zIn tabM ad)) 78 [(2, .int v2)] [] σ) : ∀ (n : Nat) (x2 : Int32) (x3 : Int32) (σ : zSt), wX8_fourth_L23 Q K78 x1 n x2 x3 σ → zG p l e (zrm 44) s m args below meth c 4 tabM D cA ad (MQ below (va_Qi Q (fun σ' t => va_P D vwCl (zws tabM cA ad σ') t.heap) (zIn tabM ad)) args s 0 0 (zIn tabM ad)) 23 [(0, .ref (ad 0)), (1, .int x1), (2, .int x2), (3, .int x3)] [] σ := by
  intro n
  induction n with
  | zero => intro x2 x3 σ h; exact absurd h (by simp [wX8_fourth_L23])
  | succ n ih =>
    intro x2 x3 σ h
    unfold wX8_fourth_L23 at h
    refine zz_iload_n M 3 dX8_fourth_23 rfl rfl ?_
    refine zz_bipush (v := 8) M dX8_fourth_24 (by decide) ?_
    refine zz_icmp_ge M 78 dX8_fourth_26 (by decide) (fun c => ?_) (fun c => ?_)
    · have h := zif h c
      refine zz_sub [(2, .int x2)] [2] rfl ?_
      exact hK78 _ _ h
    · have h := zifn h c
      refine zz_aload_n M 0 dX8_fourth_29 rfl rfl ?_
      refine zz_iload_n M 3 dX8_fourth_30 rfl rfl ?_
      refine zz_callVI (d' := 1) (As := [.int x3]) (rest := []) M l_X8_342 tM_0 rfl rfl dX8_fourth_31 rfl rfl (by decide) (Nat.le_of_ble_eq_true rfl) (by have hI := M.2.2.2.2.2.2.2.2; exact kX8_isOne hI _  _ _ h) (fun r5 σ6 h => ?_)
      refine zz_if_eq (y0 := 0) M 72 dX8_fourth_34 (by decide) (fun c => ?_) (fun c => ?_)
      · have h := zif h c
        obtain ⟨x7, ex7⟩ : ∃ z : Int32, z = x3 + 1 := ⟨_, rfl⟩
        have h := h x7 ex7
        refine zz_iinc M [(3, .int x7), (0, .ref (ad 0)), (1, .int x1), (2, .int x2)] 3 dX8_fourth_72 rfl (n32 := 1) (by decide) ex7 (by decide) rfl ?_
        refine zz_goto M 23 dX8_fourth_75 (by decide) ?_
        refine zz_sub [(0, .ref (ad 0)), (1, .int x1), (2, .int x2), (3, .int x7)] [1, 2, 3, 0] rfl ?_
        exact ih _ _ _ h
      · have h := zifn h c
        refine zz_aload_n M 0 dX8_fourth_37 rfl rfl ?_
        refine zz_getR M f_X8_23 tM_0 rfl dX8_fourth_38 ?_
        refine zz_iload_n M 3 dX8_fourth_41 rfl rfl ?_
        refine zz_iald M tM_4 h.1 dX8_fourth_42 ?_
        have h := h.2
        refine zz_iload_n M 1 dX8_fourth_43 rfl rfl ?_
        refine zz_icmp_ne M 72 dX8_fourth_44 (by decide) (fun c => ?_) (fun c => ?_)
        · have h := zifn h c
          obtain ⟨x8, ex8⟩ : ∃ z : Int32, z = x3 + 1 := ⟨_, rfl⟩
          have h := h x8 ex8
          refine zz_iinc M [(3, .int x8), (0, .ref (ad 0)), (1, .int x1), (2, .int x2)] 3 dX8_fourth_72 rfl (n32 := 1) (by decide) ex8 (by decide) rfl ?_
          refine zz_goto M 23 dX8_fourth_75 (by decide) ?_
          refine zz_sub [(0, .ref (ad 0)), (1, .int x1), (2, .int x2), (3, .int x8)] [1, 2, 3, 0] rfl ?_
          exact ih _ _ _ h
        · have h := zif h c
          refine zz_iload_n M 2 dX8_fourth_47 rfl rfl ?_
          refine zz_aload_n M 0 dX8_fourth_48 rfl rfl ?_
          refine zz_iload_n M 3 dX8_fourth_49 rfl rfl ?_
          refine zz_aload_n M 0 dX8_fourth_50 rfl rfl ?_
          refine zz_iload_n M 3 dX8_fourth_51 rfl rfl ?_
          refine zz_callVI (d' := 2) (As := [.int x3]) (rest := [.int x3, .ref (ad 0), .int x2]) M l_X8_345 tM_0 rfl rfl dX8_fourth_52 rfl rfl (by decide) (Nat.le_of_ble_eq_true rfl) (by have hI := M.2.2.2.2.2.2.2.2; exact kX8_through hI _  _ _ h) (fun r9 σ10 h => ?_)
          refine zz_callVI (d' := 43) (As := [.int x3, .int r9]) (rest := [.int x2]) M l_X8_348 tM_0 rfl rfl dX8_fourth_55 rfl rfl (by decide) (Nat.le_of_ble_eq_true rfl) (by have hI := M.2.2.2.2.2.2.2.2; exact kX8_costOf hI _ _  _ _ h) (fun r11 σ12 h => ?_)
          refine zz_aload_n M 0 dX8_fourth_58 rfl rfl ?_
          refine zz_iload_n M 3 dX8_fourth_59 rfl rfl ?_
          refine zz_aload_n M 0 dX8_fourth_60 rfl rfl ?_
          refine zz_getR M f_X8_26 tM_0 rfl dX8_fourth_61 ?_
          refine zz_iload_n M 3 dX8_fourth_64 rfl rfl ?_
          refine zz_iald M tM_5 h.1 dX8_fourth_65 ?_
          have h := h.2
          refine zz_callVI (d' := 43) (As := [.int x3, .int (σ12.1 5 x3.toNatClampNeg)]) (rest := [.int r11, .int x2]) M l_X8_348 tM_0 rfl rfl dX8_fourth_66 rfl rfl (by decide) (Nat.le_of_ble_eq_true rfl) (by have hI := M.2.2.2.2.2.2.2.2; exact kX8_costOf hI _ _  _ _ h) (fun r13 σ14 h => ?_)
          refine zz_isub M dX8_fourth_69 ?_
          refine zz_iadd M dX8_fourth_70 ?_
          refine zz_topi (fun x15 ex15 => ?_)
          have h := h x15 ex15
          refine zz_istore_n M [(2, .int x15), (0, .ref (ad 0)), (1, .int x1), (3, .int x3)] dX8_fourth_71 rfl (by decide) rfl ?_
          obtain ⟨x16, ex16⟩ : ∃ z : Int32, z = x3 + 1 := ⟨_, rfl⟩
          have h := h x16 ex16
          refine zz_iinc M [(3, .int x16), (2, .int x15), (0, .ref (ad 0)), (1, .int x1)] 3 dX8_fourth_72 rfl (n32 := 1) (by decide) ex16 (by decide) rfl ?_
          refine zz_goto M 23 dX8_fourth_75 (by decide) ?_
          refine zz_sub [(0, .ref (ad 0)), (1, .int x1), (2, .int x15), (3, .int x16)] [2, 3, 1, 0] rfl ?_
          exact ih _ _ _ h
def wX8_fourth (x1 : Int32) (σ : zSt) (Q : Int32 → zSt → Prop) : Prop := wX8_in ((x1 : Int32).toInt64) 0 2 σ (fun r1 σ2 => if r1 = 0 then (Q (-2) σ2) else (wX8_takesPlan  σ2 (fun σ4 => wX8_fourth_L23 Q (fun v17 σ18 => Q v17 σ18) x1 300 0 4 σ4)))
set_option maxRecDepth 20000 in
set_option maxHeartbeats 4000000 in
theorem kX8_fourth (hI : zInj tabM ad) (x1 : Int32)  (σ : zSt) (Q : Int32 → zSt → Prop) (h : wX8_fourth x1 σ Q) : zOkI l tabM D cA ad y 44 yX8_fourth cX8_fourth 4 (some .int) [.ref (ad 0), .int x1] σ Q := by
  refine zz_enter hI (by decide) (Nat.le_of_ble_eq_true rfl) (fun p e s m below meth c M => ?_)
  have M : zM p s m _ meth c cX8_fourth 4 RX8 (some .int) tabM D cA ad y := M
  refine zz_ls [(0, .ref (ad 0)), (1, .int x1)] rfl ?_
  unfold wX8_fourth at h
  refine zz_iload_n M 1 dX8_fourth_0 rfl rfl ?_
  refine zz_i2l M dX8_fourth_1 ?_
  refine zz_lconst (v := 0) M dX8_fourth_2 (by decide) ?_
  refine zz_ldc2 (v := 2) M k_X8_104 dX8_fourth_3 ?_
  refine zz_callSI (d' := 1) (As := [.long ((x1 : Int32).toInt64), .long 0, .long 2]) (rest := []) M l_X8_92 dX8_fourth_6 rfl rfl (by decide) (Nat.le_of_ble_eq_true rfl) (by have hI := M.2.2.2.2.2.2.2.2; exact kX8_in hI _ _ _  _ _ h) (fun r1 σ2 h => ?_)
  refine zz_if_ne (y0 := 0) M 15 dX8_fourth_9 (by decide) (fun c => ?_) (fun c => ?_)
  · have h := zifn h c
    refine zz_aload_n M 0 dX8_fourth_15 rfl rfl ?_
    refine zz_callVV (d' := 1) (As := []) (rest := []) M l_X8_354 tM_0 rfl rfl dX8_fourth_16 rfl rfl (by decide) (Nat.le_of_ble_eq_true rfl) (by have hI := M.2.2.2.2.2.2.2.2; exact kX8_takesPlan hI   _ _ h) (fun σ4 h => ?_)
    refine zz_iconst (v := 0) M dX8_fourth_19 (by decide) ?_
    refine zz_istore_n M [(2, .int 0), (0, .ref (ad 0)), (1, .int x1)] dX8_fourth_20 rfl (by decide) rfl ?_
    refine zz_iconst (v := 4) M dX8_fourth_21 (by decide) ?_
    refine zz_istore_n M [(3, .int 4), (2, .int 0), (0, .ref (ad 0)), (1, .int x1)] dX8_fourth_22 rfl (by decide) rfl ?_
    refine zz_sub [(0, .ref (ad 0)), (1, .int x1), (2, .int 0), (3, .int 4)] [2, 3, 1, 0] rfl ?_
    refine sX8_fourth_L23 x1  M (fun v17 σ18 h => ?_) 300 _ _ _ h
    refine zz_iload_n M 0 dX8_fourth_78 rfl rfl ?_
    exact zz_iret M dX8_fourth_79 h
  · have h := zif h c
    refine zz_bipush (v := (-2)) M dX8_fourth_12 (by decide) ?_
    exact zz_iret M dX8_fourth_14 h
def wX8_late_L23 (Q : Int32 → zSt → Prop) (K69 : Int32 → zSt → Prop) (x1 : Int32) : Nat → Int32 → Int32 → zSt → Prop
  | 0, _, _, _ => False
  | n + 1, x2, x3, σ => if 8 ≤ x3 then (K69 x2 σ) else (wX8_isOne x3 σ (fun r5 σ6 => if r5 = 0 then (∀ x7 : Int32, x7 = x2 ||| (0 <<< (x3 &&& 31)) → (∀ x8 : Int32, x8 = x3 + 1 → (wX8_late_L23 Q K69 x1 n x7 x8 σ6))) else (wX8_through x3 σ6 (fun r9 σ10 => vp_in x3 8 ∧ (if (r9 - (σ10.1 5 x3.toNatClampNeg)) ≤ x1 then (∀ x11 : Int32, x11 = x2 ||| (0 <<< (x3 &&& 31)) → (∀ x12 : Int32, x12 = x3 + 1 → (wX8_late_L23 Q K69 x1 n x11 x12 σ10))) else (∀ x13 : Int32, x13 = x2 ||| (1 <<< (x3 &&& 31)) → (∀ x14 : Int32, x14 = x3 + 1 → (wX8_late_L23 Q K69 x1 n x13 x14 σ10))))))))
set_option maxRecDepth 20000 in
set_option maxHeartbeats 4000000 in
theorem sX8_late_L23 {Q : Int32 → zSt → Prop} {K69 : Int32 → zSt → Prop} (x1 : Int32)  (M : zM p s m args meth c cX8_late 4 RX8 (some .int) tabM D cA ad y) (hK69 : ∀ (v2 : Int32) (σ : zSt), K69 v2 σ → zG p l e (zrm 3) s m args below meth c 4 tabM D cA ad (MQ below (va_Qi Q (fun σ' t => va_P D vwCl (zws tabM cA ad σ') t.heap) (zIn tabM ad)) args s 0 0 (zIn tabM ad)) 69 [(2, .int v2)] [] σ) : ∀ (n : Nat) (x2 : Int32) (x3 : Int32) (σ : zSt), wX8_late_L23 Q K69 x1 n x2 x3 σ → zG p l e (zrm 3) s m args below meth c 4 tabM D cA ad (MQ below (va_Qi Q (fun σ' t => va_P D vwCl (zws tabM cA ad σ') t.heap) (zIn tabM ad)) args s 0 0 (zIn tabM ad)) 23 [(0, .ref (ad 0)), (1, .int x1), (2, .int x2), (3, .int x3)] [] σ := by
  intro n
  induction n with
  | zero => intro x2 x3 σ h; exact absurd h (by simp [wX8_late_L23])
  | succ n ih =>
    intro x2 x3 σ h
    unfold wX8_late_L23 at h
    refine zz_iload_n M 3 dX8_late_23 rfl rfl ?_
    refine zz_bipush (v := 8) M dX8_late_24 (by decide) ?_
    refine zz_icmp_ge M 69 dX8_late_26 (by decide) (fun c => ?_) (fun c => ?_)
    · have h := zif h c
      refine zz_sub [(2, .int x2)] [2] rfl ?_
      exact hK69 _ _ h
    · have h := zifn h c
      refine zz_iload_n M 2 dX8_late_29 rfl rfl ?_
      refine zz_aload_n M 0 dX8_late_30 rfl rfl ?_
      refine zz_iload_n M 3 dX8_late_31 rfl rfl ?_
      refine zz_callVI (d' := 1) (As := [.int x3]) (rest := [.int x2]) M l_X8_342 tM_0 rfl rfl dX8_late_32 rfl rfl (by decide) (Nat.le_of_ble_eq_true rfl) (by have hI := M.2.2.2.2.2.2.2.2; exact kX8_isOne hI _  _ _ h) (fun r5 σ6 h => ?_)
      refine zz_if_eq (y0 := 0) M 58 dX8_late_35 (by decide) (fun c => ?_) (fun c => ?_)
      · have h := zif h c
        refine zz_iconst (v := 0) M dX8_late_58 (by decide) ?_
        refine zz_iload_n M 3 dX8_late_59 rfl rfl ?_
        refine zz_ishl M dX8_late_60 ?_
        refine zz_ior M dX8_late_61 ?_
        refine zz_topi (fun x7 ex7 => ?_)
        have h := h x7 ex7
        refine zz_istore_n M [(2, .int x7), (0, .ref (ad 0)), (1, .int x1), (3, .int x3)] dX8_late_62 rfl (by decide) rfl ?_
        obtain ⟨x8, ex8⟩ : ∃ z : Int32, z = x3 + 1 := ⟨_, rfl⟩
        have h := h x8 ex8
        refine zz_iinc M [(3, .int x8), (2, .int x7), (0, .ref (ad 0)), (1, .int x1)] 3 dX8_late_63 rfl (n32 := 1) (by decide) ex8 (by decide) rfl ?_
        refine zz_goto M 23 dX8_late_66 (by decide) ?_
        refine zz_sub [(0, .ref (ad 0)), (1, .int x1), (2, .int x7), (3, .int x8)] [2, 3, 1, 0] rfl ?_
        exact ih _ _ _ h
      · have h := zifn h c
        refine zz_aload_n M 0 dX8_late_38 rfl rfl ?_
        refine zz_iload_n M 3 dX8_late_39 rfl rfl ?_
        refine zz_callVI (d' := 2) (As := [.int x3]) (rest := [.int x2]) M l_X8_345 tM_0 rfl rfl dX8_late_40 rfl rfl (by decide) (Nat.le_of_ble_eq_true rfl) (by have hI := M.2.2.2.2.2.2.2.2; exact kX8_through hI _  _ _ h) (fun r9 σ10 h => ?_)
        refine zz_aload_n M 0 dX8_late_43 rfl rfl ?_
        refine zz_getR M f_X8_26 tM_0 rfl dX8_late_44 ?_
        refine zz_iload_n M 3 dX8_late_47 rfl rfl ?_
        refine zz_iald M tM_5 h.1 dX8_late_48 ?_
        have h := h.2
        refine zz_isub M dX8_late_49 ?_
        refine zz_iload_n M 1 dX8_late_50 rfl rfl ?_
        refine zz_icmp_le M 58 dX8_late_51 (by decide) (fun c => ?_) (fun c => ?_)
        · have h := zif h c
          refine zz_iconst (v := 0) M dX8_late_58 (by decide) ?_
          refine zz_iload_n M 3 dX8_late_59 rfl rfl ?_
          refine zz_ishl M dX8_late_60 ?_
          refine zz_ior M dX8_late_61 ?_
          refine zz_topi (fun x11 ex11 => ?_)
          have h := h x11 ex11
          refine zz_istore_n M [(2, .int x11), (0, .ref (ad 0)), (1, .int x1), (3, .int x3)] dX8_late_62 rfl (by decide) rfl ?_
          obtain ⟨x12, ex12⟩ : ∃ z : Int32, z = x3 + 1 := ⟨_, rfl⟩
          have h := h x12 ex12
          refine zz_iinc M [(3, .int x12), (2, .int x11), (0, .ref (ad 0)), (1, .int x1)] 3 dX8_late_63 rfl (n32 := 1) (by decide) ex12 (by decide) rfl ?_
          refine zz_goto M 23 dX8_late_66 (by decide) ?_
          refine zz_sub [(0, .ref (ad 0)), (1, .int x1), (2, .int x11), (3, .int x12)] [2, 3, 1, 0] rfl ?_
          exact ih _ _ _ h
        · have h := zifn h c
          refine zz_iconst (v := 1) M dX8_late_54 (by decide) ?_
          refine zz_goto M 59 dX8_late_55 (by decide) ?_
          refine zz_iload_n M 3 dX8_late_59 rfl rfl ?_
          refine zz_ishl M dX8_late_60 ?_
          refine zz_ior M dX8_late_61 ?_
          refine zz_topi (fun x13 ex13 => ?_)
          have h := h x13 ex13
          refine zz_istore_n M [(2, .int x13), (0, .ref (ad 0)), (1, .int x1), (3, .int x3)] dX8_late_62 rfl (by decide) rfl ?_
          obtain ⟨x14, ex14⟩ : ∃ z : Int32, z = x3 + 1 := ⟨_, rfl⟩
          have h := h x14 ex14
          refine zz_iinc M [(3, .int x14), (2, .int x13), (0, .ref (ad 0)), (1, .int x1)] 3 dX8_late_63 rfl (n32 := 1) (by decide) ex14 (by decide) rfl ?_
          refine zz_goto M 23 dX8_late_66 (by decide) ?_
          refine zz_sub [(0, .ref (ad 0)), (1, .int x1), (2, .int x13), (3, .int x14)] [2, 3, 1, 0] rfl ?_
          exact ih _ _ _ h
def wX8_late (x1 : Int32) (σ : zSt) (Q : Int32 → zSt → Prop) : Prop := wX8_in ((x1 : Int32).toInt64) 0 24 σ (fun r1 σ2 => if r1 = 0 then (Q (-2) σ2) else (wX8_takesPlan  σ2 (fun σ4 => wX8_late_L23 Q (fun v15 σ16 => Q v15 σ16) x1 300 0 0 σ4)))
set_option maxRecDepth 20000 in
set_option maxHeartbeats 4000000 in
theorem kX8_late (hI : zInj tabM ad) (x1 : Int32)  (σ : zSt) (Q : Int32 → zSt → Prop) (h : wX8_late x1 σ Q) : zOkI l tabM D cA ad y 3 yX8_late cX8_late 4 (some .int) [.ref (ad 0), .int x1] σ Q := by
  refine zz_enter hI (by decide) (Nat.le_of_ble_eq_true rfl) (fun p e s m below meth c M => ?_)
  have M : zM p s m _ meth c cX8_late 4 RX8 (some .int) tabM D cA ad y := M
  refine zz_ls [(0, .ref (ad 0)), (1, .int x1)] rfl ?_
  unfold wX8_late at h
  refine zz_iload_n M 1 dX8_late_0 rfl rfl ?_
  refine zz_i2l M dX8_late_1 ?_
  refine zz_lconst (v := 0) M dX8_late_2 (by decide) ?_
  refine zz_ldc2 (v := 24) M k_X8_429 dX8_late_3 ?_
  refine zz_callSI (d' := 1) (As := [.long ((x1 : Int32).toInt64), .long 0, .long 24]) (rest := []) M l_X8_92 dX8_late_6 rfl rfl (by decide) (Nat.le_of_ble_eq_true rfl) (by have hI := M.2.2.2.2.2.2.2.2; exact kX8_in hI _ _ _  _ _ h) (fun r1 σ2 h => ?_)
  refine zz_if_ne (y0 := 0) M 15 dX8_late_9 (by decide) (fun c => ?_) (fun c => ?_)
  · have h := zifn h c
    refine zz_aload_n M 0 dX8_late_15 rfl rfl ?_
    refine zz_callVV (d' := 1) (As := []) (rest := []) M l_X8_354 tM_0 rfl rfl dX8_late_16 rfl rfl (by decide) (Nat.le_of_ble_eq_true rfl) (by have hI := M.2.2.2.2.2.2.2.2; exact kX8_takesPlan hI   _ _ h) (fun σ4 h => ?_)
    refine zz_iconst (v := 0) M dX8_late_19 (by decide) ?_
    refine zz_istore_n M [(2, .int 0), (0, .ref (ad 0)), (1, .int x1)] dX8_late_20 rfl (by decide) rfl ?_
    refine zz_iconst (v := 0) M dX8_late_21 (by decide) ?_
    refine zz_istore_n M [(3, .int 0), (2, .int 0), (0, .ref (ad 0)), (1, .int x1)] dX8_late_22 rfl (by decide) rfl ?_
    refine zz_sub [(0, .ref (ad 0)), (1, .int x1), (2, .int 0), (3, .int 0)] [2, 3, 1, 0] rfl ?_
    refine sX8_late_L23 x1  M (fun v15 σ16 h => ?_) 300 _ _ _ h
    refine zz_iload_n M 0 dX8_late_69 rfl rfl ?_
    exact zz_iret M dX8_late_70 h
  · have h := zif h c
    refine zz_bipush (v := (-2)) M dX8_late_12 (by decide) ?_
    exact zz_iret M dX8_late_14 h
def wX8_blame_L39 (Q : Int32 → zSt → Prop) (K96 : Int32 → Int32 → zSt → Prop) (x1 : Int32) (x4 : Int32) : Nat → Int32 → Int32 → Int32 → zSt → Prop
  | 0, _, _, _, _ => False
  | n + 1, x2, x3, x5, σ => if 3 ≤ x5 then (K96 x2 x3 σ) else (vp_in x4 24 ∧ (if x5 = (σ.1 9 x4.toNatClampNeg) then (∀ x7 : Int32, x7 = x5 + 1 → (wX8_blame_L39 Q K96 x1 x4 n x2 x3 x7 σ)) else (vp_in x4 24 ∧ (∀ σ8 : zSt, σ8 = zput σ 10 x4.toNatClampNeg x5 → (wX8_rowCost  σ8 (fun r9 σ10 => if x2 ≤ r9 then (∀ x11 : Int32, x11 = x5 + 1 → (wX8_blame_L39 Q K96 x1 x4 n x2 x3 x11 σ10)) else (∀ x12 : Int32, x12 = (10 * x4) + x5 → (∀ x13 : Int32, x13 = x5 + 1 → (wX8_blame_L39 Q K96 x1 x4 n r9 x12 x13 σ10)))))))))
set_option maxRecDepth 20000 in
set_option maxHeartbeats 4000000 in
theorem sX8_blame_L39 {Q : Int32 → zSt → Prop} {K96 : Int32 → Int32 → zSt → Prop} (x1 : Int32) (x4 : Int32)  (M : zM p s m args meth c cX8_blame 7 RX8 (some .int) tabM D cA ad y) (hK96 : ∀ (v2 : Int32) (v3 : Int32) (σ : zSt), K96 v2 v3 σ → zG p l e (zrm 45) s m args below meth c 7 tabM D cA ad (MQ below (va_Qi Q (fun σ' t => va_P D vwCl (zws tabM cA ad σ') t.heap) (zIn tabM ad)) args s 0 0 (zIn tabM ad)) 96 [(0, .ref (ad 0)), (1, .int x1), (2, .int v2), (3, .int v3), (4, .int x4)] [] σ) : ∀ (n : Nat) (x2 : Int32) (x3 : Int32) (x5 : Int32) (σ : zSt), wX8_blame_L39 Q K96 x1 x4 n x2 x3 x5 σ → zG p l e (zrm 45) s m args below meth c 7 tabM D cA ad (MQ below (va_Qi Q (fun σ' t => va_P D vwCl (zws tabM cA ad σ') t.heap) (zIn tabM ad)) args s 0 0 (zIn tabM ad)) 39 [(0, .ref (ad 0)), (1, .int x1), (2, .int x2), (3, .int x3), (4, .int x4), (5, .int x5)] [] σ := by
  intro n
  induction n with
  | zero => intro x2 x3 x5 σ h; exact absurd h (by simp [wX8_blame_L39])
  | succ n ih =>
    intro x2 x3 x5 σ h
    unfold wX8_blame_L39 at h
    refine zz_iload M 5 dX8_blame_39 rfl ?_
    refine zz_iconst (v := 3) M dX8_blame_41 (by decide) ?_
    refine zz_icmp_ge M 96 dX8_blame_42 (by decide) (fun c => ?_) (fun c => ?_)
    · have h := zif h c
      refine zz_sub [(0, .ref (ad 0)), (1, .int x1), (2, .int x2), (3, .int x3), (4, .int x4)] [0, 1, 2, 3, 4] rfl ?_
      exact hK96 _ _ _ h
    · have h := zifn h c
      refine zz_iload M 5 dX8_blame_45 rfl ?_
      refine zz_aload_n M 0 dX8_blame_47 rfl rfl ?_
      refine zz_getR M f_X8_44 tM_0 rfl dX8_blame_48 ?_
      refine zz_iload M 4 dX8_blame_51 rfl ?_
      refine zz_iald M tM_9 h.1 dX8_blame_53 ?_
      have h := h.2
      refine zz_icmp_eq M 90 dX8_blame_54 (by decide) (fun c => ?_) (fun c => ?_)
      · have h := zif h c
        obtain ⟨x7, ex7⟩ : ∃ z : Int32, z = x5 + 1 := ⟨_, rfl⟩
        have h := h x7 ex7
        refine zz_iinc M [(5, .int x7), (0, .ref (ad 0)), (1, .int x1), (2, .int x2), (3, .int x3), (4, .int x4)] 5 dX8_blame_90 rfl (n32 := 1) (by decide) ex7 (by decide) rfl ?_
        refine zz_goto M 39 dX8_blame_93 (by decide) ?_
        refine zz_sub [(0, .ref (ad 0)), (1, .int x1), (2, .int x2), (3, .int x3), (4, .int x4), (5, .int x7)] [1, 2, 3, 4, 5, 0] rfl ?_
        exact ih _ _ _ _ h
      · have h := zifn h c
        refine zz_aload_n M 0 dX8_blame_57 rfl rfl ?_
        refine zz_getR M f_X8_47 tM_0 rfl dX8_blame_58 ?_
        refine zz_iload M 4 dX8_blame_61 rfl ?_
        refine zz_iload M 5 dX8_blame_63 rfl ?_
        refine zz_iast M tM_10 h.1 dX8_blame_65 ?_
        have h := h.2
        refine zz_sg (fun σ8 eσ8 => ?_)
        have h := h σ8 eσ8
        refine zz_aload_n M 0 dX8_blame_66 rfl rfl ?_
        refine zz_callVI (d' := 44) (As := []) (rest := []) M l_X8_359 tM_0 rfl rfl dX8_blame_67 rfl rfl (by decide) (Nat.le_of_ble_eq_true rfl) (by have hI := M.2.2.2.2.2.2.2.2; exact kX8_rowCost hI   _ _ h) (fun r9 σ10 h => ?_)
        refine zz_istore M [(6, .int r9), (0, .ref (ad 0)), (1, .int x1), (2, .int x2), (3, .int x3), (4, .int x4), (5, .int x5)] dX8_blame_70 (by decide) rfl ?_
        refine zz_iload M 0 dX8_blame_72 rfl ?_
        refine zz_iload_n M 3 dX8_blame_74 rfl rfl ?_
        refine zz_icmp_ge M 90 dX8_blame_75 (by decide) (fun c => ?_) (fun c => ?_)
        · have h := zif h c
          obtain ⟨x11, ex11⟩ : ∃ z : Int32, z = x5 + 1 := ⟨_, rfl⟩
          have h := h x11 ex11
          refine zz_iinc M [(5, .int x11), (6, .int r9), (0, .ref (ad 0)), (1, .int x1), (2, .int x2), (3, .int x3), (4, .int x4)] 6 dX8_blame_90 rfl (n32 := 1) (by decide) ex11 (by decide) rfl ?_
          refine zz_goto M 39 dX8_blame_93 (by decide) ?_
          refine zz_sub [(0, .ref (ad 0)), (1, .int x1), (2, .int x2), (3, .int x3), (4, .int x4), (5, .int x11)] [2, 3, 4, 5, 6, 0] rfl ?_
          exact ih _ _ _ _ h
        · have h := zifn h c
          refine zz_bipush (v := 10) M dX8_blame_78 (by decide) ?_
          refine zz_iload M 5 dX8_blame_80 rfl ?_
          refine zz_imul M dX8_blame_82 ?_
          refine zz_iload M 6 dX8_blame_83 rfl ?_
          refine zz_iadd M dX8_blame_85 ?_
          refine zz_topi (fun x12 ex12 => ?_)
          have h := h x12 ex12
          refine zz_istore_n M [(3, .int x12), (6, .int r9), (0, .ref (ad 0)), (1, .int x1), (2, .int x2), (4, .int x4), (5, .int x5)] dX8_blame_86 rfl (by decide) rfl ?_
          refine zz_iload M 1 dX8_blame_87 rfl ?_
          refine zz_istore_n M [(2, .int r9), (3, .int x12), (6, .int r9), (0, .ref (ad 0)), (1, .int x1), (4, .int x4), (5, .int x5)] dX8_blame_89 rfl (by decide) rfl ?_
          obtain ⟨x13, ex13⟩ : ∃ z : Int32, z = x5 + 1 := ⟨_, rfl⟩
          have h := h x13 ex13
          refine zz_iinc M [(5, .int x13), (2, .int r9), (3, .int x12), (6, .int r9), (0, .ref (ad 0)), (1, .int x1), (4, .int x4)] 6 dX8_blame_90 rfl (n32 := 1) (by decide) ex13 (by decide) rfl ?_
          refine zz_goto M 39 dX8_blame_93 (by decide) ?_
          refine zz_sub [(0, .ref (ad 0)), (1, .int x1), (2, .int r9), (3, .int x12), (4, .int x4), (5, .int x13)] [4, 5, 1, 2, 6, 0] rfl ?_
          exact ih _ _ _ _ h
def wX8_blame_L29 (Q : Int32 → zSt → Prop) (K116 : Int32 → Int32 → zSt → Prop) (x1 : Int32) : Nat → Int32 → Int32 → Int32 → zSt → Prop
  | 0, _, _, _, _ => False
  | n + 1, x2, x3, x4, σ => if 24 ≤ x4 then (K116 x2 x3 σ) else (wX8_blame_L39 Q (fun v14 v15 σ16 => vp_in x4 24 ∧ (vp_in x4 24 ∧ (∀ σ17 : zSt, σ17 = zput σ16 10 x4.toNatClampNeg (σ16.1 9 x4.toNatClampNeg) → (∀ x18 : Int32, x18 = x4 + 1 → (wX8_blame_L29 Q K116 x1 n v14 v15 x18 σ17))))) x1 x4 300 x2 x3 0 σ)
set_option maxRecDepth 20000 in
set_option maxHeartbeats 4000000 in
theorem sX8_blame_L29 {Q : Int32 → zSt → Prop} {K116 : Int32 → Int32 → zSt → Prop} (x1 : Int32)  (M : zM p s m args meth c cX8_blame 7 RX8 (some .int) tabM D cA ad y) (hK116 : ∀ (v2 : Int32) (v3 : Int32) (σ : zSt), K116 v2 v3 σ → zG p l e (zrm 45) s m args below meth c 7 tabM D cA ad (MQ below (va_Qi Q (fun σ' t => va_P D vwCl (zws tabM cA ad σ') t.heap) (zIn tabM ad)) args s 0 0 (zIn tabM ad)) 116 [(1, .int x1), (2, .int v2), (3, .int v3)] [] σ) : ∀ (n : Nat) (x2 : Int32) (x3 : Int32) (x4 : Int32) (σ : zSt), wX8_blame_L29 Q K116 x1 n x2 x3 x4 σ → zG p l e (zrm 45) s m args below meth c 7 tabM D cA ad (MQ below (va_Qi Q (fun σ' t => va_P D vwCl (zws tabM cA ad σ') t.heap) (zIn tabM ad)) args s 0 0 (zIn tabM ad)) 29 [(0, .ref (ad 0)), (1, .int x1), (2, .int x2), (3, .int x3), (4, .int x4)] [] σ := by
  intro n
  induction n with
  | zero => intro x2 x3 x4 σ h; exact absurd h (by simp [wX8_blame_L29])
  | succ n ih =>
    intro x2 x3 x4 σ h
    unfold wX8_blame_L29 at h
    refine zz_iload M 4 dX8_blame_29 rfl ?_
    refine zz_bipush (v := 24) M dX8_blame_31 (by decide) ?_
    refine zz_icmp_ge M 116 dX8_blame_33 (by decide) (fun c => ?_) (fun c => ?_)
    · have h := zif h c
      refine zz_sub [(1, .int x1), (2, .int x2), (3, .int x3)] [1, 2, 3] rfl ?_
      exact hK116 _ _ _ h
    · have h := zifn h c
      refine zz_iconst (v := 0) M dX8_blame_36 (by decide) ?_
      refine zz_istore M [(5, .int 0), (0, .ref (ad 0)), (1, .int x1), (2, .int x2), (3, .int x3), (4, .int x4)] dX8_blame_37 (by decide) rfl ?_
      refine zz_sub [(0, .ref (ad 0)), (1, .int x1), (2, .int x2), (3, .int x3), (4, .int x4), (5, .int 0)] [1, 2, 3, 4, 5, 0] rfl ?_
      refine sX8_blame_L39 x1 x4  M (fun v14 v15 σ16 h => ?_) 300 _ _ _ _ h
      refine zz_aload_n M 0 dX8_blame_96 rfl rfl ?_
      refine zz_getR M f_X8_47 tM_0 rfl dX8_blame_97 ?_
      refine zz_iload M 4 dX8_blame_100 rfl ?_
      refine zz_aload_n M 0 dX8_blame_102 rfl rfl ?_
      refine zz_getR M f_X8_44 tM_0 rfl dX8_blame_103 ?_
      refine zz_iload M 4 dX8_blame_106 rfl ?_
      refine zz_iald M tM_9 h.1 dX8_blame_108 ?_
      have h := h.2
      refine zz_iast M tM_10 h.1 dX8_blame_109 ?_
      have h := h.2
      refine zz_sg (fun σ17 eσ17 => ?_)
      have h := h σ17 eσ17
      obtain ⟨x18, ex18⟩ : ∃ z : Int32, z = x4 + 1 := ⟨_, rfl⟩
      have h := h x18 ex18
      refine zz_iinc M [(4, .int x18), (0, .ref (ad 0)), (1, .int x1), (2, .int v14), (3, .int v15)] 4 dX8_blame_110 rfl (n32 := 1) (by decide) ex18 (by decide) rfl ?_
      refine zz_goto M 29 dX8_blame_113 (by decide) ?_
      refine zz_sub [(0, .ref (ad 0)), (1, .int x1), (2, .int v14), (3, .int v15), (4, .int x18)] [1, 2, 3, 4, 0] rfl ?_
      exact ih _ _ _ _ h
def wX8_blame (x1 : Int32) (σ : zSt) (Q : Int32 → zSt → Prop) : Prop := wX8_in ((x1 : Int32).toInt64) 0 2 σ (fun r1 σ2 => if r1 = 0 then (Q (-2) σ2) else (wX8_takesPlan  σ2 (fun σ4 => wX8_rowCost  σ4 (fun r5 σ6 => wX8_blame_L29 Q (fun v19 v20 σ21 => if v20 = (-1) then (Q (-1) σ21) else (if x1 = 0 then (Q (v20 / 10) σ21) else (if x1 = 1 then (Q (v20 - v20 / 10 * 10) σ21) else (Q v19 σ21)))) x1 300 r5 (-1) 0 σ6))))
set_option maxRecDepth 20000 in
set_option maxHeartbeats 4000000 in
theorem kX8_blame (hI : zInj tabM ad) (x1 : Int32)  (σ : zSt) (Q : Int32 → zSt → Prop) (h : wX8_blame x1 σ Q) : zOkI l tabM D cA ad y 45 yX8_blame cX8_blame 7 (some .int) [.ref (ad 0), .int x1] σ Q := by
  refine zz_enter hI (by decide) (Nat.le_of_ble_eq_true rfl) (fun p e s m below meth c M => ?_)
  have M : zM p s m _ meth c cX8_blame 7 RX8 (some .int) tabM D cA ad y := M
  refine zz_ls [(0, .ref (ad 0)), (1, .int x1)] rfl ?_
  unfold wX8_blame at h
  refine zz_iload_n M 1 dX8_blame_0 rfl rfl ?_
  refine zz_i2l M dX8_blame_1 ?_
  refine zz_lconst (v := 0) M dX8_blame_2 (by decide) ?_
  refine zz_ldc2 (v := 2) M k_X8_104 dX8_blame_3 ?_
  refine zz_callSI (d' := 1) (As := [.long ((x1 : Int32).toInt64), .long 0, .long 2]) (rest := []) M l_X8_92 dX8_blame_6 rfl rfl (by decide) (Nat.le_of_ble_eq_true rfl) (by have hI := M.2.2.2.2.2.2.2.2; exact kX8_in hI _ _ _  _ _ h) (fun r1 σ2 h => ?_)
  refine zz_if_ne (y0 := 0) M 15 dX8_blame_9 (by decide) (fun c => ?_) (fun c => ?_)
  · have h := zifn h c
    refine zz_aload_n M 0 dX8_blame_15 rfl rfl ?_
    refine zz_callVV (d' := 1) (As := []) (rest := []) M l_X8_354 tM_0 rfl rfl dX8_blame_16 rfl rfl (by decide) (Nat.le_of_ble_eq_true rfl) (by have hI := M.2.2.2.2.2.2.2.2; exact kX8_takesPlan hI   _ _ h) (fun σ4 h => ?_)
    refine zz_aload_n M 0 dX8_blame_19 rfl rfl ?_
    refine zz_callVI (d' := 44) (As := []) (rest := []) M l_X8_359 tM_0 rfl rfl dX8_blame_20 rfl rfl (by decide) (Nat.le_of_ble_eq_true rfl) (by have hI := M.2.2.2.2.2.2.2.2; exact kX8_rowCost hI   _ _ h) (fun r5 σ6 h => ?_)
    refine zz_istore_n M [(2, .int r5), (0, .ref (ad 0)), (1, .int x1)] dX8_blame_23 rfl (by decide) rfl ?_
    refine zz_iconst (v := (-1)) M dX8_blame_24 (by decide) ?_
    refine zz_istore_n M [(3, .int (-1)), (2, .int r5), (0, .ref (ad 0)), (1, .int x1)] dX8_blame_25 rfl (by decide) rfl ?_
    refine zz_iconst (v := 0) M dX8_blame_26 (by decide) ?_
    refine zz_istore M [(4, .int 0), (3, .int (-1)), (2, .int r5), (0, .ref (ad 0)), (1, .int x1)] dX8_blame_27 (by decide) rfl ?_
    refine zz_sub [(0, .ref (ad 0)), (1, .int x1), (2, .int r5), (3, .int (-1)), (4, .int 0)] [3, 4, 2, 1, 0] rfl ?_
    refine sX8_blame_L29 x1  M (fun v19 v20 σ21 h => ?_) 300 _ _ _ _ h
    refine zz_iload_n M 2 dX8_blame_116 rfl rfl ?_
    refine zz_iconst (v := (-1)) M dX8_blame_117 (by decide) ?_
    refine zz_icmp_ne M 125 dX8_blame_118 (by decide) (fun c => ?_) (fun c => ?_)
    · have h := zifn h c
      refine zz_iload_n M 0 dX8_blame_125 rfl rfl ?_
      refine zz_if_ne (y0 := 0) M 136 dX8_blame_126 (by decide) (fun c => ?_) (fun c => ?_)
      · have h := zifn h c
        refine zz_iload_n M 0 dX8_blame_136 rfl rfl ?_
        refine zz_iconst (v := 1) M dX8_blame_137 (by decide) ?_
        refine zz_icmp_ne M 148 dX8_blame_138 (by decide) (fun c => ?_) (fun c => ?_)
        · have h := zifn h c
          refine zz_iload_n M 1 dX8_blame_148 rfl rfl ?_
          exact zz_iret M dX8_blame_149 h
        · have h := zif h c
          refine zz_iload_n M 2 dX8_blame_141 rfl rfl ?_
          refine zz_bipush (v := 10) M dX8_blame_142 (by decide) ?_
          refine zz_irem M dX8_blame_144 (by decide) ?_
          refine zz_goto M 149 dX8_blame_145 (by decide) ?_
          exact zz_iret M dX8_blame_149 h
      · have h := zif h c
        refine zz_iload_n M 2 dX8_blame_129 rfl rfl ?_
        refine zz_bipush (v := 10) M dX8_blame_130 (by decide) ?_
        refine zz_idiv M dX8_blame_132 (by decide) ?_
        refine zz_goto M 149 dX8_blame_133 (by decide) ?_
        exact zz_iret M dX8_blame_149 h
    · have h := zif h c
      refine zz_iconst (v := (-1)) M dX8_blame_121 (by decide) ?_
      refine zz_goto M 149 dX8_blame_122 (by decide) ?_
      exact zz_iret M dX8_blame_149 h
  · have h := zif h c
    refine zz_bipush (v := (-2)) M dX8_blame_12 (by decide) ?_
    exact zz_iret M dX8_blame_14 h
def wX8_isSheet (x0 : Int32) (σ : zSt) (Q : Int32 → zSt → Prop) : Prop := wX8_in ((x0 : Int32).toInt64) 0 3 σ (fun r1 σ2 => (r1 = 0 ∨ r1 = 1) ∧ Q r1 σ2)
set_option maxRecDepth 20000 in
set_option maxHeartbeats 4000000 in
theorem kX8_isSheet (hI : zInj tabM ad) (x0 : Int32)  (σ : zSt) (Q : Int32 → zSt → Prop) (h : wX8_isSheet x0 σ Q) : zOkI l tabM D cA ad y 2 yX8_isSheet cX8_isSheet 1 (some .boolean) [.int x0] σ Q := by
  refine zz_enter hI (by decide) (Nat.le_of_ble_eq_true rfl) (fun p e s m below meth c M => ?_)
  have M : zM p s m _ meth c cX8_isSheet 1 RX8 (some .boolean) tabM D cA ad y := M
  refine zz_ls [(0, .int x0)] rfl ?_
  unfold wX8_isSheet at h
  refine zz_iload_n M 0 dX8_isSheet_0 rfl rfl ?_
  refine zz_i2l M dX8_isSheet_1 ?_
  refine zz_lconst (v := 0) M dX8_isSheet_2 (by decide) ?_
  refine zz_ldc2 (v := 3) M k_X8_357 dX8_isSheet_3 ?_
  refine zz_callSI (d' := 1) (As := [.long ((x0 : Int32).toInt64), .long 0, .long 3]) (rest := []) M l_X8_92 dX8_isSheet_6 rfl rfl (by decide) (Nat.le_of_ble_eq_true rfl) (by have hI := M.2.2.2.2.2.2.2.2; exact kX8_in hI _ _ _  _ _ h) (fun r1 σ2 h => ?_)
  exact zz_zret M dX8_isSheet_9 h.1 h.2
def wX8_judge_L40 (Q : Int32 → zSt → Prop) (K76 : Int32 → zSt → Prop) (K124 : Int32 → zSt → Prop) (K145 : zSt → Prop) (x1 : Int32) : Nat → Int32 → Int32 → zSt → Prop
  | 0, _, _, _ => False
  | n + 1, x2, x3, σ => vp_in x1 4 ∧ (if (σ.1 19 x1.toNatClampNeg) ≤ x3 then (K145  σ) else (vp_in ((40 * x1) + x3) 160 ∧ (∀ x3 : Int32, x3 = σ.1 20 ((40 * x1) + x3 : Int32).toNatClampNeg → (wX8_in ((x3 : Int32).toInt64) 0 2 σ (fun r4 σ5 => if r4 = 0 then (K76 x3 σ5) else (if x3 ≤ 0 then (if x3 ≤ 0 then (∀ x6 : Int32, x6 = x3 + 1 → (wX8_judge_L40 Q K76 K124 K145 x1 n 1 x6 σ5)) else (if (σ5.1 0 12) ≤ x2 then (∀ x7 : Int32, x7 = x3 + 1 → (wX8_judge_L40 Q K76 K124 K145 x1 n 1 x7 σ5)) else (K124 x3 σ5))) else (vp_in (((40 * x1) + x3) - 1) 160 ∧ (if x3 = (σ5.1 20 (((40 * x1) + x3) - 1 : Int32).toNatClampNeg) then (if x3 ≤ 0 then (∀ x10 : Int32, x10 = x2 + 1 → (∀ x11 : Int32, x11 = x3 + 1 → (wX8_judge_L40 Q K76 K124 K145 x1 n x10 x11 σ5))) else (∀ x12 : Int32, x12 = x2 + 1 → (∀ x13 : Int32, x13 = x3 + 1 → (wX8_judge_L40 Q K76 K124 K145 x1 n x12 x13 σ5)))) else (if x3 ≤ 0 then (∀ x8 : Int32, x8 = x3 + 1 → (wX8_judge_L40 Q K76 K124 K145 x1 n 1 x8 σ5)) else (if (σ5.1 0 12) ≤ x2 then (∀ x9 : Int32, x9 = x3 + 1 → (wX8_judge_L40 Q K76 K124 K145 x1 n 1 x9 σ5)) else (K124 x3 σ5)))))))))))
set_option maxRecDepth 20000 in
set_option maxHeartbeats 4000000 in
theorem sX8_judge_L40 {Q : Int32 → zSt → Prop} {K76 : Int32 → zSt → Prop} {K124 : Int32 → zSt → Prop} {K145 : zSt → Prop} (x1 : Int32)  (M : zM p s m args meth c cX8_judge 6 RX8 (some .int) tabM D cA ad y) (hK76 : ∀ (v3 : Int32) (σ : zSt), K76 v3 σ → zG p l e (zrm 3) s m args below meth c 6 tabM D cA ad (MQ below (va_Qi Q (fun σ' t => va_P D vwCl (zws tabM cA ad σ') t.heap) (zIn tabM ad)) args s 0 0 (zIn tabM ad)) 76 [(3, .int v3)] [] σ) (hK124 : ∀ (v3 : Int32) (σ : zSt), K124 v3 σ → zG p l e (zrm 3) s m args below meth c 6 tabM D cA ad (MQ below (va_Qi Q (fun σ' t => va_P D vwCl (zws tabM cA ad σ') t.heap) (zIn tabM ad)) args s 0 0 (zIn tabM ad)) 124 [(3, .int v3)] [] σ) (hK145 : ∀ (σ : zSt), K145  σ → zG p l e (zrm 3) s m args below meth c 6 tabM D cA ad (MQ below (va_Qi Q (fun σ' t => va_P D vwCl (zws tabM cA ad σ') t.heap) (zIn tabM ad)) args s 0 0 (zIn tabM ad)) 145 [] [] σ) : ∀ (n : Nat) (x2 : Int32) (x3 : Int32) (σ : zSt), wX8_judge_L40 Q K76 K124 K145 x1 n x2 x3 σ → zG p l e (zrm 3) s m args below meth c 6 tabM D cA ad (MQ below (va_Qi Q (fun σ' t => va_P D vwCl (zws tabM cA ad σ') t.heap) (zIn tabM ad)) args s 0 0 (zIn tabM ad)) 40 [(0, .ref (ad 0)), (1, .int x1), (2, .int x2), (3, .int x3)] [] σ := by
  intro n
  induction n with
  | zero => intro x2 x3 σ h; exact absurd h (by simp [wX8_judge_L40])
  | succ n ih =>
    intro x2 x3 σ h
    unfold wX8_judge_L40 at h
    refine zz_iload_n M 3 dX8_judge_40 rfl rfl ?_
    refine zz_aload_n M 0 dX8_judge_41 rfl rfl ?_
    refine zz_getR M f_X8_79 tM_0 rfl dX8_judge_42 ?_
    refine zz_iload_n M 1 dX8_judge_45 rfl rfl ?_
    refine zz_iald M tM_19 h.1 dX8_judge_46 ?_
    have h := h.2
    refine zz_icmp_ge M 145 dX8_judge_47 (by decide) (fun c => ?_) (fun c => ?_)
    · have h := zif h c
      refine zz_sub [] [] rfl ?_
      exact hK145  _ h
    · have h := zifn h c
      refine zz_aload_n M 0 dX8_judge_50 rfl rfl ?_
      refine zz_getR M f_X8_82 tM_0 rfl dX8_judge_51 ?_
      refine zz_bipush (v := 40) M dX8_judge_54 (by decide) ?_
      refine zz_iload_n M 1 dX8_judge_56 rfl rfl ?_
      refine zz_imul M dX8_judge_57 ?_
      refine zz_iload_n M 3 dX8_judge_58 rfl rfl ?_
      refine zz_iadd M dX8_judge_59 ?_
      refine zz_iald M tM_20 h.1 dX8_judge_60 ?_
      have h := h.2
      refine zz_topi (fun x3 ex3 => ?_)
      have h := h x3 ex3
      refine zz_istore M [(4, .int x3), (0, .ref (ad 0)), (1, .int x1), (2, .int x2), (3, .int x3)] dX8_judge_61 (by decide) rfl ?_
      refine zz_iload M 0 dX8_judge_63 rfl ?_
      refine zz_i2l M dX8_judge_65 ?_
      refine zz_lconst (v := 0) M dX8_judge_66 (by decide) ?_
      refine zz_ldc2 (v := 2) M k_X8_104 dX8_judge_67 ?_
      refine zz_callSI (d' := 1) (As := [.long ((x3 : Int32).toInt64), .long 0, .long 2]) (rest := []) M l_X8_92 dX8_judge_70 rfl rfl (by decide) (Nat.le_of_ble_eq_true rfl) (by have hI := M.2.2.2.2.2.2.2.2; exact kX8_in hI _ _ _  _ _ h) (fun r4 σ5 h => ?_)
      refine zz_if_ne (y0 := 0) M 78 dX8_judge_73 (by decide) (fun c => ?_) (fun c => ?_)
      · have h := zifn h c
        refine zz_iload_n M 4 dX8_judge_78 rfl rfl ?_
        refine zz_if_le (y0 := 0) M 104 dX8_judge_79 (by decide) (fun c => ?_) (fun c => ?_)
        · have h := zif h c
          refine zz_iconst (v := 0) M dX8_judge_104 (by decide) ?_
          refine zz_istore M [(5, .int 0), (4, .int x3), (0, .ref (ad 0)), (1, .int x1), (2, .int x2), (3, .int x3)] dX8_judge_105 (by decide) rfl ?_
          refine zz_iload_n M 5 dX8_judge_107 rfl rfl ?_
          refine zz_if_le (y0 := 0) M 126 dX8_judge_108 (by decide) (fun c => ?_) (fun c => ?_)
          · have h := zif h c
            refine zz_iload M 0 dX8_judge_126 rfl ?_
            refine zz_if_eq (y0 := 0) M 137 dX8_judge_128 (by decide) (fun c => ?_) (fun c => absurd c (by decide))
            refine zz_iconst (v := 1) M dX8_judge_137 (by decide) ?_
            refine zz_istore_n M [(2, .int 1), (5, .int 0), (4, .int x3), (0, .ref (ad 0)), (1, .int x1), (3, .int x3)] dX8_judge_138 rfl (by decide) rfl ?_
            obtain ⟨x6, ex6⟩ : ∃ z : Int32, z = x3 + 1 := ⟨_, rfl⟩
            have h := h x6 ex6
            refine zz_iinc M [(3, .int x6), (2, .int 1), (5, .int 0), (4, .int x3), (0, .ref (ad 0)), (1, .int x1)] 5 dX8_judge_139 rfl (n32 := 1) (by decide) ex6 (by decide) rfl ?_
            refine zz_goto M 40 dX8_judge_142 (by decide) ?_
            refine zz_sub [(0, .ref (ad 0)), (1, .int x1), (2, .int 1), (3, .int x6)] [4, 5, 1, 0] rfl ?_
            exact ih _ _ _ h
          · have h := zifn h c
            refine zz_iload M 0 dX8_judge_111 rfl ?_
            refine zz_if_ne (y0 := 0) M 126 dX8_judge_113 (by decide) (fun c => absurd c (by decide)) (fun c => ?_)
            refine zz_iload_n M 4 dX8_judge_116 rfl rfl ?_
            refine zz_aload_n M 2 dX8_judge_117 rfl rfl ?_
            refine zz_getI M f_X8_32 tM_0 rfl dX8_judge_118 ?_
            refine zz_icmp_ge M 126 dX8_judge_121 (by decide) (fun c => ?_) (fun c => ?_)
            · have h := zif h c
              refine zz_iload M 0 dX8_judge_126 rfl ?_
              refine zz_if_eq (y0 := 0) M 137 dX8_judge_128 (by decide) (fun c => ?_) (fun c => absurd c (by decide))
              refine zz_iconst (v := 1) M dX8_judge_137 (by decide) ?_
              refine zz_istore_n M [(2, .int 1), (5, .int 0), (4, .int x3), (0, .ref (ad 0)), (1, .int x1), (3, .int x3)] dX8_judge_138 rfl (by decide) rfl ?_
              obtain ⟨x7, ex7⟩ : ∃ z : Int32, z = x3 + 1 := ⟨_, rfl⟩
              have h := h x7 ex7
              refine zz_iinc M [(3, .int x7), (2, .int 1), (5, .int 0), (4, .int x3), (0, .ref (ad 0)), (1, .int x1)] 5 dX8_judge_139 rfl (n32 := 1) (by decide) ex7 (by decide) rfl ?_
              refine zz_goto M 40 dX8_judge_142 (by decide) ?_
              refine zz_sub [(0, .ref (ad 0)), (1, .int x1), (2, .int 1), (3, .int x7)] [4, 5, 1, 0] rfl ?_
              exact ih _ _ _ h
            · have h := zifn h c
              refine zz_sub [(3, .int x3)] [5] rfl ?_
              exact hK124 _ _ h
        · have h := zifn h c
          refine zz_iload M 0 dX8_judge_82 rfl ?_
          refine zz_aload_n M 1 dX8_judge_84 rfl rfl ?_
          refine zz_getR M f_X8_82 tM_0 rfl dX8_judge_85 ?_
          refine zz_bipush (v := 40) M dX8_judge_88 (by decide) ?_
          refine zz_iload_n M 2 dX8_judge_90 rfl rfl ?_
          refine zz_imul M dX8_judge_91 ?_
          refine zz_iload_n M 4 dX8_judge_92 rfl rfl ?_
          refine zz_iadd M dX8_judge_93 ?_
          refine zz_iconst (v := 1) M dX8_judge_94 (by decide) ?_
          refine zz_isub M dX8_judge_95 ?_
          refine zz_iald M tM_20 h.1 dX8_judge_96 ?_
          have h := h.2
          refine zz_icmp_ne M 104 dX8_judge_97 (by decide) (fun c => ?_) (fun c => ?_)
          · have h := zifn h c
            refine zz_iconst (v := 0) M dX8_judge_104 (by decide) ?_
            refine zz_istore M [(5, .int 0), (4, .int x3), (0, .ref (ad 0)), (1, .int x1), (2, .int x2), (3, .int x3)] dX8_judge_105 (by decide) rfl ?_
            refine zz_iload_n M 5 dX8_judge_107 rfl rfl ?_
            refine zz_if_le (y0 := 0) M 126 dX8_judge_108 (by decide) (fun c => ?_) (fun c => ?_)
            · have h := zif h c
              refine zz_iload M 0 dX8_judge_126 rfl ?_
              refine zz_if_eq (y0 := 0) M 137 dX8_judge_128 (by decide) (fun c => ?_) (fun c => absurd c (by decide))
              refine zz_iconst (v := 1) M dX8_judge_137 (by decide) ?_
              refine zz_istore_n M [(2, .int 1), (5, .int 0), (4, .int x3), (0, .ref (ad 0)), (1, .int x1), (3, .int x3)] dX8_judge_138 rfl (by decide) rfl ?_
              obtain ⟨x8, ex8⟩ : ∃ z : Int32, z = x3 + 1 := ⟨_, rfl⟩
              have h := h x8 ex8
              refine zz_iinc M [(3, .int x8), (2, .int 1), (5, .int 0), (4, .int x3), (0, .ref (ad 0)), (1, .int x1)] 5 dX8_judge_139 rfl (n32 := 1) (by decide) ex8 (by decide) rfl ?_
              refine zz_goto M 40 dX8_judge_142 (by decide) ?_
              refine zz_sub [(0, .ref (ad 0)), (1, .int x1), (2, .int 1), (3, .int x8)] [4, 5, 1, 0] rfl ?_
              exact ih _ _ _ h
            · have h := zifn h c
              refine zz_iload M 0 dX8_judge_111 rfl ?_
              refine zz_if_ne (y0 := 0) M 126 dX8_judge_113 (by decide) (fun c => absurd c (by decide)) (fun c => ?_)
              refine zz_iload_n M 4 dX8_judge_116 rfl rfl ?_
              refine zz_aload_n M 2 dX8_judge_117 rfl rfl ?_
              refine zz_getI M f_X8_32 tM_0 rfl dX8_judge_118 ?_
              refine zz_icmp_ge M 126 dX8_judge_121 (by decide) (fun c => ?_) (fun c => ?_)
              · have h := zif h c
                refine zz_iload M 0 dX8_judge_126 rfl ?_
                refine zz_if_eq (y0 := 0) M 137 dX8_judge_128 (by decide) (fun c => ?_) (fun c => absurd c (by decide))
                refine zz_iconst (v := 1) M dX8_judge_137 (by decide) ?_
                refine zz_istore_n M [(2, .int 1), (5, .int 0), (4, .int x3), (0, .ref (ad 0)), (1, .int x1), (3, .int x3)] dX8_judge_138 rfl (by decide) rfl ?_
                obtain ⟨x9, ex9⟩ : ∃ z : Int32, z = x3 + 1 := ⟨_, rfl⟩
                have h := h x9 ex9
                refine zz_iinc M [(3, .int x9), (2, .int 1), (5, .int 0), (4, .int x3), (0, .ref (ad 0)), (1, .int x1)] 5 dX8_judge_139 rfl (n32 := 1) (by decide) ex9 (by decide) rfl ?_
                refine zz_goto M 40 dX8_judge_142 (by decide) ?_
                refine zz_sub [(0, .ref (ad 0)), (1, .int x1), (2, .int 1), (3, .int x9)] [4, 5, 1, 0] rfl ?_
                exact ih _ _ _ h
              · have h := zifn h c
                refine zz_sub [(3, .int x3)] [5] rfl ?_
                exact hK124 _ _ h
          · have h := zif h c
            refine zz_iconst (v := 1) M dX8_judge_100 (by decide) ?_
            refine zz_goto M 105 dX8_judge_101 (by decide) ?_
            refine zz_istore M [(5, .int 1), (4, .int x3), (0, .ref (ad 0)), (1, .int x1), (2, .int x2), (3, .int x3)] dX8_judge_105 (by decide) rfl ?_
            refine zz_iload_n M 5 dX8_judge_107 rfl rfl ?_
            refine zz_if_le (y0 := 0) M 126 dX8_judge_108 (by decide) (fun c => ?_) (fun c => ?_)
            · have h := zif h c
              refine zz_iload M 0 dX8_judge_126 rfl ?_
              refine zz_if_eq (y0 := 0) M 137 dX8_judge_128 (by decide) (fun c => absurd c (by decide)) (fun c => ?_)
              refine zz_iload_n M 4 dX8_judge_131 rfl rfl ?_
              refine zz_iconst (v := 1) M dX8_judge_132 (by decide) ?_
              refine zz_iadd M dX8_judge_133 ?_
              refine zz_goto M 138 dX8_judge_134 (by decide) ?_
              refine zz_topi (fun x10 ex10 => ?_)
              have h := h x10 ex10
              refine zz_istore_n M [(2, .int x10), (5, .int 1), (4, .int x3), (0, .ref (ad 0)), (1, .int x1), (3, .int x3)] dX8_judge_138 rfl (by decide) rfl ?_
              obtain ⟨x11, ex11⟩ : ∃ z : Int32, z = x3 + 1 := ⟨_, rfl⟩
              have h := h x11 ex11
              refine zz_iinc M [(3, .int x11), (2, .int x10), (5, .int 1), (4, .int x3), (0, .ref (ad 0)), (1, .int x1)] 5 dX8_judge_139 rfl (n32 := 1) (by decide) ex11 (by decide) rfl ?_
              refine zz_goto M 40 dX8_judge_142 (by decide) ?_
              refine zz_sub [(0, .ref (ad 0)), (1, .int x1), (2, .int x10), (3, .int x11)] [4, 5, 1, 0] rfl ?_
              exact ih _ _ _ h
            · have h := zifn h c
              refine zz_iload M 0 dX8_judge_111 rfl ?_
              refine zz_if_ne (y0 := 0) M 126 dX8_judge_113 (by decide) (fun c => ?_) (fun c => absurd c (by decide))
              refine zz_iload M 0 dX8_judge_126 rfl ?_
              refine zz_if_eq (y0 := 0) M 137 dX8_judge_128 (by decide) (fun c => absurd c (by decide)) (fun c => ?_)
              refine zz_iload_n M 4 dX8_judge_131 rfl rfl ?_
              refine zz_iconst (v := 1) M dX8_judge_132 (by decide) ?_
              refine zz_iadd M dX8_judge_133 ?_
              refine zz_goto M 138 dX8_judge_134 (by decide) ?_
              refine zz_topi (fun x12 ex12 => ?_)
              have h := h x12 ex12
              refine zz_istore_n M [(2, .int x12), (5, .int 1), (4, .int x3), (0, .ref (ad 0)), (1, .int x1), (3, .int x3)] dX8_judge_138 rfl (by decide) rfl ?_
              obtain ⟨x13, ex13⟩ : ∃ z : Int32, z = x3 + 1 := ⟨_, rfl⟩
              have h := h x13 ex13
              refine zz_iinc M [(3, .int x13), (2, .int x12), (5, .int 1), (4, .int x3), (0, .ref (ad 0)), (1, .int x1)] 5 dX8_judge_139 rfl (n32 := 1) (by decide) ex13 (by decide) rfl ?_
              refine zz_goto M 40 dX8_judge_142 (by decide) ?_
              refine zz_sub [(0, .ref (ad 0)), (1, .int x1), (2, .int x12), (3, .int x13)] [4, 5, 1, 0] rfl ?_
              exact ih _ _ _ h
      · have h := zif h c
        refine zz_sub [(3, .int x3)] [4] rfl ?_
        exact hK76 _ _ h
def wX8_judge (x1 : Int32) (σ : zSt) (Q : Int32 → zSt → Prop) : Prop := wX8_isSheet x1 σ (fun r1 σ2 => if r1 = 0 then (Q (-2) σ2) else (vp_in x1 4 ∧ (if (σ2.1 17 x1.toNatClampNeg) = 0 then (Q (-11) σ2) else (vp_in x1 4 ∧ (if (σ2.1 19 x1.toNatClampNeg) ≤ 24 then (wX8_judge_L40 Q (fun v14 σ15 => Q v14 σ15) (fun v16 σ17 => Q v16 σ17) (fun  σ18 => Q (-1) σ18) x1 300 0 0 σ2) else (Q (-2) σ2))))))
set_option maxRecDepth 20000 in
set_option maxHeartbeats 4000000 in
theorem kX8_judge (hI : zInj tabM ad) (x1 : Int32)  (σ : zSt) (Q : Int32 → zSt → Prop) (h : wX8_judge x1 σ Q) : zOkI l tabM D cA ad y 3 yX8_judge cX8_judge 6 (some .int) [.ref (ad 0), .int x1] σ Q := by
  refine zz_enter hI (by decide) (Nat.le_of_ble_eq_true rfl) (fun p e s m below meth c M => ?_)
  have M : zM p s m _ meth c cX8_judge 6 RX8 (some .int) tabM D cA ad y := M
  refine zz_ls [(0, .ref (ad 0)), (1, .int x1)] rfl ?_
  unfold wX8_judge at h
  refine zz_iload_n M 1 dX8_judge_0 rfl rfl ?_
  refine zz_callSI (d' := 2) (As := [.int x1]) (rest := []) M l_X8_431 dX8_judge_1 rfl rfl (by decide) (Nat.le_of_ble_eq_true rfl) (by have hI := M.2.2.2.2.2.2.2.2; exact kX8_isSheet hI _  _ _ h) (fun r1 σ2 h => ?_)
  refine zz_if_ne (y0 := 0) M 10 dX8_judge_4 (by decide) (fun c => ?_) (fun c => ?_)
  · have h := zifn h c
    refine zz_aload_n M 0 dX8_judge_10 rfl rfl ?_
    refine zz_getR M f_X8_72 tM_0 rfl dX8_judge_11 ?_
    refine zz_iload_n M 1 dX8_judge_14 rfl rfl ?_
    refine zz_zald M tM_17 h.1 dX8_judge_15 ?_
    have h := h.2
    refine zz_if_ne (y0 := 0) M 22 dX8_judge_16 (by decide) (fun c => ?_) (fun c => ?_)
    · have h := zifn h c
      refine zz_aload_n M 0 dX8_judge_22 rfl rfl ?_
      refine zz_getR M f_X8_79 tM_0 rfl dX8_judge_23 ?_
      refine zz_iload_n M 1 dX8_judge_26 rfl rfl ?_
      refine zz_iald M tM_19 h.1 dX8_judge_27 ?_
      have h := h.2
      refine zz_bipush (v := 24) M dX8_judge_28 (by decide) ?_
      refine zz_icmp_le M 36 dX8_judge_30 (by decide) (fun c => ?_) (fun c => ?_)
      · have h := zif h c
        refine zz_iconst (v := 0) M dX8_judge_36 (by decide) ?_
        refine zz_istore_n M [(2, .int 0), (0, .ref (ad 0)), (1, .int x1)] dX8_judge_37 rfl (by decide) rfl ?_
        refine zz_iconst (v := 0) M dX8_judge_38 (by decide) ?_
        refine zz_istore_n M [(3, .int 0), (2, .int 0), (0, .ref (ad 0)), (1, .int x1)] dX8_judge_39 rfl (by decide) rfl ?_
        refine zz_sub [(0, .ref (ad 0)), (1, .int x1), (2, .int 0), (3, .int 0)] [2, 3, 1, 0] rfl ?_
        refine sX8_judge_L40 x1  M (fun v14 σ15 h => ?_) (fun v16 σ17 h => ?_) (fun  σ18 h => ?_) 300 _ _ _ h
        · refine zz_iload_n M 0 dX8_judge_76 rfl rfl ?_
          exact zz_iret M dX8_judge_77 h
        · refine zz_iload_n M 0 dX8_judge_124 rfl rfl ?_
          exact zz_iret M dX8_judge_125 h
        · refine zz_iconst (v := (-1)) M dX8_judge_145 (by decide) ?_
          exact zz_iret M dX8_judge_146 h
      · have h := zifn h c
        refine zz_bipush (v := (-2)) M dX8_judge_33 (by decide) ?_
        exact zz_iret M dX8_judge_35 h
    · have h := zif h c
      refine zz_bipush (v := (-11)) M dX8_judge_19 (by decide) ?_
      exact zz_iret M dX8_judge_21 h
  · have h := zif h c
    refine zz_bipush (v := (-2)) M dX8_judge_7 (by decide) ?_
    exact zz_iret M dX8_judge_9 h
end
