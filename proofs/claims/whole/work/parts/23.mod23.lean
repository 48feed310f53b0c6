section
variable {p : Program} {l : Launch} {e : Env} {s : State} {m : MethodId} {args : Array Value} {below : List Frame} {meth : Method} {c : Code} {D : va_G} {cA : Nat → ClassId} {ad : Nat → Nat} {y : zX}
def wX8_master (x1 : Int32) (x2 : Int32) (σ : zSt) (Q : Int32 → zSt → Prop) : Prop := wX8_in ((x1 : Int32).toInt64) 0 5 σ (fun r1 σ2 => if r1 = 0 then (Q (-2) σ2) else (wX8_in ((x2 : Int32).toInt64) 0 9 σ2 (fun r3 σ4 => if r3 = 0 then (Q (-2) σ4) else (if (σ4.1 0 16) = 4 then (Q (-4) σ4) else (vp_in (σ4.1 0 16) 4 ∧ (∀ σ5 : zSt, σ5 = zput σ4 7 (σ4.1 0 16 : Int32).toNatClampNeg x1 → (vp_in (σ5.1 0 16) 4 ∧ (∀ σ6 : zSt, σ6 = zput σ5 8 (σ5.1 0 16 : Int32).toNatClampNeg x2 → (∀ σ7 : zSt, σ7 = zput σ6 0 16 ((σ6.1 0 16) + 1) → (Q ((σ7.1 0 16) - 1) σ7))))))))))
set_option maxRecDepth 20000 in
set_option maxHeartbeats 4000000 in
theorem kX8_master (hI : zInj tabM ad) (x1 : Int32) (x2 : Int32)  (σ : zSt) (Q : Int32 → zSt → Prop) (h : wX8_master x1 x2 σ Q) : zOkI l tabM D cA ad y 2 yX8_master cX8_master 3 (some .int) [.ref (ad 0), .int x1, .int x2] σ Q := by
  refine zz_enter hI (by decide) (Nat.le_of_ble_eq_true rfl) (fun p e s m below meth c M => ?_)
  have M : zM p s m _ meth c cX8_master 3 RX8 (some .int) tabM D cA ad y := M
  refine zz_ls [(0, .ref (ad 0)), (1, .int x1), (2, .int x2)] rfl ?_
  unfold wX8_master at h
  refine zz_iload_n M 1 dX8_master_0 rfl rfl ?_
  refine zz_i2l M dX8_master_1 ?_
  refine zz_lconst (v := 0) M dX8_master_2 (by decide) ?_
  refine zz_ldc2 (v := 5) M k_X8_119 dX8_master_3 ?_
  refine zz_callSI (d' := 1) (As := [.long ((x1 : Int32).toInt64), .long 0, .long 5]) (rest := []) M l_X8_92 dX8_master_6 rfl rfl (by decide) (Nat.le_of_ble_eq_true rfl) (by have hI := M.2.2.2.2.2.2.2.2; exact kX8_in hI _ _ _  _ _ h) (fun r1 σ2 h => ?_)
  refine zz_if_eq (y0 := 0) M 24 dX8_master_9 (by decide) (fun c => ?_) (fun c => ?_)
  · have h := zif h c
    refine zz_bipush (v := (-2)) M dX8_master_24 (by decide) ?_
    exact zz_iret M dX8_master_26 h
  · have h := zifn h c
    refine zz_iload_n M 2 dX8_master_12 rfl rfl ?_
    refine zz_i2l M dX8_master_13 ?_
    refine zz_lconst (v := 0) M dX8_master_14 (by decide) ?_
    refine zz_ldc2 (v := 9) M k_X8_106 dX8_master_15 ?_
    refine zz_callSI (d' := 1) (As := [.long ((x2 : Int32).toInt64), .long 0, .long 9]) (rest := []) M l_X8_92 dX8_master_18 rfl rfl (by decide) (Nat.le_of_ble_eq_true rfl) (by have hI := M.2.2.2.2.2.2.2.2; exact kX8_in hI _ _ _  _ _ h) (fun r3 σ4 h => ?_)
    refine zz_if_ne (y0 := 0) M 27 dX8_master_21 (by decide) (fun c => ?_) (fun c => ?_)
    · have h := zifn h c
      refine zz_aload_n M 0 dX8_master_27 rfl rfl ?_
      refine zz_getI M f_X8_114 tM_0 rfl dX8_master_28 ?_
      refine zz_iconst (v := 4) M dX8_master_31 (by decide) ?_
      refine zz_icmp_ne M 38 dX8_master_32 (by decide) (fun c => ?_) (fun c => ?_)
      · have h := zifn h c
        refine zz_aload_n M 0 dX8_master_38 rfl rfl ?_
        refine zz_getR M f_X8_38 tM_0 rfl dX8_master_39 ?_
        refine zz_aload_n M 0 dX8_master_42 rfl rfl ?_
        refine zz_getI M f_X8_114 tM_0 rfl dX8_master_43 ?_
        refine zz_iload_n M 1 dX8_master_46 rfl rfl ?_
        refine zz_iast M tM_7 h.1 dX8_master_47 ?_
        have h := h.2
        refine zz_sg (fun σ5 eσ5 => ?_)
        have h := h σ5 eσ5
        refine zz_aload_n M 0 dX8_master_48 rfl rfl ?_
        refine zz_getR M f_X8_41 tM_0 rfl dX8_master_49 ?_
        refine zz_aload_n M 0 dX8_master_52 rfl rfl ?_
        refine zz_getI M f_X8_114 tM_0 rfl dX8_master_53 ?_
        refine zz_iload_n M 2 dX8_master_56 rfl rfl ?_
        refine zz_iast M tM_8 h.1 dX8_master_57 ?_
        have h := h.2
        refine zz_sg (fun σ6 eσ6 => ?_)
        have h := h σ6 eσ6
        refine zz_aload_n M 0 dX8_master_58 rfl rfl ?_
        refine zz_dup M dX8_master_59 rfl ?_
        refine zz_getI M f_X8_114 tM_0 rfl dX8_master_60 ?_
        refine zz_iconst (v := 1) M dX8_master_63 (by decide) ?_
        refine zz_iadd M dX8_master_64 ?_
        refine zz_putI M f_X8_114 tM_0 rfl dX8_master_65 ?_
        refine zz_sg (fun σ7 eσ7 => ?_)
        have h := h σ7 eσ7
        refine zz_aload_n M 0 dX8_master_68 rfl rfl ?_
        refine zz_getI M f_X8_114 tM_0 rfl dX8_master_69 ?_
        refine zz_iconst (v := 1) M dX8_master_72 (by decide) ?_
        refine zz_isub M dX8_master_73 ?_
        exact zz_iret M dX8_master_74 h
      · have h := zif h c
        refine zz_bipush (v := (-4)) M dX8_master_35 (by decide) ?_
        exact zz_iret M dX8_master_37 h
    · have h := zif h c
      refine zz_bipush (v := (-2)) M dX8_master_24 (by decide) ?_
      exact zz_iret M dX8_master_26 h
def wX8_feed (x1 : Int32) (σ : zSt) (Q : Int32 → zSt → Prop) : Prop := wX8_in ((x1 : Int32).toInt64) 0 255 σ (fun r1 σ2 => if r1 = 0 then (Q (-2) σ2) else (if (σ2.1 0 6) = 160 then (Q (-4) σ2) else (vp_in (σ2.1 0 6) 160 ∧ (∀ σ3 : zSt, σ3 = zput σ2 3 (σ2.1 0 6 : Int32).toNatClampNeg x1 → (∀ σ4 : zSt, σ4 = zput σ3 0 6 ((σ3.1 0 6) + 1) → (Q (σ4.1 0 6) σ4))))))
set_option maxRecDepth 20000 in
set_option maxHeartbeats 4000000 in
theorem kX8_feed (hI : zInj tabM ad) (x1 : Int32)  (σ : zSt) (Q : Int32 → zSt → Prop) (h : wX8_feed x1 σ Q) : zOkI l tabM D cA ad y 2 yX8_feed cX8_feed 2 (some .int) [.ref (ad 0), .int x1] σ Q := by
  refine zz_enter hI (by decide) (Nat.le_of_ble_eq_true rfl) (fun p e s m below meth c M => ?_)
  have M : zM p s m _ meth c cX8_feed 2 RX8 (some .int) tabM D cA ad y := M
  refine zz_ls [(0, .ref (ad 0)), (1, .int x1)] rfl ?_
  unfold wX8_feed at h
  refine zz_iload_n M 1 dX8_feed_0 rfl rfl ?_
  refine zz_i2l M dX8_feed_1 ?_
  refine zz_lconst (v := 0) M dX8_feed_2 (by decide) ?_
  refine zz_ldc2 (v := 255) M k_X8_121 dX8_feed_3 ?_
  refine zz_callSI (d' := 1) (As := [.long ((x1 : Int32).toInt64), .long 0, .long 255]) (rest := []) M l_X8_92 dX8_feed_6 rfl rfl (by decide) (Nat.le_of_ble_eq_true rfl) (by have hI := M.2.2.2.2.2.2.2.2; exact kX8_in hI _ _ _  _ _ h) (fun r1 σ2 h => ?_)
  refine zz_if_ne (y0 := 0) M 15 dX8_feed_9 (by decide) (fun c => ?_) (fun c => ?_)
  · have h := zifn h c
    refine zz_aload_n M 0 dX8_feed_15 rfl rfl ?_
    refine zz_getI M f_X8_123 tM_0 rfl dX8_feed_16 ?_
    refine zz_sipush (v := 160) M dX8_feed_19 (by decide) ?_
    refine zz_icmp_ne M 28 dX8_feed_22 (by decide) (fun c => ?_) (fun c => ?_)
    · have h := zifn h c
      refine zz_aload_n M 0 dX8_feed_28 rfl rfl ?_
      refine zz_getR M f_X8_20 tM_0 rfl dX8_feed_29 ?_
      refine zz_aload_n M 0 dX8_feed_32 rfl rfl ?_
      refine zz_getI M f_X8_123 tM_0 rfl dX8_feed_33 ?_
      refine zz_iload_n M 1 dX8_feed_36 rfl rfl ?_
      refine zz_iast M tM_3 h.1 dX8_feed_37 ?_
      have h := h.2
      refine zz_sg (fun σ3 eσ3 => ?_)
      have h := h σ3 eσ3
      refine zz_aload_n M 0 dX8_feed_38 rfl rfl ?_
      refine zz_dup M dX8_feed_39 rfl ?_
      refine zz_getI M f_X8_123 tM_0 rfl dX8_feed_40 ?_
      refine zz_iconst (v := 1) M dX8_feed_43 (by decide) ?_
      refine zz_iadd M dX8_feed_44 ?_
      refine zz_putI M f_X8_123 tM_0 rfl dX8_feed_45 ?_
      refine zz_sg (fun σ4 eσ4 => ?_)
      have h := h σ4 eσ4
      refine zz_aload_n M 0 dX8_feed_48 rfl rfl ?_
      refine zz_getI M f_X8_123 tM_0 rfl dX8_feed_49 ?_
      exact zz_iret M dX8_feed_52 h
    · have h := zif h c
      refine zz_bipush (v := (-4)) M dX8_feed_25 (by decide) ?_
      exact zz_iret M dX8_feed_27 h
  · have h := zif h c
    refine zz_bipush (v := (-2)) M dX8_feed_12 (by decide) ?_
    exact zz_iret M dX8_feed_14 h
def wX8_byteAt (x1 : Int32) (σ : zSt) (Q : Int32 → zSt → Prop) : Prop := if (σ.1 0 25) ≤ x1 then (Q (-1) σ) else (vp_in ((σ.1 0 24) + x1) 960 ∧ (Q (σ.1 1 ((σ.1 0 24) + x1 : Int32).toNatClampNeg) σ))
set_option maxRecDepth 20000 in
set_option maxHeartbeats 4000000 in
theorem kX8_byteAt (hI : zInj tabM ad) (x1 : Int32)  (σ : zSt) (Q : Int32 → zSt → Prop) (h : wX8_byteAt x1 σ Q) : zOkI l tabM D cA ad y 1 yX8_byteAt cX8_byteAt 2 (some .int) [.ref (ad 0), .int x1] σ Q := by
  refine zz_enter hI (by decide) (Nat.le_of_ble_eq_true rfl) (fun p e s m below meth c M => ?_)
  have M : zM p s m _ meth c cX8_byteAt 2 RX8 (some .int) tabM D cA ad y := M
  refine zz_ls [(0, .ref (ad 0)), (1, .int x1)] rfl ?_
  unfold wX8_byteAt at h
  refine zz_iload_n M 1 dX8_byteAt_0 rfl rfl ?_
  refine zz_aload_n M 0 dX8_byteAt_1 rfl rfl ?_
  refine zz_getI M f_X8_126 tM_0 rfl dX8_byteAt_2 ?_
  refine zz_icmp_ge M 22 dX8_byteAt_5 (by decide) (fun c => ?_) (fun c => ?_)
  · have h := zif h c
    refine zz_iconst (v := (-1)) M dX8_byteAt_22 (by decide) ?_
    exact zz_iret M dX8_byteAt_23 h
  · have h := zifn h c
    refine zz_aload_n M 0 dX8_byteAt_8 rfl rfl ?_
    refine zz_getR M f_X8_13 tM_0 rfl dX8_byteAt_9 ?_
    refine zz_aload_n M 0 dX8_byteAt_12 rfl rfl ?_
    refine zz_getI M f_X8_129 tM_0 rfl dX8_byteAt_13 ?_
    refine zz_iload_n M 1 dX8_byteAt_16 rfl rfl ?_
    refine zz_iadd M dX8_byteAt_17 ?_
    refine zz_iald M tM_1 h.1 dX8_byteAt_18 ?_
    have h := h.2
    refine zz_goto M 23 dX8_byteAt_19 (by decide) ?_
    exact zz_iret M dX8_byteAt_23 h
def wX8_next_L0 (Q : zSt → Prop) (K39 : zSt → Prop)  : Nat → zSt → Prop
  | 0, _ => False
  | n + 1, σ => wX8_byteAt (σ.1 0 26) σ (fun r1 σ2 => if r1 = 32 then (∀ σ3 : zSt, σ3 = zput σ2 0 26 ((σ2.1 0 26) + 1) → (wX8_next_L0 Q K39  n  σ3)) else (wX8_byteAt (σ2.1 0 26) σ2 (fun r4 σ5 => if r4 = 10 then (∀ σ6 : zSt, σ6 = zput σ5 0 26 ((σ5.1 0 26) + 1) → (wX8_next_L0 Q K39  n  σ6)) else (K39  σ5))))
set_option maxRecDepth 20000 in
set_option maxHeartbeats 4000000 in
theorem sX8_next_L0 {Q : zSt → Prop} {K39 : zSt → Prop}   (M : zM p s m args meth c cX8_next 3 RX8 none tabM D cA ad y) (hK39 : ∀ (σ : zSt), K39  σ → zG p l e (zrm 2) s m args below meth c 3 tabM D cA ad (MQ below (va_Qv Q (fun σ' t => va_P D vwCl (zws tabM cA ad σ') t.heap) (zIn tabM ad)) args s 0 0 (zIn tabM ad)) 39 [(0, .ref (ad 0))] [] σ) : ∀ (n : Nat) (σ : zSt), wX8_next_L0 Q K39  n  σ → zG p l e (zrm 2) s m args below meth c 3 tabM D cA ad (MQ below (va_Qv Q (fun σ' t => va_P D vwCl (zws tabM cA ad σ') t.heap) (zIn tabM ad)) args s 0 0 (zIn tabM ad)) 0 [(0, .ref (ad 0))] [] σ := by
  intro n
  induction n with
  | zero => intro  σ h; exact absurd h (by simp [wX8_next_L0])
  | succ n ih =>
    intro  σ h
    unfold wX8_next_L0 at h
    refine zz_aload_n M 0 dX8_next_0 rfl rfl ?_
    refine zz_aload_n M 0 dX8_next_1 rfl rfl ?_
    refine zz_getI M f_X8_132 tM_0 rfl dX8_next_2 ?_
    refine zz_callVI (d' := 1) (As := [.int (σ.1 0 26)]) (rest := []) M l_X8_135 tM_0 rfl rfl dX8_next_5 rfl rfl (by decide) (Nat.le_of_ble_eq_true rfl) (by have hI := M.2.2.2.2.2.2.2.2; exact kX8_byteAt hI _  _ _ h) (fun r1 σ2 h => ?_)
    refine zz_bipush (v := 32) M dX8_next_8 (by decide) ?_
    refine zz_icmp_eq M 26 dX8_next_10 (by decide) (fun c => ?_) (fun c => ?_)
    · have h := zif h c
      refine zz_aload_n M 0 dX8_next_26 rfl rfl ?_
      refine zz_dup M dX8_next_27 rfl ?_
      refine zz_getI M f_X8_132 tM_0 rfl dX8_next_28 ?_
      refine zz_iconst (v := 1) M dX8_next_31 (by decide) ?_
      refine zz_iadd M dX8_next_32 ?_
      refine zz_putI M f_X8_132 tM_0 rfl dX8_next_33 ?_
      refine zz_sg (fun σ3 eσ3 => ?_)
      have h := h σ3 eσ3
      refine zz_goto M 0 dX8_next_36 (by decide) ?_
      exact ih  _ h
    · have h := zifn h c
      refine zz_aload_n M 0 dX8_next_13 rfl rfl ?_
      refine zz_aload_n M 0 dX8_next_14 rfl rfl ?_
      refine zz_getI M f_X8_132 tM_0 rfl dX8_next_15 ?_
      refine zz_callVI (d' := 1) (As := [.int (σ2.1 0 26)]) (rest := []) M l_X8_135 tM_0 rfl rfl dX8_next_18 rfl rfl (by decide) (Nat.le_of_ble_eq_true rfl) (by have hI := M.2.2.2.2.2.2.2.2; exact kX8_byteAt hI _  _ _ h) (fun r4 σ5 h => ?_)
      refine zz_bipush (v := 10) M dX8_next_21 (by decide) ?_
      refine zz_icmp_ne M 39 dX8_next_23 (by decide) (fun c => ?_) (fun c => ?_)
      · have h := zifn h c
        exact hK39  _ h
      · have h := zif h c
        refine zz_aload_n M 0 dX8_next_26 rfl rfl ?_
        refine zz_dup M dX8_next_27 rfl ?_
        refine zz_getI M f_X8_132 tM_0 rfl dX8_next_28 ?_
        refine zz_iconst (v := 1) M dX8_next_31 (by decide) ?_
        refine zz_iadd M dX8_next_32 ?_
        refine zz_putI M f_X8_132 tM_0 rfl dX8_next_33 ?_
        refine zz_sg (fun σ6 eσ6 => ?_)
        have h := h σ6 eσ6
        refine zz_goto M 0 dX8_next_36 (by decide) ?_
        exact ih  _ h
def wX8_next_L160 (Q : zSt → Prop) (K235 : Int32 → zSt → Prop)  : Nat → Int32 → zSt → Prop
  | 0, _, _ => False
  | n + 1, x2, σ => wX8_byteAt (σ.1 0 26) σ (fun r42 σ43 => wX8_in ((r42 : Int32).toInt64) 48 57 σ43 (fun r44 σ45 => if r44 = 0 then (K235 x2 σ45) else (if 4 ≤ x2 then (∀ σ46 : zSt, σ46 = zputL σ45 (σ45.2) → (∀ x47 : Int32, x47 = x2 + 1 → (∀ σ48 : zSt, σ48 = zput σ46 0 26 ((σ46.1 0 26) + 1) → (wX8_next_L160 Q K235  n x47 σ48)))) else (wX8_byteAt (σ45.1 0 26) σ45 (fun r49 σ50 => ∀ σ51 : zSt, σ51 = zputL σ50 (((10 * (σ45.2)) + ((r49 : Int32).toInt64)) - 48) → (∀ x52 : Int32, x52 = x2 + 1 → (∀ σ53 : zSt, σ53 = zput σ51 0 26 ((σ51.1 0 26) + 1) → (wX8_next_L160 Q K235  n x52 σ53))))))))
set_option maxRecDepth 20000 in
set_option maxHeartbeats 4000000 in
theorem sX8_next_L160 {Q : zSt → Prop} {K235 : Int32 → zSt → Prop}   (M : zM p s m args meth c cX8_next 3 RX8 none tabM D cA ad y) (hK235 : ∀ (v2 : Int32) (σ : zSt), K235 v2 σ → zG p l e (zrm 2) s m args below meth c 3 tabM D cA ad (MQ below (va_Qv Q (fun σ' t => va_P D vwCl (zws tabM cA ad σ') t.heap) (zIn tabM ad)) args s 0 0 (zIn tabM ad)) 235 [(0, .ref (ad 0)), (2, .int v2)] [] σ) : ∀ (n : Nat) (x2 : Int32) (σ : zSt), wX8_next_L160 Q K235  n x2 σ → zG p l e (zrm 2) s m args below meth c 3 tabM D cA ad (MQ below (va_Qv Q (fun σ' t => va_P D vwCl (zws tabM cA ad σ') t.heap) (zIn tabM ad)) args s 0 0 (zIn tabM ad)) 160 [(0, .ref (ad 0)), (2, .int x2)] [] σ := by
  intro n
  induction n with
  | zero => intro x2 σ h; exact absurd h (by simp [wX8_next_L160])
  | succ n ih =>
    intro x2 σ h
    unfold wX8_next_L160 at h
    refine zz_aload_n M 0 dX8_next_160 rfl rfl ?_
    refine zz_aload_n M 0 dX8_next_161 rfl rfl ?_
    refine zz_getI M f_X8_132 tM_0 rfl dX8_next_162 ?_
    refine zz_callVI (d' := 1) (As := [.int (σ.1 0 26)]) (rest := []) M l_X8_135 tM_0 rfl rfl dX8_next_165 rfl rfl (by decide) (Nat.le_of_ble_eq_true rfl) (by have hI := M.2.2.2.2.2.2.2.2; exact kX8_byteAt hI _  _ _ h) (fun r42 σ43 h => ?_)
    refine zz_i2l M dX8_next_168 ?_
    refine zz_ldc2 (v := 48) M k_X8_149 dX8_next_169 ?_
    refine zz_ldc2 (v := 57) M k_X8_151 dX8_next_172 ?_
    refine zz_callSI (d' := 1) (As := [.long ((r42 : Int32).toInt64), .long 48, .long 57]) (rest := []) M l_X8_92 dX8_next_175 rfl rfl (by decide) (Nat.le_of_ble_eq_true rfl) (by have hI := M.2.2.2.2.2.2.2.2; exact kX8_in hI _ _ _  _ _ h) (fun r44 σ45 h => ?_)
    refine zz_if_eq (y0 := 0) M 235 dX8_next_178 (by decide) (fun c => ?_) (fun c => ?_)
    · have h := zif h c
      exact hK235 _ _ h
    · have h := zifn h c
      refine zz_aload_n M 0 dX8_next_181 rfl rfl ?_
      refine zz_iload_n M 1 dX8_next_182 rfl rfl ?_
      refine zz_iconst (v := 4) M dX8_next_183 (by decide) ?_
      refine zz_icmp_ge M 212 dX8_next_184 (by decide) (fun c => ?_) (fun c => ?_)
      · have h := zif h c
        refine zz_aload_n M 0 dX8_next_212 rfl rfl ?_
        refine zz_getL M f_X8_153 tM_0 rfl dX8_next_213 ?_
        refine zz_putL M f_X8_153 tM_0 rfl zputL_u zputL_v dX8_next_216 ?_
        refine zz_sg (fun σ46 eσ46 => ?_)
        have h := h σ46 eσ46
        obtain ⟨x47, ex47⟩ : ∃ z : Int32, z = x2 + 1 := ⟨_, rfl⟩
        have h := h x47 ex47
        refine zz_iinc M [(2, .int x47), (0, .ref (ad 0))] 1 dX8_next_219 rfl (n32 := 1) (by decide) ex47 (by decide) rfl ?_
        refine zz_aload_n M 1 dX8_next_222 rfl rfl ?_
        refine zz_dup M dX8_next_223 rfl ?_
        refine zz_getI M f_X8_132 tM_0 rfl dX8_next_224 ?_
        refine zz_iconst (v := 1) M dX8_next_227 (by decide) ?_
        refine zz_iadd M dX8_next_228 ?_
        refine zz_putI M f_X8_132 tM_0 rfl dX8_next_229 ?_
        refine zz_sg (fun σ48 eσ48 => ?_)
        have h := h σ48 eσ48
        refine zz_goto M 160 dX8_next_232 (by decide) ?_
        refine zz_sub [(0, .ref (ad 0)), (2, .int x47)] [1, 0] rfl ?_
        exact ih _ _ h
      · have h := zifn h c
        refine zz_ldc2 (v := 10) M k_X8_157 dX8_next_187 ?_
        refine zz_aload_n M 0 dX8_next_190 rfl rfl ?_
        refine zz_getL M f_X8_153 tM_0 rfl dX8_next_191 ?_
        refine zz_lmul M dX8_next_194 ?_
        refine zz_aload_n M 0 dX8_next_195 rfl rfl ?_
        refine zz_aload_n M 0 dX8_next_196 rfl rfl ?_
        refine zz_getI M f_X8_132 tM_0 rfl dX8_next_197 ?_
        refine zz_callVI (d' := 1) (As := [.int (σ45.1 0 26)]) (rest := [.long (10 * (σ45.2)), .ref (ad 0)]) M l_X8_135 tM_0 rfl rfl dX8_next_200 rfl rfl (by decide) (Nat.le_of_ble_eq_true rfl) (by have hI := M.2.2.2.2.2.2.2.2; exact kX8_byteAt hI _  _ _ h) (fun r49 σ50 h => ?_)
        refine zz_i2l M dX8_next_203 ?_
        refine zz_ladd M dX8_next_204 ?_
        refine zz_ldc2 (v := 48) M k_X8_149 dX8_next_205 ?_
        refine zz_lsub M dX8_next_208 ?_
        refine zz_goto M 216 dX8_next_209 (by decide) ?_
        refine zz_putL M f_X8_153 tM_0 rfl zputL_u zputL_v dX8_next_216 ?_
        refine zz_sg (fun σ51 eσ51 => ?_)
        have h := h σ51 eσ51
        obtain ⟨x52, ex52⟩ : ∃ z : Int32, z = x2 + 1 := ⟨_, rfl⟩
        have h := h x52 ex52
        refine zz_iinc M [(2, .int x52), (0, .ref (ad 0))] 1 dX8_next_219 rfl (n32 := 1) (by decide) ex52 (by decide) rfl ?_
        refine zz_aload_n M 1 dX8_next_222 rfl rfl ?_
        refine zz_dup M dX8_next_223 rfl ?_
        refine zz_getI M f_X8_132 tM_0 rfl dX8_next_224 ?_
        refine zz_iconst (v := 1) M dX8_next_227 (by decide) ?_
        refine zz_iadd M dX8_next_228 ?_
        refine zz_putI M f_X8_132 tM_0 rfl dX8_next_229 ?_
        refine zz_sg (fun σ53 eσ53 => ?_)
        have h := h σ53 eσ53
        refine zz_goto M 160 dX8_next_232 (by decide) ?_
        refine zz_sub [(0, .ref (ad 0)), (2, .int x52)] [1, 0] rfl ?_
        exact ih _ _ h
def wX8_next_L100 (Q : zSt → Prop) (K321 : zSt → Prop)  : Nat → zSt → Prop
  | 0, _ => False
  | n + 1, σ => wX8_byteAt (σ.1 0 26) σ (fun r59 σ60 => wX8_in ((r59 : Int32).toInt64) 97 122 σ60 (fun r61 σ62 => if r61 = 0 then (K321  σ62) else (∀ σ63 : zSt, σ63 = zput σ62 0 26 ((σ62.1 0 26) + 1) → (wX8_next_L100 Q K321  n  σ63))))
set_option maxRecDepth 20000 in
set_option maxHeartbeats 4000000 in
theorem sX8_next_L100 {Q : zSt → Prop} {K321 : zSt → Prop}   (M : zM p s m args meth c cX8_next 3 RX8 none tabM D cA ad y) (hK321 : ∀ (σ : zSt), K321  σ → zG p l e (zrm 2) s m args below meth c 3 tabM D cA ad (MQ below (va_Qv Q (fun σ' t => va_P D vwCl (zws tabM cA ad σ') t.heap) (zIn tabM ad)) args s 0 0 (zIn tabM ad)) 321 [] [] σ) : ∀ (n : Nat) (σ : zSt), wX8_next_L100 Q K321  n  σ → zG p l e (zrm 2) s m args below meth c 3 tabM D cA ad (MQ below (va_Qv Q (fun σ' t => va_P D vwCl (zws tabM cA ad σ') t.heap) (zIn tabM ad)) args s 0 0 (zIn tabM ad)) 100 [(0, .ref (ad 0))] [] σ := by
  intro n
  induction n with
  | zero => intro  σ h; exact absurd h (by simp [wX8_next_L100])
  | succ n ih =>
    intro  σ h
    unfold wX8_next_L100 at h
    refine zz_aload_n M 0 dX8_next_100 rfl rfl ?_
    refine zz_aload_n M 0 dX8_next_101 rfl rfl ?_
    refine zz_getI M f_X8_132 tM_0 rfl dX8_next_102 ?_
    refine zz_callVI (d' := 1) (As := [.int (σ.1 0 26)]) (rest := []) M l_X8_135 tM_0 rfl rfl dX8_next_105 rfl rfl (by decide) (Nat.le_of_ble_eq_true rfl) (by have hI := M.2.2.2.2.2.2.2.2; exact kX8_byteAt hI _  _ _ h) (fun r59 σ60 h => ?_)
    refine zz_i2l M dX8_next_108 ?_
    refine zz_ldc2 (v := 97) M k_X8_145 dX8_next_109 ?_
    refine zz_ldc2 (v := 122) M k_X8_147 dX8_next_112 ?_
    refine zz_callSI (d' := 1) (As := [.long ((r59 : Int32).toInt64), .long 97, .long 122]) (rest := []) M l_X8_92 dX8_next_115 rfl rfl (by decide) (Nat.le_of_ble_eq_true rfl) (by have hI := M.2.2.2.2.2.2.2.2; exact kX8_in hI _ _ _  _ _ h) (fun r61 σ62 h => ?_)
    refine zz_if_eq (y0 := 0) M 321 dX8_next_118 (by decide) (fun c => ?_) (fun c => ?_)
    · have h := zif h c
      refine zz_sub [] [] rfl ?_
      exact hK321  _ h
    · have h := zifn h c
      refine zz_aload_n M 0 dX8_next_121 rfl rfl ?_
      refine zz_dup M dX8_next_122 rfl ?_
      refine zz_getI M f_X8_132 tM_0 rfl dX8_next_123 ?_
      refine zz_iconst (v := 1) M dX8_next_126 (by decide) ?_
      refine zz_iadd M dX8_next_127 ?_
      refine zz_putI M f_X8_132 tM_0 rfl dX8_next_128 ?_
      refine zz_sg (fun σ63 eσ63 => ?_)
      have h := h σ63 eσ63
      refine zz_goto M 100 dX8_next_131 (by decide) ?_
      exact ih  _ h
def wX8_next  (σ : zSt) (Q : zSt → Prop) : Prop := wX8_next_L0 Q (fun  σ7 => ∀ σ8 : zSt, σ8 = zput σ7 0 28 (σ7.1 0 26) → (wX8_byteAt (σ8.1 0 26) σ8 (fun r9 σ10 => ∀ σ11 : zSt, σ11 = zput σ10 0 27 4 → (if 0 ≤ r9 then (wX8_in ((r9 : Int32).toInt64) 97 122 σ11 (fun r12 σ13 => if r12 = 0 then (wX8_in ((r9 : Int32).toInt64) 48 57 σ13 (fun r14 σ15 => if r14 = 0 then (if r9 = 40 then (∀ σ16 : zSt, σ16 = zput σ15 0 27 3 → (∀ σ17 : zSt, σ17 = zputL σ16 ((r9 : Int32).toInt64) → (∀ σ18 : zSt, σ18 = zput σ17 0 26 ((σ17.1 0 26) + 1) → (Q σ18)))) else (if r9 = 41 then (∀ σ19 : zSt, σ19 = zput σ15 0 27 3 → (∀ σ20 : zSt, σ20 = zputL σ19 ((r9 : Int32).toInt64) → (∀ σ21 : zSt, σ21 = zput σ20 0 26 ((σ20.1 0 26) + 1) → (Q σ21)))) else (if r9 = 59 then (∀ σ22 : zSt, σ22 = zput σ15 0 27 3 → (∀ σ23 : zSt, σ23 = zputL σ22 ((r9 : Int32).toInt64) → (∀ σ24 : zSt, σ24 = zput σ23 0 26 ((σ23.1 0 26) + 1) → (Q σ24)))) else (if r9 = 43 then (∀ σ25 : zSt, σ25 = zput σ15 0 27 3 → (∀ σ26 : zSt, σ26 = zputL σ25 ((r9 : Int32).toInt64) → (∀ σ27 : zSt, σ27 = zput σ26 0 26 ((σ26.1 0 26) + 1) → (Q σ27)))) else (if r9 = 45 then (∀ σ28 : zSt, σ28 = zput σ15 0 27 3 → (∀ σ29 : zSt, σ29 = zputL σ28 ((r9 : Int32).toInt64) → (∀ σ30 : zSt, σ30 = zput σ29 0 26 ((σ29.1 0 26) + 1) → (Q σ30)))) else (if r9 = 42 then (∀ σ31 : zSt, σ31 = zput σ15 0 27 3 → (∀ σ32 : zSt, σ32 = zputL σ31 ((r9 : Int32).toInt64) → (∀ σ33 : zSt, σ33 = zput σ32 0 26 ((σ32.1 0 26) + 1) → (Q σ33)))) else (if r9 = 60 then (∀ σ34 : zSt, σ34 = zput σ15 0 27 3 → (∀ σ35 : zSt, σ35 = zputL σ34 ((r9 : Int32).toInt64) → (∀ σ36 : zSt, σ36 = zput σ35 0 26 ((σ35.1 0 26) + 1) → (Q σ36)))) else (if r9 = 61 then (∀ σ37 : zSt, σ37 = zput σ15 0 27 3 → (∀ σ38 : zSt, σ38 = zputL σ37 ((r9 : Int32).toInt64) → (∀ σ39 : zSt, σ39 = zput σ38 0 26 ((σ38.1 0 26) + 1) → (Q σ39)))) else (Q σ15))))))))) else (∀ σ40 : zSt, σ40 = zput σ15 0 27 2 → (∀ σ41 : zSt, σ41 = zputL σ40 0 → (wX8_next_L160 Q (fun v54 σ55 => if v54 ≤ 4 then (∀ σ56 : zSt, σ56 = zput σ55 0 27 2 → (Q σ56)) else (∀ σ57 : zSt, σ57 = zput σ55 0 27 4 → (Q σ57)))  300 0 σ41))))) else (∀ σ58 : zSt, σ58 = zput σ13 0 27 1 → (wX8_next_L100 Q (fun  σ64 => Q σ64)  300  σ58)))) else (∀ σ65 : zSt, σ65 = zput σ11 0 27 0 → (∀ σ66 : zSt, σ66 = zput σ65 0 28 (σ65.1 0 25) → (Q σ66)))))))  300  σ
set_option maxRecDepth 20000 in
set_option maxHeartbeats 4000000 in
theorem kX8_next (hI : zInj tabM ad)   (σ : zSt) (Q : zSt → Prop) (h : wX8_next  σ Q) : zOkV l tabM D cA ad y 2 yX8_next cX8_next 3 none [.ref (ad 0)] σ Q := by
  refine zz_enter hI (by decide) (Nat.le_of_ble_eq_true rfl) (fun p e s m below meth c M => ?_)
  have M : zM p s m _ meth c cX8_next 3 RX8 none tabM D cA ad y := M
  refine zz_ls [(0, .ref (ad 0))] rfl ?_
  unfold wX8_next at h
  refine sX8_next_L0   M (fun  σ7 h => ?_) 300  _ h
  refine zz_aload_n M 0 dX8_next_39 rfl rfl ?_
  refine zz_aload_n M 0 dX8_next_40 rfl rfl ?_
  refine zz_getI M f_X8_132 tM_0 rfl dX8_next_41 ?_
  refine zz_putI M f_X8_139 tM_0 rfl dX8_next_44 ?_
  refine zz_sg (fun σ8 eσ8 => ?_)
  have h := h σ8 eσ8
  refine zz_aload_n M 0 dX8_next_47 rfl rfl ?_
  refine zz_aload_n M 0 dX8_next_48 rfl rfl ?_
  refine zz_getI M f_X8_132 tM_0 rfl dX8_next_49 ?_
  refine zz_callVI (d' := 1) (As := [.int (σ8.1 0 26)]) (rest := []) M l_X8_135 tM_0 rfl rfl dX8_next_52 rfl rfl (by decide) (Nat.le_of_ble_eq_true rfl) (by have hI := M.2.2.2.2.2.2.2.2; exact kX8_byteAt hI _  _ _ h) (fun r9 σ10 h => ?_)
  refine zz_istore_n M [(1, .int r9), (0, .ref (ad 0))] dX8_next_55 rfl (by decide) rfl ?_
  refine zz_aload_n M 1 dX8_next_56 rfl rfl ?_
  refine zz_iconst (v := 4) M dX8_next_57 (by decide) ?_
  refine zz_putI M f_X8_142 tM_0 rfl dX8_next_58 ?_
  refine zz_sg (fun σ11 eσ11 => ?_)
  have h := h σ11 eσ11
  refine zz_iload_n M 0 dX8_next_61 rfl rfl ?_
  refine zz_if_ge (y0 := 0) M 81 dX8_next_62 (by decide) (fun c => ?_) (fun c => ?_)
  · have h := zif h c
    refine zz_iload_n M 0 dX8_next_81 rfl rfl ?_
    refine zz_i2l M dX8_next_82 ?_
    refine zz_ldc2 (v := 97) M k_X8_145 dX8_next_83 ?_
    refine zz_ldc2 (v := 122) M k_X8_147 dX8_next_86 ?_
    refine zz_callSI (d' := 1) (As := [.long ((r9 : Int32).toInt64), .long 97, .long 122]) (rest := []) M l_X8_92 dX8_next_89 rfl rfl (by decide) (Nat.le_of_ble_eq_true rfl) (by have hI := M.2.2.2.2.2.2.2.2; exact kX8_in hI _ _ _  _ _ h) (fun r12 σ13 h => ?_)
    refine zz_if_eq (y0 := 0) M 134 dX8_next_92 (by decide) (fun c => ?_) (fun c => ?_)
    · have h := zif h c
      refine zz_iload_n M 0 dX8_next_134 rfl rfl ?_
      refine zz_i2l M dX8_next_135 ?_
      refine zz_ldc2 (v := 48) M k_X8_149 dX8_next_136 ?_
      refine zz_ldc2 (v := 57) M k_X8_151 dX8_next_139 ?_
      refine zz_callSI (d' := 1) (As := [.long ((r9 : Int32).toInt64), .long 48, .long 57]) (rest := []) M l_X8_92 dX8_next_142 rfl rfl (by decide) (Nat.le_of_ble_eq_true rfl) (by have hI := M.2.2.2.2.2.2.2.2; exact kX8_in hI _ _ _  _ _ h) (fun r14 σ15 h => ?_)
      refine zz_if_eq (y0 := 0) M 252 dX8_next_145 (by decide) (fun c => ?_) (fun c => ?_)
      · have h := zif h c
        refine zz_iload_n M 0 dX8_next_252 rfl rfl ?_
        refine zz_bipush (v := 40) M dX8_next_253 (by decide) ?_
        refine zz_icmp_eq M 300 dX8_next_255 (by decide) (fun c => ?_) (fun c => ?_)
        · have h := zif h c
          refine zz_aload_n M 1 dX8_next_300 rfl rfl ?_
          refine zz_iconst (v := 3) M dX8_next_301 (by decide) ?_
          refine zz_putI M f_X8_142 tM_0 rfl dX8_next_302 ?_
          refine zz_sg (fun σ16 eσ16 => ?_)
          have h := h σ16 eσ16
          refine zz_aload_n M 1 dX8_next_305 rfl rfl ?_
          refine zz_iload_n M 0 dX8_next_306 rfl rfl ?_
          refine zz_i2l M dX8_next_307 ?_
          refine zz_putL M f_X8_153 tM_0 rfl zputL_u zputL_v dX8_next_308 ?_
          refine zz_sg (fun σ17 eσ17 => ?_)
          have h := h σ17 eσ17
          refine zz_aload_n M 1 dX8_next_311 rfl rfl ?_
          refine zz_dup M dX8_next_312 rfl ?_
          refine zz_getI M f_X8_132 tM_0 rfl dX8_next_313 ?_
          refine zz_iconst (v := 1) M dX8_next_316 (by decide) ?_
          refine zz_iadd M dX8_next_317 ?_
          refine zz_putI M f_X8_132 tM_0 rfl dX8_next_318 ?_
          refine zz_sg (fun σ18 eσ18 => ?_)
          have h := h σ18 eσ18
          exact zz_vret M dX8_next_321 h
        · have h := zifn h c
          refine zz_iload_n M 0 dX8_next_258 rfl rfl ?_
          refine zz_bipush (v := 41) M dX8_next_259 (by decide) ?_
          refine zz_icmp_eq M 300 dX8_next_261 (by decide) (fun c => ?_) (fun c => ?_)
          · have h := zif h c
            refine zz_aload_n M 1 dX8_next_300 rfl rfl ?_
            refine zz_iconst (v := 3) M dX8_next_301 (by decide) ?_
            refine zz_putI M f_X8_142 tM_0 rfl dX8_next_302 ?_
            refine zz_sg (fun σ19 eσ19 => ?_)
            have h := h σ19 eσ19
            refine zz_aload_n M 1 dX8_next_305 rfl rfl ?_
            refine zz_iload_n M 0 dX8_next_306 rfl rfl ?_
            refine zz_i2l M dX8_next_307 ?_
            refine zz_putL M f_X8_153 tM_0 rfl zputL_u zputL_v dX8_next_308 ?_
            refine zz_sg (fun σ20 eσ20 => ?_)
            have h := h σ20 eσ20
            refine zz_aload_n M 1 dX8_next_311 rfl rfl ?_
            refine zz_dup M dX8_next_312 rfl ?_
            refine zz_getI M f_X8_132 tM_0 rfl dX8_next_313 ?_
            refine zz_iconst (v := 1) M dX8_next_316 (by decide) ?_
            refine zz_iadd M dX8_next_317 ?_
            refine zz_putI M f_X8_132 tM_0 rfl dX8_next_318 ?_
            refine zz_sg (fun σ21 eσ21 => ?_)
            have h := h σ21 eσ21
            exact zz_vret M dX8_next_321 h
          · have h := zifn h c
            refine zz_iload_n M 0 dX8_next_264 rfl rfl ?_
            refine zz_bipush (v := 59) M dX8_next_265 (by decide) ?_
            refine zz_icmp_eq M 300 dX8_next_267 (by decide) (fun c => ?_) (fun c => ?_)
            · have h := zif h c
              refine zz_aload_n M 1 dX8_next_300 rfl rfl ?_
              refine zz_iconst (v := 3) M dX8_next_301 (by decide) ?_
              refine zz_putI M f_X8_142 tM_0 rfl dX8_next_302 ?_
              refine zz_sg (fun σ22 eσ22 => ?_)
              have h := h σ22 eσ22
              refine zz_aload_n M 1 dX8_next_305 rfl rfl ?_
              refine zz_iload_n M 0 dX8_next_306 rfl rfl ?_
              refine zz_i2l M dX8_next_307 ?_
              refine zz_putL M f_X8_153 tM_0 rfl zputL_u zputL_v dX8_next_308 ?_
              refine zz_sg (fun σ23 eσ23 => ?_)
              have h := h σ23 eσ23
              refine zz_aload_n M 1 dX8_next_311 rfl rfl ?_
              refine zz_dup M dX8_next_312 rfl ?_
              refine zz_getI M f_X8_132 tM_0 rfl dX8_next_313 ?_
              refine zz_iconst (v := 1) M dX8_next_316 (by decide) ?_
              refine zz_iadd M dX8_next_317 ?_
              refine zz_putI M f_X8_132 tM_0 rfl dX8_next_318 ?_
              refine zz_sg (fun σ24 eσ24 => ?_)
              have h := h σ24 eσ24
              exact zz_vret M dX8_next_321 h
            · have h := zifn h c
              refine zz_iload_n M 0 dX8_next_270 rfl rfl ?_
              refine zz_bipush (v := 43) M dX8_next_271 (by decide) ?_
              refine zz_icmp_eq M 300 dX8_next_273 (by decide) (fun c => ?_) (fun c => ?_)
              · have h := zif h c
                refine zz_aload_n M 1 dX8_next_300 rfl rfl ?_
                refine zz_iconst (v := 3) M dX8_next_301 (by decide) ?_
                refine zz_putI M f_X8_142 tM_0 rfl dX8_next_302 ?_
                refine zz_sg (fun σ25 eσ25 => ?_)
                have h := h σ25 eσ25
                refine zz_aload_n M 1 dX8_next_305 rfl rfl ?_
                refine zz_iload_n M 0 dX8_next_306 rfl rfl ?_
                refine zz_i2l M dX8_next_307 ?_
                refine zz_putL M f_X8_153 tM_0 rfl zputL_u zputL_v dX8_next_308 ?_
                refine zz_sg (fun σ26 eσ26 => ?_)
                have h := h σ26 eσ26
                refine zz_aload_n M 1 dX8_next_311 rfl rfl ?_
                refine zz_dup M dX8_next_312 rfl ?_
                refine zz_getI M f_X8_132 tM_0 rfl dX8_next_313 ?_
                refine zz_iconst (v := 1) M dX8_next_316 (by decide) ?_
                refine zz_iadd M dX8_next_317 ?_
                refine zz_putI M f_X8_132 tM_0 rfl dX8_next_318 ?_
                refine zz_sg (fun σ27 eσ27 => ?_)
                have h := h σ27 eσ27
                exact zz_vret M dX8_next_321 h
              · have h := zifn h c
                refine zz_iload_n M 0 dX8_next_276 rfl rfl ?_
                refine zz_bipush (v := 45) M dX8_next_277 (by decide) ?_
                refine zz_icmp_eq M 300 dX8_next_279 (by decide) (fun c => ?_) (fun c => ?_)
                · have h := zif h c
                  refine zz_aload_n M 1 dX8_next_300 rfl rfl ?_
                  refine zz_iconst (v := 3) M dX8_next_301 (by decide) ?_
                  refine zz_putI M f_X8_142 tM_0 rfl dX8_next_302 ?_
                  refine zz_sg (fun σ28 eσ28 => ?_)
                  have h := h σ28 eσ28
                  refine zz_aload_n M 1 dX8_next_305 rfl rfl ?_
                  refine zz_iload_n M 0 dX8_next_306 rfl rfl ?_
                  refine zz_i2l M dX8_next_307 ?_
                  refine zz_putL M f_X8_153 tM_0 rfl zputL_u zputL_v dX8_next_308 ?_
                  refine zz_sg (fun σ29 eσ29 => ?_)
                  have h := h σ29 eσ29
                  refine zz_aload_n M 1 dX8_next_311 rfl rfl ?_
                  refine zz_dup M dX8_next_312 rfl ?_
                  refine zz_getI M f_X8_132 tM_0 rfl dX8_next_313 ?_
                  refine zz_iconst (v := 1) M dX8_next_316 (by decide) ?_
                  refine zz_iadd M dX8_next_317 ?_
                  refine zz_putI M f_X8_132 tM_0 rfl dX8_next_318 ?_
                  refine zz_sg (fun σ30 eσ30 => ?_)
                  have h := h σ30 eσ30
                  exact zz_vret M dX8_next_321 h
                · have h := zifn h c
                  refine zz_iload_n M 0 dX8_next_282 rfl rfl ?_
                  refine zz_bipush (v := 42) M dX8_next_283 (by decide) ?_
                  refine zz_icmp_eq M 300 dX8_next_285 (by decide) (fun c => ?_) (fun c => ?_)
                  · have h := zif h c
                    refine zz_aload_n M 1 dX8_next_300 rfl rfl ?_
                    refine zz_iconst (v := 3) M dX8_next_301 (by decide) ?_
                    refine zz_putI M f_X8_142 tM_0 rfl dX8_next_302 ?_
                    refine zz_sg (fun σ31 eσ31 => ?_)
                    have h := h σ31 eσ31
                    refine zz_aload_n M 1 dX8_next_305 rfl rfl ?_
                    refine zz_iload_n M 0 dX8_next_306 rfl rfl ?_
                    refine zz_i2l M dX8_next_307 ?_
                    refine zz_putL M f_X8_153 tM_0 rfl zputL_u zputL_v dX8_next_308 ?_
                    refine zz_sg (fun σ32 eσ32 => ?_)
                    have h := h σ32 eσ32
                    refine zz_aload_n M 1 dX8_next_311 rfl rfl ?_
                    refine zz_dup M dX8_next_312 rfl ?_
                    refine zz_getI M f_X8_132 tM_0 rfl dX8_next_313 ?_
                    refine zz_iconst (v := 1) M dX8_next_316 (by decide) ?_
                    refine zz_iadd M dX8_next_317 ?_
                    refine zz_putI M f_X8_132 tM_0 rfl dX8_next_318 ?_
                    refine zz_sg (fun σ33 eσ33 => ?_)
                    have h := h σ33 eσ33
                    exact zz_vret M dX8_next_321 h
                  · have h := zifn h c
                    refine zz_iload_n M 0 dX8_next_288 rfl rfl ?_
                    refine zz_bipush (v := 60) M dX8_next_289 (by decide) ?_
                    refine zz_icmp_eq M 300 dX8_next_291 (by decide) (fun c => ?_) (fun c => ?_)
                    · have h := zif h c
                      refine zz_aload_n M 1 dX8_next_300 rfl rfl ?_
                      refine zz_iconst (v := 3) M dX8_next_301 (by decide) ?_
                      refine zz_putI M f_X8_142 tM_0 rfl dX8_next_302 ?_
                      refine zz_sg (fun σ34 eσ34 => ?_)
                      have h := h σ34 eσ34
                      refine zz_aload_n M 1 dX8_next_305 rfl rfl ?_
                      refine zz_iload_n M 0 dX8_next_306 rfl rfl ?_
                      refine zz_i2l M dX8_next_307 ?_
                      refine zz_putL M f_X8_153 tM_0 rfl zputL_u zputL_v dX8_next_308 ?_
                      refine zz_sg (fun σ35 eσ35 => ?_)
                      have h := h σ35 eσ35
                      refine zz_aload_n M 1 dX8_next_311 rfl rfl ?_
                      refine zz_dup M dX8_next_312 rfl ?_
                      refine zz_getI M f_X8_132 tM_0 rfl dX8_next_313 ?_
                      refine zz_iconst (v := 1) M dX8_next_316 (by decide) ?_
                      refine zz_iadd M dX8_next_317 ?_
                      refine zz_putI M f_X8_132 tM_0 rfl dX8_next_318 ?_
                      refine zz_sg (fun σ36 eσ36 => ?_)
                      have h := h σ36 eσ36
                      exact zz_vret M dX8_next_321 h
                    · have h := zifn h c
                      refine zz_iload_n M 0 dX8_next_294 rfl rfl ?_
                      refine zz_bipush (v := 61) M dX8_next_295 (by decide) ?_
                      refine zz_icmp_ne M 321 dX8_next_297 (by decide) (fun c => ?_) (fun c => ?_)
                      · have h := zifn h c
                        exact zz_vret M dX8_next_321 h
                      · have h := zif h c
                        refine zz_aload_n M 1 dX8_next_300 rfl rfl ?_
                        refine zz_iconst (v := 3) M dX8_next_301 (by decide) ?_
                        refine zz_putI M f_X8_142 tM_0 rfl dX8_next_302 ?_
                        refine zz_sg (fun σ37 eσ37 => ?_)
                        have h := h σ37 eσ37
                        refine zz_aload_n M 1 dX8_next_305 rfl rfl ?_
                        refine zz_iload_n M 0 dX8_next_306 rfl rfl ?_
                        refine zz_i2l M dX8_next_307 ?_
                        refine zz_putL M f_X8_153 tM_0 rfl zputL_u zputL_v dX8_next_308 ?_
                        refine zz_sg (fun σ38 eσ38 => ?_)
                        have h := h σ38 eσ38
                        refine zz_aload_n M 1 dX8_next_311 rfl rfl ?_
                        refine zz_dup M dX8_next_312 rfl ?_
                        refine zz_getI M f_X8_132 tM_0 rfl dX8_next_313 ?_
                        refine zz_iconst (v := 1) M dX8_next_316 (by decide) ?_
                        refine zz_iadd M dX8_next_317 ?_
                        refine zz_putI M f_X8_132 tM_0 rfl dX8_next_318 ?_
                        refine zz_sg (fun σ39 eσ39 => ?_)
                        have h := h σ39 eσ39
                        exact zz_vret M dX8_next_321 h
      · have h := zifn h c
        refine zz_aload_n M 1 dX8_next_148 rfl rfl ?_
        refine zz_iconst (v := 2) M dX8_next_149 (by decide) ?_
        refine zz_putI M f_X8_142 tM_0 rfl dX8_next_150 ?_
        refine zz_sg (fun σ40 eσ40 => ?_)
        have h := h σ40 eσ40
        refine zz_aload_n M 1 dX8_next_153 rfl rfl ?_
        refine zz_lconst (v := 0) M dX8_next_154 (by decide) ?_
        refine zz_putL M f_X8_153 tM_0 rfl zputL_u zputL_v dX8_next_155 ?_
        refine zz_sg (fun σ41 eσ41 => ?_)
        have h := h σ41 eσ41
        refine zz_iconst (v := 0) M dX8_next_158 (by decide) ?_
        refine zz_istore_n M [(2, .int 0), (1, .int r9), (0, .ref (ad 0))] dX8_next_159 rfl (by decide) rfl ?_
        refine zz_sub [(0, .ref (ad 0)), (2, .int 0)] [2, 0] rfl ?_
        refine sX8_next_L160   M (fun v54 σ55 h => ?_) 300 _ _ h
        refine zz_aload_n M 0 dX8_next_235 rfl rfl ?_
        refine zz_iload_n M 1 dX8_next_236 rfl rfl ?_
        refine zz_iconst (v := 4) M dX8_next_237 (by decide) ?_
        refine zz_icmp_le M 245 dX8_next_238 (by decide) (fun c => ?_) (fun c => ?_)
        · have h := zif h c
          refine zz_iconst (v := 2) M dX8_next_245 (by decide) ?_
          refine zz_putI M f_X8_142 tM_0 rfl dX8_next_246 ?_
          refine zz_sg (fun σ56 eσ56 => ?_)
          have h := h σ56 eσ56
          refine zz_goto M 321 dX8_next_249 (by decide) ?_
          exact zz_vret M dX8_next_321 h
        · have h := zifn h c
          refine zz_iconst (v := 4) M dX8_next_241 (by decide) ?_
          refine zz_goto M 246 dX8_next_242 (by decide) ?_
          refine zz_putI M f_X8_142 tM_0 rfl dX8_next_246 ?_
          refine zz_sg (fun σ57 eσ57 => ?_)
          have h := h σ57 eσ57
          refine zz_goto M 321 dX8_next_249 (by decide) ?_
          exact zz_vret M dX8_next_321 h
    · have h := zifn h c
      refine zz_aload_n M 1 dX8_next_95 rfl rfl ?_
      refine zz_iconst (v := 1) M dX8_next_96 (by decide) ?_
      refine zz_putI M f_X8_142 tM_0 rfl dX8_next_97 ?_
      refine zz_sg (fun σ58 eσ58 => ?_)
      have h := h σ58 eσ58
      refine zz_sub [(0, .ref (ad 0))] [1] rfl ?_
      refine sX8_next_L100   M (fun  σ64 h => ?_) 300  _ h
      exact zz_vret M dX8_next_321 h
  · have h := zifn h c
    refine zz_aload_n M 1 dX8_next_65 rfl rfl ?_
    refine zz_iconst (v := 0) M dX8_next_66 (by decide) ?_
    refine zz_putI M f_X8_142 tM_0 rfl dX8_next_67 ?_
    refine zz_sg (fun σ65 eσ65 => ?_)
    have h := h σ65 eσ65
    refine zz_aload_n M 1 dX8_next_70 rfl rfl ?_
    refine zz_aload_n M 1 dX8_next_71 rfl rfl ?_
    refine zz_getI M f_X8_126 tM_0 rfl dX8_next_72 ?_
    refine zz_putI M f_X8_139 tM_0 rfl dX8_next_75 ?_
    refine zz_sg (fun σ66 eσ66 => ?_)
    have h := h σ66 eσ66
    refine zz_goto M 321 dX8_next_78 (by decide) ?_
    exact zz_vret M dX8_next_321 h
def wX8_isLetter (x1 : Int32) (x2 : Int32) (σ : zSt) (Q : Int32 → zSt → Prop) : Prop := if (σ.1 0 26) ≤ ((σ.1 0 28) + x1) then (if x2 = 0 then (Q 1 σ) else (Q 0 σ)) else (wX8_byteAt ((σ.1 0 28) + x1) σ (fun r1 σ2 => if r1 = x2 then (Q 1 σ2) else (Q 0 σ2)))
set_option maxRecDepth 20000 in
set_option maxHeartbeats 4000000 in
theorem kX8_isLetter (hI : zInj tabM ad) (x1 : Int32) (x2 : Int32)  (σ : zSt) (Q : Int32 → zSt → Prop) (h : wX8_isLetter x1 x2 σ Q) : zOkI l tabM D cA ad y 2 yX8_isLetter cX8_isLetter 3 (some .boolean) [.ref (ad 0), .int x1, .int x2] σ Q := by
  refine zz_enter hI (by decide) (Nat.le_of_ble_eq_true rfl) (fun p e s m below meth c M => ?_)
  have M : zM p s m _ meth c cX8_isLetter 3 RX8 (some .boolean) tabM D cA ad y := M
  refine zz_ls [(0, .ref (ad 0)), (1, .int x1), (2, .int x2)] rfl ?_
  unfold wX8_isLetter at h
  refine zz_aload_n M 0 dX8_isLetter_0 rfl rfl ?_
  refine zz_getI M f_X8_139 tM_0 rfl dX8_isLetter_1 ?_
  refine zz_iload_n M 1 dX8_isLetter_4 rfl rfl ?_
  refine zz_iadd M dX8_isLetter_5 ?_
  refine zz_aload_n M 0 dX8_isLetter_6 rfl rfl ?_
  refine zz_getI M f_X8_132 tM_0 rfl dX8_isLetter_7 ?_
  refine zz_icmp_ge M 35 dX8_isLetter_10 (by decide) (fun c => ?_) (fun c => ?_)
  · have h := zif h c
    refine zz_iload_n M 2 dX8_isLetter_35 rfl rfl ?_
    refine zz_if_ne (y0 := 0) M 43 dX8_isLetter_36 (by decide) (fun c => ?_) (fun c => ?_)
    · have h := zifn h c
      refine zz_iconst (v := 0) M dX8_isLetter_43 (by decide) ?_
      exact zz_zret M dX8_isLetter_44 (Or.inl rfl) h
    · have h := zif h c
      refine zz_iconst (v := 1) M dX8_isLetter_39 (by decide) ?_
      refine zz_goto M 44 dX8_isLetter_40 (by decide) ?_
      exact zz_zret M dX8_isLetter_44 (Or.inr rfl) h
  · have h := zifn h c
    refine zz_aload_n M 0 dX8_isLetter_13 rfl rfl ?_
    refine zz_aload_n M 0 dX8_isLetter_14 rfl rfl ?_
    refine zz_getI M f_X8_139 tM_0 rfl dX8_isLetter_15 ?_
    refine zz_iload_n M 1 dX8_isLetter_18 rfl rfl ?_
    refine zz_iadd M dX8_isLetter_19 ?_
    refine zz_callVI (d' := 1) (As := [.int ((σ.1 0 28) + x1)]) (rest := []) M l_X8_135 tM_0 rfl rfl dX8_isLetter_20 rfl rfl (by decide) (Nat.le_of_ble_eq_true rfl) (by have hI := M.2.2.2.2.2.2.2.2; exact kX8_byteAt hI _  _ _ h) (fun r1 σ2 h => ?_)
    refine zz_iload_n M 2 dX8_isLetter_23 rfl rfl ?_
    refine zz_icmp_ne M 31 dX8_isLetter_24 (by decide) (fun c => ?_) (fun c => ?_)
    · have h := zifn h c
      refine zz_iconst (v := 0) M dX8_isLetter_31 (by decide) ?_
      refine zz_goto M 44 dX8_isLetter_32 (by decide) ?_
      exact zz_zret M dX8_isLetter_44 (Or.inl rfl) h
    · have h := zif h c
      refine zz_iconst (v := 1) M dX8_isLetter_27 (by decide) ?_
      refine zz_goto M 44 dX8_isLetter_28 (by decide) ?_
      exact zz_zret M dX8_isLetter_44 (Or.inr rfl) h
end
