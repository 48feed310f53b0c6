section
variable {p : Program} {l : Launch} {e : Env} {s : State} {m : MethodId} {args : Array Value} {below : List Frame} {meth : Method} {c : Code} {D : va_G} {cA : Nat → ClassId} {ad : Nat → Nat} {y : zX}
def wX8_master (x1 : Int32) (x2 : Int32) (σ : zSt) (Q : Int32 → zSt → Prop) : Prop := wX8_in ((x1 : Int32).toInt64) 0 5 σ (fun r101 σ102 => if r101 = 0 then (Q (-2) σ102) else (wX8_in ((x2 : Int32).toInt64) 0 9 σ102 (fun r103 σ104 => if r103 = 0 then (Q (-2) σ104) else (if (σ104.1 0 16) = 4 then (Q (-4) σ104) else (vp_in (σ104.1 0 16) 4 ∧ (∀ σ105 : zSt, σ105 = zput σ104 7 (σ104.1 0 16 : Int32).toNatClampNeg x1 → (vp_in (σ105.1 0 16) 4 ∧ (∀ σ106 : zSt, σ106 = zput σ105 8 (σ105.1 0 16 : Int32).toNatClampNeg x2 → (∀ σ107 : zSt, σ107 = zput σ106 0 16 ((σ106.1 0 16) + 1) → (Q ((σ107.1 0 16) - 1) σ107))))))))))
set_option maxRecDepth 20000 in
set_option maxHeartbeats 4000000 in
theorem kX8_master (hI : zInj tabM ad) (x1 : Int32) (x2 : Int32)  (σ : zSt) (Q : Int32 → zSt → Prop) (h : wX8_master x1 x2 σ Q) : zOkI l tabM D cA ad y 2 yX8_master cX8_master 3 (some .int) [.ref (ad 0), .int x1, .int x2] σ Q := by
  refine zz_enter hI (by decide) (Nat.le_of_ble_eq_true rfl) (fun p e s m below meth c M => ?_)
  have M : zM p s m _ meth c cX8_master 3 RX8 (some .int) tabM D cA ad y := M
  refine zz_ls [(0, .ref (ad 0)), (1, .int x1), (2, .int x2)] rfl ?_
  unfold wX8_master at h
  refine zz_iload_n M 1 dX8_master_0 rfl rfl ?_
  refine zz_i2l M dX8_master_1 ?_
  refine zz_lconst (v := 0) M dX8_master_2 (by decide) ?_
  refine zz_ldc2 (v := 5) M k_X8_119 dX8_master_3 ?_
  refine zz_callSI (d' := 1) (As := [.long ((x1 : Int32).toInt64), .long 0, .long 5]) (rest := []) M l_X8_92 dX8_master_6 rfl rfl (by decide) (Nat.le_of_ble_eq_true rfl) (by have hI := M.2.2.2.2.2.2.2.2; exact kX8_in hI _ _ _  _ _ h) (fun r101 σ102 h => ?_)
  refine zz_if_eq (y0 := 0) M 24 dX8_master_9 (by decide) (fun c => ?_) (fun c => ?_)
  · have h := zif (c := r101 = 0) h c
    refine zz_bipush (v := (-2)) M dX8_master_24 (by decide) ?_
    exact zz_iret M dX8_master_26 h
  · have h := zifn (c := r101 = 0) h c
    refine zz_iload_n M 2 dX8_master_12 rfl rfl ?_
    refine zz_i2l M dX8_master_13 ?_
    refine zz_lconst (v := 0) M dX8_master_14 (by decide) ?_
    refine zz_ldc2 (v := 9) M k_X8_106 dX8_master_15 ?_
    refine zz_callSI (d' := 1) (As := [.long ((x2 : Int32).toInt64), .long 0, .long 9]) (rest := []) M l_X8_92 dX8_master_18 rfl rfl (by decide) (Nat.le_of_ble_eq_true rfl) (by have hI := M.2.2.2.2.2.2.2.2; exact kX8_in hI _ _ _  _ _ h) (fun r103 σ104 h => ?_)
    refine zz_if_ne (y0 := 0) M 27 dX8_master_21 (by decide) (fun c => ?_) (fun c => ?_)
    · have h := zifn (c := r103 = 0) h c
      refine zz_aload_n M 0 dX8_master_27 rfl rfl ?_
      refine zz_getI M f_X8_114 tM_0 rfl dX8_master_28 ?_
      refine zz_iconst (v := 4) M dX8_master_31 (by decide) ?_
      refine zz_icmp_ne M 38 dX8_master_32 (by decide) (fun c => ?_) (fun c => ?_)
      · have h := zifn (c := (σ104.1 0 16) = 4) h c
        refine zz_aload_n M 0 dX8_master_38 rfl rfl ?_
        refine zz_getR M f_X8_38 tM_0 rfl dX8_master_39 ?_
        refine zz_aload_n M 0 dX8_master_42 rfl rfl ?_
        refine zz_getI M f_X8_114 tM_0 rfl dX8_master_43 ?_
        refine zz_iload_n M 1 dX8_master_46 rfl rfl ?_
        refine zz_iast M tM_7 h.1 dX8_master_47 ?_
        have h := h.2
        refine zz_sg (fun σ105 eσ105 => ?_)
        have h := h σ105 eσ105
        refine zz_aload_n M 0 dX8_master_48 rfl rfl ?_
        refine zz_getR M f_X8_41 tM_0 rfl dX8_master_49 ?_
        refine zz_aload_n M 0 dX8_master_52 rfl rfl ?_
        refine zz_getI M f_X8_114 tM_0 rfl dX8_master_53 ?_
        refine zz_iload_n M 2 dX8_master_56 rfl rfl ?_
        refine zz_iast M tM_8 h.1 dX8_master_57 ?_
        have h := h.2
        refine zz_sg (fun σ106 eσ106 => ?_)
        have h := h σ106 eσ106
        refine zz_aload_n M 0 dX8_master_58 rfl rfl ?_
        refine zz_dup M dX8_master_59 rfl ?_
        refine zz_getI M f_X8_114 tM_0 rfl dX8_master_60 ?_
        refine zz_iconst (v := 1) M dX8_master_63 (by decide) ?_
        refine zz_iadd M dX8_master_64 ?_
        refine zz_putI M f_X8_114 tM_0 rfl dX8_master_65 ?_
        refine zz_sg (fun σ107 eσ107 => ?_)
        have h := h σ107 eσ107
        refine zz_aload_n M 0 dX8_master_68 rfl rfl ?_
        refine zz_getI M f_X8_114 tM_0 rfl dX8_master_69 ?_
        refine zz_iconst (v := 1) M dX8_master_72 (by decide) ?_
        refine zz_isub M dX8_master_73 ?_
        exact zz_iret M dX8_master_74 h
      · have h := zif (c := (σ104.1 0 16) = 4) h c
        refine zz_bipush (v := (-4)) M dX8_master_35 (by decide) ?_
        exact zz_iret M dX8_master_37 h
    · have h := zif (c := r103 = 0) h c
      refine zz_bipush (v := (-2)) M dX8_master_24 (by decide) ?_
      exact zz_iret M dX8_master_26 h
def wX8_feed (x1 : Int32) (σ : zSt) (Q : Int32 → zSt → Prop) : Prop := wX8_in ((x1 : Int32).toInt64) 0 255 σ (fun r101 σ102 => if r101 = 0 then (Q (-2) σ102) else (if (σ102.1 0 6) = 160 then (Q (-4) σ102) else (vp_in (σ102.1 0 6) 160 ∧ (∀ σ103 : zSt, σ103 = zput σ102 3 (σ102.1 0 6 : Int32).toNatClampNeg x1 → (∀ σ104 : zSt, σ104 = zput σ103 0 6 ((σ103.1 0 6) + 1) → (Q (σ104.1 0 6) σ104))))))
set_option maxRecDepth 20000 in
set_option maxHeartbeats 4000000 in
theorem kX8_feed (hI : zInj tabM ad) (x1 : Int32)  (σ : zSt) (Q : Int32 → zSt → Prop) (h : wX8_feed x1 σ Q) : zOkI l tabM D cA ad y 2 yX8_feed cX8_feed 2 (some .int) [.ref (ad 0), .int x1] σ Q := by
  refine zz_enter hI (by decide) (Nat.le_of_ble_eq_true rfl) (fun p e s m below meth c M => ?_)
  have M : zM p s m _ meth c cX8_feed 2 RX8 (some .int) tabM D cA ad y := M
  refine zz_ls [(0, .ref (ad 0)), (1, .int x1)] rfl ?_
  unfold wX8_feed at h
  refine zz_iload_n M 1 dX8_feed_0 rfl rfl ?_
  refine zz_i2l M dX8_feed_1 ?_
  refine zz_lconst (v := 0) M dX8_feed_2 (by decide) ?_
  refine zz_ldc2 (v := 255) M k_X8_121 dX8_feed_3 ?_
  refine zz_callSI (d' := 1) (As := [.long ((x1 : Int32).toInt64), .long 0, .long 255]) (rest := []) M l_X8_92 dX8_feed_6 rfl rfl (by decide) (Nat.le_of_ble_eq_true rfl) (by have hI := M.2.2.2.2.2.2.2.2; exact kX8_in hI _ _ _  _ _ h) (fun r101 σ102 h => ?_)
  refine zz_if_ne (y0 := 0) M 15 dX8_feed_9 (by decide) (fun c => ?_) (fun c => ?_)
  · have h := zifn (c := r101 = 0) h c
    refine zz_aload_n M 0 dX8_feed_15 rfl rfl ?_
    refine zz_getI M f_X8_123 tM_0 rfl dX8_feed_16 ?_
    refine zz_sipush (v := 160) M dX8_feed_19 (by decide) ?_
    refine zz_icmp_ne M 28 dX8_feed_22 (by decide) (fun c => ?_) (fun c => ?_)
    · have h := zifn (c := (σ102.1 0 6) = 160) h c
      refine zz_aload_n M 0 dX8_feed_28 rfl rfl ?_
      refine zz_getR M f_X8_20 tM_0 rfl dX8_feed_29 ?_
      refine zz_aload_n M 0 dX8_feed_32 rfl rfl ?_
      refine zz_getI M f_X8_123 tM_0 rfl dX8_feed_33 ?_
      refine zz_iload_n M 1 dX8_feed_36 rfl rfl ?_
      refine zz_iast M tM_3 h.1 dX8_feed_37 ?_
      have h := h.2
      refine zz_sg (fun σ103 eσ103 => ?_)
      have h := h σ103 eσ103
      refine zz_aload_n M 0 dX8_feed_38 rfl rfl ?_
      refine zz_dup M dX8_feed_39 rfl ?_
      refine zz_getI M f_X8_123 tM_0 rfl dX8_feed_40 ?_
      refine zz_iconst (v := 1) M dX8_feed_43 (by decide) ?_
      refine zz_iadd M dX8_feed_44 ?_
      refine zz_putI M f_X8_123 tM_0 rfl dX8_feed_45 ?_
      refine zz_sg (fun σ104 eσ104 => ?_)
      have h := h σ104 eσ104
      refine zz_aload_n M 0 dX8_feed_48 rfl rfl ?_
      refine zz_getI M f_X8_123 tM_0 rfl dX8_feed_49 ?_
      exact zz_iret M dX8_feed_52 h
    · have h := zif (c := (σ102.1 0 6) = 160) h c
      refine zz_bipush (v := (-4)) M dX8_feed_25 (by decide) ?_
      exact zz_iret M dX8_feed_27 h
  · have h := zif (c := r101 = 0) h c
    refine zz_bipush (v := (-2)) M dX8_feed_12 (by decide) ?_
    exact zz_iret M dX8_feed_14 h
def wX8_byteAt (x1 : Int32) (σ : zSt) (Q : Int32 → zSt → Prop) : Prop := if (σ.1 0 25) ≤ x1 then (Q (-1) σ) else (vp_in ((σ.1 0 24) + x1) 960 ∧ (Q (σ.1 1 ((σ.1 0 24) + x1 : Int32).toNatClampNeg) σ))
set_option maxRecDepth 20000 in
set_option maxHeartbeats 4000000 in
theorem kX8_byteAt (hI : zInj tabM ad) (x1 : Int32)  (σ : zSt) (Q : Int32 → zSt → Prop) (h : wX8_byteAt x1 σ Q) : zOkI l tabM D cA ad y 1 yX8_byteAt cX8_byteAt 2 (some .int) [.ref (ad 0), .int x1] σ Q := by
  refine zz_enter hI (by decide) (Nat.le_of_ble_eq_true rfl) (fun p e s m below meth c M => ?_)
  have M : zM p s m _ meth c cX8_byteAt 2 RX8 (some .int) tabM D cA ad y := M
  refine zz_ls [(0, .ref (ad 0)), (1, .int x1)] rfl ?_
  unfold wX8_byteAt at h
  refine zz_iload_n M 1 dX8_byteAt_0 rfl rfl ?_
  refine zz_aload_n M 0 dX8_byteAt_1 rfl rfl ?_
  refine zz_getI M f_X8_126 tM_0 rfl dX8_byteAt_2 ?_
  refine zz_icmp_ge M 22 dX8_byteAt_5 (by decide) (fun c => ?_) (fun c => ?_)
  · have h := zif (c := (σ.1 0 25) ≤ x1) h c
    refine zz_iconst (v := (-1)) M dX8_byteAt_22 (by decide) ?_
    exact zz_iret M dX8_byteAt_23 h
  · have h := zifn (c := (σ.1 0 25) ≤ x1) h c
    refine zz_aload_n M 0 dX8_byteAt_8 rfl rfl ?_
    refine zz_getR M f_X8_13 tM_0 rfl dX8_byteAt_9 ?_
    refine zz_aload_n M 0 dX8_byteAt_12 rfl rfl ?_
    refine zz_getI M f_X8_129 tM_0 rfl dX8_byteAt_13 ?_
    refine zz_iload_n M 1 dX8_byteAt_16 rfl rfl ?_
    refine zz_iadd M dX8_byteAt_17 ?_
    refine zz_iald M tM_1 h.1 dX8_byteAt_18 ?_
    have h := h.2
    refine zz_goto M 23 dX8_byteAt_19 (by decide) ?_
    exact zz_iret M dX8_byteAt_23 h
def wX8_next_L0 (Q : zSt → Prop) (K39 : zSt → Prop)  : Nat → zSt → Prop
  | 0, _ => False
  | n + 1, σ => wX8_byteAt (σ.1 0 26) σ (fun r101 σ102 => if r101 = 32 then (∀ σ103 : zSt, σ103 = zput σ102 0 26 ((σ102.1 0 26) + 1) → (wX8_next_L0 Q K39  n  σ103)) else (wX8_byteAt (σ102.1 0 26) σ102 (fun r104 σ105 => if r104 = 10 then (∀ σ106 : zSt, σ106 = zput σ105 0 26 ((σ105.1 0 26) + 1) → (wX8_next_L0 Q K39  n  σ106)) else (K39  σ105))))
set_option maxRecDepth 20000 in
set_option maxHeartbeats 4000000 in
theorem sX8_next_L0 {Q : zSt → Prop} {K39 : zSt → Prop}   (M : zM p s m args meth c cX8_next 3 RX8 none tabM D cA ad y) (hK39 : ∀ (σ : zSt), K39  σ → zG p l e (zrm 2) s m args below meth c 3 tabM D cA ad (MQ below (va_Qv Q (fun σ' t => va_P D vwCl (zws tabM cA ad σ') t.heap) (zIn tabM ad)) args s 0 0 (zIn tabM ad)) 39 [(0, .ref (ad 0))] [] σ) : ∀ (n : Nat) (σ : zSt), wX8_next_L0 Q K39  n  σ → zG p l e (zrm 2) s m args below meth c 3 tabM D cA ad (MQ below (va_Qv Q (fun σ' t => va_P D vwCl (zws tabM cA ad σ') t.heap) (zIn tabM ad)) args s 0 0 (zIn tabM ad)) 0 [(0, .ref (ad 0))] [] σ := by
  intro n
  induction n with
  | zero => intro  σ h; exact absurd h (by simp [wX8_next_L0])
  | succ n ih =>
    intro  σ h
    unfold wX8_next_L0 at h
    refine zz_aload_n M 0 dX8_next_0 rfl rfl ?_
    refine zz_aload_n M 0 dX8_next_1 rfl rfl ?_
    refine zz_getI M f_X8_132 tM_0 rfl dX8_next_2 ?_
    refine zz_callVI (d' := 1) (As := [.int (σ.1 0 26)]) (rest := []) M l_X8_135 tM_0 rfl rfl dX8_next_5 rfl rfl (by decide) (Nat.le_of_ble_eq_true rfl) (by have hI := M.2.2.2.2.2.2.2.2; exact kX8_byteAt hI _  _ _ h) (fun r101 σ102 h => ?_)
    refine zz_bipush (v := 32) M dX8_next_8 (by decide) ?_
    refine zz_icmp_eq M 26 dX8_next_10 (by decide) (fun c => ?_) (fun c => ?_)
    · have h := zif (c := r101 = 32) h c
      refine zz_aload_n M 0 dX8_next_26 rfl rfl ?_
      refine zz_dup M dX8_next_27 rfl ?_
      refine zz_getI M f_X8_132 tM_0 rfl dX8_next_28 ?_
      refine zz_iconst (v := 1) M dX8_next_31 (by decide) ?_
      refine zz_iadd M dX8_next_32 ?_
      refine zz_putI M f_X8_132 tM_0 rfl dX8_next_33 ?_
      refine zz_sg (fun σ103 eσ103 => ?_)
      have h := h σ103 eσ103
      refine zz_goto M 0 dX8_next_36 (by decide) ?_
      exact ih  _ h
    · have h := zifn (c := r101 = 32) h c
      refine zz_aload_n M 0 dX8_next_13 rfl rfl ?_
      refine zz_aload_n M 0 dX8_next_14 rfl rfl ?_
      refine zz_getI M f_X8_132 tM_0 rfl dX8_next_15 ?_
      refine zz_callVI (d' := 1) (As := [.int (σ102.1 0 26)]) (rest := []) M l_X8_135 tM_0 rfl rfl dX8_next_18 rfl rfl (by decide) (Nat.le_of_ble_eq_true rfl) (by have hI := M.2.2.2.2.2.2.2.2; exact kX8_byteAt hI _  _ _ h) (fun r104 σ105 h => ?_)
      refine zz_bipush (v := 10) M dX8_next_21 (by decide) ?_
      refine zz_icmp_ne M 39 dX8_next_23 (by decide) (fun c => ?_) (fun c => ?_)
      · have h := zifn (c := r104 = 10) h c
        exact hK39  _ h
      · have h := zif (c := r104 = 10) h c
        refine zz_aload_n M 0 dX8_next_26 rfl rfl ?_
        refine zz_dup M dX8_next_27 rfl ?_
        refine zz_getI M f_X8_132 tM_0 rfl dX8_next_28 ?_
        refine zz_iconst (v := 1) M dX8_next_31 (by decide) ?_
        refine zz_iadd M dX8_next_32 ?_
        refine zz_putI M f_X8_132 tM_0 rfl dX8_next_33 ?_
        refine zz_sg (fun σ106 eσ106 => ?_)
        have h := h σ106 eσ106
        refine zz_goto M 0 dX8_next_36 (by decide) ?_
        exact ih  _ h
def wX8_next_L160 (Q : zSt → Prop) (K235 : Int32 → zSt → Prop)  : Nat → Int32 → zSt → Prop
  | 0, _, _ => False
  | n + 1, x2, σ => wX8_byteAt (σ.1 0 26) σ (fun r142 σ143 => wX8_in ((r142 : Int32).toInt64) 48 57 σ143 (fun r144 σ145 => if r144 = 0 then (K235 x2 σ145) else (if 4 ≤ x2 then (∀ σ146 : zSt, σ146 = zputL σ145 (σ145.2) → (∀ x147 : Int32, x147 = x2 + 1 → (∀ σ148 : zSt, σ148 = zput σ146 0 26 ((σ146.1 0 26) + 1) → (wX8_next_L160 Q K235  n x147 σ148)))) else (wX8_byteAt (σ145.1 0 26) σ145 (fun r149 σ150 => ∀ σ151 : zSt, σ151 = zputL σ150 (((10 * (σ145.2)) + ((r149 : Int32).toInt64)) - 48) → (∀ x152 : Int32, x152 = x2 + 1 → (∀ σ153 : zSt, σ153 = zput σ151 0 26 ((σ151.1 0 26) + 1) → (wX8_next_L160 Q K235  n x152 σ153))))))))
set_option maxRecDepth 20000 in
set_option maxHeartbeats 4000000 in
theorem sX8_next_L160 {Q : zSt → Prop} {K235 : Int32 → zSt → Prop}   (M : zM p s m args meth c cX8_next 3 RX8 none tabM D cA ad y) (hK235 : ∀ (v2 : Int32) (σ : zSt), K235 v2 σ → zG p l e (zrm 2) s m args below meth c 3 tabM D cA ad (MQ below (va_Qv Q (fun σ' t => va_P D vwCl (zws tabM cA ad σ') t.heap) (zIn tabM ad)) args s 0 0 (zIn tabM ad)) 235 [(0, .ref (ad 0)), (2, .int v2)] [] σ) : ∀ (n : Nat) (x2 : Int32) (σ : zSt), wX8_next_L160 Q K235  n x2 σ → zG p l e (zrm 2) s m args below meth c 3 tabM D cA ad (MQ below (va_Qv Q (fun σ' t => va_P D vwCl (zws tabM cA ad σ') t.heap) (zIn tabM ad)) args s 0 0 (zIn tabM ad)) 160 [(0, .ref (ad 0)), (2, .int x2)] [] σ := by
  intro n
  induction n with
  | zero => intro x2 σ h; exact absurd h (by simp [wX8_next_L160])
  | succ n ih =>
    intro x2 σ h
    unfold wX8_next_L160 at h
    refine zz_aload_n M 0 dX8_next_160 rfl rfl ?_
    refine zz_aload_n M 0 dX8_next_161 rfl rfl ?_
    refine zz_getI M f_X8_132 tM_0 rfl dX8_next_162 ?_
    refine zz_callVI (d' := 1) (As := [.int (σ.1 0 26)]) (rest := []) M l_X8_135 tM_0 rfl rfl dX8_next_165 rfl rfl (by decide) (Nat.le_of_ble_eq_true rfl) (by have hI := M.2.2.2.2.2.2.2.2; exact kX8_byteAt hI _  _ _ h) (fun r142 σ143 h => ?_)
    refine zz_i2l M dX8_next_168 ?_
    refine zz_ldc2 (v := 48) M k_X8_149 dX8_next_169 ?_
    refine zz_ldc2 (v := 57) M k_X8_151 dX8_next_172 ?_
    refine zz_callSI (d' := 1) (As := [.long ((r142 : Int32).toInt64), .long 48, .long 57]) (rest := []) M l_X8_92 dX8_next_175 rfl rfl (by decide) (Nat.le_of_ble_eq_true rfl) (by have hI := M.2.2.2.2.2.2.2.2; exact kX8_in hI _ _ _  _ _ h) (fun r144 σ145 h => ?_)
    refine zz_if_eq (y0 := 0) M 235 dX8_next_178 (by decide) (fun c => ?_) (fun c => ?_)
    · have h := zif (c := r144 = 0) h c
      exact hK235 _ _ h
    · have h := zifn (c := r144 = 0) h c
      refine zz_aload_n M 0 dX8_next_181 rfl rfl ?_
      refine zz_iload_n M 1 dX8_next_182 rfl rfl ?_
      refine zz_iconst (v := 4) M dX8_next_183 (by decide) ?_
      refine zz_icmp_ge M 212 dX8_next_184 (by decide) (fun c => ?_) (fun c => ?_)
      · have h := zif (c := 4 ≤ x2) h c
        refine zz_aload_n M 0 dX8_next_212 rfl rfl ?_
        refine zz_getL M f_X8_153 tM_0 rfl dX8_next_213 ?_
        refine zz_putL M f_X8_153 tM_0 rfl zputL_u zputL_v dX8_next_216 ?_
        refine zz_sg (fun σ146 eσ146 => ?_)
        have h := h σ146 eσ146
        obtain ⟨x147, ex147⟩ : ∃ z : Int32, z = x2 + 1 := ⟨_, rfl⟩
        have h := h x147 ex147
        refine zz_iinc M [(2, .int x147), (0, .ref (ad 0))] 1 dX8_next_219 rfl (n32 := 1) (by decide) ex147 (by decide) rfl ?_
        refine zz_aload_n M 1 dX8_next_222 rfl rfl ?_
        refine zz_dup M dX8_next_223 rfl ?_
        refine zz_getI M f_X8_132 tM_0 rfl dX8_next_224 ?_
        refine zz_iconst (v := 1) M dX8_next_227 (by decide) ?_
        refine zz_iadd M dX8_next_228 ?_
        refine zz_putI M f_X8_132 tM_0 rfl dX8_next_229 ?_
        refine zz_sg (fun σ148 eσ148 => ?_)
        have h := h σ148 eσ148
        refine zz_goto M 160 dX8_next_232 (by decide) ?_
        refine zz_sub [(0, .ref (ad 0)), (2, .int x147)] [1, 0] rfl ?_
        exact ih _ _ h
      · have h := zifn (c := 4 ≤ x2) h c
        refine zz_ldc2 (v := 10) M k_X8_157 dX8_next_187 ?_
        refine zz_aload_n M 0 dX8_next_190 rfl rfl ?_
        refine zz_getL M f_X8_153 tM_0 rfl dX8_next_191 ?_
        refine zz_lmul M dX8_next_194 ?_
        refine zz_aload_n M 0 dX8_next_195 rfl rfl ?_
        refine zz_aload_n M 0 dX8_next_196 rfl rfl ?_
        refine zz_getI M f_X8_132 tM_0 rfl dX8_next_197 ?_
        refine zz_callVI (d' := 1) (As := [.int (σ145.1 0 26)]) (rest := [.long (10 * (σ145.2)), .ref (ad 0)]) M l_X8_135 tM_0 rfl rfl dX8_next_200 rfl rfl (by decide) (Nat.le_of_ble_eq_true rfl) (by have hI := M.2.2.2.2.2.2.2.2; exact kX8_byteAt hI _  _ _ h) (fun r149 σ150 h => ?_)
        refine zz_i2l M dX8_next_203 ?_
        refine zz_ladd M dX8_next_204 ?_
        refine zz_ldc2 (v := 48) M k_X8_149 dX8_next_205 ?_
        refine zz_lsub M dX8_next_208 ?_
        refine zz_goto M 216 dX8_next_209 (by decide) ?_
        refine zz_putL M f_X8_153 tM_0 rfl zputL_u zputL_v dX8_next_216 ?_
        refine zz_sg (fun σ151 eσ151 => ?_)
        have h := h σ151 eσ151
        obtain ⟨x152, ex152⟩ : ∃ z : Int32, z = x2 + 1 := ⟨_, rfl⟩
        have h := h x152 ex152
        refine zz_iinc M [(2, .int x152), (0, .ref (ad 0))] 1 dX8_next_219 rfl (n32 := 1) (by decide) ex152 (by decide) rfl ?_
        refine zz_aload_n M 1 dX8_next_222 rfl rfl ?_
        refine zz_dup M dX8_next_223 rfl ?_
        refine zz_getI M f_X8_132 tM_0 rfl dX8_next_224 ?_
        refine zz_iconst (v := 1) M dX8_next_227 (by decide) ?_
        refine zz_iadd M dX8_next_228 ?_
        refine zz_putI M f_X8_132 tM_0 rfl dX8_next_229 ?_
        refine zz_sg (fun σ153 eσ153 => ?_)
        have h := h σ153 eσ153
        refine zz_goto M 160 dX8_next_232 (by decide) ?_
        refine zz_sub [(0, .ref (ad 0)), (2, .int x152)] [1, 0] rfl ?_
        exact ih _ _ h
def wX8_next_L100 (Q : zSt → Prop) (K321 : zSt → Prop)  : Nat → zSt → Prop
  | 0, _ => False
  | n + 1, σ => wX8_byteAt (σ.1 0 26) σ (fun r159 σ160 => wX8_in ((r159 : Int32).toInt64) 97 122 σ160 (fun r161 σ162 => if r161 = 0 then (K321  σ162) else (∀ σ163 : zSt, σ163 = zput σ162 0 26 ((σ162.1 0 26) + 1) → (wX8_next_L100 Q K321  n  σ163))))
set_option maxRecDepth 20000 in
set_option maxHeartbeats 4000000 in
theorem sX8_next_L100 {Q : zSt → Prop} {K321 : zSt → Prop}   (M : zM p s m args meth c cX8_next 3 RX8 none tabM D cA ad y) (hK321 : ∀ (σ : zSt), K321  σ → zG p l e (zrm 2) s m args below meth c 3 tabM D cA ad (MQ below (va_Qv Q (fun σ' t => va_P D vwCl (zws tabM cA ad σ') t.heap) (zIn tabM ad)) args s 0 0 (zIn tabM ad)) 321 [] [] σ) : ∀ (n : Nat) (σ : zSt), wX8_next_L100 Q K321  n  σ → zG p l e (zrm 2) s m args below meth c 3 tabM D cA ad (MQ below (va_Qv Q (fun σ' t => va_P D vwCl (zws tabM cA ad σ') t.heap) (zIn tabM ad)) args s 0 0 (zIn tabM ad)) 100 [(0, .ref (ad 0))] [] σ := by
  intro n
  induction n with
  | zero => intro  σ h; exact absurd h (by simp [wX8_next_L100])
  | succ n ih =>
    intro  σ h
    unfold wX8_next_L100 at h
    refine zz_aload_n M 0 dX8_next_100 rfl rfl ?_
    refine zz_aload_n M 0 dX8_next_101 rfl rfl ?_
    refine zz_getI M f_X8_132 tM_0 rfl dX8_next_102 ?_
    refine zz_callVI (d' := 1) (As := [.int (σ.1 0 26)]) (rest := []) M l_X8_135 tM_0 rfl rfl dX8_next_105 rfl rfl (by decide) (Nat.le_of_ble_eq_true rfl) (by have hI := M.2.2.2.2.2.2.2.2; exact kX8_byteAt hI _  _ _ h) (fun r159 σ160 h => ?_)
    refine zz_i2l M dX8_next_108 ?_
    refine zz_ldc2 (v := 97) M k_X8_145 dX8_next_109 ?_
    refine zz_ldc2 (v := 122) M k_X8_147 dX8_next_112 ?_
    refine zz_callSI (d' := 1) (As := [.long ((r159 : Int32).toInt64), .long 97, .long 122]) (rest := []) M l_X8_92 dX8_next_115 rfl rfl (by decide) (Nat.le_of_ble_eq_true rfl) (by have hI := M.2.2.2.2.2.2.2.2; exact kX8_in hI _ _ _  _ _ h) (fun r161 σ162 h => ?_)
    refine zz_if_eq (y0 := 0) M 321 dX8_next_118 (by decide) (fun c => ?_) (fun c => ?_)
    · have h := zif (c := r161 = 0) h c
      refine zz_sub [] [] rfl ?_
      exact hK321  _ h
    · have h := zifn (c := r161 = 0) h c
      refine zz_aload_n M 0 dX8_next_121 rfl rfl ?_
      refine zz_dup M dX8_next_122 rfl ?_
      refine zz_getI M f_X8_132 tM_0 rfl dX8_next_123 ?_
      refine zz_iconst (v := 1) M dX8_next_126 (by decide) ?_
      refine zz_iadd M dX8_next_127 ?_
      refine zz_putI M f_X8_132 tM_0 rfl dX8_next_128 ?_
      refine zz_sg (fun σ163 eσ163 => ?_)
      have h := h σ163 eσ163
      refine zz_goto M 100 dX8_next_131 (by decide) ?_
      exact ih  _ h
def wX8_next  (σ : zSt) (Q : zSt → Prop) : Prop := wX8_next_L0 Q (fun  σ107 => ∀ σ108 : zSt, σ108 = zput σ107 0 28 (σ107.1 0 26) → (wX8_byteAt (σ108.1 0 26) σ108 (fun r109 σ110 => ∀ σ111 : zSt, σ111 = zput σ110 0 27 4 → (if 0 ≤ r109 then (wX8_in ((r109 : Int32).toInt64) 97 122 σ111 (fun r112 σ113 => if r112 = 0 then (wX8_in ((r109 : Int32).toInt64) 48 57 σ113 (fun r114 σ115 => if r114 = 0 then (if r109 = 40 then (∀ σ116 : zSt, σ116 = zput σ115 0 27 3 → (∀ σ117 : zSt, σ117 = zputL σ116 ((r109 : Int32).toInt64) → (∀ σ118 : zSt, σ118 = zput σ117 0 26 ((σ117.1 0 26) + 1) → (Q σ118)))) else (if r109 = 41 then (∀ σ119 : zSt, σ119 = zput σ115 0 27 3 → (∀ σ120 : zSt, σ120 = zputL σ119 ((r109 : Int32).toInt64) → (∀ σ121 : zSt, σ121 = zput σ120 0 26 ((σ120.1 0 26) + 1) → (Q σ121)))) else (if r109 = 59 then (∀ σ122 : zSt, σ122 = zput σ115 0 27 3 → (∀ σ123 : zSt, σ123 = zputL σ122 ((r109 : Int32).toInt64) → (∀ σ124 : zSt, σ124 = zput σ123 0 26 ((σ123.1 0 26) + 1) → (Q σ124)))) else (if r109 = 43 then (∀ σ125 : zSt, σ125 = zput σ115 0 27 3 → (∀ σ126 : zSt, σ126 = zputL σ125 ((r109 : Int32).toInt64) → (∀ σ127 : zSt, σ127 = zput σ126 0 26 ((σ126.1 0 26) + 1) → (Q σ127)))) else (if r109 = 45 then (∀ σ128 : zSt, σ128 = zput σ115 0 27 3 → (∀ σ129 : zSt, σ129 = zputL σ128 ((r109 : Int32).toInt64) → (∀ σ130 : zSt, σ130 = zput σ129 0 26 ((σ129.1 0 26) + 1) → (Q σ130)))) else (if r109 = 42 then (∀ σ131 : zSt, σ131 = zput σ115 0 27 3 → (∀ σ132 : zSt, σ132 = zputL σ131 ((r109 : Int32).toInt64) → (∀ σ133 : zSt, σ133 = zput σ132 0 26 ((σ132.1 0 26) + 1) → (Q σ133)))) else (if r109 = 60 then (∀ σ134 : zSt, σ134 = zput σ115 0 27 3 → (∀ σ135 : zSt, σ135 = zputL σ134 ((r109 : Int32).toInt64) → (∀ σ136 : zSt, σ136 = zput σ135 0 26 ((σ135.1 0 26) + 1) → (Q σ136)))) else (if r109 = 61 then (∀ σ137 : zSt, σ137 = zput σ115 0 27 3 → (∀ σ138 : zSt, σ138 = zputL σ137 ((r109 : Int32).toInt64) → (∀ σ139 : zSt, σ139 = zput σ138 0 26 ((σ138.1 0 26) + 1) → (Q σ139)))) else (Q σ115))))))))) else (∀ σ140 : zSt, σ140 = zput σ115 0 27 2 → (∀ σ141 : zSt, σ141 = zputL σ140 0 → (wX8_next_L160 Q (fun v154 σ155 => if v154 ≤ 4 then (∀ σ156 : zSt, σ156 = zput σ155 0 27 2 → (Q σ156)) else (∀ σ157 : zSt, σ157 = zput σ155 0 27 4 → (Q σ157)))  300 0 σ141))))) else (∀ σ158 : zSt, σ158 = zput σ113 0 27 1 → (wX8_next_L100 Q (fun  σ164 => Q σ164)  300  σ158)))) else (∀ σ165 : zSt, σ165 = zput σ111 0 27 0 → (∀ σ166 : zSt, σ166 = zput σ165 0 28 (σ165.1 0 25) → (Q σ166)))))))  300  σ
set_option maxRecDepth 20000 in
set_option maxHeartbeats 4000000 in
theorem kX8_next (hI : zInj tabM ad)   (σ : zSt) (Q : zSt → Prop) (h : wX8_next  σ Q) : zOkV l tabM D cA ad y 2 yX8_next cX8_next 3 none [.ref (ad 0)] σ Q := by
  refine zz_enter hI (by decide) (Nat.le_of_ble_eq_true rfl) (fun p e s m below meth c M => ?_)
  have M : zM p s m _ meth c cX8_next 3 RX8 none tabM D cA ad y := M
  refine zz_ls [(0, .ref (ad 0))] rfl ?_
  unfold wX8_next at h
  refine sX8_next_L0   M (fun  σ107 h => ?_) 300  _ h
  refine zz_aload_n M 0 dX8_next_39 rfl rfl ?_
  refine zz_aload_n M 0 dX8_next_40 rfl rfl ?_
  refine zz_getI M f_X8_132 tM_0 rfl dX8_next_41 ?_
  refine zz_putI M f_X8_139 tM_0 rfl dX8_next_44 ?_
  refine zz_sg (fun σ108 eσ108 => ?_)
  have h := h σ108 eσ108
  refine zz_aload_n M 0 dX8_next_47 rfl rfl ?_
  refine zz_aload_n M 0 dX8_next_48 rfl rfl ?_
  refine zz_getI M f_X8_132 tM_0 rfl dX8_next_49 ?_
  refine zz_callVI (d' := 1) (As := [.int (σ108.1 0 26)]) (rest := []) M l_X8_135 tM_0 rfl rfl dX8_next_52 rfl rfl (by decide) (Nat.le_of_ble_eq_true rfl) (by have hI := M.2.2.2.2.2.2.2.2; exact kX8_byteAt hI _  _ _ h) (fun r109 σ110 h => ?_)
  refine zz_istore_n M [(1, .int r109), (0, .ref (ad 0))] dX8_next_55 rfl (by decide) rfl ?_
  refine zz_aload_n M 1 dX8_next_56 rfl rfl ?_
  refine zz_iconst (v := 4) M dX8_next_57 (by decide) ?_
  refine zz_putI M f_X8_142 tM_0 rfl dX8_next_58 ?_
  refine zz_sg (fun σ111 eσ111 => ?_)
  have h := h σ111 eσ111
  refine zz_iload_n M 0 dX8_next_61 rfl rfl ?_
  refine zz_if_ge (y0 := 0) M 81 dX8_next_62 (by decide) (fun c => ?_) (fun c => ?_)
  · have h := zif (c := 0 ≤ r109) h c
    refine zz_iload_n M 0 dX8_next_81 rfl rfl ?_
    refine zz_i2l M dX8_next_82 ?_
    refine zz_ldc2 (v := 97) M k_X8_145 dX8_next_83 ?_
    refine zz_ldc2 (v := 122) M k_X8_147 dX8_next_86 ?_
    refine zz_callSI (d' := 1) (As := [.long ((r109 : Int32).toInt64), .long 97, .long 122]) (rest := []) M l_X8_92 dX8_next_89 rfl rfl (by decide) (Nat.le_of_ble_eq_true rfl) (by have hI := M.2.2.2.2.2.2.2.2; exact kX8_in hI _ _ _  _ _ h) (fun r112 σ113 h => ?_)
    refine zz_if_eq (y0 := 0) M 134 dX8_next_92 (by decide) (fun c => ?_) (fun c => ?_)
    · have h := zif (c := r112 = 0) h c
      refine zz_iload_n M 0 dX8_next_134 rfl rfl ?_
      refine zz_i2l M dX8_next_135 ?_
      refine zz_ldc2 (v := 48) M k_X8_149 dX8_next_136 ?_
      refine zz_ldc2 (v := 57) M k_X8_151 dX8_next_139 ?_
      refine zz_callSI (d' := 1) (As := [.long ((r109 : Int32).toInt64), .long 48, .long 57]) (rest := []) M l_X8_92 dX8_next_142 rfl rfl (by decide) (Nat.le_of_ble_eq_true rfl) (by have hI := M.2.2.2.2.2.2.2.2; exact kX8_in hI _ _ _  _ _ h) (fun r114 σ115 h => ?_)
      refine zz_if_eq (y0 := 0) M 252 dX8_next_145 (by decide) (fun c => ?_) (fun c => ?_)
      · have h := zif (c := r114 = 0) h c
        refine zz_iload_n M 0 dX8_next_252 rfl rfl ?_
        refine zz_bipush (v := 40) M dX8_next_253 (by decide) ?_
        refine zz_icmp_eq M 300 dX8_next_255 (by decide) (fun c => ?_) (fun c => ?_)
        · have h := zif (c := r109 = 40) h c
          refine zz_aload_n M 1 dX8_next_300 rfl rfl ?_
          refine zz_iconst (v := 3) M dX8_next_301 (by decide) ?_
          refine zz_putI M f_X8_142 tM_0 rfl dX8_next_302 ?_
          refine zz_sg (fun σ116 eσ116 => ?_)
          have h := h σ116 eσ116
          refine zz_aload_n M 1 dX8_next_305 rfl rfl ?_
          refine zz_iload_n M 0 dX8_next_306 rfl rfl ?_
          refine zz_i2l M dX8_next_307 ?_
          refine zz_putL M f_X8_153 tM_0 rfl zputL_u zputL_v dX8_next_308 ?_
          refine zz_sg (fun σ117 eσ117 => ?_)
          have h := h σ117 eσ117
          refine zz_aload_n M 1 dX8_next_311 rfl rfl ?_
          refine zz_dup M dX8_next_312 rfl ?_
          refine zz_getI M f_X8_132 tM_0 rfl dX8_next_313 ?_
          refine zz_iconst (v := 1) M dX8_next_316 (by decide) ?_
          refine zz_iadd M dX8_next_317 ?_
          refine zz_putI M f_X8_132 tM_0 rfl dX8_next_318 ?_
          refine zz_sg (fun σ118 eσ118 => ?_)
          have h := h σ118 eσ118
          exact zz_vret M dX8_next_321 h
        · have h := zifn (c := r109 = 40) h c
          refine zz_iload_n M 0 dX8_next_258 rfl rfl ?_
          refine zz_bipush (v := 41) M dX8_next_259 (by decide) ?_
          refine zz_icmp_eq M 300 dX8_next_261 (by decide) (fun c => ?_) (fun c => ?_)
          · have h := zif (c := r109 = 41) h c
            refine zz_aload_n M 1 dX8_next_300 rfl rfl ?_
            refine zz_iconst (v := 3) M dX8_next_301 (by decide) ?_
            refine zz_putI M f_X8_142 tM_0 rfl dX8_next_302 ?_
            refine zz_sg (fun σ119 eσ119 => ?_)
            have h := h σ119 eσ119
            refine zz_aload_n M 1 dX8_next_305 rfl rfl ?_
            refine zz_iload_n M 0 dX8_next_306 rfl rfl ?_
            refine zz_i2l M dX8_next_307 ?_
            refine zz_putL M f_X8_153 tM_0 rfl zputL_u zputL_v dX8_next_308 ?_
            refine zz_sg (fun σ120 eσ120 => ?_)
            have h := h σ120 eσ120
            refine zz_aload_n M 1 dX8_next_311 rfl rfl ?_
            refine zz_dup M dX8_next_312 rfl ?_
            refine zz_getI M f_X8_132 tM_0 rfl dX8_next_313 ?_
            refine zz_iconst (v := 1) M dX8_next_316 (by decide) ?_
            refine zz_iadd M dX8_next_317 ?_
            refine zz_putI M f_X8_132 tM_0 rfl dX8_next_318 ?_
            refine zz_sg (fun σ121 eσ121 => ?_)
            have h := h σ121 eσ121
            exact zz_vret M dX8_next_321 h
          · have h := zifn (c := r109 = 41) h c
            refine zz_iload_n M 0 dX8_next_264 rfl rfl ?_
            refine zz_bipush (v := 59) M dX8_next_265 (by decide) ?_
            refine zz_icmp_eq M 300 dX8_next_267 (by decide) (fun c => ?_) (fun c => ?_)
            · have h := zif (c := r109 = 59) h c
              refine zz_aload_n M 1 dX8_next_300 rfl rfl ?_
              refine zz_iconst (v := 3) M dX8_next_301 (by decide) ?_
              refine zz_putI M f_X8_142 tM_0 rfl dX8_next_302 ?_
              refine zz_sg (fun σ122 eσ122 => ?_)
              have h := h σ122 eσ122
              refine zz_aload_n M 1 dX8_next_305 rfl rfl ?_
              refine zz_iload_n M 0 dX8_next_306 rfl rfl ?_
              refine zz_i2l M dX8_next_307 ?_
              refine zz_putL M f_X8_153 tM_0 rfl zputL_u zputL_v dX8_next_308 ?_
              refine zz_sg (fun σ123 eσ123 => ?_)
              have h := h σ123 eσ123
              refine zz_aload_n M 1 dX8_next_311 rfl rfl ?_
              refine zz_dup M dX8_next_312 rfl ?_
              refine zz_getI M f_X8_132 tM_0 rfl dX8_next_313 ?_
              refine zz_iconst (v := 1) M dX8_next_316 (by decide) ?_
              refine zz_iadd M dX8_next_317 ?_
              refine zz_putI M f_X8_132 tM_0 rfl dX8_next_318 ?_
              refine zz_sg (fun σ124 eσ124 => ?_)
              have h := h σ124 eσ124
              exact zz_vret M dX8_next_321 h
            · have h := zifn (c := r109 = 59) h c
              refine zz_iload_n M 0 dX8_next_270 rfl rfl ?_
              refine zz_bipush (v := 43) M dX8_next_271 (by decide) ?_
              refine zz_icmp_eq M 300 dX8_next_273 (by decide) (fun c => ?_) (fun c => ?_)
              · have h := zif (c := r109 = 43) h c
                refine zz_aload_n M 1 dX8_next_300 rfl rfl ?_
                refine zz_iconst (v := 3) M dX8_next_301 (by decide) ?_
                refine zz_putI M f_X8_142 tM_0 rfl dX8_next_302 ?_
                refine zz_sg (fun σ125 eσ125 => ?_)
                have h := h σ125 eσ125
                refine zz_aload_n M 1 dX8_next_305 rfl rfl ?_
                refine zz_iload_n M 0 dX8_next_306 rfl rfl ?_
                refine zz_i2l M dX8_next_307 ?_
                refine zz_putL M f_X8_153 tM_0 rfl zputL_u zputL_v dX8_next_308 ?_
                refine zz_sg (fun σ126 eσ126 => ?_)
                have h := h σ126 eσ126
                refine zz_aload_n M 1 dX8_next_311 rfl rfl ?_
                refine zz_dup M dX8_next_312 rfl ?_
                refine zz_getI M f_X8_132 tM_0 rfl dX8_next_313 ?_
                refine zz_iconst (v := 1) M dX8_next_316 (by decide) ?_
                refine zz_iadd M dX8_next_317 ?_
                refine zz_putI M f_X8_132 tM_0 rfl dX8_next_318 ?_
                refine zz_sg (fun σ127 eσ127 => ?_)
                have h := h σ127 eσ127
                exact zz_vret M dX8_next_321 h
              · have h := zifn (c := r109 = 43) h c
                refine zz_iload_n M 0 dX8_next_276 rfl rfl ?_
                refine zz_bipush (v := 45) M dX8_next_277 (by decide) ?_
                refine zz_icmp_eq M 300 dX8_next_279 (by decide) (fun c => ?_) (fun c => ?_)
                · have h := zif (c := r109 = 45) h c
                  refine zz_aload_n M 1 dX8_next_300 rfl rfl ?_
                  refine zz_iconst (v := 3) M dX8_next_301 (by decide) ?_
                  refine zz_putI M f_X8_142 tM_0 rfl dX8_next_302 ?_
                  refine zz_sg (fun σ128 eσ128 => ?_)
                  have h := h σ128 eσ128
                  refine zz_aload_n M 1 dX8_next_305 rfl rfl ?_
                  refine zz_iload_n M 0 dX8_next_306 rfl rfl ?_
                  refine zz_i2l M dX8_next_307 ?_
                  refine zz_putL M f_X8_153 tM_0 rfl zputL_u zputL_v dX8_next_308 ?_
                  refine zz_sg (fun σ129 eσ129 => ?_)
                  have h := h σ129 eσ129
                  refine zz_aload_n M 1 dX8_next_311 rfl rfl ?_
                  refine zz_dup M dX8_next_312 rfl ?_
                  refine zz_getI M f_X8_132 tM_0 rfl dX8_next_313 ?_
                  refine zz_iconst (v := 1) M dX8_next_316 (by decide) ?_
                  refine zz_iadd M dX8_next_317 ?_
                  refine zz_putI M f_X8_132 tM_0 rfl dX8_next_318 ?_
                  refine zz_sg (fun σ130 eσ130 => ?_)
                  have h := h σ130 eσ130
                  exact zz_vret M dX8_next_321 h
                · have h := zifn (c := r109 = 45) h c
                  refine zz_iload_n M 0 dX8_next_282 rfl rfl ?_
                  refine zz_bipush (v := 42) M dX8_next_283 (by decide) ?_
                  refine zz_icmp_eq M 300 dX8_next_285 (by decide) (fun c => ?_) (fun c => ?_)
                  · have h := zif (c := r109 = 42) h c
                    refine zz_aload_n M 1 dX8_next_300 rfl rfl ?_
                    refine zz_iconst (v := 3) M dX8_next_301 (by decide) ?_
                    refine zz_putI M f_X8_142 tM_0 rfl dX8_next_302 ?_
                    refine zz_sg (fun σ131 eσ131 => ?_)
                    have h := h σ131 eσ131
                    refine zz_aload_n M 1 dX8_next_305 rfl rfl ?_
                    refine zz_iload_n M 0 dX8_next_306 rfl rfl ?_
                    refine zz_i2l M dX8_next_307 ?_
                    refine zz_putL M f_X8_153 tM_0 rfl zputL_u zputL_v dX8_next_308 ?_
                    refine zz_sg (fun σ132 eσ132 => ?_)
                    have h := h σ132 eσ132
                    refine zz_aload_n M 1 dX8_next_311 rfl rfl ?_
                    refine zz_dup M dX8_next_312 rfl ?_
                    refine zz_getI M f_X8_132 tM_0 rfl dX8_next_313 ?_
                    refine zz_iconst (v := 1) M dX8_next_316 (by decide) ?_
                    refine zz_iadd M dX8_next_317 ?_
                    refine zz_putI M f_X8_132 tM_0 rfl dX8_next_318 ?_
                    refine zz_sg (fun σ133 eσ133 => ?_)
                    have h := h σ133 eσ133
                    exact zz_vret M dX8_next_321 h
                  · have h := zifn (c := r109 = 42) h c
                    refine zz_iload_n M 0 dX8_next_288 rfl rfl ?_
                    refine zz_bipush (v := 60) M dX8_next_289 (by decide) ?_
                    refine zz_icmp_eq M 300 dX8_next_291 (by decide) (fun c => ?_) (fun c => ?_)
                    · have h := zif (c := r109 = 60) h c
                      refine zz_aload_n M 1 dX8_next_300 rfl rfl ?_
                      refine zz_iconst (v := 3) M dX8_next_301 (by decide) ?_
                      refine zz_putI M f_X8_142 tM_0 rfl dX8_next_302 ?_
                      refine zz_sg (fun σ134 eσ134 => ?_)
                      have h := h σ134 eσ134
                      refine zz_aload_n M 1 dX8_next_305 rfl rfl ?_
                      refine zz_iload_n M 0 dX8_next_306 rfl rfl ?_
                      refine zz_i2l M dX8_next_307 ?_
                      refine zz_putL M f_X8_153 tM_0 rfl zputL_u zputL_v dX8_next_308 ?_
                      refine zz_sg (fun σ135 eσ135 => ?_)
                      have h := h σ135 eσ135
                      refine zz_aload_n M 1 dX8_next_311 rfl rfl ?_
                      refine zz_dup M dX8_next_312 rfl ?_
                      refine zz_getI M f_X8_132 tM_0 rfl dX8_next_313 ?_
                      refine zz_iconst (v := 1) M dX8_next_316 (by decide) ?_
                      refine zz_iadd M dX8_next_317 ?_
                      refine zz_putI M f_X8_132 tM_0 rfl dX8_next_318 ?_
                      refine zz_sg (fun σ136 eσ136 => ?_)
                      have h := h σ136 eσ136
                      exact zz_vret M dX8_next_321 h
                    · have h := zifn (c := r109 = 60) h c
                      refine zz_iload_n M 0 dX8_next_294 rfl rfl ?_
                      refine zz_bipush (v := 61) M dX8_next_295 (by decide) ?_
                      refine zz_icmp_ne M 321 dX8_next_297 (by decide) (fun c => ?_) (fun c => ?_)
                      · have h := zifn (c := r109 = 61) h c
                        exact zz_vret M dX8_next_321 h
                      · have h := zif (c := r109 = 61) h c
                        refine zz_aload_n M 1 dX8_next_300 rfl rfl ?_
                        refine zz_iconst (v := 3) M dX8_next_301 (by decide) ?_
                        refine zz_putI M f_X8_142 tM_0 rfl dX8_next_302 ?_
                        refine zz_sg (fun σ137 eσ137 => ?_)
                        have h := h σ137 eσ137
                        refine zz_aload_n M 1 dX8_next_305 rfl rfl ?_
                        refine zz_iload_n M 0 dX8_next_306 rfl rfl ?_
                        refine zz_i2l M dX8_next_307 ?_
                        refine zz_putL M f_X8_153 tM_0 rfl zputL_u zputL_v dX8_next_308 ?_
                        refine zz_sg (fun σ138 eσ138 => ?_)
                        have h := h σ138 eσ138
                        refine zz_aload_n M 1 dX8_next_311 rfl rfl ?_
                        refine zz_dup M dX8_next_312 rfl ?_
                        refine zz_getI M f_X8_132 tM_0 rfl dX8_next_313 ?_
                        refine zz_iconst (v := 1) M dX8_next_316 (by decide) ?_
                        refine zz_iadd M dX8_next_317 ?_
                        refine zz_putI M f_X8_132 tM_0 rfl dX8_next_318 ?_
                        refine zz_sg (fun σ139 eσ139 => ?_)
                        have h := h σ139 eσ139
                        exact zz_vret M dX8_next_321 h
      · have h := zifn (c := r114 = 0) h c
        refine zz_aload_n M 1 dX8_next_148 rfl rfl ?_
        refine zz_iconst (v := 2) M dX8_next_149 (by decide) ?_
        refine zz_putI M f_X8_142 tM_0 rfl dX8_next_150 ?_
        refine zz_sg (fun σ140 eσ140 => ?_)
        have h := h σ140 eσ140
        refine zz_aload_n M 1 dX8_next_153 rfl rfl ?_
        refine zz_lconst (v := 0) M dX8_next_154 (by decide) ?_
        refine zz_putL M f_X8_153 tM_0 rfl zputL_u zputL_v dX8_next_155 ?_
        refine zz_sg (fun σ141 eσ141 => ?_)
        have h := h σ141 eσ141
        refine zz_iconst (v := 0) M dX8_next_158 (by decide) ?_
        refine zz_istore_n M [(2, .int 0), (1, .int r109), (0, .ref (ad 0))] dX8_next_159 rfl (by decide) rfl ?_
        refine zz_sub [(0, .ref (ad 0)), (2, .int 0)] [2, 0] rfl ?_
        refine sX8_next_L160   M (fun v154 σ155 h => ?_) 300 _ _ h
        refine zz_aload_n M 0 dX8_next_235 rfl rfl ?_
        refine zz_iload_n M 1 dX8_next_236 rfl rfl ?_
        refine zz_iconst (v := 4) M dX8_next_237 (by decide) ?_
        refine zz_icmp_le M 245 dX8_next_238 (by decide) (fun c => ?_) (fun c => ?_)
        · have h := zif (c := v154 ≤ 4) h c
          refine zz_iconst (v := 2) M dX8_next_245 (by decide) ?_
          refine zz_putI M f_X8_142 tM_0 rfl dX8_next_246 ?_
          refine zz_sg (fun σ156 eσ156 => ?_)
          have h := h σ156 eσ156
          refine zz_goto M 321 dX8_next_249 (by decide) ?_
          exact zz_vret M dX8_next_321 h
        · have h := zifn (c := v154 ≤ 4) h c
          refine zz_iconst (v := 4) M dX8_next_241 (by decide) ?_
          refine zz_goto M 246 dX8_next_242 (by decide) ?_
          refine zz_putI M f_X8_142 tM_0 rfl dX8_next_246 ?_
          refine zz_sg (fun σ157 eσ157 => ?_)
          have h := h σ157 eσ157
          refine zz_goto M 321 dX8_next_249 (by decide) ?_
          exact zz_vret M dX8_next_321 h
    · have h := zifn (c := r112 = 0) h c
      refine zz_aload_n M 1 dX8_next_95 rfl rfl ?_
      refine zz_iconst (v := 1) M dX8_next_96 (by decide) ?_
      refine zz_putI M f_X8_142 tM_0 rfl dX8_next_97 ?_
      refine zz_sg (fun σ158 eσ158 => ?_)
      have h := h σ158 eσ158
      refine zz_sub [(0, .ref (ad 0))] [1] rfl ?_
      refine sX8_next_L100   M (fun  σ164 h => ?_) 300  _ h
      exact zz_vret M dX8_next_321 h
  · have h := zifn (c := 0 ≤ r109) h c
    refine zz_aload_n M 1 dX8_next_65 rfl rfl ?_
    refine zz_iconst (v := 0) M dX8_next_66 (by decide) ?_
    refine zz_putI M f_X8_142 tM_0 rfl dX8_next_67 ?_
    refine zz_sg (fun σ165 eσ165 => ?_)
    have h := h σ165 eσ165
    refine zz_aload_n M 1 dX8_next_70 rfl rfl ?_
    refine zz_aload_n M 1 dX8_next_71 rfl rfl ?_
    refine zz_getI M f_X8_126 tM_0 rfl dX8_next_72 ?_
    refine zz_putI M f_X8_139 tM_0 rfl dX8_next_75 ?_
    refine zz_sg (fun σ166 eσ166 => ?_)
    have h := h σ166 eσ166
    refine zz_goto M 321 dX8_next_78 (by decide) ?_
    exact zz_vret M dX8_next_321 h
def wX8_isLetter (x1 : Int32) (x2 : Int32) (σ : zSt) (Q : Int32 → zSt → Prop) : Prop := if (σ.1 0 26) ≤ ((σ.1 0 28) + x1) then (if x2 = 0 then (Q 1 σ) else (Q 0 σ)) else (wX8_byteAt ((σ.1 0 28) + x1) σ (fun r101 σ102 => if r101 = x2 then (Q 1 σ102) else (Q 0 σ102)))
set_option maxRecDepth 20000 in
set_option maxHeartbeats 4000000 in
theorem kX8_isLetter (hI : zInj tabM ad) (x1 : Int32) (x2 : Int32)  (σ : zSt) (Q : Int32 → zSt → Prop) (h : wX8_isLetter x1 x2 σ Q) : zOkI l tabM D cA ad y 2 yX8_isLetter cX8_isLetter 3 (some .boolean) [.ref (ad 0), .int x1, .int x2] σ Q := by
  refine zz_enter hI (by decide) (Nat.le_of_ble_eq_true rfl) (fun p e s m below meth c M => ?_)
  have M : zM p s m _ meth c cX8_isLetter 3 RX8 (some .boolean) tabM D cA ad y := M
  refine zz_ls [(0, .ref (ad 0)), (1, .int x1), (2, .int x2)] rfl ?_
  unfold wX8_isLetter at h
  refine zz_aload_n M 0 dX8_isLetter_0 rfl rfl ?_
  refine zz_getI M f_X8_139 tM_0 rfl dX8_isLetter_1 ?_
  refine zz_iload_n M 1 dX8_isLetter_4 rfl rfl ?_
  refine zz_iadd M dX8_isLetter_5 ?_
  refine zz_aload_n M 0 dX8_isLetter_6 rfl rfl ?_
  refine zz_getI M f_X8_132 tM_0 rfl dX8_isLetter_7 ?_
  refine zz_icmp_ge M 35 dX8_isLetter_10 (by decide) (fun c => ?_) (fun c => ?_)
  · have h := zif (c := (σ.1 0 26) ≤ ((σ.1 0 28) + x1)) h c
    refine zz_iload_n M 2 dX8_isLetter_35 rfl rfl ?_
    refine zz_if_ne (y0 := 0) M 43 dX8_isLetter_36 (by decide) (fun c => ?_) (fun c => ?_)
    · have h := zifn (c := x2 = 0) h c
      refine zz_iconst (v := 0) M dX8_isLetter_43 (by decide) ?_
      exact zz_zret M dX8_isLetter_44 (Or.inl rfl) h
    · have h := zif (c := x2 = 0) h c
      refine zz_iconst (v := 1) M dX8_isLetter_39 (by decide) ?_
      refine zz_goto M 44 dX8_isLetter_40 (by decide) ?_
      exact zz_zret M dX8_isLetter_44 (Or.inr rfl) h
  · have h := zifn (c := (σ.1 0 26) ≤ ((σ.1 0 28) + x1)) h c
    refine zz_aload_n M 0 dX8_isLetter_13 rfl rfl ?_
    refine zz_aload_n M 0 dX8_isLetter_14 rfl rfl ?_
    refine zz_getI M f_X8_139 tM_0 rfl dX8_isLetter_15 ?_
    refine zz_iload_n M 1 dX8_isLetter_18 rfl rfl ?_
    refine zz_iadd M dX8_isLetter_19 ?_
    refine zz_callVI (d' := 1) (As := [.int ((σ.1 0 28) + x1)]) (rest := []) M l_X8_135 tM_0 rfl rfl dX8_isLetter_20 rfl rfl (by decide) (Nat.le_of_ble_eq_true rfl) (by have hI := M.2.2.2.2.2.2.2.2; exact kX8_byteAt hI _  _ _ h) (fun r101 σ102 h => ?_)
    refine zz_iload_n M 2 dX8_isLetter_23 rfl rfl ?_
    refine zz_icmp_ne M 31 dX8_isLetter_24 (by decide) (fun c => ?_) (fun c => ?_)
    · have h := zifn (c := r101 = x2) h c
      refine zz_iconst (v := 0) M dX8_isLetter_31 (by decide) ?_
      refine zz_goto M 44 dX8_isLetter_32 (by decide) ?_
      exact zz_zret M dX8_isLetter_44 (Or.inl rfl) h
    · have h := zif (c := r101 = x2) h c
      refine zz_iconst (v := 1) M dX8_isLetter_27 (by decide) ?_
      refine zz_goto M 44 dX8_isLetter_28 (by decide) ?_
      exact zz_zret M dX8_isLetter_44 (Or.inr rfl) h
end
