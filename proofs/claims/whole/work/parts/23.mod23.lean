section
variable {p : Program} {l : Launch} {e : Env} {s : State} {m : MethodId} {args : Array Value} {below : List Frame} {meth : Method} {c : Code} {D : va_G} {cA : Nat → ClassId} {ad : Nat → Nat} {y : zX}
def wX8_master (x1 : Int32) (x2 : Int32) (σ : zSt) (Q : Int32 → zSt → Prop) : Prop := ∀ a101 : Int64, a101 = ((x1 : Int32).toInt64) → (wX8_in a101 0 5 σ (fun r102 σ103 => if r102 = 0 then (Q (-2) σ103) else (∀ a104 : Int64, a104 = ((x2 : Int32).toInt64) → (wX8_in a104 0 9 σ103 (fun r105 σ106 => if r105 = 0 then (Q (-2) σ106) else (if (σ106.1 0 16) = 4 then (Q (-4) σ106) else (vp_in (σ106.1 0 16) 4 ∧ (∀ σ107 : zSt, σ107 = zput σ106 7 (σ106.1 0 16 : Int32).toNatClampNeg x1 → (vp_in (σ107.1 0 16) 4 ∧ (∀ σ108 : zSt, σ108 = zput σ107 8 (σ107.1 0 16 : Int32).toNatClampNeg x2 → (∀ σ109 : zSt, σ109 = zput σ108 0 16 ((σ108.1 0 16) + 1) → (Q ((σ109.1 0 16) - 1) σ109))))))))))))
set_option maxRecDepth 20000 in
set_option maxHeartbeats 4000000 in
theorem kX8_master (hI : zInj tabM ad) (x1 : Int32) (x2 : Int32)  (σ : zSt) (Q : Int32 → zSt → Prop) (h : wX8_master x1 x2 σ Q) : zOkI l tabM D cA ad y 2 yX8_master cX8_master 3 (some .int) [.ref (ad 0), .int x1, .int x2] σ Q := by
  refine zz_enter hI (by decide) (Nat.le_of_ble_eq_true rfl) (fun p e s m below meth c M => ?_)
  have M : zM p s m _ meth c cX8_master 3 RX8 (some .int) tabM D cA ad y := M
  refine zz_ls [(0, .ref (ad 0)), (1, .int x1), (2, .int x2)] rfl ?_
  unfold wX8_master at h
  refine zz_iload_n M 1 dX8_master_0 rfl rfl ?_
  refine zz_i2l M dX8_master_1 ?_
  refine zz_lconst (v := 0) M dX8_master_2 (by decide) ?_
  refine zz_ldc2 (v := 5) M k_X8_119 dX8_master_3 ?_
  obtain ⟨a101, ea101⟩ : ∃ z : Int64, z = ((x1 : Int32).toInt64) := ⟨_, rfl⟩
  have h := h a101 ea101
  refine zz_st [.long 5, .long 0, .long a101] (by rw [ea101]) ?_
  refine zz_callSI (d' := 1) (As := [.long a101, .long 0, .long 5]) (rest := []) M l_X8_92 dX8_master_6 rfl rfl (by decide) (Nat.le_of_ble_eq_true rfl) (by have hI := M.2.2.2.2.2.2.2.2; exact kX8_in hI _ _ _  _ _ h) (fun r102 σ103 h => ?_)
  refine zz_if_eq (y0 := 0) M 24 dX8_master_9 (by decide) (fun c => ?_) (fun c => ?_)
  · have h := zif (c := r102 = 0) h c
    refine zz_bipush (v := (-2)) M dX8_master_24 (by decide) ?_
    exact zz_iret M dX8_master_26 h
  · have h := zifn (c := r102 = 0) h c
    refine zz_iload_n M 2 dX8_master_12 rfl rfl ?_
    refine zz_i2l M dX8_master_13 ?_
    refine zz_lconst (v := 0) M dX8_master_14 (by decide) ?_
    refine zz_ldc2 (v := 9) M k_X8_106 dX8_master_15 ?_
    obtain ⟨a104, ea104⟩ : ∃ z : Int64, z = ((x2 : Int32).toInt64) := ⟨_, rfl⟩
    have h := h a104 ea104
    refine zz_st [.long 9, .long 0, .long a104] (by rw [ea104]) ?_
    refine zz_callSI (d' := 1) (As := [.long a104, .long 0, .long 9]) (rest := []) M l_X8_92 dX8_master_18 rfl rfl (by decide) (Nat.le_of_ble_eq_true rfl) (by have hI := M.2.2.2.2.2.2.2.2; exact kX8_in hI _ _ _  _ _ h) (fun r105 σ106 h => ?_)
    refine zz_if_ne (y0 := 0) M 27 dX8_master_21 (by decide) (fun c => ?_) (fun c => ?_)
    · have h := zifn (c := r105 = 0) h c
      refine zz_aload_n M 0 dX8_master_27 rfl rfl ?_
      refine zz_getI M f_X8_114 tM_0 rfl dX8_master_28 ?_
      refine zz_iconst (v := 4) M dX8_master_31 (by decide) ?_
      refine zz_icmp_ne M 38 dX8_master_32 (by decide) (fun c => ?_) (fun c => ?_)
      · have h := zifn (c := (σ106.1 0 16) = 4) h c
        refine zz_aload_n M 0 dX8_master_38 rfl rfl ?_
        refine zz_getR M f_X8_38 tM_0 rfl dX8_master_39 ?_
        refine zz_aload_n M 0 dX8_master_42 rfl rfl ?_
        refine zz_getI M f_X8_114 tM_0 rfl dX8_master_43 ?_
        refine zz_iload_n M 1 dX8_master_46 rfl rfl ?_
        refine zz_iast M tM_7 h.1 dX8_master_47 ?_
        have h := h.2
        refine zz_sg (fun σ107 eσ107 => ?_)
        have h := h σ107 eσ107
        refine zz_aload_n M 0 dX8_master_48 rfl rfl ?_
        refine zz_getR M f_X8_41 tM_0 rfl dX8_master_49 ?_
        refine zz_aload_n M 0 dX8_master_52 rfl rfl ?_
        refine zz_getI M f_X8_114 tM_0 rfl dX8_master_53 ?_
        refine zz_iload_n M 2 dX8_master_56 rfl rfl ?_
        refine zz_iast M tM_8 h.1 dX8_master_57 ?_
        have h := h.2
        refine zz_sg (fun σ108 eσ108 => ?_)
        have h := h σ108 eσ108
        refine zz_aload_n M 0 dX8_master_58 rfl rfl ?_
        refine zz_dup M dX8_master_59 rfl ?_
        refine zz_getI M f_X8_114 tM_0 rfl dX8_master_60 ?_
        refine zz_iconst (v := 1) M dX8_master_63 (by decide) ?_
        refine zz_iadd M dX8_master_64 ?_
        refine zz_putI M f_X8_114 tM_0 rfl dX8_master_65 ?_
        refine zz_sg (fun σ109 eσ109 => ?_)
        have h := h σ109 eσ109
        refine zz_aload_n M 0 dX8_master_68 rfl rfl ?_
        refine zz_getI M f_X8_114 tM_0 rfl dX8_master_69 ?_
        refine zz_iconst (v := 1) M dX8_master_72 (by decide) ?_
        refine zz_isub M dX8_master_73 ?_
        exact zz_iret M dX8_master_74 h
      · have h := zif (c := (σ106.1 0 16) = 4) h c
        refine zz_bipush (v := (-4)) M dX8_master_35 (by decide) ?_
        exact zz_iret M dX8_master_37 h
    · have h := zif (c := r105 = 0) h c
      refine zz_bipush (v := (-2)) M dX8_master_24 (by decide) ?_
      exact zz_iret M dX8_master_26 h
def wX8_feed (x1 : Int32) (σ : zSt) (Q : Int32 → zSt → Prop) : Prop := ∀ a101 : Int64, a101 = ((x1 : Int32).toInt64) → (wX8_in a101 0 255 σ (fun r102 σ103 => if r102 = 0 then (Q (-2) σ103) else (if (σ103.1 0 6) = 160 then (Q (-4) σ103) else (vp_in (σ103.1 0 6) 160 ∧ (∀ σ104 : zSt, σ104 = zput σ103 3 (σ103.1 0 6 : Int32).toNatClampNeg x1 → (∀ σ105 : zSt, σ105 = zput σ104 0 6 ((σ104.1 0 6) + 1) → (Q (σ105.1 0 6) σ105)))))))
set_option maxRecDepth 20000 in
set_option maxHeartbeats 4000000 in
theorem kX8_feed (hI : zInj tabM ad) (x1 : Int32)  (σ : zSt) (Q : Int32 → zSt → Prop) (h : wX8_feed x1 σ Q) : zOkI l tabM D cA ad y 2 yX8_feed cX8_feed 2 (some .int) [.ref (ad 0), .int x1] σ Q := by
  refine zz_enter hI (by decide) (Nat.le_of_ble_eq_true rfl) (fun p e s m below meth c M => ?_)
  have M : zM p s m _ meth c cX8_feed 2 RX8 (some .int) tabM D cA ad y := M
  refine zz_ls [(0, .ref (ad 0)), (1, .int x1)] rfl ?_
  unfold wX8_feed at h
  refine zz_iload_n M 1 dX8_feed_0 rfl rfl ?_
  refine zz_i2l M dX8_feed_1 ?_
  refine zz_lconst (v := 0) M dX8_feed_2 (by decide) ?_
  refine zz_ldc2 (v := 255) M k_X8_121 dX8_feed_3 ?_
  obtain ⟨a101, ea101⟩ : ∃ z : Int64, z = ((x1 : Int32).toInt64) := ⟨_, rfl⟩
  have h := h a101 ea101
  refine zz_st [.long 255, .long 0, .long a101] (by rw [ea101]) ?_
  refine zz_callSI (d' := 1) (As := [.long a101, .long 0, .long 255]) (rest := []) M l_X8_92 dX8_feed_6 rfl rfl (by decide) (Nat.le_of_ble_eq_true rfl) (by have hI := M.2.2.2.2.2.2.2.2; exact kX8_in hI _ _ _  _ _ h) (fun r102 σ103 h => ?_)
  refine zz_if_ne (y0 := 0) M 15 dX8_feed_9 (by decide) (fun c => ?_) (fun c => ?_)
  · have h := zifn (c := r102 = 0) h c
    refine zz_aload_n M 0 dX8_feed_15 rfl rfl ?_
    refine zz_getI M f_X8_123 tM_0 rfl dX8_feed_16 ?_
    refine zz_sipush (v := 160) M dX8_feed_19 (by decide) ?_
    refine zz_icmp_ne M 28 dX8_feed_22 (by decide) (fun c => ?_) (fun c => ?_)
    · have h := zifn (c := (σ103.1 0 6) = 160) h c
      refine zz_aload_n M 0 dX8_feed_28 rfl rfl ?_
      refine zz_getR M f_X8_20 tM_0 rfl dX8_feed_29 ?_
      refine zz_aload_n M 0 dX8_feed_32 rfl rfl ?_
      refine zz_getI M f_X8_123 tM_0 rfl dX8_feed_33 ?_
      refine zz_iload_n M 1 dX8_feed_36 rfl rfl ?_
      refine zz_iast M tM_3 h.1 dX8_feed_37 ?_
      have h := h.2
      refine zz_sg (fun σ104 eσ104 => ?_)
      have h := h σ104 eσ104
      refine zz_aload_n M 0 dX8_feed_38 rfl rfl ?_
      refine zz_dup M dX8_feed_39 rfl ?_
      refine zz_getI M f_X8_123 tM_0 rfl dX8_feed_40 ?_
      refine zz_iconst (v := 1) M dX8_feed_43 (by decide) ?_
      refine zz_iadd M dX8_feed_44 ?_
      refine zz_putI M f_X8_123 tM_0 rfl dX8_feed_45 ?_
      refine zz_sg (fun σ105 eσ105 => ?_)
      have h := h σ105 eσ105
      refine zz_aload_n M 0 dX8_feed_48 rfl rfl ?_
      refine zz_getI M f_X8_123 tM_0 rfl dX8_feed_49 ?_
      exact zz_iret M dX8_feed_52 h
    · have h := zif (c := (σ103.1 0 6) = 160) h c
      refine zz_bipush (v := (-4)) M dX8_feed_25 (by decide) ?_
      exact zz_iret M dX8_feed_27 h
  · have h := zif (c := r102 = 0) h c
    refine zz_bipush (v := (-2)) M dX8_feed_12 (by decide) ?_
    exact zz_iret M dX8_feed_14 h
def wX8_byteAt (x1 : Int32) (σ : zSt) (Q : Int32 → zSt → Prop) : Prop := if (σ.1 0 25) ≤ x1 then (Q (-1) σ) else (vp_in ((σ.1 0 24) + x1) 960 ∧ (Q (σ.1 1 ((σ.1 0 24) + x1 : Int32).toNatClampNeg) σ))
set_option maxRecDepth 20000 in
set_option maxHeartbeats 4000000 in
theorem kX8_byteAt (hI : zInj tabM ad) (x1 : Int32)  (σ : zSt) (Q : Int32 → zSt → Prop) (h : wX8_byteAt x1 σ Q) : zOkI l tabM D cA ad y 1 yX8_byteAt cX8_byteAt 2 (some .int) [.ref (ad 0), .int x1] σ Q := by
  refine zz_enter hI (by decide) (Nat.le_of_ble_eq_true rfl) (fun p e s m below meth c M => ?_)
  have M : zM p s m _ meth c cX8_byteAt 2 RX8 (some .int) tabM D cA ad y := M
  refine zz_ls [(0, .ref (ad 0)), (1, .int x1)] rfl ?_
  unfold wX8_byteAt at h
  refine zz_iload_n M 1 dX8_byteAt_0 rfl rfl ?_
  refine zz_aload_n M 0 dX8_byteAt_1 rfl rfl ?_
  refine zz_getI M f_X8_126 tM_0 rfl dX8_byteAt_2 ?_
  refine zz_icmp_ge M 22 dX8_byteAt_5 (by decide) (fun c => ?_) (fun c => ?_)
  · have h := zif (c := (σ.1 0 25) ≤ x1) h c
    refine zz_iconst (v := (-1)) M dX8_byteAt_22 (by decide) ?_
    exact zz_iret M dX8_byteAt_23 h
  · have h := zifn (c := (σ.1 0 25) ≤ x1) h c
    refine zz_aload_n M 0 dX8_byteAt_8 rfl rfl ?_
    refine zz_getR M f_X8_13 tM_0 rfl dX8_byteAt_9 ?_
    refine zz_aload_n M 0 dX8_byteAt_12 rfl rfl ?_
    refine zz_getI M f_X8_129 tM_0 rfl dX8_byteAt_13 ?_
    refine zz_iload_n M 1 dX8_byteAt_16 rfl rfl ?_
    refine zz_iadd M dX8_byteAt_17 ?_
    refine zz_iald M tM_1 h.1 dX8_byteAt_18 ?_
    have h := h.2
    refine zz_goto M 23 dX8_byteAt_19 (by decide) ?_
    exact zz_iret M dX8_byteAt_23 h
def wX8_next_L0 (Q : zSt → Prop) (K39 : zSt → Prop)  : Nat → zSt → Prop
  | 0, _ => False
  | n + 1, σ => ∀ a101 : Int32, a101 = (σ.1 0 26) → (wX8_byteAt a101 σ (fun r102 σ103 => if r102 = 32 then (∀ σ104 : zSt, σ104 = zput σ103 0 26 ((σ103.1 0 26) + 1) → (wX8_next_L0 Q K39  n  σ104)) else (∀ a105 : Int32, a105 = (σ103.1 0 26) → (wX8_byteAt a105 σ103 (fun r106 σ107 => if r106 = 10 then (∀ σ108 : zSt, σ108 = zput σ107 0 26 ((σ107.1 0 26) + 1) → (wX8_next_L0 Q K39  n  σ108)) else (K39  σ107))))))
set_option maxRecDepth 20000 in
set_option maxHeartbeats 4000000 in
theorem sX8_next_L0 {Q : zSt → Prop} {K39 : zSt → Prop}   (M : zM p s m args meth c cX8_next 3 RX8 none tabM D cA ad y) (hK39 : ∀ (σ : zSt), K39  σ → zG p l e (zrm 2) s m args below meth c 3 tabM D cA ad (MQ below (va_Qv Q (fun σ' t => va_P D vwCl (zws tabM cA ad σ') t.heap) (zIn tabM ad)) args s 0 0 (zIn tabM ad)) 39 [(0, .ref (ad 0))] [] σ) : ∀ (n : Nat) (σ : zSt), wX8_next_L0 Q K39  n  σ → zG p l e (zrm 2) s m args below meth c 3 tabM D cA ad (MQ below (va_Qv Q (fun σ' t => va_P D vwCl (zws tabM cA ad σ') t.heap) (zIn tabM ad)) args s 0 0 (zIn tabM ad)) 0 [(0, .ref (ad 0))] [] σ := by
  intro n
  induction n with
  | zero => intro  σ h; exact absurd h (by simp [wX8_next_L0])
  | succ n ih =>
    intro  σ h
    unfold wX8_next_L0 at h
    refine zz_aload_n M 0 dX8_next_0 rfl rfl ?_
    refine zz_aload_n M 0 dX8_next_1 rfl rfl ?_
    refine zz_getI M f_X8_132 tM_0 rfl dX8_next_2 ?_
    obtain ⟨a101, ea101⟩ : ∃ z : Int32, z = (σ.1 0 26) := ⟨_, rfl⟩
    have h := h a101 ea101
    refine zz_st [.int a101, .ref (ad 0)] (by rw [ea101]) ?_
    refine zz_callVI (d' := 1) (As := [.int a101]) (rest := []) M l_X8_135 tM_0 rfl rfl dX8_next_5 rfl rfl (by decide) (Nat.le_of_ble_eq_true rfl) (by have hI := M.2.2.2.2.2.2.2.2; exact kX8_byteAt hI _  _ _ h) (fun r102 σ103 h => ?_)
    refine zz_bipush (v := 32) M dX8_next_8 (by decide) ?_
    refine zz_icmp_eq M 26 dX8_next_10 (by decide) (fun c => ?_) (fun c => ?_)
    · have h := zif (c := r102 = 32) h c
      refine zz_aload_n M 0 dX8_next_26 rfl rfl ?_
      refine zz_dup M dX8_next_27 rfl ?_
      refine zz_getI M f_X8_132 tM_0 rfl dX8_next_28 ?_
      refine zz_iconst (v := 1) M dX8_next_31 (by decide) ?_
      refine zz_iadd M dX8_next_32 ?_
      refine zz_putI M f_X8_132 tM_0 rfl dX8_next_33 ?_
      refine zz_sg (fun σ104 eσ104 => ?_)
      have h := h σ104 eσ104
      refine zz_goto M 0 dX8_next_36 (by decide) ?_
      exact ih  _ h
    · have h := zifn (c := r102 = 32) h c
      refine zz_aload_n M 0 dX8_next_13 rfl rfl ?_
      refine zz_aload_n M 0 dX8_next_14 rfl rfl ?_
      refine zz_getI M f_X8_132 tM_0 rfl dX8_next_15 ?_
      obtain ⟨a105, ea105⟩ : ∃ z : Int32, z = (σ103.1 0 26) := ⟨_, rfl⟩
      have h := h a105 ea105
      refine zz_st [.int a105, .ref (ad 0)] (by rw [ea105]) ?_
      refine zz_callVI (d' := 1) (As := [.int a105]) (rest := []) M l_X8_135 tM_0 rfl rfl dX8_next_18 rfl rfl (by decide) (Nat.le_of_ble_eq_true rfl) (by have hI := M.2.2.2.2.2.2.2.2; exact kX8_byteAt hI _  _ _ h) (fun r106 σ107 h => ?_)
      refine zz_bipush (v := 10) M dX8_next_21 (by decide) ?_
      refine zz_icmp_ne M 39 dX8_next_23 (by decide) (fun c => ?_) (fun c => ?_)
      · have h := zifn (c := r106 = 10) h c
        exact hK39  _ h
      · have h := zif (c := r106 = 10) h c
        refine zz_aload_n M 0 dX8_next_26 rfl rfl ?_
        refine zz_dup M dX8_next_27 rfl ?_
        refine zz_getI M f_X8_132 tM_0 rfl dX8_next_28 ?_
        refine zz_iconst (v := 1) M dX8_next_31 (by decide) ?_
        refine zz_iadd M dX8_next_32 ?_
        refine zz_putI M f_X8_132 tM_0 rfl dX8_next_33 ?_
        refine zz_sg (fun σ108 eσ108 => ?_)
        have h := h σ108 eσ108
        refine zz_goto M 0 dX8_next_36 (by decide) ?_
        exact ih  _ h
def wX8_next_L160 (Q : zSt → Prop) (K235 : Int32 → zSt → Prop)  : Nat → Int32 → zSt → Prop
  | 0, _, _ => False
  | n + 1, x2, σ => ∀ a147 : Int32, a147 = (σ.1 0 26) → (wX8_byteAt a147 σ (fun r148 σ149 => ∀ a150 : Int64, a150 = ((r148 : Int32).toInt64) → (wX8_in a150 48 57 σ149 (fun r151 σ152 => if r151 = 0 then (K235 x2 σ152) else (if 4 ≤ x2 then (∀ σ153 : zSt, σ153 = zputL σ152 (σ152.2) → (∀ x154 : Int32, x154 = x2 + 1 → (∀ σ155 : zSt, σ155 = zput σ153 0 26 ((σ153.1 0 26) + 1) → (wX8_next_L160 Q K235  n x154 σ155)))) else (∀ a156 : Int32, a156 = (σ152.1 0 26) → (wX8_byteAt a156 σ152 (fun r157 σ158 => ∀ σ159 : zSt, σ159 = zputL σ158 (((10 * (σ152.2)) + ((r157 : Int32).toInt64)) - 48) → (∀ x160 : Int32, x160 = x2 + 1 → (∀ σ161 : zSt, σ161 = zput σ159 0 26 ((σ159.1 0 26) + 1) → (wX8_next_L160 Q K235  n x160 σ161)))))))))))
set_option maxRecDepth 20000 in
set_option maxHeartbeats 4000000 in
theorem sX8_next_L160 {Q : zSt → Prop} {K235 : Int32 → zSt → Prop}   (M : zM p s m args meth c cX8_next 3 RX8 none tabM D cA ad y) (hK235 : ∀ (v2 : Int32) (σ : zSt), K235 v2 σ → zG p l e (zrm 2) s m args below meth c 3 tabM D cA ad (MQ below (va_Qv Q (fun σ' t => va_P D vwCl (zws tabM cA ad σ') t.heap) (zIn tabM ad)) args s 0 0 (zIn tabM ad)) 235 [(0, .ref (ad 0)), (2, .int v2)] [] σ) : ∀ (n : Nat) (x2 : Int32) (σ : zSt), wX8_next_L160 Q K235  n x2 σ → zG p l e (zrm 2) s m args below meth c 3 tabM D cA ad (MQ below (va_Qv Q (fun σ' t => va_P D vwCl (zws tabM cA ad σ') t.heap) (zIn tabM ad)) args s 0 0 (zIn tabM ad)) 160 [(0, .ref (ad 0)), (2, .int x2)] [] σ := by
  intro n
  induction n with
  | zero => intro x2 σ h; exact absurd h (by simp [wX8_next_L160])
  | succ n ih =>
    intro x2 σ h
    unfold wX8_next_L160 at h
    refine zz_aload_n M 0 dX8_next_160 rfl rfl ?_
    refine zz_aload_n M 0 dX8_next_161 rfl rfl ?_
    refine zz_getI M f_X8_132 tM_0 rfl dX8_next_162 ?_
    obtain ⟨a147, ea147⟩ : ∃ z : Int32, z = (σ.1 0 26) := ⟨_, rfl⟩
    have h := h a147 ea147
    refine zz_st [.int a147, .ref (ad 0)] (by rw [ea147]) ?_
    refine zz_callVI (d' := 1) (As := [.int a147]) (rest := []) M l_X8_135 tM_0 rfl rfl dX8_next_165 rfl rfl (by decide) (Nat.le_of_ble_eq_true rfl) (by have hI := M.2.2.2.2.2.2.2.2; exact kX8_byteAt hI _  _ _ h) (fun r148 σ149 h => ?_)
    refine zz_i2l M dX8_next_168 ?_
    refine zz_ldc2 (v := 48) M k_X8_149 dX8_next_169 ?_
    refine zz_ldc2 (v := 57) M k_X8_151 dX8_next_172 ?_
    obtain ⟨a150, ea150⟩ : ∃ z : Int64, z = ((r148 : Int32).toInt64) := ⟨_, rfl⟩
    have h := h a150 ea150
    refine zz_st [.long 57, .long 48, .long a150] (by rw [ea150]) ?_
    refine zz_callSI (d' := 1) (As := [.long a150, .long 48, .long 57]) (rest := []) M l_X8_92 dX8_next_175 rfl rfl (by decide) (Nat.le_of_ble_eq_true rfl) (by have hI := M.2.2.2.2.2.2.2.2; exact kX8_in hI _ _ _  _ _ h) (fun r151 σ152 h => ?_)
    refine zz_if_eq (y0 := 0) M 235 dX8_next_178 (by decide) (fun c => ?_) (fun c => ?_)
    · have h := zif (c := r151 = 0) h c
      exact hK235 _ _ h
    · have h := zifn (c := r151 = 0) h c
      refine zz_aload_n M 0 dX8_next_181 rfl rfl ?_
      refine zz_iload_n M 1 dX8_next_182 rfl rfl ?_
      refine zz_iconst (v := 4) M dX8_next_183 (by decide) ?_
      refine zz_icmp_ge M 212 dX8_next_184 (by decide) (fun c => ?_) (fun c => ?_)
      · have h := zif (c := 4 ≤ x2) h c
        refine zz_aload_n M 0 dX8_next_212 rfl rfl ?_
        refine zz_getL M f_X8_153 tM_0 rfl dX8_next_213 ?_
        refine zz_putL M f_X8_153 tM_0 rfl zputL_u zputL_v dX8_next_216 ?_
        refine zz_sg (fun σ153 eσ153 => ?_)
        have h := h σ153 eσ153
        obtain ⟨x154, ex154⟩ : ∃ z : Int32, z = x2 + 1 := ⟨_, rfl⟩
        have h := h x154 ex154
        refine zz_iinc M [(2, .int x154), (0, .ref (ad 0))] 1 dX8_next_219 rfl (n32 := 1) (by decide) ex154 (by decide) rfl ?_
        refine zz_aload_n M 1 dX8_next_222 rfl rfl ?_
        refine zz_dup M dX8_next_223 rfl ?_
        refine zz_getI M f_X8_132 tM_0 rfl dX8_next_224 ?_
        refine zz_iconst (v := 1) M dX8_next_227 (by decide) ?_
        refine zz_iadd M dX8_next_228 ?_
        refine zz_putI M f_X8_132 tM_0 rfl dX8_next_229 ?_
        refine zz_sg (fun σ155 eσ155 => ?_)
        have h := h σ155 eσ155
        refine zz_goto M 160 dX8_next_232 (by decide) ?_
        refine zz_sub [(0, .ref (ad 0)), (2, .int x154)] [1, 0] rfl ?_
        exact ih _ _ h
      · have h := zifn (c := 4 ≤ x2) h c
        refine zz_ldc2 (v := 10) M k_X8_157 dX8_next_187 ?_
        refine zz_aload_n M 0 dX8_next_190 rfl rfl ?_
        refine zz_getL M f_X8_153 tM_0 rfl dX8_next_191 ?_
        refine zz_lmul M dX8_next_194 ?_
        refine zz_aload_n M 0 dX8_next_195 rfl rfl ?_
        refine zz_aload_n M 0 dX8_next_196 rfl rfl ?_
        refine zz_getI M f_X8_132 tM_0 rfl dX8_next_197 ?_
        obtain ⟨a156, ea156⟩ : ∃ z : Int32, z = (σ152.1 0 26) := ⟨_, rfl⟩
        have h := h a156 ea156
        refine zz_st [.int a156, .ref (ad 0), .long (10 * (σ152.2)), .ref (ad 0)] (by rw [ea156]) ?_
        refine zz_callVI (d' := 1) (As := [.int a156]) (rest := [.long (10 * (σ152.2)), .ref (ad 0)]) M l_X8_135 tM_0 rfl rfl dX8_next_200 rfl rfl (by decide) (Nat.le_of_ble_eq_true rfl) (by have hI := M.2.2.2.2.2.2.2.2; exact kX8_byteAt hI _  _ _ h) (fun r157 σ158 h => ?_)
        refine zz_i2l M dX8_next_203 ?_
        refine zz_ladd M dX8_next_204 ?_
        refine zz_ldc2 (v := 48) M k_X8_149 dX8_next_205 ?_
        refine zz_lsub M dX8_next_208 ?_
        refine zz_goto M 216 dX8_next_209 (by decide) ?_
        refine zz_putL M f_X8_153 tM_0 rfl zputL_u zputL_v dX8_next_216 ?_
        refine zz_sg (fun σ159 eσ159 => ?_)
        have h := h σ159 eσ159
        obtain ⟨x160, ex160⟩ : ∃ z : Int32, z = x2 + 1 := ⟨_, rfl⟩
        have h := h x160 ex160
        refine zz_iinc M [(2, .int x160), (0, .ref (ad 0))] 1 dX8_next_219 rfl (n32 := 1) (by decide) ex160 (by decide) rfl ?_
        refine zz_aload_n M 1 dX8_next_222 rfl rfl ?_
        refine zz_dup M dX8_next_223 rfl ?_
        refine zz_getI M f_X8_132 tM_0 rfl dX8_next_224 ?_
        refine zz_iconst (v := 1) M dX8_next_227 (by decide) ?_
        refine zz_iadd M dX8_next_228 ?_
        refine zz_putI M f_X8_132 tM_0 rfl dX8_next_229 ?_
        refine zz_sg (fun σ161 eσ161 => ?_)
        have h := h σ161 eσ161
        refine zz_goto M 160 dX8_next_232 (by decide) ?_
        refine zz_sub [(0, .ref (ad 0)), (2, .int x160)] [1, 0] rfl ?_
        exact ih _ _ h
def wX8_next_L100 (Q : zSt → Prop) (K321 : zSt → Prop)  : Nat → zSt → Prop
  | 0, _ => False
  | n + 1, σ => ∀ a167 : Int32, a167 = (σ.1 0 26) → (wX8_byteAt a167 σ (fun r168 σ169 => ∀ a170 : Int64, a170 = ((r168 : Int32).toInt64) → (wX8_in a170 97 122 σ169 (fun r171 σ172 => if r171 = 0 then (K321  σ172) else (∀ σ173 : zSt, σ173 = zput σ172 0 26 ((σ172.1 0 26) + 1) → (wX8_next_L100 Q K321  n  σ173))))))
set_option maxRecDepth 20000 in
set_option maxHeartbeats 4000000 in
theorem sX8_next_L100 {Q : zSt → Prop} {K321 : zSt → Prop}   (M : zM p s m args meth c cX8_next 3 RX8 none tabM D cA ad y) (hK321 : ∀ (σ : zSt), K321  σ → zG p l e (zrm 2) s m args below meth c 3 tabM D cA ad (MQ below (va_Qv Q (fun σ' t => va_P D vwCl (zws tabM cA ad σ') t.heap) (zIn tabM ad)) args s 0 0 (zIn tabM ad)) 321 [] [] σ) : ∀ (n : Nat) (σ : zSt), wX8_next_L100 Q K321  n  σ → zG p l e (zrm 2) s m args below meth c 3 tabM D cA ad (MQ below (va_Qv Q (fun σ' t => va_P D vwCl (zws tabM cA ad σ') t.heap) (zIn tabM ad)) args s 0 0 (zIn tabM ad)) 100 [(0, .ref (ad 0))] [] σ := by
  intro n
  induction n with
  | zero => intro  σ h; exact absurd h (by simp [wX8_next_L100])
  | succ n ih =>
    intro  σ h
    unfold wX8_next_L100 at h
    refine zz_aload_n M 0 dX8_next_100 rfl rfl ?_
    refine zz_aload_n M 0 dX8_next_101 rfl rfl ?_
    refine zz_getI M f_X8_132 tM_0 rfl dX8_next_102 ?_
    obtain ⟨a167, ea167⟩ : ∃ z : Int32, z = (σ.1 0 26) := ⟨_, rfl⟩
    have h := h a167 ea167
    refine zz_st [.int a167, .ref (ad 0)] (by rw [ea167]) ?_
    refine zz_callVI (d' := 1) (As := [.int a167]) (rest := []) M l_X8_135 tM_0 rfl rfl dX8_next_105 rfl rfl (by decide) (Nat.le_of_ble_eq_true rfl) (by have hI := M.2.2.2.2.2.2.2.2; exact kX8_byteAt hI _  _ _ h) (fun r168 σ169 h => ?_)
    refine zz_i2l M dX8_next_108 ?_
    refine zz_ldc2 (v := 97) M k_X8_145 dX8_next_109 ?_
    refine zz_ldc2 (v := 122) M k_X8_147 dX8_next_112 ?_
    obtain ⟨a170, ea170⟩ : ∃ z : Int64, z = ((r168 : Int32).toInt64) := ⟨_, rfl⟩
    have h := h a170 ea170
    refine zz_st [.long 122, .long 97, .long a170] (by rw [ea170]) ?_
    refine zz_callSI (d' := 1) (As := [.long a170, .long 97, .long 122]) (rest := []) M l_X8_92 dX8_next_115 rfl rfl (by decide) (Nat.le_of_ble_eq_true rfl) (by have hI := M.2.2.2.2.2.2.2.2; exact kX8_in hI _ _ _  _ _ h) (fun r171 σ172 h => ?_)
    refine zz_if_eq (y0 := 0) M 321 dX8_next_118 (by decide) (fun c => ?_) (fun c => ?_)
    · have h := zif (c := r171 = 0) h c
      refine zz_sub [] [] rfl ?_
      exact hK321  _ h
    · have h := zifn (c := r171 = 0) h c
      refine zz_aload_n M 0 dX8_next_121 rfl rfl ?_
      refine zz_dup M dX8_next_122 rfl ?_
      refine zz_getI M f_X8_132 tM_0 rfl dX8_next_123 ?_
      refine zz_iconst (v := 1) M dX8_next_126 (by decide) ?_
      refine zz_iadd M dX8_next_127 ?_
      refine zz_putI M f_X8_132 tM_0 rfl dX8_next_128 ?_
      refine zz_sg (fun σ173 eσ173 => ?_)
      have h := h σ173 eσ173
      refine zz_goto M 100 dX8_next_131 (by decide) ?_
      exact ih  _ h
def wX8_next  (σ : zSt) (Q : zSt → Prop) : Prop := wX8_next_L0 Q (fun  σ109 => ∀ σ110 : zSt, σ110 = zput σ109 0 28 (σ109.1 0 26) → (∀ a111 : Int32, a111 = (σ110.1 0 26) → (wX8_byteAt a111 σ110 (fun r112 σ113 => ∀ σ114 : zSt, σ114 = zput σ113 0 27 4 → (if 0 ≤ r112 then (∀ a115 : Int64, a115 = ((r112 : Int32).toInt64) → (wX8_in a115 97 122 σ114 (fun r116 σ117 => if r116 = 0 then (∀ a118 : Int64, a118 = ((r112 : Int32).toInt64) → (wX8_in a118 48 57 σ117 (fun r119 σ120 => if r119 = 0 then (if r112 = 40 then (∀ σ121 : zSt, σ121 = zput σ120 0 27 3 → (∀ σ122 : zSt, σ122 = zputL σ121 ((r112 : Int32).toInt64) → (∀ σ123 : zSt, σ123 = zput σ122 0 26 ((σ122.1 0 26) + 1) → (Q σ123)))) else (if r112 = 41 then (∀ σ124 : zSt, σ124 = zput σ120 0 27 3 → (∀ σ125 : zSt, σ125 = zputL σ124 ((r112 : Int32).toInt64) → (∀ σ126 : zSt, σ126 = zput σ125 0 26 ((σ125.1 0 26) + 1) → (Q σ126)))) else (if r112 = 59 then (∀ σ127 : zSt, σ127 = zput σ120 0 27 3 → (∀ σ128 : zSt, σ128 = zputL σ127 ((r112 : Int32).toInt64) → (∀ σ129 : zSt, σ129 = zput σ128 0 26 ((σ128.1 0 26) + 1) → (Q σ129)))) else (if r112 = 43 then (∀ σ130 : zSt, σ130 = zput σ120 0 27 3 → (∀ σ131 : zSt, σ131 = zputL σ130 ((r112 : Int32).toInt64) → (∀ σ132 : zSt, σ132 = zput σ131 0 26 ((σ131.1 0 26) + 1) → (Q σ132)))) else (if r112 = 45 then (∀ σ133 : zSt, σ133 = zput σ120 0 27 3 → (∀ σ134 : zSt, σ134 = zputL σ133 ((r112 : Int32).toInt64) → (∀ σ135 : zSt, σ135 = zput σ134 0 26 ((σ134.1 0 26) + 1) → (Q σ135)))) else (if r112 = 42 then (∀ σ136 : zSt, σ136 = zput σ120 0 27 3 → (∀ σ137 : zSt, σ137 = zputL σ136 ((r112 : Int32).toInt64) → (∀ σ138 : zSt, σ138 = zput σ137 0 26 ((σ137.1 0 26) + 1) → (Q σ138)))) else (if r112 = 60 then (∀ σ139 : zSt, σ139 = zput σ120 0 27 3 → (∀ σ140 : zSt, σ140 = zputL σ139 ((r112 : Int32).toInt64) → (∀ σ141 : zSt, σ141 = zput σ140 0 26 ((σ140.1 0 26) + 1) → (Q σ141)))) else (if r112 = 61 then (∀ σ142 : zSt, σ142 = zput σ120 0 27 3 → (∀ σ143 : zSt, σ143 = zputL σ142 ((r112 : Int32).toInt64) → (∀ σ144 : zSt, σ144 = zput σ143 0 26 ((σ143.1 0 26) + 1) → (Q σ144)))) else (Q σ120))))))))) else (∀ σ145 : zSt, σ145 = zput σ120 0 27 2 → (∀ σ146 : zSt, σ146 = zputL σ145 0 → (wX8_next_L160 Q (fun v162 σ163 => if v162 ≤ 4 then (∀ σ164 : zSt, σ164 = zput σ163 0 27 2 → (Q σ164)) else (∀ σ165 : zSt, σ165 = zput σ163 0 27 4 → (Q σ165)))  300 0 σ146)))))) else (∀ σ166 : zSt, σ166 = zput σ117 0 27 1 → (wX8_next_L100 Q (fun  σ174 => Q σ174)  300  σ166))))) else (∀ σ175 : zSt, σ175 = zput σ114 0 27 0 → (∀ σ176 : zSt, σ176 = zput σ175 0 28 (σ175.1 0 25) → (Q σ176))))))))  300  σ
set_option maxRecDepth 20000 in
set_option maxHeartbeats 4000000 in
theorem kX8_next (hI : zInj tabM ad)   (σ : zSt) (Q : zSt → Prop) (h : wX8_next  σ Q) : zOkV l tabM D cA ad y 2 yX8_next cX8_next 3 none [.ref (ad 0)] σ Q := by
  refine zz_enter hI (by decide) (Nat.le_of_ble_eq_true rfl) (fun p e s m below meth c M => ?_)
  have M : zM p s m _ meth c cX8_next 3 RX8 none tabM D cA ad y := M
  refine zz_ls [(0, .ref (ad 0))] rfl ?_
  unfold wX8_next at h
  refine sX8_next_L0   M (fun  σ109 h => ?_) 300  _ h
  refine zz_aload_n M 0 dX8_next_39 rfl rfl ?_
  refine zz_aload_n M 0 dX8_next_40 rfl rfl ?_
  refine zz_getI M f_X8_132 tM_0 rfl dX8_next_41 ?_
  refine zz_putI M f_X8_139 tM_0 rfl dX8_next_44 ?_
  refine zz_sg (fun σ110 eσ110 => ?_)
  have h := h σ110 eσ110
  refine zz_aload_n M 0 dX8_next_47 rfl rfl ?_
  refine zz_aload_n M 0 dX8_next_48 rfl rfl ?_
  refine zz_getI M f_X8_132 tM_0 rfl dX8_next_49 ?_
  obtain ⟨a111, ea111⟩ : ∃ z : Int32, z = (σ110.1 0 26) := ⟨_, rfl⟩
  have h := h a111 ea111
  refine zz_st [.int a111, .ref (ad 0)] (by rw [ea111]) ?_
  refine zz_callVI (d' := 1) (As := [.int a111]) (rest := []) M l_X8_135 tM_0 rfl rfl dX8_next_52 rfl rfl (by decide) (Nat.le_of_ble_eq_true rfl) (by have hI := M.2.2.2.2.2.2.2.2; exact kX8_byteAt hI _  _ _ h) (fun r112 σ113 h => ?_)
  refine zz_istore_n M [(1, .int r112), (0, .ref (ad 0))] dX8_next_55 rfl (by decide) rfl ?_
  refine zz_aload_n M 1 dX8_next_56 rfl rfl ?_
  refine zz_iconst (v := 4) M dX8_next_57 (by decide) ?_
  refine zz_putI M f_X8_142 tM_0 rfl dX8_next_58 ?_
  refine zz_sg (fun σ114 eσ114 => ?_)
  have h := h σ114 eσ114
  refine zz_iload_n M 0 dX8_next_61 rfl rfl ?_
  refine zz_if_ge (y0 := 0) M 81 dX8_next_62 (by decide) (fun c => ?_) (fun c => ?_)
  · have h := zif (c := 0 ≤ r112) h c
    refine zz_iload_n M 0 dX8_next_81 rfl rfl ?_
    refine zz_i2l M dX8_next_82 ?_
    refine zz_ldc2 (v := 97) M k_X8_145 dX8_next_83 ?_
    refine zz_ldc2 (v := 122) M k_X8_147 dX8_next_86 ?_
    obtain ⟨a115, ea115⟩ : ∃ z : Int64, z = ((r112 : Int32).toInt64) := ⟨_, rfl⟩
    have h := h a115 ea115
    refine zz_st [.long 122, .long 97, .long a115] (by rw [ea115]) ?_
    refine zz_callSI (d' := 1) (As := [.long a115, .long 97, .long 122]) (rest := []) M l_X8_92 dX8_next_89 rfl rfl (by decide) (Nat.le_of_ble_eq_true rfl) (by have hI := M.2.2.2.2.2.2.2.2; exact kX8_in hI _ _ _  _ _ h) (fun r116 σ117 h => ?_)
    refine zz_if_eq (y0 := 0) M 134 dX8_next_92 (by decide) (fun c => ?_) (fun c => ?_)
    · have h := zif (c := r116 = 0) h c
      refine zz_iload_n M 0 dX8_next_134 rfl rfl ?_
      refine zz_i2l M dX8_next_135 ?_
      refine zz_ldc2 (v := 48) M k_X8_149 dX8_next_136 ?_
      refine zz_ldc2 (v := 57) M k_X8_151 dX8_next_139 ?_
      obtain ⟨a118, ea118⟩ : ∃ z : Int64, z = ((r112 : Int32).toInt64) := ⟨_, rfl⟩
      have h := h a118 ea118
      refine zz_st [.long 57, .long 48, .long a118] (by rw [ea118]) ?_
      refine zz_callSI (d' := 1) (As := [.long a118, .long 48, .long 57]) (rest := []) M l_X8_92 dX8_next_142 rfl rfl (by decide) (Nat.le_of_ble_eq_true rfl) (by have hI := M.2.2.2.2.2.2.2.2; exact kX8_in hI _ _ _  _ _ h) (fun r119 σ120 h => ?_)
      refine zz_if_eq (y0 := 0) M 252 dX8_next_145 (by decide) (fun c => ?_) (fun c => ?_)
      · have h := zif (c := r119 = 0) h c
        refine zz_iload_n M 0 dX8_next_252 rfl rfl ?_
        refine zz_bipush (v := 40) M dX8_next_253 (by decide) ?_
        refine zz_icmp_eq M 300 dX8_next_255 (by decide) (fun c => ?_) (fun c => ?_)
        · have h := zif (c := r112 = 40) h c
          refine zz_aload_n M 1 dX8_next_300 rfl rfl ?_
          refine zz_iconst (v := 3) M dX8_next_301 (by decide) ?_
          refine zz_putI M f_X8_142 tM_0 rfl dX8_next_302 ?_
          refine zz_sg (fun σ121 eσ121 => ?_)
          have h := h σ121 eσ121
          refine zz_aload_n M 1 dX8_next_305 rfl rfl ?_
          refine zz_iload_n M 0 dX8_next_306 rfl rfl ?_
          refine zz_i2l M dX8_next_307 ?_
          refine zz_putL M f_X8_153 tM_0 rfl zputL_u zputL_v dX8_next_308 ?_
          refine zz_sg (fun σ122 eσ122 => ?_)
          have h := h σ122 eσ122
          refine zz_aload_n M 1 dX8_next_311 rfl rfl ?_
          refine zz_dup M dX8_next_312 rfl ?_
          refine zz_getI M f_X8_132 tM_0 rfl dX8_next_313 ?_
          refine zz_iconst (v := 1) M dX8_next_316 (by decide) ?_
          refine zz_iadd M dX8_next_317 ?_
          refine zz_putI M f_X8_132 tM_0 rfl dX8_next_318 ?_
          refine zz_sg (fun σ123 eσ123 => ?_)
          have h := h σ123 eσ123
          exact zz_vret M dX8_next_321 h
        · have h := zifn (c := r112 = 40) h c
          refine zz_iload_n M 0 dX8_next_258 rfl rfl ?_
          refine zz_bipush (v := 41) M dX8_next_259 (by decide) ?_
          refine zz_icmp_eq M 300 dX8_next_261 (by decide) (fun c => ?_) (fun c => ?_)
          · have h := zif (c := r112 = 41) h c
            refine zz_aload_n M 1 dX8_next_300 rfl rfl ?_
            refine zz_iconst (v := 3) M dX8_next_301 (by decide) ?_
            refine zz_putI M f_X8_142 tM_0 rfl dX8_next_302 ?_
            refine zz_sg (fun σ124 eσ124 => ?_)
            have h := h σ124 eσ124
            refine zz_aload_n M 1 dX8_next_305 rfl rfl ?_
            refine zz_iload_n M 0 dX8_next_306 rfl rfl ?_
            refine zz_i2l M dX8_next_307 ?_
            refine zz_putL M f_X8_153 tM_0 rfl zputL_u zputL_v dX8_next_308 ?_
            refine zz_sg (fun σ125 eσ125 => ?_)
            have h := h σ125 eσ125
            refine zz_aload_n M 1 dX8_next_311 rfl rfl ?_
            refine zz_dup M dX8_next_312 rfl ?_
            refine zz_getI M f_X8_132 tM_0 rfl dX8_next_313 ?_
            refine zz_iconst (v := 1) M dX8_next_316 (by decide) ?_
            refine zz_iadd M dX8_next_317 ?_
            refine zz_putI M f_X8_132 tM_0 rfl dX8_next_318 ?_
            refine zz_sg (fun σ126 eσ126 => ?_)
            have h := h σ126 eσ126
            exact zz_vret M dX8_next_321 h
          · have h := zifn (c := r112 = 41) h c
            refine zz_iload_n M 0 dX8_next_264 rfl rfl ?_
            refine zz_bipush (v := 59) M dX8_next_265 (by decide) ?_
            refine zz_icmp_eq M 300 dX8_next_267 (by decide) (fun c => ?_) (fun c => ?_)
            · have h := zif (c := r112 = 59) h c
              refine zz_aload_n M 1 dX8_next_300 rfl rfl ?_
              refine zz_iconst (v := 3) M dX8_next_301 (by decide) ?_
              refine zz_putI M f_X8_142 tM_0 rfl dX8_next_302 ?_
              refine zz_sg (fun σ127 eσ127 => ?_)
              have h := h σ127 eσ127
              refine zz_aload_n M 1 dX8_next_305 rfl rfl ?_
              refine zz_iload_n M 0 dX8_next_306 rfl rfl ?_
              refine zz_i2l M dX8_next_307 ?_
              refine zz_putL M f_X8_153 tM_0 rfl zputL_u zputL_v dX8_next_308 ?_
              refine zz_sg (fun σ128 eσ128 => ?_)
              have h := h σ128 eσ128
              refine zz_aload_n M 1 dX8_next_311 rfl rfl ?_
              refine zz_dup M dX8_next_312 rfl ?_
              refine zz_getI M f_X8_132 tM_0 rfl dX8_next_313 ?_
              refine zz_iconst (v := 1) M dX8_next_316 (by decide) ?_
              refine zz_iadd M dX8_next_317 ?_
              refine zz_putI M f_X8_132 tM_0 rfl dX8_next_318 ?_
              refine zz_sg (fun σ129 eσ129 => ?_)
              have h := h σ129 eσ129
              exact zz_vret M dX8_next_321 h
            · have h := zifn (c := r112 = 59) h c
              refine zz_iload_n M 0 dX8_next_270 rfl rfl ?_
              refine zz_bipush (v := 43) M dX8_next_271 (by decide) ?_
              refine zz_icmp_eq M 300 dX8_next_273 (by decide) (fun c => ?_) (fun c => ?_)
              · have h := zif (c := r112 = 43) h c
                refine zz_aload_n M 1 dX8_next_300 rfl rfl ?_
                refine zz_iconst (v := 3) M dX8_next_301 (by decide) ?_
                refine zz_putI M f_X8_142 tM_0 rfl dX8_next_302 ?_
                refine zz_sg (fun σ130 eσ130 => ?_)
                have h := h σ130 eσ130
                refine zz_aload_n M 1 dX8_next_305 rfl rfl ?_
                refine zz_iload_n M 0 dX8_next_306 rfl rfl ?_
                refine zz_i2l M dX8_next_307 ?_
                refine zz_putL M f_X8_153 tM_0 rfl zputL_u zputL_v dX8_next_308 ?_
                refine zz_sg (fun σ131 eσ131 => ?_)
                have h := h σ131 eσ131
                refine zz_aload_n M 1 dX8_next_311 rfl rfl ?_
                refine zz_dup M dX8_next_312 rfl ?_
                refine zz_getI M f_X8_132 tM_0 rfl dX8_next_313 ?_
                refine zz_iconst (v := 1) M dX8_next_316 (by decide) ?_
                refine zz_iadd M dX8_next_317 ?_
                refine zz_putI M f_X8_132 tM_0 rfl dX8_next_318 ?_
                refine zz_sg (fun σ132 eσ132 => ?_)
                have h := h σ132 eσ132
                exact zz_vret M dX8_next_321 h
              · have h := zifn (c := r112 = 43) h c
                refine zz_iload_n M 0 dX8_next_276 rfl rfl ?_
                refine zz_bipush (v := 45) M dX8_next_277 (by decide) ?_
                refine zz_icmp_eq M 300 dX8_next_279 (by decide) (fun c => ?_) (fun c => ?_)
                · have h := zif (c := r112 = 45) h c
                  refine zz_aload_n M 1 dX8_next_300 rfl rfl ?_
                  refine zz_iconst (v := 3) M dX8_next_301 (by decide) ?_
                  refine zz_putI M f_X8_142 tM_0 rfl dX8_next_302 ?_
                  refine zz_sg (fun σ133 eσ133 => ?_)
                  have h := h σ133 eσ133
                  refine zz_aload_n M 1 dX8_next_305 rfl rfl ?_
                  refine zz_iload_n M 0 dX8_next_306 rfl rfl ?_
                  refine zz_i2l M dX8_next_307 ?_
                  refine zz_putL M f_X8_153 tM_0 rfl zputL_u zputL_v dX8_next_308 ?_
                  refine zz_sg (fun σ134 eσ134 => ?_)
                  have h := h σ134 eσ134
                  refine zz_aload_n M 1 dX8_next_311 rfl rfl ?_
                  refine zz_dup M dX8_next_312 rfl ?_
                  refine zz_getI M f_X8_132 tM_0 rfl dX8_next_313 ?_
                  refine zz_iconst (v := 1) M dX8_next_316 (by decide) ?_
                  refine zz_iadd M dX8_next_317 ?_
                  refine zz_putI M f_X8_132 tM_0 rfl dX8_next_318 ?_
                  refine zz_sg (fun σ135 eσ135 => ?_)
                  have h := h σ135 eσ135
                  exact zz_vret M dX8_next_321 h
                · have h := zifn (c := r112 = 45) h c
                  refine zz_iload_n M 0 dX8_next_282 rfl rfl ?_
                  refine zz_bipush (v := 42) M dX8_next_283 (by decide) ?_
                  refine zz_icmp_eq M 300 dX8_next_285 (by decide) (fun c => ?_) (fun c => ?_)
                  · have h := zif (c := r112 = 42) h c
                    refine zz_aload_n M 1 dX8_next_300 rfl rfl ?_
                    refine zz_iconst (v := 3) M dX8_next_301 (by decide) ?_
                    refine zz_putI M f_X8_142 tM_0 rfl dX8_next_302 ?_
                    refine zz_sg (fun σ136 eσ136 => ?_)
                    have h := h σ136 eσ136
                    refine zz_aload_n M 1 dX8_next_305 rfl rfl ?_
                    refine zz_iload_n M 0 dX8_next_306 rfl rfl ?_
                    refine zz_i2l M dX8_next_307 ?_
                    refine zz_putL M f_X8_153 tM_0 rfl zputL_u zputL_v dX8_next_308 ?_
                    refine zz_sg (fun σ137 eσ137 => ?_)
                    have h := h σ137 eσ137
                    refine zz_aload_n M 1 dX8_next_311 rfl rfl ?_
                    refine zz_dup M dX8_next_312 rfl ?_
                    refine zz_getI M f_X8_132 tM_0 rfl dX8_next_313 ?_
                    refine zz_iconst (v := 1) M dX8_next_316 (by decide) ?_
                    refine zz_iadd M dX8_next_317 ?_
                    refine zz_putI M f_X8_132 tM_0 rfl dX8_next_318 ?_
                    refine zz_sg (fun σ138 eσ138 => ?_)
                    have h := h σ138 eσ138
                    exact zz_vret M dX8_next_321 h
                  · have h := zifn (c := r112 = 42) h c
                    refine zz_iload_n M 0 dX8_next_288 rfl rfl ?_
                    refine zz_bipush (v := 60) M dX8_next_289 (by decide) ?_
                    refine zz_icmp_eq M 300 dX8_next_291 (by decide) (fun c => ?_) (fun c => ?_)
                    · have h := zif (c := r112 = 60) h c
                      refine zz_aload_n M 1 dX8_next_300 rfl rfl ?_
                      refine zz_iconst (v := 3) M dX8_next_301 (by decide) ?_
                      refine zz_putI M f_X8_142 tM_0 rfl dX8_next_302 ?_
                      refine zz_sg (fun σ139 eσ139 => ?_)
                      have h := h σ139 eσ139
                      refine zz_aload_n M 1 dX8_next_305 rfl rfl ?_
                      refine zz_iload_n M 0 dX8_next_306 rfl rfl ?_
                      refine zz_i2l M dX8_next_307 ?_
                      refine zz_putL M f_X8_153 tM_0 rfl zputL_u zputL_v dX8_next_308 ?_
                      refine zz_sg (fun σ140 eσ140 => ?_)
                      have h := h σ140 eσ140
                      refine zz_aload_n M 1 dX8_next_311 rfl rfl ?_
                      refine zz_dup M dX8_next_312 rfl ?_
                      refine zz_getI M f_X8_132 tM_0 rfl dX8_next_313 ?_
                      refine zz_iconst (v := 1) M dX8_next_316 (by decide) ?_
                      refine zz_iadd M dX8_next_317 ?_
                      refine zz_putI M f_X8_132 tM_0 rfl dX8_next_318 ?_
                      refine zz_sg (fun σ141 eσ141 => ?_)
                      have h := h σ141 eσ141
                      exact zz_vret M dX8_next_321 h
                    · have h := zifn (c := r112 = 60) h c
                      refine zz_iload_n M 0 dX8_next_294 rfl rfl ?_
                      refine zz_bipush (v := 61) M dX8_next_295 (by decide) ?_
                      refine zz_icmp_ne M 321 dX8_next_297 (by decide) (fun c => ?_) (fun c => ?_)
                      · have h := zifn (c := r112 = 61) h c
                        exact zz_vret M dX8_next_321 h
                      · have h := zif (c := r112 = 61) h c
                        refine zz_aload_n M 1 dX8_next_300 rfl rfl ?_
                        refine zz_iconst (v := 3) M dX8_next_301 (by decide) ?_
                        refine zz_putI M f_X8_142 tM_0 rfl dX8_next_302 ?_
                        refine zz_sg (fun σ142 eσ142 => ?_)
                        have h := h σ142 eσ142
                        refine zz_aload_n M 1 dX8_next_305 rfl rfl ?_
                        refine zz_iload_n M 0 dX8_next_306 rfl rfl ?_
                        refine zz_i2l M dX8_next_307 ?_
                        refine zz_putL M f_X8_153 tM_0 rfl zputL_u zputL_v dX8_next_308 ?_
                        refine zz_sg (fun σ143 eσ143 => ?_)
                        have h := h σ143 eσ143
                        refine zz_aload_n M 1 dX8_next_311 rfl rfl ?_
                        refine zz_dup M dX8_next_312 rfl ?_
                        refine zz_getI M f_X8_132 tM_0 rfl dX8_next_313 ?_
                        refine zz_iconst (v := 1) M dX8_next_316 (by decide) ?_
                        refine zz_iadd M dX8_next_317 ?_
                        refine zz_putI M f_X8_132 tM_0 rfl dX8_next_318 ?_
                        refine zz_sg (fun σ144 eσ144 => ?_)
                        have h := h σ144 eσ144
                        exact zz_vret M dX8_next_321 h
      · have h := zifn (c := r119 = 0) h c
        refine zz_aload_n M 1 dX8_next_148 rfl rfl ?_
        refine zz_iconst (v := 2) M dX8_next_149 (by decide) ?_
        refine zz_putI M f_X8_142 tM_0 rfl dX8_next_150 ?_
        refine zz_sg (fun σ145 eσ145 => ?_)
        have h := h σ145 eσ145
        refine zz_aload_n M 1 dX8_next_153 rfl rfl ?_
        refine zz_lconst (v := 0) M dX8_next_154 (by decide) ?_
        refine zz_putL M f_X8_153 tM_0 rfl zputL_u zputL_v dX8_next_155 ?_
        refine zz_sg (fun σ146 eσ146 => ?_)
        have h := h σ146 eσ146
        refine zz_iconst (v := 0) M dX8_next_158 (by decide) ?_
        refine zz_istore_n M [(2, .int 0), (1, .int r112), (0, .ref (ad 0))] dX8_next_159 rfl (by decide) rfl ?_
        refine zz_sub [(0, .ref (ad 0)), (2, .int 0)] [2, 0] rfl ?_
        refine sX8_next_L160   M (fun v162 σ163 h => ?_) 300 _ _ h
        refine zz_aload_n M 0 dX8_next_235 rfl rfl ?_
        refine zz_iload_n M 1 dX8_next_236 rfl rfl ?_
        refine zz_iconst (v := 4) M dX8_next_237 (by decide) ?_
        refine zz_icmp_le M 245 dX8_next_238 (by decide) (fun c => ?_) (fun c => ?_)
        · have h := zif (c := v162 ≤ 4) h c
          refine zz_iconst (v := 2) M dX8_next_245 (by decide) ?_
          refine zz_putI M f_X8_142 tM_0 rfl dX8_next_246 ?_
          refine zz_sg (fun σ164 eσ164 => ?_)
          have h := h σ164 eσ164
          refine zz_goto M 321 dX8_next_249 (by decide) ?_
          exact zz_vret M dX8_next_321 h
        · have h := zifn (c := v162 ≤ 4) h c
          refine zz_iconst (v := 4) M dX8_next_241 (by decide) ?_
          refine zz_goto M 246 dX8_next_242 (by decide) ?_
          refine zz_putI M f_X8_142 tM_0 rfl dX8_next_246 ?_
          refine zz_sg (fun σ165 eσ165 => ?_)
          have h := h σ165 eσ165
          refine zz_goto M 321 dX8_next_249 (by decide) ?_
          exact zz_vret M dX8_next_321 h
    · have h := zifn (c := r116 = 0) h c
      refine zz_aload_n M 1 dX8_next_95 rfl rfl ?_
      refine zz_iconst (v := 1) M dX8_next_96 (by decide) ?_
      refine zz_putI M f_X8_142 tM_0 rfl dX8_next_97 ?_
      refine zz_sg (fun σ166 eσ166 => ?_)
      have h := h σ166 eσ166
      refine zz_sub [(0, .ref (ad 0))] [1] rfl ?_
      refine sX8_next_L100   M (fun  σ174 h => ?_) 300  _ h
      exact zz_vret M dX8_next_321 h
  · have h := zifn (c := 0 ≤ r112) h c
    refine zz_aload_n M 1 dX8_next_65 rfl rfl ?_
    refine zz_iconst (v := 0) M dX8_next_66 (by decide) ?_
    refine zz_putI M f_X8_142 tM_0 rfl dX8_next_67 ?_
    refine zz_sg (fun σ175 eσ175 => ?_)
    have h := h σ175 eσ175
    refine zz_aload_n M 1 dX8_next_70 rfl rfl ?_
    refine zz_aload_n M 1 dX8_next_71 rfl rfl ?_
    refine zz_getI M f_X8_126 tM_0 rfl dX8_next_72 ?_
    refine zz_putI M f_X8_139 tM_0 rfl dX8_next_75 ?_
    refine zz_sg (fun σ176 eσ176 => ?_)
    have h := h σ176 eσ176
    refine zz_goto M 321 dX8_next_78 (by decide) ?_
    exact zz_vret M dX8_next_321 h
def wX8_isLetter (x1 : Int32) (x2 : Int32) (σ : zSt) (Q : Int32 → zSt → Prop) : Prop := if (σ.1 0 26) ≤ ((σ.1 0 28) + x1) then (if x2 = 0 then (Q 1 σ) else (Q 0 σ)) else (∀ a101 : Int32, a101 = ((σ.1 0 28) + x1) → (wX8_byteAt a101 σ (fun r102 σ103 => if r102 = x2 then (Q 1 σ103) else (Q 0 σ103))))
set_option maxRecDepth 20000 in
set_option maxHeartbeats 4000000 in
theorem kX8_isLetter (hI : zInj tabM ad) (x1 : Int32) (x2 : Int32)  (σ : zSt) (Q : Int32 → zSt → Prop) (h : wX8_isLetter x1 x2 σ Q) : zOkI l tabM D cA ad y 2 yX8_isLetter cX8_isLetter 3 (some .boolean) [.ref (ad 0), .int x1, .int x2] σ Q := by
  refine zz_enter hI (by decide) (Nat.le_of_ble_eq_true rfl) (fun p e s m below meth c M => ?_)
  have M : zM p s m _ meth c cX8_isLetter 3 RX8 (some .boolean) tabM D cA ad y := M
  refine zz_ls [(0, .ref (ad 0)), (1, .int x1), (2, .int x2)] rfl ?_
  unfold wX8_isLetter at h
  refine zz_aload_n M 0 dX8_isLetter_0 rfl rfl ?_
  refine zz_getI M f_X8_139 tM_0 rfl dX8_isLetter_1 ?_
  refine zz_iload_n M 1 dX8_isLetter_4 rfl rfl ?_
  refine zz_iadd M dX8_isLetter_5 ?_
  refine zz_aload_n M 0 dX8_isLetter_6 rfl rfl ?_
  refine zz_getI M f_X8_132 tM_0 rfl dX8_isLetter_7 ?_
  refine zz_icmp_ge M 35 dX8_isLetter_10 (by decide) (fun c => ?_) (fun c => ?_)
  · have h := zif (c := (σ.1 0 26) ≤ ((σ.1 0 28) + x1)) h c
    refine zz_iload_n M 2 dX8_isLetter_35 rfl rfl ?_
    refine zz_if_ne (y0 := 0) M 43 dX8_isLetter_36 (by decide) (fun c => ?_) (fun c => ?_)
    · have h := zifn (c := x2 = 0) h c
      refine zz_iconst (v := 0) M dX8_isLetter_43 (by decide) ?_
      exact zz_zret M dX8_isLetter_44 (Or.inl rfl) h
    · have h := zif (c := x2 = 0) h c
      refine zz_iconst (v := 1) M dX8_isLetter_39 (by decide) ?_
      refine zz_goto M 44 dX8_isLetter_40 (by decide) ?_
      exact zz_zret M dX8_isLetter_44 (Or.inr rfl) h
  · have h := zifn (c := (σ.1 0 26) ≤ ((σ.1 0 28) + x1)) h c
    refine zz_aload_n M 0 dX8_isLetter_13 rfl rfl ?_
    refine zz_aload_n M 0 dX8_isLetter_14 rfl rfl ?_
    refine zz_getI M f_X8_139 tM_0 rfl dX8_isLetter_15 ?_
    refine zz_iload_n M 1 dX8_isLetter_18 rfl rfl ?_
    refine zz_iadd M dX8_isLetter_19 ?_
    obtain ⟨a101, ea101⟩ : ∃ z : Int32, z = ((σ.1 0 28) + x1) := ⟨_, rfl⟩
    have h := h a101 ea101
    refine zz_st [.int a101, .ref (ad 0)] (by rw [ea101]) ?_
    refine zz_callVI (d' := 1) (As := [.int a101]) (rest := []) M l_X8_135 tM_0 rfl rfl dX8_isLetter_20 rfl rfl (by decide) (Nat.le_of_ble_eq_true rfl) (by have hI := M.2.2.2.2.2.2.2.2; exact kX8_byteAt hI _  _ _ h) (fun r102 σ103 h => ?_)
    refine zz_iload_n M 2 dX8_isLetter_23 rfl rfl ?_
    refine zz_icmp_ne M 31 dX8_isLetter_24 (by decide) (fun c => ?_) (fun c => ?_)
    · have h := zifn (c := r102 = x2) h c
      refine zz_iconst (v := 0) M dX8_isLetter_31 (by decide) ?_
      refine zz_goto M 44 dX8_isLetter_32 (by decide) ?_
      exact zz_zret M dX8_isLetter_44 (Or.inl rfl) h
    · have h := zif (c := r102 = x2) h c
      refine zz_iconst (v := 1) M dX8_isLetter_27 (by decide) ?_
      refine zz_goto M 44 dX8_isLetter_28 (by decide) ?_
      exact zz_zret M dX8_isLetter_44 (Or.inr rfl) h
end
