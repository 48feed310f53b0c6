section
variable {p : Program} {l : Launch} {e : Env} {s : State} {m : MethodId} {args : Array Value} {below : List Frame} {meth : Method} {c : Code} {D : va_G} {cA : Nat → ClassId} {ad : Nat → Nat} {y : zX}
def wX8_back_L13 (Q : Int32 → zSt → Prop) (K37 : zSt → Prop)  : Nat → Int32 → zSt → Prop
  | 0, _, _ => False
  | n + 1, x1, σ => if 24 ≤ x1 then (K37  σ) else (vp_in x1 24 ∧ (vp_in x1 24 ∧ (∀ σ1 : zSt, σ1 = zput σ 9 x1.toNatClampNeg (σ.1 14 x1.toNatClampNeg) → (∀ x2 : Int32, x2 = x1 + 1 → (wX8_back_L13 Q K37  n x2 σ1)))))
set_option maxRecDepth 20000 in
set_option maxHeartbeats 4000000 in
theorem sX8_back_L13 {Q : Int32 → zSt → Prop} {K37 : zSt → Prop}   (M : zM p s m args meth c cX8_back 2 RX8 (some .int) tabM D cA ad y) (hK37 : ∀ (σ : zSt), K37  σ → zG p l e (zrm 1) s m args below meth c 2 tabM D cA ad (MQ below (va_Qi Q (fun σ' t => va_P D vwCl (zws tabM cA ad σ') t.heap) (zIn tabM ad)) args s 0 0 (zIn tabM ad)) 37 [(0, .ref (ad 0))] [] σ) : ∀ (n : Nat) (x1 : Int32) (σ : zSt), wX8_back_L13 Q K37  n x1 σ → zG p l e (zrm 1) s m args below meth c 2 tabM D cA ad (MQ below (va_Qi Q (fun σ' t => va_P D vwCl (zws tabM cA ad σ') t.heap) (zIn tabM ad)) args s 0 0 (zIn tabM ad)) 13 [(0, .ref (ad 0)), (1, .int x1)] [] σ := by
  intro n
  induction n with
  | zero => intro x1 σ h; exact absurd h (by simp [wX8_back_L13])
  | succ n ih =>
    intro x1 σ h
    unfold wX8_back_L13 at h
    refine zz_iload_n M 1 dX8_back_13 rfl rfl ?_
    refine zz_bipush (v := 24) M dX8_back_14 (by decide) ?_
    refine zz_icmp_ge M 37 dX8_back_16 (by decide) (fun c => ?_) (fun c => ?_)
    · have h := zif h c
      refine zz_sub [(0, .ref (ad 0))] [0] rfl ?_
      exact hK37  _ h
    · have h := zifn h c
      refine zz_aload_n M 0 dX8_back_19 rfl rfl ?_
      refine zz_getR M f_X8_44 tM_0 rfl dX8_back_20 ?_
      refine zz_iload_n M 1 dX8_back_23 rfl rfl ?_
      refine zz_aload_n M 0 dX8_back_24 rfl rfl ?_
      refine zz_getR M f_X8_60 tM_0 rfl dX8_back_25 ?_
      refine zz_iload_n M 1 dX8_back_28 rfl rfl ?_
      refine zz_iald M tM_14 h.1 dX8_back_29 ?_
      have h := h.2
      refine zz_iast M tM_9 h.1 dX8_back_30 ?_
      have h := h.2
      refine zz_sg (fun σ1 eσ1 => ?_)
      have h := h σ1 eσ1
      obtain ⟨x2, ex2⟩ : ∃ z : Int32, z = x1 + 1 := ⟨_, rfl⟩
      have h := h x2 ex2
      refine zz_iinc M [(1, .int x2), (0, .ref (ad 0))] 1 dX8_back_31 rfl (n32 := 1) (by decide) ex2 (by decide) rfl ?_
      refine zz_goto M 13 dX8_back_34 (by decide) ?_
      refine zz_sub [(0, .ref (ad 0)), (1, .int x2)] [1, 0] rfl ?_
      exact ih _ _ h
def wX8_back_L39 (Q : Int32 → zSt → Prop) (K93 : zSt → Prop)  : Nat → Int32 → zSt → Prop
  | 0, _, _ => False
  | n + 1, x1, σ => if 8 ≤ x1 then (K93  σ) else (vp_in x1 24 ∧ (vp_in x1 8 ∧ (∀ σ4 : zSt, σ4 = zput σ 4 x1.toNatClampNeg (σ.1 15 x1.toNatClampNeg) → (vp_in (8 + x1) 24 ∧ (vp_in x1 8 ∧ (∀ σ5 : zSt, σ5 = zput σ4 5 x1.toNatClampNeg (σ4.1 15 (8 + x1 : Int32).toNatClampNeg) → (vp_in (16 + x1) 24 ∧ (vp_in x1 8 ∧ (∀ σ6 : zSt, σ6 = zput σ5 6 x1.toNatClampNeg (σ5.1 15 (16 + x1 : Int32).toNatClampNeg) → (∀ x7 : Int32, x7 = x1 + 1 → (wX8_back_L39 Q K93  n x7 σ6)))))))))))
set_option maxRecDepth 20000 in
set_option maxHeartbeats 4000000 in
theorem sX8_back_L39 {Q : Int32 → zSt → Prop} {K93 : zSt → Prop}   (M : zM p s m args meth c cX8_back 2 RX8 (some .int) tabM D cA ad y) (hK93 : ∀ (σ : zSt), K93  σ → zG p l e (zrm 1) s m args below meth c 2 tabM D cA ad (MQ below (va_Qi Q (fun σ' t => va_P D vwCl (zws tabM cA ad σ') t.heap) (zIn tabM ad)) args s 0 0 (zIn tabM ad)) 93 [(0, .ref (ad 0))] [] σ) : ∀ (n : Nat) (x1 : Int32) (σ : zSt), wX8_back_L39 Q K93  n x1 σ → zG p l e (zrm 1) s m args below meth c 2 tabM D cA ad (MQ below (va_Qi Q (fun σ' t => va_P D vwCl (zws tabM cA ad σ') t.heap) (zIn tabM ad)) args s 0 0 (zIn tabM ad)) 39 [(0, .ref (ad 0)), (1, .int x1)] [] σ := by
  intro n
  induction n with
  | zero => intro x1 σ h; exact absurd h (by simp [wX8_back_L39])
  | succ n ih =>
    intro x1 σ h
    unfold wX8_back_L39 at h
    refine zz_iload_n M 1 dX8_back_39 rfl rfl ?_
    refine zz_bipush (v := 8) M dX8_back_40 (by decide) ?_
    refine zz_icmp_ge M 93 dX8_back_42 (by decide) (fun c => ?_) (fun c => ?_)
    · have h := zif h c
      refine zz_sub [(0, .ref (ad 0))] [0] rfl ?_
      exact hK93  _ h
    · have h := zifn h c
      refine zz_aload_n M 0 dX8_back_45 rfl rfl ?_
      refine zz_getR M f_X8_23 tM_0 rfl dX8_back_46 ?_
      refine zz_iload_n M 1 dX8_back_49 rfl rfl ?_
      refine zz_aload_n M 0 dX8_back_50 rfl rfl ?_
      refine zz_getR M f_X8_63 tM_0 rfl dX8_back_51 ?_
      refine zz_iload_n M 1 dX8_back_54 rfl rfl ?_
      refine zz_iald M tM_15 h.1 dX8_back_55 ?_
      have h := h.2
      refine zz_iast M tM_4 h.1 dX8_back_56 ?_
      have h := h.2
      refine zz_sg (fun σ4 eσ4 => ?_)
      have h := h σ4 eσ4
      refine zz_aload_n M 0 dX8_back_57 rfl rfl ?_
      refine zz_getR M f_X8_26 tM_0 rfl dX8_back_58 ?_
      refine zz_iload_n M 1 dX8_back_61 rfl rfl ?_
      refine zz_aload_n M 0 dX8_back_62 rfl rfl ?_
      refine zz_getR M f_X8_63 tM_0 rfl dX8_back_63 ?_
      refine zz_bipush (v := 8) M dX8_back_66 (by decide) ?_
      refine zz_iload_n M 1 dX8_back_68 rfl rfl ?_
      refine zz_iadd M dX8_back_69 ?_
      refine zz_iald M tM_15 h.1 dX8_back_70 ?_
      have h := h.2
      refine zz_iast M tM_5 h.1 dX8_back_71 ?_
      have h := h.2
      refine zz_sg (fun σ5 eσ5 => ?_)
      have h := h σ5 eσ5
      refine zz_aload_n M 0 dX8_back_72 rfl rfl ?_
      refine zz_getR M f_X8_29 tM_0 rfl dX8_back_73 ?_
      refine zz_iload_n M 1 dX8_back_76 rfl rfl ?_
      refine zz_aload_n M 0 dX8_back_77 rfl rfl ?_
      refine zz_getR M f_X8_63 tM_0 rfl dX8_back_78 ?_
      refine zz_bipush (v := 16) M dX8_back_81 (by decide) ?_
      refine zz_iload_n M 1 dX8_back_83 rfl rfl ?_
      refine zz_iadd M dX8_back_84 ?_
      refine zz_iald M tM_15 h.1 dX8_back_85 ?_
      have h := h.2
      refine zz_iast M tM_6 h.1 dX8_back_86 ?_
      have h := h.2
      refine zz_sg (fun σ6 eσ6 => ?_)
      have h := h σ6 eσ6
      obtain ⟨x7, ex7⟩ : ∃ z : Int32, z = x1 + 1 := ⟨_, rfl⟩
      have h := h x7 ex7
      refine zz_iinc M [(1, .int x7), (0, .ref (ad 0))] 1 dX8_back_87 rfl (n32 := 1) (by decide) ex7 (by decide) rfl ?_
      refine zz_goto M 39 dX8_back_90 (by decide) ?_
      refine zz_sub [(0, .ref (ad 0)), (1, .int x7)] [1, 0] rfl ?_
      exact ih _ _ h
def wX8_back_L95 (Q : Int32 → zSt → Prop) (K118 : zSt → Prop)  : Nat → Int32 → zSt → Prop
  | 0, _, _ => False
  | n + 1, x1, σ => if 4 ≤ x1 then (K118  σ) else (vp_in x1 4 ∧ (vp_in x1 4 ∧ (∀ σ9 : zSt, σ9 = zput σ 8 x1.toNatClampNeg (σ.1 16 x1.toNatClampNeg) → (∀ x10 : Int32, x10 = x1 + 1 → (wX8_back_L95 Q K118  n x10 σ9)))))
set_option maxRecDepth 20000 in
set_option maxHeartbeats 4000000 in
theorem sX8_back_L95 {Q : Int32 → zSt → Prop} {K118 : zSt → Prop}   (M : zM p s m args meth c cX8_back 2 RX8 (some .int) tabM D cA ad y) (hK118 : ∀ (σ : zSt), K118  σ → zG p l e (zrm 1) s m args below meth c 2 tabM D cA ad (MQ below (va_Qi Q (fun σ' t => va_P D vwCl (zws tabM cA ad σ') t.heap) (zIn tabM ad)) args s 0 0 (zIn tabM ad)) 118 [(0, .ref (ad 0))] [] σ) : ∀ (n : Nat) (x1 : Int32) (σ : zSt), wX8_back_L95 Q K118  n x1 σ → zG p l e (zrm 1) s m args below meth c 2 tabM D cA ad (MQ below (va_Qi Q (fun σ' t => va_P D vwCl (zws tabM cA ad σ') t.heap) (zIn tabM ad)) args s 0 0 (zIn tabM ad)) 95 [(0, .ref (ad 0)), (1, .int x1)] [] σ := by
  intro n
  induction n with
  | zero => intro x1 σ h; exact absurd h (by simp [wX8_back_L95])
  | succ n ih =>
    intro x1 σ h
    unfold wX8_back_L95 at h
    refine zz_iload_n M 1 dX8_back_95 rfl rfl ?_
    refine zz_iconst (v := 4) M dX8_back_96 (by decide) ?_
    refine zz_icmp_ge M 118 dX8_back_97 (by decide) (fun c => ?_) (fun c => ?_)
    · have h := zif h c
      refine zz_sub [(0, .ref (ad 0))] [0] rfl ?_
      exact hK118  _ h
    · have h := zifn h c
      refine zz_aload_n M 0 dX8_back_100 rfl rfl ?_
      refine zz_getR M f_X8_41 tM_0 rfl dX8_back_101 ?_
      refine zz_iload_n M 1 dX8_back_104 rfl rfl ?_
      refine zz_aload_n M 0 dX8_back_105 rfl rfl ?_
      refine zz_getR M f_X8_66 tM_0 rfl dX8_back_106 ?_
      refine zz_iload_n M 1 dX8_back_109 rfl rfl ?_
      refine zz_iald M tM_16 h.1 dX8_back_110 ?_
      have h := h.2
      refine zz_iast M tM_8 h.1 dX8_back_111 ?_
      have h := h.2
      refine zz_sg (fun σ9 eσ9 => ?_)
      have h := h σ9 eσ9
      obtain ⟨x10, ex10⟩ : ∃ z : Int32, z = x1 + 1 := ⟨_, rfl⟩
      have h := h x10 ex10
      refine zz_iinc M [(1, .int x10), (0, .ref (ad 0))] 1 dX8_back_112 rfl (n32 := 1) (by decide) ex10 (by decide) rfl ?_
      refine zz_goto M 95 dX8_back_115 (by decide) ?_
      refine zz_sub [(0, .ref (ad 0)), (1, .int x10)] [1, 0] rfl ?_
      exact ih _ _ h
def wX8_back  (σ : zSt) (Q : Int32 → zSt → Prop) : Prop := if (σ.1 0 40) = (-1) then (Q (-3) σ) else (wX8_back_L13 Q (fun  σ3 => wX8_back_L39 Q (fun  σ8 => wX8_back_L95 Q (fun  σ11 => ∀ σ12 : zSt, σ12 = zput σ11 0 10 (σ11.1 0 40) → (∀ σ13 : zSt, σ13 = zput σ12 0 11 (σ12.1 0 41) → (∀ σ14 : zSt, σ14 = zput σ13 0 16 (σ13.1 0 42) → (∀ σ15 : zSt, σ15 = zput σ14 0 12 (σ14.1 0 43) → (∀ σ16 : zSt, σ16 = zput σ15 0 13 (σ15.1 0 44) → (∀ σ17 : zSt, σ17 = zput σ16 0 4 (σ16.1 0 45) → (Q ((σ17.1 0 10) + (σ17.1 0 11)) σ17)))))))  300 0 σ8)  300 0 σ3)  300 0 σ)
set_option maxRecDepth 20000 in
set_option maxHeartbeats 4000000 in
theorem kX8_back (hI : zInj tabM ad)   (σ : zSt) (Q : Int32 → zSt → Prop) (h : wX8_back  σ Q) : zOkI l tabM D cA ad y 1 yX8_back cX8_back 2 (some .int) [.ref (ad 0)] σ Q := by
  refine zz_enter hI (by decide) (Nat.le_of_ble_eq_true rfl) (fun p e s m below meth c M => ?_)
  have M : zM p s m _ meth c cX8_back 2 RX8 (some .int) tabM D cA ad y := M
  refine zz_ls [(0, .ref (ad 0))] rfl ?_
  unfold wX8_back at h
  refine zz_aload_n M 0 dX8_back_0 rfl rfl ?_
  refine zz_getI M f_X8_69 tM_0 rfl dX8_back_1 ?_
  refine zz_iconst (v := (-1)) M dX8_back_4 (by decide) ?_
  refine zz_icmp_ne M 11 dX8_back_5 (by decide) (fun c => ?_) (fun c => ?_)
  · have h := zifn h c
    refine zz_iconst (v := 0) M dX8_back_11 (by decide) ?_
    refine zz_istore_n M [(1, .int 0), (0, .ref (ad 0))] dX8_back_12 rfl (by decide) rfl ?_
    refine zz_sub [(0, .ref (ad 0)), (1, .int 0)] [1, 0] rfl ?_
    refine sX8_back_L13   M (fun  σ3 h => ?_) 300 _ _ h
    refine zz_iconst (v := 0) M dX8_back_37 (by decide) ?_
    refine zz_istore_n M [(1, .int 0), (0, .ref (ad 0))] dX8_back_38 rfl (by decide) rfl ?_
    refine zz_sub [(0, .ref (ad 0)), (1, .int 0)] [1, 0] rfl ?_
    refine sX8_back_L39   M (fun  σ8 h => ?_) 300 _ _ h
    refine zz_iconst (v := 0) M dX8_back_93 (by decide) ?_
    refine zz_istore_n M [(1, .int 0), (0, .ref (ad 0))] dX8_back_94 rfl (by decide) rfl ?_
    refine zz_sub [(0, .ref (ad 0)), (1, .int 0)] [1, 0] rfl ?_
    refine sX8_back_L95   M (fun  σ11 h => ?_) 300 _ _ h
    refine zz_aload_n M 0 dX8_back_118 rfl rfl ?_
    refine zz_aload_n M 0 dX8_back_119 rfl rfl ?_
    refine zz_getI M f_X8_69 tM_0 rfl dX8_back_120 ?_
    refine zz_putI M f_X8_96 tM_0 rfl dX8_back_123 ?_
    refine zz_sg (fun σ12 eσ12 => ?_)
    have h := h σ12 eσ12
    refine zz_aload_n M 0 dX8_back_126 rfl rfl ?_
    refine zz_aload_n M 0 dX8_back_127 rfl rfl ?_
    refine zz_getI M f_X8_442 tM_0 rfl dX8_back_128 ?_
    refine zz_putI M f_X8_99 tM_0 rfl dX8_back_131 ?_
    refine zz_sg (fun σ13 eσ13 => ?_)
    have h := h σ13 eσ13
    refine zz_aload_n M 0 dX8_back_134 rfl rfl ?_
    refine zz_aload_n M 0 dX8_back_135 rfl rfl ?_
    refine zz_getI M f_X8_445 tM_0 rfl dX8_back_136 ?_
    refine zz_putI M f_X8_114 tM_0 rfl dX8_back_139 ?_
    refine zz_sg (fun σ14 eσ14 => ?_)
    have h := h σ14 eσ14
    refine zz_aload_n M 0 dX8_back_142 rfl rfl ?_
    refine zz_aload_n M 0 dX8_back_143 rfl rfl ?_
    refine zz_getI M f_X8_448 tM_0 rfl dX8_back_144 ?_
    refine zz_putI M f_X8_32 tM_0 rfl dX8_back_147 ?_
    refine zz_sg (fun σ15 eσ15 => ?_)
    have h := h σ15 eσ15
    refine zz_aload_n M 0 dX8_back_150 rfl rfl ?_
    refine zz_aload_n M 0 dX8_back_151 rfl rfl ?_
    refine zz_getI M f_X8_451 tM_0 rfl dX8_back_152 ?_
    refine zz_putI M f_X8_35 tM_0 rfl dX8_back_155 ?_
    refine zz_sg (fun σ16 eσ16 => ?_)
    have h := h σ16 eσ16
    refine zz_aload_n M 0 dX8_back_158 rfl rfl ?_
    refine zz_aload_n M 0 dX8_back_159 rfl rfl ?_
    refine zz_getI M f_X8_454 tM_0 rfl dX8_back_160 ?_
    refine zz_putI M f_X8_332 tM_0 rfl dX8_back_163 ?_
    refine zz_sg (fun σ17 eσ17 => ?_)
    have h := h σ17 eσ17
    refine zz_aload_n M 0 dX8_back_166 rfl rfl ?_
    refine zz_getI M f_X8_96 tM_0 rfl dX8_back_167 ?_
    refine zz_aload_n M 0 dX8_back_170 rfl rfl ?_
    refine zz_getI M f_X8_99 tM_0 rfl dX8_back_171 ?_
    refine zz_iadd M dX8_back_174 ?_
    exact zz_iret M dX8_back_175 h
  · have h := zif h c
    refine zz_bipush (v := (-3)) M dX8_back_8 (by decide) ?_
    exact zz_iret M dX8_back_10 h
def wX8_count (x1 : Int32) (σ : zSt) (Q : Int32 → zSt → Prop) : Prop := wX8_in ((x1 : Int32).toInt64) 0 7 σ (fun r1 σ2 => if r1 = 0 then (Q (-2) σ2) else (if 3 ≤ x1 then (if 5 ≤ x1 then (if x1 = 5 then (Q (σ2.1 0 3) σ2) else (if x1 = 6 then (Q (σ2.1 0 6) σ2) else (Q (σ2.1 0 4) σ2))) else (if x1 = 3 then (Q (σ2.1 0 12) σ2) else (Q (σ2.1 0 13) σ2))) else (if x1 = 0 then (Q (σ2.1 0 10) σ2) else (if x1 = 1 then (Q (σ2.1 0 11) σ2) else (Q (σ2.1 0 16) σ2)))))
set_option maxRecDepth 20000 in
set_option maxHeartbeats 4000000 in
theorem kX8_count (hI : zInj tabM ad) (x1 : Int32)  (σ : zSt) (Q : Int32 → zSt → Prop) (h : wX8_count x1 σ Q) : zOkI l tabM D cA ad y 2 yX8_count cX8_count 2 (some .int) [.ref (ad 0), .int x1] σ Q := by
  refine zz_enter hI (by decide) (Nat.le_of_ble_eq_true rfl) (fun p e s m below meth c M => ?_)
  have M : zM p s m _ meth c cX8_count 2 RX8 (some .int) tabM D cA ad y := M
  refine zz_ls [(0, .ref (ad 0)), (1, .int x1)] rfl ?_
  unfold wX8_count at h
  refine zz_iload_n M 1 dX8_count_0 rfl rfl ?_
  refine zz_i2l M dX8_count_1 ?_
  refine zz_lconst (v := 0) M dX8_count_2 (by decide) ?_
  refine zz_ldc2 (v := 7) M k_X8_457 dX8_count_3 ?_
  refine zz_callSI (d' := 1) (As := [.long ((x1 : Int32).toInt64), .long 0, .long 7]) (rest := []) M l_X8_92 dX8_count_6 rfl rfl (by decide) (Nat.le_of_ble_eq_true rfl) (by have hI := M.2.2.2.2.2.2.2.2; exact kX8_in hI _ _ _  _ _ h) (fun r1 σ2 h => ?_)
  refine zz_if_ne (y0 := 0) M 15 dX8_count_9 (by decide) (fun c => ?_) (fun c => ?_)
  · have h := zifn h c
    refine zz_iload_n M 1 dX8_count_15 rfl rfl ?_
    refine zz_iconst (v := 3) M dX8_count_16 (by decide) ?_
    refine zz_icmp_ge M 48 dX8_count_17 (by decide) (fun c => ?_) (fun c => ?_)
    · have h := zif h c
      refine zz_iload_n M 1 dX8_count_48 rfl rfl ?_
      refine zz_iconst (v := 5) M dX8_count_49 (by decide) ?_
      refine zz_icmp_ge M 70 dX8_count_50 (by decide) (fun c => ?_) (fun c => ?_)
      · have h := zif h c
        refine zz_iload_n M 1 dX8_count_70 rfl rfl ?_
        refine zz_iconst (v := 5) M dX8_count_71 (by decide) ?_
        refine zz_icmp_ne M 82 dX8_count_72 (by decide) (fun c => ?_) (fun c => ?_)
        · have h := zifn h c
          refine zz_iload_n M 1 dX8_count_82 rfl rfl ?_
          refine zz_bipush (v := 6) M dX8_count_83 (by decide) ?_
          refine zz_icmp_ne M 95 dX8_count_85 (by decide) (fun c => ?_) (fun c => ?_)
          · have h := zifn h c
            refine zz_aload_n M 0 dX8_count_95 rfl rfl ?_
            refine zz_getI M f_X8_332 tM_0 rfl dX8_count_96 ?_
            exact zz_iret M dX8_count_99 h
          · have h := zif h c
            refine zz_aload_n M 0 dX8_count_88 rfl rfl ?_
            refine zz_getI M f_X8_123 tM_0 rfl dX8_count_89 ?_
            refine zz_goto M 99 dX8_count_92 (by decide) ?_
            exact zz_iret M dX8_count_99 h
        · have h := zif h c
          refine zz_aload_n M 0 dX8_count_75 rfl rfl ?_
          refine zz_getI M f_X8_89 tM_0 rfl dX8_count_76 ?_
          refine zz_goto M 99 dX8_count_79 (by decide) ?_
          exact zz_iret M dX8_count_99 h
      · have h := zifn h c
        refine zz_iload_n M 1 dX8_count_53 rfl rfl ?_
        refine zz_iconst (v := 3) M dX8_count_54 (by decide) ?_
        refine zz_icmp_ne M 65 dX8_count_55 (by decide) (fun c => ?_) (fun c => ?_)
        · have h := zifn h c
          refine zz_aload_n M 0 dX8_count_65 rfl rfl ?_
          refine zz_getI M f_X8_35 tM_0 rfl dX8_count_66 ?_
          exact zz_iret M dX8_count_69 h
        · have h := zif h c
          refine zz_aload_n M 0 dX8_count_58 rfl rfl ?_
          refine zz_getI M f_X8_32 tM_0 rfl dX8_count_59 ?_
          refine zz_goto M 69 dX8_count_62 (by decide) ?_
          exact zz_iret M dX8_count_69 h
    · have h := zifn h c
      refine zz_iload_n M 1 dX8_count_20 rfl rfl ?_
      refine zz_if_ne (y0 := 0) M 31 dX8_count_21 (by decide) (fun c => ?_) (fun c => ?_)
      · have h := zifn h c
        refine zz_iload_n M 1 dX8_count_31 rfl rfl ?_
        refine zz_iconst (v := 1) M dX8_count_32 (by decide) ?_
        refine zz_icmp_ne M 43 dX8_count_33 (by decide) (fun c => ?_) (fun c => ?_)
        · have h := zifn h c
          refine zz_aload_n M 0 dX8_count_43 rfl rfl ?_
          refine zz_getI M f_X8_114 tM_0 rfl dX8_count_44 ?_
          exact zz_iret M dX8_count_47 h
        · have h := zif h c
          refine zz_aload_n M 0 dX8_count_36 rfl rfl ?_
          refine zz_getI M f_X8_99 tM_0 rfl dX8_count_37 ?_
          refine zz_goto M 47 dX8_count_40 (by decide) ?_
          exact zz_iret M dX8_count_47 h
      · have h := zif h c
        refine zz_aload_n M 0 dX8_count_24 rfl rfl ?_
        refine zz_getI M f_X8_96 tM_0 rfl dX8_count_25 ?_
        refine zz_goto M 47 dX8_count_28 (by decide) ?_
        exact zz_iret M dX8_count_47 h
  · have h := zif h c
    refine zz_bipush (v := (-2)) M dX8_count_12 (by decide) ?_
    exact zz_iret M dX8_count_14 h
def wX8_sheet_L77 (Q : Int32 → zSt → Prop) (K106 : zSt → Prop) (x1 : Int32) (x2 : Int32) (x3 : Int32) : Nat → Int32 → zSt → Prop
  | 0, _, _ => False
  | n + 1, x4, σ => if x3 ≤ x4 then (K106  σ) else (if x2 < 0 then (K106  σ) else (vp_in ((40 * x1) + x4) 160 ∧ (∀ σ8 : zSt, σ8 = zput σ 20 ((40 * x1) + x4 : Int32).toNatClampNeg 0 → (∀ x9 : Int32, x9 = x4 + 1 → (wX8_sheet_L77 Q K106 x1 x2 x3 n x9 σ8)))))
set_option maxRecDepth 20000 in
set_option maxHeartbeats 4000000 in
theorem sX8_sheet_L77 {Q : Int32 → zSt → Prop} {K106 : zSt → Prop} (x1 : Int32) (x2 : Int32) (x3 : Int32)  (M : zM p s m args meth c cX8_sheet 5 RX8 (some .int) tabM D cA ad y) (hK106 : ∀ (σ : zSt), K106  σ → zG p l e (zrm 3) s m args below meth c 5 tabM D cA ad (MQ below (va_Qi Q (fun σ' t => va_P D vwCl (zws tabM cA ad σ') t.heap) (zIn tabM ad)) args s 0 0 (zIn tabM ad)) 106 [] [] σ) : ∀ (n : Nat) (x4 : Int32) (σ : zSt), wX8_sheet_L77 Q K106 x1 x2 x3 n x4 σ → zG p l e (zrm 3) s m args below meth c 5 tabM D cA ad (MQ below (va_Qi Q (fun σ' t => va_P D vwCl (zws tabM cA ad σ') t.heap) (zIn tabM ad)) args s 0 0 (zIn tabM ad)) 77 [(0, .ref (ad 0)), (1, .int x1), (2, .int x2), (3, .int x3), (4, .int x4)] [] σ := by
  intro n
  induction n with
  | zero => intro x4 σ h; exact absurd h (by simp [wX8_sheet_L77])
  | succ n ih =>
    intro x4 σ h
    unfold wX8_sheet_L77 at h
    refine zz_iload M 4 dX8_sheet_77 rfl ?_
    refine zz_iload_n M 3 dX8_sheet_79 rfl rfl ?_
    refine zz_icmp_ge M 106 dX8_sheet_80 (by decide) (fun c => ?_) (fun c => ?_)
    · have h := zif h c
      refine zz_sub [] [] rfl ?_
      exact hK106  _ h
    · have h := zifn h c
      refine zz_iload_n M 2 dX8_sheet_83 rfl rfl ?_
      refine zz_if_lt (y0 := 0) M 106 dX8_sheet_84 (by decide) (fun c => ?_) (fun c => ?_)
      · have h := zif h c
        refine zz_sub [] [] rfl ?_
        exact hK106  _ h
      · have h := zifn h c
        refine zz_aload_n M 0 dX8_sheet_87 rfl rfl ?_
        refine zz_getR M f_X8_82 tM_0 rfl dX8_sheet_88 ?_
        refine zz_bipush (v := 40) M dX8_sheet_91 (by decide) ?_
        refine zz_iload_n M 1 dX8_sheet_93 rfl rfl ?_
        refine zz_imul M dX8_sheet_94 ?_
        refine zz_iload M 4 dX8_sheet_95 rfl ?_
        refine zz_iadd M dX8_sheet_97 ?_
        refine zz_iconst (v := 0) M dX8_sheet_98 (by decide) ?_
        refine zz_iast M tM_20 h.1 dX8_sheet_99 ?_
        have h := h.2
        refine zz_sg (fun σ8 eσ8 => ?_)
        have h := h σ8 eσ8
        obtain ⟨x9, ex9⟩ : ∃ z : Int32, z = x4 + 1 := ⟨_, rfl⟩
        have h := h x9 ex9
        refine zz_iinc M [(4, .int x9), (0, .ref (ad 0)), (1, .int x1), (2, .int x2), (3, .int x3)] 4 dX8_sheet_100 rfl (n32 := 1) (by decide) ex9 (by decide) rfl ?_
        refine zz_goto M 77 dX8_sheet_103 (by decide) ?_
        refine zz_sub [(0, .ref (ad 0)), (1, .int x1), (2, .int x2), (3, .int x3), (4, .int x9)] [1, 2, 3, 4, 0] rfl ?_
        exact ih _ _ h
def wX8_sheet (x1 : Int32) (x2 : Int32) (x3 : Int32) (σ : zSt) (Q : Int32 → zSt → Prop) : Prop := wX8_isSheet x1 σ (fun r1 σ2 => if r1 = 0 then (Q (-2) σ2) else (wX8_in ((x2 : Int32).toInt64) (-1) 2 σ2 (fun r3 σ4 => if r3 = 0 then (Q (-2) σ4) else (if x2 < 0 then (if x2 < 0 then (if x2 < 0 then (vp_in x1 4 ∧ (∀ σ5 : zSt, σ5 = zput σ4 17 x1.toNatClampNeg 0 → (vp_in x1 4 ∧ (∀ σ6 : zSt, σ6 = zput σ5 18 x1.toNatClampNeg x2 → (vp_in x1 4 ∧ (∀ σ7 : zSt, σ7 = zput σ6 19 x1.toNatClampNeg x3 → (wX8_sheet_L77 Q (fun  σ10 => Q 1 σ10) x1 x2 x3 300 0 σ7))))))) else (vp_in x1 4 ∧ (∀ σ11 : zSt, σ11 = zput σ4 17 x1.toNatClampNeg 1 → (vp_in x1 4 ∧ (∀ σ12 : zSt, σ12 = zput σ11 18 x1.toNatClampNeg x2 → (vp_in x1 4 ∧ (∀ σ13 : zSt, σ13 = zput σ12 19 x1.toNatClampNeg x3 → (wX8_sheet_L77 Q (fun  σ14 => Q 1 σ14) x1 x2 x3 300 0 σ13)))))))) else (if 0 ≤ x3 then (if x2 < 0 then (vp_in x1 4 ∧ (∀ σ15 : zSt, σ15 = zput σ4 17 x1.toNatClampNeg 0 → (vp_in x1 4 ∧ (∀ σ16 : zSt, σ16 = zput σ15 18 x1.toNatClampNeg x2 → (vp_in x1 4 ∧ (∀ σ17 : zSt, σ17 = zput σ16 19 x1.toNatClampNeg x3 → (wX8_sheet_L77 Q (fun  σ18 => Q 1 σ18) x1 x2 x3 300 0 σ17))))))) else (vp_in x1 4 ∧ (∀ σ19 : zSt, σ19 = zput σ4 17 x1.toNatClampNeg 1 → (vp_in x1 4 ∧ (∀ σ20 : zSt, σ20 = zput σ19 18 x1.toNatClampNeg x2 → (vp_in x1 4 ∧ (∀ σ21 : zSt, σ21 = zput σ20 19 x1.toNatClampNeg x3 → (wX8_sheet_L77 Q (fun  σ22 => Q 1 σ22) x1 x2 x3 300 0 σ21)))))))) else (Q (-14) σ4))) else (if x3 ≤ 40 then (if x2 < 0 then (if x2 < 0 then (vp_in x1 4 ∧ (∀ σ23 : zSt, σ23 = zput σ4 17 x1.toNatClampNeg 0 → (vp_in x1 4 ∧ (∀ σ24 : zSt, σ24 = zput σ23 18 x1.toNatClampNeg x2 → (vp_in x1 4 ∧ (∀ σ25 : zSt, σ25 = zput σ24 19 x1.toNatClampNeg x3 → (wX8_sheet_L77 Q (fun  σ26 => Q 1 σ26) x1 x2 x3 300 0 σ25))))))) else (vp_in x1 4 ∧ (∀ σ27 : zSt, σ27 = zput σ4 17 x1.toNatClampNeg 1 → (vp_in x1 4 ∧ (∀ σ28 : zSt, σ28 = zput σ27 18 x1.toNatClampNeg x2 → (vp_in x1 4 ∧ (∀ σ29 : zSt, σ29 = zput σ28 19 x1.toNatClampNeg x3 → (wX8_sheet_L77 Q (fun  σ30 => Q 1 σ30) x1 x2 x3 300 0 σ29)))))))) else (if 0 ≤ x3 then (if x2 < 0 then (vp_in x1 4 ∧ (∀ σ31 : zSt, σ31 = zput σ4 17 x1.toNatClampNeg 0 → (vp_in x1 4 ∧ (∀ σ32 : zSt, σ32 = zput σ31 18 x1.toNatClampNeg x2 → (vp_in x1 4 ∧ (∀ σ33 : zSt, σ33 = zput σ32 19 x1.toNatClampNeg x3 → (wX8_sheet_L77 Q (fun  σ34 => Q 1 σ34) x1 x2 x3 300 0 σ33))))))) else (vp_in x1 4 ∧ (∀ σ35 : zSt, σ35 = zput σ4 17 x1.toNatClampNeg 1 → (vp_in x1 4 ∧ (∀ σ36 : zSt, σ36 = zput σ35 18 x1.toNatClampNeg x2 → (vp_in x1 4 ∧ (∀ σ37 : zSt, σ37 = zput σ36 19 x1.toNatClampNeg x3 → (wX8_sheet_L77 Q (fun  σ38 => Q 1 σ38) x1 x2 x3 300 0 σ37)))))))) else (Q (-14) σ4))) else (Q (-2) σ4))))))
set_option maxRecDepth 20000 in
set_option maxHeartbeats 4000000 in
theorem kX8_sheet (hI : zInj tabM ad) (x1 : Int32) (x2 : Int32) (x3 : Int32)  (σ : zSt) (Q : Int32 → zSt → Prop) (h : wX8_sheet x1 x2 x3 σ Q) : zOkI l tabM D cA ad y 3 yX8_sheet cX8_sheet 5 (some .int) [.ref (ad 0), .int x1, .int x2, .int x3] σ Q := by
  refine zz_enter hI (by decide) (Nat.le_of_ble_eq_true rfl) (fun p e s m below meth c M => ?_)
  have M : zM p s m _ meth c cX8_sheet 5 RX8 (some .int) tabM D cA ad y := M
  refine zz_ls [(0, .ref (ad 0)), (1, .int x1), (2, .int x2), (3, .int x3)] rfl ?_
  unfold wX8_sheet at h
  refine zz_iload_n M 1 dX8_sheet_0 rfl rfl ?_
  refine zz_callSI (d' := 2) (As := [.int x1]) (rest := []) M l_X8_431 dX8_sheet_1 rfl rfl (by decide) (Nat.le_of_ble_eq_true rfl) (by have hI := M.2.2.2.2.2.2.2.2; exact kX8_isSheet hI _  _ _ h) (fun r1 σ2 h => ?_)
  refine zz_if_eq (y0 := 0) M 31 dX8_sheet_4 (by decide) (fun c => ?_) (fun c => ?_)
  · have h := zif h c
    refine zz_bipush (v := (-2)) M dX8_sheet_31 (by decide) ?_
    exact zz_iret M dX8_sheet_33 h
  · have h := zifn h c
    refine zz_iload_n M 2 dX8_sheet_7 rfl rfl ?_
    refine zz_i2l M dX8_sheet_8 ?_
    refine zz_ldc2 (v := (-1)) M k_X8_420 dX8_sheet_9 ?_
    refine zz_ldc2 (v := 2) M k_X8_104 dX8_sheet_12 ?_
    refine zz_callSI (d' := 1) (As := [.long ((x2 : Int32).toInt64), .long (-1), .long 2]) (rest := []) M l_X8_92 dX8_sheet_15 rfl rfl (by decide) (Nat.le_of_ble_eq_true rfl) (by have hI := M.2.2.2.2.2.2.2.2; exact kX8_in hI _ _ _  _ _ h) (fun r3 σ4 h => ?_)
    refine zz_if_eq (y0 := 0) M 31 dX8_sheet_18 (by decide) (fun c => ?_) (fun c => ?_)
    · have h := zif h c
      refine zz_bipush (v := (-2)) M dX8_sheet_31 (by decide) ?_
      exact zz_iret M dX8_sheet_33 h
    · have h := zifn h c
      refine zz_iload_n M 2 dX8_sheet_21 rfl rfl ?_
      refine zz_if_lt (y0 := 0) M 34 dX8_sheet_22 (by decide) (fun c => ?_) (fun c => ?_)
      · have h := zif h c
        refine zz_iload_n M 2 dX8_sheet_34 rfl rfl ?_
        refine zz_if_lt (y0 := 0) M 45 dX8_sheet_35 (by decide) (fun c => ?_) (fun c => ?_)
        · have h := zif h c
          refine zz_aload_n M 0 dX8_sheet_45 rfl rfl ?_
          refine zz_getR M f_X8_72 tM_0 rfl dX8_sheet_46 ?_
          refine zz_iload_n M 1 dX8_sheet_49 rfl rfl ?_
          refine zz_iload_n M 2 dX8_sheet_50 rfl rfl ?_
          refine zz_if_lt (y0 := 0) M 58 dX8_sheet_51 (by decide) (fun c => ?_) (fun c => ?_)
          · have h := zif h c
            refine zz_iconst (v := 0) M dX8_sheet_58 (by decide) ?_
            refine zz_zast M tM_17 h.1 (by decide) dX8_sheet_59 ?_
            have h := h.2
            refine zz_sg (fun σ5 eσ5 => ?_)
            have h := h σ5 eσ5
            refine zz_aload_n M 0 dX8_sheet_60 rfl rfl ?_
            refine zz_getR M f_X8_76 tM_0 rfl dX8_sheet_61 ?_
            refine zz_iload_n M 1 dX8_sheet_64 rfl rfl ?_
            refine zz_iload_n M 2 dX8_sheet_65 rfl rfl ?_
            refine zz_iast M tM_18 h.1 dX8_sheet_66 ?_
            have h := h.2
            refine zz_sg (fun σ6 eσ6 => ?_)
            have h := h σ6 eσ6
            refine zz_aload_n M 0 dX8_sheet_67 rfl rfl ?_
            refine zz_getR M f_X8_79 tM_0 rfl dX8_sheet_68 ?_
            refine zz_iload_n M 1 dX8_sheet_71 rfl rfl ?_
            refine zz_iload_n M 3 dX8_sheet_72 rfl rfl ?_
            refine zz_iast M tM_19 h.1 dX8_sheet_73 ?_
            have h := h.2
            refine zz_sg (fun σ7 eσ7 => ?_)
            have h := h σ7 eσ7
            refine zz_iconst (v := 0) M dX8_sheet_74 (by decide) ?_
            refine zz_istore M [(4, .int 0), (0, .ref (ad 0)), (1, .int x1), (2, .int x2), (3, .int x3)] dX8_sheet_75 (by decide) rfl ?_
            refine zz_sub [(0, .ref (ad 0)), (1, .int x1), (2, .int x2), (3, .int x3), (4, .int 0)] [1, 2, 3, 4, 0] rfl ?_
            refine sX8_sheet_L77 x1 x2 x3  M (fun  σ10 h => ?_) 300 _ _ h
            refine zz_iconst (v := 1) M dX8_sheet_106 (by decide) ?_
            exact zz_iret M dX8_sheet_107 h
          · have h := zifn h c
            refine zz_iconst (v := 1) M dX8_sheet_54 (by decide) ?_
            refine zz_goto M 59 dX8_sheet_55 (by decide) ?_
            refine zz_zast M tM_17 h.1 (by decide) dX8_sheet_59 ?_
            have h := h.2
            refine zz_sg (fun σ11 eσ11 => ?_)
            have h := h σ11 eσ11
            refine zz_aload_n M 0 dX8_sheet_60 rfl rfl ?_
            refine zz_getR M f_X8_76 tM_0 rfl dX8_sheet_61 ?_
            refine zz_iload_n M 1 dX8_sheet_64 rfl rfl ?_
            refine zz_iload_n M 2 dX8_sheet_65 rfl rfl ?_
            refine zz_iast M tM_18 h.1 dX8_sheet_66 ?_
            have h := h.2
            refine zz_sg (fun σ12 eσ12 => ?_)
            have h := h σ12 eσ12
            refine zz_aload_n M 0 dX8_sheet_67 rfl rfl ?_
            refine zz_getR M f_X8_79 tM_0 rfl dX8_sheet_68 ?_
            refine zz_iload_n M 1 dX8_sheet_71 rfl rfl ?_
            refine zz_iload_n M 3 dX8_sheet_72 rfl rfl ?_
            refine zz_iast M tM_19 h.1 dX8_sheet_73 ?_
            have h := h.2
            refine zz_sg (fun σ13 eσ13 => ?_)
            have h := h σ13 eσ13
            refine zz_iconst (v := 0) M dX8_sheet_74 (by decide) ?_
            refine zz_istore M [(4, .int 0), (0, .ref (ad 0)), (1, .int x1), (2, .int x2), (3, .int x3)] dX8_sheet_75 (by decide) rfl ?_
            refine zz_sub [(0, .ref (ad 0)), (1, .int x1), (2, .int x2), (3, .int x3), (4, .int 0)] [1, 2, 3, 4, 0] rfl ?_
            refine sX8_sheet_L77 x1 x2 x3  M (fun  σ14 h => ?_) 300 _ _ h
            refine zz_iconst (v := 1) M dX8_sheet_106 (by decide) ?_
            exact zz_iret M dX8_sheet_107 h
        · have h := zifn h c
          refine zz_iload_n M 3 dX8_sheet_38 rfl rfl ?_
          refine zz_if_ge (y0 := 0) M 45 dX8_sheet_39 (by decide) (fun c => ?_) (fun c => ?_)
          · have h := zif h c
            refine zz_aload_n M 0 dX8_sheet_45 rfl rfl ?_
            refine zz_getR M f_X8_72 tM_0 rfl dX8_sheet_46 ?_
            refine zz_iload_n M 1 dX8_sheet_49 rfl rfl ?_
            refine zz_iload_n M 2 dX8_sheet_50 rfl rfl ?_
            refine zz_if_lt (y0 := 0) M 58 dX8_sheet_51 (by decide) (fun c => ?_) (fun c => ?_)
            · have h := zif h c
              refine zz_iconst (v := 0) M dX8_sheet_58 (by decide) ?_
              refine zz_zast M tM_17 h.1 (by decide) dX8_sheet_59 ?_
              have h := h.2
              refine zz_sg (fun σ15 eσ15 => ?_)
              have h := h σ15 eσ15
              refine zz_aload_n M 0 dX8_sheet_60 rfl rfl ?_
              refine zz_getR M f_X8_76 tM_0 rfl dX8_sheet_61 ?_
              refine zz_iload_n M 1 dX8_sheet_64 rfl rfl ?_
              refine zz_iload_n M 2 dX8_sheet_65 rfl rfl ?_
              refine zz_iast M tM_18 h.1 dX8_sheet_66 ?_
              have h := h.2
              refine zz_sg (fun σ16 eσ16 => ?_)
              have h := h σ16 eσ16
              refine zz_aload_n M 0 dX8_sheet_67 rfl rfl ?_
              refine zz_getR M f_X8_79 tM_0 rfl dX8_sheet_68 ?_
              refine zz_iload_n M 1 dX8_sheet_71 rfl rfl ?_
              refine zz_iload_n M 3 dX8_sheet_72 rfl rfl ?_
              refine zz_iast M tM_19 h.1 dX8_sheet_73 ?_
              have h := h.2
              refine zz_sg (fun σ17 eσ17 => ?_)
              have h := h σ17 eσ17
              refine zz_iconst (v := 0) M dX8_sheet_74 (by decide) ?_
              refine zz_istore M [(4, .int 0), (0, .ref (ad 0)), (1, .int x1), (2, .int x2), (3, .int x3)] dX8_sheet_75 (by decide) rfl ?_
              refine zz_sub [(0, .ref (ad 0)), (1, .int x1), (2, .int x2), (3, .int x3), (4, .int 0)] [1, 2, 3, 4, 0] rfl ?_
              refine sX8_sheet_L77 x1 x2 x3  M (fun  σ18 h => ?_) 300 _ _ h
              refine zz_iconst (v := 1) M dX8_sheet_106 (by decide) ?_
              exact zz_iret M dX8_sheet_107 h
            · have h := zifn h c
              refine zz_iconst (v := 1) M dX8_sheet_54 (by decide) ?_
              refine zz_goto M 59 dX8_sheet_55 (by decide) ?_
              refine zz_zast M tM_17 h.1 (by decide) dX8_sheet_59 ?_
              have h := h.2
              refine zz_sg (fun σ19 eσ19 => ?_)
              have h := h σ19 eσ19
              refine zz_aload_n M 0 dX8_sheet_60 rfl rfl ?_
              refine zz_getR M f_X8_76 tM_0 rfl dX8_sheet_61 ?_
              refine zz_iload_n M 1 dX8_sheet_64 rfl rfl ?_
              refine zz_iload_n M 2 dX8_sheet_65 rfl rfl ?_
              refine zz_iast M tM_18 h.1 dX8_sheet_66 ?_
              have h := h.2
              refine zz_sg (fun σ20 eσ20 => ?_)
              have h := h σ20 eσ20
              refine zz_aload_n M 0 dX8_sheet_67 rfl rfl ?_
              refine zz_getR M f_X8_79 tM_0 rfl dX8_sheet_68 ?_
              refine zz_iload_n M 1 dX8_sheet_71 rfl rfl ?_
              refine zz_iload_n M 3 dX8_sheet_72 rfl rfl ?_
              refine zz_iast M tM_19 h.1 dX8_sheet_73 ?_
              have h := h.2
              refine zz_sg (fun σ21 eσ21 => ?_)
              have h := h σ21 eσ21
              refine zz_iconst (v := 0) M dX8_sheet_74 (by decide) ?_
              refine zz_istore M [(4, .int 0), (0, .ref (ad 0)), (1, .int x1), (2, .int x2), (3, .int x3)] dX8_sheet_75 (by decide) rfl ?_
              refine zz_sub [(0, .ref (ad 0)), (1, .int x1), (2, .int x2), (3, .int x3), (4, .int 0)] [1, 2, 3, 4, 0] rfl ?_
              refine sX8_sheet_L77 x1 x2 x3  M (fun  σ22 h => ?_) 300 _ _ h
              refine zz_iconst (v := 1) M dX8_sheet_106 (by decide) ?_
              exact zz_iret M dX8_sheet_107 h
          · have h := zifn h c
            refine zz_bipush (v := (-14)) M dX8_sheet_42 (by decide) ?_
            exact zz_iret M dX8_sheet_44 h
      · have h := zifn h c
        refine zz_iload_n M 3 dX8_sheet_25 rfl rfl ?_
        refine zz_bipush (v := 40) M dX8_sheet_26 (by decide) ?_
        refine zz_icmp_le M 34 dX8_sheet_28 (by decide) (fun c => ?_) (fun c => ?_)
        · have h := zif h c
          refine zz_iload_n M 2 dX8_sheet_34 rfl rfl ?_
          refine zz_if_lt (y0 := 0) M 45 dX8_sheet_35 (by decide) (fun c => ?_) (fun c => ?_)
          · have h := zif h c
            refine zz_aload_n M 0 dX8_sheet_45 rfl rfl ?_
            refine zz_getR M f_X8_72 tM_0 rfl dX8_sheet_46 ?_
            refine zz_iload_n M 1 dX8_sheet_49 rfl rfl ?_
            refine zz_iload_n M 2 dX8_sheet_50 rfl rfl ?_
            refine zz_if_lt (y0 := 0) M 58 dX8_sheet_51 (by decide) (fun c => ?_) (fun c => ?_)
            · have h := zif h c
              refine zz_iconst (v := 0) M dX8_sheet_58 (by decide) ?_
              refine zz_zast M tM_17 h.1 (by decide) dX8_sheet_59 ?_
              have h := h.2
              refine zz_sg (fun σ23 eσ23 => ?_)
              have h := h σ23 eσ23
              refine zz_aload_n M 0 dX8_sheet_60 rfl rfl ?_
              refine zz_getR M f_X8_76 tM_0 rfl dX8_sheet_61 ?_
              refine zz_iload_n M 1 dX8_sheet_64 rfl rfl ?_
              refine zz_iload_n M 2 dX8_sheet_65 rfl rfl ?_
              refine zz_iast M tM_18 h.1 dX8_sheet_66 ?_
              have h := h.2
              refine zz_sg (fun σ24 eσ24 => ?_)
              have h := h σ24 eσ24
              refine zz_aload_n M 0 dX8_sheet_67 rfl rfl ?_
              refine zz_getR M f_X8_79 tM_0 rfl dX8_sheet_68 ?_
              refine zz_iload_n M 1 dX8_sheet_71 rfl rfl ?_
              refine zz_iload_n M 3 dX8_sheet_72 rfl rfl ?_
              refine zz_iast M tM_19 h.1 dX8_sheet_73 ?_
              have h := h.2
              refine zz_sg (fun σ25 eσ25 => ?_)
              have h := h σ25 eσ25
              refine zz_iconst (v := 0) M dX8_sheet_74 (by decide) ?_
              refine zz_istore M [(4, .int 0), (0, .ref (ad 0)), (1, .int x1), (2, .int x2), (3, .int x3)] dX8_sheet_75 (by decide) rfl ?_
              refine zz_sub [(0, .ref (ad 0)), (1, .int x1), (2, .int x2), (3, .int x3), (4, .int 0)] [1, 2, 3, 4, 0] rfl ?_
              refine sX8_sheet_L77 x1 x2 x3  M (fun  σ26 h => ?_) 300 _ _ h
              refine zz_iconst (v := 1) M dX8_sheet_106 (by decide) ?_
              exact zz_iret M dX8_sheet_107 h
            · have h := zifn h c
              refine zz_iconst (v := 1) M dX8_sheet_54 (by decide) ?_
              refine zz_goto M 59 dX8_sheet_55 (by decide) ?_
              refine zz_zast M tM_17 h.1 (by decide) dX8_sheet_59 ?_
              have h := h.2
              refine zz_sg (fun σ27 eσ27 => ?_)
              have h := h σ27 eσ27
              refine zz_aload_n M 0 dX8_sheet_60 rfl rfl ?_
              refine zz_getR M f_X8_76 tM_0 rfl dX8_sheet_61 ?_
              refine zz_iload_n M 1 dX8_sheet_64 rfl rfl ?_
              refine zz_iload_n M 2 dX8_sheet_65 rfl rfl ?_
              refine zz_iast M tM_18 h.1 dX8_sheet_66 ?_
              have h := h.2
              refine zz_sg (fun σ28 eσ28 => ?_)
              have h := h σ28 eσ28
              refine zz_aload_n M 0 dX8_sheet_67 rfl rfl ?_
              refine zz_getR M f_X8_79 tM_0 rfl dX8_sheet_68 ?_
              refine zz_iload_n M 1 dX8_sheet_71 rfl rfl ?_
              refine zz_iload_n M 3 dX8_sheet_72 rfl rfl ?_
              refine zz_iast M tM_19 h.1 dX8_sheet_73 ?_
              have h := h.2
              refine zz_sg (fun σ29 eσ29 => ?_)
              have h := h σ29 eσ29
              refine zz_iconst (v := 0) M dX8_sheet_74 (by decide) ?_
              refine zz_istore M [(4, .int 0), (0, .ref (ad 0)), (1, .int x1), (2, .int x2), (3, .int x3)] dX8_sheet_75 (by decide) rfl ?_
              refine zz_sub [(0, .ref (ad 0)), (1, .int x1), (2, .int x2), (3, .int x3), (4, .int 0)] [1, 2, 3, 4, 0] rfl ?_
              refine sX8_sheet_L77 x1 x2 x3  M (fun  σ30 h => ?_) 300 _ _ h
              refine zz_iconst (v := 1) M dX8_sheet_106 (by decide) ?_
              exact zz_iret M dX8_sheet_107 h
          · have h := zifn h c
            refine zz_iload_n M 3 dX8_sheet_38 rfl rfl ?_
            refine zz_if_ge (y0 := 0) M 45 dX8_sheet_39 (by decide) (fun c => ?_) (fun c => ?_)
            · have h := zif h c
              refine zz_aload_n M 0 dX8_sheet_45 rfl rfl ?_
              refine zz_getR M f_X8_72 tM_0 rfl dX8_sheet_46 ?_
              refine zz_iload_n M 1 dX8_sheet_49 rfl rfl ?_
              refine zz_iload_n M 2 dX8_sheet_50 rfl rfl ?_
              refine zz_if_lt (y0 := 0) M 58 dX8_sheet_51 (by decide) (fun c => ?_) (fun c => ?_)
              · have h := zif h c
                refine zz_iconst (v := 0) M dX8_sheet_58 (by decide) ?_
                refine zz_zast M tM_17 h.1 (by decide) dX8_sheet_59 ?_
                have h := h.2
                refine zz_sg (fun σ31 eσ31 => ?_)
                have h := h σ31 eσ31
                refine zz_aload_n M 0 dX8_sheet_60 rfl rfl ?_
                refine zz_getR M f_X8_76 tM_0 rfl dX8_sheet_61 ?_
                refine zz_iload_n M 1 dX8_sheet_64 rfl rfl ?_
                refine zz_iload_n M 2 dX8_sheet_65 rfl rfl ?_
                refine zz_iast M tM_18 h.1 dX8_sheet_66 ?_
                have h := h.2
                refine zz_sg (fun σ32 eσ32 => ?_)
                have h := h σ32 eσ32
                refine zz_aload_n M 0 dX8_sheet_67 rfl rfl ?_
                refine zz_getR M f_X8_79 tM_0 rfl dX8_sheet_68 ?_
                refine zz_iload_n M 1 dX8_sheet_71 rfl rfl ?_
                refine zz_iload_n M 3 dX8_sheet_72 rfl rfl ?_
                refine zz_iast M tM_19 h.1 dX8_sheet_73 ?_
                have h := h.2
                refine zz_sg (fun σ33 eσ33 => ?_)
                have h := h σ33 eσ33
                refine zz_iconst (v := 0) M dX8_sheet_74 (by decide) ?_
                refine zz_istore M [(4, .int 0), (0, .ref (ad 0)), (1, .int x1), (2, .int x2), (3, .int x3)] dX8_sheet_75 (by decide) rfl ?_
                refine zz_sub [(0, .ref (ad 0)), (1, .int x1), (2, .int x2), (3, .int x3), (4, .int 0)] [1, 2, 3, 4, 0] rfl ?_
                refine sX8_sheet_L77 x1 x2 x3  M (fun  σ34 h => ?_) 300 _ _ h
                refine zz_iconst (v := 1) M dX8_sheet_106 (by decide) ?_
                exact zz_iret M dX8_sheet_107 h
              · have h := zifn h c
                refine zz_iconst (v := 1) M dX8_sheet_54 (by decide) ?_
                refine zz_goto M 59 dX8_sheet_55 (by decide) ?_
                refine zz_zast M tM_17 h.1 (by decide) dX8_sheet_59 ?_
                have h := h.2
                refine zz_sg (fun σ35 eσ35 => ?_)
                have h := h σ35 eσ35
                refine zz_aload_n M 0 dX8_sheet_60 rfl rfl ?_
                refine zz_getR M f_X8_76 tM_0 rfl dX8_sheet_61 ?_
                refine zz_iload_n M 1 dX8_sheet_64 rfl rfl ?_
                refine zz_iload_n M 2 dX8_sheet_65 rfl rfl ?_
                refine zz_iast M tM_18 h.1 dX8_sheet_66 ?_
                have h := h.2
                refine zz_sg (fun σ36 eσ36 => ?_)
                have h := h σ36 eσ36
                refine zz_aload_n M 0 dX8_sheet_67 rfl rfl ?_
                refine zz_getR M f_X8_79 tM_0 rfl dX8_sheet_68 ?_
                refine zz_iload_n M 1 dX8_sheet_71 rfl rfl ?_
                refine zz_iload_n M 3 dX8_sheet_72 rfl rfl ?_
                refine zz_iast M tM_19 h.1 dX8_sheet_73 ?_
                have h := h.2
                refine zz_sg (fun σ37 eσ37 => ?_)
                have h := h σ37 eσ37
                refine zz_iconst (v := 0) M dX8_sheet_74 (by decide) ?_
                refine zz_istore M [(4, .int 0), (0, .ref (ad 0)), (1, .int x1), (2, .int x2), (3, .int x3)] dX8_sheet_75 (by decide) rfl ?_
                refine zz_sub [(0, .ref (ad 0)), (1, .int x1), (2, .int x2), (3, .int x3), (4, .int 0)] [1, 2, 3, 4, 0] rfl ?_
                refine sX8_sheet_L77 x1 x2 x3  M (fun  σ38 h => ?_) 300 _ _ h
                refine zz_iconst (v := 1) M dX8_sheet_106 (by decide) ?_
                exact zz_iret M dX8_sheet_107 h
            · have h := zifn h c
              refine zz_bipush (v := (-14)) M dX8_sheet_42 (by decide) ?_
              exact zz_iret M dX8_sheet_44 h
        · have h := zifn h c
          refine zz_bipush (v := (-2)) M dX8_sheet_31 (by decide) ?_
          exact zz_iret M dX8_sheet_33 h
end
