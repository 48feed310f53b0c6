section
variable {p : Program} {l : Launch} {e : Env} {s : State} {m : MethodId} {args : Array Value} {below : List Frame} {meth : Method} {c : Code} {D : va_G} {cA : Nat → ClassId} {ad : Nat → Nat} {y : zX}
def wX8_back_L13 (Q : Int32 → zSt → Prop) (K37 : zSt → Prop)  : Nat → Int32 → zSt → Prop
  | 0, _, _ => False
  | n + 1, x1, σ => if 24 ≤ x1 then (K37  σ) else (vp_in x1 24 ∧ (vp_in x1 24 ∧ (∀ σ101 : zSt, σ101 = zput σ 9 x1.toNatClampNeg (σ.1 14 x1.toNatClampNeg) → (∀ x102 : Int32, x102 = x1 + 1 → (wX8_back_L13 Q K37  n x102 σ101)))))
set_option maxRecDepth 20000 in
set_option maxHeartbeats 4000000 in
theorem sX8_back_L13 {Q : Int32 → zSt → Prop} {K37 : zSt → Prop}   (M : zM p s m args meth c cX8_back 2 RX8 (some .int) tabM D cA ad y) (hK37 : ∀ (σ : zSt), K37  σ → zG p l e (zrm 1) s m args below meth c 2 tabM D cA ad (MQ below (va_Qi Q (fun σ' t => va_P D vwCl (zws tabM cA ad σ') t.heap) (zIn tabM ad)) args s 0 0 (zIn tabM ad)) 37 [(0, .ref (ad 0))] [] σ) : ∀ (n : Nat) (x1 : Int32) (σ : zSt), wX8_back_L13 Q K37  n x1 σ → zG p l e (zrm 1) s m args below meth c 2 tabM D cA ad (MQ below (va_Qi Q (fun σ' t => va_P D vwCl (zws tabM cA ad σ') t.heap) (zIn tabM ad)) args s 0 0 (zIn tabM ad)) 13 [(0, .ref (ad 0)), (1, .int x1)] [] σ := by
  intro n
  induction n with
  | zero => intro x1 σ h; exact absurd h (by simp [wX8_back_L13])
  | succ n ih =>
    intro x1 σ h
    unfold wX8_back_L13 at h
    refine zz_iload_n M 1 dX8_back_13 rfl rfl ?_
    refine zz_bipush (v := 24) M dX8_back_14 (by decide) ?_
    refine zz_icmp_ge M 37 dX8_back_16 (by decide) (fun c => ?_) (fun c => ?_)
    · have h := zif (c := 24 ≤ x1) h c
      refine zz_sub [(0, .ref (ad 0))] [0] rfl ?_
      exact hK37  _ h
    · have h := zifn (c := 24 ≤ x1) h c
      refine zz_aload_n M 0 dX8_back_19 rfl rfl ?_
      refine zz_getR M f_X8_44 tM_0 rfl dX8_back_20 ?_
      refine zz_iload_n M 1 dX8_back_23 rfl rfl ?_
      refine zz_aload_n M 0 dX8_back_24 rfl rfl ?_
      refine zz_getR M f_X8_60 tM_0 rfl dX8_back_25 ?_
      refine zz_iload_n M 1 dX8_back_28 rfl rfl ?_
      refine zz_iald M tM_14 h.1 dX8_back_29 ?_
      have h := h.2
      refine zz_iast M tM_9 h.1 dX8_back_30 ?_
      have h := h.2
      refine zz_sg (fun σ101 eσ101 => ?_)
      have h := h σ101 eσ101
      obtain ⟨x102, ex102⟩ : ∃ z : Int32, z = x1 + 1 := ⟨_, rfl⟩
      have h := h x102 ex102
      refine zz_iinc M [(1, .int x102), (0, .ref (ad 0))] 1 dX8_back_31 rfl (n32 := 1) (by decide) ex102 (by decide) rfl ?_
      refine zz_goto M 13 dX8_back_34 (by decide) ?_
      refine zz_sub [(0, .ref (ad 0)), (1, .int x102)] [1, 0] rfl ?_
      exact ih _ _ h
def wX8_back_L39 (Q : Int32 → zSt → Prop) (K93 : zSt → Prop)  : Nat → Int32 → zSt → Prop
  | 0, _, _ => False
  | n + 1, x1, σ => if 8 ≤ x1 then (K93  σ) else (vp_in x1 24 ∧ (vp_in x1 8 ∧ (∀ σ104 : zSt, σ104 = zput σ 4 x1.toNatClampNeg (σ.1 15 x1.toNatClampNeg) → (vp_in (8 + x1) 24 ∧ (vp_in x1 8 ∧ (∀ σ105 : zSt, σ105 = zput σ104 5 x1.toNatClampNeg (σ104.1 15 (8 + x1 : Int32).toNatClampNeg) → (vp_in (16 + x1) 24 ∧ (vp_in x1 8 ∧ (∀ σ106 : zSt, σ106 = zput σ105 6 x1.toNatClampNeg (σ105.1 15 (16 + x1 : Int32).toNatClampNeg) → (∀ x107 : Int32, x107 = x1 + 1 → (wX8_back_L39 Q K93  n x107 σ106)))))))))))
set_option maxRecDepth 20000 in
set_option maxHeartbeats 4000000 in
theorem sX8_back_L39 {Q : Int32 → zSt → Prop} {K93 : zSt → Prop}   (M : zM p s m args meth c cX8_back 2 RX8 (some .int) tabM D cA ad y) (hK93 : ∀ (σ : zSt), K93  σ → zG p l e (zrm 1) s m args below meth c 2 tabM D cA ad (MQ below (va_Qi Q (fun σ' t => va_P D vwCl (zws tabM cA ad σ') t.heap) (zIn tabM ad)) args s 0 0 (zIn tabM ad)) 93 [(0, .ref (ad 0))] [] σ) : ∀ (n : Nat) (x1 : Int32) (σ : zSt), wX8_back_L39 Q K93  n x1 σ → zG p l e (zrm 1) s m args below meth c 2 tabM D cA ad (MQ below (va_Qi Q (fun σ' t => va_P D vwCl (zws tabM cA ad σ') t.heap) (zIn tabM ad)) args s 0 0 (zIn tabM ad)) 39 [(0, .ref (ad 0)), (1, .int x1)] [] σ := by
  intro n
  induction n with
  | zero => intro x1 σ h; exact absurd h (by simp [wX8_back_L39])
  | succ n ih =>
    intro x1 σ h
    unfold wX8_back_L39 at h
    refine zz_iload_n M 1 dX8_back_39 rfl rfl ?_
    refine zz_bipush (v := 8) M dX8_back_40 (by decide) ?_
    refine zz_icmp_ge M 93 dX8_back_42 (by decide) (fun c => ?_) (fun c => ?_)
    · have h := zif (c := 8 ≤ x1) h c
      refine zz_sub [(0, .ref (ad 0))] [0] rfl ?_
      exact hK93  _ h
    · have h := zifn (c := 8 ≤ x1) h c
      refine zz_aload_n M 0 dX8_back_45 rfl rfl ?_
      refine zz_getR M f_X8_23 tM_0 rfl dX8_back_46 ?_
      refine zz_iload_n M 1 dX8_back_49 rfl rfl ?_
      refine zz_aload_n M 0 dX8_back_50 rfl rfl ?_
      refine zz_getR M f_X8_63 tM_0 rfl dX8_back_51 ?_
      refine zz_iload_n M 1 dX8_back_54 rfl rfl ?_
      refine zz_iald M tM_15 h.1 dX8_back_55 ?_
      have h := h.2
      refine zz_iast M tM_4 h.1 dX8_back_56 ?_
      have h := h.2
      refine zz_sg (fun σ104 eσ104 => ?_)
      have h := h σ104 eσ104
      refine zz_aload_n M 0 dX8_back_57 rfl rfl ?_
      refine zz_getR M f_X8_26 tM_0 rfl dX8_back_58 ?_
      refine zz_iload_n M 1 dX8_back_61 rfl rfl ?_
      refine zz_aload_n M 0 dX8_back_62 rfl rfl ?_
      refine zz_getR M f_X8_63 tM_0 rfl dX8_back_63 ?_
      refine zz_bipush (v := 8) M dX8_back_66 (by decide) ?_
      refine zz_iload_n M 1 dX8_back_68 rfl rfl ?_
      refine zz_iadd M dX8_back_69 ?_
      refine zz_iald M tM_15 h.1 dX8_back_70 ?_
      have h := h.2
      refine zz_iast M tM_5 h.1 dX8_back_71 ?_
      have h := h.2
      refine zz_sg (fun σ105 eσ105 => ?_)
      have h := h σ105 eσ105
      refine zz_aload_n M 0 dX8_back_72 rfl rfl ?_
      refine zz_getR M f_X8_29 tM_0 rfl dX8_back_73 ?_
      refine zz_iload_n M 1 dX8_back_76 rfl rfl ?_
      refine zz_aload_n M 0 dX8_back_77 rfl rfl ?_
      refine zz_getR M f_X8_63 tM_0 rfl dX8_back_78 ?_
      refine zz_bipush (v := 16) M dX8_back_81 (by decide) ?_
      refine zz_iload_n M 1 dX8_back_83 rfl rfl ?_
      refine zz_iadd M dX8_back_84 ?_
      refine zz_iald M tM_15 h.1 dX8_back_85 ?_
      have h := h.2
      refine zz_iast M tM_6 h.1 dX8_back_86 ?_
      have h := h.2
      refine zz_sg (fun σ106 eσ106 => ?_)
      have h := h σ106 eσ106
      obtain ⟨x107, ex107⟩ : ∃ z : Int32, z = x1 + 1 := ⟨_, rfl⟩
      have h := h x107 ex107
      refine zz_iinc M [(1, .int x107), (0, .ref (ad 0))] 1 dX8_back_87 rfl (n32 := 1) (by decide) ex107 (by decide) rfl ?_
      refine zz_goto M 39 dX8_back_90 (by decide) ?_
      refine zz_sub [(0, .ref (ad 0)), (1, .int x107)] [1, 0] rfl ?_
      exact ih _ _ h
def wX8_back_L95 (Q : Int32 → zSt → Prop) (K118 : zSt → Prop)  : Nat → Int32 → zSt → Prop
  | 0, _, _ => False
  | n + 1, x1, σ => if 4 ≤ x1 then (K118  σ) else (vp_in x1 4 ∧ (vp_in x1 4 ∧ (∀ σ109 : zSt, σ109 = zput σ 8 x1.toNatClampNeg (σ.1 16 x1.toNatClampNeg) → (∀ x110 : Int32, x110 = x1 + 1 → (wX8_back_L95 Q K118  n x110 σ109)))))
set_option maxRecDepth 20000 in
set_option maxHeartbeats 4000000 in
theorem sX8_back_L95 {Q : Int32 → zSt → Prop} {K118 : zSt → Prop}   (M : zM p s m args meth c cX8_back 2 RX8 (some .int) tabM D cA ad y) (hK118 : ∀ (σ : zSt), K118  σ → zG p l e (zrm 1) s m args below meth c 2 tabM D cA ad (MQ below (va_Qi Q (fun σ' t => va_P D vwCl (zws tabM cA ad σ') t.heap) (zIn tabM ad)) args s 0 0 (zIn tabM ad)) 118 [(0, .ref (ad 0))] [] σ) : ∀ (n : Nat) (x1 : Int32) (σ : zSt), wX8_back_L95 Q K118  n x1 σ → zG p l e (zrm 1) s m args below meth c 2 tabM D cA ad (MQ below (va_Qi Q (fun σ' t => va_P D vwCl (zws tabM cA ad σ') t.heap) (zIn tabM ad)) args s 0 0 (zIn tabM ad)) 95 [(0, .ref (ad 0)), (1, .int x1)] [] σ := by
  intro n
  induction n with
  | zero => intro x1 σ h; exact absurd h (by simp [wX8_back_L95])
  | succ n ih =>
    intro x1 σ h
    unfold wX8_back_L95 at h
    refine zz_iload_n M 1 dX8_back_95 rfl rfl ?_
    refine zz_iconst (v := 4) M dX8_back_96 (by decide) ?_
    refine zz_icmp_ge M 118 dX8_back_97 (by decide) (fun c => ?_) (fun c => ?_)
    · have h := zif (c := 4 ≤ x1) h c
      refine zz_sub [(0, .ref (ad 0))] [0] rfl ?_
      exact hK118  _ h
    · have h := zifn (c := 4 ≤ x1) h c
      refine zz_aload_n M 0 dX8_back_100 rfl rfl ?_
      refine zz_getR M f_X8_41 tM_0 rfl dX8_back_101 ?_
      refine zz_iload_n M 1 dX8_back_104 rfl rfl ?_
      refine zz_aload_n M 0 dX8_back_105 rfl rfl ?_
      refine zz_getR M f_X8_66 tM_0 rfl dX8_back_106 ?_
      refine zz_iload_n M 1 dX8_back_109 rfl rfl ?_
      refine zz_iald M tM_16 h.1 dX8_back_110 ?_
      have h := h.2
      refine zz_iast M tM_8 h.1 dX8_back_111 ?_
      have h := h.2
      refine zz_sg (fun σ109 eσ109 => ?_)
      have h := h σ109 eσ109
      obtain ⟨x110, ex110⟩ : ∃ z : Int32, z = x1 + 1 := ⟨_, rfl⟩
      have h := h x110 ex110
      refine zz_iinc M [(1, .int x110), (0, .ref (ad 0))] 1 dX8_back_112 rfl (n32 := 1) (by decide) ex110 (by decide) rfl ?_
      refine zz_goto M 95 dX8_back_115 (by decide) ?_
      refine zz_sub [(0, .ref (ad 0)), (1, .int x110)] [1, 0] rfl ?_
      exact ih _ _ h
def wX8_back  (σ : zSt) (Q : Int32 → zSt → Prop) : Prop := if (σ.1 0 40) = (-1) then (Q (-3) σ) else (wX8_back_L13 Q (fun  σ103 => wX8_back_L39 Q (fun  σ108 => wX8_back_L95 Q (fun  σ111 => ∀ σ112 : zSt, σ112 = zput σ111 0 10 (σ111.1 0 40) → (∀ σ113 : zSt, σ113 = zput σ112 0 11 (σ112.1 0 41) → (∀ σ114 : zSt, σ114 = zput σ113 0 16 (σ113.1 0 42) → (∀ σ115 : zSt, σ115 = zput σ114 0 12 (σ114.1 0 43) → (∀ σ116 : zSt, σ116 = zput σ115 0 13 (σ115.1 0 44) → (∀ σ117 : zSt, σ117 = zput σ116 0 4 (σ116.1 0 45) → (Q ((σ117.1 0 10) + (σ117.1 0 11)) σ117)))))))  300 0 σ108)  300 0 σ103)  300 0 σ)
set_option maxRecDepth 20000 in
set_option maxHeartbeats 4000000 in
theorem kX8_back (hI : zInj tabM ad)   (σ : zSt) (Q : Int32 → zSt → Prop) (h : wX8_back  σ Q) : zOkI l tabM D cA ad y 1 yX8_back cX8_back 2 (some .int) [.ref (ad 0)] σ Q := by
  refine zz_enter hI (by decide) (Nat.le_of_ble_eq_true rfl) (fun p e s m below meth c M => ?_)
  have M : zM p s m _ meth c cX8_back 2 RX8 (some .int) tabM D cA ad y := M
  refine zz_ls [(0, .ref (ad 0))] rfl ?_
  unfold wX8_back at h
  refine zz_aload_n M 0 dX8_back_0 rfl rfl ?_
  refine zz_getI M f_X8_69 tM_0 rfl dX8_back_1 ?_
  refine zz_iconst (v := (-1)) M dX8_back_4 (by decide) ?_
  refine zz_icmp_ne M 11 dX8_back_5 (by decide) (fun c => ?_) (fun c => ?_)
  · have h := zifn (c := (σ.1 0 40) = (-1)) h c
    refine zz_iconst (v := 0) M dX8_back_11 (by decide) ?_
    refine zz_istore_n M [(1, .int 0), (0, .ref (ad 0))] dX8_back_12 rfl (by decide) rfl ?_
    refine zz_sub [(0, .ref (ad 0)), (1, .int 0)] [1, 0] rfl ?_
    refine sX8_back_L13   M (fun  σ103 h => ?_) 300 _ _ h
    refine zz_iconst (v := 0) M dX8_back_37 (by decide) ?_
    refine zz_istore_n M [(1, .int 0), (0, .ref (ad 0))] dX8_back_38 rfl (by decide) rfl ?_
    refine zz_sub [(0, .ref (ad 0)), (1, .int 0)] [1, 0] rfl ?_
    refine sX8_back_L39   M (fun  σ108 h => ?_) 300 _ _ h
    refine zz_iconst (v := 0) M dX8_back_93 (by decide) ?_
    refine zz_istore_n M [(1, .int 0), (0, .ref (ad 0))] dX8_back_94 rfl (by decide) rfl ?_
    refine zz_sub [(0, .ref (ad 0)), (1, .int 0)] [1, 0] rfl ?_
    refine sX8_back_L95   M (fun  σ111 h => ?_) 300 _ _ h
    refine zz_aload_n M 0 dX8_back_118 rfl rfl ?_
    refine zz_aload_n M 0 dX8_back_119 rfl rfl ?_
    refine zz_getI M f_X8_69 tM_0 rfl dX8_back_120 ?_
    refine zz_putI M f_X8_96 tM_0 rfl dX8_back_123 ?_
    refine zz_sg (fun σ112 eσ112 => ?_)
    have h := h σ112 eσ112
    refine zz_aload_n M 0 dX8_back_126 rfl rfl ?_
    refine zz_aload_n M 0 dX8_back_127 rfl rfl ?_
    refine zz_getI M f_X8_442 tM_0 rfl dX8_back_128 ?_
    refine zz_putI M f_X8_99 tM_0 rfl dX8_back_131 ?_
    refine zz_sg (fun σ113 eσ113 => ?_)
    have h := h σ113 eσ113
    refine zz_aload_n M 0 dX8_back_134 rfl rfl ?_
    refine zz_aload_n M 0 dX8_back_135 rfl rfl ?_
    refine zz_getI M f_X8_445 tM_0 rfl dX8_back_136 ?_
    refine zz_putI M f_X8_114 tM_0 rfl dX8_back_139 ?_
    refine zz_sg (fun σ114 eσ114 => ?_)
    have h := h σ114 eσ114
    refine zz_aload_n M 0 dX8_back_142 rfl rfl ?_
    refine zz_aload_n M 0 dX8_back_143 rfl rfl ?_
    refine zz_getI M f_X8_448 tM_0 rfl dX8_back_144 ?_
    refine zz_putI M f_X8_32 tM_0 rfl dX8_back_147 ?_
    refine zz_sg (fun σ115 eσ115 => ?_)
    have h := h σ115 eσ115
    refine zz_aload_n M 0 dX8_back_150 rfl rfl ?_
    refine zz_aload_n M 0 dX8_back_151 rfl rfl ?_
    refine zz_getI M f_X8_451 tM_0 rfl dX8_back_152 ?_
    refine zz_putI M f_X8_35 tM_0 rfl dX8_back_155 ?_
    refine zz_sg (fun σ116 eσ116 => ?_)
    have h := h σ116 eσ116
    refine zz_aload_n M 0 dX8_back_158 rfl rfl ?_
    refine zz_aload_n M 0 dX8_back_159 rfl rfl ?_
    refine zz_getI M f_X8_454 tM_0 rfl dX8_back_160 ?_
    refine zz_putI M f_X8_332 tM_0 rfl dX8_back_163 ?_
    refine zz_sg (fun σ117 eσ117 => ?_)
    have h := h σ117 eσ117
    refine zz_aload_n M 0 dX8_back_166 rfl rfl ?_
    refine zz_getI M f_X8_96 tM_0 rfl dX8_back_167 ?_
    refine zz_aload_n M 0 dX8_back_170 rfl rfl ?_
    refine zz_getI M f_X8_99 tM_0 rfl dX8_back_171 ?_
    refine zz_iadd M dX8_back_174 ?_
    exact zz_iret M dX8_back_175 h
  · have h := zif (c := (σ.1 0 40) = (-1)) h c
    refine zz_bipush (v := (-3)) M dX8_back_8 (by decide) ?_
    exact zz_iret M dX8_back_10 h
def wX8_count (x1 : Int32) (σ : zSt) (Q : Int32 → zSt → Prop) : Prop := ∀ a101 : Int64, a101 = ((x1 : Int32).toInt64) → (wX8_in a101 0 7 σ (fun r102 σ103 => if r102 = 0 then (Q (-2) σ103) else (if 3 ≤ x1 then (if 5 ≤ x1 then (if x1 = 5 then (Q (σ103.1 0 3) σ103) else (if x1 = 6 then (Q (σ103.1 0 6) σ103) else (Q (σ103.1 0 4) σ103))) else (if x1 = 3 then (Q (σ103.1 0 12) σ103) else (Q (σ103.1 0 13) σ103))) else (if x1 = 0 then (Q (σ103.1 0 10) σ103) else (if x1 = 1 then (Q (σ103.1 0 11) σ103) else (Q (σ103.1 0 16) σ103))))))
set_option maxRecDepth 20000 in
set_option maxHeartbeats 4000000 in
theorem kX8_count (hI : zInj tabM ad) (x1 : Int32)  (σ : zSt) (Q : Int32 → zSt → Prop) (h : wX8_count x1 σ Q) : zOkI l tabM D cA ad y 2 yX8_count cX8_count 2 (some .int) [.ref (ad 0), .int x1] σ Q := by
  refine zz_enter hI (by decide) (Nat.le_of_ble_eq_true rfl) (fun p e s m below meth c M => ?_)
  have M : zM p s m _ meth c cX8_count 2 RX8 (some .int) tabM D cA ad y := M
  refine zz_ls [(0, .ref (ad 0)), (1, .int x1)] rfl ?_
  unfold wX8_count at h
  refine zz_iload_n M 1 dX8_count_0 rfl rfl ?_
  refine zz_i2l M dX8_count_1 ?_
  refine zz_lconst (v := 0) M dX8_count_2 (by decide) ?_
  refine zz_ldc2 (v := 7) M k_X8_457 dX8_count_3 ?_
  obtain ⟨a101, ea101⟩ : ∃ z : Int64, z = ((x1 : Int32).toInt64) := ⟨_, rfl⟩
  have h := h a101 ea101
  refine zz_st [.long 7, .long 0, .long a101] (by rw [ea101]) ?_
  refine zz_callSI (d' := 1) (As := [.long a101, .long 0, .long 7]) (rest := []) M l_X8_92 dX8_count_6 rfl rfl (by decide) (Nat.le_of_ble_eq_true rfl) (by have hI := M.2.2.2.2.2.2.2.2; exact kX8_in hI _ _ _  _ _ h) (fun r102 σ103 h => ?_)
  refine zz_if_ne (y0 := 0) M 15 dX8_count_9 (by decide) (fun c => ?_) (fun c => ?_)
  · have h := zifn (c := r102 = 0) h c
    refine zz_iload_n M 1 dX8_count_15 rfl rfl ?_
    refine zz_iconst (v := 3) M dX8_count_16 (by decide) ?_
    refine zz_icmp_ge M 48 dX8_count_17 (by decide) (fun c => ?_) (fun c => ?_)
    · have h := zif (c := 3 ≤ x1) h c
      refine zz_iload_n M 1 dX8_count_48 rfl rfl ?_
      refine zz_iconst (v := 5) M dX8_count_49 (by decide) ?_
      refine zz_icmp_ge M 70 dX8_count_50 (by decide) (fun c => ?_) (fun c => ?_)
      · have h := zif (c := 5 ≤ x1) h c
        refine zz_iload_n M 1 dX8_count_70 rfl rfl ?_
        refine zz_iconst (v := 5) M dX8_count_71 (by decide) ?_
        refine zz_icmp_ne M 82 dX8_count_72 (by decide) (fun c => ?_) (fun c => ?_)
        · have h := zifn (c := x1 = 5) h c
          refine zz_iload_n M 1 dX8_count_82 rfl rfl ?_
          refine zz_bipush (v := 6) M dX8_count_83 (by decide) ?_
          refine zz_icmp_ne M 95 dX8_count_85 (by decide) (fun c => ?_) (fun c => ?_)
          · have h := zifn (c := x1 = 6) h c
            refine zz_aload_n M 0 dX8_count_95 rfl rfl ?_
            refine zz_getI M f_X8_332 tM_0 rfl dX8_count_96 ?_
            exact zz_iret M dX8_count_99 h
          · have h := zif (c := x1 = 6) h c
            refine zz_aload_n M 0 dX8_count_88 rfl rfl ?_
            refine zz_getI M f_X8_123 tM_0 rfl dX8_count_89 ?_
            refine zz_goto M 99 dX8_count_92 (by decide) ?_
            exact zz_iret M dX8_count_99 h
        · have h := zif (c := x1 = 5) h c
          refine zz_aload_n M 0 dX8_count_75 rfl rfl ?_
          refine zz_getI M f_X8_89 tM_0 rfl dX8_count_76 ?_
          refine zz_goto M 99 dX8_count_79 (by decide) ?_
          exact zz_iret M dX8_count_99 h
      · have h := zifn (c := 5 ≤ x1) h c
        refine zz_iload_n M 1 dX8_count_53 rfl rfl ?_
        refine zz_iconst (v := 3) M dX8_count_54 (by decide) ?_
        refine zz_icmp_ne M 65 dX8_count_55 (by decide) (fun c => ?_) (fun c => ?_)
        · have h := zifn (c := x1 = 3) h c
          refine zz_aload_n M 0 dX8_count_65 rfl rfl ?_
          refine zz_getI M f_X8_35 tM_0 rfl dX8_count_66 ?_
          exact zz_iret M dX8_count_69 h
        · have h := zif (c := x1 = 3) h c
          refine zz_aload_n M 0 dX8_count_58 rfl rfl ?_
          refine zz_getI M f_X8_32 tM_0 rfl dX8_count_59 ?_
          refine zz_goto M 69 dX8_count_62 (by decide) ?_
          exact zz_iret M dX8_count_69 h
    · have h := zifn (c := 3 ≤ x1) h c
      refine zz_iload_n M 1 dX8_count_20 rfl rfl ?_
      refine zz_if_ne (y0 := 0) M 31 dX8_count_21 (by decide) (fun c => ?_) (fun c => ?_)
      · have h := zifn (c := x1 = 0) h c
        refine zz_iload_n M 1 dX8_count_31 rfl rfl ?_
        refine zz_iconst (v := 1) M dX8_count_32 (by decide) ?_
        refine zz_icmp_ne M 43 dX8_count_33 (by decide) (fun c => ?_) (fun c => ?_)
        · have h := zifn (c := x1 = 1) h c
          refine zz_aload_n M 0 dX8_count_43 rfl rfl ?_
          refine zz_getI M f_X8_114 tM_0 rfl dX8_count_44 ?_
          exact zz_iret M dX8_count_47 h
        · have h := zif (c := x1 = 1) h c
          refine zz_aload_n M 0 dX8_count_36 rfl rfl ?_
          refine zz_getI M f_X8_99 tM_0 rfl dX8_count_37 ?_
          refine zz_goto M 47 dX8_count_40 (by decide) ?_
          exact zz_iret M dX8_count_47 h
      · have h := zif (c := x1 = 0) h c
        refine zz_aload_n M 0 dX8_count_24 rfl rfl ?_
        refine zz_getI M f_X8_96 tM_0 rfl dX8_count_25 ?_
        refine zz_goto M 47 dX8_count_28 (by decide) ?_
        exact zz_iret M dX8_count_47 h
  · have h := zif (c := r102 = 0) h c
    refine zz_bipush (v := (-2)) M dX8_count_12 (by decide) ?_
    exact zz_iret M dX8_count_14 h
def wX8_sheet_L77 (Q : Int32 → zSt → Prop) (K106 : zSt → Prop) (x1 : Int32) (x2 : Int32) (x3 : Int32) : Nat → Int32 → zSt → Prop
  | 0, _, _ => False
  | n + 1, x4, σ => if x3 ≤ x4 then (K106  σ) else (if x2 < 0 then (K106  σ) else (vp_in ((40 * x1) + x4) 160 ∧ (∀ σ109 : zSt, σ109 = zput σ 20 ((40 * x1) + x4 : Int32).toNatClampNeg 0 → (∀ x110 : Int32, x110 = x4 + 1 → (wX8_sheet_L77 Q K106 x1 x2 x3 n x110 σ109)))))
set_option maxRecDepth 20000 in
set_option maxHeartbeats 4000000 in
theorem sX8_sheet_L77 {Q : Int32 → zSt → Prop} {K106 : zSt → Prop} (x1 : Int32) (x2 : Int32) (x3 : Int32)  (M : zM p s m args meth c cX8_sheet 5 RX8 (some .int) tabM D cA ad y) (hK106 : ∀ (σ : zSt), K106  σ → zG p l e (zrm 3) s m args below meth c 5 tabM D cA ad (MQ below (va_Qi Q (fun σ' t => va_P D vwCl (zws tabM cA ad σ') t.heap) (zIn tabM ad)) args s 0 0 (zIn tabM ad)) 106 [] [] σ) : ∀ (n : Nat) (x4 : Int32) (σ : zSt), wX8_sheet_L77 Q K106 x1 x2 x3 n x4 σ → zG p l e (zrm 3) s m args below meth c 5 tabM D cA ad (MQ below (va_Qi Q (fun σ' t => va_P D vwCl (zws tabM cA ad σ') t.heap) (zIn tabM ad)) args s 0 0 (zIn tabM ad)) 77 [(0, .ref (ad 0)), (1, .int x1), (2, .int x2), (3, .int x3), (4, .int x4)] [] σ := by
  intro n
  induction n with
  | zero => intro x4 σ h; exact absurd h (by simp [wX8_sheet_L77])
  | succ n ih =>
    intro x4 σ h
    unfold wX8_sheet_L77 at h
    refine zz_iload M 4 dX8_sheet_77 rfl ?_
    refine zz_iload_n M 3 dX8_sheet_79 rfl rfl ?_
    refine zz_icmp_ge M 106 dX8_sheet_80 (by decide) (fun c => ?_) (fun c => ?_)
    · have h := zif (c := x3 ≤ x4) h c
      refine zz_sub [] [] rfl ?_
      exact hK106  _ h
    · have h := zifn (c := x3 ≤ x4) h c
      refine zz_iload_n M 2 dX8_sheet_83 rfl rfl ?_
      refine zz_if_lt (y0 := 0) M 106 dX8_sheet_84 (by decide) (fun c => ?_) (fun c => ?_)
      · have h := zif (c := x2 < 0) h c
        refine zz_sub [] [] rfl ?_
        exact hK106  _ h
      · have h := zifn (c := x2 < 0) h c
        refine zz_aload_n M 0 dX8_sheet_87 rfl rfl ?_
        refine zz_getR M f_X8_82 tM_0 rfl dX8_sheet_88 ?_
        refine zz_bipush (v := 40) M dX8_sheet_91 (by decide) ?_
        refine zz_iload_n M 1 dX8_sheet_93 rfl rfl ?_
        refine zz_imul M dX8_sheet_94 ?_
        refine zz_iload M 4 dX8_sheet_95 rfl ?_
        refine zz_iadd M dX8_sheet_97 ?_
        refine zz_iconst (v := 0) M dX8_sheet_98 (by decide) ?_
        refine zz_iast M tM_20 h.1 dX8_sheet_99 ?_
        have h := h.2
        refine zz_sg (fun σ109 eσ109 => ?_)
        have h := h σ109 eσ109
        obtain ⟨x110, ex110⟩ : ∃ z : Int32, z = x4 + 1 := ⟨_, rfl⟩
        have h := h x110 ex110
        refine zz_iinc M [(4, .int x110), (0, .ref (ad 0)), (1, .int x1), (2, .int x2), (3, .int x3)] 4 dX8_sheet_100 rfl (n32 := 1) (by decide) ex110 (by decide) rfl ?_
        refine zz_goto M 77 dX8_sheet_103 (by decide) ?_
        refine zz_sub [(0, .ref (ad 0)), (1, .int x1), (2, .int x2), (3, .int x3), (4, .int x110)] [1, 2, 3, 4, 0] rfl ?_
        exact ih _ _ h
def wX8_sheet (x1 : Int32) (x2 : Int32) (x3 : Int32) (σ : zSt) (Q : Int32 → zSt → Prop) : Prop := wX8_isSheet x1 σ (fun r101 σ102 => if r101 = 0 then (Q (-2) σ102) else (∀ a103 : Int64, a103 = ((x2 : Int32).toInt64) → (wX8_in a103 (-1) 2 σ102 (fun r104 σ105 => if r104 = 0 then (Q (-2) σ105) else (if x2 < 0 then (if x2 < 0 then (if x2 < 0 then (vp_in x1 4 ∧ (∀ σ106 : zSt, σ106 = zput σ105 17 x1.toNatClampNeg 0 → (vp_in x1 4 ∧ (∀ σ107 : zSt, σ107 = zput σ106 18 x1.toNatClampNeg x2 → (vp_in x1 4 ∧ (∀ σ108 : zSt, σ108 = zput σ107 19 x1.toNatClampNeg x3 → (wX8_sheet_L77 Q (fun  σ111 => Q 1 σ111) x1 x2 x3 300 0 σ108))))))) else (vp_in x1 4 ∧ (∀ σ112 : zSt, σ112 = zput σ105 17 x1.toNatClampNeg 1 → (vp_in x1 4 ∧ (∀ σ113 : zSt, σ113 = zput σ112 18 x1.toNatClampNeg x2 → (vp_in x1 4 ∧ (∀ σ114 : zSt, σ114 = zput σ113 19 x1.toNatClampNeg x3 → (wX8_sheet_L77 Q (fun  σ115 => Q 1 σ115) x1 x2 x3 300 0 σ114)))))))) else (if 0 ≤ x3 then (if x2 < 0 then (vp_in x1 4 ∧ (∀ σ116 : zSt, σ116 = zput σ105 17 x1.toNatClampNeg 0 → (vp_in x1 4 ∧ (∀ σ117 : zSt, σ117 = zput σ116 18 x1.toNatClampNeg x2 → (vp_in x1 4 ∧ (∀ σ118 : zSt, σ118 = zput σ117 19 x1.toNatClampNeg x3 → (wX8_sheet_L77 Q (fun  σ119 => Q 1 σ119) x1 x2 x3 300 0 σ118))))))) else (vp_in x1 4 ∧ (∀ σ120 : zSt, σ120 = zput σ105 17 x1.toNatClampNeg 1 → (vp_in x1 4 ∧ (∀ σ121 : zSt, σ121 = zput σ120 18 x1.toNatClampNeg x2 → (vp_in x1 4 ∧ (∀ σ122 : zSt, σ122 = zput σ121 19 x1.toNatClampNeg x3 → (wX8_sheet_L77 Q (fun  σ123 => Q 1 σ123) x1 x2 x3 300 0 σ122)))))))) else (Q (-14) σ105))) else (if x3 ≤ 40 then (if x2 < 0 then (if x2 < 0 then (vp_in x1 4 ∧ (∀ σ124 : zSt, σ124 = zput σ105 17 x1.toNatClampNeg 0 → (vp_in x1 4 ∧ (∀ σ125 : zSt, σ125 = zput σ124 18 x1.toNatClampNeg x2 → (vp_in x1 4 ∧ (∀ σ126 : zSt, σ126 = zput σ125 19 x1.toNatClampNeg x3 → (wX8_sheet_L77 Q (fun  σ127 => Q 1 σ127) x1 x2 x3 300 0 σ126))))))) else (vp_in x1 4 ∧ (∀ σ128 : zSt, σ128 = zput σ105 17 x1.toNatClampNeg 1 → (vp_in x1 4 ∧ (∀ σ129 : zSt, σ129 = zput σ128 18 x1.toNatClampNeg x2 → (vp_in x1 4 ∧ (∀ σ130 : zSt, σ130 = zput σ129 19 x1.toNatClampNeg x3 → (wX8_sheet_L77 Q (fun  σ131 => Q 1 σ131) x1 x2 x3 300 0 σ130)))))))) else (if 0 ≤ x3 then (if x2 < 0 then (vp_in x1 4 ∧ (∀ σ132 : zSt, σ132 = zput σ105 17 x1.toNatClampNeg 0 → (vp_in x1 4 ∧ (∀ σ133 : zSt, σ133 = zput σ132 18 x1.toNatClampNeg x2 → (vp_in x1 4 ∧ (∀ σ134 : zSt, σ134 = zput σ133 19 x1.toNatClampNeg x3 → (wX8_sheet_L77 Q (fun  σ135 => Q 1 σ135) x1 x2 x3 300 0 σ134))))))) else (vp_in x1 4 ∧ (∀ σ136 : zSt, σ136 = zput σ105 17 x1.toNatClampNeg 1 → (vp_in x1 4 ∧ (∀ σ137 : zSt, σ137 = zput σ136 18 x1.toNatClampNeg x2 → (vp_in x1 4 ∧ (∀ σ138 : zSt, σ138 = zput σ137 19 x1.toNatClampNeg x3 → (wX8_sheet_L77 Q (fun  σ139 => Q 1 σ139) x1 x2 x3 300 0 σ138)))))))) else (Q (-14) σ105))) else (Q (-2) σ105)))))))
set_option maxRecDepth 20000 in
set_option maxHeartbeats 4000000 in
theorem kX8_sheet (hI : zInj tabM ad) (x1 : Int32) (x2 : Int32) (x3 : Int32)  (σ : zSt) (Q : Int32 → zSt → Prop) (h : wX8_sheet x1 x2 x3 σ Q) : zOkI l tabM D cA ad y 3 yX8_sheet cX8_sheet 5 (some .int) [.ref (ad 0), .int x1, .int x2, .int x3] σ Q := by
  refine zz_enter hI (by decide) (Nat.le_of_ble_eq_true rfl) (fun p e s m below meth c M => ?_)
  have M : zM p s m _ meth c cX8_sheet 5 RX8 (some .int) tabM D cA ad y := M
  refine zz_ls [(0, .ref (ad 0)), (1, .int x1), (2, .int x2), (3, .int x3)] rfl ?_
  unfold wX8_sheet at h
  refine zz_iload_n M 1 dX8_sheet_0 rfl rfl ?_
  refine zz_callSI (d' := 2) (As := [.int x1]) (rest := []) M l_X8_431 dX8_sheet_1 rfl rfl (by decide) (Nat.le_of_ble_eq_true rfl) (by have hI := M.2.2.2.2.2.2.2.2; exact kX8_isSheet hI _  _ _ h) (fun r101 σ102 h => ?_)
  refine zz_if_eq (y0 := 0) M 31 dX8_sheet_4 (by decide) (fun c => ?_) (fun c => ?_)
  · have h := zif (c := r101 = 0) h c
    refine zz_bipush (v := (-2)) M dX8_sheet_31 (by decide) ?_
    exact zz_iret M dX8_sheet_33 h
  · have h := zifn (c := r101 = 0) h c
    refine zz_iload_n M 2 dX8_sheet_7 rfl rfl ?_
    refine zz_i2l M dX8_sheet_8 ?_
    refine zz_ldc2 (v := (-1)) M k_X8_420 dX8_sheet_9 ?_
    refine zz_ldc2 (v := 2) M k_X8_104 dX8_sheet_12 ?_
    obtain ⟨a103, ea103⟩ : ∃ z : Int64, z = ((x2 : Int32).toInt64) := ⟨_, rfl⟩
    have h := h a103 ea103
    refine zz_st [.long 2, .long (-1), .long a103] (by rw [ea103]) ?_
    refine zz_callSI (d' := 1) (As := [.long a103, .long (-1), .long 2]) (rest := []) M l_X8_92 dX8_sheet_15 rfl rfl (by decide) (Nat.le_of_ble_eq_true rfl) (by have hI := M.2.2.2.2.2.2.2.2; exact kX8_in hI _ _ _  _ _ h) (fun r104 σ105 h => ?_)
    refine zz_if_eq (y0 := 0) M 31 dX8_sheet_18 (by decide) (fun c => ?_) (fun c => ?_)
    · have h := zif (c := r104 = 0) h c
      refine zz_bipush (v := (-2)) M dX8_sheet_31 (by decide) ?_
      exact zz_iret M dX8_sheet_33 h
    · have h := zifn (c := r104 = 0) h c
      refine zz_iload_n M 2 dX8_sheet_21 rfl rfl ?_
      refine zz_if_lt (y0 := 0) M 34 dX8_sheet_22 (by decide) (fun c => ?_) (fun c => ?_)
      · have h := zif (c := x2 < 0) h c
        refine zz_iload_n M 2 dX8_sheet_34 rfl rfl ?_
        refine zz_if_lt (y0 := 0) M 45 dX8_sheet_35 (by decide) (fun c => ?_) (fun c => ?_)
        · have h := zif (c := x2 < 0) h c
          refine zz_aload_n M 0 dX8_sheet_45 rfl rfl ?_
          refine zz_getR M f_X8_72 tM_0 rfl dX8_sheet_46 ?_
          refine zz_iload_n M 1 dX8_sheet_49 rfl rfl ?_
          refine zz_iload_n M 2 dX8_sheet_50 rfl rfl ?_
          refine zz_if_lt (y0 := 0) M 58 dX8_sheet_51 (by decide) (fun c => ?_) (fun c => ?_)
          · have h := zif (c := x2 < 0) h c
            refine zz_iconst (v := 0) M dX8_sheet_58 (by decide) ?_
            refine zz_zast M tM_17 h.1 (by decide) dX8_sheet_59 ?_
            have h := h.2
            refine zz_sg (fun σ106 eσ106 => ?_)
            have h := h σ106 eσ106
            refine zz_aload_n M 0 dX8_sheet_60 rfl rfl ?_
            refine zz_getR M f_X8_76 tM_0 rfl dX8_sheet_61 ?_
            refine zz_iload_n M 1 dX8_sheet_64 rfl rfl ?_
            refine zz_iload_n M 2 dX8_sheet_65 rfl rfl ?_
            refine zz_iast M tM_18 h.1 dX8_sheet_66 ?_
            have h := h.2
            refine zz_sg (fun σ107 eσ107 => ?_)
            have h := h σ107 eσ107
            refine zz_aload_n M 0 dX8_sheet_67 rfl rfl ?_
            refine zz_getR M f_X8_79 tM_0 rfl dX8_sheet_68 ?_
            refine zz_iload_n M 1 dX8_sheet_71 rfl rfl ?_
            refine zz_iload_n M 3 dX8_sheet_72 rfl rfl ?_
            refine zz_iast M tM_19 h.1 dX8_sheet_73 ?_
            have h := h.2
            refine zz_sg (fun σ108 eσ108 => ?_)
            have h := h σ108 eσ108
            refine zz_iconst (v := 0) M dX8_sheet_74 (by decide) ?_
            refine zz_istore M [(4, .int 0), (0, .ref (ad 0)), (1, .int x1), (2, .int x2), (3, .int x3)] dX8_sheet_75 (by decide) rfl ?_
            refine zz_sub [(0, .ref (ad 0)), (1, .int x1), (2, .int x2), (3, .int x3), (4, .int 0)] [1, 2, 3, 4, 0] rfl ?_
            refine sX8_sheet_L77 x1 x2 x3  M (fun  σ111 h => ?_) 300 _ _ h
            refine zz_iconst (v := 1) M dX8_sheet_106 (by decide) ?_
            exact zz_iret M dX8_sheet_107 h
          · have h := zifn (c := x2 < 0) h c
            refine zz_iconst (v := 1) M dX8_sheet_54 (by decide) ?_
            refine zz_goto M 59 dX8_sheet_55 (by decide) ?_
            refine zz_zast M tM_17 h.1 (by decide) dX8_sheet_59 ?_
            have h := h.2
            refine zz_sg (fun σ112 eσ112 => ?_)
            have h := h σ112 eσ112
            refine zz_aload_n M 0 dX8_sheet_60 rfl rfl ?_
            refine zz_getR M f_X8_76 tM_0 rfl dX8_sheet_61 ?_
            refine zz_iload_n M 1 dX8_sheet_64 rfl rfl ?_
            refine zz_iload_n M 2 dX8_sheet_65 rfl rfl ?_
            refine zz_iast M tM_18 h.1 dX8_sheet_66 ?_
            have h := h.2
            refine zz_sg (fun σ113 eσ113 => ?_)
            have h := h σ113 eσ113
            refine zz_aload_n M 0 dX8_sheet_67 rfl rfl ?_
            refine zz_getR M f_X8_79 tM_0 rfl dX8_sheet_68 ?_
            refine zz_iload_n M 1 dX8_sheet_71 rfl rfl ?_
            refine zz_iload_n M 3 dX8_sheet_72 rfl rfl ?_
            refine zz_iast M tM_19 h.1 dX8_sheet_73 ?_
            have h := h.2
            refine zz_sg (fun σ114 eσ114 => ?_)
            have h := h σ114 eσ114
            refine zz_iconst (v := 0) M dX8_sheet_74 (by decide) ?_
            refine zz_istore M [(4, .int 0), (0, .ref (ad 0)), (1, .int x1), (2, .int x2), (3, .int x3)] dX8_sheet_75 (by decide) rfl ?_
            refine zz_sub [(0, .ref (ad 0)), (1, .int x1), (2, .int x2), (3, .int x3), (4, .int 0)] [1, 2, 3, 4, 0] rfl ?_
            refine sX8_sheet_L77 x1 x2 x3  M (fun  σ115 h => ?_) 300 _ _ h
            refine zz_iconst (v := 1) M dX8_sheet_106 (by decide) ?_
            exact zz_iret M dX8_sheet_107 h
        · have h := zifn (c := x2 < 0) h c
          refine zz_iload_n M 3 dX8_sheet_38 rfl rfl ?_
          refine zz_if_ge (y0 := 0) M 45 dX8_sheet_39 (by decide) (fun c => ?_) (fun c => ?_)
          · have h := zif (c := 0 ≤ x3) h c
            refine zz_aload_n M 0 dX8_sheet_45 rfl rfl ?_
            refine zz_getR M f_X8_72 tM_0 rfl dX8_sheet_46 ?_
            refine zz_iload_n M 1 dX8_sheet_49 rfl rfl ?_
            refine zz_iload_n M 2 dX8_sheet_50 rfl rfl ?_
            refine zz_if_lt (y0 := 0) M 58 dX8_sheet_51 (by decide) (fun c => ?_) (fun c => ?_)
            · have h := zif (c := x2 < 0) h c
              refine zz_iconst (v := 0) M dX8_sheet_58 (by decide) ?_
              refine zz_zast M tM_17 h.1 (by decide) dX8_sheet_59 ?_
              have h := h.2
              refine zz_sg (fun σ116 eσ116 => ?_)
              have h := h σ116 eσ116
              refine zz_aload_n M 0 dX8_sheet_60 rfl rfl ?_
              refine zz_getR M f_X8_76 tM_0 rfl dX8_sheet_61 ?_
              refine zz_iload_n M 1 dX8_sheet_64 rfl rfl ?_
              refine zz_iload_n M 2 dX8_sheet_65 rfl rfl ?_
              refine zz_iast M tM_18 h.1 dX8_sheet_66 ?_
              have h := h.2
              refine zz_sg (fun σ117 eσ117 => ?_)
              have h := h σ117 eσ117
              refine zz_aload_n M 0 dX8_sheet_67 rfl rfl ?_
              refine zz_getR M f_X8_79 tM_0 rfl dX8_sheet_68 ?_
              refine zz_iload_n M 1 dX8_sheet_71 rfl rfl ?_
              refine zz_iload_n M 3 dX8_sheet_72 rfl rfl ?_
              refine zz_iast M tM_19 h.1 dX8_sheet_73 ?_
              have h := h.2
              refine zz_sg (fun σ118 eσ118 => ?_)
              have h := h σ118 eσ118
              refine zz_iconst (v := 0) M dX8_sheet_74 (by decide) ?_
              refine zz_istore M [(4, .int 0), (0, .ref (ad 0)), (1, .int x1), (2, .int x2), (3, .int x3)] dX8_sheet_75 (by decide) rfl ?_
              refine zz_sub [(0, .ref (ad 0)), (1, .int x1), (2, .int x2), (3, .int x3), (4, .int 0)] [1, 2, 3, 4, 0] rfl ?_
              refine sX8_sheet_L77 x1 x2 x3  M (fun  σ119 h => ?_) 300 _ _ h
              refine zz_iconst (v := 1) M dX8_sheet_106 (by decide) ?_
              exact zz_iret M dX8_sheet_107 h
            · have h := zifn (c := x2 < 0) h c
              refine zz_iconst (v := 1) M dX8_sheet_54 (by decide) ?_
              refine zz_goto M 59 dX8_sheet_55 (by decide) ?_
              refine zz_zast M tM_17 h.1 (by decide) dX8_sheet_59 ?_
              have h := h.2
              refine zz_sg (fun σ120 eσ120 => ?_)
              have h := h σ120 eσ120
              refine zz_aload_n M 0 dX8_sheet_60 rfl rfl ?_
              refine zz_getR M f_X8_76 tM_0 rfl dX8_sheet_61 ?_
              refine zz_iload_n M 1 dX8_sheet_64 rfl rfl ?_
              refine zz_iload_n M 2 dX8_sheet_65 rfl rfl ?_
              refine zz_iast M tM_18 h.1 dX8_sheet_66 ?_
              have h := h.2
              refine zz_sg (fun σ121 eσ121 => ?_)
              have h := h σ121 eσ121
              refine zz_aload_n M 0 dX8_sheet_67 rfl rfl ?_
              refine zz_getR M f_X8_79 tM_0 rfl dX8_sheet_68 ?_
              refine zz_iload_n M 1 dX8_sheet_71 rfl rfl ?_
              refine zz_iload_n M 3 dX8_sheet_72 rfl rfl ?_
              refine zz_iast M tM_19 h.1 dX8_sheet_73 ?_
              have h := h.2
              refine zz_sg (fun σ122 eσ122 => ?_)
              have h := h σ122 eσ122
              refine zz_iconst (v := 0) M dX8_sheet_74 (by decide) ?_
              refine zz_istore M [(4, .int 0), (0, .ref (ad 0)), (1, .int x1), (2, .int x2), (3, .int x3)] dX8_sheet_75 (by decide) rfl ?_
              refine zz_sub [(0, .ref (ad 0)), (1, .int x1), (2, .int x2), (3, .int x3), (4, .int 0)] [1, 2, 3, 4, 0] rfl ?_
              refine sX8_sheet_L77 x1 x2 x3  M (fun  σ123 h => ?_) 300 _ _ h
              refine zz_iconst (v := 1) M dX8_sheet_106 (by decide) ?_
              exact zz_iret M dX8_sheet_107 h
          · have h := zifn (c := 0 ≤ x3) h c
            refine zz_bipush (v := (-14)) M dX8_sheet_42 (by decide) ?_
            exact zz_iret M dX8_sheet_44 h
      · have h := zifn (c := x2 < 0) h c
        refine zz_iload_n M 3 dX8_sheet_25 rfl rfl ?_
        refine zz_bipush (v := 40) M dX8_sheet_26 (by decide) ?_
        refine zz_icmp_le M 34 dX8_sheet_28 (by decide) (fun c => ?_) (fun c => ?_)
        · have h := zif (c := x3 ≤ 40) h c
          refine zz_iload_n M 2 dX8_sheet_34 rfl rfl ?_
          refine zz_if_lt (y0 := 0) M 45 dX8_sheet_35 (by decide) (fun c => ?_) (fun c => ?_)
          · have h := zif (c := x2 < 0) h c
            refine zz_aload_n M 0 dX8_sheet_45 rfl rfl ?_
            refine zz_getR M f_X8_72 tM_0 rfl dX8_sheet_46 ?_
            refine zz_iload_n M 1 dX8_sheet_49 rfl rfl ?_
            refine zz_iload_n M 2 dX8_sheet_50 rfl rfl ?_
            refine zz_if_lt (y0 := 0) M 58 dX8_sheet_51 (by decide) (fun c => ?_) (fun c => ?_)
            · have h := zif (c := x2 < 0) h c
              refine zz_iconst (v := 0) M dX8_sheet_58 (by decide) ?_
              refine zz_zast M tM_17 h.1 (by decide) dX8_sheet_59 ?_
              have h := h.2
              refine zz_sg (fun σ124 eσ124 => ?_)
              have h := h σ124 eσ124
              refine zz_aload_n M 0 dX8_sheet_60 rfl rfl ?_
              refine zz_getR M f_X8_76 tM_0 rfl dX8_sheet_61 ?_
              refine zz_iload_n M 1 dX8_sheet_64 rfl rfl ?_
              refine zz_iload_n M 2 dX8_sheet_65 rfl rfl ?_
              refine zz_iast M tM_18 h.1 dX8_sheet_66 ?_
              have h := h.2
              refine zz_sg (fun σ125 eσ125 => ?_)
              have h := h σ125 eσ125
              refine zz_aload_n M 0 dX8_sheet_67 rfl rfl ?_
              refine zz_getR M f_X8_79 tM_0 rfl dX8_sheet_68 ?_
              refine zz_iload_n M 1 dX8_sheet_71 rfl rfl ?_
              refine zz_iload_n M 3 dX8_sheet_72 rfl rfl ?_
              refine zz_iast M tM_19 h.1 dX8_sheet_73 ?_
              have h := h.2
              refine zz_sg (fun σ126 eσ126 => ?_)
              have h := h σ126 eσ126
              refine zz_iconst (v := 0) M dX8_sheet_74 (by decide) ?_
              refine zz_istore M [(4, .int 0), (0, .ref (ad 0)), (1, .int x1), (2, .int x2), (3, .int x3)] dX8_sheet_75 (by decide) rfl ?_
              refine zz_sub [(0, .ref (ad 0)), (1, .int x1), (2, .int x2), (3, .int x3), (4, .int 0)] [1, 2, 3, 4, 0] rfl ?_
              refine sX8_sheet_L77 x1 x2 x3  M (fun  σ127 h => ?_) 300 _ _ h
              refine zz_iconst (v := 1) M dX8_sheet_106 (by decide) ?_
              exact zz_iret M dX8_sheet_107 h
            · have h := zifn (c := x2 < 0) h c
              refine zz_iconst (v := 1) M dX8_sheet_54 (by decide) ?_
              refine zz_goto M 59 dX8_sheet_55 (by decide) ?_
              refine zz_zast M tM_17 h.1 (by decide) dX8_sheet_59 ?_
              have h := h.2
              refine zz_sg (fun σ128 eσ128 => ?_)
              have h := h σ128 eσ128
              refine zz_aload_n M 0 dX8_sheet_60 rfl rfl ?_
              refine zz_getR M f_X8_76 tM_0 rfl dX8_sheet_61 ?_
              refine zz_iload_n M 1 dX8_sheet_64 rfl rfl ?_
              refine zz_iload_n M 2 dX8_sheet_65 rfl rfl ?_
              refine zz_iast M tM_18 h.1 dX8_sheet_66 ?_
              have h := h.2
              refine zz_sg (fun σ129 eσ129 => ?_)
              have h := h σ129 eσ129
              refine zz_aload_n M 0 dX8_sheet_67 rfl rfl ?_
              refine zz_getR M f_X8_79 tM_0 rfl dX8_sheet_68 ?_
              refine zz_iload_n M 1 dX8_sheet_71 rfl rfl ?_
              refine zz_iload_n M 3 dX8_sheet_72 rfl rfl ?_
              refine zz_iast M tM_19 h.1 dX8_sheet_73 ?_
              have h := h.2
              refine zz_sg (fun σ130 eσ130 => ?_)
              have h := h σ130 eσ130
              refine zz_iconst (v := 0) M dX8_sheet_74 (by decide) ?_
              refine zz_istore M [(4, .int 0), (0, .ref (ad 0)), (1, .int x1), (2, .int x2), (3, .int x3)] dX8_sheet_75 (by decide) rfl ?_
              refine zz_sub [(0, .ref (ad 0)), (1, .int x1), (2, .int x2), (3, .int x3), (4, .int 0)] [1, 2, 3, 4, 0] rfl ?_
              refine sX8_sheet_L77 x1 x2 x3  M (fun  σ131 h => ?_) 300 _ _ h
              refine zz_iconst (v := 1) M dX8_sheet_106 (by decide) ?_
              exact zz_iret M dX8_sheet_107 h
          · have h := zifn (c := x2 < 0) h c
            refine zz_iload_n M 3 dX8_sheet_38 rfl rfl ?_
            refine zz_if_ge (y0 := 0) M 45 dX8_sheet_39 (by decide) (fun c => ?_) (fun c => ?_)
            · have h := zif (c := 0 ≤ x3) h c
              refine zz_aload_n M 0 dX8_sheet_45 rfl rfl ?_
              refine zz_getR M f_X8_72 tM_0 rfl dX8_sheet_46 ?_
              refine zz_iload_n M 1 dX8_sheet_49 rfl rfl ?_
              refine zz_iload_n M 2 dX8_sheet_50 rfl rfl ?_
              refine zz_if_lt (y0 := 0) M 58 dX8_sheet_51 (by decide) (fun c => ?_) (fun c => ?_)
              · have h := zif (c := x2 < 0) h c
                refine zz_iconst (v := 0) M dX8_sheet_58 (by decide) ?_
                refine zz_zast M tM_17 h.1 (by decide) dX8_sheet_59 ?_
                have h := h.2
                refine zz_sg (fun σ132 eσ132 => ?_)
                have h := h σ132 eσ132
                refine zz_aload_n M 0 dX8_sheet_60 rfl rfl ?_
                refine zz_getR M f_X8_76 tM_0 rfl dX8_sheet_61 ?_
                refine zz_iload_n M 1 dX8_sheet_64 rfl rfl ?_
                refine zz_iload_n M 2 dX8_sheet_65 rfl rfl ?_
                refine zz_iast M tM_18 h.1 dX8_sheet_66 ?_
                have h := h.2
                refine zz_sg (fun σ133 eσ133 => ?_)
                have h := h σ133 eσ133
                refine zz_aload_n M 0 dX8_sheet_67 rfl rfl ?_
                refine zz_getR M f_X8_79 tM_0 rfl dX8_sheet_68 ?_
                refine zz_iload_n M 1 dX8_sheet_71 rfl rfl ?_
                refine zz_iload_n M 3 dX8_sheet_72 rfl rfl ?_
                refine zz_iast M tM_19 h.1 dX8_sheet_73 ?_
                have h := h.2
                refine zz_sg (fun σ134 eσ134 => ?_)
                have h := h σ134 eσ134
                refine zz_iconst (v := 0) M dX8_sheet_74 (by decide) ?_
                refine zz_istore M [(4, .int 0), (0, .ref (ad 0)), (1, .int x1), (2, .int x2), (3, .int x3)] dX8_sheet_75 (by decide) rfl ?_
                refine zz_sub [(0, .ref (ad 0)), (1, .int x1), (2, .int x2), (3, .int x3), (4, .int 0)] [1, 2, 3, 4, 0] rfl ?_
                refine sX8_sheet_L77 x1 x2 x3  M (fun  σ135 h => ?_) 300 _ _ h
                refine zz_iconst (v := 1) M dX8_sheet_106 (by decide) ?_
                exact zz_iret M dX8_sheet_107 h
              · have h := zifn (c := x2 < 0) h c
                refine zz_iconst (v := 1) M dX8_sheet_54 (by decide) ?_
                refine zz_goto M 59 dX8_sheet_55 (by decide) ?_
                refine zz_zast M tM_17 h.1 (by decide) dX8_sheet_59 ?_
                have h := h.2
                refine zz_sg (fun σ136 eσ136 => ?_)
                have h := h σ136 eσ136
                refine zz_aload_n M 0 dX8_sheet_60 rfl rfl ?_
                refine zz_getR M f_X8_76 tM_0 rfl dX8_sheet_61 ?_
                refine zz_iload_n M 1 dX8_sheet_64 rfl rfl ?_
                refine zz_iload_n M 2 dX8_sheet_65 rfl rfl ?_
                refine zz_iast M tM_18 h.1 dX8_sheet_66 ?_
                have h := h.2
                refine zz_sg (fun σ137 eσ137 => ?_)
                have h := h σ137 eσ137
                refine zz_aload_n M 0 dX8_sheet_67 rfl rfl ?_
                refine zz_getR M f_X8_79 tM_0 rfl dX8_sheet_68 ?_
                refine zz_iload_n M 1 dX8_sheet_71 rfl rfl ?_
                refine zz_iload_n M 3 dX8_sheet_72 rfl rfl ?_
                refine zz_iast M tM_19 h.1 dX8_sheet_73 ?_
                have h := h.2
                refine zz_sg (fun σ138 eσ138 => ?_)
                have h := h σ138 eσ138
                refine zz_iconst (v := 0) M dX8_sheet_74 (by decide) ?_
                refine zz_istore M [(4, .int 0), (0, .ref (ad 0)), (1, .int x1), (2, .int x2), (3, .int x3)] dX8_sheet_75 (by decide) rfl ?_
                refine zz_sub [(0, .ref (ad 0)), (1, .int x1), (2, .int x2), (3, .int x3), (4, .int 0)] [1, 2, 3, 4, 0] rfl ?_
                refine sX8_sheet_L77 x1 x2 x3  M (fun  σ139 h => ?_) 300 _ _ h
                refine zz_iconst (v := 1) M dX8_sheet_106 (by decide) ?_
                exact zz_iret M dX8_sheet_107 h
            · have h := zifn (c := 0 ≤ x3) h c
              refine zz_bipush (v := (-14)) M dX8_sheet_42 (by decide) ?_
              exact zz_iret M dX8_sheet_44 h
        · have h := zifn (c := x3 ≤ 40) h c
          refine zz_bipush (v := (-2)) M dX8_sheet_31 (by decide) ?_
          exact zz_iret M dX8_sheet_33 h
end
