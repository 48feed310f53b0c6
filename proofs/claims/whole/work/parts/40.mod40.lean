section
variable {p : Program} {l : Launch} {e : Env} {s : State} {m : MethodId} {args : Array Value} {below : List Frame} {meth : Method} {c : Code} {D : va_G} {cA : Nat → ClassId} {ad : Nat → Nat} {y : zX}
def wX8_cell (x1 : Int32) (x2 : Int32) (x3 : Int32) (σ : zSt) (Q : Int32 → zSt → Prop) : Prop := wX8_isSheet x1 σ (fun r101 σ102 => if r101 = 0 then (Q (-2) σ102) else (vp_in x1 4 ∧ (if (σ102.1 17 x1.toNatClampNeg) = 0 then (Q (-11) σ102) else (vp_in x1 4 ∧ (∀ a103 : Int64, a103 = ((x2 : Int32).toInt64) → (∀ a104 : Int64, a104 = (((σ102.1 19 x1.toNatClampNeg) - 1 : Int32).toInt64) → (wX8_in a103 0 a104 σ102 (fun r105 σ106 => if r105 = 0 then (Q (-12) σ106) else (vp_in x1 4 ∧ (if (σ106.1 18 x1.toNatClampNeg) = 0 then (vp_in ((40 * x1) + x2) 160 ∧ (∀ σ109 : zSt, σ109 = zput σ106 20 ((40 * x1) + x2 : Int32).toNatClampNeg ((x3 : Int32).toInt8.toInt32) → (Q 1 σ109))) else (vp_in x1 4 ∧ (if (σ106.1 18 x1.toNatClampNeg) = 1 then (vp_in ((40 * x1) + x2) 160 ∧ (∀ σ108 : zSt, σ108 = zput σ106 20 ((40 * x1) + x2 : Int32).toNatClampNeg ((x3 : Int32).toInt16.toInt32) → (Q 1 σ108))) else (vp_in ((40 * x1) + x2) 160 ∧ (∀ σ107 : zSt, σ107 = zput σ106 20 ((40 * x1) + x2 : Int32).toNatClampNeg x3 → (Q 1 σ107)))))))))))))))
set_option maxRecDepth 20000 in
set_option maxHeartbeats 4000000 in
theorem kX8_cell (hI : zInj tabM ad) (x1 : Int32) (x2 : Int32) (x3 : Int32)  (σ : zSt) (Q : Int32 → zSt → Prop) (h : wX8_cell x1 x2 x3 σ Q) : zOkI l tabM D cA ad y 3 yX8_cell cX8_cell 4 (some .int) [.ref (ad 0), .int x1, .int x2, .int x3] σ Q := by
  refine zz_enter hI (by decide) (Nat.le_of_ble_eq_true rfl) (fun p e s m below meth c M => ?_)
  have M : zM p s m _ meth c cX8_cell 4 RX8 (some .int) tabM D cA ad y := M
  refine zz_ls [(0, .ref (ad 0)), (1, .int x1), (2, .int x2), (3, .int x3)] rfl ?_
  unfold wX8_cell at h
  refine zz_iload_n M 1 dX8_cell_0 rfl rfl ?_
  refine zz_callSI (d' := 2) (As := [.int x1]) (rest := []) M l_X8_431 dX8_cell_1 rfl rfl (by decide) (Nat.le_of_ble_eq_true rfl) (by have hI := M.2.2.2.2.2.2.2.2; exact kX8_isSheet hI _  _ _ h) (fun r101 σ102 h => ?_)
  refine zz_if_ne (y0 := 0) M 10 dX8_cell_4 (by decide) (fun c => ?_) (fun c => ?_)
  · have h := zifn (c := r101 = 0) h c
    refine zz_aload_n M 0 dX8_cell_10 rfl rfl ?_
    refine zz_getR M f_X8_72 tM_0 rfl dX8_cell_11 ?_
    refine zz_iload_n M 1 dX8_cell_14 rfl rfl ?_
    refine zz_zald M tM_17 h.1 dX8_cell_15 ?_
    have h := h.2
    refine zz_if_ne (y0 := 0) M 22 dX8_cell_16 (by decide) (fun c => ?_) (fun c => ?_)
    · have h := zifn (c := (σ102.1 17 x1.toNatClampNeg) = 0) h c
      refine zz_iload_n M 2 dX8_cell_22 rfl rfl ?_
      refine zz_i2l M dX8_cell_23 ?_
      refine zz_lconst (v := 0) M dX8_cell_24 (by decide) ?_
      refine zz_aload_n M 0 dX8_cell_25 rfl rfl ?_
      refine zz_getR M f_X8_79 tM_0 rfl dX8_cell_26 ?_
      refine zz_iload_n M 1 dX8_cell_29 rfl rfl ?_
      refine zz_iald M tM_19 h.1 dX8_cell_30 ?_
      have h := h.2
      refine zz_iconst (v := 1) M dX8_cell_31 (by decide) ?_
      refine zz_isub M dX8_cell_32 ?_
      refine zz_i2l M dX8_cell_33 ?_
      obtain ⟨a103, ea103⟩ : ∃ z : Int64, z = ((x2 : Int32).toInt64) := ⟨_, rfl⟩
      have h := h a103 ea103
      obtain ⟨a104, ea104⟩ : ∃ z : Int64, z = (((σ102.1 19 x1.toNatClampNeg) - 1 : Int32).toInt64) := ⟨_, rfl⟩
      have h := h a104 ea104
      refine zz_st [.long a104, .long 0, .long a103] (by rw [ea103, ea104]) ?_
      refine zz_callSI (d' := 1) (As := [.long a103, .long 0, .long a104]) (rest := []) M l_X8_92 dX8_cell_34 rfl rfl (by decide) (Nat.le_of_ble_eq_true rfl) (by have hI := M.2.2.2.2.2.2.2.2; exact kX8_in hI _ _ _  _ _ h) (fun r105 σ106 h => ?_)
      refine zz_if_ne (y0 := 0) M 43 dX8_cell_37 (by decide) (fun c => ?_) (fun c => ?_)
      · have h := zifn (c := r105 = 0) h c
        refine zz_aload_n M 0 dX8_cell_43 rfl rfl ?_
        refine zz_getR M f_X8_82 tM_0 rfl dX8_cell_44 ?_
        refine zz_bipush (v := 40) M dX8_cell_47 (by decide) ?_
        refine zz_iload_n M 1 dX8_cell_49 rfl rfl ?_
        refine zz_imul M dX8_cell_50 ?_
        refine zz_iload_n M 2 dX8_cell_51 rfl rfl ?_
        refine zz_iadd M dX8_cell_52 ?_
        refine zz_aload_n M 0 dX8_cell_53 rfl rfl ?_
        refine zz_getR M f_X8_76 tM_0 rfl dX8_cell_54 ?_
        refine zz_iload_n M 1 dX8_cell_57 rfl rfl ?_
        refine zz_iald M tM_18 h.1 dX8_cell_58 ?_
        have h := h.2
        refine zz_if_ne (y0 := 0) M 67 dX8_cell_59 (by decide) (fun c => ?_) (fun c => ?_)
        · have h := zifn (c := (σ106.1 18 x1.toNatClampNeg) = 0) h c
          refine zz_aload_n M 0 dX8_cell_67 rfl rfl ?_
          refine zz_getR M f_X8_76 tM_0 rfl dX8_cell_68 ?_
          refine zz_iload_n M 1 dX8_cell_71 rfl rfl ?_
          refine zz_iald M tM_18 h.1 dX8_cell_72 ?_
          have h := h.2
          refine zz_iconst (v := 1) M dX8_cell_73 (by decide) ?_
          refine zz_icmp_ne M 82 dX8_cell_74 (by decide) (fun c => ?_) (fun c => ?_)
          · have h := zifn (c := (σ106.1 18 x1.toNatClampNeg) = 1) h c
            refine zz_iload_n M 3 dX8_cell_82 rfl rfl ?_
            refine zz_iast M tM_20 h.1 dX8_cell_83 ?_
            have h := h.2
            refine zz_sg (fun σ107 eσ107 => ?_)
            have h := h σ107 eσ107
            refine zz_iconst (v := 1) M dX8_cell_84 (by decide) ?_
            exact zz_iret M dX8_cell_85 h
          · have h := zif (c := (σ106.1 18 x1.toNatClampNeg) = 1) h c
            refine zz_iload_n M 3 dX8_cell_77 rfl rfl ?_
            refine zz_i2s M dX8_cell_78 ?_
            refine zz_goto M 83 dX8_cell_79 (by decide) ?_
            refine zz_iast M tM_20 h.1 dX8_cell_83 ?_
            have h := h.2
            refine zz_sg (fun σ108 eσ108 => ?_)
            have h := h σ108 eσ108
            refine zz_iconst (v := 1) M dX8_cell_84 (by decide) ?_
            exact zz_iret M dX8_cell_85 h
        · have h := zif (c := (σ106.1 18 x1.toNatClampNeg) = 0) h c
          refine zz_iload_n M 3 dX8_cell_62 rfl rfl ?_
          refine zz_i2b M dX8_cell_63 ?_
          refine zz_goto M 83 dX8_cell_64 (by decide) ?_
          refine zz_iast M tM_20 h.1 dX8_cell_83 ?_
          have h := h.2
          refine zz_sg (fun σ109 eσ109 => ?_)
          have h := h σ109 eσ109
          refine zz_iconst (v := 1) M dX8_cell_84 (by decide) ?_
          exact zz_iret M dX8_cell_85 h
      · have h := zif (c := r105 = 0) h c
        refine zz_bipush (v := (-12)) M dX8_cell_40 (by decide) ?_
        exact zz_iret M dX8_cell_42 h
    · have h := zif (c := (σ102.1 17 x1.toNatClampNeg) = 0) h c
      refine zz_bipush (v := (-11)) M dX8_cell_19 (by decide) ?_
      exact zz_iret M dX8_cell_21 h
  · have h := zif (c := r101 = 0) h c
    refine zz_bipush (v := (-2)) M dX8_cell_7 (by decide) ?_
    exact zz_iret M dX8_cell_9 h
def wX8_copy_L121 (Q : Int32 → zSt → Prop) (K182 : zSt → Prop) (x1 : Int32) (x2 : Int32) (x3 : Int32) (x4 : Int32) (x5 : Int32) (x6 : Int32) : Nat → Int32 → zSt → Prop
  | 0, _, _ => False
  | n + 1, x7, σ => if x5 ≤ x7 then (K182  σ) else (if x6 = 0 then (vp_in (((40 * x1) + x2) + x7) 160 ∧ (vp_in (((40 * x3) + x4) + x7) 160 ∧ (∀ σ105 : zSt, σ105 = zput σ 20 (((40 * x3) + x4) + x7 : Int32).toNatClampNeg (σ.1 20 (((40 * x1) + x2) + x7 : Int32).toNatClampNeg) → (∀ x106 : Int32, x106 = x7 + 1 → (wX8_copy_L121 Q K182 x1 x2 x3 x4 x5 x6 n x106 σ105))))) else (∀ x107 : Int32, x107 = ((x5 - 1) - x7) → (vp_in (((40 * x1) + x2) + x107) 160 ∧ (vp_in (((40 * x3) + x4) + x107) 160 ∧ (∀ σ108 : zSt, σ108 = zput σ 20 (((40 * x3) + x4) + x107 : Int32).toNatClampNeg (σ.1 20 (((40 * x1) + x2) + x107 : Int32).toNatClampNeg) → (∀ x109 : Int32, x109 = x7 + 1 → (wX8_copy_L121 Q K182 x1 x2 x3 x4 x5 x6 n x109 σ108)))))))
set_option maxRecDepth 20000 in
set_option maxHeartbeats 4000000 in
theorem sX8_copy_L121 {Q : Int32 → zSt → Prop} {K182 : zSt → Prop} (x1 : Int32) (x2 : Int32) (x3 : Int32) (x4 : Int32) (x5 : Int32) (x6 : Int32)  (M : zM p s m args meth c cX8_copy 9 RX8 (some .int) tabM D cA ad y) (hK182 : ∀ (σ : zSt), K182  σ → zG p l e (zrm 3) s m args below meth c 9 tabM D cA ad (MQ below (va_Qi Q (fun σ' t => va_P D vwCl (zws tabM cA ad σ') t.heap) (zIn tabM ad)) args s 0 0 (zIn tabM ad)) 182 [(5, .int x5)] [] σ) : ∀ (n : Nat) (x7 : Int32) (σ : zSt), wX8_copy_L121 Q K182 x1 x2 x3 x4 x5 x6 n x7 σ → zG p l e (zrm 3) s m args below meth c 9 tabM D cA ad (MQ below (va_Qi Q (fun σ' t => va_P D vwCl (zws tabM cA ad σ') t.heap) (zIn tabM ad)) args s 0 0 (zIn tabM ad)) 121 [(0, .ref (ad 0)), (1, .int x1), (2, .int x2), (3, .int x3), (4, .int x4), (5, .int x5), (6, .int x6), (7, .int x7)] [] σ := by
  intro n
  induction n with
  | zero => intro x7 σ h; exact absurd h (by simp [wX8_copy_L121])
  | succ n ih =>
    intro x7 σ h
    unfold wX8_copy_L121 at h
    refine zz_iload M 7 dX8_copy_121 rfl ?_
    refine zz_iload M 5 dX8_copy_123 rfl ?_
    refine zz_icmp_ge M 182 dX8_copy_125 (by decide) (fun c => ?_) (fun c => ?_)
    · have h := zif (c := x5 ≤ x7) h c
      refine zz_sub [(5, .int x5)] [5] rfl ?_
      exact hK182  _ h
    · have h := zifn (c := x5 ≤ x7) h c
      refine zz_iload M 6 dX8_copy_128 rfl ?_
      refine zz_if_eq (y0 := 0) M 143 dX8_copy_130 (by decide) (fun c => ?_) (fun c => ?_)
      · have h := zif (c := x6 = 0) h c
        refine zz_iload M 7 dX8_copy_143 rfl ?_
        refine zz_istore M [(8, .int x7), (0, .ref (ad 0)), (1, .int x1), (2, .int x2), (3, .int x3), (4, .int x4), (5, .int x5), (6, .int x6), (7, .int x7)] dX8_copy_145 (by decide) rfl ?_
        refine zz_aload_n M 1 dX8_copy_147 rfl rfl ?_
        refine zz_getR M f_X8_82 tM_0 rfl dX8_copy_148 ?_
        refine zz_bipush (v := 40) M dX8_copy_151 (by decide) ?_
        refine zz_iload_n M 4 dX8_copy_153 rfl rfl ?_
        refine zz_imul M dX8_copy_154 ?_
        refine zz_iload M 5 dX8_copy_155 rfl ?_
        refine zz_iadd M dX8_copy_157 ?_
        refine zz_iload M 0 dX8_copy_158 rfl ?_
        refine zz_iadd M dX8_copy_160 ?_
        refine zz_aload_n M 1 dX8_copy_161 rfl rfl ?_
        refine zz_getR M f_X8_82 tM_0 rfl dX8_copy_162 ?_
        refine zz_bipush (v := 40) M dX8_copy_165 (by decide) ?_
        refine zz_iload_n M 2 dX8_copy_167 rfl rfl ?_
        refine zz_imul M dX8_copy_168 ?_
        refine zz_iload_n M 3 dX8_copy_169 rfl rfl ?_
        refine zz_iadd M dX8_copy_170 ?_
        refine zz_iload M 0 dX8_copy_171 rfl ?_
        refine zz_iadd M dX8_copy_173 ?_
        refine zz_iald M tM_20 h.1 dX8_copy_174 ?_
        have h := h.2
        refine zz_iast M tM_20 h.1 dX8_copy_175 ?_
        have h := h.2
        refine zz_sg (fun σ105 eσ105 => ?_)
        have h := h σ105 eσ105
        obtain ⟨x106, ex106⟩ : ∃ z : Int32, z = x7 + 1 := ⟨_, rfl⟩
        have h := h x106 ex106
        refine zz_iinc M [(7, .int x106), (8, .int x7), (0, .ref (ad 0)), (1, .int x1), (2, .int x2), (3, .int x3), (4, .int x4), (5, .int x5), (6, .int x6)] 8 dX8_copy_176 rfl (n32 := 1) (by decide) ex106 (by decide) rfl ?_
        refine zz_goto M 121 dX8_copy_179 (by decide) ?_
        refine zz_sub [(0, .ref (ad 0)), (1, .int x1), (2, .int x2), (3, .int x3), (4, .int x4), (5, .int x5), (6, .int x6), (7, .int x106)] [2, 3, 4, 5, 6, 7, 8, 0] rfl ?_
        exact ih _ _ h
      · have h := zifn (c := x6 = 0) h c
        refine zz_iload M 5 dX8_copy_133 rfl ?_
        refine zz_iconst (v := 1) M dX8_copy_135 (by decide) ?_
        refine zz_isub M dX8_copy_136 ?_
        refine zz_iload M 7 dX8_copy_137 rfl ?_
        refine zz_isub M dX8_copy_139 ?_
        refine zz_goto M 145 dX8_copy_140 (by decide) ?_
        refine zz_topi (fun x107 ex107 => ?_)
        have h := h x107 ex107
        refine zz_istore M [(8, .int x107), (0, .ref (ad 0)), (1, .int x1), (2, .int x2), (3, .int x3), (4, .int x4), (5, .int x5), (6, .int x6), (7, .int x7)] dX8_copy_145 (by decide) rfl ?_
        refine zz_aload_n M 1 dX8_copy_147 rfl rfl ?_
        refine zz_getR M f_X8_82 tM_0 rfl dX8_copy_148 ?_
        refine zz_bipush (v := 40) M dX8_copy_151 (by decide) ?_
        refine zz_iload_n M 4 dX8_copy_153 rfl rfl ?_
        refine zz_imul M dX8_copy_154 ?_
        refine zz_iload M 5 dX8_copy_155 rfl ?_
        refine zz_iadd M dX8_copy_157 ?_
        refine zz_iload M 0 dX8_copy_158 rfl ?_
        refine zz_iadd M dX8_copy_160 ?_
        refine zz_aload_n M 1 dX8_copy_161 rfl rfl ?_
        refine zz_getR M f_X8_82 tM_0 rfl dX8_copy_162 ?_
        refine zz_bipush (v := 40) M dX8_copy_165 (by decide) ?_
        refine zz_iload_n M 2 dX8_copy_167 rfl rfl ?_
        refine zz_imul M dX8_copy_168 ?_
        refine zz_iload_n M 3 dX8_copy_169 rfl rfl ?_
        refine zz_iadd M dX8_copy_170 ?_
        refine zz_iload M 0 dX8_copy_171 rfl ?_
        refine zz_iadd M dX8_copy_173 ?_
        refine zz_iald M tM_20 h.1 dX8_copy_174 ?_
        have h := h.2
        refine zz_iast M tM_20 h.1 dX8_copy_175 ?_
        have h := h.2
        refine zz_sg (fun σ108 eσ108 => ?_)
        have h := h σ108 eσ108
        obtain ⟨x109, ex109⟩ : ∃ z : Int32, z = x7 + 1 := ⟨_, rfl⟩
        have h := h x109 ex109
        refine zz_iinc M [(7, .int x109), (8, .int x107), (0, .ref (ad 0)), (1, .int x1), (2, .int x2), (3, .int x3), (4, .int x4), (5, .int x5), (6, .int x6)] 8 dX8_copy_176 rfl (n32 := 1) (by decide) ex109 (by decide) rfl ?_
        refine zz_goto M 121 dX8_copy_179 (by decide) ?_
        refine zz_sub [(0, .ref (ad 0)), (1, .int x1), (2, .int x2), (3, .int x3), (4, .int x4), (5, .int x5), (6, .int x6), (7, .int x109)] [2, 3, 4, 5, 6, 7, 8, 0] rfl ?_
        exact ih _ _ h
def wX8_copy (x1 : Int32) (x2 : Int32) (x3 : Int32) (x4 : Int32) (x5 : Int32) (σ : zSt) (Q : Int32 → zSt → Prop) : Prop := wX8_isSheet x1 σ (fun r101 σ102 => if r101 = 0 then (Q (-2) σ102) else (wX8_isSheet x3 σ102 (fun r103 σ104 => if r103 = 0 then (Q (-2) σ104) else (vp_in x1 4 ∧ (if (σ104.1 17 x1.toNatClampNeg) = 0 then (Q (-11) σ104) else (vp_in x3 4 ∧ (if (σ104.1 17 x3.toNatClampNeg) = 0 then (Q (-11) σ104) else (vp_in x1 4 ∧ (vp_in x3 4 ∧ (if (σ104.1 18 x1.toNatClampNeg) = (σ104.1 18 x3.toNatClampNeg) then (if x5 < 0 then (Q (-12) σ104) else (if x2 < 0 then (Q (-12) σ104) else (if x4 < 0 then (Q (-12) σ104) else (vp_in x1 4 ∧ (if ((σ104.1 19 x1.toNatClampNeg) - x5) < x2 then (Q (-12) σ104) else (vp_in x3 4 ∧ (if x4 ≤ ((σ104.1 19 x3.toNatClampNeg) - x5) then (if x1 = x3 then (if x4 ≤ x2 then (wX8_copy_L121 Q (fun  σ111 => Q x5 σ111) x1 x2 x3 x4 x5 0 300 0 σ104) else (wX8_copy_L121 Q (fun  σ112 => Q x5 σ112) x1 x2 x3 x4 x5 1 300 0 σ104)) else (wX8_copy_L121 Q (fun  σ110 => Q x5 σ110) x1 x2 x3 x4 x5 0 300 0 σ104)) else (Q (-12) σ104)))))))) else (Q (-13) σ104)))))))))))
set_option maxRecDepth 20000 in
set_option maxHeartbeats 4000000 in
theorem kX8_copy (hI : zInj tabM ad) (x1 : Int32) (x2 : Int32) (x3 : Int32) (x4 : Int32) (x5 : Int32)  (σ : zSt) (Q : Int32 → zSt → Prop) (h : wX8_copy x1 x2 x3 x4 x5 σ Q) : zOkI l tabM D cA ad y 3 yX8_copy cX8_copy 9 (some .int) [.ref (ad 0), .int x1, .int x2, .int x3, .int x4, .int x5] σ Q := by
  refine zz_enter hI (by decide) (Nat.le_of_ble_eq_true rfl) (fun p e s m below meth c M => ?_)
  have M : zM p s m _ meth c cX8_copy 9 RX8 (some .int) tabM D cA ad y := M
  refine zz_ls [(0, .ref (ad 0)), (1, .int x1), (2, .int x2), (3, .int x3), (4, .int x4), (5, .int x5)] rfl ?_
  unfold wX8_copy at h
  refine zz_iload_n M 1 dX8_copy_0 rfl rfl ?_
  refine zz_callSI (d' := 2) (As := [.int x1]) (rest := []) M l_X8_431 dX8_copy_1 rfl rfl (by decide) (Nat.le_of_ble_eq_true rfl) (by have hI := M.2.2.2.2.2.2.2.2; exact kX8_isSheet hI _  _ _ h) (fun r101 σ102 h => ?_)
  refine zz_if_eq (y0 := 0) M 14 dX8_copy_4 (by decide) (fun c => ?_) (fun c => ?_)
  · have h := zif (c := r101 = 0) h c
    refine zz_bipush (v := (-2)) M dX8_copy_14 (by decide) ?_
    exact zz_iret M dX8_copy_16 h
  · have h := zifn (c := r101 = 0) h c
    refine zz_iload_n M 3 dX8_copy_7 rfl rfl ?_
    refine zz_callSI (d' := 2) (As := [.int x3]) (rest := []) M l_X8_431 dX8_copy_8 rfl rfl (by decide) (Nat.le_of_ble_eq_true rfl) (by have hI := M.2.2.2.2.2.2.2.2; exact kX8_isSheet hI _  _ _ h) (fun r103 σ104 h => ?_)
    refine zz_if_ne (y0 := 0) M 17 dX8_copy_11 (by decide) (fun c => ?_) (fun c => ?_)
    · have h := zifn (c := r103 = 0) h c
      refine zz_aload_n M 0 dX8_copy_17 rfl rfl ?_
      refine zz_getR M f_X8_72 tM_0 rfl dX8_copy_18 ?_
      refine zz_iload_n M 1 dX8_copy_21 rfl rfl ?_
      refine zz_zald M tM_17 h.1 dX8_copy_22 ?_
      have h := h.2
      refine zz_if_eq (y0 := 0) M 35 dX8_copy_23 (by decide) (fun c => ?_) (fun c => ?_)
      · have h := zif (c := (σ104.1 17 x1.toNatClampNeg) = 0) h c
        refine zz_bipush (v := (-11)) M dX8_copy_35 (by decide) ?_
        exact zz_iret M dX8_copy_37 h
      · have h := zifn (c := (σ104.1 17 x1.toNatClampNeg) = 0) h c
        refine zz_aload_n M 0 dX8_copy_26 rfl rfl ?_
        refine zz_getR M f_X8_72 tM_0 rfl dX8_copy_27 ?_
        refine zz_iload_n M 3 dX8_copy_30 rfl rfl ?_
        refine zz_zald M tM_17 h.1 dX8_copy_31 ?_
        have h := h.2
        refine zz_if_ne (y0 := 0) M 38 dX8_copy_32 (by decide) (fun c => ?_) (fun c => ?_)
        · have h := zifn (c := (σ104.1 17 x3.toNatClampNeg) = 0) h c
          refine zz_aload_n M 0 dX8_copy_38 rfl rfl ?_
          refine zz_getR M f_X8_76 tM_0 rfl dX8_copy_39 ?_
          refine zz_iload_n M 1 dX8_copy_42 rfl rfl ?_
          refine zz_iald M tM_18 h.1 dX8_copy_43 ?_
          have h := h.2
          refine zz_aload_n M 0 dX8_copy_44 rfl rfl ?_
          refine zz_getR M f_X8_76 tM_0 rfl dX8_copy_45 ?_
          refine zz_iload_n M 3 dX8_copy_48 rfl rfl ?_
          refine zz_iald M tM_18 h.1 dX8_copy_49 ?_
          have h := h.2
          refine zz_icmp_eq M 56 dX8_copy_50 (by decide) (fun c => ?_) (fun c => ?_)
          · have h := zif (c := (σ104.1 18 x1.toNatClampNeg) = (σ104.1 18 x3.toNatClampNeg)) h c
            refine zz_iload M 5 dX8_copy_56 rfl ?_
            refine zz_if_lt (y0 := 0) M 97 dX8_copy_58 (by decide) (fun c => ?_) (fun c => ?_)
            · have h := zif (c := x5 < 0) h c
              refine zz_bipush (v := (-12)) M dX8_copy_97 (by decide) ?_
              exact zz_iret M dX8_copy_99 h
            · have h := zifn (c := x5 < 0) h c
              refine zz_iload_n M 2 dX8_copy_61 rfl rfl ?_
              refine zz_if_lt (y0 := 0) M 97 dX8_copy_62 (by decide) (fun c => ?_) (fun c => ?_)
              · have h := zif (c := x2 < 0) h c
                refine zz_bipush (v := (-12)) M dX8_copy_97 (by decide) ?_
                exact zz_iret M dX8_copy_99 h
              · have h := zifn (c := x2 < 0) h c
                refine zz_iload M 4 dX8_copy_65 rfl ?_
                refine zz_if_lt (y0 := 0) M 97 dX8_copy_67 (by decide) (fun c => ?_) (fun c => ?_)
                · have h := zif (c := x4 < 0) h c
                  refine zz_bipush (v := (-12)) M dX8_copy_97 (by decide) ?_
                  exact zz_iret M dX8_copy_99 h
                · have h := zifn (c := x4 < 0) h c
                  refine zz_iload_n M 2 dX8_copy_70 rfl rfl ?_
                  refine zz_aload_n M 0 dX8_copy_71 rfl rfl ?_
                  refine zz_getR M f_X8_79 tM_0 rfl dX8_copy_72 ?_
                  refine zz_iload_n M 1 dX8_copy_75 rfl rfl ?_
                  refine zz_iald M tM_19 h.1 dX8_copy_76 ?_
                  have h := h.2
                  refine zz_iload M 5 dX8_copy_77 rfl ?_
                  refine zz_isub M dX8_copy_79 ?_
                  refine zz_icmp_gt M 97 dX8_copy_80 (by decide) (fun c => ?_) (fun c => ?_)
                  · have h := zif (c := ((σ104.1 19 x1.toNatClampNeg) - x5) < x2) h c
                    refine zz_bipush (v := (-12)) M dX8_copy_97 (by decide) ?_
                    exact zz_iret M dX8_copy_99 h
                  · have h := zifn (c := ((σ104.1 19 x1.toNatClampNeg) - x5) < x2) h c
                    refine zz_iload M 4 dX8_copy_83 rfl ?_
                    refine zz_aload_n M 0 dX8_copy_85 rfl rfl ?_
                    refine zz_getR M f_X8_79 tM_0 rfl dX8_copy_86 ?_
                    refine zz_iload_n M 3 dX8_copy_89 rfl rfl ?_
                    refine zz_iald M tM_19 h.1 dX8_copy_90 ?_
                    have h := h.2
                    refine zz_iload M 5 dX8_copy_91 rfl ?_
                    refine zz_isub M dX8_copy_93 ?_
                    refine zz_icmp_le M 100 dX8_copy_94 (by decide) (fun c => ?_) (fun c => ?_)
                    · have h := zif (c := x4 ≤ ((σ104.1 19 x3.toNatClampNeg) - x5)) h c
                      refine zz_iload_n M 1 dX8_copy_100 rfl rfl ?_
                      refine zz_iload_n M 3 dX8_copy_101 rfl rfl ?_
                      refine zz_icmp_ne M 115 dX8_copy_102 (by decide) (fun c => ?_) (fun c => ?_)
                      · have h := zifn (c := x1 = x3) h c
                        refine zz_iconst (v := 0) M dX8_copy_115 (by decide) ?_
                        refine zz_istore M [(6, .int 0), (0, .ref (ad 0)), (1, .int x1), (2, .int x2), (3, .int x3), (4, .int x4), (5, .int x5)] dX8_copy_116 (by decide) rfl ?_
                        refine zz_iconst (v := 0) M dX8_copy_118 (by decide) ?_
                        refine zz_istore M [(7, .int 0), (6, .int 0), (0, .ref (ad 0)), (1, .int x1), (2, .int x2), (3, .int x3), (4, .int x4), (5, .int x5)] dX8_copy_119 (by decide) rfl ?_
                        refine zz_sub [(0, .ref (ad 0)), (1, .int x1), (2, .int x2), (3, .int x3), (4, .int x4), (5, .int x5), (6, .int 0), (7, .int 0)] [2, 3, 4, 5, 6, 7, 1, 0] rfl ?_
                        refine sX8_copy_L121 x1 x2 x3 x4 x5 0  M (fun  σ110 h => ?_) 300 _ _ h
                        refine zz_iload M 0 dX8_copy_182 rfl ?_
                        exact zz_iret M dX8_copy_184 h
                      · have h := zif (c := x1 = x3) h c
                        refine zz_iload_n M 2 dX8_copy_105 rfl rfl ?_
                        refine zz_iload M 4 dX8_copy_106 rfl ?_
                        refine zz_icmp_ge M 115 dX8_copy_108 (by decide) (fun c => ?_) (fun c => ?_)
                        · have h := zif (c := x4 ≤ x2) h c
                          refine zz_iconst (v := 0) M dX8_copy_115 (by decide) ?_
                          refine zz_istore M [(6, .int 0), (0, .ref (ad 0)), (1, .int x1), (2, .int x2), (3, .int x3), (4, .int x4), (5, .int x5)] dX8_copy_116 (by decide) rfl ?_
                          refine zz_iconst (v := 0) M dX8_copy_118 (by decide) ?_
                          refine zz_istore M [(7, .int 0), (6, .int 0), (0, .ref (ad 0)), (1, .int x1), (2, .int x2), (3, .int x3), (4, .int x4), (5, .int x5)] dX8_copy_119 (by decide) rfl ?_
                          refine zz_sub [(0, .ref (ad 0)), (1, .int x1), (2, .int x2), (3, .int x3), (4, .int x4), (5, .int x5), (6, .int 0), (7, .int 0)] [2, 3, 4, 5, 6, 7, 1, 0] rfl ?_
                          refine sX8_copy_L121 x1 x2 x3 x4 x5 0  M (fun  σ111 h => ?_) 300 _ _ h
                          refine zz_iload M 0 dX8_copy_182 rfl ?_
                          exact zz_iret M dX8_copy_184 h
                        · have h := zifn (c := x4 ≤ x2) h c
                          refine zz_iconst (v := 1) M dX8_copy_111 (by decide) ?_
                          refine zz_goto M 116 dX8_copy_112 (by decide) ?_
                          refine zz_istore M [(6, .int 1), (0, .ref (ad 0)), (1, .int x1), (2, .int x2), (3, .int x3), (4, .int x4), (5, .int x5)] dX8_copy_116 (by decide) rfl ?_
                          refine zz_iconst (v := 0) M dX8_copy_118 (by decide) ?_
                          refine zz_istore M [(7, .int 0), (6, .int 1), (0, .ref (ad 0)), (1, .int x1), (2, .int x2), (3, .int x3), (4, .int x4), (5, .int x5)] dX8_copy_119 (by decide) rfl ?_
                          refine zz_sub [(0, .ref (ad 0)), (1, .int x1), (2, .int x2), (3, .int x3), (4, .int x4), (5, .int x5), (6, .int 1), (7, .int 0)] [2, 3, 4, 5, 6, 7, 1, 0] rfl ?_
                          refine sX8_copy_L121 x1 x2 x3 x4 x5 1  M (fun  σ112 h => ?_) 300 _ _ h
                          refine zz_iload M 0 dX8_copy_182 rfl ?_
                          exact zz_iret M dX8_copy_184 h
                    · have h := zifn (c := x4 ≤ ((σ104.1 19 x3.toNatClampNeg) - x5)) h c
                      refine zz_bipush (v := (-12)) M dX8_copy_97 (by decide) ?_
                      exact zz_iret M dX8_copy_99 h
          · have h := zifn (c := (σ104.1 18 x1.toNatClampNeg) = (σ104.1 18 x3.toNatClampNeg)) h c
            refine zz_bipush (v := (-13)) M dX8_copy_53 (by decide) ?_
            exact zz_iret M dX8_copy_55 h
        · have h := zif (c := (σ104.1 17 x3.toNatClampNeg) = 0) h c
          refine zz_bipush (v := (-11)) M dX8_copy_35 (by decide) ?_
          exact zz_iret M dX8_copy_37 h
    · have h := zif (c := r103 = 0) h c
      refine zz_bipush (v := (-2)) M dX8_copy_14 (by decide) ?_
      exact zz_iret M dX8_copy_16 h
def wX8_comes_L75 (Q : Int32 → zSt → Prop) (K103 : zSt → Prop) (K167 : Int32 → zSt → Prop) (x1 : Int32) (x3 : Int32) (x4 : Int32) : Nat → Int32 → Int32 → zSt → Prop
  | 0, _, _, _ => False
  | n + 1, x5, x6, σ => if x4 ≤ x6 then (K167 x5 σ) else (if x3 < 0 then (K103  σ) else (vp_in x1 4 ∧ (if x3 ≤ (((σ.1 19 x1.toNatClampNeg) - (3 * x6)) - 3) then (∀ x109 : Int32, x109 = (((40 * x1) + x3) + (3 * x6)) → (vp_in x109 160 ∧ (vp_in (x109 + 1) 160 ∧ (vp_in (x109 + 2) 160 ∧ (∀ a110 : Int32, a110 = (σ.1 20 x109.toNatClampNeg) → (∀ a111 : Int32, a111 = (σ.1 20 (x109 + 1 : Int32).toNatClampNeg) → (∀ a112 : Int32, a112 = (σ.1 20 (x109 + 2 : Int32).toNatClampNeg) → (wX8_come a110 a111 a112 σ (fun r113 σ114 => if r113 < 0 then (∀ x115 : Int32, x115 = (x5 + 0) → (∀ x116 : Int32, x116 = x6 + 1 → (wX8_comes_L75 Q K103 K167 x1 x3 x4 n x115 x116 σ114))) else (∀ x117 : Int32, x117 = (x5 + 1) → (∀ x118 : Int32, x118 = x6 + 1 → (wX8_comes_L75 Q K103 K167 x1 x3 x4 n x117 x118 σ114)))))))))))) else (K103  σ))))
set_option maxRecDepth 20000 in
set_option maxHeartbeats 4000000 in
theorem sX8_comes_L75 {Q : Int32 → zSt → Prop} {K103 : zSt → Prop} {K167 : Int32 → zSt → Prop} (x1 : Int32) (x3 : Int32) (x4 : Int32)  (M : zM p s m args meth c cX8_comes 8 RX8 (some .int) tabM D cA ad y) (hK103 : ∀ (σ : zSt), K103  σ → zG p l e (zrm 3) s m args below meth c 8 tabM D cA ad (MQ below (va_Qi Q (fun σ' t => va_P D vwCl (zws tabM cA ad σ') t.heap) (zIn tabM ad)) args s 0 0 (zIn tabM ad)) 103 [] [] σ) (hK167 : ∀ (v5 : Int32) (σ : zSt), K167 v5 σ → zG p l e (zrm 3) s m args below meth c 8 tabM D cA ad (MQ below (va_Qi Q (fun σ' t => va_P D vwCl (zws tabM cA ad σ') t.heap) (zIn tabM ad)) args s 0 0 (zIn tabM ad)) 167 [(5, .int v5)] [] σ) : ∀ (n : Nat) (x5 : Int32) (x6 : Int32) (σ : zSt), wX8_comes_L75 Q K103 K167 x1 x3 x4 n x5 x6 σ → zG p l e (zrm 3) s m args below meth c 8 tabM D cA ad (MQ below (va_Qi Q (fun σ' t => va_P D vwCl (zws tabM cA ad σ') t.heap) (zIn tabM ad)) args s 0 0 (zIn tabM ad)) 75 [(0, .ref (ad 0)), (1, .int x1), (3, .int x3), (4, .int x4), (5, .int x5), (6, .int x6)] [] σ := by
  intro n
  induction n with
  | zero => intro x5 x6 σ h; exact absurd h (by simp [wX8_comes_L75])
  | succ n ih =>
    intro x5 x6 σ h
    unfold wX8_comes_L75 at h
    refine zz_iload M 5 dX8_comes_75 rfl ?_
    refine zz_iload M 3 dX8_comes_77 rfl ?_
    refine zz_icmp_ge M 167 dX8_comes_79 (by decide) (fun c => ?_) (fun c => ?_)
    · have h := zif (c := x4 ≤ x6) h c
      refine zz_sub [(5, .int x5)] [4] rfl ?_
      exact hK167 _ _ h
    · have h := zifn (c := x4 ≤ x6) h c
      refine zz_iload_n M 2 dX8_comes_82 rfl rfl ?_
      refine zz_if_lt (y0 := 0) M 103 dX8_comes_83 (by decide) (fun c => ?_) (fun c => ?_)
      · have h := zif (c := x3 < 0) h c
        refine zz_sub [] [] rfl ?_
        exact hK103  _ h
      · have h := zifn (c := x3 < 0) h c
        refine zz_iload_n M 2 dX8_comes_86 rfl rfl ?_
        refine zz_aload_n M 0 dX8_comes_87 rfl rfl ?_
        refine zz_getR M f_X8_79 tM_0 rfl dX8_comes_88 ?_
        refine zz_iload_n M 1 dX8_comes_91 rfl rfl ?_
        refine zz_iald M tM_19 h.1 dX8_comes_92 ?_
        have h := h.2
        refine zz_iconst (v := 3) M dX8_comes_93 (by decide) ?_
        refine zz_iload M 5 dX8_comes_94 rfl ?_
        refine zz_imul M dX8_comes_96 ?_
        refine zz_isub M dX8_comes_97 ?_
        refine zz_iconst (v := 3) M dX8_comes_98 (by decide) ?_
        refine zz_isub M dX8_comes_99 ?_
        refine zz_icmp_le M 106 dX8_comes_100 (by decide) (fun c => ?_) (fun c => ?_)
        · have h := zif (c := x3 ≤ (((σ.1 19 x1.toNatClampNeg) - (3 * x6)) - 3)) h c
          refine zz_bipush (v := 40) M dX8_comes_106 (by decide) ?_
          refine zz_iload_n M 1 dX8_comes_108 rfl rfl ?_
          refine zz_imul M dX8_comes_109 ?_
          refine zz_iload_n M 2 dX8_comes_110 rfl rfl ?_
          refine zz_iadd M dX8_comes_111 ?_
          refine zz_iconst (v := 3) M dX8_comes_112 (by decide) ?_
          refine zz_iload M 5 dX8_comes_113 rfl ?_
          refine zz_imul M dX8_comes_115 ?_
          refine zz_iadd M dX8_comes_116 ?_
          refine zz_topi (fun x109 ex109 => ?_)
          have h := h x109 ex109
          refine zz_istore M [(7, .int x109), (0, .ref (ad 0)), (1, .int x1), (3, .int x3), (4, .int x4), (5, .int x5), (6, .int x6)] dX8_comes_117 (by decide) rfl ?_
          refine zz_iload M 5 dX8_comes_119 rfl ?_
          refine zz_aload_n M 1 dX8_comes_121 rfl rfl ?_
          refine zz_aload_n M 1 dX8_comes_122 rfl rfl ?_
          refine zz_getR M f_X8_82 tM_0 rfl dX8_comes_123 ?_
          refine zz_iload M 0 dX8_comes_126 rfl ?_
          refine zz_iald M tM_20 h.1 dX8_comes_128 ?_
          have h := h.2
          refine zz_aload_n M 1 dX8_comes_129 rfl rfl ?_
          refine zz_getR M f_X8_82 tM_0 rfl dX8_comes_130 ?_
          refine zz_iload M 0 dX8_comes_133 rfl ?_
          refine zz_iconst (v := 1) M dX8_comes_135 (by decide) ?_
          refine zz_iadd M dX8_comes_136 ?_
          refine zz_iald M tM_20 h.1 dX8_comes_137 ?_
          have h := h.2
          refine zz_aload_n M 1 dX8_comes_138 rfl rfl ?_
          refine zz_getR M f_X8_82 tM_0 rfl dX8_comes_139 ?_
          refine zz_iload M 0 dX8_comes_142 rfl ?_
          refine zz_iconst (v := 2) M dX8_comes_144 (by decide) ?_
          refine zz_iadd M dX8_comes_145 ?_
          refine zz_iald M tM_20 h.1 dX8_comes_146 ?_
          have h := h.2
          obtain ⟨a110, ea110⟩ : ∃ z : Int32, z = (σ.1 20 x109.toNatClampNeg) := ⟨_, rfl⟩
          have h := h a110 ea110
          obtain ⟨a111, ea111⟩ : ∃ z : Int32, z = (σ.1 20 (x109 + 1 : Int32).toNatClampNeg) := ⟨_, rfl⟩
          have h := h a111 ea111
          obtain ⟨a112, ea112⟩ : ∃ z : Int32, z = (σ.1 20 (x109 + 2 : Int32).toNatClampNeg) := ⟨_, rfl⟩
          have h := h a112 ea112
          refine zz_st [.int a112, .int a111, .int a110, .ref (ad 0), .int x5] (by rw [ea110, ea111, ea112]) ?_
          refine zz_callVI (d' := 2) (As := [.int a110, .int a111, .int a112]) (rest := [.int x5]) M l_X8_461 tM_0 rfl rfl dX8_comes_147 rfl rfl (by decide) (Nat.le_of_ble_eq_true rfl) (by have hI := M.2.2.2.2.2.2.2.2; exact kX8_come hI _ _ _  _ _ h) (fun r113 σ114 h => ?_)
          refine zz_if_lt (y0 := 0) M 157 dX8_comes_150 (by decide) (fun c => ?_) (fun c => ?_)
          · have h := zif (c := r113 < 0) h c
            refine zz_iconst (v := 0) M dX8_comes_157 (by decide) ?_
            refine zz_iadd M dX8_comes_158 ?_
            refine zz_topi (fun x115 ex115 => ?_)
            have h := h x115 ex115
            refine zz_istore M [(5, .int x115), (7, .int x109), (0, .ref (ad 0)), (1, .int x1), (3, .int x3), (4, .int x4), (6, .int x6)] dX8_comes_159 (by decide) rfl ?_
            obtain ⟨x116, ex116⟩ : ∃ z : Int32, z = x6 + 1 := ⟨_, rfl⟩
            have h := h x116 ex116
            refine zz_iinc M [(6, .int x116), (5, .int x115), (7, .int x109), (0, .ref (ad 0)), (1, .int x1), (3, .int x3), (4, .int x4)] 6 dX8_comes_161 rfl (n32 := 1) (by decide) ex116 (by decide) rfl ?_
            refine zz_goto M 75 dX8_comes_164 (by decide) ?_
            refine zz_sub [(0, .ref (ad 0)), (1, .int x1), (3, .int x3), (4, .int x4), (5, .int x115), (6, .int x116)] [3, 4, 5, 6, 1, 0] rfl ?_
            exact ih _ _ _ h
          · have h := zifn (c := r113 < 0) h c
            refine zz_iconst (v := 1) M dX8_comes_153 (by decide) ?_
            refine zz_goto M 158 dX8_comes_154 (by decide) ?_
            refine zz_iadd M dX8_comes_158 ?_
            refine zz_topi (fun x117 ex117 => ?_)
            have h := h x117 ex117
            refine zz_istore M [(5, .int x117), (7, .int x109), (0, .ref (ad 0)), (1, .int x1), (3, .int x3), (4, .int x4), (6, .int x6)] dX8_comes_159 (by decide) rfl ?_
            obtain ⟨x118, ex118⟩ : ∃ z : Int32, z = x6 + 1 := ⟨_, rfl⟩
            have h := h x118 ex118
            refine zz_iinc M [(6, .int x118), (5, .int x117), (7, .int x109), (0, .ref (ad 0)), (1, .int x1), (3, .int x3), (4, .int x4)] 6 dX8_comes_161 rfl (n32 := 1) (by decide) ex118 (by decide) rfl ?_
            refine zz_goto M 75 dX8_comes_164 (by decide) ?_
            refine zz_sub [(0, .ref (ad 0)), (1, .int x1), (3, .int x3), (4, .int x4), (5, .int x117), (6, .int x118)] [3, 4, 5, 6, 1, 0] rfl ?_
            exact ih _ _ _ h
        · have h := zifn (c := x3 ≤ (((σ.1 19 x1.toNatClampNeg) - (3 * x6)) - 3)) h c
          refine zz_sub [] [] rfl ?_
          exact hK103  _ h
def wX8_comes (x1 : Int32) (x2 : Int32) (x3 : Int32) (x4 : Int32) (σ : zSt) (Q : Int32 → zSt → Prop) : Prop := wX8_isSheet x1 σ (fun r101 σ102 => if r101 = 0 then (Q (-2) σ102) else (∀ a103 : Int64, a103 = ((x2 : Int32).toInt64) → (wX8_in a103 0 2 σ102 (fun r104 σ105 => if r104 = 0 then (Q (-2) σ105) else (∀ a106 : Int64, a106 = ((x4 : Int32).toInt64) → (wX8_in a106 0 8 σ105 (fun r107 σ108 => if r107 = 0 then (Q (-2) σ108) else (vp_in x1 4 ∧ (if (σ108.1 17 x1.toNatClampNeg) = 0 then (vp_in x1 4 ∧ (if (σ108.1 17 x1.toNatClampNeg) = 0 then (Q (-11) σ108) else (wX8_comes_L75 Q (fun  σ119 => Q (-12) σ119) (fun v120 σ121 => Q v120 σ121) x1 x3 x4 300 0 0 σ108))) else (vp_in x1 4 ∧ (if (σ108.1 18 x1.toNatClampNeg) = x2 then (vp_in x1 4 ∧ (if (σ108.1 17 x1.toNatClampNeg) = 0 then (Q (-11) σ108) else (wX8_comes_L75 Q (fun  σ122 => Q (-12) σ122) (fun v123 σ124 => Q v123 σ124) x1 x3 x4 300 0 0 σ108))) else (Q (-13) σ108))))))))))))
set_option maxRecDepth 20000 in
set_option maxHeartbeats 4000000 in
theorem kX8_comes (hI : zInj tabM ad) (x1 : Int32) (x2 : Int32) (x3 : Int32) (x4 : Int32)  (σ : zSt) (Q : Int32 → zSt → Prop) (h : wX8_comes x1 x2 x3 x4 σ Q) : zOkI l tabM D cA ad y 3 yX8_comes cX8_comes 8 (some .int) [.ref (ad 0), .int x1, .int x2, .int x3, .int x4] σ Q := by
  refine zz_enter hI (by decide) (Nat.le_of_ble_eq_true rfl) (fun p e s m below meth c M => ?_)
  have M : zM p s m _ meth c cX8_comes 8 RX8 (some .int) tabM D cA ad y := M
  refine zz_ls [(0, .ref (ad 0)), (1, .int x1), (2, .int x2), (3, .int x3), (4, .int x4)] rfl ?_
  unfold wX8_comes at h
  refine zz_iload_n M 1 dX8_comes_0 rfl rfl ?_
  refine zz_callSI (d' := 2) (As := [.int x1]) (rest := []) M l_X8_431 dX8_comes_1 rfl rfl (by decide) (Nat.le_of_ble_eq_true rfl) (by have hI := M.2.2.2.2.2.2.2.2; exact kX8_isSheet hI _  _ _ h) (fun r101 σ102 h => ?_)
  refine zz_if_eq (y0 := 0) M 32 dX8_comes_4 (by decide) (fun c => ?_) (fun c => ?_)
  · have h := zif (c := r101 = 0) h c
    refine zz_bipush (v := (-2)) M dX8_comes_32 (by decide) ?_
    exact zz_iret M dX8_comes_34 h
  · have h := zifn (c := r101 = 0) h c
    refine zz_iload_n M 2 dX8_comes_7 rfl rfl ?_
    refine zz_i2l M dX8_comes_8 ?_
    refine zz_lconst (v := 0) M dX8_comes_9 (by decide) ?_
    refine zz_ldc2 (v := 2) M k_X8_104 dX8_comes_10 ?_
    obtain ⟨a103, ea103⟩ : ∃ z : Int64, z = ((x2 : Int32).toInt64) := ⟨_, rfl⟩
    have h := h a103 ea103
    refine zz_st [.long 2, .long 0, .long a103] (by rw [ea103]) ?_
    refine zz_callSI (d' := 1) (As := [.long a103, .long 0, .long 2]) (rest := []) M l_X8_92 dX8_comes_13 rfl rfl (by decide) (Nat.le_of_ble_eq_true rfl) (by have hI := M.2.2.2.2.2.2.2.2; exact kX8_in hI _ _ _  _ _ h) (fun r104 σ105 h => ?_)
    refine zz_if_eq (y0 := 0) M 32 dX8_comes_16 (by decide) (fun c => ?_) (fun c => ?_)
    · have h := zif (c := r104 = 0) h c
      refine zz_bipush (v := (-2)) M dX8_comes_32 (by decide) ?_
      exact zz_iret M dX8_comes_34 h
    · have h := zifn (c := r104 = 0) h c
      refine zz_iload M 4 dX8_comes_19 rfl ?_
      refine zz_i2l M dX8_comes_21 ?_
      refine zz_lconst (v := 0) M dX8_comes_22 (by decide) ?_
      refine zz_ldc2 (v := 8) M k_X8_459 dX8_comes_23 ?_
      obtain ⟨a106, ea106⟩ : ∃ z : Int64, z = ((x4 : Int32).toInt64) := ⟨_, rfl⟩
      have h := h a106 ea106
      refine zz_st [.long 8, .long 0, .long a106] (by rw [ea106]) ?_
      refine zz_callSI (d' := 1) (As := [.long a106, .long 0, .long 8]) (rest := []) M l_X8_92 dX8_comes_26 rfl rfl (by decide) (Nat.le_of_ble_eq_true rfl) (by have hI := M.2.2.2.2.2.2.2.2; exact kX8_in hI _ _ _  _ _ h) (fun r107 σ108 h => ?_)
      refine zz_if_ne (y0 := 0) M 35 dX8_comes_29 (by decide) (fun c => ?_) (fun c => ?_)
      · have h := zifn (c := r107 = 0) h c
        refine zz_aload_n M 0 dX8_comes_35 rfl rfl ?_
        refine zz_getR M f_X8_72 tM_0 rfl dX8_comes_36 ?_
        refine zz_iload_n M 1 dX8_comes_39 rfl rfl ?_
        refine zz_zald M tM_17 h.1 dX8_comes_40 ?_
        have h := h.2
        refine zz_if_eq (y0 := 0) M 57 dX8_comes_41 (by decide) (fun c => ?_) (fun c => ?_)
        · have h := zif (c := (σ108.1 17 x1.toNatClampNeg) = 0) h c
          refine zz_aload_n M 0 dX8_comes_57 rfl rfl ?_
          refine zz_getR M f_X8_72 tM_0 rfl dX8_comes_58 ?_
          refine zz_iload_n M 1 dX8_comes_61 rfl rfl ?_
          refine zz_zald M tM_17 h.1 dX8_comes_62 ?_
          have h := h.2
          refine zz_if_ne (y0 := 0) M 69 dX8_comes_63 (by decide) (fun c => ?_) (fun c => ?_)
          · have h := zifn (c := (σ108.1 17 x1.toNatClampNeg) = 0) h c
            refine zz_iconst (v := 0) M dX8_comes_69 (by decide) ?_
            refine zz_istore M [(5, .int 0), (0, .ref (ad 0)), (1, .int x1), (2, .int x2), (3, .int x3), (4, .int x4)] dX8_comes_70 (by decide) rfl ?_
            refine zz_iconst (v := 0) M dX8_comes_72 (by decide) ?_
            refine zz_istore M [(6, .int 0), (5, .int 0), (0, .ref (ad 0)), (1, .int x1), (2, .int x2), (3, .int x3), (4, .int x4)] dX8_comes_73 (by decide) rfl ?_
            refine zz_sub [(0, .ref (ad 0)), (1, .int x1), (3, .int x3), (4, .int x4), (5, .int 0), (6, .int 0)] [2, 3, 5, 6, 1, 0] rfl ?_
            refine sX8_comes_L75 x1 x3 x4  M (fun  σ119 h => ?_) (fun v120 σ121 h => ?_) 300 _ _ _ h
            · refine zz_bipush (v := (-12)) M dX8_comes_103 (by decide) ?_
              exact zz_iret M dX8_comes_105 h
            · refine zz_iload M 0 dX8_comes_167 rfl ?_
              exact zz_iret M dX8_comes_169 h
          · have h := zif (c := (σ108.1 17 x1.toNatClampNeg) = 0) h c
            refine zz_bipush (v := (-11)) M dX8_comes_66 (by decide) ?_
            exact zz_iret M dX8_comes_68 h
        · have h := zifn (c := (σ108.1 17 x1.toNatClampNeg) = 0) h c
          refine zz_aload_n M 0 dX8_comes_44 rfl rfl ?_
          refine zz_getR M f_X8_76 tM_0 rfl dX8_comes_45 ?_
          refine zz_iload_n M 1 dX8_comes_48 rfl rfl ?_
          refine zz_iald M tM_18 h.1 dX8_comes_49 ?_
          have h := h.2
          refine zz_iload_n M 2 dX8_comes_50 rfl rfl ?_
          refine zz_icmp_eq M 57 dX8_comes_51 (by decide) (fun c => ?_) (fun c => ?_)
          · have h := zif (c := (σ108.1 18 x1.toNatClampNeg) = x2) h c
            refine zz_aload_n M 0 dX8_comes_57 rfl rfl ?_
            refine zz_getR M f_X8_72 tM_0 rfl dX8_comes_58 ?_
            refine zz_iload_n M 1 dX8_comes_61 rfl rfl ?_
            refine zz_zald M tM_17 h.1 dX8_comes_62 ?_
            have h := h.2
            refine zz_if_ne (y0 := 0) M 69 dX8_comes_63 (by decide) (fun c => ?_) (fun c => ?_)
            · have h := zifn (c := (σ108.1 17 x1.toNatClampNeg) = 0) h c
              refine zz_iconst (v := 0) M dX8_comes_69 (by decide) ?_
              refine zz_istore M [(5, .int 0), (0, .ref (ad 0)), (1, .int x1), (2, .int x2), (3, .int x3), (4, .int x4)] dX8_comes_70 (by decide) rfl ?_
              refine zz_iconst (v := 0) M dX8_comes_72 (by decide) ?_
              refine zz_istore M [(6, .int 0), (5, .int 0), (0, .ref (ad 0)), (1, .int x1), (2, .int x2), (3, .int x3), (4, .int x4)] dX8_comes_73 (by decide) rfl ?_
              refine zz_sub [(0, .ref (ad 0)), (1, .int x1), (3, .int x3), (4, .int x4), (5, .int 0), (6, .int 0)] [2, 3, 5, 6, 1, 0] rfl ?_
              refine sX8_comes_L75 x1 x3 x4  M (fun  σ122 h => ?_) (fun v123 σ124 h => ?_) 300 _ _ _ h
              · refine zz_bipush (v := (-12)) M dX8_comes_103 (by decide) ?_
                exact zz_iret M dX8_comes_105 h
              · refine zz_iload M 0 dX8_comes_167 rfl ?_
                exact zz_iret M dX8_comes_169 h
            · have h := zif (c := (σ108.1 17 x1.toNatClampNeg) = 0) h c
              refine zz_bipush (v := (-11)) M dX8_comes_66 (by decide) ?_
              exact zz_iret M dX8_comes_68 h
          · have h := zifn (c := (σ108.1 18 x1.toNatClampNeg) = x2) h c
            refine zz_bipush (v := (-13)) M dX8_comes_54 (by decide) ?_
            exact zz_iret M dX8_comes_56 h
      · have h := zif (c := r107 = 0) h c
        refine zz_bipush (v := (-2)) M dX8_comes_32 (by decide) ?_
        exact zz_iret M dX8_comes_34 h
def wX8_over (x0 : Int32) (σ : zSt) (Q : Int32 → zSt → Prop) : Prop := if x0 = 0 then (Q (-1) σ) else (if x0 = 1 then (Q 0 σ) else (if x0 = 2 then (Q 0 σ) else (if x0 = 4 then (Q 2 σ) else (Q 1 σ))))
set_option maxRecDepth 20000 in
set_option maxHeartbeats 4000000 in
theorem kX8_over (hI : zInj tabM ad) (x0 : Int32)  (σ : zSt) (Q : Int32 → zSt → Prop) (h : wX8_over x0 σ Q) : zOkI l tabM D cA ad y 1 yX8_over cX8_over 1 (some .int) [.int x0] σ Q := by
  refine zz_enter hI (by decide) (Nat.le_of_ble_eq_true rfl) (fun p e s m below meth c M => ?_)
  have M : zM p s m _ meth c cX8_over 1 RX8 (some .int) tabM D cA ad y := M
  refine zz_ls [(0, .int x0)] rfl ?_
  unfold wX8_over at h
  refine zz_iload_n M 0 dX8_over_0 rfl rfl ?_
  refine zz_if_ne (y0 := 0) M 8 dX8_over_1 (by decide) (fun c => ?_) (fun c => ?_)
  · have h := zifn (c := x0 = 0) h c
    refine zz_iload_n M 0 dX8_over_8 rfl rfl ?_
    refine zz_iconst (v := 1) M dX8_over_9 (by decide) ?_
    refine zz_icmp_eq M 18 dX8_over_10 (by decide) (fun c => ?_) (fun c => ?_)
    · have h := zif (c := x0 = 1) h c
      refine zz_iconst (v := 0) M dX8_over_18 (by decide) ?_
      refine zz_goto M 32 dX8_over_19 (by decide) ?_
      exact zz_iret M dX8_over_32 h
    · have h := zifn (c := x0 = 1) h c
      refine zz_iload_n M 0 dX8_over_13 rfl rfl ?_
      refine zz_iconst (v := 2) M dX8_over_14 (by decide) ?_
      refine zz_icmp_ne M 22 dX8_over_15 (by decide) (fun c => ?_) (fun c => ?_)
      · have h := zifn (c := x0 = 2) h c
        refine zz_iload_n M 0 dX8_over_22 rfl rfl ?_
        refine zz_iconst (v := 4) M dX8_over_23 (by decide) ?_
        refine zz_icmp_ne M 31 dX8_over_24 (by decide) (fun c => ?_) (fun c => ?_)
        · have h := zifn (c := x0 = 4) h c
          refine zz_iconst (v := 1) M dX8_over_31 (by decide) ?_
          exact zz_iret M dX8_over_32 h
        · have h := zif (c := x0 = 4) h c
          refine zz_iconst (v := 2) M dX8_over_27 (by decide) ?_
          refine zz_goto M 32 dX8_over_28 (by decide) ?_
          exact zz_iret M dX8_over_32 h
      · have h := zif (c := x0 = 2) h c
        refine zz_iconst (v := 0) M dX8_over_18 (by decide) ?_
        refine zz_goto M 32 dX8_over_19 (by decide) ?_
        exact zz_iret M dX8_over_32 h
  · have h := zif (c := x0 = 0) h c
    refine zz_iconst (v := (-1)) M dX8_over_4 (by decide) ?_
    refine zz_goto M 32 dX8_over_5 (by decide) ?_
    exact zz_iret M dX8_over_32 h
def wX8_taken_L41 (Q : Int32 → zSt → Prop) (K59 : Int32 → zSt → Prop) (x1 : Int32) (x2 : Int32) : Nat → Int32 → zSt → Prop
  | 0, _, _ => False
  | n + 1, x3, σ => if x3 = (-1) then (K59 x3 σ) else (if x3 = x2 then (K59 x3 σ) else (wX8_over x3 σ (fun r109 σ110 => wX8_taken_L41 Q K59 x1 x2 n r109 σ110)))
set_option maxRecDepth 20000 in
set_option maxHeartbeats 4000000 in
theorem sX8_taken_L41 {Q : Int32 → zSt → Prop} {K59 : Int32 → zSt → Prop} (x1 : Int32) (x2 : Int32)  (M : zM p s m args meth c cX8_taken 4 RX8 (some .int) tabM D cA ad y) (hK59 : ∀ (v3 : Int32) (σ : zSt), K59 v3 σ → zG p l e (zrm 2) s m args below meth c 4 tabM D cA ad (MQ below (va_Qi Q (fun σ' t => va_P D vwCl (zws tabM cA ad σ') t.heap) (zIn tabM ad)) args s 0 0 (zIn tabM ad)) 59 [(0, .ref (ad 0)), (1, .int x1), (2, .int x2), (3, .int v3)] [] σ) : ∀ (n : Nat) (x3 : Int32) (σ : zSt), wX8_taken_L41 Q K59 x1 x2 n x3 σ → zG p l e (zrm 2) s m args below meth c 4 tabM D cA ad (MQ below (va_Qi Q (fun σ' t => va_P D vwCl (zws tabM cA ad σ') t.heap) (zIn tabM ad)) args s 0 0 (zIn tabM ad)) 41 [(0, .ref (ad 0)), (1, .int x1), (2, .int x2), (3, .int x3)] [] σ := by
  intro n
  induction n with
  | zero => intro x3 σ h; exact absurd h (by simp [wX8_taken_L41])
  | succ n ih =>
    intro x3 σ h
    unfold wX8_taken_L41 at h
    refine zz_iload_n M 3 dX8_taken_41 rfl rfl ?_
    refine zz_iconst (v := (-1)) M dX8_taken_42 (by decide) ?_
    refine zz_icmp_eq M 59 dX8_taken_43 (by decide) (fun c => ?_) (fun c => ?_)
    · have h := zif (c := x3 = (-1)) h c
      exact hK59 _ _ h
    · have h := zifn (c := x3 = (-1)) h c
      refine zz_iload_n M 3 dX8_taken_46 rfl rfl ?_
      refine zz_iload_n M 2 dX8_taken_47 rfl rfl ?_
      refine zz_icmp_eq M 59 dX8_taken_48 (by decide) (fun c => ?_) (fun c => ?_)
      · have h := zif (c := x3 = x2) h c
        exact hK59 _ _ h
      · have h := zifn (c := x3 = x2) h c
        refine zz_iload_n M 3 dX8_taken_51 rfl rfl ?_
        refine zz_callSI (d' := 1) (As := [.int x3]) (rest := []) M l_X8_464 dX8_taken_52 rfl rfl (by decide) (Nat.le_of_ble_eq_true rfl) (by have hI := M.2.2.2.2.2.2.2.2; exact kX8_over hI _  _ _ h) (fun r109 σ110 h => ?_)
        refine zz_istore_n M [(3, .int r109), (0, .ref (ad 0)), (1, .int x1), (2, .int x2)] dX8_taken_55 rfl (by decide) rfl ?_
        refine zz_goto M 41 dX8_taken_56 (by decide) ?_
        refine zz_sub [(0, .ref (ad 0)), (1, .int x1), (2, .int x2), (3, .int r109)] [1, 2, 3, 0] rfl ?_
        exact ih _ _ h
def wX8_taken (x1 : Int32) (x2 : Int32) (σ : zSt) (Q : Int32 → zSt → Prop) : Prop := ∀ a101 : Int64, a101 = ((x2 : Int32).toInt64) → (wX8_in a101 0 5 σ (fun r102 σ103 => if r102 = 0 then (Q (-2) σ103) else (∀ a104 : Int64, a104 = ((x1 : Int32).toInt64) → (∀ a105 : Int64, a105 = (((σ103.1 0 16) - 1 : Int32).toInt64) → (wX8_in a104 0 a105 σ103 (fun r106 σ107 => if r106 = 0 then (Q (-11) σ107) else (vp_in x1 4 ∧ (∀ x108 : Int32, x108 = (σ107.1 7 x1.toNatClampNeg) → (wX8_taken_L41 Q (fun v111 σ112 => if v111 = x2 then (vp_in x1 4 ∧ (Q (σ112.1 8 x1.toNatClampNeg) σ112)) else (Q (-13) σ112)) x1 x2 300 x108 σ107)))))))))
set_option maxRecDepth 20000 in
set_option maxHeartbeats 4000000 in
theorem kX8_taken (hI : zInj tabM ad) (x1 : Int32) (x2 : Int32)  (σ : zSt) (Q : Int32 → zSt → Prop) (h : wX8_taken x1 x2 σ Q) : zOkI l tabM D cA ad y 2 yX8_taken cX8_taken 4 (some .int) [.ref (ad 0), .int x1, .int x2] σ Q := by
  refine zz_enter hI (by decide) (Nat.le_of_ble_eq_true rfl) (fun p e s m below meth c M => ?_)
  have M : zM p s m _ meth c cX8_taken 4 RX8 (some .int) tabM D cA ad y := M
  refine zz_ls [(0, .ref (ad 0)), (1, .int x1), (2, .int x2)] rfl ?_
  unfold wX8_taken at h
  refine zz_iload_n M 2 dX8_taken_0 rfl rfl ?_
  refine zz_i2l M dX8_taken_1 ?_
  refine zz_lconst (v := 0) M dX8_taken_2 (by decide) ?_
  refine zz_ldc2 (v := 5) M k_X8_119 dX8_taken_3 ?_
  obtain ⟨a101, ea101⟩ : ∃ z : Int64, z = ((x2 : Int32).toInt64) := ⟨_, rfl⟩
  have h := h a101 ea101
  refine zz_st [.long 5, .long 0, .long a101] (by rw [ea101]) ?_
  refine zz_callSI (d' := 1) (As := [.long a101, .long 0, .long 5]) (rest := []) M l_X8_92 dX8_taken_6 rfl rfl (by decide) (Nat.le_of_ble_eq_true rfl) (by have hI := M.2.2.2.2.2.2.2.2; exact kX8_in hI _ _ _  _ _ h) (fun r102 σ103 h => ?_)
  refine zz_if_ne (y0 := 0) M 15 dX8_taken_9 (by decide) (fun c => ?_) (fun c => ?_)
  · have h := zifn (c := r102 = 0) h c
    refine zz_iload_n M 1 dX8_taken_15 rfl rfl ?_
    refine zz_i2l M dX8_taken_16 ?_
    refine zz_lconst (v := 0) M dX8_taken_17 (by decide) ?_
    refine zz_aload_n M 0 dX8_taken_18 rfl rfl ?_
    refine zz_getI M f_X8_114 tM_0 rfl dX8_taken_19 ?_
    refine zz_iconst (v := 1) M dX8_taken_22 (by decide) ?_
    refine zz_isub M dX8_taken_23 ?_
    refine zz_i2l M dX8_taken_24 ?_
    obtain ⟨a104, ea104⟩ : ∃ z : Int64, z = ((x1 : Int32).toInt64) := ⟨_, rfl⟩
    have h := h a104 ea104
    obtain ⟨a105, ea105⟩ : ∃ z : Int64, z = (((σ103.1 0 16) - 1 : Int32).toInt64) := ⟨_, rfl⟩
    have h := h a105 ea105
    refine zz_st [.long a105, .long 0, .long a104] (by rw [ea104, ea105]) ?_
    refine zz_callSI (d' := 1) (As := [.long a104, .long 0, .long a105]) (rest := []) M l_X8_92 dX8_taken_25 rfl rfl (by decide) (Nat.le_of_ble_eq_true rfl) (by have hI := M.2.2.2.2.2.2.2.2; exact kX8_in hI _ _ _  _ _ h) (fun r106 σ107 h => ?_)
    refine zz_if_ne (y0 := 0) M 34 dX8_taken_28 (by decide) (fun c => ?_) (fun c => ?_)
    · have h := zifn (c := r106 = 0) h c
      refine zz_aload_n M 0 dX8_taken_34 rfl rfl ?_
      refine zz_getR M f_X8_38 tM_0 rfl dX8_taken_35 ?_
      refine zz_iload_n M 1 dX8_taken_38 rfl rfl ?_
      refine zz_iald M tM_7 h.1 dX8_taken_39 ?_
      have h := h.2
      refine zz_topi (fun x108 ex108 => ?_)
      have h := h x108 ex108
      refine zz_istore_n M [(3, .int x108), (0, .ref (ad 0)), (1, .int x1), (2, .int x2)] dX8_taken_40 rfl (by decide) rfl ?_
      refine zz_sub [(0, .ref (ad 0)), (1, .int x1), (2, .int x2), (3, .int x108)] [1, 2, 3, 0] rfl ?_
      refine sX8_taken_L41 x1 x2  M (fun v111 σ112 h => ?_) 300 _ _ h
      refine zz_iload_n M 3 dX8_taken_59 rfl rfl ?_
      refine zz_iload_n M 2 dX8_taken_60 rfl rfl ?_
      refine zz_icmp_ne M 73 dX8_taken_61 (by decide) (fun c => ?_) (fun c => ?_)
      · have h := zifn (c := v111 = x2) h c
        refine zz_bipush (v := (-13)) M dX8_taken_73 (by decide) ?_
        exact zz_iret M dX8_taken_75 h
      · have h := zif (c := v111 = x2) h c
        refine zz_aload_n M 0 dX8_taken_64 rfl rfl ?_
        refine zz_getR M f_X8_41 tM_0 rfl dX8_taken_65 ?_
        refine zz_iload_n M 1 dX8_taken_68 rfl rfl ?_
        refine zz_iald M tM_8 h.1 dX8_taken_69 ?_
        have h := h.2
        refine zz_goto M 75 dX8_taken_70 (by decide) ?_
        exact zz_iret M dX8_taken_75 h
    · have h := zif (c := r106 = 0) h c
      refine zz_bipush (v := (-11)) M dX8_taken_31 (by decide) ?_
      exact zz_iret M dX8_taken_33 h
  · have h := zif (c := r102 = 0) h c
    refine zz_bipush (v := (-2)) M dX8_taken_12 (by decide) ?_
    exact zz_iret M dX8_taken_14 h
end
