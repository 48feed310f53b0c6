section
variable {p : Program} {l : Launch} {e : Env} {s : State} {m : MethodId} {args : Array Value} {below : List Frame} {meth : Method} {c : Code} {D : va_G} {cA : Nat → ClassId} {ad : Nat → Nat} {y : zX}
def wX8_leastRow_L17 (Q : Int32 → zSt → Prop) (K58 : Int32 → zSt → Prop) (x1 : Int32) (x3 : Int32) (x4 : Int32) : Nat → Int32 → Int32 → zSt → Prop
  | 0, _, _, _ => False
  | n + 1, x2, x5, σ => if 3 ≤ x5 then (K58 x2 σ) else (wX8_leastFrom 0 0 x5 1 x1 σ (fun r103 σ104 => if x2 ≤ r103 then (∀ x105 : Int32, x105 = x5 + 1 → (wX8_leastRow_L17 Q K58 x1 x3 x4 n x2 x105 σ104)) else (∀ σ106 : zSt, σ106 = zput σ104 10 0 x5 → (∀ x107 : Int32, x107 = x5 + 1 → (wX8_leastRow_L17 Q K58 x1 x3 x4 n r103 x107 σ106)))))
set_option maxRecDepth 20000 in
set_option maxHeartbeats 4000000 in
theorem sX8_leastRow_L17 {Q : Int32 → zSt → Prop} {K58 : Int32 → zSt → Prop} (x1 : Int32) (x3 : Int32) (x4 : Int32)  (M : zM p s m args meth c cX8_leastRow 10 RX8 (some .int) tabM D cA ad y) (hK58 : ∀ (v2 : Int32) (σ : zSt), K58 v2 σ → zG p l e (zrm 45) s m args below meth c 10 tabM D cA ad (MQ below (va_Qi Q (fun σ' t => va_P D vwCl (zws tabM cA ad σ') t.heap) (zIn tabM ad)) args s 0 0 (zIn tabM ad)) 58 [(0, .ref (ad 0)), (1, .int x1), (2, .int v2), (3, .int x3), (4, .int x4)] [] σ) : ∀ (n : Nat) (x2 : Int32) (x5 : Int32) (σ : zSt), wX8_leastRow_L17 Q K58 x1 x3 x4 n x2 x5 σ → zG p l e (zrm 45) s m args below meth c 10 tabM D cA ad (MQ below (va_Qi Q (fun σ' t => va_P D vwCl (zws tabM cA ad σ') t.heap) (zIn tabM ad)) args s 0 0 (zIn tabM ad)) 17 [(0, .ref (ad 0)), (1, .int x1), (2, .int x2), (3, .int x3), (4, .int x4), (5, .int x5)] [] σ := by
  intro n
  induction n with
  | zero => intro x2 x5 σ h; exact absurd h (by simp [wX8_leastRow_L17])
  | succ n ih =>
    intro x2 x5 σ h
    unfold wX8_leastRow_L17 at h
    refine zz_iload M 5 dX8_leastRow_17 rfl ?_
    refine zz_iconst (v := 3) M dX8_leastRow_19 (by decide) ?_
    refine zz_icmp_ge M 58 dX8_leastRow_20 (by decide) (fun c => ?_) (fun c => ?_)
    · have h := zif (c := 3 ≤ x5) h c
      refine zz_sub [(0, .ref (ad 0)), (1, .int x1), (2, .int x2), (3, .int x3), (4, .int x4)] [0, 1, 2, 3, 4] rfl ?_
      exact hK58 _ _ h
    · have h := zifn (c := 3 ≤ x5) h c
      refine zz_aload_n M 0 dX8_leastRow_23 rfl rfl ?_
      refine zz_iconst (v := 0) M dX8_leastRow_24 (by decide) ?_
      refine zz_iconst (v := 0) M dX8_leastRow_25 (by decide) ?_
      refine zz_iload M 5 dX8_leastRow_26 rfl ?_
      refine zz_iconst (v := 1) M dX8_leastRow_28 (by decide) ?_
      refine zz_iload_n M 1 dX8_leastRow_29 rfl rfl ?_
      refine zz_callVI (d' := 3) (As := [.int 0, .int 0, .int x5, .int 1, .int x1]) (rest := []) M l_X8_381 tM_0 rfl rfl dX8_leastRow_30 rfl rfl (by decide) (Nat.le_of_ble_eq_true rfl) (by have hI := M.2.2.2.2.2.2.2.2; exact kX8_leastFrom hI _ _ _ _ _  _ _ h) (fun r103 σ104 h => ?_)
      refine zz_istore M [(6, .int r103), (0, .ref (ad 0)), (1, .int x1), (2, .int x2), (3, .int x3), (4, .int x4), (5, .int x5)] dX8_leastRow_33 (by decide) rfl ?_
      refine zz_iload M 0 dX8_leastRow_35 rfl ?_
      refine zz_iload_n M 3 dX8_leastRow_37 rfl rfl ?_
      refine zz_icmp_ge M 52 dX8_leastRow_38 (by decide) (fun c => ?_) (fun c => ?_)
      · have h := zif (c := x2 ≤ r103) h c
        obtain ⟨x105, ex105⟩ : ∃ z : Int32, z = x5 + 1 := ⟨_, rfl⟩
        have h := h x105 ex105
        refine zz_iinc M [(5, .int x105), (6, .int r103), (0, .ref (ad 0)), (1, .int x1), (2, .int x2), (3, .int x3), (4, .int x4)] 6 dX8_leastRow_52 rfl (n32 := 1) (by decide) ex105 (by decide) rfl ?_
        refine zz_goto M 17 dX8_leastRow_55 (by decide) ?_
        refine zz_sub [(0, .ref (ad 0)), (1, .int x1), (2, .int x2), (3, .int x3), (4, .int x4), (5, .int x105)] [2, 3, 4, 5, 6, 0] rfl ?_
        exact ih _ _ _ h
      · have h := zifn (c := x2 ≤ r103) h c
        refine zz_iload M 0 dX8_leastRow_41 rfl ?_
        refine zz_istore_n M [(2, .int r103), (6, .int r103), (0, .ref (ad 0)), (1, .int x1), (3, .int x3), (4, .int x4), (5, .int x5)] dX8_leastRow_43 rfl (by decide) rfl ?_
        refine zz_aload_n M 2 dX8_leastRow_44 rfl rfl ?_
        refine zz_getR M f_X8_47 tM_0 rfl dX8_leastRow_45 ?_
        refine zz_iconst (v := 0) M dX8_leastRow_48 (by decide) ?_
        refine zz_iload M 6 dX8_leastRow_49 rfl ?_
        refine zz_iastK (kk := 0) M tM_10 (zlit (by decide)) (by decide) dX8_leastRow_51 ?_
        refine zz_sg (fun σ106 eσ106 => ?_)
        have h := h σ106 eσ106
        obtain ⟨x107, ex107⟩ : ∃ z : Int32, z = x5 + 1 := ⟨_, rfl⟩
        have h := h x107 ex107
        refine zz_iinc M [(5, .int x107), (2, .int r103), (6, .int r103), (0, .ref (ad 0)), (1, .int x1), (3, .int x3), (4, .int x4)] 6 dX8_leastRow_52 rfl (n32 := 1) (by decide) ex107 (by decide) rfl ?_
        refine zz_goto M 17 dX8_leastRow_55 (by decide) ?_
        refine zz_sub [(0, .ref (ad 0)), (1, .int x1), (2, .int r103), (3, .int x3), (4, .int x4), (5, .int x107)] [3, 4, 1, 5, 6, 0] rfl ?_
        exact ih _ _ _ h
def wX8_leastRow_L110 (Q : Int32 → zSt → Prop) (K158 : zSt → Prop) (x1 : Int32) (x2 : Int32) (x3 : Int32) (x4 : Int32) (x5 : Int32) (x6 : Int32) : Nat → Int32 → Int32 → zSt → Prop
  | 0, _, _, _ => False
  | n + 1, x7, x8, σ => if 3 ≤ x8 then (K158  σ) else (wX8_step x5 x3 x6 x4 x8 x1 σ (fun r114 σ115 => if x7 ≤ r114 then (∀ x116 : Int32, x116 = x8 + 1 → (wX8_leastRow_L110 Q K158 x1 x2 x3 x4 x5 x6 n x7 x116 σ115)) else (vp_in x5 24 ∧ (∀ σ117 : zSt, σ117 = zput σ115 10 x5.toNatClampNeg x8 → (∀ x118 : Int32, x118 = x8 + 1 → (wX8_leastRow_L110 Q K158 x1 x2 x3 x4 x5 x6 n r114 x118 σ117))))))
set_option maxRecDepth 20000 in
set_option maxHeartbeats 4000000 in
theorem sX8_leastRow_L110 {Q : Int32 → zSt → Prop} {K158 : zSt → Prop} (x1 : Int32) (x2 : Int32) (x3 : Int32) (x4 : Int32) (x5 : Int32) (x6 : Int32)  (M : zM p s m args meth c cX8_leastRow 10 RX8 (some .int) tabM D cA ad y) (hK158 : ∀ (σ : zSt), K158  σ → zG p l e (zrm 45) s m args below meth c 10 tabM D cA ad (MQ below (va_Qi Q (fun σ' t => va_P D vwCl (zws tabM cA ad σ') t.heap) (zIn tabM ad)) args s 0 0 (zIn tabM ad)) 158 [(0, .ref (ad 0)), (1, .int x1), (2, .int x2), (3, .int x3), (4, .int x4), (5, .int x5), (6, .int x6)] [] σ) : ∀ (n : Nat) (x7 : Int32) (x8 : Int32) (σ : zSt), wX8_leastRow_L110 Q K158 x1 x2 x3 x4 x5 x6 n x7 x8 σ → zG p l e (zrm 45) s m args below meth c 10 tabM D cA ad (MQ below (va_Qi Q (fun σ' t => va_P D vwCl (zws tabM cA ad σ') t.heap) (zIn tabM ad)) args s 0 0 (zIn tabM ad)) 110 [(0, .ref (ad 0)), (1, .int x1), (2, .int x2), (3, .int x3), (4, .int x4), (5, .int x5), (6, .int x6), (7, .int x7), (8, .int x8)] [] σ := by
  intro n
  induction n with
  | zero => intro x7 x8 σ h; exact absurd h (by simp [wX8_leastRow_L110])
  | succ n ih =>
    intro x7 x8 σ h
    unfold wX8_leastRow_L110 at h
    refine zz_iload M 8 dX8_leastRow_110 rfl ?_
    refine zz_iconst (v := 3) M dX8_leastRow_112 (by decide) ?_
    refine zz_icmp_ge M 158 dX8_leastRow_113 (by decide) (fun c => ?_) (fun c => ?_)
    · have h := zif (c := 3 ≤ x8) h c
      refine zz_sub [(0, .ref (ad 0)), (1, .int x1), (2, .int x2), (3, .int x3), (4, .int x4), (5, .int x5), (6, .int x6)] [0, 1, 2, 3, 4, 5, 6] rfl ?_
      exact hK158  _ h
    · have h := zifn (c := 3 ≤ x8) h c
      refine zz_aload_n M 0 dX8_leastRow_116 rfl rfl ?_
      refine zz_iload M 5 dX8_leastRow_117 rfl ?_
      refine zz_iload_n M 3 dX8_leastRow_119 rfl rfl ?_
      refine zz_iload M 6 dX8_leastRow_120 rfl ?_
      refine zz_iload M 4 dX8_leastRow_122 rfl ?_
      refine zz_iload M 8 dX8_leastRow_124 rfl ?_
      refine zz_iload_n M 1 dX8_leastRow_126 rfl rfl ?_
      refine zz_callVI (d' := 4) (As := [.int x5, .int x3, .int x6, .int x4, .int x8, .int x1]) (rest := []) M l_X8_389 tM_0 rfl rfl dX8_leastRow_127 rfl rfl (by decide) (Nat.le_of_ble_eq_true rfl) (by have hI := M.2.2.2.2.2.2.2.2; exact kX8_step hI _ _ _ _ _ _  _ _ h) (fun r114 σ115 h => ?_)
      refine zz_istore M [(9, .int r114), (0, .ref (ad 0)), (1, .int x1), (2, .int x2), (3, .int x3), (4, .int x4), (5, .int x5), (6, .int x6), (7, .int x7), (8, .int x8)] dX8_leastRow_130 (by decide) rfl ?_
      refine zz_iload M 0 dX8_leastRow_132 rfl ?_
      refine zz_iload M 8 dX8_leastRow_134 rfl ?_
      refine zz_icmp_ge M 152 dX8_leastRow_136 (by decide) (fun c => ?_) (fun c => ?_)
      · have h := zif (c := x7 ≤ r114) h c
        obtain ⟨x116, ex116⟩ : ∃ z : Int32, z = x8 + 1 := ⟨_, rfl⟩
        have h := h x116 ex116
        refine zz_iinc M [(8, .int x116), (9, .int r114), (0, .ref (ad 0)), (1, .int x1), (2, .int x2), (3, .int x3), (4, .int x4), (5, .int x5), (6, .int x6), (7, .int x7)] 9 dX8_leastRow_152 rfl (n32 := 1) (by decide) ex116 (by decide) rfl ?_
        refine zz_goto M 110 dX8_leastRow_155 (by decide) ?_
        refine zz_sub [(0, .ref (ad 0)), (1, .int x1), (2, .int x2), (3, .int x3), (4, .int x4), (5, .int x5), (6, .int x6), (7, .int x7), (8, .int x116)] [2, 3, 4, 5, 6, 7, 8, 9, 0] rfl ?_
        exact ih _ _ _ h
      · have h := zifn (c := x7 ≤ r114) h c
        refine zz_iload M 0 dX8_leastRow_139 rfl ?_
        refine zz_istore M [(7, .int r114), (9, .int r114), (0, .ref (ad 0)), (1, .int x1), (2, .int x2), (3, .int x3), (4, .int x4), (5, .int x5), (6, .int x6), (8, .int x8)] dX8_leastRow_141 (by decide) rfl ?_
        refine zz_aload_n M 2 dX8_leastRow_143 rfl rfl ?_
        refine zz_getR M f_X8_47 tM_0 rfl dX8_leastRow_144 ?_
        refine zz_iload M 7 dX8_leastRow_147 rfl ?_
        refine zz_iload M 9 dX8_leastRow_149 rfl ?_
        refine zz_iast M tM_10 h.1 dX8_leastRow_151 ?_
        have h := h.2
        refine zz_sg (fun σ117 eσ117 => ?_)
        have h := h σ117 eσ117
        obtain ⟨x118, ex118⟩ : ∃ z : Int32, z = x8 + 1 := ⟨_, rfl⟩
        have h := h x118 ex118
        refine zz_iinc M [(8, .int x118), (7, .int r114), (9, .int r114), (0, .ref (ad 0)), (1, .int x1), (2, .int x2), (3, .int x3), (4, .int x4), (5, .int x5), (6, .int x6)] 9 dX8_leastRow_152 rfl (n32 := 1) (by decide) ex118 (by decide) rfl ?_
        refine zz_goto M 110 dX8_leastRow_155 (by decide) ?_
        refine zz_sub [(0, .ref (ad 0)), (1, .int x1), (2, .int x2), (3, .int x3), (4, .int x4), (5, .int x5), (6, .int x6), (7, .int r114), (8, .int x118)] [3, 4, 5, 6, 7, 8, 9, 1, 0] rfl ?_
        exact ih _ _ _ h
def wX8_leastRow_L72 (Q : Int32 → zSt → Prop) (K202 : zSt → Prop) (x1 : Int32) (x2 : Int32) : Nat → Int32 → Int32 → Int32 → zSt → Prop
  | 0, _, _, _, _ => False
  | n + 1, x3, x4, x5, σ => if 24 ≤ x5 then (K202  σ) else (vp_in (x5 - 1) 24 ∧ (∀ x110 : Int32, x110 = (σ.1 10 (x5 - 1 : Int32).toNatClampNeg) → (∀ a111 : Int32, a111 = (x5 - 1) → (wX8_goesBy a111 x110 x3 σ (fun r112 σ113 => wX8_leastRow_L110 Q (fun  σ119 => vp_in x5 24 ∧ (if (σ119.1 10 x5.toNatClampNeg) = x110 then (if (σ119.1 0 12) ≤ x4 then (∀ x120 : Int32, x120 = (σ119.1 0 12) → (∀ x121 : Int32, x121 = x5 + 1 → (wX8_leastRow_L72 Q K202 x1 x2 n r112 x120 x121 σ119))) else (∀ x122 : Int32, x122 = (x4 + 1) → (∀ x123 : Int32, x123 = x5 + 1 → (wX8_leastRow_L72 Q K202 x1 x2 n r112 x122 x123 σ119)))) else (∀ x124 : Int32, x124 = x5 + 1 → (wX8_leastRow_L72 Q K202 x1 x2 n r112 1 x124 σ119)))) x1 x2 r112 x4 x5 x110 300 99999999 0 σ113)))))
set_option maxRecDepth 20000 in
set_option maxHeartbeats 4000000 in
theorem sX8_leastRow_L72 {Q : Int32 → zSt → Prop} {K202 : zSt → Prop} (x1 : Int32) (x2 : Int32)  (M : zM p s m args meth c cX8_leastRow 10 RX8 (some .int) tabM D cA ad y) (hK202 : ∀ (σ : zSt), K202  σ → zG p l e (zrm 45) s m args below meth c 10 tabM D cA ad (MQ below (va_Qi Q (fun σ' t => va_P D vwCl (zws tabM cA ad σ') t.heap) (zIn tabM ad)) args s 0 0 (zIn tabM ad)) 202 [(2, .int x2)] [] σ) : ∀ (n : Nat) (x3 : Int32) (x4 : Int32) (x5 : Int32) (σ : zSt), wX8_leastRow_L72 Q K202 x1 x2 n x3 x4 x5 σ → zG p l e (zrm 45) s m args below meth c 10 tabM D cA ad (MQ below (va_Qi Q (fun σ' t => va_P D vwCl (zws tabM cA ad σ') t.heap) (zIn tabM ad)) args s 0 0 (zIn tabM ad)) 72 [(0, .ref (ad 0)), (1, .int x1), (2, .int x2), (3, .int x3), (4, .int x4), (5, .int x5)] [] σ := by
  intro n
  induction n with
  | zero => intro x3 x4 x5 σ h; exact absurd h (by simp [wX8_leastRow_L72])
  | succ n ih =>
    intro x3 x4 x5 σ h
    unfold wX8_leastRow_L72 at h
    refine zz_iload M 5 dX8_leastRow_72 rfl ?_
    refine zz_bipush (v := 24) M dX8_leastRow_74 (by decide) ?_
    refine zz_icmp_ge M 202 dX8_leastRow_76 (by decide) (fun c => ?_) (fun c => ?_)
    · have h := zif (c := 24 ≤ x5) h c
      refine zz_sub [(2, .int x2)] [2] rfl ?_
      exact hK202  _ h
    · have h := zifn (c := 24 ≤ x5) h c
      refine zz_aload_n M 0 dX8_leastRow_79 rfl rfl ?_
      refine zz_getR M f_X8_47 tM_0 rfl dX8_leastRow_80 ?_
      refine zz_iload M 5 dX8_leastRow_83 rfl ?_
      refine zz_iconst (v := 1) M dX8_leastRow_85 (by decide) ?_
      refine zz_isub M dX8_leastRow_86 ?_
      refine zz_iald M tM_10 h.1 dX8_leastRow_87 ?_
      have h := h.2
      refine zz_topi (fun x110 ex110 => ?_)
      have h := h x110 ex110
      refine zz_istore M [(6, .int x110), (0, .ref (ad 0)), (1, .int x1), (2, .int x2), (3, .int x3), (4, .int x4), (5, .int x5)] dX8_leastRow_88 (by decide) rfl ?_
      refine zz_aload_n M 1 dX8_leastRow_90 rfl rfl ?_
      refine zz_iload M 6 dX8_leastRow_91 rfl ?_
      refine zz_iconst (v := 1) M dX8_leastRow_93 (by decide) ?_
      refine zz_isub M dX8_leastRow_94 ?_
      refine zz_iload M 0 dX8_leastRow_95 rfl ?_
      refine zz_iload_n M 4 dX8_leastRow_97 rfl rfl ?_
      obtain ⟨a111, ea111⟩ : ∃ z : Int32, z = (x5 - 1) := ⟨_, rfl⟩
      have h := h a111 ea111
      refine zz_st [.int x3, .int x110, .int a111, .ref (ad 0)] (by rw [ea111]) ?_
      refine zz_callVI (d' := 2) (As := [.int a111, .int x110, .int x3]) (rest := []) M l_X8_371 tM_0 rfl rfl dX8_leastRow_98 rfl rfl (by decide) (Nat.le_of_ble_eq_true rfl) (by have hI := M.2.2.2.2.2.2.2.2; exact kX8_goesBy hI _ _ _  _ _ h) (fun r112 σ113 h => ?_)
      refine zz_istore_n M [(3, .int r112), (6, .int x110), (0, .ref (ad 0)), (1, .int x1), (2, .int x2), (4, .int x4), (5, .int x5)] dX8_leastRow_101 rfl (by decide) rfl ?_
      refine zz_ldcw (v := 99999999) M k_X8_377 dX8_leastRow_102 ?_
      refine zz_istore M [(7, .int 99999999), (3, .int r112), (6, .int x110), (0, .ref (ad 0)), (1, .int x1), (2, .int x2), (4, .int x4), (5, .int x5)] dX8_leastRow_105 (by decide) rfl ?_
      refine zz_iconst (v := 0) M dX8_leastRow_107 (by decide) ?_
      refine zz_istore M [(8, .int 0), (7, .int 99999999), (3, .int r112), (6, .int x110), (0, .ref (ad 0)), (1, .int x1), (2, .int x2), (4, .int x4), (5, .int x5)] dX8_leastRow_108 (by decide) rfl ?_
      refine zz_sub [(0, .ref (ad 0)), (1, .int x1), (2, .int x2), (3, .int r112), (4, .int x4), (5, .int x5), (6, .int x110), (7, .int 99999999), (8, .int 0)] [4, 5, 6, 2, 7, 8, 3, 1, 0] rfl ?_
      refine sX8_leastRow_L110 x1 x2 r112 x4 x5 x110  M (fun  σ119 h => ?_) 300 _ _ _ h
      refine zz_aload_n M 0 dX8_leastRow_158 rfl rfl ?_
      refine zz_getR M f_X8_47 tM_0 rfl dX8_leastRow_159 ?_
      refine zz_iload M 5 dX8_leastRow_162 rfl ?_
      refine zz_iald M tM_10 h.1 dX8_leastRow_164 ?_
      have h := h.2
      refine zz_iload M 6 dX8_leastRow_165 rfl ?_
      refine zz_icmp_eq M 174 dX8_leastRow_167 (by decide) (fun c => ?_) (fun c => ?_)
      · have h := zif (c := (σ119.1 10 x5.toNatClampNeg) = x110) h c
        refine zz_iload M 4 dX8_leastRow_174 rfl ?_
        refine zz_aload_n M 0 dX8_leastRow_176 rfl rfl ?_
        refine zz_getI M f_X8_32 tM_0 rfl dX8_leastRow_177 ?_
        refine zz_icmp_ge M 190 dX8_leastRow_180 (by decide) (fun c => ?_) (fun c => ?_)
        · have h := zif (c := (σ119.1 0 12) ≤ x4) h c
          refine zz_aload_n M 0 dX8_leastRow_190 rfl rfl ?_
          refine zz_getI M f_X8_32 tM_0 rfl dX8_leastRow_191 ?_
          refine zz_topi (fun x120 ex120 => ?_)
          have h := h x120 ex120
          refine zz_istore M [(4, .int x120), (0, .ref (ad 0)), (1, .int x1), (2, .int x2), (3, .int r112), (5, .int x5), (6, .int x110)] dX8_leastRow_194 (by decide) rfl ?_
          obtain ⟨x121, ex121⟩ : ∃ z : Int32, z = x5 + 1 := ⟨_, rfl⟩
          have h := h x121 ex121
          refine zz_iinc M [(5, .int x121), (4, .int x120), (0, .ref (ad 0)), (1, .int x1), (2, .int x2), (3, .int r112), (6, .int x110)] 5 dX8_leastRow_196 rfl (n32 := 1) (by decide) ex121 (by decide) rfl ?_
          refine zz_goto M 72 dX8_leastRow_199 (by decide) ?_
          refine zz_sub [(0, .ref (ad 0)), (1, .int x1), (2, .int x2), (3, .int r112), (4, .int x120), (5, .int x121)] [2, 3, 4, 5, 1, 0] rfl ?_
          exact ih _ _ _ _ h
        · have h := zifn (c := (σ119.1 0 12) ≤ x4) h c
          refine zz_iload M 4 dX8_leastRow_183 rfl ?_
          refine zz_iconst (v := 1) M dX8_leastRow_185 (by decide) ?_
          refine zz_iadd M dX8_leastRow_186 ?_
          refine zz_goto M 194 dX8_leastRow_187 (by decide) ?_
          refine zz_topi (fun x122 ex122 => ?_)
          have h := h x122 ex122
          refine zz_istore M [(4, .int x122), (0, .ref (ad 0)), (1, .int x1), (2, .int x2), (3, .int r112), (5, .int x5), (6, .int x110)] dX8_leastRow_194 (by decide) rfl ?_
          obtain ⟨x123, ex123⟩ : ∃ z : Int32, z = x5 + 1 := ⟨_, rfl⟩
          have h := h x123 ex123
          refine zz_iinc M [(5, .int x123), (4, .int x122), (0, .ref (ad 0)), (1, .int x1), (2, .int x2), (3, .int r112), (6, .int x110)] 5 dX8_leastRow_196 rfl (n32 := 1) (by decide) ex123 (by decide) rfl ?_
          refine zz_goto M 72 dX8_leastRow_199 (by decide) ?_
          refine zz_sub [(0, .ref (ad 0)), (1, .int x1), (2, .int x2), (3, .int r112), (4, .int x122), (5, .int x123)] [2, 3, 4, 5, 1, 0] rfl ?_
          exact ih _ _ _ _ h
      · have h := zifn (c := (σ119.1 10 x5.toNatClampNeg) = x110) h c
        refine zz_iconst (v := 1) M dX8_leastRow_170 (by decide) ?_
        refine zz_goto M 194 dX8_leastRow_171 (by decide) ?_
        refine zz_istore M [(4, .int 1), (0, .ref (ad 0)), (1, .int x1), (2, .int x2), (3, .int r112), (5, .int x5), (6, .int x110)] dX8_leastRow_194 (by decide) rfl ?_
        obtain ⟨x124, ex124⟩ : ∃ z : Int32, z = x5 + 1 := ⟨_, rfl⟩
        have h := h x124 ex124
        refine zz_iinc M [(5, .int x124), (4, .int 1), (0, .ref (ad 0)), (1, .int x1), (2, .int x2), (3, .int r112), (6, .int x110)] 5 dX8_leastRow_196 rfl (n32 := 1) (by decide) ex124 (by decide) rfl ?_
        refine zz_goto M 72 dX8_leastRow_199 (by decide) ?_
        refine zz_sub [(0, .ref (ad 0)), (1, .int x1), (2, .int x2), (3, .int r112), (4, .int 1), (5, .int x124)] [2, 3, 4, 5, 1, 0] rfl ?_
        exact ih _ _ _ _ h
def wX8_leastRow (x1 : Int32) (σ : zSt) (Q : Int32 → zSt → Prop) : Prop := wX8_fills x1 σ (fun σ102 => wX8_leastRow_L17 Q (fun v108 σ109 => if v108 < 99999999 then (wX8_leastRow_L72 Q (fun  σ125 => Q v108 σ125) x1 v108 300 0 1 1 σ109) else (Q 99999999 σ109)) x1 0 1 300 99999999 0 σ102)
set_option maxRecDepth 20000 in
set_option maxHeartbeats 4000000 in
theorem kX8_leastRow (hI : zInj tabM ad) (x1 : Int32)  (σ : zSt) (Q : Int32 → zSt → Prop) (h : wX8_leastRow x1 σ Q) : zOkI l tabM D cA ad y 45 yX8_leastRow cX8_leastRow 10 (some .int) [.ref (ad 0), .int x1] σ Q := by
  refine zz_enter hI (by decide) (Nat.le_of_ble_eq_true rfl) (fun p e s m below meth c M => ?_)
  have M : zM p s m _ meth c cX8_leastRow 10 RX8 (some .int) tabM D cA ad y := M
  refine zz_ls [(0, .ref (ad 0)), (1, .int x1)] rfl ?_
  unfold wX8_leastRow at h
  refine zz_aload_n M 0 dX8_leastRow_0 rfl rfl ?_
  refine zz_iload_n M 1 dX8_leastRow_1 rfl rfl ?_
  refine zz_callVV (d' := 44) (As := [.int x1]) (rest := []) M l_X8_393 tM_0 rfl rfl dX8_leastRow_2 rfl rfl (by decide) (Nat.le_of_ble_eq_true rfl) (by have hI := M.2.2.2.2.2.2.2.2; exact kX8_fills hI _  _ _ h) (fun σ102 h => ?_)
  refine zz_ldcw (v := 99999999) M k_X8_377 dX8_leastRow_5 ?_
  refine zz_istore_n M [(2, .int 99999999), (0, .ref (ad 0)), (1, .int x1)] dX8_leastRow_8 rfl (by decide) rfl ?_
  refine zz_iconst (v := 0) M dX8_leastRow_9 (by decide) ?_
  refine zz_istore_n M [(3, .int 0), (2, .int 99999999), (0, .ref (ad 0)), (1, .int x1)] dX8_leastRow_10 rfl (by decide) rfl ?_
  refine zz_iconst (v := 1) M dX8_leastRow_11 (by decide) ?_
  refine zz_istore M [(4, .int 1), (3, .int 0), (2, .int 99999999), (0, .ref (ad 0)), (1, .int x1)] dX8_leastRow_12 (by decide) rfl ?_
  refine zz_iconst (v := 0) M dX8_leastRow_14 (by decide) ?_
  refine zz_istore M [(5, .int 0), (4, .int 1), (3, .int 0), (2, .int 99999999), (0, .ref (ad 0)), (1, .int x1)] dX8_leastRow_15 (by decide) rfl ?_
  refine zz_sub [(0, .ref (ad 0)), (1, .int x1), (2, .int 99999999), (3, .int 0), (4, .int 1), (5, .int 0)] [4, 5, 3, 2, 1, 0] rfl ?_
  refine sX8_leastRow_L17 x1 0 1  M (fun v108 σ109 h => ?_) 300 _ _ _ h
  refine zz_iload_n M 2 dX8_leastRow_58 rfl rfl ?_
  refine zz_ldcw (v := 99999999) M k_X8_377 dX8_leastRow_59 ?_
  refine zz_icmp_lt M 69 dX8_leastRow_62 (by decide) (fun c => ?_) (fun c => ?_)
  · have h := zif (c := v108 < 99999999) h c
    refine zz_iconst (v := 1) M dX8_leastRow_69 (by decide) ?_
    refine zz_istore M [(5, .int 1), (0, .ref (ad 0)), (1, .int x1), (2, .int v108), (3, .int 0), (4, .int 1)] dX8_leastRow_70 (by decide) rfl ?_
    refine zz_sub [(0, .ref (ad 0)), (1, .int x1), (2, .int v108), (3, .int 0), (4, .int 1), (5, .int 1)] [1, 2, 3, 4, 5, 0] rfl ?_
    refine sX8_leastRow_L72 x1 v108  M (fun  σ125 h => ?_) 300 _ _ _ _ h
    refine zz_iload_n M 0 dX8_leastRow_202 rfl rfl ?_
    exact zz_iret M dX8_leastRow_203 h
  · have h := zifn (c := v108 < 99999999) h c
    refine zz_ldcw (v := 99999999) M k_X8_377 dX8_leastRow_65 ?_
    exact zz_iret M dX8_leastRow_68 h
def wX8_least (x1 : Int32) (σ : zSt) (Q : Int32 → zSt → Prop) : Prop := ∀ a101 : Int64, a101 = ((x1 : Int32).toInt64) → (wX8_in a101 0 25 σ (fun r102 σ103 => if r102 = 0 then (Q (-2) σ103) else (wX8_leastRow 1 σ103 (fun r104 σ105 => if x1 = 0 then (Q r104 σ105) else (if x1 = 1 then (wX8_rowChanges  σ105 (fun r106 σ107 => Q r106 σ107)) else (vp_in (x1 - 2) 24 ∧ (Q (σ105.1 10 (x1 - 2 : Int32).toNatClampNeg) σ105)))))))
set_option maxRecDepth 20000 in
set_option maxHeartbeats 4000000 in
theorem kX8_least (hI : zInj tabM ad) (x1 : Int32)  (σ : zSt) (Q : Int32 → zSt → Prop) (h : wX8_least x1 σ Q) : zOkI l tabM D cA ad y 46 yX8_least cX8_least 3 (some .int) [.ref (ad 0), .int x1] σ Q := by
  refine zz_enter hI (by decide) (Nat.le_of_ble_eq_true rfl) (fun p e s m below meth c M => ?_)
  have M : zM p s m _ meth c cX8_least 3 RX8 (some .int) tabM D cA ad y := M
  refine zz_ls [(0, .ref (ad 0)), (1, .int x1)] rfl ?_
  unfold wX8_least at h
  refine zz_iload_n M 1 dX8_least_0 rfl rfl ?_
  refine zz_i2l M dX8_least_1 ?_
  refine zz_lconst (v := 0) M dX8_least_2 (by decide) ?_
  refine zz_ldc2 (v := 25) M k_X8_397 dX8_least_3 ?_
  obtain ⟨a101, ea101⟩ : ∃ z : Int64, z = ((x1 : Int32).toInt64) := ⟨_, rfl⟩
  have h := h a101 ea101
  refine zz_st [.long 25, .long 0, .long a101] (by rw [ea101]) ?_
  refine zz_callSI (d' := 1) (As := [.long a101, .long 0, .long 25]) (rest := []) M l_X8_92 dX8_least_6 rfl rfl (by decide) (Nat.le_of_ble_eq_true rfl) (by have hI := M.2.2.2.2.2.2.2.2; exact kX8_in hI _ _ _  _ _ h) (fun r102 σ103 h => ?_)
  refine zz_if_ne (y0 := 0) M 15 dX8_least_9 (by decide) (fun c => ?_) (fun c => ?_)
  · have h := zifn (c := r102 = 0) h c
    refine zz_aload_n M 0 dX8_least_15 rfl rfl ?_
    refine zz_iconst (v := 1) M dX8_least_16 (by decide) ?_
    refine zz_callVI (d' := 45) (As := [.int 1]) (rest := []) M l_X8_399 tM_0 rfl rfl dX8_least_17 rfl rfl (by decide) (Nat.le_of_ble_eq_true rfl) (by have hI := M.2.2.2.2.2.2.2.2; exact kX8_leastRow hI _  _ _ h) (fun r104 σ105 h => ?_)
    refine zz_istore_n M [(2, .int r104), (0, .ref (ad 0)), (1, .int x1)] dX8_least_20 rfl (by decide) rfl ?_
    refine zz_iload_n M 2 dX8_least_21 rfl rfl ?_
    refine zz_if_ne (y0 := 0) M 29 dX8_least_22 (by decide) (fun c => ?_) (fun c => ?_)
    · have h := zifn (c := x1 = 0) h c
      refine zz_iload_n M 2 dX8_least_29 rfl rfl ?_
      refine zz_iconst (v := 1) M dX8_least_30 (by decide) ?_
      refine zz_icmp_ne M 41 dX8_least_31 (by decide) (fun c => ?_) (fun c => ?_)
      · have h := zifn (c := x1 = 1) h c
        refine zz_aload_n M 1 dX8_least_41 rfl rfl ?_
        refine zz_getR M f_X8_47 tM_0 rfl dX8_least_42 ?_
        refine zz_iload_n M 2 dX8_least_45 rfl rfl ?_
        refine zz_iconst (v := 2) M dX8_least_46 (by decide) ?_
        refine zz_isub M dX8_least_47 ?_
        refine zz_iald M tM_10 h.1 dX8_least_48 ?_
        have h := h.2
        exact zz_iret M dX8_least_49 h
      · have h := zif (c := x1 = 1) h c
        refine zz_aload_n M 1 dX8_least_34 rfl rfl ?_
        refine zz_callVI (d' := 1) (As := []) (rest := []) M l_X8_362 tM_0 rfl rfl dX8_least_35 rfl rfl (by decide) (Nat.le_of_ble_eq_true rfl) (by have hI := M.2.2.2.2.2.2.2.2; exact kX8_rowChanges hI   _ _ h) (fun r106 σ107 h => ?_)
        refine zz_goto M 49 dX8_least_38 (by decide) ?_
        exact zz_iret M dX8_least_49 h
    · have h := zif (c := x1 = 0) h c
      refine zz_iload_n M 0 dX8_least_25 rfl rfl ?_
      refine zz_goto M 49 dX8_least_26 (by decide) ?_
      exact zz_iret M dX8_least_49 h
  · have h := zif (c := r102 = 0) h c
    refine zz_bipush (v := (-2)) M dX8_least_12 (by decide) ?_
    exact zz_iret M dX8_least_14 h
def wX8_lay_L8 (Q : Int32 → zSt → Prop) (K32 : zSt → Prop) (x1 : Int32) : Nat → Int32 → zSt → Prop
  | 0, _, _ => False
  | n + 1, x2, σ => if 24 ≤ x2 then (K32  σ) else (vp_in x2 24 ∧ (vp_in x2 24 ∧ (∀ σ103 : zSt, σ103 = zput σ 9 x2.toNatClampNeg (σ.1 10 x2.toNatClampNeg) → (∀ x104 : Int32, x104 = x2 + 1 → (wX8_lay_L8 Q K32 x1 n x104 σ103)))))
set_option maxRecDepth 20000 in
set_option maxHeartbeats 4000000 in
theorem sX8_lay_L8 {Q : Int32 → zSt → Prop} {K32 : zSt → Prop} (x1 : Int32)  (M : zM p s m args meth c cX8_lay 3 RX8 (some .int) tabM D cA ad y) (hK32 : ∀ (σ : zSt), K32  σ → zG p l e (zrm 46) s m args below meth c 3 tabM D cA ad (MQ below (va_Qi Q (fun σ' t => va_P D vwCl (zws tabM cA ad σ') t.heap) (zIn tabM ad)) args s 0 0 (zIn tabM ad)) 32 [(1, .int x1)] [] σ) : ∀ (n : Nat) (x2 : Int32) (σ : zSt), wX8_lay_L8 Q K32 x1 n x2 σ → zG p l e (zrm 46) s m args below meth c 3 tabM D cA ad (MQ below (va_Qi Q (fun σ' t => va_P D vwCl (zws tabM cA ad σ') t.heap) (zIn tabM ad)) args s 0 0 (zIn tabM ad)) 8 [(0, .ref (ad 0)), (1, .int x1), (2, .int x2)] [] σ := by
  intro n
  induction n with
  | zero => intro x2 σ h; exact absurd h (by simp [wX8_lay_L8])
  | succ n ih =>
    intro x2 σ h
    unfold wX8_lay_L8 at h
    refine zz_iload_n M 2 dX8_lay_8 rfl rfl ?_
    refine zz_bipush (v := 24) M dX8_lay_9 (by decide) ?_
    refine zz_icmp_ge M 32 dX8_lay_11 (by decide) (fun c => ?_) (fun c => ?_)
    · have h := zif (c := 24 ≤ x2) h c
      refine zz_sub [(1, .int x1)] [1] rfl ?_
      exact hK32  _ h
    · have h := zifn (c := 24 ≤ x2) h c
      refine zz_aload_n M 0 dX8_lay_14 rfl rfl ?_
      refine zz_getR M f_X8_44 tM_0 rfl dX8_lay_15 ?_
      refine zz_iload_n M 2 dX8_lay_18 rfl rfl ?_
      refine zz_aload_n M 0 dX8_lay_19 rfl rfl ?_
      refine zz_getR M f_X8_47 tM_0 rfl dX8_lay_20 ?_
      refine zz_iload_n M 2 dX8_lay_23 rfl rfl ?_
      refine zz_iald M tM_10 h.1 dX8_lay_24 ?_
      have h := h.2
      refine zz_iast M tM_9 h.1 dX8_lay_25 ?_
      have h := h.2
      refine zz_sg (fun σ103 eσ103 => ?_)
      have h := h σ103 eσ103
      obtain ⟨x104, ex104⟩ : ∃ z : Int32, z = x2 + 1 := ⟨_, rfl⟩
      have h := h x104 ex104
      refine zz_iinc M [(2, .int x104), (0, .ref (ad 0)), (1, .int x1)] 2 dX8_lay_26 rfl (n32 := 1) (by decide) ex104 (by decide) rfl ?_
      refine zz_goto M 8 dX8_lay_29 (by decide) ?_
      refine zz_sub [(0, .ref (ad 0)), (1, .int x1), (2, .int x104)] [1, 2, 0] rfl ?_
      exact ih _ _ h
def wX8_lay  (σ : zSt) (Q : Int32 → zSt → Prop) : Prop := wX8_leastRow 1 σ (fun r101 σ102 => wX8_lay_L8 Q (fun  σ105 => Q r101 σ105) r101 300 0 σ102)
set_option maxRecDepth 20000 in
set_option maxHeartbeats 4000000 in
theorem kX8_lay (hI : zInj tabM ad)   (σ : zSt) (Q : Int32 → zSt → Prop) (h : wX8_lay  σ Q) : zOkI l tabM D cA ad y 46 yX8_lay cX8_lay 3 (some .int) [.ref (ad 0)] σ Q := by
  refine zz_enter hI (by decide) (Nat.le_of_ble_eq_true rfl) (fun p e s m below meth c M => ?_)
  have M : zM p s m _ meth c cX8_lay 3 RX8 (some .int) tabM D cA ad y := M
  refine zz_ls [(0, .ref (ad 0))] rfl ?_
  unfold wX8_lay at h
  refine zz_aload_n M 0 dX8_lay_0 rfl rfl ?_
  refine zz_iconst (v := 1) M dX8_lay_1 (by decide) ?_
  refine zz_callVI (d' := 45) (As := [.int 1]) (rest := []) M l_X8_399 tM_0 rfl rfl dX8_lay_2 rfl rfl (by decide) (Nat.le_of_ble_eq_true rfl) (by have hI := M.2.2.2.2.2.2.2.2; exact kX8_leastRow hI _  _ _ h) (fun r101 σ102 h => ?_)
  refine zz_istore_n M [(1, .int r101), (0, .ref (ad 0))] dX8_lay_5 rfl (by decide) rfl ?_
  refine zz_iconst (v := 0) M dX8_lay_6 (by decide) ?_
  refine zz_istore_n M [(2, .int 0), (1, .int r101), (0, .ref (ad 0))] dX8_lay_7 rfl (by decide) rfl ?_
  refine zz_sub [(0, .ref (ad 0)), (1, .int r101), (2, .int 0)] [2, 1, 0] rfl ?_
  refine sX8_lay_L8 r101  M (fun  σ105 h => ?_) 300 _ _ h
  refine zz_iload_n M 0 dX8_lay_32 rfl rfl ?_
  exact zz_iret M dX8_lay_33 h
def wX8_fewest  (σ : zSt) (Q : Int32 → zSt → Prop) : Prop := wX8_leastRow 0 σ (fun r101 σ102 => if r101 < 99999999 then (Q r101 σ102) else (Q (-1) σ102))
set_option maxRecDepth 20000 in
set_option maxHeartbeats 4000000 in
theorem kX8_fewest (hI : zInj tabM ad)   (σ : zSt) (Q : Int32 → zSt → Prop) (h : wX8_fewest  σ Q) : zOkI l tabM D cA ad y 46 yX8_fewest cX8_fewest 2 (some .int) [.ref (ad 0)] σ Q := by
  refine zz_enter hI (by decide) (Nat.le_of_ble_eq_true rfl) (fun p e s m below meth c M => ?_)
  have M : zM p s m _ meth c cX8_fewest 2 RX8 (some .int) tabM D cA ad y := M
  refine zz_ls [(0, .ref (ad 0))] rfl ?_
  unfold wX8_fewest at h
  refine zz_aload_n M 0 dX8_fewest_0 rfl rfl ?_
  refine zz_iconst (v := 0) M dX8_fewest_1 (by decide) ?_
  refine zz_callVI (d' := 45) (As := [.int 0]) (rest := []) M l_X8_399 tM_0 rfl rfl dX8_fewest_2 rfl rfl (by decide) (Nat.le_of_ble_eq_true rfl) (by have hI := M.2.2.2.2.2.2.2.2; exact kX8_leastRow hI _  _ _ h) (fun r101 σ102 h => ?_)
  refine zz_istore_n M [(1, .int r101), (0, .ref (ad 0))] dX8_fewest_5 rfl (by decide) rfl ?_
  refine zz_iload_n M 0 dX8_fewest_6 rfl rfl ?_
  refine zz_ldcw (v := 99999999) M k_X8_377 dX8_fewest_7 ?_
  refine zz_icmp_lt M 17 dX8_fewest_10 (by decide) (fun c => ?_) (fun c => ?_)
  · have h := zif (c := r101 < 99999999) h c
    refine zz_iload_n M 0 dX8_fewest_17 rfl rfl ?_
    exact zz_iret M dX8_fewest_18 h
  · have h := zifn (c := r101 < 99999999) h c
    refine zz_iconst (v := (-1)) M dX8_fewest_13 (by decide) ?_
    refine zz_goto M 18 dX8_fewest_14 (by decide) ?_
    exact zz_iret M dX8_fewest_18 h
def wX8_waits_L61 (Q : Int32 → zSt → Prop) (K101 : Int32 → zSt → Prop) (x1 : Int32) (x2 : Int32) (x3 : Int32) (x4 : Int32) (x5 : Int32) : Nat → Int32 → Int32 → zSt → Prop
  | 0, _, _, _ => False
  | n + 1, x6, x7, σ => if x3 ≤ x7 then (K101 x6 σ) else (if x6 = 0 then (∀ x108 : Int32, x108 = x7 + 1 → (wX8_waits_L61 Q K101 x1 x2 x3 x4 x5 n 0 x108 σ)) else (vp_in x7 24 ∧ (∀ a109 : Int32, a109 = (σ.1 10 x7.toNatClampNeg) → (wX8_goes x5 a109 σ (fun r110 σ111 => if r110 = 0 then (∀ x113 : Int32, x113 = x7 + 1 → (wX8_waits_L61 Q K101 x1 x2 x3 x4 x5 n 1 x113 σ111)) else (∀ x112 : Int32, x112 = x7 + 1 → (wX8_waits_L61 Q K101 x1 x2 x3 x4 x5 n 0 x112 σ111)))))))
set_option maxRecDepth 20000 in
set_option maxHeartbeats 4000000 in
theorem sX8_waits_L61 {Q : Int32 → zSt → Prop} {K101 : Int32 → zSt → Prop} (x1 : Int32) (x2 : Int32) (x3 : Int32) (x4 : Int32) (x5 : Int32)  (M : zM p s m args meth c cX8_waits 8 RX8 (some .int) tabM D cA ad y) (hK101 : ∀ (v6 : Int32) (σ : zSt), K101 v6 σ → zG p l e (zrm 2) s m args below meth c 8 tabM D cA ad (MQ below (va_Qi Q (fun σ' t => va_P D vwCl (zws tabM cA ad σ') t.heap) (zIn tabM ad)) args s 0 0 (zIn tabM ad)) 101 [(0, .ref (ad 0)), (1, .int x1), (2, .int x2), (3, .int x3), (4, .int x4), (5, .int x5), (6, .int v6)] [] σ) : ∀ (n : Nat) (x6 : Int32) (x7 : Int32) (σ : zSt), wX8_waits_L61 Q K101 x1 x2 x3 x4 x5 n x6 x7 σ → zG p l e (zrm 2) s m args below meth c 8 tabM D cA ad (MQ below (va_Qi Q (fun σ' t => va_P D vwCl (zws tabM cA ad σ') t.heap) (zIn tabM ad)) args s 0 0 (zIn tabM ad)) 61 [(0, .ref (ad 0)), (1, .int x1), (2, .int x2), (3, .int x3), (4, .int x4), (5, .int x5), (6, .int x6), (7, .int x7)] [] σ := by
  intro n
  induction n with
  | zero => intro x6 x7 σ h; exact absurd h (by simp [wX8_waits_L61])
  | succ n ih =>
    intro x6 x7 σ h
    unfold wX8_waits_L61 at h
    refine zz_iload M 7 dX8_waits_61 rfl ?_
    refine zz_iload_n M 3 dX8_waits_63 rfl rfl ?_
    refine zz_icmp_ge M 101 dX8_waits_64 (by decide) (fun c => ?_) (fun c => ?_)
    · have h := zif (c := x3 ≤ x7) h c
      refine zz_sub [(0, .ref (ad 0)), (1, .int x1), (2, .int x2), (3, .int x3), (4, .int x4), (5, .int x5), (6, .int x6)] [0, 1, 2, 3, 4, 5, 6] rfl ?_
      exact hK101 _ _ h
    · have h := zifn (c := x3 ≤ x7) h c
      refine zz_iload M 6 dX8_waits_67 rfl ?_
      refine zz_if_eq (y0 := 0) M 92 dX8_waits_69 (by decide) (fun c => ?_) (fun c => ?_)
      · have h := zif (c := x6 = 0) h c
        refine zz_iconst (v := 0) M dX8_waits_92 (by decide) ?_
        refine zz_istore M [(6, .int 0), (0, .ref (ad 0)), (1, .int x1), (2, .int x2), (3, .int x3), (4, .int x4), (5, .int x5), (7, .int x7)] dX8_waits_93 (by decide) rfl ?_
        obtain ⟨x108, ex108⟩ : ∃ z : Int32, z = x7 + 1 := ⟨_, rfl⟩
        have h := h x108 ex108
        refine zz_iinc M [(7, .int x108), (6, .int 0), (0, .ref (ad 0)), (1, .int x1), (2, .int x2), (3, .int x3), (4, .int x4), (5, .int x5)] 7 dX8_waits_95 rfl (n32 := 1) (by decide) ex108 (by decide) rfl ?_
        refine zz_goto M 61 dX8_waits_98 (by decide) ?_
        refine zz_sub [(0, .ref (ad 0)), (1, .int x1), (2, .int x2), (3, .int x3), (4, .int x4), (5, .int x5), (6, .int 0), (7, .int x108)] [2, 3, 4, 5, 6, 7, 1, 0] rfl ?_
        exact ih _ _ _ h
      · have h := zifn (c := x6 = 0) h c
        refine zz_aload_n M 0 dX8_waits_72 rfl rfl ?_
        refine zz_iload M 5 dX8_waits_73 rfl ?_
        refine zz_aload_n M 0 dX8_waits_75 rfl rfl ?_
        refine zz_getR M f_X8_47 tM_0 rfl dX8_waits_76 ?_
        refine zz_iload M 7 dX8_waits_79 rfl ?_
        refine zz_iald M tM_10 h.1 dX8_waits_81 ?_
        have h := h.2
        obtain ⟨a109, ea109⟩ : ∃ z : Int32, z = (σ.1 10 x7.toNatClampNeg) := ⟨_, rfl⟩
        have h := h a109 ea109
        refine zz_st [.int a109, .int x5, .ref (ad 0)] (by rw [ea109]) ?_
        refine zz_callVI (d' := 1) (As := [.int x5, .int a109]) (rest := []) M l_X8_339 tM_0 rfl rfl dX8_waits_82 rfl rfl (by decide) (Nat.le_of_ble_eq_true rfl) (by have hI := M.2.2.2.2.2.2.2.2; exact kX8_goes hI _ _  _ _ h) (fun r110 σ111 h => ?_)
        refine zz_if_ne (y0 := 0) M 92 dX8_waits_85 (by decide) (fun c => ?_) (fun c => ?_)
        · have h := zifn (c := r110 = 0) h c
          refine zz_iconst (v := 0) M dX8_waits_92 (by decide) ?_
          refine zz_istore M [(6, .int 0), (0, .ref (ad 0)), (1, .int x1), (2, .int x2), (3, .int x3), (4, .int x4), (5, .int x5), (7, .int x7)] dX8_waits_93 (by decide) rfl ?_
          obtain ⟨x112, ex112⟩ : ∃ z : Int32, z = x7 + 1 := ⟨_, rfl⟩
          have h := h x112 ex112
          refine zz_iinc M [(7, .int x112), (6, .int 0), (0, .ref (ad 0)), (1, .int x1), (2, .int x2), (3, .int x3), (4, .int x4), (5, .int x5)] 7 dX8_waits_95 rfl (n32 := 1) (by decide) ex112 (by decide) rfl ?_
          refine zz_goto M 61 dX8_waits_98 (by decide) ?_
          refine zz_sub [(0, .ref (ad 0)), (1, .int x1), (2, .int x2), (3, .int x3), (4, .int x4), (5, .int x5), (6, .int 0), (7, .int x112)] [2, 3, 4, 5, 6, 7, 1, 0] rfl ?_
          exact ih _ _ _ h
        · have h := zif (c := r110 = 0) h c
          refine zz_iconst (v := 1) M dX8_waits_88 (by decide) ?_
          refine zz_goto M 93 dX8_waits_89 (by decide) ?_
          refine zz_istore M [(6, .int 1), (0, .ref (ad 0)), (1, .int x1), (2, .int x2), (3, .int x3), (4, .int x4), (5, .int x5), (7, .int x7)] dX8_waits_93 (by decide) rfl ?_
          obtain ⟨x113, ex113⟩ : ∃ z : Int32, z = x7 + 1 := ⟨_, rfl⟩
          have h := h x113 ex113
          refine zz_iinc M [(7, .int x113), (6, .int 1), (0, .ref (ad 0)), (1, .int x1), (2, .int x2), (3, .int x3), (4, .int x4), (5, .int x5)] 7 dX8_waits_95 rfl (n32 := 1) (by decide) ex113 (by decide) rfl ?_
          refine zz_goto M 61 dX8_waits_98 (by decide) ?_
          refine zz_sub [(0, .ref (ad 0)), (1, .int x1), (2, .int x2), (3, .int x3), (4, .int x4), (5, .int x5), (6, .int 1), (7, .int x113)] [2, 3, 4, 5, 6, 7, 1, 0] rfl ?_
          exact ih _ _ _ h
def wX8_waits_L8 (Q : Int32 → zSt → Prop) (K128 : Int32 → zSt → Prop) (x1 : Int32) (x2 : Int32) (x3 : Int32) : Nat → Int32 → Int32 → zSt → Prop
  | 0, _, _, _ => False
  | n + 1, x4, x5, σ => if ((4 * x1) + 4) ≤ x5 then (K128 x4 σ) else (wX8_isOne x5 σ (fun r102 σ103 => if r102 = 0 then (∀ x104 : Int32, x104 = x5 + 1 → (wX8_waits_L8 Q K128 x1 x2 x3 n x4 x104 σ103)) else (vp_in x5 8 ∧ (if (σ103.1 4 x5.toNatClampNeg) = x2 then (vp_in x5 8 ∧ (if x3 < (σ103.1 5 x5.toNatClampNeg) then (∀ x106 : Int32, x106 = x5 + 1 → (wX8_waits_L8 Q K128 x1 x2 x3 n x4 x106 σ103)) else (vp_in x5 8 ∧ (∀ x107 : Int32, x107 = (σ103.1 5 x5.toNatClampNeg) → (wX8_waits_L61 Q (fun v114 σ115 => if v114 = 0 then (∀ x116 : Int32, x116 = (x4 + 0) → (∀ x117 : Int32, x117 = x5 + 1 → (wX8_waits_L8 Q K128 x1 x2 x3 n x116 x117 σ115))) else (vp_in x5 8 ∧ (∀ x118 : Int32, x118 = (x4 + (σ115.1 6 x5.toNatClampNeg)) → (∀ x119 : Int32, x119 = x5 + 1 → (wX8_waits_L8 Q K128 x1 x2 x3 n x118 x119 σ115))))) x1 x2 x3 x4 x5 300 1 x107 σ103))))) else (∀ x105 : Int32, x105 = x5 + 1 → (wX8_waits_L8 Q K128 x1 x2 x3 n x4 x105 σ103))))))
set_option maxRecDepth 20000 in
set_option maxHeartbeats 4000000 in
theorem sX8_waits_L8 {Q : Int32 → zSt → Prop} {K128 : Int32 → zSt → Prop} (x1 : Int32) (x2 : Int32) (x3 : Int32)  (M : zM p s m args meth c cX8_waits 8 RX8 (some .int) tabM D cA ad y) (hK128 : ∀ (v4 : Int32) (σ : zSt), K128 v4 σ → zG p l e (zrm 2) s m args below meth c 8 tabM D cA ad (MQ below (va_Qi Q (fun σ' t => va_P D vwCl (zws tabM cA ad σ') t.heap) (zIn tabM ad)) args s 0 0 (zIn tabM ad)) 128 [(4, .int v4)] [] σ) : ∀ (n : Nat) (x4 : Int32) (x5 : Int32) (σ : zSt), wX8_waits_L8 Q K128 x1 x2 x3 n x4 x5 σ → zG p l e (zrm 2) s m args below meth c 8 tabM D cA ad (MQ below (va_Qi Q (fun σ' t => va_P D vwCl (zws tabM cA ad σ') t.heap) (zIn tabM ad)) args s 0 0 (zIn tabM ad)) 8 [(0, .ref (ad 0)), (1, .int x1), (2, .int x2), (3, .int x3), (4, .int x4), (5, .int x5)] [] σ := by
  intro n
  induction n with
  | zero => intro x4 x5 σ h; exact absurd h (by simp [wX8_waits_L8])
  | succ n ih =>
    intro x4 x5 σ h
    unfold wX8_waits_L8 at h
    refine zz_iload M 5 dX8_waits_8 rfl ?_
    refine zz_iconst (v := 4) M dX8_waits_10 (by decide) ?_
    refine zz_iload_n M 1 dX8_waits_11 rfl rfl ?_
    refine zz_imul M dX8_waits_12 ?_
    refine zz_iconst (v := 4) M dX8_waits_13 (by decide) ?_
    refine zz_iadd M dX8_waits_14 ?_
    refine zz_icmp_ge M 128 dX8_waits_15 (by decide) (fun c => ?_) (fun c => ?_)
    · have h := zif (c := ((4 * x1) + 4) ≤ x5) h c
      refine zz_sub [(4, .int x4)] [4] rfl ?_
      exact hK128 _ _ h
    · have h := zifn (c := ((4 * x1) + 4) ≤ x5) h c
      refine zz_aload_n M 0 dX8_waits_18 rfl rfl ?_
      refine zz_iload M 5 dX8_waits_19 rfl ?_
      refine zz_callVI (d' := 1) (As := [.int x5]) (rest := []) M l_X8_342 tM_0 rfl rfl dX8_waits_21 rfl rfl (by decide) (Nat.le_of_ble_eq_true rfl) (by have hI := M.2.2.2.2.2.2.2.2; exact kX8_isOne hI _  _ _ h) (fun r102 σ103 h => ?_)
      refine zz_if_eq (y0 := 0) M 122 dX8_waits_24 (by decide) (fun c => ?_) (fun c => ?_)
      · have h := zif (c := r102 = 0) h c
        obtain ⟨x104, ex104⟩ : ∃ z : Int32, z = x5 + 1 := ⟨_, rfl⟩
        have h := h x104 ex104
        refine zz_iinc M [(5, .int x104), (0, .ref (ad 0)), (1, .int x1), (2, .int x2), (3, .int x3), (4, .int x4)] 5 dX8_waits_122 rfl (n32 := 1) (by decide) ex104 (by decide) rfl ?_
        refine zz_goto M 8 dX8_waits_125 (by decide) ?_
        refine zz_sub [(0, .ref (ad 0)), (1, .int x1), (2, .int x2), (3, .int x3), (4, .int x4), (5, .int x104)] [1, 2, 3, 4, 5, 0] rfl ?_
        exact ih _ _ _ h
      · have h := zifn (c := r102 = 0) h c
        refine zz_aload_n M 0 dX8_waits_27 rfl rfl ?_
        refine zz_getR M f_X8_23 tM_0 rfl dX8_waits_28 ?_
        refine zz_iload M 5 dX8_waits_31 rfl ?_
        refine zz_iald M tM_4 h.1 dX8_waits_33 ?_
        have h := h.2
        refine zz_iload_n M 2 dX8_waits_34 rfl rfl ?_
        refine zz_icmp_ne M 122 dX8_waits_35 (by decide) (fun c => ?_) (fun c => ?_)
        · have h := zifn (c := (σ103.1 4 x5.toNatClampNeg) = x2) h c
          obtain ⟨x105, ex105⟩ : ∃ z : Int32, z = x5 + 1 := ⟨_, rfl⟩
          have h := h x105 ex105
          refine zz_iinc M [(5, .int x105), (0, .ref (ad 0)), (1, .int x1), (2, .int x2), (3, .int x3), (4, .int x4)] 5 dX8_waits_122 rfl (n32 := 1) (by decide) ex105 (by decide) rfl ?_
          refine zz_goto M 8 dX8_waits_125 (by decide) ?_
          refine zz_sub [(0, .ref (ad 0)), (1, .int x1), (2, .int x2), (3, .int x3), (4, .int x4), (5, .int x105)] [1, 2, 3, 4, 5, 0] rfl ?_
          exact ih _ _ _ h
        · have h := zif (c := (σ103.1 4 x5.toNatClampNeg) = x2) h c
          refine zz_aload_n M 0 dX8_waits_38 rfl rfl ?_
          refine zz_getR M f_X8_26 tM_0 rfl dX8_waits_39 ?_
          refine zz_iload M 5 dX8_waits_42 rfl ?_
          refine zz_iald M tM_5 h.1 dX8_waits_44 ?_
          have h := h.2
          refine zz_iload_n M 3 dX8_waits_45 rfl rfl ?_
          refine zz_icmp_gt M 122 dX8_waits_46 (by decide) (fun c => ?_) (fun c => ?_)
          · have h := zif (c := x3 < (σ103.1 5 x5.toNatClampNeg)) h c
            obtain ⟨x106, ex106⟩ : ∃ z : Int32, z = x5 + 1 := ⟨_, rfl⟩
            have h := h x106 ex106
            refine zz_iinc M [(5, .int x106), (0, .ref (ad 0)), (1, .int x1), (2, .int x2), (3, .int x3), (4, .int x4)] 5 dX8_waits_122 rfl (n32 := 1) (by decide) ex106 (by decide) rfl ?_
            refine zz_goto M 8 dX8_waits_125 (by decide) ?_
            refine zz_sub [(0, .ref (ad 0)), (1, .int x1), (2, .int x2), (3, .int x3), (4, .int x4), (5, .int x106)] [1, 2, 3, 4, 5, 0] rfl ?_
            exact ih _ _ _ h
          · have h := zifn (c := x3 < (σ103.1 5 x5.toNatClampNeg)) h c
            refine zz_iconst (v := 1) M dX8_waits_49 (by decide) ?_
            refine zz_istore M [(6, .int 1), (0, .ref (ad 0)), (1, .int x1), (2, .int x2), (3, .int x3), (4, .int x4), (5, .int x5)] dX8_waits_50 (by decide) rfl ?_
            refine zz_aload_n M 1 dX8_waits_52 rfl rfl ?_
            refine zz_getR M f_X8_26 tM_0 rfl dX8_waits_53 ?_
            refine zz_iload M 6 dX8_waits_56 rfl ?_
            refine zz_iald M tM_5 h.1 dX8_waits_58 ?_
            have h := h.2
            refine zz_topi (fun x107 ex107 => ?_)
            have h := h x107 ex107
            refine zz_istore M [(7, .int x107), (6, .int 1), (0, .ref (ad 0)), (1, .int x1), (2, .int x2), (3, .int x3), (4, .int x4), (5, .int x5)] dX8_waits_59 (by decide) rfl ?_
            refine zz_sub [(0, .ref (ad 0)), (1, .int x1), (2, .int x2), (3, .int x3), (4, .int x4), (5, .int x5), (6, .int 1), (7, .int x107)] [2, 3, 4, 5, 6, 7, 1, 0] rfl ?_
            refine sX8_waits_L61 x1 x2 x3 x4 x5  M (fun v114 σ115 h => ?_) 300 _ _ _ h
            refine zz_iload M 4 dX8_waits_101 rfl ?_
            refine zz_iload M 6 dX8_waits_103 rfl ?_
            refine zz_if_eq (y0 := 0) M 118 dX8_waits_105 (by decide) (fun c => ?_) (fun c => ?_)
            · have h := zif (c := v114 = 0) h c
              refine zz_iconst (v := 0) M dX8_waits_118 (by decide) ?_
              refine zz_iadd M dX8_waits_119 ?_
              refine zz_topi (fun x116 ex116 => ?_)
              have h := h x116 ex116
              refine zz_istore M [(4, .int x116), (0, .ref (ad 0)), (1, .int x1), (2, .int x2), (3, .int x3), (5, .int x5), (6, .int v114)] dX8_waits_120 (by decide) rfl ?_
              obtain ⟨x117, ex117⟩ : ∃ z : Int32, z = x5 + 1 := ⟨_, rfl⟩
              have h := h x117 ex117
              refine zz_iinc M [(5, .int x117), (4, .int x116), (0, .ref (ad 0)), (1, .int x1), (2, .int x2), (3, .int x3), (6, .int v114)] 5 dX8_waits_122 rfl (n32 := 1) (by decide) ex117 (by decide) rfl ?_
              refine zz_goto M 8 dX8_waits_125 (by decide) ?_
              refine zz_sub [(0, .ref (ad 0)), (1, .int x1), (2, .int x2), (3, .int x3), (4, .int x116), (5, .int x117)] [2, 3, 4, 5, 1, 0] rfl ?_
              exact ih _ _ _ h
            · have h := zifn (c := v114 = 0) h c
              refine zz_aload_n M 0 dX8_waits_108 rfl rfl ?_
              refine zz_getR M f_X8_29 tM_0 rfl dX8_waits_109 ?_
              refine zz_iload M 5 dX8_waits_112 rfl ?_
              refine zz_iald M tM_6 h.1 dX8_waits_114 ?_
              have h := h.2
              refine zz_goto M 119 dX8_waits_115 (by decide) ?_
              refine zz_iadd M dX8_waits_119 ?_
              refine zz_topi (fun x118 ex118 => ?_)
              have h := h x118 ex118
              refine zz_istore M [(4, .int x118), (0, .ref (ad 0)), (1, .int x1), (2, .int x2), (3, .int x3), (5, .int x5), (6, .int v114)] dX8_waits_120 (by decide) rfl ?_
              obtain ⟨x119, ex119⟩ : ∃ z : Int32, z = x5 + 1 := ⟨_, rfl⟩
              have h := h x119 ex119
              refine zz_iinc M [(5, .int x119), (4, .int x118), (0, .ref (ad 0)), (1, .int x1), (2, .int x2), (3, .int x3), (6, .int v114)] 5 dX8_waits_122 rfl (n32 := 1) (by decide) ex119 (by decide) rfl ?_
              refine zz_goto M 8 dX8_waits_125 (by decide) ?_
              refine zz_sub [(0, .ref (ad 0)), (1, .int x1), (2, .int x2), (3, .int x3), (4, .int x118), (5, .int x119)] [2, 3, 4, 5, 1, 0] rfl ?_
              exact ih _ _ _ h
def wX8_waits (x1 : Int32) (x2 : Int32) (x3 : Int32) (σ : zSt) (Q : Int32 → zSt → Prop) : Prop := ∀ x101 : Int32, x101 = (4 * x1) → (wX8_waits_L8 Q (fun v120 σ121 => Q v120 σ121) x1 x2 x3 300 0 x101 σ)
set_option maxRecDepth 20000 in
set_option maxHeartbeats 4000000 in
theorem kX8_waits (hI : zInj tabM ad) (x1 : Int32) (x2 : Int32) (x3 : Int32)  (σ : zSt) (Q : Int32 → zSt → Prop) (h : wX8_waits x1 x2 x3 σ Q) : zOkI l tabM D cA ad y 2 yX8_waits cX8_waits 8 (some .int) [.ref (ad 0), .int x1, .int x2, .int x3] σ Q := by
  refine zz_enter hI (by decide) (Nat.le_of_ble_eq_true rfl) (fun p e s m below meth c M => ?_)
  have M : zM p s m _ meth c cX8_waits 8 RX8 (some .int) tabM D cA ad y := M
  refine zz_ls [(0, .ref (ad 0)), (1, .int x1), (2, .int x2), (3, .int x3)] rfl ?_
  unfold wX8_waits at h
  refine zz_iconst (v := 0) M dX8_waits_0 (by decide) ?_
  refine zz_istore M [(4, .int 0), (0, .ref (ad 0)), (1, .int x1), (2, .int x2), (3, .int x3)] dX8_waits_1 (by decide) rfl ?_
  refine zz_iconst (v := 4) M dX8_waits_3 (by decide) ?_
  refine zz_iload_n M 2 dX8_waits_4 rfl rfl ?_
  refine zz_imul M dX8_waits_5 ?_
  refine zz_topi (fun x101 ex101 => ?_)
  have h := h x101 ex101
  refine zz_istore M [(5, .int x101), (4, .int 0), (0, .ref (ad 0)), (1, .int x1), (2, .int x2), (3, .int x3)] dX8_waits_6 (by decide) rfl ?_
  refine zz_sub [(0, .ref (ad 0)), (1, .int x1), (2, .int x2), (3, .int x3), (4, .int 0), (5, .int x101)] [2, 3, 4, 5, 1, 0] rfl ?_
  refine sX8_waits_L8 x1 x2 x3  M (fun v120 σ121 h => ?_) 300 _ _ _ h
  refine zz_iload M 0 dX8_waits_128 rfl ?_
  exact zz_iret M dX8_waits_130 h
def wX8_marketNext_L4 (Q : Int32 → zSt → Prop) (K34 : Int32 → zSt → Prop) (x1 : Int32) : Nat → Int32 → Int32 → zSt → Prop
  | 0, _, _, _ => False
  | n + 1, x2, x3, σ => if 3 ≤ x3 then (K34 x2 σ) else (wX8_waits 1 x3 x1 σ (fun r101 σ102 => wX8_waits 1 x2 x1 σ102 (fun r103 σ104 => if r103 ≤ r101 then (∀ x105 : Int32, x105 = x3 + 1 → (wX8_marketNext_L4 Q K34 x1 n x2 x105 σ104)) else (∀ x106 : Int32, x106 = x3 + 1 → (wX8_marketNext_L4 Q K34 x1 n x3 x106 σ104)))))
set_option maxRecDepth 20000 in
set_option maxHeartbeats 4000000 in
theorem sX8_marketNext_L4 {Q : Int32 → zSt → Prop} {K34 : Int32 → zSt → Prop} (x1 : Int32)  (M : zM p s m args meth c cX8_marketNext 4 RX8 (some .int) tabM D cA ad y) (hK34 : ∀ (v2 : Int32) (σ : zSt), K34 v2 σ → zG p l e (zrm 3) s m args below meth c 4 tabM D cA ad (MQ below (va_Qi Q (fun σ' t => va_P D vwCl (zws tabM cA ad σ') t.heap) (zIn tabM ad)) args s 0 0 (zIn tabM ad)) 34 [(2, .int v2)] [] σ) : ∀ (n : Nat) (x2 : Int32) (x3 : Int32) (σ : zSt), wX8_marketNext_L4 Q K34 x1 n x2 x3 σ → zG p l e (zrm 3) s m args below meth c 4 tabM D cA ad (MQ below (va_Qi Q (fun σ' t => va_P D vwCl (zws tabM cA ad σ') t.heap) (zIn tabM ad)) args s 0 0 (zIn tabM ad)) 4 [(0, .ref (ad 0)), (1, .int x1), (2, .int x2), (3, .int x3)] [] σ := by
  intro n
  induction n with
  | zero => intro x2 x3 σ h; exact absurd h (by simp [wX8_marketNext_L4])
  | succ n ih =>
    intro x2 x3 σ h
    unfold wX8_marketNext_L4 at h
    refine zz_iload_n M 3 dX8_marketNext_4 rfl rfl ?_
    refine zz_iconst (v := 3) M dX8_marketNext_5 (by decide) ?_
    refine zz_icmp_ge M 34 dX8_marketNext_6 (by decide) (fun c => ?_) (fun c => ?_)
    · have h := zif (c := 3 ≤ x3) h c
      refine zz_sub [(2, .int x2)] [2] rfl ?_
      exact hK34 _ _ h
    · have h := zifn (c := 3 ≤ x3) h c
      refine zz_aload_n M 0 dX8_marketNext_9 rfl rfl ?_
      refine zz_iconst (v := 1) M dX8_marketNext_10 (by decide) ?_
      refine zz_iload_n M 3 dX8_marketNext_11 rfl rfl ?_
      refine zz_iload_n M 1 dX8_marketNext_12 rfl rfl ?_
      refine zz_callVI (d' := 2) (As := [.int 1, .int x3, .int x1]) (rest := []) M l_X8_402 tM_0 rfl rfl dX8_marketNext_13 rfl rfl (by decide) (Nat.le_of_ble_eq_true rfl) (by have hI := M.2.2.2.2.2.2.2.2; exact kX8_waits hI _ _ _  _ _ h) (fun r101 σ102 h => ?_)
      refine zz_aload_n M 0 dX8_marketNext_16 rfl rfl ?_
      refine zz_iconst (v := 1) M dX8_marketNext_17 (by decide) ?_
      refine zz_iload_n M 2 dX8_marketNext_18 rfl rfl ?_
      refine zz_iload_n M 1 dX8_marketNext_19 rfl rfl ?_
      refine zz_callVI (d' := 2) (As := [.int 1, .int x2, .int x1]) (rest := [.int r101]) M l_X8_402 tM_0 rfl rfl dX8_marketNext_20 rfl rfl (by decide) (Nat.le_of_ble_eq_true rfl) (by have hI := M.2.2.2.2.2.2.2.2; exact kX8_waits hI _ _ _  _ _ h) (fun r103 σ104 h => ?_)
      refine zz_icmp_ge M 28 dX8_marketNext_23 (by decide) (fun c => ?_) (fun c => ?_)
      · have h := zif (c := r103 ≤ r101) h c
        obtain ⟨x105, ex105⟩ : ∃ z : Int32, z = x3 + 1 := ⟨_, rfl⟩
        have h := h x105 ex105
        refine zz_iinc M [(3, .int x105), (0, .ref (ad 0)), (1, .int x1), (2, .int x2)] 3 dX8_marketNext_28 rfl (n32 := 1) (by decide) ex105 (by decide) rfl ?_
        refine zz_goto M 4 dX8_marketNext_31 (by decide) ?_
        refine zz_sub [(0, .ref (ad 0)), (1, .int x1), (2, .int x2), (3, .int x105)] [1, 2, 3, 0] rfl ?_
        exact ih _ _ _ h
      · have h := zifn (c := r103 ≤ r101) h c
        refine zz_iload_n M 3 dX8_marketNext_26 rfl rfl ?_
        refine zz_istore_n M [(2, .int x3), (0, .ref (ad 0)), (1, .int x1), (3, .int x3)] dX8_marketNext_27 rfl (by decide) rfl ?_
        obtain ⟨x106, ex106⟩ : ∃ z : Int32, z = x3 + 1 := ⟨_, rfl⟩
        have h := h x106 ex106
        refine zz_iinc M [(3, .int x106), (2, .int x3), (0, .ref (ad 0)), (1, .int x1)] 3 dX8_marketNext_28 rfl (n32 := 1) (by decide) ex106 (by decide) rfl ?_
        refine zz_goto M 4 dX8_marketNext_31 (by decide) ?_
        refine zz_sub [(0, .ref (ad 0)), (1, .int x1), (2, .int x3), (3, .int x106)] [2, 3, 1, 0] rfl ?_
        exact ih _ _ _ h
def wX8_marketNext (x1 : Int32) (σ : zSt) (Q : Int32 → zSt → Prop) : Prop := wX8_marketNext_L4 Q (fun v107 σ108 => Q v107 σ108) x1 300 0 1 σ
set_option maxRecDepth 20000 in
set_option maxHeartbeats 4000000 in
theorem kX8_marketNext (hI : zInj tabM ad) (x1 : Int32)  (σ : zSt) (Q : Int32 → zSt → Prop) (h : wX8_marketNext x1 σ Q) : zOkI l tabM D cA ad y 3 yX8_marketNext cX8_marketNext 4 (some .int) [.ref (ad 0), .int x1] σ Q := by
  refine zz_enter hI (by decide) (Nat.le_of_ble_eq_true rfl) (fun p e s m below meth c M => ?_)
  have M : zM p s m _ meth c cX8_marketNext 4 RX8 (some .int) tabM D cA ad y := M
  refine zz_ls [(0, .ref (ad 0)), (1, .int x1)] rfl ?_
  unfold wX8_marketNext at h
  refine zz_iconst (v := 0) M dX8_marketNext_0 (by decide) ?_
  refine zz_istore_n M [(2, .int 0), (0, .ref (ad 0)), (1, .int x1)] dX8_marketNext_1 rfl (by decide) rfl ?_
  refine zz_iconst (v := 1) M dX8_marketNext_2 (by decide) ?_
  refine zz_istore_n M [(3, .int 1), (2, .int 0), (0, .ref (ad 0)), (1, .int x1)] dX8_marketNext_3 rfl (by decide) rfl ?_
  refine zz_sub [(0, .ref (ad 0)), (1, .int x1), (2, .int 0), (3, .int 1)] [2, 3, 1, 0] rfl ?_
  refine sX8_marketNext_L4 x1  M (fun v107 σ108 h => ?_) 300 _ _ _ h
  refine zz_iload_n M 0 dX8_marketNext_34 rfl rfl ?_
  exact zz_iret M dX8_marketNext_35 h
def wX8_plainNext (x1 : Int32) (x2 : Int32) (x3 : Int32) (σ : zSt) (Q : Int32 → zSt → Prop) : Prop := vp_in x1 4 ∧ (¬ ((σ.1 8 x1.toNatClampNeg) + 1) = 0 ∧ (if (x2 - x2 / ((σ.1 8 x1.toNatClampNeg) + 1) * ((σ.1 8 x1.toNatClampNeg) + 1)) = 0 then (Q ((x3 + 1) - (x3 + 1) / 3 * 3) σ) else (Q x3 σ)))
set_option maxRecDepth 20000 in
set_option maxHeartbeats 4000000 in
theorem kX8_plainNext (hI : zInj tabM ad) (x1 : Int32) (x2 : Int32) (x3 : Int32)  (σ : zSt) (Q : Int32 → zSt → Prop) (h : wX8_plainNext x1 x2 x3 σ Q) : zOkI l tabM D cA ad y 1 yX8_plainNext cX8_plainNext 4 (some .int) [.ref (ad 0), .int x1, .int x2, .int x3] σ Q := by
  refine zz_enter hI (by decide) (Nat.le_of_ble_eq_true rfl) (fun p e s m below meth c M => ?_)
  have M : zM p s m _ meth c cX8_plainNext 4 RX8 (some .int) tabM D cA ad y := M
  refine zz_ls [(0, .ref (ad 0)), (1, .int x1), (2, .int x2), (3, .int x3)] rfl ?_
  unfold wX8_plainNext at h
  refine zz_iload_n M 2 dX8_plainNext_0 rfl rfl ?_
  refine zz_aload_n M 0 dX8_plainNext_1 rfl rfl ?_
  refine zz_getR M f_X8_41 tM_0 rfl dX8_plainNext_2 ?_
  refine zz_iload_n M 1 dX8_plainNext_5 rfl rfl ?_
  refine zz_iald M tM_8 h.1 dX8_plainNext_6 ?_
  have h := h.2
  refine zz_iconst (v := 1) M dX8_plainNext_7 (by decide) ?_
  refine zz_iadd M dX8_plainNext_8 ?_
  refine zz_irem M dX8_plainNext_9 h.1 ?_
  have h := h.2
  refine zz_if_ne (y0 := 0) M 21 dX8_plainNext_10 (by decide) (fun c => ?_) (fun c => ?_)
  · have h := zifn (c := (x2 - x2 / ((σ.1 8 x1.toNatClampNeg) + 1) * ((σ.1 8 x1.toNatClampNeg) + 1)) = 0) h c
    refine zz_iload_n M 3 dX8_plainNext_21 rfl rfl ?_
    exact zz_iret M dX8_plainNext_22 h
  · have h := zif (c := (x2 - x2 / ((σ.1 8 x1.toNatClampNeg) + 1) * ((σ.1 8 x1.toNatClampNeg) + 1)) = 0) h c
    refine zz_iload_n M 3 dX8_plainNext_13 rfl rfl ?_
    refine zz_iconst (v := 1) M dX8_plainNext_14 (by decide) ?_
    refine zz_iadd M dX8_plainNext_15 ?_
    refine zz_iconst (v := 3) M dX8_plainNext_16 (by decide) ?_
    refine zz_irem M dX8_plainNext_17 (by decide) ?_
    refine zz_goto M 22 dX8_plainNext_18 (by decide) ?_
    exact zz_iret M dX8_plainNext_22 h
def wX8_tideNext_L6 (Q : Int32 → zSt → Prop) (K41 : Int32 → zSt → Prop) (x1 : Int32) (x2 : Int32) (x3 : Int32) : Nat → Int32 → Int32 → zSt → Prop
  | 0, _, _, _ => False
  | n + 1, x4, x5, σ => if 3 ≤ x5 then (K41 x4 σ) else (wX8_waits 0 x5 x2 σ (fun r101 σ102 => wX8_waits 0 x4 x2 σ102 (fun r103 σ104 => if r101 ≤ r103 then (∀ x105 : Int32, x105 = x5 + 1 → (wX8_tideNext_L6 Q K41 x1 x2 x3 n x4 x105 σ104)) else (∀ x106 : Int32, x106 = x5 + 1 → (wX8_tideNext_L6 Q K41 x1 x2 x3 n x5 x106 σ104)))))
set_option maxRecDepth 20000 in
set_option maxHeartbeats 4000000 in
theorem sX8_tideNext_L6 {Q : Int32 → zSt → Prop} {K41 : Int32 → zSt → Prop} (x1 : Int32) (x2 : Int32) (x3 : Int32)  (M : zM p s m args meth c cX8_tideNext 6 RX8 (some .int) tabM D cA ad y) (hK41 : ∀ (v4 : Int32) (σ : zSt), K41 v4 σ → zG p l e (zrm 3) s m args below meth c 6 tabM D cA ad (MQ below (va_Qi Q (fun σ' t => va_P D vwCl (zws tabM cA ad σ') t.heap) (zIn tabM ad)) args s 0 0 (zIn tabM ad)) 41 [(0, .ref (ad 0)), (1, .int x1), (2, .int x2), (3, .int x3), (4, .int v4)] [] σ) : ∀ (n : Nat) (x4 : Int32) (x5 : Int32) (σ : zSt), wX8_tideNext_L6 Q K41 x1 x2 x3 n x4 x5 σ → zG p l e (zrm 3) s m args below meth c 6 tabM D cA ad (MQ below (va_Qi Q (fun σ' t => va_P D vwCl (zws tabM cA ad σ') t.heap) (zIn tabM ad)) args s 0 0 (zIn tabM ad)) 6 [(0, .ref (ad 0)), (1, .int x1), (2, .int x2), (3, .int x3), (4, .int x4), (5, .int x5)] [] σ := by
  intro n
  induction n with
  | zero => intro x4 x5 σ h; exact absurd h (by simp [wX8_tideNext_L6])
  | succ n ih =>
    intro x4 x5 σ h
    unfold wX8_tideNext_L6 at h
    refine zz_iload M 5 dX8_tideNext_6 rfl ?_
    refine zz_iconst (v := 3) M dX8_tideNext_8 (by decide) ?_
    refine zz_icmp_ge M 41 dX8_tideNext_9 (by decide) (fun c => ?_) (fun c => ?_)
    · have h := zif (c := 3 ≤ x5) h c
      refine zz_sub [(0, .ref (ad 0)), (1, .int x1), (2, .int x2), (3, .int x3), (4, .int x4)] [0, 1, 2, 3, 4] rfl ?_
      exact hK41 _ _ h
    · have h := zifn (c := 3 ≤ x5) h c
      refine zz_aload_n M 0 dX8_tideNext_12 rfl rfl ?_
      refine zz_iconst (v := 0) M dX8_tideNext_13 (by decide) ?_
      refine zz_iload M 5 dX8_tideNext_14 rfl ?_
      refine zz_iload_n M 2 dX8_tideNext_16 rfl rfl ?_
      refine zz_callVI (d' := 2) (As := [.int 0, .int x5, .int x2]) (rest := []) M l_X8_402 tM_0 rfl rfl dX8_tideNext_17 rfl rfl (by decide) (Nat.le_of_ble_eq_true rfl) (by have hI := M.2.2.2.2.2.2.2.2; exact kX8_waits hI _ _ _  _ _ h) (fun r101 σ102 h => ?_)
      refine zz_aload_n M 0 dX8_tideNext_20 rfl rfl ?_
      refine zz_iconst (v := 0) M dX8_tideNext_21 (by decide) ?_
      refine zz_iload M 4 dX8_tideNext_22 rfl ?_
      refine zz_iload_n M 2 dX8_tideNext_24 rfl rfl ?_
      refine zz_callVI (d' := 2) (As := [.int 0, .int x4, .int x2]) (rest := [.int r101]) M l_X8_402 tM_0 rfl rfl dX8_tideNext_25 rfl rfl (by decide) (Nat.le_of_ble_eq_true rfl) (by have hI := M.2.2.2.2.2.2.2.2; exact kX8_waits hI _ _ _  _ _ h) (fun r103 σ104 h => ?_)
      refine zz_icmp_le M 35 dX8_tideNext_28 (by decide) (fun c => ?_) (fun c => ?_)
      · have h := zif (c := r101 ≤ r103) h c
        obtain ⟨x105, ex105⟩ : ∃ z : Int32, z = x5 + 1 := ⟨_, rfl⟩
        have h := h x105 ex105
        refine zz_iinc M [(5, .int x105), (0, .ref (ad 0)), (1, .int x1), (2, .int x2), (3, .int x3), (4, .int x4)] 5 dX8_tideNext_35 rfl (n32 := 1) (by decide) ex105 (by decide) rfl ?_
        refine zz_goto M 6 dX8_tideNext_38 (by decide) ?_
        refine zz_sub [(0, .ref (ad 0)), (1, .int x1), (2, .int x2), (3, .int x3), (4, .int x4), (5, .int x105)] [1, 2, 3, 4, 5, 0] rfl ?_
        exact ih _ _ _ h
      · have h := zifn (c := r101 ≤ r103) h c
        refine zz_iload M 5 dX8_tideNext_31 rfl ?_
        refine zz_istore M [(4, .int x5), (0, .ref (ad 0)), (1, .int x1), (2, .int x2), (3, .int x3), (5, .int x5)] dX8_tideNext_33 (by decide) rfl ?_
        obtain ⟨x106, ex106⟩ : ∃ z : Int32, z = x5 + 1 := ⟨_, rfl⟩
        have h := h x106 ex106
        refine zz_iinc M [(5, .int x106), (4, .int x5), (0, .ref (ad 0)), (1, .int x1), (2, .int x2), (3, .int x3)] 5 dX8_tideNext_35 rfl (n32 := 1) (by decide) ex106 (by decide) rfl ?_
        refine zz_goto M 6 dX8_tideNext_38 (by decide) ?_
        refine zz_sub [(0, .ref (ad 0)), (1, .int x1), (2, .int x2), (3, .int x3), (4, .int x5), (5, .int x106)] [2, 3, 4, 5, 1, 0] rfl ?_
        exact ih _ _ _ h
def wX8_tideNext (x1 : Int32) (x2 : Int32) (x3 : Int32) (σ : zSt) (Q : Int32 → zSt → Prop) : Prop := wX8_tideNext_L6 Q (fun v107 σ108 => wX8_waits 0 v107 x2 σ108 (fun r109 σ110 => if r109 ≤ 0 then (wX8_plainNext x1 x2 x3 σ110 (fun r111 σ112 => Q r111 σ112)) else (Q v107 σ110))) x1 x2 x3 300 0 1 σ
set_option maxRecDepth 20000 in
set_option maxHeartbeats 4000000 in
theorem kX8_tideNext (hI : zInj tabM ad) (x1 : Int32) (x2 : Int32) (x3 : Int32)  (σ : zSt) (Q : Int32 → zSt → Prop) (h : wX8_tideNext x1 x2 x3 σ Q) : zOkI l tabM D cA ad y 3 yX8_tideNext cX8_tideNext 6 (some .int) [.ref (ad 0), .int x1, .int x2, .int x3] σ Q := by
  refine zz_enter hI (by decide) (Nat.le_of_ble_eq_true rfl) (fun p e s m below meth c M => ?_)
  have M : zM p s m _ meth c cX8_tideNext 6 RX8 (some .int) tabM D cA ad y := M
  refine zz_ls [(0, .ref (ad 0)), (1, .int x1), (2, .int x2), (3, .int x3)] rfl ?_
  unfold wX8_tideNext at h
  refine zz_iconst (v := 0) M dX8_tideNext_0 (by decide) ?_
  refine zz_istore M [(4, .int 0), (0, .ref (ad 0)), (1, .int x1), (2, .int x2), (3, .int x3)] dX8_tideNext_1 (by decide) rfl ?_
  refine zz_iconst (v := 1) M dX8_tideNext_3 (by decide) ?_
  refine zz_istore M [(5, .int 1), (4, .int 0), (0, .ref (ad 0)), (1, .int x1), (2, .int x2), (3, .int x3)] dX8_tideNext_4 (by decide) rfl ?_
  refine zz_sub [(0, .ref (ad 0)), (1, .int x1), (2, .int x2), (3, .int x3), (4, .int 0), (5, .int 1)] [2, 3, 4, 5, 1, 0] rfl ?_
  refine sX8_tideNext_L6 x1 x2 x3  M (fun v107 σ108 h => ?_) 300 _ _ _ h
  refine zz_aload_n M 0 dX8_tideNext_41 rfl rfl ?_
  refine zz_iconst (v := 0) M dX8_tideNext_42 (by decide) ?_
  refine zz_iload M 4 dX8_tideNext_43 rfl ?_
  refine zz_iload_n M 2 dX8_tideNext_45 rfl rfl ?_
  refine zz_callVI (d' := 2) (As := [.int 0, .int v107, .int x2]) (rest := []) M l_X8_402 tM_0 rfl rfl dX8_tideNext_46 rfl rfl (by decide) (Nat.le_of_ble_eq_true rfl) (by have hI := M.2.2.2.2.2.2.2.2; exact kX8_waits hI _ _ _  _ _ h) (fun r109 σ110 h => ?_)
  refine zz_if_le (y0 := 0) M 57 dX8_tideNext_49 (by decide) (fun c => ?_) (fun c => ?_)
  · have h := zif (c := r109 ≤ 0) h c
    refine zz_aload_n M 0 dX8_tideNext_57 rfl rfl ?_
    refine zz_iload_n M 1 dX8_tideNext_58 rfl rfl ?_
    refine zz_iload_n M 2 dX8_tideNext_59 rfl rfl ?_
    refine zz_iload_n M 3 dX8_tideNext_60 rfl rfl ?_
    refine zz_callVI (d' := 1) (As := [.int x1, .int x2, .int x3]) (rest := []) M l_X8_405 tM_0 rfl rfl dX8_tideNext_61 rfl rfl (by decide) (Nat.le_of_ble_eq_true rfl) (by have hI := M.2.2.2.2.2.2.2.2; exact kX8_plainNext hI _ _ _  _ _ h) (fun r111 σ112 h => ?_)
    exact zz_iret M dX8_tideNext_64 h
  · have h := zifn (c := r109 ≤ 0) h c
    refine zz_iload M 4 dX8_tideNext_52 rfl ?_
    refine zz_goto M 64 dX8_tideNext_54 (by decide) ?_
    exact zz_iret M dX8_tideNext_64 h
end
