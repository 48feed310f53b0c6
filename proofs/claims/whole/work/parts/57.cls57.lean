section
variable {p : Program} {l : Launch} {e : Env} {s : State} {m : MethodId} {args : Array Value} {below : List Frame} {meth : Method} {c : Code} {D : va_G} {cA : Nat → ClassId} {ad : Nat → Nat} {y : zX}
def wX7_blame_L72 (Q : Int32 → zSt → Prop) (K133 : Int32 → Int32 → Int32 → zSt → Prop) (x1 : Int32) (x5 : Int32) (x6 : Int32) : Nat → Int32 → Int32 → Int32 → Int32 → zSt → Prop
  | 0, _, _, _, _, _ => False
  | n + 1, x2, x3, x4, x7, σ => if 3 ≤ x7 then (K133 x2 x3 x4 σ) else (vp_in x5 24 ∧ (∀ σ105 : zSt, σ105 = zput σ 42 x5.toNatClampNeg x7 → (if x7 = x6 then (if x2 ≤ x2 then (∀ x110 : Int32, x110 = x7 + 1 → (wX7_blame_L72 Q K133 x1 x5 x6 n x2 x3 x4 x110 σ105)) else (∀ x111 : Int32, x111 = x7 + 1 → (wX7_blame_L72 Q K133 x1 x5 x6 n x2 x5 x7 x111 σ105))) else (wX0_ofRow_42  σ105 (fun r106 σ107 => if x2 ≤ r106 then (∀ x108 : Int32, x108 = x7 + 1 → (wX7_blame_L72 Q K133 x1 x5 x6 n x2 x3 x4 x108 σ107)) else (∀ x109 : Int32, x109 = x7 + 1 → (wX7_blame_L72 Q K133 x1 x5 x6 n r106 x5 x7 x109 σ107)))))))
set_option maxRecDepth 20000 in
set_option maxHeartbeats 4000000 in
theorem sX7_blame_L72 {Q : Int32 → zSt → Prop} {K133 : Int32 → Int32 → Int32 → zSt → Prop} (x1 : Int32) (x5 : Int32) (x6 : Int32)  (M : zM p s m args meth c cX7_blame 9 RX7 (some .int) tabX D cA ad y) (hK133 : ∀ (v2 : Int32) (v3 : Int32) (v4 : Int32) (σ : zSt), K133 v2 v3 v4 σ → zG p l e (zrm 6) s m args below meth c 9 tabX D cA ad (MQ below (va_Qi Q (fun σ' t => va_P D vwCl (zws tabX cA ad σ') t.heap) (zIn tabX ad)) args s 0 0 (zIn tabX ad)) 133 [(0, .ref (ad 0)), (1, .int x1), (2, .int v2), (3, .int v3), (4, .int v4), (5, .int x5), (6, .int x6)] [] σ) : ∀ (n : Nat) (x2 : Int32) (x3 : Int32) (x4 : Int32) (x7 : Int32) (σ : zSt), wX7_blame_L72 Q K133 x1 x5 x6 n x2 x3 x4 x7 σ → zG p l e (zrm 6) s m args below meth c 9 tabX D cA ad (MQ below (va_Qi Q (fun σ' t => va_P D vwCl (zws tabX cA ad σ') t.heap) (zIn tabX ad)) args s 0 0 (zIn tabX ad)) 72 [(0, .ref (ad 0)), (1, .int x1), (2, .int x2), (3, .int x3), (4, .int x4), (5, .int x5), (6, .int x6), (7, .int x7)] [] σ := by
  intro n
  induction n with
  | zero => intro x2 x3 x4 x7 σ h; exact absurd h (by simp [wX7_blame_L72])
  | succ n ih =>
    intro x2 x3 x4 x7 σ h
    unfold wX7_blame_L72 at h
    refine zz_iload M 7 dX7_blame_72 rfl ?_
    refine zz_iconst (v := 3) M dX7_blame_74 (by decide) ?_
    refine zz_icmp_ge M 133 dX7_blame_75 (by decide) (fun c => ?_) (fun c => ?_)
    · have h := zif (c := 3 ≤ x7) h c
      refine zz_sub [(0, .ref (ad 0)), (1, .int x1), (2, .int x2), (3, .int x3), (4, .int x4), (5, .int x5), (6, .int x6)] [0, 1, 2, 3, 4, 5, 6] rfl ?_
      exact hK133 _ _ _ _ h
    · have h := zifn (c := 3 ≤ x7) h c
      refine zz_aload_n M 0 dX7_blame_78 rfl rfl ?_
      refine zz_getR M f_X7_80 tX_0 rfl dX7_blame_79 ?_
      refine zz_iload M 5 dX7_blame_82 rfl ?_
      refine zz_iload M 7 dX7_blame_84 rfl ?_
      refine zz_iast M tX_42 h.1 dX7_blame_86 ?_
      have h := h.2
      refine zz_sg (fun σ105 eσ105 => ?_)
      have h := h σ105 eσ105
      refine zz_iload M 7 dX7_blame_87 rfl ?_
      refine zz_iload M 6 dX7_blame_89 rfl ?_
      refine zz_icmp_ne M 98 dX7_blame_91 (by decide) (fun c => ?_) (fun c => ?_)
      · have h := zifn (c := x7 = x6) h c
        refine zz_aload_n M 0 dX7_blame_98 rfl rfl ?_
        refine zz_getR M f_X7_58 tX_0 rfl dX7_blame_99 ?_
        refine zz_aload_n M 0 dX7_blame_102 rfl rfl ?_
        refine zz_getR M f_X7_80 tX_0 rfl dX7_blame_103 ?_
        refine zz_callVI (d' := 5) (As := [.ref (ad 42)]) (rest := []) M l_X7_171 tX_24 rfl rfl dX7_blame_106 rfl rfl (by decide) (Nat.le_of_ble_eq_true rfl) (by have hI := M.2.2.2.2.2.2.2.2; exact kX0_ofRow_42 hI   _ _ h) (fun r106 σ107 h => ?_)
        refine zz_istore M [(8, .int r106), (0, .ref (ad 0)), (1, .int x1), (2, .int x2), (3, .int x3), (4, .int x4), (5, .int x5), (6, .int x6), (7, .int x7)] dX7_blame_109 (by decide) rfl ?_
        refine zz_iload M 0 dX7_blame_111 rfl ?_
        refine zz_iload_n M 3 dX7_blame_113 rfl rfl ?_
        refine zz_icmp_ge M 127 dX7_blame_114 (by decide) (fun c => ?_) (fun c => ?_)
        · have h := zif (c := x2 ≤ r106) h c
          obtain ⟨x108, ex108⟩ : ∃ z : Int32, z = x7 + 1 := ⟨_, rfl⟩
          have h := h x108 ex108
          refine zz_iinc M [(7, .int x108), (8, .int r106), (0, .ref (ad 0)), (1, .int x1), (2, .int x2), (3, .int x3), (4, .int x4), (5, .int x5), (6, .int x6)] 8 dX7_blame_127 rfl (n32 := 1) (by decide) ex108 (by decide) rfl ?_
          refine zz_goto M 72 dX7_blame_130 (by decide) ?_
          refine zz_sub [(0, .ref (ad 0)), (1, .int x1), (2, .int x2), (3, .int x3), (4, .int x4), (5, .int x5), (6, .int x6), (7, .int x108)] [2, 3, 4, 5, 6, 7, 8, 0] rfl ?_
          exact ih _ _ _ _ _ h
        · have h := zifn (c := x2 ≤ r106) h c
          refine zz_iload M 0 dX7_blame_117 rfl ?_
          refine zz_istore_n M [(2, .int r106), (8, .int r106), (0, .ref (ad 0)), (1, .int x1), (3, .int x3), (4, .int x4), (5, .int x5), (6, .int x6), (7, .int x7)] dX7_blame_119 rfl (by decide) rfl ?_
          refine zz_iload M 6 dX7_blame_120 rfl ?_
          refine zz_istore_n M [(3, .int x5), (2, .int r106), (8, .int r106), (0, .ref (ad 0)), (1, .int x1), (4, .int x4), (5, .int x5), (6, .int x6), (7, .int x7)] dX7_blame_122 rfl (by decide) rfl ?_
          refine zz_iload M 8 dX7_blame_123 rfl ?_
          refine zz_istore M [(4, .int x7), (3, .int x5), (2, .int r106), (8, .int r106), (0, .ref (ad 0)), (1, .int x1), (5, .int x5), (6, .int x6), (7, .int x7)] dX7_blame_125 (by decide) rfl ?_
          obtain ⟨x109, ex109⟩ : ∃ z : Int32, z = x7 + 1 := ⟨_, rfl⟩
          have h := h x109 ex109
          refine zz_iinc M [(7, .int x109), (4, .int x7), (3, .int x5), (2, .int r106), (8, .int r106), (0, .ref (ad 0)), (1, .int x1), (5, .int x5), (6, .int x6)] 8 dX7_blame_127 rfl (n32 := 1) (by decide) ex109 (by decide) rfl ?_
          refine zz_goto M 72 dX7_blame_130 (by decide) ?_
          refine zz_sub [(0, .ref (ad 0)), (1, .int x1), (2, .int r106), (3, .int x5), (4, .int x7), (5, .int x5), (6, .int x6), (7, .int x109)] [5, 6, 3, 2, 1, 7, 8, 0] rfl ?_
          exact ih _ _ _ _ _ h
      · have h := zif (c := x7 = x6) h c
        refine zz_iload_n M 2 dX7_blame_94 rfl rfl ?_
        refine zz_goto M 109 dX7_blame_95 (by decide) ?_
        refine zz_istore M [(8, .int x2), (0, .ref (ad 0)), (1, .int x1), (2, .int x2), (3, .int x3), (4, .int x4), (5, .int x5), (6, .int x6), (7, .int x7)] dX7_blame_109 (by decide) rfl ?_
        refine zz_iload M 0 dX7_blame_111 rfl ?_
        refine zz_iload_n M 3 dX7_blame_113 rfl rfl ?_
        refine zz_icmp_ge M 127 dX7_blame_114 (by decide) (fun c => ?_) (fun c => ?_)
        · have h := zif (c := x2 ≤ x2) h c
          obtain ⟨x110, ex110⟩ : ∃ z : Int32, z = x7 + 1 := ⟨_, rfl⟩
          have h := h x110 ex110
          refine zz_iinc M [(7, .int x110), (8, .int x2), (0, .ref (ad 0)), (1, .int x1), (2, .int x2), (3, .int x3), (4, .int x4), (5, .int x5), (6, .int x6)] 8 dX7_blame_127 rfl (n32 := 1) (by decide) ex110 (by decide) rfl ?_
          refine zz_goto M 72 dX7_blame_130 (by decide) ?_
          refine zz_sub [(0, .ref (ad 0)), (1, .int x1), (2, .int x2), (3, .int x3), (4, .int x4), (5, .int x5), (6, .int x6), (7, .int x110)] [2, 3, 4, 5, 6, 7, 8, 0] rfl ?_
          exact ih _ _ _ _ _ h
        · have h := zifn (c := x2 ≤ x2) h c
          refine zz_iload M 0 dX7_blame_117 rfl ?_
          refine zz_istore_n M [(2, .int x2), (8, .int x2), (0, .ref (ad 0)), (1, .int x1), (3, .int x3), (4, .int x4), (5, .int x5), (6, .int x6), (7, .int x7)] dX7_blame_119 rfl (by decide) rfl ?_
          refine zz_iload M 6 dX7_blame_120 rfl ?_
          refine zz_istore_n M [(3, .int x5), (2, .int x2), (8, .int x2), (0, .ref (ad 0)), (1, .int x1), (4, .int x4), (5, .int x5), (6, .int x6), (7, .int x7)] dX7_blame_122 rfl (by decide) rfl ?_
          refine zz_iload M 8 dX7_blame_123 rfl ?_
          refine zz_istore M [(4, .int x7), (3, .int x5), (2, .int x2), (8, .int x2), (0, .ref (ad 0)), (1, .int x1), (5, .int x5), (6, .int x6), (7, .int x7)] dX7_blame_125 (by decide) rfl ?_
          obtain ⟨x111, ex111⟩ : ∃ z : Int32, z = x7 + 1 := ⟨_, rfl⟩
          have h := h x111 ex111
          refine zz_iinc M [(7, .int x111), (4, .int x7), (3, .int x5), (2, .int x2), (8, .int x2), (0, .ref (ad 0)), (1, .int x1), (5, .int x5), (6, .int x6)] 8 dX7_blame_127 rfl (n32 := 1) (by decide) ex111 (by decide) rfl ?_
          refine zz_goto M 72 dX7_blame_130 (by decide) ?_
          refine zz_sub [(0, .ref (ad 0)), (1, .int x1), (2, .int x2), (3, .int x5), (4, .int x7), (5, .int x5), (6, .int x6), (7, .int x111)] [5, 6, 3, 2, 1, 7, 8, 0] rfl ?_
          exact ih _ _ _ _ _ h
def wX7_blame_L53 (Q : Int32 → zSt → Prop) (K148 : Int32 → Int32 → Int32 → zSt → Prop) (x1 : Int32) : Nat → Int32 → Int32 → Int32 → Int32 → zSt → Prop
  | 0, _, _, _, _, _ => False
  | n + 1, x2, x3, x4, x5, σ => if 24 ≤ x5 then (K148 x2 x3 x4 σ) else (vp_in x5 24 ∧ (∀ x104 : Int32, x104 = (σ.1 42 x5.toNatClampNeg) → (wX7_blame_L72 Q (fun v112 v113 v114 σ115 => vp_in x5 24 ∧ (∀ σ116 : zSt, σ116 = zput σ115 42 x5.toNatClampNeg x104 → (∀ x117 : Int32, x117 = x5 + 1 → (wX7_blame_L53 Q K148 x1 n v112 v113 v114 x117 σ116)))) x1 x5 x104 300 x2 x3 x4 0 σ)))
set_option maxRecDepth 20000 in
set_option maxHeartbeats 4000000 in
theorem sX7_blame_L53 {Q : Int32 → zSt → Prop} {K148 : Int32 → Int32 → Int32 → zSt → Prop} (x1 : Int32)  (M : zM p s m args meth c cX7_blame 9 RX7 (some .int) tabX D cA ad y) (hK148 : ∀ (v2 : Int32) (v3 : Int32) (v4 : Int32) (σ : zSt), K148 v2 v3 v4 σ → zG p l e (zrm 6) s m args below meth c 9 tabX D cA ad (MQ below (va_Qi Q (fun σ' t => va_P D vwCl (zws tabX cA ad σ') t.heap) (zIn tabX ad)) args s 0 0 (zIn tabX ad)) 148 [(1, .int x1), (2, .int v2), (3, .int v3), (4, .int v4)] [] σ) : ∀ (n : Nat) (x2 : Int32) (x3 : Int32) (x4 : Int32) (x5 : Int32) (σ : zSt), wX7_blame_L53 Q K148 x1 n x2 x3 x4 x5 σ → zG p l e (zrm 6) s m args below meth c 9 tabX D cA ad (MQ below (va_Qi Q (fun σ' t => va_P D vwCl (zws tabX cA ad σ') t.heap) (zIn tabX ad)) args s 0 0 (zIn tabX ad)) 53 [(0, .ref (ad 0)), (1, .int x1), (2, .int x2), (3, .int x3), (4, .int x4), (5, .int x5)] [] σ := by
  intro n
  induction n with
  | zero => intro x2 x3 x4 x5 σ h; exact absurd h (by simp [wX7_blame_L53])
  | succ n ih =>
    intro x2 x3 x4 x5 σ h
    unfold wX7_blame_L53 at h
    refine zz_iload M 5 dX7_blame_53 rfl ?_
    refine zz_bipush (v := 24) M dX7_blame_55 (by decide) ?_
    refine zz_icmp_ge M 148 dX7_blame_57 (by decide) (fun c => ?_) (fun c => ?_)
    · have h := zif (c := 24 ≤ x5) h c
      refine zz_sub [(1, .int x1), (2, .int x2), (3, .int x3), (4, .int x4)] [1, 2, 3, 4] rfl ?_
      exact hK148 _ _ _ _ h
    · have h := zifn (c := 24 ≤ x5) h c
      refine zz_aload_n M 0 dX7_blame_60 rfl rfl ?_
      refine zz_getR M f_X7_80 tX_0 rfl dX7_blame_61 ?_
      refine zz_iload M 5 dX7_blame_64 rfl ?_
      refine zz_iald M tX_42 h.1 dX7_blame_66 ?_
      have h := h.2
      refine zz_topi (fun x104 ex104 => ?_)
      have h := h x104 ex104
      refine zz_istore M [(6, .int x104), (0, .ref (ad 0)), (1, .int x1), (2, .int x2), (3, .int x3), (4, .int x4), (5, .int x5)] dX7_blame_67 (by decide) rfl ?_
      refine zz_iconst (v := 0) M dX7_blame_69 (by decide) ?_
      refine zz_istore M [(7, .int 0), (6, .int x104), (0, .ref (ad 0)), (1, .int x1), (2, .int x2), (3, .int x3), (4, .int x4), (5, .int x5)] dX7_blame_70 (by decide) rfl ?_
      refine zz_sub [(0, .ref (ad 0)), (1, .int x1), (2, .int x2), (3, .int x3), (4, .int x4), (5, .int x5), (6, .int x104), (7, .int 0)] [2, 3, 4, 5, 6, 7, 1, 0] rfl ?_
      refine sX7_blame_L72 x1 x5 x104  M (fun v112 v113 v114 σ115 h => ?_) 300 _ _ _ _ _ h
      refine zz_aload_n M 0 dX7_blame_133 rfl rfl ?_
      refine zz_getR M f_X7_80 tX_0 rfl dX7_blame_134 ?_
      refine zz_iload M 5 dX7_blame_137 rfl ?_
      refine zz_iload M 6 dX7_blame_139 rfl ?_
      refine zz_iast M tX_42 h.1 dX7_blame_141 ?_
      have h := h.2
      refine zz_sg (fun σ116 eσ116 => ?_)
      have h := h σ116 eσ116
      obtain ⟨x117, ex117⟩ : ∃ z : Int32, z = x5 + 1 := ⟨_, rfl⟩
      have h := h x117 ex117
      refine zz_iinc M [(5, .int x117), (0, .ref (ad 0)), (1, .int x1), (2, .int v112), (3, .int v113), (4, .int v114), (6, .int x104)] 5 dX7_blame_142 rfl (n32 := 1) (by decide) ex117 (by decide) rfl ?_
      refine zz_goto M 53 dX7_blame_145 (by decide) ?_
      refine zz_sub [(0, .ref (ad 0)), (1, .int x1), (2, .int v112), (3, .int v113), (4, .int v114), (5, .int x117)] [1, 2, 3, 4, 5, 0] rfl ?_
      exact ih _ _ _ _ _ h
def wX7_blame (x1 : Int32) (σ : zSt) (Q : Int32 → zSt → Prop) : Prop := if x1 < 0 then (Q (-2) σ) else (if x1 ≤ 2 then (wX0_ofRow_2  σ (fun r101 σ102 => ∀ σ103 : zSt, σ103 = zcopy σ102 2 0 42 0 24 → (wX7_blame_L53 Q (fun v118 v119 v120 σ121 => if v119 = (-1) then (Q (-1) σ121) else (if x1 = 0 then (Q v119 σ121) else (if x1 = 1 then (Q v120 σ121) else (Q v118 σ121)))) x1 300 r101 (-1) (-1) 0 σ103))) else (Q (-2) σ))
set_option maxRecDepth 20000 in
set_option maxHeartbeats 4000000 in
theorem kX7_blame (hI : zInj tabX ad) (x1 : Int32)  (σ : zSt) (Q : Int32 → zSt → Prop) (h : wX7_blame x1 σ Q) : zOkI l tabX D cA ad y 6 yX7_blame cX7_blame 9 (some .int) [.ref (ad 0), .int x1] σ Q := by
  refine zz_enter hI (by decide) (Nat.le_of_ble_eq_true rfl) (fun p e s m below meth c M => ?_)
  have M : zM p s m _ meth c cX7_blame 9 RX7 (some .int) tabX D cA ad y := M
  refine zz_ls [(0, .ref (ad 0)), (1, .int x1)] rfl ?_
  unfold wX7_blame at h
  refine zz_iload_n M 1 dX7_blame_0 rfl rfl ?_
  refine zz_if_lt (y0 := 0) M 9 dX7_blame_1 (by decide) (fun c => ?_) (fun c => ?_)
  · have h := zif (c := x1 < 0) h c
    refine zz_bipush (v := (-2)) M dX7_blame_9 (by decide) ?_
    exact zz_iret M dX7_blame_11 h
  · have h := zifn (c := x1 < 0) h c
    refine zz_iload_n M 1 dX7_blame_4 rfl rfl ?_
    refine zz_iconst (v := 2) M dX7_blame_5 (by decide) ?_
    refine zz_icmp_le M 12 dX7_blame_6 (by decide) (fun c => ?_) (fun c => ?_)
    · have h := zif (c := x1 ≤ 2) h c
      refine zz_aload_n M 0 dX7_blame_12 rfl rfl ?_
      refine zz_getR M f_X7_58 tX_0 rfl dX7_blame_13 ?_
      refine zz_aload_n M 0 dX7_blame_16 rfl rfl ?_
      refine zz_getR M f_X7_12 tX_0 rfl dX7_blame_17 ?_
      refine zz_getR M f_X7_148 tX_1 rfl dX7_blame_20 ?_
      refine zz_callVI (d' := 5) (As := [.ref (ad 2)]) (rest := []) M l_X7_171 tX_24 rfl rfl dX7_blame_23 rfl rfl (by decide) (Nat.le_of_ble_eq_true rfl) (by have hI := M.2.2.2.2.2.2.2.2; exact kX0_ofRow_2 hI   _ _ h) (fun r101 σ102 h => ?_)
      refine zz_istore_n M [(2, .int r101), (0, .ref (ad 0)), (1, .int x1)] dX7_blame_26 rfl (by decide) rfl ?_
      refine zz_iconst (v := (-1)) M dX7_blame_27 (by decide) ?_
      refine zz_istore_n M [(3, .int (-1)), (2, .int r101), (0, .ref (ad 0)), (1, .int x1)] dX7_blame_28 rfl (by decide) rfl ?_
      refine zz_iconst (v := (-1)) M dX7_blame_29 (by decide) ?_
      refine zz_istore M [(4, .int (-1)), (3, .int (-1)), (2, .int r101), (0, .ref (ad 0)), (1, .int x1)] dX7_blame_30 (by decide) rfl ?_
      refine zz_aload_n M 3 dX7_blame_32 rfl rfl ?_
      refine zz_getR M f_X7_12 tX_0 rfl dX7_blame_33 ?_
      refine zz_getR M f_X7_148 tX_1 rfl dX7_blame_36 ?_
      refine zz_iconst (v := 0) M dX7_blame_39 (by decide) ?_
      refine zz_aload_n M 3 dX7_blame_40 rfl rfl ?_
      refine zz_getR M f_X7_80 tX_0 rfl dX7_blame_41 ?_
      refine zz_iconst (v := 0) M dX7_blame_44 (by decide) ?_
      refine zz_bipush (v := 24) M dX7_blame_45 (by decide) ?_
      refine zz_copyK (sk := 0) (dk := 0) (nk := 24) M l_X7_194 zarrcopy tX_2 tX_42 (by decide) (Nat.le_of_ble_eq_true rfl) dX7_blame_47 (by decide) (by decide) ?_
      refine zz_sg (fun σ103 eσ103 => ?_)
      have h := h σ103 eσ103
      refine zz_iconst (v := 0) M dX7_blame_50 (by decide) ?_
      refine zz_istore M [(5, .int 0), (4, .int (-1)), (3, .int (-1)), (2, .int r101), (0, .ref (ad 0)), (1, .int x1)] dX7_blame_51 (by decide) rfl ?_
      refine zz_sub [(0, .ref (ad 0)), (1, .int x1), (2, .int r101), (3, .int (-1)), (4, .int (-1)), (5, .int 0)] [4, 5, 3, 2, 1, 0] rfl ?_
      refine sX7_blame_L53 x1  M (fun v118 v119 v120 σ121 h => ?_) 300 _ _ _ _ _ h
      refine zz_iload_n M 2 dX7_blame_148 rfl rfl ?_
      refine zz_iconst (v := (-1)) M dX7_blame_149 (by decide) ?_
      refine zz_icmp_ne M 155 dX7_blame_150 (by decide) (fun c => ?_) (fun c => ?_)
      · have h := zifn (c := v119 = (-1)) h c
        refine zz_iload_n M 0 dX7_blame_155 rfl rfl ?_
        refine zz_if_ne (y0 := 0) M 163 dX7_blame_156 (by decide) (fun c => ?_) (fun c => ?_)
        · have h := zifn (c := x1 = 0) h c
          refine zz_iload_n M 0 dX7_blame_163 rfl rfl ?_
          refine zz_iconst (v := 1) M dX7_blame_164 (by decide) ?_
          refine zz_icmp_ne M 173 dX7_blame_165 (by decide) (fun c => ?_) (fun c => ?_)
          · have h := zifn (c := x1 = 1) h c
            refine zz_iload_n M 1 dX7_blame_173 rfl rfl ?_
            exact zz_iret M dX7_blame_174 h
          · have h := zif (c := x1 = 1) h c
            refine zz_iload M 3 dX7_blame_168 rfl ?_
            refine zz_goto M 174 dX7_blame_170 (by decide) ?_
            exact zz_iret M dX7_blame_174 h
        · have h := zif (c := x1 = 0) h c
          refine zz_iload_n M 2 dX7_blame_159 rfl rfl ?_
          refine zz_goto M 174 dX7_blame_160 (by decide) ?_
          exact zz_iret M dX7_blame_174 h
      · have h := zif (c := v119 = (-1)) h c
        refine zz_iconst (v := (-1)) M dX7_blame_153 (by decide) ?_
        exact zz_iret M dX7_blame_154 h
    · have h := zifn (c := x1 ≤ 2) h c
      refine zz_bipush (v := (-2)) M dX7_blame_9 (by decide) ?_
      exact zz_iret M dX7_blame_11 h
def wX7_isSheet (x0 : Int32) (σ : zSt) (Q : Int32 → zSt → Prop) : Prop := if x0 < 0 then (Q 0 σ) else (if 4 ≤ x0 then (Q 0 σ) else (Q 1 σ))
set_option maxRecDepth 20000 in
set_option maxHeartbeats 4000000 in
theorem kX7_isSheet (hI : zInj tabX ad) (x0 : Int32)  (σ : zSt) (Q : Int32 → zSt → Prop) (h : wX7_isSheet x0 σ Q) : zOkI l tabX D cA ad y 1 yX7_isSheet cX7_isSheet 1 (some .boolean) [.int x0] σ Q := by
  refine zz_enter hI (by decide) (Nat.le_of_ble_eq_true rfl) (fun p e s m below meth c M => ?_)
  have M : zM p s m _ meth c cX7_isSheet 1 RX7 (some .boolean) tabX D cA ad y := M
  refine zz_ls [(0, .int x0)] rfl ?_
  unfold wX7_isSheet at h
  refine zz_iload_n M 0 dX7_isSheet_0 rfl rfl ?_
  refine zz_if_lt (y0 := 0) M 13 dX7_isSheet_1 (by decide) (fun c => ?_) (fun c => ?_)
  · have h := zif (c := x0 < 0) h c
    refine zz_iconst (v := 0) M dX7_isSheet_13 (by decide) ?_
    exact zz_zret M dX7_isSheet_14 (Or.inl rfl) h
  · have h := zifn (c := x0 < 0) h c
    refine zz_iload_n M 0 dX7_isSheet_4 rfl rfl ?_
    refine zz_iconst (v := 4) M dX7_isSheet_5 (by decide) ?_
    refine zz_icmp_ge M 13 dX7_isSheet_6 (by decide) (fun c => ?_) (fun c => ?_)
    · have h := zif (c := 4 ≤ x0) h c
      refine zz_iconst (v := 0) M dX7_isSheet_13 (by decide) ?_
      exact zz_zret M dX7_isSheet_14 (Or.inl rfl) h
    · have h := zifn (c := 4 ≤ x0) h c
      refine zz_iconst (v := 1) M dX7_isSheet_9 (by decide) ?_
      refine zz_goto M 14 dX7_isSheet_10 (by decide) ?_
      exact zz_zret M dX7_isSheet_14 (Or.inr rfl) h
def wX7_tellingRefusal (x1 : Int32) (σ : zSt) (Q : Int32 → zSt → Prop) : Prop := wX7_isSheet x1 σ (fun r101 σ102 => if r101 = 0 then (Q (-2) σ102) else (vp_in x1 4 ∧ (if (σ102.1 (61 + x1.toNatClampNeg) 1) = (-1) then (Q (-11) σ102) else (vp_in x1 4 ∧ (if (σ102.1 (61 + x1.toNatClampNeg) 2) ≤ 24 then (Q 0 σ102) else (Q (-2) σ102))))))
set_option maxRecDepth 20000 in
set_option maxHeartbeats 4000000 in
theorem kX7_tellingRefusal (hI : zInj tabX ad) (x1 : Int32)  (σ : zSt) (Q : Int32 → zSt → Prop) (h : wX7_tellingRefusal x1 σ Q) : zOkI l tabX D cA ad y 2 yX7_tellingRefusal cX7_tellingRefusal 2 (some .int) [.ref (ad 0), .int x1] σ Q := by
  refine zz_enter hI (by decide) (Nat.le_of_ble_eq_true rfl) (fun p e s m below meth c M => ?_)
  have M : zM p s m _ meth c cX7_tellingRefusal 2 RX7 (some .int) tabX D cA ad y := M
  refine zz_ls [(0, .ref (ad 0)), (1, .int x1)] rfl ?_
  unfold wX7_tellingRefusal at h
  refine zz_iload_n M 1 dX7_tellingRefusal_0 rfl rfl ?_
  refine zz_callSI (d' := 1) (As := [.int x1]) (rest := []) M l_X7_249 dX7_tellingRefusal_1 rfl rfl (by decide) (Nat.le_of_ble_eq_true rfl) (by have hI := M.2.2.2.2.2.2.2.2; exact kX7_isSheet hI _  _ _ h) (fun r101 σ102 h => ?_)
  refine zz_if_ne (y0 := 0) M 10 dX7_tellingRefusal_4 (by decide) (fun c => ?_) (fun c => ?_)
  · have h := zifn (c := r101 = 0) h c
    refine zz_aload_n M 0 dX7_tellingRefusal_10 rfl rfl ?_
    refine zz_getR M f_X7_49 tX_0 rfl dX7_tellingRefusal_11 ?_
    refine zz_iload_n M 1 dX7_tellingRefusal_14 rfl rfl ?_
    have hq103 := h.1
    refine zz_aald M tX_23 (by decide) hq103 dX7_tellingRefusal_15 ?_
    have h := h.2
    refine zz_getI M f_X7_259 (tX_Sheet (zclt hq103)) rfl dX7_tellingRefusal_16 ?_
    refine zz_iconst (v := (-1)) M dX7_tellingRefusal_19 (by decide) ?_
    refine zz_icmp_ne M 26 dX7_tellingRefusal_20 (by decide) (fun c => ?_) (fun c => ?_)
    · have h := zifn (c := (σ102.1 (61 + x1.toNatClampNeg) 1) = (-1)) h c
      refine zz_aload_n M 0 dX7_tellingRefusal_26 rfl rfl ?_
      refine zz_getR M f_X7_49 tX_0 rfl dX7_tellingRefusal_27 ?_
      refine zz_iload_n M 1 dX7_tellingRefusal_30 rfl rfl ?_
      have hq104 := h.1
      refine zz_aald M tX_23 (by decide) hq104 dX7_tellingRefusal_31 ?_
      have h := h.2
      refine zz_getI M f_X7_228 (tX_Sheet (zclt hq104)) rfl dX7_tellingRefusal_32 ?_
      refine zz_bipush (v := 24) M dX7_tellingRefusal_35 (by decide) ?_
      refine zz_icmp_le M 45 dX7_tellingRefusal_37 (by decide) (fun c => ?_) (fun c => ?_)
      · have h := zif (c := (σ102.1 (61 + x1.toNatClampNeg) 2) ≤ 24) h c
        refine zz_iconst (v := 0) M dX7_tellingRefusal_45 (by decide) ?_
        exact zz_iret M dX7_tellingRefusal_46 h
      · have h := zifn (c := (σ102.1 (61 + x1.toNatClampNeg) 2) ≤ 24) h c
        refine zz_bipush (v := (-2)) M dX7_tellingRefusal_40 (by decide) ?_
        refine zz_goto M 46 dX7_tellingRefusal_42 (by decide) ?_
        exact zz_iret M dX7_tellingRefusal_46 h
    · have h := zif (c := (σ102.1 (61 + x1.toNatClampNeg) 1) = (-1)) h c
      refine zz_bipush (v := (-11)) M dX7_tellingRefusal_23 (by decide) ?_
      exact zz_iret M dX7_tellingRefusal_25 h
  · have h := zif (c := r101 = 0) h c
    refine zz_bipush (v := (-2)) M dX7_tellingRefusal_7 (by decide) ?_
    exact zz_iret M dX7_tellingRefusal_9 h
def wX7_firstUnlawful_Sheetcells_L5 (Q : Int32 → zSt → Prop) (K69 : Int32 → zSt → Prop) (K91 : zSt → Prop) (i1 : Nat) (x2 : Int32) : Nat → Int32 → Int32 → zSt → Prop
  | 0, _, _, _ => False
  | n + 1, x3, x4, σ => if x2 ≤ x4 then (K91  σ) else (if 40 ≤ x4 then (K91  σ) else (if x4 ≤ 0 then (vp_in x4 40 ∧ (wX7_isBridge (σ.1 (65 + i1) x4.toNatClampNeg) σ (fun r101 σ102 => if r101 = 0 then (K69 x4 σ102) else (∀ x103 : Int32, x103 = (x3 + 1) → (∀ x104 : Int32, x104 = x4 + 1 → (wX7_firstUnlawful_Sheetcells_L5 Q K69 K91 i1 x2 n x103 x104 σ102)))))) else (vp_in x4 40 ∧ (vp_in (x4 - 1) 40 ∧ (if (σ.1 (65 + i1) x4.toNatClampNeg) = (σ.1 (65 + i1) (x4 - 1 : Int32).toNatClampNeg) then (vp_in x4 40 ∧ (wX7_isBridge (σ.1 (65 + i1) x4.toNatClampNeg) σ (fun r105 σ106 => if r105 = 0 then (K69 x4 σ106) else (∀ x107 : Int32, x107 = (x3 + 1) → (∀ x108 : Int32, x108 = x4 + 1 → (wX7_firstUnlawful_Sheetcells_L5 Q K69 K91 i1 x2 n x107 x108 σ106)))))) else (vp_in x4 40 ∧ (wX7_isBridge (σ.1 (65 + i1) x4.toNatClampNeg) σ (fun r109 σ110 => if r109 = 0 then (K69 x4 σ110) else (if (σ110.1 1 8) ≤ x3 then (∀ x111 : Int32, x111 = x4 + 1 → (wX7_firstUnlawful_Sheetcells_L5 Q K69 K91 i1 x2 n 1 x111 σ110)) else (K69 x4 σ110))))))))))
set_option maxRecDepth 20000 in
set_option maxHeartbeats 4000000 in
theorem sX7_firstUnlawful_Sheetcells_L5 {Q : Int32 → zSt → Prop} {K69 : Int32 → zSt → Prop} {K91 : zSt → Prop} (i1 : Nat) (x2 : Int32) (hi1 : i1 < 4) (M : zM p s m args meth c cX7_firstUnlawful 6 RX7 (some .int) tabX D cA ad y) (hK69 : ∀ (v4 : Int32) (σ : zSt), K69 v4 σ → zG p l e (zrm 2) s m args below meth c 6 tabX D cA ad (MQ below (va_Qi Q (fun σ' t => va_P D vwCl (zws tabX cA ad σ') t.heap) (zIn tabX ad)) args s 0 0 (zIn tabX ad)) 69 [(4, .int v4)] [] σ) (hK91 : ∀ (σ : zSt), K91  σ → zG p l e (zrm 2) s m args below meth c 6 tabX D cA ad (MQ below (va_Qi Q (fun σ' t => va_P D vwCl (zws tabX cA ad σ') t.heap) (zIn tabX ad)) args s 0 0 (zIn tabX ad)) 91 [] [] σ) : ∀ (n : Nat) (x3 : Int32) (x4 : Int32) (σ : zSt), wX7_firstUnlawful_Sheetcells_L5 Q K69 K91 i1 x2 n x3 x4 σ → zG p l e (zrm 2) s m args below meth c 6 tabX D cA ad (MQ below (va_Qi Q (fun σ' t => va_P D vwCl (zws tabX cA ad σ') t.heap) (zIn tabX ad)) args s 0 0 (zIn tabX ad)) 5 [(0, .ref (ad 0)), (1, .ref (ad (65 + i1))), (2, .int x2), (3, .int x3), (4, .int x4)] [] σ := by
  intro n
  induction n with
  | zero => intro x3 x4 σ h; exact absurd h (by simp [wX7_firstUnlawful_Sheetcells_L5])
  | succ n ih =>
    intro x3 x4 σ h
    unfold wX7_firstUnlawful_Sheetcells_L5 at h
    refine zz_iload M 4 dX7_firstUnlawful_5 rfl ?_
    refine zz_iload_n M 2 dX7_firstUnlawful_7 rfl rfl ?_
    refine zz_icmp_ge M 91 dX7_firstUnlawful_8 (by decide) (fun c => ?_) (fun c => ?_)
    · have h := zif (c := x2 ≤ x4) h c
      refine zz_sub [] [] rfl ?_
      exact hK91  _ h
    · have h := zifn (c := x2 ≤ x4) h c
      refine zz_iload M 4 dX7_firstUnlawful_11 rfl ?_
      refine zz_aload_n M 1 dX7_firstUnlawful_13 rfl rfl ?_
      refine zz_alen (v := 40) M (tX_Sheet_cells hi1) (by decide) (by decide) dX7_firstUnlawful_14 ?_
      refine zz_icmp_ge M 91 dX7_firstUnlawful_15 (by decide) (fun c => ?_) (fun c => ?_)
      · have h := zif (c := 40 ≤ x4) h c
        refine zz_sub [] [] rfl ?_
        exact hK91  _ h
      · have h := zifn (c := 40 ≤ x4) h c
        refine zz_iload M 4 dX7_firstUnlawful_18 rfl ?_
        refine zz_if_le (y0 := 0) M 40 dX7_firstUnlawful_20 (by decide) (fun c => ?_) (fun c => ?_)
        · have h := zif (c := x4 ≤ 0) h c
          refine zz_iconst (v := 0) M dX7_firstUnlawful_40 (by decide) ?_
          refine zz_istore M [(5, .int 0), (0, .ref (ad 0)), (1, .ref (ad (65 + i1))), (2, .int x2), (3, .int x3), (4, .int x4)] dX7_firstUnlawful_41 (by decide) rfl ?_
          refine zz_aload_n M 2 dX7_firstUnlawful_43 rfl rfl ?_
          refine zz_iload M 5 dX7_firstUnlawful_44 rfl ?_
          refine zz_iald M (tX_Sheet_cells hi1) h.1 dX7_firstUnlawful_46 ?_
          have h := h.2
          refine zz_callSI (d' := 1) (As := [.int (σ.1 (65 + i1) x4.toNatClampNeg)]) (rest := []) M l_X7_104 dX7_firstUnlawful_47 rfl rfl (by decide) (Nat.le_of_ble_eq_true rfl) (by have hI := M.2.2.2.2.2.2.2.2; exact kX7_isBridge hI _  _ _ h) (fun r101 σ102 h => ?_)
          refine zz_if_eq (y0 := 0) M 69 dX7_firstUnlawful_50 (by decide) (fun c => ?_) (fun c => ?_)
          · have h := zif (c := r101 = 0) h c
            refine zz_sub [(4, .int x4)] [5] rfl ?_
            exact hK69 _ _ h
          · have h := zifn (c := r101 = 0) h c
            refine zz_iload M 0 dX7_firstUnlawful_53 rfl ?_
            refine zz_if_eq (y0 := 0) M 72 dX7_firstUnlawful_55 (by decide) (fun c => ?_) (fun c => absurd c (by decide))
            refine zz_iload M 0 dX7_firstUnlawful_72 rfl ?_
            refine zz_if_eq (y0 := 0) M 81 dX7_firstUnlawful_74 (by decide) (fun c => ?_) (fun c => absurd c (by decide))
            refine zz_iload_n M 4 dX7_firstUnlawful_81 rfl rfl ?_
            refine zz_iconst (v := 1) M dX7_firstUnlawful_82 (by decide) ?_
            refine zz_iadd M dX7_firstUnlawful_83 ?_
            refine zz_topi (fun x103 ex103 => ?_)
            have h := h x103 ex103
            refine zz_istore_n M [(3, .int x103), (5, .int 0), (0, .ref (ad 0)), (1, .ref (ad (65 + i1))), (2, .int x2), (4, .int x4)] dX7_firstUnlawful_84 rfl (by decide) rfl ?_
            obtain ⟨x104, ex104⟩ : ∃ z : Int32, z = x4 + 1 := ⟨_, rfl⟩
            have h := h x104 ex104
            refine zz_iinc M [(4, .int x104), (3, .int x103), (5, .int 0), (0, .ref (ad 0)), (1, .ref (ad (65 + i1))), (2, .int x2)] 5 dX7_firstUnlawful_85 rfl (n32 := 1) (by decide) ex104 (by decide) rfl ?_
            refine zz_goto M 5 dX7_firstUnlawful_88 (by decide) ?_
            refine zz_sub [(0, .ref (ad 0)), (1, .ref (ad (65 + i1))), (2, .int x2), (3, .int x103), (4, .int x104)] [3, 4, 5, 1, 0] rfl ?_
            exact ih _ _ _ h
        · have h := zifn (c := x4 ≤ 0) h c
          refine zz_aload_n M 1 dX7_firstUnlawful_23 rfl rfl ?_
          refine zz_iload M 4 dX7_firstUnlawful_24 rfl ?_
          refine zz_iald M (tX_Sheet_cells hi1) h.1 dX7_firstUnlawful_26 ?_
          have h := h.2
          refine zz_aload_n M 1 dX7_firstUnlawful_27 rfl rfl ?_
          refine zz_iload M 4 dX7_firstUnlawful_28 rfl ?_
          refine zz_iconst (v := 1) M dX7_firstUnlawful_30 (by decide) ?_
          refine zz_isub M dX7_firstUnlawful_31 ?_
          refine zz_iald M (tX_Sheet_cells hi1) h.1 dX7_firstUnlawful_32 ?_
          have h := h.2
          refine zz_icmp_eq M 40 dX7_firstUnlawful_33 (by decide) (fun c => ?_) (fun c => ?_)
          · have h := zif (c := (σ.1 (65 + i1) x4.toNatClampNeg) = (σ.1 (65 + i1) (x4 - 1 : Int32).toNatClampNeg)) h c
            refine zz_iconst (v := 0) M dX7_firstUnlawful_40 (by decide) ?_
            refine zz_istore M [(5, .int 0), (0, .ref (ad 0)), (1, .ref (ad (65 + i1))), (2, .int x2), (3, .int x3), (4, .int x4)] dX7_firstUnlawful_41 (by decide) rfl ?_
            refine zz_aload_n M 2 dX7_firstUnlawful_43 rfl rfl ?_
            refine zz_iload M 5 dX7_firstUnlawful_44 rfl ?_
            refine zz_iald M (tX_Sheet_cells hi1) h.1 dX7_firstUnlawful_46 ?_
            have h := h.2
            refine zz_callSI (d' := 1) (As := [.int (σ.1 (65 + i1) x4.toNatClampNeg)]) (rest := []) M l_X7_104 dX7_firstUnlawful_47 rfl rfl (by decide) (Nat.le_of_ble_eq_true rfl) (by have hI := M.2.2.2.2.2.2.2.2; exact kX7_isBridge hI _  _ _ h) (fun r105 σ106 h => ?_)
            refine zz_if_eq (y0 := 0) M 69 dX7_firstUnlawful_50 (by decide) (fun c => ?_) (fun c => ?_)
            · have h := zif (c := r105 = 0) h c
              refine zz_sub [(4, .int x4)] [5] rfl ?_
              exact hK69 _ _ h
            · have h := zifn (c := r105 = 0) h c
              refine zz_iload M 0 dX7_firstUnlawful_53 rfl ?_
              refine zz_if_eq (y0 := 0) M 72 dX7_firstUnlawful_55 (by decide) (fun c => ?_) (fun c => absurd c (by decide))
              refine zz_iload M 0 dX7_firstUnlawful_72 rfl ?_
              refine zz_if_eq (y0 := 0) M 81 dX7_firstUnlawful_74 (by decide) (fun c => ?_) (fun c => absurd c (by decide))
              refine zz_iload_n M 4 dX7_firstUnlawful_81 rfl rfl ?_
              refine zz_iconst (v := 1) M dX7_firstUnlawful_82 (by decide) ?_
              refine zz_iadd M dX7_firstUnlawful_83 ?_
              refine zz_topi (fun x107 ex107 => ?_)
              have h := h x107 ex107
              refine zz_istore_n M [(3, .int x107), (5, .int 0), (0, .ref (ad 0)), (1, .ref (ad (65 + i1))), (2, .int x2), (4, .int x4)] dX7_firstUnlawful_84 rfl (by decide) rfl ?_
              obtain ⟨x108, ex108⟩ : ∃ z : Int32, z = x4 + 1 := ⟨_, rfl⟩
              have h := h x108 ex108
              refine zz_iinc M [(4, .int x108), (3, .int x107), (5, .int 0), (0, .ref (ad 0)), (1, .ref (ad (65 + i1))), (2, .int x2)] 5 dX7_firstUnlawful_85 rfl (n32 := 1) (by decide) ex108 (by decide) rfl ?_
              refine zz_goto M 5 dX7_firstUnlawful_88 (by decide) ?_
              refine zz_sub [(0, .ref (ad 0)), (1, .ref (ad (65 + i1))), (2, .int x2), (3, .int x107), (4, .int x108)] [3, 4, 5, 1, 0] rfl ?_
              exact ih _ _ _ h
          · have h := zifn (c := (σ.1 (65 + i1) x4.toNatClampNeg) = (σ.1 (65 + i1) (x4 - 1 : Int32).toNatClampNeg)) h c
            refine zz_iconst (v := 1) M dX7_firstUnlawful_36 (by decide) ?_
            refine zz_goto M 41 dX7_firstUnlawful_37 (by decide) ?_
            refine zz_istore M [(5, .int 1), (0, .ref (ad 0)), (1, .ref (ad (65 + i1))), (2, .int x2), (3, .int x3), (4, .int x4)] dX7_firstUnlawful_41 (by decide) rfl ?_
            refine zz_aload_n M 2 dX7_firstUnlawful_43 rfl rfl ?_
            refine zz_iload M 5 dX7_firstUnlawful_44 rfl ?_
            refine zz_iald M (tX_Sheet_cells hi1) h.1 dX7_firstUnlawful_46 ?_
            have h := h.2
            refine zz_callSI (d' := 1) (As := [.int (σ.1 (65 + i1) x4.toNatClampNeg)]) (rest := []) M l_X7_104 dX7_firstUnlawful_47 rfl rfl (by decide) (Nat.le_of_ble_eq_true rfl) (by have hI := M.2.2.2.2.2.2.2.2; exact kX7_isBridge hI _  _ _ h) (fun r109 σ110 h => ?_)
            refine zz_if_eq (y0 := 0) M 69 dX7_firstUnlawful_50 (by decide) (fun c => ?_) (fun c => ?_)
            · have h := zif (c := r109 = 0) h c
              refine zz_sub [(4, .int x4)] [5] rfl ?_
              exact hK69 _ _ h
            · have h := zifn (c := r109 = 0) h c
              refine zz_iload M 0 dX7_firstUnlawful_53 rfl ?_
              refine zz_if_eq (y0 := 0) M 72 dX7_firstUnlawful_55 (by decide) (fun c => absurd c (by decide)) (fun c => ?_)
              refine zz_iload_n M 4 dX7_firstUnlawful_58 rfl rfl ?_
              refine zz_aload_n M 1 dX7_firstUnlawful_59 rfl rfl ?_
              refine zz_getR M f_X7_12 tX_0 rfl dX7_firstUnlawful_60 ?_
              refine zz_getI M f_X7_136 tX_1 rfl dX7_firstUnlawful_63 ?_
              refine zz_icmp_ge M 72 dX7_firstUnlawful_66 (by decide) (fun c => ?_) (fun c => ?_)
              · have h := zif (c := (σ110.1 1 8) ≤ x3) h c
                refine zz_iload M 0 dX7_firstUnlawful_72 rfl ?_
                refine zz_if_eq (y0 := 0) M 81 dX7_firstUnlawful_74 (by decide) (fun c => absurd c (by decide)) (fun c => ?_)
                refine zz_iconst (v := 1) M dX7_firstUnlawful_77 (by decide) ?_
                refine zz_goto M 84 dX7_firstUnlawful_78 (by decide) ?_
                refine zz_istore_n M [(3, .int 1), (5, .int 1), (0, .ref (ad 0)), (1, .ref (ad (65 + i1))), (2, .int x2), (4, .int x4)] dX7_firstUnlawful_84 rfl (by decide) rfl ?_
                obtain ⟨x111, ex111⟩ : ∃ z : Int32, z = x4 + 1 := ⟨_, rfl⟩
                have h := h x111 ex111
                refine zz_iinc M [(4, .int x111), (3, .int 1), (5, .int 1), (0, .ref (ad 0)), (1, .ref (ad (65 + i1))), (2, .int x2)] 5 dX7_firstUnlawful_85 rfl (n32 := 1) (by decide) ex111 (by decide) rfl ?_
                refine zz_goto M 5 dX7_firstUnlawful_88 (by decide) ?_
                refine zz_sub [(0, .ref (ad 0)), (1, .ref (ad (65 + i1))), (2, .int x2), (3, .int 1), (4, .int x111)] [3, 4, 5, 1, 0] rfl ?_
                exact ih _ _ _ h
              · have h := zifn (c := (σ110.1 1 8) ≤ x3) h c
                refine zz_sub [(4, .int x4)] [5] rfl ?_
                exact hK69 _ _ h
def wX7_firstUnlawful_Sheetcells (i1 : Nat) (x2 : Int32) (σ : zSt) (Q : Int32 → zSt → Prop) : Prop := wX7_firstUnlawful_Sheetcells_L5 Q (fun v112 σ113 => Q v112 σ113) (fun  σ114 => Q (-1) σ114) i1 x2 300 0 0 σ
set_option maxRecDepth 20000 in
set_option maxHeartbeats 4000000 in
theorem kX7_firstUnlawful_Sheetcells (hI : zInj tabX ad) (i1 : Nat) (x2 : Int32) (hi1 : i1 < 4) (σ : zSt) (Q : Int32 → zSt → Prop) (h : wX7_firstUnlawful_Sheetcells i1 x2 σ Q) : zOkI l tabX D cA ad y 2 yX7_firstUnlawful cX7_firstUnlawful 6 (some .int) [.ref (ad 0), .ref (ad (65 + i1)), .int x2] σ Q := by
  refine zz_enter hI (by decide) (Nat.le_of_ble_eq_true rfl) (fun p e s m below meth c M => ?_)
  have M : zM p s m _ meth c cX7_firstUnlawful 6 RX7 (some .int) tabX D cA ad y := M
  refine zz_ls [(0, .ref (ad 0)), (1, .ref (ad (65 + i1))), (2, .int x2)] rfl ?_
  unfold wX7_firstUnlawful_Sheetcells at h
  refine zz_iconst (v := 0) M dX7_firstUnlawful_0 (by decide) ?_
  refine zz_istore_n M [(3, .int 0), (0, .ref (ad 0)), (1, .ref (ad (65 + i1))), (2, .int x2)] dX7_firstUnlawful_1 rfl (by decide) rfl ?_
  refine zz_iconst (v := 0) M dX7_firstUnlawful_2 (by decide) ?_
  refine zz_istore M [(4, .int 0), (3, .int 0), (0, .ref (ad 0)), (1, .ref (ad (65 + i1))), (2, .int x2)] dX7_firstUnlawful_3 (by decide) rfl ?_
  refine zz_sub [(0, .ref (ad 0)), (1, .ref (ad (65 + i1))), (2, .int x2), (3, .int 0), (4, .int 0)] [2, 3, 4, 1, 0] rfl ?_
  refine sX7_firstUnlawful_Sheetcells_L5 i1 x2 hi1 M (fun v112 σ113 h => ?_) (fun  σ114 h => ?_) 300 _ _ _ h
  · refine zz_iload M 0 dX7_firstUnlawful_69 rfl ?_
    exact zz_iret M dX7_firstUnlawful_71 h
  · refine zz_iconst (v := (-1)) M dX7_firstUnlawful_91 (by decide) ?_
    exact zz_iret M dX7_firstUnlawful_92 h
def wX7_judge (x1 : Int32) (σ : zSt) (Q : Int32 → zSt → Prop) : Prop := wX7_tellingRefusal x1 σ (fun r101 σ102 => if r101 = 0 then (vp_in x1 4 ∧ (vp_in x1 4 ∧ (wX7_firstUnlawful_Sheetcells (x1.toNatClampNeg) (σ102.1 (61 + x1.toNatClampNeg) 2) σ102 (fun r105 σ106 => Q r105 σ106)))) else (Q r101 σ102))
set_option maxRecDepth 20000 in
set_option maxHeartbeats 4000000 in
theorem kX7_judge (hI : zInj tabX ad) (x1 : Int32)  (σ : zSt) (Q : Int32 → zSt → Prop) (h : wX7_judge x1 σ Q) : zOkI l tabX D cA ad y 3 yX7_judge cX7_judge 3 (some .int) [.ref (ad 0), .int x1] σ Q := by
  refine zz_enter hI (by decide) (Nat.le_of_ble_eq_true rfl) (fun p e s m below meth c M => ?_)
  have M : zM p s m _ meth c cX7_judge 3 RX7 (some .int) tabX D cA ad y := M
  refine zz_ls [(0, .ref (ad 0)), (1, .int x1)] rfl ?_
  unfold wX7_judge at h
  refine zz_aload_n M 0 dX7_judge_0 rfl rfl ?_
  refine zz_iload_n M 1 dX7_judge_1 rfl rfl ?_
  refine zz_callVI (d' := 2) (As := [.int x1]) (rest := []) M l_X7_222 tX_0 rfl rfl dX7_judge_2 rfl rfl (by decide) (Nat.le_of_ble_eq_true rfl) (by have hI := M.2.2.2.2.2.2.2.2; exact kX7_tellingRefusal hI _  _ _ h) (fun r101 σ102 h => ?_)
  refine zz_istore_n M [(2, .int r101), (0, .ref (ad 0)), (1, .int x1)] dX7_judge_5 rfl (by decide) rfl ?_
  refine zz_iload_n M 0 dX7_judge_6 rfl rfl ?_
  refine zz_if_eq (y0 := 0) M 12 dX7_judge_7 (by decide) (fun c => ?_) (fun c => ?_)
  · have h := zif (c := r101 = 0) h c
    refine zz_aload_n M 1 dX7_judge_12 rfl rfl ?_
    refine zz_aload_n M 1 dX7_judge_13 rfl rfl ?_
    refine zz_getR M f_X7_49 tX_0 rfl dX7_judge_14 ?_
    refine zz_iload_n M 2 dX7_judge_17 rfl rfl ?_
    have hq103 := h.1
    refine zz_aald M tX_23 (by decide) hq103 dX7_judge_18 ?_
    have h := h.2
    refine zz_getR M f_X7_225 (tX_Sheet (zclt hq103)) rfl dX7_judge_19 ?_
    refine zz_aload_n M 1 dX7_judge_22 rfl rfl ?_
    refine zz_getR M f_X7_49 tX_0 rfl dX7_judge_23 ?_
    refine zz_iload_n M 2 dX7_judge_26 rfl rfl ?_
    have hq104 := h.1
    refine zz_aald M tX_23 (by decide) hq104 dX7_judge_27 ?_
    have h := h.2
    refine zz_getI M f_X7_228 (tX_Sheet (zclt hq104)) rfl dX7_judge_28 ?_
    refine zz_callVI (d' := 2) (As := [.ref (ad (65 + x1.toNatClampNeg)), .int (σ102.1 (61 + x1.toNatClampNeg) 2)]) (rest := []) M l_X7_178 tX_0 rfl rfl dX7_judge_31 rfl rfl (by decide) (Nat.le_of_ble_eq_true rfl) (by have hI := M.2.2.2.2.2.2.2.2; exact kX7_firstUnlawful_Sheetcells hI _ _ (zclt hq103) _ _ h) (fun r105 σ106 h => ?_)
    exact zz_iret M dX7_judge_34 h
  · have h := zifn (c := r101 = 0) h c
    refine zz_iload_n M 0 dX7_judge_10 rfl rfl ?_
    exact zz_iret M dX7_judge_11 h
def wX5_tells_39_L2 (Q : Int32 → zSt → Prop) (K28 : zSt → Prop) (K36 : zSt → Prop) (i0 : Nat) : Nat → Int32 → zSt → Prop
  | 0, _, _ => False
  | n + 1, x2, σ => if (σ.1 (61 + i0) 2) ≤ x2 then (K36  σ) else (if 24 ≤ x2 then (K36  σ) else (vp_in x2 40 ∧ (vp_in x2 24 ∧ (if (σ.1 (65 + i0) x2.toNatClampNeg) = (σ.1 39 x2.toNatClampNeg) then (∀ x101 : Int32, x101 = x2 + 1 → (wX5_tells_39_L2 Q K28 K36 i0 n x101 σ)) else (K28  σ)))))
set_option maxRecDepth 20000 in
set_option maxHeartbeats 4000000 in
theorem sX5_tells_39_L2 {Q : Int32 → zSt → Prop} {K28 : zSt → Prop} {K36 : zSt → Prop} (i0 : Nat) (hi0 : i0 < 4) (M : zM p s m args meth c cX5_tells 3 RX5 (some .boolean) tabX D cA ad y) (hK28 : ∀ (σ : zSt), K28  σ → zG p l e (zrm 1) s m args below meth c 3 tabX D cA ad (MQ below (va_Qi Q (fun σ' t => va_P D vwCl (zws tabX cA ad σ') t.heap) (zIn tabX ad)) args s 0 0 (zIn tabX ad)) 28 [] [] σ) (hK36 : ∀ (σ : zSt), K36  σ → zG p l e (zrm 1) s m args below meth c 3 tabX D cA ad (MQ below (va_Qi Q (fun σ' t => va_P D vwCl (zws tabX cA ad σ') t.heap) (zIn tabX ad)) args s 0 0 (zIn tabX ad)) 36 [] [] σ) : ∀ (n : Nat) (x2 : Int32) (σ : zSt), wX5_tells_39_L2 Q K28 K36 i0 n x2 σ → zG p l e (zrm 1) s m args below meth c 3 tabX D cA ad (MQ below (va_Qi Q (fun σ' t => va_P D vwCl (zws tabX cA ad σ') t.heap) (zIn tabX ad)) args s 0 0 (zIn tabX ad)) 2 [(0, .ref (ad (61 + i0))), (1, .ref (ad 39)), (2, .int x2)] [] σ := by
  intro n
  induction n with
  | zero => intro x2 σ h; exact absurd h (by simp [wX5_tells_39_L2])
  | succ n ih =>
    intro x2 σ h
    unfold wX5_tells_39_L2 at h
    refine zz_iload_n M 2 dX5_tells_2 rfl rfl ?_
    refine zz_aload_n M 0 dX5_tells_3 rfl rfl ?_
    refine zz_getI M f_X5_19 (tX_Sheet hi0) rfl dX5_tells_4 ?_
    refine zz_icmp_ge M 36 dX5_tells_7 (by decide) (fun c => ?_) (fun c => ?_)
    · have h := zif (c := (σ.1 (61 + i0) 2) ≤ x2) h c
      refine zz_sub [] [] rfl ?_
      exact hK36  _ h
    · have h := zifn (c := (σ.1 (61 + i0) 2) ≤ x2) h c
      refine zz_iload_n M 2 dX5_tells_10 rfl rfl ?_
      refine zz_aload_n M 1 dX5_tells_11 rfl rfl ?_
      refine zz_alen (v := 24) M tX_39 (by decide) (by decide) dX5_tells_12 ?_
      refine zz_icmp_ge M 36 dX5_tells_13 (by decide) (fun c => ?_) (fun c => ?_)
      · have h := zif (c := 24 ≤ x2) h c
        refine zz_sub [] [] rfl ?_
        exact hK36  _ h
      · have h := zifn (c := 24 ≤ x2) h c
        refine zz_aload_n M 0 dX5_tells_16 rfl rfl ?_
        refine zz_getR M f_X5_9 (tX_Sheet hi0) rfl dX5_tells_17 ?_
        refine zz_iload_n M 2 dX5_tells_20 rfl rfl ?_
        refine zz_iald M (tX_Sheet_cells hi0) h.1 dX5_tells_21 ?_
        have h := h.2
        refine zz_aload_n M 1 dX5_tells_22 rfl rfl ?_
        refine zz_iload_n M 2 dX5_tells_23 rfl rfl ?_
        refine zz_iald M tX_39 h.1 dX5_tells_24 ?_
        have h := h.2
        refine zz_icmp_eq M 30 dX5_tells_25 (by decide) (fun c => ?_) (fun c => ?_)
        · have h := zif (c := (σ.1 (65 + i0) x2.toNatClampNeg) = (σ.1 39 x2.toNatClampNeg)) h c
          obtain ⟨x101, ex101⟩ : ∃ z : Int32, z = x2 + 1 := ⟨_, rfl⟩
          have h := h x101 ex101
          refine zz_iinc M [(2, .int x101), (0, .ref (ad (61 + i0))), (1, .ref (ad 39))] 2 dX5_tells_30 rfl (n32 := 1) (by decide) ex101 (by decide) rfl ?_
          refine zz_goto M 2 dX5_tells_33 (by decide) ?_
          refine zz_sub [(0, .ref (ad (61 + i0))), (1, .ref (ad 39)), (2, .int x101)] [1, 2, 0] rfl ?_
          exact ih _ _ h
        · have h := zifn (c := (σ.1 (65 + i0) x2.toNatClampNeg) = (σ.1 39 x2.toNatClampNeg)) h c
          refine zz_sub [] [] rfl ?_
          exact hK28  _ h
def wX5_tells_39 (i0 : Nat) (σ : zSt) (Q : Int32 → zSt → Prop) : Prop := wX5_tells_39_L2 Q (fun  σ102 => Q 0 σ102) (fun  σ103 => Q 1 σ103) i0 300 0 σ
set_option maxRecDepth 20000 in
set_option maxHeartbeats 4000000 in
theorem kX5_tells_39 (hI : zInj tabX ad) (i0 : Nat) (hi0 : i0 < 4) (σ : zSt) (Q : Int32 → zSt → Prop) (h : wX5_tells_39 i0 σ Q) : zOkI l tabX D cA ad y 1 yX5_tells cX5_tells 3 (some .boolean) [.ref (ad (61 + i0)), .ref (ad 39)] σ Q := by
  refine zz_enter hI (by decide) (Nat.le_of_ble_eq_true rfl) (fun p e s m below meth c M => ?_)
  have M : zM p s m _ meth c cX5_tells 3 RX5 (some .boolean) tabX D cA ad y := M
  refine zz_ls [(0, .ref (ad (61 + i0))), (1, .ref (ad 39))] rfl ?_
  unfold wX5_tells_39 at h
  refine zz_iconst (v := 0) M dX5_tells_0 (by decide) ?_
  refine zz_istore_n M [(2, .int 0), (0, .ref (ad (61 + i0))), (1, .ref (ad 39))] dX5_tells_1 rfl (by decide) rfl ?_
  refine zz_sub [(0, .ref (ad (61 + i0))), (1, .ref (ad 39)), (2, .int 0)] [1, 2, 0] rfl ?_
  refine sX5_tells_39_L2 i0 hi0 M (fun  σ102 h => ?_) (fun  σ103 h => ?_) 300 _ _ h
  · refine zz_iconst (v := 0) M dX5_tells_28 (by decide) ?_
    exact zz_zret M dX5_tells_29 (Or.inl rfl) h
  · refine zz_iconst (v := 1) M dX5_tells_36 (by decide) ?_
    exact zz_zret M dX5_tells_37 (Or.inr rfl) h
def wX7_who_L17 (Q : Int32 → zSt → Prop) (K70 : Int32 → zSt → Prop) (x1 : Int32) : Nat → Int32 → Int32 → zSt → Prop
  | 0, _, _, _ => False
  | n + 1, x3, x4, σ => if (σ.1 1 7) ≤ x4 then (K70 x3 σ) else (wX2_steer x4 σ (fun σ104 => vp_in x1 4 ∧ (wX5_tells_39 (x1.toNatClampNeg) σ104 (fun r106 σ107 => if r106 = 0 then (∀ x108 : Int32, x108 = x4 + 1 → (wX7_who_L17 Q K70 x1 n x3 x108 σ107)) else (∀ x109 : Int32, x109 = (x3 ||| (1 <<< (x4 &&& 31))) → (∀ x110 : Int32, x110 = x4 + 1 → (wX7_who_L17 Q K70 x1 n x109 x110 σ107)))))))
set_option maxRecDepth 20000 in
set_option maxHeartbeats 4000000 in
theorem sX7_who_L17 {Q : Int32 → zSt → Prop} {K70 : Int32 → zSt → Prop} (x1 : Int32)  (M : zM p s m args meth c cX7_who 5 RX7 (some .int) tabX D cA ad y) (hK70 : ∀ (v3 : Int32) (σ : zSt), K70 v3 σ → zG p l e (zrm 5) s m args below meth c 5 tabX D cA ad (MQ below (va_Qi Q (fun σ' t => va_P D vwCl (zws tabX cA ad σ') t.heap) (zIn tabX ad)) args s 0 0 (zIn tabX ad)) 70 [(3, .int v3)] [] σ) : ∀ (n : Nat) (x3 : Int32) (x4 : Int32) (σ : zSt), wX7_who_L17 Q K70 x1 n x3 x4 σ → zG p l e (zrm 5) s m args below meth c 5 tabX D cA ad (MQ below (va_Qi Q (fun σ' t => va_P D vwCl (zws tabX cA ad σ') t.heap) (zIn tabX ad)) args s 0 0 (zIn tabX ad)) 17 [(0, .ref (ad 0)), (1, .int x1), (3, .int x3), (4, .int x4)] [] σ := by
  intro n
  induction n with
  | zero => intro x3 x4 σ h; exact absurd h (by simp [wX7_who_L17])
  | succ n ih =>
    intro x3 x4 σ h
    unfold wX7_who_L17 at h
    refine zz_iload M 3 dX7_who_17 rfl ?_
    refine zz_aload_n M 0 dX7_who_19 rfl rfl ?_
    refine zz_getR M f_X7_12 tX_0 rfl dX7_who_20 ?_
    refine zz_getI M f_X7_162 tX_1 rfl dX7_who_23 ?_
    refine zz_icmp_ge M 70 dX7_who_26 (by decide) (fun c => ?_) (fun c => ?_)
    · have h := zif (c := (σ.1 1 7) ≤ x4) h c
      refine zz_sub [(3, .int x3)] [2] rfl ?_
      exact hK70 _ _ h
    · have h := zifn (c := (σ.1 1 7) ≤ x4) h c
      refine zz_aload_n M 0 dX7_who_29 rfl rfl ?_
      refine zz_getR M f_X7_76 tX_0 rfl dX7_who_30 ?_
      refine zz_iload M 3 dX7_who_33 rfl ?_
      refine zz_callVV (d' := 4) (As := [.int x4]) (rest := []) M l_X7_203 tX_38 rfl rfl dX7_who_35 rfl rfl (by decide) (Nat.le_of_ble_eq_true rfl) (by have hI := M.2.2.2.2.2.2.2.2; exact kX2_steer hI _  _ _ h) (fun σ104 h => ?_)
      refine zz_aload_n M 0 dX7_who_38 rfl rfl ?_
      refine zz_getR M f_X7_49 tX_0 rfl dX7_who_39 ?_
      refine zz_iload_n M 1 dX7_who_42 rfl rfl ?_
      have hq105 := h.1
      refine zz_aald M tX_23 (by decide) hq105 dX7_who_43 ?_
      have h := h.2
      refine zz_aload_n M 0 dX7_who_44 rfl rfl ?_
      refine zz_getR M f_X7_76 tX_0 rfl dX7_who_45 ?_
      refine zz_getR M f_X7_207 tX_38 rfl dX7_who_48 ?_
      refine zz_callVI (d' := 1) (As := [.ref (ad 39)]) (rest := []) M l_X7_231 (tX_Sheet (zclt hq105)) rfl rfl dX7_who_51 rfl rfl (by decide) (Nat.le_of_ble_eq_true rfl) (by have hI := M.2.2.2.2.2.2.2.2; exact kX5_tells_39 hI _ (zclt hq105) _ _ h) (fun r106 σ107 h => ?_)
      refine zz_if_eq (y0 := 0) M 64 dX7_who_54 (by decide) (fun c => ?_) (fun c => ?_)
      · have h := zif (c := r106 = 0) h c
        obtain ⟨x108, ex108⟩ : ∃ z : Int32, z = x4 + 1 := ⟨_, rfl⟩
        have h := h x108 ex108
        refine zz_iinc M [(4, .int x108), (0, .ref (ad 0)), (1, .int x1), (3, .int x3)] 3 dX7_who_64 rfl (n32 := 1) (by decide) ex108 (by decide) rfl ?_
        refine zz_goto M 17 dX7_who_67 (by decide) ?_
        refine zz_sub [(0, .ref (ad 0)), (1, .int x1), (3, .int x3), (4, .int x108)] [1, 2, 3, 0] rfl ?_
        exact ih _ _ _ h
      · have h := zifn (c := r106 = 0) h c
        refine zz_iload_n M 2 dX7_who_57 rfl rfl ?_
        refine zz_iconst (v := 1) M dX7_who_58 (by decide) ?_
        refine zz_iload M 3 dX7_who_59 rfl ?_
        refine zz_ishl M dX7_who_61 ?_
        refine zz_ior M dX7_who_62 ?_
        refine zz_topi (fun x109 ex109 => ?_)
        have h := h x109 ex109
        refine zz_istore_n M [(3, .int x109), (0, .ref (ad 0)), (1, .int x1), (4, .int x4)] dX7_who_63 rfl (by decide) rfl ?_
        obtain ⟨x110, ex110⟩ : ∃ z : Int32, z = x4 + 1 := ⟨_, rfl⟩
        have h := h x110 ex110
        refine zz_iinc M [(4, .int x110), (3, .int x109), (0, .ref (ad 0)), (1, .int x1)] 3 dX7_who_64 rfl (n32 := 1) (by decide) ex110 (by decide) rfl ?_
        refine zz_goto M 17 dX7_who_67 (by decide) ?_
        refine zz_sub [(0, .ref (ad 0)), (1, .int x1), (3, .int x109), (4, .int x110)] [2, 3, 1, 0] rfl ?_
        exact ih _ _ _ h
def wX7_who (x1 : Int32) (σ : zSt) (Q : Int32 → zSt → Prop) : Prop := wX7_tellingRefusal x1 σ (fun r101 σ102 => if r101 = 0 then (wX7_who_L17 Q (fun v111 σ112 => Q v111 σ112) x1 300 0 0 σ102) else (Q r101 σ102))
set_option maxRecDepth 20000 in
set_option maxHeartbeats 4000000 in
theorem kX7_who (hI : zInj tabX ad) (x1 : Int32)  (σ : zSt) (Q : Int32 → zSt → Prop) (h : wX7_who x1 σ Q) : zOkI l tabX D cA ad y 5 yX7_who cX7_who 5 (some .int) [.ref (ad 0), .int x1] σ Q := by
  refine zz_enter hI (by decide) (Nat.le_of_ble_eq_true rfl) (fun p e s m below meth c M => ?_)
  have M : zM p s m _ meth c cX7_who 5 RX7 (some .int) tabX D cA ad y := M
  refine zz_ls [(0, .ref (ad 0)), (1, .int x1)] rfl ?_
  unfold wX7_who at h
  refine zz_aload_n M 0 dX7_who_0 rfl rfl ?_
  refine zz_iload_n M 1 dX7_who_1 rfl rfl ?_
  refine zz_callVI (d' := 2) (As := [.int x1]) (rest := []) M l_X7_222 tX_0 rfl rfl dX7_who_2 rfl rfl (by decide) (Nat.le_of_ble_eq_true rfl) (by have hI := M.2.2.2.2.2.2.2.2; exact kX7_tellingRefusal hI _  _ _ h) (fun r101 σ102 h => ?_)
  refine zz_istore_n M [(2, .int r101), (0, .ref (ad 0)), (1, .int x1)] dX7_who_5 rfl (by decide) rfl ?_
  refine zz_iload_n M 0 dX7_who_6 rfl rfl ?_
  refine zz_if_eq (y0 := 0) M 12 dX7_who_7 (by decide) (fun c => ?_) (fun c => ?_)
  · have h := zif (c := r101 = 0) h c
    refine zz_iconst (v := 0) M dX7_who_12 (by decide) ?_
    refine zz_istore_n M [(3, .int 0), (2, .int r101), (0, .ref (ad 0)), (1, .int x1)] dX7_who_13 rfl (by decide) rfl ?_
    refine zz_iconst (v := 0) M dX7_who_14 (by decide) ?_
    refine zz_istore M [(4, .int 0), (3, .int 0), (2, .int r101), (0, .ref (ad 0)), (1, .int x1)] dX7_who_15 (by decide) rfl ?_
    refine zz_sub [(0, .ref (ad 0)), (1, .int x1), (3, .int 0), (4, .int 0)] [3, 4, 1, 0] rfl ?_
    refine sX7_who_L17 x1  M (fun v111 σ112 h => ?_) 300 _ _ _ h
    refine zz_iload_n M 0 dX7_who_70 rfl rfl ?_
    exact zz_iret M dX7_who_71 h
  · have h := zifn (c := r101 = 0) h c
    refine zz_iload_n M 0 dX7_who_10 rfl rfl ?_
    exact zz_iret M dX7_who_11 h
def wX7_draw_L4 (Q : zSt → Prop) (K38 : zSt → Prop)  : Nat → Int32 → Int32 → zSt → Prop
  | 0, _, _, _ => False
  | n + 1, x2, x3, σ => if 24 ≤ x3 then (K38  σ) else (∀ x101 : Int32, x101 = ((x2 * 1103515245) + 12345) → (vp_in x3 24 ∧ (∀ σ102 : zSt, σ102 = zput σ 42 x3.toNatClampNeg (((x101.toUInt32 >>> ((8 : Int32).toUInt32 &&& Int32.toUInt32 31)).toInt32) - ((x101.toUInt32 >>> ((8 : Int32).toUInt32 &&& Int32.toUInt32 31)).toInt32) / 3 * 3) → (∀ x103 : Int32, x103 = x3 + 1 → (wX7_draw_L4 Q K38  n x101 x103 σ102)))))
set_option maxRecDepth 20000 in
set_option maxHeartbeats 4000000 in
theorem sX7_draw_L4 {Q : zSt → Prop} {K38 : zSt → Prop}   (M : zM p s m args meth c cX7_draw 4 RX7 none tabX D cA ad y) (hK38 : ∀ (σ : zSt), K38  σ → zG p l e (zrm 1) s m args below meth c 4 tabX D cA ad (MQ below (va_Qv Q (fun σ' t => va_P D vwCl (zws tabX cA ad σ') t.heap) (zIn tabX ad)) args s 0 0 (zIn tabX ad)) 38 [] [] σ) : ∀ (n : Nat) (x2 : Int32) (x3 : Int32) (σ : zSt), wX7_draw_L4 Q K38  n x2 x3 σ → zG p l e (zrm 1) s m args below meth c 4 tabX D cA ad (MQ below (va_Qv Q (fun σ' t => va_P D vwCl (zws tabX cA ad σ') t.heap) (zIn tabX ad)) args s 0 0 (zIn tabX ad)) 4 [(0, .ref (ad 0)), (2, .int x2), (3, .int x3)] [] σ := by
  intro n
  induction n with
  | zero => intro x2 x3 σ h; exact absurd h (by simp [wX7_draw_L4])
  | succ n ih =>
    intro x2 x3 σ h
    unfold wX7_draw_L4 at h
    refine zz_iload_n M 2 dX7_draw_4 rfl rfl ?_
    refine zz_bipush (v := 24) M dX7_draw_5 (by decide) ?_
    refine zz_icmp_ge M 38 dX7_draw_7 (by decide) (fun c => ?_) (fun c => ?_)
    · have h := zif (c := 24 ≤ x3) h c
      refine zz_sub [] [] rfl ?_
      exact hK38  _ h
    · have h := zifn (c := 24 ≤ x3) h c
      refine zz_iload_n M 1 dX7_draw_10 rfl rfl ?_
      refine zz_ldcw (v := 1103515245) M k_X7_284 dX7_draw_11 ?_
      refine zz_imul M dX7_draw_14 ?_
      refine zz_sipush (v := 12345) M dX7_draw_15 (by decide) ?_
      refine zz_iadd M dX7_draw_18 ?_
      refine zz_topi (fun x101 ex101 => ?_)
      have h := h x101 ex101
      refine zz_istore_n M [(2, .int x101), (0, .ref (ad 0)), (3, .int x3)] dX7_draw_19 rfl (by decide) rfl ?_
      refine zz_aload_n M 1 dX7_draw_20 rfl rfl ?_
      refine zz_getR M f_X7_80 tX_0 rfl dX7_draw_21 ?_
      refine zz_iload_n M 2 dX7_draw_24 rfl rfl ?_
      refine zz_iload_n M 0 dX7_draw_25 rfl rfl ?_
      refine zz_bipush (v := 8) M dX7_draw_26 (by decide) ?_
      refine zz_iushr M dX7_draw_28 ?_
      refine zz_iconst (v := 3) M dX7_draw_29 (by decide) ?_
      refine zz_irem M dX7_draw_30 (by decide) ?_
      refine zz_iast M tX_42 h.1 dX7_draw_31 ?_
      have h := h.2
      refine zz_sg (fun σ102 eσ102 => ?_)
      have h := h σ102 eσ102
      obtain ⟨x103, ex103⟩ : ∃ z : Int32, z = x3 + 1 := ⟨_, rfl⟩
      have h := h x103 ex103
      refine zz_iinc M [(3, .int x103), (2, .int x101), (0, .ref (ad 0))] 2 dX7_draw_32 rfl (n32 := 1) (by decide) ex103 (by decide) rfl ?_
      refine zz_goto M 4 dX7_draw_35 (by decide) ?_
      refine zz_sub [(0, .ref (ad 0)), (2, .int x101), (3, .int x103)] [2, 1, 0] rfl ?_
      exact ih _ _ _ h
def wX7_draw (x1 : Int32) (σ : zSt) (Q : zSt → Prop) : Prop := wX7_draw_L4 Q (fun  σ104 => Q σ104)  300 x1 0 σ
set_option maxRecDepth 20000 in
set_option maxHeartbeats 4000000 in
theorem kX7_draw (hI : zInj tabX ad) (x1 : Int32)  (σ : zSt) (Q : zSt → Prop) (h : wX7_draw x1 σ Q) : zOkV l tabX D cA ad y 1 yX7_draw cX7_draw 4 none [.ref (ad 0), .int x1] σ Q := by
  refine zz_enter hI (by decide) (Nat.le_of_ble_eq_true rfl) (fun p e s m below meth c M => ?_)
  have M : zM p s m _ meth c cX7_draw 4 RX7 none tabX D cA ad y := M
  refine zz_ls [(0, .ref (ad 0)), (1, .int x1)] rfl ?_
  unfold wX7_draw at h
  refine zz_iload_n M 1 dX7_draw_0 rfl rfl ?_
  refine zz_istore_n M [(2, .int x1), (0, .ref (ad 0)), (1, .int x1)] dX7_draw_1 rfl (by decide) rfl ?_
  refine zz_iconst (v := 0) M dX7_draw_2 (by decide) ?_
  refine zz_istore_n M [(3, .int 0), (2, .int x1), (0, .ref (ad 0)), (1, .int x1)] dX7_draw_3 rfl (by decide) rfl ?_
  refine zz_sub [(0, .ref (ad 0)), (2, .int x1), (3, .int 0)] [2, 1, 0] rfl ?_
  refine sX7_draw_L4   M (fun  σ104 h => ?_) 300 _ _ _ h
  exact zz_vret M dX7_draw_38 h
def wX7_drawn (x1 : Int32) (σ : zSt) (Q : Int32 → zSt → Prop) : Prop := wX7_draw x1 σ (fun σ102 => wX0_ofRow_42  σ102 (fun r103 σ104 => Q r103 σ104))
set_option maxRecDepth 20000 in
set_option maxHeartbeats 4000000 in
theorem kX7_drawn (hI : zInj tabX ad) (x1 : Int32)  (σ : zSt) (Q : Int32 → zSt → Prop) (h : wX7_drawn x1 σ Q) : zOkI l tabX D cA ad y 6 yX7_drawn cX7_drawn 2 (some .int) [.ref (ad 0), .int x1] σ Q := by
  refine zz_enter hI (by decide) (Nat.le_of_ble_eq_true rfl) (fun p e s m below meth c M => ?_)
  have M : zM p s m _ meth c cX7_drawn 2 RX7 (some .int) tabX D cA ad y := M
  refine zz_ls [(0, .ref (ad 0)), (1, .int x1)] rfl ?_
  unfold wX7_drawn at h
  refine zz_aload_n M 0 dX7_drawn_0 rfl rfl ?_
  refine zz_iload_n M 1 dX7_drawn_1 rfl rfl ?_
  refine zz_callVV (d' := 1) (As := [.int x1]) (rest := []) M l_X7_235 tX_0 rfl rfl dX7_drawn_2 rfl rfl (by decide) (Nat.le_of_ble_eq_true rfl) (by have hI := M.2.2.2.2.2.2.2.2; exact kX7_draw hI _  _ _ h) (fun σ102 h => ?_)
  refine zz_aload_n M 0 dX7_drawn_5 rfl rfl ?_
  refine zz_getR M f_X7_58 tX_0 rfl dX7_drawn_6 ?_
  refine zz_aload_n M 0 dX7_drawn_9 rfl rfl ?_
  refine zz_getR M f_X7_80 tX_0 rfl dX7_drawn_10 ?_
  refine zz_callVI (d' := 5) (As := [.ref (ad 42)]) (rest := []) M l_X7_171 tX_24 rfl rfl dX7_drawn_13 rfl rfl (by decide) (Nat.le_of_ble_eq_true rfl) (by have hI := M.2.2.2.2.2.2.2.2; exact kX0_ofRow_42 hI   _ _ h) (fun r103 σ104 h => ?_)
  exact zz_iret M dX7_drawn_16 h
end
