section
variable {p : Program} {l : Launch} {e : Env} {s : State} {m : MethodId} {args : Array Value} {below : List Frame} {meth : Method} {c : Code} {D : va_G} {cA : Nat → ClassId} {ad : Nat → Nat} {y : zX}
def wX4_addComer_L16 (Q : zSt → Prop) (K110 : zSt → Prop) (x1 : Int32) (x2 : Int32) (x3 : Int32) (x4 : Int32) : Nat → Int32 → zSt → Prop
  | 0, _, _ => False
  | n + 1, x5, σ => if 25 ≤ x5 then (K110  σ) else (∀ x104 : Int32, x104 = ((x3 * 25) + x5) → (if x4 = 0 then (if x1 < 4 then (vp_in x104 75 ∧ (vp_in x104 75 ∧ (∀ σ105 : zSt, σ105 = zput σ 35 x104.toNatClampNeg ((σ.1 35 x104.toNatClampNeg) ||| (1 <<< (x1 &&& 31))) → (∀ x106 : Int32, x106 = x5 + 1 → (wX4_addComer_L16 Q K110 x1 x2 x3 x4 n x106 σ105))))) else (vp_in x104 75 ∧ (vp_in ((x1 * 25) + x5) 200 ∧ (vp_in x104 75 ∧ (∀ σ107 : zSt, σ107 = zput σ 34 x104.toNatClampNeg ((σ.1 34 x104.toNatClampNeg) + (σ.1 29 ((x1 * 25) + x5 : Int32).toNatClampNeg)) → (∀ x108 : Int32, x108 = x5 + 1 → (wX4_addComer_L16 Q K110 x1 x2 x3 x4 n x108 σ107))))))) else (vp_in x104 75 ∧ (vp_in ((x1 * 25) + x2) 200 ∧ (vp_in x104 75 ∧ (∀ σ109 : zSt, σ109 = zput σ 34 x104.toNatClampNeg ((σ.1 34 x104.toNatClampNeg) + (σ.1 29 ((x1 * 25) + x2 : Int32).toNatClampNeg)) → (∀ x110 : Int32, x110 = x5 + 1 → (wX4_addComer_L16 Q K110 x1 x2 x3 x4 n x110 σ109))))))))
set_option maxRecDepth 20000 in
set_option maxHeartbeats 4000000 in
theorem sX4_addComer_L16 {Q : zSt → Prop} {K110 : zSt → Prop} (x1 : Int32) (x2 : Int32) (x3 : Int32) (x4 : Int32)  (M : zM p s m args meth c cX4_addComer 7 RX4 none tabX D cA ad y) (hK110 : ∀ (σ : zSt), K110  σ → zG p l e (zrm 2) s m args below meth c 7 tabX D cA ad (MQ below (va_Qv Q (fun σ' t => va_P D vwCl (zws tabX cA ad σ') t.heap) (zIn tabX ad)) args s 0 0 (zIn tabX ad)) 110 [] [] σ) : ∀ (n : Nat) (x5 : Int32) (σ : zSt), wX4_addComer_L16 Q K110 x1 x2 x3 x4 n x5 σ → zG p l e (zrm 2) s m args below meth c 7 tabX D cA ad (MQ below (va_Qv Q (fun σ' t => va_P D vwCl (zws tabX cA ad σ') t.heap) (zIn tabX ad)) args s 0 0 (zIn tabX ad)) 16 [(0, .ref (ad 28)), (1, .int x1), (2, .int x2), (3, .int x3), (4, .int x4), (5, .int x5)] [] σ := by
  intro n
  induction n with
  | zero => intro x5 σ h; exact absurd h (by simp [wX4_addComer_L16])
  | succ n ih =>
    intro x5 σ h
    unfold wX4_addComer_L16 at h
    refine zz_iload M 5 dX4_addComer_16 rfl ?_
    refine zz_bipush (v := 25) M dX4_addComer_18 (by decide) ?_
    refine zz_icmp_ge M 110 dX4_addComer_20 (by decide) (fun c => ?_) (fun c => ?_)
    · have h := zif (c := 25 ≤ x5) h c
      refine zz_sub [] [] rfl ?_
      exact hK110  _ h
    · have h := zifn (c := 25 ≤ x5) h c
      refine zz_iload_n M 3 dX4_addComer_23 rfl rfl ?_
      refine zz_bipush (v := 25) M dX4_addComer_24 (by decide) ?_
      refine zz_imul M dX4_addComer_26 ?_
      refine zz_iload M 5 dX4_addComer_27 rfl ?_
      refine zz_iadd M dX4_addComer_29 ?_
      refine zz_topi (fun x104 ex104 => ?_)
      have h := h x104 ex104
      refine zz_istore M [(6, .int x104), (0, .ref (ad 28)), (1, .int x1), (2, .int x2), (3, .int x3), (4, .int x4), (5, .int x5)] dX4_addComer_30 (by decide) rfl ?_
      refine zz_iload M 5 dX4_addComer_32 rfl ?_
      refine zz_if_eq (y0 := 0) M 61 dX4_addComer_34 (by decide) (fun c => ?_) (fun c => ?_)
      · have h := zif (c := x4 = 0) h c
        refine zz_iload_n M 2 dX4_addComer_61 rfl rfl ?_
        refine zz_iconst (v := 4) M dX4_addComer_62 (by decide) ?_
        refine zz_icmp_lt M 91 dX4_addComer_63 (by decide) (fun c => ?_) (fun c => ?_)
        · have h := zif (c := x1 < 4) h c
          refine zz_aload_n M 1 dX4_addComer_91 rfl rfl ?_
          refine zz_getR M f_X4_30 tX_28 rfl dX4_addComer_92 ?_
          refine zz_iload M 0 dX4_addComer_95 rfl ?_
          refine zz_dup2 M dX4_addComer_97 rfl rfl ?_
          refine zz_iald M tX_35 h.1 dX4_addComer_98 ?_
          have h := h.2
          refine zz_iconst (v := 1) M dX4_addComer_99 (by decide) ?_
          refine zz_iload_n M 2 dX4_addComer_100 rfl rfl ?_
          refine zz_ishl M dX4_addComer_101 ?_
          refine zz_ior M dX4_addComer_102 ?_
          refine zz_iast M tX_35 h.1 dX4_addComer_103 ?_
          have h := h.2
          refine zz_sg (fun σ105 eσ105 => ?_)
          have h := h σ105 eσ105
          obtain ⟨x106, ex106⟩ : ∃ z : Int32, z = x5 + 1 := ⟨_, rfl⟩
          have h := h x106 ex106
          refine zz_iinc M [(5, .int x106), (6, .int x104), (0, .ref (ad 28)), (1, .int x1), (2, .int x2), (3, .int x3), (4, .int x4)] 6 dX4_addComer_104 rfl (n32 := 1) (by decide) ex106 (by decide) rfl ?_
          refine zz_goto M 16 dX4_addComer_107 (by decide) ?_
          refine zz_sub [(0, .ref (ad 28)), (1, .int x1), (2, .int x2), (3, .int x3), (4, .int x4), (5, .int x106)] [2, 3, 4, 5, 6, 0] rfl ?_
          exact ih _ _ h
        · have h := zifn (c := x1 < 4) h c
          refine zz_aload_n M 1 dX4_addComer_66 rfl rfl ?_
          refine zz_getR M f_X4_27 tX_28 rfl dX4_addComer_67 ?_
          refine zz_iload M 0 dX4_addComer_70 rfl ?_
          refine zz_dup2 M dX4_addComer_72 rfl rfl ?_
          refine zz_iald M tX_34 h.1 dX4_addComer_73 ?_
          have h := h.2
          refine zz_aload_n M 1 dX4_addComer_74 rfl rfl ?_
          refine zz_getR M f_X4_11 tX_28 rfl dX4_addComer_75 ?_
          refine zz_iload_n M 2 dX4_addComer_78 rfl rfl ?_
          refine zz_bipush (v := 25) M dX4_addComer_79 (by decide) ?_
          refine zz_imul M dX4_addComer_81 ?_
          refine zz_iload M 6 dX4_addComer_82 rfl ?_
          refine zz_iadd M dX4_addComer_84 ?_
          refine zz_iald M tX_29 h.1 dX4_addComer_85 ?_
          have h := h.2
          refine zz_iadd M dX4_addComer_86 ?_
          refine zz_iast M tX_34 h.1 dX4_addComer_87 ?_
          have h := h.2
          refine zz_sg (fun σ107 eσ107 => ?_)
          have h := h σ107 eσ107
          refine zz_goto M 104 dX4_addComer_88 (by decide) ?_
          obtain ⟨x108, ex108⟩ : ∃ z : Int32, z = x5 + 1 := ⟨_, rfl⟩
          have h := h x108 ex108
          refine zz_iinc M [(5, .int x108), (6, .int x104), (0, .ref (ad 28)), (1, .int x1), (2, .int x2), (3, .int x3), (4, .int x4)] 6 dX4_addComer_104 rfl (n32 := 1) (by decide) ex108 (by decide) rfl ?_
          refine zz_goto M 16 dX4_addComer_107 (by decide) ?_
          refine zz_sub [(0, .ref (ad 28)), (1, .int x1), (2, .int x2), (3, .int x3), (4, .int x4), (5, .int x108)] [2, 3, 4, 5, 6, 0] rfl ?_
          exact ih _ _ h
      · have h := zifn (c := x4 = 0) h c
        refine zz_aload_n M 1 dX4_addComer_37 rfl rfl ?_
        refine zz_getR M f_X4_27 tX_28 rfl dX4_addComer_38 ?_
        refine zz_iload M 0 dX4_addComer_41 rfl ?_
        refine zz_dup2 M dX4_addComer_43 rfl rfl ?_
        refine zz_iald M tX_34 h.1 dX4_addComer_44 ?_
        have h := h.2
        refine zz_aload_n M 1 dX4_addComer_45 rfl rfl ?_
        refine zz_getR M f_X4_11 tX_28 rfl dX4_addComer_46 ?_
        refine zz_iload_n M 2 dX4_addComer_49 rfl rfl ?_
        refine zz_bipush (v := 25) M dX4_addComer_50 (by decide) ?_
        refine zz_imul M dX4_addComer_52 ?_
        refine zz_iload_n M 3 dX4_addComer_53 rfl rfl ?_
        refine zz_iadd M dX4_addComer_54 ?_
        refine zz_iald M tX_29 h.1 dX4_addComer_55 ?_
        have h := h.2
        refine zz_iadd M dX4_addComer_56 ?_
        refine zz_iast M tX_34 h.1 dX4_addComer_57 ?_
        have h := h.2
        refine zz_sg (fun σ109 eσ109 => ?_)
        have h := h σ109 eσ109
        refine zz_goto M 104 dX4_addComer_58 (by decide) ?_
        obtain ⟨x110, ex110⟩ : ∃ z : Int32, z = x5 + 1 := ⟨_, rfl⟩
        have h := h x110 ex110
        refine zz_iinc M [(5, .int x110), (6, .int x104), (0, .ref (ad 28)), (1, .int x1), (2, .int x2), (3, .int x3), (4, .int x4)] 6 dX4_addComer_104 rfl (n32 := 1) (by decide) ex110 (by decide) rfl ?_
        refine zz_goto M 16 dX4_addComer_107 (by decide) ?_
        refine zz_sub [(0, .ref (ad 28)), (1, .int x1), (2, .int x2), (3, .int x3), (4, .int x4), (5, .int x110)] [2, 3, 4, 5, 6, 0] rfl ?_
        exact ih _ _ h
def wX4_addComer (x1 : Int32) (x2 : Int32) (x3 : Int32) (σ : zSt) (Q : zSt → Prop) : Prop := wX1_passes x1 x3 σ (fun r101 σ102 => ∀ x103 : Int32, x103 = (x2 + 1) → (wX4_addComer_L16 Q (fun  σ111 => Q σ111) x1 x2 x3 r101 300 x103 σ102))
set_option maxRecDepth 20000 in
set_option maxHeartbeats 4000000 in
theorem kX4_addComer (hI : zInj tabX ad) (x1 : Int32) (x2 : Int32) (x3 : Int32)  (σ : zSt) (Q : zSt → Prop) (h : wX4_addComer x1 x2 x3 σ Q) : zOkV l tabX D cA ad y 2 yX4_addComer cX4_addComer 7 none [.ref (ad 28), .int x1, .int x2, .int x3] σ Q := by
  refine zz_enter hI (by decide) (Nat.le_of_ble_eq_true rfl) (fun p e s m below meth c M => ?_)
  have M : zM p s m _ meth c cX4_addComer 7 RX4 none tabX D cA ad y := M
  refine zz_ls [(0, .ref (ad 28)), (1, .int x1), (2, .int x2), (3, .int x3)] rfl ?_
  unfold wX4_addComer at h
  refine zz_aload_n M 0 dX4_addComer_0 rfl rfl ?_
  refine zz_getR M f_X4_46 tX_28 rfl dX4_addComer_1 ?_
  refine zz_iload_n M 1 dX4_addComer_4 rfl rfl ?_
  refine zz_iload_n M 3 dX4_addComer_5 rfl rfl ?_
  refine zz_callVI (d' := 1) (As := [.int x1, .int x3]) (rest := []) M l_X4_126 tX_1 rfl rfl dX4_addComer_6 rfl rfl (by decide) (Nat.le_of_ble_eq_true rfl) (by have hI := M.2.2.2.2.2.2.2.2; exact kX1_passes hI _ _  _ _ h) (fun r101 σ102 h => ?_)
  refine zz_istore M [(4, .int r101), (0, .ref (ad 28)), (1, .int x1), (2, .int x2), (3, .int x3)] dX4_addComer_9 (by decide) rfl ?_
  refine zz_iload_n M 3 dX4_addComer_11 rfl rfl ?_
  refine zz_iconst (v := 1) M dX4_addComer_12 (by decide) ?_
  refine zz_iadd M dX4_addComer_13 ?_
  refine zz_topi (fun x103 ex103 => ?_)
  have h := h x103 ex103
  refine zz_istore M [(5, .int x103), (4, .int r101), (0, .ref (ad 28)), (1, .int x1), (2, .int x2), (3, .int x3)] dX4_addComer_14 (by decide) rfl ?_
  refine zz_sub [(0, .ref (ad 28)), (1, .int x1), (2, .int x2), (3, .int x3), (4, .int r101), (5, .int x103)] [2, 3, 4, 5, 1, 0] rfl ?_
  refine sX4_addComer_L16 x1 x2 x3 r101  M (fun  σ111 h => ?_) 300 _ _ h
  exact zz_vret M dX4_addComer_110 h
def wX4_addComers_L34 (Q : zSt → Prop) (K52 : zSt → Prop) (x1 : Int32) (x2 : Int32) : Nat → Int32 → zSt → Prop
  | 0, _, _ => False
  | n + 1, x3, σ => if 3 ≤ x3 then (K52  σ) else (wX4_addComer x2 x1 x3 σ (fun σ106 => ∀ x107 : Int32, x107 = x3 + 1 → (wX4_addComers_L34 Q K52 x1 x2 n x107 σ106)))
set_option maxRecDepth 20000 in
set_option maxHeartbeats 4000000 in
theorem sX4_addComers_L34 {Q : zSt → Prop} {K52 : zSt → Prop} (x1 : Int32) (x2 : Int32)  (M : zM p s m args meth c cX4_addComers 4 RX4 none tabX D cA ad y) (hK52 : ∀ (σ : zSt), K52  σ → zG p l e (zrm 3) s m args below meth c 4 tabX D cA ad (MQ below (va_Qv Q (fun σ' t => va_P D vwCl (zws tabX cA ad σ') t.heap) (zIn tabX ad)) args s 0 0 (zIn tabX ad)) 52 [(0, .ref (ad 28)), (1, .int x1), (2, .int x2)] [] σ) : ∀ (n : Nat) (x3 : Int32) (σ : zSt), wX4_addComers_L34 Q K52 x1 x2 n x3 σ → zG p l e (zrm 3) s m args below meth c 4 tabX D cA ad (MQ below (va_Qv Q (fun σ' t => va_P D vwCl (zws tabX cA ad σ') t.heap) (zIn tabX ad)) args s 0 0 (zIn tabX ad)) 34 [(0, .ref (ad 28)), (1, .int x1), (2, .int x2), (3, .int x3)] [] σ := by
  intro n
  induction n with
  | zero => intro x3 σ h; exact absurd h (by simp [wX4_addComers_L34])
  | succ n ih =>
    intro x3 σ h
    unfold wX4_addComers_L34 at h
    refine zz_iload_n M 3 dX4_addComers_34 rfl rfl ?_
    refine zz_iconst (v := 3) M dX4_addComers_35 (by decide) ?_
    refine zz_icmp_ge M 52 dX4_addComers_36 (by decide) (fun c => ?_) (fun c => ?_)
    · have h := zif (c := 3 ≤ x3) h c
      refine zz_sub [(0, .ref (ad 28)), (1, .int x1), (2, .int x2)] [0, 1, 2] rfl ?_
      exact hK52  _ h
    · have h := zifn (c := 3 ≤ x3) h c
      refine zz_aload_n M 0 dX4_addComers_39 rfl rfl ?_
      refine zz_iload_n M 2 dX4_addComers_40 rfl rfl ?_
      refine zz_iload_n M 1 dX4_addComers_41 rfl rfl ?_
      refine zz_iload_n M 3 dX4_addComers_42 rfl rfl ?_
      refine zz_callVV (d' := 2) (As := [.int x2, .int x1, .int x3]) (rest := []) M l_X4_123 tX_28 rfl rfl dX4_addComers_43 rfl rfl (by decide) (Nat.le_of_ble_eq_true rfl) (by have hI := M.2.2.2.2.2.2.2.2; exact kX4_addComer hI _ _ _  _ _ h) (fun σ106 h => ?_)
      obtain ⟨x107, ex107⟩ : ∃ z : Int32, z = x3 + 1 := ⟨_, rfl⟩
      have h := h x107 ex107
      refine zz_iinc M [(3, .int x107), (0, .ref (ad 28)), (1, .int x1), (2, .int x2)] 3 dX4_addComers_46 rfl (n32 := 1) (by decide) ex107 (by decide) rfl ?_
      refine zz_goto M 34 dX4_addComers_49 (by decide) ?_
      refine zz_sub [(0, .ref (ad 28)), (1, .int x1), (2, .int x2), (3, .int x107)] [1, 2, 3, 0] rfl ?_
      exact ih _ _ h
def wX4_addComers_L2 (Q : zSt → Prop) (K58 : zSt → Prop) (x1 : Int32) : Nat → Int32 → zSt → Prop
  | 0, _, _ => False
  | n + 1, x2, σ => if 8 ≤ x2 then (K58  σ) else (wX1_isThere x2 σ (fun r101 σ102 => if r101 = 0 then (∀ x103 : Int32, x103 = x2 + 1 → (wX4_addComers_L2 Q K58 x1 n x103 σ102)) else (vp_in x2 8 ∧ (if (σ102.1 5 x2.toNatClampNeg) = x1 then (wX4_addComers_L34 Q (fun  σ108 => ∀ x109 : Int32, x109 = x2 + 1 → (wX4_addComers_L2 Q K58 x1 n x109 σ108)) x1 x2 300 0 σ102) else (∀ x104 : Int32, x104 = x2 + 1 → (wX4_addComers_L2 Q K58 x1 n x104 σ102))))))
set_option maxRecDepth 20000 in
set_option maxHeartbeats 4000000 in
theorem sX4_addComers_L2 {Q : zSt → Prop} {K58 : zSt → Prop} (x1 : Int32)  (M : zM p s m args meth c cX4_addComers 4 RX4 none tabX D cA ad y) (hK58 : ∀ (σ : zSt), K58  σ → zG p l e (zrm 3) s m args below meth c 4 tabX D cA ad (MQ below (va_Qv Q (fun σ' t => va_P D vwCl (zws tabX cA ad σ') t.heap) (zIn tabX ad)) args s 0 0 (zIn tabX ad)) 58 [] [] σ) : ∀ (n : Nat) (x2 : Int32) (σ : zSt), wX4_addComers_L2 Q K58 x1 n x2 σ → zG p l e (zrm 3) s m args below meth c 4 tabX D cA ad (MQ below (va_Qv Q (fun σ' t => va_P D vwCl (zws tabX cA ad σ') t.heap) (zIn tabX ad)) args s 0 0 (zIn tabX ad)) 2 [(0, .ref (ad 28)), (1, .int x1), (2, .int x2)] [] σ := by
  intro n
  induction n with
  | zero => intro x2 σ h; exact absurd h (by simp [wX4_addComers_L2])
  | succ n ih =>
    intro x2 σ h
    unfold wX4_addComers_L2 at h
    refine zz_iload_n M 2 dX4_addComers_2 rfl rfl ?_
    refine zz_bipush (v := 8) M dX4_addComers_3 (by decide) ?_
    refine zz_icmp_ge M 58 dX4_addComers_5 (by decide) (fun c => ?_) (fun c => ?_)
    · have h := zif (c := 8 ≤ x2) h c
      refine zz_sub [] [] rfl ?_
      exact hK58  _ h
    · have h := zifn (c := 8 ≤ x2) h c
      refine zz_aload_n M 0 dX4_addComers_8 rfl rfl ?_
      refine zz_getR M f_X4_46 tX_28 rfl dX4_addComers_9 ?_
      refine zz_iload_n M 2 dX4_addComers_12 rfl rfl ?_
      refine zz_callVI (d' := 1) (As := [.int x2]) (rest := []) M l_X4_79 tX_1 rfl rfl dX4_addComers_13 rfl rfl (by decide) (Nat.le_of_ble_eq_true rfl) (by have hI := M.2.2.2.2.2.2.2.2; exact kX1_isThere hI _  _ _ h) (fun r101 σ102 h => ?_)
      refine zz_if_eq (y0 := 0) M 52 dX4_addComers_16 (by decide) (fun c => ?_) (fun c => ?_)
      · have h := zif (c := r101 = 0) h c
        obtain ⟨x103, ex103⟩ : ∃ z : Int32, z = x2 + 1 := ⟨_, rfl⟩
        have h := h x103 ex103
        refine zz_iinc M [(2, .int x103), (0, .ref (ad 28)), (1, .int x1)] 2 dX4_addComers_52 rfl (n32 := 1) (by decide) ex103 (by decide) rfl ?_
        refine zz_goto M 2 dX4_addComers_55 (by decide) ?_
        refine zz_sub [(0, .ref (ad 28)), (1, .int x1), (2, .int x103)] [1, 2, 0] rfl ?_
        exact ih _ _ h
      · have h := zifn (c := r101 = 0) h c
        refine zz_aload_n M 0 dX4_addComers_19 rfl rfl ?_
        refine zz_getR M f_X4_46 tX_28 rfl dX4_addComers_20 ?_
        refine zz_getR M f_X4_68 tX_1 rfl dX4_addComers_23 ?_
        refine zz_iload_n M 2 dX4_addComers_26 rfl rfl ?_
        refine zz_iald M tX_5 h.1 dX4_addComers_27 ?_
        have h := h.2
        refine zz_iload_n M 1 dX4_addComers_28 rfl rfl ?_
        refine zz_icmp_ne M 52 dX4_addComers_29 (by decide) (fun c => ?_) (fun c => ?_)
        · have h := zifn (c := (σ102.1 5 x2.toNatClampNeg) = x1) h c
          obtain ⟨x104, ex104⟩ : ∃ z : Int32, z = x2 + 1 := ⟨_, rfl⟩
          have h := h x104 ex104
          refine zz_iinc M [(2, .int x104), (0, .ref (ad 28)), (1, .int x1)] 2 dX4_addComers_52 rfl (n32 := 1) (by decide) ex104 (by decide) rfl ?_
          refine zz_goto M 2 dX4_addComers_55 (by decide) ?_
          refine zz_sub [(0, .ref (ad 28)), (1, .int x1), (2, .int x104)] [1, 2, 0] rfl ?_
          exact ih _ _ h
        · have h := zif (c := (σ102.1 5 x2.toNatClampNeg) = x1) h c
          refine zz_iconst (v := 0) M dX4_addComers_32 (by decide) ?_
          refine zz_istore_n M [(3, .int 0), (0, .ref (ad 28)), (1, .int x1), (2, .int x2)] dX4_addComers_33 rfl (by decide) rfl ?_
          refine zz_sub [(0, .ref (ad 28)), (1, .int x1), (2, .int x2), (3, .int 0)] [1, 2, 3, 0] rfl ?_
          refine sX4_addComers_L34 x1 x2  M (fun  σ108 h => ?_) 300 _ _ h
          obtain ⟨x109, ex109⟩ : ∃ z : Int32, z = x2 + 1 := ⟨_, rfl⟩
          have h := h x109 ex109
          refine zz_iinc M [(2, .int x109), (0, .ref (ad 28)), (1, .int x1)] 2 dX4_addComers_52 rfl (n32 := 1) (by decide) ex109 (by decide) rfl ?_
          refine zz_goto M 2 dX4_addComers_55 (by decide) ?_
          refine zz_sub [(0, .ref (ad 28)), (1, .int x1), (2, .int x109)] [1, 2, 0] rfl ?_
          exact ih _ _ h
def wX4_addComers (x1 : Int32) (σ : zSt) (Q : zSt → Prop) : Prop := wX4_addComers_L2 Q (fun  σ110 => Q σ110) x1 300 0 σ
set_option maxRecDepth 20000 in
set_option maxHeartbeats 4000000 in
theorem kX4_addComers (hI : zInj tabX ad) (x1 : Int32)  (σ : zSt) (Q : zSt → Prop) (h : wX4_addComers x1 σ Q) : zOkV l tabX D cA ad y 3 yX4_addComers cX4_addComers 4 none [.ref (ad 28), .int x1] σ Q := by
  refine zz_enter hI (by decide) (Nat.le_of_ble_eq_true rfl) (fun p e s m below meth c M => ?_)
  have M : zM p s m _ meth c cX4_addComers 4 RX4 none tabX D cA ad y := M
  refine zz_ls [(0, .ref (ad 28)), (1, .int x1)] rfl ?_
  unfold wX4_addComers at h
  refine zz_iconst (v := 0) M dX4_addComers_0 (by decide) ?_
  refine zz_istore_n M [(2, .int 0), (0, .ref (ad 28)), (1, .int x1)] dX4_addComers_1 rfl (by decide) rfl ?_
  refine zz_sub [(0, .ref (ad 28)), (1, .int x1), (2, .int 0)] [1, 2, 0] rfl ?_
  refine sX4_addComers_L2 x1  M (fun  σ110 h => ?_) 300 _ _ h
  exact zz_vret M dX4_addComers_58 h
def wX4_trySpans_L19 (Q : zSt → Prop) (K155 : zSt → Prop) (x1 : Int32) (x3 : Int32) (x4 : Int32) (x5 : Int32) : Nat → Int32 → Int32 → zSt → Prop
  | 0, _, _, _ => False
  | n + 1, x6, x7, σ => if 25 ≤ x7 then (K155  σ) else (vp_in ((x3 * 25) + x7) 75 ∧ (∀ x102 : Int32, x102 = ((((x7 * 3) + x3) * 16) + (x4 ||| (σ.1 35 ((x3 * 25) + x7 : Int32).toNatClampNeg))) → (vp_in ((x3 * 25) + x7) 75 ∧ (vp_in x102 1200 ∧ (∀ x103 : Int32, x103 = ((x5 + (σ.1 34 ((x3 * 25) + x7 : Int32).toNatClampNeg)) + (σ.1 31 x102.toNatClampNeg)) → (vp_in x1 1200 ∧ (if x103 < (σ.1 31 x1.toNatClampNeg) then (vp_in x1 1200 ∧ (∀ σ104 : zSt, σ104 = zput σ 31 x1.toNatClampNeg x103 → (vp_in x1 1200 ∧ (∀ σ105 : zSt, σ105 = zput σ104 32 x1.toNatClampNeg x3 → (vp_in x1 1200 ∧ (∀ σ106 : zSt, σ106 = zput σ105 33 x1.toNatClampNeg x7 → (if 24 ≤ x7 then (∀ x107 : Int32, x107 = x7 + 1 → (wX4_trySpans_L19 Q K155 x1 x3 x4 x5 n (-1) x107 σ106)) else (vp_in x102 1200 ∧ (∀ x108 : Int32, x108 = (σ106.1 32 x102.toNatClampNeg) → (∀ x109 : Int32, x109 = x7 + 1 → (wX4_trySpans_L19 Q K155 x1 x3 x4 x5 n x108 x109 σ106))))))))))) else (vp_in x1 1200 ∧ (if x103 = (σ.1 31 x1.toNatClampNeg) then (if x6 ≤ x3 then (∀ x111 : Int32, x111 = x7 + 1 → (wX4_trySpans_L19 Q K155 x1 x3 x4 x5 n x6 x111 σ)) else (vp_in x1 1200 ∧ (∀ σ112 : zSt, σ112 = zput σ 31 x1.toNatClampNeg x103 → (vp_in x1 1200 ∧ (∀ σ113 : zSt, σ113 = zput σ112 32 x1.toNatClampNeg x3 → (vp_in x1 1200 ∧ (∀ σ114 : zSt, σ114 = zput σ113 33 x1.toNatClampNeg x7 → (if 24 ≤ x7 then (∀ x115 : Int32, x115 = x7 + 1 → (wX4_trySpans_L19 Q K155 x1 x3 x4 x5 n (-1) x115 σ114)) else (vp_in x102 1200 ∧ (∀ x116 : Int32, x116 = (σ114.1 32 x102.toNatClampNeg) → (∀ x117 : Int32, x117 = x7 + 1 → (wX4_trySpans_L19 Q K155 x1 x3 x4 x5 n x116 x117 σ114)))))))))))) else (∀ x110 : Int32, x110 = x7 + 1 → (wX4_trySpans_L19 Q K155 x1 x3 x4 x5 n x6 x110 σ)))))))))))
set_option maxRecDepth 20000 in
set_option maxHeartbeats 4000000 in
theorem sX4_trySpans_L19 {Q : zSt → Prop} {K155 : zSt → Prop} (x1 : Int32) (x3 : Int32) (x4 : Int32) (x5 : Int32)  (M : zM p s m args meth c cX4_trySpans 10 RX4 none tabX D cA ad y) (hK155 : ∀ (σ : zSt), K155  σ → zG p l e (zrm 1) s m args below meth c 10 tabX D cA ad (MQ below (va_Qv Q (fun σ' t => va_P D vwCl (zws tabX cA ad σ') t.heap) (zIn tabX ad)) args s 0 0 (zIn tabX ad)) 155 [] [] σ) : ∀ (n : Nat) (x6 : Int32) (x7 : Int32) (σ : zSt), wX4_trySpans_L19 Q K155 x1 x3 x4 x5 n x6 x7 σ → zG p l e (zrm 1) s m args below meth c 10 tabX D cA ad (MQ below (va_Qv Q (fun σ' t => va_P D vwCl (zws tabX cA ad σ') t.heap) (zIn tabX ad)) args s 0 0 (zIn tabX ad)) 19 [(0, .ref (ad 28)), (1, .int x1), (3, .int x3), (4, .int x4), (5, .int x5), (6, .int x6), (7, .int x7)] [] σ := by
  intro n
  induction n with
  | zero => intro x6 x7 σ h; exact absurd h (by simp [wX4_trySpans_L19])
  | succ n ih =>
    intro x6 x7 σ h
    unfold wX4_trySpans_L19 at h
    refine zz_iload M 6 dX4_trySpans_19 rfl ?_
    refine zz_bipush (v := 25) M dX4_trySpans_21 (by decide) ?_
    refine zz_icmp_ge M 155 dX4_trySpans_23 (by decide) (fun c => ?_) (fun c => ?_)
    · have h := zif (c := 25 ≤ x7) h c
      refine zz_sub [] [] rfl ?_
      exact hK155  _ h
    · have h := zifn (c := 25 ≤ x7) h c
      refine zz_iload M 6 dX4_trySpans_26 rfl ?_
      refine zz_iconst (v := 3) M dX4_trySpans_28 (by decide) ?_
      refine zz_imul M dX4_trySpans_29 ?_
      refine zz_iload_n M 2 dX4_trySpans_30 rfl rfl ?_
      refine zz_iadd M dX4_trySpans_31 ?_
      refine zz_bipush (v := 16) M dX4_trySpans_32 (by decide) ?_
      refine zz_imul M dX4_trySpans_34 ?_
      refine zz_iload M 3 dX4_trySpans_35 rfl ?_
      refine zz_aload_n M 0 dX4_trySpans_37 rfl rfl ?_
      refine zz_getR M f_X4_30 tX_28 rfl dX4_trySpans_38 ?_
      refine zz_iload_n M 2 dX4_trySpans_41 rfl rfl ?_
      refine zz_bipush (v := 25) M dX4_trySpans_42 (by decide) ?_
      refine zz_imul M dX4_trySpans_44 ?_
      refine zz_iload M 6 dX4_trySpans_45 rfl ?_
      refine zz_iadd M dX4_trySpans_47 ?_
      refine zz_iald M tX_35 h.1 dX4_trySpans_48 ?_
      have h := h.2
      refine zz_ior M dX4_trySpans_49 ?_
      refine zz_iadd M dX4_trySpans_50 ?_
      refine zz_topi (fun x102 ex102 => ?_)
      have h := h x102 ex102
      refine zz_istore M [(8, .int x102), (0, .ref (ad 28)), (1, .int x1), (3, .int x3), (4, .int x4), (5, .int x5), (6, .int x6), (7, .int x7)] dX4_trySpans_51 (by decide) rfl ?_
      refine zz_iload M 5 dX4_trySpans_53 rfl ?_
      refine zz_aload_n M 1 dX4_trySpans_55 rfl rfl ?_
      refine zz_getR M f_X4_27 tX_28 rfl dX4_trySpans_56 ?_
      refine zz_iload_n M 3 dX4_trySpans_59 rfl rfl ?_
      refine zz_bipush (v := 25) M dX4_trySpans_60 (by decide) ?_
      refine zz_imul M dX4_trySpans_62 ?_
      refine zz_iload M 7 dX4_trySpans_63 rfl ?_
      refine zz_iadd M dX4_trySpans_65 ?_
      refine zz_iald M tX_34 h.1 dX4_trySpans_66 ?_
      have h := h.2
      refine zz_iadd M dX4_trySpans_67 ?_
      refine zz_aload_n M 1 dX4_trySpans_68 rfl rfl ?_
      refine zz_getR M f_X4_18 tX_28 rfl dX4_trySpans_69 ?_
      refine zz_iload M 0 dX4_trySpans_72 rfl ?_
      refine zz_iald M tX_31 h.1 dX4_trySpans_74 ?_
      have h := h.2
      refine zz_iadd M dX4_trySpans_75 ?_
      refine zz_topi (fun x103 ex103 => ?_)
      have h := h x103 ex103
      refine zz_istore M [(9, .int x103), (8, .int x102), (0, .ref (ad 28)), (1, .int x1), (3, .int x3), (4, .int x4), (5, .int x5), (6, .int x6), (7, .int x7)] dX4_trySpans_76 (by decide) rfl ?_
      refine zz_iload M 0 dX4_trySpans_78 rfl ?_
      refine zz_aload_n M 2 dX4_trySpans_80 rfl rfl ?_
      refine zz_getR M f_X4_18 tX_28 rfl dX4_trySpans_81 ?_
      refine zz_iload_n M 3 dX4_trySpans_84 rfl rfl ?_
      refine zz_iald M tX_31 h.1 dX4_trySpans_85 ?_
      have h := h.2
      refine zz_icmp_lt M 106 dX4_trySpans_86 (by decide) (fun c => ?_) (fun c => ?_)
      · have h := zif (c := x103 < (σ.1 31 x1.toNatClampNeg)) h c
        refine zz_aload_n M 2 dX4_trySpans_106 rfl rfl ?_
        refine zz_getR M f_X4_18 tX_28 rfl dX4_trySpans_107 ?_
        refine zz_iload_n M 3 dX4_trySpans_110 rfl rfl ?_
        refine zz_iload M 0 dX4_trySpans_111 rfl ?_
        refine zz_iast M tX_31 h.1 dX4_trySpans_113 ?_
        have h := h.2
        refine zz_sg (fun σ104 eσ104 => ?_)
        have h := h σ104 eσ104
        refine zz_aload_n M 2 dX4_trySpans_114 rfl rfl ?_
        refine zz_getR M f_X4_21 tX_28 rfl dX4_trySpans_115 ?_
        refine zz_iload_n M 3 dX4_trySpans_118 rfl rfl ?_
        refine zz_iload_n M 4 dX4_trySpans_119 rfl rfl ?_
        refine zz_iast M tX_32 h.1 dX4_trySpans_120 ?_
        have h := h.2
        refine zz_sg (fun σ105 eσ105 => ?_)
        have h := h σ105 eσ105
        refine zz_aload_n M 2 dX4_trySpans_121 rfl rfl ?_
        refine zz_getR M f_X4_24 tX_28 rfl dX4_trySpans_122 ?_
        refine zz_iload_n M 3 dX4_trySpans_125 rfl rfl ?_
        refine zz_iload M 8 dX4_trySpans_126 rfl ?_
        refine zz_iast M tX_33 h.1 dX4_trySpans_128 ?_
        have h := h.2
        refine zz_sg (fun σ106 eσ106 => ?_)
        have h := h σ106 eσ106
        refine zz_iload M 8 dX4_trySpans_129 rfl ?_
        refine zz_bipush (v := 24) M dX4_trySpans_131 (by decide) ?_
        refine zz_icmp_ge M 146 dX4_trySpans_133 (by decide) (fun c => ?_) (fun c => ?_)
        · have h := zif (c := 24 ≤ x7) h c
          refine zz_iconst (v := (-1)) M dX4_trySpans_146 (by decide) ?_
          refine zz_istore M [(6, .int (-1)), (9, .int x103), (8, .int x102), (0, .ref (ad 28)), (1, .int x1), (3, .int x3), (4, .int x4), (5, .int x5), (7, .int x7)] dX4_trySpans_147 (by decide) rfl ?_
          obtain ⟨x107, ex107⟩ : ∃ z : Int32, z = x7 + 1 := ⟨_, rfl⟩
          have h := h x107 ex107
          refine zz_iinc M [(7, .int x107), (6, .int (-1)), (9, .int x103), (8, .int x102), (0, .ref (ad 28)), (1, .int x1), (3, .int x3), (4, .int x4), (5, .int x5)] 8 dX4_trySpans_149 rfl (n32 := 1) (by decide) ex107 (by decide) rfl ?_
          refine zz_goto M 19 dX4_trySpans_152 (by decide) ?_
          refine zz_sub [(0, .ref (ad 28)), (1, .int x1), (3, .int x3), (4, .int x4), (5, .int x5), (6, .int (-1)), (7, .int x107)] [4, 5, 6, 7, 8, 1, 0] rfl ?_
          exact ih _ _ _ h
        · have h := zifn (c := 24 ≤ x7) h c
          refine zz_aload_n M 2 dX4_trySpans_136 rfl rfl ?_
          refine zz_getR M f_X4_21 tX_28 rfl dX4_trySpans_137 ?_
          refine zz_iload M 1 dX4_trySpans_140 rfl ?_
          refine zz_iald M tX_32 h.1 dX4_trySpans_142 ?_
          have h := h.2
          refine zz_goto M 147 dX4_trySpans_143 (by decide) ?_
          refine zz_topi (fun x108 ex108 => ?_)
          have h := h x108 ex108
          refine zz_istore M [(6, .int x108), (9, .int x103), (8, .int x102), (0, .ref (ad 28)), (1, .int x1), (3, .int x3), (4, .int x4), (5, .int x5), (7, .int x7)] dX4_trySpans_147 (by decide) rfl ?_
          obtain ⟨x109, ex109⟩ : ∃ z : Int32, z = x7 + 1 := ⟨_, rfl⟩
          have h := h x109 ex109
          refine zz_iinc M [(7, .int x109), (6, .int x108), (9, .int x103), (8, .int x102), (0, .ref (ad 28)), (1, .int x1), (3, .int x3), (4, .int x4), (5, .int x5)] 8 dX4_trySpans_149 rfl (n32 := 1) (by decide) ex109 (by decide) rfl ?_
          refine zz_goto M 19 dX4_trySpans_152 (by decide) ?_
          refine zz_sub [(0, .ref (ad 28)), (1, .int x1), (3, .int x3), (4, .int x4), (5, .int x5), (6, .int x108), (7, .int x109)] [4, 5, 6, 7, 8, 1, 0] rfl ?_
          exact ih _ _ _ h
      · have h := zifn (c := x103 < (σ.1 31 x1.toNatClampNeg)) h c
        refine zz_iload M 0 dX4_trySpans_89 rfl ?_
        refine zz_aload_n M 2 dX4_trySpans_91 rfl rfl ?_
        refine zz_getR M f_X4_18 tX_28 rfl dX4_trySpans_92 ?_
        refine zz_iload_n M 3 dX4_trySpans_95 rfl rfl ?_
        refine zz_iald M tX_31 h.1 dX4_trySpans_96 ?_
        have h := h.2
        refine zz_icmp_ne M 149 dX4_trySpans_97 (by decide) (fun c => ?_) (fun c => ?_)
        · have h := zifn (c := x103 = (σ.1 31 x1.toNatClampNeg)) h c
          obtain ⟨x110, ex110⟩ : ∃ z : Int32, z = x7 + 1 := ⟨_, rfl⟩
          have h := h x110 ex110
          refine zz_iinc M [(7, .int x110), (9, .int x103), (8, .int x102), (0, .ref (ad 28)), (1, .int x1), (3, .int x3), (4, .int x4), (5, .int x5), (6, .int x6)] 8 dX4_trySpans_149 rfl (n32 := 1) (by decide) ex110 (by decide) rfl ?_
          refine zz_goto M 19 dX4_trySpans_152 (by decide) ?_
          refine zz_sub [(0, .ref (ad 28)), (1, .int x1), (3, .int x3), (4, .int x4), (5, .int x5), (6, .int x6), (7, .int x110)] [3, 4, 5, 6, 7, 8, 0] rfl ?_
          exact ih _ _ _ h
        · have h := zif (c := x103 = (σ.1 31 x1.toNatClampNeg)) h c
          refine zz_iload M 7 dX4_trySpans_100 rfl ?_
          refine zz_iload_n M 4 dX4_trySpans_102 rfl rfl ?_
          refine zz_icmp_le M 149 dX4_trySpans_103 (by decide) (fun c => ?_) (fun c => ?_)
          · have h := zif (c := x6 ≤ x3) h c
            obtain ⟨x111, ex111⟩ : ∃ z : Int32, z = x7 + 1 := ⟨_, rfl⟩
            have h := h x111 ex111
            refine zz_iinc M [(7, .int x111), (9, .int x103), (8, .int x102), (0, .ref (ad 28)), (1, .int x1), (3, .int x3), (4, .int x4), (5, .int x5), (6, .int x6)] 8 dX4_trySpans_149 rfl (n32 := 1) (by decide) ex111 (by decide) rfl ?_
            refine zz_goto M 19 dX4_trySpans_152 (by decide) ?_
            refine zz_sub [(0, .ref (ad 28)), (1, .int x1), (3, .int x3), (4, .int x4), (5, .int x5), (6, .int x6), (7, .int x111)] [3, 4, 5, 6, 7, 8, 0] rfl ?_
            exact ih _ _ _ h
          · have h := zifn (c := x6 ≤ x3) h c
            refine zz_aload_n M 2 dX4_trySpans_106 rfl rfl ?_
            refine zz_getR M f_X4_18 tX_28 rfl dX4_trySpans_107 ?_
            refine zz_iload_n M 3 dX4_trySpans_110 rfl rfl ?_
            refine zz_iload M 0 dX4_trySpans_111 rfl ?_
            refine zz_iast M tX_31 h.1 dX4_trySpans_113 ?_
            have h := h.2
            refine zz_sg (fun σ112 eσ112 => ?_)
            have h := h σ112 eσ112
            refine zz_aload_n M 2 dX4_trySpans_114 rfl rfl ?_
            refine zz_getR M f_X4_21 tX_28 rfl dX4_trySpans_115 ?_
            refine zz_iload_n M 3 dX4_trySpans_118 rfl rfl ?_
            refine zz_iload_n M 4 dX4_trySpans_119 rfl rfl ?_
            refine zz_iast M tX_32 h.1 dX4_trySpans_120 ?_
            have h := h.2
            refine zz_sg (fun σ113 eσ113 => ?_)
            have h := h σ113 eσ113
            refine zz_aload_n M 2 dX4_trySpans_121 rfl rfl ?_
            refine zz_getR M f_X4_24 tX_28 rfl dX4_trySpans_122 ?_
            refine zz_iload_n M 3 dX4_trySpans_125 rfl rfl ?_
            refine zz_iload M 8 dX4_trySpans_126 rfl ?_
            refine zz_iast M tX_33 h.1 dX4_trySpans_128 ?_
            have h := h.2
            refine zz_sg (fun σ114 eσ114 => ?_)
            have h := h σ114 eσ114
            refine zz_iload M 8 dX4_trySpans_129 rfl ?_
            refine zz_bipush (v := 24) M dX4_trySpans_131 (by decide) ?_
            refine zz_icmp_ge M 146 dX4_trySpans_133 (by decide) (fun c => ?_) (fun c => ?_)
            · have h := zif (c := 24 ≤ x7) h c
              refine zz_iconst (v := (-1)) M dX4_trySpans_146 (by decide) ?_
              refine zz_istore M [(6, .int (-1)), (9, .int x103), (8, .int x102), (0, .ref (ad 28)), (1, .int x1), (3, .int x3), (4, .int x4), (5, .int x5), (7, .int x7)] dX4_trySpans_147 (by decide) rfl ?_
              obtain ⟨x115, ex115⟩ : ∃ z : Int32, z = x7 + 1 := ⟨_, rfl⟩
              have h := h x115 ex115
              refine zz_iinc M [(7, .int x115), (6, .int (-1)), (9, .int x103), (8, .int x102), (0, .ref (ad 28)), (1, .int x1), (3, .int x3), (4, .int x4), (5, .int x5)] 8 dX4_trySpans_149 rfl (n32 := 1) (by decide) ex115 (by decide) rfl ?_
              refine zz_goto M 19 dX4_trySpans_152 (by decide) ?_
              refine zz_sub [(0, .ref (ad 28)), (1, .int x1), (3, .int x3), (4, .int x4), (5, .int x5), (6, .int (-1)), (7, .int x115)] [4, 5, 6, 7, 8, 1, 0] rfl ?_
              exact ih _ _ _ h
            · have h := zifn (c := 24 ≤ x7) h c
              refine zz_aload_n M 2 dX4_trySpans_136 rfl rfl ?_
              refine zz_getR M f_X4_21 tX_28 rfl dX4_trySpans_137 ?_
              refine zz_iload M 1 dX4_trySpans_140 rfl ?_
              refine zz_iald M tX_32 h.1 dX4_trySpans_142 ?_
              have h := h.2
              refine zz_goto M 147 dX4_trySpans_143 (by decide) ?_
              refine zz_topi (fun x116 ex116 => ?_)
              have h := h x116 ex116
              refine zz_istore M [(6, .int x116), (9, .int x103), (8, .int x102), (0, .ref (ad 28)), (1, .int x1), (3, .int x3), (4, .int x4), (5, .int x5), (7, .int x7)] dX4_trySpans_147 (by decide) rfl ?_
              obtain ⟨x117, ex117⟩ : ∃ z : Int32, z = x7 + 1 := ⟨_, rfl⟩
              have h := h x117 ex117
              refine zz_iinc M [(7, .int x117), (6, .int x116), (9, .int x103), (8, .int x102), (0, .ref (ad 28)), (1, .int x1), (3, .int x3), (4, .int x4), (5, .int x5)] 8 dX4_trySpans_149 rfl (n32 := 1) (by decide) ex117 (by decide) rfl ?_
              refine zz_goto M 19 dX4_trySpans_152 (by decide) ?_
              refine zz_sub [(0, .ref (ad 28)), (1, .int x1), (3, .int x3), (4, .int x4), (5, .int x5), (6, .int x116), (7, .int x117)] [4, 5, 6, 7, 8, 1, 0] rfl ?_
              exact ih _ _ _ h
def wX4_trySpans (x1 : Int32) (x2 : Int32) (x3 : Int32) (x4 : Int32) (x5 : Int32) (σ : zSt) (Q : zSt → Prop) : Prop := ∀ x101 : Int32, x101 = (if (24 : Int32) < (x2 + (σ.1 1 8)) then 24 else (x2 + (σ.1 1 8))) → (wX4_trySpans_L19 Q (fun  σ118 => Q σ118) x1 x3 x4 x5 300 (-1) x101 σ)
set_option maxRecDepth 20000 in
set_option maxHeartbeats 4000000 in
theorem kX4_trySpans (hI : zInj tabX ad) (x1 : Int32) (x2 : Int32) (x3 : Int32) (x4 : Int32) (x5 : Int32)  (σ : zSt) (Q : zSt → Prop) (h : wX4_trySpans x1 x2 x3 x4 x5 σ Q) : zOkV l tabX D cA ad y 1 yX4_trySpans cX4_trySpans 10 none [.ref (ad 28), .int x1, .int x2, .int x3, .int x4, .int x5] σ Q := by
  refine zz_enter hI (by decide) (Nat.le_of_ble_eq_true rfl) (fun p e s m below meth c M => ?_)
  have M : zM p s m _ meth c cX4_trySpans 10 RX4 none tabX D cA ad y := M
  refine zz_ls [(0, .ref (ad 28)), (1, .int x1), (2, .int x2), (3, .int x3), (4, .int x4), (5, .int x5)] rfl ?_
  unfold wX4_trySpans at h
  refine zz_iconst (v := (-1)) M dX4_trySpans_0 (by decide) ?_
  refine zz_istore M [(6, .int (-1)), (0, .ref (ad 28)), (1, .int x1), (2, .int x2), (3, .int x3), (4, .int x4), (5, .int x5)] dX4_trySpans_1 (by decide) rfl ?_
  refine zz_iload_n M 3 dX4_trySpans_3 rfl rfl ?_
  refine zz_aload_n M 1 dX4_trySpans_4 rfl rfl ?_
  refine zz_getR M f_X4_46 tX_28 rfl dX4_trySpans_5 ?_
  refine zz_getI M f_X4_138 tX_1 rfl dX4_trySpans_8 ?_
  refine zz_iadd M dX4_trySpans_11 ?_
  refine zz_bipush (v := 24) M dX4_trySpans_12 (by decide) ?_
  refine zz_min M l_X4_141 zmath_min (by decide) (Nat.le_of_ble_eq_true rfl) dX4_trySpans_14 ?_
  refine zz_topi (fun x101 ex101 => ?_)
  have h := h x101 ex101
  refine zz_istore M [(7, .int x101), (6, .int (-1)), (0, .ref (ad 28)), (1, .int x1), (2, .int x2), (3, .int x3), (4, .int x4), (5, .int x5)] dX4_trySpans_17 (by decide) rfl ?_
  refine zz_sub [(0, .ref (ad 28)), (1, .int x1), (3, .int x3), (4, .int x4), (5, .int x5), (6, .int (-1)), (7, .int x101)] [2, 3, 5, 6, 7, 1, 0] rfl ?_
  refine sX4_trySpans_L19 x1 x3 x4 x5  M (fun  σ118 h => ?_) 300 _ _ _ h
  exact zz_vret M dX4_trySpans_155 h
def wX4_settle_L20 (Q : zSt → Prop) (K103 : zSt → Prop) (x1 : Int32) (x2 : Int32) (x3 : Int32) (x4 : Int32) : Nat → Int32 → zSt → Prop
  | 0, _, _ => False
  | n + 1, x5, σ => if 3 ≤ x5 then (K103  σ) else (if x5 = x2 then (∀ x104 : Int32, x104 = x5 + 1 → (wX4_settle_L20 Q K103 x1 x2 x3 x4 n x104 σ)) else (wX7_isBridge x2 σ (fun r105 σ106 => if r105 = 0 then (vp_in x5 3 ∧ (vp_in x5 3 ∧ (∀ a107 : Int32, a107 = (x3 &&& (σ106.1 36 x5.toNatClampNeg)) → (wX4_costOfShips a107 x1 σ106 (fun r108 σ109 => ∀ a110 : Int32, a110 = (x3 &&& ((σ106.1 36 x5.toNatClampNeg) ^^^ (-1))) → (∀ a111 : Int32, a111 = (0 + r108) → (wX4_trySpans x4 x1 x5 a110 a111 σ109 (fun σ113 => ∀ x114 : Int32, x114 = x5 + 1 → (wX4_settle_L20 Q K103 x1 x2 x3 x4 n x114 σ113))))))))) else (vp_in ((((x1 * 3) + x2) * 3) + x5) 216 ∧ (∀ x115 : Int32, x115 = (σ106.1 30 ((((x1 * 3) + x2) * 3) + x5 : Int32).toNatClampNeg) → (vp_in x5 3 ∧ (vp_in x5 3 ∧ (∀ a116 : Int32, a116 = (x3 &&& (σ106.1 36 x5.toNatClampNeg)) → (wX4_costOfShips a116 x1 σ106 (fun r117 σ118 => ∀ a119 : Int32, a119 = (x3 &&& ((σ106.1 36 x5.toNatClampNeg) ^^^ (-1))) → (∀ a120 : Int32, a120 = (x115 + r117) → (wX4_trySpans x4 x1 x5 a119 a120 σ118 (fun σ122 => ∀ x123 : Int32, x123 = x5 + 1 → (wX4_settle_L20 Q K103 x1 x2 x3 x4 n x123 σ122))))))))))))))
set_option maxRecDepth 20000 in
set_option maxHeartbeats 4000000 in
theorem sX4_settle_L20 {Q : zSt → Prop} {K103 : zSt → Prop} (x1 : Int32) (x2 : Int32) (x3 : Int32) (x4 : Int32)  (M : zM p s m args meth c cX4_settle 7 RX4 none tabX D cA ad y) (hK103 : ∀ (σ : zSt), K103  σ → zG p l e (zrm 3) s m args below meth c 7 tabX D cA ad (MQ below (va_Qv Q (fun σ' t => va_P D vwCl (zws tabX cA ad σ') t.heap) (zIn tabX ad)) args s 0 0 (zIn tabX ad)) 103 [] [] σ) : ∀ (n : Nat) (x5 : Int32) (σ : zSt), wX4_settle_L20 Q K103 x1 x2 x3 x4 n x5 σ → zG p l e (zrm 3) s m args below meth c 7 tabX D cA ad (MQ below (va_Qv Q (fun σ' t => va_P D vwCl (zws tabX cA ad σ') t.heap) (zIn tabX ad)) args s 0 0 (zIn tabX ad)) 20 [(0, .ref (ad 28)), (1, .int x1), (2, .int x2), (3, .int x3), (4, .int x4), (5, .int x5)] [] σ := by
  intro n
  induction n with
  | zero => intro x5 σ h; exact absurd h (by simp [wX4_settle_L20])
  | succ n ih =>
    intro x5 σ h
    unfold wX4_settle_L20 at h
    refine zz_iload M 5 dX4_settle_20 rfl ?_
    refine zz_iconst (v := 3) M dX4_settle_22 (by decide) ?_
    refine zz_icmp_ge M 103 dX4_settle_23 (by decide) (fun c => ?_) (fun c => ?_)
    · have h := zif (c := 3 ≤ x5) h c
      refine zz_sub [] [] rfl ?_
      exact hK103  _ h
    · have h := zifn (c := 3 ≤ x5) h c
      refine zz_iload M 5 dX4_settle_26 rfl ?_
      refine zz_iload_n M 2 dX4_settle_28 rfl rfl ?_
      refine zz_icmp_eq M 97 dX4_settle_29 (by decide) (fun c => ?_) (fun c => ?_)
      · have h := zif (c := x5 = x2) h c
        obtain ⟨x104, ex104⟩ : ∃ z : Int32, z = x5 + 1 := ⟨_, rfl⟩
        have h := h x104 ex104
        refine zz_iinc M [(5, .int x104), (0, .ref (ad 28)), (1, .int x1), (2, .int x2), (3, .int x3), (4, .int x4)] 5 dX4_settle_97 rfl (n32 := 1) (by decide) ex104 (by decide) rfl ?_
        refine zz_goto M 20 dX4_settle_100 (by decide) ?_
        refine zz_sub [(0, .ref (ad 28)), (1, .int x1), (2, .int x2), (3, .int x3), (4, .int x4), (5, .int x104)] [1, 2, 3, 4, 5, 0] rfl ?_
        exact ih _ _ h
      · have h := zifn (c := x5 = x2) h c
        refine zz_iload_n M 2 dX4_settle_32 rfl rfl ?_
        refine zz_callNI (d' := 1) (As := [.int x2]) (rest := []) M l_X4_131 dX4_settle_33 rfl rfl (by decide) (Nat.le_of_ble_eq_true rfl) (by have hI := M.2.2.2.2.2.2.2.2; exact kX7_isBridge hI _  _ _ h) (fun r105 σ106 h => ?_)
        refine zz_if_eq (y0 := 0) M 57 dX4_settle_36 (by decide) (fun c => ?_) (fun c => ?_)
        · have h := zif (c := r105 = 0) h c
          refine zz_iconst (v := 0) M dX4_settle_57 (by decide) ?_
          refine zz_istore M [(6, .int 0), (0, .ref (ad 28)), (1, .int x1), (2, .int x2), (3, .int x3), (4, .int x4), (5, .int x5)] dX4_settle_58 (by decide) rfl ?_
          refine zz_aload_n M 1 dX4_settle_60 rfl rfl ?_
          refine zz_iload M 5 dX4_settle_61 rfl ?_
          refine zz_iload_n M 2 dX4_settle_63 rfl rfl ?_
          refine zz_iload M 6 dX4_settle_64 rfl ?_
          refine zz_iload_n M 4 dX4_settle_66 rfl rfl ?_
          refine zz_aload_n M 1 dX4_settle_67 rfl rfl ?_
          refine zz_getR M f_X4_33 tX_28 rfl dX4_settle_68 ?_
          refine zz_iload M 6 dX4_settle_71 rfl ?_
          refine zz_iald M tX_36 h.1 dX4_settle_73 ?_
          have h := h.2
          refine zz_iconst (v := (-1)) M dX4_settle_74 (by decide) ?_
          refine zz_ixor M dX4_settle_75 ?_
          refine zz_iand M dX4_settle_76 ?_
          refine zz_iload M 0 dX4_settle_77 rfl ?_
          refine zz_aload_n M 1 dX4_settle_79 rfl rfl ?_
          refine zz_iload_n M 4 dX4_settle_80 rfl rfl ?_
          refine zz_aload_n M 1 dX4_settle_81 rfl rfl ?_
          refine zz_getR M f_X4_33 tX_28 rfl dX4_settle_82 ?_
          refine zz_iload M 6 dX4_settle_85 rfl ?_
          refine zz_iald M tX_36 h.1 dX4_settle_87 ?_
          have h := h.2
          refine zz_iand M dX4_settle_88 ?_
          refine zz_iload_n M 2 dX4_settle_89 rfl rfl ?_
          obtain ⟨a107, ea107⟩ : ∃ z : Int32, z = (x3 &&& (σ106.1 36 x5.toNatClampNeg)) := ⟨_, rfl⟩
          have h := h a107 ea107
          refine zz_st [.int x1, .int a107, .ref (ad 28), .int 0, .int (x3 &&& ((σ106.1 36 x5.toNatClampNeg) ^^^ (-1))), .int x5, .int x1, .int x4, .ref (ad 28)] (by rw [ea107]) ?_
          refine zz_callVI (d' := 1) (As := [.int a107, .int x1]) (rest := [.int 0, .int (x3 &&& ((σ106.1 36 x5.toNatClampNeg) ^^^ (-1))), .int x5, .int x1, .int x4, .ref (ad 28)]) M l_X4_117 tX_28 rfl rfl dX4_settle_90 rfl rfl (by decide) (Nat.le_of_ble_eq_true rfl) (by have hI := M.2.2.2.2.2.2.2.2; exact kX4_costOfShips hI _ _  _ _ h) (fun r108 σ109 h => ?_)
          refine zz_iadd M dX4_settle_93 ?_
          obtain ⟨a110, ea110⟩ : ∃ z : Int32, z = (x3 &&& ((σ106.1 36 x5.toNatClampNeg) ^^^ (-1))) := ⟨_, rfl⟩
          have h := h a110 ea110
          obtain ⟨a111, ea111⟩ : ∃ z : Int32, z = (0 + r108) := ⟨_, rfl⟩
          have h := h a111 ea111
          refine zz_st [.int a111, .int a110, .int x5, .int x1, .int x4, .ref (ad 28)] (by rw [ea110, ea111]) ?_
          refine zz_callVV (d' := 1) (As := [.int x4, .int x1, .int x5, .int a110, .int a111]) (rest := []) M l_X4_134 tX_28 rfl rfl dX4_settle_94 rfl rfl (by decide) (Nat.le_of_ble_eq_true rfl) (by have hI := M.2.2.2.2.2.2.2.2; exact kX4_trySpans hI _ _ _ _ _  _ _ h) (fun σ113 h => ?_)
          obtain ⟨x114, ex114⟩ : ∃ z : Int32, z = x5 + 1 := ⟨_, rfl⟩
          have h := h x114 ex114
          refine zz_iinc M [(5, .int x114), (6, .int 0), (0, .ref (ad 28)), (1, .int x1), (2, .int x2), (3, .int x3), (4, .int x4)] 6 dX4_settle_97 rfl (n32 := 1) (by decide) ex114 (by decide) rfl ?_
          refine zz_goto M 20 dX4_settle_100 (by decide) ?_
          refine zz_sub [(0, .ref (ad 28)), (1, .int x1), (2, .int x2), (3, .int x3), (4, .int x4), (5, .int x114)] [2, 3, 4, 5, 6, 0] rfl ?_
          exact ih _ _ h
        · have h := zifn (c := r105 = 0) h c
          refine zz_aload_n M 0 dX4_settle_39 rfl rfl ?_
          refine zz_getR M f_X4_15 tX_28 rfl dX4_settle_40 ?_
          refine zz_iload_n M 1 dX4_settle_43 rfl rfl ?_
          refine zz_iconst (v := 3) M dX4_settle_44 (by decide) ?_
          refine zz_imul M dX4_settle_45 ?_
          refine zz_iload_n M 2 dX4_settle_46 rfl rfl ?_
          refine zz_iadd M dX4_settle_47 ?_
          refine zz_iconst (v := 3) M dX4_settle_48 (by decide) ?_
          refine zz_imul M dX4_settle_49 ?_
          refine zz_iload M 5 dX4_settle_50 rfl ?_
          refine zz_iadd M dX4_settle_52 ?_
          refine zz_iald M tX_30 h.1 dX4_settle_53 ?_
          have h := h.2
          refine zz_goto M 58 dX4_settle_54 (by decide) ?_
          refine zz_topi (fun x115 ex115 => ?_)
          have h := h x115 ex115
          refine zz_istore M [(6, .int x115), (0, .ref (ad 28)), (1, .int x1), (2, .int x2), (3, .int x3), (4, .int x4), (5, .int x5)] dX4_settle_58 (by decide) rfl ?_
          refine zz_aload_n M 1 dX4_settle_60 rfl rfl ?_
          refine zz_iload M 5 dX4_settle_61 rfl ?_
          refine zz_iload_n M 2 dX4_settle_63 rfl rfl ?_
          refine zz_iload M 6 dX4_settle_64 rfl ?_
          refine zz_iload_n M 4 dX4_settle_66 rfl rfl ?_
          refine zz_aload_n M 1 dX4_settle_67 rfl rfl ?_
          refine zz_getR M f_X4_33 tX_28 rfl dX4_settle_68 ?_
          refine zz_iload M 6 dX4_settle_71 rfl ?_
          refine zz_iald M tX_36 h.1 dX4_settle_73 ?_
          have h := h.2
          refine zz_iconst (v := (-1)) M dX4_settle_74 (by decide) ?_
          refine zz_ixor M dX4_settle_75 ?_
          refine zz_iand M dX4_settle_76 ?_
          refine zz_iload M 0 dX4_settle_77 rfl ?_
          refine zz_aload_n M 1 dX4_settle_79 rfl rfl ?_
          refine zz_iload_n M 4 dX4_settle_80 rfl rfl ?_
          refine zz_aload_n M 1 dX4_settle_81 rfl rfl ?_
          refine zz_getR M f_X4_33 tX_28 rfl dX4_settle_82 ?_
          refine zz_iload M 6 dX4_settle_85 rfl ?_
          refine zz_iald M tX_36 h.1 dX4_settle_87 ?_
          have h := h.2
          refine zz_iand M dX4_settle_88 ?_
          refine zz_iload_n M 2 dX4_settle_89 rfl rfl ?_
          obtain ⟨a116, ea116⟩ : ∃ z : Int32, z = (x3 &&& (σ106.1 36 x5.toNatClampNeg)) := ⟨_, rfl⟩
          have h := h a116 ea116
          refine zz_st [.int x1, .int a116, .ref (ad 28), .int x115, .int (x3 &&& ((σ106.1 36 x5.toNatClampNeg) ^^^ (-1))), .int x5, .int x1, .int x4, .ref (ad 28)] (by rw [ea116]) ?_
          refine zz_callVI (d' := 1) (As := [.int a116, .int x1]) (rest := [.int x115, .int (x3 &&& ((σ106.1 36 x5.toNatClampNeg) ^^^ (-1))), .int x5, .int x1, .int x4, .ref (ad 28)]) M l_X4_117 tX_28 rfl rfl dX4_settle_90 rfl rfl (by decide) (Nat.le_of_ble_eq_true rfl) (by have hI := M.2.2.2.2.2.2.2.2; exact kX4_costOfShips hI _ _  _ _ h) (fun r117 σ118 h => ?_)
          refine zz_iadd M dX4_settle_93 ?_
          obtain ⟨a119, ea119⟩ : ∃ z : Int32, z = (x3 &&& ((σ106.1 36 x5.toNatClampNeg) ^^^ (-1))) := ⟨_, rfl⟩
          have h := h a119 ea119
          obtain ⟨a120, ea120⟩ : ∃ z : Int32, z = (x115 + r117) := ⟨_, rfl⟩
          have h := h a120 ea120
          refine zz_st [.int a120, .int a119, .int x5, .int x1, .int x4, .ref (ad 28)] (by rw [ea119, ea120]) ?_
          refine zz_callVV (d' := 1) (As := [.int x4, .int x1, .int x5, .int a119, .int a120]) (rest := []) M l_X4_134 tX_28 rfl rfl dX4_settle_94 rfl rfl (by decide) (Nat.le_of_ble_eq_true rfl) (by have hI := M.2.2.2.2.2.2.2.2; exact kX4_trySpans hI _ _ _ _ _  _ _ h) (fun σ122 h => ?_)
          obtain ⟨x123, ex123⟩ : ∃ z : Int32, z = x5 + 1 := ⟨_, rfl⟩
          have h := h x123 ex123
          refine zz_iinc M [(5, .int x123), (6, .int x115), (0, .ref (ad 28)), (1, .int x1), (2, .int x2), (3, .int x3), (4, .int x4)] 6 dX4_settle_97 rfl (n32 := 1) (by decide) ex123 (by decide) rfl ?_
          refine zz_goto M 20 dX4_settle_100 (by decide) ?_
          refine zz_sub [(0, .ref (ad 28)), (1, .int x1), (2, .int x2), (3, .int x3), (4, .int x4), (5, .int x123)] [2, 3, 4, 5, 6, 0] rfl ?_
          exact ih _ _ h
def wX4_settle (x1 : Int32) (x2 : Int32) (x3 : Int32) (σ : zSt) (Q : zSt → Prop) : Prop := wX4_place x1 x2 x3 σ (fun r101 σ102 => vp_in r101 1200 ∧ (∀ σ103 : zSt, σ103 = zput σ102 31 r101.toNatClampNeg 1000000000 → (wX4_settle_L20 Q (fun  σ124 => Q σ124) x1 x2 x3 r101 300 0 σ103)))
set_option maxRecDepth 20000 in
set_option maxHeartbeats 4000000 in
theorem kX4_settle (hI : zInj tabX ad) (x1 : Int32) (x2 : Int32) (x3 : Int32)  (σ : zSt) (Q : zSt → Prop) (h : wX4_settle x1 x2 x3 σ Q) : zOkV l tabX D cA ad y 3 yX4_settle cX4_settle 7 none [.ref (ad 28), .int x1, .int x2, .int x3] σ Q := by
  refine zz_enter hI (by decide) (Nat.le_of_ble_eq_true rfl) (fun p e s m below meth c M => ?_)
  have M : zM p s m _ meth c cX4_settle 7 RX4 none tabX D cA ad y := M
  refine zz_ls [(0, .ref (ad 28)), (1, .int x1), (2, .int x2), (3, .int x3)] rfl ?_
  unfold wX4_settle at h
  refine zz_iload_n M 1 dX4_settle_0 rfl rfl ?_
  refine zz_iload_n M 2 dX4_settle_1 rfl rfl ?_
  refine zz_iload_n M 3 dX4_settle_2 rfl rfl ?_
  refine zz_callSI (d' := 2) (As := [.int x1, .int x2, .int x3]) (rest := []) M l_X4_120 dX4_settle_3 rfl rfl (by decide) (Nat.le_of_ble_eq_true rfl) (by have hI := M.2.2.2.2.2.2.2.2; exact kX4_place hI _ _ _  _ _ h) (fun r101 σ102 h => ?_)
  refine zz_istore M [(4, .int r101), (0, .ref (ad 28)), (1, .int x1), (2, .int x2), (3, .int x3)] dX4_settle_6 (by decide) rfl ?_
  refine zz_aload_n M 1 dX4_settle_8 rfl rfl ?_
  refine zz_getR M f_X4_18 tX_28 rfl dX4_settle_9 ?_
  refine zz_iload M 0 dX4_settle_12 rfl ?_
  refine zz_ldc (v := 1000000000) M k_X4_130 dX4_settle_14 ?_
  refine zz_iast M tX_31 h.1 dX4_settle_16 ?_
  have h := h.2
  refine zz_sg (fun σ103 eσ103 => ?_)
  have h := h σ103 eσ103
  refine zz_iconst (v := 0) M dX4_settle_17 (by decide) ?_
  refine zz_istore M [(5, .int 0), (4, .int r101), (0, .ref (ad 28)), (1, .int x1), (2, .int x2), (3, .int x3)] dX4_settle_18 (by decide) rfl ?_
  refine zz_sub [(0, .ref (ad 28)), (1, .int x1), (2, .int x2), (3, .int x3), (4, .int r101), (5, .int 0)] [2, 3, 4, 5, 1, 0] rfl ?_
  refine sX4_settle_L20 x1 x2 x3 r101  M (fun  σ124 h => ?_) 300 _ _ h
  exact zz_vret M dX4_settle_103 h
def wX4_settleMinute_L12 (Q : zSt → Prop) (K42 : zSt → Prop) (x1 : Int32) (x2 : Int32) (x3 : Int32) : Nat → Int32 → zSt → Prop
  | 0, _, _ => False
  | n + 1, x4, σ => if 16 ≤ x4 then (K42  σ) else (if (x4 &&& (x3 ^^^ (-1))) = 0 then (wX4_settle x1 x2 x4 σ (fun σ105 => ∀ x106 : Int32, x106 = x4 + 1 → (wX4_settleMinute_L12 Q K42 x1 x2 x3 n x106 σ105))) else (∀ x103 : Int32, x103 = x4 + 1 → (wX4_settleMinute_L12 Q K42 x1 x2 x3 n x103 σ)))
set_option maxRecDepth 20000 in
set_option maxHeartbeats 4000000 in
theorem sX4_settleMinute_L12 {Q : zSt → Prop} {K42 : zSt → Prop} (x1 : Int32) (x2 : Int32) (x3 : Int32)  (M : zM p s m args meth c cX4_settleMinute 5 RX4 none tabX D cA ad y) (hK42 : ∀ (σ : zSt), K42  σ → zG p l e (zrm 4) s m args below meth c 5 tabX D cA ad (MQ below (va_Qv Q (fun σ' t => va_P D vwCl (zws tabX cA ad σ') t.heap) (zIn tabX ad)) args s 0 0 (zIn tabX ad)) 42 [] [] σ) : ∀ (n : Nat) (x4 : Int32) (σ : zSt), wX4_settleMinute_L12 Q K42 x1 x2 x3 n x4 σ → zG p l e (zrm 4) s m args below meth c 5 tabX D cA ad (MQ below (va_Qv Q (fun σ' t => va_P D vwCl (zws tabX cA ad σ') t.heap) (zIn tabX ad)) args s 0 0 (zIn tabX ad)) 12 [(0, .ref (ad 28)), (1, .int x1), (2, .int x2), (3, .int x3), (4, .int x4)] [] σ := by
  intro n
  induction n with
  | zero => intro x4 σ h; exact absurd h (by simp [wX4_settleMinute_L12])
  | succ n ih =>
    intro x4 σ h
    unfold wX4_settleMinute_L12 at h
    refine zz_iload M 4 dX4_settleMinute_12 rfl ?_
    refine zz_bipush (v := 16) M dX4_settleMinute_14 (by decide) ?_
    refine zz_icmp_ge M 42 dX4_settleMinute_16 (by decide) (fun c => ?_) (fun c => ?_)
    · have h := zif (c := 16 ≤ x4) h c
      refine zz_sub [] [] rfl ?_
      exact hK42  _ h
    · have h := zifn (c := 16 ≤ x4) h c
      refine zz_iload M 4 dX4_settleMinute_19 rfl ?_
      refine zz_iload_n M 3 dX4_settleMinute_21 rfl rfl ?_
      refine zz_iconst (v := (-1)) M dX4_settleMinute_22 (by decide) ?_
      refine zz_ixor M dX4_settleMinute_23 ?_
      refine zz_iand M dX4_settleMinute_24 ?_
      refine zz_if_ne (y0 := 0) M 36 dX4_settleMinute_25 (by decide) (fun c => ?_) (fun c => ?_)
      · have h := zifn (c := (x4 &&& (x3 ^^^ (-1))) = 0) h c
        obtain ⟨x103, ex103⟩ : ∃ z : Int32, z = x4 + 1 := ⟨_, rfl⟩
        have h := h x103 ex103
        refine zz_iinc M [(4, .int x103), (0, .ref (ad 28)), (1, .int x1), (2, .int x2), (3, .int x3)] 4 dX4_settleMinute_36 rfl (n32 := 1) (by decide) ex103 (by decide) rfl ?_
        refine zz_goto M 12 dX4_settleMinute_39 (by decide) ?_
        refine zz_sub [(0, .ref (ad 28)), (1, .int x1), (2, .int x2), (3, .int x3), (4, .int x103)] [1, 2, 3, 4, 0] rfl ?_
        exact ih _ _ h
      · have h := zif (c := (x4 &&& (x3 ^^^ (-1))) = 0) h c
        refine zz_aload_n M 0 dX4_settleMinute_28 rfl rfl ?_
        refine zz_iload_n M 1 dX4_settleMinute_29 rfl rfl ?_
        refine zz_iload_n M 2 dX4_settleMinute_30 rfl rfl ?_
        refine zz_iload M 4 dX4_settleMinute_31 rfl ?_
        refine zz_callVV (d' := 3) (As := [.int x1, .int x2, .int x4]) (rest := []) M l_X4_113 tX_28 rfl rfl dX4_settleMinute_33 rfl rfl (by decide) (Nat.le_of_ble_eq_true rfl) (by have hI := M.2.2.2.2.2.2.2.2; exact kX4_settle hI _ _ _  _ _ h) (fun σ105 h => ?_)
        obtain ⟨x106, ex106⟩ : ∃ z : Int32, z = x4 + 1 := ⟨_, rfl⟩
        have h := h x106 ex106
        refine zz_iinc M [(4, .int x106), (0, .ref (ad 28)), (1, .int x1), (2, .int x2), (3, .int x3)] 4 dX4_settleMinute_36 rfl (n32 := 1) (by decide) ex106 (by decide) rfl ?_
        refine zz_goto M 12 dX4_settleMinute_39 (by decide) ?_
        refine zz_sub [(0, .ref (ad 28)), (1, .int x1), (2, .int x2), (3, .int x3), (4, .int x106)] [1, 2, 3, 4, 0] rfl ?_
        exact ih _ _ h
def wX4_settleMinute (x1 : Int32) (x2 : Int32) (σ : zSt) (Q : zSt → Prop) : Prop := wX4_ships 0 x1 x2 0 σ (fun r101 σ102 => wX4_settleMinute_L12 Q (fun  σ107 => Q σ107) x1 x2 r101 300 0 σ102)
set_option maxRecDepth 20000 in
set_option maxHeartbeats 4000000 in
theorem kX4_settleMinute (hI : zInj tabX ad) (x1 : Int32) (x2 : Int32)  (σ : zSt) (Q : zSt → Prop) (h : wX4_settleMinute x1 x2 σ Q) : zOkV l tabX D cA ad y 4 yX4_settleMinute cX4_settleMinute 5 none [.ref (ad 28), .int x1, .int x2] σ Q := by
  refine zz_enter hI (by decide) (Nat.le_of_ble_eq_true rfl) (fun p e s m below meth c M => ?_)
  have M : zM p s m _ meth c cX4_settleMinute 5 RX4 none tabX D cA ad y := M
  refine zz_ls [(0, .ref (ad 28)), (1, .int x1), (2, .int x2)] rfl ?_
  unfold wX4_settleMinute at h
  refine zz_aload_n M 0 dX4_settleMinute_0 rfl rfl ?_
  refine zz_iconst (v := 0) M dX4_settleMinute_1 (by decide) ?_
  refine zz_iload_n M 1 dX4_settleMinute_2 rfl rfl ?_
  refine zz_iload_n M 2 dX4_settleMinute_3 rfl rfl ?_
  refine zz_iconst (v := 0) M dX4_settleMinute_4 (by decide) ?_
  refine zz_callVI (d' := 2) (As := [.int 0, .int x1, .int x2, .int 0]) (rest := []) M l_X4_98 tX_28 rfl rfl dX4_settleMinute_5 rfl rfl (by decide) (Nat.le_of_ble_eq_true rfl) (by have hI := M.2.2.2.2.2.2.2.2; exact kX4_ships hI _ _ _ _  _ _ h) (fun r101 σ102 h => ?_)
  refine zz_istore_n M [(3, .int r101), (0, .ref (ad 28)), (1, .int x1), (2, .int x2)] dX4_settleMinute_8 rfl (by decide) rfl ?_
  refine zz_iconst (v := 0) M dX4_settleMinute_9 (by decide) ?_
  refine zz_istore M [(4, .int 0), (3, .int r101), (0, .ref (ad 28)), (1, .int x1), (2, .int x2)] dX4_settleMinute_10 (by decide) rfl ?_
  refine zz_sub [(0, .ref (ad 28)), (1, .int x1), (2, .int x2), (3, .int r101), (4, .int 0)] [2, 3, 4, 1, 0] rfl ?_
  refine sX4_settleMinute_L12 x1 x2 r101  M (fun  σ107 h => ?_) 300 _ _ h
  exact zz_vret M dX4_settleMinute_42 h
end
