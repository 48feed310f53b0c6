section
variable {p : Program} {l : Launch} {e : Env} {s : State} {m : MethodId} {args : Array Value} {below : List Frame} {meth : Method} {c : Code} {D : va_G} {cA : Nat → ClassId} {ad : Nat → Nat} {y : zX}
def wX0_ofRow_42_L4 (Q : Int32 → zSt → Prop) (K44 : Int32 → zSt → Prop)  : Nat → Int32 → Int32 → zSt → Prop
  | 0, _, _, _ => False
  | n + 1, x2, x3, σ => if 8 ≤ x3 then (K44 x2 σ) else (wX1_isThere x3 σ (fun r101 σ102 => if r101 = 0 then (∀ x103 : Int32, x103 = x3 + 1 → (wX0_ofRow_42_L4 Q K44  n x2 x103 σ102)) else (wX1_through_42 x3 σ102 (fun r104 σ105 => wX0_ofOne x3 r104 σ105 (fun r106 σ107 => ∀ x108 : Int32, x108 = (x2 + r106) → (∀ x109 : Int32, x109 = x3 + 1 → (wX0_ofRow_42_L4 Q K44  n x108 x109 σ107)))))))
set_option maxRecDepth 20000 in
set_option maxHeartbeats 4000000 in
theorem sX0_ofRow_42_L4 {Q : Int32 → zSt → Prop} {K44 : Int32 → zSt → Prop}   (M : zM p s m args meth c cX0_ofRow 4 RX0 (some .int) tabX D cA ad y) (hK44 : ∀ (v2 : Int32) (σ : zSt), K44 v2 σ → zG p l e (zrm 5) s m args below meth c 4 tabX D cA ad (MQ below (va_Qi Q (fun σ' t => va_P D vwCl (zws tabX cA ad σ') t.heap) (zIn tabX ad)) args s 0 0 (zIn tabX ad)) 44 [(0, .ref (ad 24)), (1, .ref (ad 42)), (2, .int v2)] [] σ) : ∀ (n : Nat) (x2 : Int32) (x3 : Int32) (σ : zSt), wX0_ofRow_42_L4 Q K44  n x2 x3 σ → zG p l e (zrm 5) s m args below meth c 4 tabX D cA ad (MQ below (va_Qi Q (fun σ' t => va_P D vwCl (zws tabX cA ad σ') t.heap) (zIn tabX ad)) args s 0 0 (zIn tabX ad)) 4 [(0, .ref (ad 24)), (1, .ref (ad 42)), (2, .int x2), (3, .int x3)] [] σ := by
  intro n
  induction n with
  | zero => intro x2 x3 σ h; exact absurd h (by simp [wX0_ofRow_42_L4])
  | succ n ih =>
    intro x2 x3 σ h
    unfold wX0_ofRow_42_L4 at h
    refine zz_iload_n M 3 dX0_ofRow_4 rfl rfl ?_
    refine zz_bipush (v := 8) M dX0_ofRow_5 (by decide) ?_
    refine zz_icmp_ge M 44 dX0_ofRow_7 (by decide) (fun c => ?_) (fun c => ?_)
    · have h := zif (c := 8 ≤ x3) h c
      refine zz_sub [(0, .ref (ad 24)), (1, .ref (ad 42)), (2, .int x2)] [0, 1, 2] rfl ?_
      exact hK44 _ _ h
    · have h := zifn (c := 8 ≤ x3) h c
      refine zz_aload_n M 0 dX0_ofRow_10 rfl rfl ?_
      refine zz_getR M f_X0_21 tX_24 rfl dX0_ofRow_11 ?_
      refine zz_iload_n M 3 dX0_ofRow_14 rfl rfl ?_
      refine zz_callVI (d' := 1) (As := [.int x3]) (rest := []) M l_X0_57 tX_1 rfl rfl dX0_ofRow_15 rfl rfl (by decide) (Nat.le_of_ble_eq_true rfl) (by have hI := M.2.2.2.2.2.2.2.2; exact kX1_isThere hI _  _ _ h) (fun r101 σ102 h => ?_)
      refine zz_if_eq (y0 := 0) M 38 dX0_ofRow_18 (by decide) (fun c => ?_) (fun c => ?_)
      · have h := zif (c := r101 = 0) h c
        obtain ⟨x103, ex103⟩ : ∃ z : Int32, z = x3 + 1 := ⟨_, rfl⟩
        have h := h x103 ex103
        refine zz_iinc M [(3, .int x103), (0, .ref (ad 24)), (1, .ref (ad 42)), (2, .int x2)] 3 dX0_ofRow_38 rfl (n32 := 1) (by decide) ex103 (by decide) rfl ?_
        refine zz_goto M 4 dX0_ofRow_41 (by decide) ?_
        refine zz_sub [(0, .ref (ad 24)), (1, .ref (ad 42)), (2, .int x2), (3, .int x103)] [1, 2, 3, 0] rfl ?_
        exact ih _ _ _ h
      · have h := zifn (c := r101 = 0) h c
        refine zz_iload_n M 2 dX0_ofRow_21 rfl rfl ?_
        refine zz_aload_n M 0 dX0_ofRow_22 rfl rfl ?_
        refine zz_iload_n M 3 dX0_ofRow_23 rfl rfl ?_
        refine zz_aload_n M 0 dX0_ofRow_24 rfl rfl ?_
        refine zz_getR M f_X0_21 tX_24 rfl dX0_ofRow_25 ?_
        refine zz_iload_n M 3 dX0_ofRow_28 rfl rfl ?_
        refine zz_aload_n M 1 dX0_ofRow_29 rfl rfl ?_
        refine zz_callVI (d' := 2) (As := [.int x3, .ref (ad 42)]) (rest := [.int x3, .ref (ad 24), .int x2]) M l_X0_60 tX_1 rfl rfl dX0_ofRow_30 rfl rfl (by decide) (Nat.le_of_ble_eq_true rfl) (by have hI := M.2.2.2.2.2.2.2.2; exact kX1_through_42 hI _  _ _ h) (fun r104 σ105 h => ?_)
        refine zz_callVI (d' := 4) (As := [.int x3, .int r104]) (rest := [.int x2]) M l_X0_64 tX_24 rfl rfl dX0_ofRow_33 rfl rfl (by decide) (Nat.le_of_ble_eq_true rfl) (by have hI := M.2.2.2.2.2.2.2.2; exact kX0_ofOne hI _ _  _ _ h) (fun r106 σ107 h => ?_)
        refine zz_iadd M dX0_ofRow_36 ?_
        refine zz_topi (fun x108 ex108 => ?_)
        have h := h x108 ex108
        refine zz_istore_n M [(2, .int x108), (0, .ref (ad 24)), (1, .ref (ad 42)), (3, .int x3)] dX0_ofRow_37 rfl (by decide) rfl ?_
        obtain ⟨x109, ex109⟩ : ∃ z : Int32, z = x3 + 1 := ⟨_, rfl⟩
        have h := h x109 ex109
        refine zz_iinc M [(3, .int x109), (2, .int x108), (0, .ref (ad 24)), (1, .ref (ad 42))] 3 dX0_ofRow_38 rfl (n32 := 1) (by decide) ex109 (by decide) rfl ?_
        refine zz_goto M 4 dX0_ofRow_41 (by decide) ?_
        refine zz_sub [(0, .ref (ad 24)), (1, .ref (ad 42)), (2, .int x108), (3, .int x109)] [2, 3, 1, 0] rfl ?_
        exact ih _ _ _ h
def wX0_ofRow_42_L46 (Q : Int32 → zSt → Prop) (K91 : Int32 → zSt → Prop)  : Nat → Int32 → Int32 → zSt → Prop
  | 0, _, _, _ => False
  | n + 1, x2, x3, σ => if 24 ≤ x3 then (K91 x2 σ) else (if 24 ≤ x3 then (K91 x2 σ) else (vp_in x3 24 ∧ (vp_in (x3 - 1) 24 ∧ (if (σ.1 42 x3.toNatClampNeg) = (σ.1 42 (x3 - 1 : Int32).toNatClampNeg) then (∀ x112 : Int32, x112 = x3 + 1 → (wX0_ofRow_42_L46 Q K91  n x2 x112 σ)) else (vp_in (x3 - 1) 24 ∧ (vp_in x3 24 ∧ (∀ a113 : Int32, a113 = (σ.1 42 (x3 - 1 : Int32).toNatClampNeg) → (∀ a114 : Int32, a114 = (σ.1 42 x3.toNatClampNeg) → (wX0_ofChange x3 a113 a114 σ (fun r115 σ116 => ∀ x117 : Int32, x117 = (x2 + r115) → (∀ x118 : Int32, x118 = x3 + 1 → (wX0_ofRow_42_L46 Q K91  n x117 x118 σ116))))))))))))
set_option maxRecDepth 20000 in
set_option maxHeartbeats 4000000 in
theorem sX0_ofRow_42_L46 {Q : Int32 → zSt → Prop} {K91 : Int32 → zSt → Prop}   (M : zM p s m args meth c cX0_ofRow 4 RX0 (some .int) tabX D cA ad y) (hK91 : ∀ (v2 : Int32) (σ : zSt), K91 v2 σ → zG p l e (zrm 5) s m args below meth c 4 tabX D cA ad (MQ below (va_Qi Q (fun σ' t => va_P D vwCl (zws tabX cA ad σ') t.heap) (zIn tabX ad)) args s 0 0 (zIn tabX ad)) 91 [(2, .int v2)] [] σ) : ∀ (n : Nat) (x2 : Int32) (x3 : Int32) (σ : zSt), wX0_ofRow_42_L46 Q K91  n x2 x3 σ → zG p l e (zrm 5) s m args below meth c 4 tabX D cA ad (MQ below (va_Qi Q (fun σ' t => va_P D vwCl (zws tabX cA ad σ') t.heap) (zIn tabX ad)) args s 0 0 (zIn tabX ad)) 46 [(0, .ref (ad 24)), (1, .ref (ad 42)), (2, .int x2), (3, .int x3)] [] σ := by
  intro n
  induction n with
  | zero => intro x2 x3 σ h; exact absurd h (by simp [wX0_ofRow_42_L46])
  | succ n ih =>
    intro x2 x3 σ h
    unfold wX0_ofRow_42_L46 at h
    refine zz_iload_n M 3 dX0_ofRow_46 rfl rfl ?_
    refine zz_bipush (v := 24) M dX0_ofRow_47 (by decide) ?_
    refine zz_icmp_ge M 91 dX0_ofRow_49 (by decide) (fun c => ?_) (fun c => ?_)
    · have h := zif (c := 24 ≤ x3) h c
      refine zz_sub [(2, .int x2)] [2] rfl ?_
      exact hK91 _ _ h
    · have h := zifn (c := 24 ≤ x3) h c
      refine zz_iload_n M 3 dX0_ofRow_52 rfl rfl ?_
      refine zz_aload_n M 1 dX0_ofRow_53 rfl rfl ?_
      refine zz_alen (v := 24) M tX_42 (by decide) (by decide) dX0_ofRow_54 ?_
      refine zz_icmp_ge M 91 dX0_ofRow_55 (by decide) (fun c => ?_) (fun c => ?_)
      · have h := zif (c := 24 ≤ x3) h c
        refine zz_sub [(2, .int x2)] [2] rfl ?_
        exact hK91 _ _ h
      · have h := zifn (c := 24 ≤ x3) h c
        refine zz_aload_n M 1 dX0_ofRow_58 rfl rfl ?_
        refine zz_iload_n M 3 dX0_ofRow_59 rfl rfl ?_
        refine zz_iald M tX_42 h.1 dX0_ofRow_60 ?_
        have h := h.2
        refine zz_aload_n M 1 dX0_ofRow_61 rfl rfl ?_
        refine zz_iload_n M 3 dX0_ofRow_62 rfl rfl ?_
        refine zz_iconst (v := 1) M dX0_ofRow_63 (by decide) ?_
        refine zz_isub M dX0_ofRow_64 ?_
        refine zz_iald M tX_42 h.1 dX0_ofRow_65 ?_
        have h := h.2
        refine zz_icmp_eq M 85 dX0_ofRow_66 (by decide) (fun c => ?_) (fun c => ?_)
        · have h := zif (c := (σ.1 42 x3.toNatClampNeg) = (σ.1 42 (x3 - 1 : Int32).toNatClampNeg)) h c
          obtain ⟨x112, ex112⟩ : ∃ z : Int32, z = x3 + 1 := ⟨_, rfl⟩
          have h := h x112 ex112
          refine zz_iinc M [(3, .int x112), (0, .ref (ad 24)), (1, .ref (ad 42)), (2, .int x2)] 3 dX0_ofRow_85 rfl (n32 := 1) (by decide) ex112 (by decide) rfl ?_
          refine zz_goto M 46 dX0_ofRow_88 (by decide) ?_
          refine zz_sub [(0, .ref (ad 24)), (1, .ref (ad 42)), (2, .int x2), (3, .int x112)] [1, 2, 3, 0] rfl ?_
          exact ih _ _ _ h
        · have h := zifn (c := (σ.1 42 x3.toNatClampNeg) = (σ.1 42 (x3 - 1 : Int32).toNatClampNeg)) h c
          refine zz_iload_n M 2 dX0_ofRow_69 rfl rfl ?_
          refine zz_aload_n M 0 dX0_ofRow_70 rfl rfl ?_
          refine zz_iload_n M 3 dX0_ofRow_71 rfl rfl ?_
          refine zz_aload_n M 1 dX0_ofRow_72 rfl rfl ?_
          refine zz_iload_n M 3 dX0_ofRow_73 rfl rfl ?_
          refine zz_iconst (v := 1) M dX0_ofRow_74 (by decide) ?_
          refine zz_isub M dX0_ofRow_75 ?_
          refine zz_iald M tX_42 h.1 dX0_ofRow_76 ?_
          have h := h.2
          refine zz_aload_n M 1 dX0_ofRow_77 rfl rfl ?_
          refine zz_iload_n M 3 dX0_ofRow_78 rfl rfl ?_
          refine zz_iald M tX_42 h.1 dX0_ofRow_79 ?_
          have h := h.2
          obtain ⟨a113, ea113⟩ : ∃ z : Int32, z = (σ.1 42 (x3 - 1 : Int32).toNatClampNeg) := ⟨_, rfl⟩
          have h := h a113 ea113
          obtain ⟨a114, ea114⟩ : ∃ z : Int32, z = (σ.1 42 x3.toNatClampNeg) := ⟨_, rfl⟩
          have h := h a114 ea114
          refine zz_st [.int a114, .int a113, .int x3, .ref (ad 24), .int x2] (by rw [ea113, ea114]) ?_
          refine zz_callVI (d' := 4) (As := [.int x3, .int a113, .int a114]) (rest := [.int x2]) M l_X0_68 tX_24 rfl rfl dX0_ofRow_80 rfl rfl (by decide) (Nat.le_of_ble_eq_true rfl) (by have hI := M.2.2.2.2.2.2.2.2; exact kX0_ofChange hI _ _ _  _ _ h) (fun r115 σ116 h => ?_)
          refine zz_iadd M dX0_ofRow_83 ?_
          refine zz_topi (fun x117 ex117 => ?_)
          have h := h x117 ex117
          refine zz_istore_n M [(2, .int x117), (0, .ref (ad 24)), (1, .ref (ad 42)), (3, .int x3)] dX0_ofRow_84 rfl (by decide) rfl ?_
          obtain ⟨x118, ex118⟩ : ∃ z : Int32, z = x3 + 1 := ⟨_, rfl⟩
          have h := h x118 ex118
          refine zz_iinc M [(3, .int x118), (2, .int x117), (0, .ref (ad 24)), (1, .ref (ad 42))] 3 dX0_ofRow_85 rfl (n32 := 1) (by decide) ex118 (by decide) rfl ?_
          refine zz_goto M 46 dX0_ofRow_88 (by decide) ?_
          refine zz_sub [(0, .ref (ad 24)), (1, .ref (ad 42)), (2, .int x117), (3, .int x118)] [2, 3, 1, 0] rfl ?_
          exact ih _ _ _ h
def wX0_ofRow_42  (σ : zSt) (Q : Int32 → zSt → Prop) : Prop := wX0_ofRow_42_L4 Q (fun v110 σ111 => wX0_ofRow_42_L46 Q (fun v119 σ120 => Q v119 σ120)  300 v110 1 σ111)  300 0 0 σ
set_option maxRecDepth 20000 in
set_option maxHeartbeats 4000000 in
theorem kX0_ofRow_42 (hI : zInj tabX ad)   (σ : zSt) (Q : Int32 → zSt → Prop) (h : wX0_ofRow_42  σ Q) : zOkI l tabX D cA ad y 5 yX0_ofRow cX0_ofRow 4 (some .int) [.ref (ad 24), .ref (ad 42)] σ Q := by
  refine zz_enter hI (by decide) (Nat.le_of_ble_eq_true rfl) (fun p e s m below meth c M => ?_)
  have M : zM p s m _ meth c cX0_ofRow 4 RX0 (some .int) tabX D cA ad y := M
  refine zz_ls [(0, .ref (ad 24)), (1, .ref (ad 42))] rfl ?_
  unfold wX0_ofRow_42 at h
  refine zz_iconst (v := 0) M dX0_ofRow_0 (by decide) ?_
  refine zz_istore_n M [(2, .int 0), (0, .ref (ad 24)), (1, .ref (ad 42))] dX0_ofRow_1 rfl (by decide) rfl ?_
  refine zz_iconst (v := 0) M dX0_ofRow_2 (by decide) ?_
  refine zz_istore_n M [(3, .int 0), (2, .int 0), (0, .ref (ad 24)), (1, .ref (ad 42))] dX0_ofRow_3 rfl (by decide) rfl ?_
  refine zz_sub [(0, .ref (ad 24)), (1, .ref (ad 42)), (2, .int 0), (3, .int 0)] [2, 3, 1, 0] rfl ?_
  refine sX0_ofRow_42_L4   M (fun v110 σ111 h => ?_) 300 _ _ _ h
  refine zz_iconst (v := 1) M dX0_ofRow_44 (by decide) ?_
  refine zz_istore_n M [(3, .int 1), (0, .ref (ad 24)), (1, .ref (ad 42)), (2, .int v110)] dX0_ofRow_45 rfl (by decide) rfl ?_
  refine zz_sub [(0, .ref (ad 24)), (1, .ref (ad 42)), (2, .int v110), (3, .int 1)] [1, 2, 3, 0] rfl ?_
  refine sX0_ofRow_42_L46   M (fun v119 σ120 h => ?_) 300 _ _ _ h
  refine zz_iload_n M 0 dX0_ofRow_91 rfl rfl ?_
  exact zz_iret M dX0_ofRow_92 h
def wX7_blame_L72 (Q : Int32 → zSt → Prop) (K133 : Int32 → Int32 → Int32 → zSt → Prop) (x1 : Int32) (x5 : Int32) (x6 : Int32) : Nat → Int32 → Int32 → Int32 → Int32 → zSt → Prop
  | 0, _, _, _, _, _ => False
  | n + 1, x2, x3, x4, x7, σ => if 3 ≤ x7 then (K133 x2 x3 x4 σ) else (vp_in x5 24 ∧ (∀ σ105 : zSt, σ105 = zput σ 42 x5.toNatClampNeg x7 → (if x7 = x6 then (if x2 ≤ x2 then (∀ x110 : Int32, x110 = x7 + 1 → (wX7_blame_L72 Q K133 x1 x5 x6 n x2 x3 x4 x110 σ105)) else (∀ x111 : Int32, x111 = x7 + 1 → (wX7_blame_L72 Q K133 x1 x5 x6 n x2 x5 x7 x111 σ105))) else (wX0_ofRow_42  σ105 (fun r106 σ107 => if x2 ≤ r106 then (∀ x108 : Int32, x108 = x7 + 1 → (wX7_blame_L72 Q K133 x1 x5 x6 n x2 x3 x4 x108 σ107)) else (∀ x109 : Int32, x109 = x7 + 1 → (wX7_blame_L72 Q K133 x1 x5 x6 n r106 x5 x7 x109 σ107)))))))
set_option maxRecDepth 20000 in
set_option maxHeartbeats 4000000 in
theorem sX7_blame_L72 {Q : Int32 → zSt → Prop} {K133 : Int32 → Int32 → Int32 → zSt → Prop} (x1 : Int32) (x5 : Int32) (x6 : Int32)  (M : zM p s m args meth c cX7_blame 9 RX7 (some .int) tabX D cA ad y) (hK133 : ∀ (v2 : Int32) (v3 : Int32) (v4 : Int32) (σ : zSt), K133 v2 v3 v4 σ → zG p l e (zrm 6) s m args below meth c 9 tabX D cA ad (MQ below (va_Qi Q (fun σ' t => va_P D vwCl (zws tabX cA ad σ') t.heap) (zIn tabX ad)) args s 0 0 (zIn tabX ad)) 133 [(0, .ref (ad 0)), (1, .int x1), (2, .int v2), (3, .int v3), (4, .int v4), (5, .int x5), (6, .int x6)] [] σ) : ∀ (n : Nat) (x2 : Int32) (x3 : Int32) (x4 : Int32) (x7 : Int32) (σ : zSt), wX7_blame_L72 Q K133 x1 x5 x6 n x2 x3 x4 x7 σ → zG p l e (zrm 6) s m args below meth c 9 tabX D cA ad (MQ below (va_Qi Q (fun σ' t => va_P D vwCl (zws tabX cA ad σ') t.heap) (zIn tabX ad)) args s 0 0 (zIn tabX ad)) 72 [(0, .ref (ad 0)), (1, .int x1), (2, .int x2), (3, .int x3), (4, .int x4), (5, .int x5), (6, .int x6), (7, .int x7)] [] σ := by
  intro n
  induction n with
  | zero => intro x2 x3 x4 x7 σ h; exact absurd h (by simp [wX7_blame_L72])
  | succ n ih =>
    intro x2 x3 x4 x7 σ h
    unfold wX7_blame_L72 at h
    refine zz_iload M 7 dX7_blame_72 rfl ?_
    refine zz_iconst (v := 3) M dX7_blame_74 (by decide) ?_
    refine zz_icmp_ge M 133 dX7_blame_75 (by decide) (fun c => ?_) (fun c => ?_)
    · have h := zif (c := 3 ≤ x7) h c
      refine zz_sub [(0, .ref (ad 0)), (1, .int x1), (2, .int x2), (3, .int x3), (4, .int x4), (5, .int x5), (6, .int x6)] [0, 1, 2, 3, 4, 5, 6] rfl ?_
      exact hK133 _ _ _ _ h
    · have h := zifn (c := 3 ≤ x7) h c
      refine zz_aload_n M 0 dX7_blame_78 rfl rfl ?_
      refine zz_getR M f_X7_80 tX_0 rfl dX7_blame_79 ?_
      refine zz_iload M 5 dX7_blame_82 rfl ?_
      refine zz_iload M 7 dX7_blame_84 rfl ?_
      refine zz_iast M tX_42 h.1 dX7_blame_86 ?_
      have h := h.2
      refine zz_sg (fun σ105 eσ105 => ?_)
      have h := h σ105 eσ105
      refine zz_iload M 7 dX7_blame_87 rfl ?_
      refine zz_iload M 6 dX7_blame_89 rfl ?_
      refine zz_icmp_ne M 98 dX7_blame_91 (by decide) (fun c => ?_) (fun c => ?_)
      · have h := zifn (c := x7 = x6) h c
        refine zz_aload_n M 0 dX7_blame_98 rfl rfl ?_
        refine zz_getR M f_X7_58 tX_0 rfl dX7_blame_99 ?_
        refine zz_aload_n M 0 dX7_blame_102 rfl rfl ?_
        refine zz_getR M f_X7_80 tX_0 rfl dX7_blame_103 ?_
        refine zz_callVI (d' := 5) (As := [.ref (ad 42)]) (rest := []) M l_X7_171 tX_24 rfl rfl dX7_blame_106 rfl rfl (by decide) (Nat.le_of_ble_eq_true rfl) (by have hI := M.2.2.2.2.2.2.2.2; exact kX0_ofRow_42 hI   _ _ h) (fun r106 σ107 h => ?_)
        refine zz_istore M [(8, .int r106), (0, .ref (ad 0)), (1, .int x1), (2, .int x2), (3, .int x3), (4, .int x4), (5, .int x5), (6, .int x6), (7, .int x7)] dX7_blame_109 (by decide) rfl ?_
        refine zz_iload M 0 dX7_blame_111 rfl ?_
        refine zz_iload_n M 3 dX7_blame_113 rfl rfl ?_
        refine zz_icmp_ge M 127 dX7_blame_114 (by decide) (fun c => ?_) (fun c => ?_)
        · have h := zif (c := x2 ≤ r106) h c
          obtain ⟨x108, ex108⟩ : ∃ z : Int32, z = x7 + 1 := ⟨_, rfl⟩
          have h := h x108 ex108
          refine zz_iinc M [(7, .int x108), (8, .int r106), (0, .ref (ad 0)), (1, .int x1), (2, .int x2), (3, .int x3), (4, .int x4), (5, .int x5), (6, .int x6)] 8 dX7_blame_127 rfl (n32 := 1) (by decide) ex108 (by decide) rfl ?_
          refine zz_goto M 72 dX7_blame_130 (by decide) ?_
          refine zz_sub [(0, .ref (ad 0)), (1, .int x1), (2, .int x2), (3, .int x3), (4, .int x4), (5, .int x5), (6, .int x6), (7, .int x108)] [2, 3, 4, 5, 6, 7, 8, 0] rfl ?_
          exact ih _ _ _ _ _ h
        · have h := zifn (c := x2 ≤ r106) h c
          refine zz_iload M 0 dX7_blame_117 rfl ?_
          refine zz_istore_n M [(2, .int r106), (8, .int r106), (0, .ref (ad 0)), (1, .int x1), (3, .int x3), (4, .int x4), (5, .int x5), (6, .int x6), (7, .int x7)] dX7_blame_119 rfl (by decide) rfl ?_
          refine zz_iload M 6 dX7_blame_120 rfl ?_
          refine zz_istore_n M [(3, .int x5), (2, .int r106), (8, .int r106), (0, .ref (ad 0)), (1, .int x1), (4, .int x4), (5, .int x5), (6, .int x6), (7, .int x7)] dX7_blame_122 rfl (by decide) rfl ?_
          refine zz_iload M 8 dX7_blame_123 rfl ?_
          refine zz_istore M [(4, .int x7), (3, .int x5), (2, .int r106), (8, .int r106), (0, .ref (ad 0)), (1, .int x1), (5, .int x5), (6, .int x6), (7, .int x7)] dX7_blame_125 (by decide) rfl ?_
          obtain ⟨x109, ex109⟩ : ∃ z : Int32, z = x7 + 1 := ⟨_, rfl⟩
          have h := h x109 ex109
          refine zz_iinc M [(7, .int x109), (4, .int x7), (3, .int x5), (2, .int r106), (8, .int r106), (0, .ref (ad 0)), (1, .int x1), (5, .int x5), (6, .int x6)] 8 dX7_blame_127 rfl (n32 := 1) (by decide) ex109 (by decide) rfl ?_
          refine zz_goto M 72 dX7_blame_130 (by decide) ?_
          refine zz_sub [(0, .ref (ad 0)), (1, .int x1), (2, .int r106), (3, .int x5), (4, .int x7), (5, .int x5), (6, .int x6), (7, .int x109)] [5, 6, 3, 2, 1, 7, 8, 0] rfl ?_
          exact ih _ _ _ _ _ h
      · have h := zif (c := x7 = x6) h c
        refine zz_iload_n M 2 dX7_blame_94 rfl rfl ?_
        refine zz_goto M 109 dX7_blame_95 (by decide) ?_
        refine zz_istore M [(8, .int x2), (0, .ref (ad 0)), (1, .int x1), (2, .int x2), (3, .int x3), (4, .int x4), (5, .int x5), (6, .int x6), (7, .int x7)] dX7_blame_109 (by decide) rfl ?_
        refine zz_iload M 0 dX7_blame_111 rfl ?_
        refine zz_iload_n M 3 dX7_blame_113 rfl rfl ?_
        refine zz_icmp_ge M 127 dX7_blame_114 (by decide) (fun c => ?_) (fun c => ?_)
        · have h := zif (c := x2 ≤ x2) h c
          obtain ⟨x110, ex110⟩ : ∃ z : Int32, z = x7 + 1 := ⟨_, rfl⟩
          have h := h x110 ex110
          refine zz_iinc M [(7, .int x110), (8, .int x2), (0, .ref (ad 0)), (1, .int x1), (2, .int x2), (3, .int x3), (4, .int x4), (5, .int x5), (6, .int x6)] 8 dX7_blame_127 rfl (n32 := 1) (by decide) ex110 (by decide) rfl ?_
          refine zz_goto M 72 dX7_blame_130 (by decide) ?_
          refine zz_sub [(0, .ref (ad 0)), (1, .int x1), (2, .int x2), (3, .int x3), (4, .int x4), (5, .int x5), (6, .int x6), (7, .int x110)] [2, 3, 4, 5, 6, 7, 8, 0] rfl ?_
          exact ih _ _ _ _ _ h
        · have h := zifn (c := x2 ≤ x2) h c
          refine zz_iload M 0 dX7_blame_117 rfl ?_
          refine zz_istore_n M [(2, .int x2), (8, .int x2), (0, .ref (ad 0)), (1, .int x1), (3, .int x3), (4, .int x4), (5, .int x5), (6, .int x6), (7, .int x7)] dX7_blame_119 rfl (by decide) rfl ?_
          refine zz_iload M 6 dX7_blame_120 rfl ?_
          refine zz_istore_n M [(3, .int x5), (2, .int x2), (8, .int x2), (0, .ref (ad 0)), (1, .int x1), (4, .int x4), (5, .int x5), (6, .int x6), (7, .int x7)] dX7_blame_122 rfl (by decide) rfl ?_
          refine zz_iload M 8 dX7_blame_123 rfl ?_
          refine zz_istore M [(4, .int x7), (3, .int x5), (2, .int x2), (8, .int x2), (0, .ref (ad 0)), (1, .int x1), (5, .int x5), (6, .int x6), (7, .int x7)] dX7_blame_125 (by decide) rfl ?_
          obtain ⟨x111, ex111⟩ : ∃ z : Int32, z = x7 + 1 := ⟨_, rfl⟩
          have h := h x111 ex111
          refine zz_iinc M [(7, .int x111), (4, .int x7), (3, .int x5), (2, .int x2), (8, .int x2), (0, .ref (ad 0)), (1, .int x1), (5, .int x5), (6, .int x6)] 8 dX7_blame_127 rfl (n32 := 1) (by decide) ex111 (by decide) rfl ?_
          refine zz_goto M 72 dX7_blame_130 (by decide) ?_
          refine zz_sub [(0, .ref (ad 0)), (1, .int x1), (2, .int x2), (3, .int x5), (4, .int x7), (5, .int x5), (6, .int x6), (7, .int x111)] [5, 6, 3, 2, 1, 7, 8, 0] rfl ?_
          exact ih _ _ _ _ _ h
def wX7_blame_L53 (Q : Int32 → zSt → Prop) (K148 : Int32 → Int32 → Int32 → zSt → Prop) (x1 : Int32) : Nat → Int32 → Int32 → Int32 → Int32 → zSt → Prop
  | 0, _, _, _, _, _ => False
  | n + 1, x2, x3, x4, x5, σ => if 24 ≤ x5 then (K148 x2 x3 x4 σ) else (vp_in x5 24 ∧ (∀ x104 : Int32, x104 = (σ.1 42 x5.toNatClampNeg) → (wX7_blame_L72 Q (fun v112 v113 v114 σ115 => vp_in x5 24 ∧ (∀ σ116 : zSt, σ116 = zput σ115 42 x5.toNatClampNeg x104 → (∀ x117 : Int32, x117 = x5 + 1 → (wX7_blame_L53 Q K148 x1 n v112 v113 v114 x117 σ116)))) x1 x5 x104 300 x2 x3 x4 0 σ)))
set_option maxRecDepth 20000 in
set_option maxHeartbeats 4000000 in
theorem sX7_blame_L53 {Q : Int32 → zSt → Prop} {K148 : Int32 → Int32 → Int32 → zSt → Prop} (x1 : Int32)  (M : zM p s m args meth c cX7_blame 9 RX7 (some .int) tabX D cA ad y) (hK148 : ∀ (v2 : Int32) (v3 : Int32) (v4 : Int32) (σ : zSt), K148 v2 v3 v4 σ → zG p l e (zrm 6) s m args below meth c 9 tabX D cA ad (MQ below (va_Qi Q (fun σ' t => va_P D vwCl (zws tabX cA ad σ') t.heap) (zIn tabX ad)) args s 0 0 (zIn tabX ad)) 148 [(1, .int x1), (2, .int v2), (3, .int v3), (4, .int v4)] [] σ) : ∀ (n : Nat) (x2 : Int32) (x3 : Int32) (x4 : Int32) (x5 : Int32) (σ : zSt), wX7_blame_L53 Q K148 x1 n x2 x3 x4 x5 σ → zG p l e (zrm 6) s m args below meth c 9 tabX D cA ad (MQ below (va_Qi Q (fun σ' t => va_P D vwCl (zws tabX cA ad σ') t.heap) (zIn tabX ad)) args s 0 0 (zIn tabX ad)) 53 [(0, .ref (ad 0)), (1, .int x1), (2, .int x2), (3, .int x3), (4, .int x4), (5, .int x5)] [] σ := by
  intro n
  induction n with
  | zero => intro x2 x3 x4 x5 σ h; exact absurd h (by simp [wX7_blame_L53])
  | succ n ih =>
    intro x2 x3 x4 x5 σ h
    unfold wX7_blame_L53 at h
    refine zz_iload M 5 dX7_blame_53 rfl ?_
    refine zz_bipush (v := 24) M dX7_blame_55 (by decide) ?_
    refine zz_icmp_ge M 148 dX7_blame_57 (by decide) (fun c => ?_) (fun c => ?_)
    · have h := zif (c := 24 ≤ x5) h c
      refine zz_sub [(1, .int x1), (2, .int x2), (3, .int x3), (4, .int x4)] [1, 2, 3, 4] rfl ?_
      exact hK148 _ _ _ _ h
    · have h := zifn (c := 24 ≤ x5) h c
      refine zz_aload_n M 0 dX7_blame_60 rfl rfl ?_
      refine zz_getR M f_X7_80 tX_0 rfl dX7_blame_61 ?_
      refine zz_iload M 5 dX7_blame_64 rfl ?_
      refine zz_iald M tX_42 h.1 dX7_blame_66 ?_
      have h := h.2
      refine zz_topi (fun x104 ex104 => ?_)
      have h := h x104 ex104
      refine zz_istore M [(6, .int x104), (0, .ref (ad 0)), (1, .int x1), (2, .int x2), (3, .int x3), (4, .int x4), (5, .int x5)] dX7_blame_67 (by decide) rfl ?_
      refine zz_iconst (v := 0) M dX7_blame_69 (by decide) ?_
      refine zz_istore M [(7, .int 0), (6, .int x104), (0, .ref (ad 0)), (1, .int x1), (2, .int x2), (3, .int x3), (4, .int x4), (5, .int x5)] dX7_blame_70 (by decide) rfl ?_
      refine zz_sub [(0, .ref (ad 0)), (1, .int x1), (2, .int x2), (3, .int x3), (4, .int x4), (5, .int x5), (6, .int x104), (7, .int 0)] [2, 3, 4, 5, 6, 7, 1, 0] rfl ?_
      refine sX7_blame_L72 x1 x5 x104  M (fun v112 v113 v114 σ115 h => ?_) 300 _ _ _ _ _ h
      refine zz_aload_n M 0 dX7_blame_133 rfl rfl ?_
      refine zz_getR M f_X7_80 tX_0 rfl dX7_blame_134 ?_
      refine zz_iload M 5 dX7_blame_137 rfl ?_
      refine zz_iload M 6 dX7_blame_139 rfl ?_
      refine zz_iast M tX_42 h.1 dX7_blame_141 ?_
      have h := h.2
      refine zz_sg (fun σ116 eσ116 => ?_)
      have h := h σ116 eσ116
      obtain ⟨x117, ex117⟩ : ∃ z : Int32, z = x5 + 1 := ⟨_, rfl⟩
      have h := h x117 ex117
      refine zz_iinc M [(5, .int x117), (0, .ref (ad 0)), (1, .int x1), (2, .int v112), (3, .int v113), (4, .int v114), (6, .int x104)] 5 dX7_blame_142 rfl (n32 := 1) (by decide) ex117 (by decide) rfl ?_
      refine zz_goto M 53 dX7_blame_145 (by decide) ?_
      refine zz_sub [(0, .ref (ad 0)), (1, .int x1), (2, .int v112), (3, .int v113), (4, .int v114), (5, .int x117)] [1, 2, 3, 4, 5, 0] rfl ?_
      exact ih _ _ _ _ _ h
def wX7_blame (x1 : Int32) (σ : zSt) (Q : Int32 → zSt → Prop) : Prop := if x1 < 0 then (Q (-2) σ) else (if x1 ≤ 2 then (wX0_ofRow_2  σ (fun r101 σ102 => ∀ σ103 : zSt, σ103 = zcopy σ102 2 0 42 0 24 → (wX7_blame_L53 Q (fun v118 v119 v120 σ121 => if v119 = (-1) then (Q (-1) σ121) else (if x1 = 0 then (Q v119 σ121) else (if x1 = 1 then (Q v120 σ121) else (Q v118 σ121)))) x1 300 r101 (-1) (-1) 0 σ103))) else (Q (-2) σ))
set_option maxRecDepth 20000 in
set_option maxHeartbeats 4000000 in
theorem kX7_blame (hI : zInj tabX ad) (x1 : Int32)  (σ : zSt) (Q : Int32 → zSt → Prop) (h : wX7_blame x1 σ Q) : zOkI l tabX D cA ad y 6 yX7_blame cX7_blame 9 (some .int) [.ref (ad 0), .int x1] σ Q := by
  refine zz_enter hI (by decide) (Nat.le_of_ble_eq_true rfl) (fun p e s m below meth c M => ?_)
  have M : zM p s m _ meth c cX7_blame 9 RX7 (some .int) tabX D cA ad y := M
  refine zz_ls [(0, .ref (ad 0)), (1, .int x1)] rfl ?_
  unfold wX7_blame at h
  refine zz_iload_n M 1 dX7_blame_0 rfl rfl ?_
  refine zz_if_lt (y0 := 0) M 9 dX7_blame_1 (by decide) (fun c => ?_) (fun c => ?_)
  · have h := zif (c := x1 < 0) h c
    refine zz_bipush (v := (-2)) M dX7_blame_9 (by decide) ?_
    exact zz_iret M dX7_blame_11 h
  · have h := zifn (c := x1 < 0) h c
    refine zz_iload_n M 1 dX7_blame_4 rfl rfl ?_
    refine zz_iconst (v := 2) M dX7_blame_5 (by decide) ?_
    refine zz_icmp_le M 12 dX7_blame_6 (by decide) (fun c => ?_) (fun c => ?_)
    · have h := zif (c := x1 ≤ 2) h c
      refine zz_aload_n M 0 dX7_blame_12 rfl rfl ?_
      refine zz_getR M f_X7_58 tX_0 rfl dX7_blame_13 ?_
      refine zz_aload_n M 0 dX7_blame_16 rfl rfl ?_
      refine zz_getR M f_X7_12 tX_0 rfl dX7_blame_17 ?_
      refine zz_getR M f_X7_148 tX_1 rfl dX7_blame_20 ?_
      refine zz_callVI (d' := 5) (As := [.ref (ad 2)]) (rest := []) M l_X7_171 tX_24 rfl rfl dX7_blame_23 rfl rfl (by decide) (Nat.le_of_ble_eq_true rfl) (by have hI := M.2.2.2.2.2.2.2.2; exact kX0_ofRow_2 hI   _ _ h) (fun r101 σ102 h => ?_)
      refine zz_istore_n M [(2, .int r101), (0, .ref (ad 0)), (1, .int x1)] dX7_blame_26 rfl (by decide) rfl ?_
      refine zz_iconst (v := (-1)) M dX7_blame_27 (by decide) ?_
      refine zz_istore_n M [(3, .int (-1)), (2, .int r101), (0, .ref (ad 0)), (1, .int x1)] dX7_blame_28 rfl (by decide) rfl ?_
      refine zz_iconst (v := (-1)) M dX7_blame_29 (by decide) ?_
      refine zz_istore M [(4, .int (-1)), (3, .int (-1)), (2, .int r101), (0, .ref (ad 0)), (1, .int x1)] dX7_blame_30 (by decide) rfl ?_
      refine zz_aload_n M 3 dX7_blame_32 rfl rfl ?_
      refine zz_getR M f_X7_12 tX_0 rfl dX7_blame_33 ?_
      refine zz_getR M f_X7_148 tX_1 rfl dX7_blame_36 ?_
      refine zz_iconst (v := 0) M dX7_blame_39 (by decide) ?_
      refine zz_aload_n M 3 dX7_blame_40 rfl rfl ?_
      refine zz_getR M f_X7_80 tX_0 rfl dX7_blame_41 ?_
      refine zz_iconst (v := 0) M dX7_blame_44 (by decide) ?_
      refine zz_bipush (v := 24) M dX7_blame_45 (by decide) ?_
      refine zz_copyK (sk := 0) (dk := 0) (nk := 24) M l_X7_194 zarrcopy tX_2 tX_42 (by decide) (Nat.le_of_ble_eq_true rfl) dX7_blame_47 (by decide) (by decide) ?_
      refine zz_sg (fun σ103 eσ103 => ?_)
      have h := h σ103 eσ103
      refine zz_iconst (v := 0) M dX7_blame_50 (by decide) ?_
      refine zz_istore M [(5, .int 0), (4, .int (-1)), (3, .int (-1)), (2, .int r101), (0, .ref (ad 0)), (1, .int x1)] dX7_blame_51 (by decide) rfl ?_
      refine zz_sub [(0, .ref (ad 0)), (1, .int x1), (2, .int r101), (3, .int (-1)), (4, .int (-1)), (5, .int 0)] [4, 5, 3, 2, 1, 0] rfl ?_
      refine sX7_blame_L53 x1  M (fun v118 v119 v120 σ121 h => ?_) 300 _ _ _ _ _ h
      refine zz_iload_n M 2 dX7_blame_148 rfl rfl ?_
      refine zz_iconst (v := (-1)) M dX7_blame_149 (by decide) ?_
      refine zz_icmp_ne M 155 dX7_blame_150 (by decide) (fun c => ?_) (fun c => ?_)
      · have h := zifn (c := v119 = (-1)) h c
        refine zz_iload_n M 0 dX7_blame_155 rfl rfl ?_
        refine zz_if_ne (y0 := 0) M 163 dX7_blame_156 (by decide) (fun c => ?_) (fun c => ?_)
        · have h := zifn (c := x1 = 0) h c
          refine zz_iload_n M 0 dX7_blame_163 rfl rfl ?_
          refine zz_iconst (v := 1) M dX7_blame_164 (by decide) ?_
          refine zz_icmp_ne M 173 dX7_blame_165 (by decide) (fun c => ?_) (fun c => ?_)
          · have h := zifn (c := x1 = 1) h c
            refine zz_iload_n M 1 dX7_blame_173 rfl rfl ?_
            exact zz_iret M dX7_blame_174 h
          · have h := zif (c := x1 = 1) h c
            refine zz_iload M 3 dX7_blame_168 rfl ?_
            refine zz_goto M 174 dX7_blame_170 (by decide) ?_
            exact zz_iret M dX7_blame_174 h
        · have h := zif (c := x1 = 0) h c
          refine zz_iload_n M 2 dX7_blame_159 rfl rfl ?_
          refine zz_goto M 174 dX7_blame_160 (by decide) ?_
          exact zz_iret M dX7_blame_174 h
      · have h := zif (c := v119 = (-1)) h c
        refine zz_iconst (v := (-1)) M dX7_blame_153 (by decide) ?_
        exact zz_iret M dX7_blame_154 h
    · have h := zifn (c := x1 ≤ 2) h c
      refine zz_bipush (v := (-2)) M dX7_blame_9 (by decide) ?_
      exact zz_iret M dX7_blame_11 h
def wX7_isSheet (x0 : Int32) (σ : zSt) (Q : Int32 → zSt → Prop) : Prop := if x0 < 0 then (Q 0 σ) else (if 4 ≤ x0 then (Q 0 σ) else (Q 1 σ))
set_option maxRecDepth 20000 in
set_option maxHeartbeats 4000000 in
theorem kX7_isSheet (hI : zInj tabX ad) (x0 : Int32)  (σ : zSt) (Q : Int32 → zSt → Prop) (h : wX7_isSheet x0 σ Q) : zOkI l tabX D cA ad y 1 yX7_isSheet cX7_isSheet 1 (some .boolean) [.int x0] σ Q := by
  refine zz_enter hI (by decide) (Nat.le_of_ble_eq_true rfl) (fun p e s m below meth c M => ?_)
  have M : zM p s m _ meth c cX7_isSheet 1 RX7 (some .boolean) tabX D cA ad y := M
  refine zz_ls [(0, .int x0)] rfl ?_
  unfold wX7_isSheet at h
  refine zz_iload_n M 0 dX7_isSheet_0 rfl rfl ?_
  refine zz_if_lt (y0 := 0) M 13 dX7_isSheet_1 (by decide) (fun c => ?_) (fun c => ?_)
  · have h := zif (c := x0 < 0) h c
    refine zz_iconst (v := 0) M dX7_isSheet_13 (by decide) ?_
    exact zz_zret M dX7_isSheet_14 (Or.inl rfl) h
  · have h := zifn (c := x0 < 0) h c
    refine zz_iload_n M 0 dX7_isSheet_4 rfl rfl ?_
    refine zz_iconst (v := 4) M dX7_isSheet_5 (by decide) ?_
    refine zz_icmp_ge M 13 dX7_isSheet_6 (by decide) (fun c => ?_) (fun c => ?_)
    · have h := zif (c := 4 ≤ x0) h c
      refine zz_iconst (v := 0) M dX7_isSheet_13 (by decide) ?_
      exact zz_zret M dX7_isSheet_14 (Or.inl rfl) h
    · have h := zifn (c := 4 ≤ x0) h c
      refine zz_iconst (v := 1) M dX7_isSheet_9 (by decide) ?_
      refine zz_goto M 14 dX7_isSheet_10 (by decide) ?_
      exact zz_zret M dX7_isSheet_14 (Or.inr rfl) h
def wX7_tellingRefusal (x1 : Int32) (σ : zSt) (Q : Int32 → zSt → Prop) : Prop := wX7_isSheet x1 σ (fun r101 σ102 => if r101 = 0 then (Q (-2) σ102) else (vp_in x1 4 ∧ (if (σ102.1 (61 + x1.toNatClampNeg) 1) = (-1) then (Q (-11) σ102) else (vp_in x1 4 ∧ (if (σ102.1 (61 + x1.toNatClampNeg) 2) ≤ 24 then (Q 0 σ102) else (Q (-2) σ102))))))
set_option maxRecDepth 20000 in
set_option maxHeartbeats 4000000 in
theorem kX7_tellingRefusal (hI : zInj tabX ad) (x1 : Int32)  (σ : zSt) (Q : Int32 → zSt → Prop) (h : wX7_tellingRefusal x1 σ Q) : zOkI l tabX D cA ad y 2 yX7_tellingRefusal cX7_tellingRefusal 2 (some .int) [.ref (ad 0), .int x1] σ Q := by
  refine zz_enter hI (by decide) (Nat.le_of_ble_eq_true rfl) (fun p e s m below meth c M => ?_)
  have M : zM p s m _ meth c cX7_tellingRefusal 2 RX7 (some .int) tabX D cA ad y := M
  refine zz_ls [(0, .ref (ad 0)), (1, .int x1)] rfl ?_
  unfold wX7_tellingRefusal at h
  refine zz_iload_n M 1 dX7_tellingRefusal_0 rfl rfl ?_
  refine zz_callSI (d' := 1) (As := [.int x1]) (rest := []) M l_X7_249 dX7_tellingRefusal_1 rfl rfl (by decide) (Nat.le_of_ble_eq_true rfl) (by have hI := M.2.2.2.2.2.2.2.2; exact kX7_isSheet hI _  _ _ h) (fun r101 σ102 h => ?_)
  refine zz_if_ne (y0 := 0) M 10 dX7_tellingRefusal_4 (by decide) (fun c => ?_) (fun c => ?_)
  · have h := zifn (c := r101 = 0) h c
    refine zz_aload_n M 0 dX7_tellingRefusal_10 rfl rfl ?_
    refine zz_getR M f_X7_49 tX_0 rfl dX7_tellingRefusal_11 ?_
    refine zz_iload_n M 1 dX7_tellingRefusal_14 rfl rfl ?_
    have hq103 := h.1
    refine zz_aald M tX_23 (by decide) hq103 dX7_tellingRefusal_15 ?_
    have h := h.2
    refine zz_getI M f_X7_259 (tX_Sheet (zclt hq103)) rfl dX7_tellingRefusal_16 ?_
    refine zz_iconst (v := (-1)) M dX7_tellingRefusal_19 (by decide) ?_
    refine zz_icmp_ne M 26 dX7_tellingRefusal_20 (by decide) (fun c => ?_) (fun c => ?_)
    · have h := zifn (c := (σ102.1 (61 + x1.toNatClampNeg) 1) = (-1)) h c
      refine zz_aload_n M 0 dX7_tellingRefusal_26 rfl rfl ?_
      refine zz_getR M f_X7_49 tX_0 rfl dX7_tellingRefusal_27 ?_
      refine zz_iload_n M 1 dX7_tellingRefusal_30 rfl rfl ?_
      have hq104 := h.1
      refine zz_aald M tX_23 (by decide) hq104 dX7_tellingRefusal_31 ?_
      have h := h.2
      refine zz_getI M f_X7_228 (tX_Sheet (zclt hq104)) rfl dX7_tellingRefusal_32 ?_
      refine zz_bipush (v := 24) M dX7_tellingRefusal_35 (by decide) ?_
      refine zz_icmp_le M 45 dX7_tellingRefusal_37 (by decide) (fun c => ?_) (fun c => ?_)
      · have h := zif (c := (σ102.1 (61 + x1.toNatClampNeg) 2) ≤ 24) h c
        refine zz_iconst (v := 0) M dX7_tellingRefusal_45 (by decide) ?_
        exact zz_iret M dX7_tellingRefusal_46 h
      · have h := zifn (c := (σ102.1 (61 + x1.toNatClampNeg) 2) ≤ 24) h c
        refine zz_bipush (v := (-2)) M dX7_tellingRefusal_40 (by decide) ?_
        refine zz_goto M 46 dX7_tellingRefusal_42 (by decide) ?_
        exact zz_iret M dX7_tellingRefusal_46 h
    · have h := zif (c := (σ102.1 (61 + x1.toNatClampNeg) 1) = (-1)) h c
      refine zz_bipush (v := (-11)) M dX7_tellingRefusal_23 (by decide) ?_
      exact zz_iret M dX7_tellingRefusal_25 h
  · have h := zif (c := r101 = 0) h c
    refine zz_bipush (v := (-2)) M dX7_tellingRefusal_7 (by decide) ?_
    exact zz_iret M dX7_tellingRefusal_9 h
def wX7_firstUnlawful_Sheetcells_L5 (Q : Int32 → zSt → Prop) (K69 : Int32 → zSt → Prop) (K91 : zSt → Prop) (i1 : Nat) (x2 : Int32) : Nat → Int32 → Int32 → zSt → Prop
  | 0, _, _, _ => False
  | n + 1, x3, x4, σ => if x2 ≤ x4 then (K91  σ) else (if 40 ≤ x4 then (K91  σ) else (if x4 ≤ 0 then (vp_in x4 40 ∧ (∀ a101 : Int32, a101 = (σ.1 (65 + i1) x4.toNatClampNeg) → (wX7_isBridge a101 σ (fun r102 σ103 => if r102 = 0 then (K69 x4 σ103) else (∀ x104 : Int32, x104 = (x3 + 1) → (∀ x105 : Int32, x105 = x4 + 1 → (wX7_firstUnlawful_Sheetcells_L5 Q K69 K91 i1 x2 n x104 x105 σ103))))))) else (vp_in x4 40 ∧ (vp_in (x4 - 1) 40 ∧ (if (σ.1 (65 + i1) x4.toNatClampNeg) = (σ.1 (65 + i1) (x4 - 1 : Int32).toNatClampNeg) then (vp_in x4 40 ∧ (∀ a106 : Int32, a106 = (σ.1 (65 + i1) x4.toNatClampNeg) → (wX7_isBridge a106 σ (fun r107 σ108 => if r107 = 0 then (K69 x4 σ108) else (∀ x109 : Int32, x109 = (x3 + 1) → (∀ x110 : Int32, x110 = x4 + 1 → (wX7_firstUnlawful_Sheetcells_L5 Q K69 K91 i1 x2 n x109 x110 σ108))))))) else (vp_in x4 40 ∧ (∀ a111 : Int32, a111 = (σ.1 (65 + i1) x4.toNatClampNeg) → (wX7_isBridge a111 σ (fun r112 σ113 => if r112 = 0 then (K69 x4 σ113) else (if (σ113.1 1 8) ≤ x3 then (∀ x114 : Int32, x114 = x4 + 1 → (wX7_firstUnlawful_Sheetcells_L5 Q K69 K91 i1 x2 n 1 x114 σ113)) else (K69 x4 σ113)))))))))))
set_option maxRecDepth 20000 in
set_option maxHeartbeats 4000000 in
theorem sX7_firstUnlawful_Sheetcells_L5 {Q : Int32 → zSt → Prop} {K69 : Int32 → zSt → Prop} {K91 : zSt → Prop} (i1 : Nat) (x2 : Int32) (hi1 : i1 < 4) (M : zM p s m args meth c cX7_firstUnlawful 6 RX7 (some .int) tabX D cA ad y) (hK69 : ∀ (v4 : Int32) (σ : zSt), K69 v4 σ → zG p l e (zrm 2) s m args below meth c 6 tabX D cA ad (MQ below (va_Qi Q (fun σ' t => va_P D vwCl (zws tabX cA ad σ') t.heap) (zIn tabX ad)) args s 0 0 (zIn tabX ad)) 69 [(4, .int v4)] [] σ) (hK91 : ∀ (σ : zSt), K91  σ → zG p l e (zrm 2) s m args below meth c 6 tabX D cA ad (MQ below (va_Qi Q (fun σ' t => va_P D vwCl (zws tabX cA ad σ') t.heap) (zIn tabX ad)) args s 0 0 (zIn tabX ad)) 91 [] [] σ) : ∀ (n : Nat) (x3 : Int32) (x4 : Int32) (σ : zSt), wX7_firstUnlawful_Sheetcells_L5 Q K69 K91 i1 x2 n x3 x4 σ → zG p l e (zrm 2) s m args below meth c 6 tabX D cA ad (MQ below (va_Qi Q (fun σ' t => va_P D vwCl (zws tabX cA ad σ') t.heap) (zIn tabX ad)) args s 0 0 (zIn tabX ad)) 5 [(0, .ref (ad 0)), (1, .ref (ad (65 + i1))), (2, .int x2), (3, .int x3), (4, .int x4)] [] σ := by
  intro n
  induction n with
  | zero => intro x3 x4 σ h; exact absurd h (by simp [wX7_firstUnlawful_Sheetcells_L5])
  | succ n ih =>
    intro x3 x4 σ h
    unfold wX7_firstUnlawful_Sheetcells_L5 at h
    refine zz_iload M 4 dX7_firstUnlawful_5 rfl ?_
    refine zz_iload_n M 2 dX7_firstUnlawful_7 rfl rfl ?_
    refine zz_icmp_ge M 91 dX7_firstUnlawful_8 (by decide) (fun c => ?_) (fun c => ?_)
    · have h := zif (c := x2 ≤ x4) h c
      refine zz_sub [] [] rfl ?_
      exact hK91  _ h
    · have h := zifn (c := x2 ≤ x4) h c
      refine zz_iload M 4 dX7_firstUnlawful_11 rfl ?_
      refine zz_aload_n M 1 dX7_firstUnlawful_13 rfl rfl ?_
      refine zz_alen (v := 40) M (tX_Sheet_cells hi1) (by decide) (by decide) dX7_firstUnlawful_14 ?_
      refine zz_icmp_ge M 91 dX7_firstUnlawful_15 (by decide) (fun c => ?_) (fun c => ?_)
      · have h := zif (c := 40 ≤ x4) h c
        refine zz_sub [] [] rfl ?_
        exact hK91  _ h
      · have h := zifn (c := 40 ≤ x4) h c
        refine zz_iload M 4 dX7_firstUnlawful_18 rfl ?_
        refine zz_if_le (y0 := 0) M 40 dX7_firstUnlawful_20 (by decide) (fun c => ?_) (fun c => ?_)
        · have h := zif (c := x4 ≤ 0) h c
          refine zz_iconst (v := 0) M dX7_firstUnlawful_40 (by decide) ?_
          refine zz_istore M [(5, .int 0), (0, .ref (ad 0)), (1, .ref (ad (65 + i1))), (2, .int x2), (3, .int x3), (4, .int x4)] dX7_firstUnlawful_41 (by decide) rfl ?_
          refine zz_aload_n M 2 dX7_firstUnlawful_43 rfl rfl ?_
          refine zz_iload M 5 dX7_firstUnlawful_44 rfl ?_
          refine zz_iald M (tX_Sheet_cells hi1) h.1 dX7_firstUnlawful_46 ?_
          have h := h.2
          obtain ⟨a101, ea101⟩ : ∃ z : Int32, z = (σ.1 (65 + i1) x4.toNatClampNeg) := ⟨_, rfl⟩
          have h := h a101 ea101
          refine zz_st [.int a101] (by rw [ea101]) ?_
          refine zz_callSI (d' := 1) (As := [.int a101]) (rest := []) M l_X7_104 dX7_firstUnlawful_47 rfl rfl (by decide) (Nat.le_of_ble_eq_true rfl) (by have hI := M.2.2.2.2.2.2.2.2; exact kX7_isBridge hI _  _ _ h) (fun r102 σ103 h => ?_)
          refine zz_if_eq (y0 := 0) M 69 dX7_firstUnlawful_50 (by decide) (fun c => ?_) (fun c => ?_)
          · have h := zif (c := r102 = 0) h c
            refine zz_sub [(4, .int x4)] [5] rfl ?_
            exact hK69 _ _ h
          · have h := zifn (c := r102 = 0) h c
            refine zz_iload M 0 dX7_firstUnlawful_53 rfl ?_
            refine zz_if_eq (y0 := 0) M 72 dX7_firstUnlawful_55 (by decide) (fun c => ?_) (fun c => absurd c (by decide))
            refine zz_iload M 0 dX7_firstUnlawful_72 rfl ?_
            refine zz_if_eq (y0 := 0) M 81 dX7_firstUnlawful_74 (by decide) (fun c => ?_) (fun c => absurd c (by decide))
            refine zz_iload_n M 4 dX7_firstUnlawful_81 rfl rfl ?_
            refine zz_iconst (v := 1) M dX7_firstUnlawful_82 (by decide) ?_
            refine zz_iadd M dX7_firstUnlawful_83 ?_
            refine zz_topi (fun x104 ex104 => ?_)
            have h := h x104 ex104
            refine zz_istore_n M [(3, .int x104), (5, .int 0), (0, .ref (ad 0)), (1, .ref (ad (65 + i1))), (2, .int x2), (4, .int x4)] dX7_firstUnlawful_84 rfl (by decide) rfl ?_
            obtain ⟨x105, ex105⟩ : ∃ z : Int32, z = x4 + 1 := ⟨_, rfl⟩
            have h := h x105 ex105
            refine zz_iinc M [(4, .int x105), (3, .int x104), (5, .int 0), (0, .ref (ad 0)), (1, .ref (ad (65 + i1))), (2, .int x2)] 5 dX7_firstUnlawful_85 rfl (n32 := 1) (by decide) ex105 (by decide) rfl ?_
            refine zz_goto M 5 dX7_firstUnlawful_88 (by decide) ?_
            refine zz_sub [(0, .ref (ad 0)), (1, .ref (ad (65 + i1))), (2, .int x2), (3, .int x104), (4, .int x105)] [3, 4, 5, 1, 0] rfl ?_
            exact ih _ _ _ h
        · have h := zifn (c := x4 ≤ 0) h c
          refine zz_aload_n M 1 dX7_firstUnlawful_23 rfl rfl ?_
          refine zz_iload M 4 dX7_firstUnlawful_24 rfl ?_
          refine zz_iald M (tX_Sheet_cells hi1) h.1 dX7_firstUnlawful_26 ?_
          have h := h.2
          refine zz_aload_n M 1 dX7_firstUnlawful_27 rfl rfl ?_
          refine zz_iload M 4 dX7_firstUnlawful_28 rfl ?_
          refine zz_iconst (v := 1) M dX7_firstUnlawful_30 (by decide) ?_
          refine zz_isub M dX7_firstUnlawful_31 ?_
          refine zz_iald M (tX_Sheet_cells hi1) h.1 dX7_firstUnlawful_32 ?_
          have h := h.2
          refine zz_icmp_eq M 40 dX7_firstUnlawful_33 (by decide) (fun c => ?_) (fun c => ?_)
          · have h := zif (c := (σ.1 (65 + i1) x4.toNatClampNeg) = (σ.1 (65 + i1) (x4 - 1 : Int32).toNatClampNeg)) h c
            refine zz_iconst (v := 0) M dX7_firstUnlawful_40 (by decide) ?_
            refine zz_istore M [(5, .int 0), (0, .ref (ad 0)), (1, .ref (ad (65 + i1))), (2, .int x2), (3, .int x3), (4, .int x4)] dX7_firstUnlawful_41 (by decide) rfl ?_
            refine zz_aload_n M 2 dX7_firstUnlawful_43 rfl rfl ?_
            refine zz_iload M 5 dX7_firstUnlawful_44 rfl ?_
            refine zz_iald M (tX_Sheet_cells hi1) h.1 dX7_firstUnlawful_46 ?_
            have h := h.2
            obtain ⟨a106, ea106⟩ : ∃ z : Int32, z = (σ.1 (65 + i1) x4.toNatClampNeg) := ⟨_, rfl⟩
            have h := h a106 ea106
            refine zz_st [.int a106] (by rw [ea106]) ?_
            refine zz_callSI (d' := 1) (As := [.int a106]) (rest := []) M l_X7_104 dX7_firstUnlawful_47 rfl rfl (by decide) (Nat.le_of_ble_eq_true rfl) (by have hI := M.2.2.2.2.2.2.2.2; exact kX7_isBridge hI _  _ _ h) (fun r107 σ108 h => ?_)
            refine zz_if_eq (y0 := 0) M 69 dX7_firstUnlawful_50 (by decide) (fun c => ?_) (fun c => ?_)
            · have h := zif (c := r107 = 0) h c
              refine zz_sub [(4, .int x4)] [5] rfl ?_
              exact hK69 _ _ h
            · have h := zifn (c := r107 = 0) h c
              refine zz_iload M 0 dX7_firstUnlawful_53 rfl ?_
              refine zz_if_eq (y0 := 0) M 72 dX7_firstUnlawful_55 (by decide) (fun c => ?_) (fun c => absurd c (by decide))
              refine zz_iload M 0 dX7_firstUnlawful_72 rfl ?_
              refine zz_if_eq (y0 := 0) M 81 dX7_firstUnlawful_74 (by decide) (fun c => ?_) (fun c => absurd c (by decide))
              refine zz_iload_n M 4 dX7_firstUnlawful_81 rfl rfl ?_
              refine zz_iconst (v := 1) M dX7_firstUnlawful_82 (by decide) ?_
              refine zz_iadd M dX7_firstUnlawful_83 ?_
              refine zz_topi (fun x109 ex109 => ?_)
              have h := h x109 ex109
              refine zz_istore_n M [(3, .int x109), (5, .int 0), (0, .ref (ad 0)), (1, .ref (ad (65 + i1))), (2, .int x2), (4, .int x4)] dX7_firstUnlawful_84 rfl (by decide) rfl ?_
              obtain ⟨x110, ex110⟩ : ∃ z : Int32, z = x4 + 1 := ⟨_, rfl⟩
              have h := h x110 ex110
              refine zz_iinc M [(4, .int x110), (3, .int x109), (5, .int 0), (0, .ref (ad 0)), (1, .ref (ad (65 + i1))), (2, .int x2)] 5 dX7_firstUnlawful_85 rfl (n32 := 1) (by decide) ex110 (by decide) rfl ?_
              refine zz_goto M 5 dX7_firstUnlawful_88 (by decide) ?_
              refine zz_sub [(0, .ref (ad 0)), (1, .ref (ad (65 + i1))), (2, .int x2), (3, .int x109), (4, .int x110)] [3, 4, 5, 1, 0] rfl ?_
              exact ih _ _ _ h
          · have h := zifn (c := (σ.1 (65 + i1) x4.toNatClampNeg) = (σ.1 (65 + i1) (x4 - 1 : Int32).toNatClampNeg)) h c
            refine zz_iconst (v := 1) M dX7_firstUnlawful_36 (by decide) ?_
            refine zz_goto M 41 dX7_firstUnlawful_37 (by decide) ?_
            refine zz_istore M [(5, .int 1), (0, .ref (ad 0)), (1, .ref (ad (65 + i1))), (2, .int x2), (3, .int x3), (4, .int x4)] dX7_firstUnlawful_41 (by decide) rfl ?_
            refine zz_aload_n M 2 dX7_firstUnlawful_43 rfl rfl ?_
            refine zz_iload M 5 dX7_firstUnlawful_44 rfl ?_
            refine zz_iald M (tX_Sheet_cells hi1) h.1 dX7_firstUnlawful_46 ?_
            have h := h.2
            obtain ⟨a111, ea111⟩ : ∃ z : Int32, z = (σ.1 (65 + i1) x4.toNatClampNeg) := ⟨_, rfl⟩
            have h := h a111 ea111
            refine zz_st [.int a111] (by rw [ea111]) ?_
            refine zz_callSI (d' := 1) (As := [.int a111]) (rest := []) M l_X7_104 dX7_firstUnlawful_47 rfl rfl (by decide) (Nat.le_of_ble_eq_true rfl) (by have hI := M.2.2.2.2.2.2.2.2; exact kX7_isBridge hI _  _ _ h) (fun r112 σ113 h => ?_)
            refine zz_if_eq (y0 := 0) M 69 dX7_firstUnlawful_50 (by decide) (fun c => ?_) (fun c => ?_)
            · have h := zif (c := r112 = 0) h c
              refine zz_sub [(4, .int x4)] [5] rfl ?_
              exact hK69 _ _ h
            · have h := zifn (c := r112 = 0) h c
              refine zz_iload M 0 dX7_firstUnlawful_53 rfl ?_
              refine zz_if_eq (y0 := 0) M 72 dX7_firstUnlawful_55 (by decide) (fun c => absurd c (by decide)) (fun c => ?_)
              refine zz_iload_n M 4 dX7_firstUnlawful_58 rfl rfl ?_
              refine zz_aload_n M 1 dX7_firstUnlawful_59 rfl rfl ?_
              refine zz_getR M f_X7_12 tX_0 rfl dX7_firstUnlawful_60 ?_
              refine zz_getI M f_X7_136 tX_1 rfl dX7_firstUnlawful_63 ?_
              refine zz_icmp_ge M 72 dX7_firstUnlawful_66 (by decide) (fun c => ?_) (fun c => ?_)
              · have h := zif (c := (σ113.1 1 8) ≤ x3) h c
                refine zz_iload M 0 dX7_firstUnlawful_72 rfl ?_
                refine zz_if_eq (y0 := 0) M 81 dX7_firstUnlawful_74 (by decide) (fun c => absurd c (by decide)) (fun c => ?_)
                refine zz_iconst (v := 1) M dX7_firstUnlawful_77 (by decide) ?_
                refine zz_goto M 84 dX7_firstUnlawful_78 (by decide) ?_
                refine zz_istore_n M [(3, .int 1), (5, .int 1), (0, .ref (ad 0)), (1, .ref (ad (65 + i1))), (2, .int x2), (4, .int x4)] dX7_firstUnlawful_84 rfl (by decide) rfl ?_
                obtain ⟨x114, ex114⟩ : ∃ z : Int32, z = x4 + 1 := ⟨_, rfl⟩
                have h := h x114 ex114
                refine zz_iinc M [(4, .int x114), (3, .int 1), (5, .int 1), (0, .ref (ad 0)), (1, .ref (ad (65 + i1))), (2, .int x2)] 5 dX7_firstUnlawful_85 rfl (n32 := 1) (by decide) ex114 (by decide) rfl ?_
                refine zz_goto M 5 dX7_firstUnlawful_88 (by decide) ?_
                refine zz_sub [(0, .ref (ad 0)), (1, .ref (ad (65 + i1))), (2, .int x2), (3, .int 1), (4, .int x114)] [3, 4, 5, 1, 0] rfl ?_
                exact ih _ _ _ h
              · have h := zifn (c := (σ113.1 1 8) ≤ x3) h c
                refine zz_sub [(4, .int x4)] [5] rfl ?_
                exact hK69 _ _ h
def wX7_firstUnlawful_Sheetcells (i1 : Nat) (x2 : Int32) (σ : zSt) (Q : Int32 → zSt → Prop) : Prop := wX7_firstUnlawful_Sheetcells_L5 Q (fun v115 σ116 => Q v115 σ116) (fun  σ117 => Q (-1) σ117) i1 x2 300 0 0 σ
set_option maxRecDepth 20000 in
set_option maxHeartbeats 4000000 in
theorem kX7_firstUnlawful_Sheetcells (hI : zInj tabX ad) (i1 : Nat) (x2 : Int32) (hi1 : i1 < 4) (σ : zSt) (Q : Int32 → zSt → Prop) (h : wX7_firstUnlawful_Sheetcells i1 x2 σ Q) : zOkI l tabX D cA ad y 2 yX7_firstUnlawful cX7_firstUnlawful 6 (some .int) [.ref (ad 0), .ref (ad (65 + i1)), .int x2] σ Q := by
  refine zz_enter hI (by decide) (Nat.le_of_ble_eq_true rfl) (fun p e s m below meth c M => ?_)
  have M : zM p s m _ meth c cX7_firstUnlawful 6 RX7 (some .int) tabX D cA ad y := M
  refine zz_ls [(0, .ref (ad 0)), (1, .ref (ad (65 + i1))), (2, .int x2)] rfl ?_
  unfold wX7_firstUnlawful_Sheetcells at h
  refine zz_iconst (v := 0) M dX7_firstUnlawful_0 (by decide) ?_
  refine zz_istore_n M [(3, .int 0), (0, .ref (ad 0)), (1, .ref (ad (65 + i1))), (2, .int x2)] dX7_firstUnlawful_1 rfl (by decide) rfl ?_
  refine zz_iconst (v := 0) M dX7_firstUnlawful_2 (by decide) ?_
  refine zz_istore M [(4, .int 0), (3, .int 0), (0, .ref (ad 0)), (1, .ref (ad (65 + i1))), (2, .int x2)] dX7_firstUnlawful_3 (by decide) rfl ?_
  refine zz_sub [(0, .ref (ad 0)), (1, .ref (ad (65 + i1))), (2, .int x2), (3, .int 0), (4, .int 0)] [2, 3, 4, 1, 0] rfl ?_
  refine sX7_firstUnlawful_Sheetcells_L5 i1 x2 hi1 M (fun v115 σ116 h => ?_) (fun  σ117 h => ?_) 300 _ _ _ h
  · refine zz_iload M 0 dX7_firstUnlawful_69 rfl ?_
    exact zz_iret M dX7_firstUnlawful_71 h
  · refine zz_iconst (v := (-1)) M dX7_firstUnlawful_91 (by decide) ?_
    exact zz_iret M dX7_firstUnlawful_92 h
def wX7_judge (x1 : Int32) (σ : zSt) (Q : Int32 → zSt → Prop) : Prop := wX7_tellingRefusal x1 σ (fun r101 σ102 => if r101 = 0 then (vp_in x1 4 ∧ (vp_in x1 4 ∧ (∀ a105 : Int32, a105 = (σ102.1 (61 + x1.toNatClampNeg) 2) → (wX7_firstUnlawful_Sheetcells (x1.toNatClampNeg) a105 σ102 (fun r106 σ107 => Q r106 σ107))))) else (Q r101 σ102))
set_option maxRecDepth 20000 in
set_option maxHeartbeats 4000000 in
theorem kX7_judge (hI : zInj tabX ad) (x1 : Int32)  (σ : zSt) (Q : Int32 → zSt → Prop) (h : wX7_judge x1 σ Q) : zOkI l tabX D cA ad y 3 yX7_judge cX7_judge 3 (some .int) [.ref (ad 0), .int x1] σ Q := by
  refine zz_enter hI (by decide) (Nat.le_of_ble_eq_true rfl) (fun p e s m below meth c M => ?_)
  have M : zM p s m _ meth c cX7_judge 3 RX7 (some .int) tabX D cA ad y := M
  refine zz_ls [(0, .ref (ad 0)), (1, .int x1)] rfl ?_
  unfold wX7_judge at h
  refine zz_aload_n M 0 dX7_judge_0 rfl rfl ?_
  refine zz_iload_n M 1 dX7_judge_1 rfl rfl ?_
  refine zz_callVI (d' := 2) (As := [.int x1]) (rest := []) M l_X7_222 tX_0 rfl rfl dX7_judge_2 rfl rfl (by decide) (Nat.le_of_ble_eq_true rfl) (by have hI := M.2.2.2.2.2.2.2.2; exact kX7_tellingRefusal hI _  _ _ h) (fun r101 σ102 h => ?_)
  refine zz_istore_n M [(2, .int r101), (0, .ref (ad 0)), (1, .int x1)] dX7_judge_5 rfl (by decide) rfl ?_
  refine zz_iload_n M 0 dX7_judge_6 rfl rfl ?_
  refine zz_if_eq (y0 := 0) M 12 dX7_judge_7 (by decide) (fun c => ?_) (fun c => ?_)
  · have h := zif (c := r101 = 0) h c
    refine zz_aload_n M 1 dX7_judge_12 rfl rfl ?_
    refine zz_aload_n M 1 dX7_judge_13 rfl rfl ?_
    refine zz_getR M f_X7_49 tX_0 rfl dX7_judge_14 ?_
    refine zz_iload_n M 2 dX7_judge_17 rfl rfl ?_
    have hq103 := h.1
    refine zz_aald M tX_23 (by decide) hq103 dX7_judge_18 ?_
    have h := h.2
    refine zz_getR M f_X7_225 (tX_Sheet (zclt hq103)) rfl dX7_judge_19 ?_
    refine zz_aload_n M 1 dX7_judge_22 rfl rfl ?_
    refine zz_getR M f_X7_49 tX_0 rfl dX7_judge_23 ?_
    refine zz_iload_n M 2 dX7_judge_26 rfl rfl ?_
    have hq104 := h.1
    refine zz_aald M tX_23 (by decide) hq104 dX7_judge_27 ?_
    have h := h.2
    refine zz_getI M f_X7_228 (tX_Sheet (zclt hq104)) rfl dX7_judge_28 ?_
    obtain ⟨a105, ea105⟩ : ∃ z : Int32, z = (σ102.1 (61 + x1.toNatClampNeg) 2) := ⟨_, rfl⟩
    have h := h a105 ea105
    refine zz_st [.int a105, .ref (ad (65 + x1.toNatClampNeg)), .ref (ad 0)] (by rw [ea105]) ?_
    refine zz_callVI (d' := 2) (As := [.ref (ad (65 + x1.toNatClampNeg)), .int a105]) (rest := []) M l_X7_178 tX_0 rfl rfl dX7_judge_31 rfl rfl (by decide) (Nat.le_of_ble_eq_true rfl) (by have hI := M.2.2.2.2.2.2.2.2; exact kX7_firstUnlawful_Sheetcells hI _ _ (zclt hq103) _ _ h) (fun r106 σ107 h => ?_)
    exact zz_iret M dX7_judge_34 h
  · have h := zifn (c := r101 = 0) h c
    refine zz_iload_n M 0 dX7_judge_10 rfl rfl ?_
    exact zz_iret M dX7_judge_11 h
def wX5_tells_39_L2 (Q : Int32 → zSt → Prop) (K28 : zSt → Prop) (K36 : zSt → Prop) (i0 : Nat) : Nat → Int32 → zSt → Prop
  | 0, _, _ => False
  | n + 1, x2, σ => if (σ.1 (61 + i0) 2) ≤ x2 then (K36  σ) else (if 24 ≤ x2 then (K36  σ) else (vp_in x2 40 ∧ (vp_in x2 24 ∧ (if (σ.1 (65 + i0) x2.toNatClampNeg) = (σ.1 39 x2.toNatClampNeg) then (∀ x101 : Int32, x101 = x2 + 1 → (wX5_tells_39_L2 Q K28 K36 i0 n x101 σ)) else (K28  σ)))))
set_option maxRecDepth 20000 in
set_option maxHeartbeats 4000000 in
theorem sX5_tells_39_L2 {Q : Int32 → zSt → Prop} {K28 : zSt → Prop} {K36 : zSt → Prop} (i0 : Nat) (hi0 : i0 < 4) (M : zM p s m args meth c cX5_tells 3 RX5 (some .boolean) tabX D cA ad y) (hK28 : ∀ (σ : zSt), K28  σ → zG p l e (zrm 1) s m args below meth c 3 tabX D cA ad (MQ below (va_Qi Q (fun σ' t => va_P D vwCl (zws tabX cA ad σ') t.heap) (zIn tabX ad)) args s 0 0 (zIn tabX ad)) 28 [] [] σ) (hK36 : ∀ (σ : zSt), K36  σ → zG p l e (zrm 1) s m args below meth c 3 tabX D cA ad (MQ below (va_Qi Q (fun σ' t => va_P D vwCl (zws tabX cA ad σ') t.heap) (zIn tabX ad)) args s 0 0 (zIn tabX ad)) 36 [] [] σ) : ∀ (n : Nat) (x2 : Int32) (σ : zSt), wX5_tells_39_L2 Q K28 K36 i0 n x2 σ → zG p l e (zrm 1) s m args below meth c 3 tabX D cA ad (MQ below (va_Qi Q (fun σ' t => va_P D vwCl (zws tabX cA ad σ') t.heap) (zIn tabX ad)) args s 0 0 (zIn tabX ad)) 2 [(0, .ref (ad (61 + i0))), (1, .ref (ad 39)), (2, .int x2)] [] σ := by
  intro n
  induction n with
  | zero => intro x2 σ h; exact absurd h (by simp [wX5_tells_39_L2])
  | succ n ih =>
    intro x2 σ h
    unfold wX5_tells_39_L2 at h
    refine zz_iload_n M 2 dX5_tells_2 rfl rfl ?_
    refine zz_aload_n M 0 dX5_tells_3 rfl rfl ?_
    refine zz_getI M f_X5_19 (tX_Sheet hi0) rfl dX5_tells_4 ?_
    refine zz_icmp_ge M 36 dX5_tells_7 (by decide) (fun c => ?_) (fun c => ?_)
    · have h := zif (c := (σ.1 (61 + i0) 2) ≤ x2) h c
      refine zz_sub [] [] rfl ?_
      exact hK36  _ h
    · have h := zifn (c := (σ.1 (61 + i0) 2) ≤ x2) h c
      refine zz_iload_n M 2 dX5_tells_10 rfl rfl ?_
      refine zz_aload_n M 1 dX5_tells_11 rfl rfl ?_
      refine zz_alen (v := 24) M tX_39 (by decide) (by decide) dX5_tells_12 ?_
      refine zz_icmp_ge M 36 dX5_tells_13 (by decide) (fun c => ?_) (fun c => ?_)
      · have h := zif (c := 24 ≤ x2) h c
        refine zz_sub [] [] rfl ?_
        exact hK36  _ h
      · have h := zifn (c := 24 ≤ x2) h c
        refine zz_aload_n M 0 dX5_tells_16 rfl rfl ?_
        refine zz_getR M f_X5_9 (tX_Sheet hi0) rfl dX5_tells_17 ?_
        refine zz_iload_n M 2 dX5_tells_20 rfl rfl ?_
        refine zz_iald M (tX_Sheet_cells hi0) h.1 dX5_tells_21 ?_
        have h := h.2
        refine zz_aload_n M 1 dX5_tells_22 rfl rfl ?_
        refine zz_iload_n M 2 dX5_tells_23 rfl rfl ?_
        refine zz_iald M tX_39 h.1 dX5_tells_24 ?_
        have h := h.2
        refine zz_icmp_eq M 30 dX5_tells_25 (by decide) (fun c => ?_) (fun c => ?_)
        · have h := zif (c := (σ.1 (65 + i0) x2.toNatClampNeg) = (σ.1 39 x2.toNatClampNeg)) h c
          obtain ⟨x101, ex101⟩ : ∃ z : Int32, z = x2 + 1 := ⟨_, rfl⟩
          have h := h x101 ex101
          refine zz_iinc M [(2, .int x101), (0, .ref (ad (61 + i0))), (1, .ref (ad 39))] 2 dX5_tells_30 rfl (n32 := 1) (by decide) ex101 (by decide) rfl ?_
          refine zz_goto M 2 dX5_tells_33 (by decide) ?_
          refine zz_sub [(0, .ref (ad (61 + i0))), (1, .ref (ad 39)), (2, .int x101)] [1, 2, 0] rfl ?_
          exact ih _ _ h
        · have h := zifn (c := (σ.1 (65 + i0) x2.toNatClampNeg) = (σ.1 39 x2.toNatClampNeg)) h c
          refine zz_sub [] [] rfl ?_
          exact hK28  _ h
def wX5_tells_39 (i0 : Nat) (σ : zSt) (Q : Int32 → zSt → Prop) : Prop := wX5_tells_39_L2 Q (fun  σ102 => Q 0 σ102) (fun  σ103 => Q 1 σ103) i0 300 0 σ
set_option maxRecDepth 20000 in
set_option maxHeartbeats 4000000 in
theorem kX5_tells_39 (hI : zInj tabX ad) (i0 : Nat) (hi0 : i0 < 4) (σ : zSt) (Q : Int32 → zSt → Prop) (h : wX5_tells_39 i0 σ Q) : zOkI l tabX D cA ad y 1 yX5_tells cX5_tells 3 (some .boolean) [.ref (ad (61 + i0)), .ref (ad 39)] σ Q := by
  refine zz_enter hI (by decide) (Nat.le_of_ble_eq_true rfl) (fun p e s m below meth c M => ?_)
  have M : zM p s m _ meth c cX5_tells 3 RX5 (some .boolean) tabX D cA ad y := M
  refine zz_ls [(0, .ref (ad (61 + i0))), (1, .ref (ad 39))] rfl ?_
  unfold wX5_tells_39 at h
  refine zz_iconst (v := 0) M dX5_tells_0 (by decide) ?_
  refine zz_istore_n M [(2, .int 0), (0, .ref (ad (61 + i0))), (1, .ref (ad 39))] dX5_tells_1 rfl (by decide) rfl ?_
  refine zz_sub [(0, .ref (ad (61 + i0))), (1, .ref (ad 39)), (2, .int 0)] [1, 2, 0] rfl ?_
  refine sX5_tells_39_L2 i0 hi0 M (fun  σ102 h => ?_) (fun  σ103 h => ?_) 300 _ _ h
  · refine zz_iconst (v := 0) M dX5_tells_28 (by decide) ?_
    exact zz_zret M dX5_tells_29 (Or.inl rfl) h
  · refine zz_iconst (v := 1) M dX5_tells_36 (by decide) ?_
    exact zz_zret M dX5_tells_37 (Or.inr rfl) h
end
