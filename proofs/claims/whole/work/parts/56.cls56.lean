section
variable {p : Program} {l : Launch} {e : Env} {s : State} {m : MethodId} {args : Array Value} {below : List Frame} {meth : Method} {c : Code} {D : va_G} {cA : Nat → ClassId} {ad : Nat → Nat} {y : zX}
def wX0_ofRow_39_L4 (Q : Int32 → zSt → Prop) (K44 : Int32 → zSt → Prop)  : Nat → Int32 → Int32 → zSt → Prop
  | 0, _, _, _ => False
  | n + 1, x2, x3, σ => if 8 ≤ x3 then (K44 x2 σ) else (wX1_isThere x3 σ (fun r101 σ102 => if r101 = 0 then (∀ x103 : Int32, x103 = x3 + 1 → (wX0_ofRow_39_L4 Q K44  n x2 x103 σ102)) else (wX1_through_39 x3 σ102 (fun r104 σ105 => wX0_ofOne x3 r104 σ105 (fun r106 σ107 => ∀ x108 : Int32, x108 = (x2 + r106) → (∀ x109 : Int32, x109 = x3 + 1 → (wX0_ofRow_39_L4 Q K44  n x108 x109 σ107)))))))
set_option maxRecDepth 20000 in
set_option maxHeartbeats 4000000 in
theorem sX0_ofRow_39_L4 {Q : Int32 → zSt → Prop} {K44 : Int32 → zSt → Prop}   (M : zM p s m args meth c cX0_ofRow 4 RX0 (some .int) tabX D cA ad y) (hK44 : ∀ (v2 : Int32) (σ : zSt), K44 v2 σ → zG p l e (zrm 5) s m args below meth c 4 tabX D cA ad (MQ below (va_Qi Q (fun σ' t => va_P D vwCl (zws tabX cA ad σ') t.heap) (zIn tabX ad)) args s 0 0 (zIn tabX ad)) 44 [(0, .ref (ad 24)), (1, .ref (ad 39)), (2, .int v2)] [] σ) : ∀ (n : Nat) (x2 : Int32) (x3 : Int32) (σ : zSt), wX0_ofRow_39_L4 Q K44  n x2 x3 σ → zG p l e (zrm 5) s m args below meth c 4 tabX D cA ad (MQ below (va_Qi Q (fun σ' t => va_P D vwCl (zws tabX cA ad σ') t.heap) (zIn tabX ad)) args s 0 0 (zIn tabX ad)) 4 [(0, .ref (ad 24)), (1, .ref (ad 39)), (2, .int x2), (3, .int x3)] [] σ := by
  intro n
  induction n with
  | zero => intro x2 x3 σ h; exact absurd h (by simp [wX0_ofRow_39_L4])
  | succ n ih =>
    intro x2 x3 σ h
    unfold wX0_ofRow_39_L4 at h
    refine zz_iload_n M 3 dX0_ofRow_4 rfl rfl ?_
    refine zz_bipush (v := 8) M dX0_ofRow_5 (by decide) ?_
    refine zz_icmp_ge M 44 dX0_ofRow_7 (by decide) (fun c => ?_) (fun c => ?_)
    · have h := zif (c := 8 ≤ x3) h c
      refine zz_sub [(0, .ref (ad 24)), (1, .ref (ad 39)), (2, .int x2)] [0, 1, 2] rfl ?_
      exact hK44 _ _ h
    · have h := zifn (c := 8 ≤ x3) h c
      refine zz_aload_n M 0 dX0_ofRow_10 rfl rfl ?_
      refine zz_getR M f_X0_21 tX_24 rfl dX0_ofRow_11 ?_
      refine zz_iload_n M 3 dX0_ofRow_14 rfl rfl ?_
      refine zz_callVI (d' := 1) (As := [.int x3]) (rest := []) M l_X0_57 tX_1 rfl rfl dX0_ofRow_15 rfl rfl (by decide) (Nat.le_of_ble_eq_true rfl) (by have hI := M.2.2.2.2.2.2.2.2; exact kX1_isThere hI _  _ _ h) (fun r101 σ102 h => ?_)
      refine zz_if_eq (y0 := 0) M 38 dX0_ofRow_18 (by decide) (fun c => ?_) (fun c => ?_)
      · have h := zif (c := r101 = 0) h c
        obtain ⟨x103, ex103⟩ : ∃ z : Int32, z = x3 + 1 := ⟨_, rfl⟩
        have h := h x103 ex103
        refine zz_iinc M [(3, .int x103), (0, .ref (ad 24)), (1, .ref (ad 39)), (2, .int x2)] 3 dX0_ofRow_38 rfl (n32 := 1) (by decide) ex103 (by decide) rfl ?_
        refine zz_goto M 4 dX0_ofRow_41 (by decide) ?_
        refine zz_sub [(0, .ref (ad 24)), (1, .ref (ad 39)), (2, .int x2), (3, .int x103)] [1, 2, 3, 0] rfl ?_
        exact ih _ _ _ h
      · have h := zifn (c := r101 = 0) h c
        refine zz_iload_n M 2 dX0_ofRow_21 rfl rfl ?_
        refine zz_aload_n M 0 dX0_ofRow_22 rfl rfl ?_
        refine zz_iload_n M 3 dX0_ofRow_23 rfl rfl ?_
        refine zz_aload_n M 0 dX0_ofRow_24 rfl rfl ?_
        refine zz_getR M f_X0_21 tX_24 rfl dX0_ofRow_25 ?_
        refine zz_iload_n M 3 dX0_ofRow_28 rfl rfl ?_
        refine zz_aload_n M 1 dX0_ofRow_29 rfl rfl ?_
        refine zz_callVI (d' := 2) (As := [.int x3, .ref (ad 39)]) (rest := [.int x3, .ref (ad 24), .int x2]) M l_X0_60 tX_1 rfl rfl dX0_ofRow_30 rfl rfl (by decide) (Nat.le_of_ble_eq_true rfl) (by have hI := M.2.2.2.2.2.2.2.2; exact kX1_through_39 hI _  _ _ h) (fun r104 σ105 h => ?_)
        refine zz_callVI (d' := 4) (As := [.int x3, .int r104]) (rest := [.int x2]) M l_X0_64 tX_24 rfl rfl dX0_ofRow_33 rfl rfl (by decide) (Nat.le_of_ble_eq_true rfl) (by have hI := M.2.2.2.2.2.2.2.2; exact kX0_ofOne hI _ _  _ _ h) (fun r106 σ107 h => ?_)
        refine zz_iadd M dX0_ofRow_36 ?_
        refine zz_topi (fun x108 ex108 => ?_)
        have h := h x108 ex108
        refine zz_istore_n M [(2, .int x108), (0, .ref (ad 24)), (1, .ref (ad 39)), (3, .int x3)] dX0_ofRow_37 rfl (by decide) rfl ?_
        obtain ⟨x109, ex109⟩ : ∃ z : Int32, z = x3 + 1 := ⟨_, rfl⟩
        have h := h x109 ex109
        refine zz_iinc M [(3, .int x109), (2, .int x108), (0, .ref (ad 24)), (1, .ref (ad 39))] 3 dX0_ofRow_38 rfl (n32 := 1) (by decide) ex109 (by decide) rfl ?_
        refine zz_goto M 4 dX0_ofRow_41 (by decide) ?_
        refine zz_sub [(0, .ref (ad 24)), (1, .ref (ad 39)), (2, .int x108), (3, .int x109)] [2, 3, 1, 0] rfl ?_
        exact ih _ _ _ h
def wX0_ofRow_39_L46 (Q : Int32 → zSt → Prop) (K91 : Int32 → zSt → Prop)  : Nat → Int32 → Int32 → zSt → Prop
  | 0, _, _, _ => False
  | n + 1, x2, x3, σ => if 24 ≤ x3 then (K91 x2 σ) else (if 24 ≤ x3 then (K91 x2 σ) else (vp_in x3 24 ∧ (vp_in (x3 - 1) 24 ∧ (if (σ.1 39 x3.toNatClampNeg) = (σ.1 39 (x3 - 1 : Int32).toNatClampNeg) then (∀ x112 : Int32, x112 = x3 + 1 → (wX0_ofRow_39_L46 Q K91  n x2 x112 σ)) else (vp_in (x3 - 1) 24 ∧ (vp_in x3 24 ∧ (∀ a113 : Int32, a113 = (σ.1 39 (x3 - 1 : Int32).toNatClampNeg) → (∀ a114 : Int32, a114 = (σ.1 39 x3.toNatClampNeg) → (wX0_ofChange x3 a113 a114 σ (fun r115 σ116 => ∀ x117 : Int32, x117 = (x2 + r115) → (∀ x118 : Int32, x118 = x3 + 1 → (wX0_ofRow_39_L46 Q K91  n x117 x118 σ116))))))))))))
set_option maxRecDepth 20000 in
set_option maxHeartbeats 4000000 in
theorem sX0_ofRow_39_L46 {Q : Int32 → zSt → Prop} {K91 : Int32 → zSt → Prop}   (M : zM p s m args meth c cX0_ofRow 4 RX0 (some .int) tabX D cA ad y) (hK91 : ∀ (v2 : Int32) (σ : zSt), K91 v2 σ → zG p l e (zrm 5) s m args below meth c 4 tabX D cA ad (MQ below (va_Qi Q (fun σ' t => va_P D vwCl (zws tabX cA ad σ') t.heap) (zIn tabX ad)) args s 0 0 (zIn tabX ad)) 91 [(2, .int v2)] [] σ) : ∀ (n : Nat) (x2 : Int32) (x3 : Int32) (σ : zSt), wX0_ofRow_39_L46 Q K91  n x2 x3 σ → zG p l e (zrm 5) s m args below meth c 4 tabX D cA ad (MQ below (va_Qi Q (fun σ' t => va_P D vwCl (zws tabX cA ad σ') t.heap) (zIn tabX ad)) args s 0 0 (zIn tabX ad)) 46 [(0, .ref (ad 24)), (1, .ref (ad 39)), (2, .int x2), (3, .int x3)] [] σ := by
  intro n
  induction n with
  | zero => intro x2 x3 σ h; exact absurd h (by simp [wX0_ofRow_39_L46])
  | succ n ih =>
    intro x2 x3 σ h
    unfold wX0_ofRow_39_L46 at h
    refine zz_iload_n M 3 dX0_ofRow_46 rfl rfl ?_
    refine zz_bipush (v := 24) M dX0_ofRow_47 (by decide) ?_
    refine zz_icmp_ge M 91 dX0_ofRow_49 (by decide) (fun c => ?_) (fun c => ?_)
    · have h := zif (c := 24 ≤ x3) h c
      refine zz_sub [(2, .int x2)] [2] rfl ?_
      exact hK91 _ _ h
    · have h := zifn (c := 24 ≤ x3) h c
      refine zz_iload_n M 3 dX0_ofRow_52 rfl rfl ?_
      refine zz_aload_n M 1 dX0_ofRow_53 rfl rfl ?_
      refine zz_alen (v := 24) M tX_39 (by decide) (by decide) dX0_ofRow_54 ?_
      refine zz_icmp_ge M 91 dX0_ofRow_55 (by decide) (fun c => ?_) (fun c => ?_)
      · have h := zif (c := 24 ≤ x3) h c
        refine zz_sub [(2, .int x2)] [2] rfl ?_
        exact hK91 _ _ h
      · have h := zifn (c := 24 ≤ x3) h c
        refine zz_aload_n M 1 dX0_ofRow_58 rfl rfl ?_
        refine zz_iload_n M 3 dX0_ofRow_59 rfl rfl ?_
        refine zz_iald M tX_39 h.1 dX0_ofRow_60 ?_
        have h := h.2
        refine zz_aload_n M 1 dX0_ofRow_61 rfl rfl ?_
        refine zz_iload_n M 3 dX0_ofRow_62 rfl rfl ?_
        refine zz_iconst (v := 1) M dX0_ofRow_63 (by decide) ?_
        refine zz_isub M dX0_ofRow_64 ?_
        refine zz_iald M tX_39 h.1 dX0_ofRow_65 ?_
        have h := h.2
        refine zz_icmp_eq M 85 dX0_ofRow_66 (by decide) (fun c => ?_) (fun c => ?_)
        · have h := zif (c := (σ.1 39 x3.toNatClampNeg) = (σ.1 39 (x3 - 1 : Int32).toNatClampNeg)) h c
          obtain ⟨x112, ex112⟩ : ∃ z : Int32, z = x3 + 1 := ⟨_, rfl⟩
          have h := h x112 ex112
          refine zz_iinc M [(3, .int x112), (0, .ref (ad 24)), (1, .ref (ad 39)), (2, .int x2)] 3 dX0_ofRow_85 rfl (n32 := 1) (by decide) ex112 (by decide) rfl ?_
          refine zz_goto M 46 dX0_ofRow_88 (by decide) ?_
          refine zz_sub [(0, .ref (ad 24)), (1, .ref (ad 39)), (2, .int x2), (3, .int x112)] [1, 2, 3, 0] rfl ?_
          exact ih _ _ _ h
        · have h := zifn (c := (σ.1 39 x3.toNatClampNeg) = (σ.1 39 (x3 - 1 : Int32).toNatClampNeg)) h c
          refine zz_iload_n M 2 dX0_ofRow_69 rfl rfl ?_
          refine zz_aload_n M 0 dX0_ofRow_70 rfl rfl ?_
          refine zz_iload_n M 3 dX0_ofRow_71 rfl rfl ?_
          refine zz_aload_n M 1 dX0_ofRow_72 rfl rfl ?_
          refine zz_iload_n M 3 dX0_ofRow_73 rfl rfl ?_
          refine zz_iconst (v := 1) M dX0_ofRow_74 (by decide) ?_
          refine zz_isub M dX0_ofRow_75 ?_
          refine zz_iald M tX_39 h.1 dX0_ofRow_76 ?_
          have h := h.2
          refine zz_aload_n M 1 dX0_ofRow_77 rfl rfl ?_
          refine zz_iload_n M 3 dX0_ofRow_78 rfl rfl ?_
          refine zz_iald M tX_39 h.1 dX0_ofRow_79 ?_
          have h := h.2
          obtain ⟨a113, ea113⟩ : ∃ z : Int32, z = (σ.1 39 (x3 - 1 : Int32).toNatClampNeg) := ⟨_, rfl⟩
          have h := h a113 ea113
          obtain ⟨a114, ea114⟩ : ∃ z : Int32, z = (σ.1 39 x3.toNatClampNeg) := ⟨_, rfl⟩
          have h := h a114 ea114
          refine zz_st [.int a114, .int a113, .int x3, .ref (ad 24), .int x2] (by rw [ea113, ea114]) ?_
          refine zz_callVI (d' := 4) (As := [.int x3, .int a113, .int a114]) (rest := [.int x2]) M l_X0_68 tX_24 rfl rfl dX0_ofRow_80 rfl rfl (by decide) (Nat.le_of_ble_eq_true rfl) (by have hI := M.2.2.2.2.2.2.2.2; exact kX0_ofChange hI _ _ _  _ _ h) (fun r115 σ116 h => ?_)
          refine zz_iadd M dX0_ofRow_83 ?_
          refine zz_topi (fun x117 ex117 => ?_)
          have h := h x117 ex117
          refine zz_istore_n M [(2, .int x117), (0, .ref (ad 24)), (1, .ref (ad 39)), (3, .int x3)] dX0_ofRow_84 rfl (by decide) rfl ?_
          obtain ⟨x118, ex118⟩ : ∃ z : Int32, z = x3 + 1 := ⟨_, rfl⟩
          have h := h x118 ex118
          refine zz_iinc M [(3, .int x118), (2, .int x117), (0, .ref (ad 24)), (1, .ref (ad 39))] 3 dX0_ofRow_85 rfl (n32 := 1) (by decide) ex118 (by decide) rfl ?_
          refine zz_goto M 46 dX0_ofRow_88 (by decide) ?_
          refine zz_sub [(0, .ref (ad 24)), (1, .ref (ad 39)), (2, .int x117), (3, .int x118)] [2, 3, 1, 0] rfl ?_
          exact ih _ _ _ h
def wX0_ofRow_39  (σ : zSt) (Q : Int32 → zSt → Prop) : Prop := wX0_ofRow_39_L4 Q (fun v110 σ111 => wX0_ofRow_39_L46 Q (fun v119 σ120 => Q v119 σ120)  300 v110 1 σ111)  300 0 0 σ
set_option maxRecDepth 20000 in
set_option maxHeartbeats 4000000 in
theorem kX0_ofRow_39 (hI : zInj tabX ad)   (σ : zSt) (Q : Int32 → zSt → Prop) (h : wX0_ofRow_39  σ Q) : zOkI l tabX D cA ad y 5 yX0_ofRow cX0_ofRow 4 (some .int) [.ref (ad 24), .ref (ad 39)] σ Q := by
  refine zz_enter hI (by decide) (Nat.le_of_ble_eq_true rfl) (fun p e s m below meth c M => ?_)
  have M : zM p s m _ meth c cX0_ofRow 4 RX0 (some .int) tabX D cA ad y := M
  refine zz_ls [(0, .ref (ad 24)), (1, .ref (ad 39))] rfl ?_
  unfold wX0_ofRow_39 at h
  refine zz_iconst (v := 0) M dX0_ofRow_0 (by decide) ?_
  refine zz_istore_n M [(2, .int 0), (0, .ref (ad 24)), (1, .ref (ad 39))] dX0_ofRow_1 rfl (by decide) rfl ?_
  refine zz_iconst (v := 0) M dX0_ofRow_2 (by decide) ?_
  refine zz_istore_n M [(3, .int 0), (2, .int 0), (0, .ref (ad 24)), (1, .ref (ad 39))] dX0_ofRow_3 rfl (by decide) rfl ?_
  refine zz_sub [(0, .ref (ad 24)), (1, .ref (ad 39)), (2, .int 0), (3, .int 0)] [2, 3, 1, 0] rfl ?_
  refine sX0_ofRow_39_L4   M (fun v110 σ111 h => ?_) 300 _ _ _ h
  refine zz_iconst (v := 1) M dX0_ofRow_44 (by decide) ?_
  refine zz_istore_n M [(3, .int 1), (0, .ref (ad 24)), (1, .ref (ad 39)), (2, .int v110)] dX0_ofRow_45 rfl (by decide) rfl ?_
  refine zz_sub [(0, .ref (ad 24)), (1, .ref (ad 39)), (2, .int v110), (3, .int 1)] [1, 2, 3, 0] rfl ?_
  refine sX0_ofRow_39_L46   M (fun v119 σ120 h => ?_) 300 _ _ _ h
  refine zz_iload_n M 0 dX0_ofRow_91 rfl rfl ?_
  exact zz_iret M dX0_ofRow_92 h
def wX7_run (x1 : Int32) (x2 : Int32) (σ : zSt) (Q : Int32 → zSt → Prop) : Prop := wX7_isMaster x1 σ (fun r101 σ102 => if r101 = 0 then (Q (-2) σ102) else (if x2 = (-1) then (wX2_steer x1 σ102 (fun σ104 => if x2 = (-1) then (wX0_ofRow_39  σ104 (fun r105 σ106 => Q r105 σ106)) else (vp_in x2 24 ∧ (Q (σ104.1 39 x2.toNatClampNeg) σ104)))) else (wX7_isMinute x2 σ102 (fun r107 σ108 => if r107 = 0 then (Q (-2) σ108) else (wX2_steer x1 σ108 (fun σ110 => if x2 = (-1) then (wX0_ofRow_39  σ110 (fun r111 σ112 => Q r111 σ112)) else (vp_in x2 24 ∧ (Q (σ110.1 39 x2.toNatClampNeg) σ110))))))))
set_option maxRecDepth 20000 in
set_option maxHeartbeats 4000000 in
theorem kX7_run (hI : zInj tabX ad) (x1 : Int32) (x2 : Int32)  (σ : zSt) (Q : Int32 → zSt → Prop) (h : wX7_run x1 x2 σ Q) : zOkI l tabX D cA ad y 6 yX7_run cX7_run 3 (some .int) [.ref (ad 0), .int x1, .int x2] σ Q := by
  refine zz_enter hI (by decide) (Nat.le_of_ble_eq_true rfl) (fun p e s m below meth c M => ?_)
  have M : zM p s m _ meth c cX7_run 3 RX7 (some .int) tabX D cA ad y := M
  refine zz_ls [(0, .ref (ad 0)), (1, .int x1), (2, .int x2)] rfl ?_
  unfold wX7_run at h
  refine zz_aload_n M 0 dX7_run_0 rfl rfl ?_
  refine zz_iload_n M 1 dX7_run_1 rfl rfl ?_
  refine zz_callVI (d' := 1) (As := [.int x1]) (rest := []) M l_X7_142 tX_0 rfl rfl dX7_run_2 rfl rfl (by decide) (Nat.le_of_ble_eq_true rfl) (by have hI := M.2.2.2.2.2.2.2.2; exact kX7_isMaster hI _  _ _ h) (fun r101 σ102 h => ?_)
  refine zz_if_eq (y0 := 0) M 20 dX7_run_5 (by decide) (fun c => ?_) (fun c => ?_)
  · have h := zif (c := r101 = 0) h c
    refine zz_bipush (v := (-2)) M dX7_run_20 (by decide) ?_
    exact zz_iret M dX7_run_22 h
  · have h := zifn (c := r101 = 0) h c
    refine zz_iload_n M 2 dX7_run_8 rfl rfl ?_
    refine zz_iconst (v := (-1)) M dX7_run_9 (by decide) ?_
    refine zz_icmp_eq M 23 dX7_run_10 (by decide) (fun c => ?_) (fun c => ?_)
    · have h := zif (c := x2 = (-1)) h c
      refine zz_aload_n M 0 dX7_run_23 rfl rfl ?_
      refine zz_getR M f_X7_76 tX_0 rfl dX7_run_24 ?_
      refine zz_iload_n M 1 dX7_run_27 rfl rfl ?_
      refine zz_callVV (d' := 4) (As := [.int x1]) (rest := []) M l_X7_203 tX_38 rfl rfl dX7_run_28 rfl rfl (by decide) (Nat.le_of_ble_eq_true rfl) (by have hI := M.2.2.2.2.2.2.2.2; exact kX2_steer hI _  _ _ h) (fun σ104 h => ?_)
      refine zz_iload_n M 2 dX7_run_31 rfl rfl ?_
      refine zz_iconst (v := (-1)) M dX7_run_32 (by decide) ?_
      refine zz_icmp_ne M 53 dX7_run_33 (by decide) (fun c => ?_) (fun c => ?_)
      · have h := zifn (c := x2 = (-1)) h c
        refine zz_aload_n M 0 dX7_run_53 rfl rfl ?_
        refine zz_getR M f_X7_76 tX_0 rfl dX7_run_54 ?_
        refine zz_getR M f_X7_207 tX_38 rfl dX7_run_57 ?_
        refine zz_iload_n M 2 dX7_run_60 rfl rfl ?_
        refine zz_iald M tX_39 h.1 dX7_run_61 ?_
        have h := h.2
        exact zz_iret M dX7_run_62 h
      · have h := zif (c := x2 = (-1)) h c
        refine zz_aload_n M 0 dX7_run_36 rfl rfl ?_
        refine zz_getR M f_X7_58 tX_0 rfl dX7_run_37 ?_
        refine zz_aload_n M 0 dX7_run_40 rfl rfl ?_
        refine zz_getR M f_X7_76 tX_0 rfl dX7_run_41 ?_
        refine zz_getR M f_X7_207 tX_38 rfl dX7_run_44 ?_
        refine zz_callVI (d' := 5) (As := [.ref (ad 39)]) (rest := []) M l_X7_171 tX_24 rfl rfl dX7_run_47 rfl rfl (by decide) (Nat.le_of_ble_eq_true rfl) (by have hI := M.2.2.2.2.2.2.2.2; exact kX0_ofRow_39 hI   _ _ h) (fun r105 σ106 h => ?_)
        refine zz_goto M 62 dX7_run_50 (by decide) ?_
        exact zz_iret M dX7_run_62 h
    · have h := zifn (c := x2 = (-1)) h c
      refine zz_iload_n M 2 dX7_run_13 rfl rfl ?_
      refine zz_callSI (d' := 1) (As := [.int x2]) (rest := []) M l_X7_107 dX7_run_14 rfl rfl (by decide) (Nat.le_of_ble_eq_true rfl) (by have hI := M.2.2.2.2.2.2.2.2; exact kX7_isMinute hI _  _ _ h) (fun r107 σ108 h => ?_)
      refine zz_if_ne (y0 := 0) M 23 dX7_run_17 (by decide) (fun c => ?_) (fun c => ?_)
      · have h := zifn (c := r107 = 0) h c
        refine zz_aload_n M 0 dX7_run_23 rfl rfl ?_
        refine zz_getR M f_X7_76 tX_0 rfl dX7_run_24 ?_
        refine zz_iload_n M 1 dX7_run_27 rfl rfl ?_
        refine zz_callVV (d' := 4) (As := [.int x1]) (rest := []) M l_X7_203 tX_38 rfl rfl dX7_run_28 rfl rfl (by decide) (Nat.le_of_ble_eq_true rfl) (by have hI := M.2.2.2.2.2.2.2.2; exact kX2_steer hI _  _ _ h) (fun σ110 h => ?_)
        refine zz_iload_n M 2 dX7_run_31 rfl rfl ?_
        refine zz_iconst (v := (-1)) M dX7_run_32 (by decide) ?_
        refine zz_icmp_ne M 53 dX7_run_33 (by decide) (fun c => ?_) (fun c => ?_)
        · have h := zifn (c := x2 = (-1)) h c
          refine zz_aload_n M 0 dX7_run_53 rfl rfl ?_
          refine zz_getR M f_X7_76 tX_0 rfl dX7_run_54 ?_
          refine zz_getR M f_X7_207 tX_38 rfl dX7_run_57 ?_
          refine zz_iload_n M 2 dX7_run_60 rfl rfl ?_
          refine zz_iald M tX_39 h.1 dX7_run_61 ?_
          have h := h.2
          exact zz_iret M dX7_run_62 h
        · have h := zif (c := x2 = (-1)) h c
          refine zz_aload_n M 0 dX7_run_36 rfl rfl ?_
          refine zz_getR M f_X7_58 tX_0 rfl dX7_run_37 ?_
          refine zz_aload_n M 0 dX7_run_40 rfl rfl ?_
          refine zz_getR M f_X7_76 tX_0 rfl dX7_run_41 ?_
          refine zz_getR M f_X7_207 tX_38 rfl dX7_run_44 ?_
          refine zz_callVI (d' := 5) (As := [.ref (ad 39)]) (rest := []) M l_X7_171 tX_24 rfl rfl dX7_run_47 rfl rfl (by decide) (Nat.le_of_ble_eq_true rfl) (by have hI := M.2.2.2.2.2.2.2.2; exact kX0_ofRow_39 hI   _ _ h) (fun r111 σ112 h => ?_)
          refine zz_goto M 62 dX7_run_50 (by decide) ?_
          exact zz_iret M dX7_run_62 h
      · have h := zif (c := r107 = 0) h c
        refine zz_bipush (v := (-2)) M dX7_run_20 (by decide) ?_
        exact zz_iret M dX7_run_22 h
def wX7_follow (x1 : Int32) (σ : zSt) (Q : Int32 → zSt → Prop) : Prop := wX7_isMaster x1 σ (fun r101 σ102 => if r101 = 0 then (Q (-2) σ102) else (wX2_steer x1 σ102 (fun σ104 => ∀ σ105 : zSt, σ105 = zcopy σ104 39 0 2 0 24 → (wX0_ofRow_2  σ105 (fun r106 σ107 => Q r106 σ107)))))
set_option maxRecDepth 20000 in
set_option maxHeartbeats 4000000 in
theorem kX7_follow (hI : zInj tabX ad) (x1 : Int32)  (σ : zSt) (Q : Int32 → zSt → Prop) (h : wX7_follow x1 σ Q) : zOkI l tabX D cA ad y 6 yX7_follow cX7_follow 2 (some .int) [.ref (ad 0), .int x1] σ Q := by
  refine zz_enter hI (by decide) (Nat.le_of_ble_eq_true rfl) (fun p e s m below meth c M => ?_)
  have M : zM p s m _ meth c cX7_follow 2 RX7 (some .int) tabX D cA ad y := M
  refine zz_ls [(0, .ref (ad 0)), (1, .int x1)] rfl ?_
  unfold wX7_follow at h
  refine zz_aload_n M 0 dX7_follow_0 rfl rfl ?_
  refine zz_iload_n M 1 dX7_follow_1 rfl rfl ?_
  refine zz_callVI (d' := 1) (As := [.int x1]) (rest := []) M l_X7_142 tX_0 rfl rfl dX7_follow_2 rfl rfl (by decide) (Nat.le_of_ble_eq_true rfl) (by have hI := M.2.2.2.2.2.2.2.2; exact kX7_isMaster hI _  _ _ h) (fun r101 σ102 h => ?_)
  refine zz_if_ne (y0 := 0) M 11 dX7_follow_5 (by decide) (fun c => ?_) (fun c => ?_)
  · have h := zifn (c := r101 = 0) h c
    refine zz_aload_n M 0 dX7_follow_11 rfl rfl ?_
    refine zz_getR M f_X7_76 tX_0 rfl dX7_follow_12 ?_
    refine zz_iload_n M 1 dX7_follow_15 rfl rfl ?_
    refine zz_callVV (d' := 4) (As := [.int x1]) (rest := []) M l_X7_203 tX_38 rfl rfl dX7_follow_16 rfl rfl (by decide) (Nat.le_of_ble_eq_true rfl) (by have hI := M.2.2.2.2.2.2.2.2; exact kX2_steer hI _  _ _ h) (fun σ104 h => ?_)
    refine zz_aload_n M 0 dX7_follow_19 rfl rfl ?_
    refine zz_getR M f_X7_76 tX_0 rfl dX7_follow_20 ?_
    refine zz_getR M f_X7_207 tX_38 rfl dX7_follow_23 ?_
    refine zz_iconst (v := 0) M dX7_follow_26 (by decide) ?_
    refine zz_aload_n M 0 dX7_follow_27 rfl rfl ?_
    refine zz_getR M f_X7_12 tX_0 rfl dX7_follow_28 ?_
    refine zz_getR M f_X7_148 tX_1 rfl dX7_follow_31 ?_
    refine zz_iconst (v := 0) M dX7_follow_34 (by decide) ?_
    refine zz_bipush (v := 24) M dX7_follow_35 (by decide) ?_
    refine zz_copyK (sk := 0) (dk := 0) (nk := 24) M l_X7_194 zarrcopy tX_39 tX_2 (by decide) (Nat.le_of_ble_eq_true rfl) dX7_follow_37 (by decide) (by decide) ?_
    refine zz_sg (fun σ105 eσ105 => ?_)
    have h := h σ105 eσ105
    refine zz_aload_n M 0 dX7_follow_40 rfl rfl ?_
    refine zz_getR M f_X7_58 tX_0 rfl dX7_follow_41 ?_
    refine zz_aload_n M 0 dX7_follow_44 rfl rfl ?_
    refine zz_getR M f_X7_12 tX_0 rfl dX7_follow_45 ?_
    refine zz_getR M f_X7_148 tX_1 rfl dX7_follow_48 ?_
    refine zz_callVI (d' := 5) (As := [.ref (ad 2)]) (rest := []) M l_X7_171 tX_24 rfl rfl dX7_follow_51 rfl rfl (by decide) (Nat.le_of_ble_eq_true rfl) (by have hI := M.2.2.2.2.2.2.2.2; exact kX0_ofRow_2 hI   _ _ h) (fun r106 σ107 h => ?_)
    exact zz_iret M dX7_follow_54 h
  · have h := zif (c := r101 = 0) h c
    refine zz_bipush (v := (-2)) M dX7_follow_8 (by decide) ?_
    exact zz_iret M dX7_follow_10 h
def wX7_firstDown_L6 (Q : Int32 → zSt → Prop) (K25 : Int32 → zSt → Prop) (K33 : zSt → Prop) (x1 : Int32) : Nat → Int32 → zSt → Prop
  | 0, _, _ => False
  | n + 1, x3, σ => if 24 ≤ x3 then (K33  σ) else (vp_in x3 24 ∧ (if (σ.1 2 x3.toNatClampNeg) = x1 then (∀ x102 : Int32, x102 = x3 + 1 → (wX7_firstDown_L6 Q K25 K33 x1 n x102 σ)) else (K25 x3 σ)))
set_option maxRecDepth 20000 in
set_option maxHeartbeats 4000000 in
theorem sX7_firstDown_L6 {Q : Int32 → zSt → Prop} {K25 : Int32 → zSt → Prop} {K33 : zSt → Prop} (x1 : Int32)  (M : zM p s m args meth c cX7_firstDown 4 RX7 (some .int) tabX D cA ad y) (hK25 : ∀ (v3 : Int32) (σ : zSt), K25 v3 σ → zG p l e (zrm 1) s m args below meth c 4 tabX D cA ad (MQ below (va_Qi Q (fun σ' t => va_P D vwCl (zws tabX cA ad σ') t.heap) (zIn tabX ad)) args s 0 0 (zIn tabX ad)) 25 [(3, .int v3)] [] σ) (hK33 : ∀ (σ : zSt), K33  σ → zG p l e (zrm 1) s m args below meth c 4 tabX D cA ad (MQ below (va_Qi Q (fun σ' t => va_P D vwCl (zws tabX cA ad σ') t.heap) (zIn tabX ad)) args s 0 0 (zIn tabX ad)) 33 [] [] σ) : ∀ (n : Nat) (x3 : Int32) (σ : zSt), wX7_firstDown_L6 Q K25 K33 x1 n x3 σ → zG p l e (zrm 1) s m args below meth c 4 tabX D cA ad (MQ below (va_Qi Q (fun σ' t => va_P D vwCl (zws tabX cA ad σ') t.heap) (zIn tabX ad)) args s 0 0 (zIn tabX ad)) 6 [(0, .ref (ad 0)), (1, .int x1), (3, .int x3)] [] σ := by
  intro n
  induction n with
  | zero => intro x3 σ h; exact absurd h (by simp [wX7_firstDown_L6])
  | succ n ih =>
    intro x3 σ h
    unfold wX7_firstDown_L6 at h
    refine zz_iload_n M 2 dX7_firstDown_6 rfl rfl ?_
    refine zz_bipush (v := 24) M dX7_firstDown_7 (by decide) ?_
    refine zz_icmp_ge M 33 dX7_firstDown_9 (by decide) (fun c => ?_) (fun c => ?_)
    · have h := zif (c := 24 ≤ x3) h c
      refine zz_sub [] [] rfl ?_
      exact hK33  _ h
    · have h := zifn (c := 24 ≤ x3) h c
      refine zz_aload_n M 0 dX7_firstDown_12 rfl rfl ?_
      refine zz_getR M f_X7_12 tX_0 rfl dX7_firstDown_13 ?_
      refine zz_getR M f_X7_148 tX_1 rfl dX7_firstDown_16 ?_
      refine zz_iload_n M 2 dX7_firstDown_19 rfl rfl ?_
      refine zz_iald M tX_2 h.1 dX7_firstDown_20 ?_
      have h := h.2
      refine zz_iload_n M 1 dX7_firstDown_21 rfl rfl ?_
      refine zz_icmp_eq M 27 dX7_firstDown_22 (by decide) (fun c => ?_) (fun c => ?_)
      · have h := zif (c := (σ.1 2 x3.toNatClampNeg) = x1) h c
        obtain ⟨x102, ex102⟩ : ∃ z : Int32, z = x3 + 1 := ⟨_, rfl⟩
        have h := h x102 ex102
        refine zz_iinc M [(3, .int x102), (0, .ref (ad 0)), (1, .int x1)] 2 dX7_firstDown_27 rfl (n32 := 1) (by decide) ex102 (by decide) rfl ?_
        refine zz_goto M 6 dX7_firstDown_30 (by decide) ?_
        refine zz_sub [(0, .ref (ad 0)), (1, .int x1), (3, .int x102)] [1, 2, 0] rfl ?_
        exact ih _ _ h
      · have h := zifn (c := (σ.1 2 x3.toNatClampNeg) = x1) h c
        refine zz_sub [(3, .int x3)] [2] rfl ?_
        exact hK25 _ _ h
def wX7_firstDown (x1 : Int32) (x2 : Int32) (σ : zSt) (Q : Int32 → zSt → Prop) : Prop := ∀ x101 : Int32, x101 = (if x2 < 0 then 0 else x2) → (wX7_firstDown_L6 Q (fun v103 σ104 => Q v103 σ104) (fun  σ105 => Q 24 σ105) x1 300 x101 σ)
set_option maxRecDepth 20000 in
set_option maxHeartbeats 4000000 in
theorem kX7_firstDown (hI : zInj tabX ad) (x1 : Int32) (x2 : Int32)  (σ : zSt) (Q : Int32 → zSt → Prop) (h : wX7_firstDown x1 x2 σ Q) : zOkI l tabX D cA ad y 1 yX7_firstDown cX7_firstDown 4 (some .int) [.ref (ad 0), .int x1, .int x2] σ Q := by
  refine zz_enter hI (by decide) (Nat.le_of_ble_eq_true rfl) (fun p e s m below meth c M => ?_)
  have M : zM p s m _ meth c cX7_firstDown 4 RX7 (some .int) tabX D cA ad y := M
  refine zz_ls [(0, .ref (ad 0)), (1, .int x1), (2, .int x2)] rfl ?_
  unfold wX7_firstDown at h
  refine zz_iload_n M 2 dX7_firstDown_0 rfl rfl ?_
  refine zz_iconst (v := 0) M dX7_firstDown_1 (by decide) ?_
  refine zz_max M l_X7_281 zmath_max (by decide) (Nat.le_of_ble_eq_true rfl) dX7_firstDown_2 ?_
  refine zz_topi (fun x101 ex101 => ?_)
  have h := h x101 ex101
  refine zz_istore_n M [(3, .int x101), (0, .ref (ad 0)), (1, .int x1), (2, .int x2)] dX7_firstDown_5 rfl (by decide) rfl ?_
  refine zz_sub [(0, .ref (ad 0)), (1, .int x1), (3, .int x101)] [1, 2, 0] rfl ?_
  refine sX7_firstDown_L6 x1  M (fun v103 σ104 h => ?_) (fun  σ105 h => ?_) 300 _ _ h
  · refine zz_iload_n M 0 dX7_firstDown_25 rfl rfl ?_
    exact zz_iret M dX7_firstDown_26 h
  · refine zz_bipush (v := 24) M dX7_firstDown_33 (by decide) ?_
    exact zz_iret M dX7_firstDown_35 h
def wX7_way_L35 (Q : Int32 → zSt → Prop) (K103 : Int32 → Int32 → zSt → Prop) (x2 : Int32) (x3 : Int32) : Nat → Int32 → Int32 → Int32 → zSt → Prop
  | 0, _, _, _, _ => False
  | n + 1, x4, x5, x6, σ => if 3 ≤ x6 then (K103 x4 x5 σ) else (vp_in x3 8 ∧ (vp_in x3 8 ∧ (∀ a104 : Int32, a104 = ((σ.1 5 x3.toNatClampNeg) + ((σ.1 1 9) * (if 0 ≤ (x6 - (σ.1 4 x3.toNatClampNeg)) then (x6 - (σ.1 4 x3.toNatClampNeg)) else 0 - (x6 - (σ.1 4 x3.toNatClampNeg))))) → (wX7_firstDown x6 a104 σ (fun r105 σ106 => if x4 ≤ r105 then (∀ x107 : Int32, x107 = x6 + 1 → (wX7_way_L35 Q K103 x2 x3 n x4 x5 x107 σ106)) else (∀ x108 : Int32, x108 = x6 + 1 → (wX7_way_L35 Q K103 x2 x3 n r105 x6 x108 σ106)))))))
set_option maxRecDepth 20000 in
set_option maxHeartbeats 4000000 in
theorem sX7_way_L35 {Q : Int32 → zSt → Prop} {K103 : Int32 → Int32 → zSt → Prop} (x2 : Int32) (x3 : Int32)  (M : zM p s m args meth c cX7_way 8 RX7 (some .int) tabX D cA ad y) (hK103 : ∀ (v4 : Int32) (v5 : Int32) (σ : zSt), K103 v4 v5 σ → zG p l e (zrm 3) s m args below meth c 8 tabX D cA ad (MQ below (va_Qi Q (fun σ' t => va_P D vwCl (zws tabX cA ad σ') t.heap) (zIn tabX ad)) args s 0 0 (zIn tabX ad)) 103 [(2, .int x2), (4, .int v4), (5, .int v5)] [] σ) : ∀ (n : Nat) (x4 : Int32) (x5 : Int32) (x6 : Int32) (σ : zSt), wX7_way_L35 Q K103 x2 x3 n x4 x5 x6 σ → zG p l e (zrm 3) s m args below meth c 8 tabX D cA ad (MQ below (va_Qi Q (fun σ' t => va_P D vwCl (zws tabX cA ad σ') t.heap) (zIn tabX ad)) args s 0 0 (zIn tabX ad)) 35 [(0, .ref (ad 0)), (2, .int x2), (3, .int x3), (4, .int x4), (5, .int x5), (6, .int x6)] [] σ := by
  intro n
  induction n with
  | zero => intro x4 x5 x6 σ h; exact absurd h (by simp [wX7_way_L35])
  | succ n ih =>
    intro x4 x5 x6 σ h
    unfold wX7_way_L35 at h
    refine zz_iload M 5 dX7_way_35 rfl ?_
    refine zz_iconst (v := 3) M dX7_way_37 (by decide) ?_
    refine zz_icmp_ge M 103 dX7_way_38 (by decide) (fun c => ?_) (fun c => ?_)
    · have h := zif (c := 3 ≤ x6) h c
      refine zz_sub [(2, .int x2), (4, .int x4), (5, .int x5)] [1, 3, 4] rfl ?_
      exact hK103 _ _ _ h
    · have h := zifn (c := 3 ≤ x6) h c
      refine zz_aload_n M 0 dX7_way_41 rfl rfl ?_
      refine zz_iload M 5 dX7_way_42 rfl ?_
      refine zz_aload_n M 0 dX7_way_44 rfl rfl ?_
      refine zz_getR M f_X7_12 tX_0 rfl dX7_way_45 ?_
      refine zz_getR M f_X7_119 tX_1 rfl dX7_way_48 ?_
      refine zz_iload_n M 2 dX7_way_51 rfl rfl ?_
      refine zz_iald M tX_5 h.1 dX7_way_52 ?_
      have h := h.2
      refine zz_aload_n M 0 dX7_way_53 rfl rfl ?_
      refine zz_getR M f_X7_12 tX_0 rfl dX7_way_54 ?_
      refine zz_getI M f_X7_139 tX_1 rfl dX7_way_57 ?_
      refine zz_iload M 5 dX7_way_60 rfl ?_
      refine zz_aload_n M 0 dX7_way_62 rfl rfl ?_
      refine zz_getR M f_X7_12 tX_0 rfl dX7_way_63 ?_
      refine zz_getR M f_X7_116 tX_1 rfl dX7_way_66 ?_
      refine zz_iload_n M 2 dX7_way_69 rfl rfl ?_
      refine zz_iald M tX_4 h.1 dX7_way_70 ?_
      have h := h.2
      refine zz_isub M dX7_way_71 ?_
      refine zz_abs M l_X7_210 zmath_abs (by decide) (Nat.le_of_ble_eq_true rfl) dX7_way_72 ?_
      refine zz_imul M dX7_way_75 ?_
      refine zz_iadd M dX7_way_76 ?_
      obtain ⟨a104, ea104⟩ : ∃ z : Int32, z = ((σ.1 5 x3.toNatClampNeg) + ((σ.1 1 9) * (if 0 ≤ (x6 - (σ.1 4 x3.toNatClampNeg)) then (x6 - (σ.1 4 x3.toNatClampNeg)) else 0 - (x6 - (σ.1 4 x3.toNatClampNeg))))) := ⟨_, rfl⟩
      have h := h a104 ea104
      refine zz_st [.int a104, .int x6, .ref (ad 0)] (by rw [ea104]) ?_
      refine zz_callVI (d' := 1) (As := [.int x6, .int a104]) (rest := []) M l_X7_216 tX_0 rfl rfl dX7_way_77 rfl rfl (by decide) (Nat.le_of_ble_eq_true rfl) (by have hI := M.2.2.2.2.2.2.2.2; exact kX7_firstDown hI _ _  _ _ h) (fun r105 σ106 h => ?_)
      refine zz_istore M [(7, .int r105), (0, .ref (ad 0)), (2, .int x2), (3, .int x3), (4, .int x4), (5, .int x5), (6, .int x6)] dX7_way_80 (by decide) rfl ?_
      refine zz_iload M 0 dX7_way_82 rfl ?_
      refine zz_iload M 4 dX7_way_84 rfl ?_
      refine zz_icmp_ge M 97 dX7_way_86 (by decide) (fun c => ?_) (fun c => ?_)
      · have h := zif (c := x4 ≤ r105) h c
        obtain ⟨x107, ex107⟩ : ∃ z : Int32, z = x6 + 1 := ⟨_, rfl⟩
        have h := h x107 ex107
        refine zz_iinc M [(6, .int x107), (7, .int r105), (0, .ref (ad 0)), (2, .int x2), (3, .int x3), (4, .int x4), (5, .int x5)] 6 dX7_way_97 rfl (n32 := 1) (by decide) ex107 (by decide) rfl ?_
        refine zz_goto M 35 dX7_way_100 (by decide) ?_
        refine zz_sub [(0, .ref (ad 0)), (2, .int x2), (3, .int x3), (4, .int x4), (5, .int x5), (6, .int x107)] [2, 3, 4, 5, 6, 0] rfl ?_
        exact ih _ _ _ _ h
      · have h := zifn (c := x4 ≤ r105) h c
        refine zz_iload M 0 dX7_way_89 rfl ?_
        refine zz_istore M [(4, .int r105), (7, .int r105), (0, .ref (ad 0)), (2, .int x2), (3, .int x3), (5, .int x5), (6, .int x6)] dX7_way_91 (by decide) rfl ?_
        refine zz_iload M 6 dX7_way_93 rfl ?_
        refine zz_istore M [(5, .int x6), (4, .int r105), (7, .int r105), (0, .ref (ad 0)), (2, .int x2), (3, .int x3), (6, .int x6)] dX7_way_95 (by decide) rfl ?_
        obtain ⟨x108, ex108⟩ : ∃ z : Int32, z = x6 + 1 := ⟨_, rfl⟩
        have h := h x108 ex108
        refine zz_iinc M [(6, .int x108), (5, .int x6), (4, .int r105), (7, .int r105), (0, .ref (ad 0)), (2, .int x2), (3, .int x3)] 6 dX7_way_97 rfl (n32 := 1) (by decide) ex108 (by decide) rfl ?_
        refine zz_goto M 35 dX7_way_100 (by decide) ?_
        refine zz_sub [(0, .ref (ad 0)), (2, .int x2), (3, .int x3), (4, .int r105), (5, .int x6), (6, .int x108)] [4, 5, 6, 2, 1, 0] rfl ?_
        exact ih _ _ _ _ h
def wX7_way (x1 : Int32) (x2 : Int32) (σ : zSt) (Q : Int32 → zSt → Prop) : Prop := wX7_isOne 1 x1 σ (fun r101 σ102 => if r101 = 0 then (Q (-2) σ102) else (if x2 < 0 then (Q (-2) σ102) else (if x2 ≤ 1 then (∀ x103 : Int32, x103 = (4 + x1) → (wX7_way_L35 Q (fun v109 v110 σ111 => if v110 = (-1) then (Q (-1) σ111) else (if x2 = 0 then (Q v109 σ111) else (Q v110 σ111))) x2 x103 300 24 (-1) 0 σ102)) else (Q (-2) σ102))))
set_option maxRecDepth 20000 in
set_option maxHeartbeats 4000000 in
theorem kX7_way (hI : zInj tabX ad) (x1 : Int32) (x2 : Int32)  (σ : zSt) (Q : Int32 → zSt → Prop) (h : wX7_way x1 x2 σ Q) : zOkI l tabX D cA ad y 3 yX7_way cX7_way 8 (some .int) [.ref (ad 0), .int x1, .int x2] σ Q := by
  refine zz_enter hI (by decide) (Nat.le_of_ble_eq_true rfl) (fun p e s m below meth c M => ?_)
  have M : zM p s m _ meth c cX7_way 8 RX7 (some .int) tabX D cA ad y := M
  refine zz_ls [(0, .ref (ad 0)), (1, .int x1), (2, .int x2)] rfl ?_
  unfold wX7_way at h
  refine zz_aload_n M 0 dX7_way_0 rfl rfl ?_
  refine zz_iconst (v := 1) M dX7_way_1 (by decide) ?_
  refine zz_iload_n M 1 dX7_way_2 rfl rfl ?_
  refine zz_callVI (d' := 2) (As := [.int 1, .int x1]) (rest := []) M l_X7_128 tX_0 rfl rfl dX7_way_3 rfl rfl (by decide) (Nat.le_of_ble_eq_true rfl) (by have hI := M.2.2.2.2.2.2.2.2; exact kX7_isOne hI _ _  _ _ h) (fun r101 σ102 h => ?_)
  refine zz_if_eq (y0 := 0) M 18 dX7_way_6 (by decide) (fun c => ?_) (fun c => ?_)
  · have h := zif (c := r101 = 0) h c
    refine zz_bipush (v := (-2)) M dX7_way_18 (by decide) ?_
    exact zz_iret M dX7_way_20 h
  · have h := zifn (c := r101 = 0) h c
    refine zz_iload_n M 2 dX7_way_9 rfl rfl ?_
    refine zz_if_lt (y0 := 0) M 18 dX7_way_10 (by decide) (fun c => ?_) (fun c => ?_)
    · have h := zif (c := x2 < 0) h c
      refine zz_bipush (v := (-2)) M dX7_way_18 (by decide) ?_
      exact zz_iret M dX7_way_20 h
    · have h := zifn (c := x2 < 0) h c
      refine zz_iload_n M 2 dX7_way_13 rfl rfl ?_
      refine zz_iconst (v := 1) M dX7_way_14 (by decide) ?_
      refine zz_icmp_le M 21 dX7_way_15 (by decide) (fun c => ?_) (fun c => ?_)
      · have h := zif (c := x2 ≤ 1) h c
        refine zz_iconst (v := 4) M dX7_way_21 (by decide) ?_
        refine zz_iload_n M 1 dX7_way_22 rfl rfl ?_
        refine zz_iadd M dX7_way_23 ?_
        refine zz_topi (fun x103 ex103 => ?_)
        have h := h x103 ex103
        refine zz_istore_n M [(3, .int x103), (0, .ref (ad 0)), (1, .int x1), (2, .int x2)] dX7_way_24 rfl (by decide) rfl ?_
        refine zz_bipush (v := 24) M dX7_way_25 (by decide) ?_
        refine zz_istore M [(4, .int 24), (3, .int x103), (0, .ref (ad 0)), (1, .int x1), (2, .int x2)] dX7_way_27 (by decide) rfl ?_
        refine zz_iconst (v := (-1)) M dX7_way_29 (by decide) ?_
        refine zz_istore M [(5, .int (-1)), (4, .int 24), (3, .int x103), (0, .ref (ad 0)), (1, .int x1), (2, .int x2)] dX7_way_30 (by decide) rfl ?_
        refine zz_iconst (v := 0) M dX7_way_32 (by decide) ?_
        refine zz_istore M [(6, .int 0), (5, .int (-1)), (4, .int 24), (3, .int x103), (0, .ref (ad 0)), (1, .int x1), (2, .int x2)] dX7_way_33 (by decide) rfl ?_
        refine zz_sub [(0, .ref (ad 0)), (2, .int x2), (3, .int x103), (4, .int 24), (5, .int (-1)), (6, .int 0)] [4, 6, 3, 2, 1, 0] rfl ?_
        refine sX7_way_L35 x2 x103  M (fun v109 v110 σ111 h => ?_) 300 _ _ _ _ h
        refine zz_iload M 2 dX7_way_103 rfl ?_
        refine zz_iconst (v := (-1)) M dX7_way_105 (by decide) ?_
        refine zz_icmp_ne M 111 dX7_way_106 (by decide) (fun c => ?_) (fun c => ?_)
        · have h := zifn (c := v110 = (-1)) h c
          refine zz_iload_n M 0 dX7_way_111 rfl rfl ?_
          refine zz_if_ne (y0 := 0) M 120 dX7_way_112 (by decide) (fun c => ?_) (fun c => ?_)
          · have h := zifn (c := x2 = 0) h c
            refine zz_iload M 2 dX7_way_120 rfl ?_
            exact zz_iret M dX7_way_122 h
          · have h := zif (c := x2 = 0) h c
            refine zz_iload M 1 dX7_way_115 rfl ?_
            refine zz_goto M 122 dX7_way_117 (by decide) ?_
            exact zz_iret M dX7_way_122 h
        · have h := zif (c := v110 = (-1)) h c
          refine zz_iconst (v := (-1)) M dX7_way_109 (by decide) ?_
          exact zz_iret M dX7_way_110 h
      · have h := zifn (c := x2 ≤ 1) h c
        refine zz_bipush (v := (-2)) M dX7_way_18 (by decide) ?_
        exact zz_iret M dX7_way_20 h
def wX7_fourth_L14 (Q : Int32 → zSt → Prop) (K94 : Int32 → zSt → Prop) (x1 : Int32) : Nat → Int32 → Int32 → zSt → Prop
  | 0, _, _, _ => False
  | n + 1, x2, x3, σ => if 8 ≤ x3 then (K94 x2 σ) else (wX1_isThere x3 σ (fun r103 σ104 => if r103 = 0 then (∀ x105 : Int32, x105 = x3 + 1 → (wX7_fourth_L14 Q K94 x1 n x2 x105 σ104)) else (vp_in x3 8 ∧ (if (σ104.1 4 x3.toNatClampNeg) = x1 then (wX1_through_2 x3 σ104 (fun r107 σ108 => wX0_ofOne x3 r107 σ108 (fun r109 σ110 => vp_in x3 8 ∧ (∀ a111 : Int32, a111 = (σ110.1 5 x3.toNatClampNeg) → (wX0_ofOne x3 a111 σ110 (fun r112 σ113 => ∀ x114 : Int32, x114 = (x2 + (r109 - r112)) → (∀ x115 : Int32, x115 = x3 + 1 → (wX7_fourth_L14 Q K94 x1 n x114 x115 σ113)))))))) else (∀ x106 : Int32, x106 = x3 + 1 → (wX7_fourth_L14 Q K94 x1 n x2 x106 σ104))))))
set_option maxRecDepth 20000 in
set_option maxHeartbeats 4000000 in
theorem sX7_fourth_L14 {Q : Int32 → zSt → Prop} {K94 : Int32 → zSt → Prop} (x1 : Int32)  (M : zM p s m args meth c cX7_fourth 4 RX7 (some .int) tabX D cA ad y) (hK94 : ∀ (v2 : Int32) (σ : zSt), K94 v2 σ → zG p l e (zrm 5) s m args below meth c 4 tabX D cA ad (MQ below (va_Qi Q (fun σ' t => va_P D vwCl (zws tabX cA ad σ') t.heap) (zIn tabX ad)) args s 0 0 (zIn tabX ad)) 94 [(2, .int v2)] [] σ) : ∀ (n : Nat) (x2 : Int32) (x3 : Int32) (σ : zSt), wX7_fourth_L14 Q K94 x1 n x2 x3 σ → zG p l e (zrm 5) s m args below meth c 4 tabX D cA ad (MQ below (va_Qi Q (fun σ' t => va_P D vwCl (zws tabX cA ad σ') t.heap) (zIn tabX ad)) args s 0 0 (zIn tabX ad)) 14 [(0, .ref (ad 0)), (1, .int x1), (2, .int x2), (3, .int x3)] [] σ := by
  intro n
  induction n with
  | zero => intro x2 x3 σ h; exact absurd h (by simp [wX7_fourth_L14])
  | succ n ih =>
    intro x2 x3 σ h
    unfold wX7_fourth_L14 at h
    refine zz_iload_n M 3 dX7_fourth_14 rfl rfl ?_
    refine zz_bipush (v := 8) M dX7_fourth_15 (by decide) ?_
    refine zz_icmp_ge M 94 dX7_fourth_17 (by decide) (fun c => ?_) (fun c => ?_)
    · have h := zif (c := 8 ≤ x3) h c
      refine zz_sub [(2, .int x2)] [2] rfl ?_
      exact hK94 _ _ h
    · have h := zifn (c := 8 ≤ x3) h c
      refine zz_aload_n M 0 dX7_fourth_20 rfl rfl ?_
      refine zz_getR M f_X7_12 tX_0 rfl dX7_fourth_21 ?_
      refine zz_iload_n M 3 dX7_fourth_24 rfl rfl ?_
      refine zz_callVI (d' := 1) (As := [.int x3]) (rest := []) M l_X7_219 tX_1 rfl rfl dX7_fourth_25 rfl rfl (by decide) (Nat.le_of_ble_eq_true rfl) (by have hI := M.2.2.2.2.2.2.2.2; exact kX1_isThere hI _  _ _ h) (fun r103 σ104 h => ?_)
      refine zz_if_eq (y0 := 0) M 88 dX7_fourth_28 (by decide) (fun c => ?_) (fun c => ?_)
      · have h := zif (c := r103 = 0) h c
        obtain ⟨x105, ex105⟩ : ∃ z : Int32, z = x3 + 1 := ⟨_, rfl⟩
        have h := h x105 ex105
        refine zz_iinc M [(3, .int x105), (0, .ref (ad 0)), (1, .int x1), (2, .int x2)] 3 dX7_fourth_88 rfl (n32 := 1) (by decide) ex105 (by decide) rfl ?_
        refine zz_goto M 14 dX7_fourth_91 (by decide) ?_
        refine zz_sub [(0, .ref (ad 0)), (1, .int x1), (2, .int x2), (3, .int x105)] [1, 2, 3, 0] rfl ?_
        exact ih _ _ _ h
      · have h := zifn (c := r103 = 0) h c
        refine zz_aload_n M 0 dX7_fourth_31 rfl rfl ?_
        refine zz_getR M f_X7_12 tX_0 rfl dX7_fourth_32 ?_
        refine zz_getR M f_X7_116 tX_1 rfl dX7_fourth_35 ?_
        refine zz_iload_n M 3 dX7_fourth_38 rfl rfl ?_
        refine zz_iald M tX_4 h.1 dX7_fourth_39 ?_
        have h := h.2
        refine zz_iload_n M 1 dX7_fourth_40 rfl rfl ?_
        refine zz_icmp_ne M 88 dX7_fourth_41 (by decide) (fun c => ?_) (fun c => ?_)
        · have h := zifn (c := (σ104.1 4 x3.toNatClampNeg) = x1) h c
          obtain ⟨x106, ex106⟩ : ∃ z : Int32, z = x3 + 1 := ⟨_, rfl⟩
          have h := h x106 ex106
          refine zz_iinc M [(3, .int x106), (0, .ref (ad 0)), (1, .int x1), (2, .int x2)] 3 dX7_fourth_88 rfl (n32 := 1) (by decide) ex106 (by decide) rfl ?_
          refine zz_goto M 14 dX7_fourth_91 (by decide) ?_
          refine zz_sub [(0, .ref (ad 0)), (1, .int x1), (2, .int x2), (3, .int x106)] [1, 2, 3, 0] rfl ?_
          exact ih _ _ _ h
        · have h := zif (c := (σ104.1 4 x3.toNatClampNeg) = x1) h c
          refine zz_iload_n M 2 dX7_fourth_44 rfl rfl ?_
          refine zz_aload_n M 0 dX7_fourth_45 rfl rfl ?_
          refine zz_getR M f_X7_58 tX_0 rfl dX7_fourth_46 ?_
          refine zz_iload_n M 3 dX7_fourth_49 rfl rfl ?_
          refine zz_aload_n M 0 dX7_fourth_50 rfl rfl ?_
          refine zz_getR M f_X7_12 tX_0 rfl dX7_fourth_51 ?_
          refine zz_iload_n M 3 dX7_fourth_54 rfl rfl ?_
          refine zz_aload_n M 0 dX7_fourth_55 rfl rfl ?_
          refine zz_getR M f_X7_12 tX_0 rfl dX7_fourth_56 ?_
          refine zz_getR M f_X7_148 tX_1 rfl dX7_fourth_59 ?_
          refine zz_callVI (d' := 2) (As := [.int x3, .ref (ad 2)]) (rest := [.int x3, .ref (ad 24), .int x2]) M l_X7_151 tX_1 rfl rfl dX7_fourth_62 rfl rfl (by decide) (Nat.le_of_ble_eq_true rfl) (by have hI := M.2.2.2.2.2.2.2.2; exact kX1_through_2 hI _  _ _ h) (fun r107 σ108 h => ?_)
          refine zz_callVI (d' := 4) (As := [.int x3, .int r107]) (rest := [.int x2]) M l_X7_155 tX_24 rfl rfl dX7_fourth_65 rfl rfl (by decide) (Nat.le_of_ble_eq_true rfl) (by have hI := M.2.2.2.2.2.2.2.2; exact kX0_ofOne hI _ _  _ _ h) (fun r109 σ110 h => ?_)
          refine zz_aload_n M 0 dX7_fourth_68 rfl rfl ?_
          refine zz_getR M f_X7_58 tX_0 rfl dX7_fourth_69 ?_
          refine zz_iload_n M 3 dX7_fourth_72 rfl rfl ?_
          refine zz_aload_n M 0 dX7_fourth_73 rfl rfl ?_
          refine zz_getR M f_X7_12 tX_0 rfl dX7_fourth_74 ?_
          refine zz_getR M f_X7_119 tX_1 rfl dX7_fourth_77 ?_
          refine zz_iload_n M 3 dX7_fourth_80 rfl rfl ?_
          refine zz_iald M tX_5 h.1 dX7_fourth_81 ?_
          have h := h.2
          obtain ⟨a111, ea111⟩ : ∃ z : Int32, z = (σ110.1 5 x3.toNatClampNeg) := ⟨_, rfl⟩
          have h := h a111 ea111
          refine zz_st [.int a111, .int x3, .ref (ad 24), .int r109, .int x2] (by rw [ea111]) ?_
          refine zz_callVI (d' := 4) (As := [.int x3, .int a111]) (rest := [.int r109, .int x2]) M l_X7_155 tX_24 rfl rfl dX7_fourth_82 rfl rfl (by decide) (Nat.le_of_ble_eq_true rfl) (by have hI := M.2.2.2.2.2.2.2.2; exact kX0_ofOne hI _ _  _ _ h) (fun r112 σ113 h => ?_)
          refine zz_isub M dX7_fourth_85 ?_
          refine zz_iadd M dX7_fourth_86 ?_
          refine zz_topi (fun x114 ex114 => ?_)
          have h := h x114 ex114
          refine zz_istore_n M [(2, .int x114), (0, .ref (ad 0)), (1, .int x1), (3, .int x3)] dX7_fourth_87 rfl (by decide) rfl ?_
          obtain ⟨x115, ex115⟩ : ∃ z : Int32, z = x3 + 1 := ⟨_, rfl⟩
          have h := h x115 ex115
          refine zz_iinc M [(3, .int x115), (2, .int x114), (0, .ref (ad 0)), (1, .int x1)] 3 dX7_fourth_88 rfl (n32 := 1) (by decide) ex115 (by decide) rfl ?_
          refine zz_goto M 14 dX7_fourth_91 (by decide) ?_
          refine zz_sub [(0, .ref (ad 0)), (1, .int x1), (2, .int x114), (3, .int x115)] [2, 3, 1, 0] rfl ?_
          exact ih _ _ _ h
def wX7_fourth (x1 : Int32) (σ : zSt) (Q : Int32 → zSt → Prop) : Prop := wX7_isBridge x1 σ (fun r101 σ102 => if r101 = 0 then (Q (-2) σ102) else (wX7_fourth_L14 Q (fun v116 σ117 => Q v116 σ117) x1 300 0 4 σ102))
set_option maxRecDepth 20000 in
set_option maxHeartbeats 4000000 in
theorem kX7_fourth (hI : zInj tabX ad) (x1 : Int32)  (σ : zSt) (Q : Int32 → zSt → Prop) (h : wX7_fourth x1 σ Q) : zOkI l tabX D cA ad y 5 yX7_fourth cX7_fourth 4 (some .int) [.ref (ad 0), .int x1] σ Q := by
  refine zz_enter hI (by decide) (Nat.le_of_ble_eq_true rfl) (fun p e s m below meth c M => ?_)
  have M : zM p s m _ meth c cX7_fourth 4 RX7 (some .int) tabX D cA ad y := M
  refine zz_ls [(0, .ref (ad 0)), (1, .int x1)] rfl ?_
  unfold wX7_fourth at h
  refine zz_iload_n M 1 dX7_fourth_0 rfl rfl ?_
  refine zz_callSI (d' := 1) (As := [.int x1]) (rest := []) M l_X7_104 dX7_fourth_1 rfl rfl (by decide) (Nat.le_of_ble_eq_true rfl) (by have hI := M.2.2.2.2.2.2.2.2; exact kX7_isBridge hI _  _ _ h) (fun r101 σ102 h => ?_)
  refine zz_if_ne (y0 := 0) M 10 dX7_fourth_4 (by decide) (fun c => ?_) (fun c => ?_)
  · have h := zifn (c := r101 = 0) h c
    refine zz_iconst (v := 0) M dX7_fourth_10 (by decide) ?_
    refine zz_istore_n M [(2, .int 0), (0, .ref (ad 0)), (1, .int x1)] dX7_fourth_11 rfl (by decide) rfl ?_
    refine zz_iconst (v := 4) M dX7_fourth_12 (by decide) ?_
    refine zz_istore_n M [(3, .int 4), (2, .int 0), (0, .ref (ad 0)), (1, .int x1)] dX7_fourth_13 rfl (by decide) rfl ?_
    refine zz_sub [(0, .ref (ad 0)), (1, .int x1), (2, .int 0), (3, .int 4)] [2, 3, 1, 0] rfl ?_
    refine sX7_fourth_L14 x1  M (fun v116 σ117 h => ?_) 300 _ _ _ h
    refine zz_iload_n M 0 dX7_fourth_94 rfl rfl ?_
    exact zz_iret M dX7_fourth_95 h
  · have h := zif (c := r101 = 0) h c
    refine zz_bipush (v := (-2)) M dX7_fourth_7 (by decide) ?_
    exact zz_iret M dX7_fourth_9 h
def wX7_late_L17 (Q : Int32 → zSt → Prop) (K75 : Int32 → zSt → Prop) (x1 : Int32) : Nat → Int32 → Int32 → zSt → Prop
  | 0, _, _, _ => False
  | n + 1, x2, x3, σ => if 8 ≤ x3 then (K75 x2 σ) else (wX1_isThere x3 σ (fun r101 σ102 => if r101 = 0 then (∀ x103 : Int32, x103 = x3 + 1 → (wX7_late_L17 Q K75 x1 n x2 x103 σ102)) else (wX1_through_2 x3 σ102 (fun r104 σ105 => vp_in x3 8 ∧ (if (r104 - (σ105.1 5 x3.toNatClampNeg)) ≤ x1 then (∀ x106 : Int32, x106 = x3 + 1 → (wX7_late_L17 Q K75 x1 n x2 x106 σ105)) else (∀ x107 : Int32, x107 = (x2 ||| (1 <<< (x3 &&& 31))) → (∀ x108 : Int32, x108 = x3 + 1 → (wX7_late_L17 Q K75 x1 n x107 x108 σ105))))))))
set_option maxRecDepth 20000 in
set_option maxHeartbeats 4000000 in
theorem sX7_late_L17 {Q : Int32 → zSt → Prop} {K75 : Int32 → zSt → Prop} (x1 : Int32)  (M : zM p s m args meth c cX7_late 4 RX7 (some .int) tabX D cA ad y) (hK75 : ∀ (v2 : Int32) (σ : zSt), K75 v2 σ → zG p l e (zrm 3) s m args below meth c 4 tabX D cA ad (MQ below (va_Qi Q (fun σ' t => va_P D vwCl (zws tabX cA ad σ') t.heap) (zIn tabX ad)) args s 0 0 (zIn tabX ad)) 75 [(2, .int v2)] [] σ) : ∀ (n : Nat) (x2 : Int32) (x3 : Int32) (σ : zSt), wX7_late_L17 Q K75 x1 n x2 x3 σ → zG p l e (zrm 3) s m args below meth c 4 tabX D cA ad (MQ below (va_Qi Q (fun σ' t => va_P D vwCl (zws tabX cA ad σ') t.heap) (zIn tabX ad)) args s 0 0 (zIn tabX ad)) 17 [(0, .ref (ad 0)), (1, .int x1), (2, .int x2), (3, .int x3)] [] σ := by
  intro n
  induction n with
  | zero => intro x2 x3 σ h; exact absurd h (by simp [wX7_late_L17])
  | succ n ih =>
    intro x2 x3 σ h
    unfold wX7_late_L17 at h
    refine zz_iload_n M 3 dX7_late_17 rfl rfl ?_
    refine zz_bipush (v := 8) M dX7_late_18 (by decide) ?_
    refine zz_icmp_ge M 75 dX7_late_20 (by decide) (fun c => ?_) (fun c => ?_)
    · have h := zif (c := 8 ≤ x3) h c
      refine zz_sub [(2, .int x2)] [2] rfl ?_
      exact hK75 _ _ h
    · have h := zifn (c := 8 ≤ x3) h c
      refine zz_aload_n M 0 dX7_late_23 rfl rfl ?_
      refine zz_getR M f_X7_12 tX_0 rfl dX7_late_24 ?_
      refine zz_iload_n M 3 dX7_late_27 rfl rfl ?_
      refine zz_callVI (d' := 1) (As := [.int x3]) (rest := []) M l_X7_219 tX_1 rfl rfl dX7_late_28 rfl rfl (by decide) (Nat.le_of_ble_eq_true rfl) (by have hI := M.2.2.2.2.2.2.2.2; exact kX1_isThere hI _  _ _ h) (fun r101 σ102 h => ?_)
      refine zz_if_eq (y0 := 0) M 69 dX7_late_31 (by decide) (fun c => ?_) (fun c => ?_)
      · have h := zif (c := r101 = 0) h c
        obtain ⟨x103, ex103⟩ : ∃ z : Int32, z = x3 + 1 := ⟨_, rfl⟩
        have h := h x103 ex103
        refine zz_iinc M [(3, .int x103), (0, .ref (ad 0)), (1, .int x1), (2, .int x2)] 3 dX7_late_69 rfl (n32 := 1) (by decide) ex103 (by decide) rfl ?_
        refine zz_goto M 17 dX7_late_72 (by decide) ?_
        refine zz_sub [(0, .ref (ad 0)), (1, .int x1), (2, .int x2), (3, .int x103)] [1, 2, 3, 0] rfl ?_
        exact ih _ _ _ h
      · have h := zifn (c := r101 = 0) h c
        refine zz_aload_n M 0 dX7_late_34 rfl rfl ?_
        refine zz_getR M f_X7_12 tX_0 rfl dX7_late_35 ?_
        refine zz_iload_n M 3 dX7_late_38 rfl rfl ?_
        refine zz_aload_n M 0 dX7_late_39 rfl rfl ?_
        refine zz_getR M f_X7_12 tX_0 rfl dX7_late_40 ?_
        refine zz_getR M f_X7_148 tX_1 rfl dX7_late_43 ?_
        refine zz_callVI (d' := 2) (As := [.int x3, .ref (ad 2)]) (rest := []) M l_X7_151 tX_1 rfl rfl dX7_late_46 rfl rfl (by decide) (Nat.le_of_ble_eq_true rfl) (by have hI := M.2.2.2.2.2.2.2.2; exact kX1_through_2 hI _  _ _ h) (fun r104 σ105 h => ?_)
        refine zz_aload_n M 0 dX7_late_49 rfl rfl ?_
        refine zz_getR M f_X7_12 tX_0 rfl dX7_late_50 ?_
        refine zz_getR M f_X7_119 tX_1 rfl dX7_late_53 ?_
        refine zz_iload_n M 3 dX7_late_56 rfl rfl ?_
        refine zz_iald M tX_5 h.1 dX7_late_57 ?_
        have h := h.2
        refine zz_isub M dX7_late_58 ?_
        refine zz_iload_n M 1 dX7_late_59 rfl rfl ?_
        refine zz_icmp_le M 69 dX7_late_60 (by decide) (fun c => ?_) (fun c => ?_)
        · have h := zif (c := (r104 - (σ105.1 5 x3.toNatClampNeg)) ≤ x1) h c
          obtain ⟨x106, ex106⟩ : ∃ z : Int32, z = x3 + 1 := ⟨_, rfl⟩
          have h := h x106 ex106
          refine zz_iinc M [(3, .int x106), (0, .ref (ad 0)), (1, .int x1), (2, .int x2)] 3 dX7_late_69 rfl (n32 := 1) (by decide) ex106 (by decide) rfl ?_
          refine zz_goto M 17 dX7_late_72 (by decide) ?_
          refine zz_sub [(0, .ref (ad 0)), (1, .int x1), (2, .int x2), (3, .int x106)] [1, 2, 3, 0] rfl ?_
          exact ih _ _ _ h
        · have h := zifn (c := (r104 - (σ105.1 5 x3.toNatClampNeg)) ≤ x1) h c
          refine zz_iload_n M 2 dX7_late_63 rfl rfl ?_
          refine zz_iconst (v := 1) M dX7_late_64 (by decide) ?_
          refine zz_iload_n M 3 dX7_late_65 rfl rfl ?_
          refine zz_ishl M dX7_late_66 ?_
          refine zz_ior M dX7_late_67 ?_
          refine zz_topi (fun x107 ex107 => ?_)
          have h := h x107 ex107
          refine zz_istore_n M [(2, .int x107), (0, .ref (ad 0)), (1, .int x1), (3, .int x3)] dX7_late_68 rfl (by decide) rfl ?_
          obtain ⟨x108, ex108⟩ : ∃ z : Int32, z = x3 + 1 := ⟨_, rfl⟩
          have h := h x108 ex108
          refine zz_iinc M [(3, .int x108), (2, .int x107), (0, .ref (ad 0)), (1, .int x1)] 3 dX7_late_69 rfl (n32 := 1) (by decide) ex108 (by decide) rfl ?_
          refine zz_goto M 17 dX7_late_72 (by decide) ?_
          refine zz_sub [(0, .ref (ad 0)), (1, .int x1), (2, .int x107), (3, .int x108)] [2, 3, 1, 0] rfl ?_
          exact ih _ _ _ h
def wX7_late (x1 : Int32) (σ : zSt) (Q : Int32 → zSt → Prop) : Prop := if x1 < 0 then (Q (-2) σ) else (if x1 ≤ 24 then (wX7_late_L17 Q (fun v109 σ110 => Q v109 σ110) x1 300 0 0 σ) else (Q (-2) σ))
set_option maxRecDepth 20000 in
set_option maxHeartbeats 4000000 in
theorem kX7_late (hI : zInj tabX ad) (x1 : Int32)  (σ : zSt) (Q : Int32 → zSt → Prop) (h : wX7_late x1 σ Q) : zOkI l tabX D cA ad y 3 yX7_late cX7_late 4 (some .int) [.ref (ad 0), .int x1] σ Q := by
  refine zz_enter hI (by decide) (Nat.le_of_ble_eq_true rfl) (fun p e s m below meth c M => ?_)
  have M : zM p s m _ meth c cX7_late 4 RX7 (some .int) tabX D cA ad y := M
  refine zz_ls [(0, .ref (ad 0)), (1, .int x1)] rfl ?_
  unfold wX7_late at h
  refine zz_iload_n M 1 dX7_late_0 rfl rfl ?_
  refine zz_if_lt (y0 := 0) M 10 dX7_late_1 (by decide) (fun c => ?_) (fun c => ?_)
  · have h := zif (c := x1 < 0) h c
    refine zz_bipush (v := (-2)) M dX7_late_10 (by decide) ?_
    exact zz_iret M dX7_late_12 h
  · have h := zifn (c := x1 < 0) h c
    refine zz_iload_n M 1 dX7_late_4 rfl rfl ?_
    refine zz_bipush (v := 24) M dX7_late_5 (by decide) ?_
    refine zz_icmp_le M 13 dX7_late_7 (by decide) (fun c => ?_) (fun c => ?_)
    · have h := zif (c := x1 ≤ 24) h c
      refine zz_iconst (v := 0) M dX7_late_13 (by decide) ?_
      refine zz_istore_n M [(2, .int 0), (0, .ref (ad 0)), (1, .int x1)] dX7_late_14 rfl (by decide) rfl ?_
      refine zz_iconst (v := 0) M dX7_late_15 (by decide) ?_
      refine zz_istore_n M [(3, .int 0), (2, .int 0), (0, .ref (ad 0)), (1, .int x1)] dX7_late_16 rfl (by decide) rfl ?_
      refine zz_sub [(0, .ref (ad 0)), (1, .int x1), (2, .int 0), (3, .int 0)] [2, 3, 1, 0] rfl ?_
      refine sX7_late_L17 x1  M (fun v109 σ110 h => ?_) 300 _ _ _ h
      refine zz_iload_n M 0 dX7_late_75 rfl rfl ?_
      exact zz_iret M dX7_late_76 h
    · have h := zifn (c := x1 ≤ 24) h c
      refine zz_bipush (v := (-2)) M dX7_late_10 (by decide) ?_
      exact zz_iret M dX7_late_12 h
def wX1_through_42_L11 (Q : Int32 → zSt → Prop) (K34 : Int32 → zSt → Prop) (K42 : zSt → Prop) (x1 : Int32) : Nat → Int32 → zSt → Prop
  | 0, _, _ => False
  | n + 1, x3, σ => if 24 ≤ x3 then (K42  σ) else (if 24 ≤ x3 then (K42  σ) else (vp_in x3 24 ∧ (∀ a102 : Int32, a102 = (σ.1 42 x3.toNatClampNeg) → (wX1_passes x1 a102 σ (fun r103 σ104 => if r103 = 0 then (∀ x105 : Int32, x105 = x3 + 1 → (wX1_through_42_L11 Q K34 K42 x1 n x105 σ104)) else (K34 x3 σ104))))))
set_option maxRecDepth 20000 in
set_option maxHeartbeats 4000000 in
theorem sX1_through_42_L11 {Q : Int32 → zSt → Prop} {K34 : Int32 → zSt → Prop} {K42 : zSt → Prop} (x1 : Int32)  (M : zM p s m args meth c cX1_through 4 RX1 (some .int) tabX D cA ad y) (hK34 : ∀ (v3 : Int32) (σ : zSt), K34 v3 σ → zG p l e (zrm 2) s m args below meth c 4 tabX D cA ad (MQ below (va_Qi Q (fun σ' t => va_P D vwCl (zws tabX cA ad σ') t.heap) (zIn tabX ad)) args s 0 0 (zIn tabX ad)) 34 [(3, .int v3)] [] σ) (hK42 : ∀ (σ : zSt), K42  σ → zG p l e (zrm 2) s m args below meth c 4 tabX D cA ad (MQ below (va_Qi Q (fun σ' t => va_P D vwCl (zws tabX cA ad σ') t.heap) (zIn tabX ad)) args s 0 0 (zIn tabX ad)) 42 [] [] σ) : ∀ (n : Nat) (x3 : Int32) (σ : zSt), wX1_through_42_L11 Q K34 K42 x1 n x3 σ → zG p l e (zrm 2) s m args below meth c 4 tabX D cA ad (MQ below (va_Qi Q (fun σ' t => va_P D vwCl (zws tabX cA ad σ') t.heap) (zIn tabX ad)) args s 0 0 (zIn tabX ad)) 11 [(0, .ref (ad 1)), (1, .int x1), (2, .ref (ad 42)), (3, .int x3)] [] σ := by
  intro n
  induction n with
  | zero => intro x3 σ h; exact absurd h (by simp [wX1_through_42_L11])
  | succ n ih =>
    intro x3 σ h
    unfold wX1_through_42_L11 at h
    refine zz_iload_n M 3 dX1_through_11 rfl rfl ?_
    refine zz_bipush (v := 24) M dX1_through_12 (by decide) ?_
    refine zz_icmp_ge M 42 dX1_through_14 (by decide) (fun c => ?_) (fun c => ?_)
    · have h := zif (c := 24 ≤ x3) h c
      refine zz_sub [] [] rfl ?_
      exact hK42  _ h
    · have h := zifn (c := 24 ≤ x3) h c
      refine zz_iload_n M 3 dX1_through_17 rfl rfl ?_
      refine zz_aload_n M 2 dX1_through_18 rfl rfl ?_
      refine zz_alen (v := 24) M tX_42 (by decide) (by decide) dX1_through_19 ?_
      refine zz_icmp_ge M 42 dX1_through_20 (by decide) (fun c => ?_) (fun c => ?_)
      · have h := zif (c := 24 ≤ x3) h c
        refine zz_sub [] [] rfl ?_
        exact hK42  _ h
      · have h := zifn (c := 24 ≤ x3) h c
        refine zz_aload_n M 0 dX1_through_23 rfl rfl ?_
        refine zz_iload_n M 1 dX1_through_24 rfl rfl ?_
        refine zz_aload_n M 2 dX1_through_25 rfl rfl ?_
        refine zz_iload_n M 3 dX1_through_26 rfl rfl ?_
        refine zz_iald M tX_42 h.1 dX1_through_27 ?_
        have h := h.2
        obtain ⟨a102, ea102⟩ : ∃ z : Int32, z = (σ.1 42 x3.toNatClampNeg) := ⟨_, rfl⟩
        have h := h a102 ea102
        refine zz_st [.int a102, .int x1, .ref (ad 1)] (by rw [ea102]) ?_
        refine zz_callVI (d' := 1) (As := [.int x1, .int a102]) (rest := []) M l_X1_58 tX_1 rfl rfl dX1_through_28 rfl rfl (by decide) (Nat.le_of_ble_eq_true rfl) (by have hI := M.2.2.2.2.2.2.2.2; exact kX1_passes hI _ _  _ _ h) (fun r103 σ104 h => ?_)
        refine zz_if_eq (y0 := 0) M 36 dX1_through_31 (by decide) (fun c => ?_) (fun c => ?_)
        · have h := zif (c := r103 = 0) h c
          obtain ⟨x105, ex105⟩ : ∃ z : Int32, z = x3 + 1 := ⟨_, rfl⟩
          have h := h x105 ex105
          refine zz_iinc M [(3, .int x105), (0, .ref (ad 1)), (1, .int x1), (2, .ref (ad 42))] 3 dX1_through_36 rfl (n32 := 1) (by decide) ex105 (by decide) rfl ?_
          refine zz_goto M 11 dX1_through_39 (by decide) ?_
          refine zz_sub [(0, .ref (ad 1)), (1, .int x1), (2, .ref (ad 42)), (3, .int x105)] [1, 2, 3, 0] rfl ?_
          exact ih _ _ h
        · have h := zifn (c := r103 = 0) h c
          refine zz_sub [(3, .int x3)] [3] rfl ?_
          exact hK34 _ _ h
def wX1_through_42 (x1 : Int32) (σ : zSt) (Q : Int32 → zSt → Prop) : Prop := vp_in x1 8 ∧ (∀ x101 : Int32, x101 = (if (σ.1 5 x1.toNatClampNeg) < 0 then 0 else (σ.1 5 x1.toNatClampNeg)) → (wX1_through_42_L11 Q (fun v106 σ107 => Q v106 σ107) (fun  σ108 => Q 24 σ108) x1 300 x101 σ))
set_option maxRecDepth 20000 in
set_option maxHeartbeats 4000000 in
theorem kX1_through_42 (hI : zInj tabX ad) (x1 : Int32)  (σ : zSt) (Q : Int32 → zSt → Prop) (h : wX1_through_42 x1 σ Q) : zOkI l tabX D cA ad y 2 yX1_through cX1_through 4 (some .int) [.ref (ad 1), .int x1, .ref (ad 42)] σ Q := by
  refine zz_enter hI (by decide) (Nat.le_of_ble_eq_true rfl) (fun p e s m below meth c M => ?_)
  have M : zM p s m _ meth c cX1_through 4 RX1 (some .int) tabX D cA ad y := M
  refine zz_ls [(0, .ref (ad 1)), (1, .int x1), (2, .ref (ad 42))] rfl ?_
  unfold wX1_through_42 at h
  refine zz_aload_n M 0 dX1_through_0 rfl rfl ?_
  refine zz_getR M f_X1_21 tX_1 rfl dX1_through_1 ?_
  refine zz_iload_n M 1 dX1_through_4 rfl rfl ?_
  refine zz_iald M tX_5 h.1 dX1_through_5 ?_
  have h := h.2
  refine zz_iconst (v := 0) M dX1_through_6 (by decide) ?_
  refine zz_max M l_X1_52 zmath_max (by decide) (Nat.le_of_ble_eq_true rfl) dX1_through_7 ?_
  refine zz_topi (fun x101 ex101 => ?_)
  have h := h x101 ex101
  refine zz_istore_n M [(3, .int x101), (0, .ref (ad 1)), (1, .int x1), (2, .ref (ad 42))] dX1_through_10 rfl (by decide) rfl ?_
  refine zz_sub [(0, .ref (ad 1)), (1, .int x1), (2, .ref (ad 42)), (3, .int x101)] [1, 2, 3, 0] rfl ?_
  refine sX1_through_42_L11 x1  M (fun v106 σ107 h => ?_) (fun  σ108 h => ?_) 300 _ _ h
  · refine zz_iload_n M 0 dX1_through_34 rfl rfl ?_
    exact zz_iret M dX1_through_35 h
  · refine zz_bipush (v := 24) M dX1_through_42 (by decide) ?_
    exact zz_iret M dX1_through_44 h
end
