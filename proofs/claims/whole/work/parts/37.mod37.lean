section
variable {p : Program} {l : Launch} {e : Env} {s : State} {m : MethodId} {args : Array Value} {below : List Frame} {meth : Method} {c : Code} {D : va_G} {cA : Nat → ClassId} {ad : Nat → Nat} {y : zX}
def wX8_fourth_L23 (Q : Int32 → zSt → Prop) (K78 : Int32 → zSt → Prop) (x1 : Int32) : Nat → Int32 → Int32 → zSt → Prop
  | 0, _, _, _ => False
  | n + 1, x2, x3, σ => if 8 ≤ x3 then (K78 x2 σ) else (wX8_isOne x3 σ (fun r106 σ107 => if r106 = 0 then (∀ x108 : Int32, x108 = x3 + 1 → (wX8_fourth_L23 Q K78 x1 n x2 x108 σ107)) else (vp_in x3 8 ∧ (if (σ107.1 4 x3.toNatClampNeg) = x1 then (wX8_through x3 σ107 (fun r110 σ111 => wX8_costOf x3 r110 σ111 (fun r112 σ113 => vp_in x3 8 ∧ (∀ a114 : Int32, a114 = (σ113.1 5 x3.toNatClampNeg) → (wX8_costOf x3 a114 σ113 (fun r115 σ116 => ∀ x117 : Int32, x117 = (x2 + (r112 - r115)) → (∀ x118 : Int32, x118 = x3 + 1 → (wX8_fourth_L23 Q K78 x1 n x117 x118 σ116)))))))) else (∀ x109 : Int32, x109 = x3 + 1 → (wX8_fourth_L23 Q K78 x1 n x2 x109 σ107))))))
set_option maxRecDepth 20000 in
set_option maxHeartbeats 4000000 in
theorem sX8_fourth_L23 {Q : Int32 → zSt → Prop} {K78 : Int32 → zSt → Prop} (x1 : Int32)  (M : zM p s m args meth c cX8_fourth 4 RX8 (some .int) tabM D cA ad y) (hK78 : ∀ (v2 : Int32) (σ : zSt), K78 v2 σ → zG p l e (zrm 44) s m args below meth c 4 tabM D cA ad (MQ below (va_Qi Q (fun σ' t => va_P D vwCl (zws tabM cA ad σ') t.heap) (zIn tabM ad)) args s 0 0 (zIn tabM ad)) 78 [(2, .int v2)] [] σ) : ∀ (n : Nat) (x2 : Int32) (x3 : Int32) (σ : zSt), wX8_fourth_L23 Q K78 x1 n x2 x3 σ → zG p l e (zrm 44) s m args below meth c 4 tabM D cA ad (MQ below (va_Qi Q (fun σ' t => va_P D vwCl (zws tabM cA ad σ') t.heap) (zIn tabM ad)) args s 0 0 (zIn tabM ad)) 23 [(0, .ref (ad 0)), (1, .int x1), (2, .int x2), (3, .int x3)] [] σ := by
  intro n
  induction n with
  | zero => intro x2 x3 σ h; exact absurd h (by simp [wX8_fourth_L23])
  | succ n ih =>
    intro x2 x3 σ h
    unfold wX8_fourth_L23 at h
    refine zz_iload_n M 3 dX8_fourth_23 rfl rfl ?_
    refine zz_bipush (v := 8) M dX8_fourth_24 (by decide) ?_
    refine zz_icmp_ge M 78 dX8_fourth_26 (by decide) (fun c => ?_) (fun c => ?_)
    · have h := zif (c := 8 ≤ x3) h c
      refine zz_sub [(2, .int x2)] [2] rfl ?_
      exact hK78 _ _ h
    · have h := zifn (c := 8 ≤ x3) h c
      refine zz_aload_n M 0 dX8_fourth_29 rfl rfl ?_
      refine zz_iload_n M 3 dX8_fourth_30 rfl rfl ?_
      refine zz_callVI (d' := 1) (As := [.int x3]) (rest := []) M l_X8_342 tM_0 rfl rfl dX8_fourth_31 rfl rfl (by decide) (Nat.le_of_ble_eq_true rfl) (by have hI := M.2.2.2.2.2.2.2.2; exact kX8_isOne hI _  _ _ h) (fun r106 σ107 h => ?_)
      refine zz_if_eq (y0 := 0) M 72 dX8_fourth_34 (by decide) (fun c => ?_) (fun c => ?_)
      · have h := zif (c := r106 = 0) h c
        obtain ⟨x108, ex108⟩ : ∃ z : Int32, z = x3 + 1 := ⟨_, rfl⟩
        have h := h x108 ex108
        refine zz_iinc M [(3, .int x108), (0, .ref (ad 0)), (1, .int x1), (2, .int x2)] 3 dX8_fourth_72 rfl (n32 := 1) (by decide) ex108 (by decide) rfl ?_
        refine zz_goto M 23 dX8_fourth_75 (by decide) ?_
        refine zz_sub [(0, .ref (ad 0)), (1, .int x1), (2, .int x2), (3, .int x108)] [1, 2, 3, 0] rfl ?_
        exact ih _ _ _ h
      · have h := zifn (c := r106 = 0) h c
        refine zz_aload_n M 0 dX8_fourth_37 rfl rfl ?_
        refine zz_getR M f_X8_23 tM_0 rfl dX8_fourth_38 ?_
        refine zz_iload_n M 3 dX8_fourth_41 rfl rfl ?_
        refine zz_iald M tM_4 h.1 dX8_fourth_42 ?_
        have h := h.2
        refine zz_iload_n M 1 dX8_fourth_43 rfl rfl ?_
        refine zz_icmp_ne M 72 dX8_fourth_44 (by decide) (fun c => ?_) (fun c => ?_)
        · have h := zifn (c := (σ107.1 4 x3.toNatClampNeg) = x1) h c
          obtain ⟨x109, ex109⟩ : ∃ z : Int32, z = x3 + 1 := ⟨_, rfl⟩
          have h := h x109 ex109
          refine zz_iinc M [(3, .int x109), (0, .ref (ad 0)), (1, .int x1), (2, .int x2)] 3 dX8_fourth_72 rfl (n32 := 1) (by decide) ex109 (by decide) rfl ?_
          refine zz_goto M 23 dX8_fourth_75 (by decide) ?_
          refine zz_sub [(0, .ref (ad 0)), (1, .int x1), (2, .int x2), (3, .int x109)] [1, 2, 3, 0] rfl ?_
          exact ih _ _ _ h
        · have h := zif (c := (σ107.1 4 x3.toNatClampNeg) = x1) h c
          refine zz_iload_n M 2 dX8_fourth_47 rfl rfl ?_
          refine zz_aload_n M 0 dX8_fourth_48 rfl rfl ?_
          refine zz_iload_n M 3 dX8_fourth_49 rfl rfl ?_
          refine zz_aload_n M 0 dX8_fourth_50 rfl rfl ?_
          refine zz_iload_n M 3 dX8_fourth_51 rfl rfl ?_
          refine zz_callVI (d' := 2) (As := [.int x3]) (rest := [.int x3, .ref (ad 0), .int x2]) M l_X8_345 tM_0 rfl rfl dX8_fourth_52 rfl rfl (by decide) (Nat.le_of_ble_eq_true rfl) (by have hI := M.2.2.2.2.2.2.2.2; exact kX8_through hI _  _ _ h) (fun r110 σ111 h => ?_)
          refine zz_callVI (d' := 43) (As := [.int x3, .int r110]) (rest := [.int x2]) M l_X8_348 tM_0 rfl rfl dX8_fourth_55 rfl rfl (by decide) (Nat.le_of_ble_eq_true rfl) (by have hI := M.2.2.2.2.2.2.2.2; exact kX8_costOf hI _ _  _ _ h) (fun r112 σ113 h => ?_)
          refine zz_aload_n M 0 dX8_fourth_58 rfl rfl ?_
          refine zz_iload_n M 3 dX8_fourth_59 rfl rfl ?_
          refine zz_aload_n M 0 dX8_fourth_60 rfl rfl ?_
          refine zz_getR M f_X8_26 tM_0 rfl dX8_fourth_61 ?_
          refine zz_iload_n M 3 dX8_fourth_64 rfl rfl ?_
          refine zz_iald M tM_5 h.1 dX8_fourth_65 ?_
          have h := h.2
          obtain ⟨a114, ea114⟩ : ∃ z : Int32, z = (σ113.1 5 x3.toNatClampNeg) := ⟨_, rfl⟩
          have h := h a114 ea114
          refine zz_st [.int a114, .int x3, .ref (ad 0), .int r112, .int x2] (by rw [ea114]) ?_
          refine zz_callVI (d' := 43) (As := [.int x3, .int a114]) (rest := [.int r112, .int x2]) M l_X8_348 tM_0 rfl rfl dX8_fourth_66 rfl rfl (by decide) (Nat.le_of_ble_eq_true rfl) (by have hI := M.2.2.2.2.2.2.2.2; exact kX8_costOf hI _ _  _ _ h) (fun r115 σ116 h => ?_)
          refine zz_isub M dX8_fourth_69 ?_
          refine zz_iadd M dX8_fourth_70 ?_
          refine zz_topi (fun x117 ex117 => ?_)
          have h := h x117 ex117
          refine zz_istore_n M [(2, .int x117), (0, .ref (ad 0)), (1, .int x1), (3, .int x3)] dX8_fourth_71 rfl (by decide) rfl ?_
          obtain ⟨x118, ex118⟩ : ∃ z : Int32, z = x3 + 1 := ⟨_, rfl⟩
          have h := h x118 ex118
          refine zz_iinc M [(3, .int x118), (2, .int x117), (0, .ref (ad 0)), (1, .int x1)] 3 dX8_fourth_72 rfl (n32 := 1) (by decide) ex118 (by decide) rfl ?_
          refine zz_goto M 23 dX8_fourth_75 (by decide) ?_
          refine zz_sub [(0, .ref (ad 0)), (1, .int x1), (2, .int x117), (3, .int x118)] [2, 3, 1, 0] rfl ?_
          exact ih _ _ _ h
def wX8_fourth (x1 : Int32) (σ : zSt) (Q : Int32 → zSt → Prop) : Prop := ∀ a101 : Int64, a101 = ((x1 : Int32).toInt64) → (wX8_in a101 0 2 σ (fun r102 σ103 => if r102 = 0 then (Q (-2) σ103) else (wX8_takesPlan  σ103 (fun σ105 => wX8_fourth_L23 Q (fun v119 σ120 => Q v119 σ120) x1 300 0 4 σ105))))
set_option maxRecDepth 20000 in
set_option maxHeartbeats 4000000 in
theorem kX8_fourth (hI : zInj tabM ad) (x1 : Int32)  (σ : zSt) (Q : Int32 → zSt → Prop) (h : wX8_fourth x1 σ Q) : zOkI l tabM D cA ad y 44 yX8_fourth cX8_fourth 4 (some .int) [.ref (ad 0), .int x1] σ Q := by
  refine zz_enter hI (by decide) (Nat.le_of_ble_eq_true rfl) (fun p e s m below meth c M => ?_)
  have M : zM p s m _ meth c cX8_fourth 4 RX8 (some .int) tabM D cA ad y := M
  refine zz_ls [(0, .ref (ad 0)), (1, .int x1)] rfl ?_
  unfold wX8_fourth at h
  refine zz_iload_n M 1 dX8_fourth_0 rfl rfl ?_
  refine zz_i2l M dX8_fourth_1 ?_
  refine zz_lconst (v := 0) M dX8_fourth_2 (by decide) ?_
  refine zz_ldc2 (v := 2) M k_X8_104 dX8_fourth_3 ?_
  obtain ⟨a101, ea101⟩ : ∃ z : Int64, z = ((x1 : Int32).toInt64) := ⟨_, rfl⟩
  have h := h a101 ea101
  refine zz_st [.long 2, .long 0, .long a101] (by rw [ea101]) ?_
  refine zz_callSI (d' := 1) (As := [.long a101, .long 0, .long 2]) (rest := []) M l_X8_92 dX8_fourth_6 rfl rfl (by decide) (Nat.le_of_ble_eq_true rfl) (by have hI := M.2.2.2.2.2.2.2.2; exact kX8_in hI _ _ _  _ _ h) (fun r102 σ103 h => ?_)
  refine zz_if_ne (y0 := 0) M 15 dX8_fourth_9 (by decide) (fun c => ?_) (fun c => ?_)
  · have h := zifn (c := r102 = 0) h c
    refine zz_aload_n M 0 dX8_fourth_15 rfl rfl ?_
    refine zz_callVV (d' := 1) (As := []) (rest := []) M l_X8_354 tM_0 rfl rfl dX8_fourth_16 rfl rfl (by decide) (Nat.le_of_ble_eq_true rfl) (by have hI := M.2.2.2.2.2.2.2.2; exact kX8_takesPlan hI   _ _ h) (fun σ105 h => ?_)
    refine zz_iconst (v := 0) M dX8_fourth_19 (by decide) ?_
    refine zz_istore_n M [(2, .int 0), (0, .ref (ad 0)), (1, .int x1)] dX8_fourth_20 rfl (by decide) rfl ?_
    refine zz_iconst (v := 4) M dX8_fourth_21 (by decide) ?_
    refine zz_istore_n M [(3, .int 4), (2, .int 0), (0, .ref (ad 0)), (1, .int x1)] dX8_fourth_22 rfl (by decide) rfl ?_
    refine zz_sub [(0, .ref (ad 0)), (1, .int x1), (2, .int 0), (3, .int 4)] [2, 3, 1, 0] rfl ?_
    refine sX8_fourth_L23 x1  M (fun v119 σ120 h => ?_) 300 _ _ _ h
    refine zz_iload_n M 0 dX8_fourth_78 rfl rfl ?_
    exact zz_iret M dX8_fourth_79 h
  · have h := zif (c := r102 = 0) h c
    refine zz_bipush (v := (-2)) M dX8_fourth_12 (by decide) ?_
    exact zz_iret M dX8_fourth_14 h
def wX8_late_L23 (Q : Int32 → zSt → Prop) (K69 : Int32 → zSt → Prop) (x1 : Int32) : Nat → Int32 → Int32 → zSt → Prop
  | 0, _, _, _ => False
  | n + 1, x2, x3, σ => if 8 ≤ x3 then (K69 x2 σ) else (wX8_isOne x3 σ (fun r106 σ107 => if r106 = 0 then (∀ x108 : Int32, x108 = (x2 ||| (0 <<< (x3 &&& 31))) → (∀ x109 : Int32, x109 = x3 + 1 → (wX8_late_L23 Q K69 x1 n x108 x109 σ107))) else (wX8_through x3 σ107 (fun r110 σ111 => vp_in x3 8 ∧ (if (r110 - (σ111.1 5 x3.toNatClampNeg)) ≤ x1 then (∀ x112 : Int32, x112 = (x2 ||| (0 <<< (x3 &&& 31))) → (∀ x113 : Int32, x113 = x3 + 1 → (wX8_late_L23 Q K69 x1 n x112 x113 σ111))) else (∀ x114 : Int32, x114 = (x2 ||| (1 <<< (x3 &&& 31))) → (∀ x115 : Int32, x115 = x3 + 1 → (wX8_late_L23 Q K69 x1 n x114 x115 σ111))))))))
set_option maxRecDepth 20000 in
set_option maxHeartbeats 4000000 in
theorem sX8_late_L23 {Q : Int32 → zSt → Prop} {K69 : Int32 → zSt → Prop} (x1 : Int32)  (M : zM p s m args meth c cX8_late 4 RX8 (some .int) tabM D cA ad y) (hK69 : ∀ (v2 : Int32) (σ : zSt), K69 v2 σ → zG p l e (zrm 3) s m args below meth c 4 tabM D cA ad (MQ below (va_Qi Q (fun σ' t => va_P D vwCl (zws tabM cA ad σ') t.heap) (zIn tabM ad)) args s 0 0 (zIn tabM ad)) 69 [(2, .int v2)] [] σ) : ∀ (n : Nat) (x2 : Int32) (x3 : Int32) (σ : zSt), wX8_late_L23 Q K69 x1 n x2 x3 σ → zG p l e (zrm 3) s m args below meth c 4 tabM D cA ad (MQ below (va_Qi Q (fun σ' t => va_P D vwCl (zws tabM cA ad σ') t.heap) (zIn tabM ad)) args s 0 0 (zIn tabM ad)) 23 [(0, .ref (ad 0)), (1, .int x1), (2, .int x2), (3, .int x3)] [] σ := by
  intro n
  induction n with
  | zero => intro x2 x3 σ h; exact absurd h (by simp [wX8_late_L23])
  | succ n ih =>
    intro x2 x3 σ h
    unfold wX8_late_L23 at h
    refine zz_iload_n M 3 dX8_late_23 rfl rfl ?_
    refine zz_bipush (v := 8) M dX8_late_24 (by decide) ?_
    refine zz_icmp_ge M 69 dX8_late_26 (by decide) (fun c => ?_) (fun c => ?_)
    · have h := zif (c := 8 ≤ x3) h c
      refine zz_sub [(2, .int x2)] [2] rfl ?_
      exact hK69 _ _ h
    · have h := zifn (c := 8 ≤ x3) h c
      refine zz_iload_n M 2 dX8_late_29 rfl rfl ?_
      refine zz_aload_n M 0 dX8_late_30 rfl rfl ?_
      refine zz_iload_n M 3 dX8_late_31 rfl rfl ?_
      refine zz_callVI (d' := 1) (As := [.int x3]) (rest := [.int x2]) M l_X8_342 tM_0 rfl rfl dX8_late_32 rfl rfl (by decide) (Nat.le_of_ble_eq_true rfl) (by have hI := M.2.2.2.2.2.2.2.2; exact kX8_isOne hI _  _ _ h) (fun r106 σ107 h => ?_)
      refine zz_if_eq (y0 := 0) M 58 dX8_late_35 (by decide) (fun c => ?_) (fun c => ?_)
      · have h := zif (c := r106 = 0) h c
        refine zz_iconst (v := 0) M dX8_late_58 (by decide) ?_
        refine zz_iload_n M 3 dX8_late_59 rfl rfl ?_
        refine zz_ishl M dX8_late_60 ?_
        refine zz_ior M dX8_late_61 ?_
        refine zz_topi (fun x108 ex108 => ?_)
        have h := h x108 ex108
        refine zz_istore_n M [(2, .int x108), (0, .ref (ad 0)), (1, .int x1), (3, .int x3)] dX8_late_62 rfl (by decide) rfl ?_
        obtain ⟨x109, ex109⟩ : ∃ z : Int32, z = x3 + 1 := ⟨_, rfl⟩
        have h := h x109 ex109
        refine zz_iinc M [(3, .int x109), (2, .int x108), (0, .ref (ad 0)), (1, .int x1)] 3 dX8_late_63 rfl (n32 := 1) (by decide) ex109 (by decide) rfl ?_
        refine zz_goto M 23 dX8_late_66 (by decide) ?_
        refine zz_sub [(0, .ref (ad 0)), (1, .int x1), (2, .int x108), (3, .int x109)] [2, 3, 1, 0] rfl ?_
        exact ih _ _ _ h
      · have h := zifn (c := r106 = 0) h c
        refine zz_aload_n M 0 dX8_late_38 rfl rfl ?_
        refine zz_iload_n M 3 dX8_late_39 rfl rfl ?_
        refine zz_callVI (d' := 2) (As := [.int x3]) (rest := [.int x2]) M l_X8_345 tM_0 rfl rfl dX8_late_40 rfl rfl (by decide) (Nat.le_of_ble_eq_true rfl) (by have hI := M.2.2.2.2.2.2.2.2; exact kX8_through hI _  _ _ h) (fun r110 σ111 h => ?_)
        refine zz_aload_n M 0 dX8_late_43 rfl rfl ?_
        refine zz_getR M f_X8_26 tM_0 rfl dX8_late_44 ?_
        refine zz_iload_n M 3 dX8_late_47 rfl rfl ?_
        refine zz_iald M tM_5 h.1 dX8_late_48 ?_
        have h := h.2
        refine zz_isub M dX8_late_49 ?_
        refine zz_iload_n M 1 dX8_late_50 rfl rfl ?_
        refine zz_icmp_le M 58 dX8_late_51 (by decide) (fun c => ?_) (fun c => ?_)
        · have h := zif (c := (r110 - (σ111.1 5 x3.toNatClampNeg)) ≤ x1) h c
          refine zz_iconst (v := 0) M dX8_late_58 (by decide) ?_
          refine zz_iload_n M 3 dX8_late_59 rfl rfl ?_
          refine zz_ishl M dX8_late_60 ?_
          refine zz_ior M dX8_late_61 ?_
          refine zz_topi (fun x112 ex112 => ?_)
          have h := h x112 ex112
          refine zz_istore_n M [(2, .int x112), (0, .ref (ad 0)), (1, .int x1), (3, .int x3)] dX8_late_62 rfl (by decide) rfl ?_
          obtain ⟨x113, ex113⟩ : ∃ z : Int32, z = x3 + 1 := ⟨_, rfl⟩
          have h := h x113 ex113
          refine zz_iinc M [(3, .int x113), (2, .int x112), (0, .ref (ad 0)), (1, .int x1)] 3 dX8_late_63 rfl (n32 := 1) (by decide) ex113 (by decide) rfl ?_
          refine zz_goto M 23 dX8_late_66 (by decide) ?_
          refine zz_sub [(0, .ref (ad 0)), (1, .int x1), (2, .int x112), (3, .int x113)] [2, 3, 1, 0] rfl ?_
          exact ih _ _ _ h
        · have h := zifn (c := (r110 - (σ111.1 5 x3.toNatClampNeg)) ≤ x1) h c
          refine zz_iconst (v := 1) M dX8_late_54 (by decide) ?_
          refine zz_goto M 59 dX8_late_55 (by decide) ?_
          refine zz_iload_n M 3 dX8_late_59 rfl rfl ?_
          refine zz_ishl M dX8_late_60 ?_
          refine zz_ior M dX8_late_61 ?_
          refine zz_topi (fun x114 ex114 => ?_)
          have h := h x114 ex114
          refine zz_istore_n M [(2, .int x114), (0, .ref (ad 0)), (1, .int x1), (3, .int x3)] dX8_late_62 rfl (by decide) rfl ?_
          obtain ⟨x115, ex115⟩ : ∃ z : Int32, z = x3 + 1 := ⟨_, rfl⟩
          have h := h x115 ex115
          refine zz_iinc M [(3, .int x115), (2, .int x114), (0, .ref (ad 0)), (1, .int x1)] 3 dX8_late_63 rfl (n32 := 1) (by decide) ex115 (by decide) rfl ?_
          refine zz_goto M 23 dX8_late_66 (by decide) ?_
          refine zz_sub [(0, .ref (ad 0)), (1, .int x1), (2, .int x114), (3, .int x115)] [2, 3, 1, 0] rfl ?_
          exact ih _ _ _ h
def wX8_late (x1 : Int32) (σ : zSt) (Q : Int32 → zSt → Prop) : Prop := ∀ a101 : Int64, a101 = ((x1 : Int32).toInt64) → (wX8_in a101 0 24 σ (fun r102 σ103 => if r102 = 0 then (Q (-2) σ103) else (wX8_takesPlan  σ103 (fun σ105 => wX8_late_L23 Q (fun v116 σ117 => Q v116 σ117) x1 300 0 0 σ105))))
set_option maxRecDepth 20000 in
set_option maxHeartbeats 4000000 in
theorem kX8_late (hI : zInj tabM ad) (x1 : Int32)  (σ : zSt) (Q : Int32 → zSt → Prop) (h : wX8_late x1 σ Q) : zOkI l tabM D cA ad y 3 yX8_late cX8_late 4 (some .int) [.ref (ad 0), .int x1] σ Q := by
  refine zz_enter hI (by decide) (Nat.le_of_ble_eq_true rfl) (fun p e s m below meth c M => ?_)
  have M : zM p s m _ meth c cX8_late 4 RX8 (some .int) tabM D cA ad y := M
  refine zz_ls [(0, .ref (ad 0)), (1, .int x1)] rfl ?_
  unfold wX8_late at h
  refine zz_iload_n M 1 dX8_late_0 rfl rfl ?_
  refine zz_i2l M dX8_late_1 ?_
  refine zz_lconst (v := 0) M dX8_late_2 (by decide) ?_
  refine zz_ldc2 (v := 24) M k_X8_429 dX8_late_3 ?_
  obtain ⟨a101, ea101⟩ : ∃ z : Int64, z = ((x1 : Int32).toInt64) := ⟨_, rfl⟩
  have h := h a101 ea101
  refine zz_st [.long 24, .long 0, .long a101] (by rw [ea101]) ?_
  refine zz_callSI (d' := 1) (As := [.long a101, .long 0, .long 24]) (rest := []) M l_X8_92 dX8_late_6 rfl rfl (by decide) (Nat.le_of_ble_eq_true rfl) (by have hI := M.2.2.2.2.2.2.2.2; exact kX8_in hI _ _ _  _ _ h) (fun r102 σ103 h => ?_)
  refine zz_if_ne (y0 := 0) M 15 dX8_late_9 (by decide) (fun c => ?_) (fun c => ?_)
  · have h := zifn (c := r102 = 0) h c
    refine zz_aload_n M 0 dX8_late_15 rfl rfl ?_
    refine zz_callVV (d' := 1) (As := []) (rest := []) M l_X8_354 tM_0 rfl rfl dX8_late_16 rfl rfl (by decide) (Nat.le_of_ble_eq_true rfl) (by have hI := M.2.2.2.2.2.2.2.2; exact kX8_takesPlan hI   _ _ h) (fun σ105 h => ?_)
    refine zz_iconst (v := 0) M dX8_late_19 (by decide) ?_
    refine zz_istore_n M [(2, .int 0), (0, .ref (ad 0)), (1, .int x1)] dX8_late_20 rfl (by decide) rfl ?_
    refine zz_iconst (v := 0) M dX8_late_21 (by decide) ?_
    refine zz_istore_n M [(3, .int 0), (2, .int 0), (0, .ref (ad 0)), (1, .int x1)] dX8_late_22 rfl (by decide) rfl ?_
    refine zz_sub [(0, .ref (ad 0)), (1, .int x1), (2, .int 0), (3, .int 0)] [2, 3, 1, 0] rfl ?_
    refine sX8_late_L23 x1  M (fun v116 σ117 h => ?_) 300 _ _ _ h
    refine zz_iload_n M 0 dX8_late_69 rfl rfl ?_
    exact zz_iret M dX8_late_70 h
  · have h := zif (c := r102 = 0) h c
    refine zz_bipush (v := (-2)) M dX8_late_12 (by decide) ?_
    exact zz_iret M dX8_late_14 h
def wX8_blame_L39 (Q : Int32 → zSt → Prop) (K96 : Int32 → Int32 → zSt → Prop) (x1 : Int32) (x4 : Int32) : Nat → Int32 → Int32 → Int32 → zSt → Prop
  | 0, _, _, _, _ => False
  | n + 1, x2, x3, x5, σ => if 3 ≤ x5 then (K96 x2 x3 σ) else (vp_in x4 24 ∧ (if x5 = (σ.1 9 x4.toNatClampNeg) then (∀ x108 : Int32, x108 = x5 + 1 → (wX8_blame_L39 Q K96 x1 x4 n x2 x3 x108 σ)) else (vp_in x4 24 ∧ (∀ σ109 : zSt, σ109 = zput σ 10 x4.toNatClampNeg x5 → (wX8_rowCost  σ109 (fun r110 σ111 => if x2 ≤ r110 then (∀ x112 : Int32, x112 = x5 + 1 → (wX8_blame_L39 Q K96 x1 x4 n x2 x3 x112 σ111)) else (∀ x113 : Int32, x113 = ((10 * x4) + x5) → (∀ x114 : Int32, x114 = x5 + 1 → (wX8_blame_L39 Q K96 x1 x4 n r110 x113 x114 σ111)))))))))
set_option maxRecDepth 20000 in
set_option maxHeartbeats 4000000 in
theorem sX8_blame_L39 {Q : Int32 → zSt → Prop} {K96 : Int32 → Int32 → zSt → Prop} (x1 : Int32) (x4 : Int32)  (M : zM p s m args meth c cX8_blame 7 RX8 (some .int) tabM D cA ad y) (hK96 : ∀ (v2 : Int32) (v3 : Int32) (σ : zSt), K96 v2 v3 σ → zG p l e (zrm 45) s m args below meth c 7 tabM D cA ad (MQ below (va_Qi Q (fun σ' t => va_P D vwCl (zws tabM cA ad σ') t.heap) (zIn tabM ad)) args s 0 0 (zIn tabM ad)) 96 [(0, .ref (ad 0)), (1, .int x1), (2, .int v2), (3, .int v3), (4, .int x4)] [] σ) : ∀ (n : Nat) (x2 : Int32) (x3 : Int32) (x5 : Int32) (σ : zSt), wX8_blame_L39 Q K96 x1 x4 n x2 x3 x5 σ → zG p l e (zrm 45) s m args below meth c 7 tabM D cA ad (MQ below (va_Qi Q (fun σ' t => va_P D vwCl (zws tabM cA ad σ') t.heap) (zIn tabM ad)) args s 0 0 (zIn tabM ad)) 39 [(0, .ref (ad 0)), (1, .int x1), (2, .int x2), (3, .int x3), (4, .int x4), (5, .int x5)] [] σ := by
  intro n
  induction n with
  | zero => intro x2 x3 x5 σ h; exact absurd h (by simp [wX8_blame_L39])
  | succ n ih =>
    intro x2 x3 x5 σ h
    unfold wX8_blame_L39 at h
    refine zz_iload M 5 dX8_blame_39 rfl ?_
    refine zz_iconst (v := 3) M dX8_blame_41 (by decide) ?_
    refine zz_icmp_ge M 96 dX8_blame_42 (by decide) (fun c => ?_) (fun c => ?_)
    · have h := zif (c := 3 ≤ x5) h c
      refine zz_sub [(0, .ref (ad 0)), (1, .int x1), (2, .int x2), (3, .int x3), (4, .int x4)] [0, 1, 2, 3, 4] rfl ?_
      exact hK96 _ _ _ h
    · have h := zifn (c := 3 ≤ x5) h c
      refine zz_iload M 5 dX8_blame_45 rfl ?_
      refine zz_aload_n M 0 dX8_blame_47 rfl rfl ?_
      refine zz_getR M f_X8_44 tM_0 rfl dX8_blame_48 ?_
      refine zz_iload M 4 dX8_blame_51 rfl ?_
      refine zz_iald M tM_9 h.1 dX8_blame_53 ?_
      have h := h.2
      refine zz_icmp_eq M 90 dX8_blame_54 (by decide) (fun c => ?_) (fun c => ?_)
      · have h := zif (c := x5 = (σ.1 9 x4.toNatClampNeg)) h c
        obtain ⟨x108, ex108⟩ : ∃ z : Int32, z = x5 + 1 := ⟨_, rfl⟩
        have h := h x108 ex108
        refine zz_iinc M [(5, .int x108), (0, .ref (ad 0)), (1, .int x1), (2, .int x2), (3, .int x3), (4, .int x4)] 5 dX8_blame_90 rfl (n32 := 1) (by decide) ex108 (by decide) rfl ?_
        refine zz_goto M 39 dX8_blame_93 (by decide) ?_
        refine zz_sub [(0, .ref (ad 0)), (1, .int x1), (2, .int x2), (3, .int x3), (4, .int x4), (5, .int x108)] [1, 2, 3, 4, 5, 0] rfl ?_
        exact ih _ _ _ _ h
      · have h := zifn (c := x5 = (σ.1 9 x4.toNatClampNeg)) h c
        refine zz_aload_n M 0 dX8_blame_57 rfl rfl ?_
        refine zz_getR M f_X8_47 tM_0 rfl dX8_blame_58 ?_
        refine zz_iload M 4 dX8_blame_61 rfl ?_
        refine zz_iload M 5 dX8_blame_63 rfl ?_
        refine zz_iast M tM_10 h.1 dX8_blame_65 ?_
        have h := h.2
        refine zz_sg (fun σ109 eσ109 => ?_)
        have h := h σ109 eσ109
        refine zz_aload_n M 0 dX8_blame_66 rfl rfl ?_
        refine zz_callVI (d' := 44) (As := []) (rest := []) M l_X8_359 tM_0 rfl rfl dX8_blame_67 rfl rfl (by decide) (Nat.le_of_ble_eq_true rfl) (by have hI := M.2.2.2.2.2.2.2.2; exact kX8_rowCost hI   _ _ h) (fun r110 σ111 h => ?_)
        refine zz_istore M [(6, .int r110), (0, .ref (ad 0)), (1, .int x1), (2, .int x2), (3, .int x3), (4, .int x4), (5, .int x5)] dX8_blame_70 (by decide) rfl ?_
        refine zz_iload M 0 dX8_blame_72 rfl ?_
        refine zz_iload_n M 3 dX8_blame_74 rfl rfl ?_
        refine zz_icmp_ge M 90 dX8_blame_75 (by decide) (fun c => ?_) (fun c => ?_)
        · have h := zif (c := x2 ≤ r110) h c
          obtain ⟨x112, ex112⟩ : ∃ z : Int32, z = x5 + 1 := ⟨_, rfl⟩
          have h := h x112 ex112
          refine zz_iinc M [(5, .int x112), (6, .int r110), (0, .ref (ad 0)), (1, .int x1), (2, .int x2), (3, .int x3), (4, .int x4)] 6 dX8_blame_90 rfl (n32 := 1) (by decide) ex112 (by decide) rfl ?_
          refine zz_goto M 39 dX8_blame_93 (by decide) ?_
          refine zz_sub [(0, .ref (ad 0)), (1, .int x1), (2, .int x2), (3, .int x3), (4, .int x4), (5, .int x112)] [2, 3, 4, 5, 6, 0] rfl ?_
          exact ih _ _ _ _ h
        · have h := zifn (c := x2 ≤ r110) h c
          refine zz_bipush (v := 10) M dX8_blame_78 (by decide) ?_
          refine zz_iload M 5 dX8_blame_80 rfl ?_
          refine zz_imul M dX8_blame_82 ?_
          refine zz_iload M 6 dX8_blame_83 rfl ?_
          refine zz_iadd M dX8_blame_85 ?_
          refine zz_topi (fun x113 ex113 => ?_)
          have h := h x113 ex113
          refine zz_istore_n M [(3, .int x113), (6, .int r110), (0, .ref (ad 0)), (1, .int x1), (2, .int x2), (4, .int x4), (5, .int x5)] dX8_blame_86 rfl (by decide) rfl ?_
          refine zz_iload M 1 dX8_blame_87 rfl ?_
          refine zz_istore_n M [(2, .int r110), (3, .int x113), (6, .int r110), (0, .ref (ad 0)), (1, .int x1), (4, .int x4), (5, .int x5)] dX8_blame_89 rfl (by decide) rfl ?_
          obtain ⟨x114, ex114⟩ : ∃ z : Int32, z = x5 + 1 := ⟨_, rfl⟩
          have h := h x114 ex114
          refine zz_iinc M [(5, .int x114), (2, .int r110), (3, .int x113), (6, .int r110), (0, .ref (ad 0)), (1, .int x1), (4, .int x4)] 6 dX8_blame_90 rfl (n32 := 1) (by decide) ex114 (by decide) rfl ?_
          refine zz_goto M 39 dX8_blame_93 (by decide) ?_
          refine zz_sub [(0, .ref (ad 0)), (1, .int x1), (2, .int r110), (3, .int x113), (4, .int x4), (5, .int x114)] [4, 5, 1, 2, 6, 0] rfl ?_
          exact ih _ _ _ _ h
def wX8_blame_L29 (Q : Int32 → zSt → Prop) (K116 : Int32 → Int32 → zSt → Prop) (x1 : Int32) : Nat → Int32 → Int32 → Int32 → zSt → Prop
  | 0, _, _, _, _ => False
  | n + 1, x2, x3, x4, σ => if 24 ≤ x4 then (K116 x2 x3 σ) else (wX8_blame_L39 Q (fun v115 v116 σ117 => vp_in x4 24 ∧ (vp_in x4 24 ∧ (∀ σ118 : zSt, σ118 = zput σ117 10 x4.toNatClampNeg (σ117.1 9 x4.toNatClampNeg) → (∀ x119 : Int32, x119 = x4 + 1 → (wX8_blame_L29 Q K116 x1 n v115 v116 x119 σ118))))) x1 x4 300 x2 x3 0 σ)
set_option maxRecDepth 20000 in
set_option maxHeartbeats 4000000 in
theorem sX8_blame_L29 {Q : Int32 → zSt → Prop} {K116 : Int32 → Int32 → zSt → Prop} (x1 : Int32)  (M : zM p s m args meth c cX8_blame 7 RX8 (some .int) tabM D cA ad y) (hK116 : ∀ (v2 : Int32) (v3 : Int32) (σ : zSt), K116 v2 v3 σ → zG p l e (zrm 45) s m args below meth c 7 tabM D cA ad (MQ below (va_Qi Q (fun σ' t => va_P D vwCl (zws tabM cA ad σ') t.heap) (zIn tabM ad)) args s 0 0 (zIn tabM ad)) 116 [(1, .int x1), (2, .int v2), (3, .int v3)] [] σ) : ∀ (n : Nat) (x2 : Int32) (x3 : Int32) (x4 : Int32) (σ : zSt), wX8_blame_L29 Q K116 x1 n x2 x3 x4 σ → zG p l e (zrm 45) s m args below meth c 7 tabM D cA ad (MQ below (va_Qi Q (fun σ' t => va_P D vwCl (zws tabM cA ad σ') t.heap) (zIn tabM ad)) args s 0 0 (zIn tabM ad)) 29 [(0, .ref (ad 0)), (1, .int x1), (2, .int x2), (3, .int x3), (4, .int x4)] [] σ := by
  intro n
  induction n with
  | zero => intro x2 x3 x4 σ h; exact absurd h (by simp [wX8_blame_L29])
  | succ n ih =>
    intro x2 x3 x4 σ h
    unfold wX8_blame_L29 at h
    refine zz_iload M 4 dX8_blame_29 rfl ?_
    refine zz_bipush (v := 24) M dX8_blame_31 (by decide) ?_
    refine zz_icmp_ge M 116 dX8_blame_33 (by decide) (fun c => ?_) (fun c => ?_)
    · have h := zif (c := 24 ≤ x4) h c
      refine zz_sub [(1, .int x1), (2, .int x2), (3, .int x3)] [1, 2, 3] rfl ?_
      exact hK116 _ _ _ h
    · have h := zifn (c := 24 ≤ x4) h c
      refine zz_iconst (v := 0) M dX8_blame_36 (by decide) ?_
      refine zz_istore M [(5, .int 0), (0, .ref (ad 0)), (1, .int x1), (2, .int x2), (3, .int x3), (4, .int x4)] dX8_blame_37 (by decide) rfl ?_
      refine zz_sub [(0, .ref (ad 0)), (1, .int x1), (2, .int x2), (3, .int x3), (4, .int x4), (5, .int 0)] [1, 2, 3, 4, 5, 0] rfl ?_
      refine sX8_blame_L39 x1 x4  M (fun v115 v116 σ117 h => ?_) 300 _ _ _ _ h
      refine zz_aload_n M 0 dX8_blame_96 rfl rfl ?_
      refine zz_getR M f_X8_47 tM_0 rfl dX8_blame_97 ?_
      refine zz_iload M 4 dX8_blame_100 rfl ?_
      refine zz_aload_n M 0 dX8_blame_102 rfl rfl ?_
      refine zz_getR M f_X8_44 tM_0 rfl dX8_blame_103 ?_
      refine zz_iload M 4 dX8_blame_106 rfl ?_
      refine zz_iald M tM_9 h.1 dX8_blame_108 ?_
      have h := h.2
      refine zz_iast M tM_10 h.1 dX8_blame_109 ?_
      have h := h.2
      refine zz_sg (fun σ118 eσ118 => ?_)
      have h := h σ118 eσ118
      obtain ⟨x119, ex119⟩ : ∃ z : Int32, z = x4 + 1 := ⟨_, rfl⟩
      have h := h x119 ex119
      refine zz_iinc M [(4, .int x119), (0, .ref (ad 0)), (1, .int x1), (2, .int v115), (3, .int v116)] 4 dX8_blame_110 rfl (n32 := 1) (by decide) ex119 (by decide) rfl ?_
      refine zz_goto M 29 dX8_blame_113 (by decide) ?_
      refine zz_sub [(0, .ref (ad 0)), (1, .int x1), (2, .int v115), (3, .int v116), (4, .int x119)] [1, 2, 3, 4, 0] rfl ?_
      exact ih _ _ _ _ h
def wX8_blame (x1 : Int32) (σ : zSt) (Q : Int32 → zSt → Prop) : Prop := ∀ a101 : Int64, a101 = ((x1 : Int32).toInt64) → (wX8_in a101 0 2 σ (fun r102 σ103 => if r102 = 0 then (Q (-2) σ103) else (wX8_takesPlan  σ103 (fun σ105 => wX8_rowCost  σ105 (fun r106 σ107 => wX8_blame_L29 Q (fun v120 v121 σ122 => if v121 = (-1) then (Q (-1) σ122) else (if x1 = 0 then (Q (v121 / 10) σ122) else (if x1 = 1 then (Q (v121 - v121 / 10 * 10) σ122) else (Q v120 σ122)))) x1 300 r106 (-1) 0 σ107)))))
set_option maxRecDepth 20000 in
set_option maxHeartbeats 4000000 in
theorem kX8_blame (hI : zInj tabM ad) (x1 : Int32)  (σ : zSt) (Q : Int32 → zSt → Prop) (h : wX8_blame x1 σ Q) : zOkI l tabM D cA ad y 45 yX8_blame cX8_blame 7 (some .int) [.ref (ad 0), .int x1] σ Q := by
  refine zz_enter hI (by decide) (Nat.le_of_ble_eq_true rfl) (fun p e s m below meth c M => ?_)
  have M : zM p s m _ meth c cX8_blame 7 RX8 (some .int) tabM D cA ad y := M
  refine zz_ls [(0, .ref (ad 0)), (1, .int x1)] rfl ?_
  unfold wX8_blame at h
  refine zz_iload_n M 1 dX8_blame_0 rfl rfl ?_
  refine zz_i2l M dX8_blame_1 ?_
  refine zz_lconst (v := 0) M dX8_blame_2 (by decide) ?_
  refine zz_ldc2 (v := 2) M k_X8_104 dX8_blame_3 ?_
  obtain ⟨a101, ea101⟩ : ∃ z : Int64, z = ((x1 : Int32).toInt64) := ⟨_, rfl⟩
  have h := h a101 ea101
  refine zz_st [.long 2, .long 0, .long a101] (by rw [ea101]) ?_
  refine zz_callSI (d' := 1) (As := [.long a101, .long 0, .long 2]) (rest := []) M l_X8_92 dX8_blame_6 rfl rfl (by decide) (Nat.le_of_ble_eq_true rfl) (by have hI := M.2.2.2.2.2.2.2.2; exact kX8_in hI _ _ _  _ _ h) (fun r102 σ103 h => ?_)
  refine zz_if_ne (y0 := 0) M 15 dX8_blame_9 (by decide) (fun c => ?_) (fun c => ?_)
  · have h := zifn (c := r102 = 0) h c
    refine zz_aload_n M 0 dX8_blame_15 rfl rfl ?_
    refine zz_callVV (d' := 1) (As := []) (rest := []) M l_X8_354 tM_0 rfl rfl dX8_blame_16 rfl rfl (by decide) (Nat.le_of_ble_eq_true rfl) (by have hI := M.2.2.2.2.2.2.2.2; exact kX8_takesPlan hI   _ _ h) (fun σ105 h => ?_)
    refine zz_aload_n M 0 dX8_blame_19 rfl rfl ?_
    refine zz_callVI (d' := 44) (As := []) (rest := []) M l_X8_359 tM_0 rfl rfl dX8_blame_20 rfl rfl (by decide) (Nat.le_of_ble_eq_true rfl) (by have hI := M.2.2.2.2.2.2.2.2; exact kX8_rowCost hI   _ _ h) (fun r106 σ107 h => ?_)
    refine zz_istore_n M [(2, .int r106), (0, .ref (ad 0)), (1, .int x1)] dX8_blame_23 rfl (by decide) rfl ?_
    refine zz_iconst (v := (-1)) M dX8_blame_24 (by decide) ?_
    refine zz_istore_n M [(3, .int (-1)), (2, .int r106), (0, .ref (ad 0)), (1, .int x1)] dX8_blame_25 rfl (by decide) rfl ?_
    refine zz_iconst (v := 0) M dX8_blame_26 (by decide) ?_
    refine zz_istore M [(4, .int 0), (3, .int (-1)), (2, .int r106), (0, .ref (ad 0)), (1, .int x1)] dX8_blame_27 (by decide) rfl ?_
    refine zz_sub [(0, .ref (ad 0)), (1, .int x1), (2, .int r106), (3, .int (-1)), (4, .int 0)] [3, 4, 2, 1, 0] rfl ?_
    refine sX8_blame_L29 x1  M (fun v120 v121 σ122 h => ?_) 300 _ _ _ _ h
    refine zz_iload_n M 2 dX8_blame_116 rfl rfl ?_
    refine zz_iconst (v := (-1)) M dX8_blame_117 (by decide) ?_
    refine zz_icmp_ne M 125 dX8_blame_118 (by decide) (fun c => ?_) (fun c => ?_)
    · have h := zifn (c := v121 = (-1)) h c
      refine zz_iload_n M 0 dX8_blame_125 rfl rfl ?_
      refine zz_if_ne (y0 := 0) M 136 dX8_blame_126 (by decide) (fun c => ?_) (fun c => ?_)
      · have h := zifn (c := x1 = 0) h c
        refine zz_iload_n M 0 dX8_blame_136 rfl rfl ?_
        refine zz_iconst (v := 1) M dX8_blame_137 (by decide) ?_
        refine zz_icmp_ne M 148 dX8_blame_138 (by decide) (fun c => ?_) (fun c => ?_)
        · have h := zifn (c := x1 = 1) h c
          refine zz_iload_n M 1 dX8_blame_148 rfl rfl ?_
          exact zz_iret M dX8_blame_149 h
        · have h := zif (c := x1 = 1) h c
          refine zz_iload_n M 2 dX8_blame_141 rfl rfl ?_
          refine zz_bipush (v := 10) M dX8_blame_142 (by decide) ?_
          refine zz_irem M dX8_blame_144 (by decide) ?_
          refine zz_goto M 149 dX8_blame_145 (by decide) ?_
          exact zz_iret M dX8_blame_149 h
      · have h := zif (c := x1 = 0) h c
        refine zz_iload_n M 2 dX8_blame_129 rfl rfl ?_
        refine zz_bipush (v := 10) M dX8_blame_130 (by decide) ?_
        refine zz_idiv M dX8_blame_132 (by decide) ?_
        refine zz_goto M 149 dX8_blame_133 (by decide) ?_
        exact zz_iret M dX8_blame_149 h
    · have h := zif (c := v121 = (-1)) h c
      refine zz_iconst (v := (-1)) M dX8_blame_121 (by decide) ?_
      refine zz_goto M 149 dX8_blame_122 (by decide) ?_
      exact zz_iret M dX8_blame_149 h
  · have h := zif (c := r102 = 0) h c
    refine zz_bipush (v := (-2)) M dX8_blame_12 (by decide) ?_
    exact zz_iret M dX8_blame_14 h
def wX8_isSheet (x0 : Int32) (σ : zSt) (Q : Int32 → zSt → Prop) : Prop := ∀ a101 : Int64, a101 = ((x0 : Int32).toInt64) → (wX8_in a101 0 3 σ (fun r102 σ103 => (r102 = 0 ∨ r102 = 1) ∧ Q r102 σ103))
set_option maxRecDepth 20000 in
set_option maxHeartbeats 4000000 in
theorem kX8_isSheet (hI : zInj tabM ad) (x0 : Int32)  (σ : zSt) (Q : Int32 → zSt → Prop) (h : wX8_isSheet x0 σ Q) : zOkI l tabM D cA ad y 2 yX8_isSheet cX8_isSheet 1 (some .boolean) [.int x0] σ Q := by
  refine zz_enter hI (by decide) (Nat.le_of_ble_eq_true rfl) (fun p e s m below meth c M => ?_)
  have M : zM p s m _ meth c cX8_isSheet 1 RX8 (some .boolean) tabM D cA ad y := M
  refine zz_ls [(0, .int x0)] rfl ?_
  unfold wX8_isSheet at h
  refine zz_iload_n M 0 dX8_isSheet_0 rfl rfl ?_
  refine zz_i2l M dX8_isSheet_1 ?_
  refine zz_lconst (v := 0) M dX8_isSheet_2 (by decide) ?_
  refine zz_ldc2 (v := 3) M k_X8_357 dX8_isSheet_3 ?_
  obtain ⟨a101, ea101⟩ : ∃ z : Int64, z = ((x0 : Int32).toInt64) := ⟨_, rfl⟩
  have h := h a101 ea101
  refine zz_st [.long 3, .long 0, .long a101] (by rw [ea101]) ?_
  refine zz_callSI (d' := 1) (As := [.long a101, .long 0, .long 3]) (rest := []) M l_X8_92 dX8_isSheet_6 rfl rfl (by decide) (Nat.le_of_ble_eq_true rfl) (by have hI := M.2.2.2.2.2.2.2.2; exact kX8_in hI _ _ _  _ _ h) (fun r102 σ103 h => ?_)
  exact zz_zret M dX8_isSheet_9 h.1 h.2
def wX8_judge_L40 (Q : Int32 → zSt → Prop) (K76 : Int32 → zSt → Prop) (K124 : Int32 → zSt → Prop) (K145 : zSt → Prop) (x1 : Int32) : Nat → Int32 → Int32 → zSt → Prop
  | 0, _, _, _ => False
  | n + 1, x2, x3, σ => vp_in x1 4 ∧ (if (σ.1 19 x1.toNatClampNeg) ≤ x3 then (K145  σ) else (vp_in ((40 * x1) + x3) 160 ∧ (∀ x103 : Int32, x103 = (σ.1 20 ((40 * x1) + x3 : Int32).toNatClampNeg) → (∀ a104 : Int64, a104 = ((x103 : Int32).toInt64) → (wX8_in a104 0 2 σ (fun r105 σ106 => if r105 = 0 then (K76 x3 σ106) else (if x3 ≤ 0 then (if x3 ≤ 0 then (∀ x107 : Int32, x107 = x3 + 1 → (wX8_judge_L40 Q K76 K124 K145 x1 n 1 x107 σ106)) else (if (σ106.1 0 12) ≤ x2 then (∀ x108 : Int32, x108 = x3 + 1 → (wX8_judge_L40 Q K76 K124 K145 x1 n 1 x108 σ106)) else (K124 x3 σ106))) else (vp_in (((40 * x1) + x3) - 1) 160 ∧ (if x103 = (σ106.1 20 (((40 * x1) + x3) - 1 : Int32).toNatClampNeg) then (if x3 ≤ 0 then (∀ x111 : Int32, x111 = (x2 + 1) → (∀ x112 : Int32, x112 = x3 + 1 → (wX8_judge_L40 Q K76 K124 K145 x1 n x111 x112 σ106))) else (∀ x113 : Int32, x113 = (x2 + 1) → (∀ x114 : Int32, x114 = x3 + 1 → (wX8_judge_L40 Q K76 K124 K145 x1 n x113 x114 σ106)))) else (if x3 ≤ 0 then (∀ x109 : Int32, x109 = x3 + 1 → (wX8_judge_L40 Q K76 K124 K145 x1 n 1 x109 σ106)) else (if (σ106.1 0 12) ≤ x2 then (∀ x110 : Int32, x110 = x3 + 1 → (wX8_judge_L40 Q K76 K124 K145 x1 n 1 x110 σ106)) else (K124 x3 σ106))))))))))))
set_option maxRecDepth 20000 in
set_option maxHeartbeats 4000000 in
theorem sX8_judge_L40 {Q : Int32 → zSt → Prop} {K76 : Int32 → zSt → Prop} {K124 : Int32 → zSt → Prop} {K145 : zSt → Prop} (x1 : Int32)  (M : zM p s m args meth c cX8_judge 6 RX8 (some .int) tabM D cA ad y) (hK76 : ∀ (v3 : Int32) (σ : zSt), K76 v3 σ → zG p l e (zrm 3) s m args below meth c 6 tabM D cA ad (MQ below (va_Qi Q (fun σ' t => va_P D vwCl (zws tabM cA ad σ') t.heap) (zIn tabM ad)) args s 0 0 (zIn tabM ad)) 76 [(3, .int v3)] [] σ) (hK124 : ∀ (v3 : Int32) (σ : zSt), K124 v3 σ → zG p l e (zrm 3) s m args below meth c 6 tabM D cA ad (MQ below (va_Qi Q (fun σ' t => va_P D vwCl (zws tabM cA ad σ') t.heap) (zIn tabM ad)) args s 0 0 (zIn tabM ad)) 124 [(3, .int v3)] [] σ) (hK145 : ∀ (σ : zSt), K145  σ → zG p l e (zrm 3) s m args below meth c 6 tabM D cA ad (MQ below (va_Qi Q (fun σ' t => va_P D vwCl (zws tabM cA ad σ') t.heap) (zIn tabM ad)) args s 0 0 (zIn tabM ad)) 145 [] [] σ) : ∀ (n : Nat) (x2 : Int32) (x3 : Int32) (σ : zSt), wX8_judge_L40 Q K76 K124 K145 x1 n x2 x3 σ → zG p l e (zrm 3) s m args below meth c 6 tabM D cA ad (MQ below (va_Qi Q (fun σ' t => va_P D vwCl (zws tabM cA ad σ') t.heap) (zIn tabM ad)) args s 0 0 (zIn tabM ad)) 40 [(0, .ref (ad 0)), (1, .int x1), (2, .int x2), (3, .int x3)] [] σ := by
  intro n
  induction n with
  | zero => intro x2 x3 σ h; exact absurd h (by simp [wX8_judge_L40])
  | succ n ih =>
    intro x2 x3 σ h
    unfold wX8_judge_L40 at h
    refine zz_iload_n M 3 dX8_judge_40 rfl rfl ?_
    refine zz_aload_n M 0 dX8_judge_41 rfl rfl ?_
    refine zz_getR M f_X8_79 tM_0 rfl dX8_judge_42 ?_
    refine zz_iload_n M 1 dX8_judge_45 rfl rfl ?_
    refine zz_iald M tM_19 h.1 dX8_judge_46 ?_
    have h := h.2
    refine zz_icmp_ge M 145 dX8_judge_47 (by decide) (fun c => ?_) (fun c => ?_)
    · have h := zif (c := (σ.1 19 x1.toNatClampNeg) ≤ x3) h c
      refine zz_sub [] [] rfl ?_
      exact hK145  _ h
    · have h := zifn (c := (σ.1 19 x1.toNatClampNeg) ≤ x3) h c
      refine zz_aload_n M 0 dX8_judge_50 rfl rfl ?_
      refine zz_getR M f_X8_82 tM_0 rfl dX8_judge_51 ?_
      refine zz_bipush (v := 40) M dX8_judge_54 (by decide) ?_
      refine zz_iload_n M 1 dX8_judge_56 rfl rfl ?_
      refine zz_imul M dX8_judge_57 ?_
      refine zz_iload_n M 3 dX8_judge_58 rfl rfl ?_
      refine zz_iadd M dX8_judge_59 ?_
      refine zz_iald M tM_20 h.1 dX8_judge_60 ?_
      have h := h.2
      refine zz_topi (fun x103 ex103 => ?_)
      have h := h x103 ex103
      refine zz_istore M [(4, .int x103), (0, .ref (ad 0)), (1, .int x1), (2, .int x2), (3, .int x3)] dX8_judge_61 (by decide) rfl ?_
      refine zz_iload M 0 dX8_judge_63 rfl ?_
      refine zz_i2l M dX8_judge_65 ?_
      refine zz_lconst (v := 0) M dX8_judge_66 (by decide) ?_
      refine zz_ldc2 (v := 2) M k_X8_104 dX8_judge_67 ?_
      obtain ⟨a104, ea104⟩ : ∃ z : Int64, z = ((x103 : Int32).toInt64) := ⟨_, rfl⟩
      have h := h a104 ea104
      refine zz_st [.long 2, .long 0, .long a104] (by rw [ea104]) ?_
      refine zz_callSI (d' := 1) (As := [.long a104, .long 0, .long 2]) (rest := []) M l_X8_92 dX8_judge_70 rfl rfl (by decide) (Nat.le_of_ble_eq_true rfl) (by have hI := M.2.2.2.2.2.2.2.2; exact kX8_in hI _ _ _  _ _ h) (fun r105 σ106 h => ?_)
      refine zz_if_ne (y0 := 0) M 78 dX8_judge_73 (by decide) (fun c => ?_) (fun c => ?_)
      · have h := zifn (c := r105 = 0) h c
        refine zz_iload_n M 4 dX8_judge_78 rfl rfl ?_
        refine zz_if_le (y0 := 0) M 104 dX8_judge_79 (by decide) (fun c => ?_) (fun c => ?_)
        · have h := zif (c := x3 ≤ 0) h c
          refine zz_iconst (v := 0) M dX8_judge_104 (by decide) ?_
          refine zz_istore M [(5, .int 0), (4, .int x103), (0, .ref (ad 0)), (1, .int x1), (2, .int x2), (3, .int x3)] dX8_judge_105 (by decide) rfl ?_
          refine zz_iload_n M 5 dX8_judge_107 rfl rfl ?_
          refine zz_if_le (y0 := 0) M 126 dX8_judge_108 (by decide) (fun c => ?_) (fun c => ?_)
          · have h := zif (c := x3 ≤ 0) h c
            refine zz_iload M 0 dX8_judge_126 rfl ?_
            refine zz_if_eq (y0 := 0) M 137 dX8_judge_128 (by decide) (fun c => ?_) (fun c => absurd c (by decide))
            refine zz_iconst (v := 1) M dX8_judge_137 (by decide) ?_
            refine zz_istore_n M [(2, .int 1), (5, .int 0), (4, .int x103), (0, .ref (ad 0)), (1, .int x1), (3, .int x3)] dX8_judge_138 rfl (by decide) rfl ?_
            obtain ⟨x107, ex107⟩ : ∃ z : Int32, z = x3 + 1 := ⟨_, rfl⟩
            have h := h x107 ex107
            refine zz_iinc M [(3, .int x107), (2, .int 1), (5, .int 0), (4, .int x103), (0, .ref (ad 0)), (1, .int x1)] 5 dX8_judge_139 rfl (n32 := 1) (by decide) ex107 (by decide) rfl ?_
            refine zz_goto M 40 dX8_judge_142 (by decide) ?_
            refine zz_sub [(0, .ref (ad 0)), (1, .int x1), (2, .int 1), (3, .int x107)] [4, 5, 1, 0] rfl ?_
            exact ih _ _ _ h
          · have h := zifn (c := x3 ≤ 0) h c
            refine zz_iload M 0 dX8_judge_111 rfl ?_
            refine zz_if_ne (y0 := 0) M 126 dX8_judge_113 (by decide) (fun c => absurd c (by decide)) (fun c => ?_)
            refine zz_iload_n M 4 dX8_judge_116 rfl rfl ?_
            refine zz_aload_n M 2 dX8_judge_117 rfl rfl ?_
            refine zz_getI M f_X8_32 tM_0 rfl dX8_judge_118 ?_
            refine zz_icmp_ge M 126 dX8_judge_121 (by decide) (fun c => ?_) (fun c => ?_)
            · have h := zif (c := (σ106.1 0 12) ≤ x2) h c
              refine zz_iload M 0 dX8_judge_126 rfl ?_
              refine zz_if_eq (y0 := 0) M 137 dX8_judge_128 (by decide) (fun c => ?_) (fun c => absurd c (by decide))
              refine zz_iconst (v := 1) M dX8_judge_137 (by decide) ?_
              refine zz_istore_n M [(2, .int 1), (5, .int 0), (4, .int x103), (0, .ref (ad 0)), (1, .int x1), (3, .int x3)] dX8_judge_138 rfl (by decide) rfl ?_
              obtain ⟨x108, ex108⟩ : ∃ z : Int32, z = x3 + 1 := ⟨_, rfl⟩
              have h := h x108 ex108
              refine zz_iinc M [(3, .int x108), (2, .int 1), (5, .int 0), (4, .int x103), (0, .ref (ad 0)), (1, .int x1)] 5 dX8_judge_139 rfl (n32 := 1) (by decide) ex108 (by decide) rfl ?_
              refine zz_goto M 40 dX8_judge_142 (by decide) ?_
              refine zz_sub [(0, .ref (ad 0)), (1, .int x1), (2, .int 1), (3, .int x108)] [4, 5, 1, 0] rfl ?_
              exact ih _ _ _ h
            · have h := zifn (c := (σ106.1 0 12) ≤ x2) h c
              refine zz_sub [(3, .int x3)] [5] rfl ?_
              exact hK124 _ _ h
        · have h := zifn (c := x3 ≤ 0) h c
          refine zz_iload M 0 dX8_judge_82 rfl ?_
          refine zz_aload_n M 1 dX8_judge_84 rfl rfl ?_
          refine zz_getR M f_X8_82 tM_0 rfl dX8_judge_85 ?_
          refine zz_bipush (v := 40) M dX8_judge_88 (by decide) ?_
          refine zz_iload_n M 2 dX8_judge_90 rfl rfl ?_
          refine zz_imul M dX8_judge_91 ?_
          refine zz_iload_n M 4 dX8_judge_92 rfl rfl ?_
          refine zz_iadd M dX8_judge_93 ?_
          refine zz_iconst (v := 1) M dX8_judge_94 (by decide) ?_
          refine zz_isub M dX8_judge_95 ?_
          refine zz_iald M tM_20 h.1 dX8_judge_96 ?_
          have h := h.2
          refine zz_icmp_ne M 104 dX8_judge_97 (by decide) (fun c => ?_) (fun c => ?_)
          · have h := zifn (c := x103 = (σ106.1 20 (((40 * x1) + x3) - 1 : Int32).toNatClampNeg)) h c
            refine zz_iconst (v := 0) M dX8_judge_104 (by decide) ?_
            refine zz_istore M [(5, .int 0), (4, .int x103), (0, .ref (ad 0)), (1, .int x1), (2, .int x2), (3, .int x3)] dX8_judge_105 (by decide) rfl ?_
            refine zz_iload_n M 5 dX8_judge_107 rfl rfl ?_
            refine zz_if_le (y0 := 0) M 126 dX8_judge_108 (by decide) (fun c => ?_) (fun c => ?_)
            · have h := zif (c := x3 ≤ 0) h c
              refine zz_iload M 0 dX8_judge_126 rfl ?_
              refine zz_if_eq (y0 := 0) M 137 dX8_judge_128 (by decide) (fun c => ?_) (fun c => absurd c (by decide))
              refine zz_iconst (v := 1) M dX8_judge_137 (by decide) ?_
              refine zz_istore_n M [(2, .int 1), (5, .int 0), (4, .int x103), (0, .ref (ad 0)), (1, .int x1), (3, .int x3)] dX8_judge_138 rfl (by decide) rfl ?_
              obtain ⟨x109, ex109⟩ : ∃ z : Int32, z = x3 + 1 := ⟨_, rfl⟩
              have h := h x109 ex109
              refine zz_iinc M [(3, .int x109), (2, .int 1), (5, .int 0), (4, .int x103), (0, .ref (ad 0)), (1, .int x1)] 5 dX8_judge_139 rfl (n32 := 1) (by decide) ex109 (by decide) rfl ?_
              refine zz_goto M 40 dX8_judge_142 (by decide) ?_
              refine zz_sub [(0, .ref (ad 0)), (1, .int x1), (2, .int 1), (3, .int x109)] [4, 5, 1, 0] rfl ?_
              exact ih _ _ _ h
            · have h := zifn (c := x3 ≤ 0) h c
              refine zz_iload M 0 dX8_judge_111 rfl ?_
              refine zz_if_ne (y0 := 0) M 126 dX8_judge_113 (by decide) (fun c => absurd c (by decide)) (fun c => ?_)
              refine zz_iload_n M 4 dX8_judge_116 rfl rfl ?_
              refine zz_aload_n M 2 dX8_judge_117 rfl rfl ?_
              refine zz_getI M f_X8_32 tM_0 rfl dX8_judge_118 ?_
              refine zz_icmp_ge M 126 dX8_judge_121 (by decide) (fun c => ?_) (fun c => ?_)
              · have h := zif (c := (σ106.1 0 12) ≤ x2) h c
                refine zz_iload M 0 dX8_judge_126 rfl ?_
                refine zz_if_eq (y0 := 0) M 137 dX8_judge_128 (by decide) (fun c => ?_) (fun c => absurd c (by decide))
                refine zz_iconst (v := 1) M dX8_judge_137 (by decide) ?_
                refine zz_istore_n M [(2, .int 1), (5, .int 0), (4, .int x103), (0, .ref (ad 0)), (1, .int x1), (3, .int x3)] dX8_judge_138 rfl (by decide) rfl ?_
                obtain ⟨x110, ex110⟩ : ∃ z : Int32, z = x3 + 1 := ⟨_, rfl⟩
                have h := h x110 ex110
                refine zz_iinc M [(3, .int x110), (2, .int 1), (5, .int 0), (4, .int x103), (0, .ref (ad 0)), (1, .int x1)] 5 dX8_judge_139 rfl (n32 := 1) (by decide) ex110 (by decide) rfl ?_
                refine zz_goto M 40 dX8_judge_142 (by decide) ?_
                refine zz_sub [(0, .ref (ad 0)), (1, .int x1), (2, .int 1), (3, .int x110)] [4, 5, 1, 0] rfl ?_
                exact ih _ _ _ h
              · have h := zifn (c := (σ106.1 0 12) ≤ x2) h c
                refine zz_sub [(3, .int x3)] [5] rfl ?_
                exact hK124 _ _ h
          · have h := zif (c := x103 = (σ106.1 20 (((40 * x1) + x3) - 1 : Int32).toNatClampNeg)) h c
            refine zz_iconst (v := 1) M dX8_judge_100 (by decide) ?_
            refine zz_goto M 105 dX8_judge_101 (by decide) ?_
            refine zz_istore M [(5, .int 1), (4, .int x103), (0, .ref (ad 0)), (1, .int x1), (2, .int x2), (3, .int x3)] dX8_judge_105 (by decide) rfl ?_
            refine zz_iload_n M 5 dX8_judge_107 rfl rfl ?_
            refine zz_if_le (y0 := 0) M 126 dX8_judge_108 (by decide) (fun c => ?_) (fun c => ?_)
            · have h := zif (c := x3 ≤ 0) h c
              refine zz_iload M 0 dX8_judge_126 rfl ?_
              refine zz_if_eq (y0 := 0) M 137 dX8_judge_128 (by decide) (fun c => absurd c (by decide)) (fun c => ?_)
              refine zz_iload_n M 4 dX8_judge_131 rfl rfl ?_
              refine zz_iconst (v := 1) M dX8_judge_132 (by decide) ?_
              refine zz_iadd M dX8_judge_133 ?_
              refine zz_goto M 138 dX8_judge_134 (by decide) ?_
              refine zz_topi (fun x111 ex111 => ?_)
              have h := h x111 ex111
              refine zz_istore_n M [(2, .int x111), (5, .int 1), (4, .int x103), (0, .ref (ad 0)), (1, .int x1), (3, .int x3)] dX8_judge_138 rfl (by decide) rfl ?_
              obtain ⟨x112, ex112⟩ : ∃ z : Int32, z = x3 + 1 := ⟨_, rfl⟩
              have h := h x112 ex112
              refine zz_iinc M [(3, .int x112), (2, .int x111), (5, .int 1), (4, .int x103), (0, .ref (ad 0)), (1, .int x1)] 5 dX8_judge_139 rfl (n32 := 1) (by decide) ex112 (by decide) rfl ?_
              refine zz_goto M 40 dX8_judge_142 (by decide) ?_
              refine zz_sub [(0, .ref (ad 0)), (1, .int x1), (2, .int x111), (3, .int x112)] [4, 5, 1, 0] rfl ?_
              exact ih _ _ _ h
            · have h := zifn (c := x3 ≤ 0) h c
              refine zz_iload M 0 dX8_judge_111 rfl ?_
              refine zz_if_ne (y0 := 0) M 126 dX8_judge_113 (by decide) (fun c => ?_) (fun c => absurd c (by decide))
              refine zz_iload M 0 dX8_judge_126 rfl ?_
              refine zz_if_eq (y0 := 0) M 137 dX8_judge_128 (by decide) (fun c => absurd c (by decide)) (fun c => ?_)
              refine zz_iload_n M 4 dX8_judge_131 rfl rfl ?_
              refine zz_iconst (v := 1) M dX8_judge_132 (by decide) ?_
              refine zz_iadd M dX8_judge_133 ?_
              refine zz_goto M 138 dX8_judge_134 (by decide) ?_
              refine zz_topi (fun x113 ex113 => ?_)
              have h := h x113 ex113
              refine zz_istore_n M [(2, .int x113), (5, .int 1), (4, .int x103), (0, .ref (ad 0)), (1, .int x1), (3, .int x3)] dX8_judge_138 rfl (by decide) rfl ?_
              obtain ⟨x114, ex114⟩ : ∃ z : Int32, z = x3 + 1 := ⟨_, rfl⟩
              have h := h x114 ex114
              refine zz_iinc M [(3, .int x114), (2, .int x113), (5, .int 1), (4, .int x103), (0, .ref (ad 0)), (1, .int x1)] 5 dX8_judge_139 rfl (n32 := 1) (by decide) ex114 (by decide) rfl ?_
              refine zz_goto M 40 dX8_judge_142 (by decide) ?_
              refine zz_sub [(0, .ref (ad 0)), (1, .int x1), (2, .int x113), (3, .int x114)] [4, 5, 1, 0] rfl ?_
              exact ih _ _ _ h
      · have h := zif (c := r105 = 0) h c
        refine zz_sub [(3, .int x3)] [4] rfl ?_
        exact hK76 _ _ h
def wX8_judge (x1 : Int32) (σ : zSt) (Q : Int32 → zSt → Prop) : Prop := wX8_isSheet x1 σ (fun r101 σ102 => if r101 = 0 then (Q (-2) σ102) else (vp_in x1 4 ∧ (if (σ102.1 17 x1.toNatClampNeg) = 0 then (Q (-11) σ102) else (vp_in x1 4 ∧ (if (σ102.1 19 x1.toNatClampNeg) ≤ 24 then (wX8_judge_L40 Q (fun v115 σ116 => Q v115 σ116) (fun v117 σ118 => Q v117 σ118) (fun  σ119 => Q (-1) σ119) x1 300 0 0 σ102) else (Q (-2) σ102))))))
set_option maxRecDepth 20000 in
set_option maxHeartbeats 4000000 in
theorem kX8_judge (hI : zInj tabM ad) (x1 : Int32)  (σ : zSt) (Q : Int32 → zSt → Prop) (h : wX8_judge x1 σ Q) : zOkI l tabM D cA ad y 3 yX8_judge cX8_judge 6 (some .int) [.ref (ad 0), .int x1] σ Q := by
  refine zz_enter hI (by decide) (Nat.le_of_ble_eq_true rfl) (fun p e s m below meth c M => ?_)
  have M : zM p s m _ meth c cX8_judge 6 RX8 (some .int) tabM D cA ad y := M
  refine zz_ls [(0, .ref (ad 0)), (1, .int x1)] rfl ?_
  unfold wX8_judge at h
  refine zz_iload_n M 1 dX8_judge_0 rfl rfl ?_
  refine zz_callSI (d' := 2) (As := [.int x1]) (rest := []) M l_X8_431 dX8_judge_1 rfl rfl (by decide) (Nat.le_of_ble_eq_true rfl) (by have hI := M.2.2.2.2.2.2.2.2; exact kX8_isSheet hI _  _ _ h) (fun r101 σ102 h => ?_)
  refine zz_if_ne (y0 := 0) M 10 dX8_judge_4 (by decide) (fun c => ?_) (fun c => ?_)
  · have h := zifn (c := r101 = 0) h c
    refine zz_aload_n M 0 dX8_judge_10 rfl rfl ?_
    refine zz_getR M f_X8_72 tM_0 rfl dX8_judge_11 ?_
    refine zz_iload_n M 1 dX8_judge_14 rfl rfl ?_
    refine zz_zald M tM_17 h.1 dX8_judge_15 ?_
    have h := h.2
    refine zz_if_ne (y0 := 0) M 22 dX8_judge_16 (by decide) (fun c => ?_) (fun c => ?_)
    · have h := zifn (c := (σ102.1 17 x1.toNatClampNeg) = 0) h c
      refine zz_aload_n M 0 dX8_judge_22 rfl rfl ?_
      refine zz_getR M f_X8_79 tM_0 rfl dX8_judge_23 ?_
      refine zz_iload_n M 1 dX8_judge_26 rfl rfl ?_
      refine zz_iald M tM_19 h.1 dX8_judge_27 ?_
      have h := h.2
      refine zz_bipush (v := 24) M dX8_judge_28 (by decide) ?_
      refine zz_icmp_le M 36 dX8_judge_30 (by decide) (fun c => ?_) (fun c => ?_)
      · have h := zif (c := (σ102.1 19 x1.toNatClampNeg) ≤ 24) h c
        refine zz_iconst (v := 0) M dX8_judge_36 (by decide) ?_
        refine zz_istore_n M [(2, .int 0), (0, .ref (ad 0)), (1, .int x1)] dX8_judge_37 rfl (by decide) rfl ?_
        refine zz_iconst (v := 0) M dX8_judge_38 (by decide) ?_
        refine zz_istore_n M [(3, .int 0), (2, .int 0), (0, .ref (ad 0)), (1, .int x1)] dX8_judge_39 rfl (by decide) rfl ?_
        refine zz_sub [(0, .ref (ad 0)), (1, .int x1), (2, .int 0), (3, .int 0)] [2, 3, 1, 0] rfl ?_
        refine sX8_judge_L40 x1  M (fun v115 σ116 h => ?_) (fun v117 σ118 h => ?_) (fun  σ119 h => ?_) 300 _ _ _ h
        · refine zz_iload_n M 0 dX8_judge_76 rfl rfl ?_
          exact zz_iret M dX8_judge_77 h
        · refine zz_iload_n M 0 dX8_judge_124 rfl rfl ?_
          exact zz_iret M dX8_judge_125 h
        · refine zz_iconst (v := (-1)) M dX8_judge_145 (by decide) ?_
          exact zz_iret M dX8_judge_146 h
      · have h := zifn (c := (σ102.1 19 x1.toNatClampNeg) ≤ 24) h c
        refine zz_bipush (v := (-2)) M dX8_judge_33 (by decide) ?_
        exact zz_iret M dX8_judge_35 h
    · have h := zif (c := (σ102.1 17 x1.toNatClampNeg) = 0) h c
      refine zz_bipush (v := (-11)) M dX8_judge_19 (by decide) ?_
      exact zz_iret M dX8_judge_21 h
  · have h := zif (c := r101 = 0) h c
    refine zz_bipush (v := (-2)) M dX8_judge_7 (by decide) ?_
    exact zz_iret M dX8_judge_9 h
end
