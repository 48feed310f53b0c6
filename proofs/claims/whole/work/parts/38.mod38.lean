section
variable {p : Program} {l : Launch} {e : Env} {s : State} {m : MethodId} {args : Array Value} {below : List Frame} {meth : Method} {c : Code} {D : va_G} {cA : Nat → ClassId} {ad : Nat → Nat} {y : zX}
def wX8_who_L59 (Q : Int32 → zSt → Prop) (K110 : Int32 → zSt → Prop) (x1 : Int32) (x2 : Int32) (x3 : Int32) : Nat → Int32 → Int32 → zSt → Prop
  | 0, _, _, _ => False
  | n + 1, x4, x5, σ => vp_in x1 4 ∧ (if (σ.1 19 x1.toNatClampNeg) ≤ x5 then (K110 x4 σ) else (if x4 = 0 then (∀ x5 : Int32, x5 = x5 + 1 → (wX8_who_L59 Q K110 x1 x2 x3 n 0 x5 σ)) else (vp_in x5 24 ∧ (vp_in ((40 * x1) + x5) 160 ∧ (if (σ.1 10 x5.toNatClampNeg) = (σ.1 20 ((40 * x1) + x5 : Int32).toNatClampNeg) then (∀ x7 : Int32, x7 = x5 + 1 → (wX8_who_L59 Q K110 x1 x2 x3 n 1 x7 σ)) else (∀ x6 : Int32, x6 = x5 + 1 → (wX8_who_L59 Q K110 x1 x2 x3 n 0 x6 σ)))))))
set_option maxRecDepth 20000 in
set_option maxHeartbeats 4000000 in
theorem sX8_who_L59 {Q : Int32 → zSt → Prop} {K110 : Int32 → zSt → Prop} (x1 : Int32) (x2 : Int32) (x3 : Int32)  (M : zM p s m args meth c cX8_who 6 RX8 (some .int) tabM D cA ad y) (hK110 : ∀ (v4 : Int32) (σ : zSt), K110 v4 σ → zG p l e (zrm 6) s m args below meth c 6 tabM D cA ad (MQ below (va_Qi Q (fun σ' t => va_P D vwCl (zws tabM cA ad σ') t.heap) (zIn tabM ad)) args s 0 0 (zIn tabM ad)) 110 [(0, .ref (ad 0)), (1, .int x1), (2, .int x2), (3, .int x3), (4, .int v4)] [] σ) : ∀ (n : Nat) (x4 : Int32) (x5 : Int32) (σ : zSt), wX8_who_L59 Q K110 x1 x2 x3 n x4 x5 σ → zG p l e (zrm 6) s m args below meth c 6 tabM D cA ad (MQ below (va_Qi Q (fun σ' t => va_P D vwCl (zws tabM cA ad σ') t.heap) (zIn tabM ad)) args s 0 0 (zIn tabM ad)) 59 [(0, .ref (ad 0)), (1, .int x1), (2, .int x2), (3, .int x3), (4, .int x4), (5, .int x5)] [] σ := by
  intro n
  induction n with
  | zero => intro x4 x5 σ h; exact absurd h (by simp [wX8_who_L59])
  | succ n ih =>
    intro x4 x5 σ h
    unfold wX8_who_L59 at h
    refine zz_iload M 5 dX8_who_59 rfl ?_
    refine zz_aload_n M 0 dX8_who_61 rfl rfl ?_
    refine zz_getR M f_X8_79 tM_0 rfl dX8_who_62 ?_
    refine zz_iload_n M 1 dX8_who_65 rfl rfl ?_
    refine zz_iald M tM_19 h.1 dX8_who_66 ?_
    have h := h.2
    refine zz_icmp_ge M 110 dX8_who_67 (by decide) (fun c => ?_) (fun c => ?_)
    · have h := zif h c
      refine zz_sub [(0, .ref (ad 0)), (1, .int x1), (2, .int x2), (3, .int x3), (4, .int x4)] [0, 1, 2, 3, 4] rfl ?_
      exact hK110 _ _ h
    · have h := zifn h c
      refine zz_iload M 4 dX8_who_70 rfl ?_
      refine zz_if_eq (y0 := 0) M 101 dX8_who_72 (by decide) (fun c => ?_) (fun c => ?_)
      · have h := zif h c
        refine zz_iconst (v := 0) M dX8_who_101 (by decide) ?_
        refine zz_istore M [(4, .int 0), (0, .ref (ad 0)), (1, .int x1), (2, .int x2), (3, .int x3), (5, .int x5)] dX8_who_102 (by decide) rfl ?_
        obtain ⟨x5, ex5⟩ : ∃ z : Int32, z = x5 + 1 := ⟨_, rfl⟩
        have h := h x5 ex5
        refine zz_iinc M [(5, .int x5), (4, .int 0), (0, .ref (ad 0)), (1, .int x1), (2, .int x2), (3, .int x3)] 5 dX8_who_104 rfl (n32 := 1) (by decide) ex5 (by decide) rfl ?_
        refine zz_goto M 59 dX8_who_107 (by decide) ?_
        refine zz_sub [(0, .ref (ad 0)), (1, .int x1), (2, .int x2), (3, .int x3), (4, .int 0), (5, .int x5)] [2, 3, 4, 5, 1, 0] rfl ?_
        exact ih _ _ _ h
      · have h := zifn h c
        refine zz_aload_n M 0 dX8_who_75 rfl rfl ?_
        refine zz_getR M f_X8_47 tM_0 rfl dX8_who_76 ?_
        refine zz_iload M 5 dX8_who_79 rfl ?_
        refine zz_iald M tM_10 h.1 dX8_who_81 ?_
        have h := h.2
        refine zz_aload_n M 0 dX8_who_82 rfl rfl ?_
        refine zz_getR M f_X8_82 tM_0 rfl dX8_who_83 ?_
        refine zz_bipush (v := 40) M dX8_who_86 (by decide) ?_
        refine zz_iload_n M 1 dX8_who_88 rfl rfl ?_
        refine zz_imul M dX8_who_89 ?_
        refine zz_iload M 5 dX8_who_90 rfl ?_
        refine zz_iadd M dX8_who_92 ?_
        refine zz_iald M tM_20 h.1 dX8_who_93 ?_
        have h := h.2
        refine zz_icmp_ne M 101 dX8_who_94 (by decide) (fun c => ?_) (fun c => ?_)
        · have h := zifn h c
          refine zz_iconst (v := 0) M dX8_who_101 (by decide) ?_
          refine zz_istore M [(4, .int 0), (0, .ref (ad 0)), (1, .int x1), (2, .int x2), (3, .int x3), (5, .int x5)] dX8_who_102 (by decide) rfl ?_
          obtain ⟨x6, ex6⟩ : ∃ z : Int32, z = x5 + 1 := ⟨_, rfl⟩
          have h := h x6 ex6
          refine zz_iinc M [(5, .int x6), (4, .int 0), (0, .ref (ad 0)), (1, .int x1), (2, .int x2), (3, .int x3)] 5 dX8_who_104 rfl (n32 := 1) (by decide) ex6 (by decide) rfl ?_
          refine zz_goto M 59 dX8_who_107 (by decide) ?_
          refine zz_sub [(0, .ref (ad 0)), (1, .int x1), (2, .int x2), (3, .int x3), (4, .int 0), (5, .int x6)] [2, 3, 4, 5, 1, 0] rfl ?_
          exact ih _ _ _ h
        · have h := zif h c
          refine zz_iconst (v := 1) M dX8_who_97 (by decide) ?_
          refine zz_goto M 102 dX8_who_98 (by decide) ?_
          refine zz_istore M [(4, .int 1), (0, .ref (ad 0)), (1, .int x1), (2, .int x2), (3, .int x3), (5, .int x5)] dX8_who_102 (by decide) rfl ?_
          obtain ⟨x7, ex7⟩ : ∃ z : Int32, z = x5 + 1 := ⟨_, rfl⟩
          have h := h x7 ex7
          refine zz_iinc M [(5, .int x7), (4, .int 1), (0, .ref (ad 0)), (1, .int x1), (2, .int x2), (3, .int x3)] 5 dX8_who_104 rfl (n32 := 1) (by decide) ex7 (by decide) rfl ?_
          refine zz_goto M 59 dX8_who_107 (by decide) ?_
          refine zz_sub [(0, .ref (ad 0)), (1, .int x1), (2, .int x2), (3, .int x3), (4, .int 1), (5, .int x7)] [2, 3, 4, 5, 1, 0] rfl ?_
          exact ih _ _ _ h
def wX8_who_L40 (Q : Int32 → zSt → Prop) (K131 : Int32 → zSt → Prop) (x1 : Int32) : Nat → Int32 → Int32 → zSt → Prop
  | 0, _, _, _ => False
  | n + 1, x2, x3, σ => if (σ.1 0 16) ≤ x3 then (K131 x2 σ) else (wX8_runs x3 σ (fun σ4 => wX8_who_L59 Q (fun v8 σ9 => if v8 = 0 then (∀ x10 : Int32, x10 = x2 ||| (0 <<< (x3 &&& 31)) → (∀ x11 : Int32, x11 = x3 + 1 → (wX8_who_L40 Q K131 x1 n x10 x11 σ9))) else (∀ x12 : Int32, x12 = x2 ||| (1 <<< (x3 &&& 31)) → (∀ x13 : Int32, x13 = x3 + 1 → (wX8_who_L40 Q K131 x1 n x12 x13 σ9)))) x1 x2 x3 300 1 0 σ4))
set_option maxRecDepth 20000 in
set_option maxHeartbeats 4000000 in
theorem sX8_who_L40 {Q : Int32 → zSt → Prop} {K131 : Int32 → zSt → Prop} (x1 : Int32)  (M : zM p s m args meth c cX8_who 6 RX8 (some .int) tabM D cA ad y) (hK131 : ∀ (v2 : Int32) (σ : zSt), K131 v2 σ → zG p l e (zrm 6) s m args below meth c 6 tabM D cA ad (MQ below (va_Qi Q (fun σ' t => va_P D vwCl (zws tabM cA ad σ') t.heap) (zIn tabM ad)) args s 0 0 (zIn tabM ad)) 131 [(2, .int v2)] [] σ) : ∀ (n : Nat) (x2 : Int32) (x3 : Int32) (σ : zSt), wX8_who_L40 Q K131 x1 n x2 x3 σ → zG p l e (zrm 6) s m args below meth c 6 tabM D cA ad (MQ below (va_Qi Q (fun σ' t => va_P D vwCl (zws tabM cA ad σ') t.heap) (zIn tabM ad)) args s 0 0 (zIn tabM ad)) 40 [(0, .ref (ad 0)), (1, .int x1), (2, .int x2), (3, .int x3)] [] σ := by
  intro n
  induction n with
  | zero => intro x2 x3 σ h; exact absurd h (by simp [wX8_who_L40])
  | succ n ih =>
    intro x2 x3 σ h
    unfold wX8_who_L40 at h
    refine zz_iload_n M 3 dX8_who_40 rfl rfl ?_
    refine zz_aload_n M 0 dX8_who_41 rfl rfl ?_
    refine zz_getI M f_X8_114 tM_0 rfl dX8_who_42 ?_
    refine zz_icmp_ge M 131 dX8_who_45 (by decide) (fun c => ?_) (fun c => ?_)
    · have h := zif h c
      refine zz_sub [(2, .int x2)] [2] rfl ?_
      exact hK131 _ _ h
    · have h := zifn h c
      refine zz_aload_n M 0 dX8_who_48 rfl rfl ?_
      refine zz_iload_n M 3 dX8_who_49 rfl rfl ?_
      refine zz_callVV (d' := 5) (As := [.int x3]) (rest := []) M l_X8_422 tM_0 rfl rfl dX8_who_50 rfl rfl (by decide) (Nat.le_of_ble_eq_true rfl) (by have hI := M.2.2.2.2.2.2.2.2; exact kX8_runs hI _  _ _ h) (fun σ4 h => ?_)
      refine zz_iconst (v := 1) M dX8_who_53 (by decide) ?_
      refine zz_istore M [(4, .int 1), (0, .ref (ad 0)), (1, .int x1), (2, .int x2), (3, .int x3)] dX8_who_54 (by decide) rfl ?_
      refine zz_iconst (v := 0) M dX8_who_56 (by decide) ?_
      refine zz_istore M [(5, .int 0), (4, .int 1), (0, .ref (ad 0)), (1, .int x1), (2, .int x2), (3, .int x3)] dX8_who_57 (by decide) rfl ?_
      refine zz_sub [(0, .ref (ad 0)), (1, .int x1), (2, .int x2), (3, .int x3), (4, .int 1), (5, .int 0)] [2, 3, 4, 5, 1, 0] rfl ?_
      refine sX8_who_L59 x1 x2 x3  M (fun v8 σ9 h => ?_) 300 _ _ _ h
      refine zz_iload_n M 2 dX8_who_110 rfl rfl ?_
      refine zz_iload M 4 dX8_who_111 rfl ?_
      refine zz_if_eq (y0 := 0) M 120 dX8_who_113 (by decide) (fun c => ?_) (fun c => ?_)
      · have h := zif h c
        refine zz_iconst (v := 0) M dX8_who_120 (by decide) ?_
        refine zz_iload_n M 3 dX8_who_121 rfl rfl ?_
        refine zz_ishl M dX8_who_122 ?_
        refine zz_ior M dX8_who_123 ?_
        refine zz_topi (fun x10 ex10 => ?_)
        have h := h x10 ex10
        refine zz_istore_n M [(2, .int x10), (0, .ref (ad 0)), (1, .int x1), (3, .int x3), (4, .int v8)] dX8_who_124 rfl (by decide) rfl ?_
        obtain ⟨x11, ex11⟩ : ∃ z : Int32, z = x3 + 1 := ⟨_, rfl⟩
        have h := h x11 ex11
        refine zz_iinc M [(3, .int x11), (2, .int x10), (0, .ref (ad 0)), (1, .int x1), (4, .int v8)] 3 dX8_who_125 rfl (n32 := 1) (by decide) ex11 (by decide) rfl ?_
        refine zz_goto M 40 dX8_who_128 (by decide) ?_
        refine zz_sub [(0, .ref (ad 0)), (1, .int x1), (2, .int x10), (3, .int x11)] [2, 3, 1, 0] rfl ?_
        exact ih _ _ _ h
      · have h := zifn h c
        refine zz_iconst (v := 1) M dX8_who_116 (by decide) ?_
        refine zz_goto M 121 dX8_who_117 (by decide) ?_
        refine zz_iload_n M 3 dX8_who_121 rfl rfl ?_
        refine zz_ishl M dX8_who_122 ?_
        refine zz_ior M dX8_who_123 ?_
        refine zz_topi (fun x12 ex12 => ?_)
        have h := h x12 ex12
        refine zz_istore_n M [(2, .int x12), (0, .ref (ad 0)), (1, .int x1), (3, .int x3), (4, .int v8)] dX8_who_124 rfl (by decide) rfl ?_
        obtain ⟨x13, ex13⟩ : ∃ z : Int32, z = x3 + 1 := ⟨_, rfl⟩
        have h := h x13 ex13
        refine zz_iinc M [(3, .int x13), (2, .int x12), (0, .ref (ad 0)), (1, .int x1), (4, .int v8)] 3 dX8_who_125 rfl (n32 := 1) (by decide) ex13 (by decide) rfl ?_
        refine zz_goto M 40 dX8_who_128 (by decide) ?_
        refine zz_sub [(0, .ref (ad 0)), (1, .int x1), (2, .int x12), (3, .int x13)] [2, 3, 1, 0] rfl ?_
        exact ih _ _ _ h
def wX8_who (x1 : Int32) (σ : zSt) (Q : Int32 → zSt → Prop) : Prop := wX8_isSheet x1 σ (fun r1 σ2 => if r1 = 0 then (Q (-2) σ2) else (vp_in x1 4 ∧ (if (σ2.1 17 x1.toNatClampNeg) = 0 then (Q (-11) σ2) else (vp_in x1 4 ∧ (if (σ2.1 19 x1.toNatClampNeg) ≤ 24 then (wX8_who_L40 Q (fun v14 σ15 => Q v14 σ15) x1 300 0 0 σ2) else (Q (-2) σ2))))))
set_option maxRecDepth 20000 in
set_option maxHeartbeats 4000000 in
theorem kX8_who (hI : zInj tabM ad) (x1 : Int32)  (σ : zSt) (Q : Int32 → zSt → Prop) (h : wX8_who x1 σ Q) : zOkI l tabM D cA ad y 6 yX8_who cX8_who 6 (some .int) [.ref (ad 0), .int x1] σ Q := by
  refine zz_enter hI (by decide) (Nat.le_of_ble_eq_true rfl) (fun p e s m below meth c M => ?_)
  have M : zM p s m _ meth c cX8_who 6 RX8 (some .int) tabM D cA ad y := M
  refine zz_ls [(0, .ref (ad 0)), (1, .int x1)] rfl ?_
  unfold wX8_who at h
  refine zz_iload_n M 1 dX8_who_0 rfl rfl ?_
  refine zz_callSI (d' := 2) (As := [.int x1]) (rest := []) M l_X8_431 dX8_who_1 rfl rfl (by decide) (Nat.le_of_ble_eq_true rfl) (by have hI := M.2.2.2.2.2.2.2.2; exact kX8_isSheet hI _  _ _ h) (fun r1 σ2 h => ?_)
  refine zz_if_ne (y0 := 0) M 10 dX8_who_4 (by decide) (fun c => ?_) (fun c => ?_)
  · have h := zifn h c
    refine zz_aload_n M 0 dX8_who_10 rfl rfl ?_
    refine zz_getR M f_X8_72 tM_0 rfl dX8_who_11 ?_
    refine zz_iload_n M 1 dX8_who_14 rfl rfl ?_
    refine zz_zald M tM_17 h.1 dX8_who_15 ?_
    have h := h.2
    refine zz_if_ne (y0 := 0) M 22 dX8_who_16 (by decide) (fun c => ?_) (fun c => ?_)
    · have h := zifn h c
      refine zz_aload_n M 0 dX8_who_22 rfl rfl ?_
      refine zz_getR M f_X8_79 tM_0 rfl dX8_who_23 ?_
      refine zz_iload_n M 1 dX8_who_26 rfl rfl ?_
      refine zz_iald M tM_19 h.1 dX8_who_27 ?_
      have h := h.2
      refine zz_bipush (v := 24) M dX8_who_28 (by decide) ?_
      refine zz_icmp_le M 36 dX8_who_30 (by decide) (fun c => ?_) (fun c => ?_)
      · have h := zif h c
        refine zz_iconst (v := 0) M dX8_who_36 (by decide) ?_
        refine zz_istore_n M [(2, .int 0), (0, .ref (ad 0)), (1, .int x1)] dX8_who_37 rfl (by decide) rfl ?_
        refine zz_iconst (v := 0) M dX8_who_38 (by decide) ?_
        refine zz_istore_n M [(3, .int 0), (2, .int 0), (0, .ref (ad 0)), (1, .int x1)] dX8_who_39 rfl (by decide) rfl ?_
        refine zz_sub [(0, .ref (ad 0)), (1, .int x1), (2, .int 0), (3, .int 0)] [2, 3, 1, 0] rfl ?_
        refine sX8_who_L40 x1  M (fun v14 σ15 h => ?_) 300 _ _ _ h
        refine zz_iload_n M 0 dX8_who_131 rfl rfl ?_
        exact zz_iret M dX8_who_132 h
      · have h := zifn h c
        refine zz_bipush (v := (-2)) M dX8_who_33 (by decide) ?_
        exact zz_iret M dX8_who_35 h
    · have h := zif h c
      refine zz_bipush (v := (-11)) M dX8_who_19 (by decide) ?_
      exact zz_iret M dX8_who_21 h
  · have h := zif h c
    refine zz_bipush (v := (-2)) M dX8_who_7 (by decide) ?_
    exact zz_iret M dX8_who_9 h
def wX8_draws_L4 (Q : zSt → Prop) (K38 : zSt → Prop)  : Nat → Int32 → Int32 → zSt → Prop
  | 0, _, _, _ => False
  | n + 1, x2, x3, σ => if 24 ≤ x3 then (K38  σ) else (∀ x1 : Int32, x1 = (x2 * 1103515245) + 12345 → (vp_in x3 24 ∧ (∀ σ2 : zSt, σ2 = zput σ 10 x3.toNatClampNeg (((x1.toUInt32 >>> ((8 : Int32).toUInt32 &&& Int32.toUInt32 31)).toInt32) - ((x1.toUInt32 >>> ((8 : Int32).toUInt32 &&& Int32.toUInt32 31)).toInt32) / 3 * 3) → (∀ x3 : Int32, x3 = x3 + 1 → (wX8_draws_L4 Q K38  n x1 x3 σ2)))))
set_option maxRecDepth 20000 in
set_option maxHeartbeats 4000000 in
theorem sX8_draws_L4 {Q : zSt → Prop} {K38 : zSt → Prop}   (M : zM p s m args meth c cX8_draws 4 RX8 none tabM D cA ad y) (hK38 : ∀ (σ : zSt), K38  σ → zG p l e (zrm 1) s m args below meth c 4 tabM D cA ad (MQ below (va_Qv Q (fun σ' t => va_P D vwCl (zws tabM cA ad σ') t.heap) (zIn tabM ad)) args s 0 0 (zIn tabM ad)) 38 [] [] σ) : ∀ (n : Nat) (x2 : Int32) (x3 : Int32) (σ : zSt), wX8_draws_L4 Q K38  n x2 x3 σ → zG p l e (zrm 1) s m args below meth c 4 tabM D cA ad (MQ below (va_Qv Q (fun σ' t => va_P D vwCl (zws tabM cA ad σ') t.heap) (zIn tabM ad)) args s 0 0 (zIn tabM ad)) 4 [(0, .ref (ad 0)), (2, .int x2), (3, .int x3)] [] σ := by
  intro n
  induction n with
  | zero => intro x2 x3 σ h; exact absurd h (by simp [wX8_draws_L4])
  | succ n ih =>
    intro x2 x3 σ h
    unfold wX8_draws_L4 at h
    refine zz_iload_n M 2 dX8_draws_4 rfl rfl ?_
    refine zz_bipush (v := 24) M dX8_draws_5 (by decide) ?_
    refine zz_icmp_ge M 38 dX8_draws_7 (by decide) (fun c => ?_) (fun c => ?_)
    · have h := zif h c
      refine zz_sub [] [] rfl ?_
      exact hK38  _ h
    · have h := zifn h c
      refine zz_iload_n M 1 dX8_draws_10 rfl rfl ?_
      refine zz_ldcw (v := 1103515245) M k_X8_434 dX8_draws_11 ?_
      refine zz_imul M dX8_draws_14 ?_
      refine zz_sipush (v := 12345) M dX8_draws_15 (by decide) ?_
      refine zz_iadd M dX8_draws_18 ?_
      refine zz_topi (fun x1 ex1 => ?_)
      have h := h x1 ex1
      refine zz_istore_n M [(2, .int x1), (0, .ref (ad 0)), (3, .int x3)] dX8_draws_19 rfl (by decide) rfl ?_
      refine zz_aload_n M 1 dX8_draws_20 rfl rfl ?_
      refine zz_getR M f_X8_47 tM_0 rfl dX8_draws_21 ?_
      refine zz_iload_n M 2 dX8_draws_24 rfl rfl ?_
      refine zz_iload_n M 0 dX8_draws_25 rfl rfl ?_
      refine zz_bipush (v := 8) M dX8_draws_26 (by decide) ?_
      refine zz_iushr M dX8_draws_28 ?_
      refine zz_iconst (v := 3) M dX8_draws_29 (by decide) ?_
      refine zz_irem M dX8_draws_30 (by decide) ?_
      refine zz_iast M tM_10 h.1 dX8_draws_31 ?_
      have h := h.2
      refine zz_sg (fun σ2 eσ2 => ?_)
      have h := h σ2 eσ2
      obtain ⟨x3, ex3⟩ : ∃ z : Int32, z = x3 + 1 := ⟨_, rfl⟩
      have h := h x3 ex3
      refine zz_iinc M [(3, .int x3), (2, .int x1), (0, .ref (ad 0))] 2 dX8_draws_32 rfl (n32 := 1) (by decide) ex3 (by decide) rfl ?_
      refine zz_goto M 4 dX8_draws_35 (by decide) ?_
      refine zz_sub [(0, .ref (ad 0)), (2, .int x1), (3, .int x3)] [2, 1, 0] rfl ?_
      exact ih _ _ _ h
def wX8_draws (x1 : Int32) (σ : zSt) (Q : zSt → Prop) : Prop := wX8_draws_L4 Q (fun  σ4 => Q σ4)  300 x1 0 σ
set_option maxRecDepth 20000 in
set_option maxHeartbeats 4000000 in
theorem kX8_draws (hI : zInj tabM ad) (x1 : Int32)  (σ : zSt) (Q : zSt → Prop) (h : wX8_draws x1 σ Q) : zOkV l tabM D cA ad y 1 yX8_draws cX8_draws 4 none [.ref (ad 0), .int x1] σ Q := by
  refine zz_enter hI (by decide) (Nat.le_of_ble_eq_true rfl) (fun p e s m below meth c M => ?_)
  have M : zM p s m _ meth c cX8_draws 4 RX8 none tabM D cA ad y := M
  refine zz_ls [(0, .ref (ad 0)), (1, .int x1)] rfl ?_
  unfold wX8_draws at h
  refine zz_iload_n M 1 dX8_draws_0 rfl rfl ?_
  refine zz_istore_n M [(2, .int x1), (0, .ref (ad 0)), (1, .int x1)] dX8_draws_1 rfl (by decide) rfl ?_
  refine zz_iconst (v := 0) M dX8_draws_2 (by decide) ?_
  refine zz_istore_n M [(3, .int 0), (2, .int x1), (0, .ref (ad 0)), (1, .int x1)] dX8_draws_3 rfl (by decide) rfl ?_
  refine zz_sub [(0, .ref (ad 0)), (2, .int x1), (3, .int 0)] [2, 1, 0] rfl ?_
  refine sX8_draws_L4   M (fun  σ4 h => ?_) 300 _ _ _ h
  exact zz_vret M dX8_draws_38 h
def wX8_drawn (x1 : Int32) (σ : zSt) (Q : Int32 → zSt → Prop) : Prop := wX8_draws x1 σ (fun σ2 => wX8_rowCost  σ2 (fun r3 σ4 => Q r3 σ4))
set_option maxRecDepth 20000 in
set_option maxHeartbeats 4000000 in
theorem kX8_drawn (hI : zInj tabM ad) (x1 : Int32)  (σ : zSt) (Q : Int32 → zSt → Prop) (h : wX8_drawn x1 σ Q) : zOkI l tabM D cA ad y 45 yX8_drawn cX8_drawn 2 (some .int) [.ref (ad 0), .int x1] σ Q := by
  refine zz_enter hI (by decide) (Nat.le_of_ble_eq_true rfl) (fun p e s m below meth c M => ?_)
  have M : zM p s m _ meth c cX8_drawn 2 RX8 (some .int) tabM D cA ad y := M
  refine zz_ls [(0, .ref (ad 0)), (1, .int x1)] rfl ?_
  unfold wX8_drawn at h
  refine zz_aload_n M 0 dX8_drawn_0 rfl rfl ?_
  refine zz_iload_n M 1 dX8_drawn_1 rfl rfl ?_
  refine zz_callVV (d' := 1) (As := [.int x1]) (rest := []) M l_X8_435 tM_0 rfl rfl dX8_drawn_2 rfl rfl (by decide) (Nat.le_of_ble_eq_true rfl) (by have hI := M.2.2.2.2.2.2.2.2; exact kX8_draws hI _  _ _ h) (fun σ2 h => ?_)
  refine zz_aload_n M 0 dX8_drawn_5 rfl rfl ?_
  refine zz_callVI (d' := 44) (As := []) (rest := []) M l_X8_359 tM_0 rfl rfl dX8_drawn_6 rfl rfl (by decide) (Nat.le_of_ble_eq_true rfl) (by have hI := M.2.2.2.2.2.2.2.2; exact kX8_rowCost hI   _ _ h) (fun r3 σ4 h => ?_)
  exact zz_iret M dX8_drawn_9 h
def wX8_chance_L32 (Q : Int64 → zSt → Prop) (K78 : Int64 → zSt → Prop) (x1 : Int32) (x2 : Int32) (x3 : Int32) : Nat → Int64 → Int32 → zSt → Prop
  | 0, _, _, _ => False
  | n + 1, x4, x6, σ => if x2 ≤ x6 then (K78 x4 σ) else (wX8_draws (x1 + x6) σ (fun σ6 => wX8_rowThrough  σ6 (fun r7 σ8 => if r7 = ((σ8.1 0 10) + (σ8.1 0 11)) then (∀ x11 : Int64, x11 = x4 + 1 → (∀ x12 : Int32, x12 = x6 + 1 → (wX8_chance_L32 Q K78 x1 x2 x3 n x11 x12 σ8))) else (∀ x9 : Int64, x9 = x4 + 0 → (∀ x10 : Int32, x10 = x6 + 1 → (wX8_chance_L32 Q K78 x1 x2 x3 n x9 x10 σ8))))))
set_option maxRecDepth 20000 in
set_option maxHeartbeats 4000000 in
theorem sX8_chance_L32 {Q : Int64 → zSt → Prop} {K78 : Int64 → zSt → Prop} (x1 : Int32) (x2 : Int32) (x3 : Int32)  (M : zM p s m args meth c cX8_chance 12 RX8 (some .long) tabM D cA ad y) (hK78 : ∀ (v4 : Int64) (σ : zSt), K78 v4 σ → zG p l e (zrm 4) s m args below meth c 12 tabM D cA ad (MQ below (va_Ql Q (fun σ' t => va_P D vwCl (zws tabM cA ad σ') t.heap) (zIn tabM ad)) args s 0 0 (zIn tabM ad)) 78 [(2, .int x2), (3, .int x3), (4, .long v4)] [] σ) : ∀ (n : Nat) (x4 : Int64) (x6 : Int32) (σ : zSt), wX8_chance_L32 Q K78 x1 x2 x3 n x4 x6 σ → zG p l e (zrm 4) s m args below meth c 12 tabM D cA ad (MQ below (va_Ql Q (fun σ' t => va_P D vwCl (zws tabM cA ad σ') t.heap) (zIn tabM ad)) args s 0 0 (zIn tabM ad)) 32 [(0, .ref (ad 0)), (1, .int x1), (2, .int x2), (3, .int x3), (4, .long x4), (6, .int x6)] [] σ := by
  intro n
  induction n with
  | zero => intro x4 x6 σ h; exact absurd h (by simp [wX8_chance_L32])
  | succ n ih =>
    intro x4 x6 σ h
    unfold wX8_chance_L32 at h
    refine zz_iload M 5 dX8_chance_32 rfl ?_
    refine zz_iload_n M 2 dX8_chance_34 rfl rfl ?_
    refine zz_icmp_ge M 78 dX8_chance_35 (by decide) (fun c => ?_) (fun c => ?_)
    · have h := zif h c
      refine zz_sub [(2, .int x2), (3, .int x3), (4, .long x4)] [2, 3, 4] rfl ?_
      exact hK78 _ _ h
    · have h := zifn h c
      refine zz_aload_n M 0 dX8_chance_38 rfl rfl ?_
      refine zz_iload_n M 1 dX8_chance_39 rfl rfl ?_
      refine zz_iload M 5 dX8_chance_40 rfl ?_
      refine zz_iadd M dX8_chance_42 ?_
      refine zz_callVV (d' := 1) (As := [.int (x1 + x6)]) (rest := []) M l_X8_435 tM_0 rfl rfl dX8_chance_43 rfl rfl (by decide) (Nat.le_of_ble_eq_true rfl) (by have hI := M.2.2.2.2.2.2.2.2; exact kX8_draws hI _  _ _ h) (fun σ6 h => ?_)
      refine zz_lload M 4 dX8_chance_46 rfl ?_
      refine zz_aload_n M 0 dX8_chance_48 rfl rfl ?_
      refine zz_callVI (d' := 3) (As := []) (rest := [.long x4]) M l_X8_365 tM_0 rfl rfl dX8_chance_49 rfl rfl (by decide) (Nat.le_of_ble_eq_true rfl) (by have hI := M.2.2.2.2.2.2.2.2; exact kX8_rowThrough hI   _ _ h) (fun r7 σ8 h => ?_)
      refine zz_aload_n M 0 dX8_chance_52 rfl rfl ?_
      refine zz_getI M f_X8_96 tM_0 rfl dX8_chance_53 ?_
      refine zz_aload_n M 0 dX8_chance_56 rfl rfl ?_
      refine zz_getI M f_X8_99 tM_0 rfl dX8_chance_57 ?_
      refine zz_iadd M dX8_chance_60 ?_
      refine zz_icmp_ne M 68 dX8_chance_61 (by decide) (fun c => ?_) (fun c => ?_)
      · have h := zifn h c
        refine zz_lconst (v := 0) M dX8_chance_68 (by decide) ?_
        refine zz_ladd M dX8_chance_69 ?_
        refine zz_topl (fun x9 ex9 => ?_)
        have h := h x9 ex9
        refine zz_lstore M [(4, .long x9), (0, .ref (ad 0)), (1, .int x1), (2, .int x2), (3, .int x3), (6, .int x6)] dX8_chance_70 (by decide) rfl ?_
        obtain ⟨x10, ex10⟩ : ∃ z : Int32, z = x6 + 1 := ⟨_, rfl⟩
        have h := h x10 ex10
        refine zz_iinc M [(6, .int x10), (4, .long x9), (0, .ref (ad 0)), (1, .int x1), (2, .int x2), (3, .int x3)] 5 dX8_chance_72 rfl (n32 := 1) (by decide) ex10 (by decide) rfl ?_
        refine zz_goto M 32 dX8_chance_75 (by decide) ?_
        refine zz_sub [(0, .ref (ad 0)), (1, .int x1), (2, .int x2), (3, .int x3), (4, .long x9), (6, .int x10)] [2, 3, 4, 5, 1, 0] rfl ?_
        exact ih _ _ _ h
      · have h := zif h c
        refine zz_lconst (v := 1) M dX8_chance_64 (by decide) ?_
        refine zz_goto M 69 dX8_chance_65 (by decide) ?_
        refine zz_ladd M dX8_chance_69 ?_
        refine zz_topl (fun x11 ex11 => ?_)
        have h := h x11 ex11
        refine zz_lstore M [(4, .long x11), (0, .ref (ad 0)), (1, .int x1), (2, .int x2), (3, .int x3), (6, .int x6)] dX8_chance_70 (by decide) rfl ?_
        obtain ⟨x12, ex12⟩ : ∃ z : Int32, z = x6 + 1 := ⟨_, rfl⟩
        have h := h x12 ex12
        refine zz_iinc M [(6, .int x12), (4, .long x11), (0, .ref (ad 0)), (1, .int x1), (2, .int x2), (3, .int x3)] 5 dX8_chance_72 rfl (n32 := 1) (by decide) ex12 (by decide) rfl ?_
        refine zz_goto M 32 dX8_chance_75 (by decide) ?_
        refine zz_sub [(0, .ref (ad 0)), (1, .int x1), (2, .int x2), (3, .int x3), (4, .long x11), (6, .int x12)] [2, 3, 4, 5, 1, 0] rfl ?_
        exact ih _ _ _ h
def wX8_chance_L86 (Q : Int64 → zSt → Prop) (K111 : Int32 → zSt → Prop) (x2 : Int32) (x3 : Int32) (x4 : Int64) : Nat → Int64 → Int64 → zSt → Prop
  | 0, _, _, _ => False
  | n + 1, x6, x8, σ => if (lg_cmp x8 0) = 0 then (K111 x6 σ) else (¬ x8 = 0 ∧ (∀ x16 : Int64, x16 = x6 - x6 / x8 * x8 → (wX8_chance_L86 Q K111 x2 x3 x4 n x8 x16 σ)))
set_option maxRecDepth 20000 in
set_option maxHeartbeats 4000000 in
theorem sX8_chance_L86 {Q : Int64 → zSt → Prop} {K111 : Int32 → zSt → Prop} (x2 : Int32) (x3 : Int32) (x4 : Int64)  (M : zM p s m args meth c cX8_chance 12 RX8 (some .long) tabM D cA ad y) (hK111 : ∀ (v6 : Int32) (σ : zSt), K111 v6 σ → zG p l e (zrm 4) s m args below meth c 12 tabM D cA ad (MQ below (va_Ql Q (fun σ' t => va_P D vwCl (zws tabM cA ad σ') t.heap) (zIn tabM ad)) args s 0 0 (zIn tabM ad)) 111 [(2, .int x2), (3, .int x3), (4, .long x4), (6, .int v6)] [] σ) : ∀ (n : Nat) (x6 : Int64) (x8 : Int64) (σ : zSt), wX8_chance_L86 Q K111 x2 x3 x4 n x6 x8 σ → zG p l e (zrm 4) s m args below meth c 12 tabM D cA ad (MQ below (va_Ql Q (fun σ' t => va_P D vwCl (zws tabM cA ad σ') t.heap) (zIn tabM ad)) args s 0 0 (zIn tabM ad)) 86 [(2, .int x2), (3, .int x3), (4, .long x4), (6, .long x6), (8, .long x8)] [] σ := by
  intro n
  induction n with
  | zero => intro x6 x8 σ h; exact absurd h (by simp [wX8_chance_L86])
  | succ n ih =>
    intro x6 x8 σ h
    unfold wX8_chance_L86 at h
    refine zz_lload M 4 dX8_chance_86 rfl ?_
    refine zz_lconst (v := 0) M dX8_chance_88 (by decide) ?_
    refine zz_lcmp M dX8_chance_89 ?_
    refine zz_if_eq (y0 := 0) M 111 dX8_chance_90 (by decide) (fun c => ?_) (fun c => ?_)
    · have h := zif h c
      refine zz_sub [(2, .int x2), (3, .int x3), (4, .long x4), (6, .long x6)] [0, 1, 2, 3] rfl ?_
      exact hK111 _ _ h
    · have h := zifn h c
      refine zz_lload M 3 dX8_chance_93 rfl ?_
      refine zz_lload M 4 dX8_chance_95 rfl ?_
      refine zz_lrem M dX8_chance_97 h.1 ?_
      have h := h.2
      refine zz_topl (fun x16 ex16 => ?_)
      have h := h x16 ex16
      refine zz_lstore M [(10, .long x16), (2, .int x2), (3, .int x3), (4, .long x4), (6, .long x6), (8, .long x8)] dX8_chance_98 (by decide) rfl ?_
      refine zz_lload M 5 dX8_chance_100 rfl ?_
      refine zz_lstore M [(6, .long x8), (10, .long x16), (2, .int x2), (3, .int x3), (4, .long x4), (8, .long x8)] dX8_chance_102 (by decide) rfl ?_
      refine zz_lload M 1 dX8_chance_104 rfl ?_
      refine zz_lstore M [(8, .long x16), (6, .long x8), (10, .long x16), (2, .int x2), (3, .int x3), (4, .long x4)] dX8_chance_106 (by decide) rfl ?_
      refine zz_goto M 86 dX8_chance_108 (by decide) ?_
      refine zz_sub [(2, .int x2), (3, .int x3), (4, .long x4), (6, .long x8), (8, .long x16)] [3, 4, 5, 1, 0] rfl ?_
      exact ih _ _ _ h
def wX8_chance (x1 : Int32) (x2 : Int32) (x3 : Int32) (σ : zSt) (Q : Int64 → zSt → Prop) : Prop := wX8_in ((x2 : Int32).toInt64) 1 20 σ (fun r1 σ2 => if r1 = 0 then (Q (-4611686018427387904) σ2) else (wX8_in ((x3 : Int32).toInt64) 0 1 σ2 (fun r3 σ4 => if r3 = 0 then (Q (-4611686018427387904) σ4) else (wX8_chance_L32 Q (fun v13 σ14 => ∀ x15 : Int64, x15 = (x2 : Int32).toInt64 → (wX8_chance_L86 Q (fun v17 σ18 => if x3 = 0 then (¬ v17 = 0 ∧ (Q (v13 / v17) σ18)) else (¬ v17 = 0 ∧ (Q (((x2 : Int32).toInt64) / v17) σ18))) x2 x3 v13 300 v13 x15 σ14)) x1 x2 x3 300 0 0 σ4))))
set_option maxRecDepth 20000 in
set_option maxHeartbeats 4000000 in
theorem kX8_chance (hI : zInj tabM ad) (x1 : Int32) (x2 : Int32) (x3 : Int32)  (σ : zSt) (Q : Int64 → zSt → Prop) (h : wX8_chance x1 x2 x3 σ Q) : zOkL l tabM D cA ad y 4 yX8_chance cX8_chance 12 (some .long) [.ref (ad 0), .int x1, .int x2, .int x3] σ Q := by
  refine zz_enter hI (by decide) (Nat.le_of_ble_eq_true rfl) (fun p e s m below meth c M => ?_)
  have M : zM p s m _ meth c cX8_chance 12 RX8 (some .long) tabM D cA ad y := M
  refine zz_ls [(0, .ref (ad 0)), (1, .int x1), (2, .int x2), (3, .int x3)] rfl ?_
  unfold wX8_chance at h
  refine zz_iload_n M 2 dX8_chance_0 rfl rfl ?_
  refine zz_i2l M dX8_chance_1 ?_
  refine zz_lconst (v := 1) M dX8_chance_2 (by decide) ?_
  refine zz_ldc2 (v := 20) M k_X8_438 dX8_chance_3 ?_
  refine zz_callSI (d' := 1) (As := [.long ((x2 : Int32).toInt64), .long 1, .long 20]) (rest := []) M l_X8_92 dX8_chance_6 rfl rfl (by decide) (Nat.le_of_ble_eq_true rfl) (by have hI := M.2.2.2.2.2.2.2.2; exact kX8_in hI _ _ _  _ _ h) (fun r1 σ2 h => ?_)
  refine zz_if_eq (y0 := 0) M 22 dX8_chance_9 (by decide) (fun c => ?_) (fun c => ?_)
  · have h := zif h c
    refine zz_ldc2 (v := (-4611686018427387904)) M k_X8_440 dX8_chance_22 ?_
    exact zz_lret M dX8_chance_25 h
  · have h := zifn h c
    refine zz_iload_n M 3 dX8_chance_12 rfl rfl ?_
    refine zz_i2l M dX8_chance_13 ?_
    refine zz_lconst (v := 0) M dX8_chance_14 (by decide) ?_
    refine zz_lconst (v := 1) M dX8_chance_15 (by decide) ?_
    refine zz_callSI (d' := 1) (As := [.long ((x3 : Int32).toInt64), .long 0, .long 1]) (rest := []) M l_X8_92 dX8_chance_16 rfl rfl (by decide) (Nat.le_of_ble_eq_true rfl) (by have hI := M.2.2.2.2.2.2.2.2; exact kX8_in hI _ _ _  _ _ h) (fun r3 σ4 h => ?_)
    refine zz_if_ne (y0 := 0) M 26 dX8_chance_19 (by decide) (fun c => ?_) (fun c => ?_)
    · have h := zifn h c
      refine zz_lconst (v := 0) M dX8_chance_26 (by decide) ?_
      refine zz_lstore M [(4, .long 0), (0, .ref (ad 0)), (1, .int x1), (2, .int x2), (3, .int x3)] dX8_chance_27 (by decide) rfl ?_
      refine zz_iconst (v := 0) M dX8_chance_29 (by decide) ?_
      refine zz_istore M [(6, .int 0), (4, .long 0), (0, .ref (ad 0)), (1, .int x1), (2, .int x2), (3, .int x3)] dX8_chance_30 (by decide) rfl ?_
      refine zz_sub [(0, .ref (ad 0)), (1, .int x1), (2, .int x2), (3, .int x3), (4, .long 0), (6, .int 0)] [2, 3, 4, 5, 1, 0] rfl ?_
      refine sX8_chance_L32 x1 x2 x3  M (fun v13 σ14 h => ?_) 300 _ _ _ h
      refine zz_lload M 2 dX8_chance_78 rfl ?_
      refine zz_lstore M [(6, .long v13), (2, .int x2), (3, .int x3), (4, .long v13)] dX8_chance_80 (by decide) rfl ?_
      refine zz_iload_n M 1 dX8_chance_82 rfl rfl ?_
      refine zz_i2l M dX8_chance_83 ?_
      refine zz_topl (fun x15 ex15 => ?_)
      have h := h x15 ex15
      refine zz_lstore M [(8, .long x15), (6, .long v13), (2, .int x2), (3, .int x3), (4, .long v13)] dX8_chance_84 (by decide) rfl ?_
      refine zz_sub [(2, .int x2), (3, .int x3), (4, .long v13), (6, .long v13), (8, .long x15)] [2, 3, 4, 1, 0] rfl ?_
      refine sX8_chance_L86 x2 x3 v13  M (fun v17 σ18 h => ?_) 300 _ _ _ h
      refine zz_iload_n M 1 dX8_chance_111 rfl rfl ?_
      refine zz_if_ne (y0 := 0) M 123 dX8_chance_112 (by decide) (fun c => ?_) (fun c => ?_)
      · have h := zifn h c
        refine zz_iload_n M 0 dX8_chance_123 rfl rfl ?_
        refine zz_i2l M dX8_chance_124 ?_
        refine zz_lload M 3 dX8_chance_125 rfl ?_
        refine zz_ldiv M dX8_chance_127 h.1 ?_
        have h := h.2
        exact zz_lret M dX8_chance_128 h
      · have h := zif h c
        refine zz_lload M 2 dX8_chance_115 rfl ?_
        refine zz_lload M 3 dX8_chance_117 rfl ?_
        refine zz_ldiv M dX8_chance_119 h.1 ?_
        have h := h.2
        refine zz_goto M 128 dX8_chance_120 (by decide) ?_
        exact zz_lret M dX8_chance_128 h
    · have h := zif h c
      refine zz_ldc2 (v := (-4611686018427387904)) M k_X8_440 dX8_chance_22 ?_
      exact zz_lret M dX8_chance_25 h
def wX8_image_L2 (Q : Int32 → zSt → Prop) (K26 : zSt → Prop)  : Nat → Int32 → zSt → Prop
  | 0, _, _ => False
  | n + 1, x1, σ => if 24 ≤ x1 then (K26  σ) else (vp_in x1 24 ∧ (vp_in x1 24 ∧ (∀ σ1 : zSt, σ1 = zput σ 14 x1.toNatClampNeg (σ.1 9 x1.toNatClampNeg) → (∀ x2 : Int32, x2 = x1 + 1 → (wX8_image_L2 Q K26  n x2 σ1)))))
set_option maxRecDepth 20000 in
set_option maxHeartbeats 4000000 in
theorem sX8_image_L2 {Q : Int32 → zSt → Prop} {K26 : zSt → Prop}   (M : zM p s m args meth c cX8_image 2 RX8 (some .int) tabM D cA ad y) (hK26 : ∀ (σ : zSt), K26  σ → zG p l e (zrm 1) s m args below meth c 2 tabM D cA ad (MQ below (va_Qi Q (fun σ' t => va_P D vwCl (zws tabM cA ad σ') t.heap) (zIn tabM ad)) args s 0 0 (zIn tabM ad)) 26 [(0, .ref (ad 0))] [] σ) : ∀ (n : Nat) (x1 : Int32) (σ : zSt), wX8_image_L2 Q K26  n x1 σ → zG p l e (zrm 1) s m args below meth c 2 tabM D cA ad (MQ below (va_Qi Q (fun σ' t => va_P D vwCl (zws tabM cA ad σ') t.heap) (zIn tabM ad)) args s 0 0 (zIn tabM ad)) 2 [(0, .ref (ad 0)), (1, .int x1)] [] σ := by
  intro n
  induction n with
  | zero => intro x1 σ h; exact absurd h (by simp [wX8_image_L2])
  | succ n ih =>
    intro x1 σ h
    unfold wX8_image_L2 at h
    refine zz_iload_n M 1 dX8_image_2 rfl rfl ?_
    refine zz_bipush (v := 24) M dX8_image_3 (by decide) ?_
    refine zz_icmp_ge M 26 dX8_image_5 (by decide) (fun c => ?_) (fun c => ?_)
    · have h := zif h c
      refine zz_sub [(0, .ref (ad 0))] [0] rfl ?_
      exact hK26  _ h
    · have h := zifn h c
      refine zz_aload_n M 0 dX8_image_8 rfl rfl ?_
      refine zz_getR M f_X8_60 tM_0 rfl dX8_image_9 ?_
      refine zz_iload_n M 1 dX8_image_12 rfl rfl ?_
      refine zz_aload_n M 0 dX8_image_13 rfl rfl ?_
      refine zz_getR M f_X8_44 tM_0 rfl dX8_image_14 ?_
      refine zz_iload_n M 1 dX8_image_17 rfl rfl ?_
      refine zz_iald M tM_9 h.1 dX8_image_18 ?_
      have h := h.2
      refine zz_iast M tM_14 h.1 dX8_image_19 ?_
      have h := h.2
      refine zz_sg (fun σ1 eσ1 => ?_)
      have h := h σ1 eσ1
      obtain ⟨x2, ex2⟩ : ∃ z : Int32, z = x1 + 1 := ⟨_, rfl⟩
      have h := h x2 ex2
      refine zz_iinc M [(1, .int x2), (0, .ref (ad 0))] 1 dX8_image_20 rfl (n32 := 1) (by decide) ex2 (by decide) rfl ?_
      refine zz_goto M 2 dX8_image_23 (by decide) ?_
      refine zz_sub [(0, .ref (ad 0)), (1, .int x2)] [1, 0] rfl ?_
      exact ih _ _ h
def wX8_image_L28 (Q : Int32 → zSt → Prop) (K82 : zSt → Prop)  : Nat → Int32 → zSt → Prop
  | 0, _, _ => False
  | n + 1, x1, σ => if 8 ≤ x1 then (K82  σ) else (vp_in x1 8 ∧ (vp_in x1 24 ∧ (∀ σ4 : zSt, σ4 = zput σ 15 x1.toNatClampNeg (σ.1 4 x1.toNatClampNeg) → (vp_in x1 8 ∧ (vp_in (8 + x1) 24 ∧ (∀ σ5 : zSt, σ5 = zput σ4 15 (8 + x1 : Int32).toNatClampNeg (σ4.1 5 x1.toNatClampNeg) → (vp_in x1 8 ∧ (vp_in (16 + x1) 24 ∧ (∀ σ6 : zSt, σ6 = zput σ5 15 (16 + x1 : Int32).toNatClampNeg (σ5.1 6 x1.toNatClampNeg) → (∀ x7 : Int32, x7 = x1 + 1 → (wX8_image_L28 Q K82  n x7 σ6)))))))))))
set_option maxRecDepth 20000 in
set_option maxHeartbeats 4000000 in
theorem sX8_image_L28 {Q : Int32 → zSt → Prop} {K82 : zSt → Prop}   (M : zM p s m args meth c cX8_image 2 RX8 (some .int) tabM D cA ad y) (hK82 : ∀ (σ : zSt), K82  σ → zG p l e (zrm 1) s m args below meth c 2 tabM D cA ad (MQ below (va_Qi Q (fun σ' t => va_P D vwCl (zws tabM cA ad σ') t.heap) (zIn tabM ad)) args s 0 0 (zIn tabM ad)) 82 [(0, .ref (ad 0))] [] σ) : ∀ (n : Nat) (x1 : Int32) (σ : zSt), wX8_image_L28 Q K82  n x1 σ → zG p l e (zrm 1) s m args below meth c 2 tabM D cA ad (MQ below (va_Qi Q (fun σ' t => va_P D vwCl (zws tabM cA ad σ') t.heap) (zIn tabM ad)) args s 0 0 (zIn tabM ad)) 28 [(0, .ref (ad 0)), (1, .int x1)] [] σ := by
  intro n
  induction n with
  | zero => intro x1 σ h; exact absurd h (by simp [wX8_image_L28])
  | succ n ih =>
    intro x1 σ h
    unfold wX8_image_L28 at h
    refine zz_iload_n M 1 dX8_image_28 rfl rfl ?_
    refine zz_bipush (v := 8) M dX8_image_29 (by decide) ?_
    refine zz_icmp_ge M 82 dX8_image_31 (by decide) (fun c => ?_) (fun c => ?_)
    · have h := zif h c
      refine zz_sub [(0, .ref (ad 0))] [0] rfl ?_
      exact hK82  _ h
    · have h := zifn h c
      refine zz_aload_n M 0 dX8_image_34 rfl rfl ?_
      refine zz_getR M f_X8_63 tM_0 rfl dX8_image_35 ?_
      refine zz_iload_n M 1 dX8_image_38 rfl rfl ?_
      refine zz_aload_n M 0 dX8_image_39 rfl rfl ?_
      refine zz_getR M f_X8_23 tM_0 rfl dX8_image_40 ?_
      refine zz_iload_n M 1 dX8_image_43 rfl rfl ?_
      refine zz_iald M tM_4 h.1 dX8_image_44 ?_
      have h := h.2
      refine zz_iast M tM_15 h.1 dX8_image_45 ?_
      have h := h.2
      refine zz_sg (fun σ4 eσ4 => ?_)
      have h := h σ4 eσ4
      refine zz_aload_n M 0 dX8_image_46 rfl rfl ?_
      refine zz_getR M f_X8_63 tM_0 rfl dX8_image_47 ?_
      refine zz_bipush (v := 8) M dX8_image_50 (by decide) ?_
      refine zz_iload_n M 1 dX8_image_52 rfl rfl ?_
      refine zz_iadd M dX8_image_53 ?_
      refine zz_aload_n M 0 dX8_image_54 rfl rfl ?_
      refine zz_getR M f_X8_26 tM_0 rfl dX8_image_55 ?_
      refine zz_iload_n M 1 dX8_image_58 rfl rfl ?_
      refine zz_iald M tM_5 h.1 dX8_image_59 ?_
      have h := h.2
      refine zz_iast M tM_15 h.1 dX8_image_60 ?_
      have h := h.2
      refine zz_sg (fun σ5 eσ5 => ?_)
      have h := h σ5 eσ5
      refine zz_aload_n M 0 dX8_image_61 rfl rfl ?_
      refine zz_getR M f_X8_63 tM_0 rfl dX8_image_62 ?_
      refine zz_bipush (v := 16) M dX8_image_65 (by decide) ?_
      refine zz_iload_n M 1 dX8_image_67 rfl rfl ?_
      refine zz_iadd M dX8_image_68 ?_
      refine zz_aload_n M 0 dX8_image_69 rfl rfl ?_
      refine zz_getR M f_X8_29 tM_0 rfl dX8_image_70 ?_
      refine zz_iload_n M 1 dX8_image_73 rfl rfl ?_
      refine zz_iald M tM_6 h.1 dX8_image_74 ?_
      have h := h.2
      refine zz_iast M tM_15 h.1 dX8_image_75 ?_
      have h := h.2
      refine zz_sg (fun σ6 eσ6 => ?_)
      have h := h σ6 eσ6
      obtain ⟨x7, ex7⟩ : ∃ z : Int32, z = x1 + 1 := ⟨_, rfl⟩
      have h := h x7 ex7
      refine zz_iinc M [(1, .int x7), (0, .ref (ad 0))] 1 dX8_image_76 rfl (n32 := 1) (by decide) ex7 (by decide) rfl ?_
      refine zz_goto M 28 dX8_image_79 (by decide) ?_
      refine zz_sub [(0, .ref (ad 0)), (1, .int x7)] [1, 0] rfl ?_
      exact ih _ _ h
def wX8_image_L84 (Q : Int32 → zSt → Prop) (K107 : zSt → Prop)  : Nat → Int32 → zSt → Prop
  | 0, _, _ => False
  | n + 1, x1, σ => if 4 ≤ x1 then (K107  σ) else (vp_in x1 4 ∧ (vp_in x1 4 ∧ (∀ σ9 : zSt, σ9 = zput σ 16 x1.toNatClampNeg (σ.1 8 x1.toNatClampNeg) → (∀ x10 : Int32, x10 = x1 + 1 → (wX8_image_L84 Q K107  n x10 σ9)))))
set_option maxRecDepth 20000 in
set_option maxHeartbeats 4000000 in
theorem sX8_image_L84 {Q : Int32 → zSt → Prop} {K107 : zSt → Prop}   (M : zM p s m args meth c cX8_image 2 RX8 (some .int) tabM D cA ad y) (hK107 : ∀ (σ : zSt), K107  σ → zG p l e (zrm 1) s m args below meth c 2 tabM D cA ad (MQ below (va_Qi Q (fun σ' t => va_P D vwCl (zws tabM cA ad σ') t.heap) (zIn tabM ad)) args s 0 0 (zIn tabM ad)) 107 [(0, .ref (ad 0))] [] σ) : ∀ (n : Nat) (x1 : Int32) (σ : zSt), wX8_image_L84 Q K107  n x1 σ → zG p l e (zrm 1) s m args below meth c 2 tabM D cA ad (MQ below (va_Qi Q (fun σ' t => va_P D vwCl (zws tabM cA ad σ') t.heap) (zIn tabM ad)) args s 0 0 (zIn tabM ad)) 84 [(0, .ref (ad 0)), (1, .int x1)] [] σ := by
  intro n
  induction n with
  | zero => intro x1 σ h; exact absurd h (by simp [wX8_image_L84])
  | succ n ih =>
    intro x1 σ h
    unfold wX8_image_L84 at h
    refine zz_iload_n M 1 dX8_image_84 rfl rfl ?_
    refine zz_iconst (v := 4) M dX8_image_85 (by decide) ?_
    refine zz_icmp_ge M 107 dX8_image_86 (by decide) (fun c => ?_) (fun c => ?_)
    · have h := zif h c
      refine zz_sub [(0, .ref (ad 0))] [0] rfl ?_
      exact hK107  _ h
    · have h := zifn h c
      refine zz_aload_n M 0 dX8_image_89 rfl rfl ?_
      refine zz_getR M f_X8_66 tM_0 rfl dX8_image_90 ?_
      refine zz_iload_n M 1 dX8_image_93 rfl rfl ?_
      refine zz_aload_n M 0 dX8_image_94 rfl rfl ?_
      refine zz_getR M f_X8_41 tM_0 rfl dX8_image_95 ?_
      refine zz_iload_n M 1 dX8_image_98 rfl rfl ?_
      refine zz_iald M tM_8 h.1 dX8_image_99 ?_
      have h := h.2
      refine zz_iast M tM_16 h.1 dX8_image_100 ?_
      have h := h.2
      refine zz_sg (fun σ9 eσ9 => ?_)
      have h := h σ9 eσ9
      obtain ⟨x10, ex10⟩ : ∃ z : Int32, z = x1 + 1 := ⟨_, rfl⟩
      have h := h x10 ex10
      refine zz_iinc M [(1, .int x10), (0, .ref (ad 0))] 1 dX8_image_101 rfl (n32 := 1) (by decide) ex10 (by decide) rfl ?_
      refine zz_goto M 84 dX8_image_104 (by decide) ?_
      refine zz_sub [(0, .ref (ad 0)), (1, .int x10)] [1, 0] rfl ?_
      exact ih _ _ h
def wX8_image  (σ : zSt) (Q : Int32 → zSt → Prop) : Prop := wX8_image_L2 Q (fun  σ3 => wX8_image_L28 Q (fun  σ8 => wX8_image_L84 Q (fun  σ11 => ∀ σ12 : zSt, σ12 = zput σ11 0 40 (σ11.1 0 10) → (∀ σ13 : zSt, σ13 = zput σ12 0 41 (σ12.1 0 11) → (∀ σ14 : zSt, σ14 = zput σ13 0 42 (σ13.1 0 16) → (∀ σ15 : zSt, σ15 = zput σ14 0 43 (σ14.1 0 12) → (∀ σ16 : zSt, σ16 = zput σ15 0 44 (σ15.1 0 13) → (∀ σ17 : zSt, σ17 = zput σ16 0 45 (σ16.1 0 4) → (Q ((σ17.1 0 10) + (σ17.1 0 11)) σ17)))))))  300 0 σ8)  300 0 σ3)  300 0 σ
set_option maxRecDepth 20000 in
set_option maxHeartbeats 4000000 in
theorem kX8_image (hI : zInj tabM ad)   (σ : zSt) (Q : Int32 → zSt → Prop) (h : wX8_image  σ Q) : zOkI l tabM D cA ad y 1 yX8_image cX8_image 2 (some .int) [.ref (ad 0)] σ Q := by
  refine zz_enter hI (by decide) (Nat.le_of_ble_eq_true rfl) (fun p e s m below meth c M => ?_)
  have M : zM p s m _ meth c cX8_image 2 RX8 (some .int) tabM D cA ad y := M
  refine zz_ls [(0, .ref (ad 0))] rfl ?_
  unfold wX8_image at h
  refine zz_iconst (v := 0) M dX8_image_0 (by decide) ?_
  refine zz_istore_n M [(1, .int 0), (0, .ref (ad 0))] dX8_image_1 rfl (by decide) rfl ?_
  refine zz_sub [(0, .ref (ad 0)), (1, .int 0)] [1, 0] rfl ?_
  refine sX8_image_L2   M (fun  σ3 h => ?_) 300 _ _ h
  refine zz_iconst (v := 0) M dX8_image_26 (by decide) ?_
  refine zz_istore_n M [(1, .int 0), (0, .ref (ad 0))] dX8_image_27 rfl (by decide) rfl ?_
  refine zz_sub [(0, .ref (ad 0)), (1, .int 0)] [1, 0] rfl ?_
  refine sX8_image_L28   M (fun  σ8 h => ?_) 300 _ _ h
  refine zz_iconst (v := 0) M dX8_image_82 (by decide) ?_
  refine zz_istore_n M [(1, .int 0), (0, .ref (ad 0))] dX8_image_83 rfl (by decide) rfl ?_
  refine zz_sub [(0, .ref (ad 0)), (1, .int 0)] [1, 0] rfl ?_
  refine sX8_image_L84   M (fun  σ11 h => ?_) 300 _ _ h
  refine zz_aload_n M 0 dX8_image_107 rfl rfl ?_
  refine zz_aload_n M 0 dX8_image_108 rfl rfl ?_
  refine zz_getI M f_X8_96 tM_0 rfl dX8_image_109 ?_
  refine zz_putI M f_X8_69 tM_0 rfl dX8_image_112 ?_
  refine zz_sg (fun σ12 eσ12 => ?_)
  have h := h σ12 eσ12
  refine zz_aload_n M 0 dX8_image_115 rfl rfl ?_
  refine zz_aload_n M 0 dX8_image_116 rfl rfl ?_
  refine zz_getI M f_X8_99 tM_0 rfl dX8_image_117 ?_
  refine zz_putI M f_X8_442 tM_0 rfl dX8_image_120 ?_
  refine zz_sg (fun σ13 eσ13 => ?_)
  have h := h σ13 eσ13
  refine zz_aload_n M 0 dX8_image_123 rfl rfl ?_
  refine zz_aload_n M 0 dX8_image_124 rfl rfl ?_
  refine zz_getI M f_X8_114 tM_0 rfl dX8_image_125 ?_
  refine zz_putI M f_X8_445 tM_0 rfl dX8_image_128 ?_
  refine zz_sg (fun σ14 eσ14 => ?_)
  have h := h σ14 eσ14
  refine zz_aload_n M 0 dX8_image_131 rfl rfl ?_
  refine zz_aload_n M 0 dX8_image_132 rfl rfl ?_
  refine zz_getI M f_X8_32 tM_0 rfl dX8_image_133 ?_
  refine zz_putI M f_X8_448 tM_0 rfl dX8_image_136 ?_
  refine zz_sg (fun σ15 eσ15 => ?_)
  have h := h σ15 eσ15
  refine zz_aload_n M 0 dX8_image_139 rfl rfl ?_
  refine zz_aload_n M 0 dX8_image_140 rfl rfl ?_
  refine zz_getI M f_X8_35 tM_0 rfl dX8_image_141 ?_
  refine zz_putI M f_X8_451 tM_0 rfl dX8_image_144 ?_
  refine zz_sg (fun σ16 eσ16 => ?_)
  have h := h σ16 eσ16
  refine zz_aload_n M 0 dX8_image_147 rfl rfl ?_
  refine zz_aload_n M 0 dX8_image_148 rfl rfl ?_
  refine zz_getI M f_X8_332 tM_0 rfl dX8_image_149 ?_
  refine zz_putI M f_X8_454 tM_0 rfl dX8_image_152 ?_
  refine zz_sg (fun σ17 eσ17 => ?_)
  have h := h σ17 eσ17
  refine zz_aload_n M 0 dX8_image_155 rfl rfl ?_
  refine zz_getI M f_X8_96 tM_0 rfl dX8_image_156 ?_
  refine zz_aload_n M 0 dX8_image_159 rfl rfl ?_
  refine zz_getI M f_X8_99 tM_0 rfl dX8_image_160 ?_
  refine zz_iadd M dX8_image_163 ?_
  exact zz_iret M dX8_image_164 h
end
