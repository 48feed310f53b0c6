section
variable {p : Program} {l : Launch} {e : Env} {s : State} {m : MethodId} {args : Array Value} {below : List Frame} {meth : Method} {c : Code} {D : va_G} {cA : Nat → ClassId} {ad : Nat → Nat} {y : zX}
def wX8_who_L59 (Q : Int32 → zSt → Prop) (K110 : Int32 → zSt → Prop) (x1 : Int32) (x2 : Int32) (x3 : Int32) : Nat → Int32 → Int32 → zSt → Prop
  | 0, _, _, _ => False
  | n + 1, x4, x5, σ => vp_in x1 4 ∧ (if (σ.1 19 x1.toNatClampNeg) ≤ x5 then (K110 x4 σ) else (if x4 = 0 then (∀ x105 : Int32, x105 = x5 + 1 → (wX8_who_L59 Q K110 x1 x2 x3 n 0 x105 σ)) else (vp_in x5 24 ∧ (vp_in ((40 * x1) + x5) 160 ∧ (if (σ.1 10 x5.toNatClampNeg) = (σ.1 20 ((40 * x1) + x5 : Int32).toNatClampNeg) then (∀ x107 : Int32, x107 = x5 + 1 → (wX8_who_L59 Q K110 x1 x2 x3 n 1 x107 σ)) else (∀ x106 : Int32, x106 = x5 + 1 → (wX8_who_L59 Q K110 x1 x2 x3 n 0 x106 σ)))))))
set_option maxRecDepth 20000 in
set_option maxHeartbeats 4000000 in
theorem sX8_who_L59 {Q : Int32 → zSt → Prop} {K110 : Int32 → zSt → Prop} (x1 : Int32) (x2 : Int32) (x3 : Int32)  (M : zM p s m args meth c cX8_who 6 RX8 (some .int) tabM D cA ad y) (hK110 : ∀ (v4 : Int32) (σ : zSt), K110 v4 σ → zG p l e (zrm 6) s m args below meth c 6 tabM D cA ad (MQ below (va_Qi Q (fun σ' t => va_P D vwCl (zws tabM cA ad σ') t.heap) (zIn tabM ad)) args s 0 0 (zIn tabM ad)) 110 [(0, .ref (ad 0)), (1, .int x1), (2, .int x2), (3, .int x3), (4, .int v4)] [] σ) : ∀ (n : Nat) (x4 : Int32) (x5 : Int32) (σ : zSt), wX8_who_L59 Q K110 x1 x2 x3 n x4 x5 σ → zG p l e (zrm 6) s m args below meth c 6 tabM D cA ad (MQ below (va_Qi Q (fun σ' t => va_P D vwCl (zws tabM cA ad σ') t.heap) (zIn tabM ad)) args s 0 0 (zIn tabM ad)) 59 [(0, .ref (ad 0)), (1, .int x1), (2, .int x2), (3, .int x3), (4, .int x4), (5, .int x5)] [] σ := by
  intro n
  induction n with
  | zero => intro x4 x5 σ h; exact absurd h (by simp [wX8_who_L59])
  | succ n ih =>
    intro x4 x5 σ h
    unfold wX8_who_L59 at h
    refine zz_iload M 5 dX8_who_59 rfl ?_
    refine zz_aload_n M 0 dX8_who_61 rfl rfl ?_
    refine zz_getR M f_X8_79 tM_0 rfl dX8_who_62 ?_
    refine zz_iload_n M 1 dX8_who_65 rfl rfl ?_
    refine zz_iald M tM_19 h.1 dX8_who_66 ?_
    have h := h.2
    refine zz_icmp_ge M 110 dX8_who_67 (by decide) (fun c => ?_) (fun c => ?_)
    · have h := zif (c := (σ.1 19 x1.toNatClampNeg) ≤ x5) h c
      refine zz_sub [(0, .ref (ad 0)), (1, .int x1), (2, .int x2), (3, .int x3), (4, .int x4)] [0, 1, 2, 3, 4] rfl ?_
      exact hK110 _ _ h
    · have h := zifn (c := (σ.1 19 x1.toNatClampNeg) ≤ x5) h c
      refine zz_iload M 4 dX8_who_70 rfl ?_
      refine zz_if_eq (y0 := 0) M 101 dX8_who_72 (by decide) (fun c => ?_) (fun c => ?_)
      · have h := zif (c := x4 = 0) h c
        refine zz_iconst (v := 0) M dX8_who_101 (by decide) ?_
        refine zz_istore M [(4, .int 0), (0, .ref (ad 0)), (1, .int x1), (2, .int x2), (3, .int x3), (5, .int x5)] dX8_who_102 (by decide) rfl ?_
        obtain ⟨x105, ex105⟩ : ∃ z : Int32, z = x5 + 1 := ⟨_, rfl⟩
        have h := h x105 ex105
        refine zz_iinc M [(5, .int x105), (4, .int 0), (0, .ref (ad 0)), (1, .int x1), (2, .int x2), (3, .int x3)] 5 dX8_who_104 rfl (n32 := 1) (by decide) ex105 (by decide) rfl ?_
        refine zz_goto M 59 dX8_who_107 (by decide) ?_
        refine zz_sub [(0, .ref (ad 0)), (1, .int x1), (2, .int x2), (3, .int x3), (4, .int 0), (5, .int x105)] [2, 3, 4, 5, 1, 0] rfl ?_
        exact ih _ _ _ h
      · have h := zifn (c := x4 = 0) h c
        refine zz_aload_n M 0 dX8_who_75 rfl rfl ?_
        refine zz_getR M f_X8_47 tM_0 rfl dX8_who_76 ?_
        refine zz_iload M 5 dX8_who_79 rfl ?_
        refine zz_iald M tM_10 h.1 dX8_who_81 ?_
        have h := h.2
        refine zz_aload_n M 0 dX8_who_82 rfl rfl ?_
        refine zz_getR M f_X8_82 tM_0 rfl dX8_who_83 ?_
        refine zz_bipush (v := 40) M dX8_who_86 (by decide) ?_
        refine zz_iload_n M 1 dX8_who_88 rfl rfl ?_
        refine zz_imul M dX8_who_89 ?_
        refine zz_iload M 5 dX8_who_90 rfl ?_
        refine zz_iadd M dX8_who_92 ?_
        refine zz_iald M tM_20 h.1 dX8_who_93 ?_
        have h := h.2
        refine zz_icmp_ne M 101 dX8_who_94 (by decide) (fun c => ?_) (fun c => ?_)
        · have h := zifn (c := (σ.1 10 x5.toNatClampNeg) = (σ.1 20 ((40 * x1) + x5 : Int32).toNatClampNeg)) h c
          refine zz_iconst (v := 0) M dX8_who_101 (by decide) ?_
          refine zz_istore M [(4, .int 0), (0, .ref (ad 0)), (1, .int x1), (2, .int x2), (3, .int x3), (5, .int x5)] dX8_who_102 (by decide) rfl ?_
          obtain ⟨x106, ex106⟩ : ∃ z : Int32, z = x5 + 1 := ⟨_, rfl⟩
          have h := h x106 ex106
          refine zz_iinc M [(5, .int x106), (4, .int 0), (0, .ref (ad 0)), (1, .int x1), (2, .int x2), (3, .int x3)] 5 dX8_who_104 rfl (n32 := 1) (by decide) ex106 (by decide) rfl ?_
          refine zz_goto M 59 dX8_who_107 (by decide) ?_
          refine zz_sub [(0, .ref (ad 0)), (1, .int x1), (2, .int x2), (3, .int x3), (4, .int 0), (5, .int x106)] [2, 3, 4, 5, 1, 0] rfl ?_
          exact ih _ _ _ h
        · have h := zif (c := (σ.1 10 x5.toNatClampNeg) = (σ.1 20 ((40 * x1) + x5 : Int32).toNatClampNeg)) h c
          refine zz_iconst (v := 1) M dX8_who_97 (by decide) ?_
          refine zz_goto M 102 dX8_who_98 (by decide) ?_
          refine zz_istore M [(4, .int 1), (0, .ref (ad 0)), (1, .int x1), (2, .int x2), (3, .int x3), (5, .int x5)] dX8_who_102 (by decide) rfl ?_
          obtain ⟨x107, ex107⟩ : ∃ z : Int32, z = x5 + 1 := ⟨_, rfl⟩
          have h := h x107 ex107
          refine zz_iinc M [(5, .int x107), (4, .int 1), (0, .ref (ad 0)), (1, .int x1), (2, .int x2), (3, .int x3)] 5 dX8_who_104 rfl (n32 := 1) (by decide) ex107 (by decide) rfl ?_
          refine zz_goto M 59 dX8_who_107 (by decide) ?_
          refine zz_sub [(0, .ref (ad 0)), (1, .int x1), (2, .int x2), (3, .int x3), (4, .int 1), (5, .int x107)] [2, 3, 4, 5, 1, 0] rfl ?_
          exact ih _ _ _ h
def wX8_who_L40 (Q : Int32 → zSt → Prop) (K131 : Int32 → zSt → Prop) (x1 : Int32) : Nat → Int32 → Int32 → zSt → Prop
  | 0, _, _, _ => False
  | n + 1, x2, x3, σ => if (σ.1 0 16) ≤ x3 then (K131 x2 σ) else (wX8_runs x3 σ (fun σ104 => wX8_who_L59 Q (fun v108 σ109 => if v108 = 0 then (∀ x110 : Int32, x110 = (x2 ||| (0 <<< (x3 &&& 31))) → (∀ x111 : Int32, x111 = x3 + 1 → (wX8_who_L40 Q K131 x1 n x110 x111 σ109))) else (∀ x112 : Int32, x112 = (x2 ||| (1 <<< (x3 &&& 31))) → (∀ x113 : Int32, x113 = x3 + 1 → (wX8_who_L40 Q K131 x1 n x112 x113 σ109)))) x1 x2 x3 300 1 0 σ104))
set_option maxRecDepth 20000 in
set_option maxHeartbeats 4000000 in
theorem sX8_who_L40 {Q : Int32 → zSt → Prop} {K131 : Int32 → zSt → Prop} (x1 : Int32)  (M : zM p s m args meth c cX8_who 6 RX8 (some .int) tabM D cA ad y) (hK131 : ∀ (v2 : Int32) (σ : zSt), K131 v2 σ → zG p l e (zrm 6) s m args below meth c 6 tabM D cA ad (MQ below (va_Qi Q (fun σ' t => va_P D vwCl (zws tabM cA ad σ') t.heap) (zIn tabM ad)) args s 0 0 (zIn tabM ad)) 131 [(2, .int v2)] [] σ) : ∀ (n : Nat) (x2 : Int32) (x3 : Int32) (σ : zSt), wX8_who_L40 Q K131 x1 n x2 x3 σ → zG p l e (zrm 6) s m args below meth c 6 tabM D cA ad (MQ below (va_Qi Q (fun σ' t => va_P D vwCl (zws tabM cA ad σ') t.heap) (zIn tabM ad)) args s 0 0 (zIn tabM ad)) 40 [(0, .ref (ad 0)), (1, .int x1), (2, .int x2), (3, .int x3)] [] σ := by
  intro n
  induction n with
  | zero => intro x2 x3 σ h; exact absurd h (by simp [wX8_who_L40])
  | succ n ih =>
    intro x2 x3 σ h
    unfold wX8_who_L40 at h
    refine zz_iload_n M 3 dX8_who_40 rfl rfl ?_
    refine zz_aload_n M 0 dX8_who_41 rfl rfl ?_
    refine zz_getI M f_X8_114 tM_0 rfl dX8_who_42 ?_
    refine zz_icmp_ge M 131 dX8_who_45 (by decide) (fun c => ?_) (fun c => ?_)
    · have h := zif (c := (σ.1 0 16) ≤ x3) h c
      refine zz_sub [(2, .int x2)] [2] rfl ?_
      exact hK131 _ _ h
    · have h := zifn (c := (σ.1 0 16) ≤ x3) h c
      refine zz_aload_n M 0 dX8_who_48 rfl rfl ?_
      refine zz_iload_n M 3 dX8_who_49 rfl rfl ?_
      refine zz_callVV (d' := 5) (As := [.int x3]) (rest := []) M l_X8_422 tM_0 rfl rfl dX8_who_50 rfl rfl (by decide) (Nat.le_of_ble_eq_true rfl) (by have hI := M.2.2.2.2.2.2.2.2; exact kX8_runs hI _  _ _ h) (fun σ104 h => ?_)
      refine zz_iconst (v := 1) M dX8_who_53 (by decide) ?_
      refine zz_istore M [(4, .int 1), (0, .ref (ad 0)), (1, .int x1), (2, .int x2), (3, .int x3)] dX8_who_54 (by decide) rfl ?_
      refine zz_iconst (v := 0) M dX8_who_56 (by decide) ?_
      refine zz_istore M [(5, .int 0), (4, .int 1), (0, .ref (ad 0)), (1, .int x1), (2, .int x2), (3, .int x3)] dX8_who_57 (by decide) rfl ?_
      refine zz_sub [(0, .ref (ad 0)), (1, .int x1), (2, .int x2), (3, .int x3), (4, .int 1), (5, .int 0)] [2, 3, 4, 5, 1, 0] rfl ?_
      refine sX8_who_L59 x1 x2 x3  M (fun v108 σ109 h => ?_) 300 _ _ _ h
      refine zz_iload_n M 2 dX8_who_110 rfl rfl ?_
      refine zz_iload M 4 dX8_who_111 rfl ?_
      refine zz_if_eq (y0 := 0) M 120 dX8_who_113 (by decide) (fun c => ?_) (fun c => ?_)
      · have h := zif (c := v108 = 0) h c
        refine zz_iconst (v := 0) M dX8_who_120 (by decide) ?_
        refine zz_iload_n M 3 dX8_who_121 rfl rfl ?_
        refine zz_ishl M dX8_who_122 ?_
        refine zz_ior M dX8_who_123 ?_
        refine zz_topi (fun x110 ex110 => ?_)
        have h := h x110 ex110
        refine zz_istore_n M [(2, .int x110), (0, .ref (ad 0)), (1, .int x1), (3, .int x3), (4, .int v108)] dX8_who_124 rfl (by decide) rfl ?_
        obtain ⟨x111, ex111⟩ : ∃ z : Int32, z = x3 + 1 := ⟨_, rfl⟩
        have h := h x111 ex111
        refine zz_iinc M [(3, .int x111), (2, .int x110), (0, .ref (ad 0)), (1, .int x1), (4, .int v108)] 3 dX8_who_125 rfl (n32 := 1) (by decide) ex111 (by decide) rfl ?_
        refine zz_goto M 40 dX8_who_128 (by decide) ?_
        refine zz_sub [(0, .ref (ad 0)), (1, .int x1), (2, .int x110), (3, .int x111)] [2, 3, 1, 0] rfl ?_
        exact ih _ _ _ h
      · have h := zifn (c := v108 = 0) h c
        refine zz_iconst (v := 1) M dX8_who_116 (by decide) ?_
        refine zz_goto M 121 dX8_who_117 (by decide) ?_
        refine zz_iload_n M 3 dX8_who_121 rfl rfl ?_
        refine zz_ishl M dX8_who_122 ?_
        refine zz_ior M dX8_who_123 ?_
        refine zz_topi (fun x112 ex112 => ?_)
        have h := h x112 ex112
        refine zz_istore_n M [(2, .int x112), (0, .ref (ad 0)), (1, .int x1), (3, .int x3), (4, .int v108)] dX8_who_124 rfl (by decide) rfl ?_
        obtain ⟨x113, ex113⟩ : ∃ z : Int32, z = x3 + 1 := ⟨_, rfl⟩
        have h := h x113 ex113
        refine zz_iinc M [(3, .int x113), (2, .int x112), (0, .ref (ad 0)), (1, .int x1), (4, .int v108)] 3 dX8_who_125 rfl (n32 := 1) (by decide) ex113 (by decide) rfl ?_
        refine zz_goto M 40 dX8_who_128 (by decide) ?_
        refine zz_sub [(0, .ref (ad 0)), (1, .int x1), (2, .int x112), (3, .int x113)] [2, 3, 1, 0] rfl ?_
        exact ih _ _ _ h
def wX8_who (x1 : Int32) (σ : zSt) (Q : Int32 → zSt → Prop) : Prop := wX8_isSheet x1 σ (fun r101 σ102 => if r101 = 0 then (Q (-2) σ102) else (vp_in x1 4 ∧ (if (σ102.1 17 x1.toNatClampNeg) = 0 then (Q (-11) σ102) else (vp_in x1 4 ∧ (if (σ102.1 19 x1.toNatClampNeg) ≤ 24 then (wX8_who_L40 Q (fun v114 σ115 => Q v114 σ115) x1 300 0 0 σ102) else (Q (-2) σ102))))))
set_option maxRecDepth 20000 in
set_option maxHeartbeats 4000000 in
theorem kX8_who (hI : zInj tabM ad) (x1 : Int32)  (σ : zSt) (Q : Int32 → zSt → Prop) (h : wX8_who x1 σ Q) : zOkI l tabM D cA ad y 6 yX8_who cX8_who 6 (some .int) [.ref (ad 0), .int x1] σ Q := by
  refine zz_enter hI (by decide) (Nat.le_of_ble_eq_true rfl) (fun p e s m below meth c M => ?_)
  have M : zM p s m _ meth c cX8_who 6 RX8 (some .int) tabM D cA ad y := M
  refine zz_ls [(0, .ref (ad 0)), (1, .int x1)] rfl ?_
  unfold wX8_who at h
  refine zz_iload_n M 1 dX8_who_0 rfl rfl ?_
  refine zz_callSI (d' := 2) (As := [.int x1]) (rest := []) M l_X8_431 dX8_who_1 rfl rfl (by decide) (Nat.le_of_ble_eq_true rfl) (by have hI := M.2.2.2.2.2.2.2.2; exact kX8_isSheet hI _  _ _ h) (fun r101 σ102 h => ?_)
  refine zz_if_ne (y0 := 0) M 10 dX8_who_4 (by decide) (fun c => ?_) (fun c => ?_)
  · have h := zifn (c := r101 = 0) h c
    refine zz_aload_n M 0 dX8_who_10 rfl rfl ?_
    refine zz_getR M f_X8_72 tM_0 rfl dX8_who_11 ?_
    refine zz_iload_n M 1 dX8_who_14 rfl rfl ?_
    refine zz_zald M tM_17 h.1 dX8_who_15 ?_
    have h := h.2
    refine zz_if_ne (y0 := 0) M 22 dX8_who_16 (by decide) (fun c => ?_) (fun c => ?_)
    · have h := zifn (c := (σ102.1 17 x1.toNatClampNeg) = 0) h c
      refine zz_aload_n M 0 dX8_who_22 rfl rfl ?_
      refine zz_getR M f_X8_79 tM_0 rfl dX8_who_23 ?_
      refine zz_iload_n M 1 dX8_who_26 rfl rfl ?_
      refine zz_iald M tM_19 h.1 dX8_who_27 ?_
      have h := h.2
      refine zz_bipush (v := 24) M dX8_who_28 (by decide) ?_
      refine zz_icmp_le M 36 dX8_who_30 (by decide) (fun c => ?_) (fun c => ?_)
      · have h := zif (c := (σ102.1 19 x1.toNatClampNeg) ≤ 24) h c
        refine zz_iconst (v := 0) M dX8_who_36 (by decide) ?_
        refine zz_istore_n M [(2, .int 0), (0, .ref (ad 0)), (1, .int x1)] dX8_who_37 rfl (by decide) rfl ?_
        refine zz_iconst (v := 0) M dX8_who_38 (by decide) ?_
        refine zz_istore_n M [(3, .int 0), (2, .int 0), (0, .ref (ad 0)), (1, .int x1)] dX8_who_39 rfl (by decide) rfl ?_
        refine zz_sub [(0, .ref (ad 0)), (1, .int x1), (2, .int 0), (3, .int 0)] [2, 3, 1, 0] rfl ?_
        refine sX8_who_L40 x1  M (fun v114 σ115 h => ?_) 300 _ _ _ h
        refine zz_iload_n M 0 dX8_who_131 rfl rfl ?_
        exact zz_iret M dX8_who_132 h
      · have h := zifn (c := (σ102.1 19 x1.toNatClampNeg) ≤ 24) h c
        refine zz_bipush (v := (-2)) M dX8_who_33 (by decide) ?_
        exact zz_iret M dX8_who_35 h
    · have h := zif (c := (σ102.1 17 x1.toNatClampNeg) = 0) h c
      refine zz_bipush (v := (-11)) M dX8_who_19 (by decide) ?_
      exact zz_iret M dX8_who_21 h
  · have h := zif (c := r101 = 0) h c
    refine zz_bipush (v := (-2)) M dX8_who_7 (by decide) ?_
    exact zz_iret M dX8_who_9 h
def wX8_draws_L4 (Q : zSt → Prop) (K38 : zSt → Prop)  : Nat → Int32 → Int32 → zSt → Prop
  | 0, _, _, _ => False
  | n + 1, x2, x3, σ => if 24 ≤ x3 then (K38  σ) else (∀ x101 : Int32, x101 = ((x2 * 1103515245) + 12345) → (vp_in x3 24 ∧ (∀ σ102 : zSt, σ102 = zput σ 10 x3.toNatClampNeg (((x101.toUInt32 >>> ((8 : Int32).toUInt32 &&& Int32.toUInt32 31)).toInt32) - ((x101.toUInt32 >>> ((8 : Int32).toUInt32 &&& Int32.toUInt32 31)).toInt32) / 3 * 3) → (∀ x103 : Int32, x103 = x3 + 1 → (wX8_draws_L4 Q K38  n x101 x103 σ102)))))
set_option maxRecDepth 20000 in
set_option maxHeartbeats 4000000 in
theorem sX8_draws_L4 {Q : zSt → Prop} {K38 : zSt → Prop}   (M : zM p s m args meth c cX8_draws 4 RX8 none tabM D cA ad y) (hK38 : ∀ (σ : zSt), K38  σ → zG p l e (zrm 1) s m args below meth c 4 tabM D cA ad (MQ below (va_Qv Q (fun σ' t => va_P D vwCl (zws tabM cA ad σ') t.heap) (zIn tabM ad)) args s 0 0 (zIn tabM ad)) 38 [] [] σ) : ∀ (n : Nat) (x2 : Int32) (x3 : Int32) (σ : zSt), wX8_draws_L4 Q K38  n x2 x3 σ → zG p l e (zrm 1) s m args below meth c 4 tabM D cA ad (MQ below (va_Qv Q (fun σ' t => va_P D vwCl (zws tabM cA ad σ') t.heap) (zIn tabM ad)) args s 0 0 (zIn tabM ad)) 4 [(0, .ref (ad 0)), (2, .int x2), (3, .int x3)] [] σ := by
  intro n
  induction n with
  | zero => intro x2 x3 σ h; exact absurd h (by simp [wX8_draws_L4])
  | succ n ih =>
    intro x2 x3 σ h
    unfold wX8_draws_L4 at h
    refine zz_iload_n M 2 dX8_draws_4 rfl rfl ?_
    refine zz_bipush (v := 24) M dX8_draws_5 (by decide) ?_
    refine zz_icmp_ge M 38 dX8_draws_7 (by decide) (fun c => ?_) (fun c => ?_)
    · have h := zif (c := 24 ≤ x3) h c
      refine zz_sub [] [] rfl ?_
      exact hK38  _ h
    · have h := zifn (c := 24 ≤ x3) h c
      refine zz_iload_n M 1 dX8_draws_10 rfl rfl ?_
      refine zz_ldcw (v := 1103515245) M k_X8_434 dX8_draws_11 ?_
      refine zz_imul M dX8_draws_14 ?_
      refine zz_sipush (v := 12345) M dX8_draws_15 (by decide) ?_
      refine zz_iadd M dX8_draws_18 ?_
      refine zz_topi (fun x101 ex101 => ?_)
      have h := h x101 ex101
      refine zz_istore_n M [(2, .int x101), (0, .ref (ad 0)), (3, .int x3)] dX8_draws_19 rfl (by decide) rfl ?_
      refine zz_aload_n M 1 dX8_draws_20 rfl rfl ?_
      refine zz_getR M f_X8_47 tM_0 rfl dX8_draws_21 ?_
      refine zz_iload_n M 2 dX8_draws_24 rfl rfl ?_
      refine zz_iload_n M 0 dX8_draws_25 rfl rfl ?_
      refine zz_bipush (v := 8) M dX8_draws_26 (by decide) ?_
      refine zz_iushr M dX8_draws_28 ?_
      refine zz_iconst (v := 3) M dX8_draws_29 (by decide) ?_
      refine zz_irem M dX8_draws_30 (by decide) ?_
      refine zz_iast M tM_10 h.1 dX8_draws_31 ?_
      have h := h.2
      refine zz_sg (fun σ102 eσ102 => ?_)
      have h := h σ102 eσ102
      obtain ⟨x103, ex103⟩ : ∃ z : Int32, z = x3 + 1 := ⟨_, rfl⟩
      have h := h x103 ex103
      refine zz_iinc M [(3, .int x103), (2, .int x101), (0, .ref (ad 0))] 2 dX8_draws_32 rfl (n32 := 1) (by decide) ex103 (by decide) rfl ?_
      refine zz_goto M 4 dX8_draws_35 (by decide) ?_
      refine zz_sub [(0, .ref (ad 0)), (2, .int x101), (3, .int x103)] [2, 1, 0] rfl ?_
      exact ih _ _ _ h
def wX8_draws (x1 : Int32) (σ : zSt) (Q : zSt → Prop) : Prop := wX8_draws_L4 Q (fun  σ104 => Q σ104)  300 x1 0 σ
set_option maxRecDepth 20000 in
set_option maxHeartbeats 4000000 in
theorem kX8_draws (hI : zInj tabM ad) (x1 : Int32)  (σ : zSt) (Q : zSt → Prop) (h : wX8_draws x1 σ Q) : zOkV l tabM D cA ad y 1 yX8_draws cX8_draws 4 none [.ref (ad 0), .int x1] σ Q := by
  refine zz_enter hI (by decide) (Nat.le_of_ble_eq_true rfl) (fun p e s m below meth c M => ?_)
  have M : zM p s m _ meth c cX8_draws 4 RX8 none tabM D cA ad y := M
  refine zz_ls [(0, .ref (ad 0)), (1, .int x1)] rfl ?_
  unfold wX8_draws at h
  refine zz_iload_n M 1 dX8_draws_0 rfl rfl ?_
  refine zz_istore_n M [(2, .int x1), (0, .ref (ad 0)), (1, .int x1)] dX8_draws_1 rfl (by decide) rfl ?_
  refine zz_iconst (v := 0) M dX8_draws_2 (by decide) ?_
  refine zz_istore_n M [(3, .int 0), (2, .int x1), (0, .ref (ad 0)), (1, .int x1)] dX8_draws_3 rfl (by decide) rfl ?_
  refine zz_sub [(0, .ref (ad 0)), (2, .int x1), (3, .int 0)] [2, 1, 0] rfl ?_
  refine sX8_draws_L4   M (fun  σ104 h => ?_) 300 _ _ _ h
  exact zz_vret M dX8_draws_38 h
def wX8_drawn (x1 : Int32) (σ : zSt) (Q : Int32 → zSt → Prop) : Prop := wX8_draws x1 σ (fun σ102 => wX8_rowCost  σ102 (fun r103 σ104 => Q r103 σ104))
set_option maxRecDepth 20000 in
set_option maxHeartbeats 4000000 in
theorem kX8_drawn (hI : zInj tabM ad) (x1 : Int32)  (σ : zSt) (Q : Int32 → zSt → Prop) (h : wX8_drawn x1 σ Q) : zOkI l tabM D cA ad y 45 yX8_drawn cX8_drawn 2 (some .int) [.ref (ad 0), .int x1] σ Q := by
  refine zz_enter hI (by decide) (Nat.le_of_ble_eq_true rfl) (fun p e s m below meth c M => ?_)
  have M : zM p s m _ meth c cX8_drawn 2 RX8 (some .int) tabM D cA ad y := M
  refine zz_ls [(0, .ref (ad 0)), (1, .int x1)] rfl ?_
  unfold wX8_drawn at h
  refine zz_aload_n M 0 dX8_drawn_0 rfl rfl ?_
  refine zz_iload_n M 1 dX8_drawn_1 rfl rfl ?_
  refine zz_callVV (d' := 1) (As := [.int x1]) (rest := []) M l_X8_435 tM_0 rfl rfl dX8_drawn_2 rfl rfl (by decide) (Nat.le_of_ble_eq_true rfl) (by have hI := M.2.2.2.2.2.2.2.2; exact kX8_draws hI _  _ _ h) (fun σ102 h => ?_)
  refine zz_aload_n M 0 dX8_drawn_5 rfl rfl ?_
  refine zz_callVI (d' := 44) (As := []) (rest := []) M l_X8_359 tM_0 rfl rfl dX8_drawn_6 rfl rfl (by decide) (Nat.le_of_ble_eq_true rfl) (by have hI := M.2.2.2.2.2.2.2.2; exact kX8_rowCost hI   _ _ h) (fun r103 σ104 h => ?_)
  exact zz_iret M dX8_drawn_9 h
def wX8_chance_L32 (Q : Int64 → zSt → Prop) (K78 : Int64 → zSt → Prop) (x1 : Int32) (x2 : Int32) (x3 : Int32) : Nat → Int64 → Int32 → zSt → Prop
  | 0, _, _, _ => False
  | n + 1, x4, x6, σ => if x2 ≤ x6 then (K78 x4 σ) else (∀ a107 : Int32, a107 = (x1 + x6) → (wX8_draws a107 σ (fun σ109 => wX8_rowThrough  σ109 (fun r110 σ111 => if r110 = ((σ111.1 0 10) + (σ111.1 0 11)) then (∀ x114 : Int64, x114 = (x4 + 1) → (∀ x115 : Int32, x115 = x6 + 1 → (wX8_chance_L32 Q K78 x1 x2 x3 n x114 x115 σ111))) else (∀ x112 : Int64, x112 = (x4 + 0) → (∀ x113 : Int32, x113 = x6 + 1 → (wX8_chance_L32 Q K78 x1 x2 x3 n x112 x113 σ111)))))))
set_option maxRecDepth 20000 in
set_option maxHeartbeats 4000000 in
theorem sX8_chance_L32 {Q : Int64 → zSt → Prop} {K78 : Int64 → zSt → Prop} (x1 : Int32) (x2 : Int32) (x3 : Int32)  (M : zM p s m args meth c cX8_chance 12 RX8 (some .long) tabM D cA ad y) (hK78 : ∀ (v4 : Int64) (σ : zSt), K78 v4 σ → zG p l e (zrm 4) s m args below meth c 12 tabM D cA ad (MQ below (va_Ql Q (fun σ' t => va_P D vwCl (zws tabM cA ad σ') t.heap) (zIn tabM ad)) args s 0 0 (zIn tabM ad)) 78 [(2, .int x2), (3, .int x3), (4, .long v4)] [] σ) : ∀ (n : Nat) (x4 : Int64) (x6 : Int32) (σ : zSt), wX8_chance_L32 Q K78 x1 x2 x3 n x4 x6 σ → zG p l e (zrm 4) s m args below meth c 12 tabM D cA ad (MQ below (va_Ql Q (fun σ' t => va_P D vwCl (zws tabM cA ad σ') t.heap) (zIn tabM ad)) args s 0 0 (zIn tabM ad)) 32 [(0, .ref (ad 0)), (1, .int x1), (2, .int x2), (3, .int x3), (4, .long x4), (6, .int x6)] [] σ := by
  intro n
  induction n with
  | zero => intro x4 x6 σ h; exact absurd h (by simp [wX8_chance_L32])
  | succ n ih =>
    intro x4 x6 σ h
    unfold wX8_chance_L32 at h
    refine zz_iload M 5 dX8_chance_32 rfl ?_
    refine zz_iload_n M 2 dX8_chance_34 rfl rfl ?_
    refine zz_icmp_ge M 78 dX8_chance_35 (by decide) (fun c => ?_) (fun c => ?_)
    · have h := zif (c := x2 ≤ x6) h c
      refine zz_sub [(2, .int x2), (3, .int x3), (4, .long x4)] [2, 3, 4] rfl ?_
      exact hK78 _ _ h
    · have h := zifn (c := x2 ≤ x6) h c
      refine zz_aload_n M 0 dX8_chance_38 rfl rfl ?_
      refine zz_iload_n M 1 dX8_chance_39 rfl rfl ?_
      refine zz_iload M 5 dX8_chance_40 rfl ?_
      refine zz_iadd M dX8_chance_42 ?_
      obtain ⟨a107, ea107⟩ : ∃ z : Int32, z = (x1 + x6) := ⟨_, rfl⟩
      have h := h a107 ea107
      refine zz_st [.int a107, .ref (ad 0)] (by rw [ea107]) ?_
      refine zz_callVV (d' := 1) (As := [.int a107]) (rest := []) M l_X8_435 tM_0 rfl rfl dX8_chance_43 rfl rfl (by decide) (Nat.le_of_ble_eq_true rfl) (by have hI := M.2.2.2.2.2.2.2.2; exact kX8_draws hI _  _ _ h) (fun σ109 h => ?_)
      refine zz_lload M 4 dX8_chance_46 rfl ?_
      refine zz_aload_n M 0 dX8_chance_48 rfl rfl ?_
      refine zz_callVI (d' := 3) (As := []) (rest := [.long x4]) M l_X8_365 tM_0 rfl rfl dX8_chance_49 rfl rfl (by decide) (Nat.le_of_ble_eq_true rfl) (by have hI := M.2.2.2.2.2.2.2.2; exact kX8_rowThrough hI   _ _ h) (fun r110 σ111 h => ?_)
      refine zz_aload_n M 0 dX8_chance_52 rfl rfl ?_
      refine zz_getI M f_X8_96 tM_0 rfl dX8_chance_53 ?_
      refine zz_aload_n M 0 dX8_chance_56 rfl rfl ?_
      refine zz_getI M f_X8_99 tM_0 rfl dX8_chance_57 ?_
      refine zz_iadd M dX8_chance_60 ?_
      refine zz_icmp_ne M 68 dX8_chance_61 (by decide) (fun c => ?_) (fun c => ?_)
      · have h := zifn (c := r110 = ((σ111.1 0 10) + (σ111.1 0 11))) h c
        refine zz_lconst (v := 0) M dX8_chance_68 (by decide) ?_
        refine zz_ladd M dX8_chance_69 ?_
        refine zz_topl (fun x112 ex112 => ?_)
        have h := h x112 ex112
        refine zz_lstore M [(4, .long x112), (0, .ref (ad 0)), (1, .int x1), (2, .int x2), (3, .int x3), (6, .int x6)] dX8_chance_70 (by decide) rfl ?_
        obtain ⟨x113, ex113⟩ : ∃ z : Int32, z = x6 + 1 := ⟨_, rfl⟩
        have h := h x113 ex113
        refine zz_iinc M [(6, .int x113), (4, .long x112), (0, .ref (ad 0)), (1, .int x1), (2, .int x2), (3, .int x3)] 5 dX8_chance_72 rfl (n32 := 1) (by decide) ex113 (by decide) rfl ?_
        refine zz_goto M 32 dX8_chance_75 (by decide) ?_
        refine zz_sub [(0, .ref (ad 0)), (1, .int x1), (2, .int x2), (3, .int x3), (4, .long x112), (6, .int x113)] [2, 3, 4, 5, 1, 0] rfl ?_
        exact ih _ _ _ h
      · have h := zif (c := r110 = ((σ111.1 0 10) + (σ111.1 0 11))) h c
        refine zz_lconst (v := 1) M dX8_chance_64 (by decide) ?_
        refine zz_goto M 69 dX8_chance_65 (by decide) ?_
        refine zz_ladd M dX8_chance_69 ?_
        refine zz_topl (fun x114 ex114 => ?_)
        have h := h x114 ex114
        refine zz_lstore M [(4, .long x114), (0, .ref (ad 0)), (1, .int x1), (2, .int x2), (3, .int x3), (6, .int x6)] dX8_chance_70 (by decide) rfl ?_
        obtain ⟨x115, ex115⟩ : ∃ z : Int32, z = x6 + 1 := ⟨_, rfl⟩
        have h := h x115 ex115
        refine zz_iinc M [(6, .int x115), (4, .long x114), (0, .ref (ad 0)), (1, .int x1), (2, .int x2), (3, .int x3)] 5 dX8_chance_72 rfl (n32 := 1) (by decide) ex115 (by decide) rfl ?_
        refine zz_goto M 32 dX8_chance_75 (by decide) ?_
        refine zz_sub [(0, .ref (ad 0)), (1, .int x1), (2, .int x2), (3, .int x3), (4, .long x114), (6, .int x115)] [2, 3, 4, 5, 1, 0] rfl ?_
        exact ih _ _ _ h
def wX8_chance_L86 (Q : Int64 → zSt → Prop) (K111 : Int64 → zSt → Prop) (x2 : Int32) (x3 : Int32) (x4 : Int64) : Nat → Int64 → Int64 → zSt → Prop
  | 0, _, _, _ => False
  | n + 1, x6, x8, σ => if (lg_cmp x8 0) = 0 then (K111 x6 σ) else (¬ x8 = 0 ∧ (∀ x119 : Int64, x119 = (x6 - x6 / x8 * x8) → (wX8_chance_L86 Q K111 x2 x3 x4 n x8 x119 σ)))
set_option maxRecDepth 20000 in
set_option maxHeartbeats 4000000 in
theorem sX8_chance_L86 {Q : Int64 → zSt → Prop} {K111 : Int64 → zSt → Prop} (x2 : Int32) (x3 : Int32) (x4 : Int64)  (M : zM p s m args meth c cX8_chance 12 RX8 (some .long) tabM D cA ad y) (hK111 : ∀ (v6 : Int64) (σ : zSt), K111 v6 σ → zG p l e (zrm 4) s m args below meth c 12 tabM D cA ad (MQ below (va_Ql Q (fun σ' t => va_P D vwCl (zws tabM cA ad σ') t.heap) (zIn tabM ad)) args s 0 0 (zIn tabM ad)) 111 [(2, .int x2), (3, .int x3), (4, .long x4), (6, .long v6)] [] σ) : ∀ (n : Nat) (x6 : Int64) (x8 : Int64) (σ : zSt), wX8_chance_L86 Q K111 x2 x3 x4 n x6 x8 σ → zG p l e (zrm 4) s m args below meth c 12 tabM D cA ad (MQ below (va_Ql Q (fun σ' t => va_P D vwCl (zws tabM cA ad σ') t.heap) (zIn tabM ad)) args s 0 0 (zIn tabM ad)) 86 [(2, .int x2), (3, .int x3), (4, .long x4), (6, .long x6), (8, .long x8)] [] σ := by
  intro n
  induction n with
  | zero => intro x6 x8 σ h; exact absurd h (by simp [wX8_chance_L86])
  | succ n ih =>
    intro x6 x8 σ h
    unfold wX8_chance_L86 at h
    refine zz_lload M 4 dX8_chance_86 rfl ?_
    refine zz_lconst (v := 0) M dX8_chance_88 (by decide) ?_
    refine zz_lcmp M dX8_chance_89 ?_
    refine zz_if_eq (y0 := 0) M 111 dX8_chance_90 (by decide) (fun c => ?_) (fun c => ?_)
    · have h := zif (c := (lg_cmp x8 0) = 0) h c
      refine zz_sub [(2, .int x2), (3, .int x3), (4, .long x4), (6, .long x6)] [0, 1, 2, 3] rfl ?_
      exact hK111 _ _ h
    · have h := zifn (c := (lg_cmp x8 0) = 0) h c
      refine zz_lload M 3 dX8_chance_93 rfl ?_
      refine zz_lload M 4 dX8_chance_95 rfl ?_
      refine zz_lrem M dX8_chance_97 h.1 ?_
      have h := h.2
      refine zz_topl (fun x119 ex119 => ?_)
      have h := h x119 ex119
      refine zz_lstore M [(10, .long x119), (2, .int x2), (3, .int x3), (4, .long x4), (6, .long x6), (8, .long x8)] dX8_chance_98 (by decide) rfl ?_
      refine zz_lload M 5 dX8_chance_100 rfl ?_
      refine zz_lstore M [(6, .long x8), (10, .long x119), (2, .int x2), (3, .int x3), (4, .long x4), (8, .long x8)] dX8_chance_102 (by decide) rfl ?_
      refine zz_lload M 1 dX8_chance_104 rfl ?_
      refine zz_lstore M [(8, .long x119), (6, .long x8), (10, .long x119), (2, .int x2), (3, .int x3), (4, .long x4)] dX8_chance_106 (by decide) rfl ?_
      refine zz_goto M 86 dX8_chance_108 (by decide) ?_
      refine zz_sub [(2, .int x2), (3, .int x3), (4, .long x4), (6, .long x8), (8, .long x119)] [3, 4, 5, 1, 0] rfl ?_
      exact ih _ _ _ h
def wX8_chance (x1 : Int32) (x2 : Int32) (x3 : Int32) (σ : zSt) (Q : Int64 → zSt → Prop) : Prop := ∀ a101 : Int64, a101 = ((x2 : Int32).toInt64) → (wX8_in a101 1 20 σ (fun r102 σ103 => if r102 = 0 then (Q (-4611686018427387904) σ103) else (∀ a104 : Int64, a104 = ((x3 : Int32).toInt64) → (wX8_in a104 0 1 σ103 (fun r105 σ106 => if r105 = 0 then (Q (-4611686018427387904) σ106) else (wX8_chance_L32 Q (fun v116 σ117 => ∀ x118 : Int64, x118 = ((x2 : Int32).toInt64) → (wX8_chance_L86 Q (fun v120 σ121 => if x3 = 0 then (¬ v120 = 0 ∧ (Q (v116 / v120) σ121)) else (¬ v120 = 0 ∧ (Q (((x2 : Int32).toInt64) / v120) σ121))) x2 x3 v116 300 v116 x118 σ117)) x1 x2 x3 300 0 0 σ106))))))
set_option maxRecDepth 20000 in
set_option maxHeartbeats 4000000 in
theorem kX8_chance (hI : zInj tabM ad) (x1 : Int32) (x2 : Int32) (x3 : Int32)  (σ : zSt) (Q : Int64 → zSt → Prop) (h : wX8_chance x1 x2 x3 σ Q) : zOkL l tabM D cA ad y 4 yX8_chance cX8_chance 12 (some .long) [.ref (ad 0), .int x1, .int x2, .int x3] σ Q := by
  refine zz_enter hI (by decide) (Nat.le_of_ble_eq_true rfl) (fun p e s m below meth c M => ?_)
  have M : zM p s m _ meth c cX8_chance 12 RX8 (some .long) tabM D cA ad y := M
  refine zz_ls [(0, .ref (ad 0)), (1, .int x1), (2, .int x2), (3, .int x3)] rfl ?_
  unfold wX8_chance at h
  refine zz_iload_n M 2 dX8_chance_0 rfl rfl ?_
  refine zz_i2l M dX8_chance_1 ?_
  refine zz_lconst (v := 1) M dX8_chance_2 (by decide) ?_
  refine zz_ldc2 (v := 20) M k_X8_438 dX8_chance_3 ?_
  obtain ⟨a101, ea101⟩ : ∃ z : Int64, z = ((x2 : Int32).toInt64) := ⟨_, rfl⟩
  have h := h a101 ea101
  refine zz_st [.long 20, .long 1, .long a101] (by rw [ea101]) ?_
  refine zz_callSI (d' := 1) (As := [.long a101, .long 1, .long 20]) (rest := []) M l_X8_92 dX8_chance_6 rfl rfl (by decide) (Nat.le_of_ble_eq_true rfl) (by have hI := M.2.2.2.2.2.2.2.2; exact kX8_in hI _ _ _  _ _ h) (fun r102 σ103 h => ?_)
  refine zz_if_eq (y0 := 0) M 22 dX8_chance_9 (by decide) (fun c => ?_) (fun c => ?_)
  · have h := zif (c := r102 = 0) h c
    refine zz_ldc2 (v := (-4611686018427387904)) M k_X8_440 dX8_chance_22 ?_
    exact zz_lret M dX8_chance_25 h
  · have h := zifn (c := r102 = 0) h c
    refine zz_iload_n M 3 dX8_chance_12 rfl rfl ?_
    refine zz_i2l M dX8_chance_13 ?_
    refine zz_lconst (v := 0) M dX8_chance_14 (by decide) ?_
    refine zz_lconst (v := 1) M dX8_chance_15 (by decide) ?_
    obtain ⟨a104, ea104⟩ : ∃ z : Int64, z = ((x3 : Int32).toInt64) := ⟨_, rfl⟩
    have h := h a104 ea104
    refine zz_st [.long 1, .long 0, .long a104] (by rw [ea104]) ?_
    refine zz_callSI (d' := 1) (As := [.long a104, .long 0, .long 1]) (rest := []) M l_X8_92 dX8_chance_16 rfl rfl (by decide) (Nat.le_of_ble_eq_true rfl) (by have hI := M.2.2.2.2.2.2.2.2; exact kX8_in hI _ _ _  _ _ h) (fun r105 σ106 h => ?_)
    refine zz_if_ne (y0 := 0) M 26 dX8_chance_19 (by decide) (fun c => ?_) (fun c => ?_)
    · have h := zifn (c := r105 = 0) h c
      refine zz_lconst (v := 0) M dX8_chance_26 (by decide) ?_
      refine zz_lstore M [(4, .long 0), (0, .ref (ad 0)), (1, .int x1), (2, .int x2), (3, .int x3)] dX8_chance_27 (by decide) rfl ?_
      refine zz_iconst (v := 0) M dX8_chance_29 (by decide) ?_
      refine zz_istore M [(6, .int 0), (4, .long 0), (0, .ref (ad 0)), (1, .int x1), (2, .int x2), (3, .int x3)] dX8_chance_30 (by decide) rfl ?_
      refine zz_sub [(0, .ref (ad 0)), (1, .int x1), (2, .int x2), (3, .int x3), (4, .long 0), (6, .int 0)] [2, 3, 4, 5, 1, 0] rfl ?_
      refine sX8_chance_L32 x1 x2 x3  M (fun v116 σ117 h => ?_) 300 _ _ _ h
      refine zz_lload M 2 dX8_chance_78 rfl ?_
      refine zz_lstore M [(6, .long v116), (2, .int x2), (3, .int x3), (4, .long v116)] dX8_chance_80 (by decide) rfl ?_
      refine zz_iload_n M 1 dX8_chance_82 rfl rfl ?_
      refine zz_i2l M dX8_chance_83 ?_
      refine zz_topl (fun x118 ex118 => ?_)
      have h := h x118 ex118
      refine zz_lstore M [(8, .long x118), (6, .long v116), (2, .int x2), (3, .int x3), (4, .long v116)] dX8_chance_84 (by decide) rfl ?_
      refine zz_sub [(2, .int x2), (3, .int x3), (4, .long v116), (6, .long v116), (8, .long x118)] [2, 3, 4, 1, 0] rfl ?_
      refine sX8_chance_L86 x2 x3 v116  M (fun v120 σ121 h => ?_) 300 _ _ _ h
      refine zz_iload_n M 1 dX8_chance_111 rfl rfl ?_
      refine zz_if_ne (y0 := 0) M 123 dX8_chance_112 (by decide) (fun c => ?_) (fun c => ?_)
      · have h := zifn (c := x3 = 0) h c
        refine zz_iload_n M 0 dX8_chance_123 rfl rfl ?_
        refine zz_i2l M dX8_chance_124 ?_
        refine zz_lload M 3 dX8_chance_125 rfl ?_
        refine zz_ldiv M dX8_chance_127 h.1 ?_
        have h := h.2
        exact zz_lret M dX8_chance_128 h
      · have h := zif (c := x3 = 0) h c
        refine zz_lload M 2 dX8_chance_115 rfl ?_
        refine zz_lload M 3 dX8_chance_117 rfl ?_
        refine zz_ldiv M dX8_chance_119 h.1 ?_
        have h := h.2
        refine zz_goto M 128 dX8_chance_120 (by decide) ?_
        exact zz_lret M dX8_chance_128 h
    · have h := zif (c := r105 = 0) h c
      refine zz_ldc2 (v := (-4611686018427387904)) M k_X8_440 dX8_chance_22 ?_
      exact zz_lret M dX8_chance_25 h
def wX8_image_L2 (Q : Int32 → zSt → Prop) (K26 : zSt → Prop)  : Nat → Int32 → zSt → Prop
  | 0, _, _ => False
  | n + 1, x1, σ => if 24 ≤ x1 then (K26  σ) else (vp_in x1 24 ∧ (vp_in x1 24 ∧ (∀ σ101 : zSt, σ101 = zput σ 14 x1.toNatClampNeg (σ.1 9 x1.toNatClampNeg) → (∀ x102 : Int32, x102 = x1 + 1 → (wX8_image_L2 Q K26  n x102 σ101)))))
set_option maxRecDepth 20000 in
set_option maxHeartbeats 4000000 in
theorem sX8_image_L2 {Q : Int32 → zSt → Prop} {K26 : zSt → Prop}   (M : zM p s m args meth c cX8_image 2 RX8 (some .int) tabM D cA ad y) (hK26 : ∀ (σ : zSt), K26  σ → zG p l e (zrm 1) s m args below meth c 2 tabM D cA ad (MQ below (va_Qi Q (fun σ' t => va_P D vwCl (zws tabM cA ad σ') t.heap) (zIn tabM ad)) args s 0 0 (zIn tabM ad)) 26 [(0, .ref (ad 0))] [] σ) : ∀ (n : Nat) (x1 : Int32) (σ : zSt), wX8_image_L2 Q K26  n x1 σ → zG p l e (zrm 1) s m args below meth c 2 tabM D cA ad (MQ below (va_Qi Q (fun σ' t => va_P D vwCl (zws tabM cA ad σ') t.heap) (zIn tabM ad)) args s 0 0 (zIn tabM ad)) 2 [(0, .ref (ad 0)), (1, .int x1)] [] σ := by
  intro n
  induction n with
  | zero => intro x1 σ h; exact absurd h (by simp [wX8_image_L2])
  | succ n ih =>
    intro x1 σ h
    unfold wX8_image_L2 at h
    refine zz_iload_n M 1 dX8_image_2 rfl rfl ?_
    refine zz_bipush (v := 24) M dX8_image_3 (by decide) ?_
    refine zz_icmp_ge M 26 dX8_image_5 (by decide) (fun c => ?_) (fun c => ?_)
    · have h := zif (c := 24 ≤ x1) h c
      refine zz_sub [(0, .ref (ad 0))] [0] rfl ?_
      exact hK26  _ h
    · have h := zifn (c := 24 ≤ x1) h c
      refine zz_aload_n M 0 dX8_image_8 rfl rfl ?_
      refine zz_getR M f_X8_60 tM_0 rfl dX8_image_9 ?_
      refine zz_iload_n M 1 dX8_image_12 rfl rfl ?_
      refine zz_aload_n M 0 dX8_image_13 rfl rfl ?_
      refine zz_getR M f_X8_44 tM_0 rfl dX8_image_14 ?_
      refine zz_iload_n M 1 dX8_image_17 rfl rfl ?_
      refine zz_iald M tM_9 h.1 dX8_image_18 ?_
      have h := h.2
      refine zz_iast M tM_14 h.1 dX8_image_19 ?_
      have h := h.2
      refine zz_sg (fun σ101 eσ101 => ?_)
      have h := h σ101 eσ101
      obtain ⟨x102, ex102⟩ : ∃ z : Int32, z = x1 + 1 := ⟨_, rfl⟩
      have h := h x102 ex102
      refine zz_iinc M [(1, .int x102), (0, .ref (ad 0))] 1 dX8_image_20 rfl (n32 := 1) (by decide) ex102 (by decide) rfl ?_
      refine zz_goto M 2 dX8_image_23 (by decide) ?_
      refine zz_sub [(0, .ref (ad 0)), (1, .int x102)] [1, 0] rfl ?_
      exact ih _ _ h
def wX8_image_L28 (Q : Int32 → zSt → Prop) (K82 : zSt → Prop)  : Nat → Int32 → zSt → Prop
  | 0, _, _ => False
  | n + 1, x1, σ => if 8 ≤ x1 then (K82  σ) else (vp_in x1 8 ∧ (vp_in x1 24 ∧ (∀ σ104 : zSt, σ104 = zput σ 15 x1.toNatClampNeg (σ.1 4 x1.toNatClampNeg) → (vp_in x1 8 ∧ (vp_in (8 + x1) 24 ∧ (∀ σ105 : zSt, σ105 = zput σ104 15 (8 + x1 : Int32).toNatClampNeg (σ104.1 5 x1.toNatClampNeg) → (vp_in x1 8 ∧ (vp_in (16 + x1) 24 ∧ (∀ σ106 : zSt, σ106 = zput σ105 15 (16 + x1 : Int32).toNatClampNeg (σ105.1 6 x1.toNatClampNeg) → (∀ x107 : Int32, x107 = x1 + 1 → (wX8_image_L28 Q K82  n x107 σ106)))))))))))
set_option maxRecDepth 20000 in
set_option maxHeartbeats 4000000 in
theorem sX8_image_L28 {Q : Int32 → zSt → Prop} {K82 : zSt → Prop}   (M : zM p s m args meth c cX8_image 2 RX8 (some .int) tabM D cA ad y) (hK82 : ∀ (σ : zSt), K82  σ → zG p l e (zrm 1) s m args below meth c 2 tabM D cA ad (MQ below (va_Qi Q (fun σ' t => va_P D vwCl (zws tabM cA ad σ') t.heap) (zIn tabM ad)) args s 0 0 (zIn tabM ad)) 82 [(0, .ref (ad 0))] [] σ) : ∀ (n : Nat) (x1 : Int32) (σ : zSt), wX8_image_L28 Q K82  n x1 σ → zG p l e (zrm 1) s m args below meth c 2 tabM D cA ad (MQ below (va_Qi Q (fun σ' t => va_P D vwCl (zws tabM cA ad σ') t.heap) (zIn tabM ad)) args s 0 0 (zIn tabM ad)) 28 [(0, .ref (ad 0)), (1, .int x1)] [] σ := by
  intro n
  induction n with
  | zero => intro x1 σ h; exact absurd h (by simp [wX8_image_L28])
  | succ n ih =>
    intro x1 σ h
    unfold wX8_image_L28 at h
    refine zz_iload_n M 1 dX8_image_28 rfl rfl ?_
    refine zz_bipush (v := 8) M dX8_image_29 (by decide) ?_
    refine zz_icmp_ge M 82 dX8_image_31 (by decide) (fun c => ?_) (fun c => ?_)
    · have h := zif (c := 8 ≤ x1) h c
      refine zz_sub [(0, .ref (ad 0))] [0] rfl ?_
      exact hK82  _ h
    · have h := zifn (c := 8 ≤ x1) h c
      refine zz_aload_n M 0 dX8_image_34 rfl rfl ?_
      refine zz_getR M f_X8_63 tM_0 rfl dX8_image_35 ?_
      refine zz_iload_n M 1 dX8_image_38 rfl rfl ?_
      refine zz_aload_n M 0 dX8_image_39 rfl rfl ?_
      refine zz_getR M f_X8_23 tM_0 rfl dX8_image_40 ?_
      refine zz_iload_n M 1 dX8_image_43 rfl rfl ?_
      refine zz_iald M tM_4 h.1 dX8_image_44 ?_
      have h := h.2
      refine zz_iast M tM_15 h.1 dX8_image_45 ?_
      have h := h.2
      refine zz_sg (fun σ104 eσ104 => ?_)
      have h := h σ104 eσ104
      refine zz_aload_n M 0 dX8_image_46 rfl rfl ?_
      refine zz_getR M f_X8_63 tM_0 rfl dX8_image_47 ?_
      refine zz_bipush (v := 8) M dX8_image_50 (by decide) ?_
      refine zz_iload_n M 1 dX8_image_52 rfl rfl ?_
      refine zz_iadd M dX8_image_53 ?_
      refine zz_aload_n M 0 dX8_image_54 rfl rfl ?_
      refine zz_getR M f_X8_26 tM_0 rfl dX8_image_55 ?_
      refine zz_iload_n M 1 dX8_image_58 rfl rfl ?_
      refine zz_iald M tM_5 h.1 dX8_image_59 ?_
      have h := h.2
      refine zz_iast M tM_15 h.1 dX8_image_60 ?_
      have h := h.2
      refine zz_sg (fun σ105 eσ105 => ?_)
      have h := h σ105 eσ105
      refine zz_aload_n M 0 dX8_image_61 rfl rfl ?_
      refine zz_getR M f_X8_63 tM_0 rfl dX8_image_62 ?_
      refine zz_bipush (v := 16) M dX8_image_65 (by decide) ?_
      refine zz_iload_n M 1 dX8_image_67 rfl rfl ?_
      refine zz_iadd M dX8_image_68 ?_
      refine zz_aload_n M 0 dX8_image_69 rfl rfl ?_
      refine zz_getR M f_X8_29 tM_0 rfl dX8_image_70 ?_
      refine zz_iload_n M 1 dX8_image_73 rfl rfl ?_
      refine zz_iald M tM_6 h.1 dX8_image_74 ?_
      have h := h.2
      refine zz_iast M tM_15 h.1 dX8_image_75 ?_
      have h := h.2
      refine zz_sg (fun σ106 eσ106 => ?_)
      have h := h σ106 eσ106
      obtain ⟨x107, ex107⟩ : ∃ z : Int32, z = x1 + 1 := ⟨_, rfl⟩
      have h := h x107 ex107
      refine zz_iinc M [(1, .int x107), (0, .ref (ad 0))] 1 dX8_image_76 rfl (n32 := 1) (by decide) ex107 (by decide) rfl ?_
      refine zz_goto M 28 dX8_image_79 (by decide) ?_
      refine zz_sub [(0, .ref (ad 0)), (1, .int x107)] [1, 0] rfl ?_
      exact ih _ _ h
def wX8_image_L84 (Q : Int32 → zSt → Prop) (K107 : zSt → Prop)  : Nat → Int32 → zSt → Prop
  | 0, _, _ => False
  | n + 1, x1, σ => if 4 ≤ x1 then (K107  σ) else (vp_in x1 4 ∧ (vp_in x1 4 ∧ (∀ σ109 : zSt, σ109 = zput σ 16 x1.toNatClampNeg (σ.1 8 x1.toNatClampNeg) → (∀ x110 : Int32, x110 = x1 + 1 → (wX8_image_L84 Q K107  n x110 σ109)))))
set_option maxRecDepth 20000 in
set_option maxHeartbeats 4000000 in
theorem sX8_image_L84 {Q : Int32 → zSt → Prop} {K107 : zSt → Prop}   (M : zM p s m args meth c cX8_image 2 RX8 (some .int) tabM D cA ad y) (hK107 : ∀ (σ : zSt), K107  σ → zG p l e (zrm 1) s m args below meth c 2 tabM D cA ad (MQ below (va_Qi Q (fun σ' t => va_P D vwCl (zws tabM cA ad σ') t.heap) (zIn tabM ad)) args s 0 0 (zIn tabM ad)) 107 [(0, .ref (ad 0))] [] σ) : ∀ (n : Nat) (x1 : Int32) (σ : zSt), wX8_image_L84 Q K107  n x1 σ → zG p l e (zrm 1) s m args below meth c 2 tabM D cA ad (MQ below (va_Qi Q (fun σ' t => va_P D vwCl (zws tabM cA ad σ') t.heap) (zIn tabM ad)) args s 0 0 (zIn tabM ad)) 84 [(0, .ref (ad 0)), (1, .int x1)] [] σ := by
  intro n
  induction n with
  | zero => intro x1 σ h; exact absurd h (by simp [wX8_image_L84])
  | succ n ih =>
    intro x1 σ h
    unfold wX8_image_L84 at h
    refine zz_iload_n M 1 dX8_image_84 rfl rfl ?_
    refine zz_iconst (v := 4) M dX8_image_85 (by decide) ?_
    refine zz_icmp_ge M 107 dX8_image_86 (by decide) (fun c => ?_) (fun c => ?_)
    · have h := zif (c := 4 ≤ x1) h c
      refine zz_sub [(0, .ref (ad 0))] [0] rfl ?_
      exact hK107  _ h
    · have h := zifn (c := 4 ≤ x1) h c
      refine zz_aload_n M 0 dX8_image_89 rfl rfl ?_
      refine zz_getR M f_X8_66 tM_0 rfl dX8_image_90 ?_
      refine zz_iload_n M 1 dX8_image_93 rfl rfl ?_
      refine zz_aload_n M 0 dX8_image_94 rfl rfl ?_
      refine zz_getR M f_X8_41 tM_0 rfl dX8_image_95 ?_
      refine zz_iload_n M 1 dX8_image_98 rfl rfl ?_
      refine zz_iald M tM_8 h.1 dX8_image_99 ?_
      have h := h.2
      refine zz_iast M tM_16 h.1 dX8_image_100 ?_
      have h := h.2
      refine zz_sg (fun σ109 eσ109 => ?_)
      have h := h σ109 eσ109
      obtain ⟨x110, ex110⟩ : ∃ z : Int32, z = x1 + 1 := ⟨_, rfl⟩
      have h := h x110 ex110
      refine zz_iinc M [(1, .int x110), (0, .ref (ad 0))] 1 dX8_image_101 rfl (n32 := 1) (by decide) ex110 (by decide) rfl ?_
      refine zz_goto M 84 dX8_image_104 (by decide) ?_
      refine zz_sub [(0, .ref (ad 0)), (1, .int x110)] [1, 0] rfl ?_
      exact ih _ _ h
def wX8_image  (σ : zSt) (Q : Int32 → zSt → Prop) : Prop := wX8_image_L2 Q (fun  σ103 => wX8_image_L28 Q (fun  σ108 => wX8_image_L84 Q (fun  σ111 => ∀ σ112 : zSt, σ112 = zput σ111 0 40 (σ111.1 0 10) → (∀ σ113 : zSt, σ113 = zput σ112 0 41 (σ112.1 0 11) → (∀ σ114 : zSt, σ114 = zput σ113 0 42 (σ113.1 0 16) → (∀ σ115 : zSt, σ115 = zput σ114 0 43 (σ114.1 0 12) → (∀ σ116 : zSt, σ116 = zput σ115 0 44 (σ115.1 0 13) → (∀ σ117 : zSt, σ117 = zput σ116 0 45 (σ116.1 0 4) → (Q ((σ117.1 0 10) + (σ117.1 0 11)) σ117)))))))  300 0 σ108)  300 0 σ103)  300 0 σ
set_option maxRecDepth 20000 in
set_option maxHeartbeats 4000000 in
theorem kX8_image (hI : zInj tabM ad)   (σ : zSt) (Q : Int32 → zSt → Prop) (h : wX8_image  σ Q) : zOkI l tabM D cA ad y 1 yX8_image cX8_image 2 (some .int) [.ref (ad 0)] σ Q := by
  refine zz_enter hI (by decide) (Nat.le_of_ble_eq_true rfl) (fun p e s m below meth c M => ?_)
  have M : zM p s m _ meth c cX8_image 2 RX8 (some .int) tabM D cA ad y := M
  refine zz_ls [(0, .ref (ad 0))] rfl ?_
  unfold wX8_image at h
  refine zz_iconst (v := 0) M dX8_image_0 (by decide) ?_
  refine zz_istore_n M [(1, .int 0), (0, .ref (ad 0))] dX8_image_1 rfl (by decide) rfl ?_
  refine zz_sub [(0, .ref (ad 0)), (1, .int 0)] [1, 0] rfl ?_
  refine sX8_image_L2   M (fun  σ103 h => ?_) 300 _ _ h
  refine zz_iconst (v := 0) M dX8_image_26 (by decide) ?_
  refine zz_istore_n M [(1, .int 0), (0, .ref (ad 0))] dX8_image_27 rfl (by decide) rfl ?_
  refine zz_sub [(0, .ref (ad 0)), (1, .int 0)] [1, 0] rfl ?_
  refine sX8_image_L28   M (fun  σ108 h => ?_) 300 _ _ h
  refine zz_iconst (v := 0) M dX8_image_82 (by decide) ?_
  refine zz_istore_n M [(1, .int 0), (0, .ref (ad 0))] dX8_image_83 rfl (by decide) rfl ?_
  refine zz_sub [(0, .ref (ad 0)), (1, .int 0)] [1, 0] rfl ?_
  refine sX8_image_L84   M (fun  σ111 h => ?_) 300 _ _ h
  refine zz_aload_n M 0 dX8_image_107 rfl rfl ?_
  refine zz_aload_n M 0 dX8_image_108 rfl rfl ?_
  refine zz_getI M f_X8_96 tM_0 rfl dX8_image_109 ?_
  refine zz_putI M f_X8_69 tM_0 rfl dX8_image_112 ?_
  refine zz_sg (fun σ112 eσ112 => ?_)
  have h := h σ112 eσ112
  refine zz_aload_n M 0 dX8_image_115 rfl rfl ?_
  refine zz_aload_n M 0 dX8_image_116 rfl rfl ?_
  refine zz_getI M f_X8_99 tM_0 rfl dX8_image_117 ?_
  refine zz_putI M f_X8_442 tM_0 rfl dX8_image_120 ?_
  refine zz_sg (fun σ113 eσ113 => ?_)
  have h := h σ113 eσ113
  refine zz_aload_n M 0 dX8_image_123 rfl rfl ?_
  refine zz_aload_n M 0 dX8_image_124 rfl rfl ?_
  refine zz_getI M f_X8_114 tM_0 rfl dX8_image_125 ?_
  refine zz_putI M f_X8_445 tM_0 rfl dX8_image_128 ?_
  refine zz_sg (fun σ114 eσ114 => ?_)
  have h := h σ114 eσ114
  refine zz_aload_n M 0 dX8_image_131 rfl rfl ?_
  refine zz_aload_n M 0 dX8_image_132 rfl rfl ?_
  refine zz_getI M f_X8_32 tM_0 rfl dX8_image_133 ?_
  refine zz_putI M f_X8_448 tM_0 rfl dX8_image_136 ?_
  refine zz_sg (fun σ115 eσ115 => ?_)
  have h := h σ115 eσ115
  refine zz_aload_n M 0 dX8_image_139 rfl rfl ?_
  refine zz_aload_n M 0 dX8_image_140 rfl rfl ?_
  refine zz_getI M f_X8_35 tM_0 rfl dX8_image_141 ?_
  refine zz_putI M f_X8_451 tM_0 rfl dX8_image_144 ?_
  refine zz_sg (fun σ116 eσ116 => ?_)
  have h := h σ116 eσ116
  refine zz_aload_n M 0 dX8_image_147 rfl rfl ?_
  refine zz_aload_n M 0 dX8_image_148 rfl rfl ?_
  refine zz_getI M f_X8_332 tM_0 rfl dX8_image_149 ?_
  refine zz_putI M f_X8_454 tM_0 rfl dX8_image_152 ?_
  refine zz_sg (fun σ117 eσ117 => ?_)
  have h := h σ117 eσ117
  refine zz_aload_n M 0 dX8_image_155 rfl rfl ?_
  refine zz_getI M f_X8_96 tM_0 rfl dX8_image_156 ?_
  refine zz_aload_n M 0 dX8_image_159 rfl rfl ?_
  refine zz_getI M f_X8_99 tM_0 rfl dX8_image_160 ?_
  refine zz_iadd M dX8_image_163 ?_
  exact zz_iret M dX8_image_164 h
end
