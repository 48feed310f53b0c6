section
variable {p : Program} {l : Launch} {e : Env} {s : State} {m : MethodId} {args : Array Value} {below : List Frame} {meth : Method} {c : Code} {D : va_G} {cA : Nat → ClassId} {ad : Nat → Nat} {y : zX}
def wX8_fills_L16 (Q : zSt → Prop) (K71 : zSt → Prop) (x1 : Int32) (x2 : Int32) (x3 : Int32) : Nat → Int32 → zSt → Prop
  | 0, _, _ => False
  | n + 1, x4, σ => if 24 < x4 then (K71  σ) else (wX8_isOne x3 σ (fun r103 σ104 => if r103 = 0 then (vp_in ((25 * x3) + x4) 200 ∧ (∀ σ105 : zSt, σ105 = zput σ104 12 ((25 * x3) + x4 : Int32).toNatClampNeg 0 → (∀ x106 : Int32, x106 = x4 + 1 → (wX8_fills_L16 Q K71 x1 x2 x3 n x106 σ105)))) else (vp_in x3 8 ∧ (if x4 < (σ104.1 5 x3.toNatClampNeg) then (vp_in ((25 * x3) + x4) 200 ∧ (∀ σ107 : zSt, σ107 = zput σ104 12 ((25 * x3) + x4 : Int32).toNatClampNeg 0 → (∀ x108 : Int32, x108 = x4 + 1 → (wX8_fills_L16 Q K71 x1 x2 x3 n x108 σ107)))) else (wX8_costOf x3 x4 σ104 (fun r109 σ110 => vp_in ((25 * x3) + x4) 200 ∧ (∀ σ111 : zSt, σ111 = zput σ110 12 ((25 * x3) + x4 : Int32).toNatClampNeg r109 → (∀ x112 : Int32, x112 = x4 + 1 → (wX8_fills_L16 Q K71 x1 x2 x3 n x112 σ111)))))))))
set_option maxRecDepth 20000 in
set_option maxHeartbeats 4000000 in
theorem sX8_fills_L16 {Q : zSt → Prop} {K71 : zSt → Prop} (x1 : Int32) (x2 : Int32) (x3 : Int32)  (M : zM p s m args meth c cX8_fills 10 RX8 none tabM D cA ad y) (hK71 : ∀ (σ : zSt), K71  σ → zG p l e (zrm 44) s m args below meth c 10 tabM D cA ad (MQ below (va_Qv Q (fun σ' t => va_P D vwCl (zws tabM cA ad σ') t.heap) (zIn tabM ad)) args s 0 0 (zIn tabM ad)) 71 [(0, .ref (ad 0)), (1, .int x1), (2, .int x2), (3, .int x3)] [] σ) : ∀ (n : Nat) (x4 : Int32) (σ : zSt), wX8_fills_L16 Q K71 x1 x2 x3 n x4 σ → zG p l e (zrm 44) s m args below meth c 10 tabM D cA ad (MQ below (va_Qv Q (fun σ' t => va_P D vwCl (zws tabM cA ad σ') t.heap) (zIn tabM ad)) args s 0 0 (zIn tabM ad)) 16 [(0, .ref (ad 0)), (1, .int x1), (2, .int x2), (3, .int x3), (4, .int x4)] [] σ := by
  intro n
  induction n with
  | zero => intro x4 σ h; exact absurd h (by simp [wX8_fills_L16])
  | succ n ih =>
    intro x4 σ h
    unfold wX8_fills_L16 at h
    refine zz_iload M 4 dX8_fills_16 rfl ?_
    refine zz_bipush (v := 24) M dX8_fills_18 (by decide) ?_
    refine zz_icmp_gt M 71 dX8_fills_20 (by decide) (fun c => ?_) (fun c => ?_)
    · have h := zif (c := 24 < x4) h c
      refine zz_sub [(0, .ref (ad 0)), (1, .int x1), (2, .int x2), (3, .int x3)] [0, 1, 2, 3] rfl ?_
      exact hK71  _ h
    · have h := zifn (c := 24 < x4) h c
      refine zz_aload_n M 0 dX8_fills_23 rfl rfl ?_
      refine zz_getR M f_X8_54 tM_0 rfl dX8_fills_24 ?_
      refine zz_bipush (v := 25) M dX8_fills_27 (by decide) ?_
      refine zz_iload_n M 3 dX8_fills_29 rfl rfl ?_
      refine zz_imul M dX8_fills_30 ?_
      refine zz_iload M 4 dX8_fills_31 rfl ?_
      refine zz_iadd M dX8_fills_33 ?_
      refine zz_aload_n M 0 dX8_fills_34 rfl rfl ?_
      refine zz_iload_n M 3 dX8_fills_35 rfl rfl ?_
      refine zz_callVI (d' := 1) (As := [.int x3]) (rest := [.int ((25 * x3) + x4), .ref (ad 12)]) M l_X8_342 tM_0 rfl rfl dX8_fills_36 rfl rfl (by decide) (Nat.le_of_ble_eq_true rfl) (by have hI := M.2.2.2.2.2.2.2.2; exact kX8_isOne hI _  _ _ h) (fun r103 σ104 h => ?_)
      refine zz_if_eq (y0 := 0) M 63 dX8_fills_39 (by decide) (fun c => ?_) (fun c => ?_)
      · have h := zif (c := r103 = 0) h c
        refine zz_iconst (v := 0) M dX8_fills_63 (by decide) ?_
        refine zz_iast M tM_12 h.1 dX8_fills_64 ?_
        have h := h.2
        refine zz_sg (fun σ105 eσ105 => ?_)
        have h := h σ105 eσ105
        obtain ⟨x106, ex106⟩ : ∃ z : Int32, z = x4 + 1 := ⟨_, rfl⟩
        have h := h x106 ex106
        refine zz_iinc M [(4, .int x106), (0, .ref (ad 0)), (1, .int x1), (2, .int x2), (3, .int x3)] 4 dX8_fills_65 rfl (n32 := 1) (by decide) ex106 (by decide) rfl ?_
        refine zz_goto M 16 dX8_fills_68 (by decide) ?_
        refine zz_sub [(0, .ref (ad 0)), (1, .int x1), (2, .int x2), (3, .int x3), (4, .int x106)] [1, 2, 3, 4, 0] rfl ?_
        exact ih _ _ h
      · have h := zifn (c := r103 = 0) h c
        refine zz_iload M 4 dX8_fills_42 rfl ?_
        refine zz_aload_n M 0 dX8_fills_44 rfl rfl ?_
        refine zz_getR M f_X8_26 tM_0 rfl dX8_fills_45 ?_
        refine zz_iload_n M 3 dX8_fills_48 rfl rfl ?_
        refine zz_iald M tM_5 h.1 dX8_fills_49 ?_
        have h := h.2
        refine zz_icmp_lt M 63 dX8_fills_50 (by decide) (fun c => ?_) (fun c => ?_)
        · have h := zif (c := x4 < (σ104.1 5 x3.toNatClampNeg)) h c
          refine zz_iconst (v := 0) M dX8_fills_63 (by decide) ?_
          refine zz_iast M tM_12 h.1 dX8_fills_64 ?_
          have h := h.2
          refine zz_sg (fun σ107 eσ107 => ?_)
          have h := h σ107 eσ107
          obtain ⟨x108, ex108⟩ : ∃ z : Int32, z = x4 + 1 := ⟨_, rfl⟩
          have h := h x108 ex108
          refine zz_iinc M [(4, .int x108), (0, .ref (ad 0)), (1, .int x1), (2, .int x2), (3, .int x3)] 4 dX8_fills_65 rfl (n32 := 1) (by decide) ex108 (by decide) rfl ?_
          refine zz_goto M 16 dX8_fills_68 (by decide) ?_
          refine zz_sub [(0, .ref (ad 0)), (1, .int x1), (2, .int x2), (3, .int x3), (4, .int x108)] [1, 2, 3, 4, 0] rfl ?_
          exact ih _ _ h
        · have h := zifn (c := x4 < (σ104.1 5 x3.toNatClampNeg)) h c
          refine zz_aload_n M 0 dX8_fills_53 rfl rfl ?_
          refine zz_iload_n M 3 dX8_fills_54 rfl rfl ?_
          refine zz_iload M 4 dX8_fills_55 rfl ?_
          refine zz_callVI (d' := 43) (As := [.int x3, .int x4]) (rest := [.int ((25 * x3) + x4), .ref (ad 12)]) M l_X8_348 tM_0 rfl rfl dX8_fills_57 rfl rfl (by decide) (Nat.le_of_ble_eq_true rfl) (by have hI := M.2.2.2.2.2.2.2.2; exact kX8_costOf hI _ _  _ _ h) (fun r109 σ110 h => ?_)
          refine zz_goto M 64 dX8_fills_60 (by decide) ?_
          refine zz_iast M tM_12 h.1 dX8_fills_64 ?_
          have h := h.2
          refine zz_sg (fun σ111 eσ111 => ?_)
          have h := h σ111 eσ111
          obtain ⟨x112, ex112⟩ : ∃ z : Int32, z = x4 + 1 := ⟨_, rfl⟩
          have h := h x112 ex112
          refine zz_iinc M [(4, .int x112), (0, .ref (ad 0)), (1, .int x1), (2, .int x2), (3, .int x3)] 4 dX8_fills_65 rfl (n32 := 1) (by decide) ex112 (by decide) rfl ?_
          refine zz_goto M 16 dX8_fills_68 (by decide) ?_
          refine zz_sub [(0, .ref (ad 0)), (1, .int x1), (2, .int x2), (3, .int x3), (4, .int x112)] [1, 2, 3, 4, 0] rfl ?_
          exact ih _ _ h
def wX8_fills_L7 (Q : zSt → Prop) (K77 : zSt → Prop) (x1 : Int32) (x2 : Int32) : Nat → Int32 → zSt → Prop
  | 0, _, _ => False
  | n + 1, x3, σ => if 8 ≤ x3 then (K77  σ) else (wX8_fills_L16 Q (fun  σ113 => ∀ x114 : Int32, x114 = x3 + 1 → (wX8_fills_L7 Q K77 x1 x2 n x114 σ113)) x1 x2 x3 300 0 σ)
set_option maxRecDepth 20000 in
set_option maxHeartbeats 4000000 in
theorem sX8_fills_L7 {Q : zSt → Prop} {K77 : zSt → Prop} (x1 : Int32) (x2 : Int32)  (M : zM p s m args meth c cX8_fills 10 RX8 none tabM D cA ad y) (hK77 : ∀ (σ : zSt), K77  σ → zG p l e (zrm 44) s m args below meth c 10 tabM D cA ad (MQ below (va_Qv Q (fun σ' t => va_P D vwCl (zws tabM cA ad σ') t.heap) (zIn tabM ad)) args s 0 0 (zIn tabM ad)) 77 [(0, .ref (ad 0)), (1, .int x1), (2, .int x2)] [] σ) : ∀ (n : Nat) (x3 : Int32) (σ : zSt), wX8_fills_L7 Q K77 x1 x2 n x3 σ → zG p l e (zrm 44) s m args below meth c 10 tabM D cA ad (MQ below (va_Qv Q (fun σ' t => va_P D vwCl (zws tabM cA ad σ') t.heap) (zIn tabM ad)) args s 0 0 (zIn tabM ad)) 7 [(0, .ref (ad 0)), (1, .int x1), (2, .int x2), (3, .int x3)] [] σ := by
  intro n
  induction n with
  | zero => intro x3 σ h; exact absurd h (by simp [wX8_fills_L7])
  | succ n ih =>
    intro x3 σ h
    unfold wX8_fills_L7 at h
    refine zz_iload_n M 3 dX8_fills_7 rfl rfl ?_
    refine zz_bipush (v := 8) M dX8_fills_8 (by decide) ?_
    refine zz_icmp_ge M 77 dX8_fills_10 (by decide) (fun c => ?_) (fun c => ?_)
    · have h := zif (c := 8 ≤ x3) h c
      refine zz_sub [(0, .ref (ad 0)), (1, .int x1), (2, .int x2)] [0, 1, 2] rfl ?_
      exact hK77  _ h
    · have h := zifn (c := 8 ≤ x3) h c
      refine zz_iconst (v := 0) M dX8_fills_13 (by decide) ?_
      refine zz_istore M [(4, .int 0), (0, .ref (ad 0)), (1, .int x1), (2, .int x2), (3, .int x3)] dX8_fills_14 (by decide) rfl ?_
      refine zz_sub [(0, .ref (ad 0)), (1, .int x1), (2, .int x2), (3, .int x3), (4, .int 0)] [1, 2, 3, 4, 0] rfl ?_
      refine sX8_fills_L16 x1 x2 x3  M (fun  σ113 h => ?_) 300 _ _ h
      obtain ⟨x114, ex114⟩ : ∃ z : Int32, z = x3 + 1 := ⟨_, rfl⟩
      have h := h x114 ex114
      refine zz_iinc M [(3, .int x114), (0, .ref (ad 0)), (1, .int x1), (2, .int x2)] 3 dX8_fills_71 rfl (n32 := 1) (by decide) ex114 (by decide) rfl ?_
      refine zz_goto M 7 dX8_fills_74 (by decide) ?_
      refine zz_sub [(0, .ref (ad 0)), (1, .int x1), (2, .int x2), (3, .int x114)] [1, 2, 3, 0] rfl ?_
      exact ih _ _ h
def wX8_fills_L88 (Q : zSt → Prop) (K141 : zSt → Prop) (x1 : Int32) (x2 : Int32) (x3 : Int32) : Nat → Int32 → zSt → Prop
  | 0, _, _ => False
  | n + 1, x4, σ => if 9 ≤ x4 then (K141  σ) else (if (x4 / 3) = (x4 - x4 / 3 * 3) then (vp_in ((9 * x3) + x4) 216 ∧ (∀ σ122 : zSt, σ122 = zput σ 13 ((9 * x3) + x4 : Int32).toNatClampNeg 0 → (∀ x123 : Int32, x123 = x4 + 1 → (wX8_fills_L88 Q K141 x1 x2 x3 n x123 σ122)))) else (∀ a116 : Int32, a116 = (x4 / 3) → (∀ a117 : Int32, a117 = (x4 - x4 / 3 * 3) → (wX8_changeOf x3 a116 a117 σ (fun r118 σ119 => vp_in ((9 * x3) + x4) 216 ∧ (∀ σ120 : zSt, σ120 = zput σ119 13 ((9 * x3) + x4 : Int32).toNatClampNeg r118 → (∀ x121 : Int32, x121 = x4 + 1 → (wX8_fills_L88 Q K141 x1 x2 x3 n x121 σ120))))))))
set_option maxRecDepth 20000 in
set_option maxHeartbeats 4000000 in
theorem sX8_fills_L88 {Q : zSt → Prop} {K141 : zSt → Prop} (x1 : Int32) (x2 : Int32) (x3 : Int32)  (M : zM p s m args meth c cX8_fills 10 RX8 none tabM D cA ad y) (hK141 : ∀ (σ : zSt), K141  σ → zG p l e (zrm 44) s m args below meth c 10 tabM D cA ad (MQ below (va_Qv Q (fun σ' t => va_P D vwCl (zws tabM cA ad σ') t.heap) (zIn tabM ad)) args s 0 0 (zIn tabM ad)) 141 [(0, .ref (ad 0)), (1, .int x1), (2, .int x2), (3, .int x3)] [] σ) : ∀ (n : Nat) (x4 : Int32) (σ : zSt), wX8_fills_L88 Q K141 x1 x2 x3 n x4 σ → zG p l e (zrm 44) s m args below meth c 10 tabM D cA ad (MQ below (va_Qv Q (fun σ' t => va_P D vwCl (zws tabM cA ad σ') t.heap) (zIn tabM ad)) args s 0 0 (zIn tabM ad)) 88 [(0, .ref (ad 0)), (1, .int x1), (2, .int x2), (3, .int x3), (4, .int x4)] [] σ := by
  intro n
  induction n with
  | zero => intro x4 σ h; exact absurd h (by simp [wX8_fills_L88])
  | succ n ih =>
    intro x4 σ h
    unfold wX8_fills_L88 at h
    refine zz_iload M 4 dX8_fills_88 rfl ?_
    refine zz_bipush (v := 9) M dX8_fills_90 (by decide) ?_
    refine zz_icmp_ge M 141 dX8_fills_92 (by decide) (fun c => ?_) (fun c => ?_)
    · have h := zif (c := 9 ≤ x4) h c
      refine zz_sub [(0, .ref (ad 0)), (1, .int x1), (2, .int x2), (3, .int x3)] [0, 1, 2, 3] rfl ?_
      exact hK141  _ h
    · have h := zifn (c := 9 ≤ x4) h c
      refine zz_aload_n M 0 dX8_fills_95 rfl rfl ?_
      refine zz_getR M f_X8_57 tM_0 rfl dX8_fills_96 ?_
      refine zz_bipush (v := 9) M dX8_fills_99 (by decide) ?_
      refine zz_iload_n M 3 dX8_fills_101 rfl rfl ?_
      refine zz_imul M dX8_fills_102 ?_
      refine zz_iload M 4 dX8_fills_103 rfl ?_
      refine zz_iadd M dX8_fills_105 ?_
      refine zz_iload M 4 dX8_fills_106 rfl ?_
      refine zz_iconst (v := 3) M dX8_fills_108 (by decide) ?_
      refine zz_idiv M dX8_fills_109 (by decide) ?_
      refine zz_iload M 4 dX8_fills_110 rfl ?_
      refine zz_iconst (v := 3) M dX8_fills_112 (by decide) ?_
      refine zz_irem M dX8_fills_113 (by decide) ?_
      refine zz_icmp_ne M 121 dX8_fills_114 (by decide) (fun c => ?_) (fun c => ?_)
      · have h := zifn (c := (x4 / 3) = (x4 - x4 / 3 * 3)) h c
        refine zz_aload_n M 0 dX8_fills_121 rfl rfl ?_
        refine zz_iload_n M 3 dX8_fills_122 rfl rfl ?_
        refine zz_iload M 4 dX8_fills_123 rfl ?_
        refine zz_iconst (v := 3) M dX8_fills_125 (by decide) ?_
        refine zz_idiv M dX8_fills_126 (by decide) ?_
        refine zz_iload M 4 dX8_fills_127 rfl ?_
        refine zz_iconst (v := 3) M dX8_fills_129 (by decide) ?_
        refine zz_irem M dX8_fills_130 (by decide) ?_
        obtain ⟨a116, ea116⟩ : ∃ z : Int32, z = (x4 / 3) := ⟨_, rfl⟩
        have h := h a116 ea116
        obtain ⟨a117, ea117⟩ : ∃ z : Int32, z = (x4 - x4 / 3 * 3) := ⟨_, rfl⟩
        have h := h a117 ea117
        refine zz_st [.int a117, .int a116, .int x3, .ref (ad 0), .int ((9 * x3) + x4), .ref (ad 13)] (by rw [ea116, ea117]) ?_
        refine zz_callVI (d' := 43) (As := [.int x3, .int a116, .int a117]) (rest := [.int ((9 * x3) + x4), .ref (ad 13)]) M l_X8_351 tM_0 rfl rfl dX8_fills_131 rfl rfl (by decide) (Nat.le_of_ble_eq_true rfl) (by have hI := M.2.2.2.2.2.2.2.2; exact kX8_changeOf hI _ _ _  _ _ h) (fun r118 σ119 h => ?_)
        refine zz_iast M tM_13 h.1 dX8_fills_134 ?_
        have h := h.2
        refine zz_sg (fun σ120 eσ120 => ?_)
        have h := h σ120 eσ120
        obtain ⟨x121, ex121⟩ : ∃ z : Int32, z = x4 + 1 := ⟨_, rfl⟩
        have h := h x121 ex121
        refine zz_iinc M [(4, .int x121), (0, .ref (ad 0)), (1, .int x1), (2, .int x2), (3, .int x3)] 4 dX8_fills_135 rfl (n32 := 1) (by decide) ex121 (by decide) rfl ?_
        refine zz_goto M 88 dX8_fills_138 (by decide) ?_
        refine zz_sub [(0, .ref (ad 0)), (1, .int x1), (2, .int x2), (3, .int x3), (4, .int x121)] [1, 2, 3, 4, 0] rfl ?_
        exact ih _ _ h
      · have h := zif (c := (x4 / 3) = (x4 - x4 / 3 * 3)) h c
        refine zz_iconst (v := 0) M dX8_fills_117 (by decide) ?_
        refine zz_goto M 134 dX8_fills_118 (by decide) ?_
        refine zz_iast M tM_13 h.1 dX8_fills_134 ?_
        have h := h.2
        refine zz_sg (fun σ122 eσ122 => ?_)
        have h := h σ122 eσ122
        obtain ⟨x123, ex123⟩ : ∃ z : Int32, z = x4 + 1 := ⟨_, rfl⟩
        have h := h x123 ex123
        refine zz_iinc M [(4, .int x123), (0, .ref (ad 0)), (1, .int x1), (2, .int x2), (3, .int x3)] 4 dX8_fills_135 rfl (n32 := 1) (by decide) ex123 (by decide) rfl ?_
        refine zz_goto M 88 dX8_fills_138 (by decide) ?_
        refine zz_sub [(0, .ref (ad 0)), (1, .int x1), (2, .int x2), (3, .int x3), (4, .int x123)] [1, 2, 3, 4, 0] rfl ?_
        exact ih _ _ h
def wX8_fills_L79 (Q : zSt → Prop) (K147 : zSt → Prop) (x1 : Int32) (x2 : Int32) : Nat → Int32 → zSt → Prop
  | 0, _, _ => False
  | n + 1, x3, σ => if 24 ≤ x3 then (K147  σ) else (wX8_fills_L88 Q (fun  σ124 => ∀ x125 : Int32, x125 = x3 + 1 → (wX8_fills_L79 Q K147 x1 x2 n x125 σ124)) x1 x2 x3 300 0 σ)
set_option maxRecDepth 20000 in
set_option maxHeartbeats 4000000 in
theorem sX8_fills_L79 {Q : zSt → Prop} {K147 : zSt → Prop} (x1 : Int32) (x2 : Int32)  (M : zM p s m args meth c cX8_fills 10 RX8 none tabM D cA ad y) (hK147 : ∀ (σ : zSt), K147  σ → zG p l e (zrm 44) s m args below meth c 10 tabM D cA ad (MQ below (va_Qv Q (fun σ' t => va_P D vwCl (zws tabM cA ad σ') t.heap) (zIn tabM ad)) args s 0 0 (zIn tabM ad)) 147 [(0, .ref (ad 0)), (1, .int x1), (2, .int x2)] [] σ) : ∀ (n : Nat) (x3 : Int32) (σ : zSt), wX8_fills_L79 Q K147 x1 x2 n x3 σ → zG p l e (zrm 44) s m args below meth c 10 tabM D cA ad (MQ below (va_Qv Q (fun σ' t => va_P D vwCl (zws tabM cA ad σ') t.heap) (zIn tabM ad)) args s 0 0 (zIn tabM ad)) 79 [(0, .ref (ad 0)), (1, .int x1), (2, .int x2), (3, .int x3)] [] σ := by
  intro n
  induction n with
  | zero => intro x3 σ h; exact absurd h (by simp [wX8_fills_L79])
  | succ n ih =>
    intro x3 σ h
    unfold wX8_fills_L79 at h
    refine zz_iload_n M 3 dX8_fills_79 rfl rfl ?_
    refine zz_bipush (v := 24) M dX8_fills_80 (by decide) ?_
    refine zz_icmp_ge M 147 dX8_fills_82 (by decide) (fun c => ?_) (fun c => ?_)
    · have h := zif (c := 24 ≤ x3) h c
      refine zz_sub [(0, .ref (ad 0)), (1, .int x1), (2, .int x2)] [0, 1, 2] rfl ?_
      exact hK147  _ h
    · have h := zifn (c := 24 ≤ x3) h c
      refine zz_iconst (v := 0) M dX8_fills_85 (by decide) ?_
      refine zz_istore M [(4, .int 0), (0, .ref (ad 0)), (1, .int x1), (2, .int x2), (3, .int x3)] dX8_fills_86 (by decide) rfl ?_
      refine zz_sub [(0, .ref (ad 0)), (1, .int x1), (2, .int x2), (3, .int x3), (4, .int 0)] [1, 2, 3, 4, 0] rfl ?_
      refine sX8_fills_L88 x1 x2 x3  M (fun  σ124 h => ?_) 300 _ _ h
      obtain ⟨x125, ex125⟩ : ∃ z : Int32, z = x3 + 1 := ⟨_, rfl⟩
      have h := h x125 ex125
      refine zz_iinc M [(3, .int x125), (0, .ref (ad 0)), (1, .int x1), (2, .int x2)] 3 dX8_fills_141 rfl (n32 := 1) (by decide) ex125 (by decide) rfl ?_
      refine zz_goto M 79 dX8_fills_144 (by decide) ?_
      refine zz_sub [(0, .ref (ad 0)), (1, .int x1), (2, .int x2), (3, .int x125)] [1, 2, 3, 0] rfl ?_
      exact ih _ _ h
def wX8_fills_L192 (Q : zSt → Prop) (K223 : zSt → Prop) (x1 : Int32) (x2 : Int32) (x3 : Int32) (x4 : Int32) : Nat → Int32 → zSt → Prop
  | 0, _, _ => False
  | n + 1, x5, σ => if 12 ≤ x5 then (K223  σ) else (vp_in ((73728 + (12 * x3)) + x5) 76800 ∧ (∀ σ127 : zSt, σ127 = zput σ 11 ((73728 + (12 * x3)) + x5 : Int32).toNatClampNeg x4 → (∀ x128 : Int32, x128 = x5 + 1 → (wX8_fills_L192 Q K223 x1 x2 x3 x4 n x128 σ127))))
set_option maxRecDepth 20000 in
set_option maxHeartbeats 4000000 in
theorem sX8_fills_L192 {Q : zSt → Prop} {K223 : zSt → Prop} (x1 : Int32) (x2 : Int32) (x3 : Int32) (x4 : Int32)  (M : zM p s m args meth c cX8_fills 10 RX8 none tabM D cA ad y) (hK223 : ∀ (σ : zSt), K223  σ → zG p l e (zrm 44) s m args below meth c 10 tabM D cA ad (MQ below (va_Qv Q (fun σ' t => va_P D vwCl (zws tabM cA ad σ') t.heap) (zIn tabM ad)) args s 0 0 (zIn tabM ad)) 223 [(0, .ref (ad 0)), (1, .int x1), (2, .int x2), (3, .int x3)] [] σ) : ∀ (n : Nat) (x5 : Int32) (σ : zSt), wX8_fills_L192 Q K223 x1 x2 x3 x4 n x5 σ → zG p l e (zrm 44) s m args below meth c 10 tabM D cA ad (MQ below (va_Qv Q (fun σ' t => va_P D vwCl (zws tabM cA ad σ') t.heap) (zIn tabM ad)) args s 0 0 (zIn tabM ad)) 192 [(0, .ref (ad 0)), (1, .int x1), (2, .int x2), (3, .int x3), (4, .int x4), (5, .int x5)] [] σ := by
  intro n
  induction n with
  | zero => intro x5 σ h; exact absurd h (by simp [wX8_fills_L192])
  | succ n ih =>
    intro x5 σ h
    unfold wX8_fills_L192 at h
    refine zz_iload M 5 dX8_fills_192 rfl ?_
    refine zz_bipush (v := 12) M dX8_fills_194 (by decide) ?_
    refine zz_icmp_ge M 223 dX8_fills_196 (by decide) (fun c => ?_) (fun c => ?_)
    · have h := zif (c := 12 ≤ x5) h c
      refine zz_sub [(0, .ref (ad 0)), (1, .int x1), (2, .int x2), (3, .int x3)] [0, 1, 2, 3] rfl ?_
      exact hK223  _ h
    · have h := zifn (c := 12 ≤ x5) h c
      refine zz_aload_n M 0 dX8_fills_199 rfl rfl ?_
      refine zz_getR M f_X8_51 tM_0 rfl dX8_fills_200 ?_
      refine zz_ldcw (v := 73728) M k_X8_388 dX8_fills_203 ?_
      refine zz_bipush (v := 12) M dX8_fills_206 (by decide) ?_
      refine zz_iload_n M 3 dX8_fills_208 rfl rfl ?_
      refine zz_imul M dX8_fills_209 ?_
      refine zz_iadd M dX8_fills_210 ?_
      refine zz_iload M 5 dX8_fills_211 rfl ?_
      refine zz_iadd M dX8_fills_213 ?_
      refine zz_iload M 4 dX8_fills_214 rfl ?_
      refine zz_iast M tM_11 h.1 dX8_fills_216 ?_
      have h := h.2
      refine zz_sg (fun σ127 eσ127 => ?_)
      have h := h σ127 eσ127
      obtain ⟨x128, ex128⟩ : ∃ z : Int32, z = x5 + 1 := ⟨_, rfl⟩
      have h := h x128 ex128
      refine zz_iinc M [(5, .int x128), (0, .ref (ad 0)), (1, .int x1), (2, .int x2), (3, .int x3), (4, .int x4)] 5 dX8_fills_217 rfl (n32 := 1) (by decide) ex128 (by decide) rfl ?_
      refine zz_goto M 192 dX8_fills_220 (by decide) ?_
      refine zz_sub [(0, .ref (ad 0)), (1, .int x1), (2, .int x2), (3, .int x3), (4, .int x4), (5, .int x128)] [1, 2, 3, 4, 5, 0] rfl ?_
      exact ih _ _ h
def wX8_fills_L149 (Q : zSt → Prop) (K229 : zSt → Prop) (x1 : Int32) (x2 : Int32) : Nat → Int32 → zSt → Prop
  | 0, _, _ => False
  | n + 1, x3, σ => if 256 ≤ x3 then (K229  σ) else (if x1 = 0 then (if (x3 &&& x2) = x2 then (wX8_fills_L192 Q (fun  σ131 => ∀ x132 : Int32, x132 = x3 + 1 → (wX8_fills_L149 Q K229 x1 x2 n x132 σ131)) x1 x2 x3 0 300 0 σ) else (wX8_fills_L192 Q (fun  σ129 => ∀ x130 : Int32, x130 = x3 + 1 → (wX8_fills_L149 Q K229 x1 x2 n x130 σ129)) x1 x2 x3 99999999 300 0 σ)) else (∀ a133 : Int32, a133 = (x3 &&& x2) → (wX8_costBy 24 a133 x2 σ (fun r134 σ135 => wX8_fills_L192 Q (fun  σ136 => ∀ x137 : Int32, x137 = x3 + 1 → (wX8_fills_L149 Q K229 x1 x2 n x137 σ136)) x1 x2 x3 r134 300 0 σ135))))
set_option maxRecDepth 20000 in
set_option maxHeartbeats 4000000 in
theorem sX8_fills_L149 {Q : zSt → Prop} {K229 : zSt → Prop} (x1 : Int32) (x2 : Int32)  (M : zM p s m args meth c cX8_fills 10 RX8 none tabM D cA ad y) (hK229 : ∀ (σ : zSt), K229  σ → zG p l e (zrm 44) s m args below meth c 10 tabM D cA ad (MQ below (va_Qv Q (fun σ' t => va_P D vwCl (zws tabM cA ad σ') t.heap) (zIn tabM ad)) args s 0 0 (zIn tabM ad)) 229 [(0, .ref (ad 0)), (1, .int x1), (2, .int x2)] [] σ) : ∀ (n : Nat) (x3 : Int32) (σ : zSt), wX8_fills_L149 Q K229 x1 x2 n x3 σ → zG p l e (zrm 44) s m args below meth c 10 tabM D cA ad (MQ below (va_Qv Q (fun σ' t => va_P D vwCl (zws tabM cA ad σ') t.heap) (zIn tabM ad)) args s 0 0 (zIn tabM ad)) 149 [(0, .ref (ad 0)), (1, .int x1), (2, .int x2), (3, .int x3)] [] σ := by
  intro n
  induction n with
  | zero => intro x3 σ h; exact absurd h (by simp [wX8_fills_L149])
  | succ n ih =>
    intro x3 σ h
    unfold wX8_fills_L149 at h
    refine zz_iload_n M 3 dX8_fills_149 rfl rfl ?_
    refine zz_sipush (v := 256) M dX8_fills_150 (by decide) ?_
    refine zz_icmp_ge M 229 dX8_fills_153 (by decide) (fun c => ?_) (fun c => ?_)
    · have h := zif (c := 256 ≤ x3) h c
      refine zz_sub [(0, .ref (ad 0)), (1, .int x1), (2, .int x2)] [0, 1, 2] rfl ?_
      exact hK229  _ h
    · have h := zifn (c := 256 ≤ x3) h c
      refine zz_iload_n M 1 dX8_fills_156 rfl rfl ?_
      refine zz_if_eq (y0 := 0) M 173 dX8_fills_157 (by decide) (fun c => ?_) (fun c => ?_)
      · have h := zif (c := x1 = 0) h c
        refine zz_iload_n M 3 dX8_fills_173 rfl rfl ?_
        refine zz_iload_n M 2 dX8_fills_174 rfl rfl ?_
        refine zz_iand M dX8_fills_175 ?_
        refine zz_iload_n M 2 dX8_fills_176 rfl rfl ?_
        refine zz_icmp_ne M 184 dX8_fills_177 (by decide) (fun c => ?_) (fun c => ?_)
        · have h := zifn (c := (x3 &&& x2) = x2) h c
          refine zz_ldcw (v := 99999999) M k_X8_377 dX8_fills_184 ?_
          refine zz_istore M [(4, .int 99999999), (0, .ref (ad 0)), (1, .int x1), (2, .int x2), (3, .int x3)] dX8_fills_187 (by decide) rfl ?_
          refine zz_iconst (v := 0) M dX8_fills_189 (by decide) ?_
          refine zz_istore M [(5, .int 0), (4, .int 99999999), (0, .ref (ad 0)), (1, .int x1), (2, .int x2), (3, .int x3)] dX8_fills_190 (by decide) rfl ?_
          refine zz_sub [(0, .ref (ad 0)), (1, .int x1), (2, .int x2), (3, .int x3), (4, .int 99999999), (5, .int 0)] [2, 3, 4, 5, 1, 0] rfl ?_
          refine sX8_fills_L192 x1 x2 x3 99999999  M (fun  σ129 h => ?_) 300 _ _ h
          obtain ⟨x130, ex130⟩ : ∃ z : Int32, z = x3 + 1 := ⟨_, rfl⟩
          have h := h x130 ex130
          refine zz_iinc M [(3, .int x130), (0, .ref (ad 0)), (1, .int x1), (2, .int x2)] 3 dX8_fills_223 rfl (n32 := 1) (by decide) ex130 (by decide) rfl ?_
          refine zz_goto M 149 dX8_fills_226 (by decide) ?_
          refine zz_sub [(0, .ref (ad 0)), (1, .int x1), (2, .int x2), (3, .int x130)] [1, 2, 3, 0] rfl ?_
          exact ih _ _ h
        · have h := zif (c := (x3 &&& x2) = x2) h c
          refine zz_iconst (v := 0) M dX8_fills_180 (by decide) ?_
          refine zz_goto M 187 dX8_fills_181 (by decide) ?_
          refine zz_istore M [(4, .int 0), (0, .ref (ad 0)), (1, .int x1), (2, .int x2), (3, .int x3)] dX8_fills_187 (by decide) rfl ?_
          refine zz_iconst (v := 0) M dX8_fills_189 (by decide) ?_
          refine zz_istore M [(5, .int 0), (4, .int 0), (0, .ref (ad 0)), (1, .int x1), (2, .int x2), (3, .int x3)] dX8_fills_190 (by decide) rfl ?_
          refine zz_sub [(0, .ref (ad 0)), (1, .int x1), (2, .int x2), (3, .int x3), (4, .int 0), (5, .int 0)] [2, 3, 4, 5, 1, 0] rfl ?_
          refine sX8_fills_L192 x1 x2 x3 0  M (fun  σ131 h => ?_) 300 _ _ h
          obtain ⟨x132, ex132⟩ : ∃ z : Int32, z = x3 + 1 := ⟨_, rfl⟩
          have h := h x132 ex132
          refine zz_iinc M [(3, .int x132), (0, .ref (ad 0)), (1, .int x1), (2, .int x2)] 3 dX8_fills_223 rfl (n32 := 1) (by decide) ex132 (by decide) rfl ?_
          refine zz_goto M 149 dX8_fills_226 (by decide) ?_
          refine zz_sub [(0, .ref (ad 0)), (1, .int x1), (2, .int x2), (3, .int x132)] [1, 2, 3, 0] rfl ?_
          exact ih _ _ h
      · have h := zifn (c := x1 = 0) h c
        refine zz_aload_n M 0 dX8_fills_160 rfl rfl ?_
        refine zz_bipush (v := 24) M dX8_fills_161 (by decide) ?_
        refine zz_iload_n M 3 dX8_fills_163 rfl rfl ?_
        refine zz_iload_n M 2 dX8_fills_164 rfl rfl ?_
        refine zz_iand M dX8_fills_165 ?_
        refine zz_iload_n M 2 dX8_fills_166 rfl rfl ?_
        obtain ⟨a133, ea133⟩ : ∃ z : Int32, z = (x3 &&& x2) := ⟨_, rfl⟩
        have h := h a133 ea133
        refine zz_st [.int x2, .int a133, .int 24, .ref (ad 0)] (by rw [ea133]) ?_
        refine zz_callVI (d' := 1) (As := [.int 24, .int a133, .int x2]) (rest := []) M l_X8_378 tM_0 rfl rfl dX8_fills_167 rfl rfl (by decide) (Nat.le_of_ble_eq_true rfl) (by have hI := M.2.2.2.2.2.2.2.2; exact kX8_costBy hI _ _ _  _ _ h) (fun r134 σ135 h => ?_)
        refine zz_goto M 187 dX8_fills_170 (by decide) ?_
        refine zz_istore M [(4, .int r134), (0, .ref (ad 0)), (1, .int x1), (2, .int x2), (3, .int x3)] dX8_fills_187 (by decide) rfl ?_
        refine zz_iconst (v := 0) M dX8_fills_189 (by decide) ?_
        refine zz_istore M [(5, .int 0), (4, .int r134), (0, .ref (ad 0)), (1, .int x1), (2, .int x2), (3, .int x3)] dX8_fills_190 (by decide) rfl ?_
        refine zz_sub [(0, .ref (ad 0)), (1, .int x1), (2, .int x2), (3, .int x3), (4, .int r134), (5, .int 0)] [2, 3, 4, 5, 1, 0] rfl ?_
        refine sX8_fills_L192 x1 x2 x3 r134  M (fun  σ136 h => ?_) 300 _ _ h
        obtain ⟨x137, ex137⟩ : ∃ z : Int32, z = x3 + 1 := ⟨_, rfl⟩
        have h := h x137 ex137
        refine zz_iinc M [(3, .int x137), (0, .ref (ad 0)), (1, .int x1), (2, .int x2)] 3 dX8_fills_223 rfl (n32 := 1) (by decide) ex137 (by decide) rfl ?_
        refine zz_goto M 149 dX8_fills_226 (by decide) ?_
        refine zz_sub [(0, .ref (ad 0)), (1, .int x1), (2, .int x2), (3, .int x137)] [1, 2, 3, 0] rfl ?_
        exact ih _ _ h
def wX8_fills_L285 (Q : zSt → Prop) (K329 : Int32 → zSt → Prop) (x1 : Int32) (x2 : Int32) (x3 : Int32) (x4 : Int32) (x5 : Int32) (x6 : Int32) : Nat → Int32 → Int32 → zSt → Prop
  | 0, _, _, _ => False
  | n + 1, x7, x8, σ => if 3 ≤ x8 then (K329 x7 σ) else (wX8_step x3 x4 x5 x6 x8 x1 σ (fun r139 σ140 => if x7 ≤ r139 then (∀ x141 : Int32, x141 = x8 + 1 → (wX8_fills_L285 Q K329 x1 x2 x3 x4 x5 x6 n x7 x141 σ140)) else (∀ x142 : Int32, x142 = x8 + 1 → (wX8_fills_L285 Q K329 x1 x2 x3 x4 x5 x6 n r139 x142 σ140))))
set_option maxRecDepth 20000 in
set_option maxHeartbeats 4000000 in
theorem sX8_fills_L285 {Q : zSt → Prop} {K329 : Int32 → zSt → Prop} (x1 : Int32) (x2 : Int32) (x3 : Int32) (x4 : Int32) (x5 : Int32) (x6 : Int32)  (M : zM p s m args meth c cX8_fills 10 RX8 none tabM D cA ad y) (hK329 : ∀ (v7 : Int32) (σ : zSt), K329 v7 σ → zG p l e (zrm 44) s m args below meth c 10 tabM D cA ad (MQ below (va_Qv Q (fun σ' t => va_P D vwCl (zws tabM cA ad σ') t.heap) (zIn tabM ad)) args s 0 0 (zIn tabM ad)) 329 [(0, .ref (ad 0)), (1, .int x1), (2, .int x2), (3, .int x3), (4, .int x4), (5, .int x5), (6, .int x6), (7, .int v7)] [] σ) : ∀ (n : Nat) (x7 : Int32) (x8 : Int32) (σ : zSt), wX8_fills_L285 Q K329 x1 x2 x3 x4 x5 x6 n x7 x8 σ → zG p l e (zrm 44) s m args below meth c 10 tabM D cA ad (MQ below (va_Qv Q (fun σ' t => va_P D vwCl (zws tabM cA ad σ') t.heap) (zIn tabM ad)) args s 0 0 (zIn tabM ad)) 285 [(0, .ref (ad 0)), (1, .int x1), (2, .int x2), (3, .int x3), (4, .int x4), (5, .int x5), (6, .int x6), (7, .int x7), (8, .int x8)] [] σ := by
  intro n
  induction n with
  | zero => intro x7 x8 σ h; exact absurd h (by simp [wX8_fills_L285])
  | succ n ih =>
    intro x7 x8 σ h
    unfold wX8_fills_L285 at h
    refine zz_iload M 8 dX8_fills_285 rfl ?_
    refine zz_iconst (v := 3) M dX8_fills_287 (by decide) ?_
    refine zz_icmp_ge M 329 dX8_fills_288 (by decide) (fun c => ?_) (fun c => ?_)
    · have h := zif (c := 3 ≤ x8) h c
      refine zz_sub [(0, .ref (ad 0)), (1, .int x1), (2, .int x2), (3, .int x3), (4, .int x4), (5, .int x5), (6, .int x6), (7, .int x7)] [0, 1, 2, 3, 4, 5, 6, 7] rfl ?_
      exact hK329 _ _ h
    · have h := zifn (c := 3 ≤ x8) h c
      refine zz_aload_n M 0 dX8_fills_291 rfl rfl ?_
      refine zz_iload_n M 3 dX8_fills_292 rfl rfl ?_
      refine zz_iload M 4 dX8_fills_293 rfl ?_
      refine zz_iload M 5 dX8_fills_295 rfl ?_
      refine zz_iload M 6 dX8_fills_297 rfl ?_
      refine zz_iload M 8 dX8_fills_299 rfl ?_
      refine zz_iload_n M 1 dX8_fills_301 rfl rfl ?_
      refine zz_callVI (d' := 4) (As := [.int x3, .int x4, .int x5, .int x6, .int x8, .int x1]) (rest := []) M l_X8_389 tM_0 rfl rfl dX8_fills_302 rfl rfl (by decide) (Nat.le_of_ble_eq_true rfl) (by have hI := M.2.2.2.2.2.2.2.2; exact kX8_step hI _ _ _ _ _ _  _ _ h) (fun r139 σ140 h => ?_)
      refine zz_istore M [(9, .int r139), (0, .ref (ad 0)), (1, .int x1), (2, .int x2), (3, .int x3), (4, .int x4), (5, .int x5), (6, .int x6), (7, .int x7), (8, .int x8)] dX8_fills_305 (by decide) rfl ?_
      refine zz_iload M 0 dX8_fills_307 rfl ?_
      refine zz_iload M 8 dX8_fills_309 rfl ?_
      refine zz_icmp_ge M 319 dX8_fills_311 (by decide) (fun c => ?_) (fun c => ?_)
      · have h := zif (c := x7 ≤ r139) h c
        refine zz_iload M 8 dX8_fills_319 rfl ?_
        refine zz_istore M [(7, .int x7), (9, .int r139), (0, .ref (ad 0)), (1, .int x1), (2, .int x2), (3, .int x3), (4, .int x4), (5, .int x5), (6, .int x6), (8, .int x8)] dX8_fills_321 (by decide) rfl ?_
        obtain ⟨x141, ex141⟩ : ∃ z : Int32, z = x8 + 1 := ⟨_, rfl⟩
        have h := h x141 ex141
        refine zz_iinc M [(8, .int x141), (7, .int x7), (9, .int r139), (0, .ref (ad 0)), (1, .int x1), (2, .int x2), (3, .int x3), (4, .int x4), (5, .int x5), (6, .int x6)] 9 dX8_fills_323 rfl (n32 := 1) (by decide) ex141 (by decide) rfl ?_
        refine zz_goto M 285 dX8_fills_326 (by decide) ?_
        refine zz_sub [(0, .ref (ad 0)), (1, .int x1), (2, .int x2), (3, .int x3), (4, .int x4), (5, .int x5), (6, .int x6), (7, .int x7), (8, .int x141)] [3, 4, 5, 6, 7, 8, 9, 1, 0] rfl ?_
        exact ih _ _ _ h
      · have h := zifn (c := x7 ≤ r139) h c
        refine zz_iload M 0 dX8_fills_314 rfl ?_
        refine zz_goto M 321 dX8_fills_316 (by decide) ?_
        refine zz_istore M [(7, .int r139), (9, .int r139), (0, .ref (ad 0)), (1, .int x1), (2, .int x2), (3, .int x3), (4, .int x4), (5, .int x5), (6, .int x6), (8, .int x8)] dX8_fills_321 (by decide) rfl ?_
        obtain ⟨x142, ex142⟩ : ∃ z : Int32, z = x8 + 1 := ⟨_, rfl⟩
        have h := h x142 ex142
        refine zz_iinc M [(8, .int x142), (7, .int r139), (9, .int r139), (0, .ref (ad 0)), (1, .int x1), (2, .int x2), (3, .int x3), (4, .int x4), (5, .int x5), (6, .int x6)] 9 dX8_fills_323 rfl (n32 := 1) (by decide) ex142 (by decide) rfl ?_
        refine zz_goto M 285 dX8_fills_326 (by decide) ?_
        refine zz_sub [(0, .ref (ad 0)), (1, .int x1), (2, .int x2), (3, .int x3), (4, .int x4), (5, .int x5), (6, .int x6), (7, .int r139), (8, .int x142)] [3, 4, 5, 6, 7, 8, 9, 1, 0] rfl ?_
        exact ih _ _ _ h
def wX8_fills_L268 (Q : zSt → Prop) (K357 : zSt → Prop) (x1 : Int32) (x2 : Int32) (x3 : Int32) (x4 : Int32) (x5 : Int32) : Nat → Int32 → zSt → Prop
  | 0, _, _ => False
  | n + 1, x6, σ => if (σ.1 0 12) < x6 then (K357  σ) else (wX8_fills_L285 Q (fun v143 σ144 => wX8_state x4 x5 x6 σ144 (fun r145 σ146 => vp_in ((3072 * x3) + r145) 76800 ∧ (∀ σ147 : zSt, σ147 = zput σ146 11 ((3072 * x3) + r145 : Int32).toNatClampNeg v143 → (∀ x148 : Int32, x148 = x6 + 1 → (wX8_fills_L268 Q K357 x1 x2 x3 x4 x5 n x148 σ147))))) x1 x2 x3 x4 x5 x6 300 99999999 0 σ)
set_option maxRecDepth 20000 in
set_option maxHeartbeats 4000000 in
theorem sX8_fills_L268 {Q : zSt → Prop} {K357 : zSt → Prop} (x1 : Int32) (x2 : Int32) (x3 : Int32) (x4 : Int32) (x5 : Int32)  (M : zM p s m args meth c cX8_fills 10 RX8 none tabM D cA ad y) (hK357 : ∀ (σ : zSt), K357  σ → zG p l e (zrm 44) s m args below meth c 10 tabM D cA ad (MQ below (va_Qv Q (fun σ' t => va_P D vwCl (zws tabM cA ad σ') t.heap) (zIn tabM ad)) args s 0 0 (zIn tabM ad)) 357 [(0, .ref (ad 0)), (1, .int x1), (2, .int x2), (3, .int x3), (4, .int x4), (5, .int x5)] [] σ) : ∀ (n : Nat) (x6 : Int32) (σ : zSt), wX8_fills_L268 Q K357 x1 x2 x3 x4 x5 n x6 σ → zG p l e (zrm 44) s m args below meth c 10 tabM D cA ad (MQ below (va_Qv Q (fun σ' t => va_P D vwCl (zws tabM cA ad σ') t.heap) (zIn tabM ad)) args s 0 0 (zIn tabM ad)) 268 [(0, .ref (ad 0)), (1, .int x1), (2, .int x2), (3, .int x3), (4, .int x4), (5, .int x5), (6, .int x6)] [] σ := by
  intro n
  induction n with
  | zero => intro x6 σ h; exact absurd h (by simp [wX8_fills_L268])
  | succ n ih =>
    intro x6 σ h
    unfold wX8_fills_L268 at h
    refine zz_iload M 6 dX8_fills_268 rfl ?_
    refine zz_aload_n M 0 dX8_fills_270 rfl rfl ?_
    refine zz_getI M f_X8_32 tM_0 rfl dX8_fills_271 ?_
    refine zz_icmp_gt M 357 dX8_fills_274 (by decide) (fun c => ?_) (fun c => ?_)
    · have h := zif (c := (σ.1 0 12) < x6) h c
      refine zz_sub [(0, .ref (ad 0)), (1, .int x1), (2, .int x2), (3, .int x3), (4, .int x4), (5, .int x5)] [0, 1, 2, 3, 4, 5] rfl ?_
      exact hK357  _ h
    · have h := zifn (c := (σ.1 0 12) < x6) h c
      refine zz_ldcw (v := 99999999) M k_X8_377 dX8_fills_277 ?_
      refine zz_istore M [(7, .int 99999999), (0, .ref (ad 0)), (1, .int x1), (2, .int x2), (3, .int x3), (4, .int x4), (5, .int x5), (6, .int x6)] dX8_fills_280 (by decide) rfl ?_
      refine zz_iconst (v := 0) M dX8_fills_282 (by decide) ?_
      refine zz_istore M [(8, .int 0), (7, .int 99999999), (0, .ref (ad 0)), (1, .int x1), (2, .int x2), (3, .int x3), (4, .int x4), (5, .int x5), (6, .int x6)] dX8_fills_283 (by decide) rfl ?_
      refine zz_sub [(0, .ref (ad 0)), (1, .int x1), (2, .int x2), (3, .int x3), (4, .int x4), (5, .int x5), (6, .int x6), (7, .int 99999999), (8, .int 0)] [2, 3, 4, 5, 6, 7, 8, 1, 0] rfl ?_
      refine sX8_fills_L285 x1 x2 x3 x4 x5 x6  M (fun v143 σ144 h => ?_) 300 _ _ _ h
      refine zz_aload_n M 0 dX8_fills_329 rfl rfl ?_
      refine zz_getR M f_X8_51 tM_0 rfl dX8_fills_330 ?_
      refine zz_sipush (v := 3072) M dX8_fills_333 (by decide) ?_
      refine zz_iload_n M 3 dX8_fills_336 rfl rfl ?_
      refine zz_imul M dX8_fills_337 ?_
      refine zz_iload M 4 dX8_fills_338 rfl ?_
      refine zz_iload M 5 dX8_fills_340 rfl ?_
      refine zz_iload M 6 dX8_fills_342 rfl ?_
      refine zz_callSI (d' := 1) (As := [.int x4, .int x5, .int x6]) (rest := [.int (3072 * x3), .ref (ad 11)]) M l_X8_374 dX8_fills_344 rfl rfl (by decide) (Nat.le_of_ble_eq_true rfl) (by have hI := M.2.2.2.2.2.2.2.2; exact kX8_state hI _ _ _  _ _ h) (fun r145 σ146 h => ?_)
      refine zz_iadd M dX8_fills_347 ?_
      refine zz_iload M 7 dX8_fills_348 rfl ?_
      refine zz_iast M tM_11 h.1 dX8_fills_350 ?_
      have h := h.2
      refine zz_sg (fun σ147 eσ147 => ?_)
      have h := h σ147 eσ147
      obtain ⟨x148, ex148⟩ : ∃ z : Int32, z = x6 + 1 := ⟨_, rfl⟩
      have h := h x148 ex148
      refine zz_iinc M [(6, .int x148), (0, .ref (ad 0)), (1, .int x1), (2, .int x2), (3, .int x3), (4, .int x4), (5, .int x5), (7, .int v143)] 6 dX8_fills_351 rfl (n32 := 1) (by decide) ex148 (by decide) rfl ?_
      refine zz_goto M 268 dX8_fills_354 (by decide) ?_
      refine zz_sub [(0, .ref (ad 0)), (1, .int x1), (2, .int x2), (3, .int x3), (4, .int x4), (5, .int x5), (6, .int x148)] [1, 2, 3, 4, 5, 6, 0] rfl ?_
      exact ih _ _ h
def wX8_fills_L250 (Q : zSt → Prop) (K363 : zSt → Prop) (x1 : Int32) (x2 : Int32) (x3 : Int32) (x4 : Int32) : Nat → Int32 → zSt → Prop
  | 0, _, _ => False
  | n + 1, x5, σ => if (x4 &&& (x2 ^^^ (-1))) = 0 then (if 3 ≤ x5 then (K363  σ) else (wX8_fills_L268 Q (fun  σ149 => ∀ x150 : Int32, x150 = x5 + 1 → (wX8_fills_L250 Q K363 x1 x2 x3 x4 n x150 σ149)) x1 x2 x3 x4 x5 300 1 σ)) else (K363  σ)
set_option maxRecDepth 20000 in
set_option maxHeartbeats 4000000 in
theorem sX8_fills_L250 {Q : zSt → Prop} {K363 : zSt → Prop} (x1 : Int32) (x2 : Int32) (x3 : Int32) (x4 : Int32)  (M : zM p s m args meth c cX8_fills 10 RX8 none tabM D cA ad y) (hK363 : ∀ (σ : zSt), K363  σ → zG p l e (zrm 44) s m args below meth c 10 tabM D cA ad (MQ below (va_Qv Q (fun σ' t => va_P D vwCl (zws tabM cA ad σ') t.heap) (zIn tabM ad)) args s 0 0 (zIn tabM ad)) 363 [(0, .ref (ad 0)), (1, .int x1), (2, .int x2), (3, .int x3), (4, .int x4)] [] σ) : ∀ (n : Nat) (x5 : Int32) (σ : zSt), wX8_fills_L250 Q K363 x1 x2 x3 x4 n x5 σ → zG p l e (zrm 44) s m args below meth c 10 tabM D cA ad (MQ below (va_Qv Q (fun σ' t => va_P D vwCl (zws tabM cA ad σ') t.heap) (zIn tabM ad)) args s 0 0 (zIn tabM ad)) 250 [(0, .ref (ad 0)), (1, .int x1), (2, .int x2), (3, .int x3), (4, .int x4), (5, .int x5)] [] σ := by
  intro n
  induction n with
  | zero => intro x5 σ h; exact absurd h (by simp [wX8_fills_L250])
  | succ n ih =>
    intro x5 σ h
    unfold wX8_fills_L250 at h
    refine zz_iload M 4 dX8_fills_250 rfl ?_
    refine zz_iload_n M 2 dX8_fills_252 rfl rfl ?_
    refine zz_iconst (v := (-1)) M dX8_fills_253 (by decide) ?_
    refine zz_ixor M dX8_fills_254 ?_
    refine zz_iand M dX8_fills_255 ?_
    refine zz_if_ne (y0 := 0) M 363 dX8_fills_256 (by decide) (fun c => ?_) (fun c => ?_)
    · have h := zifn (c := (x4 &&& (x2 ^^^ (-1))) = 0) h c
      refine zz_sub [(0, .ref (ad 0)), (1, .int x1), (2, .int x2), (3, .int x3), (4, .int x4)] [0, 1, 2, 3, 4] rfl ?_
      exact hK363  _ h
    · have h := zif (c := (x4 &&& (x2 ^^^ (-1))) = 0) h c
      refine zz_iload M 5 dX8_fills_259 rfl ?_
      refine zz_iconst (v := 3) M dX8_fills_261 (by decide) ?_
      refine zz_icmp_ge M 363 dX8_fills_262 (by decide) (fun c => ?_) (fun c => ?_)
      · have h := zif (c := 3 ≤ x5) h c
        refine zz_sub [(0, .ref (ad 0)), (1, .int x1), (2, .int x2), (3, .int x3), (4, .int x4)] [0, 1, 2, 3, 4] rfl ?_
        exact hK363  _ h
      · have h := zifn (c := 3 ≤ x5) h c
        refine zz_iconst (v := 1) M dX8_fills_265 (by decide) ?_
        refine zz_istore M [(6, .int 1), (0, .ref (ad 0)), (1, .int x1), (2, .int x2), (3, .int x3), (4, .int x4), (5, .int x5)] dX8_fills_266 (by decide) rfl ?_
        refine zz_sub [(0, .ref (ad 0)), (1, .int x1), (2, .int x2), (3, .int x3), (4, .int x4), (5, .int x5), (6, .int 1)] [1, 2, 3, 4, 5, 6, 0] rfl ?_
        refine sX8_fills_L268 x1 x2 x3 x4 x5  M (fun  σ149 h => ?_) 300 _ _ h
        obtain ⟨x150, ex150⟩ : ∃ z : Int32, z = x5 + 1 := ⟨_, rfl⟩
        have h := h x150 ex150
        refine zz_iinc M [(5, .int x150), (0, .ref (ad 0)), (1, .int x1), (2, .int x2), (3, .int x3), (4, .int x4)] 5 dX8_fills_357 rfl (n32 := 1) (by decide) ex150 (by decide) rfl ?_
        refine zz_goto M 250 dX8_fills_360 (by decide) ?_
        refine zz_sub [(0, .ref (ad 0)), (1, .int x1), (2, .int x2), (3, .int x3), (4, .int x4), (5, .int x150)] [1, 2, 3, 4, 5, 0] rfl ?_
        exact ih _ _ h
def wX8_fills_L239 (Q : zSt → Prop) (K369 : zSt → Prop) (x1 : Int32) (x2 : Int32) (x3 : Int32) : Nat → Int32 → zSt → Prop
  | 0, _, _ => False
  | n + 1, x4, σ => if 256 ≤ x4 then (K369  σ) else (wX8_fills_L250 Q (fun  σ151 => ∀ x152 : Int32, x152 = x4 + 1 → (wX8_fills_L239 Q K369 x1 x2 x3 n x152 σ151)) x1 x2 x3 x4 300 0 σ)
set_option maxRecDepth 20000 in
set_option maxHeartbeats 4000000 in
theorem sX8_fills_L239 {Q : zSt → Prop} {K369 : zSt → Prop} (x1 : Int32) (x2 : Int32) (x3 : Int32)  (M : zM p s m args meth c cX8_fills 10 RX8 none tabM D cA ad y) (hK369 : ∀ (σ : zSt), K369  σ → zG p l e (zrm 44) s m args below meth c 10 tabM D cA ad (MQ below (va_Qv Q (fun σ' t => va_P D vwCl (zws tabM cA ad σ') t.heap) (zIn tabM ad)) args s 0 0 (zIn tabM ad)) 369 [(0, .ref (ad 0)), (1, .int x1), (2, .int x2), (3, .int x3)] [] σ) : ∀ (n : Nat) (x4 : Int32) (σ : zSt), wX8_fills_L239 Q K369 x1 x2 x3 n x4 σ → zG p l e (zrm 44) s m args below meth c 10 tabM D cA ad (MQ below (va_Qv Q (fun σ' t => va_P D vwCl (zws tabM cA ad σ') t.heap) (zIn tabM ad)) args s 0 0 (zIn tabM ad)) 239 [(0, .ref (ad 0)), (1, .int x1), (2, .int x2), (3, .int x3), (4, .int x4)] [] σ := by
  intro n
  induction n with
  | zero => intro x4 σ h; exact absurd h (by simp [wX8_fills_L239])
  | succ n ih =>
    intro x4 σ h
    unfold wX8_fills_L239 at h
    refine zz_iload M 4 dX8_fills_239 rfl ?_
    refine zz_sipush (v := 256) M dX8_fills_241 (by decide) ?_
    refine zz_icmp_ge M 369 dX8_fills_244 (by decide) (fun c => ?_) (fun c => ?_)
    · have h := zif (c := 256 ≤ x4) h c
      refine zz_sub [(0, .ref (ad 0)), (1, .int x1), (2, .int x2), (3, .int x3)] [0, 1, 2, 3] rfl ?_
      exact hK369  _ h
    · have h := zifn (c := 256 ≤ x4) h c
      refine zz_iconst (v := 0) M dX8_fills_247 (by decide) ?_
      refine zz_istore M [(5, .int 0), (0, .ref (ad 0)), (1, .int x1), (2, .int x2), (3, .int x3), (4, .int x4)] dX8_fills_248 (by decide) rfl ?_
      refine zz_sub [(0, .ref (ad 0)), (1, .int x1), (2, .int x2), (3, .int x3), (4, .int x4), (5, .int 0)] [1, 2, 3, 4, 5, 0] rfl ?_
      refine sX8_fills_L250 x1 x2 x3 x4  M (fun  σ151 h => ?_) 300 _ _ h
      obtain ⟨x152, ex152⟩ : ∃ z : Int32, z = x4 + 1 := ⟨_, rfl⟩
      have h := h x152 ex152
      refine zz_iinc M [(4, .int x152), (0, .ref (ad 0)), (1, .int x1), (2, .int x2), (3, .int x3)] 4 dX8_fills_363 rfl (n32 := 1) (by decide) ex152 (by decide) rfl ?_
      refine zz_goto M 239 dX8_fills_366 (by decide) ?_
      refine zz_sub [(0, .ref (ad 0)), (1, .int x1), (2, .int x2), (3, .int x3), (4, .int x152)] [1, 2, 3, 4, 0] rfl ?_
      exact ih _ _ h
def wX8_fills_L232 (Q : zSt → Prop) (K375 : zSt → Prop) (x1 : Int32) (x2 : Int32) : Nat → Int32 → zSt → Prop
  | 0, _, _ => False
  | n + 1, x3, σ => if x3 ≤ 0 then (K375  σ) else (wX8_fills_L239 Q (fun  σ153 => ∀ x154 : Int32, x154 = x3 + (-1) → (wX8_fills_L232 Q K375 x1 x2 n x154 σ153)) x1 x2 x3 300 0 σ)
set_option maxRecDepth 20000 in
set_option maxHeartbeats 4000000 in
theorem sX8_fills_L232 {Q : zSt → Prop} {K375 : zSt → Prop} (x1 : Int32) (x2 : Int32)  (M : zM p s m args meth c cX8_fills 10 RX8 none tabM D cA ad y) (hK375 : ∀ (σ : zSt), K375  σ → zG p l e (zrm 44) s m args below meth c 10 tabM D cA ad (MQ below (va_Qv Q (fun σ' t => va_P D vwCl (zws tabM cA ad σ') t.heap) (zIn tabM ad)) args s 0 0 (zIn tabM ad)) 375 [] [] σ) : ∀ (n : Nat) (x3 : Int32) (σ : zSt), wX8_fills_L232 Q K375 x1 x2 n x3 σ → zG p l e (zrm 44) s m args below meth c 10 tabM D cA ad (MQ below (va_Qv Q (fun σ' t => va_P D vwCl (zws tabM cA ad σ') t.heap) (zIn tabM ad)) args s 0 0 (zIn tabM ad)) 232 [(0, .ref (ad 0)), (1, .int x1), (2, .int x2), (3, .int x3)] [] σ := by
  intro n
  induction n with
  | zero => intro x3 σ h; exact absurd h (by simp [wX8_fills_L232])
  | succ n ih =>
    intro x3 σ h
    unfold wX8_fills_L232 at h
    refine zz_iload_n M 3 dX8_fills_232 rfl rfl ?_
    refine zz_if_le (y0 := 0) M 375 dX8_fills_233 (by decide) (fun c => ?_) (fun c => ?_)
    · have h := zif (c := x3 ≤ 0) h c
      refine zz_sub [] [] rfl ?_
      exact hK375  _ h
    · have h := zifn (c := x3 ≤ 0) h c
      refine zz_iconst (v := 0) M dX8_fills_236 (by decide) ?_
      refine zz_istore M [(4, .int 0), (0, .ref (ad 0)), (1, .int x1), (2, .int x2), (3, .int x3)] dX8_fills_237 (by decide) rfl ?_
      refine zz_sub [(0, .ref (ad 0)), (1, .int x1), (2, .int x2), (3, .int x3), (4, .int 0)] [1, 2, 3, 4, 0] rfl ?_
      refine sX8_fills_L239 x1 x2 x3  M (fun  σ153 h => ?_) 300 _ _ h
      obtain ⟨x154, ex154⟩ : ∃ z : Int32, z = x3 + (-1) := ⟨_, rfl⟩
      have h := h x154 ex154
      refine zz_iinc M [(3, .int x154), (0, .ref (ad 0)), (1, .int x1), (2, .int x2)] 3 dX8_fills_369 rfl (n32 := (-1)) (by decide) ex154 (by decide) rfl ?_
      refine zz_goto M 232 dX8_fills_372 (by decide) ?_
      refine zz_sub [(0, .ref (ad 0)), (1, .int x1), (2, .int x2), (3, .int x154)] [1, 2, 3, 0] rfl ?_
      exact ih _ _ h
def wX8_fills (x1 : Int32) (σ : zSt) (Q : zSt → Prop) : Prop := wX8_allSet  σ (fun r101 σ102 => wX8_fills_L7 Q (fun  σ115 => wX8_fills_L79 Q (fun  σ126 => wX8_fills_L149 Q (fun  σ138 => wX8_fills_L232 Q (fun  σ155 => Q σ155) x1 r101 300 23 σ138) x1 r101 300 0 σ126) x1 r101 300 1 σ115) x1 r101 300 0 σ102)
set_option maxRecDepth 20000 in
set_option maxHeartbeats 4000000 in
theorem kX8_fills (hI : zInj tabM ad) (x1 : Int32)  (σ : zSt) (Q : zSt → Prop) (h : wX8_fills x1 σ Q) : zOkV l tabM D cA ad y 44 yX8_fills cX8_fills 10 none [.ref (ad 0), .int x1] σ Q := by
  refine zz_enter hI (by decide) (Nat.le_of_ble_eq_true rfl) (fun p e s m below meth c M => ?_)
  have M : zM p s m _ meth c cX8_fills 10 RX8 none tabM D cA ad y := M
  refine zz_ls [(0, .ref (ad 0)), (1, .int x1)] rfl ?_
  unfold wX8_fills at h
  refine zz_aload_n M 0 dX8_fills_0 rfl rfl ?_
  refine zz_callVI (d' := 2) (As := []) (rest := []) M l_X8_385 tM_0 rfl rfl dX8_fills_1 rfl rfl (by decide) (Nat.le_of_ble_eq_true rfl) (by have hI := M.2.2.2.2.2.2.2.2; exact kX8_allSet hI   _ _ h) (fun r101 σ102 h => ?_)
  refine zz_istore_n M [(2, .int r101), (0, .ref (ad 0)), (1, .int x1)] dX8_fills_4 rfl (by decide) rfl ?_
  refine zz_iconst (v := 0) M dX8_fills_5 (by decide) ?_
  refine zz_istore_n M [(3, .int 0), (2, .int r101), (0, .ref (ad 0)), (1, .int x1)] dX8_fills_6 rfl (by decide) rfl ?_
  refine zz_sub [(0, .ref (ad 0)), (1, .int x1), (2, .int r101), (3, .int 0)] [2, 3, 1, 0] rfl ?_
  refine sX8_fills_L7 x1 r101  M (fun  σ115 h => ?_) 300 _ _ h
  refine zz_iconst (v := 1) M dX8_fills_77 (by decide) ?_
  refine zz_istore_n M [(3, .int 1), (0, .ref (ad 0)), (1, .int x1), (2, .int r101)] dX8_fills_78 rfl (by decide) rfl ?_
  refine zz_sub [(0, .ref (ad 0)), (1, .int x1), (2, .int r101), (3, .int 1)] [1, 2, 3, 0] rfl ?_
  refine sX8_fills_L79 x1 r101  M (fun  σ126 h => ?_) 300 _ _ h
  refine zz_iconst (v := 0) M dX8_fills_147 (by decide) ?_
  refine zz_istore_n M [(3, .int 0), (0, .ref (ad 0)), (1, .int x1), (2, .int r101)] dX8_fills_148 rfl (by decide) rfl ?_
  refine zz_sub [(0, .ref (ad 0)), (1, .int x1), (2, .int r101), (3, .int 0)] [1, 2, 3, 0] rfl ?_
  refine sX8_fills_L149 x1 r101  M (fun  σ138 h => ?_) 300 _ _ h
  refine zz_bipush (v := 23) M dX8_fills_229 (by decide) ?_
  refine zz_istore_n M [(3, .int 23), (0, .ref (ad 0)), (1, .int x1), (2, .int r101)] dX8_fills_231 rfl (by decide) rfl ?_
  refine zz_sub [(0, .ref (ad 0)), (1, .int x1), (2, .int r101), (3, .int 23)] [1, 2, 3, 0] rfl ?_
  refine sX8_fills_L232 x1 r101  M (fun  σ155 h => ?_) 300 _ _ h
  exact zz_vret M dX8_fills_375 h
end
