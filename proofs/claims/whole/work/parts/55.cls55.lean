section
variable {p : Program} {l : Launch} {e : Env} {s : State} {m : MethodId} {args : Array Value} {below : List Frame} {meth : Method} {c : Code} {D : va_G} {cA : Nat → ClassId} {ad : Nat → Nat} {y : zX}
def wX2_byTide_L6 (Q : Int32 → zSt → Prop) (K39 : Int32 → zSt → Prop) (x1 : Int32) (x2 : Int32) (x3 : Int32) : Nat → Int32 → Int32 → zSt → Prop
  | 0, _, _, _ => False
  | n + 1, x4, x5, σ => if 3 ≤ x5 then (K39 x4 σ) else (vp_in x5 3 ∧ (vp_in x4 3 ∧ (if (σ.1 40 x5.toNatClampNeg) ≤ (σ.1 40 x4.toNatClampNeg) then (∀ x101 : Int32, x101 = x5 + 1 → (wX2_byTide_L6 Q K39 x1 x2 x3 n x4 x101 σ)) else (∀ x102 : Int32, x102 = x5 + 1 → (wX2_byTide_L6 Q K39 x1 x2 x3 n x5 x102 σ)))))
set_option maxRecDepth 20000 in
set_option maxHeartbeats 4000000 in
theorem sX2_byTide_L6 {Q : Int32 → zSt → Prop} {K39 : Int32 → zSt → Prop} (x1 : Int32) (x2 : Int32) (x3 : Int32)  (M : zM p s m args meth c cX2_byTide 6 RX2 (some .int) tabX D cA ad y) (hK39 : ∀ (v4 : Int32) (σ : zSt), K39 v4 σ → zG p l e (zrm 2) s m args below meth c 6 tabX D cA ad (MQ below (va_Qi Q (fun σ' t => va_P D vwCl (zws tabX cA ad σ') t.heap) (zIn tabX ad)) args s 0 0 (zIn tabX ad)) 39 [(0, .ref (ad 38)), (1, .int x1), (2, .int x2), (3, .int x3), (4, .int v4)] [] σ) : ∀ (n : Nat) (x4 : Int32) (x5 : Int32) (σ : zSt), wX2_byTide_L6 Q K39 x1 x2 x3 n x4 x5 σ → zG p l e (zrm 2) s m args below meth c 6 tabX D cA ad (MQ below (va_Qi Q (fun σ' t => va_P D vwCl (zws tabX cA ad σ') t.heap) (zIn tabX ad)) args s 0 0 (zIn tabX ad)) 6 [(0, .ref (ad 38)), (1, .int x1), (2, .int x2), (3, .int x3), (4, .int x4), (5, .int x5)] [] σ := by
  intro n
  induction n with
  | zero => intro x4 x5 σ h; exact absurd h (by simp [wX2_byTide_L6])
  | succ n ih =>
    intro x4 x5 σ h
    unfold wX2_byTide_L6 at h
    refine zz_iload M 5 dX2_byTide_6 rfl ?_
    refine zz_iconst (v := 3) M dX2_byTide_8 (by decide) ?_
    refine zz_icmp_ge M 39 dX2_byTide_9 (by decide) (fun c => ?_) (fun c => ?_)
    · have h := zif (c := 3 ≤ x5) h c
      refine zz_sub [(0, .ref (ad 38)), (1, .int x1), (2, .int x2), (3, .int x3), (4, .int x4)] [0, 1, 2, 3, 4] rfl ?_
      exact hK39 _ _ h
    · have h := zifn (c := 3 ≤ x5) h c
      refine zz_aload_n M 0 dX2_byTide_12 rfl rfl ?_
      refine zz_getR M f_X2_15 tX_38 rfl dX2_byTide_13 ?_
      refine zz_iload M 5 dX2_byTide_16 rfl ?_
      refine zz_iald M tX_40 h.1 dX2_byTide_18 ?_
      have h := h.2
      refine zz_aload_n M 0 dX2_byTide_19 rfl rfl ?_
      refine zz_getR M f_X2_15 tX_38 rfl dX2_byTide_20 ?_
      refine zz_iload M 4 dX2_byTide_23 rfl ?_
      refine zz_iald M tX_40 h.1 dX2_byTide_25 ?_
      have h := h.2
      refine zz_icmp_le M 33 dX2_byTide_26 (by decide) (fun c => ?_) (fun c => ?_)
      · have h := zif (c := (σ.1 40 x5.toNatClampNeg) ≤ (σ.1 40 x4.toNatClampNeg)) h c
        obtain ⟨x101, ex101⟩ : ∃ z : Int32, z = x5 + 1 := ⟨_, rfl⟩
        have h := h x101 ex101
        refine zz_iinc M [(5, .int x101), (0, .ref (ad 38)), (1, .int x1), (2, .int x2), (3, .int x3), (4, .int x4)] 5 dX2_byTide_33 rfl (n32 := 1) (by decide) ex101 (by decide) rfl ?_
        refine zz_goto M 6 dX2_byTide_36 (by decide) ?_
        refine zz_sub [(0, .ref (ad 38)), (1, .int x1), (2, .int x2), (3, .int x3), (4, .int x4), (5, .int x101)] [1, 2, 3, 4, 5, 0] rfl ?_
        exact ih _ _ _ h
      · have h := zifn (c := (σ.1 40 x5.toNatClampNeg) ≤ (σ.1 40 x4.toNatClampNeg)) h c
        refine zz_iload M 5 dX2_byTide_29 rfl ?_
        refine zz_istore M [(4, .int x5), (0, .ref (ad 38)), (1, .int x1), (2, .int x2), (3, .int x3), (5, .int x5)] dX2_byTide_31 (by decide) rfl ?_
        obtain ⟨x102, ex102⟩ : ∃ z : Int32, z = x5 + 1 := ⟨_, rfl⟩
        have h := h x102 ex102
        refine zz_iinc M [(5, .int x102), (4, .int x5), (0, .ref (ad 38)), (1, .int x1), (2, .int x2), (3, .int x3)] 5 dX2_byTide_33 rfl (n32 := 1) (by decide) ex102 (by decide) rfl ?_
        refine zz_goto M 6 dX2_byTide_36 (by decide) ?_
        refine zz_sub [(0, .ref (ad 38)), (1, .int x1), (2, .int x2), (3, .int x3), (4, .int x5), (5, .int x102)] [2, 3, 4, 5, 1, 0] rfl ?_
        exact ih _ _ _ h
def wX2_byTide (x1 : Int32) (x2 : Int32) (x3 : Int32) (σ : zSt) (Q : Int32 → zSt → Prop) : Prop := wX2_byTide_L6 Q (fun v103 σ104 => vp_in v103 3 ∧ (if (σ104.1 40 v103.toNatClampNeg) ≤ 0 then (wX2_byClock x1 x2 x3 σ104 (fun r105 σ106 => Q r105 σ106)) else (Q v103 σ104))) x1 x2 x3 300 0 1 σ
set_option maxRecDepth 20000 in
set_option maxHeartbeats 4000000 in
theorem kX2_byTide (hI : zInj tabX ad) (x1 : Int32) (x2 : Int32) (x3 : Int32)  (σ : zSt) (Q : Int32 → zSt → Prop) (h : wX2_byTide x1 x2 x3 σ Q) : zOkI l tabX D cA ad y 2 yX2_byTide cX2_byTide 6 (some .int) [.ref (ad 38), .int x1, .int x2, .int x3] σ Q := by
  refine zz_enter hI (by decide) (Nat.le_of_ble_eq_true rfl) (fun p e s m below meth c M => ?_)
  have M : zM p s m _ meth c cX2_byTide 6 RX2 (some .int) tabX D cA ad y := M
  refine zz_ls [(0, .ref (ad 38)), (1, .int x1), (2, .int x2), (3, .int x3)] rfl ?_
  unfold wX2_byTide at h
  refine zz_iconst (v := 0) M dX2_byTide_0 (by decide) ?_
  refine zz_istore M [(4, .int 0), (0, .ref (ad 38)), (1, .int x1), (2, .int x2), (3, .int x3)] dX2_byTide_1 (by decide) rfl ?_
  refine zz_iconst (v := 1) M dX2_byTide_3 (by decide) ?_
  refine zz_istore M [(5, .int 1), (4, .int 0), (0, .ref (ad 38)), (1, .int x1), (2, .int x2), (3, .int x3)] dX2_byTide_4 (by decide) rfl ?_
  refine zz_sub [(0, .ref (ad 38)), (1, .int x1), (2, .int x2), (3, .int x3), (4, .int 0), (5, .int 1)] [2, 3, 4, 5, 1, 0] rfl ?_
  refine sX2_byTide_L6 x1 x2 x3  M (fun v103 σ104 h => ?_) 300 _ _ _ h
  refine zz_aload_n M 0 dX2_byTide_39 rfl rfl ?_
  refine zz_getR M f_X2_15 tX_38 rfl dX2_byTide_40 ?_
  refine zz_iload M 4 dX2_byTide_43 rfl ?_
  refine zz_iald M tX_40 h.1 dX2_byTide_45 ?_
  have h := h.2
  refine zz_if_le (y0 := 0) M 54 dX2_byTide_46 (by decide) (fun c => ?_) (fun c => ?_)
  · have h := zif (c := (σ104.1 40 v103.toNatClampNeg) ≤ 0) h c
    refine zz_iload_n M 1 dX2_byTide_54 rfl rfl ?_
    refine zz_iload_n M 2 dX2_byTide_55 rfl rfl ?_
    refine zz_iload_n M 3 dX2_byTide_56 rfl rfl ?_
    refine zz_callSI (d' := 1) (As := [.int x1, .int x2, .int x3]) (rest := []) M l_X2_75 dX2_byTide_57 rfl rfl (by decide) (Nat.le_of_ble_eq_true rfl) (by have hI := M.2.2.2.2.2.2.2.2; exact kX2_byClock hI _ _ _  _ _ h) (fun r105 σ106 h => ?_)
    exact zz_iret M dX2_byTide_60 h
  · have h := zifn (c := (σ104.1 40 v103.toNatClampNeg) ≤ 0) h c
    refine zz_iload M 4 dX2_byTide_49 rfl ?_
    refine zz_goto M 60 dX2_byTide_51 (by decide) ?_
    exact zz_iret M dX2_byTide_60 h
def wX2_byMarket_L4 (Q : Int32 → zSt → Prop) (K32 : Int32 → zSt → Prop)  : Nat → Int32 → Int32 → zSt → Prop
  | 0, _, _, _ => False
  | n + 1, x1, x2, σ => if 3 ≤ x2 then (K32 x1 σ) else (vp_in x2 3 ∧ (vp_in x1 3 ∧ (if (σ.1 41 x1.toNatClampNeg) ≤ (σ.1 41 x2.toNatClampNeg) then (∀ x101 : Int32, x101 = x2 + 1 → (wX2_byMarket_L4 Q K32  n x1 x101 σ)) else (∀ x102 : Int32, x102 = x2 + 1 → (wX2_byMarket_L4 Q K32  n x2 x102 σ)))))
set_option maxRecDepth 20000 in
set_option maxHeartbeats 4000000 in
theorem sX2_byMarket_L4 {Q : Int32 → zSt → Prop} {K32 : Int32 → zSt → Prop}   (M : zM p s m args meth c cX2_byMarket 3 RX2 (some .int) tabX D cA ad y) (hK32 : ∀ (v1 : Int32) (σ : zSt), K32 v1 σ → zG p l e (zrm 1) s m args below meth c 3 tabX D cA ad (MQ below (va_Qi Q (fun σ' t => va_P D vwCl (zws tabX cA ad σ') t.heap) (zIn tabX ad)) args s 0 0 (zIn tabX ad)) 32 [(1, .int v1)] [] σ) : ∀ (n : Nat) (x1 : Int32) (x2 : Int32) (σ : zSt), wX2_byMarket_L4 Q K32  n x1 x2 σ → zG p l e (zrm 1) s m args below meth c 3 tabX D cA ad (MQ below (va_Qi Q (fun σ' t => va_P D vwCl (zws tabX cA ad σ') t.heap) (zIn tabX ad)) args s 0 0 (zIn tabX ad)) 4 [(0, .ref (ad 38)), (1, .int x1), (2, .int x2)] [] σ := by
  intro n
  induction n with
  | zero => intro x1 x2 σ h; exact absurd h (by simp [wX2_byMarket_L4])
  | succ n ih =>
    intro x1 x2 σ h
    unfold wX2_byMarket_L4 at h
    refine zz_iload_n M 2 dX2_byMarket_4 rfl rfl ?_
    refine zz_iconst (v := 3) M dX2_byMarket_5 (by decide) ?_
    refine zz_icmp_ge M 32 dX2_byMarket_6 (by decide) (fun c => ?_) (fun c => ?_)
    · have h := zif (c := 3 ≤ x2) h c
      refine zz_sub [(1, .int x1)] [1] rfl ?_
      exact hK32 _ _ h
    · have h := zifn (c := 3 ≤ x2) h c
      refine zz_aload_n M 0 dX2_byMarket_9 rfl rfl ?_
      refine zz_getR M f_X2_18 tX_38 rfl dX2_byMarket_10 ?_
      refine zz_iload_n M 2 dX2_byMarket_13 rfl rfl ?_
      refine zz_iald M tX_41 h.1 dX2_byMarket_14 ?_
      have h := h.2
      refine zz_aload_n M 0 dX2_byMarket_15 rfl rfl ?_
      refine zz_getR M f_X2_18 tX_38 rfl dX2_byMarket_16 ?_
      refine zz_iload_n M 1 dX2_byMarket_19 rfl rfl ?_
      refine zz_iald M tX_41 h.1 dX2_byMarket_20 ?_
      have h := h.2
      refine zz_icmp_ge M 26 dX2_byMarket_21 (by decide) (fun c => ?_) (fun c => ?_)
      · have h := zif (c := (σ.1 41 x1.toNatClampNeg) ≤ (σ.1 41 x2.toNatClampNeg)) h c
        obtain ⟨x101, ex101⟩ : ∃ z : Int32, z = x2 + 1 := ⟨_, rfl⟩
        have h := h x101 ex101
        refine zz_iinc M [(2, .int x101), (0, .ref (ad 38)), (1, .int x1)] 2 dX2_byMarket_26 rfl (n32 := 1) (by decide) ex101 (by decide) rfl ?_
        refine zz_goto M 4 dX2_byMarket_29 (by decide) ?_
        refine zz_sub [(0, .ref (ad 38)), (1, .int x1), (2, .int x101)] [1, 2, 0] rfl ?_
        exact ih _ _ _ h
      · have h := zifn (c := (σ.1 41 x1.toNatClampNeg) ≤ (σ.1 41 x2.toNatClampNeg)) h c
        refine zz_iload_n M 2 dX2_byMarket_24 rfl rfl ?_
        refine zz_istore_n M [(1, .int x2), (0, .ref (ad 38)), (2, .int x2)] dX2_byMarket_25 rfl (by decide) rfl ?_
        obtain ⟨x102, ex102⟩ : ∃ z : Int32, z = x2 + 1 := ⟨_, rfl⟩
        have h := h x102 ex102
        refine zz_iinc M [(2, .int x102), (1, .int x2), (0, .ref (ad 38))] 2 dX2_byMarket_26 rfl (n32 := 1) (by decide) ex102 (by decide) rfl ?_
        refine zz_goto M 4 dX2_byMarket_29 (by decide) ?_
        refine zz_sub [(0, .ref (ad 38)), (1, .int x2), (2, .int x102)] [2, 1, 0] rfl ?_
        exact ih _ _ _ h
def wX2_byMarket  (σ : zSt) (Q : Int32 → zSt → Prop) : Prop := wX2_byMarket_L4 Q (fun v103 σ104 => Q v103 σ104)  300 0 1 σ
set_option maxRecDepth 20000 in
set_option maxHeartbeats 4000000 in
theorem kX2_byMarket (hI : zInj tabX ad)   (σ : zSt) (Q : Int32 → zSt → Prop) (h : wX2_byMarket  σ Q) : zOkI l tabX D cA ad y 1 yX2_byMarket cX2_byMarket 3 (some .int) [.ref (ad 38)] σ Q := by
  refine zz_enter hI (by decide) (Nat.le_of_ble_eq_true rfl) (fun p e s m below meth c M => ?_)
  have M : zM p s m _ meth c cX2_byMarket 3 RX2 (some .int) tabX D cA ad y := M
  refine zz_ls [(0, .ref (ad 38))] rfl ?_
  unfold wX2_byMarket at h
  refine zz_iconst (v := 0) M dX2_byMarket_0 (by decide) ?_
  refine zz_istore_n M [(1, .int 0), (0, .ref (ad 38))] dX2_byMarket_1 rfl (by decide) rfl ?_
  refine zz_iconst (v := 1) M dX2_byMarket_2 (by decide) ?_
  refine zz_istore_n M [(2, .int 1), (1, .int 0), (0, .ref (ad 38))] dX2_byMarket_3 rfl (by decide) rfl ?_
  refine zz_sub [(0, .ref (ad 38)), (1, .int 0), (2, .int 1)] [2, 1, 0] rfl ?_
  refine sX2_byMarket_L4   M (fun v103 σ104 h => ?_) 300 _ _ _ h
  refine zz_iload_n M 0 dX2_byMarket_32 rfl rfl ?_
  exact zz_iret M dX2_byMarket_33 h
def wX2_byGain_L4 (Q : Int32 → zSt → Prop) (K46 : Int32 → zSt → Prop)  : Nat → Int32 → Int32 → zSt → Prop
  | 0, _, _, _ => False
  | n + 1, x1, x2, σ => if 3 ≤ x2 then (K46 x1 σ) else (vp_in x2 3 ∧ (vp_in x2 3 ∧ (vp_in x1 3 ∧ (vp_in x1 3 ∧ (if ((σ.1 40 x2.toNatClampNeg) - (σ.1 41 x2.toNatClampNeg)) ≤ ((σ.1 40 x1.toNatClampNeg) - (σ.1 41 x1.toNatClampNeg)) then (∀ x101 : Int32, x101 = x2 + 1 → (wX2_byGain_L4 Q K46  n x1 x101 σ)) else (∀ x102 : Int32, x102 = x2 + 1 → (wX2_byGain_L4 Q K46  n x2 x102 σ)))))))
set_option maxRecDepth 20000 in
set_option maxHeartbeats 4000000 in
theorem sX2_byGain_L4 {Q : Int32 → zSt → Prop} {K46 : Int32 → zSt → Prop}   (M : zM p s m args meth c cX2_byGain 3 RX2 (some .int) tabX D cA ad y) (hK46 : ∀ (v1 : Int32) (σ : zSt), K46 v1 σ → zG p l e (zrm 1) s m args below meth c 3 tabX D cA ad (MQ below (va_Qi Q (fun σ' t => va_P D vwCl (zws tabX cA ad σ') t.heap) (zIn tabX ad)) args s 0 0 (zIn tabX ad)) 46 [(1, .int v1)] [] σ) : ∀ (n : Nat) (x1 : Int32) (x2 : Int32) (σ : zSt), wX2_byGain_L4 Q K46  n x1 x2 σ → zG p l e (zrm 1) s m args below meth c 3 tabX D cA ad (MQ below (va_Qi Q (fun σ' t => va_P D vwCl (zws tabX cA ad σ') t.heap) (zIn tabX ad)) args s 0 0 (zIn tabX ad)) 4 [(0, .ref (ad 38)), (1, .int x1), (2, .int x2)] [] σ := by
  intro n
  induction n with
  | zero => intro x1 x2 σ h; exact absurd h (by simp [wX2_byGain_L4])
  | succ n ih =>
    intro x1 x2 σ h
    unfold wX2_byGain_L4 at h
    refine zz_iload_n M 2 dX2_byGain_4 rfl rfl ?_
    refine zz_iconst (v := 3) M dX2_byGain_5 (by decide) ?_
    refine zz_icmp_ge M 46 dX2_byGain_6 (by decide) (fun c => ?_) (fun c => ?_)
    · have h := zif (c := 3 ≤ x2) h c
      refine zz_sub [(1, .int x1)] [1] rfl ?_
      exact hK46 _ _ h
    · have h := zifn (c := 3 ≤ x2) h c
      refine zz_aload_n M 0 dX2_byGain_9 rfl rfl ?_
      refine zz_getR M f_X2_15 tX_38 rfl dX2_byGain_10 ?_
      refine zz_iload_n M 2 dX2_byGain_13 rfl rfl ?_
      refine zz_iald M tX_40 h.1 dX2_byGain_14 ?_
      have h := h.2
      refine zz_aload_n M 0 dX2_byGain_15 rfl rfl ?_
      refine zz_getR M f_X2_18 tX_38 rfl dX2_byGain_16 ?_
      refine zz_iload_n M 2 dX2_byGain_19 rfl rfl ?_
      refine zz_iald M tX_41 h.1 dX2_byGain_20 ?_
      have h := h.2
      refine zz_isub M dX2_byGain_21 ?_
      refine zz_aload_n M 0 dX2_byGain_22 rfl rfl ?_
      refine zz_getR M f_X2_15 tX_38 rfl dX2_byGain_23 ?_
      refine zz_iload_n M 1 dX2_byGain_26 rfl rfl ?_
      refine zz_iald M tX_40 h.1 dX2_byGain_27 ?_
      have h := h.2
      refine zz_aload_n M 0 dX2_byGain_28 rfl rfl ?_
      refine zz_getR M f_X2_18 tX_38 rfl dX2_byGain_29 ?_
      refine zz_iload_n M 1 dX2_byGain_32 rfl rfl ?_
      refine zz_iald M tX_41 h.1 dX2_byGain_33 ?_
      have h := h.2
      refine zz_isub M dX2_byGain_34 ?_
      refine zz_icmp_le M 40 dX2_byGain_35 (by decide) (fun c => ?_) (fun c => ?_)
      · have h := zif (c := ((σ.1 40 x2.toNatClampNeg) - (σ.1 41 x2.toNatClampNeg)) ≤ ((σ.1 40 x1.toNatClampNeg) - (σ.1 41 x1.toNatClampNeg))) h c
        obtain ⟨x101, ex101⟩ : ∃ z : Int32, z = x2 + 1 := ⟨_, rfl⟩
        have h := h x101 ex101
        refine zz_iinc M [(2, .int x101), (0, .ref (ad 38)), (1, .int x1)] 2 dX2_byGain_40 rfl (n32 := 1) (by decide) ex101 (by decide) rfl ?_
        refine zz_goto M 4 dX2_byGain_43 (by decide) ?_
        refine zz_sub [(0, .ref (ad 38)), (1, .int x1), (2, .int x101)] [1, 2, 0] rfl ?_
        exact ih _ _ _ h
      · have h := zifn (c := ((σ.1 40 x2.toNatClampNeg) - (σ.1 41 x2.toNatClampNeg)) ≤ ((σ.1 40 x1.toNatClampNeg) - (σ.1 41 x1.toNatClampNeg))) h c
        refine zz_iload_n M 2 dX2_byGain_38 rfl rfl ?_
        refine zz_istore_n M [(1, .int x2), (0, .ref (ad 38)), (2, .int x2)] dX2_byGain_39 rfl (by decide) rfl ?_
        obtain ⟨x102, ex102⟩ : ∃ z : Int32, z = x2 + 1 := ⟨_, rfl⟩
        have h := h x102 ex102
        refine zz_iinc M [(2, .int x102), (1, .int x2), (0, .ref (ad 38))] 2 dX2_byGain_40 rfl (n32 := 1) (by decide) ex102 (by decide) rfl ?_
        refine zz_goto M 4 dX2_byGain_43 (by decide) ?_
        refine zz_sub [(0, .ref (ad 38)), (1, .int x2), (2, .int x102)] [2, 1, 0] rfl ?_
        exact ih _ _ _ h
def wX2_byGain  (σ : zSt) (Q : Int32 → zSt → Prop) : Prop := wX2_byGain_L4 Q (fun v103 σ104 => Q v103 σ104)  300 0 1 σ
set_option maxRecDepth 20000 in
set_option maxHeartbeats 4000000 in
theorem kX2_byGain (hI : zInj tabX ad)   (σ : zSt) (Q : Int32 → zSt → Prop) (h : wX2_byGain  σ Q) : zOkI l tabX D cA ad y 1 yX2_byGain cX2_byGain 3 (some .int) [.ref (ad 38)] σ Q := by
  refine zz_enter hI (by decide) (Nat.le_of_ble_eq_true rfl) (fun p e s m below meth c M => ?_)
  have M : zM p s m _ meth c cX2_byGain 3 RX2 (some .int) tabX D cA ad y := M
  refine zz_ls [(0, .ref (ad 38))] rfl ?_
  unfold wX2_byGain at h
  refine zz_iconst (v := 0) M dX2_byGain_0 (by decide) ?_
  refine zz_istore_n M [(1, .int 0), (0, .ref (ad 38))] dX2_byGain_1 rfl (by decide) rfl ?_
  refine zz_iconst (v := 1) M dX2_byGain_2 (by decide) ?_
  refine zz_istore_n M [(2, .int 1), (1, .int 0), (0, .ref (ad 38))] dX2_byGain_3 rfl (by decide) rfl ?_
  refine zz_sub [(0, .ref (ad 38)), (1, .int 0), (2, .int 1)] [2, 1, 0] rfl ?_
  refine sX2_byGain_L4   M (fun v103 σ104 h => ?_) 300 _ _ _ h
  refine zz_iload_n M 0 dX2_byGain_46 rfl rfl ?_
  exact zz_iret M dX2_byGain_47 h
def wX2_next (x1 : Int32) (x2 : Int32) (x3 : Int32) (x4 : Int32) (σ : zSt) (Q : Int32 → zSt → Prop) : Prop := if x1 = 1 then (wX2_byTide x2 x3 x4 σ (fun r103 σ104 => Q r103 σ104)) else (if x1 = 2 then (wX2_byMarket  σ (fun r105 σ106 => Q r105 σ106)) else (if x1 = 3 then (wX7_isBridge x4 σ (fun r107 σ108 => if r107 = 0 then (wX2_byTide x2 x3 x4 σ108 (fun r109 σ110 => Q r109 σ110)) else (vp_in x4 3 ∧ (if (σ108.1 40 x4.toNatClampNeg) = 0 then (wX2_byTide x2 x3 x4 σ108 (fun r111 σ112 => Q r111 σ112)) else (Q x4 σ108))))) else (if x1 = 4 then (if (x2 - x2 / 2 * 2) = 1 then (wX2_byMarket  σ (fun r115 σ116 => Q r115 σ116)) else (wX2_byGain  σ (fun r113 σ114 => Q r113 σ114))) else (if x1 = 5 then (if (x3 - x3 / 3 * 3) = 0 then (wX2_byTide x2 x3 x4 σ (fun r117 σ118 => Q r117 σ118)) else (Q x4 σ)) else (wX2_byClock x2 x3 x4 σ (fun r101 σ102 => Q r101 σ102))))))
set_option maxRecDepth 20000 in
set_option maxHeartbeats 4000000 in
theorem kX2_next (hI : zInj tabX ad) (x1 : Int32) (x2 : Int32) (x3 : Int32) (x4 : Int32)  (σ : zSt) (Q : Int32 → zSt → Prop) (h : wX2_next x1 x2 x3 x4 σ Q) : zOkI l tabX D cA ad y 3 yX2_next cX2_next 5 (some .int) [.ref (ad 38), .int x1, .int x2, .int x3, .int x4] σ Q := by
  refine zz_enter hI (by decide) (Nat.le_of_ble_eq_true rfl) (fun p e s m below meth c M => ?_)
  have M : zM p s m _ meth c cX2_next 5 RX2 (some .int) tabX D cA ad y := M
  refine zz_ls [(0, .ref (ad 38)), (1, .int x1), (2, .int x2), (3, .int x3), (4, .int x4)] rfl ?_
  unfold wX2_next at h
  refine zz_iload_n M 1 dX2_next_0 rfl rfl ?_
  by_cases c1 : x1 = 1
  · have h := zif h c1
    refine zz_tinK M c1 36 dX2_next_1 (by decide) (by decide) rfl (by decide) ?_
    refine zz_aload_n M 0 dX2_next_36 rfl rfl ?_
    refine zz_iload_n M 2 dX2_next_37 rfl rfl ?_
    refine zz_iload_n M 3 dX2_next_38 rfl rfl ?_
    refine zz_iload M 4 dX2_next_39 rfl ?_
    refine zz_callVI (d' := 2) (As := [.int x2, .int x3, .int x4]) (rest := []) M l_X2_61 tX_38 rfl rfl dX2_next_41 rfl rfl (by decide) (Nat.le_of_ble_eq_true rfl) (by have hI := M.2.2.2.2.2.2.2.2; exact kX2_byTide hI _ _ _  _ _ h) (fun r103 σ104 h => ?_)
    exact zz_iret M dX2_next_44 h
  have h := zifn h c1
  by_cases c2 : x1 = 2
  · have h := zif h c2
    refine zz_tinK M c2 45 dX2_next_1 (by decide) (by decide) rfl (by decide) ?_
    refine zz_aload_n M 0 dX2_next_45 rfl rfl ?_
    refine zz_callVI (d' := 1) (As := []) (rest := []) M l_X2_65 tX_38 rfl rfl dX2_next_46 rfl rfl (by decide) (Nat.le_of_ble_eq_true rfl) (by have hI := M.2.2.2.2.2.2.2.2; exact kX2_byMarket hI   _ _ h) (fun r105 σ106 h => ?_)
    exact zz_iret M dX2_next_49 h
  have h := zifn h c2
  by_cases c3 : x1 = 3
  · have h := zif h c3
    refine zz_tinK M c3 50 dX2_next_1 (by decide) (by decide) rfl (by decide) ?_
    refine zz_iload M 4 dX2_next_50 rfl ?_
    refine zz_callNI (d' := 1) (As := [.int x4]) (rest := []) M l_X2_69 dX2_next_52 rfl rfl (by decide) (Nat.le_of_ble_eq_true rfl) (by have hI := M.2.2.2.2.2.2.2.2; exact kX7_isBridge hI _  _ _ h) (fun r107 σ108 h => ?_)
    refine zz_if_eq (y0 := 0) M 73 dX2_next_55 (by decide) (fun c => ?_) (fun c => ?_)
    · have h := zif (c := r107 = 0) h c
      refine zz_aload_n M 0 dX2_next_73 rfl rfl ?_
      refine zz_iload_n M 2 dX2_next_74 rfl rfl ?_
      refine zz_iload_n M 3 dX2_next_75 rfl rfl ?_
      refine zz_iload M 4 dX2_next_76 rfl ?_
      refine zz_callVI (d' := 2) (As := [.int x2, .int x3, .int x4]) (rest := []) M l_X2_61 tX_38 rfl rfl dX2_next_78 rfl rfl (by decide) (Nat.le_of_ble_eq_true rfl) (by have hI := M.2.2.2.2.2.2.2.2; exact kX2_byTide hI _ _ _  _ _ h) (fun r109 σ110 h => ?_)
      exact zz_iret M dX2_next_81 h
    · have h := zifn (c := r107 = 0) h c
      refine zz_aload_n M 0 dX2_next_58 rfl rfl ?_
      refine zz_getR M f_X2_15 tX_38 rfl dX2_next_59 ?_
      refine zz_iload M 4 dX2_next_62 rfl ?_
      refine zz_iald M tX_40 h.1 dX2_next_64 ?_
      have h := h.2
      refine zz_if_eq (y0 := 0) M 73 dX2_next_65 (by decide) (fun c => ?_) (fun c => ?_)
      · have h := zif (c := (σ108.1 40 x4.toNatClampNeg) = 0) h c
        refine zz_aload_n M 0 dX2_next_73 rfl rfl ?_
        refine zz_iload_n M 2 dX2_next_74 rfl rfl ?_
        refine zz_iload_n M 3 dX2_next_75 rfl rfl ?_
        refine zz_iload M 4 dX2_next_76 rfl ?_
        refine zz_callVI (d' := 2) (As := [.int x2, .int x3, .int x4]) (rest := []) M l_X2_61 tX_38 rfl rfl dX2_next_78 rfl rfl (by decide) (Nat.le_of_ble_eq_true rfl) (by have hI := M.2.2.2.2.2.2.2.2; exact kX2_byTide hI _ _ _  _ _ h) (fun r111 σ112 h => ?_)
        exact zz_iret M dX2_next_81 h
      · have h := zifn (c := (σ108.1 40 x4.toNatClampNeg) = 0) h c
        refine zz_iload M 4 dX2_next_68 rfl ?_
        refine zz_goto M 81 dX2_next_70 (by decide) ?_
        exact zz_iret M dX2_next_81 h
  have h := zifn h c3
  by_cases c4 : x1 = 4
  · have h := zif h c4
    refine zz_tinK M c4 82 dX2_next_1 (by decide) (by decide) rfl (by decide) ?_
    refine zz_iload_n M 2 dX2_next_82 rfl rfl ?_
    refine zz_iconst (v := 2) M dX2_next_83 (by decide) ?_
    refine zz_irem M dX2_next_84 (by decide) ?_
    refine zz_iconst (v := 1) M dX2_next_85 (by decide) ?_
    refine zz_icmp_ne M 96 dX2_next_86 (by decide) (fun c => ?_) (fun c => ?_)
    · have h := zifn (c := (x2 - x2 / 2 * 2) = 1) h c
      refine zz_aload_n M 0 dX2_next_96 rfl rfl ?_
      refine zz_callVI (d' := 1) (As := []) (rest := []) M l_X2_72 tX_38 rfl rfl dX2_next_97 rfl rfl (by decide) (Nat.le_of_ble_eq_true rfl) (by have hI := M.2.2.2.2.2.2.2.2; exact kX2_byGain hI   _ _ h) (fun r113 σ114 h => ?_)
      exact zz_iret M dX2_next_100 h
    · have h := zif (c := (x2 - x2 / 2 * 2) = 1) h c
      refine zz_aload_n M 0 dX2_next_89 rfl rfl ?_
      refine zz_callVI (d' := 1) (As := []) (rest := []) M l_X2_65 tX_38 rfl rfl dX2_next_90 rfl rfl (by decide) (Nat.le_of_ble_eq_true rfl) (by have hI := M.2.2.2.2.2.2.2.2; exact kX2_byMarket hI   _ _ h) (fun r115 σ116 h => ?_)
      refine zz_goto M 100 dX2_next_93 (by decide) ?_
      exact zz_iret M dX2_next_100 h
  have h := zifn h c4
  by_cases c5 : x1 = 5
  · have h := zif h c5
    refine zz_tinK M c5 101 dX2_next_1 (by decide) (by decide) rfl (by decide) ?_
    refine zz_iload_n M 3 dX2_next_101 rfl rfl ?_
    refine zz_iconst (v := 3) M dX2_next_102 (by decide) ?_
    refine zz_irem M dX2_next_103 (by decide) ?_
    refine zz_if_ne (y0 := 0) M 118 dX2_next_104 (by decide) (fun c => ?_) (fun c => ?_)
    · have h := zifn (c := (x3 - x3 / 3 * 3) = 0) h c
      refine zz_iload M 4 dX2_next_118 rfl ?_
      exact zz_iret M dX2_next_120 h
    · have h := zif (c := (x3 - x3 / 3 * 3) = 0) h c
      refine zz_aload_n M 0 dX2_next_107 rfl rfl ?_
      refine zz_iload_n M 2 dX2_next_108 rfl rfl ?_
      refine zz_iload_n M 3 dX2_next_109 rfl rfl ?_
      refine zz_iload M 4 dX2_next_110 rfl ?_
      refine zz_callVI (d' := 2) (As := [.int x2, .int x3, .int x4]) (rest := []) M l_X2_61 tX_38 rfl rfl dX2_next_112 rfl rfl (by decide) (Nat.le_of_ble_eq_true rfl) (by have hI := M.2.2.2.2.2.2.2.2; exact kX2_byTide hI _ _ _  _ _ h) (fun r117 σ118 h => ?_)
      refine zz_goto M 120 dX2_next_115 (by decide) ?_
      exact zz_iret M dX2_next_120 h
  have h := zifn h c5
  refine zz_tout M 121 dX2_next_1 (ztab1_5 c1 c2 c3 c4 c5) (by decide) ?_
  refine zz_iload_n M 2 dX2_next_121 rfl rfl ?_
  refine zz_iload_n M 3 dX2_next_122 rfl rfl ?_
  refine zz_iload M 4 dX2_next_123 rfl ?_
  refine zz_callSI (d' := 1) (As := [.int x2, .int x3, .int x4]) (rest := []) M l_X2_75 dX2_next_125 rfl rfl (by decide) (Nat.le_of_ble_eq_true rfl) (by have hI := M.2.2.2.2.2.2.2.2; exact kX2_byClock hI _ _ _  _ _ h) (fun r101 σ102 h => ?_)
  exact zz_iret M dX2_next_128 h
def wX2_going_L5 (Q : Int32 → zSt → Prop) (K64 : Int32 → zSt → Prop) (x1 : Int32) (x2 : Int32) : Nat → Int32 → Int32 → zSt → Prop
  | 0, _, _, _ => False
  | n + 1, x3, x4, σ => if 8 ≤ x4 then (K64 x3 σ) else (wX1_isThere x4 σ (fun r101 σ102 => if r101 = 0 then (∀ x103 : Int32, x103 = x4 + 1 → (wX2_going_L5 Q K64 x1 x2 n x3 x103 σ102)) else (vp_in x4 8 ∧ (if x1 < (σ102.1 5 x4.toNatClampNeg) then (∀ x104 : Int32, x104 = x4 + 1 → (wX2_going_L5 Q K64 x1 x2 n x3 x104 σ102)) else (wX1_passes x4 x2 σ102 (fun r105 σ106 => if r105 = 0 then (∀ x107 : Int32, x107 = x4 + 1 → (wX2_going_L5 Q K64 x1 x2 n x3 x107 σ106)) else (∀ x108 : Int32, x108 = (x3 ||| (1 <<< (x4 &&& 31))) → (∀ x109 : Int32, x109 = x4 + 1 → (wX2_going_L5 Q K64 x1 x2 n x108 x109 σ106)))))))))
set_option maxRecDepth 20000 in
set_option maxHeartbeats 4000000 in
theorem sX2_going_L5 {Q : Int32 → zSt → Prop} {K64 : Int32 → zSt → Prop} (x1 : Int32) (x2 : Int32)  (M : zM p s m args meth c cX2_going 5 RX2 (some .int) tabX D cA ad y) (hK64 : ∀ (v3 : Int32) (σ : zSt), K64 v3 σ → zG p l e (zrm 2) s m args below meth c 5 tabX D cA ad (MQ below (va_Qi Q (fun σ' t => va_P D vwCl (zws tabX cA ad σ') t.heap) (zIn tabX ad)) args s 0 0 (zIn tabX ad)) 64 [(3, .int v3)] [] σ) : ∀ (n : Nat) (x3 : Int32) (x4 : Int32) (σ : zSt), wX2_going_L5 Q K64 x1 x2 n x3 x4 σ → zG p l e (zrm 2) s m args below meth c 5 tabX D cA ad (MQ below (va_Qi Q (fun σ' t => va_P D vwCl (zws tabX cA ad σ') t.heap) (zIn tabX ad)) args s 0 0 (zIn tabX ad)) 5 [(0, .ref (ad 38)), (1, .int x1), (2, .int x2), (3, .int x3), (4, .int x4)] [] σ := by
  intro n
  induction n with
  | zero => intro x3 x4 σ h; exact absurd h (by simp [wX2_going_L5])
  | succ n ih =>
    intro x3 x4 σ h
    unfold wX2_going_L5 at h
    refine zz_iload M 4 dX2_going_5 rfl ?_
    refine zz_bipush (v := 8) M dX2_going_7 (by decide) ?_
    refine zz_icmp_ge M 64 dX2_going_9 (by decide) (fun c => ?_) (fun c => ?_)
    · have h := zif (c := 8 ≤ x4) h c
      refine zz_sub [(3, .int x3)] [3] rfl ?_
      exact hK64 _ _ h
    · have h := zifn (c := 8 ≤ x4) h c
      refine zz_aload_n M 0 dX2_going_12 rfl rfl ?_
      refine zz_getR M f_X2_21 tX_38 rfl dX2_going_13 ?_
      refine zz_iload M 4 dX2_going_16 rfl ?_
      refine zz_callVI (d' := 1) (As := [.int x4]) (rest := []) M l_X2_44 tX_1 rfl rfl dX2_going_18 rfl rfl (by decide) (Nat.le_of_ble_eq_true rfl) (by have hI := M.2.2.2.2.2.2.2.2; exact kX1_isThere hI _  _ _ h) (fun r101 σ102 h => ?_)
      refine zz_if_eq (y0 := 0) M 58 dX2_going_21 (by decide) (fun c => ?_) (fun c => ?_)
      · have h := zif (c := r101 = 0) h c
        obtain ⟨x103, ex103⟩ : ∃ z : Int32, z = x4 + 1 := ⟨_, rfl⟩
        have h := h x103 ex103
        refine zz_iinc M [(4, .int x103), (0, .ref (ad 38)), (1, .int x1), (2, .int x2), (3, .int x3)] 4 dX2_going_58 rfl (n32 := 1) (by decide) ex103 (by decide) rfl ?_
        refine zz_goto M 5 dX2_going_61 (by decide) ?_
        refine zz_sub [(0, .ref (ad 38)), (1, .int x1), (2, .int x2), (3, .int x3), (4, .int x103)] [1, 2, 3, 4, 0] rfl ?_
        exact ih _ _ _ h
      · have h := zifn (c := r101 = 0) h c
        refine zz_aload_n M 0 dX2_going_24 rfl rfl ?_
        refine zz_getR M f_X2_21 tX_38 rfl dX2_going_25 ?_
        refine zz_getR M f_X2_51 tX_1 rfl dX2_going_28 ?_
        refine zz_iload M 4 dX2_going_31 rfl ?_
        refine zz_iald M tX_5 h.1 dX2_going_33 ?_
        have h := h.2
        refine zz_iload_n M 1 dX2_going_34 rfl rfl ?_
        refine zz_icmp_gt M 58 dX2_going_35 (by decide) (fun c => ?_) (fun c => ?_)
        · have h := zif (c := x1 < (σ102.1 5 x4.toNatClampNeg)) h c
          obtain ⟨x104, ex104⟩ : ∃ z : Int32, z = x4 + 1 := ⟨_, rfl⟩
          have h := h x104 ex104
          refine zz_iinc M [(4, .int x104), (0, .ref (ad 38)), (1, .int x1), (2, .int x2), (3, .int x3)] 4 dX2_going_58 rfl (n32 := 1) (by decide) ex104 (by decide) rfl ?_
          refine zz_goto M 5 dX2_going_61 (by decide) ?_
          refine zz_sub [(0, .ref (ad 38)), (1, .int x1), (2, .int x2), (3, .int x3), (4, .int x104)] [1, 2, 3, 4, 0] rfl ?_
          exact ih _ _ _ h
        · have h := zifn (c := x1 < (σ102.1 5 x4.toNatClampNeg)) h c
          refine zz_aload_n M 0 dX2_going_38 rfl rfl ?_
          refine zz_getR M f_X2_21 tX_38 rfl dX2_going_39 ?_
          refine zz_iload M 4 dX2_going_42 rfl ?_
          refine zz_iload_n M 2 dX2_going_44 rfl rfl ?_
          refine zz_callVI (d' := 1) (As := [.int x4, .int x2]) (rest := []) M l_X2_57 tX_1 rfl rfl dX2_going_45 rfl rfl (by decide) (Nat.le_of_ble_eq_true rfl) (by have hI := M.2.2.2.2.2.2.2.2; exact kX1_passes hI _ _  _ _ h) (fun r105 σ106 h => ?_)
          refine zz_if_eq (y0 := 0) M 58 dX2_going_48 (by decide) (fun c => ?_) (fun c => ?_)
          · have h := zif (c := r105 = 0) h c
            obtain ⟨x107, ex107⟩ : ∃ z : Int32, z = x4 + 1 := ⟨_, rfl⟩
            have h := h x107 ex107
            refine zz_iinc M [(4, .int x107), (0, .ref (ad 38)), (1, .int x1), (2, .int x2), (3, .int x3)] 4 dX2_going_58 rfl (n32 := 1) (by decide) ex107 (by decide) rfl ?_
            refine zz_goto M 5 dX2_going_61 (by decide) ?_
            refine zz_sub [(0, .ref (ad 38)), (1, .int x1), (2, .int x2), (3, .int x3), (4, .int x107)] [1, 2, 3, 4, 0] rfl ?_
            exact ih _ _ _ h
          · have h := zifn (c := r105 = 0) h c
            refine zz_iload_n M 3 dX2_going_51 rfl rfl ?_
            refine zz_iconst (v := 1) M dX2_going_52 (by decide) ?_
            refine zz_iload M 4 dX2_going_53 rfl ?_
            refine zz_ishl M dX2_going_55 ?_
            refine zz_ior M dX2_going_56 ?_
            refine zz_topi (fun x108 ex108 => ?_)
            have h := h x108 ex108
            refine zz_istore_n M [(3, .int x108), (0, .ref (ad 38)), (1, .int x1), (2, .int x2), (4, .int x4)] dX2_going_57 rfl (by decide) rfl ?_
            obtain ⟨x109, ex109⟩ : ∃ z : Int32, z = x4 + 1 := ⟨_, rfl⟩
            have h := h x109 ex109
            refine zz_iinc M [(4, .int x109), (3, .int x108), (0, .ref (ad 38)), (1, .int x1), (2, .int x2)] 4 dX2_going_58 rfl (n32 := 1) (by decide) ex109 (by decide) rfl ?_
            refine zz_goto M 5 dX2_going_61 (by decide) ?_
            refine zz_sub [(0, .ref (ad 38)), (1, .int x1), (2, .int x2), (3, .int x108), (4, .int x109)] [2, 3, 4, 1, 0] rfl ?_
            exact ih _ _ _ h
def wX2_going (x1 : Int32) (x2 : Int32) (σ : zSt) (Q : Int32 → zSt → Prop) : Prop := wX2_going_L5 Q (fun v110 σ111 => Q v110 σ111) x1 x2 300 0 0 σ
set_option maxRecDepth 20000 in
set_option maxHeartbeats 4000000 in
theorem kX2_going (hI : zInj tabX ad) (x1 : Int32) (x2 : Int32)  (σ : zSt) (Q : Int32 → zSt → Prop) (h : wX2_going x1 x2 σ Q) : zOkI l tabX D cA ad y 2 yX2_going cX2_going 5 (some .int) [.ref (ad 38), .int x1, .int x2] σ Q := by
  refine zz_enter hI (by decide) (Nat.le_of_ble_eq_true rfl) (fun p e s m below meth c M => ?_)
  have M : zM p s m _ meth c cX2_going 5 RX2 (some .int) tabX D cA ad y := M
  refine zz_ls [(0, .ref (ad 38)), (1, .int x1), (2, .int x2)] rfl ?_
  unfold wX2_going at h
  refine zz_iconst (v := 0) M dX2_going_0 (by decide) ?_
  refine zz_istore_n M [(3, .int 0), (0, .ref (ad 38)), (1, .int x1), (2, .int x2)] dX2_going_1 rfl (by decide) rfl ?_
  refine zz_iconst (v := 0) M dX2_going_2 (by decide) ?_
  refine zz_istore M [(4, .int 0), (3, .int 0), (0, .ref (ad 38)), (1, .int x1), (2, .int x2)] dX2_going_3 (by decide) rfl ?_
  refine zz_sub [(0, .ref (ad 38)), (1, .int x1), (2, .int x2), (3, .int 0), (4, .int 0)] [2, 3, 4, 1, 0] rfl ?_
  refine sX2_going_L5 x1 x2  M (fun v110 σ111 h => ?_) 300 _ _ _ h
  refine zz_iload_n M 0 dX2_going_64 rfl rfl ?_
  exact zz_iret M dX2_going_65 h
def wX2_steer_L27 (Q : zSt → Prop) (K73 : zSt → Prop) (x1 : Int32) (x2 : Int32) (x3 : Int32) (x4 : Int32) : Nat → Int32 → zSt → Prop
  | 0, _, _ => False
  | n + 1, x5, σ => if 3 ≤ x5 then (K73  σ) else (wX2_waiting 0 x5 x4 x2 σ (fun r101 σ102 => vp_in x5 3 ∧ (∀ σ103 : zSt, σ103 = zput σ102 40 x5.toNatClampNeg r101 → (wX2_waiting 4 x5 x4 x2 σ103 (fun r104 σ105 => vp_in x5 3 ∧ (∀ σ106 : zSt, σ106 = zput σ105 41 x5.toNatClampNeg r104 → (∀ x107 : Int32, x107 = x5 + 1 → (wX2_steer_L27 Q K73 x1 x2 x3 x4 n x107 σ106))))))))
set_option maxRecDepth 20000 in
set_option maxHeartbeats 4000000 in
theorem sX2_steer_L27 {Q : zSt → Prop} {K73 : zSt → Prop} (x1 : Int32) (x2 : Int32) (x3 : Int32) (x4 : Int32)  (M : zM p s m args meth c cX2_steer 6 RX2 none tabX D cA ad y) (hK73 : ∀ (σ : zSt), K73  σ → zG p l e (zrm 4) s m args below meth c 6 tabX D cA ad (MQ below (va_Qv Q (fun σ' t => va_P D vwCl (zws tabX cA ad σ') t.heap) (zIn tabX ad)) args s 0 0 (zIn tabX ad)) 73 [(0, .ref (ad 38)), (1, .int x1), (2, .int x2), (3, .int x3), (4, .int x4)] [] σ) : ∀ (n : Nat) (x5 : Int32) (σ : zSt), wX2_steer_L27 Q K73 x1 x2 x3 x4 n x5 σ → zG p l e (zrm 4) s m args below meth c 6 tabX D cA ad (MQ below (va_Qv Q (fun σ' t => va_P D vwCl (zws tabX cA ad σ') t.heap) (zIn tabX ad)) args s 0 0 (zIn tabX ad)) 27 [(0, .ref (ad 38)), (1, .int x1), (2, .int x2), (3, .int x3), (4, .int x4), (5, .int x5)] [] σ := by
  intro n
  induction n with
  | zero => intro x5 σ h; exact absurd h (by simp [wX2_steer_L27])
  | succ n ih =>
    intro x5 σ h
    unfold wX2_steer_L27 at h
    refine zz_iload M 5 dX2_steer_27 rfl ?_
    refine zz_iconst (v := 3) M dX2_steer_29 (by decide) ?_
    refine zz_icmp_ge M 73 dX2_steer_30 (by decide) (fun c => ?_) (fun c => ?_)
    · have h := zif (c := 3 ≤ x5) h c
      refine zz_sub [(0, .ref (ad 38)), (1, .int x1), (2, .int x2), (3, .int x3), (4, .int x4)] [0, 1, 2, 3, 4] rfl ?_
      exact hK73  _ h
    · have h := zifn (c := 3 ≤ x5) h c
      refine zz_aload_n M 0 dX2_steer_33 rfl rfl ?_
      refine zz_getR M f_X2_15 tX_38 rfl dX2_steer_34 ?_
      refine zz_iload M 5 dX2_steer_37 rfl ?_
      refine zz_aload_n M 0 dX2_steer_39 rfl rfl ?_
      refine zz_iconst (v := 0) M dX2_steer_40 (by decide) ?_
      refine zz_iload M 5 dX2_steer_41 rfl ?_
      refine zz_iload M 4 dX2_steer_43 rfl ?_
      refine zz_iload_n M 2 dX2_steer_45 rfl rfl ?_
      refine zz_callVI (d' := 2) (As := [.int 0, .int x5, .int x4, .int x2]) (rest := [.int x5, .ref (ad 40)]) M l_X2_25 tX_38 rfl rfl dX2_steer_46 rfl rfl (by decide) (Nat.le_of_ble_eq_true rfl) (by have hI := M.2.2.2.2.2.2.2.2; exact kX2_waiting hI _ _ _ _  _ _ h) (fun r101 σ102 h => ?_)
      refine zz_iast M tX_40 h.1 dX2_steer_49 ?_
      have h := h.2
      refine zz_sg (fun σ103 eσ103 => ?_)
      have h := h σ103 eσ103
      refine zz_aload_n M 0 dX2_steer_50 rfl rfl ?_
      refine zz_getR M f_X2_18 tX_38 rfl dX2_steer_51 ?_
      refine zz_iload M 5 dX2_steer_54 rfl ?_
      refine zz_aload_n M 0 dX2_steer_56 rfl rfl ?_
      refine zz_iconst (v := 4) M dX2_steer_57 (by decide) ?_
      refine zz_iload M 5 dX2_steer_58 rfl ?_
      refine zz_iload M 4 dX2_steer_60 rfl ?_
      refine zz_iload_n M 2 dX2_steer_62 rfl rfl ?_
      refine zz_callVI (d' := 2) (As := [.int 4, .int x5, .int x4, .int x2]) (rest := [.int x5, .ref (ad 41)]) M l_X2_25 tX_38 rfl rfl dX2_steer_63 rfl rfl (by decide) (Nat.le_of_ble_eq_true rfl) (by have hI := M.2.2.2.2.2.2.2.2; exact kX2_waiting hI _ _ _ _  _ _ h) (fun r104 σ105 h => ?_)
      refine zz_iast M tX_41 h.1 dX2_steer_66 ?_
      have h := h.2
      refine zz_sg (fun σ106 eσ106 => ?_)
      have h := h σ106 eσ106
      obtain ⟨x107, ex107⟩ : ∃ z : Int32, z = x5 + 1 := ⟨_, rfl⟩
      have h := h x107 ex107
      refine zz_iinc M [(5, .int x107), (0, .ref (ad 38)), (1, .int x1), (2, .int x2), (3, .int x3), (4, .int x4)] 5 dX2_steer_67 rfl (n32 := 1) (by decide) ex107 (by decide) rfl ?_
      refine zz_goto M 27 dX2_steer_70 (by decide) ?_
      refine zz_sub [(0, .ref (ad 38)), (1, .int x1), (2, .int x2), (3, .int x3), (4, .int x4), (5, .int x107)] [1, 2, 3, 4, 5, 0] rfl ?_
      exact ih _ _ h
def wX2_steer_L17 (Q : zSt → Prop) (K123 : zSt → Prop) (x1 : Int32) : Nat → Int32 → Int32 → Int32 → zSt → Prop
  | 0, _, _, _, _ => False
  | n + 1, x2, x3, x4, σ => if 24 ≤ x4 then (K123  σ) else (wX2_steer_L27 Q (fun  σ108 => vp_in x1 4 ∧ (vp_in x1 4 ∧ (∀ a109 : Int32, a109 = (σ108.1 7 x1.toNatClampNeg) → (∀ a110 : Int32, a110 = (σ108.1 8 x1.toNatClampNeg) → (wX2_next a109 a110 x4 x3 σ108 (fun r111 σ112 => vp_in x4 24 ∧ (∀ σ113 : zSt, σ113 = zput σ112 39 x4.toNatClampNeg r111 → (wX2_going x4 r111 σ113 (fun r114 σ115 => ∀ x116 : Int32, x116 = (x2 ||| r114) → (∀ x117 : Int32, x117 = x4 + 1 → (wX2_steer_L17 Q K123 x1 n x116 r111 x117 σ115))))))))))) x1 x2 x3 x4 300 0 σ)
set_option maxRecDepth 20000 in
set_option maxHeartbeats 4000000 in
theorem sX2_steer_L17 {Q : zSt → Prop} {K123 : zSt → Prop} (x1 : Int32)  (M : zM p s m args meth c cX2_steer 6 RX2 none tabX D cA ad y) (hK123 : ∀ (σ : zSt), K123  σ → zG p l e (zrm 4) s m args below meth c 6 tabX D cA ad (MQ below (va_Qv Q (fun σ' t => va_P D vwCl (zws tabX cA ad σ') t.heap) (zIn tabX ad)) args s 0 0 (zIn tabX ad)) 123 [] [] σ) : ∀ (n : Nat) (x2 : Int32) (x3 : Int32) (x4 : Int32) (σ : zSt), wX2_steer_L17 Q K123 x1 n x2 x3 x4 σ → zG p l e (zrm 4) s m args below meth c 6 tabX D cA ad (MQ below (va_Qv Q (fun σ' t => va_P D vwCl (zws tabX cA ad σ') t.heap) (zIn tabX ad)) args s 0 0 (zIn tabX ad)) 17 [(0, .ref (ad 38)), (1, .int x1), (2, .int x2), (3, .int x3), (4, .int x4)] [] σ := by
  intro n
  induction n with
  | zero => intro x2 x3 x4 σ h; exact absurd h (by simp [wX2_steer_L17])
  | succ n ih =>
    intro x2 x3 x4 σ h
    unfold wX2_steer_L17 at h
    refine zz_iload M 4 dX2_steer_17 rfl ?_
    refine zz_bipush (v := 24) M dX2_steer_19 (by decide) ?_
    refine zz_icmp_ge M 123 dX2_steer_21 (by decide) (fun c => ?_) (fun c => ?_)
    · have h := zif (c := 24 ≤ x4) h c
      refine zz_sub [] [] rfl ?_
      exact hK123  _ h
    · have h := zifn (c := 24 ≤ x4) h c
      refine zz_iconst (v := 0) M dX2_steer_24 (by decide) ?_
      refine zz_istore M [(5, .int 0), (0, .ref (ad 38)), (1, .int x1), (2, .int x2), (3, .int x3), (4, .int x4)] dX2_steer_25 (by decide) rfl ?_
      refine zz_sub [(0, .ref (ad 38)), (1, .int x1), (2, .int x2), (3, .int x3), (4, .int x4), (5, .int 0)] [1, 2, 3, 4, 5, 0] rfl ?_
      refine sX2_steer_L27 x1 x2 x3 x4  M (fun  σ108 h => ?_) 300 _ _ h
      refine zz_aload_n M 0 dX2_steer_73 rfl rfl ?_
      refine zz_aload_n M 0 dX2_steer_74 rfl rfl ?_
      refine zz_getR M f_X2_21 tX_38 rfl dX2_steer_75 ?_
      refine zz_getR M f_X2_29 tX_1 rfl dX2_steer_78 ?_
      refine zz_iload_n M 1 dX2_steer_81 rfl rfl ?_
      refine zz_iald M tX_7 h.1 dX2_steer_82 ?_
      have h := h.2
      refine zz_aload_n M 0 dX2_steer_83 rfl rfl ?_
      refine zz_getR M f_X2_21 tX_38 rfl dX2_steer_84 ?_
      refine zz_getR M f_X2_34 tX_1 rfl dX2_steer_87 ?_
      refine zz_iload_n M 1 dX2_steer_90 rfl rfl ?_
      refine zz_iald M tX_8 h.1 dX2_steer_91 ?_
      have h := h.2
      refine zz_iload M 4 dX2_steer_92 rfl ?_
      refine zz_iload_n M 3 dX2_steer_94 rfl rfl ?_
      obtain ⟨a109, ea109⟩ : ∃ z : Int32, z = (σ108.1 7 x1.toNatClampNeg) := ⟨_, rfl⟩
      have h := h a109 ea109
      obtain ⟨a110, ea110⟩ : ∃ z : Int32, z = (σ108.1 8 x1.toNatClampNeg) := ⟨_, rfl⟩
      have h := h a110 ea110
      refine zz_st [.int x3, .int x4, .int a110, .int a109, .ref (ad 38)] (by rw [ea109, ea110]) ?_
      refine zz_callVI (d' := 3) (As := [.int a109, .int a110, .int x4, .int x3]) (rest := []) M l_X2_37 tX_38 rfl rfl dX2_steer_95 rfl rfl (by decide) (Nat.le_of_ble_eq_true rfl) (by have hI := M.2.2.2.2.2.2.2.2; exact kX2_next hI _ _ _ _  _ _ h) (fun r111 σ112 h => ?_)
      refine zz_istore_n M [(3, .int r111), (0, .ref (ad 38)), (1, .int x1), (2, .int x2), (4, .int x4)] dX2_steer_98 rfl (by decide) rfl ?_
      refine zz_aload_n M 1 dX2_steer_99 rfl rfl ?_
      refine zz_getR M f_X2_9 tX_38 rfl dX2_steer_100 ?_
      refine zz_iload M 4 dX2_steer_103 rfl ?_
      refine zz_iload_n M 0 dX2_steer_105 rfl rfl ?_
      refine zz_iast M tX_39 h.1 dX2_steer_106 ?_
      have h := h.2
      refine zz_sg (fun σ113 eσ113 => ?_)
      have h := h σ113 eσ113
      refine zz_iload_n M 3 dX2_steer_107 rfl rfl ?_
      refine zz_aload_n M 1 dX2_steer_108 rfl rfl ?_
      refine zz_iload M 4 dX2_steer_109 rfl ?_
      refine zz_iload_n M 0 dX2_steer_111 rfl rfl ?_
      refine zz_callVI (d' := 2) (As := [.int x4, .int r111]) (rest := [.int x2]) M l_X2_40 tX_38 rfl rfl dX2_steer_112 rfl rfl (by decide) (Nat.le_of_ble_eq_true rfl) (by have hI := M.2.2.2.2.2.2.2.2; exact kX2_going hI _ _  _ _ h) (fun r114 σ115 h => ?_)
      refine zz_ior M dX2_steer_115 ?_
      refine zz_topi (fun x116 ex116 => ?_)
      have h := h x116 ex116
      refine zz_istore_n M [(2, .int x116), (3, .int r111), (0, .ref (ad 38)), (1, .int x1), (4, .int x4)] dX2_steer_116 rfl (by decide) rfl ?_
      obtain ⟨x117, ex117⟩ : ∃ z : Int32, z = x4 + 1 := ⟨_, rfl⟩
      have h := h x117 ex117
      refine zz_iinc M [(4, .int x117), (2, .int x116), (3, .int r111), (0, .ref (ad 38)), (1, .int x1)] 4 dX2_steer_117 rfl (n32 := 1) (by decide) ex117 (by decide) rfl ?_
      refine zz_goto M 17 dX2_steer_120 (by decide) ?_
      refine zz_sub [(0, .ref (ad 38)), (1, .int x1), (2, .int x116), (3, .int r111), (4, .int x117)] [3, 4, 1, 2, 0] rfl ?_
      exact ih _ _ _ _ h
def wX2_steer (x1 : Int32) (σ : zSt) (Q : zSt → Prop) : Prop := if x1 < 0 then (Q σ) else (if x1 < 4 then (wX2_steer_L17 Q (fun  σ118 => Q σ118) x1 300 0 0 0 σ) else (Q σ))
set_option maxRecDepth 20000 in
set_option maxHeartbeats 4000000 in
theorem kX2_steer (hI : zInj tabX ad) (x1 : Int32)  (σ : zSt) (Q : zSt → Prop) (h : wX2_steer x1 σ Q) : zOkV l tabX D cA ad y 4 yX2_steer cX2_steer 6 none [.ref (ad 38), .int x1] σ Q := by
  refine zz_enter hI (by decide) (Nat.le_of_ble_eq_true rfl) (fun p e s m below meth c M => ?_)
  have M : zM p s m _ meth c cX2_steer 6 RX2 none tabX D cA ad y := M
  refine zz_ls [(0, .ref (ad 38)), (1, .int x1)] rfl ?_
  unfold wX2_steer at h
  refine zz_iload_n M 1 dX2_steer_0 rfl rfl ?_
  refine zz_if_lt (y0 := 0) M 9 dX2_steer_1 (by decide) (fun c => ?_) (fun c => ?_)
  · have h := zif (c := x1 < 0) h c
    exact zz_vret M dX2_steer_9 h
  · have h := zifn (c := x1 < 0) h c
    refine zz_iload_n M 1 dX2_steer_4 rfl rfl ?_
    refine zz_iconst (v := 4) M dX2_steer_5 (by decide) ?_
    refine zz_icmp_lt M 10 dX2_steer_6 (by decide) (fun c => ?_) (fun c => ?_)
    · have h := zif (c := x1 < 4) h c
      refine zz_iconst (v := 0) M dX2_steer_10 (by decide) ?_
      refine zz_istore_n M [(2, .int 0), (0, .ref (ad 38)), (1, .int x1)] dX2_steer_11 rfl (by decide) rfl ?_
      refine zz_iconst (v := 0) M dX2_steer_12 (by decide) ?_
      refine zz_istore_n M [(3, .int 0), (2, .int 0), (0, .ref (ad 38)), (1, .int x1)] dX2_steer_13 rfl (by decide) rfl ?_
      refine zz_iconst (v := 0) M dX2_steer_14 (by decide) ?_
      refine zz_istore M [(4, .int 0), (3, .int 0), (2, .int 0), (0, .ref (ad 38)), (1, .int x1)] dX2_steer_15 (by decide) rfl ?_
      refine zz_sub [(0, .ref (ad 38)), (1, .int x1), (2, .int 0), (3, .int 0), (4, .int 0)] [3, 4, 2, 1, 0] rfl ?_
      refine sX2_steer_L17 x1  M (fun  σ118 h => ?_) 300 _ _ _ _ h
      exact zz_vret M dX2_steer_123 h
    · have h := zifn (c := x1 < 4) h c
      exact zz_vret M dX2_steer_9 h
def wX1_through_39_L11 (Q : Int32 → zSt → Prop) (K34 : Int32 → zSt → Prop) (K42 : zSt → Prop) (x1 : Int32) : Nat → Int32 → zSt → Prop
  | 0, _, _ => False
  | n + 1, x3, σ => if 24 ≤ x3 then (K42  σ) else (if 24 ≤ x3 then (K42  σ) else (vp_in x3 24 ∧ (∀ a102 : Int32, a102 = (σ.1 39 x3.toNatClampNeg) → (wX1_passes x1 a102 σ (fun r103 σ104 => if r103 = 0 then (∀ x105 : Int32, x105 = x3 + 1 → (wX1_through_39_L11 Q K34 K42 x1 n x105 σ104)) else (K34 x3 σ104))))))
set_option maxRecDepth 20000 in
set_option maxHeartbeats 4000000 in
theorem sX1_through_39_L11 {Q : Int32 → zSt → Prop} {K34 : Int32 → zSt → Prop} {K42 : zSt → Prop} (x1 : Int32)  (M : zM p s m args meth c cX1_through 4 RX1 (some .int) tabX D cA ad y) (hK34 : ∀ (v3 : Int32) (σ : zSt), K34 v3 σ → zG p l e (zrm 2) s m args below meth c 4 tabX D cA ad (MQ below (va_Qi Q (fun σ' t => va_P D vwCl (zws tabX cA ad σ') t.heap) (zIn tabX ad)) args s 0 0 (zIn tabX ad)) 34 [(3, .int v3)] [] σ) (hK42 : ∀ (σ : zSt), K42  σ → zG p l e (zrm 2) s m args below meth c 4 tabX D cA ad (MQ below (va_Qi Q (fun σ' t => va_P D vwCl (zws tabX cA ad σ') t.heap) (zIn tabX ad)) args s 0 0 (zIn tabX ad)) 42 [] [] σ) : ∀ (n : Nat) (x3 : Int32) (σ : zSt), wX1_through_39_L11 Q K34 K42 x1 n x3 σ → zG p l e (zrm 2) s m args below meth c 4 tabX D cA ad (MQ below (va_Qi Q (fun σ' t => va_P D vwCl (zws tabX cA ad σ') t.heap) (zIn tabX ad)) args s 0 0 (zIn tabX ad)) 11 [(0, .ref (ad 1)), (1, .int x1), (2, .ref (ad 39)), (3, .int x3)] [] σ := by
  intro n
  induction n with
  | zero => intro x3 σ h; exact absurd h (by simp [wX1_through_39_L11])
  | succ n ih =>
    intro x3 σ h
    unfold wX1_through_39_L11 at h
    refine zz_iload_n M 3 dX1_through_11 rfl rfl ?_
    refine zz_bipush (v := 24) M dX1_through_12 (by decide) ?_
    refine zz_icmp_ge M 42 dX1_through_14 (by decide) (fun c => ?_) (fun c => ?_)
    · have h := zif (c := 24 ≤ x3) h c
      refine zz_sub [] [] rfl ?_
      exact hK42  _ h
    · have h := zifn (c := 24 ≤ x3) h c
      refine zz_iload_n M 3 dX1_through_17 rfl rfl ?_
      refine zz_aload_n M 2 dX1_through_18 rfl rfl ?_
      refine zz_alen (v := 24) M tX_39 (by decide) (by decide) dX1_through_19 ?_
      refine zz_icmp_ge M 42 dX1_through_20 (by decide) (fun c => ?_) (fun c => ?_)
      · have h := zif (c := 24 ≤ x3) h c
        refine zz_sub [] [] rfl ?_
        exact hK42  _ h
      · have h := zifn (c := 24 ≤ x3) h c
        refine zz_aload_n M 0 dX1_through_23 rfl rfl ?_
        refine zz_iload_n M 1 dX1_through_24 rfl rfl ?_
        refine zz_aload_n M 2 dX1_through_25 rfl rfl ?_
        refine zz_iload_n M 3 dX1_through_26 rfl rfl ?_
        refine zz_iald M tX_39 h.1 dX1_through_27 ?_
        have h := h.2
        obtain ⟨a102, ea102⟩ : ∃ z : Int32, z = (σ.1 39 x3.toNatClampNeg) := ⟨_, rfl⟩
        have h := h a102 ea102
        refine zz_st [.int a102, .int x1, .ref (ad 1)] (by rw [ea102]) ?_
        refine zz_callVI (d' := 1) (As := [.int x1, .int a102]) (rest := []) M l_X1_58 tX_1 rfl rfl dX1_through_28 rfl rfl (by decide) (Nat.le_of_ble_eq_true rfl) (by have hI := M.2.2.2.2.2.2.2.2; exact kX1_passes hI _ _  _ _ h) (fun r103 σ104 h => ?_)
        refine zz_if_eq (y0 := 0) M 36 dX1_through_31 (by decide) (fun c => ?_) (fun c => ?_)
        · have h := zif (c := r103 = 0) h c
          obtain ⟨x105, ex105⟩ : ∃ z : Int32, z = x3 + 1 := ⟨_, rfl⟩
          have h := h x105 ex105
          refine zz_iinc M [(3, .int x105), (0, .ref (ad 1)), (1, .int x1), (2, .ref (ad 39))] 3 dX1_through_36 rfl (n32 := 1) (by decide) ex105 (by decide) rfl ?_
          refine zz_goto M 11 dX1_through_39 (by decide) ?_
          refine zz_sub [(0, .ref (ad 1)), (1, .int x1), (2, .ref (ad 39)), (3, .int x105)] [1, 2, 3, 0] rfl ?_
          exact ih _ _ h
        · have h := zifn (c := r103 = 0) h c
          refine zz_sub [(3, .int x3)] [3] rfl ?_
          exact hK34 _ _ h
def wX1_through_39 (x1 : Int32) (σ : zSt) (Q : Int32 → zSt → Prop) : Prop := vp_in x1 8 ∧ (∀ x101 : Int32, x101 = (if (σ.1 5 x1.toNatClampNeg) < 0 then 0 else (σ.1 5 x1.toNatClampNeg)) → (wX1_through_39_L11 Q (fun v106 σ107 => Q v106 σ107) (fun  σ108 => Q 24 σ108) x1 300 x101 σ))
set_option maxRecDepth 20000 in
set_option maxHeartbeats 4000000 in
theorem kX1_through_39 (hI : zInj tabX ad) (x1 : Int32)  (σ : zSt) (Q : Int32 → zSt → Prop) (h : wX1_through_39 x1 σ Q) : zOkI l tabX D cA ad y 2 yX1_through cX1_through 4 (some .int) [.ref (ad 1), .int x1, .ref (ad 39)] σ Q := by
  refine zz_enter hI (by decide) (Nat.le_of_ble_eq_true rfl) (fun p e s m below meth c M => ?_)
  have M : zM p s m _ meth c cX1_through 4 RX1 (some .int) tabX D cA ad y := M
  refine zz_ls [(0, .ref (ad 1)), (1, .int x1), (2, .ref (ad 39))] rfl ?_
  unfold wX1_through_39 at h
  refine zz_aload_n M 0 dX1_through_0 rfl rfl ?_
  refine zz_getR M f_X1_21 tX_1 rfl dX1_through_1 ?_
  refine zz_iload_n M 1 dX1_through_4 rfl rfl ?_
  refine zz_iald M tX_5 h.1 dX1_through_5 ?_
  have h := h.2
  refine zz_iconst (v := 0) M dX1_through_6 (by decide) ?_
  refine zz_max M l_X1_52 zmath_max (by decide) (Nat.le_of_ble_eq_true rfl) dX1_through_7 ?_
  refine zz_topi (fun x101 ex101 => ?_)
  have h := h x101 ex101
  refine zz_istore_n M [(3, .int x101), (0, .ref (ad 1)), (1, .int x1), (2, .ref (ad 39))] dX1_through_10 rfl (by decide) rfl ?_
  refine zz_sub [(0, .ref (ad 1)), (1, .int x1), (2, .ref (ad 39)), (3, .int x101)] [1, 2, 3, 0] rfl ?_
  refine sX1_through_39_L11 x1  M (fun v106 σ107 h => ?_) (fun  σ108 h => ?_) 300 _ _ h
  · refine zz_iload_n M 0 dX1_through_34 rfl rfl ?_
    exact zz_iret M dX1_through_35 h
  · refine zz_bipush (v := 24) M dX1_through_42 (by decide) ?_
    exact zz_iret M dX1_through_44 h
end
