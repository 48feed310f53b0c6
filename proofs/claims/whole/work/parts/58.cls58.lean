section
variable {p : Program} {l : Launch} {e : Env} {s : State} {m : MethodId} {args : Array Value} {below : List Frame} {meth : Method} {c : Code} {D : va_G} {cA : Nat → ClassId} {ad : Nat → Nat} {y : zX}
def wX7_who_L17 (Q : Int32 → zSt → Prop) (K70 : Int32 → zSt → Prop) (x1 : Int32) : Nat → Int32 → Int32 → zSt → Prop
  | 0, _, _, _ => False
  | n + 1, x3, x4, σ => if (σ.1 1 7) ≤ x4 then (K70 x3 σ) else (wX2_steer x4 σ (fun σ104 => vp_in x1 4 ∧ (wX5_tells_39 (x1.toNatClampNeg) σ104 (fun r106 σ107 => if r106 = 0 then (∀ x108 : Int32, x108 = x4 + 1 → (wX7_who_L17 Q K70 x1 n x3 x108 σ107)) else (∀ x109 : Int32, x109 = (x3 ||| (1 <<< (x4 &&& 31))) → (∀ x110 : Int32, x110 = x4 + 1 → (wX7_who_L17 Q K70 x1 n x109 x110 σ107)))))))
set_option maxRecDepth 20000 in
set_option maxHeartbeats 4000000 in
theorem sX7_who_L17 {Q : Int32 → zSt → Prop} {K70 : Int32 → zSt → Prop} (x1 : Int32)  (M : zM p s m args meth c cX7_who 5 RX7 (some .int) tabX D cA ad y) (hK70 : ∀ (v3 : Int32) (σ : zSt), K70 v3 σ → zG p l e (zrm 5) s m args below meth c 5 tabX D cA ad (MQ below (va_Qi Q (fun σ' t => va_P D vwCl (zws tabX cA ad σ') t.heap) (zIn tabX ad)) args s 0 0 (zIn tabX ad)) 70 [(3, .int v3)] [] σ) : ∀ (n : Nat) (x3 : Int32) (x4 : Int32) (σ : zSt), wX7_who_L17 Q K70 x1 n x3 x4 σ → zG p l e (zrm 5) s m args below meth c 5 tabX D cA ad (MQ below (va_Qi Q (fun σ' t => va_P D vwCl (zws tabX cA ad σ') t.heap) (zIn tabX ad)) args s 0 0 (zIn tabX ad)) 17 [(0, .ref (ad 0)), (1, .int x1), (3, .int x3), (4, .int x4)] [] σ := by
  intro n
  induction n with
  | zero => intro x3 x4 σ h; exact absurd h (by simp [wX7_who_L17])
  | succ n ih =>
    intro x3 x4 σ h
    unfold wX7_who_L17 at h
    refine zz_iload M 3 dX7_who_17 rfl ?_
    refine zz_aload_n M 0 dX7_who_19 rfl rfl ?_
    refine zz_getR M f_X7_12 tX_0 rfl dX7_who_20 ?_
    refine zz_getI M f_X7_162 tX_1 rfl dX7_who_23 ?_
    refine zz_icmp_ge M 70 dX7_who_26 (by decide) (fun c => ?_) (fun c => ?_)
    · have h := zif (c := (σ.1 1 7) ≤ x4) h c
      refine zz_sub [(3, .int x3)] [2] rfl ?_
      exact hK70 _ _ h
    · have h := zifn (c := (σ.1 1 7) ≤ x4) h c
      refine zz_aload_n M 0 dX7_who_29 rfl rfl ?_
      refine zz_getR M f_X7_76 tX_0 rfl dX7_who_30 ?_
      refine zz_iload M 3 dX7_who_33 rfl ?_
      refine zz_callVV (d' := 4) (As := [.int x4]) (rest := []) M l_X7_203 tX_38 rfl rfl dX7_who_35 rfl rfl (by decide) (Nat.le_of_ble_eq_true rfl) (by have hI := M.2.2.2.2.2.2.2.2; exact kX2_steer hI _  _ _ h) (fun σ104 h => ?_)
      refine zz_aload_n M 0 dX7_who_38 rfl rfl ?_
      refine zz_getR M f_X7_49 tX_0 rfl dX7_who_39 ?_
      refine zz_iload_n M 1 dX7_who_42 rfl rfl ?_
      have hq105 := h.1
      refine zz_aald M tX_23 (by decide) hq105 dX7_who_43 ?_
      have h := h.2
      refine zz_aload_n M 0 dX7_who_44 rfl rfl ?_
      refine zz_getR M f_X7_76 tX_0 rfl dX7_who_45 ?_
      refine zz_getR M f_X7_207 tX_38 rfl dX7_who_48 ?_
      refine zz_callVI (d' := 1) (As := [.ref (ad 39)]) (rest := []) M l_X7_231 (tX_Sheet (zclt hq105)) rfl rfl dX7_who_51 rfl rfl (by decide) (Nat.le_of_ble_eq_true rfl) (by have hI := M.2.2.2.2.2.2.2.2; exact kX5_tells_39 hI _ (zclt hq105) _ _ h) (fun r106 σ107 h => ?_)
      refine zz_if_eq (y0 := 0) M 64 dX7_who_54 (by decide) (fun c => ?_) (fun c => ?_)
      · have h := zif (c := r106 = 0) h c
        obtain ⟨x108, ex108⟩ : ∃ z : Int32, z = x4 + 1 := ⟨_, rfl⟩
        have h := h x108 ex108
        refine zz_iinc M [(4, .int x108), (0, .ref (ad 0)), (1, .int x1), (3, .int x3)] 3 dX7_who_64 rfl (n32 := 1) (by decide) ex108 (by decide) rfl ?_
        refine zz_goto M 17 dX7_who_67 (by decide) ?_
        refine zz_sub [(0, .ref (ad 0)), (1, .int x1), (3, .int x3), (4, .int x108)] [1, 2, 3, 0] rfl ?_
        exact ih _ _ _ h
      · have h := zifn (c := r106 = 0) h c
        refine zz_iload_n M 2 dX7_who_57 rfl rfl ?_
        refine zz_iconst (v := 1) M dX7_who_58 (by decide) ?_
        refine zz_iload M 3 dX7_who_59 rfl ?_
        refine zz_ishl M dX7_who_61 ?_
        refine zz_ior M dX7_who_62 ?_
        refine zz_topi (fun x109 ex109 => ?_)
        have h := h x109 ex109
        refine zz_istore_n M [(3, .int x109), (0, .ref (ad 0)), (1, .int x1), (4, .int x4)] dX7_who_63 rfl (by decide) rfl ?_
        obtain ⟨x110, ex110⟩ : ∃ z : Int32, z = x4 + 1 := ⟨_, rfl⟩
        have h := h x110 ex110
        refine zz_iinc M [(4, .int x110), (3, .int x109), (0, .ref (ad 0)), (1, .int x1)] 3 dX7_who_64 rfl (n32 := 1) (by decide) ex110 (by decide) rfl ?_
        refine zz_goto M 17 dX7_who_67 (by decide) ?_
        refine zz_sub [(0, .ref (ad 0)), (1, .int x1), (3, .int x109), (4, .int x110)] [2, 3, 1, 0] rfl ?_
        exact ih _ _ _ h
def wX7_who (x1 : Int32) (σ : zSt) (Q : Int32 → zSt → Prop) : Prop := wX7_tellingRefusal x1 σ (fun r101 σ102 => if r101 = 0 then (wX7_who_L17 Q (fun v111 σ112 => Q v111 σ112) x1 300 0 0 σ102) else (Q r101 σ102))
set_option maxRecDepth 20000 in
set_option maxHeartbeats 4000000 in
theorem kX7_who (hI : zInj tabX ad) (x1 : Int32)  (σ : zSt) (Q : Int32 → zSt → Prop) (h : wX7_who x1 σ Q) : zOkI l tabX D cA ad y 5 yX7_who cX7_who 5 (some .int) [.ref (ad 0), .int x1] σ Q := by
  refine zz_enter hI (by decide) (Nat.le_of_ble_eq_true rfl) (fun p e s m below meth c M => ?_)
  have M : zM p s m _ meth c cX7_who 5 RX7 (some .int) tabX D cA ad y := M
  refine zz_ls [(0, .ref (ad 0)), (1, .int x1)] rfl ?_
  unfold wX7_who at h
  refine zz_aload_n M 0 dX7_who_0 rfl rfl ?_
  refine zz_iload_n M 1 dX7_who_1 rfl rfl ?_
  refine zz_callVI (d' := 2) (As := [.int x1]) (rest := []) M l_X7_222 tX_0 rfl rfl dX7_who_2 rfl rfl (by decide) (Nat.le_of_ble_eq_true rfl) (by have hI := M.2.2.2.2.2.2.2.2; exact kX7_tellingRefusal hI _  _ _ h) (fun r101 σ102 h => ?_)
  refine zz_istore_n M [(2, .int r101), (0, .ref (ad 0)), (1, .int x1)] dX7_who_5 rfl (by decide) rfl ?_
  refine zz_iload_n M 0 dX7_who_6 rfl rfl ?_
  refine zz_if_eq (y0 := 0) M 12 dX7_who_7 (by decide) (fun c => ?_) (fun c => ?_)
  · have h := zif (c := r101 = 0) h c
    refine zz_iconst (v := 0) M dX7_who_12 (by decide) ?_
    refine zz_istore_n M [(3, .int 0), (2, .int r101), (0, .ref (ad 0)), (1, .int x1)] dX7_who_13 rfl (by decide) rfl ?_
    refine zz_iconst (v := 0) M dX7_who_14 (by decide) ?_
    refine zz_istore M [(4, .int 0), (3, .int 0), (2, .int r101), (0, .ref (ad 0)), (1, .int x1)] dX7_who_15 (by decide) rfl ?_
    refine zz_sub [(0, .ref (ad 0)), (1, .int x1), (3, .int 0), (4, .int 0)] [3, 4, 1, 0] rfl ?_
    refine sX7_who_L17 x1  M (fun v111 σ112 h => ?_) 300 _ _ _ h
    refine zz_iload_n M 0 dX7_who_70 rfl rfl ?_
    exact zz_iret M dX7_who_71 h
  · have h := zifn (c := r101 = 0) h c
    refine zz_iload_n M 0 dX7_who_10 rfl rfl ?_
    exact zz_iret M dX7_who_11 h
def wX7_draw_L4 (Q : zSt → Prop) (K38 : zSt → Prop)  : Nat → Int32 → Int32 → zSt → Prop
  | 0, _, _, _ => False
  | n + 1, x2, x3, σ => if 24 ≤ x3 then (K38  σ) else (∀ x101 : Int32, x101 = ((x2 * 1103515245) + 12345) → (vp_in x3 24 ∧ (∀ σ102 : zSt, σ102 = zput σ 42 x3.toNatClampNeg (((x101.toUInt32 >>> ((8 : Int32).toUInt32 &&& Int32.toUInt32 31)).toInt32) - ((x101.toUInt32 >>> ((8 : Int32).toUInt32 &&& Int32.toUInt32 31)).toInt32) / 3 * 3) → (∀ x103 : Int32, x103 = x3 + 1 → (wX7_draw_L4 Q K38  n x101 x103 σ102)))))
set_option maxRecDepth 20000 in
set_option maxHeartbeats 4000000 in
theorem sX7_draw_L4 {Q : zSt → Prop} {K38 : zSt → Prop}   (M : zM p s m args meth c cX7_draw 4 RX7 none tabX D cA ad y) (hK38 : ∀ (σ : zSt), K38  σ → zG p l e (zrm 1) s m args below meth c 4 tabX D cA ad (MQ below (va_Qv Q (fun σ' t => va_P D vwCl (zws tabX cA ad σ') t.heap) (zIn tabX ad)) args s 0 0 (zIn tabX ad)) 38 [] [] σ) : ∀ (n : Nat) (x2 : Int32) (x3 : Int32) (σ : zSt), wX7_draw_L4 Q K38  n x2 x3 σ → zG p l e (zrm 1) s m args below meth c 4 tabX D cA ad (MQ below (va_Qv Q (fun σ' t => va_P D vwCl (zws tabX cA ad σ') t.heap) (zIn tabX ad)) args s 0 0 (zIn tabX ad)) 4 [(0, .ref (ad 0)), (2, .int x2), (3, .int x3)] [] σ := by
  intro n
  induction n with
  | zero => intro x2 x3 σ h; exact absurd h (by simp [wX7_draw_L4])
  | succ n ih =>
    intro x2 x3 σ h
    unfold wX7_draw_L4 at h
    refine zz_iload_n M 2 dX7_draw_4 rfl rfl ?_
    refine zz_bipush (v := 24) M dX7_draw_5 (by decide) ?_
    refine zz_icmp_ge M 38 dX7_draw_7 (by decide) (fun c => ?_) (fun c => ?_)
    · have h := zif (c := 24 ≤ x3) h c
      refine zz_sub [] [] rfl ?_
      exact hK38  _ h
    · have h := zifn (c := 24 ≤ x3) h c
      refine zz_iload_n M 1 dX7_draw_10 rfl rfl ?_
      refine zz_ldcw (v := 1103515245) M k_X7_284 dX7_draw_11 ?_
      refine zz_imul M dX7_draw_14 ?_
      refine zz_sipush (v := 12345) M dX7_draw_15 (by decide) ?_
      refine zz_iadd M dX7_draw_18 ?_
      refine zz_topi (fun x101 ex101 => ?_)
      have h := h x101 ex101
      refine zz_istore_n M [(2, .int x101), (0, .ref (ad 0)), (3, .int x3)] dX7_draw_19 rfl (by decide) rfl ?_
      refine zz_aload_n M 1 dX7_draw_20 rfl rfl ?_
      refine zz_getR M f_X7_80 tX_0 rfl dX7_draw_21 ?_
      refine zz_iload_n M 2 dX7_draw_24 rfl rfl ?_
      refine zz_iload_n M 0 dX7_draw_25 rfl rfl ?_
      refine zz_bipush (v := 8) M dX7_draw_26 (by decide) ?_
      refine zz_iushr M dX7_draw_28 ?_
      refine zz_iconst (v := 3) M dX7_draw_29 (by decide) ?_
      refine zz_irem M dX7_draw_30 (by decide) ?_
      refine zz_iast M tX_42 h.1 dX7_draw_31 ?_
      have h := h.2
      refine zz_sg (fun σ102 eσ102 => ?_)
      have h := h σ102 eσ102
      obtain ⟨x103, ex103⟩ : ∃ z : Int32, z = x3 + 1 := ⟨_, rfl⟩
      have h := h x103 ex103
      refine zz_iinc M [(3, .int x103), (2, .int x101), (0, .ref (ad 0))] 2 dX7_draw_32 rfl (n32 := 1) (by decide) ex103 (by decide) rfl ?_
      refine zz_goto M 4 dX7_draw_35 (by decide) ?_
      refine zz_sub [(0, .ref (ad 0)), (2, .int x101), (3, .int x103)] [2, 1, 0] rfl ?_
      exact ih _ _ _ h
def wX7_draw (x1 : Int32) (σ : zSt) (Q : zSt → Prop) : Prop := wX7_draw_L4 Q (fun  σ104 => Q σ104)  300 x1 0 σ
set_option maxRecDepth 20000 in
set_option maxHeartbeats 4000000 in
theorem kX7_draw (hI : zInj tabX ad) (x1 : Int32)  (σ : zSt) (Q : zSt → Prop) (h : wX7_draw x1 σ Q) : zOkV l tabX D cA ad y 1 yX7_draw cX7_draw 4 none [.ref (ad 0), .int x1] σ Q := by
  refine zz_enter hI (by decide) (Nat.le_of_ble_eq_true rfl) (fun p e s m below meth c M => ?_)
  have M : zM p s m _ meth c cX7_draw 4 RX7 none tabX D cA ad y := M
  refine zz_ls [(0, .ref (ad 0)), (1, .int x1)] rfl ?_
  unfold wX7_draw at h
  refine zz_iload_n M 1 dX7_draw_0 rfl rfl ?_
  refine zz_istore_n M [(2, .int x1), (0, .ref (ad 0)), (1, .int x1)] dX7_draw_1 rfl (by decide) rfl ?_
  refine zz_iconst (v := 0) M dX7_draw_2 (by decide) ?_
  refine zz_istore_n M [(3, .int 0), (2, .int x1), (0, .ref (ad 0)), (1, .int x1)] dX7_draw_3 rfl (by decide) rfl ?_
  refine zz_sub [(0, .ref (ad 0)), (2, .int x1), (3, .int 0)] [2, 1, 0] rfl ?_
  refine sX7_draw_L4   M (fun  σ104 h => ?_) 300 _ _ _ h
  exact zz_vret M dX7_draw_38 h
def wX7_drawn (x1 : Int32) (σ : zSt) (Q : Int32 → zSt → Prop) : Prop := wX7_draw x1 σ (fun σ102 => wX0_ofRow_42  σ102 (fun r103 σ104 => Q r103 σ104))
set_option maxRecDepth 20000 in
set_option maxHeartbeats 4000000 in
theorem kX7_drawn (hI : zInj tabX ad) (x1 : Int32)  (σ : zSt) (Q : Int32 → zSt → Prop) (h : wX7_drawn x1 σ Q) : zOkI l tabX D cA ad y 6 yX7_drawn cX7_drawn 2 (some .int) [.ref (ad 0), .int x1] σ Q := by
  refine zz_enter hI (by decide) (Nat.le_of_ble_eq_true rfl) (fun p e s m below meth c M => ?_)
  have M : zM p s m _ meth c cX7_drawn 2 RX7 (some .int) tabX D cA ad y := M
  refine zz_ls [(0, .ref (ad 0)), (1, .int x1)] rfl ?_
  unfold wX7_drawn at h
  refine zz_aload_n M 0 dX7_drawn_0 rfl rfl ?_
  refine zz_iload_n M 1 dX7_drawn_1 rfl rfl ?_
  refine zz_callVV (d' := 1) (As := [.int x1]) (rest := []) M l_X7_235 tX_0 rfl rfl dX7_drawn_2 rfl rfl (by decide) (Nat.le_of_ble_eq_true rfl) (by have hI := M.2.2.2.2.2.2.2.2; exact kX7_draw hI _  _ _ h) (fun σ102 h => ?_)
  refine zz_aload_n M 0 dX7_drawn_5 rfl rfl ?_
  refine zz_getR M f_X7_58 tX_0 rfl dX7_drawn_6 ?_
  refine zz_aload_n M 0 dX7_drawn_9 rfl rfl ?_
  refine zz_getR M f_X7_80 tX_0 rfl dX7_drawn_10 ?_
  refine zz_callVI (d' := 5) (As := [.ref (ad 42)]) (rest := []) M l_X7_171 tX_24 rfl rfl dX7_drawn_13 rfl rfl (by decide) (Nat.le_of_ble_eq_true rfl) (by have hI := M.2.2.2.2.2.2.2.2; exact kX0_ofRow_42 hI   _ _ h) (fun r103 σ104 h => ?_)
  exact zz_iret M dX7_drawn_16 h
def wX1_throughCount_42_L4 (Q : Int32 → zSt → Prop) (K38 : Int32 → zSt → Prop)  : Nat → Int32 → Int32 → zSt → Prop
  | 0, _, _, _ => False
  | n + 1, x2, x3, σ => if 8 ≤ x3 then (K38 x2 σ) else (wX1_isThere x3 σ (fun r101 σ102 => if r101 = 0 then (∀ x103 : Int32, x103 = x3 + 1 → (wX1_throughCount_42_L4 Q K38  n x2 x103 σ102)) else (wX1_through_42 x3 σ102 (fun r104 σ105 => if 24 ≤ r104 then (∀ x106 : Int32, x106 = x3 + 1 → (wX1_throughCount_42_L4 Q K38  n x2 x106 σ105)) else (∀ x107 : Int32, x107 = x2 + 1 → (∀ x108 : Int32, x108 = x3 + 1 → (wX1_throughCount_42_L4 Q K38  n x107 x108 σ105)))))))
set_option maxRecDepth 20000 in
set_option maxHeartbeats 4000000 in
theorem sX1_throughCount_42_L4 {Q : Int32 → zSt → Prop} {K38 : Int32 → zSt → Prop}   (M : zM p s m args meth c cX1_throughCount 4 RX1 (some .int) tabX D cA ad y) (hK38 : ∀ (v2 : Int32) (σ : zSt), K38 v2 σ → zG p l e (zrm 3) s m args below meth c 4 tabX D cA ad (MQ below (va_Qi Q (fun σ' t => va_P D vwCl (zws tabX cA ad σ') t.heap) (zIn tabX ad)) args s 0 0 (zIn tabX ad)) 38 [(2, .int v2)] [] σ) : ∀ (n : Nat) (x2 : Int32) (x3 : Int32) (σ : zSt), wX1_throughCount_42_L4 Q K38  n x2 x3 σ → zG p l e (zrm 3) s m args below meth c 4 tabX D cA ad (MQ below (va_Qi Q (fun σ' t => va_P D vwCl (zws tabX cA ad σ') t.heap) (zIn tabX ad)) args s 0 0 (zIn tabX ad)) 4 [(0, .ref (ad 1)), (1, .ref (ad 42)), (2, .int x2), (3, .int x3)] [] σ := by
  intro n
  induction n with
  | zero => intro x2 x3 σ h; exact absurd h (by simp [wX1_throughCount_42_L4])
  | succ n ih =>
    intro x2 x3 σ h
    unfold wX1_throughCount_42_L4 at h
    refine zz_iload_n M 3 dX1_throughCount_4 rfl rfl ?_
    refine zz_bipush (v := 8) M dX1_throughCount_5 (by decide) ?_
    refine zz_icmp_ge M 38 dX1_throughCount_7 (by decide) (fun c => ?_) (fun c => ?_)
    · have h := zif (c := 8 ≤ x3) h c
      refine zz_sub [(2, .int x2)] [2] rfl ?_
      exact hK38 _ _ h
    · have h := zifn (c := 8 ≤ x3) h c
      refine zz_aload_n M 0 dX1_throughCount_10 rfl rfl ?_
      refine zz_iload_n M 3 dX1_throughCount_11 rfl rfl ?_
      refine zz_callVI (d' := 1) (As := [.int x3]) (rest := []) M l_X1_62 tX_1 rfl rfl dX1_throughCount_12 rfl rfl (by decide) (Nat.le_of_ble_eq_true rfl) (by have hI := M.2.2.2.2.2.2.2.2; exact kX1_isThere hI _  _ _ h) (fun r101 σ102 h => ?_)
      refine zz_if_eq (y0 := 0) M 32 dX1_throughCount_15 (by decide) (fun c => ?_) (fun c => ?_)
      · have h := zif (c := r101 = 0) h c
        obtain ⟨x103, ex103⟩ : ∃ z : Int32, z = x3 + 1 := ⟨_, rfl⟩
        have h := h x103 ex103
        refine zz_iinc M [(3, .int x103), (0, .ref (ad 1)), (1, .ref (ad 42)), (2, .int x2)] 3 dX1_throughCount_32 rfl (n32 := 1) (by decide) ex103 (by decide) rfl ?_
        refine zz_goto M 4 dX1_throughCount_35 (by decide) ?_
        refine zz_sub [(0, .ref (ad 1)), (1, .ref (ad 42)), (2, .int x2), (3, .int x103)] [1, 2, 3, 0] rfl ?_
        exact ih _ _ _ h
      · have h := zifn (c := r101 = 0) h c
        refine zz_aload_n M 0 dX1_throughCount_18 rfl rfl ?_
        refine zz_iload_n M 3 dX1_throughCount_19 rfl rfl ?_
        refine zz_aload_n M 1 dX1_throughCount_20 rfl rfl ?_
        refine zz_callVI (d' := 2) (As := [.int x3, .ref (ad 42)]) (rest := []) M l_X1_66 tX_1 rfl rfl dX1_throughCount_21 rfl rfl (by decide) (Nat.le_of_ble_eq_true rfl) (by have hI := M.2.2.2.2.2.2.2.2; exact kX1_through_42 hI _  _ _ h) (fun r104 σ105 h => ?_)
        refine zz_bipush (v := 24) M dX1_throughCount_24 (by decide) ?_
        refine zz_icmp_ge M 32 dX1_throughCount_26 (by decide) (fun c => ?_) (fun c => ?_)
        · have h := zif (c := 24 ≤ r104) h c
          obtain ⟨x106, ex106⟩ : ∃ z : Int32, z = x3 + 1 := ⟨_, rfl⟩
          have h := h x106 ex106
          refine zz_iinc M [(3, .int x106), (0, .ref (ad 1)), (1, .ref (ad 42)), (2, .int x2)] 3 dX1_throughCount_32 rfl (n32 := 1) (by decide) ex106 (by decide) rfl ?_
          refine zz_goto M 4 dX1_throughCount_35 (by decide) ?_
          refine zz_sub [(0, .ref (ad 1)), (1, .ref (ad 42)), (2, .int x2), (3, .int x106)] [1, 2, 3, 0] rfl ?_
          exact ih _ _ _ h
        · have h := zifn (c := 24 ≤ r104) h c
          obtain ⟨x107, ex107⟩ : ∃ z : Int32, z = x2 + 1 := ⟨_, rfl⟩
          have h := h x107 ex107
          refine zz_iinc M [(2, .int x107), (0, .ref (ad 1)), (1, .ref (ad 42)), (3, .int x3)] 2 dX1_throughCount_29 rfl (n32 := 1) (by decide) ex107 (by decide) rfl ?_
          obtain ⟨x108, ex108⟩ : ∃ z : Int32, z = x3 + 1 := ⟨_, rfl⟩
          have h := h x108 ex108
          refine zz_iinc M [(3, .int x108), (2, .int x107), (0, .ref (ad 1)), (1, .ref (ad 42))] 3 dX1_throughCount_32 rfl (n32 := 1) (by decide) ex108 (by decide) rfl ?_
          refine zz_goto M 4 dX1_throughCount_35 (by decide) ?_
          refine zz_sub [(0, .ref (ad 1)), (1, .ref (ad 42)), (2, .int x107), (3, .int x108)] [2, 3, 1, 0] rfl ?_
          exact ih _ _ _ h
def wX1_throughCount_42  (σ : zSt) (Q : Int32 → zSt → Prop) : Prop := wX1_throughCount_42_L4 Q (fun v109 σ110 => Q v109 σ110)  300 0 0 σ
set_option maxRecDepth 20000 in
set_option maxHeartbeats 4000000 in
theorem kX1_throughCount_42 (hI : zInj tabX ad)   (σ : zSt) (Q : Int32 → zSt → Prop) (h : wX1_throughCount_42  σ Q) : zOkI l tabX D cA ad y 3 yX1_throughCount cX1_throughCount 4 (some .int) [.ref (ad 1), .ref (ad 42)] σ Q := by
  refine zz_enter hI (by decide) (Nat.le_of_ble_eq_true rfl) (fun p e s m below meth c M => ?_)
  have M : zM p s m _ meth c cX1_throughCount 4 RX1 (some .int) tabX D cA ad y := M
  refine zz_ls [(0, .ref (ad 1)), (1, .ref (ad 42))] rfl ?_
  unfold wX1_throughCount_42 at h
  refine zz_iconst (v := 0) M dX1_throughCount_0 (by decide) ?_
  refine zz_istore_n M [(2, .int 0), (0, .ref (ad 1)), (1, .ref (ad 42))] dX1_throughCount_1 rfl (by decide) rfl ?_
  refine zz_iconst (v := 0) M dX1_throughCount_2 (by decide) ?_
  refine zz_istore_n M [(3, .int 0), (2, .int 0), (0, .ref (ad 1)), (1, .ref (ad 42))] dX1_throughCount_3 rfl (by decide) rfl ?_
  refine zz_sub [(0, .ref (ad 1)), (1, .ref (ad 42)), (2, .int 0), (3, .int 0)] [2, 3, 1, 0] rfl ?_
  refine sX1_throughCount_42_L4   M (fun v109 σ110 h => ?_) 300 _ _ _ h
  refine zz_iload_n M 0 dX1_throughCount_38 rfl rfl ?_
  exact zz_iret M dX1_throughCount_39 h
def wX7_greatestCommon_L6 (Q : Int32 → zSt → Prop) (K29 : Int32 → zSt → Prop) (x0 : Int32) (x1 : Int32) : Nat → Int32 → zSt → Prop
  | 0, _, _ => False
  | n + 1, x2, σ => if x2 ≤ 1 then (K29 x2 σ) else (¬ x2 = 0 ∧ (if (x0 - x0 / x2 * x2) = 0 then (¬ x2 = 0 ∧ (if (x1 - x1 / x2 * x2) = 0 then (K29 x2 σ) else (∀ x103 : Int32, x103 = x2 + (-1) → (wX7_greatestCommon_L6 Q K29 x0 x1 n x103 σ)))) else (∀ x102 : Int32, x102 = x2 + (-1) → (wX7_greatestCommon_L6 Q K29 x0 x1 n x102 σ))))
set_option maxRecDepth 20000 in
set_option maxHeartbeats 4000000 in
theorem sX7_greatestCommon_L6 {Q : Int32 → zSt → Prop} {K29 : Int32 → zSt → Prop} (x0 : Int32) (x1 : Int32)  (M : zM p s m args meth c cX7_greatestCommon 3 RX7 (some .int) tabX D cA ad y) (hK29 : ∀ (v2 : Int32) (σ : zSt), K29 v2 σ → zG p l e (zrm 1) s m args below meth c 3 tabX D cA ad (MQ below (va_Qi Q (fun σ' t => va_P D vwCl (zws tabX cA ad σ') t.heap) (zIn tabX ad)) args s 0 0 (zIn tabX ad)) 29 [(2, .int v2)] [] σ) : ∀ (n : Nat) (x2 : Int32) (σ : zSt), wX7_greatestCommon_L6 Q K29 x0 x1 n x2 σ → zG p l e (zrm 1) s m args below meth c 3 tabX D cA ad (MQ below (va_Qi Q (fun σ' t => va_P D vwCl (zws tabX cA ad σ') t.heap) (zIn tabX ad)) args s 0 0 (zIn tabX ad)) 6 [(0, .int x0), (1, .int x1), (2, .int x2)] [] σ := by
  intro n
  induction n with
  | zero => intro x2 σ h; exact absurd h (by simp [wX7_greatestCommon_L6])
  | succ n ih =>
    intro x2 σ h
    unfold wX7_greatestCommon_L6 at h
    refine zz_iload_n M 2 dX7_greatestCommon_6 rfl rfl ?_
    refine zz_iconst (v := 1) M dX7_greatestCommon_7 (by decide) ?_
    refine zz_icmp_le M 29 dX7_greatestCommon_8 (by decide) (fun c => ?_) (fun c => ?_)
    · have h := zif (c := x2 ≤ 1) h c
      refine zz_sub [(2, .int x2)] [2] rfl ?_
      exact hK29 _ _ h
    · have h := zifn (c := x2 ≤ 1) h c
      refine zz_iload_n M 0 dX7_greatestCommon_11 rfl rfl ?_
      refine zz_iload_n M 2 dX7_greatestCommon_12 rfl rfl ?_
      refine zz_irem M dX7_greatestCommon_13 h.1 ?_
      have h := h.2
      refine zz_if_ne (y0 := 0) M 23 dX7_greatestCommon_14 (by decide) (fun c => ?_) (fun c => ?_)
      · have h := zifn (c := (x0 - x0 / x2 * x2) = 0) h c
        obtain ⟨x102, ex102⟩ : ∃ z : Int32, z = x2 + (-1) := ⟨_, rfl⟩
        have h := h x102 ex102
        refine zz_iinc M [(2, .int x102), (0, .int x0), (1, .int x1)] 2 dX7_greatestCommon_23 rfl (n32 := (-1)) (by decide) ex102 (by decide) rfl ?_
        refine zz_goto M 6 dX7_greatestCommon_26 (by decide) ?_
        refine zz_sub [(0, .int x0), (1, .int x1), (2, .int x102)] [1, 2, 0] rfl ?_
        exact ih _ _ h
      · have h := zif (c := (x0 - x0 / x2 * x2) = 0) h c
        refine zz_iload_n M 1 dX7_greatestCommon_17 rfl rfl ?_
        refine zz_iload_n M 2 dX7_greatestCommon_18 rfl rfl ?_
        refine zz_irem M dX7_greatestCommon_19 h.1 ?_
        have h := h.2
        refine zz_if_eq (y0 := 0) M 29 dX7_greatestCommon_20 (by decide) (fun c => ?_) (fun c => ?_)
        · have h := zif (c := (x1 - x1 / x2 * x2) = 0) h c
          refine zz_sub [(2, .int x2)] [2] rfl ?_
          exact hK29 _ _ h
        · have h := zifn (c := (x1 - x1 / x2 * x2) = 0) h c
          obtain ⟨x103, ex103⟩ : ∃ z : Int32, z = x2 + (-1) := ⟨_, rfl⟩
          have h := h x103 ex103
          refine zz_iinc M [(2, .int x103), (0, .int x0), (1, .int x1)] 2 dX7_greatestCommon_23 rfl (n32 := (-1)) (by decide) ex103 (by decide) rfl ?_
          refine zz_goto M 6 dX7_greatestCommon_26 (by decide) ?_
          refine zz_sub [(0, .int x0), (1, .int x1), (2, .int x103)] [1, 2, 0] rfl ?_
          exact ih _ _ h
def wX7_greatestCommon (x0 : Int32) (x1 : Int32) (σ : zSt) (Q : Int32 → zSt → Prop) : Prop := ∀ x101 : Int32, x101 = (if x1 < 1 then 1 else x1) → (wX7_greatestCommon_L6 Q (fun v104 σ105 => Q v104 σ105) x0 x1 300 x101 σ)
set_option maxRecDepth 20000 in
set_option maxHeartbeats 4000000 in
theorem kX7_greatestCommon (hI : zInj tabX ad) (x0 : Int32) (x1 : Int32)  (σ : zSt) (Q : Int32 → zSt → Prop) (h : wX7_greatestCommon x0 x1 σ Q) : zOkI l tabX D cA ad y 1 yX7_greatestCommon cX7_greatestCommon 3 (some .int) [.int x0, .int x1] σ Q := by
  refine zz_enter hI (by decide) (Nat.le_of_ble_eq_true rfl) (fun p e s m below meth c M => ?_)
  have M : zM p s m _ meth c cX7_greatestCommon 3 RX7 (some .int) tabX D cA ad y := M
  refine zz_ls [(0, .int x0), (1, .int x1)] rfl ?_
  unfold wX7_greatestCommon at h
  refine zz_iload_n M 1 dX7_greatestCommon_0 rfl rfl ?_
  refine zz_iconst (v := 1) M dX7_greatestCommon_1 (by decide) ?_
  refine zz_max M l_X7_281 zmath_max (by decide) (Nat.le_of_ble_eq_true rfl) dX7_greatestCommon_2 ?_
  refine zz_topi (fun x101 ex101 => ?_)
  have h := h x101 ex101
  refine zz_istore_n M [(2, .int x101), (0, .int x0), (1, .int x1)] dX7_greatestCommon_5 rfl (by decide) rfl ?_
  refine zz_sub [(0, .int x0), (1, .int x1), (2, .int x101)] [1, 2, 0] rfl ?_
  refine sX7_greatestCommon_L6 x0 x1  M (fun v104 σ105 h => ?_) 300 _ _ h
  refine zz_iload_n M 0 dX7_greatestCommon_29 rfl rfl ?_
  exact zz_iret M dX7_greatestCommon_30 h
def wX7_chance_L30 (Q : Int64 → zSt → Prop) (K74 : Int32 → zSt → Prop) (x1 : Int32) (x2 : Int32) (x3 : Int32) : Nat → Int32 → Int32 → zSt → Prop
  | 0, _, _, _ => False
  | n + 1, x4, x5, σ => if x2 ≤ x5 then (K74 x4 σ) else (∀ a101 : Int32, a101 = (x1 + x5) → (wX7_draw a101 σ (fun σ103 => wX1_throughCount_42  σ103 (fun r104 σ105 => wX1_many  σ105 (fun r106 σ107 => if r104 = r106 then (∀ x109 : Int32, x109 = x4 + 1 → (∀ x110 : Int32, x110 = x5 + 1 → (wX7_chance_L30 Q K74 x1 x2 x3 n x109 x110 σ107))) else (∀ x108 : Int32, x108 = x5 + 1 → (wX7_chance_L30 Q K74 x1 x2 x3 n x4 x108 σ107)))))))
set_option maxRecDepth 20000 in
set_option maxHeartbeats 4000000 in
theorem sX7_chance_L30 {Q : Int64 → zSt → Prop} {K74 : Int32 → zSt → Prop} (x1 : Int32) (x2 : Int32) (x3 : Int32)  (M : zM p s m args meth c cX7_chance 6 RX7 (some .long) tabX D cA ad y) (hK74 : ∀ (v4 : Int32) (σ : zSt), K74 v4 σ → zG p l e (zrm 4) s m args below meth c 6 tabX D cA ad (MQ below (va_Ql Q (fun σ' t => va_P D vwCl (zws tabX cA ad σ') t.heap) (zIn tabX ad)) args s 0 0 (zIn tabX ad)) 74 [(2, .int x2), (3, .int x3), (4, .int v4)] [] σ) : ∀ (n : Nat) (x4 : Int32) (x5 : Int32) (σ : zSt), wX7_chance_L30 Q K74 x1 x2 x3 n x4 x5 σ → zG p l e (zrm 4) s m args below meth c 6 tabX D cA ad (MQ below (va_Ql Q (fun σ' t => va_P D vwCl (zws tabX cA ad σ') t.heap) (zIn tabX ad)) args s 0 0 (zIn tabX ad)) 30 [(0, .ref (ad 0)), (1, .int x1), (2, .int x2), (3, .int x3), (4, .int x4), (5, .int x5)] [] σ := by
  intro n
  induction n with
  | zero => intro x4 x5 σ h; exact absurd h (by simp [wX7_chance_L30])
  | succ n ih =>
    intro x4 x5 σ h
    unfold wX7_chance_L30 at h
    refine zz_iload M 5 dX7_chance_30 rfl ?_
    refine zz_iload_n M 2 dX7_chance_32 rfl rfl ?_
    refine zz_icmp_ge M 74 dX7_chance_33 (by decide) (fun c => ?_) (fun c => ?_)
    · have h := zif (c := x2 ≤ x5) h c
      refine zz_sub [(2, .int x2), (3, .int x3), (4, .int x4)] [2, 3, 4] rfl ?_
      exact hK74 _ _ h
    · have h := zifn (c := x2 ≤ x5) h c
      refine zz_aload_n M 0 dX7_chance_36 rfl rfl ?_
      refine zz_iload_n M 1 dX7_chance_37 rfl rfl ?_
      refine zz_iload M 5 dX7_chance_38 rfl ?_
      refine zz_iadd M dX7_chance_40 ?_
      obtain ⟨a101, ea101⟩ : ∃ z : Int32, z = (x1 + x5) := ⟨_, rfl⟩
      have h := h a101 ea101
      refine zz_st [.int a101, .ref (ad 0)] (by rw [ea101]) ?_
      refine zz_callVV (d' := 1) (As := [.int a101]) (rest := []) M l_X7_235 tX_0 rfl rfl dX7_chance_41 rfl rfl (by decide) (Nat.le_of_ble_eq_true rfl) (by have hI := M.2.2.2.2.2.2.2.2; exact kX7_draw hI _  _ _ h) (fun σ103 h => ?_)
      refine zz_aload_n M 0 dX7_chance_44 rfl rfl ?_
      refine zz_getR M f_X7_12 tX_0 rfl dX7_chance_45 ?_
      refine zz_aload_n M 0 dX7_chance_48 rfl rfl ?_
      refine zz_getR M f_X7_80 tX_0 rfl dX7_chance_49 ?_
      refine zz_callVI (d' := 3) (As := [.ref (ad 42)]) (rest := []) M l_X7_182 tX_1 rfl rfl dX7_chance_52 rfl rfl (by decide) (Nat.le_of_ble_eq_true rfl) (by have hI := M.2.2.2.2.2.2.2.2; exact kX1_throughCount_42 hI   _ _ h) (fun r104 σ105 h => ?_)
      refine zz_aload_n M 0 dX7_chance_55 rfl rfl ?_
      refine zz_getR M f_X7_12 tX_0 rfl dX7_chance_56 ?_
      refine zz_callVI (d' := 1) (As := []) (rest := [.int r104]) M l_X7_240 tX_1 rfl rfl dX7_chance_59 rfl rfl (by decide) (Nat.le_of_ble_eq_true rfl) (by have hI := M.2.2.2.2.2.2.2.2; exact kX1_many hI   _ _ h) (fun r106 σ107 h => ?_)
      refine zz_icmp_ne M 68 dX7_chance_62 (by decide) (fun c => ?_) (fun c => ?_)
      · have h := zifn (c := r104 = r106) h c
        obtain ⟨x108, ex108⟩ : ∃ z : Int32, z = x5 + 1 := ⟨_, rfl⟩
        have h := h x108 ex108
        refine zz_iinc M [(5, .int x108), (0, .ref (ad 0)), (1, .int x1), (2, .int x2), (3, .int x3), (4, .int x4)] 5 dX7_chance_68 rfl (n32 := 1) (by decide) ex108 (by decide) rfl ?_
        refine zz_goto M 30 dX7_chance_71 (by decide) ?_
        refine zz_sub [(0, .ref (ad 0)), (1, .int x1), (2, .int x2), (3, .int x3), (4, .int x4), (5, .int x108)] [1, 2, 3, 4, 5, 0] rfl ?_
        exact ih _ _ _ h
      · have h := zif (c := r104 = r106) h c
        obtain ⟨x109, ex109⟩ : ∃ z : Int32, z = x4 + 1 := ⟨_, rfl⟩
        have h := h x109 ex109
        refine zz_iinc M [(4, .int x109), (0, .ref (ad 0)), (1, .int x1), (2, .int x2), (3, .int x3), (5, .int x5)] 4 dX7_chance_65 rfl (n32 := 1) (by decide) ex109 (by decide) rfl ?_
        obtain ⟨x110, ex110⟩ : ∃ z : Int32, z = x5 + 1 := ⟨_, rfl⟩
        have h := h x110 ex110
        refine zz_iinc M [(5, .int x110), (4, .int x109), (0, .ref (ad 0)), (1, .int x1), (2, .int x2), (3, .int x3)] 5 dX7_chance_68 rfl (n32 := 1) (by decide) ex110 (by decide) rfl ?_
        refine zz_goto M 30 dX7_chance_71 (by decide) ?_
        refine zz_sub [(0, .ref (ad 0)), (1, .int x1), (2, .int x2), (3, .int x3), (4, .int x109), (5, .int x110)] [2, 3, 4, 5, 1, 0] rfl ?_
        exact ih _ _ _ h
def wX7_chance (x1 : Int32) (x2 : Int32) (x3 : Int32) (σ : zSt) (Q : Int64 → zSt → Prop) : Prop := if x2 < 1 then (Q (-4611686018427387904) σ) else (if 20 < x2 then (Q (-4611686018427387904) σ) else (if x3 < 0 then (Q (-4611686018427387904) σ) else (if x3 ≤ 1 then (wX7_chance_L30 Q (fun v111 σ112 => wX7_greatestCommon v111 x2 σ112 (fun r113 σ114 => if 1 ≤ r113 then (if x3 = 0 then (¬ r113 = 0 ∧ (Q ((v111 / r113 : Int32).toInt64) σ114)) else (¬ r113 = 0 ∧ (Q ((x2 / r113 : Int32).toInt64) σ114))) else (Q (-4611686018427387904) σ114))) x1 x2 x3 300 0 0 σ) else (Q (-4611686018427387904) σ))))
set_option maxRecDepth 20000 in
set_option maxHeartbeats 4000000 in
theorem kX7_chance (hI : zInj tabX ad) (x1 : Int32) (x2 : Int32) (x3 : Int32)  (σ : zSt) (Q : Int64 → zSt → Prop) (h : wX7_chance x1 x2 x3 σ Q) : zOkL l tabX D cA ad y 4 yX7_chance cX7_chance 6 (some .long) [.ref (ad 0), .int x1, .int x2, .int x3] σ Q := by
  refine zz_enter hI (by decide) (Nat.le_of_ble_eq_true rfl) (fun p e s m below meth c M => ?_)
  have M : zM p s m _ meth c cX7_chance 6 RX7 (some .long) tabX D cA ad y := M
  refine zz_ls [(0, .ref (ad 0)), (1, .int x1), (2, .int x2), (3, .int x3)] rfl ?_
  unfold wX7_chance at h
  refine zz_iload_n M 2 dX7_chance_0 rfl rfl ?_
  refine zz_iconst (v := 1) M dX7_chance_1 (by decide) ?_
  refine zz_icmp_lt M 20 dX7_chance_2 (by decide) (fun c => ?_) (fun c => ?_)
  · have h := zif (c := x2 < 1) h c
    refine zz_ldc2 (v := (-4611686018427387904)) M k_X7_238 dX7_chance_20 ?_
    exact zz_lret M dX7_chance_23 h
  · have h := zifn (c := x2 < 1) h c
    refine zz_iload_n M 2 dX7_chance_5 rfl rfl ?_
    refine zz_bipush (v := 20) M dX7_chance_6 (by decide) ?_
    refine zz_icmp_gt M 20 dX7_chance_8 (by decide) (fun c => ?_) (fun c => ?_)
    · have h := zif (c := 20 < x2) h c
      refine zz_ldc2 (v := (-4611686018427387904)) M k_X7_238 dX7_chance_20 ?_
      exact zz_lret M dX7_chance_23 h
    · have h := zifn (c := 20 < x2) h c
      refine zz_iload_n M 3 dX7_chance_11 rfl rfl ?_
      refine zz_if_lt (y0 := 0) M 20 dX7_chance_12 (by decide) (fun c => ?_) (fun c => ?_)
      · have h := zif (c := x3 < 0) h c
        refine zz_ldc2 (v := (-4611686018427387904)) M k_X7_238 dX7_chance_20 ?_
        exact zz_lret M dX7_chance_23 h
      · have h := zifn (c := x3 < 0) h c
        refine zz_iload_n M 3 dX7_chance_15 rfl rfl ?_
        refine zz_iconst (v := 1) M dX7_chance_16 (by decide) ?_
        refine zz_icmp_le M 24 dX7_chance_17 (by decide) (fun c => ?_) (fun c => ?_)
        · have h := zif (c := x3 ≤ 1) h c
          refine zz_iconst (v := 0) M dX7_chance_24 (by decide) ?_
          refine zz_istore M [(4, .int 0), (0, .ref (ad 0)), (1, .int x1), (2, .int x2), (3, .int x3)] dX7_chance_25 (by decide) rfl ?_
          refine zz_iconst (v := 0) M dX7_chance_27 (by decide) ?_
          refine zz_istore M [(5, .int 0), (4, .int 0), (0, .ref (ad 0)), (1, .int x1), (2, .int x2), (3, .int x3)] dX7_chance_28 (by decide) rfl ?_
          refine zz_sub [(0, .ref (ad 0)), (1, .int x1), (2, .int x2), (3, .int x3), (4, .int 0), (5, .int 0)] [2, 3, 4, 5, 1, 0] rfl ?_
          refine sX7_chance_L30 x1 x2 x3  M (fun v111 σ112 h => ?_) 300 _ _ _ h
          refine zz_iload M 2 dX7_chance_74 rfl ?_
          refine zz_iload_n M 0 dX7_chance_76 rfl rfl ?_
          refine zz_callSI (d' := 1) (As := [.int v111, .int x2]) (rest := []) M l_X7_243 dX7_chance_77 rfl rfl (by decide) (Nat.le_of_ble_eq_true rfl) (by have hI := M.2.2.2.2.2.2.2.2; exact kX7_greatestCommon hI _ _  _ _ h) (fun r113 σ114 h => ?_)
          refine zz_istore M [(5, .int r113), (2, .int x2), (3, .int x3), (4, .int v111)] dX7_chance_80 (by decide) rfl ?_
          refine zz_iload M 0 dX7_chance_82 rfl ?_
          refine zz_iconst (v := 1) M dX7_chance_84 (by decide) ?_
          refine zz_icmp_ge M 92 dX7_chance_85 (by decide) (fun c => ?_) (fun c => ?_)
          · have h := zif (c := 1 ≤ r113) h c
            refine zz_iload_n M 2 dX7_chance_92 rfl rfl ?_
            refine zz_if_ne (y0 := 0) M 105 dX7_chance_93 (by decide) (fun c => ?_) (fun c => ?_)
            · have h := zifn (c := x3 = 0) h c
              refine zz_iload_n M 1 dX7_chance_105 rfl rfl ?_
              refine zz_iload M 0 dX7_chance_106 rfl ?_
              refine zz_idiv M dX7_chance_108 h.1 ?_
              have h := h.2
              refine zz_i2l M dX7_chance_109 ?_
              exact zz_lret M dX7_chance_110 h
            · have h := zif (c := x3 = 0) h c
              refine zz_iload M 3 dX7_chance_96 rfl ?_
              refine zz_iload M 0 dX7_chance_98 rfl ?_
              refine zz_idiv M dX7_chance_100 h.1 ?_
              have h := h.2
              refine zz_i2l M dX7_chance_101 ?_
              refine zz_goto M 110 dX7_chance_102 (by decide) ?_
              exact zz_lret M dX7_chance_110 h
          · have h := zifn (c := 1 ≤ r113) h c
            refine zz_ldc2 (v := (-4611686018427387904)) M k_X7_238 dX7_chance_88 ?_
            exact zz_lret M dX7_chance_91 h
        · have h := zifn (c := x3 ≤ 1) h c
          refine zz_ldc2 (v := (-4611686018427387904)) M k_X7_238 dX7_chance_20 ?_
          exact zz_lret M dX7_chance_23 h
def wX1_take_r9_1  (σ : zSt) (Q : zSt → Prop) : Prop := ∀ σ101 : zSt, σ101 = zcopy σ 2 0 10 0 24 → (∀ σ102 : zSt, σ102 = zcopy σ101 3 0 11 0 2 → (∀ σ103 : zSt, σ103 = zcopy σ102 4 0 12 0 8 → (∀ σ104 : zSt, σ104 = zcopy σ103 5 0 13 0 8 → (∀ σ105 : zSt, σ105 = zcopy σ104 6 0 14 0 8 → (∀ σ106 : zSt, σ106 = zcopy σ105 7 0 15 0 4 → (∀ σ107 : zSt, σ107 = zcopy σ106 8 0 16 0 4 → (∀ σ108 : zSt, σ108 = zput σ107 9 7 (σ107.1 1 7) → (∀ σ109 : zSt, σ109 = zput σ108 9 8 (σ108.1 1 8) → (∀ σ110 : zSt, σ110 = zput σ109 9 9 (σ109.1 1 9) → (∀ σ111 : zSt, σ111 = zput σ110 9 10 (σ110.1 1 10) → (Q σ111)))))))))))
set_option maxRecDepth 20000 in
set_option maxHeartbeats 4000000 in
theorem kX1_take_r9_1 (hI : zInj tabX ad)   (σ : zSt) (Q : zSt → Prop) (h : wX1_take_r9_1  σ Q) : zOkV l tabX D cA ad y 1 yX1_take cX1_take 2 none [.ref (ad 9), .ref (ad 1)] σ Q := by
  refine zz_enter hI (by decide) (Nat.le_of_ble_eq_true rfl) (fun p e s m below meth c M => ?_)
  have M : zM p s m _ meth c cX1_take 2 RX1 none tabX D cA ad y := M
  refine zz_ls [(0, .ref (ad 9)), (1, .ref (ad 1))] rfl ?_
  unfold wX1_take_r9_1 at h
  refine zz_aload_n M 1 dX1_take_0 rfl rfl ?_
  refine zz_getR M f_X1_9 tX_1 rfl dX1_take_1 ?_
  refine zz_iconst (v := 0) M dX1_take_4 (by decide) ?_
  refine zz_aload_n M 0 dX1_take_5 rfl rfl ?_
  refine zz_getR M f_X1_9 tX_9 rfl dX1_take_6 ?_
  refine zz_iconst (v := 0) M dX1_take_9 (by decide) ?_
  refine zz_bipush (v := 24) M dX1_take_10 (by decide) ?_
  refine zz_copyK (sk := 0) (dk := 0) (nk := 24) M l_X1_46 zarrcopy tX_2 tX_10 (by decide) (Nat.le_of_ble_eq_true rfl) dX1_take_12 (by decide) (by decide) ?_
  refine zz_sg (fun σ101 eσ101 => ?_)
  have h := h σ101 eσ101
  refine zz_aload_n M 1 dX1_take_15 rfl rfl ?_
  refine zz_getR M f_X1_15 tX_1 rfl dX1_take_16 ?_
  refine zz_iconst (v := 0) M dX1_take_19 (by decide) ?_
  refine zz_aload_n M 0 dX1_take_20 rfl rfl ?_
  refine zz_getR M f_X1_15 tX_9 rfl dX1_take_21 ?_
  refine zz_iconst (v := 0) M dX1_take_24 (by decide) ?_
  refine zz_iconst (v := 2) M dX1_take_25 (by decide) ?_
  refine zz_copyK (sk := 0) (dk := 0) (nk := 2) M l_X1_46 zarrcopy tX_3 tX_11 (by decide) (Nat.le_of_ble_eq_true rfl) dX1_take_26 (by decide) (by decide) ?_
  refine zz_sg (fun σ102 eσ102 => ?_)
  have h := h σ102 eσ102
  refine zz_aload_n M 1 dX1_take_29 rfl rfl ?_
  refine zz_getR M f_X1_18 tX_1 rfl dX1_take_30 ?_
  refine zz_iconst (v := 0) M dX1_take_33 (by decide) ?_
  refine zz_aload_n M 0 dX1_take_34 rfl rfl ?_
  refine zz_getR M f_X1_18 tX_9 rfl dX1_take_35 ?_
  refine zz_iconst (v := 0) M dX1_take_38 (by decide) ?_
  refine zz_bipush (v := 8) M dX1_take_39 (by decide) ?_
  refine zz_copyK (sk := 0) (dk := 0) (nk := 8) M l_X1_46 zarrcopy tX_4 tX_12 (by decide) (Nat.le_of_ble_eq_true rfl) dX1_take_41 (by decide) (by decide) ?_
  refine zz_sg (fun σ103 eσ103 => ?_)
  have h := h σ103 eσ103
  refine zz_aload_n M 1 dX1_take_44 rfl rfl ?_
  refine zz_getR M f_X1_21 tX_1 rfl dX1_take_45 ?_
  refine zz_iconst (v := 0) M dX1_take_48 (by decide) ?_
  refine zz_aload_n M 0 dX1_take_49 rfl rfl ?_
  refine zz_getR M f_X1_21 tX_9 rfl dX1_take_50 ?_
  refine zz_iconst (v := 0) M dX1_take_53 (by decide) ?_
  refine zz_bipush (v := 8) M dX1_take_54 (by decide) ?_
  refine zz_copyK (sk := 0) (dk := 0) (nk := 8) M l_X1_46 zarrcopy tX_5 tX_13 (by decide) (Nat.le_of_ble_eq_true rfl) dX1_take_56 (by decide) (by decide) ?_
  refine zz_sg (fun σ104 eσ104 => ?_)
  have h := h σ104 eσ104
  refine zz_aload_n M 1 dX1_take_59 rfl rfl ?_
  refine zz_getR M f_X1_24 tX_1 rfl dX1_take_60 ?_
  refine zz_iconst (v := 0) M dX1_take_63 (by decide) ?_
  refine zz_aload_n M 0 dX1_take_64 rfl rfl ?_
  refine zz_getR M f_X1_24 tX_9 rfl dX1_take_65 ?_
  refine zz_iconst (v := 0) M dX1_take_68 (by decide) ?_
  refine zz_bipush (v := 8) M dX1_take_69 (by decide) ?_
  refine zz_copyK (sk := 0) (dk := 0) (nk := 8) M l_X1_46 zarrcopy tX_6 tX_14 (by decide) (Nat.le_of_ble_eq_true rfl) dX1_take_71 (by decide) (by decide) ?_
  refine zz_sg (fun σ105 eσ105 => ?_)
  have h := h σ105 eσ105
  refine zz_aload_n M 1 dX1_take_74 rfl rfl ?_
  refine zz_getR M f_X1_27 tX_1 rfl dX1_take_75 ?_
  refine zz_iconst (v := 0) M dX1_take_78 (by decide) ?_
  refine zz_aload_n M 0 dX1_take_79 rfl rfl ?_
  refine zz_getR M f_X1_27 tX_9 rfl dX1_take_80 ?_
  refine zz_iconst (v := 0) M dX1_take_83 (by decide) ?_
  refine zz_iconst (v := 4) M dX1_take_84 (by decide) ?_
  refine zz_copyK (sk := 0) (dk := 0) (nk := 4) M l_X1_46 zarrcopy tX_7 tX_15 (by decide) (Nat.le_of_ble_eq_true rfl) dX1_take_85 (by decide) (by decide) ?_
  refine zz_sg (fun σ106 eσ106 => ?_)
  have h := h σ106 eσ106
  refine zz_aload_n M 1 dX1_take_88 rfl rfl ?_
  refine zz_getR M f_X1_30 tX_1 rfl dX1_take_89 ?_
  refine zz_iconst (v := 0) M dX1_take_92 (by decide) ?_
  refine zz_aload_n M 0 dX1_take_93 rfl rfl ?_
  refine zz_getR M f_X1_30 tX_9 rfl dX1_take_94 ?_
  refine zz_iconst (v := 0) M dX1_take_97 (by decide) ?_
  refine zz_iconst (v := 4) M dX1_take_98 (by decide) ?_
  refine zz_copyK (sk := 0) (dk := 0) (nk := 4) M l_X1_46 zarrcopy tX_8 tX_16 (by decide) (Nat.le_of_ble_eq_true rfl) dX1_take_99 (by decide) (by decide) ?_
  refine zz_sg (fun σ107 eσ107 => ?_)
  have h := h σ107 eσ107
  refine zz_aload_n M 0 dX1_take_102 rfl rfl ?_
  refine zz_aload_n M 1 dX1_take_103 rfl rfl ?_
  refine zz_getI M f_X1_33 tX_1 rfl dX1_take_104 ?_
  refine zz_putI M f_X1_33 tX_9 rfl dX1_take_107 ?_
  refine zz_sg (fun σ108 eσ108 => ?_)
  have h := h σ108 eσ108
  refine zz_aload_n M 0 dX1_take_110 rfl rfl ?_
  refine zz_aload_n M 1 dX1_take_111 rfl rfl ?_
  refine zz_getI M f_X1_37 tX_1 rfl dX1_take_112 ?_
  refine zz_putI M f_X1_37 tX_9 rfl dX1_take_115 ?_
  refine zz_sg (fun σ109 eσ109 => ?_)
  have h := h σ109 eσ109
  refine zz_aload_n M 0 dX1_take_118 rfl rfl ?_
  refine zz_aload_n M 1 dX1_take_119 rfl rfl ?_
  refine zz_getI M f_X1_40 tX_1 rfl dX1_take_120 ?_
  refine zz_putI M f_X1_40 tX_9 rfl dX1_take_123 ?_
  refine zz_sg (fun σ110 eσ110 => ?_)
  have h := h σ110 eσ110
  refine zz_aload_n M 0 dX1_take_126 rfl rfl ?_
  refine zz_aload_n M 1 dX1_take_127 rfl rfl ?_
  refine zz_getI M f_X1_43 tX_1 rfl dX1_take_128 ?_
  refine zz_putI M f_X1_43 tX_9 rfl dX1_take_131 ?_
  refine zz_sg (fun σ111 eσ111 => ?_)
  have h := h σ111 eσ111
  exact zz_vret M dX1_take_134 h
def wX7_image  (σ : zSt) (Q : Int32 → zSt → Prop) : Prop := wX1_take_r9_1  σ (fun σ102 => ∀ σ103 : zSt, σ103 = zput σ102 0 2 1 → (wX1_many  σ103 (fun r104 σ105 => Q r104 σ105)))
set_option maxRecDepth 20000 in
set_option maxHeartbeats 4000000 in
theorem kX7_image (hI : zInj tabX ad)   (σ : zSt) (Q : Int32 → zSt → Prop) (h : wX7_image  σ Q) : zOkI l tabX D cA ad y 2 yX7_image cX7_image 1 (some .int) [.ref (ad 0)] σ Q := by
  refine zz_enter hI (by decide) (Nat.le_of_ble_eq_true rfl) (fun p e s m below meth c M => ?_)
  have M : zM p s m _ meth c cX7_image 1 RX7 (some .int) tabX D cA ad y := M
  refine zz_ls [(0, .ref (ad 0))] rfl ?_
  unfold wX7_image at h
  refine zz_aload_n M 0 dX7_image_0 rfl rfl ?_
  refine zz_getR M f_X7_16 tX_0 rfl dX7_image_1 ?_
  refine zz_aload_n M 0 dX7_image_4 rfl rfl ?_
  refine zz_getR M f_X7_12 tX_0 rfl dX7_image_5 ?_
  refine zz_callVV (d' := 1) (As := [.ref (ad 1)]) (rest := []) M l_X7_246 tX_9 rfl rfl dX7_image_8 rfl rfl (by decide) (Nat.le_of_ble_eq_true rfl) (by have hI := M.2.2.2.2.2.2.2.2; exact kX1_take_r9_1 hI   _ _ h) (fun σ102 h => ?_)
  refine zz_aload_n M 0 dX7_image_11 rfl rfl ?_
  refine zz_iconst (v := 1) M dX7_image_12 (by decide) ?_
  refine zz_putZ M f_X7_19 tX_0 rfl (by decide) dX7_image_13 ?_
  refine zz_sg (fun σ103 eσ103 => ?_)
  have h := h σ103 eσ103
  refine zz_aload_n M 0 dX7_image_16 rfl rfl ?_
  refine zz_getR M f_X7_12 tX_0 rfl dX7_image_17 ?_
  refine zz_callVI (d' := 1) (As := []) (rest := []) M l_X7_240 tX_1 rfl rfl dX7_image_20 rfl rfl (by decide) (Nat.le_of_ble_eq_true rfl) (by have hI := M.2.2.2.2.2.2.2.2; exact kX1_many hI   _ _ h) (fun r104 σ105 h => ?_)
  exact zz_iret M dX7_image_23 h
def wX1_take_9  (σ : zSt) (Q : zSt → Prop) : Prop := ∀ σ101 : zSt, σ101 = zcopy σ 10 0 2 0 24 → (∀ σ102 : zSt, σ102 = zcopy σ101 11 0 3 0 2 → (∀ σ103 : zSt, σ103 = zcopy σ102 12 0 4 0 8 → (∀ σ104 : zSt, σ104 = zcopy σ103 13 0 5 0 8 → (∀ σ105 : zSt, σ105 = zcopy σ104 14 0 6 0 8 → (∀ σ106 : zSt, σ106 = zcopy σ105 15 0 7 0 4 → (∀ σ107 : zSt, σ107 = zcopy σ106 16 0 8 0 4 → (∀ σ108 : zSt, σ108 = zput σ107 1 7 (σ107.1 9 7) → (∀ σ109 : zSt, σ109 = zput σ108 1 8 (σ108.1 9 8) → (∀ σ110 : zSt, σ110 = zput σ109 1 9 (σ109.1 9 9) → (∀ σ111 : zSt, σ111 = zput σ110 1 10 (σ110.1 9 10) → (Q σ111)))))))))))
set_option maxRecDepth 20000 in
set_option maxHeartbeats 4000000 in
theorem kX1_take_9 (hI : zInj tabX ad)   (σ : zSt) (Q : zSt → Prop) (h : wX1_take_9  σ Q) : zOkV l tabX D cA ad y 1 yX1_take cX1_take 2 none [.ref (ad 1), .ref (ad 9)] σ Q := by
  refine zz_enter hI (by decide) (Nat.le_of_ble_eq_true rfl) (fun p e s m below meth c M => ?_)
  have M : zM p s m _ meth c cX1_take 2 RX1 none tabX D cA ad y := M
  refine zz_ls [(0, .ref (ad 1)), (1, .ref (ad 9))] rfl ?_
  unfold wX1_take_9 at h
  refine zz_aload_n M 1 dX1_take_0 rfl rfl ?_
  refine zz_getR M f_X1_9 tX_9 rfl dX1_take_1 ?_
  refine zz_iconst (v := 0) M dX1_take_4 (by decide) ?_
  refine zz_aload_n M 0 dX1_take_5 rfl rfl ?_
  refine zz_getR M f_X1_9 tX_1 rfl dX1_take_6 ?_
  refine zz_iconst (v := 0) M dX1_take_9 (by decide) ?_
  refine zz_bipush (v := 24) M dX1_take_10 (by decide) ?_
  refine zz_copyK (sk := 0) (dk := 0) (nk := 24) M l_X1_46 zarrcopy tX_10 tX_2 (by decide) (Nat.le_of_ble_eq_true rfl) dX1_take_12 (by decide) (by decide) ?_
  refine zz_sg (fun σ101 eσ101 => ?_)
  have h := h σ101 eσ101
  refine zz_aload_n M 1 dX1_take_15 rfl rfl ?_
  refine zz_getR M f_X1_15 tX_9 rfl dX1_take_16 ?_
  refine zz_iconst (v := 0) M dX1_take_19 (by decide) ?_
  refine zz_aload_n M 0 dX1_take_20 rfl rfl ?_
  refine zz_getR M f_X1_15 tX_1 rfl dX1_take_21 ?_
  refine zz_iconst (v := 0) M dX1_take_24 (by decide) ?_
  refine zz_iconst (v := 2) M dX1_take_25 (by decide) ?_
  refine zz_copyK (sk := 0) (dk := 0) (nk := 2) M l_X1_46 zarrcopy tX_11 tX_3 (by decide) (Nat.le_of_ble_eq_true rfl) dX1_take_26 (by decide) (by decide) ?_
  refine zz_sg (fun σ102 eσ102 => ?_)
  have h := h σ102 eσ102
  refine zz_aload_n M 1 dX1_take_29 rfl rfl ?_
  refine zz_getR M f_X1_18 tX_9 rfl dX1_take_30 ?_
  refine zz_iconst (v := 0) M dX1_take_33 (by decide) ?_
  refine zz_aload_n M 0 dX1_take_34 rfl rfl ?_
  refine zz_getR M f_X1_18 tX_1 rfl dX1_take_35 ?_
  refine zz_iconst (v := 0) M dX1_take_38 (by decide) ?_
  refine zz_bipush (v := 8) M dX1_take_39 (by decide) ?_
  refine zz_copyK (sk := 0) (dk := 0) (nk := 8) M l_X1_46 zarrcopy tX_12 tX_4 (by decide) (Nat.le_of_ble_eq_true rfl) dX1_take_41 (by decide) (by decide) ?_
  refine zz_sg (fun σ103 eσ103 => ?_)
  have h := h σ103 eσ103
  refine zz_aload_n M 1 dX1_take_44 rfl rfl ?_
  refine zz_getR M f_X1_21 tX_9 rfl dX1_take_45 ?_
  refine zz_iconst (v := 0) M dX1_take_48 (by decide) ?_
  refine zz_aload_n M 0 dX1_take_49 rfl rfl ?_
  refine zz_getR M f_X1_21 tX_1 rfl dX1_take_50 ?_
  refine zz_iconst (v := 0) M dX1_take_53 (by decide) ?_
  refine zz_bipush (v := 8) M dX1_take_54 (by decide) ?_
  refine zz_copyK (sk := 0) (dk := 0) (nk := 8) M l_X1_46 zarrcopy tX_13 tX_5 (by decide) (Nat.le_of_ble_eq_true rfl) dX1_take_56 (by decide) (by decide) ?_
  refine zz_sg (fun σ104 eσ104 => ?_)
  have h := h σ104 eσ104
  refine zz_aload_n M 1 dX1_take_59 rfl rfl ?_
  refine zz_getR M f_X1_24 tX_9 rfl dX1_take_60 ?_
  refine zz_iconst (v := 0) M dX1_take_63 (by decide) ?_
  refine zz_aload_n M 0 dX1_take_64 rfl rfl ?_
  refine zz_getR M f_X1_24 tX_1 rfl dX1_take_65 ?_
  refine zz_iconst (v := 0) M dX1_take_68 (by decide) ?_
  refine zz_bipush (v := 8) M dX1_take_69 (by decide) ?_
  refine zz_copyK (sk := 0) (dk := 0) (nk := 8) M l_X1_46 zarrcopy tX_14 tX_6 (by decide) (Nat.le_of_ble_eq_true rfl) dX1_take_71 (by decide) (by decide) ?_
  refine zz_sg (fun σ105 eσ105 => ?_)
  have h := h σ105 eσ105
  refine zz_aload_n M 1 dX1_take_74 rfl rfl ?_
  refine zz_getR M f_X1_27 tX_9 rfl dX1_take_75 ?_
  refine zz_iconst (v := 0) M dX1_take_78 (by decide) ?_
  refine zz_aload_n M 0 dX1_take_79 rfl rfl ?_
  refine zz_getR M f_X1_27 tX_1 rfl dX1_take_80 ?_
  refine zz_iconst (v := 0) M dX1_take_83 (by decide) ?_
  refine zz_iconst (v := 4) M dX1_take_84 (by decide) ?_
  refine zz_copyK (sk := 0) (dk := 0) (nk := 4) M l_X1_46 zarrcopy tX_15 tX_7 (by decide) (Nat.le_of_ble_eq_true rfl) dX1_take_85 (by decide) (by decide) ?_
  refine zz_sg (fun σ106 eσ106 => ?_)
  have h := h σ106 eσ106
  refine zz_aload_n M 1 dX1_take_88 rfl rfl ?_
  refine zz_getR M f_X1_30 tX_9 rfl dX1_take_89 ?_
  refine zz_iconst (v := 0) M dX1_take_92 (by decide) ?_
  refine zz_aload_n M 0 dX1_take_93 rfl rfl ?_
  refine zz_getR M f_X1_30 tX_1 rfl dX1_take_94 ?_
  refine zz_iconst (v := 0) M dX1_take_97 (by decide) ?_
  refine zz_iconst (v := 4) M dX1_take_98 (by decide) ?_
  refine zz_copyK (sk := 0) (dk := 0) (nk := 4) M l_X1_46 zarrcopy tX_16 tX_8 (by decide) (Nat.le_of_ble_eq_true rfl) dX1_take_99 (by decide) (by decide) ?_
  refine zz_sg (fun σ107 eσ107 => ?_)
  have h := h σ107 eσ107
  refine zz_aload_n M 0 dX1_take_102 rfl rfl ?_
  refine zz_aload_n M 1 dX1_take_103 rfl rfl ?_
  refine zz_getI M f_X1_33 tX_9 rfl dX1_take_104 ?_
  refine zz_putI M f_X1_33 tX_1 rfl dX1_take_107 ?_
  refine zz_sg (fun σ108 eσ108 => ?_)
  have h := h σ108 eσ108
  refine zz_aload_n M 0 dX1_take_110 rfl rfl ?_
  refine zz_aload_n M 1 dX1_take_111 rfl rfl ?_
  refine zz_getI M f_X1_37 tX_9 rfl dX1_take_112 ?_
  refine zz_putI M f_X1_37 tX_1 rfl dX1_take_115 ?_
  refine zz_sg (fun σ109 eσ109 => ?_)
  have h := h σ109 eσ109
  refine zz_aload_n M 0 dX1_take_118 rfl rfl ?_
  refine zz_aload_n M 1 dX1_take_119 rfl rfl ?_
  refine zz_getI M f_X1_40 tX_9 rfl dX1_take_120 ?_
  refine zz_putI M f_X1_40 tX_1 rfl dX1_take_123 ?_
  refine zz_sg (fun σ110 eσ110 => ?_)
  have h := h σ110 eσ110
  refine zz_aload_n M 0 dX1_take_126 rfl rfl ?_
  refine zz_aload_n M 1 dX1_take_127 rfl rfl ?_
  refine zz_getI M f_X1_43 tX_9 rfl dX1_take_128 ?_
  refine zz_putI M f_X1_43 tX_1 rfl dX1_take_131 ?_
  refine zz_sg (fun σ111 eσ111 => ?_)
  have h := h σ111 eσ111
  exact zz_vret M dX1_take_134 h
def wX7_back  (σ : zSt) (Q : Int32 → zSt → Prop) : Prop := if (σ.1 0 2) = 0 then (Q (-3) σ) else (wX1_take_9  σ (fun σ102 => wX7_forget  σ102 (fun σ104 => wX1_many  σ104 (fun r105 σ106 => Q r105 σ106))))
set_option maxRecDepth 20000 in
set_option maxHeartbeats 4000000 in
theorem kX7_back (hI : zInj tabX ad)   (σ : zSt) (Q : Int32 → zSt → Prop) (h : wX7_back  σ Q) : zOkI l tabX D cA ad y 4 yX7_back cX7_back 1 (some .int) [.ref (ad 0)] σ Q := by
  refine zz_enter hI (by decide) (Nat.le_of_ble_eq_true rfl) (fun p e s m below meth c M => ?_)
  have M : zM p s m _ meth c cX7_back 1 RX7 (some .int) tabX D cA ad y := M
  refine zz_ls [(0, .ref (ad 0))] rfl ?_
  unfold wX7_back at h
  refine zz_aload_n M 0 dX7_back_0 rfl rfl ?_
  refine zz_getI M f_X7_19 tX_0 rfl dX7_back_1 ?_
  refine zz_if_ne (y0 := 0) M 10 dX7_back_4 (by decide) (fun c => ?_) (fun c => ?_)
  · have h := zifn (c := (σ.1 0 2) = 0) h c
    refine zz_aload_n M 0 dX7_back_10 rfl rfl ?_
    refine zz_getR M f_X7_12 tX_0 rfl dX7_back_11 ?_
    refine zz_aload_n M 0 dX7_back_14 rfl rfl ?_
    refine zz_getR M f_X7_16 tX_0 rfl dX7_back_15 ?_
    refine zz_callVV (d' := 1) (As := [.ref (ad 9)]) (rest := []) M l_X7_246 tX_1 rfl rfl dX7_back_18 rfl rfl (by decide) (Nat.le_of_ble_eq_true rfl) (by have hI := M.2.2.2.2.2.2.2.2; exact kX1_take_9 hI   _ _ h) (fun σ102 h => ?_)
    refine zz_aload_n M 0 dX7_back_21 rfl rfl ?_
    refine zz_callVV (d' := 3) (As := []) (rest := []) M l_X7_125 tX_0 rfl rfl dX7_back_22 rfl rfl (by decide) (Nat.le_of_ble_eq_true rfl) (by have hI := M.2.2.2.2.2.2.2.2; exact kX7_forget hI   _ _ h) (fun σ104 h => ?_)
    refine zz_aload_n M 0 dX7_back_25 rfl rfl ?_
    refine zz_getR M f_X7_12 tX_0 rfl dX7_back_26 ?_
    refine zz_callVI (d' := 1) (As := []) (rest := []) M l_X7_240 tX_1 rfl rfl dX7_back_29 rfl rfl (by decide) (Nat.le_of_ble_eq_true rfl) (by have hI := M.2.2.2.2.2.2.2.2; exact kX1_many hI   _ _ h) (fun r105 σ106 h => ?_)
    exact zz_iret M dX7_back_32 h
  · have h := zif (c := (σ.1 0 2) = 0) h c
    refine zz_bipush (v := (-3)) M dX7_back_7 (by decide) ?_
    exact zz_iret M dX7_back_9 h
end
