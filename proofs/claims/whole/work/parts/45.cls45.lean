section
variable {p : Program} {l : Launch} {e : Env} {s : State} {m : MethodId} {args : Array Value} {below : List Frame} {meth : Method} {c : Code} {D : va_G} {cA : Nat → ClassId} {ad : Nat → Nat} {y : zX}
def wX3_advance  (σ : zSt) (Q : zSt → Prop) : Prop := if (σ.1 19 4) < 0 then (Q σ) else (if (σ.1 19 3) ≤ (σ.1 19 4) then (Q σ) else (if 161 ≤ (σ.1 19 4) then (Q σ) else (vp_in (σ.1 19 4) 161 ∧ (∀ σ101 : zSt, σ101 = zput σ 19 5 (σ.1 20 (σ.1 19 4 : Int32).toNatClampNeg) → (vp_in (σ101.1 19 4) 161 ∧ (∀ σ102 : zSt, σ102 = zput σ101 19 6 (σ101.1 21 (σ101.1 19 4 : Int32).toNatClampNeg) → (vp_in (σ102.1 19 4) 161 ∧ (∀ σ103 : zSt, σ103 = zput σ102 19 7 (σ102.1 22 (σ102.1 19 4 : Int32).toNatClampNeg) → (∀ σ104 : zSt, σ104 = zput σ103 19 4 ((σ103.1 19 4) + 1) → (Q σ104))))))))))
set_option maxRecDepth 20000 in
set_option maxHeartbeats 4000000 in
theorem kX3_advance (hI : zInj tabX ad)   (σ : zSt) (Q : zSt → Prop) (h : wX3_advance  σ Q) : zOkV l tabX D cA ad y 1 yX3_advance cX3_advance 1 none [.ref (ad 19)] σ Q := by
  refine zz_enter hI (by decide) (Nat.le_of_ble_eq_true rfl) (fun p e s m below meth c M => ?_)
  have M : zM p s m _ meth c cX3_advance 1 RX3 none tabX D cA ad y := M
  refine zz_ls [(0, .ref (ad 19))] rfl ?_
  unfold wX3_advance at h
  refine zz_aload_n M 0 dX3_advance_0 rfl rfl ?_
  refine zz_getI M f_X3_25 tX_19 rfl dX3_advance_1 ?_
  refine zz_if_lt (y0 := 0) M 79 dX3_advance_4 (by decide) (fun c => ?_) (fun c => ?_)
  · have h := zif (c := (σ.1 19 4) < 0) h c
    exact zz_vret M dX3_advance_79 h
  · have h := zifn (c := (σ.1 19 4) < 0) h c
    refine zz_aload_n M 0 dX3_advance_7 rfl rfl ?_
    refine zz_getI M f_X3_25 tX_19 rfl dX3_advance_8 ?_
    refine zz_aload_n M 0 dX3_advance_11 rfl rfl ?_
    refine zz_getI M f_X3_21 tX_19 rfl dX3_advance_12 ?_
    refine zz_icmp_ge M 79 dX3_advance_15 (by decide) (fun c => ?_) (fun c => ?_)
    · have h := zif (c := (σ.1 19 3) ≤ (σ.1 19 4)) h c
      exact zz_vret M dX3_advance_79 h
    · have h := zifn (c := (σ.1 19 3) ≤ (σ.1 19 4)) h c
      refine zz_aload_n M 0 dX3_advance_18 rfl rfl ?_
      refine zz_getI M f_X3_25 tX_19 rfl dX3_advance_19 ?_
      refine zz_aload_n M 0 dX3_advance_22 rfl rfl ?_
      refine zz_getR M f_X3_9 tX_19 rfl dX3_advance_23 ?_
      refine zz_alen (v := 161) M tX_20 (by decide) (by decide) dX3_advance_26 ?_
      refine zz_icmp_ge M 79 dX3_advance_27 (by decide) (fun c => ?_) (fun c => ?_)
      · have h := zif (c := 161 ≤ (σ.1 19 4)) h c
        exact zz_vret M dX3_advance_79 h
      · have h := zifn (c := 161 ≤ (σ.1 19 4)) h c
        refine zz_aload_n M 0 dX3_advance_30 rfl rfl ?_
        refine zz_aload_n M 0 dX3_advance_31 rfl rfl ?_
        refine zz_getR M f_X3_9 tX_19 rfl dX3_advance_32 ?_
        refine zz_aload_n M 0 dX3_advance_35 rfl rfl ?_
        refine zz_getI M f_X3_25 tX_19 rfl dX3_advance_36 ?_
        refine zz_iald M tX_20 h.1 dX3_advance_39 ?_
        have h := h.2
        refine zz_putI M f_X3_28 tX_19 rfl dX3_advance_40 ?_
        refine zz_sg (fun σ101 eσ101 => ?_)
        have h := h σ101 eσ101
        refine zz_aload_n M 0 dX3_advance_43 rfl rfl ?_
        refine zz_aload_n M 0 dX3_advance_44 rfl rfl ?_
        refine zz_getR M f_X3_15 tX_19 rfl dX3_advance_45 ?_
        refine zz_aload_n M 0 dX3_advance_48 rfl rfl ?_
        refine zz_getI M f_X3_25 tX_19 rfl dX3_advance_49 ?_
        refine zz_iald M tX_21 h.1 dX3_advance_52 ?_
        have h := h.2
        refine zz_putI M f_X3_31 tX_19 rfl dX3_advance_53 ?_
        refine zz_sg (fun σ102 eσ102 => ?_)
        have h := h σ102 eσ102
        refine zz_aload_n M 0 dX3_advance_56 rfl rfl ?_
        refine zz_aload_n M 0 dX3_advance_57 rfl rfl ?_
        refine zz_getR M f_X3_18 tX_19 rfl dX3_advance_58 ?_
        refine zz_aload_n M 0 dX3_advance_61 rfl rfl ?_
        refine zz_getI M f_X3_25 tX_19 rfl dX3_advance_62 ?_
        refine zz_iald M tX_22 h.1 dX3_advance_65 ?_
        have h := h.2
        refine zz_putI M f_X3_34 tX_19 rfl dX3_advance_66 ?_
        refine zz_sg (fun σ103 eσ103 => ?_)
        have h := h σ103 eσ103
        refine zz_aload_n M 0 dX3_advance_69 rfl rfl ?_
        refine zz_dup M dX3_advance_70 rfl ?_
        refine zz_getI M f_X3_25 tX_19 rfl dX3_advance_71 ?_
        refine zz_iconst (v := 1) M dX3_advance_74 (by decide) ?_
        refine zz_iadd M dX3_advance_75 ?_
        refine zz_putI M f_X3_25 tX_19 rfl dX3_advance_76 ?_
        refine zz_sg (fun σ104 eσ104 => ?_)
        have h := h σ104 eσ104
        exact zz_vret M dX3_advance_79 h
def wX6_put (i0 : Nat) (x1 : Int32) (σ : zSt) (Q : zSt → Prop) : Prop := if 160 ≤ (σ.1 (43 + i0) 2) then (Q σ) else (vp_in (σ.1 (43 + i0) 2) 160 ∧ (∀ σ101 : zSt, σ101 = zput σ (49 + i0) (σ.1 (43 + i0) 2 : Int32).toNatClampNeg x1 → (∀ σ102 : zSt, σ102 = zput σ101 (43 + i0) 2 ((σ101.1 (43 + i0) 2) + 1) → (Q σ102))))
set_option maxRecDepth 20000 in
set_option maxHeartbeats 4000000 in
theorem kX6_put (hI : zInj tabX ad) (i0 : Nat) (x1 : Int32) (hi0 : i0 < 6) (σ : zSt) (Q : zSt → Prop) (h : wX6_put i0 x1 σ Q) : zOkV l tabX D cA ad y 1 yX6_put cX6_put 2 none [.ref (ad (43 + i0)), .int x1] σ Q := by
  refine zz_enter hI (by decide) (Nat.le_of_ble_eq_true rfl) (fun p e s m below meth c M => ?_)
  have M : zM p s m _ meth c cX6_put 2 RX6 none tabX D cA ad y := M
  refine zz_ls [(0, .ref (ad (43 + i0))), (1, .int x1)] rfl ?_
  unfold wX6_put at h
  refine zz_aload_n M 0 dX6_put_0 rfl rfl ?_
  refine zz_getI M f_X6_18 (tX_Text hi0) rfl dX6_put_1 ?_
  refine zz_aload_n M 0 dX6_put_4 rfl rfl ?_
  refine zz_getR M f_X6_9 (tX_Text hi0) rfl dX6_put_5 ?_
  refine zz_alen (v := 160) M (tX_Text_code hi0) (by decide) (by decide) dX6_put_8 ?_
  refine zz_icmp_ge M 32 dX6_put_9 (by decide) (fun c => ?_) (fun c => ?_)
  · have h := zif (c := 160 ≤ (σ.1 (43 + i0) 2)) h c
    exact zz_vret M dX6_put_32 h
  · have h := zifn (c := 160 ≤ (σ.1 (43 + i0) 2)) h c
    refine zz_aload_n M 0 dX6_put_12 rfl rfl ?_
    refine zz_getR M f_X6_9 (tX_Text hi0) rfl dX6_put_13 ?_
    refine zz_aload_n M 0 dX6_put_16 rfl rfl ?_
    refine zz_getI M f_X6_18 (tX_Text hi0) rfl dX6_put_17 ?_
    refine zz_iload_n M 1 dX6_put_20 rfl rfl ?_
    refine zz_iast M (tX_Text_code hi0) h.1 dX6_put_21 ?_
    have h := h.2
    refine zz_sg (fun σ101 eσ101 => ?_)
    have h := h σ101 eσ101
    refine zz_aload_n M 0 dX6_put_22 rfl rfl ?_
    refine zz_dup M dX6_put_23 rfl ?_
    refine zz_getI M f_X6_18 (tX_Text hi0) rfl dX6_put_24 ?_
    refine zz_iconst (v := 1) M dX6_put_27 (by decide) ?_
    refine zz_iadd M dX6_put_28 ?_
    refine zz_putI M f_X6_18 (tX_Text hi0) rfl dX6_put_29 ?_
    refine zz_sg (fun σ102 eσ102 => ?_)
    have h := h σ102 eσ102
    exact zz_vret M dX6_put_32 h
def wX3_either_L12 (C : Nat → Int32 → zSt → (Int32 → zSt → Prop) → Prop) (Q : Int32 → zSt → Prop) (K40 : zSt → Prop) (K57 : zSt → Prop) (x1 : Int32) : Nat → Int32 → zSt → Prop
  | 0, _, _ => False
  | n + 1, x2, σ => if 160 ≤ x2 then (K57  σ) else (if (σ.1 19 5) = 7 then (wX3_advance  σ (fun σ104 => C 1 x1 σ104 (fun r105 σ106 => if r105 = 0 then (K40  σ106) else (vp_in (σ106.1 19 8) 6 ∧ (wX6_put ((σ106.1 19 8).toNatClampNeg) (-15) σ106 (fun σ109 => ∀ x110 : Int32, x110 = x2 + 1 → (wX3_either_L12 C Q K40 K57 x1 n x110 σ109))))))) else (K57  σ))
set_option maxRecDepth 20000 in
set_option maxHeartbeats 4000000 in
theorem sX3_either_L12 (C : Nat → Int32 → zSt → (Int32 → zSt → Prop) → Prop) {Q : Int32 → zSt → Prop} {K40 : zSt → Prop} {K57 : zSt → Prop} (x1 : Int32) (dn : Nat) (hC0 : ∀ x σ Q, C 0 x σ Q → zOkI l tabX D cA ad y (dn + 6) yX3_either cX3_either 3 (some .boolean) [.ref (ad 19), .int x] σ Q) (hC1 : ∀ x σ Q, C 1 x σ Q → zOkI l tabX D cA ad y (dn + 6) yX3_both cX3_both 3 (some .boolean) [.ref (ad 19), .int x] σ Q) (hC2 : ∀ x σ Q, C 2 x σ Q → zOkI l tabX D cA ad y (dn + 6) yX3_maybeNot cX3_maybeNot 2 (some .boolean) [.ref (ad 19), .int x] σ Q) (hC3 : ∀ x σ Q, C 3 x σ Q → zOkI l tabX D cA ad y (dn + 6) yX3_comparison cX3_comparison 3 (some .boolean) [.ref (ad 19), .int x] σ Q) (hC4 : ∀ x σ Q, C 4 x σ Q → zOkI l tabX D cA ad y (dn + 6) yX3_sum cX3_sum 4 (some .boolean) [.ref (ad 19), .int x] σ Q) (hC5 : ∀ x σ Q, C 5 x σ Q → zOkI l tabX D cA ad y (dn + 6) yX3_term cX3_term 3 (some .boolean) [.ref (ad 19), .int x] σ Q) (hC6 : ∀ x σ Q, C 6 x σ Q → zOkI l tabX D cA ad y (dn + 6) yX3_one cX3_one 2 (some .boolean) [.ref (ad 19), .int x] σ Q)  (M : zM p s m args meth c cX3_either 3 RX3 (some .boolean) tabX D cA ad y) (hK40 : ∀ (σ : zSt), K40  σ → zG p l e (zrm (dn + 7)) s m args below meth c 3 tabX D cA ad (MQ below (va_Qi Q (fun σ' t => va_P D vwCl (zws tabX cA ad σ') t.heap) (zIn tabX ad)) args s 0 0 (zIn tabX ad)) 40 [] [] σ) (hK57 : ∀ (σ : zSt), K57  σ → zG p l e (zrm (dn + 7)) s m args below meth c 3 tabX D cA ad (MQ below (va_Qi Q (fun σ' t => va_P D vwCl (zws tabX cA ad σ') t.heap) (zIn tabX ad)) args s 0 0 (zIn tabX ad)) 57 [] [] σ) : ∀ (n : Nat) (x2 : Int32) (σ : zSt), wX3_either_L12 C Q K40 K57 x1 n x2 σ → zG p l e (zrm (dn + 7)) s m args below meth c 3 tabX D cA ad (MQ below (va_Qi Q (fun σ' t => va_P D vwCl (zws tabX cA ad σ') t.heap) (zIn tabX ad)) args s 0 0 (zIn tabX ad)) 12 [(0, .ref (ad 19)), (1, .int x1), (2, .int x2)] [] σ := by
  intro n
  induction n with
  | zero => intro x2 σ h; exact absurd h (by simp [wX3_either_L12])
  | succ n ih =>
    intro x2 σ h
    unfold wX3_either_L12 at h
    refine zz_iload_n M 2 dX3_either_12 rfl rfl ?_
    refine zz_sipush (v := 160) M dX3_either_13 (by decide) ?_
    refine zz_icmp_ge M 57 dX3_either_16 (by decide) (fun c => ?_) (fun c => ?_)
    · have h := zif (c := 160 ≤ x2) h c
      refine zz_sub [] [] rfl ?_
      exact hK57  _ h
    · have h := zifn (c := 160 ≤ x2) h c
      refine zz_aload_n M 0 dX3_either_19 rfl rfl ?_
      refine zz_getI M f_X3_28 tX_19 rfl dX3_either_20 ?_
      refine zz_bipush (v := 7) M dX3_either_23 (by decide) ?_
      refine zz_icmp_ne M 57 dX3_either_25 (by decide) (fun c => ?_) (fun c => ?_)
      · have h := zifn (c := (σ.1 19 5) = 7) h c
        refine zz_sub [] [] rfl ?_
        exact hK57  _ h
      · have h := zif (c := (σ.1 19 5) = 7) h c
        refine zz_aload_n M 0 dX3_either_28 rfl rfl ?_
        refine zz_callVV (d' := 1) (As := []) (rest := []) M l_X3_59 tX_19 rfl rfl dX3_either_29 rfl rfl (by omega) (Nat.le_of_ble_eq_true rfl) (by have hI := M.2.2.2.2.2.2.2.2; exact kX3_advance hI   _ _ h) (fun σ104 h => ?_)
        refine zz_aload_n M 0 dX3_either_32 rfl rfl ?_
        refine zz_iload_n M 1 dX3_either_33 rfl rfl ?_
        refine zz_callVI (d' := dn + 6) (As := [.int x1]) (rest := []) M l_X3_141 tX_19 rfl rfl dX3_either_34 rfl rfl (by omega) (Nat.le_of_ble_eq_true rfl) (by have hI := M.2.2.2.2.2.2.2.2; exact hC1 _ _ _ h) (fun r105 σ106 h => ?_)
        refine zz_if_ne (y0 := 0) M 42 dX3_either_37 (by decide) (fun c => ?_) (fun c => ?_)
        · have h := zifn (c := r105 = 0) h c
          refine zz_aload_n M 0 dX3_either_42 rfl rfl ?_
          have hq107 := h.1
          refine zz_getD (b := 43) M f_X3_37 tX_19 rfl hq107 dX3_either_43 ?_
          have h := h.2
          refine zz_bipush (v := (-15)) M dX3_either_46 (by decide) ?_
          refine zz_callVV (d' := 1) (As := [.int (-15)]) (rest := []) M l_X3_144 (tX_Text (zclt hq107)) rfl rfl dX3_either_48 rfl rfl (by omega) (Nat.le_of_ble_eq_true rfl) (by have hI := M.2.2.2.2.2.2.2.2; exact kX6_put hI _ _ (zclt hq107) _ _ h) (fun σ109 h => ?_)
          obtain ⟨x110, ex110⟩ : ∃ z : Int32, z = x2 + 1 := ⟨_, rfl⟩
          have h := h x110 ex110
          refine zz_iinc M [(2, .int x110), (0, .ref (ad 19)), (1, .int x1)] 2 dX3_either_51 rfl (n32 := 1) (by decide) ex110 (by decide) rfl ?_
          refine zz_goto M 12 dX3_either_54 (by decide) ?_
          refine zz_sub [(0, .ref (ad 19)), (1, .int x1), (2, .int x110)] [1, 2, 0] rfl ?_
          exact ih _ _ h
        · have h := zif (c := r105 = 0) h c
          refine zz_sub [] [] rfl ?_
          exact hK40  _ h
def wX3_either_b (C : Nat → Int32 → zSt → (Int32 → zSt → Prop) → Prop) (x1 : Int32) (σ : zSt) (Q : Int32 → zSt → Prop) : Prop := C 1 x1 σ (fun r101 σ102 => if r101 = 0 then (Q 0 σ102) else (wX3_either_L12 C Q (fun  σ111 => Q 0 σ111) (fun  σ112 => Q 1 σ112) x1 300 0 σ102))
set_option maxRecDepth 20000 in
set_option maxHeartbeats 4000000 in
theorem kX3_either_b (C : Nat → Int32 → zSt → (Int32 → zSt → Prop) → Prop) (hI : zInj tabX ad) (x1 : Int32)  (dn : Nat) (hC0 : ∀ x σ Q, C 0 x σ Q → zOkI l tabX D cA ad y (dn + 6) yX3_either cX3_either 3 (some .boolean) [.ref (ad 19), .int x] σ Q) (hC1 : ∀ x σ Q, C 1 x σ Q → zOkI l tabX D cA ad y (dn + 6) yX3_both cX3_both 3 (some .boolean) [.ref (ad 19), .int x] σ Q) (hC2 : ∀ x σ Q, C 2 x σ Q → zOkI l tabX D cA ad y (dn + 6) yX3_maybeNot cX3_maybeNot 2 (some .boolean) [.ref (ad 19), .int x] σ Q) (hC3 : ∀ x σ Q, C 3 x σ Q → zOkI l tabX D cA ad y (dn + 6) yX3_comparison cX3_comparison 3 (some .boolean) [.ref (ad 19), .int x] σ Q) (hC4 : ∀ x σ Q, C 4 x σ Q → zOkI l tabX D cA ad y (dn + 6) yX3_sum cX3_sum 4 (some .boolean) [.ref (ad 19), .int x] σ Q) (hC5 : ∀ x σ Q, C 5 x σ Q → zOkI l tabX D cA ad y (dn + 6) yX3_term cX3_term 3 (some .boolean) [.ref (ad 19), .int x] σ Q) (hC6 : ∀ x σ Q, C 6 x σ Q → zOkI l tabX D cA ad y (dn + 6) yX3_one cX3_one 2 (some .boolean) [.ref (ad 19), .int x] σ Q) (σ : zSt) (Q : Int32 → zSt → Prop) (h : wX3_either_b C x1 σ Q) : zOkI l tabX D cA ad y (dn + 7) yX3_either cX3_either 3 (some .boolean) [.ref (ad 19), .int x1] σ Q := by
  refine zz_enter hI (by decide) (Nat.le_of_ble_eq_true rfl) (fun p e s m below meth c M => ?_)
  have M : zM p s m _ meth c cX3_either 3 RX3 (some .boolean) tabX D cA ad y := M
  refine zz_ls [(0, .ref (ad 19)), (1, .int x1)] rfl ?_
  unfold wX3_either_b at h
  refine zz_aload_n M 0 dX3_either_0 rfl rfl ?_
  refine zz_iload_n M 1 dX3_either_1 rfl rfl ?_
  refine zz_callVI (d' := dn + 6) (As := [.int x1]) (rest := []) M l_X3_141 tX_19 rfl rfl dX3_either_2 rfl rfl (by omega) (Nat.le_of_ble_eq_true rfl) (by have hI := M.2.2.2.2.2.2.2.2; exact hC1 _ _ _ h) (fun r101 σ102 h => ?_)
  refine zz_if_ne (y0 := 0) M 10 dX3_either_5 (by decide) (fun c => ?_) (fun c => ?_)
  · have h := zifn (c := r101 = 0) h c
    refine zz_iconst (v := 0) M dX3_either_10 (by decide) ?_
    refine zz_istore_n M [(2, .int 0), (0, .ref (ad 19)), (1, .int x1)] dX3_either_11 rfl (by decide) rfl ?_
    refine zz_sub [(0, .ref (ad 19)), (1, .int x1), (2, .int 0)] [1, 2, 0] rfl ?_
    refine sX3_either_L12 C x1  dn hC0 hC1 hC2 hC3 hC4 hC5 hC6 M (fun  σ111 h => ?_) (fun  σ112 h => ?_) 300 _ _ h
    · refine zz_iconst (v := 0) M dX3_either_40 (by decide) ?_
      exact zz_zret M dX3_either_41 (Or.inl rfl) h
    · refine zz_iconst (v := 1) M dX3_either_57 (by decide) ?_
      exact zz_zret M dX3_either_58 (Or.inr rfl) h
  · have h := zif (c := r101 = 0) h c
    refine zz_iconst (v := 0) M dX3_either_8 (by decide) ?_
    exact zz_zret M dX3_either_9 (Or.inl rfl) h
def wX3_both_L12 (C : Nat → Int32 → zSt → (Int32 → zSt → Prop) → Prop) (Q : Int32 → zSt → Prop) (K40 : zSt → Prop) (K57 : zSt → Prop) (x1 : Int32) : Nat → Int32 → zSt → Prop
  | 0, _, _ => False
  | n + 1, x2, σ => if 160 ≤ x2 then (K57  σ) else (if (σ.1 19 5) = 8 then (wX3_advance  σ (fun σ104 => C 2 x1 σ104 (fun r105 σ106 => if r105 = 0 then (K40  σ106) else (vp_in (σ106.1 19 8) 6 ∧ (wX6_put ((σ106.1 19 8).toNatClampNeg) (-14) σ106 (fun σ109 => ∀ x110 : Int32, x110 = x2 + 1 → (wX3_both_L12 C Q K40 K57 x1 n x110 σ109))))))) else (K57  σ))
set_option maxRecDepth 20000 in
set_option maxHeartbeats 4000000 in
theorem sX3_both_L12 (C : Nat → Int32 → zSt → (Int32 → zSt → Prop) → Prop) {Q : Int32 → zSt → Prop} {K40 : zSt → Prop} {K57 : zSt → Prop} (x1 : Int32) (dn : Nat) (hC0 : ∀ x σ Q, C 0 x σ Q → zOkI l tabX D cA ad y (dn + 6) yX3_either cX3_either 3 (some .boolean) [.ref (ad 19), .int x] σ Q) (hC1 : ∀ x σ Q, C 1 x σ Q → zOkI l tabX D cA ad y (dn + 6) yX3_both cX3_both 3 (some .boolean) [.ref (ad 19), .int x] σ Q) (hC2 : ∀ x σ Q, C 2 x σ Q → zOkI l tabX D cA ad y (dn + 6) yX3_maybeNot cX3_maybeNot 2 (some .boolean) [.ref (ad 19), .int x] σ Q) (hC3 : ∀ x σ Q, C 3 x σ Q → zOkI l tabX D cA ad y (dn + 6) yX3_comparison cX3_comparison 3 (some .boolean) [.ref (ad 19), .int x] σ Q) (hC4 : ∀ x σ Q, C 4 x σ Q → zOkI l tabX D cA ad y (dn + 6) yX3_sum cX3_sum 4 (some .boolean) [.ref (ad 19), .int x] σ Q) (hC5 : ∀ x σ Q, C 5 x σ Q → zOkI l tabX D cA ad y (dn + 6) yX3_term cX3_term 3 (some .boolean) [.ref (ad 19), .int x] σ Q) (hC6 : ∀ x σ Q, C 6 x σ Q → zOkI l tabX D cA ad y (dn + 6) yX3_one cX3_one 2 (some .boolean) [.ref (ad 19), .int x] σ Q)  (M : zM p s m args meth c cX3_both 3 RX3 (some .boolean) tabX D cA ad y) (hK40 : ∀ (σ : zSt), K40  σ → zG p l e (zrm (dn + 7)) s m args below meth c 3 tabX D cA ad (MQ below (va_Qi Q (fun σ' t => va_P D vwCl (zws tabX cA ad σ') t.heap) (zIn tabX ad)) args s 0 0 (zIn tabX ad)) 40 [] [] σ) (hK57 : ∀ (σ : zSt), K57  σ → zG p l e (zrm (dn + 7)) s m args below meth c 3 tabX D cA ad (MQ below (va_Qi Q (fun σ' t => va_P D vwCl (zws tabX cA ad σ') t.heap) (zIn tabX ad)) args s 0 0 (zIn tabX ad)) 57 [] [] σ) : ∀ (n : Nat) (x2 : Int32) (σ : zSt), wX3_both_L12 C Q K40 K57 x1 n x2 σ → zG p l e (zrm (dn + 7)) s m args below meth c 3 tabX D cA ad (MQ below (va_Qi Q (fun σ' t => va_P D vwCl (zws tabX cA ad σ') t.heap) (zIn tabX ad)) args s 0 0 (zIn tabX ad)) 12 [(0, .ref (ad 19)), (1, .int x1), (2, .int x2)] [] σ := by
  intro n
  induction n with
  | zero => intro x2 σ h; exact absurd h (by simp [wX3_both_L12])
  | succ n ih =>
    intro x2 σ h
    unfold wX3_both_L12 at h
    refine zz_iload_n M 2 dX3_both_12 rfl rfl ?_
    refine zz_sipush (v := 160) M dX3_both_13 (by decide) ?_
    refine zz_icmp_ge M 57 dX3_both_16 (by decide) (fun c => ?_) (fun c => ?_)
    · have h := zif (c := 160 ≤ x2) h c
      refine zz_sub [] [] rfl ?_
      exact hK57  _ h
    · have h := zifn (c := 160 ≤ x2) h c
      refine zz_aload_n M 0 dX3_both_19 rfl rfl ?_
      refine zz_getI M f_X3_28 tX_19 rfl dX3_both_20 ?_
      refine zz_bipush (v := 8) M dX3_both_23 (by decide) ?_
      refine zz_icmp_ne M 57 dX3_both_25 (by decide) (fun c => ?_) (fun c => ?_)
      · have h := zifn (c := (σ.1 19 5) = 8) h c
        refine zz_sub [] [] rfl ?_
        exact hK57  _ h
      · have h := zif (c := (σ.1 19 5) = 8) h c
        refine zz_aload_n M 0 dX3_both_28 rfl rfl ?_
        refine zz_callVV (d' := 1) (As := []) (rest := []) M l_X3_59 tX_19 rfl rfl dX3_both_29 rfl rfl (by omega) (Nat.le_of_ble_eq_true rfl) (by have hI := M.2.2.2.2.2.2.2.2; exact kX3_advance hI   _ _ h) (fun σ104 h => ?_)
        refine zz_aload_n M 0 dX3_both_32 rfl rfl ?_
        refine zz_iload_n M 1 dX3_both_33 rfl rfl ?_
        refine zz_callVI (d' := dn + 6) (As := [.int x1]) (rest := []) M l_X3_147 tX_19 rfl rfl dX3_both_34 rfl rfl (by omega) (Nat.le_of_ble_eq_true rfl) (by have hI := M.2.2.2.2.2.2.2.2; exact hC2 _ _ _ h) (fun r105 σ106 h => ?_)
        refine zz_if_ne (y0 := 0) M 42 dX3_both_37 (by decide) (fun c => ?_) (fun c => ?_)
        · have h := zifn (c := r105 = 0) h c
          refine zz_aload_n M 0 dX3_both_42 rfl rfl ?_
          have hq107 := h.1
          refine zz_getD (b := 43) M f_X3_37 tX_19 rfl hq107 dX3_both_43 ?_
          have h := h.2
          refine zz_bipush (v := (-14)) M dX3_both_46 (by decide) ?_
          refine zz_callVV (d' := 1) (As := [.int (-14)]) (rest := []) M l_X3_144 (tX_Text (zclt hq107)) rfl rfl dX3_both_48 rfl rfl (by omega) (Nat.le_of_ble_eq_true rfl) (by have hI := M.2.2.2.2.2.2.2.2; exact kX6_put hI _ _ (zclt hq107) _ _ h) (fun σ109 h => ?_)
          obtain ⟨x110, ex110⟩ : ∃ z : Int32, z = x2 + 1 := ⟨_, rfl⟩
          have h := h x110 ex110
          refine zz_iinc M [(2, .int x110), (0, .ref (ad 19)), (1, .int x1)] 2 dX3_both_51 rfl (n32 := 1) (by decide) ex110 (by decide) rfl ?_
          refine zz_goto M 12 dX3_both_54 (by decide) ?_
          refine zz_sub [(0, .ref (ad 19)), (1, .int x1), (2, .int x110)] [1, 2, 0] rfl ?_
          exact ih _ _ h
        · have h := zif (c := r105 = 0) h c
          refine zz_sub [] [] rfl ?_
          exact hK40  _ h
def wX3_both_b (C : Nat → Int32 → zSt → (Int32 → zSt → Prop) → Prop) (x1 : Int32) (σ : zSt) (Q : Int32 → zSt → Prop) : Prop := C 2 x1 σ (fun r101 σ102 => if r101 = 0 then (Q 0 σ102) else (wX3_both_L12 C Q (fun  σ111 => Q 0 σ111) (fun  σ112 => Q 1 σ112) x1 300 0 σ102))
set_option maxRecDepth 20000 in
set_option maxHeartbeats 4000000 in
theorem kX3_both_b (C : Nat → Int32 → zSt → (Int32 → zSt → Prop) → Prop) (hI : zInj tabX ad) (x1 : Int32)  (dn : Nat) (hC0 : ∀ x σ Q, C 0 x σ Q → zOkI l tabX D cA ad y (dn + 6) yX3_either cX3_either 3 (some .boolean) [.ref (ad 19), .int x] σ Q) (hC1 : ∀ x σ Q, C 1 x σ Q → zOkI l tabX D cA ad y (dn + 6) yX3_both cX3_both 3 (some .boolean) [.ref (ad 19), .int x] σ Q) (hC2 : ∀ x σ Q, C 2 x σ Q → zOkI l tabX D cA ad y (dn + 6) yX3_maybeNot cX3_maybeNot 2 (some .boolean) [.ref (ad 19), .int x] σ Q) (hC3 : ∀ x σ Q, C 3 x σ Q → zOkI l tabX D cA ad y (dn + 6) yX3_comparison cX3_comparison 3 (some .boolean) [.ref (ad 19), .int x] σ Q) (hC4 : ∀ x σ Q, C 4 x σ Q → zOkI l tabX D cA ad y (dn + 6) yX3_sum cX3_sum 4 (some .boolean) [.ref (ad 19), .int x] σ Q) (hC5 : ∀ x σ Q, C 5 x σ Q → zOkI l tabX D cA ad y (dn + 6) yX3_term cX3_term 3 (some .boolean) [.ref (ad 19), .int x] σ Q) (hC6 : ∀ x σ Q, C 6 x σ Q → zOkI l tabX D cA ad y (dn + 6) yX3_one cX3_one 2 (some .boolean) [.ref (ad 19), .int x] σ Q) (σ : zSt) (Q : Int32 → zSt → Prop) (h : wX3_both_b C x1 σ Q) : zOkI l tabX D cA ad y (dn + 7) yX3_both cX3_both 3 (some .boolean) [.ref (ad 19), .int x1] σ Q := by
  refine zz_enter hI (by decide) (Nat.le_of_ble_eq_true rfl) (fun p e s m below meth c M => ?_)
  have M : zM p s m _ meth c cX3_both 3 RX3 (some .boolean) tabX D cA ad y := M
  refine zz_ls [(0, .ref (ad 19)), (1, .int x1)] rfl ?_
  unfold wX3_both_b at h
  refine zz_aload_n M 0 dX3_both_0 rfl rfl ?_
  refine zz_iload_n M 1 dX3_both_1 rfl rfl ?_
  refine zz_callVI (d' := dn + 6) (As := [.int x1]) (rest := []) M l_X3_147 tX_19 rfl rfl dX3_both_2 rfl rfl (by omega) (Nat.le_of_ble_eq_true rfl) (by have hI := M.2.2.2.2.2.2.2.2; exact hC2 _ _ _ h) (fun r101 σ102 h => ?_)
  refine zz_if_ne (y0 := 0) M 10 dX3_both_5 (by decide) (fun c => ?_) (fun c => ?_)
  · have h := zifn (c := r101 = 0) h c
    refine zz_iconst (v := 0) M dX3_both_10 (by decide) ?_
    refine zz_istore_n M [(2, .int 0), (0, .ref (ad 19)), (1, .int x1)] dX3_both_11 rfl (by decide) rfl ?_
    refine zz_sub [(0, .ref (ad 19)), (1, .int x1), (2, .int 0)] [1, 2, 0] rfl ?_
    refine sX3_both_L12 C x1  dn hC0 hC1 hC2 hC3 hC4 hC5 hC6 M (fun  σ111 h => ?_) (fun  σ112 h => ?_) 300 _ _ h
    · refine zz_iconst (v := 0) M dX3_both_40 (by decide) ?_
      exact zz_zret M dX3_both_41 (Or.inl rfl) h
    · refine zz_iconst (v := 1) M dX3_both_57 (by decide) ?_
      exact zz_zret M dX3_both_58 (Or.inr rfl) h
  · have h := zif (c := r101 = 0) h c
    refine zz_iconst (v := 0) M dX3_both_8 (by decide) ?_
    exact zz_zret M dX3_both_9 (Or.inl rfl) h
def wX3_maybeNot_b (C : Nat → Int32 → zSt → (Int32 → zSt → Prop) → Prop) (x1 : Int32) (σ : zSt) (Q : Int32 → zSt → Prop) : Prop := if (σ.1 19 5) = 9 then (if x1 < 5 then (wX3_advance  σ (fun σ102 => ∀ a103 : Int32, a103 = (x1 + 1) → (C 2 a103 σ102 (fun r104 σ105 => if r104 = 0 then (Q 0 σ105) else (vp_in (σ105.1 19 8) 6 ∧ (wX6_put ((σ105.1 19 8).toNatClampNeg) (-8) σ105 (fun σ108 => Q 1 σ108))))))) else (Q 0 σ)) else (C 3 x1 σ (fun r109 σ110 => (r109 = 0 ∨ r109 = 1) ∧ Q r109 σ110))
set_option maxRecDepth 20000 in
set_option maxHeartbeats 4000000 in
theorem kX3_maybeNot_b (C : Nat → Int32 → zSt → (Int32 → zSt → Prop) → Prop) (hI : zInj tabX ad) (x1 : Int32)  (dn : Nat) (hC0 : ∀ x σ Q, C 0 x σ Q → zOkI l tabX D cA ad y (dn + 6) yX3_either cX3_either 3 (some .boolean) [.ref (ad 19), .int x] σ Q) (hC1 : ∀ x σ Q, C 1 x σ Q → zOkI l tabX D cA ad y (dn + 6) yX3_both cX3_both 3 (some .boolean) [.ref (ad 19), .int x] σ Q) (hC2 : ∀ x σ Q, C 2 x σ Q → zOkI l tabX D cA ad y (dn + 6) yX3_maybeNot cX3_maybeNot 2 (some .boolean) [.ref (ad 19), .int x] σ Q) (hC3 : ∀ x σ Q, C 3 x σ Q → zOkI l tabX D cA ad y (dn + 6) yX3_comparison cX3_comparison 3 (some .boolean) [.ref (ad 19), .int x] σ Q) (hC4 : ∀ x σ Q, C 4 x σ Q → zOkI l tabX D cA ad y (dn + 6) yX3_sum cX3_sum 4 (some .boolean) [.ref (ad 19), .int x] σ Q) (hC5 : ∀ x σ Q, C 5 x σ Q → zOkI l tabX D cA ad y (dn + 6) yX3_term cX3_term 3 (some .boolean) [.ref (ad 19), .int x] σ Q) (hC6 : ∀ x σ Q, C 6 x σ Q → zOkI l tabX D cA ad y (dn + 6) yX3_one cX3_one 2 (some .boolean) [.ref (ad 19), .int x] σ Q) (σ : zSt) (Q : Int32 → zSt → Prop) (h : wX3_maybeNot_b C x1 σ Q) : zOkI l tabX D cA ad y (dn + 7) yX3_maybeNot cX3_maybeNot 2 (some .boolean) [.ref (ad 19), .int x1] σ Q := by
  refine zz_enter hI (by decide) (Nat.le_of_ble_eq_true rfl) (fun p e s m below meth c M => ?_)
  have M : zM p s m _ meth c cX3_maybeNot 2 RX3 (some .boolean) tabX D cA ad y := M
  refine zz_ls [(0, .ref (ad 19)), (1, .int x1)] rfl ?_
  unfold wX3_maybeNot_b at h
  refine zz_aload_n M 0 dX3_maybeNot_0 rfl rfl ?_
  refine zz_getI M f_X3_28 tX_19 rfl dX3_maybeNot_1 ?_
  refine zz_bipush (v := 9) M dX3_maybeNot_4 (by decide) ?_
  refine zz_icmp_eq M 15 dX3_maybeNot_6 (by decide) (fun c => ?_) (fun c => ?_)
  · have h := zif (c := (σ.1 19 5) = 9) h c
    refine zz_iload_n M 1 dX3_maybeNot_15 rfl rfl ?_
    refine zz_iconst (v := 5) M dX3_maybeNot_16 (by decide) ?_
    refine zz_icmp_lt M 22 dX3_maybeNot_17 (by decide) (fun c => ?_) (fun c => ?_)
    · have h := zif (c := x1 < 5) h c
      refine zz_aload_n M 0 dX3_maybeNot_22 rfl rfl ?_
      refine zz_callVV (d' := 1) (As := []) (rest := []) M l_X3_59 tX_19 rfl rfl dX3_maybeNot_23 rfl rfl (by omega) (Nat.le_of_ble_eq_true rfl) (by have hI := M.2.2.2.2.2.2.2.2; exact kX3_advance hI   _ _ h) (fun σ102 h => ?_)
      refine zz_aload_n M 0 dX3_maybeNot_26 rfl rfl ?_
      refine zz_iload_n M 1 dX3_maybeNot_27 rfl rfl ?_
      refine zz_iconst (v := 1) M dX3_maybeNot_28 (by decide) ?_
      refine zz_iadd M dX3_maybeNot_29 ?_
      obtain ⟨a103, ea103⟩ : ∃ z : Int32, z = (x1 + 1) := ⟨_, rfl⟩
      have h := h a103 ea103
      refine zz_st [.int a103, .ref (ad 19)] (by rw [ea103]) ?_
      refine zz_callVI (d' := dn + 6) (As := [.int a103]) (rest := []) M l_X3_147 tX_19 rfl rfl dX3_maybeNot_30 rfl rfl (by omega) (Nat.le_of_ble_eq_true rfl) (by have hI := M.2.2.2.2.2.2.2.2; exact hC2 _ _ _ h) (fun r104 σ105 h => ?_)
      refine zz_if_ne (y0 := 0) M 38 dX3_maybeNot_33 (by decide) (fun c => ?_) (fun c => ?_)
      · have h := zifn (c := r104 = 0) h c
        refine zz_aload_n M 0 dX3_maybeNot_38 rfl rfl ?_
        have hq106 := h.1
        refine zz_getD (b := 43) M f_X3_37 tX_19 rfl hq106 dX3_maybeNot_39 ?_
        have h := h.2
        refine zz_bipush (v := (-8)) M dX3_maybeNot_42 (by decide) ?_
        refine zz_callVV (d' := 1) (As := [.int (-8)]) (rest := []) M l_X3_144 (tX_Text (zclt hq106)) rfl rfl dX3_maybeNot_44 rfl rfl (by omega) (Nat.le_of_ble_eq_true rfl) (by have hI := M.2.2.2.2.2.2.2.2; exact kX6_put hI _ _ (zclt hq106) _ _ h) (fun σ108 h => ?_)
        refine zz_iconst (v := 1) M dX3_maybeNot_47 (by decide) ?_
        exact zz_zret M dX3_maybeNot_48 (Or.inr rfl) h
      · have h := zif (c := r104 = 0) h c
        refine zz_iconst (v := 0) M dX3_maybeNot_36 (by decide) ?_
        exact zz_zret M dX3_maybeNot_37 (Or.inl rfl) h
    · have h := zifn (c := x1 < 5) h c
      refine zz_iconst (v := 0) M dX3_maybeNot_20 (by decide) ?_
      exact zz_zret M dX3_maybeNot_21 (Or.inl rfl) h
  · have h := zifn (c := (σ.1 19 5) = 9) h c
    refine zz_aload_n M 0 dX3_maybeNot_9 rfl rfl ?_
    refine zz_iload_n M 1 dX3_maybeNot_10 rfl rfl ?_
    refine zz_callVI (d' := dn + 6) (As := [.int x1]) (rest := []) M l_X3_150 tX_19 rfl rfl dX3_maybeNot_11 rfl rfl (by omega) (Nat.le_of_ble_eq_true rfl) (by have hI := M.2.2.2.2.2.2.2.2; exact hC3 _ _ _ h) (fun r109 σ110 h => ?_)
    exact zz_zret M dX3_maybeNot_14 h.1 h.2
def wX3_comparison_b (C : Nat → Int32 → zSt → (Int32 → zSt → Prop) → Prop) (x1 : Int32) (σ : zSt) (Q : Int32 → zSt → Prop) : Prop := C 4 x1 σ (fun r101 σ102 => if r101 = 0 then (Q 0 σ102) else (if (σ102.1 19 5) = 60 then (if (σ102.1 19 5) = 60 then (wX3_advance  σ102 (fun σ111 => C 4 x1 σ111 (fun r112 σ113 => if r112 = 0 then (Q 0 σ113) else (vp_in (σ113.1 19 8) 6 ∧ (wX6_put ((σ113.1 19 8).toNatClampNeg) (-12) σ113 (fun σ116 => Q 1 σ116)))))) else (wX3_advance  σ102 (fun σ104 => C 4 x1 σ104 (fun r105 σ106 => if r105 = 0 then (Q 0 σ106) else (vp_in (σ106.1 19 8) 6 ∧ (wX6_put ((σ106.1 19 8).toNatClampNeg) (-13) σ106 (fun σ109 => Q 1 σ109))))))) else (if (σ102.1 19 5) = 61 then (if (σ102.1 19 5) = 60 then (wX3_advance  σ102 (fun σ125 => C 4 x1 σ125 (fun r126 σ127 => if r126 = 0 then (Q 0 σ127) else (vp_in (σ127.1 19 8) 6 ∧ (wX6_put ((σ127.1 19 8).toNatClampNeg) (-12) σ127 (fun σ130 => Q 1 σ130)))))) else (wX3_advance  σ102 (fun σ118 => C 4 x1 σ118 (fun r119 σ120 => if r119 = 0 then (Q 0 σ120) else (vp_in (σ120.1 19 8) 6 ∧ (wX6_put ((σ120.1 19 8).toNatClampNeg) (-13) σ120 (fun σ123 => Q 1 σ123))))))) else (Q 1 σ102))))
set_option maxRecDepth 20000 in
set_option maxHeartbeats 4000000 in
theorem kX3_comparison_b (C : Nat → Int32 → zSt → (Int32 → zSt → Prop) → Prop) (hI : zInj tabX ad) (x1 : Int32)  (dn : Nat) (hC0 : ∀ x σ Q, C 0 x σ Q → zOkI l tabX D cA ad y (dn + 6) yX3_either cX3_either 3 (some .boolean) [.ref (ad 19), .int x] σ Q) (hC1 : ∀ x σ Q, C 1 x σ Q → zOkI l tabX D cA ad y (dn + 6) yX3_both cX3_both 3 (some .boolean) [.ref (ad 19), .int x] σ Q) (hC2 : ∀ x σ Q, C 2 x σ Q → zOkI l tabX D cA ad y (dn + 6) yX3_maybeNot cX3_maybeNot 2 (some .boolean) [.ref (ad 19), .int x] σ Q) (hC3 : ∀ x σ Q, C 3 x σ Q → zOkI l tabX D cA ad y (dn + 6) yX3_comparison cX3_comparison 3 (some .boolean) [.ref (ad 19), .int x] σ Q) (hC4 : ∀ x σ Q, C 4 x σ Q → zOkI l tabX D cA ad y (dn + 6) yX3_sum cX3_sum 4 (some .boolean) [.ref (ad 19), .int x] σ Q) (hC5 : ∀ x σ Q, C 5 x σ Q → zOkI l tabX D cA ad y (dn + 6) yX3_term cX3_term 3 (some .boolean) [.ref (ad 19), .int x] σ Q) (hC6 : ∀ x σ Q, C 6 x σ Q → zOkI l tabX D cA ad y (dn + 6) yX3_one cX3_one 2 (some .boolean) [.ref (ad 19), .int x] σ Q) (σ : zSt) (Q : Int32 → zSt → Prop) (h : wX3_comparison_b C x1 σ Q) : zOkI l tabX D cA ad y (dn + 7) yX3_comparison cX3_comparison 3 (some .boolean) [.ref (ad 19), .int x1] σ Q := by
  refine zz_enter hI (by decide) (Nat.le_of_ble_eq_true rfl) (fun p e s m below meth c M => ?_)
  have M : zM p s m _ meth c cX3_comparison 3 RX3 (some .boolean) tabX D cA ad y := M
  refine zz_ls [(0, .ref (ad 19)), (1, .int x1)] rfl ?_
  unfold wX3_comparison_b at h
  refine zz_aload_n M 0 dX3_comparison_0 rfl rfl ?_
  refine zz_iload_n M 1 dX3_comparison_1 rfl rfl ?_
  refine zz_callVI (d' := dn + 6) (As := [.int x1]) (rest := []) M l_X3_153 tX_19 rfl rfl dX3_comparison_2 rfl rfl (by omega) (Nat.le_of_ble_eq_true rfl) (by have hI := M.2.2.2.2.2.2.2.2; exact hC4 _ _ _ h) (fun r101 σ102 h => ?_)
  refine zz_if_ne (y0 := 0) M 10 dX3_comparison_5 (by decide) (fun c => ?_) (fun c => ?_)
  · have h := zifn (c := r101 = 0) h c
    refine zz_aload_n M 0 dX3_comparison_10 rfl rfl ?_
    refine zz_getI M f_X3_28 tX_19 rfl dX3_comparison_11 ?_
    refine zz_bipush (v := 60) M dX3_comparison_14 (by decide) ?_
    refine zz_icmp_eq M 30 dX3_comparison_16 (by decide) (fun c => ?_) (fun c => ?_)
    · have h := zif (c := (σ102.1 19 5) = 60) h c
      refine zz_aload_n M 0 dX3_comparison_30 rfl rfl ?_
      refine zz_getI M f_X3_28 tX_19 rfl dX3_comparison_31 ?_
      refine zz_bipush (v := 60) M dX3_comparison_34 (by decide) ?_
      refine zz_icmp_ne M 44 dX3_comparison_36 (by decide) (fun c => ?_) (fun c => ?_)
      · have h := zifn (c := (σ102.1 19 5) = 60) h c
        refine zz_bipush (v := (-13)) M dX3_comparison_44 (by decide) ?_
        refine zz_istore_n M [(2, .int (-13)), (0, .ref (ad 19)), (1, .int x1)] dX3_comparison_46 rfl (by decide) rfl ?_
        refine zz_aload_n M 1 dX3_comparison_47 rfl rfl ?_
        refine zz_callVV (d' := 1) (As := []) (rest := []) M l_X3_59 tX_19 rfl rfl dX3_comparison_48 rfl rfl (by omega) (Nat.le_of_ble_eq_true rfl) (by have hI := M.2.2.2.2.2.2.2.2; exact kX3_advance hI   _ _ h) (fun σ104 h => ?_)
        refine zz_aload_n M 1 dX3_comparison_51 rfl rfl ?_
        refine zz_iload_n M 2 dX3_comparison_52 rfl rfl ?_
        refine zz_callVI (d' := dn + 6) (As := [.int x1]) (rest := []) M l_X3_153 tX_19 rfl rfl dX3_comparison_53 rfl rfl (by omega) (Nat.le_of_ble_eq_true rfl) (by have hI := M.2.2.2.2.2.2.2.2; exact hC4 _ _ _ h) (fun r105 σ106 h => ?_)
        refine zz_if_ne (y0 := 0) M 61 dX3_comparison_56 (by decide) (fun c => ?_) (fun c => ?_)
        · have h := zifn (c := r105 = 0) h c
          refine zz_aload_n M 1 dX3_comparison_61 rfl rfl ?_
          have hq107 := h.1
          refine zz_getD (b := 43) M f_X3_37 tX_19 rfl hq107 dX3_comparison_62 ?_
          have h := h.2
          refine zz_iload_n M 0 dX3_comparison_65 rfl rfl ?_
          refine zz_callVV (d' := 1) (As := [.int (-13)]) (rest := []) M l_X3_144 (tX_Text (zclt hq107)) rfl rfl dX3_comparison_66 rfl rfl (by omega) (Nat.le_of_ble_eq_true rfl) (by have hI := M.2.2.2.2.2.2.2.2; exact kX6_put hI _ _ (zclt hq107) _ _ h) (fun σ109 h => ?_)
          refine zz_iconst (v := 1) M dX3_comparison_69 (by decide) ?_
          exact zz_zret M dX3_comparison_70 (Or.inr rfl) h
        · have h := zif (c := r105 = 0) h c
          refine zz_iconst (v := 0) M dX3_comparison_59 (by decide) ?_
          exact zz_zret M dX3_comparison_60 (Or.inl rfl) h
      · have h := zif (c := (σ102.1 19 5) = 60) h c
        refine zz_bipush (v := (-12)) M dX3_comparison_39 (by decide) ?_
        refine zz_goto M 46 dX3_comparison_41 (by decide) ?_
        refine zz_istore_n M [(2, .int (-12)), (0, .ref (ad 19)), (1, .int x1)] dX3_comparison_46 rfl (by decide) rfl ?_
        refine zz_aload_n M 1 dX3_comparison_47 rfl rfl ?_
        refine zz_callVV (d' := 1) (As := []) (rest := []) M l_X3_59 tX_19 rfl rfl dX3_comparison_48 rfl rfl (by omega) (Nat.le_of_ble_eq_true rfl) (by have hI := M.2.2.2.2.2.2.2.2; exact kX3_advance hI   _ _ h) (fun σ111 h => ?_)
        refine zz_aload_n M 1 dX3_comparison_51 rfl rfl ?_
        refine zz_iload_n M 2 dX3_comparison_52 rfl rfl ?_
        refine zz_callVI (d' := dn + 6) (As := [.int x1]) (rest := []) M l_X3_153 tX_19 rfl rfl dX3_comparison_53 rfl rfl (by omega) (Nat.le_of_ble_eq_true rfl) (by have hI := M.2.2.2.2.2.2.2.2; exact hC4 _ _ _ h) (fun r112 σ113 h => ?_)
        refine zz_if_ne (y0 := 0) M 61 dX3_comparison_56 (by decide) (fun c => ?_) (fun c => ?_)
        · have h := zifn (c := r112 = 0) h c
          refine zz_aload_n M 1 dX3_comparison_61 rfl rfl ?_
          have hq114 := h.1
          refine zz_getD (b := 43) M f_X3_37 tX_19 rfl hq114 dX3_comparison_62 ?_
          have h := h.2
          refine zz_iload_n M 0 dX3_comparison_65 rfl rfl ?_
          refine zz_callVV (d' := 1) (As := [.int (-12)]) (rest := []) M l_X3_144 (tX_Text (zclt hq114)) rfl rfl dX3_comparison_66 rfl rfl (by omega) (Nat.le_of_ble_eq_true rfl) (by have hI := M.2.2.2.2.2.2.2.2; exact kX6_put hI _ _ (zclt hq114) _ _ h) (fun σ116 h => ?_)
          refine zz_iconst (v := 1) M dX3_comparison_69 (by decide) ?_
          exact zz_zret M dX3_comparison_70 (Or.inr rfl) h
        · have h := zif (c := r112 = 0) h c
          refine zz_iconst (v := 0) M dX3_comparison_59 (by decide) ?_
          exact zz_zret M dX3_comparison_60 (Or.inl rfl) h
    · have h := zifn (c := (σ102.1 19 5) = 60) h c
      refine zz_aload_n M 0 dX3_comparison_19 rfl rfl ?_
      refine zz_getI M f_X3_28 tX_19 rfl dX3_comparison_20 ?_
      refine zz_bipush (v := 61) M dX3_comparison_23 (by decide) ?_
      refine zz_icmp_eq M 30 dX3_comparison_25 (by decide) (fun c => ?_) (fun c => ?_)
      · have h := zif (c := (σ102.1 19 5) = 61) h c
        refine zz_aload_n M 0 dX3_comparison_30 rfl rfl ?_
        refine zz_getI M f_X3_28 tX_19 rfl dX3_comparison_31 ?_
        refine zz_bipush (v := 60) M dX3_comparison_34 (by decide) ?_
        refine zz_icmp_ne M 44 dX3_comparison_36 (by decide) (fun c => ?_) (fun c => ?_)
        · have h := zifn (c := (σ102.1 19 5) = 60) h c
          refine zz_bipush (v := (-13)) M dX3_comparison_44 (by decide) ?_
          refine zz_istore_n M [(2, .int (-13)), (0, .ref (ad 19)), (1, .int x1)] dX3_comparison_46 rfl (by decide) rfl ?_
          refine zz_aload_n M 1 dX3_comparison_47 rfl rfl ?_
          refine zz_callVV (d' := 1) (As := []) (rest := []) M l_X3_59 tX_19 rfl rfl dX3_comparison_48 rfl rfl (by omega) (Nat.le_of_ble_eq_true rfl) (by have hI := M.2.2.2.2.2.2.2.2; exact kX3_advance hI   _ _ h) (fun σ118 h => ?_)
          refine zz_aload_n M 1 dX3_comparison_51 rfl rfl ?_
          refine zz_iload_n M 2 dX3_comparison_52 rfl rfl ?_
          refine zz_callVI (d' := dn + 6) (As := [.int x1]) (rest := []) M l_X3_153 tX_19 rfl rfl dX3_comparison_53 rfl rfl (by omega) (Nat.le_of_ble_eq_true rfl) (by have hI := M.2.2.2.2.2.2.2.2; exact hC4 _ _ _ h) (fun r119 σ120 h => ?_)
          refine zz_if_ne (y0 := 0) M 61 dX3_comparison_56 (by decide) (fun c => ?_) (fun c => ?_)
          · have h := zifn (c := r119 = 0) h c
            refine zz_aload_n M 1 dX3_comparison_61 rfl rfl ?_
            have hq121 := h.1
            refine zz_getD (b := 43) M f_X3_37 tX_19 rfl hq121 dX3_comparison_62 ?_
            have h := h.2
            refine zz_iload_n M 0 dX3_comparison_65 rfl rfl ?_
            refine zz_callVV (d' := 1) (As := [.int (-13)]) (rest := []) M l_X3_144 (tX_Text (zclt hq121)) rfl rfl dX3_comparison_66 rfl rfl (by omega) (Nat.le_of_ble_eq_true rfl) (by have hI := M.2.2.2.2.2.2.2.2; exact kX6_put hI _ _ (zclt hq121) _ _ h) (fun σ123 h => ?_)
            refine zz_iconst (v := 1) M dX3_comparison_69 (by decide) ?_
            exact zz_zret M dX3_comparison_70 (Or.inr rfl) h
          · have h := zif (c := r119 = 0) h c
            refine zz_iconst (v := 0) M dX3_comparison_59 (by decide) ?_
            exact zz_zret M dX3_comparison_60 (Or.inl rfl) h
        · have h := zif (c := (σ102.1 19 5) = 60) h c
          refine zz_bipush (v := (-12)) M dX3_comparison_39 (by decide) ?_
          refine zz_goto M 46 dX3_comparison_41 (by decide) ?_
          refine zz_istore_n M [(2, .int (-12)), (0, .ref (ad 19)), (1, .int x1)] dX3_comparison_46 rfl (by decide) rfl ?_
          refine zz_aload_n M 1 dX3_comparison_47 rfl rfl ?_
          refine zz_callVV (d' := 1) (As := []) (rest := []) M l_X3_59 tX_19 rfl rfl dX3_comparison_48 rfl rfl (by omega) (Nat.le_of_ble_eq_true rfl) (by have hI := M.2.2.2.2.2.2.2.2; exact kX3_advance hI   _ _ h) (fun σ125 h => ?_)
          refine zz_aload_n M 1 dX3_comparison_51 rfl rfl ?_
          refine zz_iload_n M 2 dX3_comparison_52 rfl rfl ?_
          refine zz_callVI (d' := dn + 6) (As := [.int x1]) (rest := []) M l_X3_153 tX_19 rfl rfl dX3_comparison_53 rfl rfl (by omega) (Nat.le_of_ble_eq_true rfl) (by have hI := M.2.2.2.2.2.2.2.2; exact hC4 _ _ _ h) (fun r126 σ127 h => ?_)
          refine zz_if_ne (y0 := 0) M 61 dX3_comparison_56 (by decide) (fun c => ?_) (fun c => ?_)
          · have h := zifn (c := r126 = 0) h c
            refine zz_aload_n M 1 dX3_comparison_61 rfl rfl ?_
            have hq128 := h.1
            refine zz_getD (b := 43) M f_X3_37 tX_19 rfl hq128 dX3_comparison_62 ?_
            have h := h.2
            refine zz_iload_n M 0 dX3_comparison_65 rfl rfl ?_
            refine zz_callVV (d' := 1) (As := [.int (-12)]) (rest := []) M l_X3_144 (tX_Text (zclt hq128)) rfl rfl dX3_comparison_66 rfl rfl (by omega) (Nat.le_of_ble_eq_true rfl) (by have hI := M.2.2.2.2.2.2.2.2; exact kX6_put hI _ _ (zclt hq128) _ _ h) (fun σ130 h => ?_)
            refine zz_iconst (v := 1) M dX3_comparison_69 (by decide) ?_
            exact zz_zret M dX3_comparison_70 (Or.inr rfl) h
          · have h := zif (c := r126 = 0) h c
            refine zz_iconst (v := 0) M dX3_comparison_59 (by decide) ?_
            exact zz_zret M dX3_comparison_60 (Or.inl rfl) h
      · have h := zifn (c := (σ102.1 19 5) = 61) h c
        refine zz_iconst (v := 1) M dX3_comparison_28 (by decide) ?_
        exact zz_zret M dX3_comparison_29 (Or.inr rfl) h
  · have h := zif (c := r101 = 0) h c
    refine zz_iconst (v := 0) M dX3_comparison_8 (by decide) ?_
    exact zz_zret M dX3_comparison_9 (Or.inl rfl) h
def wX3_sum_L12 (C : Nat → Int32 → zSt → (Int32 → zSt → Prop) → Prop) (Q : Int32 → zSt → Prop) (K66 : zSt → Prop) (K82 : zSt → Prop) (x1 : Int32) : Nat → Int32 → zSt → Prop
  | 0, _, _ => False
  | n + 1, x2, σ => if 160 ≤ x2 then (K82  σ) else (if (σ.1 19 5) = 43 then (if (σ.1 19 5) = 43 then (wX3_advance  σ (fun σ112 => C 5 x1 σ112 (fun r113 σ114 => if r113 = 0 then (K66  σ114) else (vp_in (σ114.1 19 8) 6 ∧ (wX6_put ((σ114.1 19 8).toNatClampNeg) (-9) σ114 (fun σ117 => ∀ x118 : Int32, x118 = x2 + 1 → (wX3_sum_L12 C Q K66 K82 x1 n x118 σ117))))))) else (wX3_advance  σ (fun σ104 => C 5 x1 σ104 (fun r105 σ106 => if r105 = 0 then (K66  σ106) else (vp_in (σ106.1 19 8) 6 ∧ (wX6_put ((σ106.1 19 8).toNatClampNeg) (-10) σ106 (fun σ109 => ∀ x110 : Int32, x110 = x2 + 1 → (wX3_sum_L12 C Q K66 K82 x1 n x110 σ109)))))))) else (if (σ.1 19 5) = 45 then (if (σ.1 19 5) = 43 then (wX3_advance  σ (fun σ128 => C 5 x1 σ128 (fun r129 σ130 => if r129 = 0 then (K66  σ130) else (vp_in (σ130.1 19 8) 6 ∧ (wX6_put ((σ130.1 19 8).toNatClampNeg) (-9) σ130 (fun σ133 => ∀ x134 : Int32, x134 = x2 + 1 → (wX3_sum_L12 C Q K66 K82 x1 n x134 σ133))))))) else (wX3_advance  σ (fun σ120 => C 5 x1 σ120 (fun r121 σ122 => if r121 = 0 then (K66  σ122) else (vp_in (σ122.1 19 8) 6 ∧ (wX6_put ((σ122.1 19 8).toNatClampNeg) (-10) σ122 (fun σ125 => ∀ x126 : Int32, x126 = x2 + 1 → (wX3_sum_L12 C Q K66 K82 x1 n x126 σ125)))))))) else (K82  σ)))
set_option maxRecDepth 20000 in
set_option maxHeartbeats 4000000 in
theorem sX3_sum_L12 (C : Nat → Int32 → zSt → (Int32 → zSt → Prop) → Prop) {Q : Int32 → zSt → Prop} {K66 : zSt → Prop} {K82 : zSt → Prop} (x1 : Int32) (dn : Nat) (hC0 : ∀ x σ Q, C 0 x σ Q → zOkI l tabX D cA ad y (dn + 6) yX3_either cX3_either 3 (some .boolean) [.ref (ad 19), .int x] σ Q) (hC1 : ∀ x σ Q, C 1 x σ Q → zOkI l tabX D cA ad y (dn + 6) yX3_both cX3_both 3 (some .boolean) [.ref (ad 19), .int x] σ Q) (hC2 : ∀ x σ Q, C 2 x σ Q → zOkI l tabX D cA ad y (dn + 6) yX3_maybeNot cX3_maybeNot 2 (some .boolean) [.ref (ad 19), .int x] σ Q) (hC3 : ∀ x σ Q, C 3 x σ Q → zOkI l tabX D cA ad y (dn + 6) yX3_comparison cX3_comparison 3 (some .boolean) [.ref (ad 19), .int x] σ Q) (hC4 : ∀ x σ Q, C 4 x σ Q → zOkI l tabX D cA ad y (dn + 6) yX3_sum cX3_sum 4 (some .boolean) [.ref (ad 19), .int x] σ Q) (hC5 : ∀ x σ Q, C 5 x σ Q → zOkI l tabX D cA ad y (dn + 6) yX3_term cX3_term 3 (some .boolean) [.ref (ad 19), .int x] σ Q) (hC6 : ∀ x σ Q, C 6 x σ Q → zOkI l tabX D cA ad y (dn + 6) yX3_one cX3_one 2 (some .boolean) [.ref (ad 19), .int x] σ Q)  (M : zM p s m args meth c cX3_sum 4 RX3 (some .boolean) tabX D cA ad y) (hK66 : ∀ (σ : zSt), K66  σ → zG p l e (zrm (dn + 7)) s m args below meth c 4 tabX D cA ad (MQ below (va_Qi Q (fun σ' t => va_P D vwCl (zws tabX cA ad σ') t.heap) (zIn tabX ad)) args s 0 0 (zIn tabX ad)) 66 [] [] σ) (hK82 : ∀ (σ : zSt), K82  σ → zG p l e (zrm (dn + 7)) s m args below meth c 4 tabX D cA ad (MQ below (va_Qi Q (fun σ' t => va_P D vwCl (zws tabX cA ad σ') t.heap) (zIn tabX ad)) args s 0 0 (zIn tabX ad)) 82 [] [] σ) : ∀ (n : Nat) (x2 : Int32) (σ : zSt), wX3_sum_L12 C Q K66 K82 x1 n x2 σ → zG p l e (zrm (dn + 7)) s m args below meth c 4 tabX D cA ad (MQ below (va_Qi Q (fun σ' t => va_P D vwCl (zws tabX cA ad σ') t.heap) (zIn tabX ad)) args s 0 0 (zIn tabX ad)) 12 [(0, .ref (ad 19)), (1, .int x1), (2, .int x2)] [] σ := by
  intro n
  induction n with
  | zero => intro x2 σ h; exact absurd h (by simp [wX3_sum_L12])
  | succ n ih =>
    intro x2 σ h
    unfold wX3_sum_L12 at h
    refine zz_iload_n M 2 dX3_sum_12 rfl rfl ?_
    refine zz_sipush (v := 160) M dX3_sum_13 (by decide) ?_
    refine zz_icmp_ge M 82 dX3_sum_16 (by decide) (fun c => ?_) (fun c => ?_)
    · have h := zif (c := 160 ≤ x2) h c
      refine zz_sub [] [] rfl ?_
      exact hK82  _ h
    · have h := zifn (c := 160 ≤ x2) h c
      refine zz_aload_n M 0 dX3_sum_19 rfl rfl ?_
      refine zz_getI M f_X3_28 tX_19 rfl dX3_sum_20 ?_
      refine zz_bipush (v := 43) M dX3_sum_23 (by decide) ?_
      refine zz_icmp_eq M 37 dX3_sum_25 (by decide) (fun c => ?_) (fun c => ?_)
      · have h := zif (c := (σ.1 19 5) = 43) h c
        refine zz_aload_n M 0 dX3_sum_37 rfl rfl ?_
        refine zz_getI M f_X3_28 tX_19 rfl dX3_sum_38 ?_
        refine zz_bipush (v := 43) M dX3_sum_41 (by decide) ?_
        refine zz_icmp_ne M 51 dX3_sum_43 (by decide) (fun c => ?_) (fun c => ?_)
        · have h := zifn (c := (σ.1 19 5) = 43) h c
          refine zz_bipush (v := (-10)) M dX3_sum_51 (by decide) ?_
          refine zz_istore_n M [(3, .int (-10)), (0, .ref (ad 19)), (1, .int x1), (2, .int x2)] dX3_sum_53 rfl (by decide) rfl ?_
          refine zz_aload_n M 1 dX3_sum_54 rfl rfl ?_
          refine zz_callVV (d' := 1) (As := []) (rest := []) M l_X3_59 tX_19 rfl rfl dX3_sum_55 rfl rfl (by omega) (Nat.le_of_ble_eq_true rfl) (by have hI := M.2.2.2.2.2.2.2.2; exact kX3_advance hI   _ _ h) (fun σ104 h => ?_)
          refine zz_aload_n M 1 dX3_sum_58 rfl rfl ?_
          refine zz_iload_n M 2 dX3_sum_59 rfl rfl ?_
          refine zz_callVI (d' := dn + 6) (As := [.int x1]) (rest := []) M l_X3_156 tX_19 rfl rfl dX3_sum_60 rfl rfl (by omega) (Nat.le_of_ble_eq_true rfl) (by have hI := M.2.2.2.2.2.2.2.2; exact hC5 _ _ _ h) (fun r105 σ106 h => ?_)
          refine zz_if_ne (y0 := 0) M 68 dX3_sum_63 (by decide) (fun c => ?_) (fun c => ?_)
          · have h := zifn (c := r105 = 0) h c
            refine zz_aload_n M 1 dX3_sum_68 rfl rfl ?_
            have hq107 := h.1
            refine zz_getD (b := 43) M f_X3_37 tX_19 rfl hq107 dX3_sum_69 ?_
            have h := h.2
            refine zz_iload_n M 0 dX3_sum_72 rfl rfl ?_
            refine zz_callVV (d' := 1) (As := [.int (-10)]) (rest := []) M l_X3_144 (tX_Text (zclt hq107)) rfl rfl dX3_sum_73 rfl rfl (by omega) (Nat.le_of_ble_eq_true rfl) (by have hI := M.2.2.2.2.2.2.2.2; exact kX6_put hI _ _ (zclt hq107) _ _ h) (fun σ109 h => ?_)
            obtain ⟨x110, ex110⟩ : ∃ z : Int32, z = x2 + 1 := ⟨_, rfl⟩
            have h := h x110 ex110
            refine zz_iinc M [(2, .int x110), (3, .int (-10)), (0, .ref (ad 19)), (1, .int x1)] 3 dX3_sum_76 rfl (n32 := 1) (by decide) ex110 (by decide) rfl ?_
            refine zz_goto M 12 dX3_sum_79 (by decide) ?_
            refine zz_sub [(0, .ref (ad 19)), (1, .int x1), (2, .int x110)] [2, 3, 0] rfl ?_
            exact ih _ _ h
          · have h := zif (c := r105 = 0) h c
            refine zz_sub [] [] rfl ?_
            exact hK66  _ h
        · have h := zif (c := (σ.1 19 5) = 43) h c
          refine zz_bipush (v := (-9)) M dX3_sum_46 (by decide) ?_
          refine zz_goto M 53 dX3_sum_48 (by decide) ?_
          refine zz_istore_n M [(3, .int (-9)), (0, .ref (ad 19)), (1, .int x1), (2, .int x2)] dX3_sum_53 rfl (by decide) rfl ?_
          refine zz_aload_n M 1 dX3_sum_54 rfl rfl ?_
          refine zz_callVV (d' := 1) (As := []) (rest := []) M l_X3_59 tX_19 rfl rfl dX3_sum_55 rfl rfl (by omega) (Nat.le_of_ble_eq_true rfl) (by have hI := M.2.2.2.2.2.2.2.2; exact kX3_advance hI   _ _ h) (fun σ112 h => ?_)
          refine zz_aload_n M 1 dX3_sum_58 rfl rfl ?_
          refine zz_iload_n M 2 dX3_sum_59 rfl rfl ?_
          refine zz_callVI (d' := dn + 6) (As := [.int x1]) (rest := []) M l_X3_156 tX_19 rfl rfl dX3_sum_60 rfl rfl (by omega) (Nat.le_of_ble_eq_true rfl) (by have hI := M.2.2.2.2.2.2.2.2; exact hC5 _ _ _ h) (fun r113 σ114 h => ?_)
          refine zz_if_ne (y0 := 0) M 68 dX3_sum_63 (by decide) (fun c => ?_) (fun c => ?_)
          · have h := zifn (c := r113 = 0) h c
            refine zz_aload_n M 1 dX3_sum_68 rfl rfl ?_
            have hq115 := h.1
            refine zz_getD (b := 43) M f_X3_37 tX_19 rfl hq115 dX3_sum_69 ?_
            have h := h.2
            refine zz_iload_n M 0 dX3_sum_72 rfl rfl ?_
            refine zz_callVV (d' := 1) (As := [.int (-9)]) (rest := []) M l_X3_144 (tX_Text (zclt hq115)) rfl rfl dX3_sum_73 rfl rfl (by omega) (Nat.le_of_ble_eq_true rfl) (by have hI := M.2.2.2.2.2.2.2.2; exact kX6_put hI _ _ (zclt hq115) _ _ h) (fun σ117 h => ?_)
            obtain ⟨x118, ex118⟩ : ∃ z : Int32, z = x2 + 1 := ⟨_, rfl⟩
            have h := h x118 ex118
            refine zz_iinc M [(2, .int x118), (3, .int (-9)), (0, .ref (ad 19)), (1, .int x1)] 3 dX3_sum_76 rfl (n32 := 1) (by decide) ex118 (by decide) rfl ?_
            refine zz_goto M 12 dX3_sum_79 (by decide) ?_
            refine zz_sub [(0, .ref (ad 19)), (1, .int x1), (2, .int x118)] [2, 3, 0] rfl ?_
            exact ih _ _ h
          · have h := zif (c := r113 = 0) h c
            refine zz_sub [] [] rfl ?_
            exact hK66  _ h
      · have h := zifn (c := (σ.1 19 5) = 43) h c
        refine zz_aload_n M 0 dX3_sum_28 rfl rfl ?_
        refine zz_getI M f_X3_28 tX_19 rfl dX3_sum_29 ?_
        refine zz_bipush (v := 45) M dX3_sum_32 (by decide) ?_
        refine zz_icmp_ne M 82 dX3_sum_34 (by decide) (fun c => ?_) (fun c => ?_)
        · have h := zifn (c := (σ.1 19 5) = 45) h c
          refine zz_sub [] [] rfl ?_
          exact hK82  _ h
        · have h := zif (c := (σ.1 19 5) = 45) h c
          refine zz_aload_n M 0 dX3_sum_37 rfl rfl ?_
          refine zz_getI M f_X3_28 tX_19 rfl dX3_sum_38 ?_
          refine zz_bipush (v := 43) M dX3_sum_41 (by decide) ?_
          refine zz_icmp_ne M 51 dX3_sum_43 (by decide) (fun c => ?_) (fun c => ?_)
          · have h := zifn (c := (σ.1 19 5) = 43) h c
            refine zz_bipush (v := (-10)) M dX3_sum_51 (by decide) ?_
            refine zz_istore_n M [(3, .int (-10)), (0, .ref (ad 19)), (1, .int x1), (2, .int x2)] dX3_sum_53 rfl (by decide) rfl ?_
            refine zz_aload_n M 1 dX3_sum_54 rfl rfl ?_
            refine zz_callVV (d' := 1) (As := []) (rest := []) M l_X3_59 tX_19 rfl rfl dX3_sum_55 rfl rfl (by omega) (Nat.le_of_ble_eq_true rfl) (by have hI := M.2.2.2.2.2.2.2.2; exact kX3_advance hI   _ _ h) (fun σ120 h => ?_)
            refine zz_aload_n M 1 dX3_sum_58 rfl rfl ?_
            refine zz_iload_n M 2 dX3_sum_59 rfl rfl ?_
            refine zz_callVI (d' := dn + 6) (As := [.int x1]) (rest := []) M l_X3_156 tX_19 rfl rfl dX3_sum_60 rfl rfl (by omega) (Nat.le_of_ble_eq_true rfl) (by have hI := M.2.2.2.2.2.2.2.2; exact hC5 _ _ _ h) (fun r121 σ122 h => ?_)
            refine zz_if_ne (y0 := 0) M 68 dX3_sum_63 (by decide) (fun c => ?_) (fun c => ?_)
            · have h := zifn (c := r121 = 0) h c
              refine zz_aload_n M 1 dX3_sum_68 rfl rfl ?_
              have hq123 := h.1
              refine zz_getD (b := 43) M f_X3_37 tX_19 rfl hq123 dX3_sum_69 ?_
              have h := h.2
              refine zz_iload_n M 0 dX3_sum_72 rfl rfl ?_
              refine zz_callVV (d' := 1) (As := [.int (-10)]) (rest := []) M l_X3_144 (tX_Text (zclt hq123)) rfl rfl dX3_sum_73 rfl rfl (by omega) (Nat.le_of_ble_eq_true rfl) (by have hI := M.2.2.2.2.2.2.2.2; exact kX6_put hI _ _ (zclt hq123) _ _ h) (fun σ125 h => ?_)
              obtain ⟨x126, ex126⟩ : ∃ z : Int32, z = x2 + 1 := ⟨_, rfl⟩
              have h := h x126 ex126
              refine zz_iinc M [(2, .int x126), (3, .int (-10)), (0, .ref (ad 19)), (1, .int x1)] 3 dX3_sum_76 rfl (n32 := 1) (by decide) ex126 (by decide) rfl ?_
              refine zz_goto M 12 dX3_sum_79 (by decide) ?_
              refine zz_sub [(0, .ref (ad 19)), (1, .int x1), (2, .int x126)] [2, 3, 0] rfl ?_
              exact ih _ _ h
            · have h := zif (c := r121 = 0) h c
              refine zz_sub [] [] rfl ?_
              exact hK66  _ h
          · have h := zif (c := (σ.1 19 5) = 43) h c
            refine zz_bipush (v := (-9)) M dX3_sum_46 (by decide) ?_
            refine zz_goto M 53 dX3_sum_48 (by decide) ?_
            refine zz_istore_n M [(3, .int (-9)), (0, .ref (ad 19)), (1, .int x1), (2, .int x2)] dX3_sum_53 rfl (by decide) rfl ?_
            refine zz_aload_n M 1 dX3_sum_54 rfl rfl ?_
            refine zz_callVV (d' := 1) (As := []) (rest := []) M l_X3_59 tX_19 rfl rfl dX3_sum_55 rfl rfl (by omega) (Nat.le_of_ble_eq_true rfl) (by have hI := M.2.2.2.2.2.2.2.2; exact kX3_advance hI   _ _ h) (fun σ128 h => ?_)
            refine zz_aload_n M 1 dX3_sum_58 rfl rfl ?_
            refine zz_iload_n M 2 dX3_sum_59 rfl rfl ?_
            refine zz_callVI (d' := dn + 6) (As := [.int x1]) (rest := []) M l_X3_156 tX_19 rfl rfl dX3_sum_60 rfl rfl (by omega) (Nat.le_of_ble_eq_true rfl) (by have hI := M.2.2.2.2.2.2.2.2; exact hC5 _ _ _ h) (fun r129 σ130 h => ?_)
            refine zz_if_ne (y0 := 0) M 68 dX3_sum_63 (by decide) (fun c => ?_) (fun c => ?_)
            · have h := zifn (c := r129 = 0) h c
              refine zz_aload_n M 1 dX3_sum_68 rfl rfl ?_
              have hq131 := h.1
              refine zz_getD (b := 43) M f_X3_37 tX_19 rfl hq131 dX3_sum_69 ?_
              have h := h.2
              refine zz_iload_n M 0 dX3_sum_72 rfl rfl ?_
              refine zz_callVV (d' := 1) (As := [.int (-9)]) (rest := []) M l_X3_144 (tX_Text (zclt hq131)) rfl rfl dX3_sum_73 rfl rfl (by omega) (Nat.le_of_ble_eq_true rfl) (by have hI := M.2.2.2.2.2.2.2.2; exact kX6_put hI _ _ (zclt hq131) _ _ h) (fun σ133 h => ?_)
              obtain ⟨x134, ex134⟩ : ∃ z : Int32, z = x2 + 1 := ⟨_, rfl⟩
              have h := h x134 ex134
              refine zz_iinc M [(2, .int x134), (3, .int (-9)), (0, .ref (ad 19)), (1, .int x1)] 3 dX3_sum_76 rfl (n32 := 1) (by decide) ex134 (by decide) rfl ?_
              refine zz_goto M 12 dX3_sum_79 (by decide) ?_
              refine zz_sub [(0, .ref (ad 19)), (1, .int x1), (2, .int x134)] [2, 3, 0] rfl ?_
              exact ih _ _ h
            · have h := zif (c := r129 = 0) h c
              refine zz_sub [] [] rfl ?_
              exact hK66  _ h
def wX3_sum_b (C : Nat → Int32 → zSt → (Int32 → zSt → Prop) → Prop) (x1 : Int32) (σ : zSt) (Q : Int32 → zSt → Prop) : Prop := C 5 x1 σ (fun r101 σ102 => if r101 = 0 then (Q 0 σ102) else (wX3_sum_L12 C Q (fun  σ135 => Q 0 σ135) (fun  σ136 => Q 1 σ136) x1 300 0 σ102))
set_option maxRecDepth 20000 in
set_option maxHeartbeats 4000000 in
theorem kX3_sum_b (C : Nat → Int32 → zSt → (Int32 → zSt → Prop) → Prop) (hI : zInj tabX ad) (x1 : Int32)  (dn : Nat) (hC0 : ∀ x σ Q, C 0 x σ Q → zOkI l tabX D cA ad y (dn + 6) yX3_either cX3_either 3 (some .boolean) [.ref (ad 19), .int x] σ Q) (hC1 : ∀ x σ Q, C 1 x σ Q → zOkI l tabX D cA ad y (dn + 6) yX3_both cX3_both 3 (some .boolean) [.ref (ad 19), .int x] σ Q) (hC2 : ∀ x σ Q, C 2 x σ Q → zOkI l tabX D cA ad y (dn + 6) yX3_maybeNot cX3_maybeNot 2 (some .boolean) [.ref (ad 19), .int x] σ Q) (hC3 : ∀ x σ Q, C 3 x σ Q → zOkI l tabX D cA ad y (dn + 6) yX3_comparison cX3_comparison 3 (some .boolean) [.ref (ad 19), .int x] σ Q) (hC4 : ∀ x σ Q, C 4 x σ Q → zOkI l tabX D cA ad y (dn + 6) yX3_sum cX3_sum 4 (some .boolean) [.ref (ad 19), .int x] σ Q) (hC5 : ∀ x σ Q, C 5 x σ Q → zOkI l tabX D cA ad y (dn + 6) yX3_term cX3_term 3 (some .boolean) [.ref (ad 19), .int x] σ Q) (hC6 : ∀ x σ Q, C 6 x σ Q → zOkI l tabX D cA ad y (dn + 6) yX3_one cX3_one 2 (some .boolean) [.ref (ad 19), .int x] σ Q) (σ : zSt) (Q : Int32 → zSt → Prop) (h : wX3_sum_b C x1 σ Q) : zOkI l tabX D cA ad y (dn + 7) yX3_sum cX3_sum 4 (some .boolean) [.ref (ad 19), .int x1] σ Q := by
  refine zz_enter hI (by decide) (Nat.le_of_ble_eq_true rfl) (fun p e s m below meth c M => ?_)
  have M : zM p s m _ meth c cX3_sum 4 RX3 (some .boolean) tabX D cA ad y := M
  refine zz_ls [(0, .ref (ad 19)), (1, .int x1)] rfl ?_
  unfold wX3_sum_b at h
  refine zz_aload_n M 0 dX3_sum_0 rfl rfl ?_
  refine zz_iload_n M 1 dX3_sum_1 rfl rfl ?_
  refine zz_callVI (d' := dn + 6) (As := [.int x1]) (rest := []) M l_X3_156 tX_19 rfl rfl dX3_sum_2 rfl rfl (by omega) (Nat.le_of_ble_eq_true rfl) (by have hI := M.2.2.2.2.2.2.2.2; exact hC5 _ _ _ h) (fun r101 σ102 h => ?_)
  refine zz_if_ne (y0 := 0) M 10 dX3_sum_5 (by decide) (fun c => ?_) (fun c => ?_)
  · have h := zifn (c := r101 = 0) h c
    refine zz_iconst (v := 0) M dX3_sum_10 (by decide) ?_
    refine zz_istore_n M [(2, .int 0), (0, .ref (ad 19)), (1, .int x1)] dX3_sum_11 rfl (by decide) rfl ?_
    refine zz_sub [(0, .ref (ad 19)), (1, .int x1), (2, .int 0)] [1, 2, 0] rfl ?_
    refine sX3_sum_L12 C x1  dn hC0 hC1 hC2 hC3 hC4 hC5 hC6 M (fun  σ135 h => ?_) (fun  σ136 h => ?_) 300 _ _ h
    · refine zz_iconst (v := 0) M dX3_sum_66 (by decide) ?_
      exact zz_zret M dX3_sum_67 (Or.inl rfl) h
    · refine zz_iconst (v := 1) M dX3_sum_82 (by decide) ?_
      exact zz_zret M dX3_sum_83 (Or.inr rfl) h
  · have h := zif (c := r101 = 0) h c
    refine zz_iconst (v := 0) M dX3_sum_8 (by decide) ?_
    exact zz_zret M dX3_sum_9 (Or.inl rfl) h
def wX3_term_L12 (C : Nat → Int32 → zSt → (Int32 → zSt → Prop) → Prop) (Q : Int32 → zSt → Prop) (K40 : zSt → Prop) (K57 : zSt → Prop) (x1 : Int32) : Nat → Int32 → zSt → Prop
  | 0, _, _ => False
  | n + 1, x2, σ => if 160 ≤ x2 then (K57  σ) else (if (σ.1 19 5) = 42 then (wX3_advance  σ (fun σ104 => C 6 x1 σ104 (fun r105 σ106 => if r105 = 0 then (K40  σ106) else (vp_in (σ106.1 19 8) 6 ∧ (wX6_put ((σ106.1 19 8).toNatClampNeg) (-11) σ106 (fun σ109 => ∀ x110 : Int32, x110 = x2 + 1 → (wX3_term_L12 C Q K40 K57 x1 n x110 σ109))))))) else (K57  σ))
set_option maxRecDepth 20000 in
set_option maxHeartbeats 4000000 in
theorem sX3_term_L12 (C : Nat → Int32 → zSt → (Int32 → zSt → Prop) → Prop) {Q : Int32 → zSt → Prop} {K40 : zSt → Prop} {K57 : zSt → Prop} (x1 : Int32) (dn : Nat) (hC0 : ∀ x σ Q, C 0 x σ Q → zOkI l tabX D cA ad y (dn + 6) yX3_either cX3_either 3 (some .boolean) [.ref (ad 19), .int x] σ Q) (hC1 : ∀ x σ Q, C 1 x σ Q → zOkI l tabX D cA ad y (dn + 6) yX3_both cX3_both 3 (some .boolean) [.ref (ad 19), .int x] σ Q) (hC2 : ∀ x σ Q, C 2 x σ Q → zOkI l tabX D cA ad y (dn + 6) yX3_maybeNot cX3_maybeNot 2 (some .boolean) [.ref (ad 19), .int x] σ Q) (hC3 : ∀ x σ Q, C 3 x σ Q → zOkI l tabX D cA ad y (dn + 6) yX3_comparison cX3_comparison 3 (some .boolean) [.ref (ad 19), .int x] σ Q) (hC4 : ∀ x σ Q, C 4 x σ Q → zOkI l tabX D cA ad y (dn + 6) yX3_sum cX3_sum 4 (some .boolean) [.ref (ad 19), .int x] σ Q) (hC5 : ∀ x σ Q, C 5 x σ Q → zOkI l tabX D cA ad y (dn + 6) yX3_term cX3_term 3 (some .boolean) [.ref (ad 19), .int x] σ Q) (hC6 : ∀ x σ Q, C 6 x σ Q → zOkI l tabX D cA ad y (dn + 6) yX3_one cX3_one 2 (some .boolean) [.ref (ad 19), .int x] σ Q)  (M : zM p s m args meth c cX3_term 3 RX3 (some .boolean) tabX D cA ad y) (hK40 : ∀ (σ : zSt), K40  σ → zG p l e (zrm (dn + 7)) s m args below meth c 3 tabX D cA ad (MQ below (va_Qi Q (fun σ' t => va_P D vwCl (zws tabX cA ad σ') t.heap) (zIn tabX ad)) args s 0 0 (zIn tabX ad)) 40 [] [] σ) (hK57 : ∀ (σ : zSt), K57  σ → zG p l e (zrm (dn + 7)) s m args below meth c 3 tabX D cA ad (MQ below (va_Qi Q (fun σ' t => va_P D vwCl (zws tabX cA ad σ') t.heap) (zIn tabX ad)) args s 0 0 (zIn tabX ad)) 57 [] [] σ) : ∀ (n : Nat) (x2 : Int32) (σ : zSt), wX3_term_L12 C Q K40 K57 x1 n x2 σ → zG p l e (zrm (dn + 7)) s m args below meth c 3 tabX D cA ad (MQ below (va_Qi Q (fun σ' t => va_P D vwCl (zws tabX cA ad σ') t.heap) (zIn tabX ad)) args s 0 0 (zIn tabX ad)) 12 [(0, .ref (ad 19)), (1, .int x1), (2, .int x2)] [] σ := by
  intro n
  induction n with
  | zero => intro x2 σ h; exact absurd h (by simp [wX3_term_L12])
  | succ n ih =>
    intro x2 σ h
    unfold wX3_term_L12 at h
    refine zz_iload_n M 2 dX3_term_12 rfl rfl ?_
    refine zz_sipush (v := 160) M dX3_term_13 (by decide) ?_
    refine zz_icmp_ge M 57 dX3_term_16 (by decide) (fun c => ?_) (fun c => ?_)
    · have h := zif (c := 160 ≤ x2) h c
      refine zz_sub [] [] rfl ?_
      exact hK57  _ h
    · have h := zifn (c := 160 ≤ x2) h c
      refine zz_aload_n M 0 dX3_term_19 rfl rfl ?_
      refine zz_getI M f_X3_28 tX_19 rfl dX3_term_20 ?_
      refine zz_bipush (v := 42) M dX3_term_23 (by decide) ?_
      refine zz_icmp_ne M 57 dX3_term_25 (by decide) (fun c => ?_) (fun c => ?_)
      · have h := zifn (c := (σ.1 19 5) = 42) h c
        refine zz_sub [] [] rfl ?_
        exact hK57  _ h
      · have h := zif (c := (σ.1 19 5) = 42) h c
        refine zz_aload_n M 0 dX3_term_28 rfl rfl ?_
        refine zz_callVV (d' := 1) (As := []) (rest := []) M l_X3_59 tX_19 rfl rfl dX3_term_29 rfl rfl (by omega) (Nat.le_of_ble_eq_true rfl) (by have hI := M.2.2.2.2.2.2.2.2; exact kX3_advance hI   _ _ h) (fun σ104 h => ?_)
        refine zz_aload_n M 0 dX3_term_32 rfl rfl ?_
        refine zz_iload_n M 1 dX3_term_33 rfl rfl ?_
        refine zz_callVI (d' := dn + 6) (As := [.int x1]) (rest := []) M l_X3_159 tX_19 rfl rfl dX3_term_34 rfl rfl (by omega) (Nat.le_of_ble_eq_true rfl) (by have hI := M.2.2.2.2.2.2.2.2; exact hC6 _ _ _ h) (fun r105 σ106 h => ?_)
        refine zz_if_ne (y0 := 0) M 42 dX3_term_37 (by decide) (fun c => ?_) (fun c => ?_)
        · have h := zifn (c := r105 = 0) h c
          refine zz_aload_n M 0 dX3_term_42 rfl rfl ?_
          have hq107 := h.1
          refine zz_getD (b := 43) M f_X3_37 tX_19 rfl hq107 dX3_term_43 ?_
          have h := h.2
          refine zz_bipush (v := (-11)) M dX3_term_46 (by decide) ?_
          refine zz_callVV (d' := 1) (As := [.int (-11)]) (rest := []) M l_X3_144 (tX_Text (zclt hq107)) rfl rfl dX3_term_48 rfl rfl (by omega) (Nat.le_of_ble_eq_true rfl) (by have hI := M.2.2.2.2.2.2.2.2; exact kX6_put hI _ _ (zclt hq107) _ _ h) (fun σ109 h => ?_)
          obtain ⟨x110, ex110⟩ : ∃ z : Int32, z = x2 + 1 := ⟨_, rfl⟩
          have h := h x110 ex110
          refine zz_iinc M [(2, .int x110), (0, .ref (ad 19)), (1, .int x1)] 2 dX3_term_51 rfl (n32 := 1) (by decide) ex110 (by decide) rfl ?_
          refine zz_goto M 12 dX3_term_54 (by decide) ?_
          refine zz_sub [(0, .ref (ad 19)), (1, .int x1), (2, .int x110)] [1, 2, 0] rfl ?_
          exact ih _ _ h
        · have h := zif (c := r105 = 0) h c
          refine zz_sub [] [] rfl ?_
          exact hK40  _ h
def wX3_term_b (C : Nat → Int32 → zSt → (Int32 → zSt → Prop) → Prop) (x1 : Int32) (σ : zSt) (Q : Int32 → zSt → Prop) : Prop := C 6 x1 σ (fun r101 σ102 => if r101 = 0 then (Q 0 σ102) else (wX3_term_L12 C Q (fun  σ111 => Q 0 σ111) (fun  σ112 => Q 1 σ112) x1 300 0 σ102))
set_option maxRecDepth 20000 in
set_option maxHeartbeats 4000000 in
theorem kX3_term_b (C : Nat → Int32 → zSt → (Int32 → zSt → Prop) → Prop) (hI : zInj tabX ad) (x1 : Int32)  (dn : Nat) (hC0 : ∀ x σ Q, C 0 x σ Q → zOkI l tabX D cA ad y (dn + 6) yX3_either cX3_either 3 (some .boolean) [.ref (ad 19), .int x] σ Q) (hC1 : ∀ x σ Q, C 1 x σ Q → zOkI l tabX D cA ad y (dn + 6) yX3_both cX3_both 3 (some .boolean) [.ref (ad 19), .int x] σ Q) (hC2 : ∀ x σ Q, C 2 x σ Q → zOkI l tabX D cA ad y (dn + 6) yX3_maybeNot cX3_maybeNot 2 (some .boolean) [.ref (ad 19), .int x] σ Q) (hC3 : ∀ x σ Q, C 3 x σ Q → zOkI l tabX D cA ad y (dn + 6) yX3_comparison cX3_comparison 3 (some .boolean) [.ref (ad 19), .int x] σ Q) (hC4 : ∀ x σ Q, C 4 x σ Q → zOkI l tabX D cA ad y (dn + 6) yX3_sum cX3_sum 4 (some .boolean) [.ref (ad 19), .int x] σ Q) (hC5 : ∀ x σ Q, C 5 x σ Q → zOkI l tabX D cA ad y (dn + 6) yX3_term cX3_term 3 (some .boolean) [.ref (ad 19), .int x] σ Q) (hC6 : ∀ x σ Q, C 6 x σ Q → zOkI l tabX D cA ad y (dn + 6) yX3_one cX3_one 2 (some .boolean) [.ref (ad 19), .int x] σ Q) (σ : zSt) (Q : Int32 → zSt → Prop) (h : wX3_term_b C x1 σ Q) : zOkI l tabX D cA ad y (dn + 7) yX3_term cX3_term 3 (some .boolean) [.ref (ad 19), .int x1] σ Q := by
  refine zz_enter hI (by decide) (Nat.le_of_ble_eq_true rfl) (fun p e s m below meth c M => ?_)
  have M : zM p s m _ meth c cX3_term 3 RX3 (some .boolean) tabX D cA ad y := M
  refine zz_ls [(0, .ref (ad 19)), (1, .int x1)] rfl ?_
  unfold wX3_term_b at h
  refine zz_aload_n M 0 dX3_term_0 rfl rfl ?_
  refine zz_iload_n M 1 dX3_term_1 rfl rfl ?_
  refine zz_callVI (d' := dn + 6) (As := [.int x1]) (rest := []) M l_X3_159 tX_19 rfl rfl dX3_term_2 rfl rfl (by omega) (Nat.le_of_ble_eq_true rfl) (by have hI := M.2.2.2.2.2.2.2.2; exact hC6 _ _ _ h) (fun r101 σ102 h => ?_)
  refine zz_if_ne (y0 := 0) M 10 dX3_term_5 (by decide) (fun c => ?_) (fun c => ?_)
  · have h := zifn (c := r101 = 0) h c
    refine zz_iconst (v := 0) M dX3_term_10 (by decide) ?_
    refine zz_istore_n M [(2, .int 0), (0, .ref (ad 19)), (1, .int x1)] dX3_term_11 rfl (by decide) rfl ?_
    refine zz_sub [(0, .ref (ad 19)), (1, .int x1), (2, .int 0)] [1, 2, 0] rfl ?_
    refine sX3_term_L12 C x1  dn hC0 hC1 hC2 hC3 hC4 hC5 hC6 M (fun  σ111 h => ?_) (fun  σ112 h => ?_) 300 _ _ h
    · refine zz_iconst (v := 0) M dX3_term_40 (by decide) ?_
      exact zz_zret M dX3_term_41 (Or.inl rfl) h
    · refine zz_iconst (v := 1) M dX3_term_57 (by decide) ?_
      exact zz_zret M dX3_term_58 (Or.inr rfl) h
  · have h := zif (c := r101 = 0) h c
    refine zz_iconst (v := 0) M dX3_term_8 (by decide) ?_
    exact zz_zret M dX3_term_9 (Or.inl rfl) h
def wX3_passes (x1 : Int32) (σ : zSt) (Q : Int32 → zSt → Prop) : Prop := if (σ.1 19 5) = x1 then (wX3_advance  σ (fun σ102 => Q 1 σ102)) else (Q 0 σ)
set_option maxRecDepth 20000 in
set_option maxHeartbeats 4000000 in
theorem kX3_passes (hI : zInj tabX ad) (x1 : Int32)  (σ : zSt) (Q : Int32 → zSt → Prop) (h : wX3_passes x1 σ Q) : zOkI l tabX D cA ad y 2 yX3_passes cX3_passes 2 (some .boolean) [.ref (ad 19), .int x1] σ Q := by
  refine zz_enter hI (by decide) (Nat.le_of_ble_eq_true rfl) (fun p e s m below meth c M => ?_)
  have M : zM p s m _ meth c cX3_passes 2 RX3 (some .boolean) tabX D cA ad y := M
  refine zz_ls [(0, .ref (ad 19)), (1, .int x1)] rfl ?_
  unfold wX3_passes at h
  refine zz_aload_n M 0 dX3_passes_0 rfl rfl ?_
  refine zz_getI M f_X3_28 tX_19 rfl dX3_passes_1 ?_
  refine zz_iload_n M 1 dX3_passes_4 rfl rfl ?_
  refine zz_icmp_eq M 10 dX3_passes_5 (by decide) (fun c => ?_) (fun c => ?_)
  · have h := zif (c := (σ.1 19 5) = x1) h c
    refine zz_aload_n M 0 dX3_passes_10 rfl rfl ?_
    refine zz_callVV (d' := 1) (As := []) (rest := []) M l_X3_59 tX_19 rfl rfl dX3_passes_11 rfl rfl (by decide) (Nat.le_of_ble_eq_true rfl) (by have hI := M.2.2.2.2.2.2.2.2; exact kX3_advance hI   _ _ h) (fun σ102 h => ?_)
    refine zz_iconst (v := 1) M dX3_passes_14 (by decide) ?_
    exact zz_zret M dX3_passes_15 (Or.inr rfl) h
  · have h := zifn (c := (σ.1 19 5) = x1) h c
    refine zz_iconst (v := 0) M dX3_passes_8 (by decide) ?_
    exact zz_zret M dX3_passes_9 (Or.inl rfl) h
end
