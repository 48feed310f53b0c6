section
variable {p : Program} {l : Launch} {e : Env} {s : State} {m : MethodId} {args : Array Value} {below : List Frame} {meth : Method} {c : Code} {D : va_G} {cA : Nat → ClassId} {ad : Nat → Nat} {y : zX}
def wX7_comes_L67 (Q : Int32 → zSt → Prop) (K93 : zSt → Prop) (K140 : Int32 → zSt → Prop) (x3 : Int32) (x4 : Int32) (i5 : Nat) : Nat → Int32 → Int32 → zSt → Prop
  | 0, _, _, _ => False
  | n + 1, x6, x7, σ => if x4 ≤ x7 then (K140 x6 σ) else (∀ x106 : Int32, x106 = (x3 + (3 * x7)) → (wX5_holds i5 x106 3 σ (fun r107 σ108 => if r107 = 0 then (K93  σ108) else (vp_in x106 40 ∧ (vp_in (x106 + 1) 40 ∧ (vp_in (x106 + 2) 40 ∧ (∀ a109 : Int32, a109 = (σ108.1 (65 + i5) x106.toNatClampNeg) → (∀ a110 : Int32, a110 = (σ108.1 (65 + i5) (x106 + 1 : Int32).toNatClampNeg) → (∀ a111 : Int32, a111 = (σ108.1 (65 + i5) (x106 + 2 : Int32).toNatClampNeg) → (wX7_come a109 a110 a111 σ108 (fun r112 σ113 => if r112 < 0 then (∀ x114 : Int32, x114 = x7 + 1 → (wX7_comes_L67 Q K93 K140 x3 x4 i5 n x6 x114 σ113)) else (∀ x115 : Int32, x115 = x6 + 1 → (∀ x116 : Int32, x116 = x7 + 1 → (wX7_comes_L67 Q K93 K140 x3 x4 i5 n x115 x116 σ113))))))))))))))
set_option maxRecDepth 20000 in
set_option maxHeartbeats 4000000 in
theorem sX7_comes_L67 {Q : Int32 → zSt → Prop} {K93 : zSt → Prop} {K140 : Int32 → zSt → Prop} (x3 : Int32) (x4 : Int32) (i5 : Nat) (hi5 : i5 < 4) (M : zM p s m args meth c cX7_comes 9 RX7 (some .int) tabX D cA ad y) (hK93 : ∀ (σ : zSt), K93  σ → zG p l e (zrm 5) s m args below meth c 9 tabX D cA ad (MQ below (va_Qi Q (fun σ' t => va_P D vwCl (zws tabX cA ad σ') t.heap) (zIn tabX ad)) args s 0 0 (zIn tabX ad)) 93 [] [] σ) (hK140 : ∀ (v6 : Int32) (σ : zSt), K140 v6 σ → zG p l e (zrm 5) s m args below meth c 9 tabX D cA ad (MQ below (va_Qi Q (fun σ' t => va_P D vwCl (zws tabX cA ad σ') t.heap) (zIn tabX ad)) args s 0 0 (zIn tabX ad)) 140 [(6, .int v6)] [] σ) : ∀ (n : Nat) (x6 : Int32) (x7 : Int32) (σ : zSt), wX7_comes_L67 Q K93 K140 x3 x4 i5 n x6 x7 σ → zG p l e (zrm 5) s m args below meth c 9 tabX D cA ad (MQ below (va_Qi Q (fun σ' t => va_P D vwCl (zws tabX cA ad σ') t.heap) (zIn tabX ad)) args s 0 0 (zIn tabX ad)) 67 [(0, .ref (ad 0)), (3, .int x3), (4, .int x4), (5, .ref (ad (61 + i5))), (6, .int x6), (7, .int x7)] [] σ := by
  intro n
  induction n with
  | zero => intro x6 x7 σ h; exact absurd h (by simp [wX7_comes_L67])
  | succ n ih =>
    intro x6 x7 σ h
    unfold wX7_comes_L67 at h
    refine zz_iload M 5 dX7_comes_67 rfl ?_
    refine zz_iload M 2 dX7_comes_69 rfl ?_
    refine zz_icmp_ge M 140 dX7_comes_71 (by decide) (fun c => ?_) (fun c => ?_)
    · have h := zif (c := x4 ≤ x7) h c
      refine zz_sub [(6, .int x6)] [4] rfl ?_
      exact hK140 _ _ h
    · have h := zifn (c := x4 ≤ x7) h c
      refine zz_iload_n M 1 dX7_comes_74 rfl rfl ?_
      refine zz_iconst (v := 3) M dX7_comes_75 (by decide) ?_
      refine zz_iload M 5 dX7_comes_76 rfl ?_
      refine zz_imul M dX7_comes_78 ?_
      refine zz_iadd M dX7_comes_79 ?_
      refine zz_topi (fun x106 ex106 => ?_)
      have h := h x106 ex106
      refine zz_istore M [(8, .int x106), (0, .ref (ad 0)), (3, .int x3), (4, .int x4), (5, .ref (ad (61 + i5))), (6, .int x6), (7, .int x7)] dX7_comes_80 (by decide) rfl ?_
      refine zz_aload M 4 dX7_comes_82 rfl ?_
      refine zz_iload M 0 dX7_comes_84 rfl ?_
      refine zz_iconst (v := 3) M dX7_comes_86 (by decide) ?_
      refine zz_callVI (d' := 1) (As := [.int x106, .int 3]) (rest := []) M l_X7_262 (tX_Sheet hi5) rfl rfl dX7_comes_87 rfl rfl (by decide) (Nat.le_of_ble_eq_true rfl) (by have hI := M.2.2.2.2.2.2.2.2; exact kX5_holds hI _ _ _ hi5 _ _ h) (fun r107 σ108 h => ?_)
      refine zz_if_ne (y0 := 0) M 96 dX7_comes_90 (by decide) (fun c => ?_) (fun c => ?_)
      · have h := zifn (c := r107 = 0) h c
        refine zz_aload_n M 1 dX7_comes_96 rfl rfl ?_
        refine zz_aload M 4 dX7_comes_97 rfl ?_
        refine zz_getR M f_X7_225 (tX_Sheet hi5) rfl dX7_comes_99 ?_
        refine zz_iload M 0 dX7_comes_102 rfl ?_
        refine zz_iald M (tX_Sheet_cells hi5) h.1 dX7_comes_104 ?_
        have h := h.2
        refine zz_aload M 4 dX7_comes_105 rfl ?_
        refine zz_getR M f_X7_225 (tX_Sheet hi5) rfl dX7_comes_107 ?_
        refine zz_iload M 0 dX7_comes_110 rfl ?_
        refine zz_iconst (v := 1) M dX7_comes_112 (by decide) ?_
        refine zz_iadd M dX7_comes_113 ?_
        refine zz_iald M (tX_Sheet_cells hi5) h.1 dX7_comes_114 ?_
        have h := h.2
        refine zz_aload M 4 dX7_comes_115 rfl ?_
        refine zz_getR M f_X7_225 (tX_Sheet hi5) rfl dX7_comes_117 ?_
        refine zz_iload M 0 dX7_comes_120 rfl ?_
        refine zz_iconst (v := 2) M dX7_comes_122 (by decide) ?_
        refine zz_iadd M dX7_comes_123 ?_
        refine zz_iald M (tX_Sheet_cells hi5) h.1 dX7_comes_124 ?_
        have h := h.2
        obtain ⟨a109, ea109⟩ : ∃ z : Int32, z = (σ108.1 (65 + i5) x106.toNatClampNeg) := ⟨_, rfl⟩
        have h := h a109 ea109
        obtain ⟨a110, ea110⟩ : ∃ z : Int32, z = (σ108.1 (65 + i5) (x106 + 1 : Int32).toNatClampNeg) := ⟨_, rfl⟩
        have h := h a110 ea110
        obtain ⟨a111, ea111⟩ : ∃ z : Int32, z = (σ108.1 (65 + i5) (x106 + 2 : Int32).toNatClampNeg) := ⟨_, rfl⟩
        have h := h a111 ea111
        refine zz_st [.int a111, .int a110, .int a109, .ref (ad 0)] (by rw [ea109, ea110, ea111]) ?_
        refine zz_callVI (d' := 4) (As := [.int a109, .int a110, .int a111]) (rest := []) M l_X7_265 tX_0 rfl rfl dX7_comes_125 rfl rfl (by decide) (Nat.le_of_ble_eq_true rfl) (by have hI := M.2.2.2.2.2.2.2.2; exact kX7_come hI _ _ _  _ _ h) (fun r112 σ113 h => ?_)
        refine zz_if_lt (y0 := 0) M 134 dX7_comes_128 (by decide) (fun c => ?_) (fun c => ?_)
        · have h := zif (c := r112 < 0) h c
          obtain ⟨x114, ex114⟩ : ∃ z : Int32, z = x7 + 1 := ⟨_, rfl⟩
          have h := h x114 ex114
          refine zz_iinc M [(7, .int x114), (8, .int x106), (0, .ref (ad 0)), (3, .int x3), (4, .int x4), (5, .ref (ad (61 + i5))), (6, .int x6)] 6 dX7_comes_134 rfl (n32 := 1) (by decide) ex114 (by decide) rfl ?_
          refine zz_goto M 67 dX7_comes_137 (by decide) ?_
          refine zz_sub [(0, .ref (ad 0)), (3, .int x3), (4, .int x4), (5, .ref (ad (61 + i5))), (6, .int x6), (7, .int x114)] [2, 3, 4, 5, 6, 0] rfl ?_
          exact ih _ _ _ h
        · have h := zifn (c := r112 < 0) h c
          obtain ⟨x115, ex115⟩ : ∃ z : Int32, z = x6 + 1 := ⟨_, rfl⟩
          have h := h x115 ex115
          refine zz_iinc M [(6, .int x115), (8, .int x106), (0, .ref (ad 0)), (3, .int x3), (4, .int x4), (5, .ref (ad (61 + i5))), (7, .int x7)] 5 dX7_comes_131 rfl (n32 := 1) (by decide) ex115 (by decide) rfl ?_
          obtain ⟨x116, ex116⟩ : ∃ z : Int32, z = x7 + 1 := ⟨_, rfl⟩
          have h := h x116 ex116
          refine zz_iinc M [(7, .int x116), (6, .int x115), (8, .int x106), (0, .ref (ad 0)), (3, .int x3), (4, .int x4), (5, .ref (ad (61 + i5)))] 6 dX7_comes_134 rfl (n32 := 1) (by decide) ex116 (by decide) rfl ?_
          refine zz_goto M 67 dX7_comes_137 (by decide) ?_
          refine zz_sub [(0, .ref (ad 0)), (3, .int x3), (4, .int x4), (5, .ref (ad (61 + i5))), (6, .int x115), (7, .int x116)] [3, 4, 5, 6, 1, 0] rfl ?_
          exact ih _ _ _ h
      · have h := zif (c := r107 = 0) h c
        refine zz_sub [] [] rfl ?_
        exact hK93  _ h
def wX7_comes (x1 : Int32) (x2 : Int32) (x3 : Int32) (x4 : Int32) (σ : zSt) (Q : Int32 → zSt → Prop) : Prop := wX7_isSheet x1 σ (fun r101 σ102 => if r101 = 0 then (Q (-2) σ102) else (wX7_isSheetSort x2 σ102 (fun r103 σ104 => if r103 = 0 then (Q (-2) σ104) else (if x4 < 0 then (Q (-2) σ104) else (if x4 ≤ 8 then (vp_in x1 4 ∧ (if (σ104.1 (61 + x1.toNatClampNeg) 1) = (-1) then (Q (-11) σ104) else (if (σ104.1 (61 + x1.toNatClampNeg) 1) = x2 then (wX7_comes_L67 Q (fun  σ117 => Q (-12) σ117) (fun v118 σ119 => Q v118 σ119) x3 x4 (x1.toNatClampNeg) 300 0 0 σ104) else (Q (-13) σ104)))) else (Q (-2) σ104))))))
set_option maxRecDepth 20000 in
set_option maxHeartbeats 4000000 in
theorem kX7_comes (hI : zInj tabX ad) (x1 : Int32) (x2 : Int32) (x3 : Int32) (x4 : Int32)  (σ : zSt) (Q : Int32 → zSt → Prop) (h : wX7_comes x1 x2 x3 x4 σ Q) : zOkI l tabX D cA ad y 5 yX7_comes cX7_comes 9 (some .int) [.ref (ad 0), .int x1, .int x2, .int x3, .int x4] σ Q := by
  refine zz_enter hI (by decide) (Nat.le_of_ble_eq_true rfl) (fun p e s m below meth c M => ?_)
  have M : zM p s m _ meth c cX7_comes 9 RX7 (some .int) tabX D cA ad y := M
  refine zz_ls [(0, .ref (ad 0)), (1, .int x1), (2, .int x2), (3, .int x3), (4, .int x4)] rfl ?_
  unfold wX7_comes at h
  refine zz_iload_n M 1 dX7_comes_0 rfl rfl ?_
  refine zz_callSI (d' := 1) (As := [.int x1]) (rest := []) M l_X7_249 dX7_comes_1 rfl rfl (by decide) (Nat.le_of_ble_eq_true rfl) (by have hI := M.2.2.2.2.2.2.2.2; exact kX7_isSheet hI _  _ _ h) (fun r101 σ102 h => ?_)
  refine zz_if_eq (y0 := 0) M 26 dX7_comes_4 (by decide) (fun c => ?_) (fun c => ?_)
  · have h := zif (c := r101 = 0) h c
    refine zz_bipush (v := (-2)) M dX7_comes_26 (by decide) ?_
    exact zz_iret M dX7_comes_28 h
  · have h := zifn (c := r101 = 0) h c
    refine zz_iload_n M 2 dX7_comes_7 rfl rfl ?_
    refine zz_callSI (d' := 1) (As := [.int x2]) (rest := []) M l_X7_252 dX7_comes_8 rfl rfl (by decide) (Nat.le_of_ble_eq_true rfl) (by have hI := M.2.2.2.2.2.2.2.2; exact kX7_isSheetSort hI _  _ _ h) (fun r103 σ104 h => ?_)
    refine zz_if_eq (y0 := 0) M 26 dX7_comes_11 (by decide) (fun c => ?_) (fun c => ?_)
    · have h := zif (c := r103 = 0) h c
      refine zz_bipush (v := (-2)) M dX7_comes_26 (by decide) ?_
      exact zz_iret M dX7_comes_28 h
    · have h := zifn (c := r103 = 0) h c
      refine zz_iload M 4 dX7_comes_14 rfl ?_
      refine zz_if_lt (y0 := 0) M 26 dX7_comes_16 (by decide) (fun c => ?_) (fun c => ?_)
      · have h := zif (c := x4 < 0) h c
        refine zz_bipush (v := (-2)) M dX7_comes_26 (by decide) ?_
        exact zz_iret M dX7_comes_28 h
      · have h := zifn (c := x4 < 0) h c
        refine zz_iload M 4 dX7_comes_19 rfl ?_
        refine zz_bipush (v := 8) M dX7_comes_21 (by decide) ?_
        refine zz_icmp_le M 29 dX7_comes_23 (by decide) (fun c => ?_) (fun c => ?_)
        · have h := zif (c := x4 ≤ 8) h c
          refine zz_aload_n M 0 dX7_comes_29 rfl rfl ?_
          refine zz_getR M f_X7_49 tX_0 rfl dX7_comes_30 ?_
          refine zz_iload_n M 1 dX7_comes_33 rfl rfl ?_
          have hq105 := h.1
          refine zz_aald M tX_23 (by decide) hq105 dX7_comes_34 ?_
          have h := h.2
          refine zz_astore M [(5, .ref (ad (61 + x1.toNatClampNeg))), (0, .ref (ad 0)), (1, .int x1), (2, .int x2), (3, .int x3), (4, .int x4)] dX7_comes_35 (by decide) rfl ?_
          refine zz_aload M 0 dX7_comes_37 rfl ?_
          refine zz_getI M f_X7_259 (tX_Sheet (zclt hq105)) rfl dX7_comes_39 ?_
          refine zz_iconst (v := (-1)) M dX7_comes_42 (by decide) ?_
          refine zz_icmp_ne M 49 dX7_comes_43 (by decide) (fun c => ?_) (fun c => ?_)
          · have h := zifn (c := (σ104.1 (61 + x1.toNatClampNeg) 1) = (-1)) h c
            refine zz_aload M 0 dX7_comes_49 rfl ?_
            refine zz_getI M f_X7_259 (tX_Sheet (zclt hq105)) rfl dX7_comes_51 ?_
            refine zz_iload_n M 3 dX7_comes_54 rfl rfl ?_
            refine zz_icmp_eq M 61 dX7_comes_55 (by decide) (fun c => ?_) (fun c => ?_)
            · have h := zif (c := (σ104.1 (61 + x1.toNatClampNeg) 1) = x2) h c
              refine zz_iconst (v := 0) M dX7_comes_61 (by decide) ?_
              refine zz_istore M [(6, .int 0), (5, .ref (ad (61 + x1.toNatClampNeg))), (0, .ref (ad 0)), (1, .int x1), (2, .int x2), (3, .int x3), (4, .int x4)] dX7_comes_62 (by decide) rfl ?_
              refine zz_iconst (v := 0) M dX7_comes_64 (by decide) ?_
              refine zz_istore M [(7, .int 0), (6, .int 0), (5, .ref (ad (61 + x1.toNatClampNeg))), (0, .ref (ad 0)), (1, .int x1), (2, .int x2), (3, .int x3), (4, .int x4)] dX7_comes_65 (by decide) rfl ?_
              refine zz_sub [(0, .ref (ad 0)), (3, .int x3), (4, .int x4), (5, .ref (ad (61 + x1.toNatClampNeg))), (6, .int 0), (7, .int 0)] [3, 6, 7, 2, 1, 0] rfl ?_
              refine sX7_comes_L67 x3 x4 (x1.toNatClampNeg) (zclt hq105) M (fun  σ117 h => ?_) (fun v118 σ119 h => ?_) 300 _ _ _ h
              · refine zz_bipush (v := (-12)) M dX7_comes_93 (by decide) ?_
                exact zz_iret M dX7_comes_95 h
              · refine zz_iload M 0 dX7_comes_140 rfl ?_
                exact zz_iret M dX7_comes_142 h
            · have h := zifn (c := (σ104.1 (61 + x1.toNatClampNeg) 1) = x2) h c
              refine zz_bipush (v := (-13)) M dX7_comes_58 (by decide) ?_
              exact zz_iret M dX7_comes_60 h
          · have h := zif (c := (σ104.1 (61 + x1.toNatClampNeg) 1) = (-1)) h c
            refine zz_bipush (v := (-11)) M dX7_comes_46 (by decide) ?_
            exact zz_iret M dX7_comes_48 h
        · have h := zifn (c := x4 ≤ 8) h c
          refine zz_bipush (v := (-2)) M dX7_comes_26 (by decide) ?_
          exact zz_iret M dX7_comes_28 h
def wX7_taken_L34 (Q : Int32 → zSt → Prop) (K55 : zSt → Prop) (K77 : zSt → Prop) (x1 : Int32) (x2 : Int32) : Nat → Int32 → Int32 → zSt → Prop
  | 0, _, _, _ => False
  | n + 1, x3, x4, σ => if 6 ≤ x4 then (K77  σ) else (wX7_isKind x3 σ (fun r106 σ107 => if r106 = 0 then (K77  σ107) else (if x3 = x2 then (K55  σ107) else (vp_in x3 6 ∧ (∀ x108 : Int32, x108 = (zover x3.toNatClampNeg) → (∀ x109 : Int32, x109 = x4 + 1 → (wX7_taken_L34 Q K55 K77 x1 x2 n x108 x109 σ107)))))))
set_option maxRecDepth 20000 in
set_option maxHeartbeats 4000000 in
theorem sX7_taken_L34 {Q : Int32 → zSt → Prop} {K55 : zSt → Prop} {K77 : zSt → Prop} (x1 : Int32) (x2 : Int32)  (M : zM p s m args meth c cX7_taken 5 RX7 (some .int) tabX D cA ad y) (hK55 : ∀ (σ : zSt), K55  σ → zG p l e (zrm 2) s m args below meth c 5 tabX D cA ad (MQ below (va_Qi Q (fun σ' t => va_P D vwCl (zws tabX cA ad σ') t.heap) (zIn tabX ad)) args s 0 0 (zIn tabX ad)) 55 [(0, .ref (ad 0)), (1, .int x1)] [] σ) (hK77 : ∀ (σ : zSt), K77  σ → zG p l e (zrm 2) s m args below meth c 5 tabX D cA ad (MQ below (va_Qi Q (fun σ' t => va_P D vwCl (zws tabX cA ad σ') t.heap) (zIn tabX ad)) args s 0 0 (zIn tabX ad)) 77 [] [] σ) : ∀ (n : Nat) (x3 : Int32) (x4 : Int32) (σ : zSt), wX7_taken_L34 Q K55 K77 x1 x2 n x3 x4 σ → zG p l e (zrm 2) s m args below meth c 5 tabX D cA ad (MQ below (va_Qi Q (fun σ' t => va_P D vwCl (zws tabX cA ad σ') t.heap) (zIn tabX ad)) args s 0 0 (zIn tabX ad)) 34 [(0, .ref (ad 0)), (1, .int x1), (2, .int x2), (3, .int x3), (4, .int x4)] [] σ := by
  intro n
  induction n with
  | zero => intro x3 x4 σ h; exact absurd h (by simp [wX7_taken_L34])
  | succ n ih =>
    intro x3 x4 σ h
    unfold wX7_taken_L34 at h
    refine zz_iload M 4 dX7_taken_34 rfl ?_
    refine zz_over M over_269 dX7_taken_36 ?_
    refine zz_overn M dX7_taken_39 ?_
    refine zz_icmp_ge M 77 dX7_taken_40 (by decide) (fun c => ?_) (fun c => ?_)
    · have h := zif (c := 6 ≤ x4) h c
      refine zz_sub [] [] rfl ?_
      exact hK77  _ h
    · have h := zifn (c := 6 ≤ x4) h c
      refine zz_iload_n M 3 dX7_taken_43 rfl rfl ?_
      refine zz_callSI (d' := 1) (As := [.int x3]) (rest := []) M l_X7_159 dX7_taken_44 rfl rfl (by decide) (Nat.le_of_ble_eq_true rfl) (by have hI := M.2.2.2.2.2.2.2.2; exact kX7_isKind hI _  _ _ h) (fun r106 σ107 h => ?_)
      refine zz_if_eq (y0 := 0) M 77 dX7_taken_47 (by decide) (fun c => ?_) (fun c => ?_)
      · have h := zif (c := r106 = 0) h c
        refine zz_sub [] [] rfl ?_
        exact hK77  _ h
      · have h := zifn (c := r106 = 0) h c
        refine zz_iload_n M 3 dX7_taken_50 rfl rfl ?_
        refine zz_iload_n M 2 dX7_taken_51 rfl rfl ?_
        refine zz_icmp_ne M 65 dX7_taken_52 (by decide) (fun c => ?_) (fun c => ?_)
        · have h := zifn (c := x3 = x2) h c
          refine zz_over M over_269 dX7_taken_65 ?_
          refine zz_iload_n M 3 dX7_taken_68 rfl rfl ?_
          refine zz_overl M h.1 dX7_taken_69 ?_
          have h := h.2
          refine zz_topi (fun x108 ex108 => ?_)
          have h := h x108 ex108
          refine zz_istore_n M [(3, .int x108), (0, .ref (ad 0)), (1, .int x1), (2, .int x2), (4, .int x4)] dX7_taken_70 rfl (by decide) rfl ?_
          obtain ⟨x109, ex109⟩ : ∃ z : Int32, z = x4 + 1 := ⟨_, rfl⟩
          have h := h x109 ex109
          refine zz_iinc M [(4, .int x109), (3, .int x108), (0, .ref (ad 0)), (1, .int x1), (2, .int x2)] 4 dX7_taken_71 rfl (n32 := 1) (by decide) ex109 (by decide) rfl ?_
          refine zz_goto M 34 dX7_taken_74 (by decide) ?_
          refine zz_sub [(0, .ref (ad 0)), (1, .int x1), (2, .int x2), (3, .int x108), (4, .int x109)] [2, 3, 4, 1, 0] rfl ?_
          exact ih _ _ _ h
        · have h := zif (c := x3 = x2) h c
          refine zz_sub [(0, .ref (ad 0)), (1, .int x1)] [0, 1] rfl ?_
          exact hK55  _ h
def wX7_taken (x1 : Int32) (x2 : Int32) (σ : zSt) (Q : Int32 → zSt → Prop) : Prop := wX7_isKind x2 σ (fun r101 σ102 => if r101 = 0 then (Q (-2) σ102) else (wX7_isMaster x1 σ102 (fun r103 σ104 => if r103 = 0 then (Q (-11) σ104) else (vp_in x1 4 ∧ (∀ x105 : Int32, x105 = (σ104.1 7 x1.toNatClampNeg) → (wX7_taken_L34 Q (fun  σ110 => vp_in x1 4 ∧ (Q (σ110.1 8 x1.toNatClampNeg) σ110)) (fun  σ111 => Q (-13) σ111) x1 x2 300 x105 0 σ104))))))
set_option maxRecDepth 20000 in
set_option maxHeartbeats 4000000 in
theorem kX7_taken (hI : zInj tabX ad) (x1 : Int32) (x2 : Int32)  (σ : zSt) (Q : Int32 → zSt → Prop) (h : wX7_taken x1 x2 σ Q) : zOkI l tabX D cA ad y 2 yX7_taken cX7_taken 5 (some .int) [.ref (ad 0), .int x1, .int x2] σ Q := by
  refine zz_enter hI (by decide) (Nat.le_of_ble_eq_true rfl) (fun p e s m below meth c M => ?_)
  have M : zM p s m _ meth c cX7_taken 5 RX7 (some .int) tabX D cA ad y := M
  refine zz_ls [(0, .ref (ad 0)), (1, .int x1), (2, .int x2)] rfl ?_
  unfold wX7_taken at h
  refine zz_iload_n M 2 dX7_taken_0 rfl rfl ?_
  refine zz_callSI (d' := 1) (As := [.int x2]) (rest := []) M l_X7_159 dX7_taken_1 rfl rfl (by decide) (Nat.le_of_ble_eq_true rfl) (by have hI := M.2.2.2.2.2.2.2.2; exact kX7_isKind hI _  _ _ h) (fun r101 σ102 h => ?_)
  refine zz_if_ne (y0 := 0) M 10 dX7_taken_4 (by decide) (fun c => ?_) (fun c => ?_)
  · have h := zifn (c := r101 = 0) h c
    refine zz_aload_n M 0 dX7_taken_10 rfl rfl ?_
    refine zz_iload_n M 1 dX7_taken_11 rfl rfl ?_
    refine zz_callVI (d' := 1) (As := [.int x1]) (rest := []) M l_X7_142 tX_0 rfl rfl dX7_taken_12 rfl rfl (by decide) (Nat.le_of_ble_eq_true rfl) (by have hI := M.2.2.2.2.2.2.2.2; exact kX7_isMaster hI _  _ _ h) (fun r103 σ104 h => ?_)
    refine zz_if_ne (y0 := 0) M 21 dX7_taken_15 (by decide) (fun c => ?_) (fun c => ?_)
    · have h := zifn (c := r103 = 0) h c
      refine zz_aload_n M 0 dX7_taken_21 rfl rfl ?_
      refine zz_getR M f_X7_12 tX_0 rfl dX7_taken_22 ?_
      refine zz_getR M f_X7_165 tX_1 rfl dX7_taken_25 ?_
      refine zz_iload_n M 1 dX7_taken_28 rfl rfl ?_
      refine zz_iald M tX_7 h.1 dX7_taken_29 ?_
      have h := h.2
      refine zz_topi (fun x105 ex105 => ?_)
      have h := h x105 ex105
      refine zz_istore_n M [(3, .int x105), (0, .ref (ad 0)), (1, .int x1), (2, .int x2)] dX7_taken_30 rfl (by decide) rfl ?_
      refine zz_iconst (v := 0) M dX7_taken_31 (by decide) ?_
      refine zz_istore M [(4, .int 0), (3, .int x105), (0, .ref (ad 0)), (1, .int x1), (2, .int x2)] dX7_taken_32 (by decide) rfl ?_
      refine zz_sub [(0, .ref (ad 0)), (1, .int x1), (2, .int x2), (3, .int x105), (4, .int 0)] [2, 3, 4, 1, 0] rfl ?_
      refine sX7_taken_L34 x1 x2  M (fun  σ110 h => ?_) (fun  σ111 h => ?_) 300 _ _ _ h
      · refine zz_aload_n M 0 dX7_taken_55 rfl rfl ?_
        refine zz_getR M f_X7_12 tX_0 rfl dX7_taken_56 ?_
        refine zz_getR M f_X7_145 tX_1 rfl dX7_taken_59 ?_
        refine zz_iload_n M 1 dX7_taken_62 rfl rfl ?_
        refine zz_iald M tX_8 h.1 dX7_taken_63 ?_
        have h := h.2
        exact zz_iret M dX7_taken_64 h
      · refine zz_bipush (v := (-13)) M dX7_taken_77 (by decide) ?_
        exact zz_iret M dX7_taken_79 h
    · have h := zif (c := r103 = 0) h c
      refine zz_bipush (v := (-11)) M dX7_taken_18 (by decide) ?_
      exact zz_iret M dX7_taken_20 h
  · have h := zif (c := r101 = 0) h c
    refine zz_bipush (v := (-2)) M dX7_taken_7 (by decide) ?_
    exact zz_iret M dX7_taken_9 h
end
