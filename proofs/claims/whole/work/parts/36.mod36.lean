section
variable {p : Program} {l : Launch} {e : Env} {s : State} {m : MethodId} {args : Array Value} {below : List Frame} {meth : Method} {c : Code} {D : va_G} {cA : Nat → ClassId} {ad : Nat → Nat} {y : zX}
def wX8_bestNext_L4 (Q : Int32 → zSt → Prop) (K50 : Int32 → zSt → Prop) (x1 : Int32) : Nat → Int32 → Int32 → zSt → Prop
  | 0, _, _, _ => False
  | n + 1, x2, x3, σ => if 3 ≤ x3 then (K50 x2 σ) else (wX8_waits 0 x3 x1 σ (fun r101 σ102 => wX8_waits 1 x3 x1 σ102 (fun r103 σ104 => wX8_waits 0 x2 x1 σ104 (fun r105 σ106 => wX8_waits 1 x2 x1 σ106 (fun r107 σ108 => if (r101 - r103) ≤ (r105 - r107) then (∀ x109 : Int32, x109 = x3 + 1 → (wX8_bestNext_L4 Q K50 x1 n x2 x109 σ108)) else (∀ x110 : Int32, x110 = x3 + 1 → (wX8_bestNext_L4 Q K50 x1 n x3 x110 σ108)))))))
set_option maxRecDepth 20000 in
set_option maxHeartbeats 4000000 in
theorem sX8_bestNext_L4 {Q : Int32 → zSt → Prop} {K50 : Int32 → zSt → Prop} (x1 : Int32)  (M : zM p s m args meth c cX8_bestNext 4 RX8 (some .int) tabM D cA ad y) (hK50 : ∀ (v2 : Int32) (σ : zSt), K50 v2 σ → zG p l e (zrm 3) s m args below meth c 4 tabM D cA ad (MQ below (va_Qi Q (fun σ' t => va_P D vwCl (zws tabM cA ad σ') t.heap) (zIn tabM ad)) args s 0 0 (zIn tabM ad)) 50 [(2, .int v2)] [] σ) : ∀ (n : Nat) (x2 : Int32) (x3 : Int32) (σ : zSt), wX8_bestNext_L4 Q K50 x1 n x2 x3 σ → zG p l e (zrm 3) s m args below meth c 4 tabM D cA ad (MQ below (va_Qi Q (fun σ' t => va_P D vwCl (zws tabM cA ad σ') t.heap) (zIn tabM ad)) args s 0 0 (zIn tabM ad)) 4 [(0, .ref (ad 0)), (1, .int x1), (2, .int x2), (3, .int x3)] [] σ := by
  intro n
  induction n with
  | zero => intro x2 x3 σ h; exact absurd h (by simp [wX8_bestNext_L4])
  | succ n ih =>
    intro x2 x3 σ h
    unfold wX8_bestNext_L4 at h
    refine zz_iload_n M 3 dX8_bestNext_4 rfl rfl ?_
    refine zz_iconst (v := 3) M dX8_bestNext_5 (by decide) ?_
    refine zz_icmp_ge M 50 dX8_bestNext_6 (by decide) (fun c => ?_) (fun c => ?_)
    · have h := zif (c := 3 ≤ x3) h c
      refine zz_sub [(2, .int x2)] [2] rfl ?_
      exact hK50 _ _ h
    · have h := zifn (c := 3 ≤ x3) h c
      refine zz_aload_n M 0 dX8_bestNext_9 rfl rfl ?_
      refine zz_iconst (v := 0) M dX8_bestNext_10 (by decide) ?_
      refine zz_iload_n M 3 dX8_bestNext_11 rfl rfl ?_
      refine zz_iload_n M 1 dX8_bestNext_12 rfl rfl ?_
      refine zz_callVI (d' := 2) (As := [.int 0, .int x3, .int x1]) (rest := []) M l_X8_402 tM_0 rfl rfl dX8_bestNext_13 rfl rfl (by decide) (Nat.le_of_ble_eq_true rfl) (by have hI := M.2.2.2.2.2.2.2.2; exact kX8_waits hI _ _ _  _ _ h) (fun r101 σ102 h => ?_)
      refine zz_aload_n M 0 dX8_bestNext_16 rfl rfl ?_
      refine zz_iconst (v := 1) M dX8_bestNext_17 (by decide) ?_
      refine zz_iload_n M 3 dX8_bestNext_18 rfl rfl ?_
      refine zz_iload_n M 1 dX8_bestNext_19 rfl rfl ?_
      refine zz_callVI (d' := 2) (As := [.int 1, .int x3, .int x1]) (rest := [.int r101]) M l_X8_402 tM_0 rfl rfl dX8_bestNext_20 rfl rfl (by decide) (Nat.le_of_ble_eq_true rfl) (by have hI := M.2.2.2.2.2.2.2.2; exact kX8_waits hI _ _ _  _ _ h) (fun r103 σ104 h => ?_)
      refine zz_isub M dX8_bestNext_23 ?_
      refine zz_aload_n M 0 dX8_bestNext_24 rfl rfl ?_
      refine zz_iconst (v := 0) M dX8_bestNext_25 (by decide) ?_
      refine zz_iload_n M 2 dX8_bestNext_26 rfl rfl ?_
      refine zz_iload_n M 1 dX8_bestNext_27 rfl rfl ?_
      refine zz_callVI (d' := 2) (As := [.int 0, .int x2, .int x1]) (rest := [.int (r101 - r103)]) M l_X8_402 tM_0 rfl rfl dX8_bestNext_28 rfl rfl (by decide) (Nat.le_of_ble_eq_true rfl) (by have hI := M.2.2.2.2.2.2.2.2; exact kX8_waits hI _ _ _  _ _ h) (fun r105 σ106 h => ?_)
      refine zz_aload_n M 0 dX8_bestNext_31 rfl rfl ?_
      refine zz_iconst (v := 1) M dX8_bestNext_32 (by decide) ?_
      refine zz_iload_n M 2 dX8_bestNext_33 rfl rfl ?_
      refine zz_iload_n M 1 dX8_bestNext_34 rfl rfl ?_
      refine zz_callVI (d' := 2) (As := [.int 1, .int x2, .int x1]) (rest := [.int r105, .int (r101 - r103)]) M l_X8_402 tM_0 rfl rfl dX8_bestNext_35 rfl rfl (by decide) (Nat.le_of_ble_eq_true rfl) (by have hI := M.2.2.2.2.2.2.2.2; exact kX8_waits hI _ _ _  _ _ h) (fun r107 σ108 h => ?_)
      refine zz_isub M dX8_bestNext_38 ?_
      refine zz_icmp_le M 44 dX8_bestNext_39 (by decide) (fun c => ?_) (fun c => ?_)
      · have h := zif (c := (r101 - r103) ≤ (r105 - r107)) h c
        obtain ⟨x109, ex109⟩ : ∃ z : Int32, z = x3 + 1 := ⟨_, rfl⟩
        have h := h x109 ex109
        refine zz_iinc M [(3, .int x109), (0, .ref (ad 0)), (1, .int x1), (2, .int x2)] 3 dX8_bestNext_44 rfl (n32 := 1) (by decide) ex109 (by decide) rfl ?_
        refine zz_goto M 4 dX8_bestNext_47 (by decide) ?_
        refine zz_sub [(0, .ref (ad 0)), (1, .int x1), (2, .int x2), (3, .int x109)] [1, 2, 3, 0] rfl ?_
        exact ih _ _ _ h
      · have h := zifn (c := (r101 - r103) ≤ (r105 - r107)) h c
        refine zz_iload_n M 3 dX8_bestNext_42 rfl rfl ?_
        refine zz_istore_n M [(2, .int x3), (0, .ref (ad 0)), (1, .int x1), (3, .int x3)] dX8_bestNext_43 rfl (by decide) rfl ?_
        obtain ⟨x110, ex110⟩ : ∃ z : Int32, z = x3 + 1 := ⟨_, rfl⟩
        have h := h x110 ex110
        refine zz_iinc M [(3, .int x110), (2, .int x3), (0, .ref (ad 0)), (1, .int x1)] 3 dX8_bestNext_44 rfl (n32 := 1) (by decide) ex110 (by decide) rfl ?_
        refine zz_goto M 4 dX8_bestNext_47 (by decide) ?_
        refine zz_sub [(0, .ref (ad 0)), (1, .int x1), (2, .int x3), (3, .int x110)] [2, 3, 1, 0] rfl ?_
        exact ih _ _ _ h
def wX8_bestNext (x1 : Int32) (σ : zSt) (Q : Int32 → zSt → Prop) : Prop := wX8_bestNext_L4 Q (fun v111 σ112 => Q v111 σ112) x1 300 0 1 σ
set_option maxRecDepth 20000 in
set_option maxHeartbeats 4000000 in
theorem kX8_bestNext (hI : zInj tabM ad) (x1 : Int32)  (σ : zSt) (Q : Int32 → zSt → Prop) (h : wX8_bestNext x1 σ Q) : zOkI l tabM D cA ad y 3 yX8_bestNext cX8_bestNext 4 (some .int) [.ref (ad 0), .int x1] σ Q := by
  refine zz_enter hI (by decide) (Nat.le_of_ble_eq_true rfl) (fun p e s m below meth c M => ?_)
  have M : zM p s m _ meth c cX8_bestNext 4 RX8 (some .int) tabM D cA ad y := M
  refine zz_ls [(0, .ref (ad 0)), (1, .int x1)] rfl ?_
  unfold wX8_bestNext at h
  refine zz_iconst (v := 0) M dX8_bestNext_0 (by decide) ?_
  refine zz_istore_n M [(2, .int 0), (0, .ref (ad 0)), (1, .int x1)] dX8_bestNext_1 rfl (by decide) rfl ?_
  refine zz_iconst (v := 1) M dX8_bestNext_2 (by decide) ?_
  refine zz_istore_n M [(3, .int 1), (2, .int 0), (0, .ref (ad 0)), (1, .int x1)] dX8_bestNext_3 rfl (by decide) rfl ?_
  refine zz_sub [(0, .ref (ad 0)), (1, .int x1), (2, .int 0), (3, .int 1)] [2, 3, 1, 0] rfl ?_
  refine sX8_bestNext_L4 x1  M (fun v111 σ112 h => ?_) 300 _ _ _ h
  refine zz_iload_n M 0 dX8_bestNext_50 rfl rfl ?_
  exact zz_iret M dX8_bestNext_51 h
def wX8_nextBy (x1 : Int32) (x2 : Int32) (x3 : Int32) (σ : zSt) (Q : Int32 → zSt → Prop) : Prop := vp_in x1 4 ∧ (∀ x101 : Int32, x101 = (σ.1 7 x1.toNatClampNeg) → (if x101 = 0 then (wX8_plainNext x1 x2 x3 σ (fun r126 σ127 => Q r126 σ127)) else (if x101 = 2 then (wX8_marketNext x2 σ (fun r102 σ103 => Q r102 σ103)) else (if x101 = 4 then (vp_in x1 4 ∧ (if ((σ.1 8 x1.toNatClampNeg) - (σ.1 8 x1.toNatClampNeg) / 2 * 2) = 1 then (wX8_marketNext x2 σ (fun r124 σ125 => Q r124 σ125)) else (if x101 = 4 then (wX8_bestNext x2 σ (fun r122 σ123 => Q r122 σ123)) else (if x101 = 3 then (wX8_waits 0 x3 x2 σ (fun r118 σ119 => if r118 ≤ 0 then (wX8_tideNext x1 x2 x3 σ119 (fun r120 σ121 => Q r120 σ121)) else (Q x3 σ119))) else (if x101 = 5 then (if (x2 - x2 / 3 * 3) = 0 then (wX8_tideNext x1 x2 x3 σ (fun r116 σ117 => Q r116 σ117)) else (Q x3 σ)) else (wX8_tideNext x1 x2 x3 σ (fun r114 σ115 => Q r114 σ115))))))) else (if x101 = 4 then (wX8_bestNext x2 σ (fun r112 σ113 => Q r112 σ113)) else (if x101 = 3 then (wX8_waits 0 x3 x2 σ (fun r108 σ109 => if r108 ≤ 0 then (wX8_tideNext x1 x2 x3 σ109 (fun r110 σ111 => Q r110 σ111)) else (Q x3 σ109))) else (if x101 = 5 then (if (x2 - x2 / 3 * 3) = 0 then (wX8_tideNext x1 x2 x3 σ (fun r106 σ107 => Q r106 σ107)) else (Q x3 σ)) else (wX8_tideNext x1 x2 x3 σ (fun r104 σ105 => Q r104 σ105)))))))))
set_option maxRecDepth 20000 in
set_option maxHeartbeats 4000000 in
theorem kX8_nextBy (hI : zInj tabM ad) (x1 : Int32) (x2 : Int32) (x3 : Int32)  (σ : zSt) (Q : Int32 → zSt → Prop) (h : wX8_nextBy x1 x2 x3 σ Q) : zOkI l tabM D cA ad y 4 yX8_nextBy cX8_nextBy 6 (some .int) [.ref (ad 0), .int x1, .int x2, .int x3] σ Q := by
  refine zz_enter hI (by decide) (Nat.le_of_ble_eq_true rfl) (fun p e s m below meth c M => ?_)
  have M : zM p s m _ meth c cX8_nextBy 6 RX8 (some .int) tabM D cA ad y := M
  refine zz_ls [(0, .ref (ad 0)), (1, .int x1), (2, .int x2), (3, .int x3)] rfl ?_
  unfold wX8_nextBy at h
  refine zz_aload_n M 0 dX8_nextBy_0 rfl rfl ?_
  refine zz_getR M f_X8_38 tM_0 rfl dX8_nextBy_1 ?_
  refine zz_iload_n M 1 dX8_nextBy_4 rfl rfl ?_
  refine zz_iald M tM_7 h.1 dX8_nextBy_5 ?_
  have h := h.2
  refine zz_topi (fun x101 ex101 => ?_)
  have h := h x101 ex101
  refine zz_istore M [(4, .int x101), (0, .ref (ad 0)), (1, .int x1), (2, .int x2), (3, .int x3)] dX8_nextBy_6 (by decide) rfl ?_
  refine zz_iload M 0 dX8_nextBy_8 rfl ?_
  refine zz_if_ne (y0 := 0) M 21 dX8_nextBy_10 (by decide) (fun c => ?_) (fun c => ?_)
  · have h := zifn (c := x101 = 0) h c
    refine zz_iload M 0 dX8_nextBy_21 rfl ?_
    refine zz_iconst (v := 2) M dX8_nextBy_23 (by decide) ?_
    refine zz_icmp_eq M 45 dX8_nextBy_24 (by decide) (fun c => ?_) (fun c => ?_)
    · have h := zif (c := x101 = 2) h c
      refine zz_aload_n M 1 dX8_nextBy_45 rfl rfl ?_
      refine zz_iload_n M 3 dX8_nextBy_46 rfl rfl ?_
      refine zz_callVI (d' := 3) (As := [.int x2]) (rest := []) M l_X8_408 tM_0 rfl rfl dX8_nextBy_47 rfl rfl (by decide) (Nat.le_of_ble_eq_true rfl) (by have hI := M.2.2.2.2.2.2.2.2; exact kX8_marketNext hI _  _ _ h) (fun r102 σ103 h => ?_)
      exact zz_iret M dX8_nextBy_50 h
    · have h := zifn (c := x101 = 2) h c
      refine zz_iload M 0 dX8_nextBy_27 rfl ?_
      refine zz_iconst (v := 4) M dX8_nextBy_29 (by decide) ?_
      refine zz_icmp_ne M 51 dX8_nextBy_30 (by decide) (fun c => ?_) (fun c => ?_)
      · have h := zifn (c := x101 = 4) h c
        refine zz_iload M 0 dX8_nextBy_51 rfl ?_
        refine zz_iconst (v := 4) M dX8_nextBy_53 (by decide) ?_
        refine zz_icmp_ne M 63 dX8_nextBy_54 (by decide) (fun c => ?_) (fun c => ?_)
        · have h := zifn (c := x101 = 4) h c
          refine zz_iload M 0 dX8_nextBy_63 rfl ?_
          refine zz_iconst (v := 3) M dX8_nextBy_65 (by decide) ?_
          refine zz_icmp_ne M 87 dX8_nextBy_66 (by decide) (fun c => ?_) (fun c => ?_)
          · have h := zifn (c := x101 = 3) h c
            refine zz_iload M 0 dX8_nextBy_87 rfl ?_
            refine zz_iconst (v := 5) M dX8_nextBy_89 (by decide) ?_
            refine zz_icmp_ne M 103 dX8_nextBy_90 (by decide) (fun c => ?_) (fun c => ?_)
            · have h := zifn (c := x101 = 5) h c
              refine zz_iconst (v := 0) M dX8_nextBy_103 (by decide) ?_
              refine zz_istore M [(5, .int 0), (4, .int x101), (0, .ref (ad 0)), (1, .int x1), (2, .int x2), (3, .int x3)] dX8_nextBy_104 (by decide) rfl ?_
              refine zz_iload M 0 dX8_nextBy_106 rfl ?_
              refine zz_if_eq (y0 := 0) M 115 dX8_nextBy_108 (by decide) (fun c => ?_) (fun c => absurd c (by decide))
              refine zz_aload_n M 2 dX8_nextBy_115 rfl rfl ?_
              refine zz_iload_n M 3 dX8_nextBy_116 rfl rfl ?_
              refine zz_iload_n M 4 dX8_nextBy_117 rfl rfl ?_
              refine zz_iload_n M 5 dX8_nextBy_118 rfl rfl ?_
              refine zz_callVI (d' := 3) (As := [.int x1, .int x2, .int x3]) (rest := []) M l_X8_414 tM_0 rfl rfl dX8_nextBy_119 rfl rfl (by decide) (Nat.le_of_ble_eq_true rfl) (by have hI := M.2.2.2.2.2.2.2.2; exact kX8_tideNext hI _ _ _  _ _ h) (fun r104 σ105 h => ?_)
              exact zz_iret M dX8_nextBy_122 h
            · have h := zif (c := x101 = 5) h c
              refine zz_iload_n M 3 dX8_nextBy_93 rfl rfl ?_
              refine zz_iconst (v := 3) M dX8_nextBy_94 (by decide) ?_
              refine zz_irem M dX8_nextBy_95 (by decide) ?_
              refine zz_if_eq (y0 := 0) M 103 dX8_nextBy_96 (by decide) (fun c => ?_) (fun c => ?_)
              · have h := zif (c := (x2 - x2 / 3 * 3) = 0) h c
                refine zz_iconst (v := 0) M dX8_nextBy_103 (by decide) ?_
                refine zz_istore M [(5, .int 0), (4, .int x101), (0, .ref (ad 0)), (1, .int x1), (2, .int x2), (3, .int x3)] dX8_nextBy_104 (by decide) rfl ?_
                refine zz_iload M 0 dX8_nextBy_106 rfl ?_
                refine zz_if_eq (y0 := 0) M 115 dX8_nextBy_108 (by decide) (fun c => ?_) (fun c => absurd c (by decide))
                refine zz_aload_n M 2 dX8_nextBy_115 rfl rfl ?_
                refine zz_iload_n M 3 dX8_nextBy_116 rfl rfl ?_
                refine zz_iload_n M 4 dX8_nextBy_117 rfl rfl ?_
                refine zz_iload_n M 5 dX8_nextBy_118 rfl rfl ?_
                refine zz_callVI (d' := 3) (As := [.int x1, .int x2, .int x3]) (rest := []) M l_X8_414 tM_0 rfl rfl dX8_nextBy_119 rfl rfl (by decide) (Nat.le_of_ble_eq_true rfl) (by have hI := M.2.2.2.2.2.2.2.2; exact kX8_tideNext hI _ _ _  _ _ h) (fun r106 σ107 h => ?_)
                exact zz_iret M dX8_nextBy_122 h
              · have h := zifn (c := (x2 - x2 / 3 * 3) = 0) h c
                refine zz_iconst (v := 1) M dX8_nextBy_99 (by decide) ?_
                refine zz_goto M 104 dX8_nextBy_100 (by decide) ?_
                refine zz_istore M [(5, .int 1), (4, .int x101), (0, .ref (ad 0)), (1, .int x1), (2, .int x2), (3, .int x3)] dX8_nextBy_104 (by decide) rfl ?_
                refine zz_iload M 0 dX8_nextBy_106 rfl ?_
                refine zz_if_eq (y0 := 0) M 115 dX8_nextBy_108 (by decide) (fun c => absurd c (by decide)) (fun c => ?_)
                refine zz_iload_n M 5 dX8_nextBy_111 rfl rfl ?_
                refine zz_goto M 122 dX8_nextBy_112 (by decide) ?_
                exact zz_iret M dX8_nextBy_122 h
          · have h := zif (c := x101 = 3) h c
            refine zz_aload_n M 1 dX8_nextBy_69 rfl rfl ?_
            refine zz_iconst (v := 0) M dX8_nextBy_70 (by decide) ?_
            refine zz_iload_n M 4 dX8_nextBy_71 rfl rfl ?_
            refine zz_iload_n M 3 dX8_nextBy_72 rfl rfl ?_
            refine zz_callVI (d' := 2) (As := [.int 0, .int x3, .int x2]) (rest := []) M l_X8_402 tM_0 rfl rfl dX8_nextBy_73 rfl rfl (by decide) (Nat.le_of_ble_eq_true rfl) (by have hI := M.2.2.2.2.2.2.2.2; exact kX8_waits hI _ _ _  _ _ h) (fun r108 σ109 h => ?_)
            refine zz_if_le (y0 := 0) M 83 dX8_nextBy_76 (by decide) (fun c => ?_) (fun c => ?_)
            · have h := zif (c := r108 ≤ 0) h c
              refine zz_iconst (v := 0) M dX8_nextBy_83 (by decide) ?_
              refine zz_goto M 104 dX8_nextBy_84 (by decide) ?_
              refine zz_istore M [(5, .int 0), (4, .int x101), (0, .ref (ad 0)), (1, .int x1), (2, .int x2), (3, .int x3)] dX8_nextBy_104 (by decide) rfl ?_
              refine zz_iload M 0 dX8_nextBy_106 rfl ?_
              refine zz_if_eq (y0 := 0) M 115 dX8_nextBy_108 (by decide) (fun c => ?_) (fun c => absurd c (by decide))
              refine zz_aload_n M 2 dX8_nextBy_115 rfl rfl ?_
              refine zz_iload_n M 3 dX8_nextBy_116 rfl rfl ?_
              refine zz_iload_n M 4 dX8_nextBy_117 rfl rfl ?_
              refine zz_iload_n M 5 dX8_nextBy_118 rfl rfl ?_
              refine zz_callVI (d' := 3) (As := [.int x1, .int x2, .int x3]) (rest := []) M l_X8_414 tM_0 rfl rfl dX8_nextBy_119 rfl rfl (by decide) (Nat.le_of_ble_eq_true rfl) (by have hI := M.2.2.2.2.2.2.2.2; exact kX8_tideNext hI _ _ _  _ _ h) (fun r110 σ111 h => ?_)
              exact zz_iret M dX8_nextBy_122 h
            · have h := zifn (c := r108 ≤ 0) h c
              refine zz_iconst (v := 1) M dX8_nextBy_79 (by decide) ?_
              refine zz_goto M 104 dX8_nextBy_80 (by decide) ?_
              refine zz_istore M [(5, .int 1), (4, .int x101), (0, .ref (ad 0)), (1, .int x1), (2, .int x2), (3, .int x3)] dX8_nextBy_104 (by decide) rfl ?_
              refine zz_iload M 0 dX8_nextBy_106 rfl ?_
              refine zz_if_eq (y0 := 0) M 115 dX8_nextBy_108 (by decide) (fun c => absurd c (by decide)) (fun c => ?_)
              refine zz_iload_n M 5 dX8_nextBy_111 rfl rfl ?_
              refine zz_goto M 122 dX8_nextBy_112 (by decide) ?_
              exact zz_iret M dX8_nextBy_122 h
        · have h := zif (c := x101 = 4) h c
          refine zz_aload_n M 1 dX8_nextBy_57 rfl rfl ?_
          refine zz_iload_n M 3 dX8_nextBy_58 rfl rfl ?_
          refine zz_callVI (d' := 3) (As := [.int x2]) (rest := []) M l_X8_411 tM_0 rfl rfl dX8_nextBy_59 rfl rfl (by decide) (Nat.le_of_ble_eq_true rfl) (by have hI := M.2.2.2.2.2.2.2.2; exact kX8_bestNext hI _  _ _ h) (fun r112 σ113 h => ?_)
          exact zz_iret M dX8_nextBy_62 h
      · have h := zif (c := x101 = 4) h c
        refine zz_aload_n M 1 dX8_nextBy_33 rfl rfl ?_
        refine zz_getR M f_X8_41 tM_0 rfl dX8_nextBy_34 ?_
        refine zz_iload_n M 2 dX8_nextBy_37 rfl rfl ?_
        refine zz_iald M tM_8 h.1 dX8_nextBy_38 ?_
        have h := h.2
        refine zz_iconst (v := 2) M dX8_nextBy_39 (by decide) ?_
        refine zz_irem M dX8_nextBy_40 (by decide) ?_
        refine zz_iconst (v := 1) M dX8_nextBy_41 (by decide) ?_
        refine zz_icmp_ne M 51 dX8_nextBy_42 (by decide) (fun c => ?_) (fun c => ?_)
        · have h := zifn (c := ((σ.1 8 x1.toNatClampNeg) - (σ.1 8 x1.toNatClampNeg) / 2 * 2) = 1) h c
          refine zz_iload M 0 dX8_nextBy_51 rfl ?_
          refine zz_iconst (v := 4) M dX8_nextBy_53 (by decide) ?_
          refine zz_icmp_ne M 63 dX8_nextBy_54 (by decide) (fun c => ?_) (fun c => ?_)
          · have h := zifn (c := x101 = 4) h c
            refine zz_iload M 0 dX8_nextBy_63 rfl ?_
            refine zz_iconst (v := 3) M dX8_nextBy_65 (by decide) ?_
            refine zz_icmp_ne M 87 dX8_nextBy_66 (by decide) (fun c => ?_) (fun c => ?_)
            · have h := zifn (c := x101 = 3) h c
              refine zz_iload M 0 dX8_nextBy_87 rfl ?_
              refine zz_iconst (v := 5) M dX8_nextBy_89 (by decide) ?_
              refine zz_icmp_ne M 103 dX8_nextBy_90 (by decide) (fun c => ?_) (fun c => ?_)
              · have h := zifn (c := x101 = 5) h c
                refine zz_iconst (v := 0) M dX8_nextBy_103 (by decide) ?_
                refine zz_istore M [(5, .int 0), (4, .int x101), (0, .ref (ad 0)), (1, .int x1), (2, .int x2), (3, .int x3)] dX8_nextBy_104 (by decide) rfl ?_
                refine zz_iload M 0 dX8_nextBy_106 rfl ?_
                refine zz_if_eq (y0 := 0) M 115 dX8_nextBy_108 (by decide) (fun c => ?_) (fun c => absurd c (by decide))
                refine zz_aload_n M 2 dX8_nextBy_115 rfl rfl ?_
                refine zz_iload_n M 3 dX8_nextBy_116 rfl rfl ?_
                refine zz_iload_n M 4 dX8_nextBy_117 rfl rfl ?_
                refine zz_iload_n M 5 dX8_nextBy_118 rfl rfl ?_
                refine zz_callVI (d' := 3) (As := [.int x1, .int x2, .int x3]) (rest := []) M l_X8_414 tM_0 rfl rfl dX8_nextBy_119 rfl rfl (by decide) (Nat.le_of_ble_eq_true rfl) (by have hI := M.2.2.2.2.2.2.2.2; exact kX8_tideNext hI _ _ _  _ _ h) (fun r114 σ115 h => ?_)
                exact zz_iret M dX8_nextBy_122 h
              · have h := zif (c := x101 = 5) h c
                refine zz_iload_n M 3 dX8_nextBy_93 rfl rfl ?_
                refine zz_iconst (v := 3) M dX8_nextBy_94 (by decide) ?_
                refine zz_irem M dX8_nextBy_95 (by decide) ?_
                refine zz_if_eq (y0 := 0) M 103 dX8_nextBy_96 (by decide) (fun c => ?_) (fun c => ?_)
                · have h := zif (c := (x2 - x2 / 3 * 3) = 0) h c
                  refine zz_iconst (v := 0) M dX8_nextBy_103 (by decide) ?_
                  refine zz_istore M [(5, .int 0), (4, .int x101), (0, .ref (ad 0)), (1, .int x1), (2, .int x2), (3, .int x3)] dX8_nextBy_104 (by decide) rfl ?_
                  refine zz_iload M 0 dX8_nextBy_106 rfl ?_
                  refine zz_if_eq (y0 := 0) M 115 dX8_nextBy_108 (by decide) (fun c => ?_) (fun c => absurd c (by decide))
                  refine zz_aload_n M 2 dX8_nextBy_115 rfl rfl ?_
                  refine zz_iload_n M 3 dX8_nextBy_116 rfl rfl ?_
                  refine zz_iload_n M 4 dX8_nextBy_117 rfl rfl ?_
                  refine zz_iload_n M 5 dX8_nextBy_118 rfl rfl ?_
                  refine zz_callVI (d' := 3) (As := [.int x1, .int x2, .int x3]) (rest := []) M l_X8_414 tM_0 rfl rfl dX8_nextBy_119 rfl rfl (by decide) (Nat.le_of_ble_eq_true rfl) (by have hI := M.2.2.2.2.2.2.2.2; exact kX8_tideNext hI _ _ _  _ _ h) (fun r116 σ117 h => ?_)
                  exact zz_iret M dX8_nextBy_122 h
                · have h := zifn (c := (x2 - x2 / 3 * 3) = 0) h c
                  refine zz_iconst (v := 1) M dX8_nextBy_99 (by decide) ?_
                  refine zz_goto M 104 dX8_nextBy_100 (by decide) ?_
                  refine zz_istore M [(5, .int 1), (4, .int x101), (0, .ref (ad 0)), (1, .int x1), (2, .int x2), (3, .int x3)] dX8_nextBy_104 (by decide) rfl ?_
                  refine zz_iload M 0 dX8_nextBy_106 rfl ?_
                  refine zz_if_eq (y0 := 0) M 115 dX8_nextBy_108 (by decide) (fun c => absurd c (by decide)) (fun c => ?_)
                  refine zz_iload_n M 5 dX8_nextBy_111 rfl rfl ?_
                  refine zz_goto M 122 dX8_nextBy_112 (by decide) ?_
                  exact zz_iret M dX8_nextBy_122 h
            · have h := zif (c := x101 = 3) h c
              refine zz_aload_n M 1 dX8_nextBy_69 rfl rfl ?_
              refine zz_iconst (v := 0) M dX8_nextBy_70 (by decide) ?_
              refine zz_iload_n M 4 dX8_nextBy_71 rfl rfl ?_
              refine zz_iload_n M 3 dX8_nextBy_72 rfl rfl ?_
              refine zz_callVI (d' := 2) (As := [.int 0, .int x3, .int x2]) (rest := []) M l_X8_402 tM_0 rfl rfl dX8_nextBy_73 rfl rfl (by decide) (Nat.le_of_ble_eq_true rfl) (by have hI := M.2.2.2.2.2.2.2.2; exact kX8_waits hI _ _ _  _ _ h) (fun r118 σ119 h => ?_)
              refine zz_if_le (y0 := 0) M 83 dX8_nextBy_76 (by decide) (fun c => ?_) (fun c => ?_)
              · have h := zif (c := r118 ≤ 0) h c
                refine zz_iconst (v := 0) M dX8_nextBy_83 (by decide) ?_
                refine zz_goto M 104 dX8_nextBy_84 (by decide) ?_
                refine zz_istore M [(5, .int 0), (4, .int x101), (0, .ref (ad 0)), (1, .int x1), (2, .int x2), (3, .int x3)] dX8_nextBy_104 (by decide) rfl ?_
                refine zz_iload M 0 dX8_nextBy_106 rfl ?_
                refine zz_if_eq (y0 := 0) M 115 dX8_nextBy_108 (by decide) (fun c => ?_) (fun c => absurd c (by decide))
                refine zz_aload_n M 2 dX8_nextBy_115 rfl rfl ?_
                refine zz_iload_n M 3 dX8_nextBy_116 rfl rfl ?_
                refine zz_iload_n M 4 dX8_nextBy_117 rfl rfl ?_
                refine zz_iload_n M 5 dX8_nextBy_118 rfl rfl ?_
                refine zz_callVI (d' := 3) (As := [.int x1, .int x2, .int x3]) (rest := []) M l_X8_414 tM_0 rfl rfl dX8_nextBy_119 rfl rfl (by decide) (Nat.le_of_ble_eq_true rfl) (by have hI := M.2.2.2.2.2.2.2.2; exact kX8_tideNext hI _ _ _  _ _ h) (fun r120 σ121 h => ?_)
                exact zz_iret M dX8_nextBy_122 h
              · have h := zifn (c := r118 ≤ 0) h c
                refine zz_iconst (v := 1) M dX8_nextBy_79 (by decide) ?_
                refine zz_goto M 104 dX8_nextBy_80 (by decide) ?_
                refine zz_istore M [(5, .int 1), (4, .int x101), (0, .ref (ad 0)), (1, .int x1), (2, .int x2), (3, .int x3)] dX8_nextBy_104 (by decide) rfl ?_
                refine zz_iload M 0 dX8_nextBy_106 rfl ?_
                refine zz_if_eq (y0 := 0) M 115 dX8_nextBy_108 (by decide) (fun c => absurd c (by decide)) (fun c => ?_)
                refine zz_iload_n M 5 dX8_nextBy_111 rfl rfl ?_
                refine zz_goto M 122 dX8_nextBy_112 (by decide) ?_
                exact zz_iret M dX8_nextBy_122 h
          · have h := zif (c := x101 = 4) h c
            refine zz_aload_n M 1 dX8_nextBy_57 rfl rfl ?_
            refine zz_iload_n M 3 dX8_nextBy_58 rfl rfl ?_
            refine zz_callVI (d' := 3) (As := [.int x2]) (rest := []) M l_X8_411 tM_0 rfl rfl dX8_nextBy_59 rfl rfl (by decide) (Nat.le_of_ble_eq_true rfl) (by have hI := M.2.2.2.2.2.2.2.2; exact kX8_bestNext hI _  _ _ h) (fun r122 σ123 h => ?_)
            exact zz_iret M dX8_nextBy_62 h
        · have h := zif (c := ((σ.1 8 x1.toNatClampNeg) - (σ.1 8 x1.toNatClampNeg) / 2 * 2) = 1) h c
          refine zz_aload_n M 1 dX8_nextBy_45 rfl rfl ?_
          refine zz_iload_n M 3 dX8_nextBy_46 rfl rfl ?_
          refine zz_callVI (d' := 3) (As := [.int x2]) (rest := []) M l_X8_408 tM_0 rfl rfl dX8_nextBy_47 rfl rfl (by decide) (Nat.le_of_ble_eq_true rfl) (by have hI := M.2.2.2.2.2.2.2.2; exact kX8_marketNext hI _  _ _ h) (fun r124 σ125 h => ?_)
          exact zz_iret M dX8_nextBy_50 h
  · have h := zif (c := x101 = 0) h c
    refine zz_aload_n M 1 dX8_nextBy_13 rfl rfl ?_
    refine zz_iload_n M 2 dX8_nextBy_14 rfl rfl ?_
    refine zz_iload_n M 3 dX8_nextBy_15 rfl rfl ?_
    refine zz_iload_n M 4 dX8_nextBy_16 rfl rfl ?_
    refine zz_callVI (d' := 1) (As := [.int x1, .int x2, .int x3]) (rest := []) M l_X8_405 tM_0 rfl rfl dX8_nextBy_17 rfl rfl (by decide) (Nat.le_of_ble_eq_true rfl) (by have hI := M.2.2.2.2.2.2.2.2; exact kX8_plainNext hI _ _ _  _ _ h) (fun r126 σ127 h => ?_)
    exact zz_iret M dX8_nextBy_20 h
def wX8_runs_L2 (Q : zSt → Prop) (K42 : zSt → Prop) (x1 : Int32) : Nat → Int32 → zSt → Prop
  | 0, _, _ => False
  | n + 1, x2, σ => if 24 ≤ x2 then (K42  σ) else (if x2 = 0 then (wX8_nextBy x1 x2 0 σ (fun r106 σ107 => vp_in x2 24 ∧ (∀ σ108 : zSt, σ108 = zput σ107 10 x2.toNatClampNeg r106 → (∀ x109 : Int32, x109 = x2 + 1 → (wX8_runs_L2 Q K42 x1 n x109 σ108))))) else (vp_in (x2 - 1) 24 ∧ (∀ a101 : Int32, a101 = (σ.1 10 (x2 - 1 : Int32).toNatClampNeg) → (wX8_nextBy x1 x2 a101 σ (fun r102 σ103 => vp_in x2 24 ∧ (∀ σ104 : zSt, σ104 = zput σ103 10 x2.toNatClampNeg r102 → (∀ x105 : Int32, x105 = x2 + 1 → (wX8_runs_L2 Q K42 x1 n x105 σ104))))))))
set_option maxRecDepth 20000 in
set_option maxHeartbeats 4000000 in
theorem sX8_runs_L2 {Q : zSt → Prop} {K42 : zSt → Prop} (x1 : Int32)  (M : zM p s m args meth c cX8_runs 3 RX8 none tabM D cA ad y) (hK42 : ∀ (σ : zSt), K42  σ → zG p l e (zrm 5) s m args below meth c 3 tabM D cA ad (MQ below (va_Qv Q (fun σ' t => va_P D vwCl (zws tabM cA ad σ') t.heap) (zIn tabM ad)) args s 0 0 (zIn tabM ad)) 42 [] [] σ) : ∀ (n : Nat) (x2 : Int32) (σ : zSt), wX8_runs_L2 Q K42 x1 n x2 σ → zG p l e (zrm 5) s m args below meth c 3 tabM D cA ad (MQ below (va_Qv Q (fun σ' t => va_P D vwCl (zws tabM cA ad σ') t.heap) (zIn tabM ad)) args s 0 0 (zIn tabM ad)) 2 [(0, .ref (ad 0)), (1, .int x1), (2, .int x2)] [] σ := by
  intro n
  induction n with
  | zero => intro x2 σ h; exact absurd h (by simp [wX8_runs_L2])
  | succ n ih =>
    intro x2 σ h
    unfold wX8_runs_L2 at h
    refine zz_iload_n M 2 dX8_runs_2 rfl rfl ?_
    refine zz_bipush (v := 24) M dX8_runs_3 (by decide) ?_
    refine zz_icmp_ge M 42 dX8_runs_5 (by decide) (fun c => ?_) (fun c => ?_)
    · have h := zif (c := 24 ≤ x2) h c
      refine zz_sub [] [] rfl ?_
      exact hK42  _ h
    · have h := zifn (c := 24 ≤ x2) h c
      refine zz_aload_n M 0 dX8_runs_8 rfl rfl ?_
      refine zz_getR M f_X8_47 tM_0 rfl dX8_runs_9 ?_
      refine zz_iload_n M 2 dX8_runs_12 rfl rfl ?_
      refine zz_aload_n M 0 dX8_runs_13 rfl rfl ?_
      refine zz_iload_n M 1 dX8_runs_14 rfl rfl ?_
      refine zz_iload_n M 2 dX8_runs_15 rfl rfl ?_
      refine zz_iload_n M 2 dX8_runs_16 rfl rfl ?_
      refine zz_if_ne (y0 := 0) M 24 dX8_runs_17 (by decide) (fun c => ?_) (fun c => ?_)
      · have h := zifn (c := x2 = 0) h c
        refine zz_aload_n M 0 dX8_runs_24 rfl rfl ?_
        refine zz_getR M f_X8_47 tM_0 rfl dX8_runs_25 ?_
        refine zz_iload_n M 2 dX8_runs_28 rfl rfl ?_
        refine zz_iconst (v := 1) M dX8_runs_29 (by decide) ?_
        refine zz_isub M dX8_runs_30 ?_
        refine zz_iald M tM_10 h.1 dX8_runs_31 ?_
        have h := h.2
        obtain ⟨a101, ea101⟩ : ∃ z : Int32, z = (σ.1 10 (x2 - 1 : Int32).toNatClampNeg) := ⟨_, rfl⟩
        have h := h a101 ea101
        refine zz_st [.int a101, .int x2, .int x1, .ref (ad 0), .int x2, .ref (ad 10)] (by rw [ea101]) ?_
        refine zz_callVI (d' := 4) (As := [.int x1, .int x2, .int a101]) (rest := [.int x2, .ref (ad 10)]) M l_X8_417 tM_0 rfl rfl dX8_runs_32 rfl rfl (by decide) (Nat.le_of_ble_eq_true rfl) (by have hI := M.2.2.2.2.2.2.2.2; exact kX8_nextBy hI _ _ _  _ _ h) (fun r102 σ103 h => ?_)
        refine zz_iast M tM_10 h.1 dX8_runs_35 ?_
        have h := h.2
        refine zz_sg (fun σ104 eσ104 => ?_)
        have h := h σ104 eσ104
        obtain ⟨x105, ex105⟩ : ∃ z : Int32, z = x2 + 1 := ⟨_, rfl⟩
        have h := h x105 ex105
        refine zz_iinc M [(2, .int x105), (0, .ref (ad 0)), (1, .int x1)] 2 dX8_runs_36 rfl (n32 := 1) (by decide) ex105 (by decide) rfl ?_
        refine zz_goto M 2 dX8_runs_39 (by decide) ?_
        refine zz_sub [(0, .ref (ad 0)), (1, .int x1), (2, .int x105)] [1, 2, 0] rfl ?_
        exact ih _ _ h
      · have h := zif (c := x2 = 0) h c
        refine zz_iconst (v := 0) M dX8_runs_20 (by decide) ?_
        refine zz_goto M 32 dX8_runs_21 (by decide) ?_
        refine zz_callVI (d' := 4) (As := [.int x1, .int x2, .int 0]) (rest := [.int x2, .ref (ad 10)]) M l_X8_417 tM_0 rfl rfl dX8_runs_32 rfl rfl (by decide) (Nat.le_of_ble_eq_true rfl) (by have hI := M.2.2.2.2.2.2.2.2; exact kX8_nextBy hI _ _ _  _ _ h) (fun r106 σ107 h => ?_)
        refine zz_iast M tM_10 h.1 dX8_runs_35 ?_
        have h := h.2
        refine zz_sg (fun σ108 eσ108 => ?_)
        have h := h σ108 eσ108
        obtain ⟨x109, ex109⟩ : ∃ z : Int32, z = x2 + 1 := ⟨_, rfl⟩
        have h := h x109 ex109
        refine zz_iinc M [(2, .int x109), (0, .ref (ad 0)), (1, .int x1)] 2 dX8_runs_36 rfl (n32 := 1) (by decide) ex109 (by decide) rfl ?_
        refine zz_goto M 2 dX8_runs_39 (by decide) ?_
        refine zz_sub [(0, .ref (ad 0)), (1, .int x1), (2, .int x109)] [1, 2, 0] rfl ?_
        exact ih _ _ h
def wX8_runs (x1 : Int32) (σ : zSt) (Q : zSt → Prop) : Prop := wX8_runs_L2 Q (fun  σ110 => Q σ110) x1 300 0 σ
set_option maxRecDepth 20000 in
set_option maxHeartbeats 4000000 in
theorem kX8_runs (hI : zInj tabM ad) (x1 : Int32)  (σ : zSt) (Q : zSt → Prop) (h : wX8_runs x1 σ Q) : zOkV l tabM D cA ad y 5 yX8_runs cX8_runs 3 none [.ref (ad 0), .int x1] σ Q := by
  refine zz_enter hI (by decide) (Nat.le_of_ble_eq_true rfl) (fun p e s m below meth c M => ?_)
  have M : zM p s m _ meth c cX8_runs 3 RX8 none tabM D cA ad y := M
  refine zz_ls [(0, .ref (ad 0)), (1, .int x1)] rfl ?_
  unfold wX8_runs at h
  refine zz_iconst (v := 0) M dX8_runs_0 (by decide) ?_
  refine zz_istore_n M [(2, .int 0), (0, .ref (ad 0)), (1, .int x1)] dX8_runs_1 rfl (by decide) rfl ?_
  refine zz_sub [(0, .ref (ad 0)), (1, .int x1), (2, .int 0)] [1, 2, 0] rfl ?_
  refine sX8_runs_L2 x1  M (fun  σ110 h => ?_) 300 _ _ h
  exact zz_vret M dX8_runs_42 h
def wX8_run (x1 : Int32) (x2 : Int32) (σ : zSt) (Q : Int32 → zSt → Prop) : Prop := ∀ a101 : Int64, a101 = ((x1 : Int32).toInt64) → (∀ a102 : Int64, a102 = (((σ.1 0 16) - 1 : Int32).toInt64) → (wX8_in a101 0 a102 σ (fun r103 σ104 => if r103 = 0 then (Q (-2) σ104) else (∀ a105 : Int64, a105 = ((x2 : Int32).toInt64) → (wX8_in a105 (-1) 23 σ104 (fun r106 σ107 => if r106 = 0 then (Q (-2) σ107) else (wX8_runs x1 σ107 (fun σ109 => if x2 = (-1) then (wX8_rowCost  σ109 (fun r110 σ111 => Q r110 σ111)) else (vp_in x2 24 ∧ (Q (σ109.1 10 x2.toNatClampNeg) σ109))))))))))
set_option maxRecDepth 20000 in
set_option maxHeartbeats 4000000 in
theorem kX8_run (hI : zInj tabM ad) (x1 : Int32) (x2 : Int32)  (σ : zSt) (Q : Int32 → zSt → Prop) (h : wX8_run x1 x2 σ Q) : zOkI l tabM D cA ad y 45 yX8_run cX8_run 3 (some .int) [.ref (ad 0), .int x1, .int x2] σ Q := by
  refine zz_enter hI (by decide) (Nat.le_of_ble_eq_true rfl) (fun p e s m below meth c M => ?_)
  have M : zM p s m _ meth c cX8_run 3 RX8 (some .int) tabM D cA ad y := M
  refine zz_ls [(0, .ref (ad 0)), (1, .int x1), (2, .int x2)] rfl ?_
  unfold wX8_run at h
  refine zz_iload_n M 1 dX8_run_0 rfl rfl ?_
  refine zz_i2l M dX8_run_1 ?_
  refine zz_lconst (v := 0) M dX8_run_2 (by decide) ?_
  refine zz_aload_n M 0 dX8_run_3 rfl rfl ?_
  refine zz_getI M f_X8_114 tM_0 rfl dX8_run_4 ?_
  refine zz_iconst (v := 1) M dX8_run_7 (by decide) ?_
  refine zz_isub M dX8_run_8 ?_
  refine zz_i2l M dX8_run_9 ?_
  obtain ⟨a101, ea101⟩ : ∃ z : Int64, z = ((x1 : Int32).toInt64) := ⟨_, rfl⟩
  have h := h a101 ea101
  obtain ⟨a102, ea102⟩ : ∃ z : Int64, z = (((σ.1 0 16) - 1 : Int32).toInt64) := ⟨_, rfl⟩
  have h := h a102 ea102
  refine zz_st [.long a102, .long 0, .long a101] (by rw [ea101, ea102]) ?_
  refine zz_callSI (d' := 1) (As := [.long a101, .long 0, .long a102]) (rest := []) M l_X8_92 dX8_run_10 rfl rfl (by decide) (Nat.le_of_ble_eq_true rfl) (by have hI := M.2.2.2.2.2.2.2.2; exact kX8_in hI _ _ _  _ _ h) (fun r103 σ104 h => ?_)
  refine zz_if_eq (y0 := 0) M 30 dX8_run_13 (by decide) (fun c => ?_) (fun c => ?_)
  · have h := zif (c := r103 = 0) h c
    refine zz_bipush (v := (-2)) M dX8_run_30 (by decide) ?_
    exact zz_iret M dX8_run_32 h
  · have h := zifn (c := r103 = 0) h c
    refine zz_iload_n M 2 dX8_run_16 rfl rfl ?_
    refine zz_i2l M dX8_run_17 ?_
    refine zz_ldc2 (v := (-1)) M k_X8_420 dX8_run_18 ?_
    refine zz_ldc2 (v := 23) M k_X8_112 dX8_run_21 ?_
    obtain ⟨a105, ea105⟩ : ∃ z : Int64, z = ((x2 : Int32).toInt64) := ⟨_, rfl⟩
    have h := h a105 ea105
    refine zz_st [.long 23, .long (-1), .long a105] (by rw [ea105]) ?_
    refine zz_callSI (d' := 1) (As := [.long a105, .long (-1), .long 23]) (rest := []) M l_X8_92 dX8_run_24 rfl rfl (by decide) (Nat.le_of_ble_eq_true rfl) (by have hI := M.2.2.2.2.2.2.2.2; exact kX8_in hI _ _ _  _ _ h) (fun r106 σ107 h => ?_)
    refine zz_if_ne (y0 := 0) M 33 dX8_run_27 (by decide) (fun c => ?_) (fun c => ?_)
    · have h := zifn (c := r106 = 0) h c
      refine zz_aload_n M 0 dX8_run_33 rfl rfl ?_
      refine zz_iload_n M 1 dX8_run_34 rfl rfl ?_
      refine zz_callVV (d' := 5) (As := [.int x1]) (rest := []) M l_X8_422 tM_0 rfl rfl dX8_run_35 rfl rfl (by decide) (Nat.le_of_ble_eq_true rfl) (by have hI := M.2.2.2.2.2.2.2.2; exact kX8_runs hI _  _ _ h) (fun σ109 h => ?_)
      refine zz_iload_n M 2 dX8_run_38 rfl rfl ?_
      refine zz_iconst (v := (-1)) M dX8_run_39 (by decide) ?_
      refine zz_icmp_ne M 50 dX8_run_40 (by decide) (fun c => ?_) (fun c => ?_)
      · have h := zifn (c := x2 = (-1)) h c
        refine zz_aload_n M 0 dX8_run_50 rfl rfl ?_
        refine zz_getR M f_X8_47 tM_0 rfl dX8_run_51 ?_
        refine zz_iload_n M 2 dX8_run_54 rfl rfl ?_
        refine zz_iald M tM_10 h.1 dX8_run_55 ?_
        have h := h.2
        exact zz_iret M dX8_run_56 h
      · have h := zif (c := x2 = (-1)) h c
        refine zz_aload_n M 0 dX8_run_43 rfl rfl ?_
        refine zz_callVI (d' := 44) (As := []) (rest := []) M l_X8_359 tM_0 rfl rfl dX8_run_44 rfl rfl (by decide) (Nat.le_of_ble_eq_true rfl) (by have hI := M.2.2.2.2.2.2.2.2; exact kX8_rowCost hI   _ _ h) (fun r110 σ111 h => ?_)
        refine zz_goto M 56 dX8_run_47 (by decide) ?_
        exact zz_iret M dX8_run_56 h
    · have h := zif (c := r106 = 0) h c
      refine zz_bipush (v := (-2)) M dX8_run_30 (by decide) ?_
      exact zz_iret M dX8_run_32 h
def wX8_follow_L26 (Q : Int32 → zSt → Prop) (K50 : zSt → Prop)  : Nat → Int32 → zSt → Prop
  | 0, _, _ => False
  | n + 1, x2, σ => if 24 ≤ x2 then (K50  σ) else (vp_in x2 24 ∧ (vp_in x2 24 ∧ (∀ σ107 : zSt, σ107 = zput σ 9 x2.toNatClampNeg (σ.1 10 x2.toNatClampNeg) → (∀ x108 : Int32, x108 = x2 + 1 → (wX8_follow_L26 Q K50  n x108 σ107)))))
set_option maxRecDepth 20000 in
set_option maxHeartbeats 4000000 in
theorem sX8_follow_L26 {Q : Int32 → zSt → Prop} {K50 : zSt → Prop}   (M : zM p s m args meth c cX8_follow 3 RX8 (some .int) tabM D cA ad y) (hK50 : ∀ (σ : zSt), K50  σ → zG p l e (zrm 45) s m args below meth c 3 tabM D cA ad (MQ below (va_Qi Q (fun σ' t => va_P D vwCl (zws tabM cA ad σ') t.heap) (zIn tabM ad)) args s 0 0 (zIn tabM ad)) 50 [(0, .ref (ad 0))] [] σ) : ∀ (n : Nat) (x2 : Int32) (σ : zSt), wX8_follow_L26 Q K50  n x2 σ → zG p l e (zrm 45) s m args below meth c 3 tabM D cA ad (MQ below (va_Qi Q (fun σ' t => va_P D vwCl (zws tabM cA ad σ') t.heap) (zIn tabM ad)) args s 0 0 (zIn tabM ad)) 26 [(0, .ref (ad 0)), (2, .int x2)] [] σ := by
  intro n
  induction n with
  | zero => intro x2 σ h; exact absurd h (by simp [wX8_follow_L26])
  | succ n ih =>
    intro x2 σ h
    unfold wX8_follow_L26 at h
    refine zz_iload_n M 1 dX8_follow_26 rfl rfl ?_
    refine zz_bipush (v := 24) M dX8_follow_27 (by decide) ?_
    refine zz_icmp_ge M 50 dX8_follow_29 (by decide) (fun c => ?_) (fun c => ?_)
    · have h := zif (c := 24 ≤ x2) h c
      refine zz_sub [(0, .ref (ad 0))] [0] rfl ?_
      exact hK50  _ h
    · have h := zifn (c := 24 ≤ x2) h c
      refine zz_aload_n M 0 dX8_follow_32 rfl rfl ?_
      refine zz_getR M f_X8_44 tM_0 rfl dX8_follow_33 ?_
      refine zz_iload_n M 1 dX8_follow_36 rfl rfl ?_
      refine zz_aload_n M 0 dX8_follow_37 rfl rfl ?_
      refine zz_getR M f_X8_47 tM_0 rfl dX8_follow_38 ?_
      refine zz_iload_n M 1 dX8_follow_41 rfl rfl ?_
      refine zz_iald M tM_10 h.1 dX8_follow_42 ?_
      have h := h.2
      refine zz_iast M tM_9 h.1 dX8_follow_43 ?_
      have h := h.2
      refine zz_sg (fun σ107 eσ107 => ?_)
      have h := h σ107 eσ107
      obtain ⟨x108, ex108⟩ : ∃ z : Int32, z = x2 + 1 := ⟨_, rfl⟩
      have h := h x108 ex108
      refine zz_iinc M [(2, .int x108), (0, .ref (ad 0))] 1 dX8_follow_44 rfl (n32 := 1) (by decide) ex108 (by decide) rfl ?_
      refine zz_goto M 26 dX8_follow_47 (by decide) ?_
      refine zz_sub [(0, .ref (ad 0)), (2, .int x108)] [1, 0] rfl ?_
      exact ih _ _ h
def wX8_follow (x1 : Int32) (σ : zSt) (Q : Int32 → zSt → Prop) : Prop := ∀ a101 : Int64, a101 = ((x1 : Int32).toInt64) → (∀ a102 : Int64, a102 = (((σ.1 0 16) - 1 : Int32).toInt64) → (wX8_in a101 0 a102 σ (fun r103 σ104 => if r103 = 0 then (Q (-2) σ104) else (wX8_runs x1 σ104 (fun σ106 => wX8_follow_L26 Q (fun  σ109 => wX8_rowCost  σ109 (fun r110 σ111 => Q r110 σ111))  300 0 σ106)))))
set_option maxRecDepth 20000 in
set_option maxHeartbeats 4000000 in
theorem kX8_follow (hI : zInj tabM ad) (x1 : Int32)  (σ : zSt) (Q : Int32 → zSt → Prop) (h : wX8_follow x1 σ Q) : zOkI l tabM D cA ad y 45 yX8_follow cX8_follow 3 (some .int) [.ref (ad 0), .int x1] σ Q := by
  refine zz_enter hI (by decide) (Nat.le_of_ble_eq_true rfl) (fun p e s m below meth c M => ?_)
  have M : zM p s m _ meth c cX8_follow 3 RX8 (some .int) tabM D cA ad y := M
  refine zz_ls [(0, .ref (ad 0)), (1, .int x1)] rfl ?_
  unfold wX8_follow at h
  refine zz_iload_n M 1 dX8_follow_0 rfl rfl ?_
  refine zz_i2l M dX8_follow_1 ?_
  refine zz_lconst (v := 0) M dX8_follow_2 (by decide) ?_
  refine zz_aload_n M 0 dX8_follow_3 rfl rfl ?_
  refine zz_getI M f_X8_114 tM_0 rfl dX8_follow_4 ?_
  refine zz_iconst (v := 1) M dX8_follow_7 (by decide) ?_
  refine zz_isub M dX8_follow_8 ?_
  refine zz_i2l M dX8_follow_9 ?_
  obtain ⟨a101, ea101⟩ : ∃ z : Int64, z = ((x1 : Int32).toInt64) := ⟨_, rfl⟩
  have h := h a101 ea101
  obtain ⟨a102, ea102⟩ : ∃ z : Int64, z = (((σ.1 0 16) - 1 : Int32).toInt64) := ⟨_, rfl⟩
  have h := h a102 ea102
  refine zz_st [.long a102, .long 0, .long a101] (by rw [ea101, ea102]) ?_
  refine zz_callSI (d' := 1) (As := [.long a101, .long 0, .long a102]) (rest := []) M l_X8_92 dX8_follow_10 rfl rfl (by decide) (Nat.le_of_ble_eq_true rfl) (by have hI := M.2.2.2.2.2.2.2.2; exact kX8_in hI _ _ _  _ _ h) (fun r103 σ104 h => ?_)
  refine zz_if_ne (y0 := 0) M 19 dX8_follow_13 (by decide) (fun c => ?_) (fun c => ?_)
  · have h := zifn (c := r103 = 0) h c
    refine zz_aload_n M 0 dX8_follow_19 rfl rfl ?_
    refine zz_iload_n M 1 dX8_follow_20 rfl rfl ?_
    refine zz_callVV (d' := 5) (As := [.int x1]) (rest := []) M l_X8_422 tM_0 rfl rfl dX8_follow_21 rfl rfl (by decide) (Nat.le_of_ble_eq_true rfl) (by have hI := M.2.2.2.2.2.2.2.2; exact kX8_runs hI _  _ _ h) (fun σ106 h => ?_)
    refine zz_iconst (v := 0) M dX8_follow_24 (by decide) ?_
    refine zz_istore_n M [(2, .int 0), (0, .ref (ad 0)), (1, .int x1)] dX8_follow_25 rfl (by decide) rfl ?_
    refine zz_sub [(0, .ref (ad 0)), (2, .int 0)] [1, 0] rfl ?_
    refine sX8_follow_L26   M (fun  σ109 h => ?_) 300 _ _ h
    refine zz_aload_n M 0 dX8_follow_50 rfl rfl ?_
    refine zz_callVI (d' := 44) (As := []) (rest := []) M l_X8_359 tM_0 rfl rfl dX8_follow_51 rfl rfl (by decide) (Nat.le_of_ble_eq_true rfl) (by have hI := M.2.2.2.2.2.2.2.2; exact kX8_rowCost hI   _ _ h) (fun r110 σ111 h => ?_)
    exact zz_iret M dX8_follow_54 h
  · have h := zif (c := r103 = 0) h c
    refine zz_bipush (v := (-2)) M dX8_follow_16 (by decide) ?_
    exact zz_iret M dX8_follow_18 h
def wX8_off (x0 : Int32) (x1 : Int32) (σ : zSt) (Q : Int32 → zSt → Prop) : Prop := if x1 ≤ x0 then (Q (x0 - x1) σ) else (Q (x1 - x0) σ)
set_option maxRecDepth 20000 in
set_option maxHeartbeats 4000000 in
theorem kX8_off (hI : zInj tabM ad) (x0 : Int32) (x1 : Int32)  (σ : zSt) (Q : Int32 → zSt → Prop) (h : wX8_off x0 x1 σ Q) : zOkI l tabM D cA ad y 1 yX8_off cX8_off 2 (some .int) [.int x0, .int x1] σ Q := by
  refine zz_enter hI (by decide) (Nat.le_of_ble_eq_true rfl) (fun p e s m below meth c M => ?_)
  have M : zM p s m _ meth c cX8_off 2 RX8 (some .int) tabM D cA ad y := M
  refine zz_ls [(0, .int x0), (1, .int x1)] rfl ?_
  unfold wX8_off at h
  refine zz_iload_n M 0 dX8_off_0 rfl rfl ?_
  refine zz_iload_n M 1 dX8_off_1 rfl rfl ?_
  refine zz_icmp_ge M 11 dX8_off_2 (by decide) (fun c => ?_) (fun c => ?_)
  · have h := zif (c := x1 ≤ x0) h c
    refine zz_iload_n M 0 dX8_off_11 rfl rfl ?_
    refine zz_iload_n M 1 dX8_off_12 rfl rfl ?_
    refine zz_isub M dX8_off_13 ?_
    exact zz_iret M dX8_off_14 h
  · have h := zifn (c := x1 ≤ x0) h c
    refine zz_iload_n M 1 dX8_off_5 rfl rfl ?_
    refine zz_iload_n M 0 dX8_off_6 rfl rfl ?_
    refine zz_isub M dX8_off_7 ?_
    refine zz_goto M 14 dX8_off_8 (by decide) ?_
    exact zz_iret M dX8_off_14 h
def wX8_way_L67 (Q : Int32 → zSt → Prop) (K92 : Int32 → zSt → Prop) (x2 : Int32) (x3 : Int32) (x4 : Int32) (x5 : Int32) (x6 : Int32) : Nat → Int32 → zSt → Prop
  | 0, _, _ => False
  | n + 1, x7, σ => if 24 ≤ x7 then (K92 x7 σ) else (vp_in x7 24 ∧ (if (σ.1 9 x7.toNatClampNeg) = x6 then (∀ x111 : Int32, x111 = x7 + 1 → (wX8_way_L67 Q K92 x2 x3 x4 x5 x6 n x111 σ)) else (K92 x7 σ)))
set_option maxRecDepth 20000 in
set_option maxHeartbeats 4000000 in
theorem sX8_way_L67 {Q : Int32 → zSt → Prop} {K92 : Int32 → zSt → Prop} (x2 : Int32) (x3 : Int32) (x4 : Int32) (x5 : Int32) (x6 : Int32)  (M : zM p s m args meth c cX8_way 8 RX8 (some .int) tabM D cA ad y) (hK92 : ∀ (v7 : Int32) (σ : zSt), K92 v7 σ → zG p l e (zrm 3) s m args below meth c 8 tabM D cA ad (MQ below (va_Qi Q (fun σ' t => va_P D vwCl (zws tabM cA ad σ') t.heap) (zIn tabM ad)) args s 0 0 (zIn tabM ad)) 92 [(0, .ref (ad 0)), (2, .int x2), (3, .int x3), (4, .int x4), (5, .int x5), (6, .int x6), (7, .int v7)] [] σ) : ∀ (n : Nat) (x7 : Int32) (σ : zSt), wX8_way_L67 Q K92 x2 x3 x4 x5 x6 n x7 σ → zG p l e (zrm 3) s m args below meth c 8 tabM D cA ad (MQ below (va_Qi Q (fun σ' t => va_P D vwCl (zws tabM cA ad σ') t.heap) (zIn tabM ad)) args s 0 0 (zIn tabM ad)) 67 [(0, .ref (ad 0)), (2, .int x2), (3, .int x3), (4, .int x4), (5, .int x5), (6, .int x6), (7, .int x7)] [] σ := by
  intro n
  induction n with
  | zero => intro x7 σ h; exact absurd h (by simp [wX8_way_L67])
  | succ n ih =>
    intro x7 σ h
    unfold wX8_way_L67 at h
    refine zz_iload M 6 dX8_way_67 rfl ?_
    refine zz_bipush (v := 24) M dX8_way_69 (by decide) ?_
    refine zz_icmp_ge M 92 dX8_way_71 (by decide) (fun c => ?_) (fun c => ?_)
    · have h := zif (c := 24 ≤ x7) h c
      exact hK92 _ _ h
    · have h := zifn (c := 24 ≤ x7) h c
      refine zz_aload_n M 0 dX8_way_74 rfl rfl ?_
      refine zz_getR M f_X8_44 tM_0 rfl dX8_way_75 ?_
      refine zz_iload M 6 dX8_way_78 rfl ?_
      refine zz_iald M tM_9 h.1 dX8_way_80 ?_
      have h := h.2
      refine zz_iload M 5 dX8_way_81 rfl ?_
      refine zz_icmp_ne M 92 dX8_way_83 (by decide) (fun c => ?_) (fun c => ?_)
      · have h := zifn (c := (σ.1 9 x7.toNatClampNeg) = x6) h c
        exact hK92 _ _ h
      · have h := zif (c := (σ.1 9 x7.toNatClampNeg) = x6) h c
        obtain ⟨x111, ex111⟩ : ∃ z : Int32, z = x7 + 1 := ⟨_, rfl⟩
        have h := h x111 ex111
        refine zz_iinc M [(7, .int x111), (0, .ref (ad 0)), (2, .int x2), (3, .int x3), (4, .int x4), (5, .int x5), (6, .int x6)] 6 dX8_way_86 rfl (n32 := 1) (by decide) ex111 (by decide) rfl ?_
        refine zz_goto M 67 dX8_way_89 (by decide) ?_
        refine zz_sub [(0, .ref (ad 0)), (2, .int x2), (3, .int x3), (4, .int x4), (5, .int x5), (6, .int x6), (7, .int x111)] [1, 2, 3, 4, 5, 6, 0] rfl ?_
        exact ih _ _ h
def wX8_way_L36 (Q : Int32 → zSt → Prop) (K113 : Int32 → Int32 → zSt → Prop) (x2 : Int32) (x3 : Int32) : Nat → Int32 → Int32 → Int32 → zSt → Prop
  | 0, _, _, _, _ => False
  | n + 1, x4, x5, x6, σ => if 3 ≤ x6 then (K113 x4 x5 σ) else (vp_in x3 8 ∧ (vp_in x3 8 ∧ (∀ a107 : Int32, a107 = (σ.1 4 x3.toNatClampNeg) → (wX8_off x6 a107 σ (fun r108 σ109 => ∀ x110 : Int32, x110 = ((σ.1 5 x3.toNatClampNeg) + ((σ.1 0 13) * r108)) → (wX8_way_L67 Q (fun v112 σ113 => if x5 ≤ v112 then (∀ x114 : Int32, x114 = x6 + 1 → (wX8_way_L36 Q K113 x2 x3 n x4 x5 x114 σ113)) else (∀ x115 : Int32, x115 = x6 + 1 → (wX8_way_L36 Q K113 x2 x3 n x6 v112 x115 σ113))) x2 x3 x4 x5 x6 300 x110 σ109))))))
set_option maxRecDepth 20000 in
set_option maxHeartbeats 4000000 in
theorem sX8_way_L36 {Q : Int32 → zSt → Prop} {K113 : Int32 → Int32 → zSt → Prop} (x2 : Int32) (x3 : Int32)  (M : zM p s m args meth c cX8_way 8 RX8 (some .int) tabM D cA ad y) (hK113 : ∀ (v4 : Int32) (v5 : Int32) (σ : zSt), K113 v4 v5 σ → zG p l e (zrm 3) s m args below meth c 8 tabM D cA ad (MQ below (va_Qi Q (fun σ' t => va_P D vwCl (zws tabM cA ad σ') t.heap) (zIn tabM ad)) args s 0 0 (zIn tabM ad)) 113 [(2, .int x2), (4, .int v4), (5, .int v5)] [] σ) : ∀ (n : Nat) (x4 : Int32) (x5 : Int32) (x6 : Int32) (σ : zSt), wX8_way_L36 Q K113 x2 x3 n x4 x5 x6 σ → zG p l e (zrm 3) s m args below meth c 8 tabM D cA ad (MQ below (va_Qi Q (fun σ' t => va_P D vwCl (zws tabM cA ad σ') t.heap) (zIn tabM ad)) args s 0 0 (zIn tabM ad)) 36 [(0, .ref (ad 0)), (2, .int x2), (3, .int x3), (4, .int x4), (5, .int x5), (6, .int x6)] [] σ := by
  intro n
  induction n with
  | zero => intro x4 x5 x6 σ h; exact absurd h (by simp [wX8_way_L36])
  | succ n ih =>
    intro x4 x5 x6 σ h
    unfold wX8_way_L36 at h
    refine zz_iload M 5 dX8_way_36 rfl ?_
    refine zz_iconst (v := 3) M dX8_way_38 (by decide) ?_
    refine zz_icmp_ge M 113 dX8_way_39 (by decide) (fun c => ?_) (fun c => ?_)
    · have h := zif (c := 3 ≤ x6) h c
      refine zz_sub [(2, .int x2), (4, .int x4), (5, .int x5)] [1, 3, 4] rfl ?_
      exact hK113 _ _ _ h
    · have h := zifn (c := 3 ≤ x6) h c
      refine zz_aload_n M 0 dX8_way_42 rfl rfl ?_
      refine zz_getR M f_X8_26 tM_0 rfl dX8_way_43 ?_
      refine zz_iload_n M 2 dX8_way_46 rfl rfl ?_
      refine zz_iald M tM_5 h.1 dX8_way_47 ?_
      have h := h.2
      refine zz_aload_n M 0 dX8_way_48 rfl rfl ?_
      refine zz_getI M f_X8_35 tM_0 rfl dX8_way_49 ?_
      refine zz_iload M 5 dX8_way_52 rfl ?_
      refine zz_aload_n M 0 dX8_way_54 rfl rfl ?_
      refine zz_getR M f_X8_23 tM_0 rfl dX8_way_55 ?_
      refine zz_iload_n M 2 dX8_way_58 rfl rfl ?_
      refine zz_iald M tM_4 h.1 dX8_way_59 ?_
      have h := h.2
      obtain ⟨a107, ea107⟩ : ∃ z : Int32, z = (σ.1 4 x3.toNatClampNeg) := ⟨_, rfl⟩
      have h := h a107 ea107
      refine zz_st [.int a107, .int x6, .int (σ.1 0 13), .int (σ.1 5 x3.toNatClampNeg)] (by rw [ea107]) ?_
      refine zz_callSI (d' := 1) (As := [.int x6, .int a107]) (rest := [.int (σ.1 0 13), .int (σ.1 5 x3.toNatClampNeg)]) M l_X8_426 dX8_way_60 rfl rfl (by decide) (Nat.le_of_ble_eq_true rfl) (by have hI := M.2.2.2.2.2.2.2.2; exact kX8_off hI _ _  _ _ h) (fun r108 σ109 h => ?_)
      refine zz_imul M dX8_way_63 ?_
      refine zz_iadd M dX8_way_64 ?_
      refine zz_topi (fun x110 ex110 => ?_)
      have h := h x110 ex110
      refine zz_istore M [(7, .int x110), (0, .ref (ad 0)), (2, .int x2), (3, .int x3), (4, .int x4), (5, .int x5), (6, .int x6)] dX8_way_65 (by decide) rfl ?_
      refine zz_sub [(0, .ref (ad 0)), (2, .int x2), (3, .int x3), (4, .int x4), (5, .int x5), (6, .int x6), (7, .int x110)] [1, 2, 3, 4, 5, 6, 0] rfl ?_
      refine sX8_way_L67 x2 x3 x4 x5 x6  M (fun v112 σ113 h => ?_) 300 _ _ h
      refine zz_iload M 6 dX8_way_92 rfl ?_
      refine zz_iload M 4 dX8_way_94 rfl ?_
      refine zz_icmp_ge M 107 dX8_way_96 (by decide) (fun c => ?_) (fun c => ?_)
      · have h := zif (c := x5 ≤ v112) h c
        obtain ⟨x114, ex114⟩ : ∃ z : Int32, z = x6 + 1 := ⟨_, rfl⟩
        have h := h x114 ex114
        refine zz_iinc M [(6, .int x114), (0, .ref (ad 0)), (2, .int x2), (3, .int x3), (4, .int x4), (5, .int x5), (7, .int v112)] 5 dX8_way_107 rfl (n32 := 1) (by decide) ex114 (by decide) rfl ?_
        refine zz_goto M 36 dX8_way_110 (by decide) ?_
        refine zz_sub [(0, .ref (ad 0)), (2, .int x2), (3, .int x3), (4, .int x4), (5, .int x5), (6, .int x114)] [1, 2, 3, 4, 5, 0] rfl ?_
        exact ih _ _ _ _ h
      · have h := zifn (c := x5 ≤ v112) h c
        refine zz_iload M 5 dX8_way_99 rfl ?_
        refine zz_istore M [(4, .int x6), (0, .ref (ad 0)), (2, .int x2), (3, .int x3), (5, .int x5), (6, .int x6), (7, .int v112)] dX8_way_101 (by decide) rfl ?_
        refine zz_iload M 6 dX8_way_103 rfl ?_
        refine zz_istore M [(5, .int v112), (4, .int x6), (0, .ref (ad 0)), (2, .int x2), (3, .int x3), (6, .int x6), (7, .int v112)] dX8_way_105 (by decide) rfl ?_
        obtain ⟨x115, ex115⟩ : ∃ z : Int32, z = x6 + 1 := ⟨_, rfl⟩
        have h := h x115 ex115
        refine zz_iinc M [(6, .int x115), (5, .int v112), (4, .int x6), (0, .ref (ad 0)), (2, .int x2), (3, .int x3), (7, .int v112)] 5 dX8_way_107 rfl (n32 := 1) (by decide) ex115 (by decide) rfl ?_
        refine zz_goto M 36 dX8_way_110 (by decide) ?_
        refine zz_sub [(0, .ref (ad 0)), (2, .int x2), (3, .int x3), (4, .int x6), (5, .int v112), (6, .int x115)] [3, 4, 5, 2, 1, 0] rfl ?_
        exact ih _ _ _ _ h
def wX8_way (x1 : Int32) (x2 : Int32) (σ : zSt) (Q : Int32 → zSt → Prop) : Prop := wX8_isHere 1 x1 σ (fun r101 σ102 => if r101 = 0 then (Q (-2) σ102) else (∀ a103 : Int64, a103 = ((x2 : Int32).toInt64) → (wX8_in a103 0 1 σ102 (fun r104 σ105 => if r104 = 0 then (Q (-2) σ105) else (∀ x106 : Int32, x106 = (4 + x1) → (wX8_way_L36 Q (fun v116 v117 σ118 => if v116 = (-1) then (Q v116 σ118) else (if x2 = 1 then (Q v116 σ118) else (Q v117 σ118))) x2 x106 300 (-1) 24 0 σ105))))))
set_option maxRecDepth 20000 in
set_option maxHeartbeats 4000000 in
theorem kX8_way (hI : zInj tabM ad) (x1 : Int32) (x2 : Int32)  (σ : zSt) (Q : Int32 → zSt → Prop) (h : wX8_way x1 x2 σ Q) : zOkI l tabM D cA ad y 3 yX8_way cX8_way 8 (some .int) [.ref (ad 0), .int x1, .int x2] σ Q := by
  refine zz_enter hI (by decide) (Nat.le_of_ble_eq_true rfl) (fun p e s m below meth c M => ?_)
  have M : zM p s m _ meth c cX8_way 8 RX8 (some .int) tabM D cA ad y := M
  refine zz_ls [(0, .ref (ad 0)), (1, .int x1), (2, .int x2)] rfl ?_
  unfold wX8_way at h
  refine zz_aload_n M 0 dX8_way_0 rfl rfl ?_
  refine zz_iconst (v := 1) M dX8_way_1 (by decide) ?_
  refine zz_iload_n M 1 dX8_way_2 rfl rfl ?_
  refine zz_callVI (d' := 2) (As := [.int 1, .int x1]) (rest := []) M l_X8_108 tM_0 rfl rfl dX8_way_3 rfl rfl (by decide) (Nat.le_of_ble_eq_true rfl) (by have hI := M.2.2.2.2.2.2.2.2; exact kX8_isHere hI _ _  _ _ h) (fun r101 σ102 h => ?_)
  refine zz_if_eq (y0 := 0) M 19 dX8_way_6 (by decide) (fun c => ?_) (fun c => ?_)
  · have h := zif (c := r101 = 0) h c
    refine zz_bipush (v := (-2)) M dX8_way_19 (by decide) ?_
    exact zz_iret M dX8_way_21 h
  · have h := zifn (c := r101 = 0) h c
    refine zz_iload_n M 2 dX8_way_9 rfl rfl ?_
    refine zz_i2l M dX8_way_10 ?_
    refine zz_lconst (v := 0) M dX8_way_11 (by decide) ?_
    refine zz_lconst (v := 1) M dX8_way_12 (by decide) ?_
    obtain ⟨a103, ea103⟩ : ∃ z : Int64, z = ((x2 : Int32).toInt64) := ⟨_, rfl⟩
    have h := h a103 ea103
    refine zz_st [.long 1, .long 0, .long a103] (by rw [ea103]) ?_
    refine zz_callSI (d' := 1) (As := [.long a103, .long 0, .long 1]) (rest := []) M l_X8_92 dX8_way_13 rfl rfl (by decide) (Nat.le_of_ble_eq_true rfl) (by have hI := M.2.2.2.2.2.2.2.2; exact kX8_in hI _ _ _  _ _ h) (fun r104 σ105 h => ?_)
    refine zz_if_ne (y0 := 0) M 22 dX8_way_16 (by decide) (fun c => ?_) (fun c => ?_)
    · have h := zifn (c := r104 = 0) h c
      refine zz_iconst (v := 4) M dX8_way_22 (by decide) ?_
      refine zz_iload_n M 1 dX8_way_23 rfl rfl ?_
      refine zz_iadd M dX8_way_24 ?_
      refine zz_topi (fun x106 ex106 => ?_)
      have h := h x106 ex106
      refine zz_istore_n M [(3, .int x106), (0, .ref (ad 0)), (1, .int x1), (2, .int x2)] dX8_way_25 rfl (by decide) rfl ?_
      refine zz_iconst (v := (-1)) M dX8_way_26 (by decide) ?_
      refine zz_istore M [(4, .int (-1)), (3, .int x106), (0, .ref (ad 0)), (1, .int x1), (2, .int x2)] dX8_way_27 (by decide) rfl ?_
      refine zz_bipush (v := 24) M dX8_way_29 (by decide) ?_
      refine zz_istore M [(5, .int 24), (4, .int (-1)), (3, .int x106), (0, .ref (ad 0)), (1, .int x1), (2, .int x2)] dX8_way_31 (by decide) rfl ?_
      refine zz_iconst (v := 0) M dX8_way_33 (by decide) ?_
      refine zz_istore M [(6, .int 0), (5, .int 24), (4, .int (-1)), (3, .int x106), (0, .ref (ad 0)), (1, .int x1), (2, .int x2)] dX8_way_34 (by decide) rfl ?_
      refine zz_sub [(0, .ref (ad 0)), (2, .int x2), (3, .int x106), (4, .int (-1)), (5, .int 24), (6, .int 0)] [4, 6, 3, 2, 1, 0] rfl ?_
      refine sX8_way_L36 x2 x106  M (fun v116 v117 σ118 h => ?_) 300 _ _ _ _ h
      refine zz_iload M 1 dX8_way_113 rfl ?_
      refine zz_iconst (v := (-1)) M dX8_way_115 (by decide) ?_
      refine zz_icmp_eq M 124 dX8_way_116 (by decide) (fun c => ?_) (fun c => ?_)
      · have h := zif (c := v116 = (-1)) h c
        refine zz_iload M 1 dX8_way_124 rfl ?_
        refine zz_goto M 131 dX8_way_126 (by decide) ?_
        exact zz_iret M dX8_way_131 h
      · have h := zifn (c := v116 = (-1)) h c
        refine zz_iload_n M 0 dX8_way_119 rfl rfl ?_
        refine zz_iconst (v := 1) M dX8_way_120 (by decide) ?_
        refine zz_icmp_ne M 129 dX8_way_121 (by decide) (fun c => ?_) (fun c => ?_)
        · have h := zifn (c := x2 = 1) h c
          refine zz_iload M 2 dX8_way_129 rfl ?_
          exact zz_iret M dX8_way_131 h
        · have h := zif (c := x2 = 1) h c
          refine zz_iload M 1 dX8_way_124 rfl ?_
          refine zz_goto M 131 dX8_way_126 (by decide) ?_
          exact zz_iret M dX8_way_131 h
    · have h := zif (c := r104 = 0) h c
      refine zz_bipush (v := (-2)) M dX8_way_19 (by decide) ?_
      exact zz_iret M dX8_way_21 h
end
