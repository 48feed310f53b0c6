section
variable {p : Program} {l : Launch} {e : Env} {s : State} {m : MethodId} {args : Array Value} {below : List Frame} {meth : Method} {c : Code} {D : va_G} {cA : Nat → ClassId} {ad : Nat → Nat} {y : zX}
def wX4_solve_L2 (Q : Int32 → zSt → Prop) (K28 : zSt → Prop)  : Nat → Int32 → zSt → Prop
  | 0, _, _ => False
  | n + 1, x1, σ => if 3 ≤ x1 then (K28  σ) else (wX4_ships 0 24 x1 1 σ (fun r101 σ102 => vp_in x1 3 ∧ (∀ σ103 : zSt, σ103 = zput σ102 36 x1.toNatClampNeg r101 → (∀ x104 : Int32, x104 = x1 + 1 → (wX4_solve_L2 Q K28  n x104 σ103)))))
set_option maxRecDepth 20000 in
set_option maxHeartbeats 4000000 in
theorem sX4_solve_L2 {Q : Int32 → zSt → Prop} {K28 : zSt → Prop}   (M : zM p s m args meth c cX4_solve 3 RX4 (some .int) tabX D cA ad y) (hK28 : ∀ (σ : zSt), K28  σ → zG p l e (zrm 5) s m args below meth c 3 tabX D cA ad (MQ below (va_Qi Q (fun σ' t => va_P D vwCl (zws tabX cA ad σ') t.heap) (zIn tabX ad)) args s 0 0 (zIn tabX ad)) 28 [(0, .ref (ad 28))] [] σ) : ∀ (n : Nat) (x1 : Int32) (σ : zSt), wX4_solve_L2 Q K28  n x1 σ → zG p l e (zrm 5) s m args below meth c 3 tabX D cA ad (MQ below (va_Qi Q (fun σ' t => va_P D vwCl (zws tabX cA ad σ') t.heap) (zIn tabX ad)) args s 0 0 (zIn tabX ad)) 2 [(0, .ref (ad 28)), (1, .int x1)] [] σ := by
  intro n
  induction n with
  | zero => intro x1 σ h; exact absurd h (by simp [wX4_solve_L2])
  | succ n ih =>
    intro x1 σ h
    unfold wX4_solve_L2 at h
    refine zz_iload_n M 1 dX4_solve_2 rfl rfl ?_
    refine zz_iconst (v := 3) M dX4_solve_3 (by decide) ?_
    refine zz_icmp_ge M 28 dX4_solve_4 (by decide) (fun c => ?_) (fun c => ?_)
    · have h := zif (c := 3 ≤ x1) h c
      refine zz_sub [(0, .ref (ad 28))] [0] rfl ?_
      exact hK28  _ h
    · have h := zifn (c := 3 ≤ x1) h c
      refine zz_aload_n M 0 dX4_solve_7 rfl rfl ?_
      refine zz_getR M f_X4_33 tX_28 rfl dX4_solve_8 ?_
      refine zz_iload_n M 1 dX4_solve_11 rfl rfl ?_
      refine zz_aload_n M 0 dX4_solve_12 rfl rfl ?_
      refine zz_iconst (v := 0) M dX4_solve_13 (by decide) ?_
      refine zz_bipush (v := 24) M dX4_solve_14 (by decide) ?_
      refine zz_iload_n M 1 dX4_solve_16 rfl rfl ?_
      refine zz_iconst (v := 1) M dX4_solve_17 (by decide) ?_
      refine zz_callVI (d' := 2) (As := [.int 0, .int 24, .int x1, .int 1]) (rest := [.int x1, .ref (ad 36)]) M l_X4_98 tX_28 rfl rfl dX4_solve_18 rfl rfl (by decide) (Nat.le_of_ble_eq_true rfl) (by have hI := M.2.2.2.2.2.2.2.2; exact kX4_ships hI _ _ _ _  _ _ h) (fun r101 σ102 h => ?_)
      refine zz_iast M tX_36 h.1 dX4_solve_21 ?_
      have h := h.2
      refine zz_sg (fun σ103 eσ103 => ?_)
      have h := h σ103 eσ103
      obtain ⟨x104, ex104⟩ : ∃ z : Int32, z = x1 + 1 := ⟨_, rfl⟩
      have h := h x104 ex104
      refine zz_iinc M [(1, .int x104), (0, .ref (ad 28))] 1 dX4_solve_22 rfl (n32 := 1) (by decide) ex104 (by decide) rfl ?_
      refine zz_goto M 2 dX4_solve_25 (by decide) ?_
      refine zz_sub [(0, .ref (ad 28)), (1, .int x104)] [1, 0] rfl ?_
      exact ih _ _ h
def wX4_solve_L62 (Q : Int32 → zSt → Prop) (K79 : zSt → Prop) (x1 : Int32) : Nat → Int32 → zSt → Prop
  | 0, _, _ => False
  | n + 1, x2, σ => if 3 ≤ x2 then (K79  σ) else (wX4_settleMinute x1 x2 σ (fun σ113 => ∀ x114 : Int32, x114 = x2 + 1 → (wX4_solve_L62 Q K79 x1 n x114 σ113)))
set_option maxRecDepth 20000 in
set_option maxHeartbeats 4000000 in
theorem sX4_solve_L62 {Q : Int32 → zSt → Prop} {K79 : zSt → Prop} (x1 : Int32)  (M : zM p s m args meth c cX4_solve 3 RX4 (some .int) tabX D cA ad y) (hK79 : ∀ (σ : zSt), K79  σ → zG p l e (zrm 5) s m args below meth c 3 tabX D cA ad (MQ below (va_Qi Q (fun σ' t => va_P D vwCl (zws tabX cA ad σ') t.heap) (zIn tabX ad)) args s 0 0 (zIn tabX ad)) 79 [(0, .ref (ad 28)), (1, .int x1)] [] σ) : ∀ (n : Nat) (x2 : Int32) (σ : zSt), wX4_solve_L62 Q K79 x1 n x2 σ → zG p l e (zrm 5) s m args below meth c 3 tabX D cA ad (MQ below (va_Qi Q (fun σ' t => va_P D vwCl (zws tabX cA ad σ') t.heap) (zIn tabX ad)) args s 0 0 (zIn tabX ad)) 62 [(0, .ref (ad 28)), (1, .int x1), (2, .int x2)] [] σ := by
  intro n
  induction n with
  | zero => intro x2 σ h; exact absurd h (by simp [wX4_solve_L62])
  | succ n ih =>
    intro x2 σ h
    unfold wX4_solve_L62 at h
    refine zz_iload_n M 2 dX4_solve_62 rfl rfl ?_
    refine zz_iconst (v := 3) M dX4_solve_63 (by decide) ?_
    refine zz_icmp_ge M 79 dX4_solve_64 (by decide) (fun c => ?_) (fun c => ?_)
    · have h := zif (c := 3 ≤ x2) h c
      refine zz_sub [(0, .ref (ad 28)), (1, .int x1)] [0, 1] rfl ?_
      exact hK79  _ h
    · have h := zifn (c := 3 ≤ x2) h c
      refine zz_aload_n M 0 dX4_solve_67 rfl rfl ?_
      refine zz_iload_n M 1 dX4_solve_68 rfl rfl ?_
      refine zz_iload_n M 2 dX4_solve_69 rfl rfl ?_
      refine zz_callVV (d' := 4) (As := [.int x1, .int x2]) (rest := []) M l_X4_109 tX_28 rfl rfl dX4_solve_70 rfl rfl (by decide) (Nat.le_of_ble_eq_true rfl) (by have hI := M.2.2.2.2.2.2.2.2; exact kX4_settleMinute hI _ _  _ _ h) (fun σ113 h => ?_)
      obtain ⟨x114, ex114⟩ : ∃ z : Int32, z = x2 + 1 := ⟨_, rfl⟩
      have h := h x114 ex114
      refine zz_iinc M [(2, .int x114), (0, .ref (ad 28)), (1, .int x1)] 2 dX4_solve_73 rfl (n32 := 1) (by decide) ex114 (by decide) rfl ?_
      refine zz_goto M 62 dX4_solve_76 (by decide) ?_
      refine zz_sub [(0, .ref (ad 28)), (1, .int x1), (2, .int x114)] [1, 2, 0] rfl ?_
      exact ih _ _ h
def wX4_solve_L51 (Q : Int32 → zSt → Prop) (K85 : zSt → Prop)  : Nat → Int32 → zSt → Prop
  | 0, _, _ => False
  | n + 1, x1, σ => if x1 ≤ 0 then (K85  σ) else (wX4_addComers x1 σ (fun σ111 => wX4_solve_L62 Q (fun  σ115 => ∀ x116 : Int32, x116 = x1 + (-1) → (wX4_solve_L51 Q K85  n x116 σ115)) x1 300 0 σ111))
set_option maxRecDepth 20000 in
set_option maxHeartbeats 4000000 in
theorem sX4_solve_L51 {Q : Int32 → zSt → Prop} {K85 : zSt → Prop}   (M : zM p s m args meth c cX4_solve 3 RX4 (some .int) tabX D cA ad y) (hK85 : ∀ (σ : zSt), K85  σ → zG p l e (zrm 5) s m args below meth c 3 tabX D cA ad (MQ below (va_Qi Q (fun σ' t => va_P D vwCl (zws tabX cA ad σ') t.heap) (zIn tabX ad)) args s 0 0 (zIn tabX ad)) 85 [(0, .ref (ad 28))] [] σ) : ∀ (n : Nat) (x1 : Int32) (σ : zSt), wX4_solve_L51 Q K85  n x1 σ → zG p l e (zrm 5) s m args below meth c 3 tabX D cA ad (MQ below (va_Qi Q (fun σ' t => va_P D vwCl (zws tabX cA ad σ') t.heap) (zIn tabX ad)) args s 0 0 (zIn tabX ad)) 51 [(0, .ref (ad 28)), (1, .int x1)] [] σ := by
  intro n
  induction n with
  | zero => intro x1 σ h; exact absurd h (by simp [wX4_solve_L51])
  | succ n ih =>
    intro x1 σ h
    unfold wX4_solve_L51 at h
    refine zz_iload_n M 1 dX4_solve_51 rfl rfl ?_
    refine zz_if_le (y0 := 0) M 85 dX4_solve_52 (by decide) (fun c => ?_) (fun c => ?_)
    · have h := zif (c := x1 ≤ 0) h c
      refine zz_sub [(0, .ref (ad 28))] [0] rfl ?_
      exact hK85  _ h
    · have h := zifn (c := x1 ≤ 0) h c
      refine zz_aload_n M 0 dX4_solve_55 rfl rfl ?_
      refine zz_iload_n M 1 dX4_solve_56 rfl rfl ?_
      refine zz_callVV (d' := 3) (As := [.int x1]) (rest := []) M l_X4_105 tX_28 rfl rfl dX4_solve_57 rfl rfl (by decide) (Nat.le_of_ble_eq_true rfl) (by have hI := M.2.2.2.2.2.2.2.2; exact kX4_addComers hI _  _ _ h) (fun σ111 h => ?_)
      refine zz_iconst (v := 0) M dX4_solve_60 (by decide) ?_
      refine zz_istore_n M [(2, .int 0), (0, .ref (ad 28)), (1, .int x1)] dX4_solve_61 rfl (by decide) rfl ?_
      refine zz_sub [(0, .ref (ad 28)), (1, .int x1), (2, .int 0)] [1, 2, 0] rfl ?_
      refine sX4_solve_L62 x1  M (fun  σ115 h => ?_) 300 _ _ h
      obtain ⟨x116, ex116⟩ : ∃ z : Int32, z = x1 + (-1) := ⟨_, rfl⟩
      have h := h x116 ex116
      refine zz_iinc M [(1, .int x116), (0, .ref (ad 28))] 1 dX4_solve_79 rfl (n32 := (-1)) (by decide) ex116 (by decide) rfl ?_
      refine zz_goto M 51 dX4_solve_82 (by decide) ?_
      refine zz_sub [(0, .ref (ad 28)), (1, .int x116)] [1, 0] rfl ?_
      exact ih _ _ h
def wX4_solve  (σ : zSt) (Q : Int32 → zSt → Prop) : Prop := wX4_solve_L2 Q (fun  σ105 => ∀ σ106 : zSt, σ106 = zfill σ105 34 75 0 → (∀ σ107 : zSt, σ107 = zfill σ106 35 75 0 → (wX4_closeDay  σ107 (fun σ109 => wX4_solve_L51 Q (fun  σ117 => wX4_addComers 0 σ117 (fun σ119 => wX4_settle 0 (-1) 0 σ119 (fun σ121 => Q (σ121.1 31 0) σ121)))  300 23 σ109))))  300 0 σ
set_option maxRecDepth 20000 in
set_option maxHeartbeats 4000000 in
theorem kX4_solve (hI : zInj tabX ad)   (σ : zSt) (Q : Int32 → zSt → Prop) (h : wX4_solve  σ Q) : zOkI l tabX D cA ad y 5 yX4_solve cX4_solve 3 (some .int) [.ref (ad 28)] σ Q := by
  refine zz_enter hI (by decide) (Nat.le_of_ble_eq_true rfl) (fun p e s m below meth c M => ?_)
  have M : zM p s m _ meth c cX4_solve 3 RX4 (some .int) tabX D cA ad y := M
  refine zz_ls [(0, .ref (ad 28))] rfl ?_
  unfold wX4_solve at h
  refine zz_iconst (v := 0) M dX4_solve_0 (by decide) ?_
  refine zz_istore_n M [(1, .int 0), (0, .ref (ad 28))] dX4_solve_1 rfl (by decide) rfl ?_
  refine zz_sub [(0, .ref (ad 28)), (1, .int 0)] [1, 0] rfl ?_
  refine sX4_solve_L2   M (fun  σ105 h => ?_) 300 _ _ h
  refine zz_aload_n M 0 dX4_solve_28 rfl rfl ?_
  refine zz_getR M f_X4_27 tX_28 rfl dX4_solve_29 ?_
  refine zz_iconst (v := 0) M dX4_solve_32 (by decide) ?_
  refine zz_fill (rest := []) M l_X4_92 tX_34 (by decide) dX4_solve_33 rfl (by decide) (Nat.le_of_ble_eq_true rfl) ?_
  refine zz_sg (fun σ106 eσ106 => ?_)
  have h := h σ106 eσ106
  refine zz_aload_n M 0 dX4_solve_36 rfl rfl ?_
  refine zz_getR M f_X4_30 tX_28 rfl dX4_solve_37 ?_
  refine zz_iconst (v := 0) M dX4_solve_40 (by decide) ?_
  refine zz_fill (rest := []) M l_X4_92 tX_35 (by decide) dX4_solve_41 rfl (by decide) (Nat.le_of_ble_eq_true rfl) ?_
  refine zz_sg (fun σ107 eσ107 => ?_)
  have h := h σ107 eσ107
  refine zz_aload_n M 0 dX4_solve_44 rfl rfl ?_
  refine zz_callVV (d' := 3) (As := []) (rest := []) M l_X4_102 tX_28 rfl rfl dX4_solve_45 rfl rfl (by decide) (Nat.le_of_ble_eq_true rfl) (by have hI := M.2.2.2.2.2.2.2.2; exact kX4_closeDay hI   _ _ h) (fun σ109 h => ?_)
  refine zz_bipush (v := 23) M dX4_solve_48 (by decide) ?_
  refine zz_istore_n M [(1, .int 23), (0, .ref (ad 28))] dX4_solve_50 rfl (by decide) rfl ?_
  refine zz_sub [(0, .ref (ad 28)), (1, .int 23)] [1, 0] rfl ?_
  refine sX4_solve_L51   M (fun  σ117 h => ?_) 300 _ _ h
  refine zz_aload_n M 0 dX4_solve_85 rfl rfl ?_
  refine zz_iconst (v := 0) M dX4_solve_86 (by decide) ?_
  refine zz_callVV (d' := 3) (As := [.int 0]) (rest := []) M l_X4_105 tX_28 rfl rfl dX4_solve_87 rfl rfl (by decide) (Nat.le_of_ble_eq_true rfl) (by have hI := M.2.2.2.2.2.2.2.2; exact kX4_addComers hI _  _ _ h) (fun σ119 h => ?_)
  refine zz_aload_n M 0 dX4_solve_90 rfl rfl ?_
  refine zz_iconst (v := 0) M dX4_solve_91 (by decide) ?_
  refine zz_iconst (v := (-1)) M dX4_solve_92 (by decide) ?_
  refine zz_iconst (v := 0) M dX4_solve_93 (by decide) ?_
  refine zz_callVV (d' := 3) (As := [.int 0, .int (-1), .int 0]) (rest := []) M l_X4_113 tX_28 rfl rfl dX4_solve_94 rfl rfl (by decide) (Nat.le_of_ble_eq_true rfl) (by have hI := M.2.2.2.2.2.2.2.2; exact kX4_settle hI _ _ _  _ _ h) (fun σ121 h => ?_)
  refine zz_aload_n M 0 dX4_solve_97 rfl rfl ?_
  refine zz_getR M f_X4_18 tX_28 rfl dX4_solve_98 ?_
  refine zz_iconst (v := 0) M dX4_solve_101 (by decide) ?_
  refine zz_ialdK (kk := 0) M tX_31 (zlit (by decide)) (by decide) dX4_solve_102 ?_
  exact zz_iret M dX4_solve_103 h
def wX4_layRow_L46 (Q : zSt → Prop) (K68 : zSt → Prop) (x2 : Int32) (x3 : Int32) (x4 : Int32) (x5 : Int32) (x6 : Int32) : Nat → Int32 → zSt → Prop
  | 0, _, _ => False
  | n + 1, x7, σ => if x6 ≤ x7 then (K68  σ) else (vp_in x7 24 ∧ (∀ σ103 : zSt, σ103 = zput σ 37 x7.toNatClampNeg x5 → (∀ x104 : Int32, x104 = x7 + 1 → (wX4_layRow_L46 Q K68 x2 x3 x4 x5 x6 n x104 σ103))))
set_option maxRecDepth 20000 in
set_option maxHeartbeats 4000000 in
theorem sX4_layRow_L46 {Q : zSt → Prop} {K68 : zSt → Prop} (x2 : Int32) (x3 : Int32) (x4 : Int32) (x5 : Int32) (x6 : Int32)  (M : zM p s m args meth c cX4_layRow 8 RX4 none tabX D cA ad y) (hK68 : ∀ (σ : zSt), K68  σ → zG p l e (zrm 3) s m args below meth c 8 tabX D cA ad (MQ below (va_Qv Q (fun σ' t => va_P D vwCl (zws tabX cA ad σ') t.heap) (zIn tabX ad)) args s 0 0 (zIn tabX ad)) 68 [(0, .ref (ad 28)), (2, .int x2), (3, .int x3), (4, .int x4), (5, .int x5), (6, .int x6)] [] σ) : ∀ (n : Nat) (x7 : Int32) (σ : zSt), wX4_layRow_L46 Q K68 x2 x3 x4 x5 x6 n x7 σ → zG p l e (zrm 3) s m args below meth c 8 tabX D cA ad (MQ below (va_Qv Q (fun σ' t => va_P D vwCl (zws tabX cA ad σ') t.heap) (zIn tabX ad)) args s 0 0 (zIn tabX ad)) 46 [(0, .ref (ad 28)), (2, .int x2), (3, .int x3), (4, .int x4), (5, .int x5), (6, .int x6), (7, .int x7)] [] σ := by
  intro n
  induction n with
  | zero => intro x7 σ h; exact absurd h (by simp [wX4_layRow_L46])
  | succ n ih =>
    intro x7 σ h
    unfold wX4_layRow_L46 at h
    refine zz_iload M 6 dX4_layRow_46 rfl ?_
    refine zz_iload M 5 dX4_layRow_48 rfl ?_
    refine zz_icmp_ge M 68 dX4_layRow_50 (by decide) (fun c => ?_) (fun c => ?_)
    · have h := zif (c := x6 ≤ x7) h c
      refine zz_sub [(0, .ref (ad 28)), (2, .int x2), (3, .int x3), (4, .int x4), (5, .int x5), (6, .int x6)] [0, 1, 2, 3, 4, 5] rfl ?_
      exact hK68  _ h
    · have h := zifn (c := x6 ≤ x7) h c
      refine zz_aload_n M 0 dX4_layRow_53 rfl rfl ?_
      refine zz_getR M f_X4_36 tX_28 rfl dX4_layRow_54 ?_
      refine zz_iload M 6 dX4_layRow_57 rfl ?_
      refine zz_iload M 4 dX4_layRow_59 rfl ?_
      refine zz_iast M tX_37 h.1 dX4_layRow_61 ?_
      have h := h.2
      refine zz_sg (fun σ103 eσ103 => ?_)
      have h := h σ103 eσ103
      obtain ⟨x104, ex104⟩ : ∃ z : Int32, z = x7 + 1 := ⟨_, rfl⟩
      have h := h x104 ex104
      refine zz_iinc M [(7, .int x104), (0, .ref (ad 28)), (2, .int x2), (3, .int x3), (4, .int x4), (5, .int x5), (6, .int x6)] 6 dX4_layRow_62 rfl (n32 := 1) (by decide) ex104 (by decide) rfl ?_
      refine zz_goto M 46 dX4_layRow_65 (by decide) ?_
      refine zz_sub [(0, .ref (ad 28)), (2, .int x2), (3, .int x3), (4, .int x4), (5, .int x5), (6, .int x6), (7, .int x104)] [1, 2, 3, 4, 5, 6, 0] rfl ?_
      exact ih _ _ h
def wX4_layRow_L9 (Q : zSt → Prop) (K115 : zSt → Prop)  : Nat → Int32 → Int32 → Int32 → Int32 → zSt → Prop
  | 0, _, _, _, _, _ => False
  | n + 1, x1, x2, x3, x4, σ => if 24 ≤ x4 then (K115  σ) else (if 24 ≤ x2 then (K115  σ) else (vp_in x1 1200 ∧ (∀ x101 : Int32, x101 = (σ.1 32 x1.toNatClampNeg) → (vp_in x1 1200 ∧ (∀ x102 : Int32, x102 = (if (24 : Int32) < (σ.1 33 x1.toNatClampNeg) then 24 else (σ.1 33 x1.toNatClampNeg)) → (wX4_layRow_L46 Q (fun  σ105 => wX4_ships 0 24 x101 1 σ105 (fun r106 σ107 => wX4_ships x2 x102 x101 0 σ107 (fun r108 σ109 => ∀ x110 : Int32, x110 = ((x3 &&& (r106 ^^^ (-1))) ||| r108) → (∀ x111 : Int32, x111 = (if x2 < x102 then x102 else x2) → (wX4_place x111 x101 x110 σ109 (fun r112 σ113 => ∀ x114 : Int32, x114 = x4 + 1 → (wX4_layRow_L9 Q K115  n r112 x111 x110 x114 σ113))))))) x2 x3 x4 x101 x102 300 x2 σ))))))
set_option maxRecDepth 20000 in
set_option maxHeartbeats 4000000 in
theorem sX4_layRow_L9 {Q : zSt → Prop} {K115 : zSt → Prop}   (M : zM p s m args meth c cX4_layRow 8 RX4 none tabX D cA ad y) (hK115 : ∀ (σ : zSt), K115  σ → zG p l e (zrm 3) s m args below meth c 8 tabX D cA ad (MQ below (va_Qv Q (fun σ' t => va_P D vwCl (zws tabX cA ad σ') t.heap) (zIn tabX ad)) args s 0 0 (zIn tabX ad)) 115 [] [] σ) : ∀ (n : Nat) (x1 : Int32) (x2 : Int32) (x3 : Int32) (x4 : Int32) (σ : zSt), wX4_layRow_L9 Q K115  n x1 x2 x3 x4 σ → zG p l e (zrm 3) s m args below meth c 8 tabX D cA ad (MQ below (va_Qv Q (fun σ' t => va_P D vwCl (zws tabX cA ad σ') t.heap) (zIn tabX ad)) args s 0 0 (zIn tabX ad)) 9 [(0, .ref (ad 28)), (1, .int x1), (2, .int x2), (3, .int x3), (4, .int x4)] [] σ := by
  intro n
  induction n with
  | zero => intro x1 x2 x3 x4 σ h; exact absurd h (by simp [wX4_layRow_L9])
  | succ n ih =>
    intro x1 x2 x3 x4 σ h
    unfold wX4_layRow_L9 at h
    refine zz_iload M 4 dX4_layRow_9 rfl ?_
    refine zz_bipush (v := 24) M dX4_layRow_11 (by decide) ?_
    refine zz_icmp_ge M 115 dX4_layRow_13 (by decide) (fun c => ?_) (fun c => ?_)
    · have h := zif (c := 24 ≤ x4) h c
      refine zz_sub [] [] rfl ?_
      exact hK115  _ h
    · have h := zifn (c := 24 ≤ x4) h c
      refine zz_iload_n M 2 dX4_layRow_16 rfl rfl ?_
      refine zz_bipush (v := 24) M dX4_layRow_17 (by decide) ?_
      refine zz_icmp_ge M 115 dX4_layRow_19 (by decide) (fun c => ?_) (fun c => ?_)
      · have h := zif (c := 24 ≤ x2) h c
        refine zz_sub [] [] rfl ?_
        exact hK115  _ h
      · have h := zifn (c := 24 ≤ x2) h c
        refine zz_aload_n M 0 dX4_layRow_22 rfl rfl ?_
        refine zz_getR M f_X4_21 tX_28 rfl dX4_layRow_23 ?_
        refine zz_iload_n M 1 dX4_layRow_26 rfl rfl ?_
        refine zz_iald M tX_32 h.1 dX4_layRow_27 ?_
        have h := h.2
        refine zz_topi (fun x101 ex101 => ?_)
        have h := h x101 ex101
        refine zz_istore M [(5, .int x101), (0, .ref (ad 28)), (1, .int x1), (2, .int x2), (3, .int x3), (4, .int x4)] dX4_layRow_28 (by decide) rfl ?_
        refine zz_aload_n M 1 dX4_layRow_30 rfl rfl ?_
        refine zz_getR M f_X4_24 tX_28 rfl dX4_layRow_31 ?_
        refine zz_iload_n M 2 dX4_layRow_34 rfl rfl ?_
        refine zz_iald M tX_33 h.1 dX4_layRow_35 ?_
        have h := h.2
        refine zz_bipush (v := 24) M dX4_layRow_36 (by decide) ?_
        refine zz_min M l_X4_141 zmath_min (by decide) (Nat.le_of_ble_eq_true rfl) dX4_layRow_38 ?_
        refine zz_topi (fun x102 ex102 => ?_)
        have h := h x102 ex102
        refine zz_istore M [(6, .int x102), (5, .int x101), (0, .ref (ad 28)), (1, .int x1), (2, .int x2), (3, .int x3), (4, .int x4)] dX4_layRow_41 (by decide) rfl ?_
        refine zz_iload_n M 4 dX4_layRow_43 rfl rfl ?_
        refine zz_istore M [(7, .int x2), (6, .int x102), (5, .int x101), (0, .ref (ad 28)), (1, .int x1), (2, .int x2), (3, .int x3), (4, .int x4)] dX4_layRow_44 (by decide) rfl ?_
        refine zz_sub [(0, .ref (ad 28)), (2, .int x2), (3, .int x3), (4, .int x4), (5, .int x101), (6, .int x102), (7, .int x2)] [3, 5, 6, 7, 2, 1, 0] rfl ?_
        refine sX4_layRow_L46 x2 x3 x4 x101 x102  M (fun  σ105 h => ?_) 300 _ _ h
        refine zz_iload_n M 2 dX4_layRow_68 rfl rfl ?_
        refine zz_aload_n M 0 dX4_layRow_69 rfl rfl ?_
        refine zz_iconst (v := 0) M dX4_layRow_70 (by decide) ?_
        refine zz_bipush (v := 24) M dX4_layRow_71 (by decide) ?_
        refine zz_iload M 4 dX4_layRow_73 rfl ?_
        refine zz_iconst (v := 1) M dX4_layRow_75 (by decide) ?_
        refine zz_callVI (d' := 2) (As := [.int 0, .int 24, .int x101, .int 1]) (rest := [.int x3]) M l_X4_98 tX_28 rfl rfl dX4_layRow_76 rfl rfl (by decide) (Nat.le_of_ble_eq_true rfl) (by have hI := M.2.2.2.2.2.2.2.2; exact kX4_ships hI _ _ _ _  _ _ h) (fun r106 σ107 h => ?_)
        refine zz_iconst (v := (-1)) M dX4_layRow_79 (by decide) ?_
        refine zz_ixor M dX4_layRow_80 ?_
        refine zz_iand M dX4_layRow_81 ?_
        refine zz_aload_n M 0 dX4_layRow_82 rfl rfl ?_
        refine zz_iload_n M 1 dX4_layRow_83 rfl rfl ?_
        refine zz_iload M 5 dX4_layRow_84 rfl ?_
        refine zz_iload M 4 dX4_layRow_86 rfl ?_
        refine zz_iconst (v := 0) M dX4_layRow_88 (by decide) ?_
        refine zz_callVI (d' := 2) (As := [.int x2, .int x102, .int x101, .int 0]) (rest := [.int (x3 &&& (r106 ^^^ (-1)))]) M l_X4_98 tX_28 rfl rfl dX4_layRow_89 rfl rfl (by decide) (Nat.le_of_ble_eq_true rfl) (by have hI := M.2.2.2.2.2.2.2.2; exact kX4_ships hI _ _ _ _  _ _ h) (fun r108 σ109 h => ?_)
        refine zz_ior M dX4_layRow_92 ?_
        refine zz_topi (fun x110 ex110 => ?_)
        have h := h x110 ex110
        refine zz_istore_n M [(3, .int x110), (0, .ref (ad 28)), (2, .int x2), (4, .int x4), (5, .int x101), (6, .int x102)] dX4_layRow_93 rfl (by decide) rfl ?_
        refine zz_iload_n M 2 dX4_layRow_94 rfl rfl ?_
        refine zz_iload M 5 dX4_layRow_95 rfl ?_
        refine zz_max M l_X4_73 zmath_max (by decide) (Nat.le_of_ble_eq_true rfl) dX4_layRow_97 ?_
        refine zz_topi (fun x111 ex111 => ?_)
        have h := h x111 ex111
        refine zz_istore_n M [(2, .int x111), (3, .int x110), (0, .ref (ad 28)), (4, .int x4), (5, .int x101), (6, .int x102)] dX4_layRow_100 rfl (by decide) rfl ?_
        refine zz_iload_n M 0 dX4_layRow_101 rfl rfl ?_
        refine zz_iload M 4 dX4_layRow_102 rfl ?_
        refine zz_iload_n M 1 dX4_layRow_104 rfl rfl ?_
        refine zz_callSI (d' := 2) (As := [.int x111, .int x101, .int x110]) (rest := []) M l_X4_120 dX4_layRow_105 rfl rfl (by decide) (Nat.le_of_ble_eq_true rfl) (by have hI := M.2.2.2.2.2.2.2.2; exact kX4_place hI _ _ _  _ _ h) (fun r112 σ113 h => ?_)
        refine zz_istore_n M [(1, .int r112), (2, .int x111), (3, .int x110), (0, .ref (ad 28)), (4, .int x4), (5, .int x101), (6, .int x102)] dX4_layRow_108 rfl (by decide) rfl ?_
        obtain ⟨x114, ex114⟩ : ∃ z : Int32, z = x4 + 1 := ⟨_, rfl⟩
        have h := h x114 ex114
        refine zz_iinc M [(4, .int x114), (1, .int r112), (2, .int x111), (3, .int x110), (0, .ref (ad 28)), (5, .int x101), (6, .int x102)] 4 dX4_layRow_109 rfl (n32 := 1) (by decide) ex114 (by decide) rfl ?_
        refine zz_goto M 9 dX4_layRow_112 (by decide) ?_
        refine zz_sub [(0, .ref (ad 28)), (1, .int r112), (2, .int x111), (3, .int x110), (4, .int x114)] [4, 1, 2, 3, 0] rfl ?_
        exact ih _ _ _ _ _ h
def wX4_layRow  (σ : zSt) (Q : zSt → Prop) : Prop := wX4_layRow_L9 Q (fun  σ115 => Q σ115)  300 0 0 0 0 σ
set_option maxRecDepth 20000 in
set_option maxHeartbeats 4000000 in
theorem kX4_layRow (hI : zInj tabX ad)   (σ : zSt) (Q : zSt → Prop) (h : wX4_layRow  σ Q) : zOkV l tabX D cA ad y 3 yX4_layRow cX4_layRow 8 none [.ref (ad 28)] σ Q := by
  refine zz_enter hI (by decide) (Nat.le_of_ble_eq_true rfl) (fun p e s m below meth c M => ?_)
  have M : zM p s m _ meth c cX4_layRow 8 RX4 none tabX D cA ad y := M
  refine zz_ls [(0, .ref (ad 28))] rfl ?_
  unfold wX4_layRow at h
  refine zz_iconst (v := 0) M dX4_layRow_0 (by decide) ?_
  refine zz_istore_n M [(1, .int 0), (0, .ref (ad 28))] dX4_layRow_1 rfl (by decide) rfl ?_
  refine zz_iconst (v := 0) M dX4_layRow_2 (by decide) ?_
  refine zz_istore_n M [(2, .int 0), (1, .int 0), (0, .ref (ad 28))] dX4_layRow_3 rfl (by decide) rfl ?_
  refine zz_iconst (v := 0) M dX4_layRow_4 (by decide) ?_
  refine zz_istore_n M [(3, .int 0), (2, .int 0), (1, .int 0), (0, .ref (ad 28))] dX4_layRow_5 rfl (by decide) rfl ?_
  refine zz_iconst (v := 0) M dX4_layRow_6 (by decide) ?_
  refine zz_istore M [(4, .int 0), (3, .int 0), (2, .int 0), (1, .int 0), (0, .ref (ad 28))] dX4_layRow_7 (by decide) rfl ?_
  refine zz_sub [(0, .ref (ad 28)), (1, .int 0), (2, .int 0), (3, .int 0), (4, .int 0)] [4, 3, 2, 1, 0] rfl ?_
  refine sX4_layRow_L9   M (fun  σ115 h => ?_) 300 _ _ _ _ _ h
  exact zz_vret M dX4_layRow_115 h
def wX4_findLeast  (σ : zSt) (Q : zSt → Prop) : Prop := if (σ.1 28 11) = (-2) then (wX4_priceByRule  σ (fun σ102 => wX4_solve  σ102 (fun r103 σ104 => ∀ σ105 : zSt, σ105 = zput σ104 28 11 r103 → (wX4_layRow  σ105 (fun σ107 => Q σ107))))) else (Q σ)
set_option maxRecDepth 20000 in
set_option maxHeartbeats 4000000 in
theorem kX4_findLeast (hI : zInj tabX ad)   (σ : zSt) (Q : zSt → Prop) (h : wX4_findLeast  σ Q) : zOkV l tabX D cA ad y 6 yX4_findLeast cX4_findLeast 1 none [.ref (ad 28)] σ Q := by
  refine zz_enter hI (by decide) (Nat.le_of_ble_eq_true rfl) (fun p e s m below meth c M => ?_)
  have M : zM p s m _ meth c cX4_findLeast 1 RX4 none tabX D cA ad y := M
  refine zz_ls [(0, .ref (ad 28))] rfl ?_
  unfold wX4_findLeast at h
  refine zz_aload_n M 0 dX4_findLeast_0 rfl rfl ?_
  refine zz_getI M f_X4_39 tX_28 rfl dX4_findLeast_1 ?_
  refine zz_bipush (v := (-2)) M dX4_findLeast_4 (by decide) ?_
  refine zz_icmp_ne M 25 dX4_findLeast_6 (by decide) (fun c => ?_) (fun c => ?_)
  · have h := zifn (c := (σ.1 28 11) = (-2)) h c
    exact zz_vret M dX4_findLeast_25 h
  · have h := zif (c := (σ.1 28 11) = (-2)) h c
    refine zz_aload_n M 0 dX4_findLeast_9 rfl rfl ?_
    refine zz_callVV (d' := 5) (As := []) (rest := []) M l_X4_54 tX_28 rfl rfl dX4_findLeast_10 rfl rfl (by decide) (Nat.le_of_ble_eq_true rfl) (by have hI := M.2.2.2.2.2.2.2.2; exact kX4_priceByRule hI   _ _ h) (fun σ102 h => ?_)
    refine zz_aload_n M 0 dX4_findLeast_13 rfl rfl ?_
    refine zz_aload_n M 0 dX4_findLeast_14 rfl rfl ?_
    refine zz_callVI (d' := 5) (As := []) (rest := [.ref (ad 28)]) M l_X4_57 tX_28 rfl rfl dX4_findLeast_15 rfl rfl (by decide) (Nat.le_of_ble_eq_true rfl) (by have hI := M.2.2.2.2.2.2.2.2; exact kX4_solve hI   _ _ h) (fun r103 σ104 h => ?_)
    refine zz_putI M f_X4_39 tX_28 rfl dX4_findLeast_18 ?_
    refine zz_sg (fun σ105 eσ105 => ?_)
    have h := h σ105 eσ105
    refine zz_aload_n M 0 dX4_findLeast_21 rfl rfl ?_
    refine zz_callVV (d' := 3) (As := []) (rest := []) M l_X4_61 tX_28 rfl rfl dX4_findLeast_22 rfl rfl (by decide) (Nat.le_of_ble_eq_true rfl) (by have hI := M.2.2.2.2.2.2.2.2; exact kX4_layRow hI   _ _ h) (fun σ107 h => ?_)
    exact zz_vret M dX4_findLeast_25 h
def wX7_changes_37_L4 (Q : Int32 → zSt → Prop) (K36 : Int32 → zSt → Prop)  : Nat → Int32 → Int32 → zSt → Prop
  | 0, _, _, _ => False
  | n + 1, x1, x2, σ => if 24 ≤ x2 then (K36 x1 σ) else (if 24 ≤ x2 then (K36 x1 σ) else (vp_in x2 24 ∧ (vp_in (x2 - 1) 24 ∧ (if (σ.1 37 x2.toNatClampNeg) = (σ.1 37 (x2 - 1 : Int32).toNatClampNeg) then (∀ x101 : Int32, x101 = x2 + 1 → (wX7_changes_37_L4 Q K36  n x1 x101 σ)) else (∀ x102 : Int32, x102 = x1 + 1 → (∀ x103 : Int32, x103 = x2 + 1 → (wX7_changes_37_L4 Q K36  n x102 x103 σ)))))))
set_option maxRecDepth 20000 in
set_option maxHeartbeats 4000000 in
theorem sX7_changes_37_L4 {Q : Int32 → zSt → Prop} {K36 : Int32 → zSt → Prop}   (M : zM p s m args meth c cX7_changes 3 RX7 (some .int) tabX D cA ad y) (hK36 : ∀ (v1 : Int32) (σ : zSt), K36 v1 σ → zG p l e (zrm 1) s m args below meth c 3 tabX D cA ad (MQ below (va_Qi Q (fun σ' t => va_P D vwCl (zws tabX cA ad σ') t.heap) (zIn tabX ad)) args s 0 0 (zIn tabX ad)) 36 [(1, .int v1)] [] σ) : ∀ (n : Nat) (x1 : Int32) (x2 : Int32) (σ : zSt), wX7_changes_37_L4 Q K36  n x1 x2 σ → zG p l e (zrm 1) s m args below meth c 3 tabX D cA ad (MQ below (va_Qi Q (fun σ' t => va_P D vwCl (zws tabX cA ad σ') t.heap) (zIn tabX ad)) args s 0 0 (zIn tabX ad)) 4 [(0, .ref (ad 37)), (1, .int x1), (2, .int x2)] [] σ := by
  intro n
  induction n with
  | zero => intro x1 x2 σ h; exact absurd h (by simp [wX7_changes_37_L4])
  | succ n ih =>
    intro x1 x2 σ h
    unfold wX7_changes_37_L4 at h
    refine zz_iload_n M 2 dX7_changes_4 rfl rfl ?_
    refine zz_bipush (v := 24) M dX7_changes_5 (by decide) ?_
    refine zz_icmp_ge M 36 dX7_changes_7 (by decide) (fun c => ?_) (fun c => ?_)
    · have h := zif (c := 24 ≤ x2) h c
      refine zz_sub [(1, .int x1)] [1] rfl ?_
      exact hK36 _ _ h
    · have h := zifn (c := 24 ≤ x2) h c
      refine zz_iload_n M 2 dX7_changes_10 rfl rfl ?_
      refine zz_aload_n M 0 dX7_changes_11 rfl rfl ?_
      refine zz_alen (v := 24) M tX_37 (by decide) (by decide) dX7_changes_12 ?_
      refine zz_icmp_ge M 36 dX7_changes_13 (by decide) (fun c => ?_) (fun c => ?_)
      · have h := zif (c := 24 ≤ x2) h c
        refine zz_sub [(1, .int x1)] [1] rfl ?_
        exact hK36 _ _ h
      · have h := zifn (c := 24 ≤ x2) h c
        refine zz_aload_n M 0 dX7_changes_16 rfl rfl ?_
        refine zz_iload_n M 2 dX7_changes_17 rfl rfl ?_
        refine zz_iald M tX_37 h.1 dX7_changes_18 ?_
        have h := h.2
        refine zz_aload_n M 0 dX7_changes_19 rfl rfl ?_
        refine zz_iload_n M 2 dX7_changes_20 rfl rfl ?_
        refine zz_iconst (v := 1) M dX7_changes_21 (by decide) ?_
        refine zz_isub M dX7_changes_22 ?_
        refine zz_iald M tX_37 h.1 dX7_changes_23 ?_
        have h := h.2
        refine zz_icmp_eq M 30 dX7_changes_24 (by decide) (fun c => ?_) (fun c => ?_)
        · have h := zif (c := (σ.1 37 x2.toNatClampNeg) = (σ.1 37 (x2 - 1 : Int32).toNatClampNeg)) h c
          obtain ⟨x101, ex101⟩ : ∃ z : Int32, z = x2 + 1 := ⟨_, rfl⟩
          have h := h x101 ex101
          refine zz_iinc M [(2, .int x101), (0, .ref (ad 37)), (1, .int x1)] 2 dX7_changes_30 rfl (n32 := 1) (by decide) ex101 (by decide) rfl ?_
          refine zz_goto M 4 dX7_changes_33 (by decide) ?_
          refine zz_sub [(0, .ref (ad 37)), (1, .int x1), (2, .int x101)] [1, 2, 0] rfl ?_
          exact ih _ _ _ h
        · have h := zifn (c := (σ.1 37 x2.toNatClampNeg) = (σ.1 37 (x2 - 1 : Int32).toNatClampNeg)) h c
          obtain ⟨x102, ex102⟩ : ∃ z : Int32, z = x1 + 1 := ⟨_, rfl⟩
          have h := h x102 ex102
          refine zz_iinc M [(1, .int x102), (0, .ref (ad 37)), (2, .int x2)] 1 dX7_changes_27 rfl (n32 := 1) (by decide) ex102 (by decide) rfl ?_
          obtain ⟨x103, ex103⟩ : ∃ z : Int32, z = x2 + 1 := ⟨_, rfl⟩
          have h := h x103 ex103
          refine zz_iinc M [(2, .int x103), (1, .int x102), (0, .ref (ad 37))] 2 dX7_changes_30 rfl (n32 := 1) (by decide) ex103 (by decide) rfl ?_
          refine zz_goto M 4 dX7_changes_33 (by decide) ?_
          refine zz_sub [(0, .ref (ad 37)), (1, .int x102), (2, .int x103)] [2, 1, 0] rfl ?_
          exact ih _ _ _ h
def wX7_changes_37  (σ : zSt) (Q : Int32 → zSt → Prop) : Prop := wX7_changes_37_L4 Q (fun v104 σ105 => Q v104 σ105)  300 0 1 σ
set_option maxRecDepth 20000 in
set_option maxHeartbeats 4000000 in
theorem kX7_changes_37 (hI : zInj tabX ad)   (σ : zSt) (Q : Int32 → zSt → Prop) (h : wX7_changes_37  σ Q) : zOkI l tabX D cA ad y 1 yX7_changes cX7_changes 3 (some .int) [.ref (ad 37)] σ Q := by
  refine zz_enter hI (by decide) (Nat.le_of_ble_eq_true rfl) (fun p e s m below meth c M => ?_)
  have M : zM p s m _ meth c cX7_changes 3 RX7 (some .int) tabX D cA ad y := M
  refine zz_ls [(0, .ref (ad 37))] rfl ?_
  unfold wX7_changes_37 at h
  refine zz_iconst (v := 0) M dX7_changes_0 (by decide) ?_
  refine zz_istore_n M [(1, .int 0), (0, .ref (ad 37))] dX7_changes_1 rfl (by decide) rfl ?_
  refine zz_iconst (v := 1) M dX7_changes_2 (by decide) ?_
  refine zz_istore_n M [(2, .int 1), (1, .int 0), (0, .ref (ad 37))] dX7_changes_3 rfl (by decide) rfl ?_
  refine zz_sub [(0, .ref (ad 37)), (1, .int 0), (2, .int 1)] [2, 1, 0] rfl ?_
  refine sX7_changes_37_L4   M (fun v104 σ105 h => ?_) 300 _ _ _ h
  refine zz_iload_n M 0 dX7_changes_36 rfl rfl ?_
  exact zz_iret M dX7_changes_37 h
def wX7_least (x1 : Int32) (σ : zSt) (Q : Int32 → zSt → Prop) : Prop := if x1 < 0 then (Q (-2) σ) else (if x1 ≤ 25 then (wX4_findLeast  σ (fun σ102 => if x1 = 0 then (Q (σ102.1 28 11) σ102) else (if x1 = 1 then (wX7_changes_37  σ102 (fun r103 σ104 => Q r103 σ104)) else (vp_in (x1 - 2) 24 ∧ (Q (σ102.1 37 (x1 - 2 : Int32).toNatClampNeg) σ102))))) else (Q (-2) σ))
set_option maxRecDepth 20000 in
set_option maxHeartbeats 4000000 in
theorem kX7_least (hI : zInj tabX ad) (x1 : Int32)  (σ : zSt) (Q : Int32 → zSt → Prop) (h : wX7_least x1 σ Q) : zOkI l tabX D cA ad y 7 yX7_least cX7_least 2 (some .int) [.ref (ad 0), .int x1] σ Q := by
  refine zz_enter hI (by decide) (Nat.le_of_ble_eq_true rfl) (fun p e s m below meth c M => ?_)
  have M : zM p s m _ meth c cX7_least 2 RX7 (some .int) tabX D cA ad y := M
  refine zz_ls [(0, .ref (ad 0)), (1, .int x1)] rfl ?_
  unfold wX7_least at h
  refine zz_iload_n M 1 dX7_least_0 rfl rfl ?_
  refine zz_if_lt (y0 := 0) M 10 dX7_least_1 (by decide) (fun c => ?_) (fun c => ?_)
  · have h := zif (c := x1 < 0) h c
    refine zz_bipush (v := (-2)) M dX7_least_10 (by decide) ?_
    exact zz_iret M dX7_least_12 h
  · have h := zifn (c := x1 < 0) h c
    refine zz_iload_n M 1 dX7_least_4 rfl rfl ?_
    refine zz_bipush (v := 25) M dX7_least_5 (by decide) ?_
    refine zz_icmp_le M 13 dX7_least_7 (by decide) (fun c => ?_) (fun c => ?_)
    · have h := zif (c := x1 ≤ 25) h c
      refine zz_aload_n M 0 dX7_least_13 rfl rfl ?_
      refine zz_getR M f_X7_67 tX_0 rfl dX7_least_14 ?_
      refine zz_callVV (d' := 6) (As := []) (rest := []) M l_X7_185 tX_28 rfl rfl dX7_least_17 rfl rfl (by decide) (Nat.le_of_ble_eq_true rfl) (by have hI := M.2.2.2.2.2.2.2.2; exact kX4_findLeast hI   _ _ h) (fun σ102 h => ?_)
      refine zz_iload_n M 1 dX7_least_20 rfl rfl ?_
      refine zz_if_ne (y0 := 0) M 32 dX7_least_21 (by decide) (fun c => ?_) (fun c => ?_)
      · have h := zifn (c := x1 = 0) h c
        refine zz_iload_n M 1 dX7_least_32 rfl rfl ?_
        refine zz_iconst (v := 1) M dX7_least_33 (by decide) ?_
        refine zz_icmp_ne M 50 dX7_least_34 (by decide) (fun c => ?_) (fun c => ?_)
        · have h := zifn (c := x1 = 1) h c
          refine zz_aload_n M 0 dX7_least_50 rfl rfl ?_
          refine zz_getR M f_X7_67 tX_0 rfl dX7_least_51 ?_
          refine zz_getR M f_X7_191 tX_28 rfl dX7_least_54 ?_
          refine zz_iload_n M 1 dX7_least_57 rfl rfl ?_
          refine zz_iconst (v := 2) M dX7_least_58 (by decide) ?_
          refine zz_isub M dX7_least_59 ?_
          refine zz_iald M tX_37 h.1 dX7_least_60 ?_
          have h := h.2
          exact zz_iret M dX7_least_61 h
        · have h := zif (c := x1 = 1) h c
          refine zz_aload_n M 0 dX7_least_37 rfl rfl ?_
          refine zz_getR M f_X7_67 tX_0 rfl dX7_least_38 ?_
          refine zz_getR M f_X7_191 tX_28 rfl dX7_least_41 ?_
          refine zz_callSI (d' := 1) (As := [.ref (ad 37)]) (rest := []) M l_X7_175 dX7_least_44 rfl rfl (by decide) (Nat.le_of_ble_eq_true rfl) (by have hI := M.2.2.2.2.2.2.2.2; exact kX7_changes_37 hI   _ _ h) (fun r103 σ104 h => ?_)
          refine zz_goto M 61 dX7_least_47 (by decide) ?_
          exact zz_iret M dX7_least_61 h
      · have h := zif (c := x1 = 0) h c
        refine zz_aload_n M 0 dX7_least_24 rfl rfl ?_
        refine zz_getR M f_X7_67 tX_0 rfl dX7_least_25 ?_
        refine zz_getI M f_X7_188 tX_28 rfl dX7_least_28 ?_
        exact zz_iret M dX7_least_31 h
    · have h := zifn (c := x1 ≤ 25) h c
      refine zz_bipush (v := (-2)) M dX7_least_10 (by decide) ?_
      exact zz_iret M dX7_least_12 h
def wX7_lay  (σ : zSt) (Q : Int32 → zSt → Prop) : Prop := wX4_findLeast  σ (fun σ102 => ∀ σ103 : zSt, σ103 = zcopy σ102 37 0 2 0 24 → (Q (σ103.1 28 11) σ103))
set_option maxRecDepth 20000 in
set_option maxHeartbeats 4000000 in
theorem kX7_lay (hI : zInj tabX ad)   (σ : zSt) (Q : Int32 → zSt → Prop) (h : wX7_lay  σ Q) : zOkI l tabX D cA ad y 7 yX7_lay cX7_lay 1 (some .int) [.ref (ad 0)] σ Q := by
  refine zz_enter hI (by decide) (Nat.le_of_ble_eq_true rfl) (fun p e s m below meth c M => ?_)
  have M : zM p s m _ meth c cX7_lay 1 RX7 (some .int) tabX D cA ad y := M
  refine zz_ls [(0, .ref (ad 0))] rfl ?_
  unfold wX7_lay at h
  refine zz_aload_n M 0 dX7_lay_0 rfl rfl ?_
  refine zz_getR M f_X7_67 tX_0 rfl dX7_lay_1 ?_
  refine zz_callVV (d' := 6) (As := []) (rest := []) M l_X7_185 tX_28 rfl rfl dX7_lay_4 rfl rfl (by decide) (Nat.le_of_ble_eq_true rfl) (by have hI := M.2.2.2.2.2.2.2.2; exact kX4_findLeast hI   _ _ h) (fun σ102 h => ?_)
  refine zz_aload_n M 0 dX7_lay_7 rfl rfl ?_
  refine zz_getR M f_X7_67 tX_0 rfl dX7_lay_8 ?_
  refine zz_getR M f_X7_191 tX_28 rfl dX7_lay_11 ?_
  refine zz_iconst (v := 0) M dX7_lay_14 (by decide) ?_
  refine zz_aload_n M 0 dX7_lay_15 rfl rfl ?_
  refine zz_getR M f_X7_12 tX_0 rfl dX7_lay_16 ?_
  refine zz_getR M f_X7_148 tX_1 rfl dX7_lay_19 ?_
  refine zz_iconst (v := 0) M dX7_lay_22 (by decide) ?_
  refine zz_bipush (v := 24) M dX7_lay_23 (by decide) ?_
  refine zz_copyK (sk := 0) (dk := 0) (nk := 24) M l_X7_194 zarrcopy tX_37 tX_2 (by decide) (Nat.le_of_ble_eq_true rfl) dX7_lay_25 (by decide) (by decide) ?_
  refine zz_sg (fun σ103 eσ103 => ?_)
  have h := h σ103 eσ103
  refine zz_aload_n M 0 dX7_lay_28 rfl rfl ?_
  refine zz_getR M f_X7_67 tX_0 rfl dX7_lay_29 ?_
  refine zz_getI M f_X7_188 tX_28 rfl dX7_lay_32 ?_
  exact zz_iret M dX7_lay_35 h
def wX4_priceChangesAlone_L10 (Q : zSt → Prop) (K36 : zSt → Prop)  : Nat → Int32 → zSt → Prop
  | 0, _, _ => False
  | n + 1, x1, σ => if 8 ≤ x1 then (K36  σ) else (vp_in ((x1 * 25) + 24) 200 ∧ (∀ σ102 : zSt, σ102 = zput σ 29 ((x1 * 25) + 24 : Int32).toNatClampNeg 1000000 → (∀ x103 : Int32, x103 = x1 + 1 → (wX4_priceChangesAlone_L10 Q K36  n x103 σ102))))
set_option maxRecDepth 20000 in
set_option maxHeartbeats 4000000 in
theorem sX4_priceChangesAlone_L10 {Q : zSt → Prop} {K36 : zSt → Prop}   (M : zM p s m args meth c cX4_priceChangesAlone 2 RX4 none tabX D cA ad y) (hK36 : ∀ (σ : zSt), K36  σ → zG p l e (zrm 2) s m args below meth c 2 tabX D cA ad (MQ below (va_Qv Q (fun σ' t => va_P D vwCl (zws tabX cA ad σ') t.heap) (zIn tabX ad)) args s 0 0 (zIn tabX ad)) 36 [(0, .ref (ad 28))] [] σ) : ∀ (n : Nat) (x1 : Int32) (σ : zSt), wX4_priceChangesAlone_L10 Q K36  n x1 σ → zG p l e (zrm 2) s m args below meth c 2 tabX D cA ad (MQ below (va_Qv Q (fun σ' t => va_P D vwCl (zws tabX cA ad σ') t.heap) (zIn tabX ad)) args s 0 0 (zIn tabX ad)) 10 [(0, .ref (ad 28)), (1, .int x1)] [] σ := by
  intro n
  induction n with
  | zero => intro x1 σ h; exact absurd h (by simp [wX4_priceChangesAlone_L10])
  | succ n ih =>
    intro x1 σ h
    unfold wX4_priceChangesAlone_L10 at h
    refine zz_iload_n M 1 dX4_priceChangesAlone_10 rfl rfl ?_
    refine zz_bipush (v := 8) M dX4_priceChangesAlone_11 (by decide) ?_
    refine zz_icmp_ge M 36 dX4_priceChangesAlone_13 (by decide) (fun c => ?_) (fun c => ?_)
    · have h := zif (c := 8 ≤ x1) h c
      refine zz_sub [(0, .ref (ad 28))] [0] rfl ?_
      exact hK36  _ h
    · have h := zifn (c := 8 ≤ x1) h c
      refine zz_aload_n M 0 dX4_priceChangesAlone_16 rfl rfl ?_
      refine zz_getR M f_X4_11 tX_28 rfl dX4_priceChangesAlone_17 ?_
      refine zz_iload_n M 1 dX4_priceChangesAlone_20 rfl rfl ?_
      refine zz_bipush (v := 25) M dX4_priceChangesAlone_21 (by decide) ?_
      refine zz_imul M dX4_priceChangesAlone_23 ?_
      refine zz_bipush (v := 24) M dX4_priceChangesAlone_24 (by decide) ?_
      refine zz_iadd M dX4_priceChangesAlone_26 ?_
      refine zz_ldc (v := 1000000) M k_X4_67 dX4_priceChangesAlone_27 ?_
      refine zz_iast M tX_29 h.1 dX4_priceChangesAlone_29 ?_
      have h := h.2
      refine zz_sg (fun σ102 eσ102 => ?_)
      have h := h σ102 eσ102
      obtain ⟨x103, ex103⟩ : ∃ z : Int32, z = x1 + 1 := ⟨_, rfl⟩
      have h := h x103 ex103
      refine zz_iinc M [(1, .int x103), (0, .ref (ad 28))] 1 dX4_priceChangesAlone_30 rfl (n32 := 1) (by decide) ex103 (by decide) rfl ?_
      refine zz_goto M 10 dX4_priceChangesAlone_33 (by decide) ?_
      refine zz_sub [(0, .ref (ad 28)), (1, .int x103)] [1, 0] rfl ?_
      exact ih _ _ h
def wX4_priceChangesAlone  (σ : zSt) (Q : zSt → Prop) : Prop := ∀ σ101 : zSt, σ101 = zfill σ 29 200 0 → (wX4_priceChangesAlone_L10 Q (fun  σ104 => ∀ σ105 : zSt, σ105 = zfill σ104 30 216 1 → (Q σ105))  300 0 σ101)
set_option maxRecDepth 20000 in
set_option maxHeartbeats 4000000 in
theorem kX4_priceChangesAlone (hI : zInj tabX ad)   (σ : zSt) (Q : zSt → Prop) (h : wX4_priceChangesAlone  σ Q) : zOkV l tabX D cA ad y 2 yX4_priceChangesAlone cX4_priceChangesAlone 2 none [.ref (ad 28)] σ Q := by
  refine zz_enter hI (by decide) (Nat.le_of_ble_eq_true rfl) (fun p e s m below meth c M => ?_)
  have M : zM p s m _ meth c cX4_priceChangesAlone 2 RX4 none tabX D cA ad y := M
  refine zz_ls [(0, .ref (ad 28))] rfl ?_
  unfold wX4_priceChangesAlone at h
  refine zz_aload_n M 0 dX4_priceChangesAlone_0 rfl rfl ?_
  refine zz_getR M f_X4_11 tX_28 rfl dX4_priceChangesAlone_1 ?_
  refine zz_iconst (v := 0) M dX4_priceChangesAlone_4 (by decide) ?_
  refine zz_fill (rest := []) M l_X4_92 tX_29 (by decide) dX4_priceChangesAlone_5 rfl (by decide) (Nat.le_of_ble_eq_true rfl) ?_
  refine zz_sg (fun σ101 eσ101 => ?_)
  have h := h σ101 eσ101
  refine zz_iconst (v := 0) M dX4_priceChangesAlone_8 (by decide) ?_
  refine zz_istore_n M [(1, .int 0), (0, .ref (ad 28))] dX4_priceChangesAlone_9 rfl (by decide) rfl ?_
  refine zz_sub [(0, .ref (ad 28)), (1, .int 0)] [1, 0] rfl ?_
  refine sX4_priceChangesAlone_L10   M (fun  σ104 h => ?_) 300 _ _ h
  refine zz_aload_n M 0 dX4_priceChangesAlone_36 rfl rfl ?_
  refine zz_getR M f_X4_15 tX_28 rfl dX4_priceChangesAlone_37 ?_
  refine zz_iconst (v := 1) M dX4_priceChangesAlone_40 (by decide) ?_
  refine zz_fill (rest := []) M l_X4_92 tX_30 (by decide) dX4_priceChangesAlone_41 rfl (by decide) (Nat.le_of_ble_eq_true rfl) ?_
  refine zz_sg (fun σ105 eσ105 => ?_)
  have h := h σ105 eσ105
  exact zz_vret M dX4_priceChangesAlone_44 h
def wX4_fewestChanges  (σ : zSt) (Q : Int32 → zSt → Prop) : Prop := if (σ.1 28 12) = (-2) then (wX4_priceChangesAlone  σ (fun σ102 => wX4_solve  σ102 (fun r103 σ104 => if 1000000 ≤ r103 then (∀ σ105 : zSt, σ105 = zput σ104 28 12 (-1) → (Q (σ105.1 28 12) σ105)) else (∀ σ106 : zSt, σ106 = zput σ104 28 12 r103 → (Q (σ106.1 28 12) σ106))))) else (Q (σ.1 28 12) σ)
set_option maxRecDepth 20000 in
set_option maxHeartbeats 4000000 in
theorem kX4_fewestChanges (hI : zInj tabX ad)   (σ : zSt) (Q : Int32 → zSt → Prop) (h : wX4_fewestChanges  σ Q) : zOkI l tabX D cA ad y 6 yX4_fewestChanges cX4_fewestChanges 2 (some .int) [.ref (ad 28)] σ Q := by
  refine zz_enter hI (by decide) (Nat.le_of_ble_eq_true rfl) (fun p e s m below meth c M => ?_)
  have M : zM p s m _ meth c cX4_fewestChanges 2 RX4 (some .int) tabX D cA ad y := M
  refine zz_ls [(0, .ref (ad 28))] rfl ?_
  unfold wX4_fewestChanges at h
  refine zz_aload_n M 0 dX4_fewestChanges_0 rfl rfl ?_
  refine zz_getI M f_X4_43 tX_28 rfl dX4_fewestChanges_1 ?_
  refine zz_bipush (v := (-2)) M dX4_fewestChanges_4 (by decide) ?_
  refine zz_icmp_ne M 33 dX4_fewestChanges_6 (by decide) (fun c => ?_) (fun c => ?_)
  · have h := zifn (c := (σ.1 28 12) = (-2)) h c
    refine zz_aload_n M 0 dX4_fewestChanges_33 rfl rfl ?_
    refine zz_getI M f_X4_43 tX_28 rfl dX4_fewestChanges_34 ?_
    exact zz_iret M dX4_fewestChanges_37 h
  · have h := zif (c := (σ.1 28 12) = (-2)) h c
    refine zz_aload_n M 0 dX4_fewestChanges_9 rfl rfl ?_
    refine zz_callVV (d' := 2) (As := []) (rest := []) M l_X4_64 tX_28 rfl rfl dX4_fewestChanges_10 rfl rfl (by decide) (Nat.le_of_ble_eq_true rfl) (by have hI := M.2.2.2.2.2.2.2.2; exact kX4_priceChangesAlone hI   _ _ h) (fun σ102 h => ?_)
    refine zz_aload_n M 0 dX4_fewestChanges_13 rfl rfl ?_
    refine zz_callVI (d' := 5) (As := []) (rest := []) M l_X4_57 tX_28 rfl rfl dX4_fewestChanges_14 rfl rfl (by decide) (Nat.le_of_ble_eq_true rfl) (by have hI := M.2.2.2.2.2.2.2.2; exact kX4_solve hI   _ _ h) (fun r103 σ104 h => ?_)
    refine zz_istore_n M [(1, .int r103), (0, .ref (ad 28))] dX4_fewestChanges_17 rfl (by decide) rfl ?_
    refine zz_aload_n M 1 dX4_fewestChanges_18 rfl rfl ?_
    refine zz_iload_n M 0 dX4_fewestChanges_19 rfl rfl ?_
    refine zz_ldc (v := 1000000) M k_X4_67 dX4_fewestChanges_20 ?_
    refine zz_icmp_ge M 29 dX4_fewestChanges_22 (by decide) (fun c => ?_) (fun c => ?_)
    · have h := zif (c := 1000000 ≤ r103) h c
      refine zz_iconst (v := (-1)) M dX4_fewestChanges_29 (by decide) ?_
      refine zz_putI M f_X4_43 tX_28 rfl dX4_fewestChanges_30 ?_
      refine zz_sg (fun σ105 eσ105 => ?_)
      have h := h σ105 eσ105
      refine zz_aload_n M 1 dX4_fewestChanges_33 rfl rfl ?_
      refine zz_getI M f_X4_43 tX_28 rfl dX4_fewestChanges_34 ?_
      exact zz_iret M dX4_fewestChanges_37 h
    · have h := zifn (c := 1000000 ≤ r103) h c
      refine zz_iload_n M 0 dX4_fewestChanges_25 rfl rfl ?_
      refine zz_goto M 30 dX4_fewestChanges_26 (by decide) ?_
      refine zz_putI M f_X4_43 tX_28 rfl dX4_fewestChanges_30 ?_
      refine zz_sg (fun σ106 eσ106 => ?_)
      have h := h σ106 eσ106
      refine zz_aload_n M 1 dX4_fewestChanges_33 rfl rfl ?_
      refine zz_getI M f_X4_43 tX_28 rfl dX4_fewestChanges_34 ?_
      exact zz_iret M dX4_fewestChanges_37 h
def wX7_fewest  (σ : zSt) (Q : Int32 → zSt → Prop) : Prop := wX4_fewestChanges  σ (fun r101 σ102 => Q r101 σ102)
set_option maxRecDepth 20000 in
set_option maxHeartbeats 4000000 in
theorem kX7_fewest (hI : zInj tabX ad)   (σ : zSt) (Q : Int32 → zSt → Prop) (h : wX7_fewest  σ Q) : zOkI l tabX D cA ad y 7 yX7_fewest cX7_fewest 1 (some .int) [.ref (ad 0)] σ Q := by
  refine zz_enter hI (by decide) (Nat.le_of_ble_eq_true rfl) (fun p e s m below meth c M => ?_)
  have M : zM p s m _ meth c cX7_fewest 1 RX7 (some .int) tabX D cA ad y := M
  refine zz_ls [(0, .ref (ad 0))] rfl ?_
  unfold wX7_fewest at h
  refine zz_aload_n M 0 dX7_fewest_0 rfl rfl ?_
  refine zz_getR M f_X7_67 tX_0 rfl dX7_fewest_1 ?_
  refine zz_callVI (d' := 6) (As := []) (rest := []) M l_X7_200 tX_28 rfl rfl dX7_fewest_4 rfl rfl (by decide) (Nat.le_of_ble_eq_true rfl) (by have hI := M.2.2.2.2.2.2.2.2; exact kX4_fewestChanges hI   _ _ h) (fun r101 σ102 h => ?_)
  exact zz_iret M dX7_fewest_7 h
def wX2_waiting_L6 (Q : Int32 → zSt → Prop) (K92 : Int32 → zSt → Prop) (x1 : Int32) (x2 : Int32) (x3 : Int32) (x4 : Int32) : Nat → Int32 → Int32 → zSt → Prop
  | 0, _, _, _ => False
  | n + 1, x5, x6, σ => if (x1 + 4) ≤ x6 then (K92 x5 σ) else (if 8 ≤ x6 then (K92 x5 σ) else (wX1_isThere x6 σ (fun r101 σ102 => if r101 = 0 then (∀ x103 : Int32, x103 = x6 + 1 → (wX2_waiting_L6 Q K92 x1 x2 x3 x4 n x5 x103 σ102)) else (vp_in x6 8 ∧ (if (σ102.1 4 x6.toNatClampNeg) = x2 then (vp_in x6 8 ∧ (if x3 < (σ102.1 5 x6.toNatClampNeg) then (∀ x105 : Int32, x105 = x6 + 1 → (wX2_waiting_L6 Q K92 x1 x2 x3 x4 n x5 x105 σ102)) else (if (x4 &&& (1 <<< (x6 &&& 31))) = 0 then (vp_in x6 8 ∧ (∀ x107 : Int32, x107 = (x5 + (σ102.1 6 x6.toNatClampNeg)) → (∀ x108 : Int32, x108 = x6 + 1 → (wX2_waiting_L6 Q K92 x1 x2 x3 x4 n x107 x108 σ102)))) else (∀ x106 : Int32, x106 = x6 + 1 → (wX2_waiting_L6 Q K92 x1 x2 x3 x4 n x5 x106 σ102))))) else (∀ x104 : Int32, x104 = x6 + 1 → (wX2_waiting_L6 Q K92 x1 x2 x3 x4 n x5 x104 σ102)))))))
set_option maxRecDepth 20000 in
set_option maxHeartbeats 4000000 in
theorem sX2_waiting_L6 {Q : Int32 → zSt → Prop} {K92 : Int32 → zSt → Prop} (x1 : Int32) (x2 : Int32) (x3 : Int32) (x4 : Int32)  (M : zM p s m args meth c cX2_waiting 7 RX2 (some .int) tabX D cA ad y) (hK92 : ∀ (v5 : Int32) (σ : zSt), K92 v5 σ → zG p l e (zrm 2) s m args below meth c 7 tabX D cA ad (MQ below (va_Qi Q (fun σ' t => va_P D vwCl (zws tabX cA ad σ') t.heap) (zIn tabX ad)) args s 0 0 (zIn tabX ad)) 92 [(5, .int v5)] [] σ) : ∀ (n : Nat) (x5 : Int32) (x6 : Int32) (σ : zSt), wX2_waiting_L6 Q K92 x1 x2 x3 x4 n x5 x6 σ → zG p l e (zrm 2) s m args below meth c 7 tabX D cA ad (MQ below (va_Qi Q (fun σ' t => va_P D vwCl (zws tabX cA ad σ') t.heap) (zIn tabX ad)) args s 0 0 (zIn tabX ad)) 6 [(0, .ref (ad 38)), (1, .int x1), (2, .int x2), (3, .int x3), (4, .int x4), (5, .int x5), (6, .int x6)] [] σ := by
  intro n
  induction n with
  | zero => intro x5 x6 σ h; exact absurd h (by simp [wX2_waiting_L6])
  | succ n ih =>
    intro x5 x6 σ h
    unfold wX2_waiting_L6 at h
    refine zz_iload M 6 dX2_waiting_6 rfl ?_
    refine zz_iload_n M 1 dX2_waiting_8 rfl rfl ?_
    refine zz_iconst (v := 4) M dX2_waiting_9 (by decide) ?_
    refine zz_iadd M dX2_waiting_10 ?_
    refine zz_icmp_ge M 92 dX2_waiting_11 (by decide) (fun c => ?_) (fun c => ?_)
    · have h := zif (c := (x1 + 4) ≤ x6) h c
      refine zz_sub [(5, .int x5)] [5] rfl ?_
      exact hK92 _ _ h
    · have h := zifn (c := (x1 + 4) ≤ x6) h c
      refine zz_iload M 6 dX2_waiting_14 rfl ?_
      refine zz_bipush (v := 8) M dX2_waiting_16 (by decide) ?_
      refine zz_icmp_ge M 92 dX2_waiting_18 (by decide) (fun c => ?_) (fun c => ?_)
      · have h := zif (c := 8 ≤ x6) h c
        refine zz_sub [(5, .int x5)] [5] rfl ?_
        exact hK92 _ _ h
      · have h := zifn (c := 8 ≤ x6) h c
        refine zz_aload_n M 0 dX2_waiting_21 rfl rfl ?_
        refine zz_getR M f_X2_21 tX_38 rfl dX2_waiting_22 ?_
        refine zz_iload M 6 dX2_waiting_25 rfl ?_
        refine zz_callVI (d' := 1) (As := [.int x6]) (rest := []) M l_X2_44 tX_1 rfl rfl dX2_waiting_27 rfl rfl (by decide) (Nat.le_of_ble_eq_true rfl) (by have hI := M.2.2.2.2.2.2.2.2; exact kX1_isThere hI _  _ _ h) (fun r101 σ102 h => ?_)
        refine zz_if_eq (y0 := 0) M 86 dX2_waiting_30 (by decide) (fun c => ?_) (fun c => ?_)
        · have h := zif (c := r101 = 0) h c
          obtain ⟨x103, ex103⟩ : ∃ z : Int32, z = x6 + 1 := ⟨_, rfl⟩
          have h := h x103 ex103
          refine zz_iinc M [(6, .int x103), (0, .ref (ad 38)), (1, .int x1), (2, .int x2), (3, .int x3), (4, .int x4), (5, .int x5)] 6 dX2_waiting_86 rfl (n32 := 1) (by decide) ex103 (by decide) rfl ?_
          refine zz_goto M 6 dX2_waiting_89 (by decide) ?_
          refine zz_sub [(0, .ref (ad 38)), (1, .int x1), (2, .int x2), (3, .int x3), (4, .int x4), (5, .int x5), (6, .int x103)] [1, 2, 3, 4, 5, 6, 0] rfl ?_
          exact ih _ _ _ h
        · have h := zifn (c := r101 = 0) h c
          refine zz_aload_n M 0 dX2_waiting_33 rfl rfl ?_
          refine zz_getR M f_X2_21 tX_38 rfl dX2_waiting_34 ?_
          refine zz_getR M f_X2_48 tX_1 rfl dX2_waiting_37 ?_
          refine zz_iload M 6 dX2_waiting_40 rfl ?_
          refine zz_iald M tX_4 h.1 dX2_waiting_42 ?_
          have h := h.2
          refine zz_iload_n M 2 dX2_waiting_43 rfl rfl ?_
          refine zz_icmp_ne M 86 dX2_waiting_44 (by decide) (fun c => ?_) (fun c => ?_)
          · have h := zifn (c := (σ102.1 4 x6.toNatClampNeg) = x2) h c
            obtain ⟨x104, ex104⟩ : ∃ z : Int32, z = x6 + 1 := ⟨_, rfl⟩
            have h := h x104 ex104
            refine zz_iinc M [(6, .int x104), (0, .ref (ad 38)), (1, .int x1), (2, .int x2), (3, .int x3), (4, .int x4), (5, .int x5)] 6 dX2_waiting_86 rfl (n32 := 1) (by decide) ex104 (by decide) rfl ?_
            refine zz_goto M 6 dX2_waiting_89 (by decide) ?_
            refine zz_sub [(0, .ref (ad 38)), (1, .int x1), (2, .int x2), (3, .int x3), (4, .int x4), (5, .int x5), (6, .int x104)] [1, 2, 3, 4, 5, 6, 0] rfl ?_
            exact ih _ _ _ h
          · have h := zif (c := (σ102.1 4 x6.toNatClampNeg) = x2) h c
            refine zz_aload_n M 0 dX2_waiting_47 rfl rfl ?_
            refine zz_getR M f_X2_21 tX_38 rfl dX2_waiting_48 ?_
            refine zz_getR M f_X2_51 tX_1 rfl dX2_waiting_51 ?_
            refine zz_iload M 6 dX2_waiting_54 rfl ?_
            refine zz_iald M tX_5 h.1 dX2_waiting_56 ?_
            have h := h.2
            refine zz_iload_n M 3 dX2_waiting_57 rfl rfl ?_
            refine zz_icmp_gt M 86 dX2_waiting_58 (by decide) (fun c => ?_) (fun c => ?_)
            · have h := zif (c := x3 < (σ102.1 5 x6.toNatClampNeg)) h c
              obtain ⟨x105, ex105⟩ : ∃ z : Int32, z = x6 + 1 := ⟨_, rfl⟩
              have h := h x105 ex105
              refine zz_iinc M [(6, .int x105), (0, .ref (ad 38)), (1, .int x1), (2, .int x2), (3, .int x3), (4, .int x4), (5, .int x5)] 6 dX2_waiting_86 rfl (n32 := 1) (by decide) ex105 (by decide) rfl ?_
              refine zz_goto M 6 dX2_waiting_89 (by decide) ?_
              refine zz_sub [(0, .ref (ad 38)), (1, .int x1), (2, .int x2), (3, .int x3), (4, .int x4), (5, .int x5), (6, .int x105)] [1, 2, 3, 4, 5, 6, 0] rfl ?_
              exact ih _ _ _ h
            · have h := zifn (c := x3 < (σ102.1 5 x6.toNatClampNeg)) h c
              refine zz_iload M 4 dX2_waiting_61 rfl ?_
              refine zz_iconst (v := 1) M dX2_waiting_63 (by decide) ?_
              refine zz_iload M 6 dX2_waiting_64 rfl ?_
              refine zz_ishl M dX2_waiting_66 ?_
              refine zz_iand M dX2_waiting_67 ?_
              refine zz_if_ne (y0 := 0) M 86 dX2_waiting_68 (by decide) (fun c => ?_) (fun c => ?_)
              · have h := zifn (c := (x4 &&& (1 <<< (x6 &&& 31))) = 0) h c
                obtain ⟨x106, ex106⟩ : ∃ z : Int32, z = x6 + 1 := ⟨_, rfl⟩
                have h := h x106 ex106
                refine zz_iinc M [(6, .int x106), (0, .ref (ad 38)), (1, .int x1), (2, .int x2), (3, .int x3), (4, .int x4), (5, .int x5)] 6 dX2_waiting_86 rfl (n32 := 1) (by decide) ex106 (by decide) rfl ?_
                refine zz_goto M 6 dX2_waiting_89 (by decide) ?_
                refine zz_sub [(0, .ref (ad 38)), (1, .int x1), (2, .int x2), (3, .int x3), (4, .int x4), (5, .int x5), (6, .int x106)] [1, 2, 3, 4, 5, 6, 0] rfl ?_
                exact ih _ _ _ h
              · have h := zif (c := (x4 &&& (1 <<< (x6 &&& 31))) = 0) h c
                refine zz_iload M 5 dX2_waiting_71 rfl ?_
                refine zz_aload_n M 0 dX2_waiting_73 rfl rfl ?_
                refine zz_getR M f_X2_21 tX_38 rfl dX2_waiting_74 ?_
                refine zz_getR M f_X2_54 tX_1 rfl dX2_waiting_77 ?_
                refine zz_iload M 6 dX2_waiting_80 rfl ?_
                refine zz_iald M tX_6 h.1 dX2_waiting_82 ?_
                have h := h.2
                refine zz_iadd M dX2_waiting_83 ?_
                refine zz_topi (fun x107 ex107 => ?_)
                have h := h x107 ex107
                refine zz_istore M [(5, .int x107), (0, .ref (ad 38)), (1, .int x1), (2, .int x2), (3, .int x3), (4, .int x4), (6, .int x6)] dX2_waiting_84 (by decide) rfl ?_
                obtain ⟨x108, ex108⟩ : ∃ z : Int32, z = x6 + 1 := ⟨_, rfl⟩
                have h := h x108 ex108
                refine zz_iinc M [(6, .int x108), (5, .int x107), (0, .ref (ad 38)), (1, .int x1), (2, .int x2), (3, .int x3), (4, .int x4)] 6 dX2_waiting_86 rfl (n32 := 1) (by decide) ex108 (by decide) rfl ?_
                refine zz_goto M 6 dX2_waiting_89 (by decide) ?_
                refine zz_sub [(0, .ref (ad 38)), (1, .int x1), (2, .int x2), (3, .int x3), (4, .int x4), (5, .int x107), (6, .int x108)] [2, 3, 4, 5, 6, 1, 0] rfl ?_
                exact ih _ _ _ h
def wX2_waiting (x1 : Int32) (x2 : Int32) (x3 : Int32) (x4 : Int32) (σ : zSt) (Q : Int32 → zSt → Prop) : Prop := wX2_waiting_L6 Q (fun v109 σ110 => Q v109 σ110) x1 x2 x3 x4 300 0 x1 σ
set_option maxRecDepth 20000 in
set_option maxHeartbeats 4000000 in
theorem kX2_waiting (hI : zInj tabX ad) (x1 : Int32) (x2 : Int32) (x3 : Int32) (x4 : Int32)  (σ : zSt) (Q : Int32 → zSt → Prop) (h : wX2_waiting x1 x2 x3 x4 σ Q) : zOkI l tabX D cA ad y 2 yX2_waiting cX2_waiting 7 (some .int) [.ref (ad 38), .int x1, .int x2, .int x3, .int x4] σ Q := by
  refine zz_enter hI (by decide) (Nat.le_of_ble_eq_true rfl) (fun p e s m below meth c M => ?_)
  have M : zM p s m _ meth c cX2_waiting 7 RX2 (some .int) tabX D cA ad y := M
  refine zz_ls [(0, .ref (ad 38)), (1, .int x1), (2, .int x2), (3, .int x3), (4, .int x4)] rfl ?_
  unfold wX2_waiting at h
  refine zz_iconst (v := 0) M dX2_waiting_0 (by decide) ?_
  refine zz_istore M [(5, .int 0), (0, .ref (ad 38)), (1, .int x1), (2, .int x2), (3, .int x3), (4, .int x4)] dX2_waiting_1 (by decide) rfl ?_
  refine zz_iload_n M 2 dX2_waiting_3 rfl rfl ?_
  refine zz_istore M [(6, .int x1), (5, .int 0), (0, .ref (ad 38)), (1, .int x1), (2, .int x2), (3, .int x3), (4, .int x4)] dX2_waiting_4 (by decide) rfl ?_
  refine zz_sub [(0, .ref (ad 38)), (1, .int x1), (2, .int x2), (3, .int x3), (4, .int x4), (5, .int 0), (6, .int x1)] [2, 3, 4, 5, 6, 1, 0] rfl ?_
  refine sX2_waiting_L6 x1 x2 x3 x4  M (fun v109 σ110 h => ?_) 300 _ _ _ h
  refine zz_iload M 0 dX2_waiting_92 rfl ?_
  exact zz_iret M dX2_waiting_94 h
def wX2_byClock (x0 : Int32) (x1 : Int32) (x2 : Int32) (σ : zSt) (Q : Int32 → zSt → Prop) : Prop := ∀ x101 : Int32, x101 = (x0 + 1) → (if x101 ≤ 0 then (Q x2 σ) else (¬ x101 = 0 ∧ (if (x1 - x1 / x101 * x101) = 0 then (Q ((x2 + 1) - (x2 + 1) / 3 * 3) σ) else (Q x2 σ))))
set_option maxRecDepth 20000 in
set_option maxHeartbeats 4000000 in
theorem kX2_byClock (hI : zInj tabX ad) (x0 : Int32) (x1 : Int32) (x2 : Int32)  (σ : zSt) (Q : Int32 → zSt → Prop) (h : wX2_byClock x0 x1 x2 σ Q) : zOkI l tabX D cA ad y 1 yX2_byClock cX2_byClock 4 (some .int) [.int x0, .int x1, .int x2] σ Q := by
  refine zz_enter hI (by decide) (Nat.le_of_ble_eq_true rfl) (fun p e s m below meth c M => ?_)
  have M : zM p s m _ meth c cX2_byClock 4 RX2 (some .int) tabX D cA ad y := M
  refine zz_ls [(0, .int x0), (1, .int x1), (2, .int x2)] rfl ?_
  unfold wX2_byClock at h
  refine zz_iload_n M 0 dX2_byClock_0 rfl rfl ?_
  refine zz_iconst (v := 1) M dX2_byClock_1 (by decide) ?_
  refine zz_iadd M dX2_byClock_2 ?_
  refine zz_topi (fun x101 ex101 => ?_)
  have h := h x101 ex101
  refine zz_istore_n M [(3, .int x101), (0, .int x0), (1, .int x1), (2, .int x2)] dX2_byClock_3 rfl (by decide) rfl ?_
  refine zz_iload_n M 0 dX2_byClock_4 rfl rfl ?_
  refine zz_if_le (y0 := 0) M 22 dX2_byClock_5 (by decide) (fun c => ?_) (fun c => ?_)
  · have h := zif (c := x101 ≤ 0) h c
    refine zz_iload_n M 3 dX2_byClock_22 rfl rfl ?_
    exact zz_iret M dX2_byClock_23 h
  · have h := zifn (c := x101 ≤ 0) h c
    refine zz_iload_n M 2 dX2_byClock_8 rfl rfl ?_
    refine zz_iload_n M 0 dX2_byClock_9 rfl rfl ?_
    refine zz_irem M dX2_byClock_10 h.1 ?_
    have h := h.2
    refine zz_if_ne (y0 := 0) M 22 dX2_byClock_11 (by decide) (fun c => ?_) (fun c => ?_)
    · have h := zifn (c := (x1 - x1 / x101 * x101) = 0) h c
      refine zz_iload_n M 3 dX2_byClock_22 rfl rfl ?_
      exact zz_iret M dX2_byClock_23 h
    · have h := zif (c := (x1 - x1 / x101 * x101) = 0) h c
      refine zz_iload_n M 3 dX2_byClock_14 rfl rfl ?_
      refine zz_iconst (v := 1) M dX2_byClock_15 (by decide) ?_
      refine zz_iadd M dX2_byClock_16 ?_
      refine zz_iconst (v := 3) M dX2_byClock_17 (by decide) ?_
      refine zz_irem M dX2_byClock_18 (by decide) ?_
      refine zz_goto M 23 dX2_byClock_19 (by decide) ?_
      exact zz_iret M dX2_byClock_23 h
end
