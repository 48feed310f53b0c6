theorem wd_oi : Cond.instanceMethod Lib.objectInit ∈ zgw := (zint (List.mem_of_getElem? (i := 23) (by decide +kernel)) rfl)
theorem wd_oc : Cond.code Lib.objectInit ⟨#[0xb1]⟩ 1 none ∈ zgw := (zint (List.mem_of_getElem? (i := 24) (by decide +kernel)) rfl)
theorem wd_ai : Cond.arrayClass .int ∈ zgw := (zint (List.mem_of_getElem? (i := 88) (by decide +kernel)) rfl)
theorem wd_az : Cond.arrayClass .boolean ∈ zgw := (zint (List.mem_of_getElem? (i := 1006) (by decide +kernel)) rfl)
theorem wd_ol7 : Cond.methodLink RX7 3 Lib.objectInit ∈ zgw := (zint (List.mem_of_getElem? (i := 22) (by decide +kernel)) rfl)
theorem wd_ol1 : Cond.methodLink RX1 3 Lib.objectInit ∈ zgw := (zint (List.mem_of_getElem? (i := 30) (by decide +kernel)) rfl)
theorem wd_ol3 : Cond.methodLink RX3 3 Lib.objectInit ∈ zgw := (zint (List.mem_of_getElem? (i := 96) (by decide +kernel)) rfl)
theorem wd_ol0 : Cond.methodLink RX0 3 Lib.objectInit ∈ zgw := (zint (List.mem_of_getElem? (i := 133) (by decide +kernel)) rfl)
theorem wd_ol4 : Cond.methodLink RX4 5 Lib.objectInit ∈ zgw := (zint (List.mem_of_getElem? (i := 158) (by decide +kernel)) rfl)
theorem wd_ol2 : Cond.methodLink RX2 3 Lib.objectInit ∈ zgw := (zint (List.mem_of_getElem? (i := 206) (by decide +kernel)) rfl)
theorem wd_ol6 : Cond.methodLink RX6 3 Lib.objectInit ∈ zgw := (zint (List.mem_of_getElem? (i := 225) (by decide +kernel)) rfl)
theorem wd_ol5 : Cond.methodLink RX5 3 Lib.objectInit ∈ zgw := (zint (List.mem_of_getElem? (i := 240) (by decide +kernel)) rfl)
theorem wd_ol8 : Cond.methodLink RX8 7 Lib.objectInit ∈ zgw := (zint (List.mem_of_getElem? (i := 850) (by decide +kernel)) rfl)
set_option maxRecDepth 20000 in
theorem nX1 (l : Launch) (D : va_G) (cA : Nat → ClassId) (y : zX) (h0 : Nat) : zMk l D cA y 1 7 58 yX1_init cX1_init 1 h0 (.inr (1, [.null, .null, .null, .null, .null, .null, .null, .int 0, .int 0, .int 0, .int 0])) [] (fun w1 => ∃ q1 q2 q3 q4 q5 q6 q7 : Nat, w1 = [(h0, .inr (1, [.ref q1, .ref q2, .ref q3, .ref q4, .ref q5, .ref q6, .ref q7, .int 0, .int 1, .int 3, .int 0])), (q1, .inl (cA 0, 24, .inl (fun _ => 0))), (q2, .inl (cA 0, 2, .inl (fun _ => 0))), (q3, .inl (cA 0, 8, .inl (fun _ => 0))), (q4, .inl (cA 0, 8, .inl (fun _ => 0))), (q5, .inl (cA 0, 8, .inl (fun _ => 0))), (q6, .inl (cA 0, 4, .inl (fun _ => 0))), (q7, .inl (cA 0, 4, .inl (fun _ => 0)))]) := by
  refine yb_enter (by decide) rfl (Nat.le_of_ble_eq_true rfl) (fun A p e s m below meth c M => ?_)
  have M : zMB p s m _ meth c cX1_init 1 RX1 D cA A y := M
  refine yb_aload M 0 dX1_init_0 rfl rfl ?_
  refine yb_objInit M wd_ol1 wd_oi wd_oc dX1_init_1 (Nat.le_of_ble_eq_true rfl) (Nat.le_of_ble_eq_true rfl) ?_
  refine yb_aload M 0 dX1_init_4 rfl rfl ?_
  refine yb_bipush (v := 24) M dX1_init_5 (by decide) ?_
  refine yb_newa1 (N := 24) (k' := 1) (n' := 24) M wd_ai (by decide) (by decide) (by decide) rfl rfl (Nat.le_of_ble_eq_true rfl) (Nat.le_of_ble_eq_true rfl) dX1_init_7 (fun q1 => ?_)
  refine yb_put M [.ref q1, .null, .null, .null, .null, .null, .null, .int 0, .int 0, .int 0, .int 0] f_X1_9 (T := TX1) rfl rfl rfl rfl (Nat.le_of_ble_eq_true rfl) rfl dX1_init_9 ?_
  refine yb_aload M 0 dX1_init_12 rfl rfl ?_
  refine yb_iconst (v := 2) M dX1_init_13 (by decide) ?_
  refine yb_newa1 (N := 2) (k' := 2) (n' := 26) M wd_ai (by decide) (by decide) (by decide) rfl rfl (Nat.le_of_ble_eq_true rfl) (Nat.le_of_ble_eq_true rfl) dX1_init_14 (fun q2 => ?_)
  refine yb_put M [.ref q1, .ref q2, .null, .null, .null, .null, .null, .int 0, .int 0, .int 0, .int 0] f_X1_15 (T := TX1) rfl rfl rfl rfl (Nat.le_of_ble_eq_true rfl) rfl dX1_init_16 ?_
  refine yb_aload M 0 dX1_init_19 rfl rfl ?_
  refine yb_bipush (v := 8) M dX1_init_20 (by decide) ?_
  refine yb_newa1 (N := 8) (k' := 3) (n' := 34) M wd_ai (by decide) (by decide) (by decide) rfl rfl (Nat.le_of_ble_eq_true rfl) (Nat.le_of_ble_eq_true rfl) dX1_init_22 (fun q3 => ?_)
  refine yb_put M [.ref q1, .ref q2, .ref q3, .null, .null, .null, .null, .int 0, .int 0, .int 0, .int 0] f_X1_18 (T := TX1) rfl rfl rfl rfl (Nat.le_of_ble_eq_true rfl) rfl dX1_init_24 ?_
  refine yb_aload M 0 dX1_init_27 rfl rfl ?_
  refine yb_bipush (v := 8) M dX1_init_28 (by decide) ?_
  refine yb_newa1 (N := 8) (k' := 4) (n' := 42) M wd_ai (by decide) (by decide) (by decide) rfl rfl (Nat.le_of_ble_eq_true rfl) (Nat.le_of_ble_eq_true rfl) dX1_init_30 (fun q4 => ?_)
  refine yb_put M [.ref q1, .ref q2, .ref q3, .ref q4, .null, .null, .null, .int 0, .int 0, .int 0, .int 0] f_X1_21 (T := TX1) rfl rfl rfl rfl (Nat.le_of_ble_eq_true rfl) rfl dX1_init_32 ?_
  refine yb_aload M 0 dX1_init_35 rfl rfl ?_
  refine yb_bipush (v := 8) M dX1_init_36 (by decide) ?_
  refine yb_newa1 (N := 8) (k' := 5) (n' := 50) M wd_ai (by decide) (by decide) (by decide) rfl rfl (Nat.le_of_ble_eq_true rfl) (Nat.le_of_ble_eq_true rfl) dX1_init_38 (fun q5 => ?_)
  refine yb_put M [.ref q1, .ref q2, .ref q3, .ref q4, .ref q5, .null, .null, .int 0, .int 0, .int 0, .int 0] f_X1_24 (T := TX1) rfl rfl rfl rfl (Nat.le_of_ble_eq_true rfl) rfl dX1_init_40 ?_
  refine yb_aload M 0 dX1_init_43 rfl rfl ?_
  refine yb_iconst (v := 4) M dX1_init_44 (by decide) ?_
  refine yb_newa1 (N := 4) (k' := 6) (n' := 54) M wd_ai (by decide) (by decide) (by decide) rfl rfl (Nat.le_of_ble_eq_true rfl) (Nat.le_of_ble_eq_true rfl) dX1_init_45 (fun q6 => ?_)
  refine yb_put M [.ref q1, .ref q2, .ref q3, .ref q4, .ref q5, .ref q6, .null, .int 0, .int 0, .int 0, .int 0] f_X1_27 (T := TX1) rfl rfl rfl rfl (Nat.le_of_ble_eq_true rfl) rfl dX1_init_47 ?_
  refine yb_aload M 0 dX1_init_50 rfl rfl ?_
  refine yb_iconst (v := 4) M dX1_init_51 (by decide) ?_
  refine yb_newa1 (N := 4) (k' := 7) (n' := 58) M wd_ai (by decide) (by decide) (by decide) rfl rfl (Nat.le_of_ble_eq_true rfl) (Nat.le_of_ble_eq_true rfl) dX1_init_52 (fun q7 => ?_)
  refine yb_put M [.ref q1, .ref q2, .ref q3, .ref q4, .ref q5, .ref q6, .ref q7, .int 0, .int 0, .int 0, .int 0] f_X1_30 (T := TX1) rfl rfl rfl rfl (Nat.le_of_ble_eq_true rfl) rfl dX1_init_54 ?_
  refine yb_aload M 0 dX1_init_57 rfl rfl ?_
  refine yb_iconst (v := 0) M dX1_init_58 (by decide) ?_
  refine yb_put M [.ref q1, .ref q2, .ref q3, .ref q4, .ref q5, .ref q6, .ref q7, .int 0, .int 0, .int 0, .int 0] f_X1_33 (T := TX1) rfl rfl rfl rfl (Nat.le_of_ble_eq_true rfl) rfl dX1_init_59 ?_
  refine yb_aload M 0 dX1_init_62 rfl rfl ?_
  refine yb_iconst (v := 1) M dX1_init_63 (by decide) ?_
  refine yb_put M [.ref q1, .ref q2, .ref q3, .ref q4, .ref q5, .ref q6, .ref q7, .int 0, .int 1, .int 0, .int 0] f_X1_37 (T := TX1) rfl rfl rfl rfl (Nat.le_of_ble_eq_true rfl) rfl dX1_init_64 ?_
  refine yb_aload M 0 dX1_init_67 rfl rfl ?_
  refine yb_iconst (v := 3) M dX1_init_68 (by decide) ?_
  refine yb_put M [.ref q1, .ref q2, .ref q3, .ref q4, .ref q5, .ref q6, .ref q7, .int 0, .int 1, .int 3, .int 0] f_X1_40 (T := TX1) rfl rfl rfl rfl (Nat.le_of_ble_eq_true rfl) rfl dX1_init_69 ?_
  refine yb_aload M 0 dX1_init_72 rfl rfl ?_
  refine yb_iconst (v := 0) M dX1_init_73 (by decide) ?_
  refine yb_put M [.ref q1, .ref q2, .ref q3, .ref q4, .ref q5, .ref q6, .ref q7, .int 0, .int 1, .int 3, .int 0] f_X1_43 (T := TX1) rfl rfl rfl rfl (Nat.le_of_ble_eq_true rfl) rfl dX1_init_74 ?_
  exact yb_ret M dX1_init_77 ⟨q1, q2, q3, q4, q5, q6, q7, rfl⟩
set_option maxRecDepth 20000 in
theorem nX3 (l : Launch) (D : va_G) (cA : Nat → ClassId) (y : zX) (h0 : Nat) : zMk l D cA y 1 3 483 yX3_init cX3_init 1 h0 (.inr (3, [.null, .null, .null, .int 0, .int 0, .int 0, .int 0, .int 0, .null])) [] (fun w1 => ∃ q1 q2 q3 : Nat, w1 = [(h0, .inr (3, [.ref q1, .ref q2, .ref q3, .int 0, .int 0, .int 0, .int 0, .int 0, .null])), (q1, .inl (cA 0, 161, .inl (fun _ => 0))), (q2, .inl (cA 0, 161, .inl (fun _ => 0))), (q3, .inl (cA 0, 161, .inl (fun _ => 0)))]) := by
  refine yb_enter (by decide) rfl (Nat.le_of_ble_eq_true rfl) (fun A p e s m below meth c M => ?_)
  have M : zMB p s m _ meth c cX3_init 1 RX3 D cA A y := M
  refine yb_aload M 0 dX3_init_0 rfl rfl ?_
  refine yb_objInit M wd_ol3 wd_oi wd_oc dX3_init_1 (Nat.le_of_ble_eq_true rfl) (Nat.le_of_ble_eq_true rfl) ?_
  refine yb_aload M 0 dX3_init_4 rfl rfl ?_
  refine yb_sipush (v := 161) M dX3_init_5 (by decide) ?_
  refine yb_newa1 (N := 161) (k' := 1) (n' := 161) M wd_ai (by decide) (by decide) (by decide) rfl rfl (Nat.le_of_ble_eq_true rfl) (Nat.le_of_ble_eq_true rfl) dX3_init_8 (fun q1 => ?_)
  refine yb_put M [.ref q1, .null, .null, .int 0, .int 0, .int 0, .int 0, .int 0, .null] f_X3_9 (T := TX3) rfl rfl rfl rfl (Nat.le_of_ble_eq_true rfl) rfl dX3_init_10 ?_
  refine yb_aload M 0 dX3_init_13 rfl rfl ?_
  refine yb_sipush (v := 161) M dX3_init_14 (by decide) ?_
  refine yb_newa1 (N := 161) (k' := 2) (n' := 322) M wd_ai (by decide) (by decide) (by decide) rfl rfl (Nat.le_of_ble_eq_true rfl) (Nat.le_of_ble_eq_true rfl) dX3_init_17 (fun q2 => ?_)
  refine yb_put M [.ref q1, .ref q2, .null, .int 0, .int 0, .int 0, .int 0, .int 0, .null] f_X3_15 (T := TX3) rfl rfl rfl rfl (Nat.le_of_ble_eq_true rfl) rfl dX3_init_19 ?_
  refine yb_aload M 0 dX3_init_22 rfl rfl ?_
  refine yb_sipush (v := 161) M dX3_init_23 (by decide) ?_
  refine yb_newa1 (N := 161) (k' := 3) (n' := 483) M wd_ai (by decide) (by decide) (by decide) rfl rfl (Nat.le_of_ble_eq_true rfl) (Nat.le_of_ble_eq_true rfl) dX3_init_26 (fun q3 => ?_)
  refine yb_put M [.ref q1, .ref q2, .ref q3, .int 0, .int 0, .int 0, .int 0, .int 0, .null] f_X3_18 (T := TX3) rfl rfl rfl rfl (Nat.le_of_ble_eq_true rfl) rfl dX3_init_28 ?_
  refine yb_aload M 0 dX3_init_31 rfl rfl ?_
  refine yb_iconst (v := 0) M dX3_init_32 (by decide) ?_
  refine yb_put M [.ref q1, .ref q2, .ref q3, .int 0, .int 0, .int 0, .int 0, .int 0, .null] f_X3_21 (T := TX3) rfl rfl rfl rfl (Nat.le_of_ble_eq_true rfl) rfl dX3_init_33 ?_
  refine yb_aload M 0 dX3_init_36 rfl rfl ?_
  refine yb_iconst (v := 0) M dX3_init_37 (by decide) ?_
  refine yb_put M [.ref q1, .ref q2, .ref q3, .int 0, .int 0, .int 0, .int 0, .int 0, .null] f_X3_25 (T := TX3) rfl rfl rfl rfl (Nat.le_of_ble_eq_true rfl) rfl dX3_init_38 ?_
  refine yb_aload M 0 dX3_init_41 rfl rfl ?_
  refine yb_iconst (v := 0) M dX3_init_42 (by decide) ?_
  refine yb_put M [.ref q1, .ref q2, .ref q3, .int 0, .int 0, .int 0, .int 0, .int 0, .null] f_X3_28 (T := TX3) rfl rfl rfl rfl (Nat.le_of_ble_eq_true rfl) rfl dX3_init_43 ?_
  refine yb_aload M 0 dX3_init_46 rfl rfl ?_
  refine yb_iconst (v := 0) M dX3_init_47 (by decide) ?_
  refine yb_put M [.ref q1, .ref q2, .ref q3, .int 0, .int 0, .int 0, .int 0, .int 0, .null] f_X3_31 (T := TX3) rfl rfl rfl rfl (Nat.le_of_ble_eq_true rfl) rfl dX3_init_48 ?_
  refine yb_aload M 0 dX3_init_51 rfl rfl ?_
  refine yb_iconst (v := 0) M dX3_init_52 (by decide) ?_
  refine yb_put M [.ref q1, .ref q2, .ref q3, .int 0, .int 0, .int 0, .int 0, .int 0, .null] f_X3_34 (T := TX3) rfl rfl rfl rfl (Nat.le_of_ble_eq_true rfl) rfl dX3_init_53 ?_
  refine yb_aload M 0 dX3_init_56 rfl rfl ?_
  refine yb_null M dX3_init_57 ?_
  refine yb_put M [.ref q1, .ref q2, .ref q3, .int 0, .int 0, .int 0, .int 0, .int 0, .null] f_X3_37 (T := TX3) rfl rfl rfl rfl (Nat.le_of_ble_eq_true rfl) rfl dX3_init_58 ?_
  exact yb_ret M dX3_init_61 ⟨q1, q2, q3, rfl⟩
set_option maxRecDepth 20000 in
theorem nX0 (l : Launch) (D : va_G) (cA : Nat → ClassId) (y : zX) (h0 a1 a2 : Nat) : zMk l D cA y 2 3 582 yX0_init cX0_init 3 h0 (.inr (0, [.null, .null, .null, .null, .null])) [.ref a1, .ref a2] (fun w1 => ∃ q1 q2 q3 : Nat, w1 = [(h0, .inr (0, [.ref a1, .ref a2, .ref q1, .ref q2, .ref q3])), (q1, .inl (cA 0, 416, .inl (fun j => if j < 416 then (-1) else 0))), (q2, .inl (cA 0, 6, .inl (fun _ => 0))), (q3, .inl (cA 0, 160, .inl (fun _ => 0)))]) := by
  refine yb_enter (by decide) rfl (Nat.le_of_ble_eq_true rfl) (fun A p e s m below meth c M => ?_)
  have M : zMB p s m _ meth c cX0_init 3 RX0 D cA A y := M
  refine yb_aload M 0 dX0_init_0 rfl rfl ?_
  refine yb_objInit M wd_ol0 wd_oi wd_oc dX0_init_1 (Nat.le_of_ble_eq_true rfl) (Nat.le_of_ble_eq_true rfl) ?_
  refine yb_aload M 0 dX0_init_4 rfl rfl ?_
  refine yb_sipush (v := 416) M dX0_init_5 (by decide) ?_
  refine yb_newa1 (N := 416) (k' := 1) (n' := 416) M wd_ai (by decide) (by decide) (by decide) rfl rfl (Nat.le_of_ble_eq_true rfl) (Nat.le_of_ble_eq_true rfl) dX0_init_8 (fun q1 => ?_)
  refine yb_put M [.null, .null, .ref q1, .null, .null] f_X0_11 (T := TX0) rfl rfl rfl rfl (Nat.le_of_ble_eq_true rfl) rfl dX0_init_10 ?_
  refine yb_aload M 0 dX0_init_13 rfl rfl ?_
  refine yb_bipush (v := 6) M dX0_init_14 (by decide) ?_
  refine yb_newa1 (N := 6) (k' := 2) (n' := 422) M wd_ai (by decide) (by decide) (by decide) rfl rfl (Nat.le_of_ble_eq_true rfl) (Nat.le_of_ble_eq_true rfl) dX0_init_16 (fun q2 => ?_)
  refine yb_put M [.null, .null, .ref q1, .ref q2, .null] f_X0_15 (T := TX0) rfl rfl rfl rfl (Nat.le_of_ble_eq_true rfl) rfl dX0_init_18 ?_
  refine yb_aload M 0 dX0_init_21 rfl rfl ?_
  refine yb_sipush (v := 160) M dX0_init_22 (by decide) ?_
  refine yb_newa1 (N := 160) (k' := 3) (n' := 582) M wd_ai (by decide) (by decide) (by decide) rfl rfl (Nat.le_of_ble_eq_true rfl) (Nat.le_of_ble_eq_true rfl) dX0_init_25 (fun q3 => ?_)
  refine yb_put M [.null, .null, .ref q1, .ref q2, .ref q3] f_X0_18 (T := TX0) rfl rfl rfl rfl (Nat.le_of_ble_eq_true rfl) rfl dX0_init_27 ?_
  refine yb_aload M 0 dX0_init_30 rfl rfl ?_
  refine yb_aload M 1 dX0_init_31 rfl rfl ?_
  refine yb_put M [.ref a1, .null, .ref q1, .ref q2, .ref q3] f_X0_21 (T := TX0) rfl rfl rfl rfl (Nat.le_of_ble_eq_true rfl) rfl dX0_init_32 ?_
  refine yb_aload M 0 dX0_init_35 rfl rfl ?_
  refine yb_aload M 2 dX0_init_36 rfl rfl ?_
  refine yb_put M [.ref a1, .ref a2, .ref q1, .ref q2, .ref q3] f_X0_25 (T := TX0) rfl rfl rfl rfl (Nat.le_of_ble_eq_true rfl) rfl dX0_init_37 ?_
  refine yb_aload M 0 dX0_init_40 rfl rfl ?_
  refine yb_get M 0 f_X0_11 rfl rfl dX0_init_41 ?_
  refine yb_iconst (v := (-1)) M dX0_init_44 (by decide) ?_
  refine yb_fill (rest := []) (ad := fun _ => q1) 1 M l_X0_29 rfl (by decide) dX0_init_45 rfl (Nat.le_of_ble_eq_true rfl) (Nat.le_of_ble_eq_true rfl) (Nat.le_of_ble_eq_true rfl) (Nat.le_of_ble_eq_true rfl) (ws' := [(h0, .inr (0, [.ref a1, .ref a2, .ref q1, .ref q2, .ref q3])), (q1, .inl (cA 0, 416, .inl (fun j => if j < 416 then (-1) else 0))), (q2, .inl (cA 0, 6, .inl (fun _ => 0))), (q3, .inl (cA 0, 160, .inl (fun _ => 0)))]) rfl ?_
  exact yb_ret M dX0_init_48 ⟨q1, q2, q3, rfl⟩
set_option maxRecDepth 20000 in
theorem nX4 (l : Launch) (D : va_G) (cA : Nat → ClassId) (y : zX) (h0 a1 a2 : Nat) : zMk l D cA y 1 9 4193 yX4_init cX4_init 3 h0 (.inr (4, [.null, .null, .null, .null, .null, .null, .null, .null, .null, .null, .null, .int 0, .int 0])) [.ref a1, .ref a2] (fun w1 => ∃ q1 q2 q3 q4 q5 q6 q7 q8 q9 : Nat, w1 = [(h0, .inr (4, [.ref a1, .ref a2, .ref q1, .ref q2, .ref q3, .ref q4, .ref q5, .ref q6, .ref q7, .ref q8, .ref q9, .int (-2), .int (-2)])), (q1, .inl (cA 0, 200, .inl (fun _ => 0))), (q2, .inl (cA 0, 216, .inl (fun _ => 0))), (q3, .inl (cA 0, 1200, .inl (fun _ => 0))), (q4, .inl (cA 0, 1200, .inl (fun _ => 0))), (q5, .inl (cA 0, 1200, .inl (fun _ => 0))), (q6, .inl (cA 0, 75, .inl (fun _ => 0))), (q7, .inl (cA 0, 75, .inl (fun _ => 0))), (q8, .inl (cA 0, 3, .inl (fun _ => 0))), (q9, .inl (cA 0, 24, .inl (fun _ => 0)))]) := by
  refine yb_enter (by decide) rfl (Nat.le_of_ble_eq_true rfl) (fun A p e s m below meth c M => ?_)
  have M : zMB p s m _ meth c cX4_init 3 RX4 D cA A y := M
  refine yb_aload M 0 dX4_init_0 rfl rfl ?_
  refine yb_objInit M wd_ol4 wd_oi wd_oc dX4_init_1 (Nat.le_of_ble_eq_true rfl) (Nat.le_of_ble_eq_true rfl) ?_
  refine yb_aload M 0 dX4_init_4 rfl rfl ?_
  refine yb_sipush (v := 200) M dX4_init_5 (by decide) ?_
  refine yb_newa1 (N := 200) (k' := 1) (n' := 200) M wd_ai (by decide) (by decide) (by decide) rfl rfl (Nat.le_of_ble_eq_true rfl) (Nat.le_of_ble_eq_true rfl) dX4_init_8 (fun q1 => ?_)
  refine yb_put M [.null, .null, .ref q1, .null, .null, .null, .null, .null, .null, .null, .null, .int 0, .int 0] f_X4_11 (T := TX4) rfl rfl rfl rfl (Nat.le_of_ble_eq_true rfl) rfl dX4_init_10 ?_
  refine yb_aload M 0 dX4_init_13 rfl rfl ?_
  refine yb_sipush (v := 216) M dX4_init_14 (by decide) ?_
  refine yb_newa1 (N := 216) (k' := 2) (n' := 416) M wd_ai (by decide) (by decide) (by decide) rfl rfl (Nat.le_of_ble_eq_true rfl) (Nat.le_of_ble_eq_true rfl) dX4_init_17 (fun q2 => ?_)
  refine yb_put M [.null, .null, .ref q1, .ref q2, .null, .null, .null, .null, .null, .null, .null, .int 0, .int 0] f_X4_15 (T := TX4) rfl rfl rfl rfl (Nat.le_of_ble_eq_true rfl) rfl dX4_init_19 ?_
  refine yb_aload M 0 dX4_init_22 rfl rfl ?_
  refine yb_sipush (v := 1200) M dX4_init_23 (by decide) ?_
  refine yb_newa1 (N := 1200) (k' := 3) (n' := 1616) M wd_ai (by decide) (by decide) (by decide) rfl rfl (Nat.le_of_ble_eq_true rfl) (Nat.le_of_ble_eq_true rfl) dX4_init_26 (fun q3 => ?_)
  refine yb_put M [.null, .null, .ref q1, .ref q2, .ref q3, .null, .null, .null, .null, .null, .null, .int 0, .int 0] f_X4_18 (T := TX4) rfl rfl rfl rfl (Nat.le_of_ble_eq_true rfl) rfl dX4_init_28 ?_
  refine yb_aload M 0 dX4_init_31 rfl rfl ?_
  refine yb_sipush (v := 1200) M dX4_init_32 (by decide) ?_
  refine yb_newa1 (N := 1200) (k' := 4) (n' := 2816) M wd_ai (by decide) (by decide) (by decide) rfl rfl (Nat.le_of_ble_eq_true rfl) (Nat.le_of_ble_eq_true rfl) dX4_init_35 (fun q4 => ?_)
  refine yb_put M [.null, .null, .ref q1, .ref q2, .ref q3, .ref q4, .null, .null, .null, .null, .null, .int 0, .int 0] f_X4_21 (T := TX4) rfl rfl rfl rfl (Nat.le_of_ble_eq_true rfl) rfl dX4_init_37 ?_
  refine yb_aload M 0 dX4_init_40 rfl rfl ?_
  refine yb_sipush (v := 1200) M dX4_init_41 (by decide) ?_
  refine yb_newa1 (N := 1200) (k' := 5) (n' := 4016) M wd_ai (by decide) (by decide) (by decide) rfl rfl (Nat.le_of_ble_eq_true rfl) (Nat.le_of_ble_eq_true rfl) dX4_init_44 (fun q5 => ?_)
  refine yb_put M [.null, .null, .ref q1, .ref q2, .ref q3, .ref q4, .ref q5, .null, .null, .null, .null, .int 0, .int 0] f_X4_24 (T := TX4) rfl rfl rfl rfl (Nat.le_of_ble_eq_true rfl) rfl dX4_init_46 ?_
  refine yb_aload M 0 dX4_init_49 rfl rfl ?_
  refine yb_bipush (v := 75) M dX4_init_50 (by decide) ?_
  refine yb_newa1 (N := 75) (k' := 6) (n' := 4091) M wd_ai (by decide) (by decide) (by decide) rfl rfl (Nat.le_of_ble_eq_true rfl) (Nat.le_of_ble_eq_true rfl) dX4_init_52 (fun q6 => ?_)
  refine yb_put M [.null, .null, .ref q1, .ref q2, .ref q3, .ref q4, .ref q5, .ref q6, .null, .null, .null, .int 0, .int 0] f_X4_27 (T := TX4) rfl rfl rfl rfl (Nat.le_of_ble_eq_true rfl) rfl dX4_init_54 ?_
  refine yb_aload M 0 dX4_init_57 rfl rfl ?_
  refine yb_bipush (v := 75) M dX4_init_58 (by decide) ?_
  refine yb_newa1 (N := 75) (k' := 7) (n' := 4166) M wd_ai (by decide) (by decide) (by decide) rfl rfl (Nat.le_of_ble_eq_true rfl) (Nat.le_of_ble_eq_true rfl) dX4_init_60 (fun q7 => ?_)
  refine yb_put M [.null, .null, .ref q1, .ref q2, .ref q3, .ref q4, .ref q5, .ref q6, .ref q7, .null, .null, .int 0, .int 0] f_X4_30 (T := TX4) rfl rfl rfl rfl (Nat.le_of_ble_eq_true rfl) rfl dX4_init_62 ?_
  refine yb_aload M 0 dX4_init_65 rfl rfl ?_
  refine yb_iconst (v := 3) M dX4_init_66 (by decide) ?_
  refine yb_newa1 (N := 3) (k' := 8) (n' := 4169) M wd_ai (by decide) (by decide) (by decide) rfl rfl (Nat.le_of_ble_eq_true rfl) (Nat.le_of_ble_eq_true rfl) dX4_init_67 (fun q8 => ?_)
  refine yb_put M [.null, .null, .ref q1, .ref q2, .ref q3, .ref q4, .ref q5, .ref q6, .ref q7, .ref q8, .null, .int 0, .int 0] f_X4_33 (T := TX4) rfl rfl rfl rfl (Nat.le_of_ble_eq_true rfl) rfl dX4_init_69 ?_
  refine yb_aload M 0 dX4_init_72 rfl rfl ?_
  refine yb_bipush (v := 24) M dX4_init_73 (by decide) ?_
  refine yb_newa1 (N := 24) (k' := 9) (n' := 4193) M wd_ai (by decide) (by decide) (by decide) rfl rfl (Nat.le_of_ble_eq_true rfl) (Nat.le_of_ble_eq_true rfl) dX4_init_75 (fun q9 => ?_)
  refine yb_put M [.null, .null, .ref q1, .ref q2, .ref q3, .ref q4, .ref q5, .ref q6, .ref q7, .ref q8, .ref q9, .int 0, .int 0] f_X4_36 (T := TX4) rfl rfl rfl rfl (Nat.le_of_ble_eq_true rfl) rfl dX4_init_77 ?_
  refine yb_aload M 0 dX4_init_80 rfl rfl ?_
  refine yb_bipush (v := (-2)) M dX4_init_81 (by decide) ?_
  refine yb_put M [.null, .null, .ref q1, .ref q2, .ref q3, .ref q4, .ref q5, .ref q6, .ref q7, .ref q8, .ref q9, .int (-2), .int 0] f_X4_39 (T := TX4) rfl rfl rfl rfl (Nat.le_of_ble_eq_true rfl) rfl dX4_init_83 ?_
  refine yb_aload M 0 dX4_init_86 rfl rfl ?_
  refine yb_bipush (v := (-2)) M dX4_init_87 (by decide) ?_
  refine yb_put M [.null, .null, .ref q1, .ref q2, .ref q3, .ref q4, .ref q5, .ref q6, .ref q7, .ref q8, .ref q9, .int (-2), .int (-2)] f_X4_43 (T := TX4) rfl rfl rfl rfl (Nat.le_of_ble_eq_true rfl) rfl dX4_init_89 ?_
  refine yb_aload M 0 dX4_init_92 rfl rfl ?_
  refine yb_aload M 1 dX4_init_93 rfl rfl ?_
  refine yb_put M [.ref a1, .null, .ref q1, .ref q2, .ref q3, .ref q4, .ref q5, .ref q6, .ref q7, .ref q8, .ref q9, .int (-2), .int (-2)] f_X4_46 (T := TX4) rfl rfl rfl rfl (Nat.le_of_ble_eq_true rfl) rfl dX4_init_94 ?_
  refine yb_aload M 0 dX4_init_97 rfl rfl ?_
  refine yb_aload M 2 dX4_init_98 rfl rfl ?_
  refine yb_put M [.ref a1, .ref a2, .ref q1, .ref q2, .ref q3, .ref q4, .ref q5, .ref q6, .ref q7, .ref q8, .ref q9, .int (-2), .int (-2)] f_X4_50 (T := TX4) rfl rfl rfl rfl (Nat.le_of_ble_eq_true rfl) rfl dX4_init_99 ?_
  exact yb_ret M dX4_init_102 ⟨q1, q2, q3, q4, q5, q6, q7, q8, q9, rfl⟩
set_option maxRecDepth 20000 in
theorem nX2 (l : Launch) (D : va_G) (cA : Nat → ClassId) (y : zX) (h0 a1 : Nat) : zMk l D cA y 1 3 30 yX2_init cX2_init 2 h0 (.inr (2, [.null, .null, .null, .null])) [.ref a1] (fun w1 => ∃ q1 q2 q3 : Nat, w1 = [(h0, .inr (2, [.ref a1, .ref q1, .ref q2, .ref q3])), (q1, .inl (cA 0, 24, .inl (fun _ => 0))), (q2, .inl (cA 0, 3, .inl (fun _ => 0))), (q3, .inl (cA 0, 3, .inl (fun _ => 0)))]) := by
  refine yb_enter (by decide) rfl (Nat.le_of_ble_eq_true rfl) (fun A p e s m below meth c M => ?_)
  have M : zMB p s m _ meth c cX2_init 2 RX2 D cA A y := M
  refine yb_aload M 0 dX2_init_0 rfl rfl ?_
  refine yb_objInit M wd_ol2 wd_oi wd_oc dX2_init_1 (Nat.le_of_ble_eq_true rfl) (Nat.le_of_ble_eq_true rfl) ?_
  refine yb_aload M 0 dX2_init_4 rfl rfl ?_
  refine yb_bipush (v := 24) M dX2_init_5 (by decide) ?_
  refine yb_newa1 (N := 24) (k' := 1) (n' := 24) M wd_ai (by decide) (by decide) (by decide) rfl rfl (Nat.le_of_ble_eq_true rfl) (Nat.le_of_ble_eq_true rfl) dX2_init_7 (fun q1 => ?_)
  refine yb_put M [.null, .ref q1, .null, .null] f_X2_9 (T := TX2) rfl rfl rfl rfl (Nat.le_of_ble_eq_true rfl) rfl dX2_init_9 ?_
  refine yb_aload M 0 dX2_init_12 rfl rfl ?_
  refine yb_iconst (v := 3) M dX2_init_13 (by decide) ?_
  refine yb_newa1 (N := 3) (k' := 2) (n' := 27) M wd_ai (by decide) (by decide) (by decide) rfl rfl (Nat.le_of_ble_eq_true rfl) (Nat.le_of_ble_eq_true rfl) dX2_init_14 (fun q2 => ?_)
  refine yb_put M [.null, .ref q1, .ref q2, .null] f_X2_15 (T := TX2) rfl rfl rfl rfl (Nat.le_of_ble_eq_true rfl) rfl dX2_init_16 ?_
  refine yb_aload M 0 dX2_init_19 rfl rfl ?_
  refine yb_iconst (v := 3) M dX2_init_20 (by decide) ?_
  refine yb_newa1 (N := 3) (k' := 3) (n' := 30) M wd_ai (by decide) (by decide) (by decide) rfl rfl (Nat.le_of_ble_eq_true rfl) (Nat.le_of_ble_eq_true rfl) dX2_init_21 (fun q3 => ?_)
  refine yb_put M [.null, .ref q1, .ref q2, .ref q3] f_X2_18 (T := TX2) rfl rfl rfl rfl (Nat.le_of_ble_eq_true rfl) rfl dX2_init_23 ?_
  refine yb_aload M 0 dX2_init_26 rfl rfl ?_
  refine yb_aload M 1 dX2_init_27 rfl rfl ?_
  refine yb_put M [.ref a1, .ref q1, .ref q2, .ref q3] f_X2_21 (T := TX2) rfl rfl rfl rfl (Nat.le_of_ble_eq_true rfl) rfl dX2_init_28 ?_
  exact yb_ret M dX2_init_31 ⟨q1, q2, q3, rfl⟩
set_option maxRecDepth 20000 in
theorem nX6 (l : Launch) (D : va_G) (cA : Nat → ClassId) (y : zX) (h0 : Nat) : zMk l D cA y 1 2 163 yX6_init cX6_init 1 h0 (.inr (6, [.null, .null, .int 0])) [] (fun w1 => ∃ q1 q2 : Nat, w1 = [(h0, .inr (6, [.ref q1, .ref q2, .int 0])), (q1, .inl (cA 0, 160, .inl (fun _ => 0))), (q2, .inl (cA 0, 3, .inl (fun _ => 0)))]) := by
  refine yb_enter (by decide) rfl (Nat.le_of_ble_eq_true rfl) (fun A p e s m below meth c M => ?_)
  have M : zMB p s m _ meth c cX6_init 1 RX6 D cA A y := M
  refine yb_aload M 0 dX6_init_0 rfl rfl ?_
  refine yb_objInit M wd_ol6 wd_oi wd_oc dX6_init_1 (Nat.le_of_ble_eq_true rfl) (Nat.le_of_ble_eq_true rfl) ?_
  refine yb_aload M 0 dX6_init_4 rfl rfl ?_
  refine yb_sipush (v := 160) M dX6_init_5 (by decide) ?_
  refine yb_newa1 (N := 160) (k' := 1) (n' := 160) M wd_ai (by decide) (by decide) (by decide) rfl rfl (Nat.le_of_ble_eq_true rfl) (Nat.le_of_ble_eq_true rfl) dX6_init_8 (fun q1 => ?_)
  refine yb_put M [.ref q1, .null, .int 0] f_X6_9 (T := TX6) rfl rfl rfl rfl (Nat.le_of_ble_eq_true rfl) rfl dX6_init_10 ?_
  refine yb_aload M 0 dX6_init_13 rfl rfl ?_
  refine yb_iconst (v := 3) M dX6_init_14 (by decide) ?_
  refine yb_newa1 (N := 3) (k' := 2) (n' := 163) M wd_ai (by decide) (by decide) (by decide) rfl rfl (Nat.le_of_ble_eq_true rfl) (Nat.le_of_ble_eq_true rfl) dX6_init_15 (fun q2 => ?_)
  refine yb_put M [.ref q1, .ref q2, .int 0] f_X6_15 (T := TX6) rfl rfl rfl rfl (Nat.le_of_ble_eq_true rfl) rfl dX6_init_17 ?_
  refine yb_aload M 0 dX6_init_20 rfl rfl ?_
  refine yb_iconst (v := 0) M dX6_init_21 (by decide) ?_
  refine yb_put M [.ref q1, .ref q2, .int 0] f_X6_18 (T := TX6) rfl rfl rfl rfl (Nat.le_of_ble_eq_true rfl) rfl dX6_init_22 ?_
  exact yb_ret M dX6_init_25 ⟨q1, q2, rfl⟩
set_option maxRecDepth 20000 in
theorem nX5 (l : Launch) (D : va_G) (cA : Nat → ClassId) (y : zX) (h0 : Nat) : zMk l D cA y 1 1 40 yX5_init cX5_init 1 h0 (.inr (5, [.null, .int 0, .int 0])) [] (fun w1 => ∃ q1 : Nat, w1 = [(h0, .inr (5, [.ref q1, .int (-1), .int 0])), (q1, .inl (cA 0, 40, .inl (fun _ => 0)))]) := by
  refine yb_enter (by decide) rfl (Nat.le_of_ble_eq_true rfl) (fun A p e s m below meth c M => ?_)
  have M : zMB p s m _ meth c cX5_init 1 RX5 D cA A y := M
  refine yb_aload M 0 dX5_init_0 rfl rfl ?_
  refine yb_objInit M wd_ol5 wd_oi wd_oc dX5_init_1 (Nat.le_of_ble_eq_true rfl) (Nat.le_of_ble_eq_true rfl) ?_
  refine yb_aload M 0 dX5_init_4 rfl rfl ?_
  refine yb_bipush (v := 40) M dX5_init_5 (by decide) ?_
  refine yb_newa1 (N := 40) (k' := 1) (n' := 40) M wd_ai (by decide) (by decide) (by decide) rfl rfl (Nat.le_of_ble_eq_true rfl) (Nat.le_of_ble_eq_true rfl) dX5_init_7 (fun q1 => ?_)
  refine yb_put M [.ref q1, .int 0, .int 0] f_X5_9 (T := TX5) rfl rfl rfl rfl (Nat.le_of_ble_eq_true rfl) rfl dX5_init_9 ?_
  refine yb_aload M 0 dX5_init_12 rfl rfl ?_
  refine yb_iconst (v := (-1)) M dX5_init_13 (by decide) ?_
  refine yb_put M [.ref q1, .int (-1), .int 0] f_X5_15 (T := TX5) rfl rfl rfl rfl (Nat.le_of_ble_eq_true rfl) rfl dX5_init_14 ?_
  refine yb_aload M 0 dX5_init_17 rfl rfl ?_
  refine yb_iconst (v := 0) M dX5_init_18 (by decide) ?_
  refine yb_put M [.ref q1, .int (-1), .int 0] f_X5_19 (T := TX5) rfl rfl rfl rfl (Nat.le_of_ble_eq_true rfl) rfl dX5_init_19 ?_
  exact yb_ret M dX5_init_22 ⟨q1, rfl⟩
