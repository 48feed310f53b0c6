theorem wk8_50 : Cond.constant RX8 50 76800 ∈ zgw := (zint (List.mem_of_getElem? (i := 851) (by decide +kernel)) rfl)
theorem cw_X8_spell : Cond.code yX8_spell cX8_spell 10 none ∈ zgw ∧ Cond.initialized yX8_spell.cls ∈ zgw := ⟨(zint (List.mem_of_getElem? (i := 855) (by decide +kernel)) rfl), (zint (List.mem_of_getElem? (i := 15) (by decide +kernel)) rfl)⟩
theorem iw_X8_spell : Cond.instanceMethod yX8_spell ∈ zgw ∧ Cond.selects yX8_spell.cls yX8_spell yX8_spell ∈ zgw := ⟨(zint (List.mem_of_getElem? (i := 854) (by decide +kernel)) rfl), (zin (List.mem_append_left _ (List.mem_of_getElem? (i := 42) (by decide +kernel))) rfl)⟩
theorem l_X8_85 : zCV RX8 85 yX8_spell cX8_spell 10 none 9 := ⟨⟨(zint (List.mem_of_getElem? (i := 852) (by decide +kernel)) rfl), cw_X8_spell.1, cw_X8_spell.2, ⟨by decide +kernel, by decide +kernel, by decide +kernel⟩, by decide⟩, iw_X8_spell⟩
def zspell (σ : zSt) (i : Nat) (b0 b1 b2 b3 b4 b5 b6 b7 : Int32) : zSt := zput (zput (zput (zput (zput (zput (zput (zput σ 1 i b0) 1 (i + 1) b1) 1 (i + 2) b2) 1 (i + 3) b3) 1 (i + 4) b4) 1 (i + 5) b5) 1 (i + 6) b6) 1 (i + 7) b7
section zSpell
variable {l : Launch} {D : va_G} {cA : Nat → ClassId} {ad : Nat → Nat} {y : zX}
set_option maxRecDepth 20000 in
theorem kX8_spell (hI : zInj tabM ad) (i : Nat) (hi : i ≤ 900) (b0 b1 b2 b3 b4 b5 b6 b7 : Int32) (σ : zSt) (Q : zSt → Prop) (h : Q (zspell σ i b0 b1 b2 b3 b4 b5 b6 b7)) : zOkV l tabM D cA ad y 1 yX8_spell cX8_spell 10 none [.ref (ad 0), .int (nI i), .int b0, .int b1, .int b2, .int b3, .int b4, .int b5, .int b6, .int b7] σ Q := by
  refine zz_enter hI (by decide) (Nat.le_of_ble_eq_true rfl) (fun p e s m below meth c M => ?_)
  have M : zM p s m _ meth c cX8_spell 10 RX8 none tabM D cA ad y := M
  refine zz_ls [(0, .ref (ad 0)), (1, .int (nI i)), (2, .int b0), (3, .int b1), (4, .int b2), (5, .int b3), (6, .int b4), (7, .int b5), (8, .int b6), (9, .int b7)] rfl ?_
  refine zz_aload_n M 0 dX8_spell_0 rfl rfl ?_
  refine zz_getR M f_X8_13 tM_0 rfl dX8_spell_1 ?_
  refine zz_iload_n M 1 dX8_spell_4 rfl rfl ?_
  refine zz_iload_n M 2 dX8_spell_5 rfl rfl ?_
  refine zz_iastK (kk := i) M tM_1 (zin' (by omega) (by omega)) (nI_clamp (by omega)) dX8_spell_6 ?_
  refine zz_aload_n M 0 dX8_spell_7 rfl rfl ?_
  refine zz_getR M f_X8_13 tM_0 rfl dX8_spell_8 ?_
  refine zz_iload_n M 1 dX8_spell_11 rfl rfl ?_
  refine zz_iconst (v := nI 1) M dX8_spell_12 (by decide) ?_
  refine zz_iadd M dX8_spell_13 ?_
  rw [nI_add]
  refine zz_iload_n M 3 dX8_spell_14 rfl rfl ?_
  refine zz_iastK (kk := i + 1) M tM_1 (zin' (by omega) (by omega)) (nI_clamp (by omega)) dX8_spell_15 ?_
  refine zz_aload_n M 0 dX8_spell_16 rfl rfl ?_
  refine zz_getR M f_X8_13 tM_0 rfl dX8_spell_17 ?_
  refine zz_iload_n M 1 dX8_spell_20 rfl rfl ?_
  refine zz_iconst (v := nI 2) M dX8_spell_21 (by decide) ?_
  refine zz_iadd M dX8_spell_22 ?_
  rw [nI_add]
  refine zz_iload M 4 dX8_spell_23 rfl ?_
  refine zz_iastK (kk := i + 2) M tM_1 (zin' (by omega) (by omega)) (nI_clamp (by omega)) dX8_spell_25 ?_
  refine zz_aload_n M 0 dX8_spell_26 rfl rfl ?_
  refine zz_getR M f_X8_13 tM_0 rfl dX8_spell_27 ?_
  refine zz_iload_n M 1 dX8_spell_30 rfl rfl ?_
  refine zz_iconst (v := nI 3) M dX8_spell_31 (by decide) ?_
  refine zz_iadd M dX8_spell_32 ?_
  rw [nI_add]
  refine zz_iload M 5 dX8_spell_33 rfl ?_
  refine zz_iastK (kk := i + 3) M tM_1 (zin' (by omega) (by omega)) (nI_clamp (by omega)) dX8_spell_35 ?_
  refine zz_aload_n M 0 dX8_spell_36 rfl rfl ?_
  refine zz_getR M f_X8_13 tM_0 rfl dX8_spell_37 ?_
  refine zz_iload_n M 1 dX8_spell_40 rfl rfl ?_
  refine zz_iconst (v := nI 4) M dX8_spell_41 (by decide) ?_
  refine zz_iadd M dX8_spell_42 ?_
  rw [nI_add]
  refine zz_iload M 6 dX8_spell_43 rfl ?_
  refine zz_iastK (kk := i + 4) M tM_1 (zin' (by omega) (by omega)) (nI_clamp (by omega)) dX8_spell_45 ?_
  refine zz_aload_n M 0 dX8_spell_46 rfl rfl ?_
  refine zz_getR M f_X8_13 tM_0 rfl dX8_spell_47 ?_
  refine zz_iload_n M 1 dX8_spell_50 rfl rfl ?_
  refine zz_iconst (v := nI 5) M dX8_spell_51 (by decide) ?_
  refine zz_iadd M dX8_spell_52 ?_
  rw [nI_add]
  refine zz_iload M 7 dX8_spell_53 rfl ?_
  refine zz_iastK (kk := i + 5) M tM_1 (zin' (by omega) (by omega)) (nI_clamp (by omega)) dX8_spell_55 ?_
  refine zz_aload_n M 0 dX8_spell_56 rfl rfl ?_
  refine zz_getR M f_X8_13 tM_0 rfl dX8_spell_57 ?_
  refine zz_iload_n M 1 dX8_spell_60 rfl rfl ?_
  refine zz_bipush (v := nI 6) M dX8_spell_61 (by decide) ?_
  refine zz_iadd M dX8_spell_63 ?_
  rw [nI_add]
  refine zz_iload M 8 dX8_spell_64 rfl ?_
  refine zz_iastK (kk := i + 6) M tM_1 (zin' (by omega) (by omega)) (nI_clamp (by omega)) dX8_spell_66 ?_
  refine zz_aload_n M 0 dX8_spell_67 rfl rfl ?_
  refine zz_getR M f_X8_13 tM_0 rfl dX8_spell_68 ?_
  refine zz_iload_n M 1 dX8_spell_71 rfl rfl ?_
  refine zz_bipush (v := nI 7) M dX8_spell_72 (by decide) ?_
  refine zz_iadd M dX8_spell_74 ?_
  rw [nI_add]
  refine zz_iload M 9 dX8_spell_75 rfl ?_
  refine zz_iastK (kk := i + 7) M tM_1 (zin' (by omega) (by omega)) (nI_clamp (by omega)) dX8_spell_77 ?_
  exact zz_vret M dX8_spell_78 h
end zSpell
section zModel
variable {p : Program} {l : Launch} {e : Env} {s : State} {m : MethodId} {args : Array Value} {below : List Frame} {meth : Method} {c : Code} {D : va_G} {cA : Nat → ClassId} {A : Nat → Prop} {y : zX} {ad : Nat → Nat}
def sM0 : zSt := ((fun o => if o = 0 then (fun j => if j = 12 then 1 else if j = 13 then 3 else if j = 40 then (-1) else 0) else (fun _ => 0)), 0)
set_option maxRecDepth 100000 in
set_option maxHeartbeats 1000000 in
theorem sM0_ws (cA : Nat → ClassId) (ad : Nat → Nat) : zws tabM cA ad sM0 = [(ad 0, .inr (8, [.int 0, .ref (ad 1), .ref (ad 2), .int 0, .int 0, .ref (ad 3), .int 0, .ref (ad 4), .ref (ad 5), .ref (ad 6), .int 0, .int 0, .int 1, .int 3, .ref (ad 7), .ref (ad 8), .int 0, .ref (ad 9), .int 0, .int 0, .int 0, .int 0, .int 0, .int 0, .int 0, .int 0, .int 0, .int 0, .int 0, .long 0, .int 0, .int 0, .int 0, .ref (ad 10), .ref (ad 11), .ref (ad 12), .ref (ad 13), .ref (ad 14), .ref (ad 15), .ref (ad 16), .int (-1), .int 0, .int 0, .int 0, .int 0, .int 0, .ref (ad 17), .ref (ad 18), .ref (ad 19), .ref (ad 20)])), (ad 1, .inl (cA 0, 960, .inl (fun _ => 0))), (ad 2, .inl (cA 0, 6, .inl (fun _ => 0))), (ad 3, .inl (cA 0, 160, .inl (fun _ => 0))), (ad 4, .inl (cA 0, 8, .inl (fun _ => 0))), (ad 5, .inl (cA 0, 8, .inl (fun _ => 0))), (ad 6, .inl (cA 0, 8, .inl (fun _ => 0))), (ad 7, .inl (cA 0, 4, .inl (fun _ => 0))), (ad 8, .inl (cA 0, 4, .inl (fun _ => 0))), (ad 9, .inl (cA 0, 24, .inl (fun _ => 0))), (ad 10, .inl (cA 0, 24, .inl (fun _ => 0))), (ad 11, .inl (cA 0, 76800, .inl (fun _ => 0))), (ad 12, .inl (cA 0, 200, .inl (fun _ => 0))), (ad 13, .inl (cA 0, 216, .inl (fun _ => 0))), (ad 14, .inl (cA 0, 24, .inl (fun _ => 0))), (ad 15, .inl (cA 0, 24, .inl (fun _ => 0))), (ad 16, .inl (cA 0, 4, .inl (fun _ => 0))), (ad 17, .inl (cA 1, 4, .inl (fun _ => 0))), (ad 18, .inl (cA 0, 4, .inl (fun _ => 0))), (ad 19, .inl (cA 0, 4, .inl (fun _ => 0))), (ad 20, .inl (cA 0, 160, .inl (fun _ => 0)))] := by
  rw [zwsF]
  rfl
def sM1 : zSt := zput (zput (zspell (zspell (zspell (zspell (zspell (zspell (zspell sM0 0 115 104 105 112 32 119 97 105) 8 116 101 100 32 42 32 112 114) 16 105 99 101 32 59 32 99 97) 24 114 116 32 119 97 105 116 101) 32 100 32 42 32 112 114 105 99) 40 101 32 59 32 99 104 97 110) 48 103 101 32 49 32 59 32 32) 2 0 56) 0 3 1
theorem sM1_RM : RM zA0 sM1 := by
  refine ⟨⟨by decide +kernel, by decide +kernel, by decide +kernel, by decide +kernel⟩, by show sM1.1 0 40 = -1; decide +kernel, ⟨by decide +kernel, fun j hj => absurd hj (Nat.not_lt_zero j)⟩, ⟨by decide +kernel, fun i hi => ⟨56, zT0, by decide, ?_, ?_, ?_⟩⟩, ?_⟩
  · have hi : i < 1 := hi
    have : i = 0 := by omega
    subst this
    decide +kernel
  · have hi : i < 1 := hi
    have : i = 0 := by omega
    subst this
    decide +kernel
  · show zTxOk 56 zT0 (tx_cod zT0 54)
    rw [← zT0_cod]
    exact tx_ok (by decide) (fun j _ => zT0_le j) zT0_g56
  · have h : ∀ s, s < 4 → sM1.1 17 s = 0 := by decide +kernel
    exact h
abbrev zP8 (cA : Nat → ClassId) (h0 : Nat) (w1 : va_W) : Prop := ∃ (ad : Nat → Nat) (σ : zSt), w1 = zws tabM cA ad σ ∧ ad 0 = h0 ∧ RM zA0 σ
set_option maxRecDepth 100000 in
set_option maxHeartbeats 2000000 in
theorem ymE (M : zMB p s m args meth c cX8_init 1 RX8 D cA A y) : zB p l e (zrn 3 20 78646) s m args below meth c 1 D A (MQ below (va_Qv (zP8 cA (ad 0)) (fun w1 t => va_P D vwCl w1 t.heap ∧ va_D A w1) A) args s 20 78646 A) 20 78646 178 [(0, .ref (ad 0))] [] (zws tabM cA ad sM0) := by
  refine yb_aload M 0 dX8_init_178 rfl rfl ?_
  refine yb_iconst (v := 0) M dX8_init_179 (by decide) ?_
  refine yb_bipush (v := 115) M dX8_init_180 (by decide) ?_
  refine yb_bipush (v := 104) M dX8_init_182 (by decide) ?_
  refine yb_bipush (v := 105) M dX8_init_184 (by decide) ?_
  refine yb_bipush (v := 112) M dX8_init_186 (by decide) ?_
  refine yb_bipush (v := 32) M dX8_init_188 (by decide) ?_
  refine yb_bipush (v := 119) M dX8_init_190 (by decide) ?_
  refine yb_bipush (v := 97) M dX8_init_192 (by decide) ?_
  refine yb_bipush (v := 105) M dX8_init_194 (by decide) ?_
  refine yb_callV (na := 9) (d' := 1) (As := [.int 0, .int 115, .int 104, .int 105, .int 112, .int 32, .int 119, .int 97, .int 105]) (rest := []) (Q' := fun s1 => s1 = (zspell sM0 0 115 104 105 112 32 119 97 105)) M l_X8_85 (yb_recv M tM_0 rfl) rfl rfl (by decide) (Nat.le_of_ble_eq_true rfl) (Nat.le_of_ble_eq_true rfl) (Nat.le_of_ble_eq_true rfl) dX8_init_196 (fun hI => kX8_spell hI 0 (by decide) 115 104 105 112 32 119 97 105 _ _ rfl) (fun s1 hs => ?_)
  subst hs
  refine yb_aload M 0 dX8_init_199 rfl rfl ?_
  refine yb_bipush (v := 8) M dX8_init_200 (by decide) ?_
  refine yb_bipush (v := 116) M dX8_init_202 (by decide) ?_
  refine yb_bipush (v := 101) M dX8_init_204 (by decide) ?_
  refine yb_bipush (v := 100) M dX8_init_206 (by decide) ?_
  refine yb_bipush (v := 32) M dX8_init_208 (by decide) ?_
  refine yb_bipush (v := 42) M dX8_init_210 (by decide) ?_
  refine yb_bipush (v := 32) M dX8_init_212 (by decide) ?_
  refine yb_bipush (v := 112) M dX8_init_214 (by decide) ?_
  refine yb_bipush (v := 114) M dX8_init_216 (by decide) ?_
  refine yb_callV (na := 9) (d' := 1) (As := [.int 8, .int 116, .int 101, .int 100, .int 32, .int 42, .int 32, .int 112, .int 114]) (rest := []) (Q' := fun s1 => s1 = (zspell (zspell sM0 0 115 104 105 112 32 119 97 105) 8 116 101 100 32 42 32 112 114)) M l_X8_85 (yb_recv M tM_0 rfl) rfl rfl (by decide) (Nat.le_of_ble_eq_true rfl) (Nat.le_of_ble_eq_true rfl) (Nat.le_of_ble_eq_true rfl) dX8_init_218 (fun hI => kX8_spell hI 8 (by decide) 116 101 100 32 42 32 112 114 _ _ rfl) (fun s1 hs => ?_)
  subst hs
  refine yb_aload M 0 dX8_init_221 rfl rfl ?_
  refine yb_bipush (v := 16) M dX8_init_222 (by decide) ?_
  refine yb_bipush (v := 105) M dX8_init_224 (by decide) ?_
  refine yb_bipush (v := 99) M dX8_init_226 (by decide) ?_
  refine yb_bipush (v := 101) M dX8_init_228 (by decide) ?_
  refine yb_bipush (v := 32) M dX8_init_230 (by decide) ?_
  refine yb_bipush (v := 59) M dX8_init_232 (by decide) ?_
  refine yb_bipush (v := 32) M dX8_init_234 (by decide) ?_
  refine yb_bipush (v := 99) M dX8_init_236 (by decide) ?_
  refine yb_bipush (v := 97) M dX8_init_238 (by decide) ?_
  refine yb_callV (na := 9) (d' := 1) (As := [.int 16, .int 105, .int 99, .int 101, .int 32, .int 59, .int 32, .int 99, .int 97]) (rest := []) (Q' := fun s1 => s1 = (zspell (zspell (zspell sM0 0 115 104 105 112 32 119 97 105) 8 116 101 100 32 42 32 112 114) 16 105 99 101 32 59 32 99 97)) M l_X8_85 (yb_recv M tM_0 rfl) rfl rfl (by decide) (Nat.le_of_ble_eq_true rfl) (Nat.le_of_ble_eq_true rfl) (Nat.le_of_ble_eq_true rfl) dX8_init_240 (fun hI => kX8_spell hI 16 (by decide) 105 99 101 32 59 32 99 97 _ _ rfl) (fun s1 hs => ?_)
  subst hs
  refine yb_aload M 0 dX8_init_243 rfl rfl ?_
  refine yb_bipush (v := 24) M dX8_init_244 (by decide) ?_
  refine yb_bipush (v := 114) M dX8_init_246 (by decide) ?_
  refine yb_bipush (v := 116) M dX8_init_248 (by decide) ?_
  refine yb_bipush (v := 32) M dX8_init_250 (by decide) ?_
  refine yb_bipush (v := 119) M dX8_init_252 (by decide) ?_
  refine yb_bipush (v := 97) M dX8_init_254 (by decide) ?_
  refine yb_bipush (v := 105) M dX8_init_256 (by decide) ?_
  refine yb_bipush (v := 116) M dX8_init_258 (by decide) ?_
  refine yb_bipush (v := 101) M dX8_init_260 (by decide) ?_
  refine yb_callV (na := 9) (d' := 1) (As := [.int 24, .int 114, .int 116, .int 32, .int 119, .int 97, .int 105, .int 116, .int 101]) (rest := []) (Q' := fun s1 => s1 = (zspell (zspell (zspell (zspell sM0 0 115 104 105 112 32 119 97 105) 8 116 101 100 32 42 32 112 114) 16 105 99 101 32 59 32 99 97) 24 114 116 32 119 97 105 116 101)) M l_X8_85 (yb_recv M tM_0 rfl) rfl rfl (by decide) (Nat.le_of_ble_eq_true rfl) (Nat.le_of_ble_eq_true rfl) (Nat.le_of_ble_eq_true rfl) dX8_init_262 (fun hI => kX8_spell hI 24 (by decide) 114 116 32 119 97 105 116 101 _ _ rfl) (fun s1 hs => ?_)
  subst hs
  refine yb_aload M 0 dX8_init_265 rfl rfl ?_
  refine yb_bipush (v := 32) M dX8_init_266 (by decide) ?_
  refine yb_bipush (v := 100) M dX8_init_268 (by decide) ?_
  refine yb_bipush (v := 32) M dX8_init_270 (by decide) ?_
  refine yb_bipush (v := 42) M dX8_init_272 (by decide) ?_
  refine yb_bipush (v := 32) M dX8_init_274 (by decide) ?_
  refine yb_bipush (v := 112) M dX8_init_276 (by decide) ?_
  refine yb_bipush (v := 114) M dX8_init_278 (by decide) ?_
  refine yb_bipush (v := 105) M dX8_init_280 (by decide) ?_
  refine yb_bipush (v := 99) M dX8_init_282 (by decide) ?_
  refine yb_callV (na := 9) (d' := 1) (As := [.int 32, .int 100, .int 32, .int 42, .int 32, .int 112, .int 114, .int 105, .int 99]) (rest := []) (Q' := fun s1 => s1 = (zspell (zspell (zspell (zspell (zspell sM0 0 115 104 105 112 32 119 97 105) 8 116 101 100 32 42 32 112 114) 16 105 99 101 32 59 32 99 97) 24 114 116 32 119 97 105 116 101) 32 100 32 42 32 112 114 105 99)) M l_X8_85 (yb_recv M tM_0 rfl) rfl rfl (by decide) (Nat.le_of_ble_eq_true rfl) (Nat.le_of_ble_eq_true rfl) (Nat.le_of_ble_eq_true rfl) dX8_init_284 (fun hI => kX8_spell hI 32 (by decide) 100 32 42 32 112 114 105 99 _ _ rfl) (fun s1 hs => ?_)
  subst hs
  refine yb_aload M 0 dX8_init_287 rfl rfl ?_
  refine yb_bipush (v := 40) M dX8_init_288 (by decide) ?_
  refine yb_bipush (v := 101) M dX8_init_290 (by decide) ?_
  refine yb_bipush (v := 32) M dX8_init_292 (by decide) ?_
  refine yb_bipush (v := 59) M dX8_init_294 (by decide) ?_
  refine yb_bipush (v := 32) M dX8_init_296 (by decide) ?_
  refine yb_bipush (v := 99) M dX8_init_298 (by decide) ?_
  refine yb_bipush (v := 104) M dX8_init_300 (by decide) ?_
  refine yb_bipush (v := 97) M dX8_init_302 (by decide) ?_
  refine yb_bipush (v := 110) M dX8_init_304 (by decide) ?_
  refine yb_callV (na := 9) (d' := 1) (As := [.int 40, .int 101, .int 32, .int 59, .int 32, .int 99, .int 104, .int 97, .int 110]) (rest := []) (Q' := fun s1 => s1 = (zspell (zspell (zspell (zspell (zspell (zspell sM0 0 115 104 105 112 32 119 97 105) 8 116 101 100 32 42 32 112 114) 16 105 99 101 32 59 32 99 97) 24 114 116 32 119 97 105 116 101) 32 100 32 42 32 112 114 105 99) 40 101 32 59 32 99 104 97 110)) M l_X8_85 (yb_recv M tM_0 rfl) rfl rfl (by decide) (Nat.le_of_ble_eq_true rfl) (Nat.le_of_ble_eq_true rfl) (Nat.le_of_ble_eq_true rfl) dX8_init_306 (fun hI => kX8_spell hI 40 (by decide) 101 32 59 32 99 104 97 110 _ _ rfl) (fun s1 hs => ?_)
  subst hs
  refine yb_aload M 0 dX8_init_309 rfl rfl ?_
  refine yb_bipush (v := 48) M dX8_init_310 (by decide) ?_
  refine yb_bipush (v := 103) M dX8_init_312 (by decide) ?_
  refine yb_bipush (v := 101) M dX8_init_314 (by decide) ?_
  refine yb_bipush (v := 32) M dX8_init_316 (by decide) ?_
  refine yb_bipush (v := 49) M dX8_init_318 (by decide) ?_
  refine yb_bipush (v := 32) M dX8_init_320 (by decide) ?_
  refine yb_bipush (v := 59) M dX8_init_322 (by decide) ?_
  refine yb_bipush (v := 32) M dX8_init_324 (by decide) ?_
  refine yb_bipush (v := 32) M dX8_init_326 (by decide) ?_
  refine yb_callV (na := 9) (d' := 1) (As := [.int 48, .int 103, .int 101, .int 32, .int 49, .int 32, .int 59, .int 32, .int 32]) (rest := []) (Q' := fun s1 => s1 = (zspell (zspell (zspell (zspell (zspell (zspell (zspell sM0 0 115 104 105 112 32 119 97 105) 8 116 101 100 32 42 32 112 114) 16 105 99 101 32 59 32 99 97) 24 114 116 32 119 97 105 116 101) 32 100 32 42 32 112 114 105 99) 40 101 32 59 32 99 104 97 110) 48 103 101 32 49 32 59 32 32)) M l_X8_85 (yb_recv M tM_0 rfl) rfl rfl (by decide) (Nat.le_of_ble_eq_true rfl) (Nat.le_of_ble_eq_true rfl) (Nat.le_of_ble_eq_true rfl) dX8_init_328 (fun hI => kX8_spell hI 48 (by decide) 103 101 32 49 32 59 32 32 _ _ rfl) (fun s1 hs => ?_)
  subst hs
  refine yb_aload M 0 dX8_init_331 rfl rfl ?_
  refine yb_getT M f_X8_17 tM_0 (t := .inr 2) rfl dX8_init_332 ?_
  refine yb_iconst (v := 0) M dX8_init_335 (by decide) ?_
  refine yb_bipush (v := 56) M dX8_init_336 (by decide) ?_
  refine yb_iast (kk := 0) M tM_2 (zin' (n := 0) (by decide) (by decide)) (by decide) dX8_init_338 ?_
  refine yb_aload M 0 dX8_init_339 rfl rfl ?_
  refine yb_iconst (v := 1) M dX8_init_340 (by decide) ?_
  refine yb_putI M f_X8_89 tM_0 rfl dX8_init_341 ?_
  exact yb_ret M dX8_init_344 ⟨ad, sM1, rfl, rfl, sM1_RM⟩
end zModel
set_option maxRecDepth 100000 in
set_option maxHeartbeats 4000000 in
theorem nX8 (l : Launch) (D : va_G) (cA : Nat → ClassId) (y : zX) (h0 : Nat) : zMk l D cA y 3 20 78646 yX8_init cX8_init 1 h0 (.inr (8, [.int 0, .null, .null, .int 0, .int 0, .null, .int 0, .null, .null, .null, .int 0, .int 0, .int 0, .int 0, .null, .null, .int 0, .null, .int 0, .int 0, .int 0, .int 0, .int 0, .int 0, .int 0, .int 0, .int 0, .int 0, .int 0, .long 0, .int 0, .int 0, .int 0, .null, .null, .null, .null, .null, .null, .null, .int 0, .int 0, .int 0, .int 0, .int 0, .int 0, .null, .null, .null, .null])) [] (zP8 cA h0) := by
  refine yb_enter (by decide) rfl (Nat.le_of_ble_eq_true rfl) (fun A p e s m below meth c M => ?_)
  have M : zMB p s m _ meth c cX8_init 1 RX8 D cA A y := M
  refine yb_aload M 0 dX8_init_0 rfl rfl ?_
  refine yb_objInit M wd_ol8 wd_oi wd_oc dX8_init_1 (Nat.le_of_ble_eq_true rfl) (Nat.le_of_ble_eq_true rfl) ?_
  refine yb_aload M 0 dX8_init_4 rfl rfl ?_
  refine yb_sipush (v := 960) M dX8_init_5 (by decide) ?_
  refine yb_newa1 (N := 960) (k' := 1) (n' := 960) M wd_ai (by decide) (by decide) (by decide) rfl rfl (Nat.le_of_ble_eq_true rfl) (Nat.le_of_ble_eq_true rfl) dX8_init_8 (fun q1 => ?_)
  refine yb_eq [(h0, .inr (8, [.int 0, .null, .null, .int 0, .int 0, .null, .int 0, .null, .null, .null, .int 0, .int 0, .int 0, .int 0, .null, .null, .int 0, .null, .int 0, .int 0, .int 0, .int 0, .int 0, .int 0, .int 0, .int 0, .int 0, .int 0, .int 0, .long 0, .int 0, .int 0, .int 0, .null, .null, .null, .null, .null, .null, .null, .int 0, .int 0, .int 0, .int 0, .int 0, .int 0, .null, .null, .null, .null])), (q1, .inl (cA 0, 960, .inl (fun _ => 0)))] rfl ?_
  refine yb_put M [.int 0, .ref q1, .null, .int 0, .int 0, .null, .int 0, .null, .null, .null, .int 0, .int 0, .int 0, .int 0, .null, .null, .int 0, .null, .int 0, .int 0, .int 0, .int 0, .int 0, .int 0, .int 0, .int 0, .int 0, .int 0, .int 0, .long 0, .int 0, .int 0, .int 0, .null, .null, .null, .null, .null, .null, .null, .int 0, .int 0, .int 0, .int 0, .int 0, .int 0, .null, .null, .null, .null] f_X8_13 (T := TX8) rfl rfl rfl rfl (Nat.le_of_ble_eq_true rfl) rfl dX8_init_10 ?_
  refine yb_aload M 0 dX8_init_13 rfl rfl ?_
  refine yb_bipush (v := 6) M dX8_init_14 (by decide) ?_
  refine yb_newa1 (N := 6) (k' := 2) (n' := 966) M wd_ai (by decide) (by decide) (by decide) rfl rfl (Nat.le_of_ble_eq_true rfl) (Nat.le_of_ble_eq_true rfl) dX8_init_16 (fun q2 => ?_)
  refine yb_eq [(h0, .inr (8, [.int 0, .ref q1, .null, .int 0, .int 0, .null, .int 0, .null, .null, .null, .int 0, .int 0, .int 0, .int 0, .null, .null, .int 0, .null, .int 0, .int 0, .int 0, .int 0, .int 0, .int 0, .int 0, .int 0, .int 0, .int 0, .int 0, .long 0, .int 0, .int 0, .int 0, .null, .null, .null, .null, .null, .null, .null, .int 0, .int 0, .int 0, .int 0, .int 0, .int 0, .null, .null, .null, .null])), (q1, .inl (cA 0, 960, .inl (fun _ => 0))), (q2, .inl (cA 0, 6, .inl (fun _ => 0)))] rfl ?_
  refine yb_put M [.int 0, .ref q1, .ref q2, .int 0, .int 0, .null, .int 0, .null, .null, .null, .int 0, .int 0, .int 0, .int 0, .null, .null, .int 0, .null, .int 0, .int 0, .int 0, .int 0, .int 0, .int 0, .int 0, .int 0, .int 0, .int 0, .int 0, .long 0, .int 0, .int 0, .int 0, .null, .null, .null, .null, .null, .null, .null, .int 0, .int 0, .int 0, .int 0, .int 0, .int 0, .null, .null, .null, .null] f_X8_17 (T := TX8) rfl rfl rfl rfl (Nat.le_of_ble_eq_true rfl) rfl dX8_init_18 ?_
  refine yb_aload M 0 dX8_init_21 rfl rfl ?_
  refine yb_sipush (v := 160) M dX8_init_22 (by decide) ?_
  refine yb_newa1 (N := 160) (k' := 3) (n' := 1126) M wd_ai (by decide) (by decide) (by decide) rfl rfl (Nat.le_of_ble_eq_true rfl) (Nat.le_of_ble_eq_true rfl) dX8_init_25 (fun q3 => ?_)
  refine yb_eq [(h0, .inr (8, [.int 0, .ref q1, .ref q2, .int 0, .int 0, .null, .int 0, .null, .null, .null, .int 0, .int 0, .int 0, .int 0, .null, .null, .int 0, .null, .int 0, .int 0, .int 0, .int 0, .int 0, .int 0, .int 0, .int 0, .int 0, .int 0, .int 0, .long 0, .int 0, .int 0, .int 0, .null, .null, .null, .null, .null, .null, .null, .int 0, .int 0, .int 0, .int 0, .int 0, .int 0, .null, .null, .null, .null])), (q1, .inl (cA 0, 960, .inl (fun _ => 0))), (q2, .inl (cA 0, 6, .inl (fun _ => 0))), (q3, .inl (cA 0, 160, .inl (fun _ => 0)))] rfl ?_
  refine yb_put M [.int 0, .ref q1, .ref q2, .int 0, .int 0, .ref q3, .int 0, .null, .null, .null, .int 0, .int 0, .int 0, .int 0, .null, .null, .int 0, .null, .int 0, .int 0, .int 0, .int 0, .int 0, .int 0, .int 0, .int 0, .int 0, .int 0, .int 0, .long 0, .int 0, .int 0, .int 0, .null, .null, .null, .null, .null, .null, .null, .int 0, .int 0, .int 0, .int 0, .int 0, .int 0, .null, .null, .null, .null] f_X8_20 (T := TX8) rfl rfl rfl rfl (Nat.le_of_ble_eq_true rfl) rfl dX8_init_27 ?_
  refine yb_aload M 0 dX8_init_30 rfl rfl ?_
  refine yb_bipush (v := 8) M dX8_init_31 (by decide) ?_
  refine yb_newa1 (N := 8) (k' := 4) (n' := 1134) M wd_ai (by decide) (by decide) (by decide) rfl rfl (Nat.le_of_ble_eq_true rfl) (Nat.le_of_ble_eq_true rfl) dX8_init_33 (fun q4 => ?_)
  refine yb_eq [(h0, .inr (8, [.int 0, .ref q1, .ref q2, .int 0, .int 0, .ref q3, .int 0, .null, .null, .null, .int 0, .int 0, .int 0, .int 0, .null, .null, .int 0, .null, .int 0, .int 0, .int 0, .int 0, .int 0, .int 0, .int 0, .int 0, .int 0, .int 0, .int 0, .long 0, .int 0, .int 0, .int 0, .null, .null, .null, .null, .null, .null, .null, .int 0, .int 0, .int 0, .int 0, .int 0, .int 0, .null, .null, .null, .null])), (q1, .inl (cA 0, 960, .inl (fun _ => 0))), (q2, .inl (cA 0, 6, .inl (fun _ => 0))), (q3, .inl (cA 0, 160, .inl (fun _ => 0))), (q4, .inl (cA 0, 8, .inl (fun _ => 0)))] rfl ?_
  refine yb_put M [.int 0, .ref q1, .ref q2, .int 0, .int 0, .ref q3, .int 0, .ref q4, .null, .null, .int 0, .int 0, .int 0, .int 0, .null, .null, .int 0, .null, .int 0, .int 0, .int 0, .int 0, .int 0, .int 0, .int 0, .int 0, .int 0, .int 0, .int 0, .long 0, .int 0, .int 0, .int 0, .null, .null, .null, .null, .null, .null, .null, .int 0, .int 0, .int 0, .int 0, .int 0, .int 0, .null, .null, .null, .null] f_X8_23 (T := TX8) rfl rfl rfl rfl (Nat.le_of_ble_eq_true rfl) rfl dX8_init_35 ?_
  refine yb_aload M 0 dX8_init_38 rfl rfl ?_
  refine yb_bipush (v := 8) M dX8_init_39 (by decide) ?_
  refine yb_newa1 (N := 8) (k' := 5) (n' := 1142) M wd_ai (by decide) (by decide) (by decide) rfl rfl (Nat.le_of_ble_eq_true rfl) (Nat.le_of_ble_eq_true rfl) dX8_init_41 (fun q5 => ?_)
  refine yb_eq [(h0, .inr (8, [.int 0, .ref q1, .ref q2, .int 0, .int 0, .ref q3, .int 0, .ref q4, .null, .null, .int 0, .int 0, .int 0, .int 0, .null, .null, .int 0, .null, .int 0, .int 0, .int 0, .int 0, .int 0, .int 0, .int 0, .int 0, .int 0, .int 0, .int 0, .long 0, .int 0, .int 0, .int 0, .null, .null, .null, .null, .null, .null, .null, .int 0, .int 0, .int 0, .int 0, .int 0, .int 0, .null, .null, .null, .null])), (q1, .inl (cA 0, 960, .inl (fun _ => 0))), (q2, .inl (cA 0, 6, .inl (fun _ => 0))), (q3, .inl (cA 0, 160, .inl (fun _ => 0))), (q4, .inl (cA 0, 8, .inl (fun _ => 0))), (q5, .inl (cA 0, 8, .inl (fun _ => 0)))] rfl ?_
  refine yb_put M [.int 0, .ref q1, .ref q2, .int 0, .int 0, .ref q3, .int 0, .ref q4, .ref q5, .null, .int 0, .int 0, .int 0, .int 0, .null, .null, .int 0, .null, .int 0, .int 0, .int 0, .int 0, .int 0, .int 0, .int 0, .int 0, .int 0, .int 0, .int 0, .long 0, .int 0, .int 0, .int 0, .null, .null, .null, .null, .null, .null, .null, .int 0, .int 0, .int 0, .int 0, .int 0, .int 0, .null, .null, .null, .null] f_X8_26 (T := TX8) rfl rfl rfl rfl (Nat.le_of_ble_eq_true rfl) rfl dX8_init_43 ?_
  refine yb_aload M 0 dX8_init_46 rfl rfl ?_
  refine yb_bipush (v := 8) M dX8_init_47 (by decide) ?_
  refine yb_newa1 (N := 8) (k' := 6) (n' := 1150) M wd_ai (by decide) (by decide) (by decide) rfl rfl (Nat.le_of_ble_eq_true rfl) (Nat.le_of_ble_eq_true rfl) dX8_init_49 (fun q6 => ?_)
  refine yb_eq [(h0, .inr (8, [.int 0, .ref q1, .ref q2, .int 0, .int 0, .ref q3, .int 0, .ref q4, .ref q5, .null, .int 0, .int 0, .int 0, .int 0, .null, .null, .int 0, .null, .int 0, .int 0, .int 0, .int 0, .int 0, .int 0, .int 0, .int 0, .int 0, .int 0, .int 0, .long 0, .int 0, .int 0, .int 0, .null, .null, .null, .null, .null, .null, .null, .int 0, .int 0, .int 0, .int 0, .int 0, .int 0, .null, .null, .null, .null])), (q1, .inl (cA 0, 960, .inl (fun _ => 0))), (q2, .inl (cA 0, 6, .inl (fun _ => 0))), (q3, .inl (cA 0, 160, .inl (fun _ => 0))), (q4, .inl (cA 0, 8, .inl (fun _ => 0))), (q5, .inl (cA 0, 8, .inl (fun _ => 0))), (q6, .inl (cA 0, 8, .inl (fun _ => 0)))] rfl ?_
  refine yb_put M [.int 0, .ref q1, .ref q2, .int 0, .int 0, .ref q3, .int 0, .ref q4, .ref q5, .ref q6, .int 0, .int 0, .int 0, .int 0, .null, .null, .int 0, .null, .int 0, .int 0, .int 0, .int 0, .int 0, .int 0, .int 0, .int 0, .int 0, .int 0, .int 0, .long 0, .int 0, .int 0, .int 0, .null, .null, .null, .null, .null, .null, .null, .int 0, .int 0, .int 0, .int 0, .int 0, .int 0, .null, .null, .null, .null] f_X8_29 (T := TX8) rfl rfl rfl rfl (Nat.le_of_ble_eq_true rfl) rfl dX8_init_51 ?_
  refine yb_aload M 0 dX8_init_54 rfl rfl ?_
  refine yb_iconst (v := 1) M dX8_init_55 (by decide) ?_
  refine yb_put M [.int 0, .ref q1, .ref q2, .int 0, .int 0, .ref q3, .int 0, .ref q4, .ref q5, .ref q6, .int 0, .int 0, .int 1, .int 0, .null, .null, .int 0, .null, .int 0, .int 0, .int 0, .int 0, .int 0, .int 0, .int 0, .int 0, .int 0, .int 0, .int 0, .long 0, .int 0, .int 0, .int 0, .null, .null, .null, .null, .null, .null, .null, .int 0, .int 0, .int 0, .int 0, .int 0, .int 0, .null, .null, .null, .null] f_X8_32 (T := TX8) rfl rfl rfl rfl (Nat.le_of_ble_eq_true rfl) rfl dX8_init_56 ?_
  refine yb_aload M 0 dX8_init_59 rfl rfl ?_
  refine yb_iconst (v := 3) M dX8_init_60 (by decide) ?_
  refine yb_put M [.int 0, .ref q1, .ref q2, .int 0, .int 0, .ref q3, .int 0, .ref q4, .ref q5, .ref q6, .int 0, .int 0, .int 1, .int 3, .null, .null, .int 0, .null, .int 0, .int 0, .int 0, .int 0, .int 0, .int 0, .int 0, .int 0, .int 0, .int 0, .int 0, .long 0, .int 0, .int 0, .int 0, .null, .null, .null, .null, .null, .null, .null, .int 0, .int 0, .int 0, .int 0, .int 0, .int 0, .null, .null, .null, .null] f_X8_35 (T := TX8) rfl rfl rfl rfl (Nat.le_of_ble_eq_true rfl) rfl dX8_init_61 ?_
  refine yb_aload M 0 dX8_init_64 rfl rfl ?_
  refine yb_iconst (v := 4) M dX8_init_65 (by decide) ?_
  refine yb_newa1 (N := 4) (k' := 7) (n' := 1154) M wd_ai (by decide) (by decide) (by decide) rfl rfl (Nat.le_of_ble_eq_true rfl) (Nat.le_of_ble_eq_true rfl) dX8_init_66 (fun q7 => ?_)
  refine yb_eq [(h0, .inr (8, [.int 0, .ref q1, .ref q2, .int 0, .int 0, .ref q3, .int 0, .ref q4, .ref q5, .ref q6, .int 0, .int 0, .int 1, .int 3, .null, .null, .int 0, .null, .int 0, .int 0, .int 0, .int 0, .int 0, .int 0, .int 0, .int 0, .int 0, .int 0, .int 0, .long 0, .int 0, .int 0, .int 0, .null, .null, .null, .null, .null, .null, .null, .int 0, .int 0, .int 0, .int 0, .int 0, .int 0, .null, .null, .null, .null])), (q1, .inl (cA 0, 960, .inl (fun _ => 0))), (q2, .inl (cA 0, 6, .inl (fun _ => 0))), (q3, .inl (cA 0, 160, .inl (fun _ => 0))), (q4, .inl (cA 0, 8, .inl (fun _ => 0))), (q5, .inl (cA 0, 8, .inl (fun _ => 0))), (q6, .inl (cA 0, 8, .inl (fun _ => 0))), (q7, .inl (cA 0, 4, .inl (fun _ => 0)))] rfl ?_
  refine yb_put M [.int 0, .ref q1, .ref q2, .int 0, .int 0, .ref q3, .int 0, .ref q4, .ref q5, .ref q6, .int 0, .int 0, .int 1, .int 3, .ref q7, .null, .int 0, .null, .int 0, .int 0, .int 0, .int 0, .int 0, .int 0, .int 0, .int 0, .int 0, .int 0, .int 0, .long 0, .int 0, .int 0, .int 0, .null, .null, .null, .null, .null, .null, .null, .int 0, .int 0, .int 0, .int 0, .int 0, .int 0, .null, .null, .null, .null] f_X8_38 (T := TX8) rfl rfl rfl rfl (Nat.le_of_ble_eq_true rfl) rfl dX8_init_68 ?_
  refine yb_aload M 0 dX8_init_71 rfl rfl ?_
  refine yb_iconst (v := 4) M dX8_init_72 (by decide) ?_
  refine yb_newa1 (N := 4) (k' := 8) (n' := 1158) M wd_ai (by decide) (by decide) (by decide) rfl rfl (Nat.le_of_ble_eq_true rfl) (Nat.le_of_ble_eq_true rfl) dX8_init_73 (fun q8 => ?_)
  refine yb_eq [(h0, .inr (8, [.int 0, .ref q1, .ref q2, .int 0, .int 0, .ref q3, .int 0, .ref q4, .ref q5, .ref q6, .int 0, .int 0, .int 1, .int 3, .ref q7, .null, .int 0, .null, .int 0, .int 0, .int 0, .int 0, .int 0, .int 0, .int 0, .int 0, .int 0, .int 0, .int 0, .long 0, .int 0, .int 0, .int 0, .null, .null, .null, .null, .null, .null, .null, .int 0, .int 0, .int 0, .int 0, .int 0, .int 0, .null, .null, .null, .null])), (q1, .inl (cA 0, 960, .inl (fun _ => 0))), (q2, .inl (cA 0, 6, .inl (fun _ => 0))), (q3, .inl (cA 0, 160, .inl (fun _ => 0))), (q4, .inl (cA 0, 8, .inl (fun _ => 0))), (q5, .inl (cA 0, 8, .inl (fun _ => 0))), (q6, .inl (cA 0, 8, .inl (fun _ => 0))), (q7, .inl (cA 0, 4, .inl (fun _ => 0))), (q8, .inl (cA 0, 4, .inl (fun _ => 0)))] rfl ?_
  refine yb_put M [.int 0, .ref q1, .ref q2, .int 0, .int 0, .ref q3, .int 0, .ref q4, .ref q5, .ref q6, .int 0, .int 0, .int 1, .int 3, .ref q7, .ref q8, .int 0, .null, .int 0, .int 0, .int 0, .int 0, .int 0, .int 0, .int 0, .int 0, .int 0, .int 0, .int 0, .long 0, .int 0, .int 0, .int 0, .null, .null, .null, .null, .null, .null, .null, .int 0, .int 0, .int 0, .int 0, .int 0, .int 0, .null, .null, .null, .null] f_X8_41 (T := TX8) rfl rfl rfl rfl (Nat.le_of_ble_eq_true rfl) rfl dX8_init_75 ?_
  refine yb_aload M 0 dX8_init_78 rfl rfl ?_
  refine yb_bipush (v := 24) M dX8_init_79 (by decide) ?_
  refine yb_newa1 (N := 24) (k' := 9) (n' := 1182) M wd_ai (by decide) (by decide) (by decide) rfl rfl (Nat.le_of_ble_eq_true rfl) (Nat.le_of_ble_eq_true rfl) dX8_init_81 (fun q9 => ?_)
  refine yb_eq [(h0, .inr (8, [.int 0, .ref q1, .ref q2, .int 0, .int 0, .ref q3, .int 0, .ref q4, .ref q5, .ref q6, .int 0, .int 0, .int 1, .int 3, .ref q7, .ref q8, .int 0, .null, .int 0, .int 0, .int 0, .int 0, .int 0, .int 0, .int 0, .int 0, .int 0, .int 0, .int 0, .long 0, .int 0, .int 0, .int 0, .null, .null, .null, .null, .null, .null, .null, .int 0, .int 0, .int 0, .int 0, .int 0, .int 0, .null, .null, .null, .null])), (q1, .inl (cA 0, 960, .inl (fun _ => 0))), (q2, .inl (cA 0, 6, .inl (fun _ => 0))), (q3, .inl (cA 0, 160, .inl (fun _ => 0))), (q4, .inl (cA 0, 8, .inl (fun _ => 0))), (q5, .inl (cA 0, 8, .inl (fun _ => 0))), (q6, .inl (cA 0, 8, .inl (fun _ => 0))), (q7, .inl (cA 0, 4, .inl (fun _ => 0))), (q8, .inl (cA 0, 4, .inl (fun _ => 0))), (q9, .inl (cA 0, 24, .inl (fun _ => 0)))] rfl ?_
  refine yb_put M [.int 0, .ref q1, .ref q2, .int 0, .int 0, .ref q3, .int 0, .ref q4, .ref q5, .ref q6, .int 0, .int 0, .int 1, .int 3, .ref q7, .ref q8, .int 0, .ref q9, .int 0, .int 0, .int 0, .int 0, .int 0, .int 0, .int 0, .int 0, .int 0, .int 0, .int 0, .long 0, .int 0, .int 0, .int 0, .null, .null, .null, .null, .null, .null, .null, .int 0, .int 0, .int 0, .int 0, .int 0, .int 0, .null, .null, .null, .null] f_X8_44 (T := TX8) rfl rfl rfl rfl (Nat.le_of_ble_eq_true rfl) rfl dX8_init_83 ?_
  refine yb_aload M 0 dX8_init_86 rfl rfl ?_
  refine yb_bipush (v := 24) M dX8_init_87 (by decide) ?_
  refine yb_newa1 (N := 24) (k' := 10) (n' := 1206) M wd_ai (by decide) (by decide) (by decide) rfl rfl (Nat.le_of_ble_eq_true rfl) (Nat.le_of_ble_eq_true rfl) dX8_init_89 (fun q10 => ?_)
  refine yb_eq [(h0, .inr (8, [.int 0, .ref q1, .ref q2, .int 0, .int 0, .ref q3, .int 0, .ref q4, .ref q5, .ref q6, .int 0, .int 0, .int 1, .int 3, .ref q7, .ref q8, .int 0, .ref q9, .int 0, .int 0, .int 0, .int 0, .int 0, .int 0, .int 0, .int 0, .int 0, .int 0, .int 0, .long 0, .int 0, .int 0, .int 0, .null, .null, .null, .null, .null, .null, .null, .int 0, .int 0, .int 0, .int 0, .int 0, .int 0, .null, .null, .null, .null])), (q1, .inl (cA 0, 960, .inl (fun _ => 0))), (q2, .inl (cA 0, 6, .inl (fun _ => 0))), (q3, .inl (cA 0, 160, .inl (fun _ => 0))), (q4, .inl (cA 0, 8, .inl (fun _ => 0))), (q5, .inl (cA 0, 8, .inl (fun _ => 0))), (q6, .inl (cA 0, 8, .inl (fun _ => 0))), (q7, .inl (cA 0, 4, .inl (fun _ => 0))), (q8, .inl (cA 0, 4, .inl (fun _ => 0))), (q9, .inl (cA 0, 24, .inl (fun _ => 0))), (q10, .inl (cA 0, 24, .inl (fun _ => 0)))] rfl ?_
  refine yb_put M [.int 0, .ref q1, .ref q2, .int 0, .int 0, .ref q3, .int 0, .ref q4, .ref q5, .ref q6, .int 0, .int 0, .int 1, .int 3, .ref q7, .ref q8, .int 0, .ref q9, .int 0, .int 0, .int 0, .int 0, .int 0, .int 0, .int 0, .int 0, .int 0, .int 0, .int 0, .long 0, .int 0, .int 0, .int 0, .ref q10, .null, .null, .null, .null, .null, .null, .int 0, .int 0, .int 0, .int 0, .int 0, .int 0, .null, .null, .null, .null] f_X8_47 (T := TX8) rfl rfl rfl rfl (Nat.le_of_ble_eq_true rfl) rfl dX8_init_91 ?_
  refine yb_aload M 0 dX8_init_94 rfl rfl ?_
  refine yb_ldc M wk8_50 dX8_init_95 ?_
  refine yb_newa1 (N := 76800) (k' := 11) (n' := 78006) M wd_ai (by decide) (by decide) (by decide) rfl rfl (Nat.le_of_ble_eq_true rfl) (Nat.le_of_ble_eq_true rfl) dX8_init_97 (fun q11 => ?_)
  refine yb_eq [(h0, .inr (8, [.int 0, .ref q1, .ref q2, .int 0, .int 0, .ref q3, .int 0, .ref q4, .ref q5, .ref q6, .int 0, .int 0, .int 1, .int 3, .ref q7, .ref q8, .int 0, .ref q9, .int 0, .int 0, .int 0, .int 0, .int 0, .int 0, .int 0, .int 0, .int 0, .int 0, .int 0, .long 0, .int 0, .int 0, .int 0, .ref q10, .null, .null, .null, .null, .null, .null, .int 0, .int 0, .int 0, .int 0, .int 0, .int 0, .null, .null, .null, .null])), (q1, .inl (cA 0, 960, .inl (fun _ => 0))), (q2, .inl (cA 0, 6, .inl (fun _ => 0))), (q3, .inl (cA 0, 160, .inl (fun _ => 0))), (q4, .inl (cA 0, 8, .inl (fun _ => 0))), (q5, .inl (cA 0, 8, .inl (fun _ => 0))), (q6, .inl (cA 0, 8, .inl (fun _ => 0))), (q7, .inl (cA 0, 4, .inl (fun _ => 0))), (q8, .inl (cA 0, 4, .inl (fun _ => 0))), (q9, .inl (cA 0, 24, .inl (fun _ => 0))), (q10, .inl (cA 0, 24, .inl (fun _ => 0))), (q11, .inl (cA 0, 76800, .inl (fun _ => 0)))] rfl ?_
  refine yb_put M [.int 0, .ref q1, .ref q2, .int 0, .int 0, .ref q3, .int 0, .ref q4, .ref q5, .ref q6, .int 0, .int 0, .int 1, .int 3, .ref q7, .ref q8, .int 0, .ref q9, .int 0, .int 0, .int 0, .int 0, .int 0, .int 0, .int 0, .int 0, .int 0, .int 0, .int 0, .long 0, .int 0, .int 0, .int 0, .ref q10, .ref q11, .null, .null, .null, .null, .null, .int 0, .int 0, .int 0, .int 0, .int 0, .int 0, .null, .null, .null, .null] f_X8_51 (T := TX8) rfl rfl rfl rfl (Nat.le_of_ble_eq_true rfl) rfl dX8_init_99 ?_
  refine yb_aload M 0 dX8_init_102 rfl rfl ?_
  refine yb_sipush (v := 200) M dX8_init_103 (by decide) ?_
  refine yb_newa1 (N := 200) (k' := 12) (n' := 78206) M wd_ai (by decide) (by decide) (by decide) rfl rfl (Nat.le_of_ble_eq_true rfl) (Nat.le_of_ble_eq_true rfl) dX8_init_106 (fun q12 => ?_)
  refine yb_eq [(h0, .inr (8, [.int 0, .ref q1, .ref q2, .int 0, .int 0, .ref q3, .int 0, .ref q4, .ref q5, .ref q6, .int 0, .int 0, .int 1, .int 3, .ref q7, .ref q8, .int 0, .ref q9, .int 0, .int 0, .int 0, .int 0, .int 0, .int 0, .int 0, .int 0, .int 0, .int 0, .int 0, .long 0, .int 0, .int 0, .int 0, .ref q10, .ref q11, .null, .null, .null, .null, .null, .int 0, .int 0, .int 0, .int 0, .int 0, .int 0, .null, .null, .null, .null])), (q1, .inl (cA 0, 960, .inl (fun _ => 0))), (q2, .inl (cA 0, 6, .inl (fun _ => 0))), (q3, .inl (cA 0, 160, .inl (fun _ => 0))), (q4, .inl (cA 0, 8, .inl (fun _ => 0))), (q5, .inl (cA 0, 8, .inl (fun _ => 0))), (q6, .inl (cA 0, 8, .inl (fun _ => 0))), (q7, .inl (cA 0, 4, .inl (fun _ => 0))), (q8, .inl (cA 0, 4, .inl (fun _ => 0))), (q9, .inl (cA 0, 24, .inl (fun _ => 0))), (q10, .inl (cA 0, 24, .inl (fun _ => 0))), (q11, .inl (cA 0, 76800, .inl (fun _ => 0))), (q12, .inl (cA 0, 200, .inl (fun _ => 0)))] rfl ?_
  refine yb_put M [.int 0, .ref q1, .ref q2, .int 0, .int 0, .ref q3, .int 0, .ref q4, .ref q5, .ref q6, .int 0, .int 0, .int 1, .int 3, .ref q7, .ref q8, .int 0, .ref q9, .int 0, .int 0, .int 0, .int 0, .int 0, .int 0, .int 0, .int 0, .int 0, .int 0, .int 0, .long 0, .int 0, .int 0, .int 0, .ref q10, .ref q11, .ref q12, .null, .null, .null, .null, .int 0, .int 0, .int 0, .int 0, .int 0, .int 0, .null, .null, .null, .null] f_X8_54 (T := TX8) rfl rfl rfl rfl (Nat.le_of_ble_eq_true rfl) rfl dX8_init_108 ?_
  refine yb_aload M 0 dX8_init_111 rfl rfl ?_
  refine yb_sipush (v := 216) M dX8_init_112 (by decide) ?_
  refine yb_newa1 (N := 216) (k' := 13) (n' := 78422) M wd_ai (by decide) (by decide) (by decide) rfl rfl (Nat.le_of_ble_eq_true rfl) (Nat.le_of_ble_eq_true rfl) dX8_init_115 (fun q13 => ?_)
  refine yb_eq [(h0, .inr (8, [.int 0, .ref q1, .ref q2, .int 0, .int 0, .ref q3, .int 0, .ref q4, .ref q5, .ref q6, .int 0, .int 0, .int 1, .int 3, .ref q7, .ref q8, .int 0, .ref q9, .int 0, .int 0, .int 0, .int 0, .int 0, .int 0, .int 0, .int 0, .int 0, .int 0, .int 0, .long 0, .int 0, .int 0, .int 0, .ref q10, .ref q11, .ref q12, .null, .null, .null, .null, .int 0, .int 0, .int 0, .int 0, .int 0, .int 0, .null, .null, .null, .null])), (q1, .inl (cA 0, 960, .inl (fun _ => 0))), (q2, .inl (cA 0, 6, .inl (fun _ => 0))), (q3, .inl (cA 0, 160, .inl (fun _ => 0))), (q4, .inl (cA 0, 8, .inl (fun _ => 0))), (q5, .inl (cA 0, 8, .inl (fun _ => 0))), (q6, .inl (cA 0, 8, .inl (fun _ => 0))), (q7, .inl (cA 0, 4, .inl (fun _ => 0))), (q8, .inl (cA 0, 4, .inl (fun _ => 0))), (q9, .inl (cA 0, 24, .inl (fun _ => 0))), (q10, .inl (cA 0, 24, .inl (fun _ => 0))), (q11, .inl (cA 0, 76800, .inl (fun _ => 0))), (q12, .inl (cA 0, 200, .inl (fun _ => 0))), (q13, .inl (cA 0, 216, .inl (fun _ => 0)))] rfl ?_
  refine yb_put M [.int 0, .ref q1, .ref q2, .int 0, .int 0, .ref q3, .int 0, .ref q4, .ref q5, .ref q6, .int 0, .int 0, .int 1, .int 3, .ref q7, .ref q8, .int 0, .ref q9, .int 0, .int 0, .int 0, .int 0, .int 0, .int 0, .int 0, .int 0, .int 0, .int 0, .int 0, .long 0, .int 0, .int 0, .int 0, .ref q10, .ref q11, .ref q12, .ref q13, .null, .null, .null, .int 0, .int 0, .int 0, .int 0, .int 0, .int 0, .null, .null, .null, .null] f_X8_57 (T := TX8) rfl rfl rfl rfl (Nat.le_of_ble_eq_true rfl) rfl dX8_init_117 ?_
  refine yb_aload M 0 dX8_init_120 rfl rfl ?_
  refine yb_bipush (v := 24) M dX8_init_121 (by decide) ?_
  refine yb_newa1 (N := 24) (k' := 14) (n' := 78446) M wd_ai (by decide) (by decide) (by decide) rfl rfl (Nat.le_of_ble_eq_true rfl) (Nat.le_of_ble_eq_true rfl) dX8_init_123 (fun q14 => ?_)
  refine yb_eq [(h0, .inr (8, [.int 0, .ref q1, .ref q2, .int 0, .int 0, .ref q3, .int 0, .ref q4, .ref q5, .ref q6, .int 0, .int 0, .int 1, .int 3, .ref q7, .ref q8, .int 0, .ref q9, .int 0, .int 0, .int 0, .int 0, .int 0, .int 0, .int 0, .int 0, .int 0, .int 0, .int 0, .long 0, .int 0, .int 0, .int 0, .ref q10, .ref q11, .ref q12, .ref q13, .null, .null, .null, .int 0, .int 0, .int 0, .int 0, .int 0, .int 0, .null, .null, .null, .null])), (q1, .inl (cA 0, 960, .inl (fun _ => 0))), (q2, .inl (cA 0, 6, .inl (fun _ => 0))), (q3, .inl (cA 0, 160, .inl (fun _ => 0))), (q4, .inl (cA 0, 8, .inl (fun _ => 0))), (q5, .inl (cA 0, 8, .inl (fun _ => 0))), (q6, .inl (cA 0, 8, .inl (fun _ => 0))), (q7, .inl (cA 0, 4, .inl (fun _ => 0))), (q8, .inl (cA 0, 4, .inl (fun _ => 0))), (q9, .inl (cA 0, 24, .inl (fun _ => 0))), (q10, .inl (cA 0, 24, .inl (fun _ => 0))), (q11, .inl (cA 0, 76800, .inl (fun _ => 0))), (q12, .inl (cA 0, 200, .inl (fun _ => 0))), (q13, .inl (cA 0, 216, .inl (fun _ => 0))), (q14, .inl (cA 0, 24, .inl (fun _ => 0)))] rfl ?_
  refine yb_put M [.int 0, .ref q1, .ref q2, .int 0, .int 0, .ref q3, .int 0, .ref q4, .ref q5, .ref q6, .int 0, .int 0, .int 1, .int 3, .ref q7, .ref q8, .int 0, .ref q9, .int 0, .int 0, .int 0, .int 0, .int 0, .int 0, .int 0, .int 0, .int 0, .int 0, .int 0, .long 0, .int 0, .int 0, .int 0, .ref q10, .ref q11, .ref q12, .ref q13, .ref q14, .null, .null, .int 0, .int 0, .int 0, .int 0, .int 0, .int 0, .null, .null, .null, .null] f_X8_60 (T := TX8) rfl rfl rfl rfl (Nat.le_of_ble_eq_true rfl) rfl dX8_init_125 ?_
  refine yb_aload M 0 dX8_init_128 rfl rfl ?_
  refine yb_bipush (v := 24) M dX8_init_129 (by decide) ?_
  refine yb_newa1 (N := 24) (k' := 15) (n' := 78470) M wd_ai (by decide) (by decide) (by decide) rfl rfl (Nat.le_of_ble_eq_true rfl) (Nat.le_of_ble_eq_true rfl) dX8_init_131 (fun q15 => ?_)
  refine yb_eq [(h0, .inr (8, [.int 0, .ref q1, .ref q2, .int 0, .int 0, .ref q3, .int 0, .ref q4, .ref q5, .ref q6, .int 0, .int 0, .int 1, .int 3, .ref q7, .ref q8, .int 0, .ref q9, .int 0, .int 0, .int 0, .int 0, .int 0, .int 0, .int 0, .int 0, .int 0, .int 0, .int 0, .long 0, .int 0, .int 0, .int 0, .ref q10, .ref q11, .ref q12, .ref q13, .ref q14, .null, .null, .int 0, .int 0, .int 0, .int 0, .int 0, .int 0, .null, .null, .null, .null])), (q1, .inl (cA 0, 960, .inl (fun _ => 0))), (q2, .inl (cA 0, 6, .inl (fun _ => 0))), (q3, .inl (cA 0, 160, .inl (fun _ => 0))), (q4, .inl (cA 0, 8, .inl (fun _ => 0))), (q5, .inl (cA 0, 8, .inl (fun _ => 0))), (q6, .inl (cA 0, 8, .inl (fun _ => 0))), (q7, .inl (cA 0, 4, .inl (fun _ => 0))), (q8, .inl (cA 0, 4, .inl (fun _ => 0))), (q9, .inl (cA 0, 24, .inl (fun _ => 0))), (q10, .inl (cA 0, 24, .inl (fun _ => 0))), (q11, .inl (cA 0, 76800, .inl (fun _ => 0))), (q12, .inl (cA 0, 200, .inl (fun _ => 0))), (q13, .inl (cA 0, 216, .inl (fun _ => 0))), (q14, .inl (cA 0, 24, .inl (fun _ => 0))), (q15, .inl (cA 0, 24, .inl (fun _ => 0)))] rfl ?_
  refine yb_put M [.int 0, .ref q1, .ref q2, .int 0, .int 0, .ref q3, .int 0, .ref q4, .ref q5, .ref q6, .int 0, .int 0, .int 1, .int 3, .ref q7, .ref q8, .int 0, .ref q9, .int 0, .int 0, .int 0, .int 0, .int 0, .int 0, .int 0, .int 0, .int 0, .int 0, .int 0, .long 0, .int 0, .int 0, .int 0, .ref q10, .ref q11, .ref q12, .ref q13, .ref q14, .ref q15, .null, .int 0, .int 0, .int 0, .int 0, .int 0, .int 0, .null, .null, .null, .null] f_X8_63 (T := TX8) rfl rfl rfl rfl (Nat.le_of_ble_eq_true rfl) rfl dX8_init_133 ?_
  refine yb_aload M 0 dX8_init_136 rfl rfl ?_
  refine yb_iconst (v := 4) M dX8_init_137 (by decide) ?_
  refine yb_newa1 (N := 4) (k' := 16) (n' := 78474) M wd_ai (by decide) (by decide) (by decide) rfl rfl (Nat.le_of_ble_eq_true rfl) (Nat.le_of_ble_eq_true rfl) dX8_init_138 (fun q16 => ?_)
  refine yb_eq [(h0, .inr (8, [.int 0, .ref q1, .ref q2, .int 0, .int 0, .ref q3, .int 0, .ref q4, .ref q5, .ref q6, .int 0, .int 0, .int 1, .int 3, .ref q7, .ref q8, .int 0, .ref q9, .int 0, .int 0, .int 0, .int 0, .int 0, .int 0, .int 0, .int 0, .int 0, .int 0, .int 0, .long 0, .int 0, .int 0, .int 0, .ref q10, .ref q11, .ref q12, .ref q13, .ref q14, .ref q15, .null, .int 0, .int 0, .int 0, .int 0, .int 0, .int 0, .null, .null, .null, .null])), (q1, .inl (cA 0, 960, .inl (fun _ => 0))), (q2, .inl (cA 0, 6, .inl (fun _ => 0))), (q3, .inl (cA 0, 160, .inl (fun _ => 0))), (q4, .inl (cA 0, 8, .inl (fun _ => 0))), (q5, .inl (cA 0, 8, .inl (fun _ => 0))), (q6, .inl (cA 0, 8, .inl (fun _ => 0))), (q7, .inl (cA 0, 4, .inl (fun _ => 0))), (q8, .inl (cA 0, 4, .inl (fun _ => 0))), (q9, .inl (cA 0, 24, .inl (fun _ => 0))), (q10, .inl (cA 0, 24, .inl (fun _ => 0))), (q11, .inl (cA 0, 76800, .inl (fun _ => 0))), (q12, .inl (cA 0, 200, .inl (fun _ => 0))), (q13, .inl (cA 0, 216, .inl (fun _ => 0))), (q14, .inl (cA 0, 24, .inl (fun _ => 0))), (q15, .inl (cA 0, 24, .inl (fun _ => 0))), (q16, .inl (cA 0, 4, .inl (fun _ => 0)))] rfl ?_
  refine yb_put M [.int 0, .ref q1, .ref q2, .int 0, .int 0, .ref q3, .int 0, .ref q4, .ref q5, .ref q6, .int 0, .int 0, .int 1, .int 3, .ref q7, .ref q8, .int 0, .ref q9, .int 0, .int 0, .int 0, .int 0, .int 0, .int 0, .int 0, .int 0, .int 0, .int 0, .int 0, .long 0, .int 0, .int 0, .int 0, .ref q10, .ref q11, .ref q12, .ref q13, .ref q14, .ref q15, .ref q16, .int 0, .int 0, .int 0, .int 0, .int 0, .int 0, .null, .null, .null, .null] f_X8_66 (T := TX8) rfl rfl rfl rfl (Nat.le_of_ble_eq_true rfl) rfl dX8_init_140 ?_
  refine yb_aload M 0 dX8_init_143 rfl rfl ?_
  refine yb_iconst (v := (-1)) M dX8_init_144 (by decide) ?_
  refine yb_put M [.int 0, .ref q1, .ref q2, .int 0, .int 0, .ref q3, .int 0, .ref q4, .ref q5, .ref q6, .int 0, .int 0, .int 1, .int 3, .ref q7, .ref q8, .int 0, .ref q9, .int 0, .int 0, .int 0, .int 0, .int 0, .int 0, .int 0, .int 0, .int 0, .int 0, .int 0, .long 0, .int 0, .int 0, .int 0, .ref q10, .ref q11, .ref q12, .ref q13, .ref q14, .ref q15, .ref q16, .int (-1), .int 0, .int 0, .int 0, .int 0, .int 0, .null, .null, .null, .null] f_X8_69 (T := TX8) rfl rfl rfl rfl (Nat.le_of_ble_eq_true rfl) rfl dX8_init_145 ?_
  refine yb_aload M 0 dX8_init_148 rfl rfl ?_
  refine yb_iconst (v := 4) M dX8_init_149 (by decide) ?_
  refine yb_newz1 (N := 4) (k' := 17) (n' := 78478) M wd_az (by decide) (by decide) (by decide) rfl rfl (Nat.le_of_ble_eq_true rfl) (Nat.le_of_ble_eq_true rfl) dX8_init_150 (fun q17 => ?_)
  refine yb_eq [(h0, .inr (8, [.int 0, .ref q1, .ref q2, .int 0, .int 0, .ref q3, .int 0, .ref q4, .ref q5, .ref q6, .int 0, .int 0, .int 1, .int 3, .ref q7, .ref q8, .int 0, .ref q9, .int 0, .int 0, .int 0, .int 0, .int 0, .int 0, .int 0, .int 0, .int 0, .int 0, .int 0, .long 0, .int 0, .int 0, .int 0, .ref q10, .ref q11, .ref q12, .ref q13, .ref q14, .ref q15, .ref q16, .int (-1), .int 0, .int 0, .int 0, .int 0, .int 0, .null, .null, .null, .null])), (q1, .inl (cA 0, 960, .inl (fun _ => 0))), (q2, .inl (cA 0, 6, .inl (fun _ => 0))), (q3, .inl (cA 0, 160, .inl (fun _ => 0))), (q4, .inl (cA 0, 8, .inl (fun _ => 0))), (q5, .inl (cA 0, 8, .inl (fun _ => 0))), (q6, .inl (cA 0, 8, .inl (fun _ => 0))), (q7, .inl (cA 0, 4, .inl (fun _ => 0))), (q8, .inl (cA 0, 4, .inl (fun _ => 0))), (q9, .inl (cA 0, 24, .inl (fun _ => 0))), (q10, .inl (cA 0, 24, .inl (fun _ => 0))), (q11, .inl (cA 0, 76800, .inl (fun _ => 0))), (q12, .inl (cA 0, 200, .inl (fun _ => 0))), (q13, .inl (cA 0, 216, .inl (fun _ => 0))), (q14, .inl (cA 0, 24, .inl (fun _ => 0))), (q15, .inl (cA 0, 24, .inl (fun _ => 0))), (q16, .inl (cA 0, 4, .inl (fun _ => 0))), (q17, .inl (cA 1, 4, .inl (fun _ => 0)))] rfl ?_
  refine yb_put M [.int 0, .ref q1, .ref q2, .int 0, .int 0, .ref q3, .int 0, .ref q4, .ref q5, .ref q6, .int 0, .int 0, .int 1, .int 3, .ref q7, .ref q8, .int 0, .ref q9, .int 0, .int 0, .int 0, .int 0, .int 0, .int 0, .int 0, .int 0, .int 0, .int 0, .int 0, .long 0, .int 0, .int 0, .int 0, .ref q10, .ref q11, .ref q12, .ref q13, .ref q14, .ref q15, .ref q16, .int (-1), .int 0, .int 0, .int 0, .int 0, .int 0, .ref q17, .null, .null, .null] f_X8_72 (T := TX8) rfl rfl rfl rfl (Nat.le_of_ble_eq_true rfl) rfl dX8_init_152 ?_
  refine yb_aload M 0 dX8_init_155 rfl rfl ?_
  refine yb_iconst (v := 4) M dX8_init_156 (by decide) ?_
  refine yb_newa1 (N := 4) (k' := 18) (n' := 78482) M wd_ai (by decide) (by decide) (by decide) rfl rfl (Nat.le_of_ble_eq_true rfl) (Nat.le_of_ble_eq_true rfl) dX8_init_157 (fun q18 => ?_)
  refine yb_eq [(h0, .inr (8, [.int 0, .ref q1, .ref q2, .int 0, .int 0, .ref q3, .int 0, .ref q4, .ref q5, .ref q6, .int 0, .int 0, .int 1, .int 3, .ref q7, .ref q8, .int 0, .ref q9, .int 0, .int 0, .int 0, .int 0, .int 0, .int 0, .int 0, .int 0, .int 0, .int 0, .int 0, .long 0, .int 0, .int 0, .int 0, .ref q10, .ref q11, .ref q12, .ref q13, .ref q14, .ref q15, .ref q16, .int (-1), .int 0, .int 0, .int 0, .int 0, .int 0, .ref q17, .null, .null, .null])), (q1, .inl (cA 0, 960, .inl (fun _ => 0))), (q2, .inl (cA 0, 6, .inl (fun _ => 0))), (q3, .inl (cA 0, 160, .inl (fun _ => 0))), (q4, .inl (cA 0, 8, .inl (fun _ => 0))), (q5, .inl (cA 0, 8, .inl (fun _ => 0))), (q6, .inl (cA 0, 8, .inl (fun _ => 0))), (q7, .inl (cA 0, 4, .inl (fun _ => 0))), (q8, .inl (cA 0, 4, .inl (fun _ => 0))), (q9, .inl (cA 0, 24, .inl (fun _ => 0))), (q10, .inl (cA 0, 24, .inl (fun _ => 0))), (q11, .inl (cA 0, 76800, .inl (fun _ => 0))), (q12, .inl (cA 0, 200, .inl (fun _ => 0))), (q13, .inl (cA 0, 216, .inl (fun _ => 0))), (q14, .inl (cA 0, 24, .inl (fun _ => 0))), (q15, .inl (cA 0, 24, .inl (fun _ => 0))), (q16, .inl (cA 0, 4, .inl (fun _ => 0))), (q17, .inl (cA 1, 4, .inl (fun _ => 0))), (q18, .inl (cA 0, 4, .inl (fun _ => 0)))] rfl ?_
  refine yb_put M [.int 0, .ref q1, .ref q2, .int 0, .int 0, .ref q3, .int 0, .ref q4, .ref q5, .ref q6, .int 0, .int 0, .int 1, .int 3, .ref q7, .ref q8, .int 0, .ref q9, .int 0, .int 0, .int 0, .int 0, .int 0, .int 0, .int 0, .int 0, .int 0, .int 0, .int 0, .long 0, .int 0, .int 0, .int 0, .ref q10, .ref q11, .ref q12, .ref q13, .ref q14, .ref q15, .ref q16, .int (-1), .int 0, .int 0, .int 0, .int 0, .int 0, .ref q17, .ref q18, .null, .null] f_X8_76 (T := TX8) rfl rfl rfl rfl (Nat.le_of_ble_eq_true rfl) rfl dX8_init_159 ?_
  refine yb_aload M 0 dX8_init_162 rfl rfl ?_
  refine yb_iconst (v := 4) M dX8_init_163 (by decide) ?_
  refine yb_newa1 (N := 4) (k' := 19) (n' := 78486) M wd_ai (by decide) (by decide) (by decide) rfl rfl (Nat.le_of_ble_eq_true rfl) (Nat.le_of_ble_eq_true rfl) dX8_init_164 (fun q19 => ?_)
  refine yb_eq [(h0, .inr (8, [.int 0, .ref q1, .ref q2, .int 0, .int 0, .ref q3, .int 0, .ref q4, .ref q5, .ref q6, .int 0, .int 0, .int 1, .int 3, .ref q7, .ref q8, .int 0, .ref q9, .int 0, .int 0, .int 0, .int 0, .int 0, .int 0, .int 0, .int 0, .int 0, .int 0, .int 0, .long 0, .int 0, .int 0, .int 0, .ref q10, .ref q11, .ref q12, .ref q13, .ref q14, .ref q15, .ref q16, .int (-1), .int 0, .int 0, .int 0, .int 0, .int 0, .ref q17, .ref q18, .null, .null])), (q1, .inl (cA 0, 960, .inl (fun _ => 0))), (q2, .inl (cA 0, 6, .inl (fun _ => 0))), (q3, .inl (cA 0, 160, .inl (fun _ => 0))), (q4, .inl (cA 0, 8, .inl (fun _ => 0))), (q5, .inl (cA 0, 8, .inl (fun _ => 0))), (q6, .inl (cA 0, 8, .inl (fun _ => 0))), (q7, .inl (cA 0, 4, .inl (fun _ => 0))), (q8, .inl (cA 0, 4, .inl (fun _ => 0))), (q9, .inl (cA 0, 24, .inl (fun _ => 0))), (q10, .inl (cA 0, 24, .inl (fun _ => 0))), (q11, .inl (cA 0, 76800, .inl (fun _ => 0))), (q12, .inl (cA 0, 200, .inl (fun _ => 0))), (q13, .inl (cA 0, 216, .inl (fun _ => 0))), (q14, .inl (cA 0, 24, .inl (fun _ => 0))), (q15, .inl (cA 0, 24, .inl (fun _ => 0))), (q16, .inl (cA 0, 4, .inl (fun _ => 0))), (q17, .inl (cA 1, 4, .inl (fun _ => 0))), (q18, .inl (cA 0, 4, .inl (fun _ => 0))), (q19, .inl (cA 0, 4, .inl (fun _ => 0)))] rfl ?_
  refine yb_put M [.int 0, .ref q1, .ref q2, .int 0, .int 0, .ref q3, .int 0, .ref q4, .ref q5, .ref q6, .int 0, .int 0, .int 1, .int 3, .ref q7, .ref q8, .int 0, .ref q9, .int 0, .int 0, .int 0, .int 0, .int 0, .int 0, .int 0, .int 0, .int 0, .int 0, .int 0, .long 0, .int 0, .int 0, .int 0, .ref q10, .ref q11, .ref q12, .ref q13, .ref q14, .ref q15, .ref q16, .int (-1), .int 0, .int 0, .int 0, .int 0, .int 0, .ref q17, .ref q18, .ref q19, .null] f_X8_79 (T := TX8) rfl rfl rfl rfl (Nat.le_of_ble_eq_true rfl) rfl dX8_init_166 ?_
  refine yb_aload M 0 dX8_init_169 rfl rfl ?_
  refine yb_sipush (v := 160) M dX8_init_170 (by decide) ?_
  refine yb_newa1 (N := 160) (k' := 20) (n' := 78646) M wd_ai (by decide) (by decide) (by decide) rfl rfl (Nat.le_of_ble_eq_true rfl) (Nat.le_of_ble_eq_true rfl) dX8_init_173 (fun q20 => ?_)
  refine yb_eq [(h0, .inr (8, [.int 0, .ref q1, .ref q2, .int 0, .int 0, .ref q3, .int 0, .ref q4, .ref q5, .ref q6, .int 0, .int 0, .int 1, .int 3, .ref q7, .ref q8, .int 0, .ref q9, .int 0, .int 0, .int 0, .int 0, .int 0, .int 0, .int 0, .int 0, .int 0, .int 0, .int 0, .long 0, .int 0, .int 0, .int 0, .ref q10, .ref q11, .ref q12, .ref q13, .ref q14, .ref q15, .ref q16, .int (-1), .int 0, .int 0, .int 0, .int 0, .int 0, .ref q17, .ref q18, .ref q19, .null])), (q1, .inl (cA 0, 960, .inl (fun _ => 0))), (q2, .inl (cA 0, 6, .inl (fun _ => 0))), (q3, .inl (cA 0, 160, .inl (fun _ => 0))), (q4, .inl (cA 0, 8, .inl (fun _ => 0))), (q5, .inl (cA 0, 8, .inl (fun _ => 0))), (q6, .inl (cA 0, 8, .inl (fun _ => 0))), (q7, .inl (cA 0, 4, .inl (fun _ => 0))), (q8, .inl (cA 0, 4, .inl (fun _ => 0))), (q9, .inl (cA 0, 24, .inl (fun _ => 0))), (q10, .inl (cA 0, 24, .inl (fun _ => 0))), (q11, .inl (cA 0, 76800, .inl (fun _ => 0))), (q12, .inl (cA 0, 200, .inl (fun _ => 0))), (q13, .inl (cA 0, 216, .inl (fun _ => 0))), (q14, .inl (cA 0, 24, .inl (fun _ => 0))), (q15, .inl (cA 0, 24, .inl (fun _ => 0))), (q16, .inl (cA 0, 4, .inl (fun _ => 0))), (q17, .inl (cA 1, 4, .inl (fun _ => 0))), (q18, .inl (cA 0, 4, .inl (fun _ => 0))), (q19, .inl (cA 0, 4, .inl (fun _ => 0))), (q20, .inl (cA 0, 160, .inl (fun _ => 0)))] rfl ?_
  refine yb_put M [.int 0, .ref q1, .ref q2, .int 0, .int 0, .ref q3, .int 0, .ref q4, .ref q5, .ref q6, .int 0, .int 0, .int 1, .int 3, .ref q7, .ref q8, .int 0, .ref q9, .int 0, .int 0, .int 0, .int 0, .int 0, .int 0, .int 0, .int 0, .int 0, .int 0, .int 0, .long 0, .int 0, .int 0, .int 0, .ref q10, .ref q11, .ref q12, .ref q13, .ref q14, .ref q15, .ref q16, .int (-1), .int 0, .int 0, .int 0, .int 0, .int 0, .ref q17, .ref q18, .ref q19, .ref q20] f_X8_82 (T := TX8) rfl rfl rfl rfl (Nat.le_of_ble_eq_true rfl) rfl dX8_init_175 ?_
  obtain ⟨ad, had⟩ : ∃ ad, ad = zad [h0, q1, q2, q3, q4, q5, q6, q7, q8, q9, q10, q11, q12, q13, q14, q15, q16, q17, q18, q19, q20] := ⟨_, rfl⟩
  have e0 : h0 = ad 0 := by rw [had]; rfl
  have e1 : q1 = ad 1 := by rw [had]; rfl
  have e2 : q2 = ad 2 := by rw [had]; rfl
  have e3 : q3 = ad 3 := by rw [had]; rfl
  have e4 : q4 = ad 4 := by rw [had]; rfl
  have e5 : q5 = ad 5 := by rw [had]; rfl
  have e6 : q6 = ad 6 := by rw [had]; rfl
  have e7 : q7 = ad 7 := by rw [had]; rfl
  have e8 : q8 = ad 8 := by rw [had]; rfl
  have e9 : q9 = ad 9 := by rw [had]; rfl
  have e10 : q10 = ad 10 := by rw [had]; rfl
  have e11 : q11 = ad 11 := by rw [had]; rfl
  have e12 : q12 = ad 12 := by rw [had]; rfl
  have e13 : q13 = ad 13 := by rw [had]; rfl
  have e14 : q14 = ad 14 := by rw [had]; rfl
  have e15 : q15 = ad 15 := by rw [had]; rfl
  have e16 : q16 = ad 16 := by rw [had]; rfl
  have e17 : q17 = ad 17 := by rw [had]; rfl
  have e18 : q18 = ad 18 := by rw [had]; rfl
  have e19 : q19 = ad 19 := by rw [had]; rfl
  have e20 : q20 = ad 20 := by rw [had]; rfl
  refine yb_to [0, 1, 2, 3, 4, 5, 6, 7, 8, 9, 10, 11, 12, 13, 14, 15, 16, 17, 18, 19, 20] (by decide) [(h0, .inr (8, [.int 0, .ref q1, .ref q2, .int 0, .int 0, .ref q3, .int 0, .ref q4, .ref q5, .ref q6, .int 0, .int 0, .int 1, .int 3, .ref q7, .ref q8, .int 0, .ref q9, .int 0, .int 0, .int 0, .int 0, .int 0, .int 0, .int 0, .int 0, .int 0, .int 0, .int 0, .long 0, .int 0, .int 0, .int 0, .ref q10, .ref q11, .ref q12, .ref q13, .ref q14, .ref q15, .ref q16, .int (-1), .int 0, .int 0, .int 0, .int 0, .int 0, .ref q17, .ref q18, .ref q19, .ref q20])), (q1, .inl (cA 0, 960, .inl (fun _ => 0))), (q2, .inl (cA 0, 6, .inl (fun _ => 0))), (q3, .inl (cA 0, 160, .inl (fun _ => 0))), (q4, .inl (cA 0, 8, .inl (fun _ => 0))), (q5, .inl (cA 0, 8, .inl (fun _ => 0))), (q6, .inl (cA 0, 8, .inl (fun _ => 0))), (q7, .inl (cA 0, 4, .inl (fun _ => 0))), (q8, .inl (cA 0, 4, .inl (fun _ => 0))), (q9, .inl (cA 0, 24, .inl (fun _ => 0))), (q10, .inl (cA 0, 24, .inl (fun _ => 0))), (q11, .inl (cA 0, 76800, .inl (fun _ => 0))), (q12, .inl (cA 0, 200, .inl (fun _ => 0))), (q13, .inl (cA 0, 216, .inl (fun _ => 0))), (q14, .inl (cA 0, 24, .inl (fun _ => 0))), (q15, .inl (cA 0, 24, .inl (fun _ => 0))), (q16, .inl (cA 0, 4, .inl (fun _ => 0))), (q17, .inl (cA 1, 4, .inl (fun _ => 0))), (q18, .inl (cA 0, 4, .inl (fun _ => 0))), (q19, .inl (cA 0, 4, .inl (fun _ => 0))), (q20, .inl (cA 0, 160, .inl (fun _ => 0)))] rfl ?_
  refine yb_eq (zws tabM cA ad sM0) (by rw [sM0_ws, e0, e1, e2, e3, e4, e5, e6, e7, e8, e9, e10, e11, e12, e13, e14, e15, e16, e17, e18, e19, e20]) ?_
  rw [e0] at M ⊢
  exact ymE (ad := ad) M
