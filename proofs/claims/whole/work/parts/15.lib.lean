theorem zputL_u : ∀ (i : Nat) (q : Nat × List (Nat ⊕ Nat)), i ≠ 0 → tabM[i]? = some (.inr (.inr q)) → ∀ t ∈ q.2, t ≠ .inl 1 := by
  intro i q hi hq
  exfalso
  have h : ∀ i, i < 21 → i ≠ 0 → (match tabM[i]? with | some (.inr (.inr _)) => false | _ => true) = true := by decide
  have hl : i < 21 := zlt hq
  have h2 := h i hl hi
  rw [hq] at h2
  cases h2
theorem zputL_v : ∀ (i : Nat) (t : Nat ⊕ Nat), i ≠ 29 → ([.inl 0, .inr 1, .inr 2, .inl 0, .inl 0, .inr 3, .inl 0, .inr 4, .inr 5, .inr 6, .inl 0, .inl 0, .inl 0, .inl 0, .inr 7, .inr 8, .inl 0, .inr 9, .inl 0, .inl 0, .inl 0, .inl 0, .inl 0, .inl 0, .inl 0, .inl 0, .inl 0, .inl 0, .inl 0, .inl 1, .inl 0, .inl 0, .inl 0, .inr 10, .inr 11, .inr 12, .inr 13, .inr 14, .inr 15, .inr 16, .inl 0, .inl 0, .inl 0, .inl 0, .inl 0, .inl 0, .inr 17, .inr 18, .inr 19, .inr 20] : List (Nat ⊕ Nat))[i]? = some t → t ≠ .inl 1 := by
  intro i t hi ht he
  subst he
  have h : ∀ i, i < 50 → i ≠ 29 → ([.inl 0, .inr 1, .inr 2, .inl 0, .inl 0, .inr 3, .inl 0, .inr 4, .inr 5, .inr 6, .inl 0, .inl 0, .inl 0, .inl 0, .inr 7, .inr 8, .inl 0, .inr 9, .inl 0, .inl 0, .inl 0, .inl 0, .inl 0, .inl 0, .inl 0, .inl 0, .inl 0, .inl 0, .inl 0, .inl 1, .inl 0, .inl 0, .inl 0, .inr 10, .inr 11, .inr 12, .inr 13, .inr 14, .inr 15, .inr 16, .inl 0, .inl 0, .inl 0, .inl 0, .inl 0, .inl 0, .inr 17, .inr 18, .inr 19, .inr 20] : List (Nat ⊕ Nat))[i]? ≠ some (.inl 1) := by decide
  exact h i (List.getElem?_eq_some_iff.mp ht).1 hi ht
theorem zmath_max : Cond.static Lib.Math.max.name ∈ zgw ∧ Cond.initialized "java/lang/Math" ∈ zgw ∧ Cond.code Lib.Math.max.name Lib.Math.max.code 2 (some .int) ∈ zgw := ⟨(zint (List.mem_of_getElem? (i := 315) (by decide +kernel)) rfl), (zint (List.mem_of_getElem? (i := 14) (by decide +kernel)) rfl), (zint (List.mem_of_getElem? (i := 316) (by decide +kernel)) rfl)⟩
theorem zmath_min : Cond.static Lib.Math.min.name ∈ zgw ∧ Cond.initialized "java/lang/Math" ∈ zgw ∧ Cond.code Lib.Math.min.name Lib.Math.min.code 2 (some .int) ∈ zgw := ⟨(zint (List.mem_of_getElem? (i := 312) (by decide +kernel)) rfl), (zint (List.mem_of_getElem? (i := 14) (by decide +kernel)) rfl), (zint (List.mem_of_getElem? (i := 313) (by decide +kernel)) rfl)⟩
theorem zmath_abs : Cond.static Lib.Math.abs.name ∈ zgw ∧ Cond.initialized "java/lang/Math" ∈ zgw ∧ Cond.code Lib.Math.abs.name Lib.Math.abs.code 1 (some .int) ∈ zgw := ⟨(zint (List.mem_of_getElem? (i := 734) (by decide +kernel)) rfl), (zint (List.mem_of_getElem? (i := 14) (by decide +kernel)) rfl), (zint (List.mem_of_getElem? (i := 735) (by decide +kernel)) rfl)⟩
theorem zarrcopy : Cond.native arraycopyName ∈ zgw ∧ Cond.static arraycopyName ∈ zgw ∧ Cond.initialized "java/lang/System" ∈ zgw := ⟨(zint (List.mem_of_getElem? (i := 673) (by decide +kernel)) rfl), (zint (List.mem_of_getElem? (i := 672) (by decide +kernel)) rfl), (zint (List.mem_of_getElem? (i := 16) (by decide +kernel)) rfl)⟩
theorem zrow_row (σ : zSt) (o : Nat) (f g : Nat → Int32) : zrow (zrow σ o f) o g = zrow σ o g := by
  unfold zrow
  congr 1
  funext a
  by_cases h : a = o <;> simp [h]
theorem zrow_at (σ : zSt) (o : Nat) (f : Nat → Int32) : (zrow σ o f).1 o = f := by simp [zrow]
theorem zrow_self (σ : zSt) (o : Nat) : zrow σ o (σ.1 o) = σ := by
  unfold zrow
  have : (fun a => if a = o then σ.1 o else σ.1 a) = σ.1 := by
    funext a
    by_cases h : a = o <;> simp [h]
  rw [this]
def zfill (σ : zSt) (o n : Nat) (v : Int32) : zSt := zrow σ o (fun j => if j < n then v else σ.1 o j)
theorem zfill_0 (σ : zSt) (o : Nat) (v : Int32) : zfill σ o 0 v = σ := by simp [zfill, zrow_self]
theorem zfill_s (σ : zSt) (o n : Nat) (v : Int32) : zput (zfill σ o n v) o n v = zfill σ o (n + 1) v := by
  unfold zput zfill
  rw [zrow_row, zrow_at]
  congr 1
  funext j
  unfold upd
  by_cases h : j = n
  · subst h; simp
  · by_cases h2 : j < n
    · simp [h, h2, Nat.lt_succ_of_lt h2]
    · have : ¬ j < n + 1 := by omega
      simp [h, h2, this]
section zLib
variable {p : Program} {l : Launch} {e : Env} {R : Room} {d0 : Nat} {s : State} {m : MethodId} {args : Array Value} {below : List Frame} {meth : Method} {c : Code} {cc : ByteArray} {nL : Nat} {own : String} {ret : Option FieldType} {tab : List zSh} {D : va_G} {cA : Nat → ClassId} {ad : Nat → Nat} {y : zX} {Z : State → Prop} {pc index : Nat} {ls : List (Nat × Value)} {st rest : List Value} {σ : zSt}
theorem zz_i2c (M : zM p s m args meth c cc nL own ret tab D cA ad y) {x : Int32} (d : decode cc pc = .ok (.i2c, 1)) (k : zG p l e R s m args below meth c nL tab D cA ad Z (pc + 1) (ls) (.int ((x.toUInt32 % 65536).toInt32) :: st) (σ)) : zG p l e R s m args below meth c nL tab D cA ad Z (pc) (ls) (.int x :: st) (σ) := fun H locs la hP hS hl => lv_i2c M.1 M.2.1 d rfl (k H locs la hP hS hl)
theorem zz_nret {ty : FieldType} (M : zM p s m args meth c cc nL own (some ty) tab D cA ad y) {r : Int32} {Q : Int32 → zSt → Prop} (d : decode cc pc = .ok (.ireturn, 1)) (hn : narrow ty (.int r) = .int r) (hq : Q r σ) : zG p l e R s m args below meth c nL tab D cA ad (MQ below (va_Qi Q (fun σ' t => va_P D vwCl (zws tab cA ad σ') t.heap) (zIn tab ad)) args s 0 0 (zIn tab ad)) pc ls [.int r] σ := fun H locs la hP hS hl => W.zret (v := r) M.1 M.2.1 M.2.2.2.2.2.2.1 hn (fun t ht hW => ⟨⟨r, σ, rfl, hq, by show va_P D vwCl (zws tab cA ad σ) t.heap; rw [ht]; exact hP⟩, hS.F ht⟩) hS.2.2 d M.2.2.2.2.2.1
theorem zz_cs (M : zM p s m args meth c cc nL own ret tab D cA ad y) (hw : Cond.fieldLink own index "java/lang/String" "COMPACT_STRINGS" "Z" ∈ zgw) (d : decode cc pc = .ok (.getstatic index, 3)) (k : zG p l e R s m args below meth c nL tab D cA ad Z (pc + 3) (ls) (.int 1 :: st) (σ)) : zG p l e R s m args below meth c nL tab D cA ad Z (pc) (ls) (st) (σ) := fun H locs la hP hS hl => va_gets M.1 M.2.1 M.2.2.2.2.2.2.2.1.2.2.2.2.2.2.1 hS M.2.2.2.1 (M.2.2.2.2.1 _ hw) (fun _ h => h) d (k H locs la hP hS hl)
theorem zz_fm (M : zM p s m args meth c cc nL own ret tab D cA ad y) (hw : Cond.fieldLink own index "jdk/internal/util/Preconditions" "SIOOBE_FORMATTER" "Ljava/util/function/BiFunction;" ∈ zgw) (d : decode cc pc = .ok (.getstatic index, 3)) (k : zG p l e R s m args below meth c nL tab D cA ad Z (pc + 3) (ls) (y.2.2.2 :: st) (σ)) : zG p l e R s m args below meth c nL tab D cA ad Z (pc) (ls) (st) (σ) := fun H locs la hP hS hl => va_gets M.1 M.2.1 M.2.2.2.2.2.2.2.1.2.2.2.2.2.2.2.1 hS M.2.2.2.1 (M.2.2.2.2.1 _ hw) (fun _ h => h) d (k H locs la hP hS hl)
theorem zz_sval (M : zM p s m args meth c cc nL own ret tab D cA ad y) {w : Nat} (hi : w < 13) (hw : Cond.fieldLink own index "java/lang/String" "value" "[B" ∈ zgw) (d : decode cc pc = .ok (.getfield index, 3)) (k : zG p l e R s m args below meth c nL tab D cA ad Z (pc + 3) (ls) (.ref (y.2.1 w) :: st) (σ)) : zG p l e R s m args below meth c nL tab D cA ad Z (pc) (ls) (.ref (y.1 w) :: st) (σ) := fun H locs la hP hS hl => vk_getf M.1 M.2.1 (M.2.2.2.2.2.2.2.1.2.2.2.1.1 w hi).2.2.1 hS M.2.2.2.1 (M.2.2.2.2.1 _ hw) (fun _ h => h) d (k H locs la hP hS hl)
theorem zz_scod (M : zM p s m args meth c cc nL own ret tab D cA ad y) {w : Nat} (hi : w < 13) (hw : Cond.fieldLink own index "java/lang/String" "coder" "B" ∈ zgw) (d : decode cc pc = .ok (.getfield index, 3)) (k : zG p l e R s m args below meth c nL tab D cA ad Z (pc + 3) (ls) (.int 0 :: st) (σ)) : zG p l e R s m args below meth c nL tab D cA ad Z (pc) (ls) (.ref (y.1 w) :: st) (σ) := fun H locs la hP hS hl => vk_getf M.1 M.2.1 (M.2.2.2.2.2.2.2.1.2.2.2.1.1 w hi).2.1 hS M.2.2.2.1 (M.2.2.2.2.1 _ hw) (fun _ h => h) d (k H locs la hP hS hl)
theorem zz_stlen (M : zM p s m args meth c cc nL own ret tab D cA ad y) {w : Nat} (hi : w < 13) (d : decode cc pc = .ok (.arraylength, 1)) (k : zG p l e R s m args below meth c nL tab D cA ad Z (pc + 1) (ls) (.int (Int32.ofNat (zlen.getD w 0)) :: st) (σ)) : zG p l e R s m args below meth c nL tab D cA ad Z (pc) (ls) (.ref (y.2.1 w) :: st) (σ) := fun H locs la hP hS hl => va_tlen M.1 M.2.1 (M.2.2.2.2.2.2.2.1.2.2.2.1.1 w hi).2.2.2 hS rfl d (k H locs la hP hS hl)
theorem zz_stld (M : zM p s m args meth c cc nL own ret tab D cA ad y) {w : Nat} (hi : w < 13) {i : Int32} (hin : vp_in i (zlen.getD w 0)) (d : decode cc pc = .ok (.baload, 1)) (k : zG p l e R s m args below meth c nL tab D cA ad Z (pc + 1) (ls) (.int ((zbyt.getD w []).getD i.toNatClampNeg 0) :: st) (σ)) : zG p l e R s m args below meth c nL tab D cA ad Z (pc) (ls) (.int i :: .ref (y.2.1 w) :: st) (σ) := fun H locs la hP hS hl => va_tb M.1 M.2.1 (M.2.2.2.2.2.2.2.1.2.2.2.1.1 w hi).2.2.2 hS hin rfl d (k H locs la hP hS hl)
theorem zz_callTI {w d' n maxL : Nat} {x : MethodName} {bytes : ByteArray} {ret' : Option FieldType} {As : List Value} {Q' : Int32 → zSt → Prop} (M : zM p s m args meth c cc nL own ret tab D cA ad y) (hi : w < 13) (hcl : x.cls = "java/lang/String") (cb : zCV own index x bytes maxL ret' n) (dg : decode cc pc = .ok (.invokevirtual index, 3)) (hn : As.length = n) (hst : st = As.reverse ++ .ref (y.1 w) :: rest) (hR : d' + 1 ≤ d0) (hW : (rest.map fun v => v.category).sum ≤ 8) (hM : zOkI l tab D cA ad y d' x bytes maxL ret' (.ref (y.1 w) :: As) σ Q')
    (k : ∀ r σ', Q' r σ' → zG p l e (zrm d0) s m args below meth c nL tab D cA ad Z (pc + 3) (ls) (.int r :: rest) (σ')) : zG p l e (zrm d0) s m args below meth c nL tab D cA ad Z (pc) (ls) (st) (σ) := by
  intro H locs la hP hS hl
  subst hst
  refine va_calli (va_runV (As := As) (rest := rest) (C := x.cls) ⟨M.1, M.2.1, M.2.2.1, M.2.2.2.1, M.2.2.2.2.1⟩ hM ⟨zcallB M cb.1 hR, M.2.2.2.2.1 _ cb.2.1, M.2.2.2.2.1 _ cb.2.2⟩ ⟨zPc_blind tab D cA ad y _ σ, by rw [hcl]; exact vk_recv M.2.2.2.2.2.2.2.1.2.2.2.1 hi hS, zpre M hP hS⟩ rfl hn hl.1 rfl (lv_room hW) dg ⟨Nat.zero_le _, Nat.zero_le _⟩) hS (fun q _ h => h) (fun q h => h) (fun r u t H1 locs1 ht hvm hw hB hz1 hk1 hS1 => ?_)
  have hB : va_P D vwCl (zws tab cA ad u) t.heap := hB
  rw [ht] at hB
  exact k r u hw H1 locs1 la hB hS1 hl
theorem lJ_coder : zCV RJ0 335 yJ0_coder_7d493 cJ0_coder_7d493 1 (some .byte) 0 := ⟨⟨(zint (List.mem_of_getElem? (i := 259) (by decide +kernel)) rfl), (zint (List.mem_of_getElem? (i := 262) (by decide +kernel)) rfl), (zint (List.mem_of_getElem? (i := 10) (by decide +kernel)) rfl), ⟨by decide +kernel, by decide +kernel, by decide +kernel⟩, by decide⟩, (zint (List.mem_of_getElem? (i := 260) (by decide +kernel)) rfl), (zint (List.mem_of_getElem? (i := 261) (by decide +kernel)) rfl)⟩
theorem lJ_isL : zCV RJ0 492 yJ0_isLatin1_aae02 cJ0_isLatin1_aae02 1 (some .boolean) 0 := ⟨⟨(zint (List.mem_of_getElem? (i := 269) (by decide +kernel)) rfl), (zint (List.mem_of_getElem? (i := 272) (by decide +kernel)) rfl), (zint (List.mem_of_getElem? (i := 10) (by decide +kernel)) rfl), ⟨by decide +kernel, by decide +kernel, by decide +kernel⟩, by decide⟩, (zint (List.mem_of_getElem? (i := 270) (by decide +kernel)) rfl), (zint (List.mem_of_getElem? (i := 271) (by decide +kernel)) rfl)⟩
theorem lJ_lch : zCS RJ0 495 yJ1_charAt_3b067 cJ1_charAt_3b067 2 (some .char) 2 := ⟨⟨(zint (List.mem_of_getElem? (i := 273) (by decide +kernel)) rfl), (zint (List.mem_of_getElem? (i := 275) (by decide +kernel)) rfl), (zint (List.mem_of_getElem? (i := 11) (by decide +kernel)) rfl), ⟨by decide +kernel, by decide +kernel, by decide +kernel⟩, by decide⟩, (zint (List.mem_of_getElem? (i := 274) (by decide +kernel)) rfl)⟩
theorem lJ_chk : zCS RJ1 9 yJ0_checkIndex_df160 cJ0_checkIndex_df160 2 none 2 := ⟨⟨(zint (List.mem_of_getElem? (i := 276) (by decide +kernel)) rfl), (zint (List.mem_of_getElem? (i := 278) (by decide +kernel)) rfl), (zint (List.mem_of_getElem? (i := 10) (by decide +kernel)) rfl), ⟨by decide +kernel, by decide +kernel, by decide +kernel⟩, by decide⟩, (zint (List.mem_of_getElem? (i := 277) (by decide +kernel)) rfl)⟩
theorem lJ_pre : zCS RJ0 1059 yJ3_checkIndex_8e157 cJ3_checkIndex_8e157 3 (some .int) 3 := ⟨⟨(zint (List.mem_of_getElem? (i := 281) (by decide +kernel)) rfl), (zint (List.mem_of_getElem? (i := 283) (by decide +kernel)) rfl), (zint (List.mem_of_getElem? (i := 12) (by decide +kernel)) rfl), ⟨by decide +kernel, by decide +kernel, by decide +kernel⟩, by decide⟩, (zint (List.mem_of_getElem? (i := 282) (by decide +kernel)) rfl)⟩
theorem lJ_f9 : Cond.fieldLink RJ0 9 "java/lang/String" "value" "[B" ∈ zgw := (zint (List.mem_of_getElem? (i := 1467) (by decide +kernel)) rfl)
theorem lJ_f15 : Cond.fieldLink RJ0 15 "java/lang/String" "coder" "B" ∈ zgw := (zint (List.mem_of_getElem? (i := 1468) (by decide +kernel)) rfl)
theorem lJ_f38 : Cond.fieldLink RJ0 38 "java/lang/String" "COMPACT_STRINGS" "Z" ∈ zgw := (zint (List.mem_of_getElem? (i := 263) (by decide +kernel)) rfl)
theorem lJ_f1053 : Cond.fieldLink RJ0 1053 "jdk/internal/util/Preconditions" "SIOOBE_FORMATTER" "Ljava/util/function/BiFunction;" ∈ zgw := (zint (List.mem_of_getElem? (i := 279) (by decide +kernel)) rfl)
set_option maxRecDepth 20000 in
theorem kJ_coder (hI : zInj tab ad) {w : Nat} (hi : w < 13) (σ : zSt) (Q : Int32 → zSt → Prop) (h : Q 0 σ) : zOkI l tab D cA ad y 1 yJ0_coder_7d493 cJ0_coder_7d493 1 (some .byte) [.ref (y.1 w)] σ Q := by
  refine zz_enter hI (by decide) (Nat.le_of_ble_eq_true rfl) (fun p e s m below meth c M => ?_)
  have M : zM p s m _ meth c cJ0_coder_7d493 1 RJ0 (some .byte) tab D cA ad y := M
  refine zz_ls [(0, .ref (y.1 w))] rfl ?_
  refine zz_cs M lJ_f38 dJ0_coder_7d493_0 ?_
  refine zz_if_eq (y0 := 0) M 13 dJ0_coder_7d493_3 (by decide) (fun c => absurd c (by decide)) (fun c => ?_)
  refine zz_aload_n M 0 dJ0_coder_7d493_6 rfl rfl ?_
  refine zz_scod M hi lJ_f15 dJ0_coder_7d493_7 ?_
  refine zz_goto M 14 dJ0_coder_7d493_10 (by decide) ?_
  exact zz_nret M dJ0_coder_7d493_14 rfl h
set_option maxRecDepth 20000 in
theorem kJ_isL (hI : zInj tab ad) {w : Nat} (hi : w < 13) (σ : zSt) (Q : Int32 → zSt → Prop) (h : Q 1 σ) : zOkI l tab D cA ad y 1 yJ0_isLatin1_aae02 cJ0_isLatin1_aae02 1 (some .boolean) [.ref (y.1 w)] σ Q := by
  refine zz_enter hI (by decide) (Nat.le_of_ble_eq_true rfl) (fun p e s m below meth c M => ?_)
  have M : zM p s m _ meth c cJ0_isLatin1_aae02 1 RJ0 (some .boolean) tab D cA ad y := M
  refine zz_ls [(0, .ref (y.1 w))] rfl ?_
  refine zz_cs M lJ_f38 dJ0_isLatin1_aae02_0 ?_
  refine zz_if_eq (y0 := 0) M 17 dJ0_isLatin1_aae02_3 (by decide) (fun c => absurd c (by decide)) (fun c => ?_)
  refine zz_aload_n M 0 dJ0_isLatin1_aae02_6 rfl rfl ?_
  refine zz_scod M hi lJ_f15 dJ0_isLatin1_aae02_7 ?_
  refine zz_if_ne (y0 := 0) M 17 dJ0_isLatin1_aae02_10 (by decide) (fun c => absurd rfl c) (fun c => ?_)
  refine zz_iconst (v := 1) M dJ0_isLatin1_aae02_13 (by decide) ?_
  refine zz_goto M 18 dJ0_isLatin1_aae02_14 (by decide) ?_
  exact zz_zret M dJ0_isLatin1_aae02_18 (Or.inr rfl) h
set_option maxRecDepth 20000 in
theorem kJ_length (hI : zInj tab ad) {w : Nat} (hi : w < 13) (σ : zSt) (Q : Int32 → zSt → Prop) (h : Q (Int32.ofNat (zlen.getD w 0)) σ) : zOkI l tab D cA ad y 2 yJ0_length_8abf5 cJ0_length_8abf5 1 (some .int) [.ref (y.1 w)] σ Q := by
  refine zz_enter hI (by decide) (Nat.le_of_ble_eq_true rfl) (fun p e s m below meth c M => ?_)
  have M : zM p s m _ meth c cJ0_length_8abf5 1 RJ0 (some .int) tab D cA ad y := M
  refine zz_ls [(0, .ref (y.1 w))] rfl ?_
  refine zz_aload_n M 0 dJ0_length_8abf5_0 rfl rfl ?_
  refine zz_sval M hi lJ_f9 dJ0_length_8abf5_1 ?_
  refine zz_stlen M hi dJ0_length_8abf5_4 ?_
  refine zz_aload_n M 0 dJ0_length_8abf5_5 rfl rfl ?_
  refine zz_callTI (d' := 1) (As := []) (rest := [.int (Int32.ofNat (zlen.getD w 0))]) (Q' := fun r s1 => r = 0 ∧ s1 = σ) M hi rfl lJ_coder dJ0_length_8abf5_6 rfl rfl (by decide) (Nat.le_of_ble_eq_true rfl) (kJ_coder hI hi σ _ ⟨rfl, rfl⟩) (fun r s1 hr => ?_)
  obtain ⟨rfl, rfl⟩ := hr
  refine zz_ishr M dJ0_length_8abf5_9 ?_
  rw [sb_shr0]
  exact zz_iret M dJ0_length_8abf5_10 h
set_option maxRecDepth 20000 in
theorem kJ_pre (hI : zInj tab ad) {i n : Int32} {v : Value} (hv : v.category = 1) (h1 : ¬ i < 0) (h2 : i < n) (σ : zSt) (Q : Int32 → zSt → Prop) (h : Q i σ) : zOkI l tab D cA ad y 1 yJ3_checkIndex_8e157 cJ3_checkIndex_8e157 3 (some .int) [.int i, .int n, v] σ Q := by
  refine zz_enter hI (by decide) (by show (([.val (.int i)] ++ ([.val (.int n)] ++ ((if v.category = 2 then [.val v, .second] else [.val v]) ++ []))) : List Slot).length ≤ 3; rw [if_neg (by rw [hv]; decide)]; simp) (fun p e s m below meth c M => ?_)
  have M : zM p s m _ meth c cJ3_checkIndex_8e157 3 RJ3 (some .int) tab D cA ad y := M
  refine zz_ls [(0, .int i), (1, .int n), (2, v)] rfl ?_
  refine zz_iload_n M 0 dJ3_checkIndex_8e157_0 rfl rfl ?_
  refine zz_if_lt (y0 := 0) M 9 dJ3_checkIndex_8e157_1 (by decide) (fun c => absurd c h1) (fun c => ?_)
  refine zz_iload_n M 0 dJ3_checkIndex_8e157_4 rfl rfl ?_
  refine zz_iload_n M 1 dJ3_checkIndex_8e157_5 rfl rfl ?_
  refine zz_icmp_lt M 16 dJ3_checkIndex_8e157_6 (by decide) (fun c => ?_) (fun c => absurd h2 c)
  refine zz_iload_n M 0 dJ3_checkIndex_8e157_16 rfl rfl ?_
  exact zz_iret M dJ3_checkIndex_8e157_17 h
set_option maxRecDepth 20000 in
theorem kJ_chk (hI : zInj tab ad) {i n : Int32} (h1 : ¬ i < 0) (h2 : i < n) (σ : zSt) (Q : zSt → Prop) (h : Q σ) : zOkV l tab D cA ad y 2 yJ0_checkIndex_df160 cJ0_checkIndex_df160 2 none [.int i, .int n] σ Q := by
  refine zz_enter hI (by decide) (Nat.le_of_ble_eq_true rfl) (fun p e s m below meth c M => ?_)
  have M : zM p s m _ meth c cJ0_checkIndex_df160 2 RJ0 none tab D cA ad y := M
  refine zz_ls [(0, .int i), (1, .int n)] rfl ?_
  refine zz_iload_n M 0 dJ0_checkIndex_df160_0 rfl rfl ?_
  refine zz_iload_n M 1 dJ0_checkIndex_df160_1 rfl rfl ?_
  refine zz_fm M lJ_f1053 dJ0_checkIndex_df160_2 ?_
  refine zz_callSI (d' := 1) (As := [.int i, .int n, y.2.2.2]) (rest := []) (Q' := fun r s1 => s1 = σ) M lJ_pre dJ0_checkIndex_df160_5 rfl rfl (by decide) (Nat.le_of_ble_eq_true rfl) (kJ_pre hI M.2.2.2.2.2.2.2.1.2.2.2.2.2.2.2.2 h1 h2 σ _ rfl) (fun r s1 hr => ?_)
  subst hr
  refine zz_pop M dJ0_checkIndex_df160_8 rfl ?_
  exact zz_vret M dJ0_checkIndex_df160_9 h
theorem zgetD {α : Type} (l : List α) (i : Nat) (d : α) : l.getD i d ∈ l ∨ l.getD i d = d := by
  by_cases h : i < l.length
  · left
    rw [List.getD_eq_getElem?_getD, List.getElem?_eq_getElem h]
    exact List.getElem_mem h
  · right
    rw [List.getD_eq_getElem?_getD, List.getElem?_eq_none (Nat.not_lt.mp h)]
    rfl
theorem zby (w i : Nat) : ((((zbyt.getD w []).getD i 0) &&& 255).toUInt32 % 65536).toInt32 = (zbyt.getD w []).getD i 0 := by
  have h0 : ∀ l ∈ zbyt, ∀ b ∈ l, ((b &&& 255).toUInt32 % 65536).toInt32 = b := by decide +kernel
  have h1 : (((0 : Int32) &&& 255).toUInt32 % 65536).toInt32 = 0 := by decide
  rcases zgetD (zbyt.getD w []) i 0 with hm2 | hm2
  · rcases zgetD zbyt w [] with hm | hm
    · exact h0 _ hm _ hm2
    · rw [hm] at hm2
      exact absurd hm2 List.not_mem_nil
  · rw [hm2]
    exact h1
theorem zlen31 (w : Nat) : zlen.getD w 0 < 2 ^ 31 := by
  have h0 : ∀ n ∈ zlen, n < 2 ^ 31 := by decide +kernel
  by_cases hw : w < zlen.length
  · rw [List.getD_eq_getElem?_getD, List.getElem?_eq_getElem hw]; exact h0 _ (List.getElem_mem hw)
  · rw [List.getD_eq_getElem?_getD, List.getElem?_eq_none (Nat.not_lt.mp hw)]; decide
theorem zlt_of_in {i : Int32} {n : Nat} (hn : n < 2 ^ 31) (h : vp_in i n) : ¬ i < 0 ∧ i < Int32.ofNat n := by
  refine ⟨fun q => h (Or.inl q), ?_⟩
  obtain ⟨j, hj, rfl⟩ := vp_in_of h hn
  exact nI_lt hj hn
set_option maxRecDepth 20000 in
theorem kJ_lch (hI : zInj tab ad) {w : Nat} (hi : w < 13) {i : Int32} (hin : vp_in i (zlen.getD w 0)) (σ : zSt) (Q : Int32 → zSt → Prop) (h : Q ((zbyt.getD w []).getD i.toNatClampNeg 0) σ) : zOkI l tab D cA ad y 3 yJ1_charAt_3b067 cJ1_charAt_3b067 2 (some .char) [.ref (y.2.1 w), .int i] σ Q := by
  refine zz_enter hI (by decide) (Nat.le_of_ble_eq_true rfl) (fun p e s m below meth c M => ?_)
  have M : zM p s m _ meth c cJ1_charAt_3b067 2 RJ1 (some .char) tab D cA ad y := M
  refine zz_ls [(0, .ref (y.2.1 w)), (1, .int i)] rfl ?_
  obtain ⟨h1, h2⟩ := zlt_of_in (zlen31 w) hin
  refine zz_iload_n M 1 dJ1_charAt_3b067_0 rfl rfl ?_
  refine zz_aload_n M 0 dJ1_charAt_3b067_1 rfl rfl ?_
  refine zz_stlen M hi dJ1_charAt_3b067_2 ?_
  refine zz_callSV (d' := 2) (As := [.int i, .int (Int32.ofNat (zlen.getD w 0))]) (rest := []) (Q' := fun s1 => s1 = σ) M lJ_chk dJ1_charAt_3b067_3 rfl rfl (by decide) (Nat.le_of_ble_eq_true rfl) (kJ_chk hI h1 h2 σ _ rfl) (fun s1 hr => ?_)
  subst hr
  refine zz_aload_n M 0 dJ1_charAt_3b067_6 rfl rfl ?_
  refine zz_iload_n M 1 dJ1_charAt_3b067_7 rfl rfl ?_
  refine zz_stld M hi hin dJ1_charAt_3b067_8 ?_
  refine zz_sipush (v := 255) M dJ1_charAt_3b067_9 (by decide) ?_
  refine zz_iand M dJ1_charAt_3b067_12 ?_
  refine zz_i2c M dJ1_charAt_3b067_13 ?_
  have e1 := zby w i.toNatClampNeg
  refine zz_nret M dJ1_charAt_3b067_14 (pk_nc _) ?_
  rw [e1]
  exact h
set_option maxRecDepth 20000 in
theorem kJ_charAt (hI : zInj tab ad) {w : Nat} (hi : w < 13) {i : Int32} (hin : vp_in i (zlen.getD w 0)) (σ : zSt) (Q : Int32 → zSt → Prop) (h : Q ((zbyt.getD w []).getD i.toNatClampNeg 0) σ) : zOkI l tab D cA ad y 4 yJ0_charAt_5068e cJ0_charAt_5068e 2 (some .char) [.ref (y.1 w), .int i] σ Q := by
  refine zz_enter hI (by decide) (Nat.le_of_ble_eq_true rfl) (fun p e s m below meth c M => ?_)
  have M : zM p s m _ meth c cJ0_charAt_5068e 2 RJ0 (some .char) tab D cA ad y := M
  refine zz_ls [(0, .ref (y.1 w)), (1, .int i)] rfl ?_
  refine zz_aload_n M 0 dJ0_charAt_5068e_0 rfl rfl ?_
  refine zz_callTI (d' := 1) (As := []) (rest := []) (Q' := fun r s1 => r = 1 ∧ s1 = σ) M hi rfl lJ_isL dJ0_charAt_5068e_1 rfl rfl (by decide) (Nat.le_of_ble_eq_true rfl) (kJ_isL hI hi σ _ ⟨rfl, rfl⟩) (fun r s1 hr => ?_)
  obtain ⟨rfl, rfl⟩ := hr
  refine zz_if_eq (y0 := 0) M 16 dJ0_charAt_5068e_4 (by decide) (fun c => absurd c (by decide)) (fun c => ?_)
  refine zz_aload_n M 0 dJ0_charAt_5068e_7 rfl rfl ?_
  refine zz_sval M hi lJ_f9 dJ0_charAt_5068e_8 ?_
  refine zz_iload_n M 1 dJ0_charAt_5068e_11 rfl rfl ?_
  refine zz_callSI (d' := 3) (As := [.ref (y.2.1 w), .int i]) (rest := []) (Q' := fun r s2 => r = (zbyt.getD w []).getD i.toNatClampNeg 0 ∧ s2 = s1) M lJ_lch dJ0_charAt_5068e_12 rfl rfl (by decide) (Nat.le_of_ble_eq_true rfl) (kJ_lch hI hi hin s1 _ ⟨rfl, rfl⟩) (fun r s2 hr => ?_)
  have e1 := zby w i.toNatClampNeg
  rw [← e1] at hr h
  obtain ⟨rfl, rfl⟩ := hr
  exact zz_nret M dJ0_charAt_5068e_15 (pk_nc _) h
theorem zwlen : Cond.code yJ0_length_8abf5 cJ0_length_8abf5 1 (some .int) ∈ zgw ∧ Cond.initialized yJ0_length_8abf5.cls ∈ zgw ∧ Cond.instanceMethod yJ0_length_8abf5 ∈ zgw ∧ Cond.selects yJ0_length_8abf5.cls yJ0_length_8abf5 yJ0_length_8abf5 ∈ zgw := ⟨(zint (List.mem_of_getElem? (i := 258) (by decide +kernel)) rfl), (zint (List.mem_of_getElem? (i := 10) (by decide +kernel)) rfl), (zint (List.mem_of_getElem? (i := 256) (by decide +kernel)) rfl), (zint (List.mem_of_getElem? (i := 257) (by decide +kernel)) rfl)⟩
theorem zwchr : Cond.code yJ0_charAt_5068e cJ0_charAt_5068e 2 (some .char) ∈ zgw ∧ Cond.initialized yJ0_charAt_5068e.cls ∈ zgw ∧ Cond.instanceMethod yJ0_charAt_5068e ∈ zgw ∧ Cond.selects yJ0_charAt_5068e.cls yJ0_charAt_5068e yJ0_charAt_5068e ∈ zgw := ⟨(zint (List.mem_of_getElem? (i := 268) (by decide +kernel)) rfl), (zint (List.mem_of_getElem? (i := 10) (by decide +kernel)) rfl), (zint (List.mem_of_getElem? (i := 266) (by decide +kernel)) rfl), (zint (List.mem_of_getElem? (i := 267) (by decide +kernel)) rfl)⟩
theorem zwfil : Cond.code yJ7_fill_53178 cJ7_fill_53178 4 none ∈ zgw ∧ Cond.initialized yJ7_fill_53178.cls ∈ zgw ∧ Cond.static yJ7_fill_53178 ∈ zgw := ⟨(zint (List.mem_of_getElem? (i := 136) (by decide +kernel)) rfl), (zint (List.mem_of_getElem? (i := 5) (by decide +kernel)) rfl), (zint (List.mem_of_getElem? (i := 135) (by decide +kernel)) rfl)⟩
theorem zz_slen {w : Nat} (M : zM p s m args meth c cc nL own ret tab D cA ad y) (hi : w < 13) (hw : Cond.methodLink own index yJ0_length_8abf5 ∈ zgw) (hst : st = .ref (y.1 w) :: rest) (dg : decode cc pc = .ok (.invokevirtual index, 3)) (hd : 3 ≤ d0) (hW : (rest.map fun v => v.category).sum ≤ 8) (k : zG p l e (zrm d0) s m args below meth c nL tab D cA ad Z (pc + 3) (ls) (.int (Int32.ofNat (zlen.getD w 0)) :: rest) (σ)) : zG p l e (zrm d0) s m args below meth c nL tab D cA ad Z (pc) (ls) (st) (σ) := zz_callTI (d' := 2) (As := []) (rest := rest) (Q' := fun r s1 => r = Int32.ofNat (zlen.getD w 0) ∧ s1 = σ) M hi rfl ⟨⟨hw, zwlen.1, zwlen.2.1, ⟨by decide +kernel, by decide +kernel, by decide +kernel⟩, by decide⟩, zwlen.2.2.1, zwlen.2.2.2⟩ dg rfl hst hd hW (kJ_length M.2.2.2.2.2.2.2.2 hi σ _ ⟨rfl, rfl⟩) (fun r s1 hr => by obtain ⟨rfl, rfl⟩ := hr; exact k)
theorem zz_schar {w : Nat} {i : Int32} (M : zM p s m args meth c cc nL own ret tab D cA ad y) (hi : w < 13) (hw : Cond.methodLink own index yJ0_charAt_5068e ∈ zgw) (hst : st = .int i :: .ref (y.1 w) :: rest) (dg : decode cc pc = .ok (.invokevirtual index, 3)) (hin : vp_in i (zlen.getD w 0)) (hd : 5 ≤ d0) (hW : (rest.map fun v => v.category).sum ≤ 8) (k : zG p l e (zrm d0) s m args below meth c nL tab D cA ad Z (pc + 3) (ls) (.int ((zbyt.getD w []).getD i.toNatClampNeg 0) :: rest) (σ)) : zG p l e (zrm d0) s m args below meth c nL tab D cA ad Z (pc) (ls) (st) (σ) := zz_callTI (n := 1) (d' := 4) (As := [.int i]) (rest := rest) (Q' := fun r s1 => r = (zbyt.getD w []).getD i.toNatClampNeg 0 ∧ s1 = σ) M hi rfl ⟨⟨hw, zwchr.1, zwchr.2.1, ⟨by decide +kernel, by decide +kernel, by decide +kernel⟩, by decide⟩, zwchr.2.2.1, zwchr.2.2.2⟩ dg rfl hst hd hW (kJ_charAt M.2.2.2.2.2.2.2.2 hi hin σ _ ⟨rfl, rfl⟩) (fun r s1 hr => by obtain ⟨rfl, rfl⟩ := hr; exact k)
set_option maxRecDepth 20000 in
theorem sJ_fill {o n : Nat} (hn : n ≤ 100000) (ht : tab[o]? = some (.inl (n, 0))) {Q : zSt → Prop} (v : Int32) (h : Q (zfill σ o n v)) (M : zM p s m args meth c cJ7_fill_53178 4 RJ7 none tab D cA ad y) : ∀ (k i : Nat), i ≤ n → n < i + k → zG p l e R s m args below meth c 4 tab D cA ad (MQ below (va_Qv Q (fun σ' t => va_P D vwCl (zws tab cA ad σ') t.heap) (zIn tab ad)) args s 0 0 (zIn tab ad)) 5 [(0, .ref (ad o)), (1, .int v), (2, .int (nI i)), (3, .int (nI n))] [] (zfill σ o i v) := by
  intro k
  induction k with
  | zero => intro i h1 h2; omega
  | succ k ih =>
    intro i h1 h2
    refine zz_iload_n M 2 dJ7_fill_53178_5 rfl rfl ?_
    refine zz_iload_n M 3 dJ7_fill_53178_6 rfl rfl ?_
    refine zz_icmp_ge M 20 dJ7_fill_53178_7 (by decide) (fun c => ?_) (fun c => ?_)
    · have hi : i = n := by
        rcases Nat.lt_or_ge i n with q | q
        · exact absurd c (nI_ge q (by omega))
        · omega
      subst hi
      exact zz_vret M dJ7_fill_53178_20 h
    · have hi : i < n := by
        rcases Nat.lt_or_ge i n with q | q
        · exact q
        · exact absurd (nI_le q (by omega)) c
      refine zz_aload_n M 0 dJ7_fill_53178_10 rfl rfl ?_
      refine zz_iload_n M 2 dJ7_fill_53178_11 rfl rfl ?_
      refine zz_iload_n M 1 dJ7_fill_53178_12 rfl rfl ?_
      refine zz_iastK (kk := i) M ht (vp_in_nI hi (by omega)) (nI_clamp (by omega)) dJ7_fill_53178_13 ?_
      rw [zfill_s]
      refine zz_iinc M [(2, .int (nI (i + 1))), (0, .ref (ad o)), (1, .int v), (3, .int (nI n))] 2 dJ7_fill_53178_14 rfl (n32 := 1) (by decide) (nI_1 i).symm (by decide) rfl ?_
      refine zz_goto M 5 dJ7_fill_53178_17 (by decide) ?_
      refine zz_sub [(0, .ref (ad o)), (1, .int v), (2, .int (nI (i + 1))), (3, .int (nI n))] [1, 2, 0, 3] rfl ?_
      exact ih (i + 1) (by omega) (by omega)
set_option maxRecDepth 20000 in
theorem kJ_fill (hI : zInj tab ad) {o n : Nat} (hn : n ≤ 100000) (ht : tab[o]? = some (.inl (n, 0))) (v : Int32) (σ : zSt) (Q : zSt → Prop) (h : Q (zfill σ o n v)) : zOkV l tab D cA ad y 1 yJ7_fill_53178 cJ7_fill_53178 4 none [.ref (ad o), .int v] σ Q := by
  refine zz_enter hI (by decide) (Nat.le_of_ble_eq_true rfl) (fun p e s m below meth c M => ?_)
  have M : zM p s m _ meth c cJ7_fill_53178 4 RJ7 none tab D cA ad y := M
  refine zz_ls [(0, .ref (ad o)), (1, .int v)] rfl ?_
  refine zz_iconst (v := 0) M dJ7_fill_53178_0 (by decide) ?_
  refine zz_istore_n M [(2, .int 0), (0, .ref (ad o)), (1, .int v)] dJ7_fill_53178_1 rfl (by decide) rfl ?_
  refine zz_aload_n M 1 dJ7_fill_53178_2 rfl rfl ?_
  refine zz_alen (v := nI n) M ht (by decide) rfl dJ7_fill_53178_3 ?_
  refine zz_istore_n M [(3, .int (nI n)), (2, .int 0), (0, .ref (ad o)), (1, .int v)] dJ7_fill_53178_4 rfl (by decide) rfl ?_
  refine zz_sub [(0, .ref (ad o)), (1, .int v), (2, .int 0), (3, .int (nI n))] [2, 3, 1, 0] rfl ?_
  have h0 := sJ_fill (σ := σ) (p := p) (l := l) (e := e) (R := zrm 1) (below := below) hn ht v h M (n + 1) 0 (Nat.zero_le n) (by omega)
  rw [zfill_0] at h0
  exact h0
theorem zz_fill {o n : Nat} {v : Int32} (M : zM p s m args meth c cc nL own ret tab D cA ad y) (hw : Cond.methodLink own index yJ7_fill_53178 ∈ zgw) (ht : tab[o]? = some (.inl (n, 0))) (hn : n ≤ 100000) (dg : decode cc pc = .ok (.invokestatic index, 3)) (hst : st = .int v :: .ref (ad o) :: rest) (hd : 2 ≤ d0) (hW : (rest.map fun v => v.category).sum ≤ 8) (k : zG p l e (zrm d0) s m args below meth c nL tab D cA ad Z (pc + 3) (ls) (rest) (zfill σ o n v)) : zG p l e (zrm d0) s m args below meth c nL tab D cA ad Z (pc) (ls) (st) (σ) := zz_callSV (n := 2) (d' := 1) (As := [.ref (ad o), .int v]) (rest := rest) (Q' := fun s1 => s1 = zfill σ o n v) M ⟨⟨hw, zwfil.1, zwfil.2.1, ⟨by decide +kernel, by decide +kernel, by decide +kernel⟩, by decide⟩, zwfil.2.2⟩ dg rfl hst hd hW (kJ_fill M.2.2.2.2.2.2.2.2 hn ht v σ _ rfl) (fun s1 hr => by subst hr; exact k)
end zLib
theorem ztabm14_m9 {x : Int32} (cm14 : ¬ x = (-14)) (cm13 : ¬ x = (-13)) (cm12 : ¬ x = (-12)) (cm11 : ¬ x = (-11)) (cm10 : ¬ x = (-10)) (cm9 : ¬ x = (-9)) : x.toInt < -14 ∨ -9 < x.toInt := by
  have hne : ∀ v : Int32, ¬ x = v → x.toInt ≠ v.toInt := fun v h e => h (Int32.toInt_inj.mp e)
  have em14 : x.toInt ≠ -14 := by simpa using hne (-14) cm14
  have em13 : x.toInt ≠ -13 := by simpa using hne (-13) cm13
  have em12 : x.toInt ≠ -12 := by simpa using hne (-12) cm12
  have em11 : x.toInt ≠ -11 := by simpa using hne (-11) cm11
  have em10 : x.toInt ≠ -10 := by simpa using hne (-10) cm10
  have em9 : x.toInt ≠ -9 := by simpa using hne (-9) cm9
  omega
