def zMB2 (p : Program) (s : State) (m : MethodId) (args : Array Value) (c : Code) (cc : ByteArray) (nL : Nat) (own : String) (D : va_G) (cA : Nat → ClassId) (A : Nat → Prop) (y : zX) : Prop :=
  p.tables.exec = Jvm.exec ∧ c.code = cc ∧ c.maxLocals = nL ∧ s.vm.findClass own = some m.cls ∧ (∀ w ∈ zgw, w.before args s = true) ∧ True ∧ True ∧ zKK D cA A y s s.heap ∧ (∀ q, s.heap.size ≤ q → A q) ∧ True ∧ zNE s
section zStart
variable {p : Program} {l : Launch} {e : Env} {R : Room} {s : State} {m : MethodId} {args : Array Value} {below : List Frame} {meth : Method} {c : Code} {cc : ByteArray} {nL : Nat} {own : String} {D : va_G} {cA : Nat → ClassId} {A : Nat → Prop} {y : zX} {Z : State → Prop} {k n k' n' pc index : Nat} {ls : List (Nat × Value)} {st rest : List Value} {ws : va_W}
theorem yc_dup (M : zMB2 p s m args c cc nL own D cA A y) {va : Value} (d : decode cc pc = .ok (.dup, 1)) (hv : va.category = 1) (K : zB p l e R s m args below meth c nL D A Z k n (pc + 1) ls (va :: va :: st) ws) : zB p l e R s m args below meth c nL D A Z k n pc ls (va :: st) ws := fun H locs la hP hD hS hl => lv_dup M.1 M.2.1 d hv (K H locs la hP hD hS hl)
theorem yc_new (M : zMB2 p s m args c cc nL own D cA A y) {C : String} {T : u_T} {N ci : Nat} (hin : ∀ w ∈ u_ws C T N, w ∈ zgw) (ty : Nat → FieldType) (hty : ∀ k, k < N → parseFieldDescriptor (T k).2.2.1 = some (ty k)) (hcl : Cond.classLink own index C ∈ zgw) (hinst : Cond.instantiable C N ∈ zgw) (hini : Cond.initialized C ∈ zgw) (hc : vwCl[ci]? = some (C, T, N)) (fs : List Value) (hfs : ∀ j, j < N → defaultValue (ty j) = vp_V fs j) (hk : k + 1 = k') (hn' : n + N = n') (hcc : k' ≤ R.cells) (hs : n' ≤ R.slots) (d : decode cc pc = .ok (.new index, 3)) (K : ∀ q, zB p l e R s m args below meth c nL D A Z k' n' (pc + 3) ls (.ref q :: st) (ws ++ [(q, .inr (ci, fs))])) : zB p l e R s m args below meth c nL D A Z k n pc ls st ws := by
  intro H locs la hP hD hS hl
  subst hk
  subst hn'
  exact va_new M.1 M.2.1 M.2.2.2.2.1 hin ty hty M.2.2.2.1 (M.2.2.2.2.1 _ hcl) (M.2.2.2.2.1 _ hinst) (M.2.2.2.2.1 _ hini) M.2.2.2.2.2.2.2.1.1 hP hD hS M.2.2.2.2.2.2.2.2.1 hc hfs hcc hs d (fun q H1 hP1 hD1 hS1 => K q H1 locs la hP1 hD1 hS1 hl)
theorem yc_init {x : MethodName} {bytes : ByteArray} {maxL d' kc ks na : Nat} {q : Nat} {o0 : va_E} {As : List Value} {Post : va_W → Prop} (M : zMB2 p s m args c cc nL own D cA A y) (hM : zMk l D cA y d' kc ks x bytes maxL q o0 As Post) (cb : zCB own index x bytes maxL none na ∧ x.name = "<init>" ∧ Cond.instanceMethod x ∈ zgw) (hna : As.length = na) (hR : d' ≤ 1000) (hk : k + kc = k') (hn' : n + ks = n') (hcc : k' ≤ 600000) (hs : n' ≤ 7302249) (hst : st = As.reverse ++ .ref q :: rest) (hW : (rest.map fun v => v.category).sum ≤ 8) (d : decode cc pc = .ok (.invokespecial index, 3)) (K : ∀ w1, Post w1 → zB p l e room_1 s m args below meth c nL D A Z k' n' (pc + 3) ls rest (ws ++ w1)) : zB p l e room_1 s m args below meth c nL D A Z k n pc ls st (ws ++ [(q, o0)]) := by
  intro H locs la hP hD hS hl
  subst hst
  subst hk
  subst hn'
  obtain ⟨⟨h1, h2, h3, h4, h5⟩, hx, hi⟩ := cb
  have hq : (ws ++ [(q, o0)])[ws.length]? = some (q, o0) := by simp
  have hF : ∀ a, va_A [(q, o0)] H.size a → A a := by
    intro a h
    rcases h with ⟨k2, e2, h⟩ | h
    · have hz : k2 = 0 := by
        have := (List.getElem?_eq_some_iff.mp h).1
        simpa using this
      subst hz
      have he : (q, o0) = (a, e2) := by simpa using h
      cases he
      exact hD.2 _ _ hq
    · exact M.2.2.2.2.2.2.2.2.1 a (Nat.le_trans hS.1 h)
  have hP0 : va_P D vwCl [(q, o0)] H := fun k2 x2 h => by
    have hz : k2 = 0 := by
      have := (List.getElem?_eq_some_iff.mp h).1
      simpa using this
    subst hz
    cases h
    exact hP _ _ hq
  refine va_callv (va_runI (As := As) (rest := rest) ⟨M.1, M.2.1, M.2.2.1, M.2.2.2.1, M.2.2.2.2.1⟩ (hM H.size) ⟨callB_of na M.2.2.2.2.1 (zgood h2) rfl rfl rfl (M.2.2.2.2.1 _ h3) (M.2.2.2.2.1 _ h1) h4 ⟨by show d' + 1 ≤ 2048; omega, by show 8 + (maxL + 11) + 60 * d' ≤ 84000; omega⟩, hx, M.2.2.2.2.1 _ hi⟩ ⟨fun a U g mk z => ⟨z.1, z.2.1, z.2.2.1, zKK.same (u := U) (U := U.calling g mk a) (H := U.heap) rfl z.2.2.2.1, zNE.same (u := U) (U := U.calling g mk a) rfl z.2.2.2.2⟩, fun U hU hW => ⟨rfl, by rw [hU], by rw [hU]; exact hP0, by rw [hU]; exact (zKK.warm hW (M.2.2.2.2.2.2.2.1.kept hS.2.1)).narrow hF, M.2.2.2.2.2.2.2.2.2.2.warm hW⟩⟩ rfl hna hl.1 rfl (lv_room hW) d ⟨hcc, hs⟩) hS (fun a _ h => hF a h) hF (fun w1 t H1 locs1 ht hvm hw hB hz1 hk1 hS1 => ?_)
  have hB : va_P D vwCl w1 t.heap ∧ va_D (va_A [(q, o0)] H.size) w1 := hB
  rw [ht] at hB
  obtain ⟨hP2, hD2⟩ := yb_join hP hD hk1 hF hB.1 hB.2
  exact K w1 hw H1 locs1 la hP2 hD2 hS1 hl
theorem yc_astore (M : zMB2 p s m args c cc nL own D cA A y) {k4 : Fin 4} {i x : Nat} (ls' : List (Nat × Value)) (d : decode cc pc = .ok (.astore_n k4, 1)) (hi : (k4 : Nat) = i) (hn : i < nL) (hls : (i, Value.ref x) :: ls.filter (fun q => !(q.1 == i) && !(q.1 + 1 == i && q.2.category == 2)) = ls') (K : zB p l e R s m args below meth c nL D A Z k n (pc + 1) ls' st ws) : zB p l e R s m args below meth c nL D A Z k n pc ls (.ref x :: st) ws := fun H locs la hP hD hS hl => lv_astore_n (lv' := ls') M.1 M.2.1 d hi hl hn hls (fun la' hl' => K H locs la' hP hD hS hl')
end zStart
theorem wd_in7 : Cond.instantiable RX7 13 ∈ zgw := (zint (List.mem_of_getElem? (i := 18) (by decide +kernel)) rfl)
theorem wd_in8 : Cond.instantiable RX8 50 ∈ zgw := (zint (List.mem_of_getElem? (i := 846) (by decide +kernel)) rfl)
theorem wd_iz7 : Cond.initialized RX7 ∈ zgw := (zint (List.mem_of_getElem? (i := 1) (by decide +kernel)) rfl)
theorem wd_iz8 : Cond.initialized RX8 ∈ zgw := (zint (List.mem_of_getElem? (i := 15) (by decide +kernel)) rfl)
theorem wd_cl7 : Cond.classLink R_law 7 RX7 ∈ zgw := (zint (List.mem_of_getElem? (i := 17) (by decide +kernel)) rfl)
theorem wd_cl8 : Cond.classLink R_law 10 RX8 ∈ zgw := (zint (List.mem_of_getElem? (i := 845) (by decide +kernel)) rfl)
theorem wd_cb7 : zCB R_law 9 yX7_init cX7_init 2 none 0 ∧ yX7_init.name = "<init>" ∧ Cond.instanceMethod yX7_init ∈ zgw := ⟨⟨(zint (List.mem_of_getElem? (i := 19) (by decide +kernel)) rfl), (zint (List.mem_of_getElem? (i := 21) (by decide +kernel)) rfl), wd_iz7, ⟨by decide +kernel, by decide +kernel, by decide +kernel⟩, by decide⟩, rfl, (zint (List.mem_of_getElem? (i := 20) (by decide +kernel)) rfl)⟩
theorem wd_cb8 : zCB R_law 12 yX8_init cX8_init 1 none 0 ∧ yX8_init.name = "<init>" ∧ Cond.instanceMethod yX8_init ∈ zgw := ⟨⟨(zint (List.mem_of_getElem? (i := 847) (by decide +kernel)) rfl), (zint (List.mem_of_getElem? (i := 849) (by decide +kernel)) rfl), wd_iz8, ⟨by decide +kernel, by decide +kernel, by decide +kernel⟩, by decide⟩, rfl, (zint (List.mem_of_getElem? (i := 848) (by decide +kernel)) rfl)⟩
def ztm (i : Nat) : Term := Term.string (zstr.getD i ("", 0, "")).1 (zstr.getD i ("", 0, "")).2.1
abbrev zfl : List Cond := flatC (Jvm.Cond.and given_1 narrow_1)
theorem zf_ex : ∀ i, i < 13 → Cond.exactly (ztm i) "java/lang/String" ∈ zfl := by decide +kernel
theorem zf_co : ∀ i, i < 13 → Cond.eq (.field (ztm i) "java/lang/String" "coder" "B") (.int 0) ∈ zfl := by decide +kernel
theorem zf_ar : ∀ i, i < 13 → Cond.arrayOf (.field (ztm i) "java/lang/String" "value" "[B") .byte ∈ zfl := by decide +kernel
theorem zf_le : ∀ i, i < 13 → Cond.eq (.length (.field (ztm i) "java/lang/String" "value" "[B")) (.int (Int32.ofNat (zlen.getD i 0))) ∈ zfl := by decide +kernel
def zepos (i : Nat) : Nat := ([40, 98, 109, 120, 133, 147, 159, 173, 188, 204, 223, 239, 257] : List Nat).getD i 0
theorem zf_el0 : ∀ i, i < 13 → ∀ j, j < zlen.getD i 0 → zfl[zepos i + j]? = some (Cond.eq (.elem (.field (ztm i) "java/lang/String" "value" "[B") (.int (Int32.ofNat j))) (.int ((zbyt.getD i []).getD j 0))) := by decide +kernel
theorem zf_el (i : Nat) (hi : i < 13) (j : Nat) (hj : j < zlen.getD i 0) : Cond.eq (.elem (.field (ztm i) "java/lang/String" "value" "[B") (.int (Int32.ofNat j))) (.int ((zbyt.getD i []).getD j 0)) ∈ zfl := List.mem_of_getElem? (zf_el0 i hi j hj)
def zpos (i j : Nat) : Nat := (([[0, 104, 114, 126, 139, 150, 163, 177, 192, 210, 225, 242, 260], [0, 0, 115, 127, 140, 151, 164, 178, 193, 211, 226, 243, 261], [0, 0, 0, 128, 141, 152, 165, 179, 194, 212, 227, 244, 262], [0, 0, 0, 0, 142, 153, 166, 180, 195, 213, 228, 245, 263], [0, 0, 0, 0, 0, 154, 167, 181, 196, 214, 229, 246, 264], [0, 0, 0, 0, 0, 0, 168, 182, 197, 215, 230, 247, 265], [0, 0, 0, 0, 0, 0, 0, 183, 198, 216, 231, 248, 266], [0, 0, 0, 0, 0, 0, 0, 0, 199, 217, 232, 249, 267], [0, 0, 0, 0, 0, 0, 0, 0, 0, 218, 233, 250, 268], [0, 0, 0, 0, 0, 0, 0, 0, 0, 0, 234, 251, 269], [0, 0, 0, 0, 0, 0, 0, 0, 0, 0, 0, 252, 270], [0, 0, 0, 0, 0, 0, 0, 0, 0, 0, 0, 0, 271], [0, 0, 0, 0, 0, 0, 0, 0, 0, 0, 0, 0, 0]] : List (List Nat)).getD i []).getD j 0
theorem zf_ne0 : ∀ i, i < 13 → ∀ j, j < 13 → i < j → zfl[zpos i j]? = some (Cond.not (Cond.eq (ztm i) (ztm j))) := by decide +kernel
theorem zf_ne (i : Nat) (hi : i < 13) (j : Nat) (hj : j < 13) (hij : i ≠ j) : Cond.not (Cond.eq (ztm i) (ztm j)) ∈ zfl ∨ Cond.not (Cond.eq (ztm j) (ztm i)) ∈ zfl := by
  rcases Nat.lt_or_gt_of_ne hij with h | h
  · exact Or.inl (List.mem_of_getElem? (zf_ne0 i hi j hj h))
  · exact Or.inr (List.mem_of_getElem? (zf_ne0 j hj i hi h))
theorem zf_len : ∀ i, i < 13 → zlen.getD i 0 < 2 ^ 31 := by decide +kernel
theorem zf_ov : ∀ j, j < 6 → Cond.eq (.elem (.static "OneAlwaysUp" "OVER" "[I") (.int (Int32.ofNat j))) (.int (zover j)) ∈ zfl := by decide +kernel
theorem zf_ovl : Cond.eq (.length (.static "OneAlwaysUp" "OVER" "[I")) (.int (Int32.ofNat 6)) ∈ zfl := by decide +kernel
theorem zf_ova : Cond.arrayOf (.static "OneAlwaysUp" "OVER" "[I") .int ∈ zfl := by decide +kernel
theorem zf_cs : Cond.eq (.static "java/lang/String" "COMPACT_STRINGS" "Z") (.int 1) ∈ zfl := by decide +kernel
theorem zf_fm : Cond.isRef (.static "jdk/internal/util/Preconditions" "SIOOBE_FORMATTER" "Ljava/util/function/BiFunction;") ∈ zfl := by decide +kernel
theorem zf_sr : ∀ i, i < 13 → Cond.stringRef (zstr.getD i ("", 0, "")).1 (zstr.getD i ("", 0, "")).2.1 (zstr.getD i ("", 0, "")).2.2 ∈ lw_tbl := by
  intro i hi
  rcases (show i = 0 ∨ i = 1 ∨ i = 2 ∨ i = 3 ∨ i = 4 ∨ i = 5 ∨ i = 6 ∨ i = 7 ∨ i = 8 ∨ i = 9 ∨ i = 10 ∨ i = 11 ∨ i = 12 by omega) with rfl | rfl | rfl | rfl | rfl | rfl | rfl | rfl | rfl | rfl | rfl | rfl | rfl
  · exact List.mem_append_right _ (List.mem_of_getElem? (i := 254) (by decide +kernel))
  · exact List.mem_append_right _ (List.mem_of_getElem? (i := 331) (by decide +kernel))
  · exact List.mem_append_right _ (List.mem_of_getElem? (i := 337) (by decide +kernel))
  · exact List.mem_append_right _ (List.mem_of_getElem? (i := 338) (by decide +kernel))
  · exact List.mem_append_right _ (List.mem_of_getElem? (i := 339) (by decide +kernel))
  · exact List.mem_append_right _ (List.mem_of_getElem? (i := 340) (by decide +kernel))
  · exact List.mem_append_right _ (List.mem_of_getElem? (i := 341) (by decide +kernel))
  · exact List.mem_append_right _ (List.mem_of_getElem? (i := 345) (by decide +kernel))
  · exact List.mem_append_right _ (List.mem_of_getElem? (i := 346) (by decide +kernel))
  · exact List.mem_append_right _ (List.mem_of_getElem? (i := 347) (by decide +kernel))
  · exact List.mem_append_right _ (List.mem_of_getElem? (i := 348) (by decide +kernel))
  · exact List.mem_append_right _ (List.mem_of_getElem? (i := 349) (by decide +kernel))
  · exact List.mem_append_right _ (List.mem_of_getElem? (i := 350) (by decide +kernel))
theorem lw_K {s : State} {b : Nat} (hts : ∀ w ∈ lw_tbl, w.before #[Value.ref b] s = true) : ∃ (D : va_G) (cA : Nat → ClassId), va_K D vwCl (ztys cA) s := by
  have hz : ∀ w ∈ zgw, w.before #[Value.ref b] s = true := fun w hw => hts w (List.mem_filter.mp hw).1
  obtain ⟨c0, iS0, hKn0⟩ := u_known (C := RX0) (T := TX0) (N := 5) (n := 5) hz in_X0 (hz _ wd_in0)
  obtain ⟨c1, iS1, hKn1⟩ := u_known (C := RX1) (T := TX1) (N := 11) (n := 11) hz in_X1 (hz _ wd_in1)
  obtain ⟨c2, iS2, hKn2⟩ := u_known (C := RX2) (T := TX2) (N := 4) (n := 4) hz in_X2 (hz _ wd_in2)
  obtain ⟨c3, iS3, hKn3⟩ := u_known (C := RX3) (T := TX3) (N := 9) (n := 9) hz in_X3 (hz _ wd_in3)
  obtain ⟨c4, iS4, hKn4⟩ := u_known (C := RX4) (T := TX4) (N := 13) (n := 13) hz in_X4 (hz _ wd_in4)
  obtain ⟨c5, iS5, hKn5⟩ := u_known (C := RX5) (T := TX5) (N := 3) (n := 3) hz in_X5 (hz _ wd_in5)
  obtain ⟨c6, iS6, hKn6⟩ := u_known (C := RX6) (T := TX6) (N := 3) (n := 3) hz in_X6 (hz _ wd_in6)
  obtain ⟨c7, iS7, hKn7⟩ := u_known (C := RX7) (T := TX7) (N := 13) (n := 13) hz in_X7 (hz _ wd_in7)
  obtain ⟨c8, iS8, hKn8⟩ := u_known (C := RX8) (T := TX8) (N := 50) (n := 50) hz in_X8 (hz _ wd_in8)
  obtain ⟨a0, k0, p0, f0, g0, h0⟩ := Cond.arrayClass_spec (args := #[Value.ref b]) (first := s) (o := none) (s := s) (idx := []) (type := .int) (hts _ (List.mem_append_right _ (List.mem_of_getElem? (i := 88) (by decide +kernel))))
  obtain ⟨a1, k1, p1, f1, g1, h1⟩ := Cond.arrayClass_spec (args := #[Value.ref b]) (first := s) (o := none) (s := s) (idx := []) (type := .boolean) (hts _ (List.mem_append_right _ (List.mem_of_getElem? (i := 1006) (by decide +kernel))))
  obtain ⟨p2, a2, k2, f2, -, g2, h2, e2⟩ := Cond.arrayOver_spec (args := #[Value.ref b]) (first := s) (o := none) (s := s) (idx := []) (n := "OneAlwaysUp$Text") (hts _ (List.mem_append_right _ (List.mem_of_getElem? (i := 90) (by decide +kernel))))
  obtain ⟨p3, a3, k3, f3, -, g3, h3, e3⟩ := Cond.arrayOver_spec (args := #[Value.ref b]) (first := s) (o := none) (s := s) (idx := []) (n := "OneAlwaysUp$Sheet") (hts _ (List.mem_append_right _ (List.mem_of_getElem? (i := 127) (by decide +kernel))))
  refine ⟨(fun k => if k = 0 then c0 else if k = 1 then c1 else if k = 2 then c2 else if k = 3 then c3 else if k = 4 then c4 else if k = 5 then c5 else if k = 6 then c6 else if k = 7 then c7 else c8, fun k => if k = 0 then iS0 else if k = 1 then iS1 else if k = 2 then iS2 else if k = 3 then iS3 else if k = 4 then iS4 else if k = 5 then iS5 else if k = 6 then iS6 else if k = 7 then iS7 else iS8), fun k => if k = 0 then a0 else if k = 1 then a1 else if k = 2 then a2 else a3, ?_, ?_⟩
  · intro k q hq
    match k, hq with
    | 0, hq => cases hq; exact hKn0
    | 1, hq => cases hq; exact hKn1
    | 2, hq => cases hq; exact hKn2
    | 3, hq => cases hq; exact hKn3
    | 4, hq => cases hq; exact hKn4
    | 5, hq => cases hq; exact hKn5
    | 6, hq => cases hq; exact hKn6
    | 7, hq => cases hq; exact hKn7
    | 8, hq => cases hq; exact hKn8
    | k + 9, hq => simp [vwCl] at hq
  · intro k q hq
    match k, hq with
    | 0, hq => cases hq; exact ⟨fun n z => ⟨fun k h => (by cases h), k0, g0, p0, h0⟩, f0⟩
    | 1, hq => cases hq; exact ⟨fun n z => ⟨fun k h => (by cases h), k1, g1, p1, h1⟩, f1⟩
    | 2, hq => cases hq; exact ⟨fun n z => ⟨fun k h => (by cases h), k2, g2, p2, h2⟩, k2, p2, g2, h2, f2, e2⟩
    | 3, hq => cases hq; exact ⟨fun n z => ⟨fun k h => (by cases h), k3, g3, p3, h3⟩, k3, p3, g3, h3, f3, e3⟩
    | k + 4, hq => simp [ztys] at hq
theorem lw_E {s : State} {b : Nat} (hts : ∀ w ∈ lw_tbl, w.before #[Value.ref b] s = true) (hgv : (Jvm.Cond.and given_1 narrow_1).before #[Value.ref b] s = true) : ∃ y : zX, zKE (fun q => s.heap.size ≤ q) y s s.heap := by
  have hs := flat_of_before _ hgv
  have hA : ∀ a : Nat, a < s.heap.size → ¬ s.heap.size ≤ a := fun a h => Nat.not_le.mpr h
  obtain ⟨adK, adV, hS, hE⟩ := vk_Sof (args := #[Value.ref b]) (s := s) (N := 13) (tm := ztm) (len := zlen) (byt := zbyt) (A := fun q => s.heap.size ≤ q) zf_len (fun i hi => hs _ (zf_ex i hi)) (fun i hi => hs _ (zf_co i hi)) (fun i hi => hs _ (zf_ar i hi)) (fun i hi => hs _ (zf_le i hi)) (fun i hi j hj => hs _ (zf_el i hi j hj)) (fun i j hi hj hij => (zf_ne i hi j hj hij).imp (fun h => hs _ h) (fun h => hs _ h)) hA
  obtain ⟨t, ht, hT⟩ := va_Tof (args := #[Value.ref b]) (s := s) (N := 6) (f := fun j => .int (zover j)) (A := fun q => s.heap.size ≤ q) (by decide) (hs _ zf_ova) (va_eqt (hs _ zf_ovl)) (fun j hj => va_eqt (hs _ (zf_ov j hj))) hA
  have hOv := va_Zref (A := fun q => s.heap.size ≤ q) (hts _ (List.mem_append_right _ (List.mem_of_getElem? (i := 844) (by decide +kernel)))) (hts _ (List.mem_append_right _ (List.mem_of_getElem? (i := 1) (by decide +kernel)))) ht hA
  have hCs := va_Zof (A := fun q => s.heap.size ≤ q) (hts _ (List.mem_append_right _ (List.mem_of_getElem? (i := 264) (by decide +kernel)))) (hts _ (List.mem_append_right _ (List.mem_of_getElem? (i := 10) (by decide +kernel)))) (va_eqi (hs _ zf_cs)) hA
  have hFm := va_Zqof (A := fun q => s.heap.size ≤ q) (hts _ (List.mem_append_right _ (List.mem_of_getElem? (i := 280) (by decide +kernel)))) (hts _ (List.mem_append_right _ (List.mem_of_getElem? (i := 12) (by decide +kernel)))) (hs _ zf_fm) hA
  obtain ⟨v, hv, hc⟩ : ∃ v : Value, va_Z "jdk/internal/util/Preconditions" "SIOOBE_FORMATTER" "Ljava/util/function/BiFunction;" v (fun q => s.heap.size ≤ q) s s.heap ∧ v.category = 1 := by
    rcases hFm with h | ⟨t2, h⟩
    · exact ⟨_, h, rfl⟩
    · exact ⟨_, h, rfl⟩
  refine ⟨(adK, adV, t, v), ?_, ?_, hS, hOv, hT, hCs, hv, hc⟩
  · intro w hw
    unfold znest at hw
    simp only [List.mem_cons, List.not_mem_nil, or_false] at hw
    rcases hw with rfl | rfl | rfl | rfl
    · exact va_Nw.of rfl (hts _ (List.mem_append_right _ (List.mem_of_getElem? (i := 588) (by decide +kernel))))
    · exact va_Nw.of rfl (hts _ (List.mem_append_right _ (List.mem_of_getElem? (i := 589) (by decide +kernel))))
    · exact va_Nw.of rfl (hts _ (List.mem_append_right _ (List.mem_of_getElem? (i := 639) (by decide +kernel))))
    · exact va_Nw.of rfl (hts _ (List.mem_append_right _ (List.mem_of_getElem? (i := 715) (by decide +kernel))))
  · intro i q hq
    have hi : i < 13 := (List.getElem?_eq_some_iff.mp hq).1
    have e : zstr.getD i ("", 0, "") = q := by rw [List.getD_eq_getElem?_getD, hq]; rfl
    have h1 := hts _ (zf_sr i hi)
    have h2 := hE i hi
    unfold ztm at h2
    rw [e] at h1 h2
    exact vk_R.of h1 h2
theorem lw_N {s : State} {b : Nat} (hts : ∀ w ∈ lw_tbl, w.before #[Value.ref b] s = true) : zNE s := ⟨va_Nw.of rfl (hts _ (List.mem_append_right _ (List.mem_of_getElem? (i := 27) (by decide +kernel)))), va_Nw.of rfl (hts _ (List.mem_append_right _ (List.mem_of_getElem? (i := 93) (by decide +kernel)))), va_Nw.of rfl (hts _ (List.mem_append_right _ (List.mem_of_getElem? (i := 222) (by decide +kernel)))), va_Nw.of rfl (hts _ (List.mem_append_right _ (List.mem_of_getElem? (i := 237) (by decide +kernel)))), va_AO.of (hts _ (List.mem_append_right _ (List.mem_of_getElem? (i := 90) (by decide +kernel)))), va_AO.of (hts _ (List.mem_append_right _ (List.mem_of_getElem? (i := 127) (by decide +kernel))))⟩
