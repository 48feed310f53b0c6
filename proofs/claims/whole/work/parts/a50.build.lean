/-! making a world: the judgement for constructors, with counts of cells and slots -/
theorem va_Z.narrow' {C n d : String} {v : Value} {A B : Nat → Prop} {U : State} {H : Heap} (h : va_Z C n d v A U H) (hAB : ∀ q, B q → A q) : va_Z C n d v B U H := by
  obtain ⟨cf, kf, fi, f, a, cell, h1, h2, h3, h4, h5, h6, h7, h8⟩ := h
  exact ⟨cf, kf, fi, f, a, cell, h1, h2, h3, h4, h5, h6, h7, fun q => h8 (hAB _ q)⟩
theorem va_T.narrow' {ty : FieldType} {t N : Nat} {f : Nat → Value} {A B : Nat → Prop} {U : State} {H : Heap} (h : va_T ty t N f A U H) (hAB : ∀ q, B q → A q) : va_T ty t N f B U H := by
  obtain ⟨cell, h1, h2, h3, h4, h5, h6, h7⟩ := h
  exact ⟨cell, h1, h2, h3, h4, h5, h6, fun q => h7 (hAB _ q)⟩
theorem zKK.narrow {D : va_G} {cA : Nat → ClassId} {A B : Nat → Prop} {y : zX} {U : State} {H : Heap} (h : zKK D cA A y U H) (hAB : ∀ q, B q → A q) : zKK D cA B y U H :=
  ⟨h.1, h.2.1, h.2.2.1, h.2.2.2.1.narrow hAB, h.2.2.2.2.1.narrow' hAB, h.2.2.2.2.2.1.narrow' hAB, h.2.2.2.2.2.2.1.narrow' hAB, h.2.2.2.2.2.2.2.1.narrow' hAB, h.2.2.2.2.2.2.2.2⟩
def zNE (U : State) : Prop := va_Nw (.methodLinkNest "OneAlwaysUp" 11 yX1_init "OneAlwaysUp") U ∧ va_Nw (.methodLinkNest "OneAlwaysUp" 42 yX3_init "OneAlwaysUp") U ∧ va_Nw (.methodLinkNest "OneAlwaysUp" 83 yX6_init "OneAlwaysUp") U ∧ va_Nw (.methodLinkNest "OneAlwaysUp" 84 yX5_init "OneAlwaysUp") U ∧ va_AO "OneAlwaysUp$Text" U ∧ va_AO "OneAlwaysUp$Sheet" U
theorem zNE.warm {s U : State} (hW : s.WarmedH U.vm) (h : zNE s) : zNE U := ⟨zNw hW h.1, zNw hW h.2.1, zNw hW h.2.2.1, zNw hW h.2.2.2.1, va_AO.moved hW.alike h.2.2.2.2.1, va_AO.moved hW.alike h.2.2.2.2.2⟩
theorem zNE.same {u U : State} (hv : U.vm = u.vm) (h : zNE u) : zNE U := ⟨va_Nw.same rfl hv.symm h.1, va_Nw.same rfl hv.symm h.2.1, va_Nw.same rfl hv.symm h.2.2.1, va_Nw.same rfl hv.symm h.2.2.2.1, va_AO.moved (by rw [hv]; exact Vm.Alike.refl _) h.2.2.2.2.1, va_AO.moved (by rw [hv]; exact Vm.Alike.refl _) h.2.2.2.2.2⟩
def zrn (d k n : Nat) : Room := { frames := d, cells := k, slots := n, locals := 60 * d }
def zMB (p : Program) (s : State) (m : MethodId) (args : Array Value) (meth : Method) (c : Code) (cc : ByteArray) (nL : Nat) (own : String) (D : va_G) (cA : Nat → ClassId) (A : Nat → Prop) (y : zX) : Prop :=
  p.tables.exec = Jvm.exec ∧ c.code = cc ∧ c.maxLocals = nL ∧ s.vm.findClass own = some m.cls ∧ (∀ w ∈ zgw, w.before args s = true) ∧ meth.locks = false ∧ meth.sig.returnType = none ∧ zKK D cA A y s s.heap ∧ (∀ q, s.heap.size ≤ q → A q) ∧ meth.name = "<init>" ∧ zNE s
def zB (p : Program) (l : Launch) (e : Env) (R : Room) (s : State) (m : MethodId) (args : Array Value) (below : List Frame) (meth : Method) (c : Code) (nL : Nat) (D : va_G) (A : Nat → Prop) (Z : State → Prop) (k n : Nat) (pc : Nat) (ls : List (Nat × Value)) (st : List Value) (ws : va_W) : Prop :=
  ∀ (H : Heap) (locs : List Loc) (la : Array Slot), va_P D vwCl ws H → va_D A ws → va_S A s.heap H locs → lv_has la nL ls → W p l e R s m args below meth c H locs k n Z (F0 m pc la st)
/-- a constructor: what world it makes out of the one cell that it is given -/
def zMk (l : Launch) (D : va_G) (cA : Nat → ClassId) (y : zX) (d kc ks : Nat) (x : MethodName) (bytes : ByteArray) (maxL : Nat) (h0 : Nat) (o0 : va_E) (As : List Value) (Post : va_W → Prop) : Prop :=
  ∀ sz, Met l x (Cond.code x bytes maxL none :: zgw) (zrn d kc ks) (va_Pc (.ref h0 :: As) (fun U => U.heap.size = sz ∧ va_P D vwCl [(h0, o0)] U.heap ∧ zKK D cA (va_A [(h0, o0)] sz) y U U.heap ∧ zNE U))
    (va_Qv (fun w1 : va_W => Post w1) (fun w1 t => va_P D vwCl w1 t.heap ∧ va_D (va_A [(h0, o0)] sz) w1) (va_A [(h0, o0)] sz)) kc ks (va_A [(h0, o0)] sz)
theorem yb_one {h0 : Nat} {o0 : va_E} {sz : Nat} : va_D (va_A [(h0, o0)] sz) [(h0, o0)] := by
  have hz : ∀ (k : Nat) (q : Nat × va_E), [(h0, o0)][k]? = some q → k = 0 := fun k q h => by
    have := (List.getElem?_eq_some_iff.mp h).1
    simpa using this
  refine ⟨fun i j p q hp hq _ => ?_, fun k q hk => va_A.in hk⟩
  rw [hz i p hp, hz j q hq]
theorem yb_join {A : Nat → Prop} {D : va_G} {cl : List vw_C} {w w1 : va_W} {x : Nat × va_E} {H H1 : Heap} (hP : va_P D cl (w ++ [x]) H) (hD : va_D A (w ++ [x])) (hk : ∀ q : Nat, q < H.size → ¬ va_A [x] H.size q → H1[q]? = H[q]?) (hF : ∀ q, va_A [x] H.size q → A q) (hP1 : va_P D cl w1 H1) (hD1 : va_D (va_A [x] H.size) w1) : va_P D cl (w ++ w1) H1 ∧ va_D A (w ++ w1) := by
  have inw : ∀ (k : Nat) (q : Nat × va_E), w[k]? = some q → k < w.length ∧ (w ++ [x])[k]? = some q := fun k q hq => by
    have hl := (List.getElem?_eq_some_iff.mp hq).1
    exact ⟨hl, by rw [List.getElem?_append_left hl]; exact hq⟩
  have hx : (w ++ [x])[w.length]? = some x := by simp
  have apart : ∀ (k : Nat) (q : Nat × va_E), w[k]? = some q → q.1 < H.size ∧ ¬ va_A [x] H.size q.1 := by
    intro k q hq
    obtain ⟨h1, h2⟩ := inw k q hq
    have hl := (hP k q h2).lt
    refine ⟨hl, fun h => ?_⟩
    rcases h with ⟨k2, e, h⟩ | h
    · have hz : k2 = 0 := by
        have := (List.getElem?_eq_some_iff.mp h).1
        simpa using this
      subst hz
      have he : x = (q.1, e) := by simpa using h
      have := hD.1 k w.length q x h2 hx (by rw [he])
      omega
    · omega
  refine ⟨va_P.app (fun k q hq => ?_) hP1, va_D.app ⟨fun i j a b ha hb hab => hD.1 i j a b (inw i a ha).2 (inw j b hb).2 hab, fun k q hq => hD.2 k q (inw k q hq).2⟩ (hD1.weaken (fun k q _ h => hF q.1 h)) (fun i j a b ha hb hab => ?_)⟩
  · obtain ⟨g1, g2⟩ := apart k q hq
    exact (hP k q (inw k q hq).2).kept (hk q.1 g1 g2)
  · exact (apart i a ha).2 (by rw [hab]; exact hD1.2 j b hb)
section zBuild
variable {p : Program} {l : Launch} {e : Env} {R : Room} {s : State} {m : MethodId} {args : Array Value} {below : List Frame} {meth : Method} {c : Code} {cc : ByteArray} {nL : Nat} {own : String} {D : va_G} {cA : Nat → ClassId} {A : Nat → Prop} {y : zX} {Z : State → Prop} {k n k' n' pc index : Nat} {ls : List (Nat × Value)} {st rest : List Value} {ws : va_W}
theorem yb_aload (M : zMB p s m args meth c cc nL own D cA A y) {k4 : Fin 4} {i : Nat} {x : Nat} (q : Nat) (d : decode cc pc = .ok (.aload_n k4, 1)) (hi : (k4 : Nat) = i) (hq : ls[q]? = some (i, .ref x)) (K : zB p l e R s m args below meth c nL D A Z k n (pc + 1) ls (.ref x :: st) ws) : zB p l e R s m args below meth c nL D A Z k n pc ls st ws := fun H locs la hP hD hS hl => lv_aload_n M.1 M.2.1 d hi (lv_at hl q hq) (K H locs la hP hD hS hl)
theorem yb_iload (M : zMB p s m args meth c cc nL own D cA A y) {k4 : Fin 4} {i : Nat} {x : Int32} (q : Nat) (d : decode cc pc = .ok (.iload_n k4, 1)) (hi : (k4 : Nat) = i) (hq : ls[q]? = some (i, .int x)) (K : zB p l e R s m args below meth c nL D A Z k n (pc + 1) ls (.int x :: st) ws) : zB p l e R s m args below meth c nL D A Z k n pc ls st ws := fun H locs la hP hD hS hl => lv_iload_n M.1 M.2.1 d hi (lv_at hl q hq) (K H locs la hP hD hS hl)
theorem yb_iconst (M : zMB p s m args meth c cc nL own D cA A y) {n0 : Int} {v : Int32} (d : decode cc pc = .ok (.iconst n0, 1)) (hv : Int32.ofInt n0 = v) (K : zB p l e R s m args below meth c nL D A Z k n (pc + 1) ls (.int v :: st) ws) : zB p l e R s m args below meth c nL D A Z k n pc ls st ws := fun H locs la hP hD hS hl => lv_iconst M.1 M.2.1 d hv (K H locs la hP hD hS hl)
theorem yb_bipush (M : zMB p s m args meth c cc nL own D cA A y) {n0 : Int} {v : Int32} (d : decode cc pc = .ok (.bipush n0, 2)) (hv : (Int8.ofInt n0).toInt32 = v) (K : zB p l e R s m args below meth c nL D A Z k n (pc + 2) ls (.int v :: st) ws) : zB p l e R s m args below meth c nL D A Z k n pc ls st ws := fun H locs la hP hD hS hl => lv_bipush M.1 M.2.1 d hv (K H locs la hP hD hS hl)
theorem yb_sipush (M : zMB p s m args meth c cc nL own D cA A y) {n0 : Int} {v : Int32} (d : decode cc pc = .ok (.sipush n0, 3)) (hv : (Int16.ofInt n0).toInt32 = v) (K : zB p l e R s m args below meth c nL D A Z k n (pc + 3) ls (.int v :: st) ws) : zB p l e R s m args below meth c nL D A Z k n pc ls st ws := fun H locs la hP hD hS hl => lv_sipush M.1 M.2.1 d hv (K H locs la hP hD hS hl)
theorem yb_ldc (M : zMB p s m args meth c cc nL own D cA A y) {v : Int32} (hw : Cond.constant own index v ∈ zgw) (d : decode cc pc = .ok (.ldc index, 2)) (K : zB p l e R s m args below meth c nL D A Z k n (pc + 2) ls (.int v :: st) ws) : zB p l e R s m args below meth c nL D A Z k n pc ls st ws := fun H locs la hP hD hS hl => lv_ldc M.1 M.2.1 M.2.2.2.1 (M.2.2.2.2.1 _ hw) d (K H locs la hP hD hS hl)
theorem yb_null (M : zMB p s m args meth c cc nL own D cA A y) (d : decode cc pc = .ok (.aconst_null, 1)) (K : zB p l e R s m args below meth c nL D A Z k n (pc + 1) ls (.null :: st) ws) : zB p l e R s m args below meth c nL D A Z k n pc ls st ws := fun H locs la hP hD hS hl => lv_null M.1 M.2.1 d (K H locs la hP hD hS hl)
theorem yb_dup (M : zMB p s m args meth c cc nL own D cA A y) {va : Value} (d : decode cc pc = .ok (.dup, 1)) (hv : va.category = 1) (K : zB p l e R s m args below meth c nL D A Z k n (pc + 1) ls (va :: va :: st) ws) : zB p l e R s m args below meth c nL D A Z k n pc ls (va :: st) ws := fun H locs la hP hD hS hl => lv_dup M.1 M.2.1 d hv (K H locs la hP hD hS hl)
theorem yb_pop (M : zMB p s m args meth c cc nL own D cA A y) {va : Value} (d : decode cc pc = .ok (.pop, 1)) (hv : va.category = 1) (K : zB p l e R s m args below meth c nL D A Z k n (pc + 1) ls st ws) : zB p l e R s m args below meth c nL D A Z k n pc ls (va :: st) ws := fun H locs la hP hD hS hl => lv_pop M.1 M.2.1 d hv (K H locs la hP hD hS hl)
theorem yb_goto (M : zMB p s m args meth c cc nL own D cA A y) {off : Int} (tgt : Nat) (d : decode cc pc = .ok (.goto off, 3)) (ht : (pc : Int) + off = (tgt : Int)) (K : zB p l e R s m args below meth c nL D A Z k n tgt ls st ws) : zB p l e R s m args below meth c nL D A Z k n pc ls st ws := fun H locs la hP hD hS hl => lv_goto (tgt := tgt) M.1 M.2.1 d ht (K H locs la hP hD hS hl)
theorem yb_ge (M : zMB p s m args meth c cc nL own D cA A y) {off : Int} {x1 y1 : Int32} (tgt : Nat) (d : decode cc pc = .ok (.if_icmp .ge off, 3)) (ht : (pc : Int) + off = (tgt : Int)) (K1 : y1 ≤ x1 → zB p l e R s m args below meth c nL D A Z k n tgt ls st ws) (K2 : ¬ y1 ≤ x1 → zB p l e R s m args below meth c nL D A Z k n (pc + 3) ls st ws) : zB p l e R s m args below meth c nL D A Z k n pc ls (.int y1 :: .int x1 :: st) ws := fun H locs la hP hD hS hl => lv_icmp_ge (tgt := tgt) M.1 M.2.1 d ht (fun h => K1 h H locs la hP hD hS hl) (fun h => K2 h H locs la hP hD hS hl)
theorem yb_istore (M : zMB p s m args meth c cc nL own D cA A y) {k4 : Fin 4} {i : Nat} {x : Int32} (ls' : List (Nat × Value)) (d : decode cc pc = .ok (.istore_n k4, 1)) (hi : (k4 : Nat) = i) (hn : i < nL) (hls : (i, Value.int x) :: ls.filter (fun q => !(q.1 == i) && !(q.1 + 1 == i && q.2.category == 2)) = ls') (K : zB p l e R s m args below meth c nL D A Z k n (pc + 1) ls' st ws) : zB p l e R s m args below meth c nL D A Z k n pc ls (.int x :: st) ws := fun H locs la hP hD hS hl => lv_istore_n (lv' := ls') M.1 M.2.1 d hi hl hn hls (fun la' hl' => K H locs la' hP hD hS hl')
theorem yb_iinc (M : zMB p s m args meth c cc nL own D cA A y) (ls' : List (Nat × Value)) {i : Nat} {n0 : Int} {x v n32 : Int32} (q : Nat) (d : decode cc pc = .ok (.iinc i n0, 3)) (hq : ls[q]? = some (i, .int x)) (h32 : Int32.ofInt n0 = n32) (hv : v = x + n32) (hn : i < nL) (hs : (i, Value.int v) :: ls.filter (fun q => !(q.1 == i) && !(q.1 + 1 == i && q.2.category == 2)) = ls') (K : zB p l e R s m args below meth c nL D A Z k n (pc + 3) ls' st ws) : zB p l e R s m args below meth c nL D A Z k n pc ls st ws := fun H locs la hP hD hS hl => lv_iinc M.1 M.2.1 d hl hq (by rw [h32]; exact hv.symm) hn hs (fun la hl => K H locs la hP hD hS hl)
theorem yb_objInit (M : zMB p s m args meth c cc nL own D cA A y) {a : Nat} (hw : Cond.methodLink own index Lib.objectInit ∈ zgw) (h1 : Cond.instanceMethod Lib.objectInit ∈ zgw) (h2 : Cond.code Lib.objectInit ⟨#[0xb1]⟩ 1 none ∈ zgw) (d : decode cc pc = .ok (.invokespecial index, 3)) (hf : 1 ≤ R.frames) (hl12 : (st.map fun v => v.category).sum + 12 ≤ R.locals) (K : zB p l e R s m args below meth c nL D A Z k n (pc + 3) ls st ws) : zB p l e R s m args below meth c nL D A Z k n pc ls (.ref a :: st) ws := fun H locs la hP hD hS hl => W.objInit M.1 M.2.1 M.2.2.2.1 (M.2.2.2.2.1 _ hw) (M.2.2.2.2.1 _ h1) (M.2.2.2.2.1 _ h2) rfl (by rw [M.2.2.1]; exact hl.1) rfl d hf (by show 2 * 0 + _ + 12 ≤ _; omega) (K H locs la hP hD hS hl)
theorem yb_newa (M : zMB p s m args meth c cc nL own D cA A y) {v : Int32} {N : Nat} (harr : Cond.arrayClass .int ∈ zgw) (hn : ¬ v < 0) (hN : v.toNatClampNeg = N) (hb : N * 4 ≤ 536870912) (hk : k + 1 = k') (hn' : n + N = n') (hc : k' ≤ R.cells) (hs : n' ≤ R.slots) (d : decode cc pc = .ok (.newarray .int, 2)) (K : ∀ q, zB p l e R s m args below meth c nL D A Z k' n' (pc + 2) ls (.ref q :: st) (ws ++ [(q, .inl (cA 0, N, .inl (fun _ => 0)))])) : zB p l e R s m args below meth c nL D A Z k n pc ls (.int v :: st) ws := by
  intro H locs la hP hD hS hl
  subst hk
  subst hn'
  refine va_newa (atype := .int) (ty := .int) (a0 := (N, .inl (fun _ => 0))) M.1 M.2.1 (M.2.2.2.2.1 _ harr) rfl M.2.2.2.2.2.2.2.1.1 hP hD hS M.2.2.2.2.2.2.2.2.1 (fun cA => vp_cell_i _ _ _) hn hN hb hc hs d (fun q cA' H1 hK hP1 hD1 hS1 => ?_)
  have e1 : s.vm.findClass ("[" ++ (FieldType.int).toString) = some cA' := (hK.2 4 (cA', .int) rfl).2
  have e2 : s.vm.findClass ("[" ++ (FieldType.int).toString) = some (cA 0) := (hK.2 0 (cA 0, .int) rfl).2
  have e3 : cA' = cA 0 := Option.some.inj (e1.symm.trans e2)
  subst e3
  exact K q H1 locs la hP1 hD1 hS1 hl
theorem yb_newz (M : zMB p s m args meth c cc nL own D cA A y) {v : Int32} {N : Nat} (harr : Cond.arrayClass .boolean ∈ zgw) (hn : ¬ v < 0) (hN : v.toNatClampNeg = N) (hb : N * componentBytes .boolean ≤ 536870912) (hk : k + 1 = k') (hn' : n + N = n') (hc : k' ≤ R.cells) (hs : n' ≤ R.slots) (d : decode cc pc = .ok (.newarray .boolean, 2)) (K : ∀ q, zB p l e R s m args below meth c nL D A Z k' n' (pc + 2) ls (.ref q :: st) (ws ++ [(q, .inl (cA 1, N, .inl (fun _ => 0)))])) : zB p l e R s m args below meth c nL D A Z k n pc ls (.int v :: st) ws := by
  intro H locs la hP hD hS hl
  subst hk
  subst hn'
  refine va_newa (atype := .boolean) (ty := .boolean) (a0 := (N, .inl (fun _ => 0))) M.1 M.2.1 (M.2.2.2.2.1 _ harr) rfl M.2.2.2.2.2.2.2.1.1 hP hD hS M.2.2.2.2.2.2.2.2.1 (fun cA => vp_cell_i _ _ _) hn hN hb hc hs d (fun q cA' H1 hK hP1 hD1 hS1 => ?_)
  have e1 : s.vm.findClass ("[" ++ (FieldType.boolean).toString) = some cA' := (hK.2 4 (cA', .boolean) rfl).2
  have e2 : s.vm.findClass ("[" ++ (FieldType.boolean).toString) = some (cA 1) := (hK.2 1 (cA 1, .boolean) rfl).2
  have e3 : cA' = cA 1 := Option.some.inj (e1.symm.trans e2)
  subst e3
  exact K q H1 locs la hP1 hD1 hS1 hl
theorem yb_newq (M : zMB p s m args meth c cc nL own D cA A y) {v : Int32} {N t : Nat} {C : String} (hcl : Cond.classLink own index C ∈ zgw) (hao : va_AO C s) (ht : (ztys cA)[t]? = some (cA t, .object C)) (hn : ¬ v < 0) (hN : v.toNatClampNeg = N) (hb : N * 4 ≤ 536870912) (hk : k + 1 = k') (hn' : n + N = n') (hc : k' ≤ R.cells) (hs : n' ≤ R.slots) (d : decode cc pc = .ok (.anewarray index, 3)) (K : ∀ q, zB p l e R s m args below meth c nL D A Z k' n' (pc + 3) ls (.ref q :: st) (ws ++ [(q, .inl (cA t, N, .inr (.inr (.inr (.inr (fun _ => none))))))])) : zB p l e R s m args below meth c nL D A Z k n pc ls (.int v :: st) ws := by
  intro H locs la hP hD hS hl
  subst hk
  subst hn'
  refine va_newq M.1 M.2.1 M.2.2.2.1 (M.2.2.2.2.1 _ hcl) hao M.2.2.2.2.2.2.2.1.1 hP hD hS M.2.2.2.2.2.2.2.2.1 hn hN hb hc hs d (fun q cA' H1 hK hP1 hD1 hS1 => ?_)
  obtain ⟨_, _, -, -, -, e1⟩ := (hK.2 4 (cA', .object C) rfl).2
  obtain ⟨_, _, -, -, -, e2⟩ := (M.2.2.2.2.2.2.2.1.1.2 t (cA t, .object C) ht).2
  have e3 : cA' = cA t := Option.some.inj (e1.symm.trans e2)
  subst e3
  exact K q H1 locs la hP1 hD1 hS1 hl
theorem yb_new (M : zMB p s m args meth c cc nL own D cA A y) {C : String} {T : u_T} {N ci : Nat} (hin : ∀ w ∈ u_ws C T N, w ∈ zgw) (ty : Nat → FieldType) (hty : ∀ k, k < N → parseFieldDescriptor (T k).2.2.1 = some (ty k)) (hcl : Cond.classLink own index C ∈ zgw) (hinst : Cond.instantiable C N ∈ zgw) (hini : Cond.initialized C ∈ zgw) (hc : vwCl[ci]? = some (C, T, N)) (fs : List Value) (hfs : ∀ j, j < N → defaultValue (ty j) = vp_V fs j) (hk : k + 1 = k') (hn' : n + N = n') (hcc : k' ≤ R.cells) (hs : n' ≤ R.slots) (d : decode cc pc = .ok (.new index, 3)) (K : ∀ q, zB p l e R s m args below meth c nL D A Z k' n' (pc + 3) ls (.ref q :: st) (ws ++ [(q, .inr (ci, fs))])) : zB p l e R s m args below meth c nL D A Z k n pc ls st ws := by
  intro H locs la hP hD hS hl
  subst hk
  subst hn'
  exact va_new M.1 M.2.1 M.2.2.2.2.1 hin ty hty M.2.2.2.1 (M.2.2.2.2.1 _ hcl) (M.2.2.2.2.1 _ hinst) (M.2.2.2.2.1 _ hini) M.2.2.2.2.2.2.2.1.1 hP hD hS M.2.2.2.2.2.2.2.2.1 hc hfs hcc hs d (fun q H1 hP1 hD1 hS1 => K q H1 locs la hP1 hD1 hS1 hl)
theorem yb_put (M : zMB p s m args meth c cc nL own D cA A y) {ci j h0 : Nat} {fin : Bool} {ty : FieldType} {fs : List Value} (fs' : List Value) {v : Value} {C : String} {T : u_T} {N : Nat} (fb : zFB own index ci j fin ty) (hc : vwCl[ci]? = some (C, T, N)) (hdecl : (T j).1 = own) (hn : narrow ty v = v) (hfit : fits ty v = true) (hl0 : j < fs.length) (hfs : fs.set j v = fs') (d : decode cc pc = .ok (.putfield index, 3)) (K : zB p l e R s m args below meth c nL D A Z k n (pc + 3) ls st ((h0, .inr (ci, fs')) :: ws)) : zB p l e R s m args below meth c nL D A Z k n pc ls (v :: .ref h0 :: st) ((h0, .inr (ci, fs)) :: ws) := by
  intro H locs la hP hD hS hl
  subst hfs
  obtain ⟨C', T', N', hc', hj, hin, hlink, hf, hd, ⟨ty0, hty0⟩, hnm⟩ := fb
  rw [hc] at hc'
  cases hc'
  have hh := M.2.2.2.2.1 _ hlink
  cases fin with
  | false => exact va_put (q0 := 0) (tys := ztys cA) M.1 M.2.1 M.2.2.2.2.1 hin ty0 hty0 hnm M.2.2.2.1 M.2.2.2.2.2.2.2.1.1 hP hD hS rfl hc j hj hh (fun _ h => h) hf hd hn hfit hl0 d (fun H1 locs1 hP1 hD1 hS1 => K H1 locs1 la hP1 hD1 hS1 hl)
  | true => exact va_putF (q0 := 0) (tys := ztys cA) M.1 M.2.1 M.2.2.2.2.1 hin ty0 hty0 hnm M.2.2.2.1 M.2.2.2.2.2.2.2.1.1 hP hD hS rfl hc j hj hh (fun _ h => h) hf M.2.2.2.2.2.2.2.2.2.1 hdecl hd hn hfit hl0 d (fun H1 locs1 hP1 hD1 hS1 => K H1 locs1 la hP1 hD1 hS1 hl)
theorem yb_get (M : zMB p s m args meth c cc nL own D cA A y) {ci j a : Nat} {fin : Bool} {ty : FieldType} {fs : List Value} (q0 : Nat) {v : Value} (fb : zFB own index ci j fin ty) (he : ws[q0]? = some (a, .inr (ci, fs))) (hv : fs[j]? = some v) (d : decode cc pc = .ok (.getfield index, 3)) (K : zB p l e R s m args below meth c nL D A Z k n (pc + 3) ls (v :: st) ws) : zB p l e R s m args below meth c nL D A Z k n pc ls (.ref a :: st) ws := by
  intro H locs la hP hD hS hl
  obtain ⟨C', T', N', hc', hj, hin, hlink, hf, hd, ⟨ty0, hty0⟩, hnm⟩ := fb
  exact va_get M.1 M.2.1 M.2.2.2.2.1 hin M.2.2.2.1 M.2.2.2.2.2.2.2.1.1 hP q0 he hc' j hj (M.2.2.2.2.1 _ hlink) (fun _ h => h) hv d (K H locs la hP hD hS hl)
theorem yb_ret {Q : va_W → Prop} (M : zMB p s m args meth c cc nL own D cA A y) (d : decode cc pc = .ok (.return_, 1)) (hq : Q ws) : zB p l e R s m args below meth c nL D A (MQ below (va_Qv Q (fun w1 t => va_P D vwCl w1 t.heap ∧ va_D A w1) A) args s k n A) k n pc ls [] ws := fun H locs la hP hD hS hl => W.vret M.1 M.2.1 M.2.2.2.2.2.2.1 (fun t ht hW => ⟨⟨ws, rfl, hq, by rw [ht]; exact hP, hD⟩, hS.F ht⟩) hS.2.2 d M.2.2.2.2.2.1
theorem yb_init {x : MethodName} {bytes : ByteArray} {maxL d' dR kc ks kR sR na : Nat} {q : Nat} {o0 : va_E} {As : List Value} {Post : va_W → Prop} (M : zMB p s m args meth c cc nL own D cA A y) (hM : zMk l D cA y d' kc ks x bytes maxL q o0 As Post) (cb : zCB own index x bytes maxL none na ∧ x.name = "<init>" ∧ Cond.instanceMethod x ∈ zgw) (hna : As.length = na) (hR : d' + 1 ≤ dR) (hk : k + kc = k') (hn' : n + ks = n') (hcc : k' ≤ kR) (hs : n' ≤ sR) (hst : st = As.reverse ++ .ref q :: rest) (hW : (rest.map fun v => v.category).sum ≤ 8) (d : decode cc pc = .ok (.invokespecial index, 3)) (K : ∀ w1, Post w1 → zB p l e (zrn dR kR sR) s m args below meth c nL D A Z k' n' (pc + 3) ls rest (ws ++ w1)) : zB p l e (zrn dR kR sR) s m args below meth c nL D A Z k n pc ls st (ws ++ [(q, o0)]) := by
  intro H locs la hP hD hS hl
  subst hst
  subst hk
  subst hn'
  obtain ⟨⟨h1, h2, h3, h4, h5⟩, hx, hi⟩ := cb
  have hq : (ws ++ [(q, o0)])[ws.length]? = some (q, o0) := by simp
  have hF : ∀ a, va_A [(q, o0)] H.size a → A a := by
    intro a h
    rcases h with ⟨k2, e2, h⟩ | h
    · have hz : k2 = 0 := by
        have := (List.getElem?_eq_some_iff.mp h).1
        simpa using this
      subst hz
      have he : (q, o0) = (a, e2) := by simpa using h
      cases he
      exact hD.2 _ _ hq
    · exact M.2.2.2.2.2.2.2.2.1 a (Nat.le_trans hS.1 h)
  have hP0 : va_P D vwCl [(q, o0)] H := fun k2 x2 h => by
    have hz : k2 = 0 := by
      have := (List.getElem?_eq_some_iff.mp h).1
      simpa using this
    subst hz
    cases h
    exact hP _ _ hq
  refine va_callv (va_runI (As := As) (rest := rest) ⟨M.1, M.2.1, M.2.2.1, M.2.2.2.1, M.2.2.2.2.1⟩ (hM H.size) ⟨callB_of na M.2.2.2.2.1 (zgood h2) rfl rfl rfl (M.2.2.2.2.1 _ h3) (M.2.2.2.2.1 _ h1) h4 ⟨hR, by show 8 + (maxL + 11) + 60 * d' ≤ 60 * dR; omega⟩, hx, M.2.2.2.2.1 _ hi⟩ ⟨fun a U g mk z => ⟨z.1, z.2.1, z.2.2.1, zKK.same (u := U) (U := U.calling g mk a) (H := U.heap) rfl z.2.2.2.1, zNE.same (u := U) (U := U.calling g mk a) rfl z.2.2.2.2⟩, fun U hU hW => ⟨rfl, by rw [hU], by rw [hU]; exact hP0, by rw [hU]; exact (zKK.warm hW (M.2.2.2.2.2.2.2.1.kept hS.2.1)).narrow hF, M.2.2.2.2.2.2.2.2.2.2.warm hW⟩⟩ rfl hna hl.1 rfl (lv_room hW) d ⟨hcc, hs⟩) hS (fun a _ h => hF a h) hF (fun w1 t H1 locs1 ht hvm hw hB hz1 hk1 hS1 => ?_)
  have hB : va_P D vwCl w1 t.heap ∧ va_D (va_A [(q, o0)] H.size) w1 := hB
  rw [ht] at hB
  obtain ⟨hP2, hD2⟩ := yb_join hP hD hk1 hF hB.1 hB.2
  exact K w1 hw H1 locs1 la hP2 hD2 hS1 hl
theorem yb_initN {x : MethodName} {bytes : ByteArray} {maxL d' dR kc ks kR sR na : Nat} {q : Nat} {o0 : va_E} {As : List Value} {Post : va_W → Prop} (M : zMB p s m args meth c cc nL own D cA A y) (hM : zMk l D cA y d' kc ks x bytes maxL q o0 As Post) (cb : (zNE s → va_Nw (.methodLinkNest own index x "OneAlwaysUp") s) ∧ (Cond.code x bytes maxL none ∈ zgw ∧ Cond.initialized x.cls ∈ zgw ∧ (x.cls ≠ "java/lang/invoke/MethodHandle" ∧ x.cls ≠ "java/lang/invoke/VarHandle" ∧ (parseMethodDescriptor x.desc).map (fun d => d.parameters.length) = some na) ∧ maxL ≤ 41) ∧ x.name = "<init>" ∧ Cond.instanceMethod x ∈ zgw) (hna : As.length = na) (hR : d' + 1 ≤ dR) (hk : k + kc = k') (hn' : n + ks = n') (hcc : k' ≤ kR) (hs : n' ≤ sR) (hst : st = As.reverse ++ .ref q :: rest) (hW : (rest.map fun v => v.category).sum ≤ 8) (d : decode cc pc = .ok (.invokespecial index, 3)) (K : ∀ w1, Post w1 → zB p l e (zrn dR kR sR) s m args below meth c nL D A Z k' n' (pc + 3) ls rest (ws ++ w1)) : zB p l e (zrn dR kR sR) s m args below meth c nL D A Z k n pc ls st (ws ++ [(q, o0)]) := by
  intro H locs la hP hD hS hl
  subst hst
  subst hk
  subst hn'
  obtain ⟨h1, ⟨h2, h3, h4, h5⟩, hx, hi⟩ := cb
  have hq : (ws ++ [(q, o0)])[ws.length]? = some (q, o0) := by simp
  have hF : ∀ a, va_A [(q, o0)] H.size a → A a := by
    intro a h
    rcases h with ⟨k2, e2, h⟩ | h
    · have hz : k2 = 0 := by
        have := (List.getElem?_eq_some_iff.mp h).1
        simpa using this
      subst hz
      have he : (q, o0) = (a, e2) := by simpa using h
      cases he
      exact hD.2 _ _ hq
    · exact M.2.2.2.2.2.2.2.2.1 a (Nat.le_trans hS.1 h)
  have hP0 : va_P D vwCl [(q, o0)] H := fun k2 x2 h => by
    have hz : k2 = 0 := by
      have := (List.getElem?_eq_some_iff.mp h).1
      simpa using this
    subst hz
    cases h
    exact hP _ _ hq
  refine va_callv (va_runIN (host := "OneAlwaysUp") (As := As) (rest := rest) ⟨M.1, M.2.1, M.2.2.1, M.2.2.2.1, M.2.2.2.2.1⟩ (hM H.size) ⟨va_cnB na M.2.2.2.2.1 (zgood h2) rfl rfl rfl (h1 M.2.2.2.2.2.2.2.2.2.2) (M.2.2.2.2.1 _ h3) h4 ⟨hR, by show 8 + (maxL + 11) + 60 * d' ≤ 60 * dR; omega⟩, hx, M.2.2.2.2.1 _ hi⟩ ⟨fun a U g mk z => ⟨z.1, z.2.1, z.2.2.1, zKK.same (u := U) (U := U.calling g mk a) (H := U.heap) rfl z.2.2.2.1, zNE.same (u := U) (U := U.calling g mk a) rfl z.2.2.2.2⟩, fun U hU hW => ⟨rfl, by rw [hU], by rw [hU]; exact hP0, by rw [hU]; exact (zKK.warm hW (M.2.2.2.2.2.2.2.1.kept hS.2.1)).narrow hF, M.2.2.2.2.2.2.2.2.2.2.warm hW⟩⟩ rfl hna hl.1 rfl (lv_room hW) d ⟨hcc, hs⟩) hS (fun a _ h => hF a h) hF (fun w1 t H1 locs1 ht hvm hw hB hz1 hk1 hS1 => ?_)
  have hB : va_P D vwCl w1 t.heap ∧ va_D (va_A [(q, o0)] H.size) w1 := hB
  rw [ht] at hB
  obtain ⟨hP2, hD2⟩ := yb_join hP hD hk1 hF hB.1 hB.2
  exact K w1 hw H1 locs1 la hP2 hD2 hS1 hl
end zBuild
theorem yb_enter {l : Launch} {D : va_G} {cA : Nat → ClassId} {y : zX} {d kc ks : Nat} {x : MethodName} {bytes : ByteArray} {maxL h0 : Nat} {o0 : va_E} {As : List Value} {Post : va_W → Prop} (hy : plainName x.cls = true) (hnm : x.name = "<init>") (hlen : (lg_sl (.ref h0 :: As)).length ≤ maxL)
    (body : ∀ (A : Nat → Prop) (p : Program) (e : Env) (s : State) (m : MethodId) (below : List Frame) (meth : Method) (c : Code), zMB p s m (Value.ref h0 :: As).toArray meth c bytes maxL x.cls D cA A y → zB p l e (zrn d kc ks) s m (Value.ref h0 :: As).toArray below meth c maxL D A (MQ below (va_Qv Post (fun w1 t => va_P D vwCl w1 t.heap ∧ va_D A w1) A) (Value.ref h0 :: As).toArray s kc ks A) 0 0 0 (lv_args 0 (.ref h0 :: As)) [] [(h0, o0)]) : zMk l D cA y d kc ks x bytes maxL h0 o0 As Post := by
  intro sz
  refine Met.ofW (cc := bytes) (maxL := maxL) (ret := none) hy rfl ?_
  intro p e s m args below meth c s₁ B hml hv
  obtain ⟨rfl, hsz, hP, hK, hNE⟩ := hv
  subst hsz
  have hts := atoms_spec (ws := Cond.code x bytes maxL none :: zgw) B.pre
  have hown : s.vm.findClass x.cls = some m.cls := findClass_of_methodNamed B.named
  have hin : meth.name = "<init>" := ((name_of_methodNamed B.named B.method).1).trans hnm
  have hl := lv_entry (.ref h0 :: As) (n := maxL) hlen
  rw [lg_entry_eq]
  exact body _ p e s m below meth c ⟨B.exec, B.bytes, hml, hown, fun w hw => hts w (List.mem_cons_of_mem _ hw), B.notSynchronized, B.returns, hK, fun q h => Or.inr h, hin, hNE⟩ s.heap [] _ hP yb_one va_S.rf hl
section zBuild1
variable {p : Program} {l : Launch} {e : Env} {R : Room} {s : State} {m : MethodId} {args : Array Value} {below : List Frame} {meth : Method} {c : Code} {cc : ByteArray} {nL : Nat} {own : String} {D : va_G} {cA : Nat → ClassId} {A : Nat → Prop} {y : zX} {Z : State → Prop} {k n k' n' pc index : Nat} {ls : List (Nat × Value)} {st rest : List Value} {ws : va_W} {x0 : Nat × va_E}
theorem yb_newa1 (M : zMB p s m args meth c cc nL own D cA A y) {v : Int32} {N : Nat} (harr : Cond.arrayClass .int ∈ zgw) (hn : ¬ v < 0) (hN : v.toNatClampNeg = N) (hb : N * 4 ≤ 536870912) (hk : k + 1 = k') (hn' : n + N = n') (hc : k' ≤ R.cells) (hs : n' ≤ R.slots) (d : decode cc pc = .ok (.newarray .int, 2)) (K : ∀ q, zB p l e R s m args below meth c nL D A Z k' n' (pc + 2) ls (.ref q :: st) (x0 :: (ws ++ [(q, .inl (cA 0, N, .inl (fun _ => 0)))]))) : zB p l e R s m args below meth c nL D A Z k n pc ls (.int v :: st) (x0 :: ws) := yb_newa M harr hn hN hb hk hn' hc hs d K
theorem yb_newz1 (M : zMB p s m args meth c cc nL own D cA A y) {v : Int32} {N : Nat} (harr : Cond.arrayClass .boolean ∈ zgw) (hn : ¬ v < 0) (hN : v.toNatClampNeg = N) (hb : N * componentBytes .boolean ≤ 536870912) (hk : k + 1 = k') (hn' : n + N = n') (hc : k' ≤ R.cells) (hs : n' ≤ R.slots) (d : decode cc pc = .ok (.newarray .boolean, 2)) (K : ∀ q, zB p l e R s m args below meth c nL D A Z k' n' (pc + 2) ls (.ref q :: st) (x0 :: (ws ++ [(q, .inl (cA 1, N, .inl (fun _ => 0)))]))) : zB p l e R s m args below meth c nL D A Z k n pc ls (.int v :: st) (x0 :: ws) := yb_newz M harr hn hN hb hk hn' hc hs d K
theorem yb_newq1 (M : zMB p s m args meth c cc nL own D cA A y) {v : Int32} {N t : Nat} {C : String} (hcl : Cond.classLink own index C ∈ zgw) (hao : va_AO C s) (ht : (ztys cA)[t]? = some (cA t, .object C)) (hn : ¬ v < 0) (hN : v.toNatClampNeg = N) (hb : N * 4 ≤ 536870912) (hk : k + 1 = k') (hn' : n + N = n') (hc : k' ≤ R.cells) (hs : n' ≤ R.slots) (d : decode cc pc = .ok (.anewarray index, 3)) (K : ∀ q, zB p l e R s m args below meth c nL D A Z k' n' (pc + 3) ls (.ref q :: st) (x0 :: (ws ++ [(q, .inl (cA t, N, .inr (.inr (.inr (.inr (fun _ => none))))))]))) : zB p l e R s m args below meth c nL D A Z k n pc ls (.int v :: st) (x0 :: ws) := yb_newq M hcl hao ht hn hN hb hk hn' hc hs d K
theorem yb_new1 (M : zMB p s m args meth c cc nL own D cA A y) {C : String} {T : u_T} {N ci : Nat} (hin : ∀ w ∈ u_ws C T N, w ∈ zgw) (ty : Nat → FieldType) (hty : ∀ k, k < N → parseFieldDescriptor (T k).2.2.1 = some (ty k)) (hcl : Cond.classLink own index C ∈ zgw) (hinst : Cond.instantiable C N ∈ zgw) (hini : Cond.initialized C ∈ zgw) (hc : vwCl[ci]? = some (C, T, N)) (fs : List Value) (hfs : ∀ j, j < N → defaultValue (ty j) = vp_V fs j) (hk : k + 1 = k') (hn' : n + N = n') (hcc : k' ≤ R.cells) (hs : n' ≤ R.slots) (d : decode cc pc = .ok (.new index, 3)) (K : ∀ q, zB p l e R s m args below meth c nL D A Z k' n' (pc + 3) ls (.ref q :: st) (x0 :: (ws ++ [(q, .inr (ci, fs))]))) : zB p l e R s m args below meth c nL D A Z k n pc ls st (x0 :: ws) := yb_new M hin ty hty hcl hinst hini hc fs hfs hk hn' hcc hs d K
theorem yb_init1 {x : MethodName} {bytes : ByteArray} {maxL d' dR kc ks kR sR na : Nat} {q : Nat} {o0 : va_E} {As : List Value} {Post : va_W → Prop} (M : zMB p s m args meth c cc nL own D cA A y) (hM : zMk l D cA y d' kc ks x bytes maxL q o0 As Post) (cb : zCB own index x bytes maxL none na ∧ x.name = "<init>" ∧ Cond.instanceMethod x ∈ zgw) (hna : As.length = na) (hR : d' + 1 ≤ dR) (hk : k + kc = k') (hn' : n + ks = n') (hcc : k' ≤ kR) (hs : n' ≤ sR) (hst : st = As.reverse ++ .ref q :: rest) (hW : (rest.map fun v => v.category).sum ≤ 8) (d : decode cc pc = .ok (.invokespecial index, 3)) (K : ∀ w1, Post w1 → zB p l e (zrn dR kR sR) s m args below meth c nL D A Z k' n' (pc + 3) ls rest (x0 :: (ws ++ w1))) : zB p l e (zrn dR kR sR) s m args below meth c nL D A Z k n pc ls st (x0 :: (ws ++ [(q, o0)])) := yb_init (ws := x0 :: ws) M hM cb hna hR hk hn' hcc hs hst hW d K
theorem yb_initN1 {x : MethodName} {bytes : ByteArray} {maxL d' dR kc ks kR sR na : Nat} {q : Nat} {o0 : va_E} {As : List Value} {Post : va_W → Prop} (M : zMB p s m args meth c cc nL own D cA A y) (hM : zMk l D cA y d' kc ks x bytes maxL q o0 As Post) (cb : (zNE s → va_Nw (.methodLinkNest own index x "OneAlwaysUp") s) ∧ (Cond.code x bytes maxL none ∈ zgw ∧ Cond.initialized x.cls ∈ zgw ∧ (x.cls ≠ "java/lang/invoke/MethodHandle" ∧ x.cls ≠ "java/lang/invoke/VarHandle" ∧ (parseMethodDescriptor x.desc).map (fun d => d.parameters.length) = some na) ∧ maxL ≤ 41) ∧ x.name = "<init>" ∧ Cond.instanceMethod x ∈ zgw) (hna : As.length = na) (hR : d' + 1 ≤ dR) (hk : k + kc = k') (hn' : n + ks = n') (hcc : k' ≤ kR) (hs : n' ≤ sR) (hst : st = As.reverse ++ .ref q :: rest) (hW : (rest.map fun v => v.category).sum ≤ 8) (d : decode cc pc = .ok (.invokespecial index, 3)) (K : ∀ w1, Post w1 → zB p l e (zrn dR kR sR) s m args below meth c nL D A Z k' n' (pc + 3) ls rest (x0 :: (ws ++ w1))) : zB p l e (zrn dR kR sR) s m args below meth c nL D A Z k n pc ls st (x0 :: (ws ++ [(q, o0)])) := yb_initN (ws := x0 :: ws) M hM cb hna hR hk hn' hcc hs hst hW d K
theorem yb_set {cl : List vw_C} {H H1 : Heap} {i a : Nat} {e0 e1 : va_E} (hP : va_P D cl ws H) (hD : va_D A ws) (he : ws[i]? = some (a, e0)) (hat : va_at D cl (a, e1) H1) (hk : ∀ q, q < H.size → q ≠ a → H1[q]? = H[q]?) : va_P D cl (ws.set i (a, e1)) H1 := by
  intro k2 x2 hx
  have hl : i < ws.length := (List.getElem?_eq_some_iff.mp he).1
  by_cases hi : k2 = i
  · subst hi
    rw [List.getElem?_set_self hl] at hx
    cases hx
    exact hat
  · rw [List.getElem?_set_ne (Ne.symm hi)] at hx
    exact (hP k2 x2 hx).kept (hk x2.1 (hP k2 x2 hx).lt (fun h => hi (hD.1 k2 i x2 _ hx he h)))
/-- Arrays.fill on one array of the world -/
theorem yb_fill {dR kR sR N : Nat} {v : Int32} {f : Nat → Int32} {ad : Nat → Nat} (i : Nat) (M : zMB p s m args meth c cc nL own D cA A y) (hw : Cond.methodLink own index yJ7_fill_53178 ∈ zgw) (he : ws[i]? = some (ad 0, .inl (cA 0, N, .inl f))) (hN : N ≤ 100000) (d : decode cc pc = .ok (.invokestatic index, 3)) (hst : st = .int v :: .ref (ad 0) :: rest) (hR : 2 ≤ dR) (hW : (rest.map fun v => v.category).sum ≤ 8) (hkR : k ≤ kR) (hsR : n ≤ sR) {ws' : va_W} (hws : ws.set i (ad 0, .inl (cA 0, N, .inl (fun j => if j < N then v else f j))) = ws') (K : zB p l e (zrn dR kR sR) s m args below meth c nL D A Z k n (pc + 3) ls rest ws') : zB p l e (zrn dR kR sR) s m args below meth c nL D A Z k n pc ls st ws := by
  intro H locs la hP hD hS hl
  subst hst
  subst hws
  have hI : zInj [.inl (N, 0)] ad := fun i j hi hj _ => by simp at hi hj; omega
  have hF : ∀ a, zIn [.inl (N, 0)] ad a → A a := by
    rintro a ⟨o, ho, rfl⟩
    have : o = 0 := by simpa using ho
    subst this
    exact hD.2 _ _ he
  have hP0 : va_P D vwCl (zws [.inl (N, 0)] cA ad ((fun _ => f), 0)) H := fun k2 x2 h => by
    have hz : k2 = 0 := by
      have := (List.getElem?_eq_some_iff.mp h).1
      simpa [zws] using this
    subst hz
    cases h
    exact hP _ _ he
  refine va_callv (va_runS (As := [.ref (ad 0), .int v]) (rest := rest) ⟨M.1, M.2.1, M.2.2.1, M.2.2.2.1, M.2.2.2.2.1⟩ (kJ_fill (l := l) (D := D) (cA := cA) (y := y) hI hN rfl v ((fun _ => f), 0) (fun s1 => s1 = zfill ((fun _ => f), 0) 0 N v) rfl) ⟨callB_of 2 M.2.2.2.2.1 (zgood zwfil.1) rfl rfl rfl (M.2.2.2.2.1 _ zwfil.2.1) (M.2.2.2.2.1 _ hw) ⟨by decide +kernel, by decide +kernel, by decide +kernel⟩ ⟨hR, by show 8 + (4 + 11) + 60 * 1 ≤ 60 * dR; omega⟩, M.2.2.2.2.1 _ zwfil.2.2⟩ ⟨zPc_blind _ D cA ad y _ _, fun U hU hW => ⟨rfl, by rw [hU]; exact hP0, by rw [hU]; exact (zKK.warm hW (M.2.2.2.2.2.2.2.1.kept hS.2.1)).narrow hF⟩⟩ rfl rfl hl.1 rfl (lv_room hW) d ⟨hkR, hsR⟩) hS (fun a _ h => hF a h) hF (fun w1 t H1 locs1 ht hvm hw hB hz1 hk1 hS1 => ?_)
  have hB : va_P D vwCl (zws [.inl (N, 0)] cA ad w1) t.heap := hB
  rw [ht] at hB
  subst hw
  refine K H1 locs1 la (yb_set hP hD he (hB 0 _ rfl) (fun q h1 h2 => hk1 q h1 ?_)) (hD.set he) hS1 hl
  rintro ⟨o, ho, rfl⟩
  have : o = 0 := by simpa using ho
  subst this
  exact h2 rfl
end zBuild1
