/-! the world of one side: a table of shapes, a store, what a method of that side does to the store -/
abbrev zSh : Type := (Nat × Nat) ⊕ ((Nat × Nat × Nat) ⊕ (Nat × List (Nat ⊕ Nat)))
abbrev zSt : Type := (Nat → Nat → Int32) × Int64
def zrow (σ : zSt) (o : Nat) (f : Nat → Int32) : zSt := (fun a => if a = o then f else σ.1 a, σ.2)
def zput (σ : zSt) (o j : Nat) (v : Int32) : zSt := zrow σ o (upd (σ.1 o) j v)
def zputL (σ : zSt) (w : Int64) : zSt := (σ.1, w)
def zfv (ad : Nat → Nat) (f : Nat → Int32) (w : Int64) (j : Nat) : (Nat ⊕ Nat) → Value
  | .inl 0 => .int (f j)
  | .inl 1 => .long w
  | .inl (b + 2) => if f j < 0 then .null else .ref (ad (b + (f j).toNatClampNeg))
  | .inr o => .ref (ad o)
def zfs (ad : Nat → Nat) (f : Nat → Int32) (w : Int64) (tm : List (Nat ⊕ Nat)) : List Value := tm.mapIdx (fun j t => zfv ad f w j t)
def zcell (cA : Nat → ClassId) (ad : Nat → Nat) (σ : zSt) (o : Nat) : zSh → va_E
  | .inl q => .inl (cA q.2, q.1, .inl (σ.1 o))
  | .inr (.inl q) => .inl (cA q.1, q.2.1, .inr (.inr (.inr (.inr (fun j => some (ad (q.2.2 + j)))))))
  | .inr (.inr q) => .inr (q.1, zfs ad (σ.1 o) σ.2 q.2)
def zws (tab : List zSh) (cA : Nat → ClassId) (ad : Nat → Nat) (σ : zSt) : va_W := tab.mapIdx (fun o sh => (ad o, zcell cA ad σ o sh))
def zIn (tab : List zSh) (ad : Nat → Nat) : Nat → Prop := fun q => ∃ o, o < tab.length ∧ q = ad o
def zInj (tab : List zSh) (ad : Nat → Nat) : Prop := ∀ i j, i < tab.length → j < tab.length → ad i = ad j → i = j
abbrev ztys (cA : Nat → ClassId) : List (ClassId × FieldType) := [(cA 0, .int), (cA 1, .boolean), (cA 2, .object "OneAlwaysUp$Text"), (cA 3, .object "OneAlwaysUp$Sheet")]
theorem zws_at {tab : List zSh} {cA : Nat → ClassId} {ad : Nat → Nat} {σ : zSt} {o : Nat} {sh : zSh} (h : tab[o]? = some sh) : (zws tab cA ad σ)[o]? = some (ad o, zcell cA ad σ o sh) := by
  simp [zws, h]
theorem zlt {tab : List zSh} {o : Nat} {sh : zSh} (h : tab[o]? = some sh) : o < tab.length := (List.getElem?_eq_some_iff.mp h).1
theorem zws_set {tab : List zSh} {cA : Nat → ClassId} {ad : Nat → Nat} {σ σ' : zSt} {o : Nat} {sh : zSh} {e : va_E} (h : tab[o]? = some sh) (he : zcell cA ad σ' o sh = e) (ho : ∀ i sh', i ≠ o → tab[i]? = some sh' → zcell cA ad σ' i sh' = zcell cA ad σ i sh') : (zws tab cA ad σ).set o (ad o, e) = zws tab cA ad σ' := by
  apply List.ext_getElem?
  intro i
  have hl : o < (zws tab cA ad σ).length := by simp [zws]; exact zlt h
  by_cases hi : i = o
  · subst hi
    rw [zws_at h, he]
    simp [List.getElem?_set_self hl]
  · rw [List.getElem?_set_ne (Ne.symm hi)]
    cases ht : tab[i]? with
    | none => simp [zws, ht]
    | some sh' => rw [zws_at ht, zws_at ht, ho i sh' hi ht]
theorem zws_D {tab : List zSh} {cA : Nat → ClassId} {ad : Nat → Nat} {σ : zSt} (hI : zInj tab ad) : va_D (zIn tab ad) (zws tab cA ad σ) := by
  have at' : ∀ (i : Nat) (p : Nat × va_E), (zws tab cA ad σ)[i]? = some p → i < tab.length ∧ p.1 = ad i := by
    intro i p hp
    cases ht : tab[i]? with
    | none => simp [zws, ht] at hp
    | some sh =>
      rw [zws_at ht] at hp
      cases hp
      exact ⟨zlt ht, rfl⟩
  refine ⟨fun i j p q hp hq h => ?_, fun k q hk => ?_⟩
  · obtain ⟨h1, h2⟩ := at' i p hp
    obtain ⟨h3, h4⟩ := at' j q hq
    exact hI i j h1 h3 (by rw [← h2, ← h4]; exact h)
  · obtain ⟨h1, h2⟩ := at' k q hk
    exact ⟨k, h1, h2⟩
theorem zcell_row {cA : Nat → ClassId} {ad : Nat → Nat} {σ : zSt} {o i : Nat} {f : Nat → Int32} (h : i ≠ o) (sh : zSh) : zcell cA ad (zrow σ o f) i sh = zcell cA ad σ i sh := by
  match sh with
  | .inl q => simp [zcell, zrow, h]
  | .inr (.inl q) => rfl
  | .inr (.inr q) => simp [zcell, zrow, h]
theorem zfs_at {ad : Nat → Nat} {f : Nat → Int32} {w : Int64} {tm : List (Nat ⊕ Nat)} {j : Nat} {t : Nat ⊕ Nat} (h : tm[j]? = some t) : (zfs ad f w tm)[j]? = some (zfv ad f w j t) := by
  simp [zfs, h]
theorem zfs_set {ad : Nat → Nat} {f f' : Nat → Int32} {w : Int64} {tm : List (Nat ⊕ Nat)} {j : Nat} {t : Nat ⊕ Nat} {v : Value} (h : tm[j]? = some t) (hv : zfv ad f' w j t = v) (ho : ∀ i, i ≠ j → f' i = f i) : (zfs ad f w tm).set j v = zfs ad f' w tm := by
  apply List.ext_getElem?
  intro i
  have hl : j < (zfs ad f w tm).length := by simp [zfs]; exact (List.getElem?_eq_some_iff.mp h).1
  by_cases hi : i = j
  · subst hi
    rw [zfs_at h, hv]
    simp [List.getElem?_set_self hl]
  · rw [List.getElem?_set_ne (Ne.symm hi)]
    cases ht : tm[i]? with
    | none => simp [zfs, ht]
    | some t' =>
      rw [zfs_at ht, zfs_at ht]
      match t' with
      | .inl 0 => simp [zfv, ho i hi]
      | .inl 1 => rfl
      | .inl (b + 2) => simp [zfv, ho i hi]
      | .inr o => rfl
theorem upd_ne {f : Nat → Int32} {k i : Nat} {x : Int32} (h : i ≠ k) : upd f k x i = f i := by simp [upd, h]
theorem upd_eq {f : Nat → Int32} {k : Nat} {x : Int32} : upd f k x k = x := by simp [upd]
/-! the good words, and what a state gives besides: nest links, strings, constants -/
def zgw : List Cond := lw_tbl.filter goodWord
theorem zin {w : Cond} (h : w ∈ lw_tbl) (g : goodWord w = true) : w ∈ zgw := List.mem_filter.mpr ⟨h, g⟩
theorem zint {w : Cond} (h : w ∈ tables_1) (g : goodWord w = true) : w ∈ zgw := List.mem_filter.mpr ⟨List.mem_append_right _ h, g⟩
theorem zgood {y : MethodName} {b : ByteArray} {n : Nat} {r : Option FieldType} (h : Cond.code y b n r ∈ zgw) : GoodIn zgw (Cond.code y b n r :: zgw) := fun w hw => by
  have hm : w ∈ zgw := (List.mem_cons.mp hw).elim (fun e => by rw [e]; exact h) id
  exact ⟨hm, good_of_word (List.mem_filter.mp hm).2⟩
def znest : List Cond := [.methodLinkNest "OneAlwaysUp$Costs" 50 yX7_isMinute "OneAlwaysUp", .methodLinkNest "OneAlwaysUp$Costs" 54 yX7_isBridge "OneAlwaysUp", .methodLinkNest "OneAlwaysUp$Search" 131 yX7_isBridge "OneAlwaysUp", .methodLinkNest "OneAlwaysUp$Helm" 69 yX7_isBridge "OneAlwaysUp"]
def zstr : List (String × Nat × String) := [("OneAlwaysUp", 85, "ship waited * price ; cart waited * price ; change 1 ;"), ("OneAlwaysUp$Reader", 93, "waited"), ("OneAlwaysUp$Reader", 99, "price"), ("OneAlwaysUp$Reader", 101, "minute"), ("OneAlwaysUp$Reader", 103, "bridge"), ("OneAlwaysUp$Reader", 105, "was"), ("OneAlwaysUp$Reader", 107, "many"), ("OneAlwaysUp$Reader", 109, "ship"), ("OneAlwaysUp$Reader", 111, "cart"), ("OneAlwaysUp$Reader", 113, "change"), ("OneAlwaysUp$Reader", 115, "or"), ("OneAlwaysUp$Reader", 117, "and"), ("OneAlwaysUp$Reader", 119, "not")]
def zbyt : List (List Int32) := zstr.map (fun q => q.2.2.toList.map (fun ch => Int32.ofNat ch.toNat))
def zlen : List Nat := zbyt.map List.length
def zover (j : Nat) : Int32 := ([-1, 0, 0, 1, 2, 1] : List Int32).getD j 0
abbrev zX : Type := (Nat → Nat) × (Nat → Nat) × Nat × Value
def zKE (A : Nat → Prop) (y : zX) (U : State) (H : Heap) : Prop :=
  (∀ w ∈ znest, va_Nw w U) ∧ (∀ i q, zstr[i]? = some q → vk_R q.1 q.2.1 q.2.2 (y.1 i) U) ∧ vk_S 13 zlen zbyt y.1 y.2.1 A U H ∧ va_Z "OneAlwaysUp" "OVER" "[I" (.ref y.2.2.1) A U H ∧ va_T .int y.2.2.1 6 (fun j => .int (zover j)) A U H ∧ va_Z "java/lang/String" "COMPACT_STRINGS" "Z" (.int 1) A U H ∧ va_Z "jdk/internal/util/Preconditions" "SIOOBE_FORMATTER" "Ljava/util/function/BiFunction;" y.2.2.2 A U H ∧ y.2.2.2.category = 1
def zKK (D : va_G) (cA : Nat → ClassId) (A : Nat → Prop) (y : zX) (U : State) (H : Heap) : Prop := va_K D vwCl (ztys cA) U ∧ zKE A y U H
theorem zKE.kept {A : Nat → Prop} {y : zX} {U : State} {H H1 : Heap} (h : zKE A y U H) (hq : ∀ a : Nat, a < H.size → ¬ A a → H1[a]? = H[a]?) : zKE A y U H1 :=
  ⟨h.1, h.2.1, h.2.2.1.kept hq, h.2.2.2.1.kept hq, h.2.2.2.2.1.kept hq, h.2.2.2.2.2.1.kept hq, h.2.2.2.2.2.2.1.kept hq, h.2.2.2.2.2.2.2⟩
theorem zNw {a : String} {i : Nat} {x : MethodName} {h : String} {s U : State} (hW : s.WarmedH U.vm) (hZ : va_Nw (.methodLinkNest a i x h) s) : va_Nw (.methodLinkNest a i x h) U := va_Nw.warmM hW hZ
theorem zKE.warm {A : Nat → Prop} {y : zX} {s U : State} {H : Heap} (hW : s.WarmedH U.vm) (h : zKE A y s H) : zKE A y U H := by
  refine ⟨?_, fun i q hq => (h.2.1 i q hq).warm hW, h.2.2.1.moved hW.alike, h.2.2.2.1.moved hW.alike, h.2.2.2.2.1.moved hW.alike, h.2.2.2.2.2.1.moved hW.alike, h.2.2.2.2.2.2.1.moved hW.alike, h.2.2.2.2.2.2.2⟩
  have hn := h.1
  unfold znest at hn ⊢
  simp only [List.mem_cons, List.not_mem_nil, or_false, forall_eq_or_imp, forall_eq] at hn ⊢
  exact ⟨zNw hW hn.1, zNw hW hn.2.1, zNw hW hn.2.2.1, zNw hW hn.2.2.2⟩
theorem zKE.same {A : Nat → Prop} {y : zX} {u U : State} {H : Heap} (hv : U.vm = u.vm) (h : zKE A y u H) : zKE A y U H := by
  have ha : u.vm.Alike U.vm := by rw [hv]; exact Vm.Alike.refl _
  refine ⟨?_, fun i q hq => (h.2.1 i q hq).same hv, h.2.2.1.moved ha, h.2.2.2.1.moved ha, h.2.2.2.2.1.moved ha, h.2.2.2.2.2.1.moved ha, h.2.2.2.2.2.2.1.moved ha, h.2.2.2.2.2.2.2⟩
  have hn := h.1
  unfold znest at hn ⊢
  simp only [List.mem_cons, List.not_mem_nil, or_false, forall_eq_or_imp, forall_eq] at hn ⊢
  exact ⟨va_Nw.same rfl hv.symm hn.1, va_Nw.same rfl hv.symm hn.2.1, va_Nw.same rfl hv.symm hn.2.2.1, va_Nw.same rfl hv.symm hn.2.2.2⟩
theorem zKK.kept {D : va_G} {cA : Nat → ClassId} {A : Nat → Prop} {y : zX} {U : State} {H H1 : Heap} (h : zKK D cA A y U H) (hq : ∀ a : Nat, a < H.size → ¬ A a → H1[a]? = H[a]?) : zKK D cA A y U H1 := ⟨h.1, h.2.kept hq⟩
theorem zKK.warm {D : va_G} {cA : Nat → ClassId} {A : Nat → Prop} {y : zX} {s U : State} {H : Heap} (hW : s.WarmedH U.vm) (h : zKK D cA A y s H) : zKK D cA A y U H := ⟨va_K.moved hW.alike h.1, h.2.warm hW⟩
theorem zKK.same {D : va_G} {cA : Nat → ClassId} {A : Nat → Prop} {y : zX} {u U : State} {H : Heap} (hv : U.vm = u.vm) (h : zKK D cA A y u H) : zKK D cA A y U H := ⟨va_K.moved (by rw [hv]; exact Vm.Alike.refl _) h.1, h.2.same hv⟩
/-! the judgement -/
def zrm (d : Nat) : Room := { frames := d, cells := 0, slots := 0, locals := 60 * d }
def zM (p : Program) (s : State) (m : MethodId) (args : Array Value) (meth : Method) (c : Code) (cc : ByteArray) (nL : Nat) (own : String) (ret : Option FieldType) (tab : List zSh) (D : va_G) (cA : Nat → ClassId) (ad : Nat → Nat) (y : zX) : Prop :=
  p.tables.exec = Jvm.exec ∧ c.code = cc ∧ c.maxLocals = nL ∧ s.vm.findClass own = some m.cls ∧ (∀ w ∈ zgw, w.before args s = true) ∧ meth.locks = false ∧ meth.sig.returnType = ret ∧ zKK D cA (zIn tab ad) y s s.heap ∧ zInj tab ad
def zG (p : Program) (l : Launch) (e : Env) (R : Room) (s : State) (m : MethodId) (args : Array Value) (below : List Frame) (meth : Method) (c : Code) (nL : Nat) (tab : List zSh) (D : va_G) (cA : Nat → ClassId) (ad : Nat → Nat) (Z : State → Prop) (pc : Nat) (ls : List (Nat × Value)) (st : List Value) (σ : zSt) : Prop :=
  ∀ (H : Heap) (locs : List Loc) (la : Array Slot), va_P D vwCl (zws tab cA ad σ) H → va_S (zIn tab ad) s.heap H locs → lv_has la nL ls → W p l e R s m args below meth c H locs 0 0 Z (F0 m pc la st)
abbrev zPc (tab : List zSh) (D : va_G) (cA : Nat → ClassId) (ad : Nat → Nat) (y : zX) (av : List Value) (σ : zSt) : Array Value → State → Prop := va_Pc av (fun U => va_P D vwCl (zws tab cA ad σ) U.heap ∧ zKK D cA (zIn tab ad) y U U.heap)
def zOkI (l : Launch) (tab : List zSh) (D : va_G) (cA : Nat → ClassId) (ad : Nat → Nat) (y : zX) (d : Nat) (x : MethodName) (bytes : ByteArray) (maxL : Nat) (ret : Option FieldType) (av : List Value) (σ : zSt) (Q : Int32 → zSt → Prop) : Prop :=
  Met l x (Cond.code x bytes maxL ret :: zgw) (zrm d) (zPc tab D cA ad y av σ) (va_Qi Q (fun σ' t => va_P D vwCl (zws tab cA ad σ') t.heap) (zIn tab ad)) 0 0 (zIn tab ad)
def zOkL (l : Launch) (tab : List zSh) (D : va_G) (cA : Nat → ClassId) (ad : Nat → Nat) (y : zX) (d : Nat) (x : MethodName) (bytes : ByteArray) (maxL : Nat) (ret : Option FieldType) (av : List Value) (σ : zSt) (Q : Int64 → zSt → Prop) : Prop :=
  Met l x (Cond.code x bytes maxL ret :: zgw) (zrm d) (zPc tab D cA ad y av σ) (va_Ql Q (fun σ' t => va_P D vwCl (zws tab cA ad σ') t.heap) (zIn tab ad)) 0 0 (zIn tab ad)
def zOkV (l : Launch) (tab : List zSh) (D : va_G) (cA : Nat → ClassId) (ad : Nat → Nat) (y : zX) (d : Nat) (x : MethodName) (bytes : ByteArray) (maxL : Nat) (ret : Option FieldType) (av : List Value) (σ : zSt) (Q : zSt → Prop) : Prop :=
  Met l x (Cond.code x bytes maxL ret :: zgw) (zrm d) (zPc tab D cA ad y av σ) (va_Qv Q (fun σ' t => va_P D vwCl (zws tab cA ad σ') t.heap) (zIn tab ad)) 0 0 (zIn tab ad)
theorem zPc_blind (tab : List zSh) (D : va_G) (cA : Nat → ClassId) (ad : Nat → Nat) (y : zX) (av : List Value) (σ : zSt) : FrameBlind (zPc tab D cA ad y av σ) := fun a U g mk q => ⟨q.1, q.2.1, zKK.same (u := U) (U := U.calling g mk a) (H := U.heap) rfl q.2.2⟩
def zCB (own : String) (index : Nat) (x : MethodName) (bytes : ByteArray) (maxL : Nat) (ret : Option FieldType) (n : Nat) : Prop :=
  Cond.methodLink own index x ∈ zgw ∧ Cond.code x bytes maxL ret ∈ zgw ∧ Cond.initialized x.cls ∈ zgw ∧ (x.cls ≠ "java/lang/invoke/MethodHandle" ∧ x.cls ≠ "java/lang/invoke/VarHandle" ∧ (parseMethodDescriptor x.desc).map (fun d => d.parameters.length) = some n) ∧ maxL ≤ 41
def zCV (own : String) (index : Nat) (x : MethodName) (bytes : ByteArray) (maxL : Nat) (ret : Option FieldType) (n : Nat) : Prop :=
  zCB own index x bytes maxL ret n ∧ Cond.instanceMethod x ∈ zgw ∧ Cond.selects x.cls x x ∈ zgw
def zCS (own : String) (index : Nat) (x : MethodName) (bytes : ByteArray) (maxL : Nat) (ret : Option FieldType) (n : Nat) : Prop :=
  zCB own index x bytes maxL ret n ∧ Cond.static x ∈ zgw
def zCN (own : String) (index : Nat) (x : MethodName) (bytes : ByteArray) (maxL : Nat) (ret : Option FieldType) (n : Nat) : Prop :=
  Cond.methodLinkNest own index x "OneAlwaysUp" ∈ znest ∧ Cond.code x bytes maxL ret ∈ zgw ∧ Cond.initialized x.cls ∈ zgw ∧ (x.cls ≠ "java/lang/invoke/MethodHandle" ∧ x.cls ≠ "java/lang/invoke/VarHandle" ∧ (parseMethodDescriptor x.desc).map (fun d => d.parameters.length) = some n) ∧ maxL ≤ 41 ∧ Cond.static x ∈ zgw
/-- a field of a class of the worlds, as a class sees it by an entry of its pool -/
def zFB (own : String) (index ci j : Nat) (fin : Bool) (ty : FieldType) : Prop := ∃ (C : String) (T : u_T) (N : Nat), vwCl[ci]? = some (C, T, N) ∧ j < N ∧ (∀ w ∈ u_ws C T N, w ∈ zgw) ∧ Cond.fieldLink own index (T j).1 (T j).2.1 (T j).2.2.1 ∈ zgw ∧ (T j).2.2.2 = fin ∧ parseFieldDescriptor (T j).2.2.1 = some ty ∧ (∃ ty0 : Nat → FieldType, ∀ k, k < N → parseFieldDescriptor (T k).2.2.1 = some (ty0 k)) ∧ (∀ a, a < N → ∀ b, b < N → a ≠ b → (T a).2.1 ≠ (T b).2.1)
