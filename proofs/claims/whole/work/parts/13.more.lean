theorem zif {c A B : Prop} [Decidable c] (h : if c then A else B) (hc : c) : A := by rwa [if_pos hc] at h
theorem zifn {c A B : Prop} [Decidable c] (h : if c then A else B) (hc : ¬ c) : B := by rwa [if_neg hc] at h
theorem zlit {i : Int32} {n : Nat} (h : (decide (i < 0) || decide (n ≤ i.toNatClampNeg)) = false) : vp_in i n := by unfold vp_in; simpa using h
theorem zclt {i : Int32} {n : Nat} (h : vp_in i n) : i.toNatClampNeg < n := Nat.not_le.mp fun q => h (Or.inr q)
theorem zsub {ws : List Cond} (ps : List Nat) (hp : ws = ps.filterMap (fun i => tables_1[i]?)) (h : ws.all goodWord = true) : ∀ w ∈ ws, w ∈ zgw := by
  intro w hw
  have h1 := List.all_eq_true.mp h w hw
  rw [hp] at hw
  obtain ⟨i, -, hi⟩ := List.mem_filterMap.mp hw
  exact zint (List.mem_of_getElem? hi) h1
section zMore
variable {p : Program} {l : Launch} {e : Env} {R : Room} {s : State} {m : MethodId} {args : Array Value} {below : List Frame} {meth : Method} {c : Code} {cc : ByteArray} {nL : Nat} {own : String} {ret : Option FieldType} {tab : List zSh} {D : va_G} {cA : Nat → ClassId} {ad : Nat → Nat} {y : zX} {Z : State → Prop} {pc : Nat} {ls : List (Nat × Value)} {st rest : List Value} {σ : zSt}
theorem zz_getI (M : zM p s m args meth c cc nL own ret tab D cA ad y) {index ci j o : Nat} {fin : Bool} {ty : FieldType} {tm : List (Nat ⊕ Nat)} (fb : zFB own index ci j fin ty) (ht : tab[o]? = some (.inr (.inr (ci, tm)))) (hj : tm[j]? = some (.inl 0)) (d : decode cc pc = .ok (.getfield index, 3)) (k : zG p l e R s m args below meth c nL tab D cA ad Z (pc + 3) (ls) (.int (σ.1 o j) :: st) (σ)) : zG p l e R s m args below meth c nL tab D cA ad Z (pc) (ls) (.ref (ad o) :: st) (σ) := zz_get M fb ht hj d k
theorem zz_getL (M : zM p s m args meth c cc nL own ret tab D cA ad y) {index ci j o : Nat} {fin : Bool} {ty : FieldType} {tm : List (Nat ⊕ Nat)} (fb : zFB own index ci j fin ty) (ht : tab[o]? = some (.inr (.inr (ci, tm)))) (hj : tm[j]? = some (.inl 1)) (d : decode cc pc = .ok (.getfield index, 3)) (k : zG p l e R s m args below meth c nL tab D cA ad Z (pc + 3) (ls) (.long σ.2 :: st) (σ)) : zG p l e R s m args below meth c nL tab D cA ad Z (pc) (ls) (.ref (ad o) :: st) (σ) := zz_get M fb ht hj d k
theorem zz_getR (M : zM p s m args meth c cc nL own ret tab D cA ad y) {index ci j o : Nat} {fin : Bool} {ty : FieldType} {tm : List (Nat ⊕ Nat)} {o2 : Nat} (fb : zFB own index ci j fin ty) (ht : tab[o]? = some (.inr (.inr (ci, tm)))) (hj : tm[j]? = some (.inr o2)) (d : decode cc pc = .ok (.getfield index, 3)) (k : zG p l e R s m args below meth c nL tab D cA ad Z (pc + 3) (ls) (.ref (ad o2) :: st) (σ)) : zG p l e R s m args below meth c nL tab D cA ad Z (pc) (ls) (.ref (ad o) :: st) (σ) := zz_get M fb ht hj d k
theorem zz_getD (M : zM p s m args meth c cc nL own ret tab D cA ad y) {index ci j o : Nat} {fin : Bool} {ty : FieldType} {tm : List (Nat ⊕ Nat)} {b n : Nat} (fb : zFB own index ci j fin ty) (ht : tab[o]? = some (.inr (.inr (ci, tm)))) (hj : tm[j]? = some (.inl (b + 2))) (hin : vp_in (σ.1 o j) n) (d : decode cc pc = .ok (.getfield index, 3)) (k : zG p l e R s m args below meth c nL tab D cA ad Z (pc + 3) (ls) (.ref (ad (b + (σ.1 o j).toNatClampNeg)) :: st) (σ)) : zG p l e R s m args below meth c nL tab D cA ad Z (pc) (ls) (.ref (ad o) :: st) (σ) := by
  refine zz_get M fb ht hj d ?_
  have hz : zfv ad (σ.1 o) σ.2 j (.inl (b + 2)) = .ref (ad (b + (σ.1 o j).toNatClampNeg)) := by
    simp only [zfv]
    exact if_neg (fun h => hin (Or.inl h))
  rw [hz]
  exact k
theorem zz_putI (M : zM p s m args meth c cc nL own ret tab D cA ad y) {index ci j o : Nat} {tm : List (Nat ⊕ Nat)} {v : Int32} (fb : zFB own index ci j false .int) (ht : tab[o]? = some (.inr (.inr (ci, tm)))) (hj : tm[j]? = some (.inl 0)) (d : decode cc pc = .ok (.putfield index, 3)) (k : zG p l e R s m args below meth c nL tab D cA ad Z (pc + 3) (ls) (st) (zput σ o j v)) : zG p l e R s m args below meth c nL tab D cA ad Z (pc) (ls) (.int v :: .ref (ad o) :: st) (σ) := zz_putG M fb ht hj rfl rfl (zws_put ht hj) d k
theorem zz_putZ (M : zM p s m args meth c cc nL own ret tab D cA ad y) {index ci j o : Nat} {tm : List (Nat ⊕ Nat)} {v : Int32} (fb : zFB own index ci j false .boolean) (ht : tab[o]? = some (.inr (.inr (ci, tm)))) (hj : tm[j]? = some (.inl 0)) (hv : v = 0 ∨ v = 1) (d : decode cc pc = .ok (.putfield index, 3)) (k : zG p l e R s m args below meth c nL tab D cA ad Z (pc + 3) (ls) (st) (zput σ o j v)) : zG p l e R s m args below meth c nL tab D cA ad Z (pc) (ls) (.int v :: .ref (ad o) :: st) (σ) := zz_putG M fb ht hj (by rcases hv with rfl | rfl <;> rfl) (by rcases hv with rfl | rfl <;> rfl) (zws_put ht hj) d k
theorem zz_putL (M : zM p s m args meth c cc nL own ret tab D cA ad y) {index ci j o : Nat} {tm : List (Nat ⊕ Nat)} {v : Int64} (fb : zFB own index ci j false .long) (ht : tab[o]? = some (.inr (.inr (ci, tm)))) (hj : tm[j]? = some (.inl 1)) (hu : ∀ i q, i ≠ o → tab[i]? = some (.inr (.inr q)) → ∀ t ∈ q.2, t ≠ .inl 1) (hv : ∀ i t, i ≠ j → tm[i]? = some t → t ≠ .inl 1) (d : decode cc pc = .ok (.putfield index, 3)) (k : zG p l e R s m args below meth c nL tab D cA ad Z (pc + 3) (ls) (st) (zputL σ v)) : zG p l e R s m args below meth c nL tab D cA ad Z (pc) (ls) (.long v :: .ref (ad o) :: st) (σ) := zz_putG M fb ht hj rfl rfl (zws_putL ht hj hu hv) d k
theorem zz_putD (M : zM p s m args meth c cc nL own ret tab D cA ad y) {index ci j o : Nat} {tm : List (Nat ⊕ Nat)} {b q : Nat} {C : String} (fb : zFB own index ci j false (.object C)) (hq : q < 2147483648) (ht : tab[o]? = some (.inr (.inr (ci, tm)))) (hj : tm[j]? = some (.inl (b + 2))) (d : decode cc pc = .ok (.putfield index, 3)) (k : zG p l e R s m args below meth c nL tab D cA ad Z (pc + 3) (ls) (st) (zput σ o j (nI q))) : zG p l e R s m args below meth c nL tab D cA ad Z (pc) (ls) (.ref (ad (b + q)) :: .ref (ad o) :: st) (σ) := zz_putG M fb ht hj rfl rfl (zws_putD hq ht hj) d k
theorem zz_ialdK (M : zM p s m args meth c cc nL own ret tab D cA ad y) {o n kk : Nat} {i : Int32} (ht : tab[o]? = some (.inl (n, 0))) (hin : vp_in i n) (hk : i.toNatClampNeg = kk) (d : decode cc pc = .ok (.iaload, 1)) (k : zG p l e R s m args below meth c nL tab D cA ad Z (pc + 1) (ls) (.int (σ.1 o kk) :: st) (σ)) : zG p l e R s m args below meth c nL tab D cA ad Z (pc) (ls) (.int i :: .ref (ad o) :: st) (σ) := zz_iald M ht hin d (by rw [hk]; exact k)
theorem zz_zaldK (M : zM p s m args meth c cc nL own ret tab D cA ad y) {o n kk : Nat} {i : Int32} (ht : tab[o]? = some (.inl (n, 1))) (hin : vp_in i n) (hk : i.toNatClampNeg = kk) (d : decode cc pc = .ok (.baload, 1)) (k : zG p l e R s m args below meth c nL tab D cA ad Z (pc + 1) (ls) (.int (σ.1 o kk) :: st) (σ)) : zG p l e R s m args below meth c nL tab D cA ad Z (pc) (ls) (.int i :: .ref (ad o) :: st) (σ) := zz_zald M ht hin d (by rw [hk]; exact k)
theorem zz_iastK (M : zM p s m args meth c cc nL own ret tab D cA ad y) {o n kk : Nat} {i x : Int32} (ht : tab[o]? = some (.inl (n, 0))) (hin : vp_in i n) (hk : i.toNatClampNeg = kk) (d : decode cc pc = .ok (.iastore, 1)) (k : zG p l e R s m args below meth c nL tab D cA ad Z (pc + 1) (ls) (st) (zput σ o kk x)) : zG p l e R s m args below meth c nL tab D cA ad Z (pc) (ls) (.int x :: .int i :: .ref (ad o) :: st) (σ) := zz_iast M ht hin d (by rw [hk]; exact k)
theorem zz_zastK (M : zM p s m args meth c cc nL own ret tab D cA ad y) {o n kk : Nat} {i x : Int32} (ht : tab[o]? = some (.inl (n, 1))) (hin : vp_in i n) (hk : i.toNatClampNeg = kk) (hx : vp_nar .boolean x = x) (d : decode cc pc = .ok (.bastore, 1)) (k : zG p l e R s m args below meth c nL tab D cA ad Z (pc + 1) (ls) (st) (zput σ o kk x)) : zG p l e R s m args below meth c nL tab D cA ad Z (pc) (ls) (.int x :: .int i :: .ref (ad o) :: st) (σ) := zz_zast M ht hin hx d (by rw [hk]; exact k)
theorem zz_tinK (M : zM p s m args meth c cc nL own ret tab D cA ad y) {dflt lo hi : Int} {offs : Array Int} {len : Nat} {x v : Int32} {off : Int} (hx : x = v) (tgt : Nat) (d : decode cc pc = .ok (.tableswitch dflt lo hi offs, len)) (h1 : ¬ v.toInt < lo) (h2 : ¬ hi < v.toInt) (ho : offs[(v.toInt - lo).toNat]? = some off) (ht : (pc : Int) + off = (tgt : Int)) (k : zG p l e R s m args below meth c nL tab D cA ad Z (tgt) (ls) (st) (σ)) : zG p l e R s m args below meth c nL tab D cA ad Z (pc) (ls) (.int x :: st) (σ) := by
  subst hx
  exact zz_tin M tgt d h1 h2 ho ht k
theorem zz_ldcS (M : zM p s m args meth c cc nL own ret tab D cA ad y) {i index : Nat} {tx : String} (hs : zstr[i]? = some (own, index, tx)) (d : decode cc pc = .ok (.ldc index, 2)) (k : zG p l e R s m args below meth c nL tab D cA ad Z (pc + 2) (ls) (.ref (y.1 i) :: st) (σ)) : zG p l e R s m args below meth c nL tab D cA ad Z (pc) (ls) (st) (σ) := fun H locs la hP hS hl => va_ldcS M.1 M.2.1 M.2.2.2.1 (M.2.2.2.2.2.2.2.1.2.2.1 i _ hs) d (k H locs la hP hS hl)
theorem zz_over (M : zM p s m args meth c cc nL own ret tab D cA ad y) {index : Nat} (hw : Cond.fieldLink own index "OneAlwaysUp" "OVER" "[I" ∈ zgw) (d : decode cc pc = .ok (.getstatic index, 3)) (k : zG p l e R s m args below meth c nL tab D cA ad Z (pc + 3) (ls) (.ref y.2.2.1 :: st) (σ)) : zG p l e R s m args below meth c nL tab D cA ad Z (pc) (ls) (st) (σ) := fun H locs la hP hS hl => va_gets M.1 M.2.1 M.2.2.2.2.2.2.2.1.2.2.2.2.1 hS M.2.2.2.1 (M.2.2.2.2.1 _ hw) (fun _ h => h) d (k H locs la hP hS hl)
theorem zz_overn (M : zM p s m args meth c cc nL own ret tab D cA ad y) (d : decode cc pc = .ok (.arraylength, 1)) (k : zG p l e R s m args below meth c nL tab D cA ad Z (pc + 1) (ls) (.int 6 :: st) (σ)) : zG p l e R s m args below meth c nL tab D cA ad Z (pc) (ls) (.ref y.2.2.1 :: st) (σ) := fun H locs la hP hS hl => va_tlen M.1 M.2.1 M.2.2.2.2.2.2.2.1.2.2.2.2.2.1 hS (v := 6) (by decide) d (k H locs la hP hS hl)
theorem zz_overl (M : zM p s m args meth c cc nL own ret tab D cA ad y) {i : Int32} (hin : vp_in i 6) (d : decode cc pc = .ok (.iaload, 1)) (k : zG p l e R s m args below meth c nL tab D cA ad Z (pc + 1) (ls) (.int (zover i.toNatClampNeg) :: st) (σ)) : zG p l e R s m args below meth c nL tab D cA ad Z (pc) (ls) (.int i :: .ref y.2.2.1 :: st) (σ) := fun H locs la hP hS hl => va_ti M.1 M.2.1 M.2.2.2.2.2.2.2.1.2.2.2.2.2.1 hS hin rfl d (k H locs la hP hS hl)
end zMore
section zMore2
variable {p : Program} {l : Launch} {e : Env} {d0 : Nat} {s : State} {m : MethodId} {args : Array Value} {below : List Frame} {meth : Method} {c : Code} {cc : ByteArray} {nL : Nat} {own : String} {ret : Option FieldType} {tab : List zSh} {D : va_G} {cA : Nat → ClassId} {ad : Nat → Nat} {y : zX} {Z : State → Prop} {pc index : Nat} {ls : List (Nat × Value)} {st rest : List Value} {σ : zSt}
theorem zz_copyK {o o' n0 n1 sk dk nk : Nat} {sp dp n : Int32} (M : zM p s m args meth c cc nL own ret tab D cA ad y) (hw : Cond.methodLink own index arraycopyName ∈ zgw) (hs : Cond.native arraycopyName ∈ zgw ∧ Cond.static arraycopyName ∈ zgw ∧ Cond.initialized "java/lang/System" ∈ zgw) (ht : tab[o]? = some (.inl (n0, 0))) (ht' : tab[o']? = some (.inl (n1, 0))) (hd : 1 ≤ d0) (hW : (st.map fun v => v.category).sum ≤ 8) (dg : decode cc pc = .ok (.invokestatic index, 3)) (hk : sp.toNatClampNeg = sk ∧ dp.toNatClampNeg = dk ∧ n.toNatClampNeg = nk) (h : (¬ sp < 0 ∧ ¬ dp < 0 ∧ ¬ n < 0) ∧ sk + nk ≤ n0 ∧ dk + nk ≤ n1)
    (k : zG p l e (zrm d0) s m args below meth c nL tab D cA ad Z (pc + 3) (ls) (st) (zcopy σ o sk o' dk nk)) : zG p l e (zrm d0) s m args below meth c nL tab D cA ad Z (pc) (ls) (.int n :: .int dp :: .ref (ad o') :: .int sp :: .ref (ad o) :: st) (σ) := by
  obtain ⟨rfl, rfl, rfl⟩ := hk
  exact zz_copy M hw hs ht ht' hd hW dg h k
end zMore2
theorem ztab0_3 {x : Int32} (c0 : ¬ x = 0) (c1 : ¬ x = 1) (c2 : ¬ x = 2) (c3 : ¬ x = 3) : x.toInt < 0 ∨ 3 < x.toInt := by
  have hne : ∀ v : Int32, ¬ x = v → x.toInt ≠ v.toInt := fun v h e => h (Int32.toInt_inj.mp e)
  have e0 : x.toInt ≠ 0 := by simpa using hne 0 c0
  have e1 : x.toInt ≠ 1 := by simpa using hne 1 c1
  have e2 : x.toInt ≠ 2 := by simpa using hne 2 c2
  have e3 : x.toInt ≠ 3 := by simpa using hne 3 c3
  omega
theorem ztab0_5 {x : Int32} (c0 : ¬ x = 0) (c1 : ¬ x = 1) (c2 : ¬ x = 2) (c3 : ¬ x = 3) (c4 : ¬ x = 4) (c5 : ¬ x = 5) : x.toInt < 0 ∨ 5 < x.toInt := by
  have hne : ∀ v : Int32, ¬ x = v → x.toInt ≠ v.toInt := fun v h e => h (Int32.toInt_inj.mp e)
  have e0 : x.toInt ≠ 0 := by simpa using hne 0 c0
  have e1 : x.toInt ≠ 1 := by simpa using hne 1 c1
  have e2 : x.toInt ≠ 2 := by simpa using hne 2 c2
  have e3 : x.toInt ≠ 3 := by simpa using hne 3 c3
  have e4 : x.toInt ≠ 4 := by simpa using hne 4 c4
  have e5 : x.toInt ≠ 5 := by simpa using hne 5 c5
  omega
theorem ztab0_7 {x : Int32} (c0 : ¬ x = 0) (c1 : ¬ x = 1) (c2 : ¬ x = 2) (c3 : ¬ x = 3) (c4 : ¬ x = 4) (c5 : ¬ x = 5) (c6 : ¬ x = 6) (c7 : ¬ x = 7) : x.toInt < 0 ∨ 7 < x.toInt := by
  have hne : ∀ v : Int32, ¬ x = v → x.toInt ≠ v.toInt := fun v h e => h (Int32.toInt_inj.mp e)
  have e0 : x.toInt ≠ 0 := by simpa using hne 0 c0
  have e1 : x.toInt ≠ 1 := by simpa using hne 1 c1
  have e2 : x.toInt ≠ 2 := by simpa using hne 2 c2
  have e3 : x.toInt ≠ 3 := by simpa using hne 3 c3
  have e4 : x.toInt ≠ 4 := by simpa using hne 4 c4
  have e5 : x.toInt ≠ 5 := by simpa using hne 5 c5
  have e6 : x.toInt ≠ 6 := by simpa using hne 6 c6
  have e7 : x.toInt ≠ 7 := by simpa using hne 7 c7
  omega
theorem ztab1_5 {x : Int32} (c1 : ¬ x = 1) (c2 : ¬ x = 2) (c3 : ¬ x = 3) (c4 : ¬ x = 4) (c5 : ¬ x = 5) : x.toInt < 1 ∨ 5 < x.toInt := by
  have hne : ∀ v : Int32, ¬ x = v → x.toInt ≠ v.toInt := fun v h e => h (Int32.toInt_inj.mp e)
  have e1 : x.toInt ≠ 1 := by simpa using hne 1 c1
  have e2 : x.toInt ≠ 2 := by simpa using hne 2 c2
  have e3 : x.toInt ≠ 3 := by simpa using hne 3 c3
  have e4 : x.toInt ≠ 4 := by simpa using hne 4 c4
  have e5 : x.toInt ≠ 5 := by simpa using hne 5 c5
  omega
theorem ztab0_6 {x : Int32} (c0 : ¬ x = 0) (c1 : ¬ x = 1) (c2 : ¬ x = 2) (c3 : ¬ x = 3) (c4 : ¬ x = 4) (c5 : ¬ x = 5) (c6 : ¬ x = 6) : x.toInt < 0 ∨ 6 < x.toInt := by
  have hne : ∀ v : Int32, ¬ x = v → x.toInt ≠ v.toInt := fun v h e => h (Int32.toInt_inj.mp e)
  have e0 : x.toInt ≠ 0 := by simpa using hne 0 c0
  have e1 : x.toInt ≠ 1 := by simpa using hne 1 c1
  have e2 : x.toInt ≠ 2 := by simpa using hne 2 c2
  have e3 : x.toInt ≠ 3 := by simpa using hne 3 c3
  have e4 : x.toInt ≠ 4 := by simpa using hne 4 c4
  have e5 : x.toInt ≠ 5 := by simpa using hne 5 c5
  have e6 : x.toInt ≠ 6 := by simpa using hne 6 c6
  omega
