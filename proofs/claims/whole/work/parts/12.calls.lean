section zCalls
variable {p : Program} {l : Launch} {e : Env} {d : Nat} {s : State} {m : MethodId} {args : Array Value} {below : List Frame} {meth : Method} {c : Code} {cc : ByteArray} {nL : Nat} {own : String} {ret : Option FieldType} {tab : List zSh} {D : va_G} {cA : Nat → ClassId} {ad : Nat → Nat} {y : zX} {Z : State → Prop} {pc : Nat} {ls : List (Nat × Value)} {st rest : List Value} {σ : zSt}
variable {d' index n maxL : Nat} {x : MethodName} {bytes : ByteArray} {ret' : Option FieldType} {As : List Value}
theorem zroom (hR : d' + 1 ≤ d) (hm : maxL ≤ 41) : (zrm d').frames + 1 ≤ (zrm d).frames ∧ 8 + (maxL + 11) + (zrm d').locals ≤ (zrm d).locals := by
  refine ⟨hR, ?_⟩
  show 8 + (maxL + 11) + 60 * d' ≤ 60 * d
  omega
theorem zcallB (M : zM p s m args meth c cc nL own ret tab D cA ad y) (cb : zCB own index x bytes maxL ret' n) (hR : d' + 1 ≤ d) : CallB (zrm d) s args own index x bytes maxL ret' (Cond.code x bytes maxL ret' :: zgw) (zrm d') 0 0 n := by
  obtain ⟨h1, h2, h3, h4, h5⟩ := cb
  exact callB_of n M.2.2.2.2.1 (zgood h2) rfl rfl rfl (M.2.2.2.2.1 _ h3) (M.2.2.2.2.1 _ h1) h4 (zroom hR h5)
theorem zpre {H : Heap} {locs : List Loc} {av : List Value} (M : zM p s m args meth c cc nL own ret tab D cA ad y) (hP : va_P D vwCl (zws tab cA ad σ) H) (hS : va_S (zIn tab ad) s.heap H locs) : ∀ U : State, U.heap = H → s.WarmedH U.vm → zPc tab D cA ad y av σ av.toArray U := fun U hU hW => by
  refine ⟨rfl, ?_, ?_⟩
  · rw [hU]; exact hP
  · rw [hU]; exact zKK.warm hW (M.2.2.2.2.2.2.2.1.kept hS.2.1)
theorem zrecv {H : Heap} {o ci : Nat} {tm : List (Nat ⊕ Nat)} {q : vw_C} (M : zM p s m args meth c cc nL own ret tab D cA ad y) (hP : va_P D vwCl (zws tab cA ad σ) H) (ht : tab[o]? = some (.inr (.inr (ci, tm)))) (hc : vwCl[ci]? = some q) : ∃ cell : Cell, H[ad o]? = some cell ∧ cell.vm.isStatics = false ∧ s.vm.findClass q.1 = some cell.cls := va_recv M.2.2.2.2.2.2.2.1.1 hP hc (zws_at ht)
theorem zz_callVI {o ci : Nat} {tm : List (Nat ⊕ Nat)} {q : vw_C} {Q' : Int32 → zSt → Prop} (M : zM p s m args meth c cc nL own ret tab D cA ad y) (cb : zCV own index x bytes maxL ret' n) (ht : tab[o]? = some (.inr (.inr (ci, tm)))) (hc : vwCl[ci]? = some q) (hq : q.1 = x.cls) (dg : decode cc pc = .ok (.invokevirtual index, 3)) (hn : As.length = n) (hst : st = As.reverse ++ .ref (ad o) :: rest) (hR : d' + 1 ≤ d) (hW : (rest.map fun v => v.category).sum ≤ 8) (hM : zOkI l tab D cA ad y d' x bytes maxL ret' (.ref (ad o) :: As) σ Q')
    (k : ∀ r σ', Q' r σ' → zG p l e (zrm d) s m args below meth c nL tab D cA ad Z (pc + 3) ls (.int r :: rest) σ') : zG p l e (zrm d) s m args below meth c nL tab D cA ad Z pc ls st σ := by
  intro H locs la hP hS hl
  subst hst
  refine va_calli (va_runV (As := As) (rest := rest) (C := x.cls) ⟨M.1, M.2.1, M.2.2.1, M.2.2.2.1, M.2.2.2.2.1⟩ hM ⟨zcallB M cb.1 hR, M.2.2.2.2.1 _ cb.2.1, M.2.2.2.2.1 _ cb.2.2⟩ ⟨zPc_blind tab D cA ad y _ σ, by rw [← hq]; exact zrecv M hP ht hc, zpre M hP hS⟩ rfl hn hl.1 rfl (lv_room hW) dg ⟨Nat.zero_le _, Nat.zero_le _⟩) hS (fun q _ h => h) (fun q h => h) (fun r u t H1 locs1 ht hvm hw hB hz1 hk1 hS1 => ?_)
  have hB : va_P D vwCl (zws tab cA ad u) t.heap := hB
  rw [ht] at hB
  exact k r u hw H1 locs1 la hB hS1 hl
theorem zz_callVL {o ci : Nat} {tm : List (Nat ⊕ Nat)} {q : vw_C} {Q' : Int64 → zSt → Prop} (M : zM p s m args meth c cc nL own ret tab D cA ad y) (cb : zCV own index x bytes maxL ret' n) (ht : tab[o]? = some (.inr (.inr (ci, tm)))) (hc : vwCl[ci]? = some q) (hq : q.1 = x.cls) (dg : decode cc pc = .ok (.invokevirtual index, 3)) (hn : As.length = n) (hst : st = As.reverse ++ .ref (ad o) :: rest) (hR : d' + 1 ≤ d) (hW : (rest.map fun v => v.category).sum ≤ 8) (hM : zOkL l tab D cA ad y d' x bytes maxL ret' (.ref (ad o) :: As) σ Q')
    (k : ∀ r σ', Q' r σ' → zG p l e (zrm d) s m args below meth c nL tab D cA ad Z (pc + 3) ls (.long r :: rest) σ') : zG p l e (zrm d) s m args below meth c nL tab D cA ad Z pc ls st σ := by
  intro H locs la hP hS hl
  subst hst
  refine va_calll (va_runV (As := As) (rest := rest) (C := x.cls) ⟨M.1, M.2.1, M.2.2.1, M.2.2.2.1, M.2.2.2.2.1⟩ hM ⟨zcallB M cb.1 hR, M.2.2.2.2.1 _ cb.2.1, M.2.2.2.2.1 _ cb.2.2⟩ ⟨zPc_blind tab D cA ad y _ σ, by rw [← hq]; exact zrecv M hP ht hc, zpre M hP hS⟩ rfl hn hl.1 rfl (lv_room hW) dg ⟨Nat.zero_le _, Nat.zero_le _⟩) hS (fun q _ h => h) (fun q h => h) (fun r u t H1 locs1 ht hvm hw hB hz1 hk1 hS1 => ?_)
  have hB : va_P D vwCl (zws tab cA ad u) t.heap := hB
  rw [ht] at hB
  exact k r u hw H1 locs1 la hB hS1 hl
theorem zz_callVV {o ci : Nat} {tm : List (Nat ⊕ Nat)} {q : vw_C} {Q' : zSt → Prop} (M : zM p s m args meth c cc nL own ret tab D cA ad y) (cb : zCV own index x bytes maxL ret' n) (ht : tab[o]? = some (.inr (.inr (ci, tm)))) (hc : vwCl[ci]? = some q) (hq : q.1 = x.cls) (dg : decode cc pc = .ok (.invokevirtual index, 3)) (hn : As.length = n) (hst : st = As.reverse ++ .ref (ad o) :: rest) (hR : d' + 1 ≤ d) (hW : (rest.map fun v => v.category).sum ≤ 8) (hM : zOkV l tab D cA ad y d' x bytes maxL ret' (.ref (ad o) :: As) σ Q')
    (k : ∀ σ', Q' σ' → zG p l e (zrm d) s m args below meth c nL tab D cA ad Z (pc + 3) ls rest σ') : zG p l e (zrm d) s m args below meth c nL tab D cA ad Z pc ls st σ := by
  intro H locs la hP hS hl
  subst hst
  refine va_callv (va_runV (As := As) (rest := rest) (C := x.cls) ⟨M.1, M.2.1, M.2.2.1, M.2.2.2.1, M.2.2.2.2.1⟩ hM ⟨zcallB M cb.1 hR, M.2.2.2.2.1 _ cb.2.1, M.2.2.2.2.1 _ cb.2.2⟩ ⟨zPc_blind tab D cA ad y _ σ, by rw [← hq]; exact zrecv M hP ht hc, zpre M hP hS⟩ rfl hn hl.1 rfl (lv_room hW) dg ⟨Nat.zero_le _, Nat.zero_le _⟩) hS (fun q _ h => h) (fun q h => h) (fun u t H1 locs1 ht hvm hw hB hz1 hk1 hS1 => ?_)
  have hB : va_P D vwCl (zws tab cA ad u) t.heap := hB
  rw [ht] at hB
  exact k u hw H1 locs1 la hB hS1 hl
theorem zz_callSI {Q' : Int32 → zSt → Prop} (M : zM p s m args meth c cc nL own ret tab D cA ad y) (cb : zCS own index x bytes maxL ret' n) (dg : decode cc pc = .ok (.invokestatic index, 3)) (hn : As.length = n) (hst : st = As.reverse ++ rest) (hR : d' + 1 ≤ d) (hW : (rest.map fun v => v.category).sum ≤ 8) (hM : zOkI l tab D cA ad y d' x bytes maxL ret' As σ Q')
    (k : ∀ r σ', Q' r σ' → zG p l e (zrm d) s m args below meth c nL tab D cA ad Z (pc + 3) ls (.int r :: rest) σ') : zG p l e (zrm d) s m args below meth c nL tab D cA ad Z pc ls st σ := by
  intro H locs la hP hS hl
  subst hst
  refine va_calli (va_runS (As := As) (rest := rest) ⟨M.1, M.2.1, M.2.2.1, M.2.2.2.1, M.2.2.2.2.1⟩ hM ⟨zcallB M cb.1 hR, M.2.2.2.2.1 _ cb.2⟩ ⟨zPc_blind tab D cA ad y _ σ, zpre M hP hS⟩ rfl hn hl.1 rfl (lv_room hW) dg ⟨Nat.zero_le _, Nat.zero_le _⟩) hS (fun q _ h => h) (fun q h => h) (fun r u t H1 locs1 ht hvm hw hB hz1 hk1 hS1 => ?_)
  have hB : va_P D vwCl (zws tab cA ad u) t.heap := hB
  rw [ht] at hB
  exact k r u hw H1 locs1 la hB hS1 hl
theorem zz_callSV {Q' : zSt → Prop} (M : zM p s m args meth c cc nL own ret tab D cA ad y) (cb : zCS own index x bytes maxL ret' n) (dg : decode cc pc = .ok (.invokestatic index, 3)) (hn : As.length = n) (hst : st = As.reverse ++ rest) (hR : d' + 1 ≤ d) (hW : (rest.map fun v => v.category).sum ≤ 8) (hM : zOkV l tab D cA ad y d' x bytes maxL ret' As σ Q')
    (k : ∀ σ', Q' σ' → zG p l e (zrm d) s m args below meth c nL tab D cA ad Z (pc + 3) ls rest σ') : zG p l e (zrm d) s m args below meth c nL tab D cA ad Z pc ls st σ := by
  intro H locs la hP hS hl
  subst hst
  refine va_callv (va_runS (As := As) (rest := rest) ⟨M.1, M.2.1, M.2.2.1, M.2.2.2.1, M.2.2.2.2.1⟩ hM ⟨zcallB M cb.1 hR, M.2.2.2.2.1 _ cb.2⟩ ⟨zPc_blind tab D cA ad y _ σ, zpre M hP hS⟩ rfl hn hl.1 rfl (lv_room hW) dg ⟨Nat.zero_le _, Nat.zero_le _⟩) hS (fun q _ h => h) (fun q h => h) (fun u t H1 locs1 ht hvm hw hB hz1 hk1 hS1 => ?_)
  have hB : va_P D vwCl (zws tab cA ad u) t.heap := hB
  rw [ht] at hB
  exact k u hw H1 locs1 la hB hS1 hl
theorem zz_callNI {Q' : Int32 → zSt → Prop} (M : zM p s m args meth c cc nL own ret tab D cA ad y) (cb : zCN own index x bytes maxL ret' n) (dg : decode cc pc = .ok (.invokestatic index, 3)) (hn : As.length = n) (hst : st = As.reverse ++ rest) (hR : d' + 1 ≤ d) (hW : (rest.map fun v => v.category).sum ≤ 8) (hM : zOkI l tab D cA ad y d' x bytes maxL ret' As σ Q')
    (k : ∀ r σ', Q' r σ' → zG p l e (zrm d) s m args below meth c nL tab D cA ad Z (pc + 3) ls (.int r :: rest) σ') : zG p l e (zrm d) s m args below meth c nL tab D cA ad Z pc ls st σ := by
  intro H locs la hP hS hl
  subst hst
  obtain ⟨h1, h2, h3, h4, h5, h6⟩ := cb
  refine va_calli (va_runSN (As := As) (rest := rest) ⟨M.1, M.2.1, M.2.2.1, M.2.2.2.1, M.2.2.2.2.1⟩ hM ⟨va_cnB n M.2.2.2.2.1 (zgood h2) rfl rfl rfl (M.2.2.2.2.2.2.2.1.2.1 _ h1) (M.2.2.2.2.1 _ h3) h4 (zroom hR h5), M.2.2.2.2.1 _ h6, trivial⟩ ⟨zPc_blind tab D cA ad y _ σ, zpre M hP hS⟩ rfl hn hl.1 rfl (lv_room hW) dg ⟨Nat.zero_le _, Nat.zero_le _⟩) hS (fun q _ h => h) (fun q h => h) (fun r u t H1 locs1 ht hvm hw hB hz1 hk1 hS1 => ?_)
  have hB : va_P D vwCl (zws tab cA ad u) t.heap := hB
  rw [ht] at hB
  exact k r u hw H1 locs1 la hB hS1 hl
/-! entries -/
theorem zz_enter {Qc : Array Value → State → Outcome → State → Prop} {av : List Value} (hI : zInj tab ad) (hy : plainName x.cls = true) (hlen : (lg_sl av).length ≤ maxL)
    (body : ∀ (p : Program) (e : Env) (s : State) (m : MethodId) (below : List Frame) (meth : Method) (c : Code), zM p s m av.toArray meth c bytes maxL x.cls ret' tab D cA ad y → zG p l e (zrm d) s m av.toArray below meth c maxL tab D cA ad (MQ below Qc av.toArray s 0 0 (zIn tab ad)) 0 (lv_args 0 av) [] σ) :
    Met l x (Cond.code x bytes maxL ret' :: zgw) (zrm d) (zPc tab D cA ad y av σ) Qc 0 0 (zIn tab ad) := by
  refine Met.ofW (cc := bytes) (maxL := maxL) (ret := ret') hy rfl ?_
  intro p e s m args below meth c s₁ B hml hv
  obtain ⟨rfl, hP, hK⟩ := hv
  have hts := atoms_spec (ws := Cond.code x bytes maxL ret' :: zgw) B.pre
  have hown : s.vm.findClass x.cls = some m.cls := findClass_of_methodNamed B.named
  have hl := lv_entry av (n := maxL) hlen
  rw [lg_entry_eq]
  exact body p e s m below meth c ⟨B.exec, B.bytes, hml, hown, fun w hw => hts w (List.mem_cons_of_mem _ hw), B.notSynchronized, B.returns, hK, hI⟩ s.heap [] _ hP va_S.rf hl
/-! the library's own -/
theorem zz_max {x1 y1 : Int32} (M : zM p s m args meth c cc nL own ret tab D cA ad y) (hw : Cond.methodLink own index Lib.Math.max.name ∈ zgw) (hs : Cond.static Lib.Math.max.name ∈ zgw ∧ Cond.initialized "java/lang/Math" ∈ zgw ∧ Cond.code Lib.Math.max.name Lib.Math.max.code 2 (some .int) ∈ zgw) (hd : 1 ≤ d) (hW : (st.map fun v => v.category).sum ≤ 8) (dg : decode cc pc = .ok (.invokestatic index, 3)) (k : zG p l e (zrm d) s m args below meth c nL tab D cA ad Z (pc + 3) ls (.int (if x1 < y1 then y1 else x1) :: st) σ) : zG p l e (zrm d) s m args below meth c nL tab D cA ad Z pc ls (.int y1 :: .int x1 :: st) σ :=
  fun H locs la hP hS hl => va_mmax M.1 M.2.1 (M.2.2.1.trans hl.1.symm) M.2.2.2.1 (M.2.2.2.2.1 _ hw) (M.2.2.2.2.1 _ hs.1) (M.2.2.2.2.1 _ hs.2.1) (M.2.2.2.2.1 _ hs.2.2) hd (by show _ ≤ 60 * d; omega) (Nat.zero_le _) (Nat.zero_le _) dg (k H locs la hP hS hl)
theorem zz_min {x1 y1 : Int32} (M : zM p s m args meth c cc nL own ret tab D cA ad y) (hw : Cond.methodLink own index Lib.Math.min.name ∈ zgw) (hs : Cond.static Lib.Math.min.name ∈ zgw ∧ Cond.initialized "java/lang/Math" ∈ zgw ∧ Cond.code Lib.Math.min.name Lib.Math.min.code 2 (some .int) ∈ zgw) (hd : 1 ≤ d) (hW : (st.map fun v => v.category).sum ≤ 8) (dg : decode cc pc = .ok (.invokestatic index, 3)) (k : zG p l e (zrm d) s m args below meth c nL tab D cA ad Z (pc + 3) ls (.int (if y1 < x1 then y1 else x1) :: st) σ) : zG p l e (zrm d) s m args below meth c nL tab D cA ad Z pc ls (.int y1 :: .int x1 :: st) σ :=
  fun H locs la hP hS hl => va_mmin M.1 M.2.1 (M.2.2.1.trans hl.1.symm) M.2.2.2.1 (M.2.2.2.2.1 _ hw) (M.2.2.2.2.1 _ hs.1) (M.2.2.2.2.1 _ hs.2.1) (M.2.2.2.2.1 _ hs.2.2) hd (by show _ ≤ 60 * d; omega) (Nat.zero_le _) (Nat.zero_le _) dg (k H locs la hP hS hl)
theorem zz_abs {x1 : Int32} (M : zM p s m args meth c cc nL own ret tab D cA ad y) (hw : Cond.methodLink own index Lib.Math.abs.name ∈ zgw) (hs : Cond.static Lib.Math.abs.name ∈ zgw ∧ Cond.initialized "java/lang/Math" ∈ zgw ∧ Cond.code Lib.Math.abs.name Lib.Math.abs.code 1 (some .int) ∈ zgw) (hd : 1 ≤ d) (hW : (st.map fun v => v.category).sum ≤ 8) (dg : decode cc pc = .ok (.invokestatic index, 3)) (k : zG p l e (zrm d) s m args below meth c nL tab D cA ad Z (pc + 3) ls (.int (if 0 ≤ x1 then x1 else 0 - x1) :: st) σ) : zG p l e (zrm d) s m args below meth c nL tab D cA ad Z pc ls (.int x1 :: st) σ :=
  fun H locs la hP hS hl => va_mabs M.1 M.2.1 (M.2.2.1.trans hl.1.symm) M.2.2.2.1 (M.2.2.2.2.1 _ hw) (M.2.2.2.2.1 _ hs.1) (M.2.2.2.2.1 _ hs.2.1) (M.2.2.2.2.1 _ hs.2.2) hd (by show _ ≤ 60 * d; omega) (Nat.zero_le _) (Nat.zero_le _) dg (k H locs la hP hS hl)
def zcopy (σ : zSt) (o sp o' dp n : Nat) : zSt := zrow σ o' (va_cpy (σ.1 o) (σ.1 o') sp dp n)
theorem zz_copy {o o' n0 n1 : Nat} {sp dp n : Int32} (M : zM p s m args meth c cc nL own ret tab D cA ad y) (hw : Cond.methodLink own index arraycopyName ∈ zgw) (hs : Cond.native arraycopyName ∈ zgw ∧ Cond.static arraycopyName ∈ zgw ∧ Cond.initialized "java/lang/System" ∈ zgw) (ht : tab[o]? = some (.inl (n0, 0))) (ht' : tab[o']? = some (.inl (n1, 0))) (hd : 1 ≤ d) (hW : (st.map fun v => v.category).sum ≤ 8) (dg : decode cc pc = .ok (.invokestatic index, 3)) (h : (¬ sp < 0 ∧ ¬ dp < 0 ∧ ¬ n < 0) ∧ sp.toNatClampNeg + n.toNatClampNeg ≤ n0 ∧ dp.toNatClampNeg + n.toNatClampNeg ≤ n1)
    (k : zG p l e (zrm d) s m args below meth c nL tab D cA ad Z (pc + 3) ls st (zcopy σ o sp.toNatClampNeg o' dp.toNatClampNeg n.toNatClampNeg)) : zG p l e (zrm d) s m args below meth c nL tab D cA ad Z pc ls (.int n :: .int dp :: .ref (ad o') :: .int sp :: .ref (ad o) :: st) σ := by
  intro H locs la hP hS hl
  have hz : nativeFrameWords "java/lang/System" "arraycopy" 5 ≤ 30 := by decide +kernel
  refine va_copyi (ty := .int) M.1 M.2.1 (M.2.2.1.trans hl.1.symm) M.2.2.2.1 (M.2.2.2.2.1 _ hw) (M.2.2.2.2.1 _ hs.1) (M.2.2.2.2.1 _ hs.2.1) (M.2.2.2.2.1 _ hs.2.2) M.2.2.2.2.2.2.2.1.1 hP (zws_D M.2.2.2.2.2.2.2.2) hS o o' 0 0 (zws_at ht) (zws_at ht') rfl rfl rfl h.1.1 h.1.2.1 h.1.2.2 h.2.1 h.2.2 (fun i _ => rfl) hd (by show _ ≤ 60 * d; omega) dg (fun H1 locs1 hP1 _ hS1 => ?_)
  rw [zws_arr ht'] at hP1
  exact k H1 locs1 la hP1 hS1 hl
end zCalls
