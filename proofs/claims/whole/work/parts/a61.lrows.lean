/-! the law's body: two worlds side by side, the class's and the model's -/
def zLM (p : Program) (s : State) (m : MethodId) (c : Code) (b L : Nat) (xs : Nat → Int32) (D : va_G) (cA : Nat → ClassId) (y : zX) (adX adM : Nat → Nat) : Prop :=
  p.tables.exec = Jvm.exec ∧ c.code = cL_law ∧ c.maxLocals = 4 ∧ s.vm.findClass R_law = some m.cls ∧ (∀ w ∈ zgw, w.before #[Value.ref b] s = true) ∧ (va_X b L xs s s.heap ∧ b < s.heap.size ∧ L ≤ 3072) ∧ zKK D cA (fun q => s.heap.size ≤ q) y s s.heap ∧ (zInj tabX adX ∧ zInj tabM adM) ∧ ((∀ q, zIn tabX adX q → s.heap.size ≤ q) ∧ (∀ q, zIn tabM adM q → s.heap.size ≤ q)) ∧ (∀ q, zIn tabX adX q → ¬ zIn tabM adM q)
def zL (p : Program) (l : Launch) (e : Env) (s : State) (m : MethodId) (below : List Frame) (meth : Method) (c : Code) (b : Nat) (D : va_G) (cA : Nat → ClassId) (adX adM : Nat → Nat) (pc : Nat) (ls : List (Nat × Value)) (st : List Value) (σx σm : zSt) : Prop :=
  ∀ (H : Heap) (locs : List Loc) (la : Array Slot), va_P D vwCl (zws tabX cA adX σx) H → va_P D vwCl (zws tabM cA adM σm) H → va_S (fun q => s.heap.size ≤ q) s.heap H locs → lv_has la 4 ls → W p l e room_1 s m #[Value.ref b] below meth c H locs 600000 7302249 (lw_Z below #[Value.ref b] s) (F0 m pc la st)
section zLaw
variable {p : Program} {l : Launch} {e : Env} {s : State} {m : MethodId} {below : List Frame} {meth : Method} {c : Code} {b L : Nat} {xs : Nat → Int32} {D : va_G} {cA : Nat → ClassId} {y : zX} {adX adM : Nat → Nat} {pc index : Nat} {ls : List (Nat × Value)} {st rest : List Value} {σx σm : zSt}
theorem zl_aload (M : zLM p s m c b L xs D cA y adX adM) {k4 : Fin 4} {i : Nat} {x : Nat} (q : Nat) (d : decode cL_law pc = .ok (.aload_n k4, 1)) (hi : (k4 : Nat) = i) (hq : ls[q]? = some (i, .ref x)) (K : zL p l e s m below meth c b D cA adX adM (pc + 1) ls (.ref x :: st) σx σm) : zL p l e s m below meth c b D cA adX adM pc ls st σx σm := fun H locs la hX hM hS hl => lv_aload_n M.1 M.2.1 d hi (lv_at hl q hq) (K H locs la hX hM hS hl)
theorem zl_eq (M : zLM p s m c b L xs D cA y adX adM) {x : Int32} {off : Int} (tgt : Nat) (d : decode cL_law pc = .ok (.if_icmp .eq off, 3)) (ht : (pc : Int) + off = (tgt : Int)) (K : zL p l e s m below meth c b D cA adX adM tgt ls st σx σm) : zL p l e s m below meth c b D cA adX adM pc ls (.int x :: .int x :: st) σx σm := fun H locs la hX hM hS hl => lv_icmp_eq M.1 M.2.1 d ht (fun _ => K H locs la hX hM hS hl) (fun h => absurd rfl h)
theorem zl_lcmp (M : zLM p s m c b L xs D cA y adX adM) {x : Int64} {off : Int} (tgt : Nat) (d : decode cL_law pc = .ok (.lcmp, 1)) (d2 : decode cL_law (pc + 1) = .ok (.ifCond .eq off, 3)) (ht : ((pc + 1 : Nat) : Int) + off = (tgt : Int)) (K : zL p l e s m below meth c b D cA adX adM tgt ls st σx σm) : zL p l e s m below meth c b D cA adX adM pc ls (.long x :: .long x :: st) σx σm := fun H locs la hX hM hS hl => by
  refine W.lcmp M.1 M.2.1 d ?_
  exact lv_if_eq M.1 M.2.1 d2 ht (fun _ => K H locs la hX hM hS hl) (fun h => absurd (by unfold lg_cmp; rw [if_neg (Int64.lt_irrefl), if_pos rfl]) h)
theorem zl_arg (M : zLM p s m c b L xs D cA y adX adM) {i kk : Nat} {n0 : Int} (q : Nat) (hq0 : ls[0]? = some (0, .ref b)) (hq : ls[q]? = some (3, .int (nI i))) (d0 : decode cL_law pc = .ok (.aload_n 0, 1)) (d1 : decode cL_law (pc + 1) = .ok (.iload_n 3, 1)) (d2 : decode cL_law (pc + 1 + 1) = .ok (.iconst n0, 1)) (d3 : decode cL_law (pc + 1 + 1 + 1) = .ok (.iadd, 1)) (d4 : decode cL_law (pc + 1 + 1 + 1 + 1) = .ok (.iaload, 1)) (hn : Int32.ofInt n0 = nI kk) (hk : i + kk < L) (K : zL p l e s m below meth c b D cA adX adM (pc + 1 + 1 + 1 + 1 + 1) ls (.int (xs (i + kk)) :: st) σx σm) : zL p l e s m below meth c b D cA adX adM pc ls st σx σm := by
  intro H locs la hX hM hS hl
  obtain ⟨hx, hb, -, -, -, ⟨hXs, hbl, hL⟩, -⟩ := M
  refine lv_aload_n hx hb d0 rfl (lv_at hl 0 hq0) ?_
  refine lv_iload_n hx hb d1 rfl (lv_at hl q hq) ?_
  refine lv_iconst (v := nI kk) hx hb d2 hn ?_
  refine lv_iadd hx hb d3 ?_
  rw [nI_add]
  refine va_sld hx hb hXs hbl (Nat.not_le.mpr hbl) hS (zin' hk (by omega)) d4 ?_
  rw [nI_clamp (by omega)]
  exact K H locs la hX hM hS hl
theorem zl_room {d' maxL : Nat} (hR : d' ≤ 1000) (hm : maxL ≤ 41) : (zrm d').frames + 1 ≤ room_1.frames ∧ 8 + (maxL + 11) + (zrm d').locals ≤ room_1.locals := by
  refine ⟨?_, ?_⟩
  · show d' + 1 ≤ 2048
    omega
  · show 8 + (maxL + 11) + 60 * d' ≤ 84000
    omega
theorem zl_in {tab : List zSh} {ad : Nat → Nat} {σ : zSt} {k2 : Nat} {x2 : Nat × va_E} (h : (zws tab cA ad σ)[k2]? = some x2) : zIn tab ad x2.1 := by
  cases ht : tab[k2]? with
  | none => simp [zws, ht] at h
  | some sh =>
    rw [zws_at ht] at h
    cases h
    exact ⟨k2, zlt ht, rfl⟩
variable {d' n maxL : Nat} {x : MethodName} {bytes : ByteArray} {ret' : Option FieldType} {As : List Value}
theorem zl_callXI {Q' : Int32 → zSt → Prop} (M : zLM p s m c b L xs D cA y adX adM) (cb : zCV R_law index x bytes maxL ret' n) (hcl : x.cls = RX7) (dg : decode cL_law pc = .ok (.invokevirtual index, 3)) (hn : As.length = n) (hst : st = As.reverse ++ .ref (adX 0) :: rest) (hR : d' ≤ 1000) (hW : (rest.map fun v => v.category).sum ≤ 8) (hM : zOkI l tabX D cA adX y d' x bytes maxL ret' (.ref (adX 0) :: As) σx Q') (K : ∀ r σ', Q' r σ' → zL p l e s m below meth c b D cA adX adM (pc + 3) ls (.int r :: rest) σ' σm) : zL p l e s m below meth c b D cA adX adM pc ls st σx σm := by
  intro H locs la hX hMm hS hl
  subst hst
  obtain ⟨⟨h1, h2, h3, h4, h5⟩, hi, hsel⟩ := cb
  obtain ⟨m1, m2, m3, m4, m5, m6, m7, ⟨mi1, mi2⟩, ⟨ma1, ma2⟩, mdis⟩ := M
  refine va_calli (va_runV (As := As) (rest := rest) (C := x.cls) ⟨m1, m2, m3, m4, m5⟩ hM ⟨callB_of n m5 (zgood h2) rfl rfl rfl (m5 _ h3) (m5 _ h1) h4 (zl_room hR h5), m5 _ hi, m5 _ hsel⟩ ⟨zPc_blind tabX D cA adX y _ σx, by rw [hcl]; exact va_recv (q := (RX7, TX7, 13)) m7.1 hX rfl (zws_at tX_0), fun U hU hW => ⟨rfl, by rw [hU]; exact hX, by rw [hU]; exact (zKK.warm hW (m7.kept hS.2.1)).narrow ma1⟩⟩ rfl hn hl.1 rfl (lv_room hW) dg ⟨Nat.le_refl _, Nat.le_refl _⟩) hS (fun q _ h => ma1 q h) ma1 (fun r u t H1 locs1 ht hvm hw hB hz1 hk1 hS1 => ?_)
  have hB : va_P D vwCl (zws tabX cA adX u) t.heap := hB
  rw [ht] at hB
  exact K r u hw H1 locs1 la hB (hMm.kept (fun k2 x2 hx => hk1 x2.1 (hMm k2 x2 hx).lt (fun hz => mdis _ hz (zl_in hx)))) hS1 hl
theorem zl_callMI {Q' : Int32 → zSt → Prop} (M : zLM p s m c b L xs D cA y adX adM) (cb : zCV R_law index x bytes maxL ret' n) (hcl : x.cls = RX8) (dg : decode cL_law pc = .ok (.invokevirtual index, 3)) (hn : As.length = n) (hst : st = As.reverse ++ .ref (adM 0) :: rest) (hR : d' ≤ 1000) (hW : (rest.map fun v => v.category).sum ≤ 8) (hM : zOkI l tabM D cA adM y d' x bytes maxL ret' (.ref (adM 0) :: As) σm Q') (K : ∀ r σ', Q' r σ' → zL p l e s m below meth c b D cA adX adM (pc + 3) ls (.int r :: rest) σx σ') : zL p l e s m below meth c b D cA adX adM pc ls st σx σm := by
  intro H locs la hX hMm hS hl
  subst hst
  obtain ⟨⟨h1, h2, h3, h4, h5⟩, hi, hsel⟩ := cb
  obtain ⟨m1, m2, m3, m4, m5, m6, m7, ⟨mi1, mi2⟩, ⟨ma1, ma2⟩, mdis⟩ := M
  refine va_calli (va_runV (As := As) (rest := rest) (C := x.cls) ⟨m1, m2, m3, m4, m5⟩ hM ⟨callB_of n m5 (zgood h2) rfl rfl rfl (m5 _ h3) (m5 _ h1) h4 (zl_room hR h5), m5 _ hi, m5 _ hsel⟩ ⟨zPc_blind tabM D cA adM y _ σm, by rw [hcl]; exact va_recv (q := (RX8, TX8, 50)) m7.1 hMm rfl (zws_at tM_0), fun U hU hW => ⟨rfl, by rw [hU]; exact hMm, by rw [hU]; exact (zKK.warm hW (m7.kept hS.2.1)).narrow ma2⟩⟩ rfl hn hl.1 rfl (lv_room hW) dg ⟨Nat.le_refl _, Nat.le_refl _⟩) hS (fun q _ h => ma2 q h) ma2 (fun r u t H1 locs1 ht hvm hw hB hz1 hk1 hS1 => ?_)
  have hB : va_P D vwCl (zws tabM cA adM u) t.heap := hB
  rw [ht] at hB
  exact K r u hw H1 locs1 la (hX.kept (fun k2 x2 hx => hk1 x2.1 (hX k2 x2 hx).lt (fun hz => mdis _ (zl_in hx) hz))) hB hS1 hl
theorem zl_callXL {Q' : Int64 → zSt → Prop} (M : zLM p s m c b L xs D cA y adX adM) (cb : zCV R_law index x bytes maxL ret' n) (hcl : x.cls = RX7) (dg : decode cL_law pc = .ok (.invokevirtual index, 3)) (hn : As.length = n) (hst : st = As.reverse ++ .ref (adX 0) :: rest) (hR : d' ≤ 1000) (hW : (rest.map fun v => v.category).sum ≤ 8) (hM : zOkL l tabX D cA adX y d' x bytes maxL ret' (.ref (adX 0) :: As) σx Q') (K : ∀ r σ', Q' r σ' → zL p l e s m below meth c b D cA adX adM (pc + 3) ls (.long r :: rest) σ' σm) : zL p l e s m below meth c b D cA adX adM pc ls st σx σm := by
  intro H locs la hX hMm hS hl
  subst hst
  obtain ⟨⟨h1, h2, h3, h4, h5⟩, hi, hsel⟩ := cb
  obtain ⟨m1, m2, m3, m4, m5, m6, m7, ⟨mi1, mi2⟩, ⟨ma1, ma2⟩, mdis⟩ := M
  refine va_calll (va_runV (As := As) (rest := rest) (C := x.cls) ⟨m1, m2, m3, m4, m5⟩ hM ⟨callB_of n m5 (zgood h2) rfl rfl rfl (m5 _ h3) (m5 _ h1) h4 (zl_room hR h5), m5 _ hi, m5 _ hsel⟩ ⟨zPc_blind tabX D cA adX y _ σx, by rw [hcl]; exact va_recv (q := (RX7, TX7, 13)) m7.1 hX rfl (zws_at tX_0), fun U hU hW => ⟨rfl, by rw [hU]; exact hX, by rw [hU]; exact (zKK.warm hW (m7.kept hS.2.1)).narrow ma1⟩⟩ rfl hn hl.1 rfl (lv_room hW) dg ⟨Nat.le_refl _, Nat.le_refl _⟩) hS (fun q _ h => ma1 q h) ma1 (fun r u t H1 locs1 ht hvm hw hB hz1 hk1 hS1 => ?_)
  have hB : va_P D vwCl (zws tabX cA adX u) t.heap := hB
  rw [ht] at hB
  exact K r u hw H1 locs1 la hB (hMm.kept (fun k2 x2 hx => hk1 x2.1 (hMm k2 x2 hx).lt (fun hz => mdis _ hz (zl_in hx)))) hS1 hl
theorem zl_callML {Q' : Int64 → zSt → Prop} (M : zLM p s m c b L xs D cA y adX adM) (cb : zCV R_law index x bytes maxL ret' n) (hcl : x.cls = RX8) (dg : decode cL_law pc = .ok (.invokevirtual index, 3)) (hn : As.length = n) (hst : st = As.reverse ++ .ref (adM 0) :: rest) (hR : d' ≤ 1000) (hW : (rest.map fun v => v.category).sum ≤ 8) (hM : zOkL l tabM D cA adM y d' x bytes maxL ret' (.ref (adM 0) :: As) σm Q') (K : ∀ r σ', Q' r σ' → zL p l e s m below meth c b D cA adX adM (pc + 3) ls (.long r :: rest) σx σ') : zL p l e s m below meth c b D cA adX adM pc ls st σx σm := by
  intro H locs la hX hMm hS hl
  subst hst
  obtain ⟨⟨h1, h2, h3, h4, h5⟩, hi, hsel⟩ := cb
  obtain ⟨m1, m2, m3, m4, m5, m6, m7, ⟨mi1, mi2⟩, ⟨ma1, ma2⟩, mdis⟩ := M
  refine va_calll (va_runV (As := As) (rest := rest) (C := x.cls) ⟨m1, m2, m3, m4, m5⟩ hM ⟨callB_of n m5 (zgood h2) rfl rfl rfl (m5 _ h3) (m5 _ h1) h4 (zl_room hR h5), m5 _ hi, m5 _ hsel⟩ ⟨zPc_blind tabM D cA adM y _ σm, by rw [hcl]; exact va_recv (q := (RX8, TX8, 50)) m7.1 hMm rfl (zws_at tM_0), fun U hU hW => ⟨rfl, by rw [hU]; exact hMm, by rw [hU]; exact (zKK.warm hW (m7.kept hS.2.1)).narrow ma2⟩⟩ rfl hn hl.1 rfl (lv_room hW) dg ⟨Nat.le_refl _, Nat.le_refl _⟩) hS (fun q _ h => ma2 q h) ma2 (fun r u t H1 locs1 ht hvm hw hB hz1 hk1 hS1 => ?_)
  have hB : va_P D vwCl (zws tabM cA adM u) t.heap := hB
  rw [ht] at hB
  exact K r u hw H1 locs1 la (hX.kept (fun k2 x2 hx => hk1 x2.1 (hX k2 x2 hx).lt (fun hz => mdis _ (zl_in hx) hz))) hB hS1 hl
end zLaw
