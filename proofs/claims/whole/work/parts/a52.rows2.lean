/-! more rows of constructors: arrays of references, changing the order of a world, worlds that are stores -/
theorem wd_arrV {cI : ClassId} {N : Nat} {f g : Nat → Value} (h : ∀ j, j < N → f j = g j) : arrV cI N f = arrV cI N g := by
  unfold arrV
  congr 1
  congr 1
  funext j
  exact h j.val j.isLt
def zmi {α β : Type} (f : Nat → α → β) : Nat → List α → List β
  | _, [] => []
  | i, a :: t => f i a :: zmi f (i + 1) t
theorem zmi_sh {α β : Type} (f : Nat → α → β) (l : List α) : ∀ i, zmi f (i + 1) l = zmi (fun j => f (j + 1)) i l := by
  induction l with
  | nil => intro i; rfl
  | cons a t ih => intro i; simp only [zmi]; rw [ih]
theorem zmi_eq {α β : Type} (l : List α) : ∀ f : Nat → α → β, l.mapIdx f = zmi f 0 l := by
  induction l with
  | nil => intro f; rfl
  | cons a t ih => intro f; rw [List.mapIdx_cons, ih]; simp only [zmi]; rw [zmi_sh]
def zcellF (cA : Nat → ClassId) (ad : Nat → Nat) (σ : zSt) (o : Nat) : zSh → va_E
  | .inl q => .inl (cA q.2, q.1, .inl (σ.1 o))
  | .inr (.inl q) => .inl (cA q.1, q.2.1, .inr (.inr (.inr (.inr (fun j => some (ad (q.2.2 + j)))))))
  | .inr (.inr q) => .inr (q.1, zmi (fun j t => zfv ad (σ.1 o) σ.2 j t) 0 q.2)
theorem zwsF (tab : List zSh) (cA : Nat → ClassId) (ad : Nat → Nat) (σ : zSt) : zws tab cA ad σ = zmi (fun o sh => (ad o, zcellF cA ad σ o sh)) 0 tab := by
  unfold zws
  rw [zmi_eq]
  congr 1
  funext o sh
  match sh with
  | .inl q => rfl
  | .inr (.inl q) => rfl
  | .inr (.inr q) => simp only [zcell, zcellF, zfs, zmi_eq]
section zBuild2
variable {p : Program} {l : Launch} {e : Env} {R : Room} {s : State} {m : MethodId} {args : Array Value} {below : List Frame} {meth : Method} {c : Code} {cc : ByteArray} {nL : Nat} {own : String} {D : va_G} {cA : Nat → ClassId} {A : Nat → Prop} {y : zX} {Z : State → Prop} {k n k' n' pc index : Nat} {ls : List (Nat × Value)} {st rest : List Value} {ws : va_W} {x0 : Nat × va_E}
theorem yb_astq (M : zMB p s m args meth c cc nL own D cA A y) (q0 t0 qk ci : Nat) {r : vw_C} {N v a : Nat} {vs : List Value} {f : Nat → Option Nat} {i : Int32} (ha : ws[q0]? = some (a, .inl (cA t0, N, .inr (.inr (.inr (.inr f)))))) (ht : (ztys cA)[t0]? = some (cA t0, .object r.1)) (hv : ws[qk]? = some (v, .inr (ci, vs))) (hc : vwCl[ci]? = some r) (hin : vp_in i N) {kk : Nat} (hkk : i.toNatClampNeg = kk) (d : decode cc pc = .ok (.aastore, 1)) (ws' : va_W) (hws : ws.set q0 (a, .inl (cA t0, N, .inr (.inr (.inr (.inr (va_up f kk (some v))))))) = ws') (K : zB p l e R s m args below meth c nL D A Z k n (pc + 1) ls st ws') : zB p l e R s m args below meth c nL D A Z k n pc ls (.ref v :: .int i :: .ref a :: st) ws := by
  intro H locs la hP hD hS hl
  subst hkk
  subst hws
  exact va_astq M.1 M.2.1 M.2.2.2.2.2.2.2.1.1 hP hD hS q0 t0 qk ci ha ht hv hc hin d (fun H1 locs1 hP1 hD1 hS1 => K H1 locs1 la hP1 hD1 hS1 hl)
theorem yb_ext (q0 : Nat) {a N : Nat} {cI : ClassId} {f : Nat → Option Nat} (g : Nat → Option Nat) (ha : ws[q0]? = some (a, .inl (cI, N, .inr (.inr (.inr (.inr f)))))) (hfg : ∀ j, j < N → f j = g j) (ws' : va_W) (hws : ws.set q0 (a, .inl (cI, N, .inr (.inr (.inr (.inr g))))) = ws') (K : zB p l e R s m args below meth c nL D A Z k n pc ls st ws') : zB p l e R s m args below meth c nL D A Z k n pc ls st ws := by
  intro H locs la hP hD hS hl
  subst hws
  refine K H locs la (yb_set hP hD ha ?_ (fun _ _ _ => rfl)) (hD.set ha) hS hl
  have h1 : H[a]? = some (vp_cell cI (N, .inr (.inr (.inr (.inr f))))) := hP q0 _ ha
  show H[a]? = some (vp_cell cI (N, .inr (.inr (.inr (.inr g)))))
  rw [h1, vp_cell_q, vp_cell_q, wd_arrV (fun j hj => by rw [hfg j hj])]
theorem yb_to (is : List Nat) (hn : va_nd is = true) (ws' : va_W) (hs : is.map (fun i => ws[i]?) = ws'.map some) (K : zB p l e R s m args below meth c nL D A Z k n pc ls st ws') : zB p l e R s m args below meth c nL D A Z k n pc ls st ws := by
  intro H locs la hP hD hS hl
  refine K H locs la (fun k2 x2 hx => ?_) (hD.sub is hn hs) hS hl
  have h1 : (is.map (fun i => ws[i]?))[k2]? = some (some x2) := by rw [hs, List.getElem?_map, hx]; rfl
  rw [List.getElem?_map] at h1
  cases hi : is[k2]? with
  | none => rw [hi] at h1; cases h1
  | some i => rw [hi] at h1; exact hP i x2 (Option.some.inj h1)
variable {tab : List zSh} {ad : Nat → Nat} {σ : zSt}
theorem yb_inj (h : va_D A (zws tab cA ad σ)) : zInj tab ad := by
  intro i j hi hj hij
  have at' : ∀ o, o < tab.length → ∃ e, (zws tab cA ad σ)[o]? = some (ad o, e) := fun o ho => ⟨_, zws_at (List.getElem?_eq_getElem ho)⟩
  obtain ⟨e1, h1⟩ := at' i hi
  obtain ⟨e2, h2⟩ := at' j hj
  exact h.1 i j _ _ h1 h2 hij
theorem yb_inA (h : va_D A (zws tab cA ad σ)) : ∀ q, zIn tab ad q → A q := by
  rintro q ⟨o, ho, rfl⟩
  exact h.2 o _ (zws_at (List.getElem?_eq_getElem ho))
theorem yb_D {σ' : zSt} (h : va_D A (zws tab cA ad σ)) : va_D A (zws tab cA ad σ') := by
  have hI := yb_inj h
  have hA := yb_inA h
  have h1 := zws_D (cA := cA) (σ := σ') hI
  exact ⟨h1.1, fun k2 x2 hx => hA _ (h1.2 k2 x2 hx)⟩
theorem yb_S (M : zMB p s m args meth c cc nL own D cA A y) : True := trivial
/-- a call of a method of the store's world -/
theorem yb_callI {x : MethodName} {bytes : ByteArray} {ret' : Option FieldType} {maxL d' dR kR sR na b : Nat} {As : List Value} {Q' : Int32 → zSt → Prop} (M : zMB p s m args meth c cc nL own D cA A y) (cb : zCV own index x bytes maxL ret' na) (hb : ∀ H locs, va_P D vwCl (zws tab cA ad σ) H → va_S A s.heap H locs → ∃ cell : Cell, H[b]? = some cell ∧ cell.vm.isStatics = false ∧ s.vm.findClass x.cls = some cell.cls) (hna : As.length = na) (hst : st = As.reverse ++ .ref b :: rest) (hR : d' + 1 ≤ dR) (hW : (rest.map fun v => v.category).sum ≤ 8) (hkR : k ≤ kR) (hsR : n ≤ sR) (d : decode cc pc = .ok (.invokevirtual index, 3)) (hM : zInj tab ad → zOkI l tab D cA ad y d' x bytes maxL ret' (.ref b :: As) σ Q') (K : ∀ r σ', Q' r σ' → zB p l e (zrn dR kR sR) s m args below meth c nL D A Z k n (pc + 3) ls (.int r :: rest) (zws tab cA ad σ')) : zB p l e (zrn dR kR sR) s m args below meth c nL D A Z k n pc ls st (zws tab cA ad σ) := by
  intro H locs la hP hD hS hl
  subst hst
  obtain ⟨⟨h1, h2, h3, h4, h5⟩, hi, hsel⟩ := cb
  refine va_calli (va_runV (As := As) (rest := rest) (C := x.cls) ⟨M.1, M.2.1, M.2.2.1, M.2.2.2.1, M.2.2.2.2.1⟩ (hM (yb_inj hD)) ⟨callB_of na M.2.2.2.2.1 (zgood h2) rfl rfl rfl (M.2.2.2.2.1 _ h3) (M.2.2.2.2.1 _ h1) h4 ⟨hR, by show 8 + (maxL + 11) + 60 * d' ≤ 60 * dR; omega⟩, M.2.2.2.2.1 _ hi, M.2.2.2.2.1 _ hsel⟩ ⟨zPc_blind tab D cA ad y _ σ, hb H locs hP hS, fun U hU hW => ⟨rfl, by rw [hU]; exact hP, by rw [hU]; exact (zKK.warm hW (M.2.2.2.2.2.2.2.1.kept hS.2.1)).narrow (yb_inA hD)⟩⟩ rfl hna hl.1 rfl (lv_room hW) d ⟨hkR, hsR⟩) hS (fun a _ h => yb_inA hD a h) (yb_inA hD) (fun r u t H1 locs1 ht hvm hw hB hz1 hk1 hS1 => ?_)
  have hB : va_P D vwCl (zws tab cA ad u) t.heap := hB
  rw [ht] at hB
  exact K r u hw H1 locs1 la hB (yb_D hD) hS1 hl
theorem yb_callV {x : MethodName} {bytes : ByteArray} {ret' : Option FieldType} {maxL d' dR kR sR na b : Nat} {As : List Value} {Q' : zSt → Prop} (M : zMB p s m args meth c cc nL own D cA A y) (cb : zCV own index x bytes maxL ret' na) (hb : ∀ H locs, va_P D vwCl (zws tab cA ad σ) H → va_S A s.heap H locs → ∃ cell : Cell, H[b]? = some cell ∧ cell.vm.isStatics = false ∧ s.vm.findClass x.cls = some cell.cls) (hna : As.length = na) (hst : st = As.reverse ++ .ref b :: rest) (hR : d' + 1 ≤ dR) (hW : (rest.map fun v => v.category).sum ≤ 8) (hkR : k ≤ kR) (hsR : n ≤ sR) (d : decode cc pc = .ok (.invokevirtual index, 3)) (hM : zInj tab ad → zOkV l tab D cA ad y d' x bytes maxL ret' (.ref b :: As) σ Q') (K : ∀ σ', Q' σ' → zB p l e (zrn dR kR sR) s m args below meth c nL D A Z k n (pc + 3) ls rest (zws tab cA ad σ')) : zB p l e (zrn dR kR sR) s m args below meth c nL D A Z k n pc ls st (zws tab cA ad σ) := by
  intro H locs la hP hD hS hl
  subst hst
  obtain ⟨⟨h1, h2, h3, h4, h5⟩, hi, hsel⟩ := cb
  refine va_callv (va_runV (As := As) (rest := rest) (C := x.cls) ⟨M.1, M.2.1, M.2.2.1, M.2.2.2.1, M.2.2.2.2.1⟩ (hM (yb_inj hD)) ⟨callB_of na M.2.2.2.2.1 (zgood h2) rfl rfl rfl (M.2.2.2.2.1 _ h3) (M.2.2.2.2.1 _ h1) h4 ⟨hR, by show 8 + (maxL + 11) + 60 * d' ≤ 60 * dR; omega⟩, M.2.2.2.2.1 _ hi, M.2.2.2.2.1 _ hsel⟩ ⟨zPc_blind tab D cA ad y _ σ, hb H locs hP hS, fun U hU hW => ⟨rfl, by rw [hU]; exact hP, by rw [hU]; exact (zKK.warm hW (M.2.2.2.2.2.2.2.1.kept hS.2.1)).narrow (yb_inA hD)⟩⟩ rfl hna hl.1 rfl (lv_room hW) d ⟨hkR, hsR⟩) hS (fun a _ h => yb_inA hD a h) (yb_inA hD) (fun u t H1 locs1 ht hvm hw hB hz1 hk1 hS1 => ?_)
  have hB : va_P D vwCl (zws tab cA ad u) t.heap := hB
  rw [ht] at hB
  exact K u hw H1 locs1 la hB (yb_D hD) hS1 hl
theorem yb_recv (M : zMB p s m args meth c cc nL own D cA A y) {o ci : Nat} {tm : List (Nat ⊕ Nat)} {q : vw_C} (ht : tab[o]? = some (.inr (.inr (ci, tm)))) (hc : vwCl[ci]? = some q) : ∀ H locs, va_P D vwCl (zws tab cA ad σ) H → va_S A s.heap H locs → ∃ cell : Cell, H[ad o]? = some cell ∧ cell.vm.isStatics = false ∧ s.vm.findClass q.1 = some cell.cls := fun _ _ hP _ => va_recv M.2.2.2.2.2.2.2.1.1 hP hc (zws_at ht)
theorem yb_recvS (M : zMB p s m args meth c cc nL own D cA A y) {w : Nat} (hi : w < 13) : ∀ H locs, va_P D vwCl (zws tab cA ad σ) H → va_S A s.heap H locs → ∃ cell : Cell, H[y.1 w]? = some cell ∧ cell.vm.isStatics = false ∧ s.vm.findClass "java/lang/String" = some cell.cls := fun _ _ _ hS => vk_recv M.2.2.2.2.2.2.2.1.2.2.2.1 hi hS
theorem yb_ldcS (M : zMB p s m args meth c cc nL own D cA A y) {i : Nat} {tx : String} (hs : zstr[i]? = some (own, index, tx)) (d : decode cc pc = .ok (.ldc index, 2)) (K : zB p l e R s m args below meth c nL D A Z k n (pc + 2) ls (.ref (y.1 i) :: st) ws) : zB p l e R s m args below meth c nL D A Z k n pc ls st ws := fun H locs la hP hD hS hl => va_ldcS M.1 M.2.1 M.2.2.2.1 (M.2.2.2.2.2.2.2.1.2.2.1 i _ hs) d (K H locs la hP hD hS hl)
theorem yb_iast (M : zMB p s m args meth c cc nL own D cA A y) {o N kk : Nat} {i x : Int32} (ht : tab[o]? = some (.inl (N, 0))) (hin : vp_in i N) (hk : i.toNatClampNeg = kk) (d : decode cc pc = .ok (.iastore, 1)) (K : zB p l e R s m args below meth c nL D A Z k n (pc + 1) ls st (zws tab cA ad (zput σ o kk x))) : zB p l e R s m args below meth c nL D A Z k n pc ls (.int x :: .int i :: .ref (ad o) :: st) (zws tab cA ad σ) := by
  intro H locs la hP hD hS hl
  subst hk
  refine va_iast (tys := ztys cA) M.1 M.2.1 M.2.2.2.2.2.2.2.1.1 hP hD hS o 0 (zws_at ht) rfl hin d (fun H1 locs1 hP1 hD1 hS1 => ?_)
  rw [zws_arr ht] at hP1 hD1
  exact K H1 locs1 la hP1 hD1 hS1 hl
theorem yb_putI (M : zMB p s m args meth c cc nL own D cA A y) {ci j o : Nat} {tm : List (Nat ⊕ Nat)} {v : Int32} (fb : zFB own index ci j false .int) (ht : tab[o]? = some (.inr (.inr (ci, tm)))) (hj : tm[j]? = some (.inl 0)) (d : decode cc pc = .ok (.putfield index, 3)) (K : zB p l e R s m args below meth c nL D A Z k n (pc + 3) ls st (zws tab cA ad (zput σ o j v))) : zB p l e R s m args below meth c nL D A Z k n pc ls (.int v :: .ref (ad o) :: st) (zws tab cA ad σ) := by
  intro H locs la hP hD hS hl
  obtain ⟨C', T', N', hc', hjN, hin, hlink, hf, hd, ⟨ty0, hty0⟩, hnm⟩ := fb
  have hl0 : j < (zfs ad (σ.1 o) σ.2 tm).length := by
    simp only [zfs, List.length_mapIdx]
    exact (List.getElem?_eq_some_iff.mp hj).1
  refine va_put (q0 := o) (tys := ztys cA) M.1 M.2.1 M.2.2.2.2.1 hin ty0 hty0 hnm M.2.2.2.1 M.2.2.2.2.2.2.2.1.1 hP hD hS (zws_at ht) hc' j hjN (M.2.2.2.2.1 _ hlink) (fun _ h => h) hf hd rfl rfl hl0 d (fun H1 locs1 hP1 hD1 hS1 => ?_)
  rw [zws_put ht hj] at hP1 hD1
  exact K H1 locs1 la hP1 hD1 hS1 hl
theorem yb_getT (M : zMB p s m args meth c cc nL own D cA A y) {ci j o : Nat} {fin : Bool} {ty : FieldType} {tm : List (Nat ⊕ Nat)} {t : Nat ⊕ Nat} (fb : zFB own index ci j fin ty) (ht : tab[o]? = some (.inr (.inr (ci, tm)))) (hj : tm[j]? = some t) (d : decode cc pc = .ok (.getfield index, 3)) (K : zB p l e R s m args below meth c nL D A Z k n (pc + 3) ls (zfv ad (σ.1 o) σ.2 j t :: st) (zws tab cA ad σ)) : zB p l e R s m args below meth c nL D A Z k n pc ls (.ref (ad o) :: st) (zws tab cA ad σ) := yb_get M o fb (zws_at ht) (zfs_at hj) d K
theorem yb_iadd (M : zMB p s m args meth c cc nL own D cA A y) {x1 y1 : Int32} (d : decode cc pc = .ok (.iadd, 1)) (K : zB p l e R s m args below meth c nL D A Z k n (pc + 1) ls (.int (x1 + y1) :: st) ws) : zB p l e R s m args below meth c nL D A Z k n pc ls (.int y1 :: .int x1 :: st) ws := fun H locs la hP hD hS hl => lv_iadd M.1 M.2.1 d (K H locs la hP hD hS hl)
theorem yb_eq (ws' : va_W) (h : ws = ws') (K : zB p l e R s m args below meth c nL D A Z k n pc ls st ws') : zB p l e R s m args below meth c nL D A Z k n pc ls st ws := by
  subst h
  exact K
theorem yb_sub (ls' : List (Nat × Value)) (is : List Nat) (hs : is.filterMap (fun i => ls[i]?) = ls') (K : zB p l e R s m args below meth c nL D A Z k n pc ls' st ws) : zB p l e R s m args below meth c nL D A Z k n pc ls st ws := fun H locs la hP hD hS hl => K H locs la hP hD hS (lv_sub hl is hs)
end zBuild2
