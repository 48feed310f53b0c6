theorem lw_inl {α : Type} {w w' : List α} {k : Nat} {q : α} (h : w[k]? = some q) : (w ++ w')[k]? = some q := by
  have hl := (List.getElem?_eq_some_iff.mp h).1
  rw [List.getElem?_append_left hl]; exact h
theorem lw_inr {α : Type} {w w' : List α} {k : Nat} {q : α} (h : w'[k]? = some q) : (w ++ w')[w.length + k]? = some q := by
  rw [List.getElem?_append_right (by omega)]
  rw [show w.length + k - w.length = k by omega]; exact h
set_option maxRecDepth 20000 in
theorem whole_start {p : Program} {e : Env} {s : State} {m : MethodId} {below : List Frame} {meth : Method} {c : Code} (l : Launch) (hflags : l.flags = flags0) {b L : Nat} {xs : Nat → Int32} (hL : L ≤ 3072) (C0 : lw_At p s m meth c b L xs) : W p l e room_1 s m #[Value.ref b] below meth c s.heap [] 0 0 (lw_Z below #[Value.ref b] s) (entryFrame m ([Value.ref b] : List Value).toArray 4) := by
  obtain ⟨hx, hb, hr, hml, hown, hts, hX, hbl, hlocks, hgv⟩ := id C0
  obtain ⟨D, cA, hK⟩ := lw_K hts
  obtain ⟨y, hE⟩ := lw_E hts hgv
  have hz : ∀ w ∈ zgw, w.before #[Value.ref b] s = true := fun w hw => hts w (List.mem_filter.mp hw).1
  have M : zMB2 p s m #[Value.ref b] c cL_law 4 R_law D cA (fun q => s.heap.size ≤ q) y := ⟨hx, hb, hml, hown, hz, trivial, trivial, ⟨hK, hE⟩, fun _ h => h, trivial, lw_N hts⟩
  have hl := lv_entry ([.ref b]) (n := 4) (Nat.le_of_ble_eq_true rfl)
  rw [lg_entry_eq]
  generalize (lg_sl ([.ref b]) ++ List.replicate (4 - (lg_sl ([.ref b])).length) Slot.unset).toArray = la at hl ⊢
  have hl : lv_has la 4 [(0, .ref b)] := hl
  have key : zB p l e room_1 s m #[Value.ref b] below meth c 4 D (fun q => s.heap.size ≤ q) (lw_Z below #[Value.ref b] s) 0 0 0 [(0, .ref b)] [] [] := by
    refine yc_new (ci := 7) (T := TX7) (N := 13) (k' := 1) (n' := 13) M in_X7 tyX7 tyX7_ok wd_cl7 wd_in7 wd_iz7 rfl [.null, .null, .int 0, .null, .int 0, .null, .int 0, .null, .null, .null, .null, .null, .null] (by decide) rfl rfl (Nat.le_of_ble_eq_true rfl) (Nat.le_of_ble_eq_true rfl) dL_law_0 (fun qx => ?_)
    refine yc_dup M dL_law_3 rfl ?_
    refine yc_init (k' := 69) (n' := 6832) (rest := [.ref qx]) M (nX7 l D cA y qx) wd_cb7 rfl (by decide) rfl rfl (Nat.le_of_ble_eq_true rfl) (Nat.le_of_ble_eq_true rfl) rfl (Nat.le_of_ble_eq_true rfl) dL_law_4 (fun w1 hw => ?_)
    obtain ⟨adX, σx, e1, e2, hRX⟩ := hw
    subst e2
    refine yb_eq (zws tabX cA adX σx) e1 ?_
    clear e1
    refine yc_astore M [(1, .ref (adX 0)), (0, .ref b)] dL_law_7 rfl (by decide) rfl ?_
    refine yc_new (ci := 8) (T := TX8) (N := 50) (k' := 70) (n' := 6882) M in_X8 tyX8 tyX8_ok wd_cl8 wd_in8 wd_iz8 rfl [.int 0, .null, .null, .int 0, .int 0, .null, .int 0, .null, .null, .null, .int 0, .int 0, .int 0, .int 0, .null, .null, .int 0, .null, .int 0, .int 0, .int 0, .int 0, .int 0, .int 0, .int 0, .int 0, .int 0, .int 0, .int 0, .long 0, .int 0, .int 0, .int 0, .null, .null, .null, .null, .null, .null, .null, .int 0, .int 0, .int 0, .int 0, .int 0, .int 0, .null, .null, .null, .null] (by decide) rfl rfl (Nat.le_of_ble_eq_true rfl) (Nat.le_of_ble_eq_true rfl) dL_law_8 (fun qm => ?_)
    refine yc_dup M dL_law_11 rfl ?_
    refine yc_init (k' := 90) (n' := 85528) (rest := [.ref qm]) M (nX8 l D cA y qm) wd_cb8 rfl (by decide) rfl rfl (Nat.le_of_ble_eq_true rfl) (Nat.le_of_ble_eq_true rfl) rfl (Nat.le_of_ble_eq_true rfl) dL_law_12 (fun w1 hw => ?_)
    obtain ⟨adM, σm, e1, e2, hRM⟩ := hw
    subst e2
    refine yb_eq (zws tabX cA adX σx ++ zws tabM cA adM σm) (congrArg (fun z => zws tabX cA adX σx ++ z) e1) ?_
    clear e1
    refine yc_astore M [(2, .ref (adM 0)), (1, .ref (adX 0)), (0, .ref b)] dL_law_15 rfl (by decide) rfl ?_
    intro H locs la hP hD hS hl
    have hP : va_P D vwCl (zws tabX cA adX σx ++ zws tabM cA adM σm) H := hP
    have hD : va_D (fun q => s.heap.size ≤ q) (zws tabX cA adX σx ++ zws tabM cA adM σm) := hD
    have hPX : va_P D vwCl (zws tabX cA adX σx) H := fun k q h => hP k q (lw_inl h)
    have hPM : va_P D vwCl (zws tabM cA adM σm) H := fun k q h => hP _ q (lw_inr h)
    have hDX : va_D (fun q => s.heap.size ≤ q) (zws tabX cA adX σx) := ⟨fun i j a b ha hb h => hD.1 i j a b (lw_inl ha) (lw_inl hb) h, fun k q h => hD.2 k q (lw_inl h)⟩
    have hDM : va_D (fun q => s.heap.size ≤ q) (zws tabM cA adM σm) := ⟨fun i j a b ha hb h => by have := hD.1 _ _ a b (lw_inr ha) (lw_inr hb) h; omega, fun k q h => hD.2 _ q (lw_inr h)⟩
    have hdis : ∀ q, zIn tabX adX q → ¬ zIn tabM adM q := by
      rintro q ⟨o1, h1, rfl⟩ ⟨o2, h2, h3⟩
      have g1 := zws_at (cA := cA) (ad := adX) (σ := σx) (List.getElem?_eq_getElem h1)
      have g2 := zws_at (cA := cA) (ad := adM) (σ := σm) (List.getElem?_eq_getElem h2)
      have := hD.1 _ _ _ _ (lw_inl g1) (lw_inr g2) h3
      have h4 : o1 < (zws tabX cA adX σx).length := (List.getElem?_eq_some_iff.mp g1).1
      omega
    have ML : zLM p s m c b L xs D cA y adX adM := ⟨hx, hb, hml, hown, hz, ⟨hX, hbl, hL⟩, ⟨hK, hE⟩, ⟨yb_inj hDX, yb_inj hDM⟩, ⟨yb_inA hDX, yb_inA hDM⟩, hdis⟩
    refine W.widen (k := 600000) (n := 7302249) (Nat.le_of_ble_eq_true rfl) (Nat.le_of_ble_eq_true rfl) ?_
    refine lv_iconst (v := 0) hx hb dL_law_16 (by decide) ?_
    refine lv_istore_n (lv' := [(3, .int 0), (2, .ref (adM 0)), (1, .ref (adX 0)), (0, .ref b)]) hx hb dL_law_17 rfl hl (by decide) rfl (fun la2 hl2 => ?_)
    exact lw_loop ML hr hlocks (L + 6) 0 zA0 σx σm (by omega) (by omega) hRX hRM H locs la2 hPX hPM hS (lv_sub hl2 [3, 2, 1, 0] rfl)
  exact key s.heap [] la (fun k q h => by simp at h) ⟨fun i j p q h => by simp at h, fun k q h => by simp at h⟩ va_S.rf hl
