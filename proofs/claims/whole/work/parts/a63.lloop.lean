
theorem lw_and (x : Int32) : ∃ k : Nat, k < 32 ∧ x &&& 31 = nI k := by
  refine ⟨x.toBitVec.toNat &&& 31, ?_, ?_⟩
  · have := Nat.and_le_right (n := x.toBitVec.toNat) (m := 31)
    omega
  · apply Int32.toBitVec_inj.mp
    apply BitVec.eq_of_toNat_eq
    have h1 : x.toBitVec.toNat &&& 31 < 2 ^ 32 := Nat.lt_of_le_of_lt Nat.and_le_right (by decide)
    show (x.toBitVec &&& 31#32).toNat = (BitVec.ofNat 32 (x.toBitVec.toNat &&& 31)).toNat
    rw [BitVec.toNat_and, BitVec.toNat_ofNat, BitVec.toNat_ofNat, Nat.mod_eq_of_lt h1]
theorem lw_more {i L : Nat} (hL : L ≤ 3072) (hi : i ≤ L + 5) (h : ¬ Int32.ofNat L - 6 < nI i) : i + 6 ≤ L := by
  rcases Nat.lt_or_ge L (i + 6) with q | q
  · exfalso
    apply h
    by_cases h6 : 6 ≤ L
    · obtain ⟨t, rfl⟩ : ∃ t, L = t + 6 := ⟨L - 6, by omega⟩
      show nI (t + 6) - 6 < nI i
      rw [← nI_add, show (nI 6 : Int32) = 6 from rfl, Int32.add_sub_cancel]
      exact nI_lt (by omega) (by omega)
    · have h0 : Int32.ofNat L - 6 < 0 := by
        have : ∀ L : Nat, L < 6 → Int32.ofNat L - 6 < 0 := by decide
        exact this L (by omega)
      have h1 : (0 : Int32) ≤ nI i := nI_le (a := 0) (Nat.zero_le _) (by omega)
      exact Int32.lt_of_lt_of_le h0 h1
  · exact q
section zLoop
variable {p : Program} {l : Launch} {e : Env} {s : State} {m : MethodId} {below : List Frame} {meth : Method} {c : Code} {b L : Nat} {xs : Nat → Int32} {D : va_G} {cA : Nat → ClassId} {y : zX} {adX adM : Nat → Nat} {i : Nat}
set_option maxRecDepth 20000 in
theorem lw_case (M : zLM p s m c b L xs D cA y adX adM) (hi : i + 6 ≤ L) {A : zA} {σx σm : zSt} (hx : RX A σx) (hm : RM A σm) {x : Int32} {k : Nat} (hk : k < 32) (hxk : x = nI k) (next : ∀ A' σx' σm', RX A' σx' → RM A' σm' → zL p l e s m below meth c b D cA adX adM 1133 [(0, .ref b), (1, .ref (adX 0)), (2, .ref (adM 0)), (3, .int (nI i))] [] σx' σm') : zL p l e s m below meth c b D cA adX adM 33 [(0, .ref b), (1, .ref (adX 0)), (2, .ref (adM 0)), (3, .int (nI i))] [.int x] σx σm := by
  intro H locs la hX hM hS hl
  subst hxk
  rcases (show k = 0 ∨ k = 1 ∨ k = 2 ∨ k = 3 ∨ k = 4 ∨ k = 5 ∨ k = 6 ∨ k = 7 ∨ k = 8 ∨ k = 9 ∨ k = 10 ∨ k = 11 ∨ k = 12 ∨ k = 13 ∨ k = 14 ∨ k = 15 ∨ k = 16 ∨ k = 17 ∨ k = 18 ∨ k = 19 ∨ k = 20 ∨ k = 21 ∨ k = 22 ∨ k = 23 ∨ k = 24 ∨ k = 25 ∨ k = 26 ∨ k = 27 ∨ k = 28 ∨ k = 29 ∨ k = 30 ∨ k = 31 by omega) with rfl | rfl | rfl | rfl | rfl | rfl | rfl | rfl | rfl | rfl | rfl | rfl | rfl | rfl | rfl | rfl | rfl | rfl | rfl | rfl | rfl | rfl | rfl | rfl | rfl | rfl | rfl | rfl | rfl | rfl | rfl | rfl
  · exact lv_tableIn (tgt := 176) M.1 M.2.1 dL_law_33 (by decide) (by decide) (off := 143) (by decide) (by decide) (lc_0 M hi hx hm next H locs la hX hM hS hl)
  · exact lv_tableIn (tgt := 219) M.1 M.2.1 dL_law_33 (by decide) (by decide) (off := 186) (by decide) (by decide) (lc_1 M hi hx hm next H locs la hX hM hS hl)
  · exact lv_tableIn (tgt := 272) M.1 M.2.1 dL_law_33 (by decide) (by decide) (off := 239) (by decide) (by decide) (lc_2 M hi hx hm next H locs la hX hM hS hl)
  · exact lv_tableIn (tgt := 315) M.1 M.2.1 dL_law_33 (by decide) (by decide) (off := 282) (by decide) (by decide) (lc_3 M hi hx hm next H locs la hX hM hS hl)
  · exact lv_tableIn (tgt := 358) M.1 M.2.1 dL_law_33 (by decide) (by decide) (off := 325) (by decide) (by decide) (lc_4 M hi hx hm next H locs la hX hM hS hl)
  · exact lv_tableIn (tgt := 391) M.1 M.2.1 dL_law_33 (by decide) (by decide) (off := 358) (by decide) (by decide) (lc_5 M hi hx hm next H locs la hX hM hS hl)
  · exact lv_tableIn (tgt := 414) M.1 M.2.1 dL_law_33 (by decide) (by decide) (off := 381) (by decide) (by decide) (lc_6 M hi hx hm next H locs la hX hM hS hl)
  · exact lv_tableIn (tgt := 427) M.1 M.2.1 dL_law_33 (by decide) (by decide) (off := 394) (by decide) (by decide) (lc_7 M hi hx hm next H locs la hX hM hS hl)
  · exact lv_tableIn (tgt := 450) M.1 M.2.1 dL_law_33 (by decide) (by decide) (off := 417) (by decide) (by decide) (lc_8 M hi hx hm next H locs la hX hM hS hl)
  · exact lv_tableIn (tgt := 483) M.1 M.2.1 dL_law_33 (by decide) (by decide) (off := 450) (by decide) (by decide) (lc_9 M hi hx hm next H locs la hX hM hS hl)
  · exact lv_tableIn (tgt := 506) M.1 M.2.1 dL_law_33 (by decide) (by decide) (off := 473) (by decide) (by decide) (lc_10 M hi hx hm next H locs la hX hM hS hl)
  · exact lv_tableIn (tgt := 529) M.1 M.2.1 dL_law_33 (by decide) (by decide) (off := 496) (by decide) (by decide) (lc_11 M hi hx hm next H locs la hX hM hS hl)
  · exact lv_tableIn (tgt := 552) M.1 M.2.1 dL_law_33 (by decide) (by decide) (off := 519) (by decide) (by decide) (lc_12 M hi hx hm next H locs la hX hM hS hl)
  · exact lv_tableIn (tgt := 565) M.1 M.2.1 dL_law_33 (by decide) (by decide) (off := 532) (by decide) (by decide) (lc_13 M hi hx hm next H locs la hX hM hS hl)
  · exact lv_tableIn (tgt := 578) M.1 M.2.1 dL_law_33 (by decide) (by decide) (off := 545) (by decide) (by decide) (lc_14 M hi hx hm next H locs la hX hM hS hl)
  · exact lv_tableIn (tgt := 611) M.1 M.2.1 dL_law_33 (by decide) (by decide) (off := 578) (by decide) (by decide) (lc_15 M hi hx hm next H locs la hX hM hS hl)
  · exact lv_tableIn (tgt := 634) M.1 M.2.1 dL_law_33 (by decide) (by decide) (off := 601) (by decide) (by decide) (lc_16 M hi hx hm next H locs la hX hM hS hl)
  · exact lv_tableIn (tgt := 667) M.1 M.2.1 dL_law_33 (by decide) (by decide) (off := 634) (by decide) (by decide) (lc_17 M hi hx hm next H locs la hX hM hS hl)
  · exact lv_tableIn (tgt := 690) M.1 M.2.1 dL_law_33 (by decide) (by decide) (off := 657) (by decide) (by decide) (lc_18 M hi hx hm next H locs la hX hM hS hl)
  · exact lv_tableIn (tgt := 713) M.1 M.2.1 dL_law_33 (by decide) (by decide) (off := 680) (by decide) (by decide) (lc_19 M hi hx hm next H locs la hX hM hS hl)
  · exact lv_tableIn (tgt := 736) M.1 M.2.1 dL_law_33 (by decide) (by decide) (off := 703) (by decide) (by decide) (lc_20 M hi hx hm next H locs la hX hM hS hl)
  · exact lv_tableIn (tgt := 759) M.1 M.2.1 dL_law_33 (by decide) (by decide) (off := 726) (by decide) (by decide) (lc_21 M hi hx hm next H locs la hX hM hS hl)
  · exact lv_tableIn (tgt := 782) M.1 M.2.1 dL_law_33 (by decide) (by decide) (off := 749) (by decide) (by decide) (lc_22 M hi hx hm next H locs la hX hM hS hl)
  · exact lv_tableIn (tgt := 805) M.1 M.2.1 dL_law_33 (by decide) (by decide) (off := 772) (by decide) (by decide) (lc_23 M hi hx hm next H locs la hX hM hS hl)
  · exact lv_tableIn (tgt := 849) M.1 M.2.1 dL_law_33 (by decide) (by decide) (off := 816) (by decide) (by decide) (lc_24 M hi hx hm next H locs la hX hM hS hl)
  · exact lv_tableIn (tgt := 862) M.1 M.2.1 dL_law_33 (by decide) (by decide) (off := 829) (by decide) (by decide) (lc_25 M hi hx hm next H locs la hX hM hS hl)
  · exact lv_tableIn (tgt := 875) M.1 M.2.1 dL_law_33 (by decide) (by decide) (off := 842) (by decide) (by decide) (lc_26 M hi hx hm next H locs la hX hM hS hl)
  · exact lv_tableIn (tgt := 898) M.1 M.2.1 dL_law_33 (by decide) (by decide) (off := 865) (by decide) (by decide) (lc_27 M hi hx hm next H locs la hX hM hS hl)
  · exact lv_tableIn (tgt := 941) M.1 M.2.1 dL_law_33 (by decide) (by decide) (off := 908) (by decide) (by decide) (lc_28 M hi hx hm next H locs la hX hM hS hl)
  · exact lv_tableIn (tgt := 984) M.1 M.2.1 dL_law_33 (by decide) (by decide) (off := 951) (by decide) (by decide) (lc_29 M hi hx hm next H locs la hX hM hS hl)
  · exact lv_tableIn (tgt := 1047) M.1 M.2.1 dL_law_33 (by decide) (by decide) (off := 1014) (by decide) (by decide) (lc_30 M hi hx hm next H locs la hX hM hS hl)
  · exact lv_tableIn (tgt := 1100) M.1 M.2.1 dL_law_33 (by decide) (by decide) (off := 1067) (by decide) (by decide) (lc_31 M hi hx hm next H locs la hX hM hS hl)
set_option maxRecDepth 20000 in
theorem lw_loop (M : zLM p s m c b L xs D cA y adX adM) (hr : meth.sig.returnType = ret) (hlocks : meth.locks = false) : ∀ (f i : Nat) (A : zA) (σx σm : zSt), i ≤ L + 5 → L + 6 ≤ i + f → RX A σx → RM A σm → zL p l e s m below meth c b D cA adX adM 18 [(0, .ref b), (1, .ref (adX 0)), (2, .ref (adM 0)), (3, .int (nI i))] [] σx σm := by
  intro f
  induction f with
  | zero => intro i A σx σm h1 h2; omega
  | succ f ih =>
    intro i A σx σm h1 h2 hx hm H locs la hX hM hS hl
    obtain ⟨e1, e2, -, -, -, ⟨hXs, hbl, hL⟩, -⟩ := id M
    refine lv_iload_n e1 e2 dL_law_18 rfl (lv_at hl 3 rfl) ?_
    refine lv_aload_n e1 e2 dL_law_19 rfl (lv_at hl 0 rfl) ?_
    refine va_slen e1 e2 hXs hbl (Nat.not_le.mpr hbl) hS dL_law_20 ?_
    refine lv_bipush (v := 6) e1 e2 dL_law_21 (by decide) ?_
    refine lv_isub e1 e2 dL_law_23 ?_
    refine lv_icmp_gt (tgt := 1139) e1 e2 dL_law_24 (by decide) (fun _ => ?_) (fun hc => ?_)
    · refine lv_iconst (v := 1) e1 e2 dL_law_1139 (by decide) ?_
      refine va_forget (fun q hq => hS.2.2 q hq) ?_
      exact lw_ret e1 e2 hr hlocks dL_law_1140
    · have hi : i + 6 ≤ L := lw_more hL h1 hc
      refine lv_aload_n e1 e2 dL_law_27 rfl (lv_at hl 0 rfl) ?_
      refine lv_iload_n e1 e2 dL_law_28 rfl (lv_at hl 3 rfl) ?_
      refine va_sld e1 e2 hXs hbl (Nat.not_le.mpr hbl) hS (zin' (by omega) (by omega)) dL_law_29 ?_
      refine lv_bipush (v := 31) e1 e2 dL_law_30 (by decide) ?_
      refine lv_iand e1 e2 dL_law_32 ?_
      obtain ⟨k, hk, hxk⟩ := lw_and (xs (nI i).toNatClampNeg)
      refine lw_case M hi hx hm hk hxk (fun A' σx' σm' hx' hm' => ?_) H locs la hX hM hS hl
      intro H2 locs2 la2 hX2 hM2 hS2 hl2
      refine lv_iinc (v := nI (i + 6)) (lv' := [(3, .int (nI (i + 6))), (0, .ref b), (1, .ref (adX 0)), (2, .ref (adM 0))]) e1 e2 dL_law_1133 hl2 (k := 3) rfl (by rw [← nI_add]; rfl) (by decide) rfl (fun la3 hl3 => ?_)
      refine lv_goto (tgt := 18) e1 e2 dL_law_1136 (by decide) ?_
      exact ih (i + 6) A' σx' σm' (by omega) (by omega) hx' hm' H2 locs2 la3 hX2 hM2 hS2 (lv_sub hl3 [1, 2, 3, 0] rfl)
end zLoop
