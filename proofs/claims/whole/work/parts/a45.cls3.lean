/-! spans are tried -/
def zxi (x : Nat) : Int32 := if x = 0 then -1 else nI (x - 1)
theorem zxi_le {x b : Nat} (hx : x < 1000) (hb : b < 1000) : (zxi x ≤ nI b) ↔ x ≤ b + 1 := by
  unfold zxi
  by_cases c : x = 0
  · rw [if_pos c]
    constructor
    · intro _; omega
    · intro _
      rw [Int32.le_iff_toInt_le, nI_toInt (by omega), show ((-1 : Int32)).toInt = -1 from by decide]
      omega
  · rw [if_neg c, nI_leI (by omega) (by omega)]
    omega
/-- only one place has changed -/
def cp (h : Nat) (σ σ' : zSt) : Prop := (∀ o, o ≠ 31 → o ≠ 32 → o ≠ 33 → σ'.1 o = σ.1 o) ∧ ∀ o k, k ≠ h → σ'.1 o k = σ.1 o k
theorem cp.tr {h : Nat} {σ σ' σ'' : zSt} (e : cp h σ σ') (f : cp h σ' σ'') : cp h σ σ'' := ⟨fun o a b c => (f.1 o a b c).trans (e.1 o a b c), fun o k hk => (f.2 o k hk).trans (e.2 o k hk)⟩
theorem cp.rf (h : Nat) (σ : zSt) : cp h σ σ := ⟨fun _ _ _ _ => rfl, fun _ _ _ => rfl⟩
theorem cp.put (h : Nat) (σ : zSt) {o : Nat} (v : Int32) (ho : o = 31 ∨ o = 32 ∨ o = 33) : cp h σ (zput σ o h v) := ⟨fun o' a b c => zput_ne (by omega), fun o' k hk => by rw [zput_at, if_neg (fun z => hk z.2)]⟩
theorem p4_try_L {P : zP} (hP : zpk P) {K s b w h v0 : Nat} (hK : K ≤ 99) (hs : s < 24) (hb : b < 3) (hw : zy_ok P s w) (hh : h < (s + 1) * 48) (hv0 : v0 ≤ 1000000000) {σ0 : zSt} (hS : cS P s σ0) (hV : cV P (s + 1) σ0) (Q Kc : zSt → Prop) (hKc : ∀ σ' : zSt, cp h σ0 σ' → ((zy_F (zy_G P K s b w) (zy_nx P s b w) b (25 - zy_e0 P s) v0 0 0).1 = v0 ∧ σ'.1 31 h = nI v0 ∧ σ'.1 32 h = σ0.1 32 h ∧ σ'.1 33 h = σ0.1 33 h) ∨ ((zy_F (zy_G P K s b w) (zy_nx P s b w) b (25 - zy_e0 P s) v0 0 0).1 < v0 ∧ σ'.1 31 h = nI (zy_F (zy_G P K s b w) (zy_nx P s b w) b (25 - zy_e0 P s) v0 0 0).1 ∧ σ'.1 32 h = nI b ∧ σ'.1 33 h = nI (zy_F (zy_G P K s b w) (zy_nx P s b w) b (25 - zy_e0 P s) v0 0 0).2) → Kc σ') : ∀ (j f v en x : Nat) (σ : zSt), j ≤ 24 - s → j < f → x ≤ 3 → zy_F (zy_G P K s b w) (zy_nx P s b w) b j v en x = zy_F (zy_G P K s b w) (zy_nx P s b w) b (25 - zy_e0 P s) v0 0 0 → cp h σ0 σ → σ.1 31 h = nI v → ((v = v0 ∧ x = 0 ∧ σ.1 32 h = σ0.1 32 h ∧ σ.1 33 h = σ0.1 33 h) ∨ (v < v0 ∧ σ.1 32 h = nI b ∧ σ.1 33 h = nI en)) → wX4_trySpans_L19 Q Kc (nI h) (nI b) (nI (w &&& (w ^^^ zy_at P b))) (nI (K + zy_cs P (w &&& zy_at P b) s)) f (zxi x) (nI (25 - j)) σ := by
  intro j
  induction j with
  | zero =>
    intro f v en x σ h1 h2 hx hF hc hv hi
    obtain ⟨f, rfl⟩ : ∃ n', f = n' + 1 := ⟨f - 1, by omega⟩
    rw [wX4_trySpans_L19, if_pos (by decide)]
    rw [zy_F] at hF
    refine hKc σ hc ?_
    rw [← hF]
    rcases hi with ⟨q1, q2, q3, q4⟩ | ⟨q1, q2, q3⟩
    · exact Or.inl ⟨q1, by rw [hv, q1], q3, q4⟩
    · exact Or.inr ⟨q1, hv, q2, q3⟩
  | succ j ih =>
    intro f v en x σ h1 h2 hx hF hc hv hi
    obtain ⟨f, rfl⟩ : ∃ n', f = n' + 1 := ⟨f - 1, by omega⟩
    have hse : s < 24 - j := by omega
    have hvw := zy_v_we (P := P) (b := b) (e := 24 - j) hw (by omega)
    have wl := zy_v_lt hvw.1
    have hvl : v ≤ v0 := by rcases hi with q | q <;> omega
    have hp1 : vp_in (nI (b * 25 + (24 - j))) 75 := zin' (by omega) (by omega)
    have hp2 : vp_in (nI (((24 - j) * 3 + b) * 16 + zy_we P s b w (24 - j))) 1200 := zin' (by omega) (by omega)
    have hp3 : vp_in (nI h) 1200 := zin' (by omega) (by omega)
    have ne : ((24 - j) * 3 + b) * 16 + zy_we P s b w (24 - j) ≠ h := by omega
    have sp := hS b (24 - j) hb (by omega)
    have vt := hV (24 - j) b (zy_we P s b w (24 - j)) (by omega) (by omega) (by omega) hb hvw
    have bG := zy_G_b hP (K := K) (s := s) (b := b) (w := w) (e := 24 - j) hK
    rw [zy_F] at hF
    rw [show 25 - (j + 1) = 24 - j by omega]
    rw [wX4_trySpans_L19, if_neg (show ¬ (25 : Int32) ≤ nI (24 - j) from nI_ge (b := 25) (by omega) (by omega))]
    rw [show nI b * (25 : Int32) + nI (24 - j) = nI (b * 25 + (24 - j)) from by rw [show (25 : Int32) = nI 25 from rfl, pk_mul, nI_add], zcl (show b * 25 + (24 - j) < 2147483648 by omega), hc.1 34 (by decide) (by decide) (by decide), hc.1 35 (by decide) (by decide) (by decide), sp.1, sp.2, zb_or]
    rw [show (w &&& (w ^^^ zy_at P b)) ||| zy_sw P s b (24 - j) = zy_we P s b w (24 - j) from rfl]
    rw [show (nI (24 - j) * (3 : Int32) + nI b) * 16 + nI (zy_we P s b w (24 - j)) = nI (((24 - j) * 3 + b) * 16 + zy_we P s b w (24 - j)) from by rw [show (3 : Int32) = nI 3 from rfl, show (16 : Int32) = nI 16 from rfl, pk_mul, nI_add, pk_mul, nI_add]]
    refine ⟨hp1, ?_⟩
    rw [forall_eq, zcl (show ((24 - j) * 3 + b) * 16 + zy_we P s b w (24 - j) < 2147483648 by omega), hc.2 31 _ ne, vt.1]
    refine ⟨hp1, hp2, ?_⟩
    rw [forall_eq, nI_add, nI_add, show K + zy_cs P (w &&& zy_at P b) s + zy_sc P s b (24 - j) + zy_nv P (24 - j) b (zy_we P s b w (24 - j)) = zy_G P K s b w (24 - j) from rfl, zcl (show h < 2147483648 by omega), hv]
    refine ⟨hp3, ?_⟩
    have ej : nI (24 - j) + 1 = nI (25 - j) := by rw [nI_1, show 24 - j + 1 = 25 - j by omega]
    have take : (zy_G P K s b w (24 - j) < v ∨ (zy_G P K s b w (24 - j) = v ∧ b + 1 < x)) → ∀ σ1 : zSt, σ1 = zput (zput (zput σ 31 h (nI (zy_G P K s b w (24 - j)))) 32 h (nI b)) 33 h (nI (24 - j)) → wX4_trySpans_L19 Q Kc (nI h) (nI b) (nI (w &&& (w ^^^ zy_at P b))) (nI (K + zy_cs P (w &&& zy_at P b) s)) f (zxi (if 24 - j < 24 then zy_nx P s b w (24 - j) + 1 else 0)) (nI (25 - j)) σ1 := by
      intro c σ1 e1
      rw [if_pos c] at hF
      have cp1 : cp h σ σ1 := by rw [e1]; exact ((cp.put h σ _ (by omega)).tr (cp.put h _ _ (by omega))).tr (cp.put h _ _ (by omega))
      have lt : zy_G P K s b w (24 - j) < v0 := by
        rcases hi with ⟨q1, q2, _⟩ | ⟨q1, _⟩
        · omega
        · omega
      have nl : zy_nx P s b w (24 - j) < 3 := zfirst_lt _
      refine ih f (zy_G P K s b w (24 - j)) (24 - j) _ σ1 (by omega) (by omega) ?_ hF (hc.tr cp1) (by rw [e1]; simp [zput_at]) (Or.inr ⟨lt, by rw [e1]; simp [zput_at], by rw [e1]; simp [zput_at]⟩)
      split <;> omega
    have skip : ¬ (zy_G P K s b w (24 - j) < v ∨ (zy_G P K s b w (24 - j) = v ∧ b + 1 < x)) → wX4_trySpans_L19 Q Kc (nI h) (nI b) (nI (w &&& (w ^^^ zy_at P b))) (nI (K + zy_cs P (w &&& zy_at P b) s)) f (zxi x) (nI (25 - j)) σ := by
      intro c
      rw [if_neg c] at hF
      exact ih f v en x σ (by omega) (by omega) hx hF hc hv hi
    have cont : ∀ (c : zy_G P K s b w (24 - j) < v ∨ (zy_G P K s b w (24 - j) = v ∧ b + 1 < x)) (σ1 : zSt), σ1 = zput (zput (zput σ 31 h (nI (zy_G P K s b w (24 - j)))) 32 h (nI b)) 33 h (nI (24 - j)) → (if (24 : Int32) ≤ nI (24 - j) then (∀ x107 : Int32, x107 = nI (24 - j) + 1 → (wX4_trySpans_L19 Q Kc (nI h) (nI b) (nI (w &&& (w ^^^ zy_at P b))) (nI (K + zy_cs P (w &&& zy_at P b) s)) f (-1) x107 σ1)) else (vp_in (nI (((24 - j) * 3 + b) * 16 + zy_we P s b w (24 - j))) 1200 ∧ (∀ x108 : Int32, x108 = (σ1.1 32 (((24 - j) * 3 + b) * 16 + zy_we P s b w (24 - j))) → (∀ x109 : Int32, x109 = nI (24 - j) + 1 → (wX4_trySpans_L19 Q Kc (nI h) (nI b) (nI (w &&& (w ^^^ zy_at P b))) (nI (K + zy_cs P (w &&& zy_at P b) s)) f x108 x109 σ1))))) := by
      intro c σ1 e1
      have tk := take c σ1 e1
      by_cases c24 : 24 - j < 24
      · rw [if_pos c24] at tk
        rw [if_neg (show ¬ (24 : Int32) ≤ nI (24 - j) from nI_ge (b := 24) c24 (by omega)), ej]
        refine ⟨hp2, ?_⟩
        have e32 : σ1.1 32 (((24 - j) * 3 + b) * 16 + zy_we P s b w (24 - j)) = zxi (zy_nx P s b w (24 - j) + 1) := by
          rw [e1, zput_ne (by decide), zput_at, if_neg (fun z => ne z.2), zput_ne (by decide), hc.2 32 _ ne, (vt.2 c24).1]
          rfl
        rw [forall_eq, forall_eq, e32]
        exact tk
      · rw [if_neg c24] at tk
        rw [if_pos (show (24 : Int32) ≤ nI (24 - j) from nI_le (a := 24) (by omega) (by omega)), ej, forall_eq]
        exact tk
    by_cases c1 : zy_G P K s b w (24 - j) < v
    · rw [if_pos (show nI (zy_G P K s b w (24 - j)) < nI v from nI_lt c1 (by omega))]
      refine ⟨hp3, ?_⟩
      rw [forall_eq]
      refine ⟨hp3, ?_⟩
      rw [forall_eq]
      refine ⟨hp3, ?_⟩
      rw [forall_eq]
      exact cont (Or.inl c1) _ rfl
    · rw [if_neg (show ¬ nI (zy_G P K s b w (24 - j)) < nI v from nI_nlt (by omega) (by omega))]
      refine ⟨hp3, ?_⟩
      by_cases c2 : zy_G P K s b w (24 - j) = v
      · rw [if_pos (show nI (zy_G P K s b w (24 - j)) = nI v by rw [c2])]
        by_cases c3 : x ≤ b + 1
        · rw [if_pos ((zxi_le (by omega) (by omega)).mpr c3), ej, forall_eq]
          exact skip (by omega)
        · rw [if_neg (fun z => c3 ((zxi_le (by omega) (by omega)).mp z))]
          refine ⟨hp3, ?_⟩
          rw [forall_eq]
          refine ⟨hp3, ?_⟩
          rw [forall_eq]
          refine ⟨hp3, ?_⟩
          rw [forall_eq]
          exact cont (Or.inr ⟨c2, by omega⟩) _ rfl
      · rw [if_neg (show ¬ nI (zy_G P K s b w (24 - j)) = nI v from fun z => c2 ((nI_eq (by omega) (by omega)).mp z)), ej, forall_eq]
        exact skip (by omega)
theorem p4_try {P : zP} (hP : zpk P) {D : zD} (hH : P.2.2.2.2.2 = D 6 3) {K s b w h v0 : Nat} (hK : K ≤ 99) (hs : s < 24) (hb : b < 3) (hw : zy_ok P s w) (hh : h < (s + 1) * 48) (hv0 : v0 ≤ 1000000000) {σ0 : zSt} (hD : zDX 1 D σ0) (hS : cS P s σ0) (hV : cV P (s + 1) σ0) (h31 : σ0.1 31 h = nI v0) (Q : zSt → Prop) (hQ : ∀ σ' : zSt, cp h σ0 σ' → (v0 ≤ zy_M (zy_G P K s b w) (24 - zy_e0 P s) → σ'.1 31 h = nI v0 ∧ σ'.1 32 h = σ0.1 32 h ∧ σ'.1 33 h = σ0.1 33 h) → (zy_M (zy_G P K s b w) (24 - zy_e0 P s) < v0 → σ'.1 31 h = nI (zy_M (zy_G P K s b w) (24 - zy_e0 P s)) ∧ σ'.1 32 h = nI b ∧ σ'.1 33 h = nI (zy_end P K s b w)) → Q σ') : wX4_trySpans (nI h) (nI s) (nI b) (nI (w &&& (w ^^^ zy_at P b))) (nI (K + zy_cs P (w &&& zy_at P b) s)) σ0 Q := by
  have hH2 := hP.2.1
  have he : s < zy_e0 P s ∧ zy_e0 P s ≤ 24 := by unfold zy_e0; omega
  have hx : ∀ t, t < 24 → zy_nx P s b w t ≠ b := fun t _ => (zg_first hP hb).1
  have eF := zy_F_M (G := zy_G P K s b w) hx (24 - zy_e0 P s) v0 0 0 (by omega)
  rw [show 24 - zy_e0 P s + 1 = 25 - zy_e0 P s by omega] at eF
  unfold wX4_trySpans
  rw [show σ0.1 1 8 = nI (D 6 3) from hD.2.2.2.2.2.2.1, ← hH, nI_add, show (if (24 : Int32) < nI (s + P.2.2.2.2.2) then (24 : Int32) else nI (s + P.2.2.2.2.2)) = nI (25 - (25 - zy_e0 P s)) from by
    unfold zy_e0
    by_cases c : 24 < s + P.2.2.2.2.2
    · rw [if_pos (show (24 : Int32) < nI (s + P.2.2.2.2.2) from nI_lt (a := 24) c (by omega)), show 25 - (25 - min (s + P.2.2.2.2.2) 24) = 24 by omega]; rfl
    · rw [if_neg (show ¬ (24 : Int32) < nI (s + P.2.2.2.2.2) from nI_nlt (a := 24) (by omega) (by omega)), show 25 - (25 - min (s + P.2.2.2.2.2) 24) = s + P.2.2.2.2.2 by omega], forall_eq]
  refine p4_try_L hP hK hs hb hw hh hv0 hS hV Q _ (fun σ' hc hi => ?_) (25 - zy_e0 P s) 300 v0 0 0 σ0 (by omega) (by omega) (by omega) rfl (cp.rf h σ0) h31 (Or.inl ⟨rfl, rfl, rfl, rfl⟩)
  rw [eF] at hi
  by_cases c : v0 < zy_M (zy_G P K s b w) (24 - zy_e0 P s) ∨ (v0 = zy_M (zy_G P K s b w) (24 - zy_e0 P s) ∧ ¬ b + 1 < 0)
  · rw [if_pos c] at hi
    refine hQ σ' hc (fun _ => ?_) (fun q => by omega)
    rcases hi with q | q
    · exact q.2
    · have := q.1; dsimp only at this; omega
  · rw [if_neg c] at hi
    refine hQ σ' hc (fun q => by omega) (fun _ => ?_)
    rcases hi with q | q
    · have := q.1; dsimp only at this; omega
    · exact q.2
