theorem zput_ne {σ : zSt} {o j o' : Nat} {v : Int32} (h : o' ≠ o) : (zput σ o j v).1 o' = σ.1 o' := by simp [zput, zrow, h]
theorem zput_eq {σ : zSt} {o j : Nat} {v : Int32} : (zput σ o j v).1 o = upd (σ.1 o) j v := by simp [zput, zrow]
theorem zput_at {σ : zSt} {o j o' j' : Nat} {v : Int32} : (zput σ o j v).1 o' j' = if o' = o ∧ j' = j then v else σ.1 o' j' := by
  by_cases h : o' = o
  · subst h
    by_cases h2 : j' = j
    · subst h2; simp [zput, zrow, upd]
    · simp [zput, zrow, upd, h2]
  · simp [zput, zrow, h]
theorem zrow_ne {σ : zSt} {o o' : Nat} {f : Nat → Int32} (h : o' ≠ o) : (zrow σ o f).1 o' = σ.1 o' := by simp [zrow, h]
def zDu (D : zD) (c j v : Nat) : zD := fun a b => if a = c ∧ b = j then v else D a b
/-- a stack machine over codes: what a text's part is worth -/
def zname (names : Nat → Int32) (c : Int32) : Int32 := if 0 ≤ c then c else names (-1 - c).toNatClampNeg
def zop (c a b : Int32) : Int32 := if c = -9 then a + b else if c = -10 then a - b else if c = -11 then a * b else if c = -12 then (if a < b then 1 else 0) else if c = -13 then (if a = b then 1 else 0) else if c = -14 then (if a = 0 then 0 else if b = 0 then 0 else 1) else (if a = 0 then (if b = 0 then 0 else 1) else 1)
def zstep (names : Nat → Int32) (S : List Int32) (c : Int32) : List Int32 :=
  if -6 ≤ c then zname names c :: S
  else if -8 ≤ c then (match S with | [] => [] | a :: r => (if c = -7 then -a else if a = 0 then 1 else 0) :: r)
  else (match S with | b :: a :: r => zop c a b :: r | r => r)
def zev (names : Nat → Int32) : List Int32 → List Int32 → List Int32
  | S, [] => S
  | S, c :: cs => zev names (zstep names S c) cs
def zworth (names : Nat → Int32) (cs : List Int32) : Int32 := (zev names [] cs).headD 0
def zclamp (v : Int32) : Nat := if v < 0 then 0 else if 99 < v then 99 else v.toNatClampNeg
def znm (a b c d e f : Int32) (k : Nat) : Int32 := if k = 0 then a else if k = 1 then b else if k = 2 then c else if k = 3 then d else if k = 4 then e else if k = 5 then f else 0
abbrev zCo : Type := Nat → Nat → List Int32
def zcost (D : zD) (C : zCo) (i m : Nat) : Nat := zclamp (zworth (znm (nI m - nI (D 2 i)) (nI (D 3 i)) (nI m) (nI (D 1 i)) 0 (nI (D 6 0 + D 6 1))) (C (D 6 5) (if i < 4 then 0 else 1)))
def zchg (D : zD) (C : zCo) (m was is : Nat) : Nat := zclamp (zworth (znm 0 0 (nI m) (nI is) (nI was) (nI (D 6 0 + D 6 1))) (C (D 6 5) 2))
theorem zclamp_le (v : Int32) : zclamp v ≤ 99 := by
  unfold zclamp
  by_cases h : v < 0
  · simp [h]
  · by_cases h2 : 99 < v
    · simp [h, h2]
    · simp only [h, h2, if_false]
      obtain ⟨j, hj, rfl⟩ := nI_of h
      rw [nI_clamp hj]
      have h3 : ¬ 99 < j := fun q => h2 (nI_lt (a := 99) (b := j) q hj)
      omega
theorem zclamp_eq (v : Int32) : nI (zclamp v) = if v < 0 then 0 else if 99 < v then 99 else v := by
  unfold zclamp
  by_cases h : v < 0
  · simp [h, nI_0]
  · by_cases h2 : 99 < v
    · simp [h, h2]; rfl
    · simp only [h, h2, if_false]
      obtain ⟨j, hj, rfl⟩ := nI_of h
      rw [nI_clamp hj]
/-- all that a run of calls can show -/
abbrev zA : Type := zD × (Option zD) × (Nat × (Nat → Nat)) × (Nat × zCo) × (Nat → Option (Nat × Nat × (Nat → Int32)))
def zimg (D : zD) (K : Option zD) (tc : Nat) : Prop := match K with
  | none => True
  | some K => zOk K ∧ K 6 2 ≤ D 6 2 ∧ (∀ x, x < K 6 2 → K 4 x = D 4 x) ∧ K 6 5 < tc
/-- what holds of it -/
def zI (A : zA) : Prop := zOk A.1 ∧ zimg A.1 A.2.1 A.2.2.2.1.1 ∧ (A.2.2.1.1 ≤ 160 ∧ ∀ j, j < A.2.2.1.1 → A.2.2.1.2 j ≤ 255) ∧ (1 ≤ A.2.2.2.1.1 ∧ A.2.2.2.1.1 ≤ 6 ∧ A.1 6 5 < A.2.2.2.1.1) ∧ ∀ s, s < 4 → ∀ q, A.2.2.2.2 s = some q → q.1 ≤ 2 ∧ q.2.1 ≤ 40
def xTx (c : Nat → List Int32) (i : Nat) (σ : zSt) : Prop := (c 0).length + (c 1).length + (c 2).length ≤ 160 ∧ σ.1 (55 + i) 0 = nI (c 0).length ∧ σ.1 (55 + i) 1 = nI ((c 0).length + (c 1).length) ∧ σ.1 (55 + i) 2 = nI ((c 0).length + (c 1).length + (c 2).length) ∧ ∀ j, j < (c 0).length + (c 1).length + (c 2).length → σ.1 (49 + i) j = (c 0 ++ (c 1 ++ c 2)).getD j 0
def xImg (K : Option zD) (σ : zSt) : Prop := match K with
  | none => σ.1 0 2 = 0
  | some K => σ.1 0 2 = 1 ∧ zDX 9 K σ
def xTa (q : Nat × (Nat → Nat)) (σ : zSt) : Prop := σ.1 0 4 = nI q.1 ∧ ∀ j, j < q.1 → σ.1 17 j = nI (q.2 j)
def xCo (q : Nat × zCo) (σ : zSt) : Prop := σ.1 0 6 = nI q.1 ∧ ∀ i, i < q.1 → xTx (q.2 i) i σ
def xSh (q : Nat → Option (Nat × Nat × (Nat → Int32))) (σ : zSt) : Prop := ∀ s, s < 4 → match q s with
  | none => σ.1 (61 + s) 1 = -1
  | some r => σ.1 (61 + s) 1 = nI r.1 ∧ σ.1 (61 + s) 2 = nI r.2.1 ∧ ∀ j, j < r.2.1 → σ.1 (65 + s) j = r.2.2 j
/-- the class's own memory of costs -/
def xCa (D : zD) (C : zCo) (σ : zSt) : Prop := (∀ i m, i < 8 → m ≤ 24 → σ.1 25 (i * 25 + m) = -1 ∨ σ.1 25 (i * 25 + m) = nI (zcost D C i m)) ∧ (∀ m was is, m < 24 → was < 3 → is < 3 → σ.1 25 (200 + ((m * 3 + was) * 3 + is)) = -1 ∨ σ.1 25 (200 + ((m * 3 + was) * 3 + is)) = nI (zchg D C m was is))
/-! the least plan: a table told back from the day's end. P: who is there, who goes at a bridge, from when, what each costs, what a change costs, hold -/
abbrev zP : Type := (Nat → Bool) × (Nat → Nat → Bool) × (Nat → Nat) × (Nat → Nat → Nat) × (Nat → Nat → Nat → Nat) × Nat
def zmask (p : Nat → Bool) : Nat → Nat
  | 0 => 0
  | k + 1 => (if p k = true then 2 ^ k else 0) + zmask p k
def zsum (f : Nat → Nat) : Nat → Nat
  | 0 => 0
  | k + 1 => zsum f k + f k
/-- who is through behind minute m, if b is up in it and n were -/
def znow (P : zP) (m b n : Nat) : Nat := n ||| zmask (fun i => P.1 i && decide (P.2.2.1 i ≤ m) && P.2.1 i b) 8
def zcby (P : zP) (m n now : Nat) : Nat := zsum (fun i => if now.testBit i = true ∧ n.testBit i = false then P.2.2.2.1 i m else 0) 8
def zall (P : zP) : Nat := zmask P.1 8
def zmin3 (a b c : Nat) : Nat := min a (min b c)
def znev : Nat := 99999999
/-- what is least from minute 24 - k on (k minutes are left), n being through, u up, held so long -/
def zV (P : zP) : Nat → Nat → Nat → Nat → Nat
  | 0, n, _, _ => zcby P 24 n (zall P)
  | k + 1, n, u, held =>
    let f := fun b => if b = u then zV P k (znow P (23 - k) b n) b (if held < P.2.2.2.2.2 then held + 1 else P.2.2.2.2.2) + zcby P (23 - k) n (znow P (23 - k) b n) else if held < P.2.2.2.2.2 then znev else zV P k (znow P (23 - k) b n) b 1 + zcby P (23 - k) n (znow P (23 - k) b n) + P.2.2.2.2.1 (23 - k) u b
    zmin3 (f 0) (f 1) (f 2)
def zstp (P : zP) (k n u held b : Nat) : Nat := if b = u then zV P k (znow P (23 - k) b n) b (if held < P.2.2.2.2.2 then held + 1 else P.2.2.2.2.2) + zcby P (23 - k) n (znow P (23 - k) b n) else if held < P.2.2.2.2.2 then znev else zV P k (znow P (23 - k) b n) b 1 + zcby P (23 - k) n (znow P (23 - k) b n) + P.2.2.2.2.1 (23 - k) u b
def zfirst (f : Nat → Nat) : Nat := if f 0 ≤ f 1 ∧ f 0 ≤ f 2 then 0 else if f 1 ≤ f 2 then 1 else 2
/-- the state behind minute m by the first of the cheapest rows: who is through, which is up, how long -/
def zbeg (P : zP) (b : Nat) : Nat := zV P 23 (znow P 0 b 0) b 1 + zcby P 0 0 (znow P 0 b 0)
def zwalk (P : zP) : Nat → Nat × Nat × Nat
  | 0 => (znow P 0 (zfirst (zbeg P)) 0, zfirst (zbeg P), 1)
  | m + 1 =>
    let q := zwalk P m
    let b := zfirst (zstp P (22 - m) q.1 q.2.1 q.2.2)
    (znow P (m + 1) b q.1, b, if b = q.2.1 then (if q.2.2 < P.2.2.2.2.2 then q.2.2 + 1 else P.2.2.2.2.2) else 1)
def zLc (P : zP) : Nat := zmin3 (zbeg P 0) (zbeg P 1) (zbeg P 2)
def zLr (P : zP) (m : Nat) : Nat := (zwalk P m).2.1
def zpar (D : zD) (co : Nat → Nat → Nat) (ch : Nat → Nat → Nat → Nat) : zP := (zPr D, zPa D, D 2, co, ch, D 6 3)
def zparC (D : zD) (C : zCo) : zP := zpar D (zcost D C) (zchg D C)
def zparF (D : zD) : zP := zpar D (fun _ m => if m = 24 then 1000000 else 0) (fun _ _ _ => 1)
def zfew (D : zD) : Int32 := if zLc (zparF D) < 1000000 then nI (zLc (zparF D)) else -1
def xSe (D : zD) (C : zCo) (σ : zSt) : Prop := (σ.1 28 11 = -2 ∨ (σ.1 28 11 = nI (zLc (zparC D C)) ∧ ∀ m, m < 24 → σ.1 37 m = nI (zLr (zparC D C) m))) ∧ (σ.1 28 12 = -2 ∨ σ.1 28 12 = zfew D)
/-- the class stands for A -/
def RX (A : zA) (σ : zSt) : Prop := zI A ∧ zDX 1 A.1 σ ∧ xImg A.2.1 σ ∧ xTa A.2.2.1 σ ∧ xCo A.2.2.2.1 σ ∧ xSh A.2.2.2.2 σ ∧ xCa A.1 A.2.2.2.1.2 σ ∧ xSe A.1 A.2.2.2.1.2 σ
/-! one part of the class's store stands when another is written -/
theorem zDX.fr {o : Nat} {D : zD} {σ σ' : zSt} (h : zDX o D σ) (e : ∀ k, k ≤ 7 → σ'.1 (o + k) = σ.1 (o + k)) : zDX o D σ' := by
  have e0 : σ'.1 o = σ.1 o := e 0 (by omega)
  obtain ⟨h1, h2, h3, h4⟩ := h
  refine ⟨?_, ?_, ?_, ?_⟩
  · rw [e 1 (by omega)]; exact h1
  · rw [e 3 (by omega), e 4 (by omega), e 5 (by omega)]; exact h2
  · rw [e 6 (by omega), e 7 (by omega)]; exact h3
  · rw [e 2 (by omega), e0]; exact h4
theorem xTx.fr {c : Nat → List Int32} {i : Nat} {σ σ' : zSt} (h : xTx c i σ) (e1 : σ'.1 (55 + i) = σ.1 (55 + i)) (e2 : σ'.1 (49 + i) = σ.1 (49 + i)) : xTx c i σ' := by
  unfold xTx at h ⊢
  rw [e1, e2]; exact h
theorem xImg.fr {K : Option zD} {σ σ' : zSt} (h : xImg K σ) (e0 : σ'.1 0 2 = σ.1 0 2) (e : ∀ k, k ≤ 7 → σ'.1 (9 + k) = σ.1 (9 + k)) : xImg K σ' := by
  cases K with
  | none => exact e0.trans h
  | some K => exact ⟨e0.trans h.1, h.2.fr e⟩
theorem xTa.fr {q : Nat × (Nat → Nat)} {σ σ' : zSt} (h : xTa q σ) (e0 : σ'.1 0 4 = σ.1 0 4) (e : σ'.1 17 = σ.1 17) : xTa q σ' := by
  unfold xTa at h ⊢
  rw [e0, e]; exact h
theorem xCo.fr {q : Nat × zCo} {σ σ' : zSt} (h : xCo q σ) (e0 : σ'.1 0 6 = σ.1 0 6) (e1 : ∀ i, i < 6 → σ'.1 (55 + i) = σ.1 (55 + i)) (e2 : ∀ i, i < 6 → σ'.1 (49 + i) = σ.1 (49 + i)) (hq : q.1 ≤ 6) : xCo q σ' := ⟨e0.trans h.1, fun i hi => (h.2 i hi).fr (e1 i (by omega)) (e2 i (by omega))⟩
theorem xSh.fr {q : Nat → Option (Nat × Nat × (Nat → Int32))} {σ σ' : zSt} (h : xSh q σ) (e1 : ∀ s, s < 4 → σ'.1 (61 + s) = σ.1 (61 + s)) (e2 : ∀ s, s < 4 → σ'.1 (65 + s) = σ.1 (65 + s)) : xSh q σ' := by
  intro s hs
  have := h s hs
  cases hq : q s with
  | none => rw [hq] at this; simpa [e1 s hs] using this
  | some r => rw [hq] at this; simpa [e1 s hs, e2 s hs] using this
theorem xCa.fr {D : zD} {C : zCo} {σ σ' : zSt} (h : xCa D C σ) (e : σ'.1 25 = σ.1 25) : xCa D C σ' := by
  unfold xCa at h ⊢
  rw [e]; exact h
theorem xSe.fr {D : zD} {C : zCo} {σ σ' : zSt} (h : xSe D C σ) (e : σ'.1 28 = σ.1 28) (e2 : σ'.1 37 = σ.1 37) : xSe D C σ' := by
  unfold xSe at h ⊢
  rw [e, e2]; exact h
