section
variable {p : Program} {l : Launch} {e : Env} {s : State} {m : MethodId} {args : Array Value} {below : List Frame} {meth : Method} {c : Code} {D : va_G} {cA : Nat → ClassId} {ad : Nat → Nat} {y : zX}
def wX3_one_b (C : Nat → Int32 → zSt → (Int32 → zSt → Prop) → Prop) (x1 : Int32) (σ : zSt) (Q : Int32 → zSt → Prop) : Prop := if (σ.1 19 5) = 2 then (vp_in (σ.1 19 8) 6 ∧ (if (σ.1 19 5) = 2 then (∀ a107 : Int32, a107 = (σ.1 19 6) → (wX6_put ((σ.1 19 8).toNatClampNeg) a107 σ (fun σ109 => wX3_advance  σ109 (fun σ111 => Q 1 σ111)))) else (∀ a102 : Int32, a102 = ((-1) - (σ.1 19 6)) → (wX6_put ((σ.1 19 8).toNatClampNeg) a102 σ (fun σ104 => wX3_advance  σ104 (fun σ106 => Q 1 σ106)))))) else (if (σ.1 19 5) = 3 then (vp_in (σ.1 19 8) 6 ∧ (if (σ.1 19 5) = 2 then (∀ a148 : Int32, a148 = (σ.1 19 6) → (wX6_put ((σ.1 19 8).toNatClampNeg) a148 σ (fun σ150 => wX3_advance  σ150 (fun σ152 => Q 1 σ152)))) else (∀ a143 : Int32, a143 = ((-1) - (σ.1 19 6)) → (wX6_put ((σ.1 19 8).toNatClampNeg) a143 σ (fun σ145 => wX3_advance  σ145 (fun σ147 => Q 1 σ147)))))) else (if (σ.1 19 5) = 40 then (if x1 < 5 then (wX3_passes 40 σ (fun r112 σ113 => if r112 = 0 then (wX3_advance  σ113 (fun σ115 => ∀ a116 : Int32, a116 = (x1 + 1) → (C 6 a116 σ115 (fun r117 σ118 => if r117 = 0 then (Q 0 σ118) else (vp_in (σ118.1 19 8) 6 ∧ (wX6_put ((σ118.1 19 8).toNatClampNeg) (-7) σ118 (fun σ121 => Q 1 σ121))))))) else (∀ a122 : Int32, a122 = (x1 + 1) → (C 0 a122 σ113 (fun r123 σ124 => if r123 = 0 then (Q 0 σ124) else (wX3_passes 41 σ124 (fun r125 σ126 => if r125 = 0 then (Q 0 σ126) else (Q 1 σ126)))))))) else (Q 0 σ)) else (if (σ.1 19 5) = 45 then (if x1 < 5 then (wX3_passes 40 σ (fun r127 σ128 => if r127 = 0 then (wX3_advance  σ128 (fun σ130 => ∀ a131 : Int32, a131 = (x1 + 1) → (C 6 a131 σ130 (fun r132 σ133 => if r132 = 0 then (Q 0 σ133) else (vp_in (σ133.1 19 8) 6 ∧ (wX6_put ((σ133.1 19 8).toNatClampNeg) (-7) σ133 (fun σ136 => Q 1 σ136))))))) else (∀ a137 : Int32, a137 = (x1 + 1) → (C 0 a137 σ128 (fun r138 σ139 => if r138 = 0 then (Q 0 σ139) else (wX3_passes 41 σ139 (fun r140 σ141 => if r140 = 0 then (Q 0 σ141) else (Q 1 σ141)))))))) else (Q 0 σ)) else (Q 0 σ))))
set_option maxRecDepth 20000 in
set_option maxHeartbeats 4000000 in
theorem kX3_one_b (C : Nat → Int32 → zSt → (Int32 → zSt → Prop) → Prop) (hI : zInj tabX ad) (x1 : Int32)  (dn : Nat) (hC0 : ∀ x σ Q, C 0 x σ Q → zOkI l tabX D cA ad y (dn + 6) yX3_either cX3_either 3 (some .boolean) [.ref (ad 19), .int x] σ Q) (hC1 : ∀ x σ Q, C 1 x σ Q → zOkI l tabX D cA ad y (dn + 6) yX3_both cX3_both 3 (some .boolean) [.ref (ad 19), .int x] σ Q) (hC2 : ∀ x σ Q, C 2 x σ Q → zOkI l tabX D cA ad y (dn + 6) yX3_maybeNot cX3_maybeNot 2 (some .boolean) [.ref (ad 19), .int x] σ Q) (hC3 : ∀ x σ Q, C 3 x σ Q → zOkI l tabX D cA ad y (dn + 6) yX3_comparison cX3_comparison 3 (some .boolean) [.ref (ad 19), .int x] σ Q) (hC4 : ∀ x σ Q, C 4 x σ Q → zOkI l tabX D cA ad y (dn + 6) yX3_sum cX3_sum 4 (some .boolean) [.ref (ad 19), .int x] σ Q) (hC5 : ∀ x σ Q, C 5 x σ Q → zOkI l tabX D cA ad y (dn + 6) yX3_term cX3_term 3 (some .boolean) [.ref (ad 19), .int x] σ Q) (hC6 : ∀ x σ Q, C 6 x σ Q → zOkI l tabX D cA ad y (dn + 6) yX3_one cX3_one 2 (some .boolean) [.ref (ad 19), .int x] σ Q) (σ : zSt) (Q : Int32 → zSt → Prop) (h : wX3_one_b C x1 σ Q) : zOkI l tabX D cA ad y (dn + 7) yX3_one cX3_one 2 (some .boolean) [.ref (ad 19), .int x1] σ Q := by
  refine zz_enter hI (by decide) (Nat.le_of_ble_eq_true rfl) (fun p e s m below meth c M => ?_)
  have M : zM p s m _ meth c cX3_one 2 RX3 (some .boolean) tabX D cA ad y := M
  refine zz_ls [(0, .ref (ad 19)), (1, .int x1)] rfl ?_
  unfold wX3_one_b at h
  refine zz_aload_n M 0 dX3_one_0 rfl rfl ?_
  refine zz_getI M f_X3_28 tX_19 rfl dX3_one_1 ?_
  refine zz_iconst (v := 2) M dX3_one_4 (by decide) ?_
  refine zz_icmp_eq M 16 dX3_one_5 (by decide) (fun c => ?_) (fun c => ?_)
  · have h := zif (c := (σ.1 19 5) = 2) h c
    refine zz_aload_n M 0 dX3_one_16 rfl rfl ?_
    have hq101 := h.1
    refine zz_getD (b := 43) M f_X3_37 tX_19 rfl hq101 dX3_one_17 ?_
    have h := h.2
    refine zz_aload_n M 0 dX3_one_20 rfl rfl ?_
    refine zz_getI M f_X3_28 tX_19 rfl dX3_one_21 ?_
    refine zz_iconst (v := 2) M dX3_one_24 (by decide) ?_
    refine zz_icmp_ne M 35 dX3_one_25 (by decide) (fun c => ?_) (fun c => ?_)
    · have h := zifn (c := (σ.1 19 5) = 2) h c
      refine zz_iconst (v := (-1)) M dX3_one_35 (by decide) ?_
      refine zz_aload_n M 0 dX3_one_36 rfl rfl ?_
      refine zz_getI M f_X3_31 tX_19 rfl dX3_one_37 ?_
      refine zz_isub M dX3_one_40 ?_
      obtain ⟨a102, ea102⟩ : ∃ z : Int32, z = ((-1) - (σ.1 19 6)) := ⟨_, rfl⟩
      have h := h a102 ea102
      refine zz_st [.int a102, .ref (ad (43 + (σ.1 19 8).toNatClampNeg))] (by rw [ea102]) ?_
      refine zz_callVV (d' := 1) (As := [.int a102]) (rest := []) M l_X3_144 (tX_Text (zclt hq101)) rfl rfl dX3_one_41 rfl rfl (by omega) (Nat.le_of_ble_eq_true rfl) (by have hI := M.2.2.2.2.2.2.2.2; exact kX6_put hI _ _ (zclt hq101) _ _ h) (fun σ104 h => ?_)
      refine zz_aload_n M 0 dX3_one_44 rfl rfl ?_
      refine zz_callVV (d' := 1) (As := []) (rest := []) M l_X3_59 tX_19 rfl rfl dX3_one_45 rfl rfl (by omega) (Nat.le_of_ble_eq_true rfl) (by have hI := M.2.2.2.2.2.2.2.2; exact kX3_advance hI   _ _ h) (fun σ106 h => ?_)
      refine zz_iconst (v := 1) M dX3_one_48 (by decide) ?_
      exact zz_zret M dX3_one_49 (Or.inr rfl) h
    · have h := zif (c := (σ.1 19 5) = 2) h c
      refine zz_aload_n M 0 dX3_one_28 rfl rfl ?_
      refine zz_getI M f_X3_31 tX_19 rfl dX3_one_29 ?_
      refine zz_goto M 41 dX3_one_32 (by decide) ?_
      obtain ⟨a107, ea107⟩ : ∃ z : Int32, z = (σ.1 19 6) := ⟨_, rfl⟩
      have h := h a107 ea107
      refine zz_st [.int a107, .ref (ad (43 + (σ.1 19 8).toNatClampNeg))] (by rw [ea107]) ?_
      refine zz_callVV (d' := 1) (As := [.int a107]) (rest := []) M l_X3_144 (tX_Text (zclt hq101)) rfl rfl dX3_one_41 rfl rfl (by omega) (Nat.le_of_ble_eq_true rfl) (by have hI := M.2.2.2.2.2.2.2.2; exact kX6_put hI _ _ (zclt hq101) _ _ h) (fun σ109 h => ?_)
      refine zz_aload_n M 0 dX3_one_44 rfl rfl ?_
      refine zz_callVV (d' := 1) (As := []) (rest := []) M l_X3_59 tX_19 rfl rfl dX3_one_45 rfl rfl (by omega) (Nat.le_of_ble_eq_true rfl) (by have hI := M.2.2.2.2.2.2.2.2; exact kX3_advance hI   _ _ h) (fun σ111 h => ?_)
      refine zz_iconst (v := 1) M dX3_one_48 (by decide) ?_
      exact zz_zret M dX3_one_49 (Or.inr rfl) h
  · have h := zifn (c := (σ.1 19 5) = 2) h c
    refine zz_aload_n M 0 dX3_one_8 rfl rfl ?_
    refine zz_getI M f_X3_28 tX_19 rfl dX3_one_9 ?_
    refine zz_iconst (v := 3) M dX3_one_12 (by decide) ?_
    refine zz_icmp_ne M 50 dX3_one_13 (by decide) (fun c => ?_) (fun c => ?_)
    · have h := zifn (c := (σ.1 19 5) = 3) h c
      refine zz_aload_n M 0 dX3_one_50 rfl rfl ?_
      refine zz_getI M f_X3_28 tX_19 rfl dX3_one_51 ?_
      refine zz_bipush (v := 40) M dX3_one_54 (by decide) ?_
      refine zz_icmp_eq M 68 dX3_one_56 (by decide) (fun c => ?_) (fun c => ?_)
      · have h := zif (c := (σ.1 19 5) = 40) h c
        refine zz_iload_n M 1 dX3_one_68 rfl rfl ?_
        refine zz_iconst (v := 5) M dX3_one_69 (by decide) ?_
        refine zz_icmp_lt M 75 dX3_one_70 (by decide) (fun c => ?_) (fun c => ?_)
        · have h := zif (c := x1 < 5) h c
          refine zz_aload_n M 0 dX3_one_75 rfl rfl ?_
          refine zz_bipush (v := 40) M dX3_one_76 (by decide) ?_
          refine zz_callVI (d' := 2) (As := [.int 40]) (rest := []) M l_X3_131 tX_19 rfl rfl dX3_one_78 rfl rfl (by omega) (Nat.le_of_ble_eq_true rfl) (by have hI := M.2.2.2.2.2.2.2.2; exact kX3_passes hI _  _ _ h) (fun r112 σ113 h => ?_)
          refine zz_if_eq (y0 := 0) M 109 dX3_one_81 (by decide) (fun c => ?_) (fun c => ?_)
          · have h := zif (c := r112 = 0) h c
            refine zz_aload_n M 0 dX3_one_109 rfl rfl ?_
            refine zz_callVV (d' := 1) (As := []) (rest := []) M l_X3_59 tX_19 rfl rfl dX3_one_110 rfl rfl (by omega) (Nat.le_of_ble_eq_true rfl) (by have hI := M.2.2.2.2.2.2.2.2; exact kX3_advance hI   _ _ h) (fun σ115 h => ?_)
            refine zz_aload_n M 0 dX3_one_113 rfl rfl ?_
            refine zz_iload_n M 1 dX3_one_114 rfl rfl ?_
            refine zz_iconst (v := 1) M dX3_one_115 (by decide) ?_
            refine zz_iadd M dX3_one_116 ?_
            obtain ⟨a116, ea116⟩ : ∃ z : Int32, z = (x1 + 1) := ⟨_, rfl⟩
            have h := h a116 ea116
            refine zz_st [.int a116, .ref (ad 19)] (by rw [ea116]) ?_
            refine zz_callVI (d' := dn + 6) (As := [.int a116]) (rest := []) M l_X3_159 tX_19 rfl rfl dX3_one_117 rfl rfl (by omega) (Nat.le_of_ble_eq_true rfl) (by have hI := M.2.2.2.2.2.2.2.2; exact hC6 _ _ _ h) (fun r117 σ118 h => ?_)
            refine zz_if_ne (y0 := 0) M 125 dX3_one_120 (by decide) (fun c => ?_) (fun c => ?_)
            · have h := zifn (c := r117 = 0) h c
              refine zz_aload_n M 0 dX3_one_125 rfl rfl ?_
              have hq119 := h.1
              refine zz_getD (b := 43) M f_X3_37 tX_19 rfl hq119 dX3_one_126 ?_
              have h := h.2
              refine zz_bipush (v := (-7)) M dX3_one_129 (by decide) ?_
              refine zz_callVV (d' := 1) (As := [.int (-7)]) (rest := []) M l_X3_144 (tX_Text (zclt hq119)) rfl rfl dX3_one_131 rfl rfl (by omega) (Nat.le_of_ble_eq_true rfl) (by have hI := M.2.2.2.2.2.2.2.2; exact kX6_put hI _ _ (zclt hq119) _ _ h) (fun σ121 h => ?_)
              refine zz_iconst (v := 1) M dX3_one_134 (by decide) ?_
              exact zz_zret M dX3_one_135 (Or.inr rfl) h
            · have h := zif (c := r117 = 0) h c
              refine zz_iconst (v := 0) M dX3_one_123 (by decide) ?_
              exact zz_zret M dX3_one_124 (Or.inl rfl) h
          · have h := zifn (c := r112 = 0) h c
            refine zz_aload_n M 0 dX3_one_84 rfl rfl ?_
            refine zz_iload_n M 1 dX3_one_85 rfl rfl ?_
            refine zz_iconst (v := 1) M dX3_one_86 (by decide) ?_
            refine zz_iadd M dX3_one_87 ?_
            obtain ⟨a122, ea122⟩ : ∃ z : Int32, z = (x1 + 1) := ⟨_, rfl⟩
            have h := h a122 ea122
            refine zz_st [.int a122, .ref (ad 19)] (by rw [ea122]) ?_
            refine zz_callVI (d' := dn + 6) (As := [.int a122]) (rest := []) M l_X3_134 tX_19 rfl rfl dX3_one_88 rfl rfl (by omega) (Nat.le_of_ble_eq_true rfl) (by have hI := M.2.2.2.2.2.2.2.2; exact hC0 _ _ _ h) (fun r123 σ124 h => ?_)
            refine zz_if_eq (y0 := 0) M 107 dX3_one_91 (by decide) (fun c => ?_) (fun c => ?_)
            · have h := zif (c := r123 = 0) h c
              refine zz_iconst (v := 0) M dX3_one_107 (by decide) ?_
              exact zz_zret M dX3_one_108 (Or.inl rfl) h
            · have h := zifn (c := r123 = 0) h c
              refine zz_aload_n M 0 dX3_one_94 rfl rfl ?_
              refine zz_bipush (v := 41) M dX3_one_95 (by decide) ?_
              refine zz_callVI (d' := 2) (As := [.int 41]) (rest := []) M l_X3_131 tX_19 rfl rfl dX3_one_97 rfl rfl (by omega) (Nat.le_of_ble_eq_true rfl) (by have hI := M.2.2.2.2.2.2.2.2; exact kX3_passes hI _  _ _ h) (fun r125 σ126 h => ?_)
              refine zz_if_eq (y0 := 0) M 107 dX3_one_100 (by decide) (fun c => ?_) (fun c => ?_)
              · have h := zif (c := r125 = 0) h c
                refine zz_iconst (v := 0) M dX3_one_107 (by decide) ?_
                exact zz_zret M dX3_one_108 (Or.inl rfl) h
              · have h := zifn (c := r125 = 0) h c
                refine zz_iconst (v := 1) M dX3_one_103 (by decide) ?_
                refine zz_goto M 108 dX3_one_104 (by decide) ?_
                exact zz_zret M dX3_one_108 (Or.inr rfl) h
        · have h := zifn (c := x1 < 5) h c
          refine zz_iconst (v := 0) M dX3_one_73 (by decide) ?_
          exact zz_zret M dX3_one_74 (Or.inl rfl) h
      · have h := zifn (c := (σ.1 19 5) = 40) h c
        refine zz_aload_n M 0 dX3_one_59 rfl rfl ?_
        refine zz_getI M f_X3_28 tX_19 rfl dX3_one_60 ?_
        refine zz_bipush (v := 45) M dX3_one_63 (by decide) ?_
        refine zz_icmp_ne M 73 dX3_one_65 (by decide) (fun c => ?_) (fun c => ?_)
        · have h := zifn (c := (σ.1 19 5) = 45) h c
          refine zz_iconst (v := 0) M dX3_one_73 (by decide) ?_
          exact zz_zret M dX3_one_74 (Or.inl rfl) h
        · have h := zif (c := (σ.1 19 5) = 45) h c
          refine zz_iload_n M 1 dX3_one_68 rfl rfl ?_
          refine zz_iconst (v := 5) M dX3_one_69 (by decide) ?_
          refine zz_icmp_lt M 75 dX3_one_70 (by decide) (fun c => ?_) (fun c => ?_)
          · have h := zif (c := x1 < 5) h c
            refine zz_aload_n M 0 dX3_one_75 rfl rfl ?_
            refine zz_bipush (v := 40) M dX3_one_76 (by decide) ?_
            refine zz_callVI (d' := 2) (As := [.int 40]) (rest := []) M l_X3_131 tX_19 rfl rfl dX3_one_78 rfl rfl (by omega) (Nat.le_of_ble_eq_true rfl) (by have hI := M.2.2.2.2.2.2.2.2; exact kX3_passes hI _  _ _ h) (fun r127 σ128 h => ?_)
            refine zz_if_eq (y0 := 0) M 109 dX3_one_81 (by decide) (fun c => ?_) (fun c => ?_)
            · have h := zif (c := r127 = 0) h c
              refine zz_aload_n M 0 dX3_one_109 rfl rfl ?_
              refine zz_callVV (d' := 1) (As := []) (rest := []) M l_X3_59 tX_19 rfl rfl dX3_one_110 rfl rfl (by omega) (Nat.le_of_ble_eq_true rfl) (by have hI := M.2.2.2.2.2.2.2.2; exact kX3_advance hI   _ _ h) (fun σ130 h => ?_)
              refine zz_aload_n M 0 dX3_one_113 rfl rfl ?_
              refine zz_iload_n M 1 dX3_one_114 rfl rfl ?_
              refine zz_iconst (v := 1) M dX3_one_115 (by decide) ?_
              refine zz_iadd M dX3_one_116 ?_
              obtain ⟨a131, ea131⟩ : ∃ z : Int32, z = (x1 + 1) := ⟨_, rfl⟩
              have h := h a131 ea131
              refine zz_st [.int a131, .ref (ad 19)] (by rw [ea131]) ?_
              refine zz_callVI (d' := dn + 6) (As := [.int a131]) (rest := []) M l_X3_159 tX_19 rfl rfl dX3_one_117 rfl rfl (by omega) (Nat.le_of_ble_eq_true rfl) (by have hI := M.2.2.2.2.2.2.2.2; exact hC6 _ _ _ h) (fun r132 σ133 h => ?_)
              refine zz_if_ne (y0 := 0) M 125 dX3_one_120 (by decide) (fun c => ?_) (fun c => ?_)
              · have h := zifn (c := r132 = 0) h c
                refine zz_aload_n M 0 dX3_one_125 rfl rfl ?_
                have hq134 := h.1
                refine zz_getD (b := 43) M f_X3_37 tX_19 rfl hq134 dX3_one_126 ?_
                have h := h.2
                refine zz_bipush (v := (-7)) M dX3_one_129 (by decide) ?_
                refine zz_callVV (d' := 1) (As := [.int (-7)]) (rest := []) M l_X3_144 (tX_Text (zclt hq134)) rfl rfl dX3_one_131 rfl rfl (by omega) (Nat.le_of_ble_eq_true rfl) (by have hI := M.2.2.2.2.2.2.2.2; exact kX6_put hI _ _ (zclt hq134) _ _ h) (fun σ136 h => ?_)
                refine zz_iconst (v := 1) M dX3_one_134 (by decide) ?_
                exact zz_zret M dX3_one_135 (Or.inr rfl) h
              · have h := zif (c := r132 = 0) h c
                refine zz_iconst (v := 0) M dX3_one_123 (by decide) ?_
                exact zz_zret M dX3_one_124 (Or.inl rfl) h
            · have h := zifn (c := r127 = 0) h c
              refine zz_aload_n M 0 dX3_one_84 rfl rfl ?_
              refine zz_iload_n M 1 dX3_one_85 rfl rfl ?_
              refine zz_iconst (v := 1) M dX3_one_86 (by decide) ?_
              refine zz_iadd M dX3_one_87 ?_
              obtain ⟨a137, ea137⟩ : ∃ z : Int32, z = (x1 + 1) := ⟨_, rfl⟩
              have h := h a137 ea137
              refine zz_st [.int a137, .ref (ad 19)] (by rw [ea137]) ?_
              refine zz_callVI (d' := dn + 6) (As := [.int a137]) (rest := []) M l_X3_134 tX_19 rfl rfl dX3_one_88 rfl rfl (by omega) (Nat.le_of_ble_eq_true rfl) (by have hI := M.2.2.2.2.2.2.2.2; exact hC0 _ _ _ h) (fun r138 σ139 h => ?_)
              refine zz_if_eq (y0 := 0) M 107 dX3_one_91 (by decide) (fun c => ?_) (fun c => ?_)
              · have h := zif (c := r138 = 0) h c
                refine zz_iconst (v := 0) M dX3_one_107 (by decide) ?_
                exact zz_zret M dX3_one_108 (Or.inl rfl) h
              · have h := zifn (c := r138 = 0) h c
                refine zz_aload_n M 0 dX3_one_94 rfl rfl ?_
                refine zz_bipush (v := 41) M dX3_one_95 (by decide) ?_
                refine zz_callVI (d' := 2) (As := [.int 41]) (rest := []) M l_X3_131 tX_19 rfl rfl dX3_one_97 rfl rfl (by omega) (Nat.le_of_ble_eq_true rfl) (by have hI := M.2.2.2.2.2.2.2.2; exact kX3_passes hI _  _ _ h) (fun r140 σ141 h => ?_)
                refine zz_if_eq (y0 := 0) M 107 dX3_one_100 (by decide) (fun c => ?_) (fun c => ?_)
                · have h := zif (c := r140 = 0) h c
                  refine zz_iconst (v := 0) M dX3_one_107 (by decide) ?_
                  exact zz_zret M dX3_one_108 (Or.inl rfl) h
                · have h := zifn (c := r140 = 0) h c
                  refine zz_iconst (v := 1) M dX3_one_103 (by decide) ?_
                  refine zz_goto M 108 dX3_one_104 (by decide) ?_
                  exact zz_zret M dX3_one_108 (Or.inr rfl) h
          · have h := zifn (c := x1 < 5) h c
            refine zz_iconst (v := 0) M dX3_one_73 (by decide) ?_
            exact zz_zret M dX3_one_74 (Or.inl rfl) h
    · have h := zif (c := (σ.1 19 5) = 3) h c
      refine zz_aload_n M 0 dX3_one_16 rfl rfl ?_
      have hq142 := h.1
      refine zz_getD (b := 43) M f_X3_37 tX_19 rfl hq142 dX3_one_17 ?_
      have h := h.2
      refine zz_aload_n M 0 dX3_one_20 rfl rfl ?_
      refine zz_getI M f_X3_28 tX_19 rfl dX3_one_21 ?_
      refine zz_iconst (v := 2) M dX3_one_24 (by decide) ?_
      refine zz_icmp_ne M 35 dX3_one_25 (by decide) (fun c => ?_) (fun c => ?_)
      · have h := zifn (c := (σ.1 19 5) = 2) h c
        refine zz_iconst (v := (-1)) M dX3_one_35 (by decide) ?_
        refine zz_aload_n M 0 dX3_one_36 rfl rfl ?_
        refine zz_getI M f_X3_31 tX_19 rfl dX3_one_37 ?_
        refine zz_isub M dX3_one_40 ?_
        obtain ⟨a143, ea143⟩ : ∃ z : Int32, z = ((-1) - (σ.1 19 6)) := ⟨_, rfl⟩
        have h := h a143 ea143
        refine zz_st [.int a143, .ref (ad (43 + (σ.1 19 8).toNatClampNeg))] (by rw [ea143]) ?_
        refine zz_callVV (d' := 1) (As := [.int a143]) (rest := []) M l_X3_144 (tX_Text (zclt hq142)) rfl rfl dX3_one_41 rfl rfl (by omega) (Nat.le_of_ble_eq_true rfl) (by have hI := M.2.2.2.2.2.2.2.2; exact kX6_put hI _ _ (zclt hq142) _ _ h) (fun σ145 h => ?_)
        refine zz_aload_n M 0 dX3_one_44 rfl rfl ?_
        refine zz_callVV (d' := 1) (As := []) (rest := []) M l_X3_59 tX_19 rfl rfl dX3_one_45 rfl rfl (by omega) (Nat.le_of_ble_eq_true rfl) (by have hI := M.2.2.2.2.2.2.2.2; exact kX3_advance hI   _ _ h) (fun σ147 h => ?_)
        refine zz_iconst (v := 1) M dX3_one_48 (by decide) ?_
        exact zz_zret M dX3_one_49 (Or.inr rfl) h
      · have h := zif (c := (σ.1 19 5) = 2) h c
        refine zz_aload_n M 0 dX3_one_28 rfl rfl ?_
        refine zz_getI M f_X3_31 tX_19 rfl dX3_one_29 ?_
        refine zz_goto M 41 dX3_one_32 (by decide) ?_
        obtain ⟨a148, ea148⟩ : ∃ z : Int32, z = (σ.1 19 6) := ⟨_, rfl⟩
        have h := h a148 ea148
        refine zz_st [.int a148, .ref (ad (43 + (σ.1 19 8).toNatClampNeg))] (by rw [ea148]) ?_
        refine zz_callVV (d' := 1) (As := [.int a148]) (rest := []) M l_X3_144 (tX_Text (zclt hq142)) rfl rfl dX3_one_41 rfl rfl (by omega) (Nat.le_of_ble_eq_true rfl) (by have hI := M.2.2.2.2.2.2.2.2; exact kX6_put hI _ _ (zclt hq142) _ _ h) (fun σ150 h => ?_)
        refine zz_aload_n M 0 dX3_one_44 rfl rfl ?_
        refine zz_callVV (d' := 1) (As := []) (rest := []) M l_X3_59 tX_19 rfl rfl dX3_one_45 rfl rfl (by omega) (Nat.le_of_ble_eq_true rfl) (by have hI := M.2.2.2.2.2.2.2.2; exact kX3_advance hI   _ _ h) (fun σ152 h => ?_)
        refine zz_iconst (v := 1) M dX3_one_48 (by decide) ?_
        exact zz_zret M dX3_one_49 (Or.inr rfl) h
def wX3_rec : Nat → Nat → Int32 → zSt → (Int32 → zSt → Prop) → Prop
  | 0, _, _, _, _ => False
  | n + 1, k, x, σ, Q => if k = 0 then wX3_either_b (wX3_rec n) x σ Q else if k = 1 then wX3_both_b (wX3_rec n) x σ Q else if k = 2 then wX3_maybeNot_b (wX3_rec n) x σ Q else if k = 3 then wX3_comparison_b (wX3_rec n) x σ Q else if k = 4 then wX3_sum_b (wX3_rec n) x σ Q else if k = 5 then wX3_term_b (wX3_rec n) x σ Q else wX3_one_b (wX3_rec n) x σ Q
set_option maxRecDepth 20000 in
theorem kX3_rec (hI : zInj tabX ad) : ∀ n, (∀ x σ Q, wX3_rec (n) 0 x σ Q → zOkI l tabX D cA ad y (n + 6) yX3_either cX3_either 3 (some .boolean) [.ref (ad 19), .int x] σ Q) ∧ (∀ x σ Q, wX3_rec (n) 1 x σ Q → zOkI l tabX D cA ad y (n + 6) yX3_both cX3_both 3 (some .boolean) [.ref (ad 19), .int x] σ Q) ∧ (∀ x σ Q, wX3_rec (n) 2 x σ Q → zOkI l tabX D cA ad y (n + 6) yX3_maybeNot cX3_maybeNot 2 (some .boolean) [.ref (ad 19), .int x] σ Q) ∧ (∀ x σ Q, wX3_rec (n) 3 x σ Q → zOkI l tabX D cA ad y (n + 6) yX3_comparison cX3_comparison 3 (some .boolean) [.ref (ad 19), .int x] σ Q) ∧ (∀ x σ Q, wX3_rec (n) 4 x σ Q → zOkI l tabX D cA ad y (n + 6) yX3_sum cX3_sum 4 (some .boolean) [.ref (ad 19), .int x] σ Q) ∧ (∀ x σ Q, wX3_rec (n) 5 x σ Q → zOkI l tabX D cA ad y (n + 6) yX3_term cX3_term 3 (some .boolean) [.ref (ad 19), .int x] σ Q) ∧ (∀ x σ Q, wX3_rec (n) 6 x σ Q → zOkI l tabX D cA ad y (n + 6) yX3_one cX3_one 2 (some .boolean) [.ref (ad 19), .int x] σ Q) := by
  intro n
  induction n with
  | zero => exact ⟨fun x σ Q h => absurd h (by simp [wX3_rec]), fun x σ Q h => absurd h (by simp [wX3_rec]), fun x σ Q h => absurd h (by simp [wX3_rec]), fun x σ Q h => absurd h (by simp [wX3_rec]), fun x σ Q h => absurd h (by simp [wX3_rec]), fun x σ Q h => absurd h (by simp [wX3_rec]), fun x σ Q h => absurd h (by simp [wX3_rec])⟩
  | succ n ih =>
    obtain ⟨h0, h1, h2, h3, h4, h5, h6⟩ := ih
    refine ⟨fun x σ Q h => ?_, fun x σ Q h => ?_, fun x σ Q h => ?_, fun x σ Q h => ?_, fun x σ Q h => ?_, fun x σ Q h => ?_, fun x σ Q h => ?_⟩
    · unfold wX3_rec at h
      simp only [↓reduceIte, Nat.reduceEqDiff, Nat.add_one_ne_zero, Nat.one_ne_zero] at h
      exact kX3_either_b (wX3_rec n) hI x n h0 h1 h2 h3 h4 h5 h6 σ Q h
    · unfold wX3_rec at h
      simp only [↓reduceIte, Nat.reduceEqDiff, Nat.add_one_ne_zero, Nat.one_ne_zero] at h
      exact kX3_both_b (wX3_rec n) hI x n h0 h1 h2 h3 h4 h5 h6 σ Q h
    · unfold wX3_rec at h
      simp only [↓reduceIte, Nat.reduceEqDiff, Nat.add_one_ne_zero, Nat.one_ne_zero] at h
      exact kX3_maybeNot_b (wX3_rec n) hI x n h0 h1 h2 h3 h4 h5 h6 σ Q h
    · unfold wX3_rec at h
      simp only [↓reduceIte, Nat.reduceEqDiff, Nat.add_one_ne_zero, Nat.one_ne_zero] at h
      exact kX3_comparison_b (wX3_rec n) hI x n h0 h1 h2 h3 h4 h5 h6 σ Q h
    · unfold wX3_rec at h
      simp only [↓reduceIte, Nat.reduceEqDiff, Nat.add_one_ne_zero, Nat.one_ne_zero] at h
      exact kX3_sum_b (wX3_rec n) hI x n h0 h1 h2 h3 h4 h5 h6 σ Q h
    · unfold wX3_rec at h
      simp only [↓reduceIte, Nat.reduceEqDiff, Nat.add_one_ne_zero, Nat.one_ne_zero] at h
      exact kX3_term_b (wX3_rec n) hI x n h0 h1 h2 h3 h4 h5 h6 σ Q h
    · unfold wX3_rec at h
      simp only [↓reduceIte, Nat.reduceEqDiff, Nat.add_one_ne_zero, Nat.one_ne_zero] at h
      exact kX3_one_b (wX3_rec n) hI x n h0 h1 h2 h3 h4 h5 h6 σ Q h
def wX7_isSort (x0 : Int32) (σ : zSt) (Q : Int32 → zSt → Prop) : Prop := if x0 = 0 then (Q 1 σ) else (if x0 = 1 then (Q 1 σ) else (Q 0 σ))
set_option maxRecDepth 20000 in
set_option maxHeartbeats 4000000 in
theorem kX7_isSort (hI : zInj tabX ad) (x0 : Int32)  (σ : zSt) (Q : Int32 → zSt → Prop) (h : wX7_isSort x0 σ Q) : zOkI l tabX D cA ad y 1 yX7_isSort cX7_isSort 1 (some .boolean) [.int x0] σ Q := by
  refine zz_enter hI (by decide) (Nat.le_of_ble_eq_true rfl) (fun p e s m below meth c M => ?_)
  have M : zM p s m _ meth c cX7_isSort 1 RX7 (some .boolean) tabX D cA ad y := M
  refine zz_ls [(0, .int x0)] rfl ?_
  unfold wX7_isSort at h
  refine zz_iload_n M 0 dX7_isSort_0 rfl rfl ?_
  refine zz_if_eq (y0 := 0) M 9 dX7_isSort_1 (by decide) (fun c => ?_) (fun c => ?_)
  · have h := zif (c := x0 = 0) h c
    refine zz_iconst (v := 1) M dX7_isSort_9 (by decide) ?_
    refine zz_goto M 14 dX7_isSort_10 (by decide) ?_
    exact zz_zret M dX7_isSort_14 (Or.inr rfl) h
  · have h := zifn (c := x0 = 0) h c
    refine zz_iload_n M 0 dX7_isSort_4 rfl rfl ?_
    refine zz_iconst (v := 1) M dX7_isSort_5 (by decide) ?_
    refine zz_icmp_ne M 13 dX7_isSort_6 (by decide) (fun c => ?_) (fun c => ?_)
    · have h := zifn (c := x0 = 1) h c
      refine zz_iconst (v := 0) M dX7_isSort_13 (by decide) ?_
      exact zz_zret M dX7_isSort_14 (Or.inl rfl) h
    · have h := zif (c := x0 = 1) h c
      refine zz_iconst (v := 1) M dX7_isSort_9 (by decide) ?_
      refine zz_goto M 14 dX7_isSort_10 (by decide) ?_
      exact zz_zret M dX7_isSort_14 (Or.inr rfl) h
def wX7_isBridge (x0 : Int32) (σ : zSt) (Q : Int32 → zSt → Prop) : Prop := if x0 < 0 then (Q 0 σ) else (if 3 ≤ x0 then (Q 0 σ) else (Q 1 σ))
set_option maxRecDepth 20000 in
set_option maxHeartbeats 4000000 in
theorem kX7_isBridge (hI : zInj tabX ad) (x0 : Int32)  (σ : zSt) (Q : Int32 → zSt → Prop) (h : wX7_isBridge x0 σ Q) : zOkI l tabX D cA ad y 1 yX7_isBridge cX7_isBridge 1 (some .boolean) [.int x0] σ Q := by
  refine zz_enter hI (by decide) (Nat.le_of_ble_eq_true rfl) (fun p e s m below meth c M => ?_)
  have M : zM p s m _ meth c cX7_isBridge 1 RX7 (some .boolean) tabX D cA ad y := M
  refine zz_ls [(0, .int x0)] rfl ?_
  unfold wX7_isBridge at h
  refine zz_iload_n M 0 dX7_isBridge_0 rfl rfl ?_
  refine zz_if_lt (y0 := 0) M 13 dX7_isBridge_1 (by decide) (fun c => ?_) (fun c => ?_)
  · have h := zif (c := x0 < 0) h c
    refine zz_iconst (v := 0) M dX7_isBridge_13 (by decide) ?_
    exact zz_zret M dX7_isBridge_14 (Or.inl rfl) h
  · have h := zifn (c := x0 < 0) h c
    refine zz_iload_n M 0 dX7_isBridge_4 rfl rfl ?_
    refine zz_iconst (v := 3) M dX7_isBridge_5 (by decide) ?_
    refine zz_icmp_ge M 13 dX7_isBridge_6 (by decide) (fun c => ?_) (fun c => ?_)
    · have h := zif (c := 3 ≤ x0) h c
      refine zz_iconst (v := 0) M dX7_isBridge_13 (by decide) ?_
      exact zz_zret M dX7_isBridge_14 (Or.inl rfl) h
    · have h := zifn (c := 3 ≤ x0) h c
      refine zz_iconst (v := 1) M dX7_isBridge_9 (by decide) ?_
      refine zz_goto M 14 dX7_isBridge_10 (by decide) ?_
      exact zz_zret M dX7_isBridge_14 (Or.inr rfl) h
def wX7_isMinute (x0 : Int32) (σ : zSt) (Q : Int32 → zSt → Prop) : Prop := if x0 < 0 then (Q 0 σ) else (if 24 ≤ x0 then (Q 0 σ) else (Q 1 σ))
set_option maxRecDepth 20000 in
set_option maxHeartbeats 4000000 in
theorem kX7_isMinute (hI : zInj tabX ad) (x0 : Int32)  (σ : zSt) (Q : Int32 → zSt → Prop) (h : wX7_isMinute x0 σ Q) : zOkI l tabX D cA ad y 1 yX7_isMinute cX7_isMinute 1 (some .boolean) [.int x0] σ Q := by
  refine zz_enter hI (by decide) (Nat.le_of_ble_eq_true rfl) (fun p e s m below meth c M => ?_)
  have M : zM p s m _ meth c cX7_isMinute 1 RX7 (some .boolean) tabX D cA ad y := M
  refine zz_ls [(0, .int x0)] rfl ?_
  unfold wX7_isMinute at h
  refine zz_iload_n M 0 dX7_isMinute_0 rfl rfl ?_
  refine zz_if_lt (y0 := 0) M 14 dX7_isMinute_1 (by decide) (fun c => ?_) (fun c => ?_)
  · have h := zif (c := x0 < 0) h c
    refine zz_iconst (v := 0) M dX7_isMinute_14 (by decide) ?_
    exact zz_zret M dX7_isMinute_15 (Or.inl rfl) h
  · have h := zifn (c := x0 < 0) h c
    refine zz_iload_n M 0 dX7_isMinute_4 rfl rfl ?_
    refine zz_bipush (v := 24) M dX7_isMinute_5 (by decide) ?_
    refine zz_icmp_ge M 14 dX7_isMinute_7 (by decide) (fun c => ?_) (fun c => ?_)
    · have h := zif (c := 24 ≤ x0) h c
      refine zz_iconst (v := 0) M dX7_isMinute_14 (by decide) ?_
      exact zz_zret M dX7_isMinute_15 (Or.inl rfl) h
    · have h := zifn (c := 24 ≤ x0) h c
      refine zz_iconst (v := 1) M dX7_isMinute_10 (by decide) ?_
      refine zz_goto M 15 dX7_isMinute_11 (by decide) ?_
      exact zz_zret M dX7_isMinute_15 (Or.inr rfl) h
def wX7_isDigit (x0 : Int32) (σ : zSt) (Q : Int32 → zSt → Prop) : Prop := if x0 < 0 then (Q 0 σ) else (if 9 < x0 then (Q 0 σ) else (Q 1 σ))
set_option maxRecDepth 20000 in
set_option maxHeartbeats 4000000 in
theorem kX7_isDigit (hI : zInj tabX ad) (x0 : Int32)  (σ : zSt) (Q : Int32 → zSt → Prop) (h : wX7_isDigit x0 σ Q) : zOkI l tabX D cA ad y 1 yX7_isDigit cX7_isDigit 1 (some .boolean) [.int x0] σ Q := by
  refine zz_enter hI (by decide) (Nat.le_of_ble_eq_true rfl) (fun p e s m below meth c M => ?_)
  have M : zM p s m _ meth c cX7_isDigit 1 RX7 (some .boolean) tabX D cA ad y := M
  refine zz_ls [(0, .int x0)] rfl ?_
  unfold wX7_isDigit at h
  refine zz_iload_n M 0 dX7_isDigit_0 rfl rfl ?_
  refine zz_if_lt (y0 := 0) M 14 dX7_isDigit_1 (by decide) (fun c => ?_) (fun c => ?_)
  · have h := zif (c := x0 < 0) h c
    refine zz_iconst (v := 0) M dX7_isDigit_14 (by decide) ?_
    exact zz_zret M dX7_isDigit_15 (Or.inl rfl) h
  · have h := zifn (c := x0 < 0) h c
    refine zz_iload_n M 0 dX7_isDigit_4 rfl rfl ?_
    refine zz_bipush (v := 9) M dX7_isDigit_5 (by decide) ?_
    refine zz_icmp_gt M 14 dX7_isDigit_7 (by decide) (fun c => ?_) (fun c => ?_)
    · have h := zif (c := 9 < x0) h c
      refine zz_iconst (v := 0) M dX7_isDigit_14 (by decide) ?_
      exact zz_zret M dX7_isDigit_15 (Or.inl rfl) h
    · have h := zifn (c := 9 < x0) h c
      refine zz_iconst (v := 1) M dX7_isDigit_10 (by decide) ?_
      refine zz_goto M 15 dX7_isDigit_11 (by decide) ?_
      exact zz_zret M dX7_isDigit_15 (Or.inr rfl) h
def wX0_forget  (σ : zSt) (Q : zSt → Prop) : Prop := ∀ σ101 : zSt, σ101 = zfill σ 25 416 (-1) → (Q σ101)
set_option maxRecDepth 20000 in
set_option maxHeartbeats 4000000 in
theorem kX0_forget (hI : zInj tabX ad)   (σ : zSt) (Q : zSt → Prop) (h : wX0_forget  σ Q) : zOkV l tabX D cA ad y 2 yX0_forget cX0_forget 1 none [.ref (ad 24)] σ Q := by
  refine zz_enter hI (by decide) (Nat.le_of_ble_eq_true rfl) (fun p e s m below meth c M => ?_)
  have M : zM p s m _ meth c cX0_forget 1 RX0 none tabX D cA ad y := M
  refine zz_ls [(0, .ref (ad 24))] rfl ?_
  unfold wX0_forget at h
  refine zz_aload_n M 0 dX0_forget_0 rfl rfl ?_
  refine zz_getR M f_X0_11 tX_24 rfl dX0_forget_1 ?_
  refine zz_iconst (v := (-1)) M dX0_forget_4 (by decide) ?_
  refine zz_fill (rest := []) M l_X0_29 tX_25 (by decide) dX0_forget_5 rfl (by decide) (Nat.le_of_ble_eq_true rfl) ?_
  refine zz_sg (fun σ101 eσ101 => ?_)
  have h := h σ101 eσ101
  exact zz_vret M dX0_forget_8 h
def wX4_forget  (σ : zSt) (Q : zSt → Prop) : Prop := ∀ σ101 : zSt, σ101 = zput σ 28 11 (-2) → (∀ σ102 : zSt, σ102 = zput σ101 28 12 (-2) → (Q σ102))
set_option maxRecDepth 20000 in
set_option maxHeartbeats 4000000 in
theorem kX4_forget (hI : zInj tabX ad)   (σ : zSt) (Q : zSt → Prop) (h : wX4_forget  σ Q) : zOkV l tabX D cA ad y 1 yX4_forget cX4_forget 1 none [.ref (ad 28)] σ Q := by
  refine zz_enter hI (by decide) (Nat.le_of_ble_eq_true rfl) (fun p e s m below meth c M => ?_)
  have M : zM p s m _ meth c cX4_forget 1 RX4 none tabX D cA ad y := M
  refine zz_ls [(0, .ref (ad 28))] rfl ?_
  unfold wX4_forget at h
  refine zz_aload_n M 0 dX4_forget_0 rfl rfl ?_
  refine zz_bipush (v := (-2)) M dX4_forget_1 (by decide) ?_
  refine zz_putI M f_X4_39 tX_28 rfl dX4_forget_3 ?_
  refine zz_sg (fun σ101 eσ101 => ?_)
  have h := h σ101 eσ101
  refine zz_aload_n M 0 dX4_forget_6 rfl rfl ?_
  refine zz_bipush (v := (-2)) M dX4_forget_7 (by decide) ?_
  refine zz_putI M f_X4_43 tX_28 rfl dX4_forget_9 ?_
  refine zz_sg (fun σ102 eσ102 => ?_)
  have h := h σ102 eσ102
  exact zz_vret M dX4_forget_12 h
def wX7_forget  (σ : zSt) (Q : zSt → Prop) : Prop := wX0_forget  σ (fun σ102 => wX4_forget  σ102 (fun σ104 => Q σ104))
set_option maxRecDepth 20000 in
set_option maxHeartbeats 4000000 in
theorem kX7_forget (hI : zInj tabX ad)   (σ : zSt) (Q : zSt → Prop) (h : wX7_forget  σ Q) : zOkV l tabX D cA ad y 3 yX7_forget cX7_forget 1 none [.ref (ad 0)] σ Q := by
  refine zz_enter hI (by decide) (Nat.le_of_ble_eq_true rfl) (fun p e s m below meth c M => ?_)
  have M : zM p s m _ meth c cX7_forget 1 RX7 none tabX D cA ad y := M
  refine zz_ls [(0, .ref (ad 0))] rfl ?_
  unfold wX7_forget at h
  refine zz_aload_n M 0 dX7_forget_0 rfl rfl ?_
  refine zz_getR M f_X7_58 tX_0 rfl dX7_forget_1 ?_
  refine zz_callVV (d' := 2) (As := []) (rest := []) M l_X7_272 tX_24 rfl rfl dX7_forget_4 rfl rfl (by decide) (Nat.le_of_ble_eq_true rfl) (by have hI := M.2.2.2.2.2.2.2.2; exact kX0_forget hI   _ _ h) (fun σ102 h => ?_)
  refine zz_aload_n M 0 dX7_forget_7 rfl rfl ?_
  refine zz_getR M f_X7_67 tX_0 rfl dX7_forget_8 ?_
  refine zz_callVV (d' := 1) (As := []) (rest := []) M l_X7_273 tX_28 rfl rfl dX7_forget_11 rfl rfl (by decide) (Nat.le_of_ble_eq_true rfl) (by have hI := M.2.2.2.2.2.2.2.2; exact kX4_forget hI   _ _ h) (fun σ104 h => ?_)
  exact zz_vret M dX7_forget_14 h
def wX7_come (x1 : Int32) (x2 : Int32) (x3 : Int32) (σ : zSt) (Q : Int32 → zSt → Prop) : Prop := wX7_isSort x1 σ (fun r101 σ102 => if r101 = 0 then (Q (-2) σ102) else (if x2 < 0 then (Q (-2) σ102) else (∀ a103 : Int32, a103 = (x2 / 100) → (wX7_isBridge a103 σ102 (fun r104 σ105 => if r104 = 0 then (Q (-2) σ105) else (∀ a106 : Int32, a106 = (x2 - x2 / 100 * 100) → (wX7_isMinute a106 σ105 (fun r107 σ108 => if r107 = 0 then (Q (-2) σ108) else (wX7_isDigit x3 σ108 (fun r109 σ110 => if r109 = 0 then (Q (-2) σ110) else (vp_in x1 2 ∧ (∀ x111 : Int32, x111 = (σ110.1 3 x1.toNatClampNeg) → (if x111 < 4 then (∀ x112 : Int32, x112 = ((x1 * 4) + x111) → (vp_in x112 8 ∧ (∀ σ113 : zSt, σ113 = zput σ110 4 x112.toNatClampNeg (x2 / 100) → (vp_in x112 8 ∧ (∀ σ114 : zSt, σ114 = zput σ113 5 x112.toNatClampNeg (x2 - x2 / 100 * 100) → (vp_in x112 8 ∧ (∀ σ115 : zSt, σ115 = zput σ114 6 x112.toNatClampNeg x3 → (vp_in x1 2 ∧ (∀ σ116 : zSt, σ116 = zput σ115 3 x1.toNatClampNeg (x111 + 1) → (wX7_forget  σ116 (fun σ118 => Q x111 σ118))))))))))) else (Q (-4) σ110))))))))))))))
set_option maxRecDepth 20000 in
set_option maxHeartbeats 4000000 in
theorem kX7_come (hI : zInj tabX ad) (x1 : Int32) (x2 : Int32) (x3 : Int32)  (σ : zSt) (Q : Int32 → zSt → Prop) (h : wX7_come x1 x2 x3 σ Q) : zOkI l tabX D cA ad y 4 yX7_come cX7_come 6 (some .int) [.ref (ad 0), .int x1, .int x2, .int x3] σ Q := by
  refine zz_enter hI (by decide) (Nat.le_of_ble_eq_true rfl) (fun p e s m below meth c M => ?_)
  have M : zM p s m _ meth c cX7_come 6 RX7 (some .int) tabX D cA ad y := M
  refine zz_ls [(0, .ref (ad 0)), (1, .int x1), (2, .int x2), (3, .int x3)] rfl ?_
  unfold wX7_come at h
  refine zz_iload_n M 1 dX7_come_0 rfl rfl ?_
  refine zz_callSI (d' := 1) (As := [.int x1]) (rest := []) M l_X7_100 dX7_come_1 rfl rfl (by decide) (Nat.le_of_ble_eq_true rfl) (by have hI := M.2.2.2.2.2.2.2.2; exact kX7_isSort hI _  _ _ h) (fun r101 σ102 h => ?_)
  refine zz_if_eq (y0 := 0) M 38 dX7_come_4 (by decide) (fun c => ?_) (fun c => ?_)
  · have h := zif (c := r101 = 0) h c
    refine zz_bipush (v := (-2)) M dX7_come_38 (by decide) ?_
    exact zz_iret M dX7_come_40 h
  · have h := zifn (c := r101 = 0) h c
    refine zz_iload_n M 2 dX7_come_7 rfl rfl ?_
    refine zz_if_lt (y0 := 0) M 38 dX7_come_8 (by decide) (fun c => ?_) (fun c => ?_)
    · have h := zif (c := x2 < 0) h c
      refine zz_bipush (v := (-2)) M dX7_come_38 (by decide) ?_
      exact zz_iret M dX7_come_40 h
    · have h := zifn (c := x2 < 0) h c
      refine zz_iload_n M 2 dX7_come_11 rfl rfl ?_
      refine zz_bipush (v := 100) M dX7_come_12 (by decide) ?_
      refine zz_idiv M dX7_come_14 (by decide) ?_
      obtain ⟨a103, ea103⟩ : ∃ z : Int32, z = (x2 / 100) := ⟨_, rfl⟩
      have h := h a103 ea103
      refine zz_st [.int a103] (by rw [ea103]) ?_
      refine zz_callSI (d' := 1) (As := [.int a103]) (rest := []) M l_X7_104 dX7_come_15 rfl rfl (by decide) (Nat.le_of_ble_eq_true rfl) (by have hI := M.2.2.2.2.2.2.2.2; exact kX7_isBridge hI _  _ _ h) (fun r104 σ105 h => ?_)
      refine zz_if_eq (y0 := 0) M 38 dX7_come_18 (by decide) (fun c => ?_) (fun c => ?_)
      · have h := zif (c := r104 = 0) h c
        refine zz_bipush (v := (-2)) M dX7_come_38 (by decide) ?_
        exact zz_iret M dX7_come_40 h
      · have h := zifn (c := r104 = 0) h c
        refine zz_iload_n M 2 dX7_come_21 rfl rfl ?_
        refine zz_bipush (v := 100) M dX7_come_22 (by decide) ?_
        refine zz_irem M dX7_come_24 (by decide) ?_
        obtain ⟨a106, ea106⟩ : ∃ z : Int32, z = (x2 - x2 / 100 * 100) := ⟨_, rfl⟩
        have h := h a106 ea106
        refine zz_st [.int a106] (by rw [ea106]) ?_
        refine zz_callSI (d' := 1) (As := [.int a106]) (rest := []) M l_X7_107 dX7_come_25 rfl rfl (by decide) (Nat.le_of_ble_eq_true rfl) (by have hI := M.2.2.2.2.2.2.2.2; exact kX7_isMinute hI _  _ _ h) (fun r107 σ108 h => ?_)
        refine zz_if_eq (y0 := 0) M 38 dX7_come_28 (by decide) (fun c => ?_) (fun c => ?_)
        · have h := zif (c := r107 = 0) h c
          refine zz_bipush (v := (-2)) M dX7_come_38 (by decide) ?_
          exact zz_iret M dX7_come_40 h
        · have h := zifn (c := r107 = 0) h c
          refine zz_iload_n M 3 dX7_come_31 rfl rfl ?_
          refine zz_callSI (d' := 1) (As := [.int x3]) (rest := []) M l_X7_110 dX7_come_32 rfl rfl (by decide) (Nat.le_of_ble_eq_true rfl) (by have hI := M.2.2.2.2.2.2.2.2; exact kX7_isDigit hI _  _ _ h) (fun r109 σ110 h => ?_)
          refine zz_if_ne (y0 := 0) M 41 dX7_come_35 (by decide) (fun c => ?_) (fun c => ?_)
          · have h := zifn (c := r109 = 0) h c
            refine zz_aload_n M 0 dX7_come_41 rfl rfl ?_
            refine zz_getR M f_X7_12 tX_0 rfl dX7_come_42 ?_
            refine zz_getR M f_X7_113 tX_1 rfl dX7_come_45 ?_
            refine zz_iload_n M 1 dX7_come_48 rfl rfl ?_
            refine zz_iald M tX_3 h.1 dX7_come_49 ?_
            have h := h.2
            refine zz_topi (fun x111 ex111 => ?_)
            have h := h x111 ex111
            refine zz_istore M [(4, .int x111), (0, .ref (ad 0)), (1, .int x1), (2, .int x2), (3, .int x3)] dX7_come_50 (by decide) rfl ?_
            refine zz_iload M 0 dX7_come_52 rfl ?_
            refine zz_iconst (v := 4) M dX7_come_54 (by decide) ?_
            refine zz_icmp_lt M 61 dX7_come_55 (by decide) (fun c => ?_) (fun c => ?_)
            · have h := zif (c := x111 < 4) h c
              refine zz_iload_n M 2 dX7_come_61 rfl rfl ?_
              refine zz_iconst (v := 4) M dX7_come_62 (by decide) ?_
              refine zz_imul M dX7_come_63 ?_
              refine zz_iload M 0 dX7_come_64 rfl ?_
              refine zz_iadd M dX7_come_66 ?_
              refine zz_topi (fun x112 ex112 => ?_)
              have h := h x112 ex112
              refine zz_istore M [(5, .int x112), (4, .int x111), (0, .ref (ad 0)), (1, .int x1), (2, .int x2), (3, .int x3)] dX7_come_67 (by decide) rfl ?_
              refine zz_aload_n M 2 dX7_come_69 rfl rfl ?_
              refine zz_getR M f_X7_12 tX_0 rfl dX7_come_70 ?_
              refine zz_getR M f_X7_116 tX_1 rfl dX7_come_73 ?_
              refine zz_iload M 0 dX7_come_76 rfl ?_
              refine zz_iload_n M 4 dX7_come_78 rfl rfl ?_
              refine zz_bipush (v := 100) M dX7_come_79 (by decide) ?_
              refine zz_idiv M dX7_come_81 (by decide) ?_
              refine zz_iast M tX_4 h.1 dX7_come_82 ?_
              have h := h.2
              refine zz_sg (fun σ113 eσ113 => ?_)
              have h := h σ113 eσ113
              refine zz_aload_n M 2 dX7_come_83 rfl rfl ?_
              refine zz_getR M f_X7_12 tX_0 rfl dX7_come_84 ?_
              refine zz_getR M f_X7_119 tX_1 rfl dX7_come_87 ?_
              refine zz_iload M 0 dX7_come_90 rfl ?_
              refine zz_iload_n M 4 dX7_come_92 rfl rfl ?_
              refine zz_bipush (v := 100) M dX7_come_93 (by decide) ?_
              refine zz_irem M dX7_come_95 (by decide) ?_
              refine zz_iast M tX_5 h.1 dX7_come_96 ?_
              have h := h.2
              refine zz_sg (fun σ114 eσ114 => ?_)
              have h := h σ114 eσ114
              refine zz_aload_n M 2 dX7_come_97 rfl rfl ?_
              refine zz_getR M f_X7_12 tX_0 rfl dX7_come_98 ?_
              refine zz_getR M f_X7_122 tX_1 rfl dX7_come_101 ?_
              refine zz_iload M 0 dX7_come_104 rfl ?_
              refine zz_iload_n M 5 dX7_come_106 rfl rfl ?_
              refine zz_iast M tX_6 h.1 dX7_come_107 ?_
              have h := h.2
              refine zz_sg (fun σ115 eσ115 => ?_)
              have h := h σ115 eσ115
              refine zz_aload_n M 2 dX7_come_108 rfl rfl ?_
              refine zz_getR M f_X7_12 tX_0 rfl dX7_come_109 ?_
              refine zz_getR M f_X7_113 tX_1 rfl dX7_come_112 ?_
              refine zz_iload_n M 3 dX7_come_115 rfl rfl ?_
              refine zz_iload M 1 dX7_come_116 rfl ?_
              refine zz_iconst (v := 1) M dX7_come_118 (by decide) ?_
              refine zz_iadd M dX7_come_119 ?_
              refine zz_iast M tX_3 h.1 dX7_come_120 ?_
              have h := h.2
              refine zz_sg (fun σ116 eσ116 => ?_)
              have h := h σ116 eσ116
              refine zz_aload_n M 2 dX7_come_121 rfl rfl ?_
              refine zz_callVV (d' := 3) (As := []) (rest := []) M l_X7_125 tX_0 rfl rfl dX7_come_122 rfl rfl (by decide) (Nat.le_of_ble_eq_true rfl) (by have hI := M.2.2.2.2.2.2.2.2; exact kX7_forget hI   _ _ h) (fun σ118 h => ?_)
              refine zz_iload M 1 dX7_come_125 rfl ?_
              exact zz_iret M dX7_come_127 h
            · have h := zifn (c := x111 < 4) h c
              refine zz_bipush (v := (-4)) M dX7_come_58 (by decide) ?_
              exact zz_iret M dX7_come_60 h
          · have h := zif (c := r109 = 0) h c
            refine zz_bipush (v := (-2)) M dX7_come_38 (by decide) ?_
            exact zz_iret M dX7_come_40 h
def wX7_isOne (x1 : Int32) (x2 : Int32) (σ : zSt) (Q : Int32 → zSt → Prop) : Prop := wX7_isSort x1 σ (fun r101 σ102 => if r101 = 0 then (Q 0 σ102) else (if x2 < 0 then (Q 0 σ102) else (vp_in x1 2 ∧ (if (σ102.1 3 x1.toNatClampNeg) ≤ x2 then (Q 0 σ102) else (Q 1 σ102)))))
set_option maxRecDepth 20000 in
set_option maxHeartbeats 4000000 in
theorem kX7_isOne (hI : zInj tabX ad) (x1 : Int32) (x2 : Int32)  (σ : zSt) (Q : Int32 → zSt → Prop) (h : wX7_isOne x1 x2 σ Q) : zOkI l tabX D cA ad y 2 yX7_isOne cX7_isOne 3 (some .boolean) [.ref (ad 0), .int x1, .int x2] σ Q := by
  refine zz_enter hI (by decide) (Nat.le_of_ble_eq_true rfl) (fun p e s m below meth c M => ?_)
  have M : zM p s m _ meth c cX7_isOne 3 RX7 (some .boolean) tabX D cA ad y := M
  refine zz_ls [(0, .ref (ad 0)), (1, .int x1), (2, .int x2)] rfl ?_
  unfold wX7_isOne at h
  refine zz_iload_n M 1 dX7_isOne_0 rfl rfl ?_
  refine zz_callSI (d' := 1) (As := [.int x1]) (rest := []) M l_X7_100 dX7_isOne_1 rfl rfl (by decide) (Nat.le_of_ble_eq_true rfl) (by have hI := M.2.2.2.2.2.2.2.2; exact kX7_isSort hI _  _ _ h) (fun r101 σ102 h => ?_)
  refine zz_if_eq (y0 := 0) M 28 dX7_isOne_4 (by decide) (fun c => ?_) (fun c => ?_)
  · have h := zif (c := r101 = 0) h c
    refine zz_iconst (v := 0) M dX7_isOne_28 (by decide) ?_
    exact zz_zret M dX7_isOne_29 (Or.inl rfl) h
  · have h := zifn (c := r101 = 0) h c
    refine zz_iload_n M 2 dX7_isOne_7 rfl rfl ?_
    refine zz_if_lt (y0 := 0) M 28 dX7_isOne_8 (by decide) (fun c => ?_) (fun c => ?_)
    · have h := zif (c := x2 < 0) h c
      refine zz_iconst (v := 0) M dX7_isOne_28 (by decide) ?_
      exact zz_zret M dX7_isOne_29 (Or.inl rfl) h
    · have h := zifn (c := x2 < 0) h c
      refine zz_iload_n M 2 dX7_isOne_11 rfl rfl ?_
      refine zz_aload_n M 0 dX7_isOne_12 rfl rfl ?_
      refine zz_getR M f_X7_12 tX_0 rfl dX7_isOne_13 ?_
      refine zz_getR M f_X7_113 tX_1 rfl dX7_isOne_16 ?_
      refine zz_iload_n M 1 dX7_isOne_19 rfl rfl ?_
      refine zz_iald M tX_3 h.1 dX7_isOne_20 ?_
      have h := h.2
      refine zz_icmp_ge M 28 dX7_isOne_21 (by decide) (fun c => ?_) (fun c => ?_)
      · have h := zif (c := (σ102.1 3 x1.toNatClampNeg) ≤ x2) h c
        refine zz_iconst (v := 0) M dX7_isOne_28 (by decide) ?_
        exact zz_zret M dX7_isOne_29 (Or.inl rfl) h
      · have h := zifn (c := (σ102.1 3 x1.toNatClampNeg) ≤ x2) h c
        refine zz_iconst (v := 1) M dX7_isOne_24 (by decide) ?_
        refine zz_goto M 29 dX7_isOne_25 (by decide) ?_
        exact zz_zret M dX7_isOne_29 (Or.inr rfl) h
def wX7_changed_6 (x2 : Int32) (x3 : Int32) (σ : zSt) (Q : Int32 → zSt → Prop) : Prop := vp_in x2 8 ∧ (∀ x101 : Int32, x101 = (σ.1 6 x2.toNatClampNeg) → (vp_in x2 8 ∧ (∀ σ102 : zSt, σ102 = zput σ 6 x2.toNatClampNeg x3 → (wX7_forget  σ102 (fun σ104 => Q x101 σ104)))))
set_option maxRecDepth 20000 in
set_option maxHeartbeats 4000000 in
theorem kX7_changed_6 (hI : zInj tabX ad) (x2 : Int32) (x3 : Int32)  (σ : zSt) (Q : Int32 → zSt → Prop) (h : wX7_changed_6 x2 x3 σ Q) : zOkI l tabX D cA ad y 4 yX7_changed cX7_changed 5 (some .int) [.ref (ad 0), .ref (ad 6), .int x2, .int x3] σ Q := by
  refine zz_enter hI (by decide) (Nat.le_of_ble_eq_true rfl) (fun p e s m below meth c M => ?_)
  have M : zM p s m _ meth c cX7_changed 5 RX7 (some .int) tabX D cA ad y := M
  refine zz_ls [(0, .ref (ad 0)), (1, .ref (ad 6)), (2, .int x2), (3, .int x3)] rfl ?_
  unfold wX7_changed_6 at h
  refine zz_aload_n M 1 dX7_changed_0 rfl rfl ?_
  refine zz_iload_n M 2 dX7_changed_1 rfl rfl ?_
  refine zz_iald M tX_6 h.1 dX7_changed_2 ?_
  have h := h.2
  refine zz_topi (fun x101 ex101 => ?_)
  have h := h x101 ex101
  refine zz_istore M [(4, .int x101), (0, .ref (ad 0)), (1, .ref (ad 6)), (2, .int x2), (3, .int x3)] dX7_changed_3 (by decide) rfl ?_
  refine zz_aload_n M 2 dX7_changed_5 rfl rfl ?_
  refine zz_iload_n M 3 dX7_changed_6 rfl rfl ?_
  refine zz_iload_n M 4 dX7_changed_7 rfl rfl ?_
  refine zz_iast M tX_6 h.1 dX7_changed_8 ?_
  have h := h.2
  refine zz_sg (fun σ102 eσ102 => ?_)
  have h := h σ102 eσ102
  refine zz_aload_n M 1 dX7_changed_9 rfl rfl ?_
  refine zz_callVV (d' := 3) (As := []) (rest := []) M l_X7_125 tX_0 rfl rfl dX7_changed_10 rfl rfl (by decide) (Nat.le_of_ble_eq_true rfl) (by have hI := M.2.2.2.2.2.2.2.2; exact kX7_forget hI   _ _ h) (fun σ104 h => ?_)
  refine zz_iload M 0 dX7_changed_13 rfl ?_
  exact zz_iret M dX7_changed_15 h
def wX7_changed_5 (x2 : Int32) (x3 : Int32) (σ : zSt) (Q : Int32 → zSt → Prop) : Prop := vp_in x2 8 ∧ (∀ x101 : Int32, x101 = (σ.1 5 x2.toNatClampNeg) → (vp_in x2 8 ∧ (∀ σ102 : zSt, σ102 = zput σ 5 x2.toNatClampNeg x3 → (wX7_forget  σ102 (fun σ104 => Q x101 σ104)))))
set_option maxRecDepth 20000 in
set_option maxHeartbeats 4000000 in
theorem kX7_changed_5 (hI : zInj tabX ad) (x2 : Int32) (x3 : Int32)  (σ : zSt) (Q : Int32 → zSt → Prop) (h : wX7_changed_5 x2 x3 σ Q) : zOkI l tabX D cA ad y 4 yX7_changed cX7_changed 5 (some .int) [.ref (ad 0), .ref (ad 5), .int x2, .int x3] σ Q := by
  refine zz_enter hI (by decide) (Nat.le_of_ble_eq_true rfl) (fun p e s m below meth c M => ?_)
  have M : zM p s m _ meth c cX7_changed 5 RX7 (some .int) tabX D cA ad y := M
  refine zz_ls [(0, .ref (ad 0)), (1, .ref (ad 5)), (2, .int x2), (3, .int x3)] rfl ?_
  unfold wX7_changed_5 at h
  refine zz_aload_n M 1 dX7_changed_0 rfl rfl ?_
  refine zz_iload_n M 2 dX7_changed_1 rfl rfl ?_
  refine zz_iald M tX_5 h.1 dX7_changed_2 ?_
  have h := h.2
  refine zz_topi (fun x101 ex101 => ?_)
  have h := h x101 ex101
  refine zz_istore M [(4, .int x101), (0, .ref (ad 0)), (1, .ref (ad 5)), (2, .int x2), (3, .int x3)] dX7_changed_3 (by decide) rfl ?_
  refine zz_aload_n M 2 dX7_changed_5 rfl rfl ?_
  refine zz_iload_n M 3 dX7_changed_6 rfl rfl ?_
  refine zz_iload_n M 4 dX7_changed_7 rfl rfl ?_
  refine zz_iast M tX_5 h.1 dX7_changed_8 ?_
  have h := h.2
  refine zz_sg (fun σ102 eσ102 => ?_)
  have h := h σ102 eσ102
  refine zz_aload_n M 1 dX7_changed_9 rfl rfl ?_
  refine zz_callVV (d' := 3) (As := []) (rest := []) M l_X7_125 tX_0 rfl rfl dX7_changed_10 rfl rfl (by decide) (Nat.le_of_ble_eq_true rfl) (by have hI := M.2.2.2.2.2.2.2.2; exact kX7_forget hI   _ _ h) (fun σ104 h => ?_)
  refine zz_iload M 0 dX7_changed_13 rfl ?_
  exact zz_iret M dX7_changed_15 h
def wX7_changed_4 (x2 : Int32) (x3 : Int32) (σ : zSt) (Q : Int32 → zSt → Prop) : Prop := vp_in x2 8 ∧ (∀ x101 : Int32, x101 = (σ.1 4 x2.toNatClampNeg) → (vp_in x2 8 ∧ (∀ σ102 : zSt, σ102 = zput σ 4 x2.toNatClampNeg x3 → (wX7_forget  σ102 (fun σ104 => Q x101 σ104)))))
set_option maxRecDepth 20000 in
set_option maxHeartbeats 4000000 in
theorem kX7_changed_4 (hI : zInj tabX ad) (x2 : Int32) (x3 : Int32)  (σ : zSt) (Q : Int32 → zSt → Prop) (h : wX7_changed_4 x2 x3 σ Q) : zOkI l tabX D cA ad y 4 yX7_changed cX7_changed 5 (some .int) [.ref (ad 0), .ref (ad 4), .int x2, .int x3] σ Q := by
  refine zz_enter hI (by decide) (Nat.le_of_ble_eq_true rfl) (fun p e s m below meth c M => ?_)
  have M : zM p s m _ meth c cX7_changed 5 RX7 (some .int) tabX D cA ad y := M
  refine zz_ls [(0, .ref (ad 0)), (1, .ref (ad 4)), (2, .int x2), (3, .int x3)] rfl ?_
  unfold wX7_changed_4 at h
  refine zz_aload_n M 1 dX7_changed_0 rfl rfl ?_
  refine zz_iload_n M 2 dX7_changed_1 rfl rfl ?_
  refine zz_iald M tX_4 h.1 dX7_changed_2 ?_
  have h := h.2
  refine zz_topi (fun x101 ex101 => ?_)
  have h := h x101 ex101
  refine zz_istore M [(4, .int x101), (0, .ref (ad 0)), (1, .ref (ad 4)), (2, .int x2), (3, .int x3)] dX7_changed_3 (by decide) rfl ?_
  refine zz_aload_n M 2 dX7_changed_5 rfl rfl ?_
  refine zz_iload_n M 3 dX7_changed_6 rfl rfl ?_
  refine zz_iload_n M 4 dX7_changed_7 rfl rfl ?_
  refine zz_iast M tX_4 h.1 dX7_changed_8 ?_
  have h := h.2
  refine zz_sg (fun σ102 eσ102 => ?_)
  have h := h σ102 eσ102
  refine zz_aload_n M 1 dX7_changed_9 rfl rfl ?_
  refine zz_callVV (d' := 3) (As := []) (rest := []) M l_X7_125 tX_0 rfl rfl dX7_changed_10 rfl rfl (by decide) (Nat.le_of_ble_eq_true rfl) (by have hI := M.2.2.2.2.2.2.2.2; exact kX7_forget hI   _ _ h) (fun σ104 h => ?_)
  refine zz_iload M 0 dX7_changed_13 rfl ?_
  exact zz_iret M dX7_changed_15 h
end
