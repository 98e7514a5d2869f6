noncomputable def ifP (P : Prop) (a b : Int32) : Int32 := @ite _ P (Classical.propDecidable P) a b
theorem ifP_t {P : Prop} {a b : Int32} (h : P) : ifP P a b = a := if_pos h
theorem ifP_f {P : Prop} {a b : Int32} (h : ¬ P) : ifP P a b = b := if_neg h
noncomputable def relF (σ : Nat → Nat → Int32) (n nm : Nat) (d : Int32) : Int32 := ifP (∃ j, j < n ∧ σ 20 j = d ∧ ¬ σ 23 j = 3 ∧ ¬ σ 23 j = 5) 1 (ifP (σ 2 d.toNatClampNeg = -1) 2 (ifP (¬ σ 3 d.toNatClampNeg = 0) 3 (ifP (∃ j, j < nm ∧ σ 30 j = d ∧ ¬ ∃ q, q < 4 ∧ ¬ σ (1000 + j) q = -1) 4 (ifP (0 < cntS σ d 0 nm) 5 0))))
noncomputable def lookF (σ : Nat → Nat → Int32) (i : Nat) (w : Int32) : Int32 := if w = 0 then σ 20 i else if w = 1 then σ 21 i else if w = 2 then σ 23 i else if w = 3 then σ 24 i else if w = 4 then ifP (σ 23 i = 1 ∨ σ 23 i = 2) (σ 25 i) (-1) else if w = 5 then ifP (σ 23 i = 1 ∨ σ 23 i = 2) (σ 26 i) (-1) else if w = 6 then ifP (σ 23 i = 1 ∨ σ 23 i = 2) (σ 27 i) (-1) else if w = 7 then σ 28 i else σ 29 i
set_option maxHeartbeats 4000000 in
set_option maxRecDepth 100000 in
theorem c_C_release (l : Launch) (D : va_G) (cs : Nat → ClassId) (ad : Nat → Nat) (σ : Nat → Nat → Int32) (n nm ci cj E : Nat) (hI : Iv n nm ci cj) (hJ : Jv σ n nm) (hst : l.stackTraces = false) (sz : Nat) (p0 : Int32) : vx_Met l y_C_release (Cond.code y_C_release b_C_release 2 (some .int) :: GW) ({ frames := 8, cells := 1, slots := 6, locals := 256 }) (va_Pc [.ref (ad 0), .int p0] (xr_B D cs (wC cs ad σ n nm ci cj E) sz)) (va_Qi (fun r (u : Nat → Nat → Int32) => (0 ≤ p0 ∧ p0 ≤ 9) ∧ r = relF σ n nm p0 ∧ u = σ) (fun u => wr_T D cs (wC cs ad u n nm ci cj E) (va_A (wC cs ad σ n nm ci cj E) sz)) (va_A (wC cs ad σ n nm ci cj E) sz)) (vx_X (fun _ : Unit => ¬ (0 ≤ p0 ∧ p0 ≤ 9)) (fun E9 _ t => E9 = xe_A ∧ wr_T D cs (wC cs ad σ n nm ci cj E) (va_A (wC cs ad σ n nm ci cj E) sz) t) (va_A (wC cs ad σ n nm ci cj E) sz)) 1 6 (va_A (wC cs ad σ n nm ci cj E) sz) := by
  refine vx_ofW (cc := b_C_release) (maxL := 2) (ret := (some .int)) (by decide) rfl ?_
  intro p e s m args below meth c s₁ B hml hnt hv
  obtain ⟨rfl, ⟨hsz, hP, hK, hD0⟩, hX, hZ⟩ := hv
  have hx := B.exec
  have hb := B.bytes
  have hr := B.returns
  have hts := atoms_spec (ws := Cond.code y_C_release b_C_release 2 (some .int) :: GW) B.pre
  have hG : ∀ w ∈ GW, w.before _ s = true := fun w h => hts w (List.mem_cons_of_mem _ h)
  have hown : s.vm.findClass R_C = some m.cls := findClass_of_methodNamed B.named
  have hlocks := B.notSynchronized
  subst hsz
  have hD := hD0.self (sz := s.heap.size)
  generalize hAe : va_A (wC cs ad σ n nm ci cj E) s.heap.size = A at hD hZ ⊢
  have hA : ∀ q : Nat, s.heap.size ≤ q → A q := fun q h => by rw [← hAe]; exact Or.inr h
  have hS : va_S A s.heap s.heap [] := va_S.rf
  have hl := lv_entry ([.ref (ad 0), .int p0]) (n := 2) (Nat.le_of_ble_eq_true rfl)
  rw [lg_entry_eq]
  generalize (lg_sl ([.ref (ad 0), .int p0]) ++ List.replicate (2 - (lg_sl ([.ref (ad 0), .int p0])).length) Slot.unset).toArray = ls at hl ⊢
  have hl : lv_has ls 2 [(0, .ref (ad 0)), (1, .int p0)] := hl
  refine lv_iload_n hx hb d_C_release_0 rfl (lv_at hl 1 rfl) ?_
  refine vp_callSi (W.runS (As := [.int p0]) (rest := []) ⟨hx, hb, hml, hown, hts⟩ (c_C_isDeclaration l p0) (va_cwS 1 hts (gw_S kw_143 kw_144 kw_1 kw_145) rfl rfl rfl (by decide +kernel) ⟨Nat.le_of_ble_eq_true rfl, Nat.le_of_ble_eq_true rfl⟩) ⟨fun _ _ _ _ q => q, fun U _ _ => ⟨rfl, trivial⟩⟩ rfl rfl hl.1 rfl (lv_room (Nat.le_of_ble_eq_true rfl)) d_C_release_1 ⟨Nat.zero_le _, Nat.zero_le _⟩) (fun r_1 h_2 => ?_)
  subst h_2
  refine lv_if_ne (tgt := 17) hx hb d_C_release_4 (by decide) (fun c_3 => ?_) (fun c_3 => ?_)
  · refine lv_aload_n hx hb d_C_release_17 rfl (lv_at hl 0 rfl) ?_
    refine lv_iload_n hx hb d_C_release_18 rfl (lv_at hl 1 rfl) ?_
    refine vp_callSi (W.runV (As := [.int p0]) (rest := []) ⟨hx, hb, hml, hown, hts⟩ (c_C_hasPendingInspection l D cs ad σ n nm ci cj E hI p0) (cwV 1 hts (gw_V kw_536 kw_538 ks_0_14 kw_1 kw_539) rfl rfl rfl (by decide +kernel) ⟨Nat.le_of_ble_eq_true rfl, Nat.le_of_ble_eq_true rfl⟩) (rd_V hP hK (rl_recv hK hP (RC_f (by decide)) gC_0 rfl)) rfl rfl hl.1 rfl (lv_room (Nat.le_of_ble_eq_true rfl)) d_C_release_19 ⟨Nat.zero_le _, Nat.zero_le _⟩) (fun r_4 h_5 => ?_)
    subst h_5
    refine lv_if_eq (tgt := 27) hx hb d_C_release_22 (by decide) (fun c_6 => ?_) (fun c_6 => ?_)
    · refine lv_aload_n hx hb d_C_release_27 rfl (lv_at hl 0 rfl) ?_
      refine rl_get (r := 0) (ci := 1) (v := .ref (ad 6)) (C := R_C) (T := F_C) (N := 10) hx hb hG in_C hown hK hP (RC_f (by decide)) gC_0 rfl 3 (by decide) kw_62 (fun _ h9 => h9) rfl d_C_release_28 ?_
      refine lv_iload_n hx hb d_C_release_31 rfl (lv_at hl 1 rfl) ?_
      refine rl_iald (r := 6) (i := p0) hx hb hK hP (RC_f (by decide)) 0 gC_6 rfl (vp_in_iff.mpr (by ((try simp only [b2i_eq0, Classical.not_not] at c_3 c_6); simp only [i32_eq, i32_lt, i32_le, i32_nm1, i32_n0, i32_n1, i32_n2, i32_n3, i32_n4, i32_n5, i32_n6, i32_n7, i32_n8, i32_n9, i32_n10, i32_n20, i32_n30, i32_n31, i32_n39, i32_n40, i32_n49, i32_n50, i32_n100, i32_n160, i32_n1000, i32_n100000, i32_n1000000] at c_3 c_6 ⊢; omega))) d_C_release_32 ?_
      refine lv_iconst (v := (-1)) hx hb d_C_release_33 (by decide) ?_
      refine lv_icmp_ne (tgt := 39) hx hb d_C_release_34 (by decide) (fun c_7 => ?_) (fun c_7 => ?_)
      · refine lv_aload_n hx hb d_C_release_39 rfl (lv_at hl 0 rfl) ?_
        refine rl_get (r := 0) (ci := 1) (v := .ref (ad 7)) (C := R_C) (T := F_C) (N := 10) hx hb hG in_C hown hK hP (RC_f (by decide)) gC_0 rfl 4 (by decide) kw_63 (fun _ h9 => h9) rfl d_C_release_40 ?_
        refine lv_iload_n hx hb d_C_release_43 rfl (lv_at hl 1 rfl) ?_
        refine rl_iald (r := 7) (i := p0) hx hb hK hP (RC_f (by decide)) 0 gC_7 rfl (vp_in_iff.mpr (by ((try simp only [b2i_eq0, Classical.not_not] at c_3 c_6 c_7); simp only [i32_eq, i32_lt, i32_le, i32_nm1, i32_n0, i32_n1, i32_n2, i32_n3, i32_n4, i32_n5, i32_n6, i32_n7, i32_n8, i32_n9, i32_n10, i32_n20, i32_n30, i32_n31, i32_n39, i32_n40, i32_n49, i32_n50, i32_n100, i32_n160, i32_n1000, i32_n100000, i32_n1000000] at c_3 c_6 c_7 ⊢; omega))) d_C_release_44 ?_
        refine lv_if_eq (tgt := 50) hx hb d_C_release_45 (by decide) (fun c_8 => ?_) (fun c_8 => ?_)
        · refine lv_aload_n hx hb d_C_release_50 rfl (lv_at hl 0 rfl) ?_
          refine lv_iload_n hx hb d_C_release_51 rfl (lv_at hl 1 rfl) ?_
          refine vp_callSi (W.runV (As := [.int p0]) (rest := []) ⟨hx, hb, hml, hown, hts⟩ (c_C_hasSampleWithoutResult l D cs ad σ n nm ci cj E hI p0) (cwV 1 hts (gw_V kw_541 kw_543 ks_0_15 kw_1 kw_544) rfl rfl rfl (by decide +kernel) ⟨Nat.le_of_ble_eq_true rfl, Nat.le_of_ble_eq_true rfl⟩) (rd_V hP hK (rl_recv hK hP (RC_f (by decide)) gC_0 rfl)) rfl rfl hl.1 rfl (lv_room (Nat.le_of_ble_eq_true rfl)) d_C_release_52 ⟨Nat.zero_le _, Nat.zero_le _⟩) (fun r_9 h_10 => ?_)
          subst h_10
          refine lv_if_eq (tgt := 60) hx hb d_C_release_55 (by decide) (fun c_11 => ?_) (fun c_11 => ?_)
          · refine lv_aload_n hx hb d_C_release_60 rfl (lv_at hl 0 rfl) ?_
            refine lv_iload_n hx hb d_C_release_61 rfl (lv_at hl 1 rfl) ?_
            refine lv_iconst (v := 0) hx hb d_C_release_62 (by decide) ?_
            refine vp_callSi (W.runV (As := [.int p0, .int 0]) (rest := []) ⟨hx, hb, hml, hown, hts⟩ (c_C_muchDifferent l D cs ad σ n nm ci cj E hI hJ p0 0) (cwV 2 hts (gw_V kw_169 kw_171 ks_0_3 kw_1 kw_172) rfl rfl rfl (by decide +kernel) ⟨Nat.le_of_ble_eq_true rfl, Nat.le_of_ble_eq_true rfl⟩) (rd_V hP hK (rl_recv hK hP (RC_f (by decide)) gC_0 rfl)) rfl rfl hl.1 rfl (lv_room (Nat.le_of_ble_eq_true rfl)) d_C_release_63 ⟨Nat.zero_le _, Nat.zero_le _⟩) (fun r_12 h_13 => ?_)
            subst h_13
            refine lv_if_le (tgt := 73) hx hb d_C_release_66 (by decide) (fun c_14 => ?_) (fun c_14 => ?_)
            · refine lv_iconst (v := 0) hx hb d_C_release_73 (by decide) ?_
              refine W.widen (k := 1) (n := 6) (Nat.zero_le _) (Nat.zero_le _) (vx_ret ?_)
              exact W.iret (v := 0) hx hb hr (fun t ht hW => ⟨⟨0, σ, rfl, ⟨Classical.not_not.mp (fun h => c_3 (b2i_eq0.mpr h)), by unfold relF; rw [ifP_f (b2i_eq0.mp c_6), ifP_f (by ((try simp only [b2i_eq0, Classical.not_not] at c_7); grind)), ifP_f (by ((try simp only [b2i_eq0, Classical.not_not] at c_8); grind)), ifP_f (b2i_eq0.mp c_11), ifP_f (by ((try simp only [b2i_eq0, Classical.not_not] at c_14); simp only [i32_eq, i32_lt, i32_le, i32_nm1, i32_n0, i32_n1, i32_n2, i32_n3, i32_n4, i32_n5, i32_n6, i32_n7, i32_n8, i32_n9, i32_n10, i32_n20, i32_n30, i32_n31, i32_n39, i32_n40, i32_n49, i32_n50, i32_n100, i32_n160, i32_n1000, i32_n100000, i32_n1000000] at c_14 ⊢; omega))], rfl⟩, by rw [ht]; exact hP, va_K.moved hW.alike hK, hD⟩, hS.F ht⟩) hS.2.2 d_C_release_74
            · refine lv_iconst (v := 5) hx hb d_C_release_69 (by decide) ?_
              refine lv_goto (tgt := 74) hx hb d_C_release_70 (by decide) ?_
              refine W.widen (k := 1) (n := 6) (Nat.zero_le _) (Nat.zero_le _) (vx_ret ?_)
              exact W.iret (v := 5) hx hb hr (fun t ht hW => ⟨⟨5, σ, rfl, ⟨Classical.not_not.mp (fun h => c_3 (b2i_eq0.mpr h)), by unfold relF; rw [ifP_f (b2i_eq0.mp c_6), ifP_f (by ((try simp only [b2i_eq0, Classical.not_not] at c_7); grind)), ifP_f (by ((try simp only [b2i_eq0, Classical.not_not] at c_8); grind)), ifP_f (b2i_eq0.mp c_11), ifP_t (by ((try simp only [b2i_eq0, Classical.not_not] at c_14); simp only [i32_eq, i32_lt, i32_le, i32_nm1, i32_n0, i32_n1, i32_n2, i32_n3, i32_n4, i32_n5, i32_n6, i32_n7, i32_n8, i32_n9, i32_n10, i32_n20, i32_n30, i32_n31, i32_n39, i32_n40, i32_n49, i32_n50, i32_n100, i32_n160, i32_n1000, i32_n100000, i32_n1000000] at c_14 ⊢; omega))], rfl⟩, by rw [ht]; exact hP, va_K.moved hW.alike hK, hD⟩, hS.F ht⟩) hS.2.2 d_C_release_74
          · refine lv_iconst (v := 4) hx hb d_C_release_58 (by decide) ?_
            refine W.widen (k := 1) (n := 6) (Nat.zero_le _) (Nat.zero_le _) (vx_ret ?_)
            exact W.iret (v := 4) hx hb hr (fun t ht hW => ⟨⟨4, σ, rfl, ⟨Classical.not_not.mp (fun h => c_3 (b2i_eq0.mpr h)), by unfold relF; rw [ifP_f (b2i_eq0.mp c_6), ifP_f (by ((try simp only [b2i_eq0, Classical.not_not] at c_7); grind)), ifP_f (by ((try simp only [b2i_eq0, Classical.not_not] at c_8); grind)), ifP_t (Classical.not_not.mp (fun h => c_11 (b2i_eq0.mpr h)))], rfl⟩, by rw [ht]; exact hP, va_K.moved hW.alike hK, hD⟩, hS.F ht⟩) hS.2.2 d_C_release_59
        · refine lv_iconst (v := 3) hx hb d_C_release_48 (by decide) ?_
          refine W.widen (k := 1) (n := 6) (Nat.zero_le _) (Nat.zero_le _) (vx_ret ?_)
          exact W.iret (v := 3) hx hb hr (fun t ht hW => ⟨⟨3, σ, rfl, ⟨Classical.not_not.mp (fun h => c_3 (b2i_eq0.mpr h)), by unfold relF; rw [ifP_f (b2i_eq0.mp c_6), ifP_f (by ((try simp only [b2i_eq0, Classical.not_not] at c_7); grind)), ifP_t (by ((try simp only [b2i_eq0, Classical.not_not] at c_8); grind))], rfl⟩, by rw [ht]; exact hP, va_K.moved hW.alike hK, hD⟩, hS.F ht⟩) hS.2.2 d_C_release_49
      · refine lv_iconst (v := 2) hx hb d_C_release_37 (by decide) ?_
        refine W.widen (k := 1) (n := 6) (Nat.zero_le _) (Nat.zero_le _) (vx_ret ?_)
        exact W.iret (v := 2) hx hb hr (fun t ht hW => ⟨⟨2, σ, rfl, ⟨Classical.not_not.mp (fun h => c_3 (b2i_eq0.mpr h)), by unfold relF; rw [ifP_f (b2i_eq0.mp c_6), ifP_t (by ((try simp only [b2i_eq0, Classical.not_not] at c_7); grind))], rfl⟩, by rw [ht]; exact hP, va_K.moved hW.alike hK, hD⟩, hS.F ht⟩) hS.2.2 d_C_release_38
    · refine lv_iconst (v := 1) hx hb d_C_release_25 (by decide) ?_
      refine W.widen (k := 1) (n := 6) (Nat.zero_le _) (Nat.zero_le _) (vx_ret ?_)
      exact W.iret (v := 1) hx hb hr (fun t ht hW => ⟨⟨1, σ, rfl, ⟨Classical.not_not.mp (fun h => c_3 (b2i_eq0.mpr h)), by unfold relF; rw [ifP_t (Classical.not_not.mp (fun h => c_6 (b2i_eq0.mpr h)))], rfl⟩, by rw [ht]; exact hP, va_K.moved hW.alike hK, hD⟩, hS.F ht⟩) hS.2.2 d_C_release_26
  · exact vx_throwS (own := "InspectSteps") (cls := xe_A) (text := "no such declaration") (names := xe_up) (ik := 68) (is := 190) (ic := 72) (A := A) hx hb hst hown (by decide) (by decide) (hG _ kw_192) (hG _ kw_10) (hX.2 (190, "no such declaration") (by decide)).choose_spec (xa_A hG hX) xa_A3 hZ.1 hZ.2 hS (hl.1.trans hml.symm) d_C_release_7 d_C_release_10 d_C_release_11 d_C_release_13 d_C_release_16 (fun x h => (hnt x h).elim) (Nat.le_of_ble_eq_true rfl) (Nat.le_of_ble_eq_true rfl) (Nat.le_of_ble_eq_true rfl) (Nat.le_of_ble_eq_true rfl) hlocks (fun t ha hz hk => ⟨(), b2i_eq0.mp c_3, ⟨rfl, (thr_T hS hP hK hD ha hz hk).1⟩, (thr_T hS hP hK hD ha hz hk).2⟩) hS.2.2 (Nat.le_of_ble_eq_true rfl) (Nat.le_of_ble_eq_true rfl)
set_option maxHeartbeats 4000000 in
set_option maxRecDepth 100000 in
theorem c_C_look (l : Launch) (D : va_G) (cs : Nat → ClassId) (ad : Nat → Nat) (σ : Nat → Nat → Int32) (n nm ci cj E : Nat) (hI : Iv n nm ci cj) (hst : l.stackTraces = false) (sz : Nat) (p0 p1 : Int32) : vx_Met l y_C_look (Cond.code y_C_look b_C_look 4 (some .int) :: GW) ({ frames := 8, cells := 1, slots := 6, locals := 256 }) (va_Pc [.ref (ad 0), .int p0, .int p1] (xr_B D cs (wC cs ad σ n nm ci cj E) sz)) (va_Qi (fun r (u : Nat → Nat → Int32) => ∃ i, i < n ∧ p0 = nI i ∧ (0 ≤ p1 ∧ p1 ≤ 8) ∧ r = lookF σ i p1 ∧ u = σ) (fun u => wr_T D cs (wC cs ad u n nm ci cj E) (va_A (wC cs ad σ n nm ci cj E) sz)) (va_A (wC cs ad σ n nm ci cj E) sz)) (vx_X (fun _ : Unit => ¬ ((∃ i, i < n ∧ p0 = nI i) ∧ (0 ≤ p1 ∧ p1 ≤ 8))) (fun E9 _ t => E9 = xe_I ∧ wr_T D cs (wC cs ad σ n nm ci cj E) (va_A (wC cs ad σ n nm ci cj E) sz) t) (va_A (wC cs ad σ n nm ci cj E) sz)) 1 6 (va_A (wC cs ad σ n nm ci cj E) sz) := by
  refine vx_ofW (cc := b_C_look) (maxL := 4) (ret := (some .int)) (by decide) rfl ?_
  intro p e s m args below meth c s₁ B hml hnt hv
  obtain ⟨rfl, ⟨hsz, hP, hK, hD0⟩, hX, hZ⟩ := hv
  have hx := B.exec
  have hb := B.bytes
  have hr := B.returns
  have hts := atoms_spec (ws := Cond.code y_C_look b_C_look 4 (some .int) :: GW) B.pre
  have hG : ∀ w ∈ GW, w.before _ s = true := fun w h => hts w (List.mem_cons_of_mem _ h)
  have hown : s.vm.findClass R_C = some m.cls := findClass_of_methodNamed B.named
  have hlocks := B.notSynchronized
  subst hsz
  have hD := hD0.self (sz := s.heap.size)
  generalize hAe : va_A (wC cs ad σ n nm ci cj E) s.heap.size = A at hD hZ ⊢
  have hA : ∀ q : Nat, s.heap.size ≤ q → A q := fun q h => by rw [← hAe]; exact Or.inr h
  have hS : va_S A s.heap s.heap [] := va_S.rf
  have hl := lv_entry ([.ref (ad 0), .int p0, .int p1]) (n := 4) (Nat.le_of_ble_eq_true rfl)
  rw [lg_entry_eq]
  generalize (lg_sl ([.ref (ad 0), .int p0, .int p1]) ++ List.replicate (4 - (lg_sl ([.ref (ad 0), .int p0, .int p1])).length) Slot.unset).toArray = ls at hl ⊢
  have hl : lv_has ls 4 [(0, .ref (ad 0)), (1, .int p0), (2, .int p1)] := hl
  refine lv_aload_n hx hb d_C_look_0 rfl (lv_at hl 0 rfl) ?_
  refine lv_iload_n hx hb d_C_look_1 rfl (lv_at hl 1 rfl) ?_
  refine vp_callSi (W.runV (As := [.int p0]) (rest := []) ⟨hx, hb, hml, hown, hts⟩ (c_C_isInspection l D cs ad σ n nm ci cj E hI p0) (cwV 1 hts (gw_V kw_112 kw_114 ks_0_1 kw_1 kw_115) rfl rfl rfl (by decide +kernel) ⟨Nat.le_of_ble_eq_true rfl, Nat.le_of_ble_eq_true rfl⟩) (rd_V hP hK (rl_recv hK hP (RC_f (by decide)) gC_0 rfl)) rfl rfl hl.1 rfl (lv_room (Nat.le_of_ble_eq_true rfl)) d_C_look_2 ⟨Nat.zero_le _, Nat.zero_le _⟩) (fun r_1 h_2 => ?_)
  subst h_2
  refine lv_if_ne (tgt := 18) hx hb d_C_look_5 (by decide) (fun c_3 => ?_) (fun c_3 => ?_)
  · obtain ⟨i, hi, rfl⟩ := at_ (by have := hI; unfold Iv at this; omega) (Classical.not_not.mp (fun h => c_3 (b2i_eq0.mpr h)))
    refine lv_aload_n hx hb d_C_look_18 rfl (lv_at hl 0 rfl) ?_
    refine rl_get (r := 0) (ci := 1) (v := .ref (ad 1)) (C := R_C) (T := F_C) (N := 10) hx hb hG in_C hown hK hP (RC_f (by decide)) gC_0 rfl 0 (by decide) kw_59 (fun _ h9 => h9) rfl d_C_look_19 ?_
    refine lv_iload_n hx hb d_C_look_22 rfl (lv_at hl 1 rfl) ?_
    refine va_csr (W.runV (As := [.int (nI i)]) (rest := []) ⟨hx, hb, hml, hown, hts⟩ (c_Al_get l D (tys_ cs) (ad 1) (ad 3) n ci i (ad (100 + i)) (σ 7 0) (cs 2) (rowsF 100 n ad) hi hI.2.2.1 (by have := hI; unfold Iv at this; omega) 2 rfl (if_pos hi)) (cwV 1 hts (gw_V kw_120 kw_121 kw_122 kw_4 kw_123) rfl rfl rfl (by decide +kernel) ⟨Nat.le_of_ble_eq_true rfl, Nat.le_of_ble_eq_true rfl⟩) (rd_V (rl_two hP (RC_f (by decide)) (gC_1 (Nat.lt_of_le_of_lt (Nat.zero_le _) hi)) (RC_3 (Nat.lt_of_le_of_lt (Nat.zero_le _) hi)) gC_3) hK (rl_recv hK hP (RC_f (by decide)) (gC_1 (Nat.lt_of_le_of_lt (Nat.zero_le _) hi)) rfl)) rfl rfl hl.1 rfl (lv_room (Nat.le_of_ble_eq_true rfl)) d_C_look_23 ⟨Nat.zero_le _, Nat.zero_le _⟩) (fun r_4 h_5 => ?_)
    subst h_5
    refine va_castS hx hb hown (hG _ kw_134) ((hK.1 2 _ rfl).2) (rl_recv hK hP (RC_ins hi) (gC_ins (by have := hI; unfold Iv at this; omega)) rfl) d_C_look_26 ?_
    refine lv_astore_n (lv' := [(3, .ref (ad (100 + i))), (0, .ref (ad 0)), (1, .int (nI i)), (2, .int p1)]) hx hb d_C_look_29 rfl hl (by decide) rfl (fun ls hl => ?_)
    refine lv_iload_n hx hb d_C_look_30 rfl (lv_at hl 3 rfl) ?_
    by_cases e_6 : p1 = 0
    · subst e_6
      refine lv_tableIn (x := 0) (tgt := 80) hx hb d_C_look_31 (by decide) (by decide) rfl (by decide) ?_
      refine lv_aload_n hx hb d_C_look_80 rfl (lv_at hl 0 rfl) ?_
      refine rl_get (r := 100 + i) (ci := 2) (v := .int (σ 20 i)) (C := R_I) (T := F_I) (N := 10) hx hb hG in_I hown hK hP (RC_ins hi) (gC_ins (by have := hI; unfold Iv at this; omega)) rfl 0 (by decide) kw_288 (fun _ h9 => h9) rfl d_C_look_81 ?_
      refine W.widen (k := 1) (n := 6) (Nat.zero_le _) (Nat.zero_le _) (vx_ret ?_)
      exact W.iret (v := σ 20 i) hx hb hr (fun t ht hW => ⟨⟨σ 20 i, σ, rfl, ⟨i, hi, rfl, by decide, rfl, rfl⟩, by rw [ht]; exact hP, va_K.moved hW.alike hK, hD⟩, hS.F ht⟩) hS.2.2 d_C_look_84
    by_cases e_7 : p1 = 1
    · subst e_7
      refine lv_tableIn (x := 1) (tgt := 85) hx hb d_C_look_31 (by decide) (by decide) rfl (by decide) ?_
      refine lv_aload_n hx hb d_C_look_85 rfl (lv_at hl 0 rfl) ?_
      refine rl_get (r := 100 + i) (ci := 2) (v := .int (σ 21 i)) (C := R_I) (T := F_I) (N := 10) hx hb hG in_I hown hK hP (RC_ins hi) (gC_ins (by have := hI; unfold Iv at this; omega)) rfl 1 (by decide) kw_290 (fun _ h9 => h9) rfl d_C_look_86 ?_
      refine W.widen (k := 1) (n := 6) (Nat.zero_le _) (Nat.zero_le _) (vx_ret ?_)
      exact W.iret (v := σ 21 i) hx hb hr (fun t ht hW => ⟨⟨σ 21 i, σ, rfl, ⟨i, hi, rfl, by decide, rfl, rfl⟩, by rw [ht]; exact hP, va_K.moved hW.alike hK, hD⟩, hS.F ht⟩) hS.2.2 d_C_look_89
    by_cases e_8 : p1 = 2
    · subst e_8
      refine lv_tableIn (x := 2) (tgt := 90) hx hb d_C_look_31 (by decide) (by decide) rfl (by decide) ?_
      refine lv_aload_n hx hb d_C_look_90 rfl (lv_at hl 0 rfl) ?_
      refine rl_get (r := 100 + i) (ci := 2) (v := .int (σ 23 i)) (C := R_I) (T := F_I) (N := 10) hx hb hG in_I hown hK hP (RC_ins hi) (gC_ins (by have := hI; unfold Iv at this; omega)) rfl 3 (by decide) kw_293 (fun _ h9 => h9) rfl d_C_look_91 ?_
      refine W.widen (k := 1) (n := 6) (Nat.zero_le _) (Nat.zero_le _) (vx_ret ?_)
      exact W.iret (v := σ 23 i) hx hb hr (fun t ht hW => ⟨⟨σ 23 i, σ, rfl, ⟨i, hi, rfl, by decide, rfl, rfl⟩, by rw [ht]; exact hP, va_K.moved hW.alike hK, hD⟩, hS.F ht⟩) hS.2.2 d_C_look_94
    by_cases e_9 : p1 = 3
    · subst e_9
      refine lv_tableIn (x := 3) (tgt := 95) hx hb d_C_look_31 (by decide) (by decide) rfl (by decide) ?_
      refine lv_aload_n hx hb d_C_look_95 rfl (lv_at hl 0 rfl) ?_
      refine rl_get (r := 100 + i) (ci := 2) (v := .int (σ 24 i)) (C := R_I) (T := F_I) (N := 10) hx hb hG in_I hown hK hP (RC_ins hi) (gC_ins (by have := hI; unfold Iv at this; omega)) rfl 4 (by decide) kw_295 (fun _ h9 => h9) rfl d_C_look_96 ?_
      refine W.widen (k := 1) (n := 6) (Nat.zero_le _) (Nat.zero_le _) (vx_ret ?_)
      exact W.iret (v := σ 24 i) hx hb hr (fun t ht hW => ⟨⟨σ 24 i, σ, rfl, ⟨i, hi, rfl, by decide, rfl, rfl⟩, by rw [ht]; exact hP, va_K.moved hW.alike hK, hD⟩, hS.F ht⟩) hS.2.2 d_C_look_99
    by_cases e_10 : p1 = 4
    · subst e_10
      refine lv_tableIn (x := 4) (tgt := 100) hx hb d_C_look_31 (by decide) (by decide) rfl (by decide) ?_
      refine lv_aload_n hx hb d_C_look_100 rfl (lv_at hl 0 rfl) ?_
      refine vp_callSi (W.runV (As := []) (rest := []) ⟨hx, hb, hml, hown, hts⟩ (c_I_hasAppointment l D (tys_ cs) (ad (100 + i)) (σ 20 i) (σ 21 i) (σ 22 i) (σ 23 i) (σ 24 i) (σ 25 i) (σ 26 i) (σ 27 i) (σ 28 i) (σ 29 i)) (cwV 0 hts (gw_V kw_573 kw_404 kw_405 kw_12 kw_406) rfl rfl rfl (by decide +kernel) ⟨Nat.le_of_ble_eq_true rfl, Nat.le_of_ble_eq_true rfl⟩) (rd_V (rl_one hP (RC_ins hi) (gC_ins (by have := hI; unfold Iv at this; omega))) hK (rl_recv hK hP (RC_ins hi) (gC_ins (by have := hI; unfold Iv at this; omega)) rfl)) rfl rfl hl.1 rfl (lv_room (Nat.le_of_ble_eq_true rfl)) d_C_look_101 ⟨Nat.zero_le _, Nat.zero_le _⟩) (fun r_11 h_12 => ?_)
      subst h_12
      refine lv_if_eq (tgt := 114) hx hb d_C_look_104 (by decide) (fun c_13 => ?_) (fun c_13 => ?_)
      · refine lv_iconst (v := (-1)) hx hb d_C_look_114 (by decide) ?_
        refine W.widen (k := 1) (n := 6) (Nat.zero_le _) (Nat.zero_le _) (vx_ret ?_)
        exact W.iret (v := (-1)) hx hb hr (fun t ht hW => ⟨⟨(-1), σ, rfl, ⟨i, hi, rfl, by decide, (ifP_f (b2i_eq0.mp c_13)).symm, rfl⟩, by rw [ht]; exact hP, va_K.moved hW.alike hK, hD⟩, hS.F ht⟩) hS.2.2 d_C_look_115
      · refine lv_aload_n hx hb d_C_look_107 rfl (lv_at hl 0 rfl) ?_
        refine rl_get (r := 100 + i) (ci := 2) (v := .int (σ 25 i)) (C := R_I) (T := F_I) (N := 10) hx hb hG in_I hown hK hP (RC_ins hi) (gC_ins (by have := hI; unfold Iv at this; omega)) rfl 5 (by decide) kw_297 (fun _ h9 => h9) rfl d_C_look_108 ?_
        refine lv_goto (tgt := 115) hx hb d_C_look_111 (by decide) ?_
        refine W.widen (k := 1) (n := 6) (Nat.zero_le _) (Nat.zero_le _) (vx_ret ?_)
        exact W.iret (v := σ 25 i) hx hb hr (fun t ht hW => ⟨⟨σ 25 i, σ, rfl, ⟨i, hi, rfl, by decide, (ifP_t (Classical.not_not.mp (fun h => c_13 (b2i_eq0.mpr h)))).symm, rfl⟩, by rw [ht]; exact hP, va_K.moved hW.alike hK, hD⟩, hS.F ht⟩) hS.2.2 d_C_look_115
    by_cases e_14 : p1 = 5
    · subst e_14
      refine lv_tableIn (x := 5) (tgt := 116) hx hb d_C_look_31 (by decide) (by decide) rfl (by decide) ?_
      refine lv_aload_n hx hb d_C_look_116 rfl (lv_at hl 0 rfl) ?_
      refine vp_callSi (W.runV (As := []) (rest := []) ⟨hx, hb, hml, hown, hts⟩ (c_I_hasAppointment l D (tys_ cs) (ad (100 + i)) (σ 20 i) (σ 21 i) (σ 22 i) (σ 23 i) (σ 24 i) (σ 25 i) (σ 26 i) (σ 27 i) (σ 28 i) (σ 29 i)) (cwV 0 hts (gw_V kw_573 kw_404 kw_405 kw_12 kw_406) rfl rfl rfl (by decide +kernel) ⟨Nat.le_of_ble_eq_true rfl, Nat.le_of_ble_eq_true rfl⟩) (rd_V (rl_one hP (RC_ins hi) (gC_ins (by have := hI; unfold Iv at this; omega))) hK (rl_recv hK hP (RC_ins hi) (gC_ins (by have := hI; unfold Iv at this; omega)) rfl)) rfl rfl hl.1 rfl (lv_room (Nat.le_of_ble_eq_true rfl)) d_C_look_117 ⟨Nat.zero_le _, Nat.zero_le _⟩) (fun r_15 h_16 => ?_)
      subst h_16
      refine lv_if_eq (tgt := 130) hx hb d_C_look_120 (by decide) (fun c_17 => ?_) (fun c_17 => ?_)
      · refine lv_iconst (v := (-1)) hx hb d_C_look_130 (by decide) ?_
        refine W.widen (k := 1) (n := 6) (Nat.zero_le _) (Nat.zero_le _) (vx_ret ?_)
        exact W.iret (v := (-1)) hx hb hr (fun t ht hW => ⟨⟨(-1), σ, rfl, ⟨i, hi, rfl, by decide, (ifP_f (b2i_eq0.mp c_17)).symm, rfl⟩, by rw [ht]; exact hP, va_K.moved hW.alike hK, hD⟩, hS.F ht⟩) hS.2.2 d_C_look_131
      · refine lv_aload_n hx hb d_C_look_123 rfl (lv_at hl 0 rfl) ?_
        refine rl_get (r := 100 + i) (ci := 2) (v := .int (σ 26 i)) (C := R_I) (T := F_I) (N := 10) hx hb hG in_I hown hK hP (RC_ins hi) (gC_ins (by have := hI; unfold Iv at this; omega)) rfl 6 (by decide) kw_299 (fun _ h9 => h9) rfl d_C_look_124 ?_
        refine lv_goto (tgt := 131) hx hb d_C_look_127 (by decide) ?_
        refine W.widen (k := 1) (n := 6) (Nat.zero_le _) (Nat.zero_le _) (vx_ret ?_)
        exact W.iret (v := σ 26 i) hx hb hr (fun t ht hW => ⟨⟨σ 26 i, σ, rfl, ⟨i, hi, rfl, by decide, (ifP_t (Classical.not_not.mp (fun h => c_17 (b2i_eq0.mpr h)))).symm, rfl⟩, by rw [ht]; exact hP, va_K.moved hW.alike hK, hD⟩, hS.F ht⟩) hS.2.2 d_C_look_131
    by_cases e_18 : p1 = 6
    · subst e_18
      refine lv_tableIn (x := 6) (tgt := 132) hx hb d_C_look_31 (by decide) (by decide) rfl (by decide) ?_
      refine lv_aload_n hx hb d_C_look_132 rfl (lv_at hl 0 rfl) ?_
      refine vp_callSi (W.runV (As := []) (rest := []) ⟨hx, hb, hml, hown, hts⟩ (c_I_hasAppointment l D (tys_ cs) (ad (100 + i)) (σ 20 i) (σ 21 i) (σ 22 i) (σ 23 i) (σ 24 i) (σ 25 i) (σ 26 i) (σ 27 i) (σ 28 i) (σ 29 i)) (cwV 0 hts (gw_V kw_573 kw_404 kw_405 kw_12 kw_406) rfl rfl rfl (by decide +kernel) ⟨Nat.le_of_ble_eq_true rfl, Nat.le_of_ble_eq_true rfl⟩) (rd_V (rl_one hP (RC_ins hi) (gC_ins (by have := hI; unfold Iv at this; omega))) hK (rl_recv hK hP (RC_ins hi) (gC_ins (by have := hI; unfold Iv at this; omega)) rfl)) rfl rfl hl.1 rfl (lv_room (Nat.le_of_ble_eq_true rfl)) d_C_look_133 ⟨Nat.zero_le _, Nat.zero_le _⟩) (fun r_19 h_20 => ?_)
      subst h_20
      refine lv_if_eq (tgt := 146) hx hb d_C_look_136 (by decide) (fun c_21 => ?_) (fun c_21 => ?_)
      · refine lv_iconst (v := (-1)) hx hb d_C_look_146 (by decide) ?_
        refine W.widen (k := 1) (n := 6) (Nat.zero_le _) (Nat.zero_le _) (vx_ret ?_)
        exact W.iret (v := (-1)) hx hb hr (fun t ht hW => ⟨⟨(-1), σ, rfl, ⟨i, hi, rfl, by decide, (ifP_f (b2i_eq0.mp c_21)).symm, rfl⟩, by rw [ht]; exact hP, va_K.moved hW.alike hK, hD⟩, hS.F ht⟩) hS.2.2 d_C_look_147
      · refine lv_aload_n hx hb d_C_look_139 rfl (lv_at hl 0 rfl) ?_
        refine rl_get (r := 100 + i) (ci := 2) (v := .int (σ 27 i)) (C := R_I) (T := F_I) (N := 10) hx hb hG in_I hown hK hP (RC_ins hi) (gC_ins (by have := hI; unfold Iv at this; omega)) rfl 7 (by decide) kw_301 (fun _ h9 => h9) rfl d_C_look_140 ?_
        refine lv_goto (tgt := 147) hx hb d_C_look_143 (by decide) ?_
        refine W.widen (k := 1) (n := 6) (Nat.zero_le _) (Nat.zero_le _) (vx_ret ?_)
        exact W.iret (v := σ 27 i) hx hb hr (fun t ht hW => ⟨⟨σ 27 i, σ, rfl, ⟨i, hi, rfl, by decide, (ifP_t (Classical.not_not.mp (fun h => c_21 (b2i_eq0.mpr h)))).symm, rfl⟩, by rw [ht]; exact hP, va_K.moved hW.alike hK, hD⟩, hS.F ht⟩) hS.2.2 d_C_look_147
    by_cases e_22 : p1 = 7
    · subst e_22
      refine lv_tableIn (x := 7) (tgt := 148) hx hb d_C_look_31 (by decide) (by decide) rfl (by decide) ?_
      refine lv_aload_n hx hb d_C_look_148 rfl (lv_at hl 0 rfl) ?_
      refine rl_get (r := 100 + i) (ci := 2) (v := .int (σ 28 i)) (C := R_I) (T := F_I) (N := 10) hx hb hG in_I hown hK hP (RC_ins hi) (gC_ins (by have := hI; unfold Iv at this; omega)) rfl 8 (by decide) kw_303 (fun _ h9 => h9) rfl d_C_look_149 ?_
      refine W.widen (k := 1) (n := 6) (Nat.zero_le _) (Nat.zero_le _) (vx_ret ?_)
      exact W.iret (v := σ 28 i) hx hb hr (fun t ht hW => ⟨⟨σ 28 i, σ, rfl, ⟨i, hi, rfl, by decide, rfl, rfl⟩, by rw [ht]; exact hP, va_K.moved hW.alike hK, hD⟩, hS.F ht⟩) hS.2.2 d_C_look_152
    by_cases e_23 : p1 = 8
    · subst e_23
      refine lv_tableIn (x := 8) (tgt := 153) hx hb d_C_look_31 (by decide) (by decide) rfl (by decide) ?_
      refine lv_aload_n hx hb d_C_look_153 rfl (lv_at hl 0 rfl) ?_
      refine rl_get (r := 100 + i) (ci := 2) (v := .int (σ 29 i)) (C := R_I) (T := F_I) (N := 10) hx hb hG in_I hown hK hP (RC_ins hi) (gC_ins (by have := hI; unfold Iv at this; omega)) rfl 9 (by decide) kw_305 (fun _ h9 => h9) rfl d_C_look_154 ?_
      refine W.widen (k := 1) (n := 6) (Nat.zero_le _) (Nat.zero_le _) (vx_ret ?_)
      exact W.iret (v := σ 29 i) hx hb hr (fun t ht hW => ⟨⟨σ 29 i, σ, rfl, ⟨i, hi, rfl, by decide, rfl, rfl⟩, by rw [ht]; exact hP, va_K.moved hW.alike hK, hD⟩, hS.F ht⟩) hS.2.2 d_C_look_157
    refine lv_tableOut (tgt := 158) hx hb d_C_look_31 (by simp only [i32_eq, i32_lt, i32_le, i32_nm1, i32_n0, i32_n1, i32_n2, i32_n3, i32_n4, i32_n5, i32_n6, i32_n7, i32_n8, i32_n9, i32_n10, i32_n20, i32_n30, i32_n31, i32_n39, i32_n40, i32_n49, i32_n50, i32_n100, i32_n160, i32_n1000, i32_n100000, i32_n1000000] at e_6 e_7 e_8 e_9 e_10 e_14 e_18 e_22 e_23 ⊢; omega) (by decide) ?_
    exact vx_throwS (own := "InspectSteps") (cls := xe_I) (text := "nothing such to look at") (names := xe_up) (ik := 212) (is := 232) (ic := 216) (A := A) hx hb hst hown (by decide) (by decide) (hG _ kw_557) (hG _ kw_19) (hX.2 (232, "nothing such to look at") (by decide)).choose_spec (xa_I hG hX) xa_I3 hZ.1 hZ.2 hS (hl.1.trans hml.symm) d_C_look_158 d_C_look_161 d_C_look_162 d_C_look_164 d_C_look_167 (fun x h => (hnt x h).elim) (Nat.le_of_ble_eq_true rfl) (Nat.le_of_ble_eq_true rfl) (Nat.le_of_ble_eq_true rfl) (Nat.le_of_ble_eq_true rfl) hlocks (fun t ha hz hk => ⟨(), fun h9 => by have h8 := h9.2; ((try simp only [b2i_eq0, Classical.not_not] at e_6 e_7 e_8 e_9 e_10 e_14 e_18 e_22 e_23 h8); simp only [i32_eq, i32_lt, i32_le, i32_nm1, i32_n0, i32_n1, i32_n2, i32_n3, i32_n4, i32_n5, i32_n6, i32_n7, i32_n8, i32_n9, i32_n10, i32_n20, i32_n30, i32_n31, i32_n39, i32_n40, i32_n49, i32_n50, i32_n100, i32_n160, i32_n1000, i32_n100000, i32_n1000000] at e_6 e_7 e_8 e_9 e_10 e_14 e_18 e_22 e_23 h8; omega), ⟨rfl, (thr_T hS hP hK hD ha hz hk).1⟩, (thr_T hS hP hK hD ha hz hk).2⟩) hS.2.2 (Nat.le_of_ble_eq_true rfl) (Nat.le_of_ble_eq_true rfl)
  · exact vx_throwS (own := "InspectSteps") (cls := xe_I) (text := "no such inspection") (names := xe_up) (ik := 212) (is := 214) (ic := 216) (A := A) hx hb hst hown (by decide) (by decide) (hG _ kw_557) (hG _ kw_19) (hX.2 (214, "no such inspection") (by decide)).choose_spec (xa_I hG hX) xa_I3 hZ.1 hZ.2 hS (hl.1.trans hml.symm) d_C_look_8 d_C_look_11 d_C_look_12 d_C_look_14 d_C_look_17 (fun x h => (hnt x h).elim) (Nat.le_of_ble_eq_true rfl) (Nat.le_of_ble_eq_true rfl) (Nat.le_of_ble_eq_true rfl) (Nat.le_of_ble_eq_true rfl) hlocks (fun t ha hz hk => ⟨(), fun ⟨⟨j, hj, e9⟩, _⟩ => (b2i_eq0.mp c_3) (e9 ▸ at_not (by have := hI; unfold Iv at this; omega) hj), ⟨rfl, (thr_T hS hP hK hD ha hz hk).1⟩, (thr_T hS hP hK hD ha hz hk).2⟩) hS.2.2 (Nat.le_of_ble_eq_true rfl) (Nat.le_of_ble_eq_true rfl)
