abbrev wr_B (D : va_G) (cs : Nat → ClassId) (ws : va_W) (sz : Nat) : State → Prop := fun U => U.heap.size = sz ∧ va_P D cls_ ws U.heap ∧ va_K D cls_ (tys_ cs) U ∧ va_D (fun _ => True) ws
abbrev wr_T (D : va_G) (cs : Nat → ClassId) (ws : va_W) (A : Nat → Prop) : State → Prop := fun t => va_P D cls_ ws t.heap ∧ va_K D cls_ (tys_ cs) t ∧ va_D A ws
theorem hn_ {n nm ci cj : Nat} (h : Iv n nm ci cj) : n ≤ 30 := h.1
theorem hm_ {n nm ci cj : Nat} (h : Iv n nm ci cj) : nm ≤ 40 := h.2.1
/-- a place of a list, from what the guard says -/
theorem at_ {p : Int32} {n : Nat} (hn : n < 2 ^ 31) (h : 0 ≤ p ∧ p ≤ nI n - 1) : ∃ i : Nat, i < n ∧ p = nI i := by
  obtain ⟨h0, h1⟩ := h
  have hp : ¬ p < 0 := fun q => by rw [i32_lt, i32_n0] at q; rw [i32_le, i32_n0] at h0; omega
  obtain ⟨j, hj, rfl⟩ := nI_of hp
  refine ⟨j, ?_, rfl⟩
  rcases Nat.eq_zero_or_pos n with rfl | hpos
  · exfalso
    rw [i32_le, nI_toInt hj, show (nI 0 - 1).toInt = -1 by decide] at h1
    omega
  · rw [show nI n - 1 = nI (n - 1) by have := nI_pred (n - 1); rwa [Nat.sub_add_cancel hpos] at this, nI_leI hj (by omega)] at h1
    omega
set_option maxHeartbeats 4000000 in
set_option maxRecDepth 100000 in
theorem c_C_tolerance (l : Launch) (D : va_G) (cs : Nat → ClassId) (ad : Nat → Nat) (σ : Nat → Nat → Int32) (n nm ci cj E : Nat) (hI : Iv n nm ci cj) (sz : Nat) (p0 p1 p2 : Int32) : Met l y_C_tolerance (Cond.code y_C_tolerance b_C_tolerance 4 (some .boolean) :: GW) ({ frames := 3, cells := 0, slots := 0, locals := 96 }) (va_Pc [.ref (ad 0), .int p0, .int p1, .int p2] (wr_B D cs (wC cs ad σ n nm ci cj E) sz)) (va_Qi (fun r (u : Nat → Nat → Int32) => (((0 ≤ p0 ∧ p0 ≤ 3) ∧ (0 ≤ p1 ∧ p1 ≤ 1000) ∧ (0 ≤ p2 ∧ p2 ≤ 1000)) ∧ r = 1 ∧ u = su (su σ 5 p0.toNatClampNeg p1) 6 p0.toNatClampNeg p2) ∨ (¬ ((0 ≤ p0 ∧ p0 ≤ 3) ∧ (0 ≤ p1 ∧ p1 ≤ 1000) ∧ (0 ≤ p2 ∧ p2 ≤ 1000)) ∧ r = 0 ∧ u = σ)) (fun u => wr_T D cs (wC cs ad u n nm ci cj E) (va_A (wC cs ad σ n nm ci cj E) sz)) (va_A (wC cs ad σ n nm ci cj E) sz)) 0 0 (va_A (wC cs ad σ n nm ci cj E) sz) := by
  refine Met.ofW (cc := b_C_tolerance) (maxL := 4) (ret := (some .boolean)) (by decide) rfl ?_
  intro p e s m args below meth c s₁ B hml hv
  obtain ⟨rfl, hsz, hP, hK, hD0⟩ := hv
  have hx := B.exec
  have hb := B.bytes
  have hr := B.returns
  have hts := atoms_spec (ws := Cond.code y_C_tolerance b_C_tolerance 4 (some .boolean) :: GW) B.pre
  have hG : ∀ w ∈ GW, w.before _ s = true := fun w h => hts w (List.mem_cons_of_mem _ h)
  have hown : s.vm.findClass R_C = some m.cls := findClass_of_methodNamed B.named
  have hlocks := B.notSynchronized
  subst hsz
  have hD := hD0.self (sz := s.heap.size)
  generalize hAe : va_A (wC cs ad σ n nm ci cj E) s.heap.size = A at hD ⊢
  have hA : ∀ q : Nat, s.heap.size ≤ q → A q := fun q h => by rw [← hAe]; exact Or.inr h
  have hS : va_S A s.heap s.heap [] := va_S.rf
  have hl := lv_entry ([.ref (ad 0), .int p0, .int p1, .int p2]) (n := 4) (Nat.le_of_ble_eq_true rfl)
  rw [lg_entry_eq]
  generalize (lg_sl ([.ref (ad 0), .int p0, .int p1, .int p2]) ++ List.replicate (4 - (lg_sl ([.ref (ad 0), .int p0, .int p1, .int p2])).length) Slot.unset).toArray = ls at hl ⊢
  have hl : lv_has ls 4 [(0, .ref (ad 0)), (1, .int p0), (2, .int p1), (3, .int p2)] := hl
  refine lv_iload_n hx hb d_C_tolerance_0 rfl (lv_at hl 1 rfl) ?_
  refine vp_callSi (W.runS (As := [.int p0]) (rest := []) ⟨hx, hb, hml, hown, hts⟩ (c_C_isMeasure l p0) (va_cwS 1 hts (gw_S kw_146 kw_147 kw_1 kw_148) rfl rfl rfl (by decide +kernel) ⟨Nat.le_of_ble_eq_true rfl, Nat.le_of_ble_eq_true rfl⟩) ⟨fun _ _ _ _ q => q, fun U _ _ => ⟨rfl, trivial⟩⟩ rfl rfl hl.1 rfl (lv_room (Nat.le_of_ble_eq_true rfl)) d_C_tolerance_1 ⟨Nat.zero_le _, Nat.zero_le _⟩) (fun r_1 h_2 => ?_)
  subst h_2
  refine lv_if_eq (tgt := 29) hx hb d_C_tolerance_4 (by decide) (fun c_3 => ?_) (fun c_3 => ?_)
  · refine lv_iconst (v := 0) hx hb d_C_tolerance_29 (by decide) ?_
    exact W.zret (v := 0) (ty := .boolean) hx hb hr rfl (fun t ht hW => ⟨⟨0, σ, rfl, Or.inr ⟨by ((try simp only [b2i_eq0, Classical.not_not] at c_3); first | (simp only [i32_eq, i32_lt, i32_le, i32_nm1, i32_n0, i32_n1, i32_n2, i32_n3, i32_n4, i32_n5, i32_n6, i32_n7, i32_n8, i32_n9, i32_n10, i32_n20, i32_n30, i32_n31, i32_n39, i32_n40, i32_n49, i32_n50, i32_n100, i32_n160, i32_n1000, i32_n100000, i32_n1000000] at c_3 ⊢; omega) | grind), rfl, rfl⟩, by rw [ht]; exact hP, va_K.moved hW.alike hK, hD⟩, hS.F ht⟩) hS.2.2 d_C_tolerance_30
  · refine lv_iload_n hx hb d_C_tolerance_7 rfl (lv_at hl 2 rfl) ?_
    refine lv_iconst (v := 0) hx hb d_C_tolerance_8 (by decide) ?_
    refine lv_sipush (v := 1000) hx hb d_C_tolerance_9 (by decide) ?_
    refine vp_callSi (W.runS (As := [.int p1, .int 0, .int 1000]) (rest := []) ⟨hx, hb, hml, hown, hts⟩ (c_C_isWithin l p1 0 1000) (va_cwS 3 hts (gw_S kw_98 kw_99 kw_1 kw_100) rfl rfl rfl (by decide +kernel) ⟨Nat.le_of_ble_eq_true rfl, Nat.le_of_ble_eq_true rfl⟩) ⟨fun _ _ _ _ q => q, fun U _ _ => ⟨rfl, trivial⟩⟩ rfl rfl hl.1 rfl (lv_room (Nat.le_of_ble_eq_true rfl)) d_C_tolerance_12 ⟨Nat.zero_le _, Nat.zero_le _⟩) (fun r_4 h_5 => ?_)
    subst h_5
    refine lv_if_eq (tgt := 29) hx hb d_C_tolerance_15 (by decide) (fun c_6 => ?_) (fun c_6 => ?_)
    · refine lv_iconst (v := 0) hx hb d_C_tolerance_29 (by decide) ?_
      exact W.zret (v := 0) (ty := .boolean) hx hb hr rfl (fun t ht hW => ⟨⟨0, σ, rfl, Or.inr ⟨by ((try simp only [b2i_eq0, Classical.not_not] at c_3 c_6); first | (simp only [i32_eq, i32_lt, i32_le, i32_nm1, i32_n0, i32_n1, i32_n2, i32_n3, i32_n4, i32_n5, i32_n6, i32_n7, i32_n8, i32_n9, i32_n10, i32_n20, i32_n30, i32_n31, i32_n39, i32_n40, i32_n49, i32_n50, i32_n100, i32_n160, i32_n1000, i32_n100000, i32_n1000000] at c_3 c_6 ⊢; omega) | grind), rfl, rfl⟩, by rw [ht]; exact hP, va_K.moved hW.alike hK, hD⟩, hS.F ht⟩) hS.2.2 d_C_tolerance_30
    · refine lv_iload_n hx hb d_C_tolerance_18 rfl (lv_at hl 3 rfl) ?_
      refine lv_iconst (v := 0) hx hb d_C_tolerance_19 (by decide) ?_
      refine lv_sipush (v := 1000) hx hb d_C_tolerance_20 (by decide) ?_
      refine vp_callSi (W.runS (As := [.int p2, .int 0, .int 1000]) (rest := []) ⟨hx, hb, hml, hown, hts⟩ (c_C_isWithin l p2 0 1000) (va_cwS 3 hts (gw_S kw_98 kw_99 kw_1 kw_100) rfl rfl rfl (by decide +kernel) ⟨Nat.le_of_ble_eq_true rfl, Nat.le_of_ble_eq_true rfl⟩) ⟨fun _ _ _ _ q => q, fun U _ _ => ⟨rfl, trivial⟩⟩ rfl rfl hl.1 rfl (lv_room (Nat.le_of_ble_eq_true rfl)) d_C_tolerance_23 ⟨Nat.zero_le _, Nat.zero_le _⟩) (fun r_7 h_8 => ?_)
      subst h_8
      refine lv_if_ne (tgt := 31) hx hb d_C_tolerance_26 (by decide) (fun c_9 => ?_) (fun c_9 => ?_)
      · refine lv_aload_n hx hb d_C_tolerance_31 rfl (lv_at hl 0 rfl) ?_
        refine rl_get (r := 0) (ci := 1) (v := .ref (ad 10)) (C := R_C) (T := F_C) (N := 10) hx hb hG in_C hown hK hP (RC_f (by decide)) gC_0 rfl 7 (by decide) kw_66 (fun _ h9 => h9) rfl d_C_tolerance_32 ?_
        refine lv_iload_n hx hb d_C_tolerance_35 rfl (lv_at hl 1 rfl) ?_
        refine lv_iload_n hx hb d_C_tolerance_36 rfl (lv_at hl 2 rfl) ?_
        refine rl_iast (r := 10) (i := p0) (x := p1) hx hb hK hP hD hS (RC_f (by decide)) 0 gC_10 rfl (vp_in_iff.mpr (by ((try simp only [b2i_eq0, Classical.not_not] at c_3 c_6 c_9); simp only [i32_eq, i32_lt, i32_le, i32_nm1, i32_n0, i32_n1, i32_n2, i32_n3, i32_n4, i32_n5, i32_n6, i32_n7, i32_n8, i32_n9, i32_n10, i32_n20, i32_n30, i32_n31, i32_n39, i32_n40, i32_n49, i32_n50, i32_n100, i32_n160, i32_n1000, i32_n100000, i32_n1000000] at c_3 c_6 c_9 ⊢; omega))) d_C_tolerance_37 (fun H locs hP hD hS => ?_)
        rw [wC_arr (k := 5) (hn_ hI) (hm_ hI) (by decide)] at hP hD
        refine lv_aload_n hx hb d_C_tolerance_38 rfl (lv_at hl 0 rfl) ?_
        refine rl_get (r := 0) (ci := 1) (v := .ref (ad 11)) (C := R_C) (T := F_C) (N := 10) hx hb hG in_C hown hK hP (RC_f (by decide)) gC_0 rfl 8 (by decide) kw_67 (fun _ h9 => h9) rfl d_C_tolerance_39 ?_
        refine lv_iload_n hx hb d_C_tolerance_42 rfl (lv_at hl 1 rfl) ?_
        refine lv_iload_n hx hb d_C_tolerance_43 rfl (lv_at hl 3 rfl) ?_
        refine rl_iast (r := 11) (i := p0) (x := p2) hx hb hK hP hD hS (RC_f (by decide)) 0 gC_11 rfl (vp_in_iff.mpr (by ((try simp only [b2i_eq0, Classical.not_not] at c_3 c_6 c_9); simp only [i32_eq, i32_lt, i32_le, i32_nm1, i32_n0, i32_n1, i32_n2, i32_n3, i32_n4, i32_n5, i32_n6, i32_n7, i32_n8, i32_n9, i32_n10, i32_n20, i32_n30, i32_n31, i32_n39, i32_n40, i32_n49, i32_n50, i32_n100, i32_n160, i32_n1000, i32_n100000, i32_n1000000] at c_3 c_6 c_9 ⊢; omega))) d_C_tolerance_44 (fun H locs hP hD hS => ?_)
        rw [wC_arr (k := 6) (hn_ hI) (hm_ hI) (by decide)] at hP hD
        refine lv_iconst (v := 1) hx hb d_C_tolerance_45 (by decide) ?_
        exact W.zret (v := 1) (ty := .boolean) hx hb hr rfl (fun t ht hW => ⟨⟨1, su (su σ 5 p0.toNatClampNeg p1) 6 p0.toNatClampNeg p2, rfl, Or.inl ⟨by ((try simp only [b2i_eq0, Classical.not_not] at c_3 c_6 c_9); first | (simp only [i32_eq, i32_lt, i32_le, i32_nm1, i32_n0, i32_n1, i32_n2, i32_n3, i32_n4, i32_n5, i32_n6, i32_n7, i32_n8, i32_n9, i32_n10, i32_n20, i32_n30, i32_n31, i32_n39, i32_n40, i32_n49, i32_n50, i32_n100, i32_n160, i32_n1000, i32_n100000, i32_n1000000] at c_3 c_6 c_9 ⊢; omega) | grind), rfl, rfl⟩, by rw [ht]; exact hP, va_K.moved hW.alike hK, hD⟩, hS.F ht⟩) hS.2.2 d_C_tolerance_46
      · refine lv_iconst (v := 0) hx hb d_C_tolerance_29 (by decide) ?_
        exact W.zret (v := 0) (ty := .boolean) hx hb hr rfl (fun t ht hW => ⟨⟨0, σ, rfl, Or.inr ⟨by ((try simp only [b2i_eq0, Classical.not_not] at c_3 c_6 c_9); first | (simp only [i32_eq, i32_lt, i32_le, i32_nm1, i32_n0, i32_n1, i32_n2, i32_n3, i32_n4, i32_n5, i32_n6, i32_n7, i32_n8, i32_n9, i32_n10, i32_n20, i32_n30, i32_n31, i32_n39, i32_n40, i32_n49, i32_n50, i32_n100, i32_n160, i32_n1000, i32_n100000, i32_n1000000] at c_3 c_6 c_9 ⊢; omega) | grind), rfl, rfl⟩, by rw [ht]; exact hP, va_K.moved hW.alike hK, hD⟩, hS.F ht⟩) hS.2.2 d_C_tolerance_30
set_option maxHeartbeats 4000000 in
set_option maxRecDepth 100000 in
theorem c_C_right (l : Launch) (D : va_G) (cs : Nat → ClassId) (ad : Nat → Nat) (σ : Nat → Nat → Int32) (n nm ci cj E : Nat) (hI : Iv n nm ci cj) (sz : Nat) (p0 p1 p2 : Int32) : Met l y_C_right (Cond.code y_C_right b_C_right 4 (some .boolean) :: GW) ({ frames := 3, cells := 0, slots := 0, locals := 96 }) (va_Pc [.ref (ad 0), .int p0, .int p1, .int p2] (wr_B D cs (wC cs ad σ n nm ci cj E) sz)) (va_Qi (fun r (u : Nat → Nat → Int32) => (((0 ≤ p0 ∧ p0 ≤ 9) ∧ (0 ≤ p1 ∧ p1 ≤ 5) ∧ ¬ b2i ((0 ≤ p0 ∧ p0 ≤ 9) ∧ σ 1 p0.toNatClampNeg >>> (p1 &&& 31) &&& 1 = 1) = p2) ∧ r = 1 ∧ u = su σ 1 p0.toNatClampNeg (σ 1 p0.toNatClampNeg ^^^ 1 <<< (p1 &&& 31))) ∨ (¬ ((0 ≤ p0 ∧ p0 ≤ 9) ∧ (0 ≤ p1 ∧ p1 ≤ 5) ∧ ¬ b2i ((0 ≤ p0 ∧ p0 ≤ 9) ∧ σ 1 p0.toNatClampNeg >>> (p1 &&& 31) &&& 1 = 1) = p2) ∧ r = 0 ∧ u = σ)) (fun u => wr_T D cs (wC cs ad u n nm ci cj E) (va_A (wC cs ad σ n nm ci cj E) sz)) (va_A (wC cs ad σ n nm ci cj E) sz)) 0 0 (va_A (wC cs ad σ n nm ci cj E) sz) := by
  refine Met.ofW (cc := b_C_right) (maxL := 4) (ret := (some .boolean)) (by decide) rfl ?_
  intro p e s m args below meth c s₁ B hml hv
  obtain ⟨rfl, hsz, hP, hK, hD0⟩ := hv
  have hx := B.exec
  have hb := B.bytes
  have hr := B.returns
  have hts := atoms_spec (ws := Cond.code y_C_right b_C_right 4 (some .boolean) :: GW) B.pre
  have hG : ∀ w ∈ GW, w.before _ s = true := fun w h => hts w (List.mem_cons_of_mem _ h)
  have hown : s.vm.findClass R_C = some m.cls := findClass_of_methodNamed B.named
  have hlocks := B.notSynchronized
  subst hsz
  have hD := hD0.self (sz := s.heap.size)
  generalize hAe : va_A (wC cs ad σ n nm ci cj E) s.heap.size = A at hD ⊢
  have hA : ∀ q : Nat, s.heap.size ≤ q → A q := fun q h => by rw [← hAe]; exact Or.inr h
  have hS : va_S A s.heap s.heap [] := va_S.rf
  have hl := lv_entry ([.ref (ad 0), .int p0, .int p1, .int p2]) (n := 4) (Nat.le_of_ble_eq_true rfl)
  rw [lg_entry_eq]
  generalize (lg_sl ([.ref (ad 0), .int p0, .int p1, .int p2]) ++ List.replicate (4 - (lg_sl ([.ref (ad 0), .int p0, .int p1, .int p2])).length) Slot.unset).toArray = ls at hl ⊢
  have hl : lv_has ls 4 [(0, .ref (ad 0)), (1, .int p0), (2, .int p1), (3, .int p2)] := hl
  refine lv_iload_n hx hb d_C_right_0 rfl (lv_at hl 1 rfl) ?_
  refine vp_callSi (W.runS (As := [.int p0]) (rest := []) ⟨hx, hb, hml, hown, hts⟩ (c_C_isPerson l p0) (va_cwS 1 hts (gw_S kw_95 kw_96 kw_1 kw_97) rfl rfl rfl (by decide +kernel) ⟨Nat.le_of_ble_eq_true rfl, Nat.le_of_ble_eq_true rfl⟩) ⟨fun _ _ _ _ q => q, fun U _ _ => ⟨rfl, trivial⟩⟩ rfl rfl hl.1 rfl (lv_room (Nat.le_of_ble_eq_true rfl)) d_C_right_1 ⟨Nat.zero_le _, Nat.zero_le _⟩) (fun r_1 h_2 => ?_)
  subst h_2
  refine lv_if_eq (tgt := 26) hx hb d_C_right_4 (by decide) (fun c_3 => ?_) (fun c_3 => ?_)
  · refine lv_iconst (v := 0) hx hb d_C_right_26 (by decide) ?_
    exact W.zret (v := 0) (ty := .boolean) hx hb hr rfl (fun t ht hW => ⟨⟨0, σ, rfl, Or.inr ⟨by ((try simp only [b2i_eq0, Classical.not_not] at c_3); first | (simp only [i32_eq, i32_lt, i32_le, i32_nm1, i32_n0, i32_n1, i32_n2, i32_n3, i32_n4, i32_n5, i32_n6, i32_n7, i32_n8, i32_n9, i32_n10, i32_n20, i32_n30, i32_n31, i32_n39, i32_n40, i32_n49, i32_n50, i32_n100, i32_n160, i32_n1000, i32_n100000, i32_n1000000] at c_3 ⊢; omega) | grind), rfl, rfl⟩, by rw [ht]; exact hP, va_K.moved hW.alike hK, hD⟩, hS.F ht⟩) hS.2.2 d_C_right_27
  · refine lv_iload_n hx hb d_C_right_7 rfl (lv_at hl 2 rfl) ?_
    refine lv_iconst (v := 0) hx hb d_C_right_8 (by decide) ?_
    refine lv_iconst (v := 5) hx hb d_C_right_9 (by decide) ?_
    refine vp_callSi (W.runS (As := [.int p1, .int 0, .int 5]) (rest := []) ⟨hx, hb, hml, hown, hts⟩ (c_C_isWithin l p1 0 5) (va_cwS 3 hts (gw_S kw_98 kw_99 kw_1 kw_100) rfl rfl rfl (by decide +kernel) ⟨Nat.le_of_ble_eq_true rfl, Nat.le_of_ble_eq_true rfl⟩) ⟨fun _ _ _ _ q => q, fun U _ _ => ⟨rfl, trivial⟩⟩ rfl rfl hl.1 rfl (lv_room (Nat.le_of_ble_eq_true rfl)) d_C_right_10 ⟨Nat.zero_le _, Nat.zero_le _⟩) (fun r_4 h_5 => ?_)
    subst h_5
    refine lv_if_eq (tgt := 26) hx hb d_C_right_13 (by decide) (fun c_6 => ?_) (fun c_6 => ?_)
    · refine lv_iconst (v := 0) hx hb d_C_right_26 (by decide) ?_
      exact W.zret (v := 0) (ty := .boolean) hx hb hr rfl (fun t ht hW => ⟨⟨0, σ, rfl, Or.inr ⟨by ((try simp only [b2i_eq0, Classical.not_not] at c_3 c_6); first | (simp only [i32_eq, i32_lt, i32_le, i32_nm1, i32_n0, i32_n1, i32_n2, i32_n3, i32_n4, i32_n5, i32_n6, i32_n7, i32_n8, i32_n9, i32_n10, i32_n20, i32_n30, i32_n31, i32_n39, i32_n40, i32_n49, i32_n50, i32_n100, i32_n160, i32_n1000, i32_n100000, i32_n1000000] at c_3 c_6 ⊢; omega) | grind), rfl, rfl⟩, by rw [ht]; exact hP, va_K.moved hW.alike hK, hD⟩, hS.F ht⟩) hS.2.2 d_C_right_27
    · refine lv_aload_n hx hb d_C_right_16 rfl (lv_at hl 0 rfl) ?_
      refine lv_iload_n hx hb d_C_right_17 rfl (lv_at hl 1 rfl) ?_
      refine lv_iload_n hx hb d_C_right_18 rfl (lv_at hl 2 rfl) ?_
      refine vp_callSi (W.runV (As := [.int p0, .int p1]) (rest := []) ⟨hx, hb, hml, hown, hts⟩ (c_C_mayDo l D cs ad σ n nm ci cj E hI p0 p1) (cwV 2 hts (gw_V kw_101 kw_103 ks_0_0 kw_1 kw_104) rfl rfl rfl (by decide +kernel) ⟨Nat.le_of_ble_eq_true rfl, Nat.le_of_ble_eq_true rfl⟩) (rd_V hP hK (rl_recv hK hP (RC_f (by decide)) gC_0 rfl)) rfl rfl hl.1 rfl (lv_room (Nat.le_of_ble_eq_true rfl)) d_C_right_19 ⟨Nat.zero_le _, Nat.zero_le _⟩) (fun r_7 h_8 => ?_)
      subst h_8
      refine lv_iload_n hx hb d_C_right_22 rfl (lv_at hl 3 rfl) ?_
      refine lv_icmp_ne (tgt := 28) hx hb d_C_right_23 (by decide) (fun c_9 => ?_) (fun c_9 => ?_)
      · refine lv_aload_n hx hb d_C_right_28 rfl (lv_at hl 0 rfl) ?_
        refine rl_get (r := 0) (ci := 1) (v := .ref (ad 5)) (C := R_C) (T := F_C) (N := 10) hx hb hG in_C hown hK hP (RC_f (by decide)) gC_0 rfl 2 (by decide) kw_61 (fun _ h9 => h9) rfl d_C_right_29 ?_
        refine lv_iload_n hx hb d_C_right_32 rfl (lv_at hl 1 rfl) ?_
        refine lv_dup2_11 hx hb d_C_right_33 rfl rfl ?_
        refine rl_iald (r := 5) (i := p0) hx hb hK hP (RC_f (by decide)) 0 gC_5 rfl (vp_in_iff.mpr (by ((try simp only [b2i_eq0, Classical.not_not] at c_3 c_6 c_9); simp only [i32_eq, i32_lt, i32_le, i32_nm1, i32_n0, i32_n1, i32_n2, i32_n3, i32_n4, i32_n5, i32_n6, i32_n7, i32_n8, i32_n9, i32_n10, i32_n20, i32_n30, i32_n31, i32_n39, i32_n40, i32_n49, i32_n50, i32_n100, i32_n160, i32_n1000, i32_n100000, i32_n1000000] at c_3 c_6 c_9 ⊢; omega))) d_C_right_34 ?_
        refine lv_iconst (v := 1) hx hb d_C_right_35 (by decide) ?_
        refine lv_iload_n hx hb d_C_right_36 rfl (lv_at hl 2 rfl) ?_
        refine lv_ishl hx hb d_C_right_37 ?_
        refine lv_ixor hx hb d_C_right_38 ?_
        refine rl_iast (r := 5) (i := p0) (x := (σ 1 p0.toNatClampNeg) ^^^ (1 <<< (p1 &&& 31))) hx hb hK hP hD hS (RC_f (by decide)) 0 gC_5 rfl (vp_in_iff.mpr (by ((try simp only [b2i_eq0, Classical.not_not] at c_3 c_6 c_9); simp only [i32_eq, i32_lt, i32_le, i32_nm1, i32_n0, i32_n1, i32_n2, i32_n3, i32_n4, i32_n5, i32_n6, i32_n7, i32_n8, i32_n9, i32_n10, i32_n20, i32_n30, i32_n31, i32_n39, i32_n40, i32_n49, i32_n50, i32_n100, i32_n160, i32_n1000, i32_n100000, i32_n1000000] at c_3 c_6 c_9 ⊢; omega))) d_C_right_39 (fun H locs hP hD hS => ?_)
        rw [wC_arr (k := 1) (hn_ hI) (hm_ hI) (by decide)] at hP hD
        refine lv_iconst (v := 1) hx hb d_C_right_40 (by decide) ?_
        exact W.zret (v := 1) (ty := .boolean) hx hb hr rfl (fun t ht hW => ⟨⟨1, su σ 1 p0.toNatClampNeg ((σ 1 p0.toNatClampNeg) ^^^ (1 <<< (p1 &&& 31))), rfl, Or.inl ⟨by ((try simp only [b2i_eq0, Classical.not_not] at c_3 c_6 c_9); first | (simp only [i32_eq, i32_lt, i32_le, i32_nm1, i32_n0, i32_n1, i32_n2, i32_n3, i32_n4, i32_n5, i32_n6, i32_n7, i32_n8, i32_n9, i32_n10, i32_n20, i32_n30, i32_n31, i32_n39, i32_n40, i32_n49, i32_n50, i32_n100, i32_n160, i32_n1000, i32_n100000, i32_n1000000] at c_3 c_6 c_9 ⊢; omega) | grind), rfl, rfl⟩, by rw [ht]; exact hP, va_K.moved hW.alike hK, hD⟩, hS.F ht⟩) hS.2.2 d_C_right_41
      · refine lv_iconst (v := 0) hx hb d_C_right_26 (by decide) ?_
        exact W.zret (v := 0) (ty := .boolean) hx hb hr rfl (fun t ht hW => ⟨⟨0, σ, rfl, Or.inr ⟨by ((try simp only [b2i_eq0, Classical.not_not] at c_3 c_6 c_9); first | (simp only [i32_eq, i32_lt, i32_le, i32_nm1, i32_n0, i32_n1, i32_n2, i32_n3, i32_n4, i32_n5, i32_n6, i32_n7, i32_n8, i32_n9, i32_n10, i32_n20, i32_n30, i32_n31, i32_n39, i32_n40, i32_n49, i32_n50, i32_n100, i32_n160, i32_n1000, i32_n100000, i32_n1000000] at c_3 c_6 c_9 ⊢; omega) | grind), rfl, rfl⟩, by rw [ht]; exact hP, va_K.moved hW.alike hK, hD⟩, hS.F ht⟩) hS.2.2 d_C_right_27
set_option maxHeartbeats 4000000 in
set_option maxRecDepth 100000 in
theorem c_C_hold (l : Launch) (D : va_G) (cs : Nat → ClassId) (ad : Nat → Nat) (σ : Nat → Nat → Int32) (n nm ci cj E : Nat) (hI : Iv n nm ci cj) (sz : Nat) (p0 p1 p2 : Int32) : Met l y_C_hold (Cond.code y_C_hold b_C_hold 4 (some .boolean) :: GW) ({ frames := 3, cells := 0, slots := 0, locals := 96 }) (va_Pc [.ref (ad 0), .int p0, .int p1, .int p2] (wr_B D cs (wC cs ad σ n nm ci cj E) sz)) (va_Qi (fun r (u : Nat → Nat → Int32) => (((0 ≤ p0 ∧ p0 ≤ 9) ∧ (0 ≤ p1 ∧ p1 ≤ 7) ∧ ¬ b2i (σ 3 p0.toNatClampNeg >>> (p1 &&& 31) &&& 1 = 1) = p2) ∧ r = 1 ∧ u = su σ 3 p0.toNatClampNeg (σ 3 p0.toNatClampNeg ^^^ 1 <<< (p1 &&& 31))) ∨ (¬ ((0 ≤ p0 ∧ p0 ≤ 9) ∧ (0 ≤ p1 ∧ p1 ≤ 7) ∧ ¬ b2i (σ 3 p0.toNatClampNeg >>> (p1 &&& 31) &&& 1 = 1) = p2) ∧ r = 0 ∧ u = σ)) (fun u => wr_T D cs (wC cs ad u n nm ci cj E) (va_A (wC cs ad σ n nm ci cj E) sz)) (va_A (wC cs ad σ n nm ci cj E) sz)) 0 0 (va_A (wC cs ad σ n nm ci cj E) sz) := by
  refine Met.ofW (cc := b_C_hold) (maxL := 4) (ret := (some .boolean)) (by decide) rfl ?_
  intro p e s m args below meth c s₁ B hml hv
  obtain ⟨rfl, hsz, hP, hK, hD0⟩ := hv
  have hx := B.exec
  have hb := B.bytes
  have hr := B.returns
  have hts := atoms_spec (ws := Cond.code y_C_hold b_C_hold 4 (some .boolean) :: GW) B.pre
  have hG : ∀ w ∈ GW, w.before _ s = true := fun w h => hts w (List.mem_cons_of_mem _ h)
  have hown : s.vm.findClass R_C = some m.cls := findClass_of_methodNamed B.named
  have hlocks := B.notSynchronized
  subst hsz
  have hD := hD0.self (sz := s.heap.size)
  generalize hAe : va_A (wC cs ad σ n nm ci cj E) s.heap.size = A at hD ⊢
  have hA : ∀ q : Nat, s.heap.size ≤ q → A q := fun q h => by rw [← hAe]; exact Or.inr h
  have hS : va_S A s.heap s.heap [] := va_S.rf
  have hl := lv_entry ([.ref (ad 0), .int p0, .int p1, .int p2]) (n := 4) (Nat.le_of_ble_eq_true rfl)
  rw [lg_entry_eq]
  generalize (lg_sl ([.ref (ad 0), .int p0, .int p1, .int p2]) ++ List.replicate (4 - (lg_sl ([.ref (ad 0), .int p0, .int p1, .int p2])).length) Slot.unset).toArray = ls at hl ⊢
  have hl : lv_has ls 4 [(0, .ref (ad 0)), (1, .int p0), (2, .int p1), (3, .int p2)] := hl
  refine lv_iload_n hx hb d_C_hold_0 rfl (lv_at hl 1 rfl) ?_
  refine vp_callSi (W.runS (As := [.int p0]) (rest := []) ⟨hx, hb, hml, hown, hts⟩ (c_C_isDeclaration l p0) (va_cwS 1 hts (gw_S kw_143 kw_144 kw_1 kw_145) rfl rfl rfl (by decide +kernel) ⟨Nat.le_of_ble_eq_true rfl, Nat.le_of_ble_eq_true rfl⟩) ⟨fun _ _ _ _ q => q, fun U _ _ => ⟨rfl, trivial⟩⟩ rfl rfl hl.1 rfl (lv_room (Nat.le_of_ble_eq_true rfl)) d_C_hold_1 ⟨Nat.zero_le _, Nat.zero_le _⟩) (fun r_1 h_2 => ?_)
  subst h_2
  refine lv_if_eq (tgt := 31) hx hb d_C_hold_4 (by decide) (fun c_3 => ?_) (fun c_3 => ?_)
  · refine lv_iconst (v := 0) hx hb d_C_hold_31 (by decide) ?_
    exact W.zret (v := 0) (ty := .boolean) hx hb hr rfl (fun t ht hW => ⟨⟨0, σ, rfl, Or.inr ⟨by ((try simp only [b2i_eq0, Classical.not_not] at c_3); first | (simp only [i32_eq, i32_lt, i32_le, i32_nm1, i32_n0, i32_n1, i32_n2, i32_n3, i32_n4, i32_n5, i32_n6, i32_n7, i32_n8, i32_n9, i32_n10, i32_n20, i32_n30, i32_n31, i32_n39, i32_n40, i32_n49, i32_n50, i32_n100, i32_n160, i32_n1000, i32_n100000, i32_n1000000] at c_3 ⊢; omega) | grind), rfl, rfl⟩, by rw [ht]; exact hP, va_K.moved hW.alike hK, hD⟩, hS.F ht⟩) hS.2.2 d_C_hold_32
  · refine lv_iload_n hx hb d_C_hold_7 rfl (lv_at hl 2 rfl) ?_
    refine lv_iconst (v := 0) hx hb d_C_hold_8 (by decide) ?_
    refine lv_bipush (v := 7) hx hb d_C_hold_9 (by decide) ?_
    refine vp_callSi (W.runS (As := [.int p1, .int 0, .int 7]) (rest := []) ⟨hx, hb, hml, hown, hts⟩ (c_C_isWithin l p1 0 7) (va_cwS 3 hts (gw_S kw_98 kw_99 kw_1 kw_100) rfl rfl rfl (by decide +kernel) ⟨Nat.le_of_ble_eq_true rfl, Nat.le_of_ble_eq_true rfl⟩) ⟨fun _ _ _ _ q => q, fun U _ _ => ⟨rfl, trivial⟩⟩ rfl rfl hl.1 rfl (lv_room (Nat.le_of_ble_eq_true rfl)) d_C_hold_11 ⟨Nat.zero_le _, Nat.zero_le _⟩) (fun r_4 h_5 => ?_)
    subst h_5
    refine lv_if_eq (tgt := 31) hx hb d_C_hold_14 (by decide) (fun c_6 => ?_) (fun c_6 => ?_)
    · refine lv_iconst (v := 0) hx hb d_C_hold_31 (by decide) ?_
      exact W.zret (v := 0) (ty := .boolean) hx hb hr rfl (fun t ht hW => ⟨⟨0, σ, rfl, Or.inr ⟨by ((try simp only [b2i_eq0, Classical.not_not] at c_3 c_6); first | (simp only [i32_eq, i32_lt, i32_le, i32_nm1, i32_n0, i32_n1, i32_n2, i32_n3, i32_n4, i32_n5, i32_n6, i32_n7, i32_n8, i32_n9, i32_n10, i32_n20, i32_n30, i32_n31, i32_n39, i32_n40, i32_n49, i32_n50, i32_n100, i32_n160, i32_n1000, i32_n100000, i32_n1000000] at c_3 c_6 ⊢; omega) | grind), rfl, rfl⟩, by rw [ht]; exact hP, va_K.moved hW.alike hK, hD⟩, hS.F ht⟩) hS.2.2 d_C_hold_32
    · refine lv_aload_n hx hb d_C_hold_17 rfl (lv_at hl 0 rfl) ?_
      refine rl_get (r := 0) (ci := 1) (v := .ref (ad 7)) (C := R_C) (T := F_C) (N := 10) hx hb hG in_C hown hK hP (RC_f (by decide)) gC_0 rfl 4 (by decide) kw_63 (fun _ h9 => h9) rfl d_C_hold_18 ?_
      refine lv_iload_n hx hb d_C_hold_21 rfl (lv_at hl 1 rfl) ?_
      refine rl_iald (r := 7) (i := p0) hx hb hK hP (RC_f (by decide)) 0 gC_7 rfl (vp_in_iff.mpr (by ((try simp only [b2i_eq0, Classical.not_not] at c_3 c_6); simp only [i32_eq, i32_lt, i32_le, i32_nm1, i32_n0, i32_n1, i32_n2, i32_n3, i32_n4, i32_n5, i32_n6, i32_n7, i32_n8, i32_n9, i32_n10, i32_n20, i32_n30, i32_n31, i32_n39, i32_n40, i32_n49, i32_n50, i32_n100, i32_n160, i32_n1000, i32_n100000, i32_n1000000] at c_3 c_6 ⊢; omega))) d_C_hold_22 ?_
      refine lv_iload_n hx hb d_C_hold_23 rfl (lv_at hl 2 rfl) ?_
      refine vp_callSi (W.runS (As := [.int (σ 3 p0.toNatClampNeg), .int p1]) (rest := []) ⟨hx, hb, hml, hown, hts⟩ (c_C_hasBit l (σ 3 p0.toNatClampNeg) p1) (va_cwS 2 hts (gw_S kw_105 kw_106 kw_1 kw_107) rfl rfl rfl (by decide +kernel) ⟨Nat.le_of_ble_eq_true rfl, Nat.le_of_ble_eq_true rfl⟩) ⟨fun _ _ _ _ q => q, fun U _ _ => ⟨rfl, trivial⟩⟩ rfl rfl hl.1 rfl (lv_room (Nat.le_of_ble_eq_true rfl)) d_C_hold_24 ⟨Nat.zero_le _, Nat.zero_le _⟩) (fun r_7 h_8 => ?_)
      subst h_8
      refine lv_iload_n hx hb d_C_hold_27 rfl (lv_at hl 3 rfl) ?_
      refine lv_icmp_ne (tgt := 33) hx hb d_C_hold_28 (by decide) (fun c_9 => ?_) (fun c_9 => ?_)
      · refine lv_aload_n hx hb d_C_hold_33 rfl (lv_at hl 0 rfl) ?_
        refine rl_get (r := 0) (ci := 1) (v := .ref (ad 7)) (C := R_C) (T := F_C) (N := 10) hx hb hG in_C hown hK hP (RC_f (by decide)) gC_0 rfl 4 (by decide) kw_63 (fun _ h9 => h9) rfl d_C_hold_34 ?_
        refine lv_iload_n hx hb d_C_hold_37 rfl (lv_at hl 1 rfl) ?_
        refine lv_dup2_11 hx hb d_C_hold_38 rfl rfl ?_
        refine rl_iald (r := 7) (i := p0) hx hb hK hP (RC_f (by decide)) 0 gC_7 rfl (vp_in_iff.mpr (by ((try simp only [b2i_eq0, Classical.not_not] at c_3 c_6 c_9); simp only [i32_eq, i32_lt, i32_le, i32_nm1, i32_n0, i32_n1, i32_n2, i32_n3, i32_n4, i32_n5, i32_n6, i32_n7, i32_n8, i32_n9, i32_n10, i32_n20, i32_n30, i32_n31, i32_n39, i32_n40, i32_n49, i32_n50, i32_n100, i32_n160, i32_n1000, i32_n100000, i32_n1000000] at c_3 c_6 c_9 ⊢; omega))) d_C_hold_39 ?_
        refine lv_iconst (v := 1) hx hb d_C_hold_40 (by decide) ?_
        refine lv_iload_n hx hb d_C_hold_41 rfl (lv_at hl 2 rfl) ?_
        refine lv_ishl hx hb d_C_hold_42 ?_
        refine lv_ixor hx hb d_C_hold_43 ?_
        refine rl_iast (r := 7) (i := p0) (x := (σ 3 p0.toNatClampNeg) ^^^ (1 <<< (p1 &&& 31))) hx hb hK hP hD hS (RC_f (by decide)) 0 gC_7 rfl (vp_in_iff.mpr (by ((try simp only [b2i_eq0, Classical.not_not] at c_3 c_6 c_9); simp only [i32_eq, i32_lt, i32_le, i32_nm1, i32_n0, i32_n1, i32_n2, i32_n3, i32_n4, i32_n5, i32_n6, i32_n7, i32_n8, i32_n9, i32_n10, i32_n20, i32_n30, i32_n31, i32_n39, i32_n40, i32_n49, i32_n50, i32_n100, i32_n160, i32_n1000, i32_n100000, i32_n1000000] at c_3 c_6 c_9 ⊢; omega))) d_C_hold_44 (fun H locs hP hD hS => ?_)
        rw [wC_arr (k := 3) (hn_ hI) (hm_ hI) (by decide)] at hP hD
        refine lv_iconst (v := 1) hx hb d_C_hold_45 (by decide) ?_
        exact W.zret (v := 1) (ty := .boolean) hx hb hr rfl (fun t ht hW => ⟨⟨1, su σ 3 p0.toNatClampNeg ((σ 3 p0.toNatClampNeg) ^^^ (1 <<< (p1 &&& 31))), rfl, Or.inl ⟨by ((try simp only [b2i_eq0, Classical.not_not] at c_3 c_6 c_9); first | (simp only [i32_eq, i32_lt, i32_le, i32_nm1, i32_n0, i32_n1, i32_n2, i32_n3, i32_n4, i32_n5, i32_n6, i32_n7, i32_n8, i32_n9, i32_n10, i32_n20, i32_n30, i32_n31, i32_n39, i32_n40, i32_n49, i32_n50, i32_n100, i32_n160, i32_n1000, i32_n100000, i32_n1000000] at c_3 c_6 c_9 ⊢; omega) | grind), rfl, rfl⟩, by rw [ht]; exact hP, va_K.moved hW.alike hK, hD⟩, hS.F ht⟩) hS.2.2 d_C_hold_46
      · refine lv_iconst (v := 0) hx hb d_C_hold_31 (by decide) ?_
        exact W.zret (v := 0) (ty := .boolean) hx hb hr rfl (fun t ht hW => ⟨⟨0, σ, rfl, Or.inr ⟨by ((try simp only [b2i_eq0, Classical.not_not] at c_3 c_6 c_9); first | (simp only [i32_eq, i32_lt, i32_le, i32_nm1, i32_n0, i32_n1, i32_n2, i32_n3, i32_n4, i32_n5, i32_n6, i32_n7, i32_n8, i32_n9, i32_n10, i32_n20, i32_n30, i32_n31, i32_n39, i32_n40, i32_n49, i32_n50, i32_n100, i32_n160, i32_n1000, i32_n100000, i32_n1000000] at c_3 c_6 c_9 ⊢; omega) | grind), rfl, rfl⟩, by rw [ht]; exact hP, va_K.moved hW.alike hK, hD⟩, hS.F ht⟩) hS.2.2 d_C_hold_32
