set_option maxHeartbeats 4000000 in
set_option maxRecDepth 100000 in
theorem c_C_isInspection (l : Launch) (D : va_G) (cs : Nat → ClassId) (ad : Nat → Nat) (σ : Nat → Nat → Int32) (n nm ci cj E : Nat) (hI : Iv n nm ci cj) (p0 : Int32) : Met l y_C_isInspection (Cond.code y_C_isInspection b_C_isInspection 2 (some .boolean) :: GW) ({ frames := 2, cells := 0, slots := 0, locals := 64 }) (va_Pc [.ref (ad 0), .int p0] (rd_B D (tys_ cs) (wC cs ad σ n nm ci cj E))) (vp_Si (fun r => r = b2i (0 ≤ p0 ∧ p0 ≤ nI n - 1))) 0 0 (fun _ => False) := by
  refine Met.ofW (cc := b_C_isInspection) (maxL := 2) (ret := (some .boolean)) (by decide) rfl ?_
  intro p e s m args below meth c s₁ B hml hv
  obtain ⟨rfl, hP, hK⟩ := hv
  have hx := B.exec
  have hb := B.bytes
  have hr := B.returns
  have hts := atoms_spec (ws := Cond.code y_C_isInspection b_C_isInspection 2 (some .boolean) :: GW) B.pre
  have hG : ∀ w ∈ GW, w.before _ s = true := fun w h => hts w (List.mem_cons_of_mem _ h)
  have hown : s.vm.findClass R_C = some m.cls := findClass_of_methodNamed B.named
  have hlocks := B.notSynchronized
  have hl := lv_entry ([.ref (ad 0), .int p0]) (n := 2) (Nat.le_of_ble_eq_true rfl)
  rw [lg_entry_eq]
  generalize (lg_sl ([.ref (ad 0), .int p0]) ++ List.replicate (2 - (lg_sl ([.ref (ad 0), .int p0])).length) Slot.unset).toArray = ls at hl ⊢
  have hl : lv_has ls 2 [(0, .ref (ad 0)), (1, .int p0)] := hl
  refine lv_iload_n hx hb d_C_isInspection_0 rfl (lv_at hl 1 rfl) ?_
  refine lv_iconst (v := 0) hx hb d_C_isInspection_1 (by decide) ?_
  refine lv_aload_n hx hb d_C_isInspection_2 rfl (lv_at hl 0 rfl) ?_
  refine rl_get (r := 0) (ci := 1) (v := .ref (ad 1)) (C := R_C) (T := F_C) (N := 10) hx hb hG in_C hown hK hP (RC_f (by decide)) gC_0 rfl 0 (by decide) kw_59 (fun _ h9 => h9) rfl d_C_isInspection_3 ?_
  refine vp_callSi (W.runV (As := []) (rest := [.int 0, .int p0]) ⟨hx, hb, hml, hown, hts⟩ (c_Al_size l D (tys_ cs) (ad 1) (.ref (if n = 0 then E else ad 3)) (nI n) (σ 7 0)) (cwV 0 hts (gw_V kw_116 kw_117 kw_118 kw_4 kw_119) rfl rfl rfl (by decide +kernel) ⟨Nat.le_of_ble_eq_true rfl, Nat.le_of_ble_eq_true rfl⟩) (rd_V (rl_one hP (RC_f (by decide)) gC_1') hK (rl_recv hK hP (RC_f (by decide)) gC_1' rfl)) rfl rfl hl.1 rfl (lv_room (Nat.le_of_ble_eq_true rfl)) d_C_isInspection_6 ⟨Nat.zero_le _, Nat.zero_le _⟩) (fun r_1 h_2 => ?_)
  subst h_2
  refine lv_iconst (v := 1) hx hb d_C_isInspection_9 (by decide) ?_
  refine lv_isub hx hb d_C_isInspection_10 ?_
  refine vp_callSi (W.runS (As := [.int p0, .int 0, .int ((nI n) - 1)]) (rest := []) ⟨hx, hb, hml, hown, hts⟩ (c_C_isWithin l p0 0 ((nI n) - 1)) (va_cwS 3 hts (gw_S kw_98 kw_99 kw_1 kw_100) rfl rfl rfl (by decide +kernel) ⟨Nat.le_of_ble_eq_true rfl, Nat.le_of_ble_eq_true rfl⟩) ⟨fun _ _ _ _ q => q, fun U _ _ => ⟨rfl, trivial⟩⟩ rfl rfl hl.1 rfl (lv_room (Nat.le_of_ble_eq_true rfl)) d_C_isInspection_11 ⟨Nat.zero_le _, Nat.zero_le _⟩) (fun r_3 h_4 => ?_)
  subst h_4
  exact W.zret (v := b2i (0 ≤ p0 ∧ p0 ≤ ((nI n) - 1))) (ty := .boolean) hx hb hr (b2i_nar _) (fun t ht hW => ⟨b2i (0 ≤ p0 ∧ p0 ≤ ((nI n) - 1)), rfl, rfl, ht⟩) (fun q h => nomatch h) d_C_isInspection_14
set_option maxHeartbeats 4000000 in
set_option maxRecDepth 100000 in
theorem c_C_isTimeToCome (l : Launch) (D : va_G) (cs : Nat → ClassId) (ad : Nat → Nat) (σ : Nat → Nat → Int32) (n nm ci cj E : Nat) (hI : Iv n nm ci cj) (p0 : Int32) : Met l y_C_isTimeToCome (Cond.code y_C_isTimeToCome b_C_isTimeToCome 2 (some .boolean) :: GW) ({ frames := 2, cells := 0, slots := 0, locals := 64 }) (va_Pc [.ref (ad 0), .int p0] (rd_B D (tys_ cs) (wC cs ad σ n nm ci cj E))) (vp_Si (fun r => r = b2i (σ 0 0 ≤ p0 ∧ p0 ≤ 100000))) 0 0 (fun _ => False) := by
  refine Met.ofW (cc := b_C_isTimeToCome) (maxL := 2) (ret := (some .boolean)) (by decide) rfl ?_
  intro p e s m args below meth c s₁ B hml hv
  obtain ⟨rfl, hP, hK⟩ := hv
  have hx := B.exec
  have hb := B.bytes
  have hr := B.returns
  have hts := atoms_spec (ws := Cond.code y_C_isTimeToCome b_C_isTimeToCome 2 (some .boolean) :: GW) B.pre
  have hG : ∀ w ∈ GW, w.before _ s = true := fun w h => hts w (List.mem_cons_of_mem _ h)
  have hown : s.vm.findClass R_C = some m.cls := findClass_of_methodNamed B.named
  have hlocks := B.notSynchronized
  have hl := lv_entry ([.ref (ad 0), .int p0]) (n := 2) (Nat.le_of_ble_eq_true rfl)
  rw [lg_entry_eq]
  generalize (lg_sl ([.ref (ad 0), .int p0]) ++ List.replicate (2 - (lg_sl ([.ref (ad 0), .int p0])).length) Slot.unset).toArray = ls at hl ⊢
  have hl : lv_has ls 2 [(0, .ref (ad 0)), (1, .int p0)] := hl
  refine lv_iload_n hx hb d_C_isTimeToCome_0 rfl (lv_at hl 1 rfl) ?_
  refine lv_aload_n hx hb d_C_isTimeToCome_1 rfl (lv_at hl 0 rfl) ?_
  refine rl_get (r := 0) (ci := 1) (v := .int (σ 0 0)) (C := R_C) (T := F_C) (N := 10) hx hb hG in_C hown hK hP (RC_f (by decide)) gC_0 rfl 9 (by decide) kw_68 (fun _ h9 => h9) rfl d_C_isTimeToCome_2 ?_
  refine lv_ldcw (v := 100000) hx hb hown (hG _ kw_264) d_C_isTimeToCome_5 ?_
  refine vp_callSi (W.runS (As := [.int p0, .int (σ 0 0), .int 100000]) (rest := []) ⟨hx, hb, hml, hown, hts⟩ (c_C_isWithin l p0 (σ 0 0) 100000) (va_cwS 3 hts (gw_S kw_98 kw_99 kw_1 kw_100) rfl rfl rfl (by decide +kernel) ⟨Nat.le_of_ble_eq_true rfl, Nat.le_of_ble_eq_true rfl⟩) ⟨fun _ _ _ _ q => q, fun U _ _ => ⟨rfl, trivial⟩⟩ rfl rfl hl.1 rfl (lv_room (Nat.le_of_ble_eq_true rfl)) d_C_isTimeToCome_8 ⟨Nat.zero_le _, Nat.zero_le _⟩) (fun r_1 h_2 => ?_)
  subst h_2
  exact W.zret (v := b2i ((σ 0 0) ≤ p0 ∧ p0 ≤ 100000)) (ty := .boolean) hx hb hr (b2i_nar _) (fun t ht hW => ⟨b2i ((σ 0 0) ≤ p0 ∧ p0 ≤ 100000), rfl, rfl, ht⟩) (fun q h => nomatch h) d_C_isTimeToCome_11
set_option maxHeartbeats 4000000 in
set_option maxRecDepth 100000 in
theorem c_C_mayDo (l : Launch) (D : va_G) (cs : Nat → ClassId) (ad : Nat → Nat) (σ : Nat → Nat → Int32) (n nm ci cj E : Nat) (hI : Iv n nm ci cj) (p0 p1 : Int32) : Met l y_C_mayDo (Cond.code y_C_mayDo b_C_mayDo 3 (some .boolean) :: GW) ({ frames := 2, cells := 0, slots := 0, locals := 64 }) (va_Pc [.ref (ad 0), .int p0, .int p1] (rd_B D (tys_ cs) (wC cs ad σ n nm ci cj E))) (vp_Si (fun r => r = b2i ((0 ≤ p0 ∧ p0 ≤ 9) ∧ σ 1 p0.toNatClampNeg >>> (p1 &&& 31) &&& 1 = 1))) 0 0 (fun _ => False) := by
  refine Met.ofW (cc := b_C_mayDo) (maxL := 3) (ret := (some .boolean)) (by decide) rfl ?_
  intro p e s m args below meth c s₁ B hml hv
  obtain ⟨rfl, hP, hK⟩ := hv
  have hx := B.exec
  have hb := B.bytes
  have hr := B.returns
  have hts := atoms_spec (ws := Cond.code y_C_mayDo b_C_mayDo 3 (some .boolean) :: GW) B.pre
  have hG : ∀ w ∈ GW, w.before _ s = true := fun w h => hts w (List.mem_cons_of_mem _ h)
  have hown : s.vm.findClass R_C = some m.cls := findClass_of_methodNamed B.named
  have hlocks := B.notSynchronized
  have hl := lv_entry ([.ref (ad 0), .int p0, .int p1]) (n := 3) (Nat.le_of_ble_eq_true rfl)
  rw [lg_entry_eq]
  generalize (lg_sl ([.ref (ad 0), .int p0, .int p1]) ++ List.replicate (3 - (lg_sl ([.ref (ad 0), .int p0, .int p1])).length) Slot.unset).toArray = ls at hl ⊢
  have hl : lv_has ls 3 [(0, .ref (ad 0)), (1, .int p0), (2, .int p1)] := hl
  refine lv_iload_n hx hb d_C_mayDo_0 rfl (lv_at hl 1 rfl) ?_
  refine vp_callSi (W.runS (As := [.int p0]) (rest := []) ⟨hx, hb, hml, hown, hts⟩ (c_C_isPerson l p0) (va_cwS 1 hts (gw_S kw_95 kw_96 kw_1 kw_97) rfl rfl rfl (by decide +kernel) ⟨Nat.le_of_ble_eq_true rfl, Nat.le_of_ble_eq_true rfl⟩) ⟨fun _ _ _ _ q => q, fun U _ _ => ⟨rfl, trivial⟩⟩ rfl rfl hl.1 rfl (lv_room (Nat.le_of_ble_eq_true rfl)) d_C_mayDo_1 ⟨Nat.zero_le _, Nat.zero_le _⟩) (fun r_1 h_2 => ?_)
  subst h_2
  refine lv_if_eq (tgt := 24) hx hb d_C_mayDo_4 (by decide) (fun c_3 => ?_) (fun c_3 => ?_)
  · refine lv_iconst (v := 0) hx hb d_C_mayDo_24 (by decide) ?_
    exact W.zret (v := 0) (ty := .boolean) hx hb hr rfl (fun t ht hW => ⟨0, rfl, (b2i_f (by ((try simp only [b2i_eq0, Classical.not_not] at c_3); simp only [i32_eq, i32_lt, i32_le, i32_nm1, i32_n0, i32_n1, i32_n2, i32_n3, i32_n4, i32_n5, i32_n6, i32_n7, i32_n8, i32_n9, i32_n10, i32_n20, i32_n30, i32_n31, i32_n39, i32_n40, i32_n49, i32_n50, i32_n100, i32_n160, i32_n1000, i32_n100000, i32_n1000000] at c_3 ⊢; omega))).symm, ht⟩) (fun q h => nomatch h) d_C_mayDo_25
  · refine lv_aload_n hx hb d_C_mayDo_7 rfl (lv_at hl 0 rfl) ?_
    refine rl_get (r := 0) (ci := 1) (v := .ref (ad 5)) (C := R_C) (T := F_C) (N := 10) hx hb hG in_C hown hK hP (RC_f (by decide)) gC_0 rfl 2 (by decide) kw_61 (fun _ h9 => h9) rfl d_C_mayDo_8 ?_
    refine lv_iload_n hx hb d_C_mayDo_11 rfl (lv_at hl 1 rfl) ?_
    refine rl_iald (r := 5) (i := p0) hx hb hK hP (RC_f (by decide)) 0 gC_5 rfl (vp_in_iff.mpr (by ((try simp only [b2i_eq0, Classical.not_not] at c_3); simp only [i32_eq, i32_lt, i32_le, i32_nm1, i32_n0, i32_n1, i32_n2, i32_n3, i32_n4, i32_n5, i32_n6, i32_n7, i32_n8, i32_n9, i32_n10, i32_n20, i32_n30, i32_n31, i32_n39, i32_n40, i32_n49, i32_n50, i32_n100, i32_n160, i32_n1000, i32_n100000, i32_n1000000] at c_3 ⊢; omega))) d_C_mayDo_12 ?_
    refine lv_iload_n hx hb d_C_mayDo_13 rfl (lv_at hl 2 rfl) ?_
    refine vp_callSi (W.runS (As := [.int (σ 1 p0.toNatClampNeg), .int p1]) (rest := []) ⟨hx, hb, hml, hown, hts⟩ (c_C_hasBit l (σ 1 p0.toNatClampNeg) p1) (va_cwS 2 hts (gw_S kw_105 kw_106 kw_1 kw_107) rfl rfl rfl (by decide +kernel) ⟨Nat.le_of_ble_eq_true rfl, Nat.le_of_ble_eq_true rfl⟩) ⟨fun _ _ _ _ q => q, fun U _ _ => ⟨rfl, trivial⟩⟩ rfl rfl hl.1 rfl (lv_room (Nat.le_of_ble_eq_true rfl)) d_C_mayDo_14 ⟨Nat.zero_le _, Nat.zero_le _⟩) (fun r_4 h_5 => ?_)
    subst h_5
    refine lv_if_eq (tgt := 24) hx hb d_C_mayDo_17 (by decide) (fun c_6 => ?_) (fun c_6 => ?_)
    · refine lv_iconst (v := 0) hx hb d_C_mayDo_24 (by decide) ?_
      exact W.zret (v := 0) (ty := .boolean) hx hb hr rfl (fun t ht hW => ⟨0, rfl, (b2i_f (by ((try simp only [b2i_eq0, Classical.not_not] at c_3 c_6); simp only [i32_eq, i32_lt, i32_le, i32_nm1, i32_n0, i32_n1, i32_n2, i32_n3, i32_n4, i32_n5, i32_n6, i32_n7, i32_n8, i32_n9, i32_n10, i32_n20, i32_n30, i32_n31, i32_n39, i32_n40, i32_n49, i32_n50, i32_n100, i32_n160, i32_n1000, i32_n100000, i32_n1000000] at c_3 c_6 ⊢; omega))).symm, ht⟩) (fun q h => nomatch h) d_C_mayDo_25
    · refine lv_iconst (v := 1) hx hb d_C_mayDo_20 (by decide) ?_
      refine lv_goto (tgt := 25) hx hb d_C_mayDo_21 (by decide) ?_
      exact W.zret (v := 1) (ty := .boolean) hx hb hr rfl (fun t ht hW => ⟨1, rfl, (b2i_t (by ((try simp only [b2i_eq0, Classical.not_not] at c_3 c_6); simp only [i32_eq, i32_lt, i32_le, i32_nm1, i32_n0, i32_n1, i32_n2, i32_n3, i32_n4, i32_n5, i32_n6, i32_n7, i32_n8, i32_n9, i32_n10, i32_n20, i32_n30, i32_n31, i32_n39, i32_n40, i32_n49, i32_n50, i32_n100, i32_n160, i32_n1000, i32_n100000, i32_n1000000] at c_3 c_6 ⊢; omega))).symm, ht⟩) (fun q h => nomatch h) d_C_mayDo_25
