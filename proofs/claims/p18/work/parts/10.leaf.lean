set_option maxHeartbeats 4000000 in
set_option maxRecDepth 100000 in
theorem c_C_isWithin (l : Launch) (p0 p1 p2 : Int32) : Met l y_C_isWithin (Cond.code y_C_isWithin b_C_isWithin 3 (some .boolean) :: GW) ({ frames := 0, cells := 0, slots := 0, locals := 0 }) (va_Pc [.int p0, .int p1, .int p2] (fun _ => True)) (vp_Si (fun r => r = b2i (p1 ≤ p0 ∧ p0 ≤ p2))) 0 0 (fun _ => False) := by
  refine Met.ofW (cc := b_C_isWithin) (maxL := 3) (ret := (some .boolean)) (by decide) rfl ?_
  intro p e s m args below meth c s₁ B hml hv
  obtain ⟨rfl, -⟩ := hv
  have hx := B.exec
  have hb := B.bytes
  have hr := B.returns
  have hts := atoms_spec (ws := Cond.code y_C_isWithin b_C_isWithin 3 (some .boolean) :: GW) B.pre
  have hG : ∀ w ∈ GW, w.before _ s = true := fun w h => hts w (List.mem_cons_of_mem _ h)
  have hown : s.vm.findClass R_C = some m.cls := findClass_of_methodNamed B.named
  have hlocks := B.notSynchronized
  have hl := lv_entry ([.int p0, .int p1, .int p2]) (n := 3) (Nat.le_of_ble_eq_true rfl)
  rw [lg_entry_eq]
  generalize (lg_sl ([.int p0, .int p1, .int p2]) ++ List.replicate (3 - (lg_sl ([.int p0, .int p1, .int p2])).length) Slot.unset).toArray = ls at hl ⊢
  have hl : lv_has ls 3 [(0, .int p0), (1, .int p1), (2, .int p2)] := hl
  refine lv_iload_n hx hb d_C_isWithin_0 rfl (lv_at hl 1 rfl) ?_
  refine lv_iload_n hx hb d_C_isWithin_1 rfl (lv_at hl 0 rfl) ?_
  refine lv_icmp_gt (tgt := 14) hx hb d_C_isWithin_2 (by decide) (fun c_1 => ?_) (fun c_1 => ?_)
  · refine lv_iconst (v := 0) hx hb d_C_isWithin_14 (by decide) ?_
    exact W.zret (v := 0) (ty := .boolean) hx hb hr (by rfl) (fun t ht hW => ⟨0, rfl, (b2i_f (by ((try simp only [b2i_eq0, Classical.not_not] at c_1); simp only [i32_eq, i32_lt, i32_le, i32_nm1, i32_n0, i32_n1, i32_n2, i32_n3, i32_n4, i32_n5, i32_n6, i32_n7, i32_n8, i32_n9, i32_n10, i32_n20, i32_n30, i32_n31, i32_n39, i32_n40, i32_n49, i32_n50, i32_n100, i32_n160, i32_n1000, i32_n100000, i32_n1000000] at c_1 ⊢; omega))).symm, ht⟩) (fun q h => nomatch h) d_C_isWithin_15
  · refine lv_iload_n hx hb d_C_isWithin_5 rfl (lv_at hl 0 rfl) ?_
    refine lv_iload_n hx hb d_C_isWithin_6 rfl (lv_at hl 2 rfl) ?_
    refine lv_icmp_gt (tgt := 14) hx hb d_C_isWithin_7 (by decide) (fun c_2 => ?_) (fun c_2 => ?_)
    · refine lv_iconst (v := 0) hx hb d_C_isWithin_14 (by decide) ?_
      exact W.zret (v := 0) (ty := .boolean) hx hb hr (by rfl) (fun t ht hW => ⟨0, rfl, (b2i_f (by ((try simp only [b2i_eq0, Classical.not_not] at c_1 c_2); simp only [i32_eq, i32_lt, i32_le, i32_nm1, i32_n0, i32_n1, i32_n2, i32_n3, i32_n4, i32_n5, i32_n6, i32_n7, i32_n8, i32_n9, i32_n10, i32_n20, i32_n30, i32_n31, i32_n39, i32_n40, i32_n49, i32_n50, i32_n100, i32_n160, i32_n1000, i32_n100000, i32_n1000000] at c_1 c_2 ⊢; omega))).symm, ht⟩) (fun q h => nomatch h) d_C_isWithin_15
    · refine lv_iconst (v := 1) hx hb d_C_isWithin_10 (by decide) ?_
      refine lv_goto (tgt := 15) hx hb d_C_isWithin_11 (by decide) ?_
      exact W.zret (v := 1) (ty := .boolean) hx hb hr (by rfl) (fun t ht hW => ⟨1, rfl, (b2i_t (by ((try simp only [b2i_eq0, Classical.not_not] at c_1 c_2); simp only [i32_eq, i32_lt, i32_le, i32_nm1, i32_n0, i32_n1, i32_n2, i32_n3, i32_n4, i32_n5, i32_n6, i32_n7, i32_n8, i32_n9, i32_n10, i32_n20, i32_n30, i32_n31, i32_n39, i32_n40, i32_n49, i32_n50, i32_n100, i32_n160, i32_n1000, i32_n100000, i32_n1000000] at c_1 c_2 ⊢; omega))).symm, ht⟩) (fun q h => nomatch h) d_C_isWithin_15
set_option maxHeartbeats 4000000 in
set_option maxRecDepth 100000 in
theorem c_C_isDeclaration (l : Launch) (p0 : Int32) : Met l y_C_isDeclaration (Cond.code y_C_isDeclaration b_C_isDeclaration 1 (some .boolean) :: GW) ({ frames := 1, cells := 0, slots := 0, locals := 32 }) (va_Pc [.int p0] (fun _ => True)) (vp_Si (fun r => r = b2i (0 ≤ p0 ∧ p0 ≤ 9))) 0 0 (fun _ => False) := by
  refine Met.ofW (cc := b_C_isDeclaration) (maxL := 1) (ret := (some .boolean)) (by decide) rfl ?_
  intro p e s m args below meth c s₁ B hml hv
  obtain ⟨rfl, -⟩ := hv
  have hx := B.exec
  have hb := B.bytes
  have hr := B.returns
  have hts := atoms_spec (ws := Cond.code y_C_isDeclaration b_C_isDeclaration 1 (some .boolean) :: GW) B.pre
  have hG : ∀ w ∈ GW, w.before _ s = true := fun w h => hts w (List.mem_cons_of_mem _ h)
  have hown : s.vm.findClass R_C = some m.cls := findClass_of_methodNamed B.named
  have hlocks := B.notSynchronized
  have hl := lv_entry ([.int p0]) (n := 1) (Nat.le_of_ble_eq_true rfl)
  rw [lg_entry_eq]
  generalize (lg_sl ([.int p0]) ++ List.replicate (1 - (lg_sl ([.int p0])).length) Slot.unset).toArray = ls at hl ⊢
  have hl : lv_has ls 1 [(0, .int p0)] := hl
  refine lv_iload_n hx hb d_C_isDeclaration_0 rfl (lv_at hl 0 rfl) ?_
  refine lv_iconst (v := 0) hx hb d_C_isDeclaration_1 (by decide) ?_
  refine lv_bipush (v := 9) hx hb d_C_isDeclaration_2 (by decide) ?_
  refine vp_callSi (W.runS (As := [.int p0, .int 0, .int 9]) (rest := []) ⟨hx, hb, hml, hown, hts⟩ (c_C_isWithin l p0 0 9) (va_cwS 3 hts (gw_S kw_98 kw_99 kw_1 kw_100) rfl rfl rfl (by decide +kernel) ⟨Nat.le_of_ble_eq_true rfl, Nat.le_of_ble_eq_true rfl⟩) ⟨fun _ _ _ _ q => q, fun U _ _ => ⟨rfl, trivial⟩⟩ rfl rfl hl.1 rfl (lv_room (Nat.le_of_ble_eq_true rfl)) d_C_isDeclaration_4 ⟨Nat.zero_le _, Nat.zero_le _⟩) (fun r_1 h_2 => ?_)
  subst h_2
  exact W.zret (v := b2i (0 ≤ p0 ∧ p0 ≤ 9)) (ty := .boolean) hx hb hr (b2i_nar _) (fun t ht hW => ⟨b2i (0 ≤ p0 ∧ p0 ≤ 9), rfl, rfl, ht⟩) (fun q h => nomatch h) d_C_isDeclaration_7
set_option maxHeartbeats 4000000 in
set_option maxRecDepth 100000 in
theorem c_C_isPerson (l : Launch) (p0 : Int32) : Met l y_C_isPerson (Cond.code y_C_isPerson b_C_isPerson 1 (some .boolean) :: GW) ({ frames := 1, cells := 0, slots := 0, locals := 32 }) (va_Pc [.int p0] (fun _ => True)) (vp_Si (fun r => r = b2i (0 ≤ p0 ∧ p0 ≤ 9))) 0 0 (fun _ => False) := by
  refine Met.ofW (cc := b_C_isPerson) (maxL := 1) (ret := (some .boolean)) (by decide) rfl ?_
  intro p e s m args below meth c s₁ B hml hv
  obtain ⟨rfl, -⟩ := hv
  have hx := B.exec
  have hb := B.bytes
  have hr := B.returns
  have hts := atoms_spec (ws := Cond.code y_C_isPerson b_C_isPerson 1 (some .boolean) :: GW) B.pre
  have hG : ∀ w ∈ GW, w.before _ s = true := fun w h => hts w (List.mem_cons_of_mem _ h)
  have hown : s.vm.findClass R_C = some m.cls := findClass_of_methodNamed B.named
  have hlocks := B.notSynchronized
  have hl := lv_entry ([.int p0]) (n := 1) (Nat.le_of_ble_eq_true rfl)
  rw [lg_entry_eq]
  generalize (lg_sl ([.int p0]) ++ List.replicate (1 - (lg_sl ([.int p0])).length) Slot.unset).toArray = ls at hl ⊢
  have hl : lv_has ls 1 [(0, .int p0)] := hl
  refine lv_iload_n hx hb d_C_isPerson_0 rfl (lv_at hl 0 rfl) ?_
  refine lv_iconst (v := 0) hx hb d_C_isPerson_1 (by decide) ?_
  refine lv_bipush (v := 9) hx hb d_C_isPerson_2 (by decide) ?_
  refine vp_callSi (W.runS (As := [.int p0, .int 0, .int 9]) (rest := []) ⟨hx, hb, hml, hown, hts⟩ (c_C_isWithin l p0 0 9) (va_cwS 3 hts (gw_S kw_98 kw_99 kw_1 kw_100) rfl rfl rfl (by decide +kernel) ⟨Nat.le_of_ble_eq_true rfl, Nat.le_of_ble_eq_true rfl⟩) ⟨fun _ _ _ _ q => q, fun U _ _ => ⟨rfl, trivial⟩⟩ rfl rfl hl.1 rfl (lv_room (Nat.le_of_ble_eq_true rfl)) d_C_isPerson_4 ⟨Nat.zero_le _, Nat.zero_le _⟩) (fun r_1 h_2 => ?_)
  subst h_2
  exact W.zret (v := b2i (0 ≤ p0 ∧ p0 ≤ 9)) (ty := .boolean) hx hb hr (b2i_nar _) (fun t ht hW => ⟨b2i (0 ≤ p0 ∧ p0 ≤ 9), rfl, rfl, ht⟩) (fun q h => nomatch h) d_C_isPerson_7
set_option maxHeartbeats 4000000 in
set_option maxRecDepth 100000 in
theorem c_C_isMeasure (l : Launch) (p0 : Int32) : Met l y_C_isMeasure (Cond.code y_C_isMeasure b_C_isMeasure 1 (some .boolean) :: GW) ({ frames := 1, cells := 0, slots := 0, locals := 32 }) (va_Pc [.int p0] (fun _ => True)) (vp_Si (fun r => r = b2i (0 ≤ p0 ∧ p0 ≤ 3))) 0 0 (fun _ => False) := by
  refine Met.ofW (cc := b_C_isMeasure) (maxL := 1) (ret := (some .boolean)) (by decide) rfl ?_
  intro p e s m args below meth c s₁ B hml hv
  obtain ⟨rfl, -⟩ := hv
  have hx := B.exec
  have hb := B.bytes
  have hr := B.returns
  have hts := atoms_spec (ws := Cond.code y_C_isMeasure b_C_isMeasure 1 (some .boolean) :: GW) B.pre
  have hG : ∀ w ∈ GW, w.before _ s = true := fun w h => hts w (List.mem_cons_of_mem _ h)
  have hown : s.vm.findClass R_C = some m.cls := findClass_of_methodNamed B.named
  have hlocks := B.notSynchronized
  have hl := lv_entry ([.int p0]) (n := 1) (Nat.le_of_ble_eq_true rfl)
  rw [lg_entry_eq]
  generalize (lg_sl ([.int p0]) ++ List.replicate (1 - (lg_sl ([.int p0])).length) Slot.unset).toArray = ls at hl ⊢
  have hl : lv_has ls 1 [(0, .int p0)] := hl
  refine lv_iload_n hx hb d_C_isMeasure_0 rfl (lv_at hl 0 rfl) ?_
  refine lv_iconst (v := 0) hx hb d_C_isMeasure_1 (by decide) ?_
  refine lv_iconst (v := 3) hx hb d_C_isMeasure_2 (by decide) ?_
  refine vp_callSi (W.runS (As := [.int p0, .int 0, .int 3]) (rest := []) ⟨hx, hb, hml, hown, hts⟩ (c_C_isWithin l p0 0 3) (va_cwS 3 hts (gw_S kw_98 kw_99 kw_1 kw_100) rfl rfl rfl (by decide +kernel) ⟨Nat.le_of_ble_eq_true rfl, Nat.le_of_ble_eq_true rfl⟩) ⟨fun _ _ _ _ q => q, fun U _ _ => ⟨rfl, trivial⟩⟩ rfl rfl hl.1 rfl (lv_room (Nat.le_of_ble_eq_true rfl)) d_C_isMeasure_3 ⟨Nat.zero_le _, Nat.zero_le _⟩) (fun r_1 h_2 => ?_)
  subst h_2
  exact W.zret (v := b2i (0 ≤ p0 ∧ p0 ≤ 3)) (ty := .boolean) hx hb hr (b2i_nar _) (fun t ht hW => ⟨b2i (0 ≤ p0 ∧ p0 ≤ 3), rfl, rfl, ht⟩) (fun q h => nomatch h) d_C_isMeasure_6
set_option maxHeartbeats 4000000 in
set_option maxRecDepth 100000 in
theorem c_C_isSeal (l : Launch) (p0 : Int32) : Met l y_C_isSeal (Cond.code y_C_isSeal b_C_isSeal 1 (some .boolean) :: GW) ({ frames := 1, cells := 0, slots := 0, locals := 32 }) (va_Pc [.int p0] (fun _ => True)) (vp_Si (fun r => r = b2i (1 ≤ p0 ∧ p0 ≤ 1000000))) 0 0 (fun _ => False) := by
  refine Met.ofW (cc := b_C_isSeal) (maxL := 1) (ret := (some .boolean)) (by decide) rfl ?_
  intro p e s m args below meth c s₁ B hml hv
  obtain ⟨rfl, -⟩ := hv
  have hx := B.exec
  have hb := B.bytes
  have hr := B.returns
  have hts := atoms_spec (ws := Cond.code y_C_isSeal b_C_isSeal 1 (some .boolean) :: GW) B.pre
  have hG : ∀ w ∈ GW, w.before _ s = true := fun w h => hts w (List.mem_cons_of_mem _ h)
  have hown : s.vm.findClass R_C = some m.cls := findClass_of_methodNamed B.named
  have hlocks := B.notSynchronized
  have hl := lv_entry ([.int p0]) (n := 1) (Nat.le_of_ble_eq_true rfl)
  rw [lg_entry_eq]
  generalize (lg_sl ([.int p0]) ++ List.replicate (1 - (lg_sl ([.int p0])).length) Slot.unset).toArray = ls at hl ⊢
  have hl : lv_has ls 1 [(0, .int p0)] := hl
  refine lv_iload_n hx hb d_C_isSeal_0 rfl (lv_at hl 0 rfl) ?_
  refine lv_iconst (v := 1) hx hb d_C_isSeal_1 (by decide) ?_
  refine lv_ldcw (v := 1000000) hx hb hown (hG _ kw_152) d_C_isSeal_2 ?_
  refine vp_callSi (W.runS (As := [.int p0, .int 1, .int 1000000]) (rest := []) ⟨hx, hb, hml, hown, hts⟩ (c_C_isWithin l p0 1 1000000) (va_cwS 3 hts (gw_S kw_98 kw_99 kw_1 kw_100) rfl rfl rfl (by decide +kernel) ⟨Nat.le_of_ble_eq_true rfl, Nat.le_of_ble_eq_true rfl⟩) ⟨fun _ _ _ _ q => q, fun U _ _ => ⟨rfl, trivial⟩⟩ rfl rfl hl.1 rfl (lv_room (Nat.le_of_ble_eq_true rfl)) d_C_isSeal_5 ⟨Nat.zero_le _, Nat.zero_le _⟩) (fun r_1 h_2 => ?_)
  subst h_2
  exact W.zret (v := b2i (1 ≤ p0 ∧ p0 ≤ 1000000)) (ty := .boolean) hx hb hr (b2i_nar _) (fun t ht hW => ⟨b2i (1 ≤ p0 ∧ p0 ≤ 1000000), rfl, rfl, ht⟩) (fun q h => nomatch h) d_C_isSeal_8
set_option maxHeartbeats 4000000 in
set_option maxRecDepth 100000 in
theorem c_C_isValue (l : Launch) (p0 : Int32) : Met l y_C_isValue (Cond.code y_C_isValue b_C_isValue 1 (some .boolean) :: GW) ({ frames := 1, cells := 0, slots := 0, locals := 32 }) (va_Pc [.int p0] (fun _ => True)) (vp_Si (fun r => r = b2i (0 ≤ p0 ∧ p0 ≤ 1000000))) 0 0 (fun _ => False) := by
  refine Met.ofW (cc := b_C_isValue) (maxL := 1) (ret := (some .boolean)) (by decide) rfl ?_
  intro p e s m args below meth c s₁ B hml hv
  obtain ⟨rfl, -⟩ := hv
  have hx := B.exec
  have hb := B.bytes
  have hr := B.returns
  have hts := atoms_spec (ws := Cond.code y_C_isValue b_C_isValue 1 (some .boolean) :: GW) B.pre
  have hG : ∀ w ∈ GW, w.before _ s = true := fun w h => hts w (List.mem_cons_of_mem _ h)
  have hown : s.vm.findClass R_C = some m.cls := findClass_of_methodNamed B.named
  have hlocks := B.notSynchronized
  have hl := lv_entry ([.int p0]) (n := 1) (Nat.le_of_ble_eq_true rfl)
  rw [lg_entry_eq]
  generalize (lg_sl ([.int p0]) ++ List.replicate (1 - (lg_sl ([.int p0])).length) Slot.unset).toArray = ls at hl ⊢
  have hl : lv_has ls 1 [(0, .int p0)] := hl
  refine lv_iload_n hx hb d_C_isValue_0 rfl (lv_at hl 0 rfl) ?_
  refine lv_iconst (v := 0) hx hb d_C_isValue_1 (by decide) ?_
  refine lv_ldcw (v := 1000000) hx hb hown (hG _ kw_152) d_C_isValue_2 ?_
  refine vp_callSi (W.runS (As := [.int p0, .int 0, .int 1000000]) (rest := []) ⟨hx, hb, hml, hown, hts⟩ (c_C_isWithin l p0 0 1000000) (va_cwS 3 hts (gw_S kw_98 kw_99 kw_1 kw_100) rfl rfl rfl (by decide +kernel) ⟨Nat.le_of_ble_eq_true rfl, Nat.le_of_ble_eq_true rfl⟩) ⟨fun _ _ _ _ q => q, fun U _ _ => ⟨rfl, trivial⟩⟩ rfl rfl hl.1 rfl (lv_room (Nat.le_of_ble_eq_true rfl)) d_C_isValue_5 ⟨Nat.zero_le _, Nat.zero_le _⟩) (fun r_1 h_2 => ?_)
  subst h_2
  exact W.zret (v := b2i (0 ≤ p0 ∧ p0 ≤ 1000000)) (ty := .boolean) hx hb hr (b2i_nar _) (fun t ht hW => ⟨b2i (0 ≤ p0 ∧ p0 ≤ 1000000), rfl, rfl, ht⟩) (fun q h => nomatch h) d_C_isValue_8
set_option maxHeartbeats 4000000 in
set_option maxRecDepth 100000 in
theorem c_C_hasBit (l : Launch) (p0 p1 : Int32) : Met l y_C_hasBit (Cond.code y_C_hasBit b_C_hasBit 2 (some .boolean) :: GW) ({ frames := 0, cells := 0, slots := 0, locals := 0 }) (va_Pc [.int p0, .int p1] (fun _ => True)) (vp_Si (fun r => r = b2i (p0 >>> (p1 &&& 31) &&& 1 = 1))) 0 0 (fun _ => False) := by
  refine Met.ofW (cc := b_C_hasBit) (maxL := 2) (ret := (some .boolean)) (by decide) rfl ?_
  intro p e s m args below meth c s₁ B hml hv
  obtain ⟨rfl, -⟩ := hv
  have hx := B.exec
  have hb := B.bytes
  have hr := B.returns
  have hts := atoms_spec (ws := Cond.code y_C_hasBit b_C_hasBit 2 (some .boolean) :: GW) B.pre
  have hG : ∀ w ∈ GW, w.before _ s = true := fun w h => hts w (List.mem_cons_of_mem _ h)
  have hown : s.vm.findClass R_C = some m.cls := findClass_of_methodNamed B.named
  have hlocks := B.notSynchronized
  have hl := lv_entry ([.int p0, .int p1]) (n := 2) (Nat.le_of_ble_eq_true rfl)
  rw [lg_entry_eq]
  generalize (lg_sl ([.int p0, .int p1]) ++ List.replicate (2 - (lg_sl ([.int p0, .int p1])).length) Slot.unset).toArray = ls at hl ⊢
  have hl : lv_has ls 2 [(0, .int p0), (1, .int p1)] := hl
  refine lv_iload_n hx hb d_C_hasBit_0 rfl (lv_at hl 0 rfl) ?_
  refine lv_iload_n hx hb d_C_hasBit_1 rfl (lv_at hl 1 rfl) ?_
  refine lv_ishr hx hb d_C_hasBit_2 ?_
  refine lv_iconst (v := 1) hx hb d_C_hasBit_3 (by decide) ?_
  refine lv_iand hx hb d_C_hasBit_4 ?_
  refine lv_iconst (v := 1) hx hb d_C_hasBit_5 (by decide) ?_
  refine lv_icmp_ne (tgt := 13) hx hb d_C_hasBit_6 (by decide) (fun c_1 => ?_) (fun c_1 => ?_)
  · refine lv_iconst (v := 0) hx hb d_C_hasBit_13 (by decide) ?_
    exact W.zret (v := 0) (ty := .boolean) hx hb hr (by rfl) (fun t ht hW => ⟨0, rfl, (b2i_f (by ((try simp only [b2i_eq0, Classical.not_not] at c_1); simp only [i32_eq, i32_lt, i32_le, i32_nm1, i32_n0, i32_n1, i32_n2, i32_n3, i32_n4, i32_n5, i32_n6, i32_n7, i32_n8, i32_n9, i32_n10, i32_n20, i32_n30, i32_n31, i32_n39, i32_n40, i32_n49, i32_n50, i32_n100, i32_n160, i32_n1000, i32_n100000, i32_n1000000] at c_1 ⊢; omega))).symm, ht⟩) (fun q h => nomatch h) d_C_hasBit_14
  · refine lv_iconst (v := 1) hx hb d_C_hasBit_9 (by decide) ?_
    refine lv_goto (tgt := 14) hx hb d_C_hasBit_10 (by decide) ?_
    exact W.zret (v := 1) (ty := .boolean) hx hb hr (by rfl) (fun t ht hW => ⟨1, rfl, (b2i_t (by ((try simp only [b2i_eq0, Classical.not_not] at c_1); simp only [i32_eq, i32_lt, i32_le, i32_nm1, i32_n0, i32_n1, i32_n2, i32_n3, i32_n4, i32_n5, i32_n6, i32_n7, i32_n8, i32_n9, i32_n10, i32_n20, i32_n30, i32_n31, i32_n39, i32_n40, i32_n49, i32_n50, i32_n100, i32_n160, i32_n1000, i32_n100000, i32_n1000000] at c_1 ⊢; omega))).symm, ht⟩) (fun q h => nomatch h) d_C_hasBit_14
set_option maxHeartbeats 4000000 in
set_option maxRecDepth 100000 in
theorem c_I_isOpening (l : Launch) (D : va_G) (tys : List (ClassId × FieldType)) (a : Nat) (f0 f1 f2 f3 f4 f5 f6 f7 f8 f9 : Int32) : Met l y_I_isOpening (Cond.code y_I_isOpening b_I_isOpening 1 (some .boolean) :: GW) ({ frames := 0, cells := 0, slots := 0, locals := 0 }) (va_Pc [.ref a] (rd_B D tys [(a, .inr (2, [.int f0, .int f1, .int f2, .int f3, .int f4, .int f5, .int f6, .int f7, .int f8, .int f9]))])) (vp_Si (fun r => r = b2i (3 ≤ f1))) 0 0 (fun _ => False) := by
  refine Met.ofW (cc := b_I_isOpening) (maxL := 1) (ret := (some .boolean)) (by decide) rfl ?_
  intro p e s m args below meth c s₁ B hml hv
  obtain ⟨rfl, hP, hK⟩ := hv
  have hx := B.exec
  have hb := B.bytes
  have hr := B.returns
  have hts := atoms_spec (ws := Cond.code y_I_isOpening b_I_isOpening 1 (some .boolean) :: GW) B.pre
  have hG : ∀ w ∈ GW, w.before _ s = true := fun w h => hts w (List.mem_cons_of_mem _ h)
  have hown : s.vm.findClass R_I = some m.cls := findClass_of_methodNamed B.named
  have hlocks := B.notSynchronized
  have hl := lv_entry ([.ref a]) (n := 1) (Nat.le_of_ble_eq_true rfl)
  rw [lg_entry_eq]
  generalize (lg_sl ([.ref a]) ++ List.replicate (1 - (lg_sl ([.ref a])).length) Slot.unset).toArray = ls at hl ⊢
  have hl : lv_has ls 1 [(0, .ref a)] := hl
  refine lv_aload_n hx hb d_I_isOpening_0 rfl (lv_at hl 0 rfl) ?_
  refine va_get (D := D) (ci := 2) (v := .int f1) (C := R_I) (T := F_I) (N := 10) hx hb hG in_I hown hK hP 0 rfl rfl 1 (by decide) (hG _ kw_289) (fun _ h9 => h9) rfl d_I_isOpening_1 ?_
  refine lv_iconst (v := 3) hx hb d_I_isOpening_4 (by decide) ?_
  refine lv_icmp_lt (tgt := 12) hx hb d_I_isOpening_5 (by decide) (fun c_1 => ?_) (fun c_1 => ?_)
  · refine lv_iconst (v := 0) hx hb d_I_isOpening_12 (by decide) ?_
    exact W.zret (v := 0) (ty := .boolean) hx hb hr (by rfl) (fun t ht hW => ⟨0, rfl, (b2i_f (by ((try simp only [b2i_eq0, Classical.not_not] at c_1); simp only [i32_eq, i32_lt, i32_le, i32_nm1, i32_n0, i32_n1, i32_n2, i32_n3, i32_n4, i32_n5, i32_n6, i32_n7, i32_n8, i32_n9, i32_n10, i32_n20, i32_n30, i32_n31, i32_n39, i32_n40, i32_n49, i32_n50, i32_n100, i32_n160, i32_n1000, i32_n100000, i32_n1000000] at c_1 ⊢; omega))).symm, ht⟩) (fun q h => nomatch h) d_I_isOpening_13
  · refine lv_iconst (v := 1) hx hb d_I_isOpening_8 (by decide) ?_
    refine lv_goto (tgt := 13) hx hb d_I_isOpening_9 (by decide) ?_
    exact W.zret (v := 1) (ty := .boolean) hx hb hr (by rfl) (fun t ht hW => ⟨1, rfl, (b2i_t (by ((try simp only [b2i_eq0, Classical.not_not] at c_1); simp only [i32_eq, i32_lt, i32_le, i32_nm1, i32_n0, i32_n1, i32_n2, i32_n3, i32_n4, i32_n5, i32_n6, i32_n7, i32_n8, i32_n9, i32_n10, i32_n20, i32_n30, i32_n31, i32_n39, i32_n40, i32_n49, i32_n50, i32_n100, i32_n160, i32_n1000, i32_n100000, i32_n1000000] at c_1 ⊢; omega))).symm, ht⟩) (fun q h => nomatch h) d_I_isOpening_13
set_option maxHeartbeats 4000000 in
set_option maxRecDepth 100000 in
theorem c_I_isPending (l : Launch) (D : va_G) (tys : List (ClassId × FieldType)) (a : Nat) (f0 f1 f2 f3 f4 f5 f6 f7 f8 f9 : Int32) : Met l y_I_isPending (Cond.code y_I_isPending b_I_isPending 1 (some .boolean) :: GW) ({ frames := 0, cells := 0, slots := 0, locals := 0 }) (va_Pc [.ref a] (rd_B D tys [(a, .inr (2, [.int f0, .int f1, .int f2, .int f3, .int f4, .int f5, .int f6, .int f7, .int f8, .int f9]))])) (vp_Si (fun r => r = b2i (¬ f3 = 3 ∧ ¬ f3 = 5))) 0 0 (fun _ => False) := by
  refine Met.ofW (cc := b_I_isPending) (maxL := 1) (ret := (some .boolean)) (by decide) rfl ?_
  intro p e s m args below meth c s₁ B hml hv
  obtain ⟨rfl, hP, hK⟩ := hv
  have hx := B.exec
  have hb := B.bytes
  have hr := B.returns
  have hts := atoms_spec (ws := Cond.code y_I_isPending b_I_isPending 1 (some .boolean) :: GW) B.pre
  have hG : ∀ w ∈ GW, w.before _ s = true := fun w h => hts w (List.mem_cons_of_mem _ h)
  have hown : s.vm.findClass R_I = some m.cls := findClass_of_methodNamed B.named
  have hlocks := B.notSynchronized
  have hl := lv_entry ([.ref a]) (n := 1) (Nat.le_of_ble_eq_true rfl)
  rw [lg_entry_eq]
  generalize (lg_sl ([.ref a]) ++ List.replicate (1 - (lg_sl ([.ref a])).length) Slot.unset).toArray = ls at hl ⊢
  have hl : lv_has ls 1 [(0, .ref a)] := hl
  refine lv_aload_n hx hb d_I_isPending_0 rfl (lv_at hl 0 rfl) ?_
  refine va_get (D := D) (ci := 2) (v := .int f3) (C := R_I) (T := F_I) (N := 10) hx hb hG in_I hown hK hP 0 rfl rfl 3 (by decide) (hG _ kw_292) (fun _ h9 => h9) rfl d_I_isPending_1 ?_
  refine lv_iconst (v := 3) hx hb d_I_isPending_4 (by decide) ?_
  refine lv_icmp_eq (tgt := 20) hx hb d_I_isPending_5 (by decide) (fun c_1 => ?_) (fun c_1 => ?_)
  · refine lv_iconst (v := 0) hx hb d_I_isPending_20 (by decide) ?_
    exact W.zret (v := 0) (ty := .boolean) hx hb hr (by rfl) (fun t ht hW => ⟨0, rfl, (b2i_f (by ((try simp only [b2i_eq0, Classical.not_not] at c_1); simp only [i32_eq, i32_lt, i32_le, i32_nm1, i32_n0, i32_n1, i32_n2, i32_n3, i32_n4, i32_n5, i32_n6, i32_n7, i32_n8, i32_n9, i32_n10, i32_n20, i32_n30, i32_n31, i32_n39, i32_n40, i32_n49, i32_n50, i32_n100, i32_n160, i32_n1000, i32_n100000, i32_n1000000] at c_1 ⊢; omega))).symm, ht⟩) (fun q h => nomatch h) d_I_isPending_21
  · refine lv_aload_n hx hb d_I_isPending_8 rfl (lv_at hl 0 rfl) ?_
    refine va_get (D := D) (ci := 2) (v := .int f3) (C := R_I) (T := F_I) (N := 10) hx hb hG in_I hown hK hP 0 rfl rfl 3 (by decide) (hG _ kw_292) (fun _ h9 => h9) rfl d_I_isPending_9 ?_
    refine lv_iconst (v := 5) hx hb d_I_isPending_12 (by decide) ?_
    refine lv_icmp_eq (tgt := 20) hx hb d_I_isPending_13 (by decide) (fun c_2 => ?_) (fun c_2 => ?_)
    · refine lv_iconst (v := 0) hx hb d_I_isPending_20 (by decide) ?_
      exact W.zret (v := 0) (ty := .boolean) hx hb hr (by rfl) (fun t ht hW => ⟨0, rfl, (b2i_f (by ((try simp only [b2i_eq0, Classical.not_not] at c_1 c_2); simp only [i32_eq, i32_lt, i32_le, i32_nm1, i32_n0, i32_n1, i32_n2, i32_n3, i32_n4, i32_n5, i32_n6, i32_n7, i32_n8, i32_n9, i32_n10, i32_n20, i32_n30, i32_n31, i32_n39, i32_n40, i32_n49, i32_n50, i32_n100, i32_n160, i32_n1000, i32_n100000, i32_n1000000] at c_1 c_2 ⊢; omega))).symm, ht⟩) (fun q h => nomatch h) d_I_isPending_21
    · refine lv_iconst (v := 1) hx hb d_I_isPending_16 (by decide) ?_
      refine lv_goto (tgt := 21) hx hb d_I_isPending_17 (by decide) ?_
      exact W.zret (v := 1) (ty := .boolean) hx hb hr (by rfl) (fun t ht hW => ⟨1, rfl, (b2i_t (by ((try simp only [b2i_eq0, Classical.not_not] at c_1 c_2); simp only [i32_eq, i32_lt, i32_le, i32_nm1, i32_n0, i32_n1, i32_n2, i32_n3, i32_n4, i32_n5, i32_n6, i32_n7, i32_n8, i32_n9, i32_n10, i32_n20, i32_n30, i32_n31, i32_n39, i32_n40, i32_n49, i32_n50, i32_n100, i32_n160, i32_n1000, i32_n100000, i32_n1000000] at c_1 c_2 ⊢; omega))).symm, ht⟩) (fun q h => nomatch h) d_I_isPending_21
set_option maxHeartbeats 4000000 in
set_option maxRecDepth 100000 in
theorem c_I_canBePlanned (l : Launch) (D : va_G) (tys : List (ClassId × FieldType)) (a : Nat) (f0 f1 f2 f3 f4 f5 f6 f7 f8 f9 : Int32) : Met l y_I_canBePlanned (Cond.code y_I_canBePlanned b_I_canBePlanned 1 (some .boolean) :: GW) ({ frames := 0, cells := 0, slots := 0, locals := 0 }) (va_Pc [.ref a] (rd_B D tys [(a, .inr (2, [.int f0, .int f1, .int f2, .int f3, .int f4, .int f5, .int f6, .int f7, .int f8, .int f9]))])) (vp_Si (fun r => r = b2i (f3 = 0 ∨ f3 = 4))) 0 0 (fun _ => False) := by
  refine Met.ofW (cc := b_I_canBePlanned) (maxL := 1) (ret := (some .boolean)) (by decide) rfl ?_
  intro p e s m args below meth c s₁ B hml hv
  obtain ⟨rfl, hP, hK⟩ := hv
  have hx := B.exec
  have hb := B.bytes
  have hr := B.returns
  have hts := atoms_spec (ws := Cond.code y_I_canBePlanned b_I_canBePlanned 1 (some .boolean) :: GW) B.pre
  have hG : ∀ w ∈ GW, w.before _ s = true := fun w h => hts w (List.mem_cons_of_mem _ h)
  have hown : s.vm.findClass R_I = some m.cls := findClass_of_methodNamed B.named
  have hlocks := B.notSynchronized
  have hl := lv_entry ([.ref a]) (n := 1) (Nat.le_of_ble_eq_true rfl)
  rw [lg_entry_eq]
  generalize (lg_sl ([.ref a]) ++ List.replicate (1 - (lg_sl ([.ref a])).length) Slot.unset).toArray = ls at hl ⊢
  have hl : lv_has ls 1 [(0, .ref a)] := hl
  refine lv_aload_n hx hb d_I_canBePlanned_0 rfl (lv_at hl 0 rfl) ?_
  refine va_get (D := D) (ci := 2) (v := .int f3) (C := R_I) (T := F_I) (N := 10) hx hb hG in_I hown hK hP 0 rfl rfl 3 (by decide) (hG _ kw_292) (fun _ h9 => h9) rfl d_I_canBePlanned_1 ?_
  refine lv_if_eq (tgt := 15) hx hb d_I_canBePlanned_4 (by decide) (fun c_1 => ?_) (fun c_1 => ?_)
  · refine lv_iconst (v := 1) hx hb d_I_canBePlanned_15 (by decide) ?_
    refine lv_goto (tgt := 20) hx hb d_I_canBePlanned_16 (by decide) ?_
    exact W.zret (v := 1) (ty := .boolean) hx hb hr (by rfl) (fun t ht hW => ⟨1, rfl, (b2i_t (by ((try simp only [b2i_eq0, Classical.not_not] at c_1); simp only [i32_eq, i32_lt, i32_le, i32_nm1, i32_n0, i32_n1, i32_n2, i32_n3, i32_n4, i32_n5, i32_n6, i32_n7, i32_n8, i32_n9, i32_n10, i32_n20, i32_n30, i32_n31, i32_n39, i32_n40, i32_n49, i32_n50, i32_n100, i32_n160, i32_n1000, i32_n100000, i32_n1000000] at c_1 ⊢; omega))).symm, ht⟩) (fun q h => nomatch h) d_I_canBePlanned_20
  · refine lv_aload_n hx hb d_I_canBePlanned_7 rfl (lv_at hl 0 rfl) ?_
    refine va_get (D := D) (ci := 2) (v := .int f3) (C := R_I) (T := F_I) (N := 10) hx hb hG in_I hown hK hP 0 rfl rfl 3 (by decide) (hG _ kw_292) (fun _ h9 => h9) rfl d_I_canBePlanned_8 ?_
    refine lv_iconst (v := 4) hx hb d_I_canBePlanned_11 (by decide) ?_
    refine lv_icmp_ne (tgt := 19) hx hb d_I_canBePlanned_12 (by decide) (fun c_2 => ?_) (fun c_2 => ?_)
    · refine lv_iconst (v := 0) hx hb d_I_canBePlanned_19 (by decide) ?_
      exact W.zret (v := 0) (ty := .boolean) hx hb hr (by rfl) (fun t ht hW => ⟨0, rfl, (b2i_f (by ((try simp only [b2i_eq0, Classical.not_not] at c_1 c_2); simp only [i32_eq, i32_lt, i32_le, i32_nm1, i32_n0, i32_n1, i32_n2, i32_n3, i32_n4, i32_n5, i32_n6, i32_n7, i32_n8, i32_n9, i32_n10, i32_n20, i32_n30, i32_n31, i32_n39, i32_n40, i32_n49, i32_n50, i32_n100, i32_n160, i32_n1000, i32_n100000, i32_n1000000] at c_1 c_2 ⊢; omega))).symm, ht⟩) (fun q h => nomatch h) d_I_canBePlanned_20
    · refine lv_iconst (v := 1) hx hb d_I_canBePlanned_15 (by decide) ?_
      refine lv_goto (tgt := 20) hx hb d_I_canBePlanned_16 (by decide) ?_
      exact W.zret (v := 1) (ty := .boolean) hx hb hr (by rfl) (fun t ht hW => ⟨1, rfl, (b2i_t (by ((try simp only [b2i_eq0, Classical.not_not] at c_1 c_2); simp only [i32_eq, i32_lt, i32_le, i32_nm1, i32_n0, i32_n1, i32_n2, i32_n3, i32_n4, i32_n5, i32_n6, i32_n7, i32_n8, i32_n9, i32_n10, i32_n20, i32_n30, i32_n31, i32_n39, i32_n40, i32_n49, i32_n50, i32_n100, i32_n160, i32_n1000, i32_n100000, i32_n1000000] at c_1 c_2 ⊢; omega))).symm, ht⟩) (fun q h => nomatch h) d_I_canBePlanned_20
set_option maxHeartbeats 4000000 in
set_option maxRecDepth 100000 in
theorem c_I_canBeBegunAt (l : Launch) (D : va_G) (tys : List (ClassId × FieldType)) (a : Nat) (f0 f1 f2 f3 f4 f5 f6 f7 f8 f9 : Int32) (p0 : Int32) : Met l y_I_canBeBegunAt (Cond.code y_I_canBeBegunAt b_I_canBeBegunAt 2 (some .boolean) :: GW) ({ frames := 0, cells := 0, slots := 0, locals := 0 }) (va_Pc [.ref a, .int p0] (rd_B D tys [(a, .inr (2, [.int f0, .int f1, .int f2, .int f3, .int f4, .int f5, .int f6, .int f7, .int f8, .int f9]))])) (vp_Si (fun r => r = b2i (f3 = 1 ∧ f6 ≤ p0 ∧ p0 ≤ f7))) 0 0 (fun _ => False) := by
  refine Met.ofW (cc := b_I_canBeBegunAt) (maxL := 2) (ret := (some .boolean)) (by decide) rfl ?_
  intro p e s m args below meth c s₁ B hml hv
  obtain ⟨rfl, hP, hK⟩ := hv
  have hx := B.exec
  have hb := B.bytes
  have hr := B.returns
  have hts := atoms_spec (ws := Cond.code y_I_canBeBegunAt b_I_canBeBegunAt 2 (some .boolean) :: GW) B.pre
  have hG : ∀ w ∈ GW, w.before _ s = true := fun w h => hts w (List.mem_cons_of_mem _ h)
  have hown : s.vm.findClass R_I = some m.cls := findClass_of_methodNamed B.named
  have hlocks := B.notSynchronized
  have hl := lv_entry ([.ref a, .int p0]) (n := 2) (Nat.le_of_ble_eq_true rfl)
  rw [lg_entry_eq]
  generalize (lg_sl ([.ref a, .int p0]) ++ List.replicate (2 - (lg_sl ([.ref a, .int p0])).length) Slot.unset).toArray = ls at hl ⊢
  have hl : lv_has ls 2 [(0, .ref a), (1, .int p0)] := hl
  refine lv_aload_n hx hb d_I_canBeBegunAt_0 rfl (lv_at hl 0 rfl) ?_
  refine va_get (D := D) (ci := 2) (v := .int f3) (C := R_I) (T := F_I) (N := 10) hx hb hG in_I hown hK hP 0 rfl rfl 3 (by decide) (hG _ kw_292) (fun _ h9 => h9) rfl d_I_canBeBegunAt_1 ?_
  refine lv_iconst (v := 1) hx hb d_I_canBeBegunAt_4 (by decide) ?_
  refine lv_icmp_ne (tgt := 28) hx hb d_I_canBeBegunAt_5 (by decide) (fun c_1 => ?_) (fun c_1 => ?_)
  · refine lv_iconst (v := 0) hx hb d_I_canBeBegunAt_28 (by decide) ?_
    exact W.zret (v := 0) (ty := .boolean) hx hb hr (by rfl) (fun t ht hW => ⟨0, rfl, (b2i_f (by ((try simp only [b2i_eq0, Classical.not_not] at c_1); simp only [i32_eq, i32_lt, i32_le, i32_nm1, i32_n0, i32_n1, i32_n2, i32_n3, i32_n4, i32_n5, i32_n6, i32_n7, i32_n8, i32_n9, i32_n10, i32_n20, i32_n30, i32_n31, i32_n39, i32_n40, i32_n49, i32_n50, i32_n100, i32_n160, i32_n1000, i32_n100000, i32_n1000000] at c_1 ⊢; omega))).symm, ht⟩) (fun q h => nomatch h) d_I_canBeBegunAt_29
  · refine lv_aload_n hx hb d_I_canBeBegunAt_8 rfl (lv_at hl 0 rfl) ?_
    refine va_get (D := D) (ci := 2) (v := .int f6) (C := R_I) (T := F_I) (N := 10) hx hb hG in_I hown hK hP 0 rfl rfl 6 (by decide) (hG _ kw_298) (fun _ h9 => h9) rfl d_I_canBeBegunAt_9 ?_
    refine lv_iload_n hx hb d_I_canBeBegunAt_12 rfl (lv_at hl 1 rfl) ?_
    refine lv_icmp_gt (tgt := 28) hx hb d_I_canBeBegunAt_13 (by decide) (fun c_2 => ?_) (fun c_2 => ?_)
    · refine lv_iconst (v := 0) hx hb d_I_canBeBegunAt_28 (by decide) ?_
      exact W.zret (v := 0) (ty := .boolean) hx hb hr (by rfl) (fun t ht hW => ⟨0, rfl, (b2i_f (by ((try simp only [b2i_eq0, Classical.not_not] at c_1 c_2); simp only [i32_eq, i32_lt, i32_le, i32_nm1, i32_n0, i32_n1, i32_n2, i32_n3, i32_n4, i32_n5, i32_n6, i32_n7, i32_n8, i32_n9, i32_n10, i32_n20, i32_n30, i32_n31, i32_n39, i32_n40, i32_n49, i32_n50, i32_n100, i32_n160, i32_n1000, i32_n100000, i32_n1000000] at c_1 c_2 ⊢; omega))).symm, ht⟩) (fun q h => nomatch h) d_I_canBeBegunAt_29
    · refine lv_iload_n hx hb d_I_canBeBegunAt_16 rfl (lv_at hl 1 rfl) ?_
      refine lv_aload_n hx hb d_I_canBeBegunAt_17 rfl (lv_at hl 0 rfl) ?_
      refine va_get (D := D) (ci := 2) (v := .int f7) (C := R_I) (T := F_I) (N := 10) hx hb hG in_I hown hK hP 0 rfl rfl 7 (by decide) (hG _ kw_300) (fun _ h9 => h9) rfl d_I_canBeBegunAt_18 ?_
      refine lv_icmp_gt (tgt := 28) hx hb d_I_canBeBegunAt_21 (by decide) (fun c_3 => ?_) (fun c_3 => ?_)
      · refine lv_iconst (v := 0) hx hb d_I_canBeBegunAt_28 (by decide) ?_
        exact W.zret (v := 0) (ty := .boolean) hx hb hr (by rfl) (fun t ht hW => ⟨0, rfl, (b2i_f (by ((try simp only [b2i_eq0, Classical.not_not] at c_1 c_2 c_3); simp only [i32_eq, i32_lt, i32_le, i32_nm1, i32_n0, i32_n1, i32_n2, i32_n3, i32_n4, i32_n5, i32_n6, i32_n7, i32_n8, i32_n9, i32_n10, i32_n20, i32_n30, i32_n31, i32_n39, i32_n40, i32_n49, i32_n50, i32_n100, i32_n160, i32_n1000, i32_n100000, i32_n1000000] at c_1 c_2 c_3 ⊢; omega))).symm, ht⟩) (fun q h => nomatch h) d_I_canBeBegunAt_29
      · refine lv_iconst (v := 1) hx hb d_I_canBeBegunAt_24 (by decide) ?_
        refine lv_goto (tgt := 29) hx hb d_I_canBeBegunAt_25 (by decide) ?_
        exact W.zret (v := 1) (ty := .boolean) hx hb hr (by rfl) (fun t ht hW => ⟨1, rfl, (b2i_t (by ((try simp only [b2i_eq0, Classical.not_not] at c_1 c_2 c_3); simp only [i32_eq, i32_lt, i32_le, i32_nm1, i32_n0, i32_n1, i32_n2, i32_n3, i32_n4, i32_n5, i32_n6, i32_n7, i32_n8, i32_n9, i32_n10, i32_n20, i32_n30, i32_n31, i32_n39, i32_n40, i32_n49, i32_n50, i32_n100, i32_n160, i32_n1000, i32_n100000, i32_n1000000] at c_1 c_2 c_3 ⊢; omega))).symm, ht⟩) (fun q h => nomatch h) d_I_canBeBegunAt_29
set_option maxHeartbeats 4000000 in
set_option maxRecDepth 100000 in
theorem c_I_canBeGivenUp (l : Launch) (D : va_G) (tys : List (ClassId × FieldType)) (a : Nat) (f0 f1 f2 f3 f4 f5 f6 f7 f8 f9 : Int32) : Met l y_I_canBeGivenUp (Cond.code y_I_canBeGivenUp b_I_canBeGivenUp 1 (some .boolean) :: GW) ({ frames := 0, cells := 0, slots := 0, locals := 0 }) (va_Pc [.ref a] (rd_B D tys [(a, .inr (2, [.int f0, .int f1, .int f2, .int f3, .int f4, .int f5, .int f6, .int f7, .int f8, .int f9]))])) (vp_Si (fun r => r = b2i (f3 = 0 ∨ f3 = 1 ∨ f3 = 4))) 0 0 (fun _ => False) := by
  refine Met.ofW (cc := b_I_canBeGivenUp) (maxL := 1) (ret := (some .boolean)) (by decide) rfl ?_
  intro p e s m args below meth c s₁ B hml hv
  obtain ⟨rfl, hP, hK⟩ := hv
  have hx := B.exec
  have hb := B.bytes
  have hr := B.returns
  have hts := atoms_spec (ws := Cond.code y_I_canBeGivenUp b_I_canBeGivenUp 1 (some .boolean) :: GW) B.pre
  have hG : ∀ w ∈ GW, w.before _ s = true := fun w h => hts w (List.mem_cons_of_mem _ h)
  have hown : s.vm.findClass R_I = some m.cls := findClass_of_methodNamed B.named
  have hlocks := B.notSynchronized
  have hl := lv_entry ([.ref a]) (n := 1) (Nat.le_of_ble_eq_true rfl)
  rw [lg_entry_eq]
  generalize (lg_sl ([.ref a]) ++ List.replicate (1 - (lg_sl ([.ref a])).length) Slot.unset).toArray = ls at hl ⊢
  have hl : lv_has ls 1 [(0, .ref a)] := hl
  refine lv_aload_n hx hb d_I_canBeGivenUp_0 rfl (lv_at hl 0 rfl) ?_
  refine va_get (D := D) (ci := 2) (v := .int f3) (C := R_I) (T := F_I) (N := 10) hx hb hG in_I hown hK hP 0 rfl rfl 3 (by decide) (hG _ kw_292) (fun _ h9 => h9) rfl d_I_canBeGivenUp_1 ?_
  refine lv_if_eq (tgt := 23) hx hb d_I_canBeGivenUp_4 (by decide) (fun c_1 => ?_) (fun c_1 => ?_)
  · refine lv_iconst (v := 1) hx hb d_I_canBeGivenUp_23 (by decide) ?_
    refine lv_goto (tgt := 28) hx hb d_I_canBeGivenUp_24 (by decide) ?_
    exact W.zret (v := 1) (ty := .boolean) hx hb hr (by rfl) (fun t ht hW => ⟨1, rfl, (b2i_t (by ((try simp only [b2i_eq0, Classical.not_not] at c_1); simp only [i32_eq, i32_lt, i32_le, i32_nm1, i32_n0, i32_n1, i32_n2, i32_n3, i32_n4, i32_n5, i32_n6, i32_n7, i32_n8, i32_n9, i32_n10, i32_n20, i32_n30, i32_n31, i32_n39, i32_n40, i32_n49, i32_n50, i32_n100, i32_n160, i32_n1000, i32_n100000, i32_n1000000] at c_1 ⊢; omega))).symm, ht⟩) (fun q h => nomatch h) d_I_canBeGivenUp_28
  · refine lv_aload_n hx hb d_I_canBeGivenUp_7 rfl (lv_at hl 0 rfl) ?_
    refine va_get (D := D) (ci := 2) (v := .int f3) (C := R_I) (T := F_I) (N := 10) hx hb hG in_I hown hK hP 0 rfl rfl 3 (by decide) (hG _ kw_292) (fun _ h9 => h9) rfl d_I_canBeGivenUp_8 ?_
    refine lv_iconst (v := 1) hx hb d_I_canBeGivenUp_11 (by decide) ?_
    refine lv_icmp_eq (tgt := 23) hx hb d_I_canBeGivenUp_12 (by decide) (fun c_2 => ?_) (fun c_2 => ?_)
    · refine lv_iconst (v := 1) hx hb d_I_canBeGivenUp_23 (by decide) ?_
      refine lv_goto (tgt := 28) hx hb d_I_canBeGivenUp_24 (by decide) ?_
      exact W.zret (v := 1) (ty := .boolean) hx hb hr (by rfl) (fun t ht hW => ⟨1, rfl, (b2i_t (by ((try simp only [b2i_eq0, Classical.not_not] at c_1 c_2); simp only [i32_eq, i32_lt, i32_le, i32_nm1, i32_n0, i32_n1, i32_n2, i32_n3, i32_n4, i32_n5, i32_n6, i32_n7, i32_n8, i32_n9, i32_n10, i32_n20, i32_n30, i32_n31, i32_n39, i32_n40, i32_n49, i32_n50, i32_n100, i32_n160, i32_n1000, i32_n100000, i32_n1000000] at c_1 c_2 ⊢; omega))).symm, ht⟩) (fun q h => nomatch h) d_I_canBeGivenUp_28
    · refine lv_aload_n hx hb d_I_canBeGivenUp_15 rfl (lv_at hl 0 rfl) ?_
      refine va_get (D := D) (ci := 2) (v := .int f3) (C := R_I) (T := F_I) (N := 10) hx hb hG in_I hown hK hP 0 rfl rfl 3 (by decide) (hG _ kw_292) (fun _ h9 => h9) rfl d_I_canBeGivenUp_16 ?_
      refine lv_iconst (v := 4) hx hb d_I_canBeGivenUp_19 (by decide) ?_
      refine lv_icmp_ne (tgt := 27) hx hb d_I_canBeGivenUp_20 (by decide) (fun c_3 => ?_) (fun c_3 => ?_)
      · refine lv_iconst (v := 0) hx hb d_I_canBeGivenUp_27 (by decide) ?_
        exact W.zret (v := 0) (ty := .boolean) hx hb hr (by rfl) (fun t ht hW => ⟨0, rfl, (b2i_f (by ((try simp only [b2i_eq0, Classical.not_not] at c_1 c_2 c_3); simp only [i32_eq, i32_lt, i32_le, i32_nm1, i32_n0, i32_n1, i32_n2, i32_n3, i32_n4, i32_n5, i32_n6, i32_n7, i32_n8, i32_n9, i32_n10, i32_n20, i32_n30, i32_n31, i32_n39, i32_n40, i32_n49, i32_n50, i32_n100, i32_n160, i32_n1000, i32_n100000, i32_n1000000] at c_1 c_2 c_3 ⊢; omega))).symm, ht⟩) (fun q h => nomatch h) d_I_canBeGivenUp_28
      · refine lv_iconst (v := 1) hx hb d_I_canBeGivenUp_23 (by decide) ?_
        refine lv_goto (tgt := 28) hx hb d_I_canBeGivenUp_24 (by decide) ?_
        exact W.zret (v := 1) (ty := .boolean) hx hb hr (by rfl) (fun t ht hW => ⟨1, rfl, (b2i_t (by ((try simp only [b2i_eq0, Classical.not_not] at c_1 c_2 c_3); simp only [i32_eq, i32_lt, i32_le, i32_nm1, i32_n0, i32_n1, i32_n2, i32_n3, i32_n4, i32_n5, i32_n6, i32_n7, i32_n8, i32_n9, i32_n10, i32_n20, i32_n30, i32_n31, i32_n39, i32_n40, i32_n49, i32_n50, i32_n100, i32_n160, i32_n1000, i32_n100000, i32_n1000000] at c_1 c_2 c_3 ⊢; omega))).symm, ht⟩) (fun q h => nomatch h) d_I_canBeGivenUp_28
set_option maxHeartbeats 4000000 in
set_option maxRecDepth 100000 in
theorem c_I_hasAppointment (l : Launch) (D : va_G) (tys : List (ClassId × FieldType)) (a : Nat) (f0 f1 f2 f3 f4 f5 f6 f7 f8 f9 : Int32) : Met l y_I_hasAppointment (Cond.code y_I_hasAppointment b_I_hasAppointment 1 (some .boolean) :: GW) ({ frames := 0, cells := 0, slots := 0, locals := 0 }) (va_Pc [.ref a] (rd_B D tys [(a, .inr (2, [.int f0, .int f1, .int f2, .int f3, .int f4, .int f5, .int f6, .int f7, .int f8, .int f9]))])) (vp_Si (fun r => r = b2i (f3 = 1 ∨ f3 = 2))) 0 0 (fun _ => False) := by
  refine Met.ofW (cc := b_I_hasAppointment) (maxL := 1) (ret := (some .boolean)) (by decide) rfl ?_
  intro p e s m args below meth c s₁ B hml hv
  obtain ⟨rfl, hP, hK⟩ := hv
  have hx := B.exec
  have hb := B.bytes
  have hr := B.returns
  have hts := atoms_spec (ws := Cond.code y_I_hasAppointment b_I_hasAppointment 1 (some .boolean) :: GW) B.pre
  have hG : ∀ w ∈ GW, w.before _ s = true := fun w h => hts w (List.mem_cons_of_mem _ h)
  have hown : s.vm.findClass R_I = some m.cls := findClass_of_methodNamed B.named
  have hlocks := B.notSynchronized
  have hl := lv_entry ([.ref a]) (n := 1) (Nat.le_of_ble_eq_true rfl)
  rw [lg_entry_eq]
  generalize (lg_sl ([.ref a]) ++ List.replicate (1 - (lg_sl ([.ref a])).length) Slot.unset).toArray = ls at hl ⊢
  have hl : lv_has ls 1 [(0, .ref a)] := hl
  refine lv_aload_n hx hb d_I_hasAppointment_0 rfl (lv_at hl 0 rfl) ?_
  refine va_get (D := D) (ci := 2) (v := .int f3) (C := R_I) (T := F_I) (N := 10) hx hb hG in_I hown hK hP 0 rfl rfl 3 (by decide) (hG _ kw_292) (fun _ h9 => h9) rfl d_I_hasAppointment_1 ?_
  refine lv_iconst (v := 1) hx hb d_I_hasAppointment_4 (by decide) ?_
  refine lv_icmp_eq (tgt := 16) hx hb d_I_hasAppointment_5 (by decide) (fun c_1 => ?_) (fun c_1 => ?_)
  · refine lv_iconst (v := 1) hx hb d_I_hasAppointment_16 (by decide) ?_
    refine lv_goto (tgt := 21) hx hb d_I_hasAppointment_17 (by decide) ?_
    exact W.zret (v := 1) (ty := .boolean) hx hb hr (by rfl) (fun t ht hW => ⟨1, rfl, (b2i_t (by ((try simp only [b2i_eq0, Classical.not_not] at c_1); simp only [i32_eq, i32_lt, i32_le, i32_nm1, i32_n0, i32_n1, i32_n2, i32_n3, i32_n4, i32_n5, i32_n6, i32_n7, i32_n8, i32_n9, i32_n10, i32_n20, i32_n30, i32_n31, i32_n39, i32_n40, i32_n49, i32_n50, i32_n100, i32_n160, i32_n1000, i32_n100000, i32_n1000000] at c_1 ⊢; omega))).symm, ht⟩) (fun q h => nomatch h) d_I_hasAppointment_21
  · refine lv_aload_n hx hb d_I_hasAppointment_8 rfl (lv_at hl 0 rfl) ?_
    refine va_get (D := D) (ci := 2) (v := .int f3) (C := R_I) (T := F_I) (N := 10) hx hb hG in_I hown hK hP 0 rfl rfl 3 (by decide) (hG _ kw_292) (fun _ h9 => h9) rfl d_I_hasAppointment_9 ?_
    refine lv_iconst (v := 2) hx hb d_I_hasAppointment_12 (by decide) ?_
    refine lv_icmp_ne (tgt := 20) hx hb d_I_hasAppointment_13 (by decide) (fun c_2 => ?_) (fun c_2 => ?_)
    · refine lv_iconst (v := 0) hx hb d_I_hasAppointment_20 (by decide) ?_
      exact W.zret (v := 0) (ty := .boolean) hx hb hr (by rfl) (fun t ht hW => ⟨0, rfl, (b2i_f (by ((try simp only [b2i_eq0, Classical.not_not] at c_1 c_2); simp only [i32_eq, i32_lt, i32_le, i32_nm1, i32_n0, i32_n1, i32_n2, i32_n3, i32_n4, i32_n5, i32_n6, i32_n7, i32_n8, i32_n9, i32_n10, i32_n20, i32_n30, i32_n31, i32_n39, i32_n40, i32_n49, i32_n50, i32_n100, i32_n160, i32_n1000, i32_n100000, i32_n1000000] at c_1 c_2 ⊢; omega))).symm, ht⟩) (fun q h => nomatch h) d_I_hasAppointment_21
    · refine lv_iconst (v := 1) hx hb d_I_hasAppointment_16 (by decide) ?_
      refine lv_goto (tgt := 21) hx hb d_I_hasAppointment_17 (by decide) ?_
      exact W.zret (v := 1) (ty := .boolean) hx hb hr (by rfl) (fun t ht hW => ⟨1, rfl, (b2i_t (by ((try simp only [b2i_eq0, Classical.not_not] at c_1 c_2); simp only [i32_eq, i32_lt, i32_le, i32_nm1, i32_n0, i32_n1, i32_n2, i32_n3, i32_n4, i32_n5, i32_n6, i32_n7, i32_n8, i32_n9, i32_n10, i32_n20, i32_n30, i32_n31, i32_n39, i32_n40, i32_n49, i32_n50, i32_n100, i32_n160, i32_n1000, i32_n100000, i32_n1000000] at c_1 c_2 ⊢; omega))).symm, ht⟩) (fun q h => nomatch h) d_I_hasAppointment_21
set_option maxHeartbeats 4000000 in
set_option maxRecDepth 100000 in
theorem c_I_takes (l : Launch) (D : va_G) (tys : List (ClassId × FieldType)) (a : Nat) (f0 f1 f2 f3 f4 f5 f6 f7 f8 f9 : Int32) (p0 p1 p2 : Int32) : Met l y_I_takes (Cond.code y_I_takes b_I_takes 4 (some .boolean) :: GW) ({ frames := 1, cells := 0, slots := 0, locals := 32 }) (va_Pc [.ref a, .int p0, .int p1, .int p2] (rd_B D tys [(a, .inr (2, [.int f0, .int f1, .int f2, .int f3, .int f4, .int f5, .int f6, .int f7, .int f8, .int f9]))])) (vp_Si (fun r => r = b2i ((f3 = 1 ∨ f3 = 2) ∧ f5 = p0 ∧ f6 < p2 ∧ p1 < f7))) 0 0 (fun _ => False) := by
  refine Met.ofW (cc := b_I_takes) (maxL := 4) (ret := (some .boolean)) (by decide) rfl ?_
  intro p e s m args below meth c s₁ B hml hv
  obtain ⟨rfl, hP, hK⟩ := hv
  have hx := B.exec
  have hb := B.bytes
  have hr := B.returns
  have hts := atoms_spec (ws := Cond.code y_I_takes b_I_takes 4 (some .boolean) :: GW) B.pre
  have hG : ∀ w ∈ GW, w.before _ s = true := fun w h => hts w (List.mem_cons_of_mem _ h)
  have hown : s.vm.findClass R_I = some m.cls := findClass_of_methodNamed B.named
  have hlocks := B.notSynchronized
  have hl := lv_entry ([.ref a, .int p0, .int p1, .int p2]) (n := 4) (Nat.le_of_ble_eq_true rfl)
  rw [lg_entry_eq]
  generalize (lg_sl ([.ref a, .int p0, .int p1, .int p2]) ++ List.replicate (4 - (lg_sl ([.ref a, .int p0, .int p1, .int p2])).length) Slot.unset).toArray = ls at hl ⊢
  have hl : lv_has ls 4 [(0, .ref a), (1, .int p0), (2, .int p1), (3, .int p2)] := hl
  refine lv_aload_n hx hb d_I_takes_0 rfl (lv_at hl 0 rfl) ?_
  refine vp_callSi (W.runV (As := []) (rest := []) ⟨hx, hb, hml, hown, hts⟩ (c_I_hasAppointment l D tys a f0 f1 f2 f3 f4 f5 f6 f7 f8 f9) (cwV 0 hts (gw_V kw_403 kw_404 kw_405 kw_12 kw_406) rfl rfl rfl (by decide +kernel) ⟨Nat.le_of_ble_eq_true rfl, Nat.le_of_ble_eq_true rfl⟩) (rd_V hP hK (va_recv hK hP (ci := 2) (q0 := 0) rfl rfl)) rfl rfl hl.1 rfl (lv_room (Nat.le_of_ble_eq_true rfl)) d_I_takes_1 ⟨Nat.zero_le _, Nat.zero_le _⟩) (fun r_1 h_2 => ?_)
  subst h_2
  refine lv_if_eq (tgt := 35) hx hb d_I_takes_4 (by decide) (fun c_3 => ?_) (fun c_3 => ?_)
  · refine lv_iconst (v := 0) hx hb d_I_takes_35 (by decide) ?_
    exact W.zret (v := 0) (ty := .boolean) hx hb hr (by rfl) (fun t ht hW => ⟨0, rfl, (b2i_f (by ((try simp only [b2i_eq0, Classical.not_not] at c_3); simp only [i32_eq, i32_lt, i32_le, i32_nm1, i32_n0, i32_n1, i32_n2, i32_n3, i32_n4, i32_n5, i32_n6, i32_n7, i32_n8, i32_n9, i32_n10, i32_n20, i32_n30, i32_n31, i32_n39, i32_n40, i32_n49, i32_n50, i32_n100, i32_n160, i32_n1000, i32_n100000, i32_n1000000] at c_3 ⊢; omega))).symm, ht⟩) (fun q h => nomatch h) d_I_takes_36
  · refine lv_aload_n hx hb d_I_takes_7 rfl (lv_at hl 0 rfl) ?_
    refine va_get (D := D) (ci := 2) (v := .int f5) (C := R_I) (T := F_I) (N := 10) hx hb hG in_I hown hK hP 0 rfl rfl 5 (by decide) (hG _ kw_296) (fun _ h9 => h9) rfl d_I_takes_8 ?_
    refine lv_iload_n hx hb d_I_takes_11 rfl (lv_at hl 1 rfl) ?_
    refine lv_icmp_ne (tgt := 35) hx hb d_I_takes_12 (by decide) (fun c_4 => ?_) (fun c_4 => ?_)
    · refine lv_iconst (v := 0) hx hb d_I_takes_35 (by decide) ?_
      exact W.zret (v := 0) (ty := .boolean) hx hb hr (by rfl) (fun t ht hW => ⟨0, rfl, (b2i_f (by ((try simp only [b2i_eq0, Classical.not_not] at c_3 c_4); simp only [i32_eq, i32_lt, i32_le, i32_nm1, i32_n0, i32_n1, i32_n2, i32_n3, i32_n4, i32_n5, i32_n6, i32_n7, i32_n8, i32_n9, i32_n10, i32_n20, i32_n30, i32_n31, i32_n39, i32_n40, i32_n49, i32_n50, i32_n100, i32_n160, i32_n1000, i32_n100000, i32_n1000000] at c_3 c_4 ⊢; omega))).symm, ht⟩) (fun q h => nomatch h) d_I_takes_36
    · refine lv_aload_n hx hb d_I_takes_15 rfl (lv_at hl 0 rfl) ?_
      refine va_get (D := D) (ci := 2) (v := .int f6) (C := R_I) (T := F_I) (N := 10) hx hb hG in_I hown hK hP 0 rfl rfl 6 (by decide) (hG _ kw_298) (fun _ h9 => h9) rfl d_I_takes_16 ?_
      refine lv_iload_n hx hb d_I_takes_19 rfl (lv_at hl 3 rfl) ?_
      refine lv_icmp_ge (tgt := 35) hx hb d_I_takes_20 (by decide) (fun c_5 => ?_) (fun c_5 => ?_)
      · refine lv_iconst (v := 0) hx hb d_I_takes_35 (by decide) ?_
        exact W.zret (v := 0) (ty := .boolean) hx hb hr (by rfl) (fun t ht hW => ⟨0, rfl, (b2i_f (by ((try simp only [b2i_eq0, Classical.not_not] at c_3 c_4 c_5); simp only [i32_eq, i32_lt, i32_le, i32_nm1, i32_n0, i32_n1, i32_n2, i32_n3, i32_n4, i32_n5, i32_n6, i32_n7, i32_n8, i32_n9, i32_n10, i32_n20, i32_n30, i32_n31, i32_n39, i32_n40, i32_n49, i32_n50, i32_n100, i32_n160, i32_n1000, i32_n100000, i32_n1000000] at c_3 c_4 c_5 ⊢; omega))).symm, ht⟩) (fun q h => nomatch h) d_I_takes_36
      · refine lv_iload_n hx hb d_I_takes_23 rfl (lv_at hl 2 rfl) ?_
        refine lv_aload_n hx hb d_I_takes_24 rfl (lv_at hl 0 rfl) ?_
        refine va_get (D := D) (ci := 2) (v := .int f7) (C := R_I) (T := F_I) (N := 10) hx hb hG in_I hown hK hP 0 rfl rfl 7 (by decide) (hG _ kw_300) (fun _ h9 => h9) rfl d_I_takes_25 ?_
        refine lv_icmp_ge (tgt := 35) hx hb d_I_takes_28 (by decide) (fun c_6 => ?_) (fun c_6 => ?_)
        · refine lv_iconst (v := 0) hx hb d_I_takes_35 (by decide) ?_
          exact W.zret (v := 0) (ty := .boolean) hx hb hr (by rfl) (fun t ht hW => ⟨0, rfl, (b2i_f (by ((try simp only [b2i_eq0, Classical.not_not] at c_3 c_4 c_5 c_6); simp only [i32_eq, i32_lt, i32_le, i32_nm1, i32_n0, i32_n1, i32_n2, i32_n3, i32_n4, i32_n5, i32_n6, i32_n7, i32_n8, i32_n9, i32_n10, i32_n20, i32_n30, i32_n31, i32_n39, i32_n40, i32_n49, i32_n50, i32_n100, i32_n160, i32_n1000, i32_n100000, i32_n1000000] at c_3 c_4 c_5 c_6 ⊢; omega))).symm, ht⟩) (fun q h => nomatch h) d_I_takes_36
        · refine lv_iconst (v := 1) hx hb d_I_takes_31 (by decide) ?_
          refine lv_goto (tgt := 36) hx hb d_I_takes_32 (by decide) ?_
          exact W.zret (v := 1) (ty := .boolean) hx hb hr (by rfl) (fun t ht hW => ⟨1, rfl, (b2i_t (by ((try simp only [b2i_eq0, Classical.not_not] at c_3 c_4 c_5 c_6); simp only [i32_eq, i32_lt, i32_le, i32_nm1, i32_n0, i32_n1, i32_n2, i32_n3, i32_n4, i32_n5, i32_n6, i32_n7, i32_n8, i32_n9, i32_n10, i32_n20, i32_n30, i32_n31, i32_n39, i32_n40, i32_n49, i32_n50, i32_n100, i32_n160, i32_n1000, i32_n100000, i32_n1000000] at c_3 c_4 c_5 c_6 ⊢; omega))).symm, ht⟩) (fun q h => nomatch h) d_I_takes_36
set_option maxHeartbeats 4000000 in
set_option maxRecDepth 100000 in
theorem c_I_lateTimes (l : Launch) (D : va_G) (tys : List (ClassId × FieldType)) (a : Nat) (f0 f1 f2 f3 f4 f5 f6 f7 f8 f9 : Int32) (p0 : Int32) : Met l y_I_lateTimes (Cond.code y_I_lateTimes b_I_lateTimes 2 (some .int) :: GW) ({ frames := 0, cells := 0, slots := 0, locals := 0 }) (va_Pc [.ref a, .int p0] (rd_B D tys [(a, .inr (2, [.int f0, .int f1, .int f2, .int f3, .int f4, .int f5, .int f6, .int f7, .int f8, .int f9]))])) (vp_Si (fun r => r = if p0 ≤ f2 then 0 else (p0 - f2 - 1) / 100 + 1)) 0 0 (fun _ => False) := by
  refine Met.ofW (cc := b_I_lateTimes) (maxL := 2) (ret := (some .int)) (by decide) rfl ?_
  intro p e s m args below meth c s₁ B hml hv
  obtain ⟨rfl, hP, hK⟩ := hv
  have hx := B.exec
  have hb := B.bytes
  have hr := B.returns
  have hts := atoms_spec (ws := Cond.code y_I_lateTimes b_I_lateTimes 2 (some .int) :: GW) B.pre
  have hG : ∀ w ∈ GW, w.before _ s = true := fun w h => hts w (List.mem_cons_of_mem _ h)
  have hown : s.vm.findClass R_I = some m.cls := findClass_of_methodNamed B.named
  have hlocks := B.notSynchronized
  have hl := lv_entry ([.ref a, .int p0]) (n := 2) (Nat.le_of_ble_eq_true rfl)
  rw [lg_entry_eq]
  generalize (lg_sl ([.ref a, .int p0]) ++ List.replicate (2 - (lg_sl ([.ref a, .int p0])).length) Slot.unset).toArray = ls at hl ⊢
  have hl : lv_has ls 2 [(0, .ref a), (1, .int p0)] := hl
  refine lv_iload_n hx hb d_I_lateTimes_0 rfl (lv_at hl 1 rfl) ?_
  refine lv_aload_n hx hb d_I_lateTimes_1 rfl (lv_at hl 0 rfl) ?_
  refine va_get (D := D) (ci := 2) (v := .int f2) (C := R_I) (T := F_I) (N := 10) hx hb hG in_I hown hK hP 0 rfl rfl 2 (by decide) (hG _ kw_291) (fun _ h9 => h9) rfl d_I_lateTimes_2 ?_
  refine lv_icmp_gt (tgt := 12) hx hb d_I_lateTimes_5 (by decide) (fun c_1 => ?_) (fun c_1 => ?_)
  · refine lv_iload_n hx hb d_I_lateTimes_12 rfl (lv_at hl 1 rfl) ?_
    refine lv_aload_n hx hb d_I_lateTimes_13 rfl (lv_at hl 0 rfl) ?_
    refine va_get (D := D) (ci := 2) (v := .int f2) (C := R_I) (T := F_I) (N := 10) hx hb hG in_I hown hK hP 0 rfl rfl 2 (by decide) (hG _ kw_291) (fun _ h9 => h9) rfl d_I_lateTimes_14 ?_
    refine lv_isub hx hb d_I_lateTimes_17 ?_
    refine lv_iconst (v := 1) hx hb d_I_lateTimes_18 (by decide) ?_
    refine lv_isub hx hb d_I_lateTimes_19 ?_
    refine lv_bipush (v := 100) hx hb d_I_lateTimes_20 (by decide) ?_
    refine lv_idiv hx hb d_I_lateTimes_22 (by decide) ?_
    refine lv_iconst (v := 1) hx hb d_I_lateTimes_23 (by decide) ?_
    refine lv_iadd hx hb d_I_lateTimes_24 ?_
    exact W.iret (v := (((p0 - f2) - 1) / 100) + 1) hx hb hr (fun t ht hW => ⟨(((p0 - f2) - 1) / 100) + 1, rfl, (if_neg (by ((try simp only [b2i_eq0, Classical.not_not] at c_1); simp only [i32_eq, i32_lt, i32_le, i32_nm1, i32_n0, i32_n1, i32_n2, i32_n3, i32_n4, i32_n5, i32_n6, i32_n7, i32_n8, i32_n9, i32_n10, i32_n20, i32_n30, i32_n31, i32_n39, i32_n40, i32_n49, i32_n50, i32_n100, i32_n160, i32_n1000, i32_n100000, i32_n1000000] at c_1 ⊢; omega))).symm, ht⟩) (fun q h => nomatch h) d_I_lateTimes_25
  · refine lv_iconst (v := 0) hx hb d_I_lateTimes_8 (by decide) ?_
    refine lv_goto (tgt := 25) hx hb d_I_lateTimes_9 (by decide) ?_
    exact W.iret (v := 0) hx hb hr (fun t ht hW => ⟨0, rfl, (if_pos (by ((try simp only [b2i_eq0, Classical.not_not] at c_1); simp only [i32_eq, i32_lt, i32_le, i32_nm1, i32_n0, i32_n1, i32_n2, i32_n3, i32_n4, i32_n5, i32_n6, i32_n7, i32_n8, i32_n9, i32_n10, i32_n20, i32_n30, i32_n31, i32_n39, i32_n40, i32_n49, i32_n50, i32_n100, i32_n160, i32_n1000, i32_n100000, i32_n1000000] at c_1 ⊢; omega))).symm, ht⟩) (fun q h => nomatch h) d_I_lateTimes_25
