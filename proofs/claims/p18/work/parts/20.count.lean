def cntOf (σ : Nat → Nat → Int32) (nm : Nat) (d w : Int32) : Int32 := if 0 ≤ d ∧ d ≤ 9 then (if w = 1 then σ 2 d.toNatClampNeg else if w = 2 then σ 3 d.toNatClampNeg else if w = 3 then σ 4 d.toNatClampNeg else if w = 4 then cntS σ d 1 nm else -1) else -1
def cntF (σ : Nat → Nat → Int32) (n nm : Nat) (w : Int32) : Int32 := if w = 0 then nI n else if w = 1 then nI nm else if w = 2 then σ 0 0 else if w < 10 then -1 else cntOf σ nm (w - w / 10 * 10) (w / 10)
set_option maxHeartbeats 4000000 in
set_option maxRecDepth 100000 in
theorem c_C_countOf (l : Launch) (D : va_G) (cs : Nat → ClassId) (ad : Nat → Nat) (σ : Nat → Nat → Int32) (n nm ci cj E : Nat) (hI : Iv n nm ci cj) (hJ : Jv σ n nm) (p0 p1 : Int32) : Met l y_C_countOf (Cond.code y_C_countOf b_C_countOf 3 (some .int) :: GW) ({ frames := 4, cells := 0, slots := 0, locals := 128 }) (va_Pc [.ref (ad 0), .int p0, .int p1] (rd_B D (tys_ cs) (wC cs ad σ n nm ci cj E))) (vp_Si (fun r => r = cntOf σ nm p0 p1)) 0 0 (fun _ => False) := by
  refine Met.ofW (cc := b_C_countOf) (maxL := 3) (ret := (some .int)) (by decide) rfl ?_
  intro p e s m args below meth c s₁ B hml hv
  obtain ⟨rfl, hP, hK⟩ := hv
  have hx := B.exec
  have hb := B.bytes
  have hr := B.returns
  have hts := atoms_spec (ws := Cond.code y_C_countOf b_C_countOf 3 (some .int) :: GW) B.pre
  have hG : ∀ w ∈ GW, w.before _ s = true := fun w h => hts w (List.mem_cons_of_mem _ h)
  have hown : s.vm.findClass R_C = some m.cls := findClass_of_methodNamed B.named
  have hlocks := B.notSynchronized
  have hl := lv_entry ([.ref (ad 0), .int p0, .int p1]) (n := 3) (Nat.le_of_ble_eq_true rfl)
  rw [lg_entry_eq]
  generalize (lg_sl ([.ref (ad 0), .int p0, .int p1]) ++ List.replicate (3 - (lg_sl ([.ref (ad 0), .int p0, .int p1])).length) Slot.unset).toArray = ls at hl ⊢
  have hl : lv_has ls 3 [(0, .ref (ad 0)), (1, .int p0), (2, .int p1)] := hl
  refine lv_iload_n hx hb d_C_countOf_0 rfl (lv_at hl 1 rfl) ?_
  refine vp_callSi (W.runS (As := [.int p0]) (rest := []) ⟨hx, hb, hml, hown, hts⟩ (c_C_isDeclaration l p0) (va_cwS 1 hts (gw_S kw_143 kw_144 kw_1 kw_145) rfl rfl rfl (by decide +kernel) ⟨Nat.le_of_ble_eq_true rfl, Nat.le_of_ble_eq_true rfl⟩) ⟨fun _ _ _ _ q => q, fun U _ _ => ⟨rfl, trivial⟩⟩ rfl rfl hl.1 rfl (lv_room (Nat.le_of_ble_eq_true rfl)) d_C_countOf_1 ⟨Nat.zero_le _, Nat.zero_le _⟩) (fun r_1 h_2 => ?_)
  subst h_2
  refine lv_if_ne (tgt := 9) hx hb d_C_countOf_4 (by decide) (fun c_3 => ?_) (fun c_3 => ?_)
  · refine lv_iload_n hx hb d_C_countOf_9 rfl (lv_at hl 2 rfl) ?_
    by_cases e_4 : p1 = 1
    · subst e_4
      refine lv_tableIn (x := 1) (tgt := 40) hx hb d_C_countOf_10 (by decide) (by decide) rfl (by decide) ?_
      refine lv_aload_n hx hb d_C_countOf_40 rfl (lv_at hl 0 rfl) ?_
      refine rl_get (r := 0) (ci := 1) (v := .ref (ad 6)) (C := R_C) (T := F_C) (N := 10) hx hb hG in_C hown hK hP (RC_f (by decide)) gC_0 rfl 3 (by decide) kw_62 (fun _ h9 => h9) rfl d_C_countOf_41 ?_
      refine lv_iload_n hx hb d_C_countOf_44 rfl (lv_at hl 1 rfl) ?_
      refine rl_iald (r := 6) (i := p0) hx hb hK hP (RC_f (by decide)) 0 gC_6 rfl (vp_in_iff.mpr (by ((try simp only [b2i_eq0, Classical.not_not] at c_3); simp only [i32_eq, i32_lt, i32_le, i32_nm1, i32_n0, i32_n1, i32_n2, i32_n3, i32_n4, i32_n5, i32_n6, i32_n7, i32_n8, i32_n9, i32_n10, i32_n20, i32_n30, i32_n31, i32_n39, i32_n40, i32_n49, i32_n50, i32_n100, i32_n160, i32_n1000, i32_n100000, i32_n1000000] at c_3 ⊢; omega))) d_C_countOf_45 ?_
      exact W.iret (v := σ 2 p0.toNatClampNeg) hx hb hr (fun t ht hW => ⟨σ 2 p0.toNatClampNeg, rfl, (by unfold cntOf; rw [if_pos (Classical.not_not.mp (fun h => c_3 (b2i_eq0.mpr h)))]; rfl), ht⟩) (fun q h => nomatch h) d_C_countOf_46
    by_cases e_5 : p1 = 2
    · subst e_5
      refine lv_tableIn (x := 2) (tgt := 47) hx hb d_C_countOf_10 (by decide) (by decide) rfl (by decide) ?_
      refine lv_aload_n hx hb d_C_countOf_47 rfl (lv_at hl 0 rfl) ?_
      refine rl_get (r := 0) (ci := 1) (v := .ref (ad 7)) (C := R_C) (T := F_C) (N := 10) hx hb hG in_C hown hK hP (RC_f (by decide)) gC_0 rfl 4 (by decide) kw_63 (fun _ h9 => h9) rfl d_C_countOf_48 ?_
      refine lv_iload_n hx hb d_C_countOf_51 rfl (lv_at hl 1 rfl) ?_
      refine rl_iald (r := 7) (i := p0) hx hb hK hP (RC_f (by decide)) 0 gC_7 rfl (vp_in_iff.mpr (by ((try simp only [b2i_eq0, Classical.not_not] at c_3 e_4); simp only [i32_eq, i32_lt, i32_le, i32_nm1, i32_n0, i32_n1, i32_n2, i32_n3, i32_n4, i32_n5, i32_n6, i32_n7, i32_n8, i32_n9, i32_n10, i32_n20, i32_n30, i32_n31, i32_n39, i32_n40, i32_n49, i32_n50, i32_n100, i32_n160, i32_n1000, i32_n100000, i32_n1000000] at c_3 e_4 ⊢; omega))) d_C_countOf_52 ?_
      exact W.iret (v := σ 3 p0.toNatClampNeg) hx hb hr (fun t ht hW => ⟨σ 3 p0.toNatClampNeg, rfl, (by unfold cntOf; rw [if_pos (Classical.not_not.mp (fun h => c_3 (b2i_eq0.mpr h)))]; rfl), ht⟩) (fun q h => nomatch h) d_C_countOf_53
    by_cases e_6 : p1 = 3
    · subst e_6
      refine lv_tableIn (x := 3) (tgt := 54) hx hb d_C_countOf_10 (by decide) (by decide) rfl (by decide) ?_
      refine lv_aload_n hx hb d_C_countOf_54 rfl (lv_at hl 0 rfl) ?_
      refine rl_get (r := 0) (ci := 1) (v := .ref (ad 8)) (C := R_C) (T := F_C) (N := 10) hx hb hG in_C hown hK hP (RC_f (by decide)) gC_0 rfl 5 (by decide) kw_64 (fun _ h9 => h9) rfl d_C_countOf_55 ?_
      refine lv_iload_n hx hb d_C_countOf_58 rfl (lv_at hl 1 rfl) ?_
      refine rl_iald (r := 8) (i := p0) hx hb hK hP (RC_f (by decide)) 0 gC_8 rfl (vp_in_iff.mpr (by ((try simp only [b2i_eq0, Classical.not_not] at c_3 e_4 e_5); simp only [i32_eq, i32_lt, i32_le, i32_nm1, i32_n0, i32_n1, i32_n2, i32_n3, i32_n4, i32_n5, i32_n6, i32_n7, i32_n8, i32_n9, i32_n10, i32_n20, i32_n30, i32_n31, i32_n39, i32_n40, i32_n49, i32_n50, i32_n100, i32_n160, i32_n1000, i32_n100000, i32_n1000000] at c_3 e_4 e_5 ⊢; omega))) d_C_countOf_59 ?_
      exact W.iret (v := σ 4 p0.toNatClampNeg) hx hb hr (fun t ht hW => ⟨σ 4 p0.toNatClampNeg, rfl, (by unfold cntOf; rw [if_pos (Classical.not_not.mp (fun h => c_3 (b2i_eq0.mpr h)))]; rfl), ht⟩) (fun q h => nomatch h) d_C_countOf_60
    by_cases e_7 : p1 = 4
    · subst e_7
      refine lv_tableIn (x := 4) (tgt := 61) hx hb d_C_countOf_10 (by decide) (by decide) rfl (by decide) ?_
      refine lv_aload_n hx hb d_C_countOf_61 rfl (lv_at hl 0 rfl) ?_
      refine lv_iload_n hx hb d_C_countOf_62 rfl (lv_at hl 1 rfl) ?_
      refine lv_iconst (v := 1) hx hb d_C_countOf_63 (by decide) ?_
      refine vp_callSi (W.runV (As := [.int p0, .int 1]) (rest := []) ⟨hx, hb, hml, hown, hts⟩ (c_C_muchDifferent l D cs ad σ n nm ci cj E hI hJ p0 1) (cwV 2 hts (gw_V kw_169 kw_171 ks_0_3 kw_1 kw_172) rfl rfl rfl (by decide +kernel) ⟨Nat.le_of_ble_eq_true rfl, Nat.le_of_ble_eq_true rfl⟩) (rd_V hP hK (rl_recv hK hP (RC_f (by decide)) gC_0 rfl)) rfl rfl hl.1 rfl (lv_room (Nat.le_of_ble_eq_true rfl)) d_C_countOf_64 ⟨Nat.zero_le _, Nat.zero_le _⟩) (fun r_8 h_9 => ?_)
      subst h_9
      exact W.iret (v := cntS σ p0 1 nm) hx hb hr (fun t ht hW => ⟨cntS σ p0 1 nm, rfl, (by unfold cntOf; rw [if_pos (Classical.not_not.mp (fun h => c_3 (b2i_eq0.mpr h)))]; rfl), ht⟩) (fun q h => nomatch h) d_C_countOf_67
    refine lv_tableOut (tgt := 68) hx hb d_C_countOf_10 (by simp only [i32_eq, i32_lt, i32_le, i32_nm1, i32_n0, i32_n1, i32_n2, i32_n3, i32_n4, i32_n5, i32_n6, i32_n7, i32_n8, i32_n9, i32_n10, i32_n20, i32_n30, i32_n31, i32_n39, i32_n40, i32_n49, i32_n50, i32_n100, i32_n160, i32_n1000, i32_n100000, i32_n1000000] at e_4 e_5 e_6 e_7 ⊢; omega) (by decide) ?_
    refine lv_iconst (v := (-1)) hx hb d_C_countOf_68 (by decide) ?_
    exact W.iret (v := (-1)) hx hb hr (fun t ht hW => ⟨(-1), rfl, (by unfold cntOf; rw [if_pos (Classical.not_not.mp (fun h => c_3 (b2i_eq0.mpr h))), if_neg e_4, if_neg e_5, if_neg e_6, if_neg e_7]), ht⟩) (fun q h => nomatch h) d_C_countOf_69
  · refine lv_iconst (v := (-1)) hx hb d_C_countOf_7 (by decide) ?_
    exact W.iret (v := (-1)) hx hb hr (fun t ht hW => ⟨(-1), rfl, (if_neg (b2i_eq0.mp c_3)).symm, ht⟩) (fun q h => nomatch h) d_C_countOf_8
set_option maxHeartbeats 4000000 in
set_option maxRecDepth 100000 in
theorem c_C_count (l : Launch) (D : va_G) (cs : Nat → ClassId) (ad : Nat → Nat) (σ : Nat → Nat → Int32) (n nm ci cj E : Nat) (hI : Iv n nm ci cj) (hJ : Jv σ n nm) (p0 : Int32) : Met l y_C_count (Cond.code y_C_count b_C_count 2 (some .int) :: GW) ({ frames := 5, cells := 0, slots := 0, locals := 160 }) (va_Pc [.ref (ad 0), .int p0] (rd_B D (tys_ cs) (wC cs ad σ n nm ci cj E))) (vp_Si (fun r => r = cntF σ n nm p0)) 0 0 (fun _ => False) := by
  refine Met.ofW (cc := b_C_count) (maxL := 2) (ret := (some .int)) (by decide) rfl ?_
  intro p e s m args below meth c s₁ B hml hv
  obtain ⟨rfl, hP, hK⟩ := hv
  have hx := B.exec
  have hb := B.bytes
  have hr := B.returns
  have hts := atoms_spec (ws := Cond.code y_C_count b_C_count 2 (some .int) :: GW) B.pre
  have hG : ∀ w ∈ GW, w.before _ s = true := fun w h => hts w (List.mem_cons_of_mem _ h)
  have hown : s.vm.findClass R_C = some m.cls := findClass_of_methodNamed B.named
  have hlocks := B.notSynchronized
  have hl := lv_entry ([.ref (ad 0), .int p0]) (n := 2) (Nat.le_of_ble_eq_true rfl)
  rw [lg_entry_eq]
  generalize (lg_sl ([.ref (ad 0), .int p0]) ++ List.replicate (2 - (lg_sl ([.ref (ad 0), .int p0])).length) Slot.unset).toArray = ls at hl ⊢
  have hl : lv_has ls 2 [(0, .ref (ad 0)), (1, .int p0)] := hl
  refine lv_iload_n hx hb d_C_count_0 rfl (lv_at hl 1 rfl) ?_
  by_cases e_1 : p0 = 0
  · subst e_1
    refine lv_tableIn (x := 0) (tgt := 28) hx hb d_C_count_1 (by decide) (by decide) rfl (by decide) ?_
    refine lv_aload_n hx hb d_C_count_28 rfl (lv_at hl 0 rfl) ?_
    refine rl_get (r := 0) (ci := 1) (v := .ref (ad 1)) (C := R_C) (T := F_C) (N := 10) hx hb hG in_C hown hK hP (RC_f (by decide)) gC_0 rfl 0 (by decide) kw_59 (fun _ h9 => h9) rfl d_C_count_29 ?_
    refine vp_callSi (W.runV (As := []) (rest := []) ⟨hx, hb, hml, hown, hts⟩ (c_Al_size l D (tys_ cs) (ad 1) (.ref (if n = 0 then E else ad 3)) (nI n) (σ 7 0)) (cwV 0 hts (gw_V kw_116 kw_117 kw_118 kw_4 kw_119) rfl rfl rfl (by decide +kernel) ⟨Nat.le_of_ble_eq_true rfl, Nat.le_of_ble_eq_true rfl⟩) (rd_V (rl_one hP (RC_f (by decide)) gC_1') hK (rl_recv hK hP (RC_f (by decide)) gC_1' rfl)) rfl rfl hl.1 rfl (lv_room (Nat.le_of_ble_eq_true rfl)) d_C_count_32 ⟨Nat.zero_le _, Nat.zero_le _⟩) (fun r_2 h_3 => ?_)
    subst h_3
    exact W.iret (v := nI n) hx hb hr (fun t ht hW => ⟨nI n, rfl, rfl, ht⟩) (fun q h => nomatch h) d_C_count_35
  by_cases e_4 : p0 = 1
  · subst e_4
    refine lv_tableIn (x := 1) (tgt := 36) hx hb d_C_count_1 (by decide) (by decide) rfl (by decide) ?_
    refine lv_aload_n hx hb d_C_count_36 rfl (lv_at hl 0 rfl) ?_
    refine rl_get (r := 0) (ci := 1) (v := .ref (ad 2)) (C := R_C) (T := F_C) (N := 10) hx hb hG in_C hown hK hP (RC_f (by decide)) gC_0 rfl 1 (by decide) kw_60 (fun _ h9 => h9) rfl d_C_count_37 ?_
    refine vp_callSi (W.runV (As := []) (rest := []) ⟨hx, hb, hml, hown, hts⟩ (c_Al_size l D (tys_ cs) (ad 2) (.ref (if nm = 0 then E else ad 4)) (nI nm) (σ 7 1)) (cwV 0 hts (gw_V kw_116 kw_117 kw_118 kw_4 kw_119) rfl rfl rfl (by decide +kernel) ⟨Nat.le_of_ble_eq_true rfl, Nat.le_of_ble_eq_true rfl⟩) (rd_V (rl_one hP (RC_f (by decide)) gC_2') hK (rl_recv hK hP (RC_f (by decide)) gC_2' rfl)) rfl rfl hl.1 rfl (lv_room (Nat.le_of_ble_eq_true rfl)) d_C_count_40 ⟨Nat.zero_le _, Nat.zero_le _⟩) (fun r_5 h_6 => ?_)
    subst h_6
    exact W.iret (v := nI nm) hx hb hr (fun t ht hW => ⟨nI nm, rfl, rfl, ht⟩) (fun q h => nomatch h) d_C_count_43
  by_cases e_7 : p0 = 2
  · subst e_7
    refine lv_tableIn (x := 2) (tgt := 44) hx hb d_C_count_1 (by decide) (by decide) rfl (by decide) ?_
    refine lv_aload_n hx hb d_C_count_44 rfl (lv_at hl 0 rfl) ?_
    refine rl_get (r := 0) (ci := 1) (v := .int (σ 0 0)) (C := R_C) (T := F_C) (N := 10) hx hb hG in_C hown hK hP (RC_f (by decide)) gC_0 rfl 9 (by decide) kw_68 (fun _ h9 => h9) rfl d_C_count_45 ?_
    exact W.iret (v := σ 0 0) hx hb hr (fun t ht hW => ⟨σ 0 0, rfl, rfl, ht⟩) (fun q h => nomatch h) d_C_count_48
  refine lv_tableOut (tgt := 49) hx hb d_C_count_1 (by simp only [i32_eq, i32_lt, i32_le, i32_nm1, i32_n0, i32_n1, i32_n2, i32_n3, i32_n4, i32_n5, i32_n6, i32_n7, i32_n8, i32_n9, i32_n10, i32_n20, i32_n30, i32_n31, i32_n39, i32_n40, i32_n49, i32_n50, i32_n100, i32_n160, i32_n1000, i32_n100000, i32_n1000000] at e_1 e_4 e_7 ⊢; omega) (by decide) ?_
  refine lv_iload_n hx hb d_C_count_49 rfl (lv_at hl 1 rfl) ?_
  refine lv_bipush (v := 10) hx hb d_C_count_50 (by decide) ?_
  refine lv_icmp_ge (tgt := 59) hx hb d_C_count_52 (by decide) (fun c_8 => ?_) (fun c_8 => ?_)
  · refine lv_aload_n hx hb d_C_count_59 rfl (lv_at hl 0 rfl) ?_
    refine lv_iload_n hx hb d_C_count_60 rfl (lv_at hl 1 rfl) ?_
    refine lv_bipush (v := 10) hx hb d_C_count_61 (by decide) ?_
    refine lv_irem hx hb d_C_count_63 (by decide) ?_
    refine lv_iload_n hx hb d_C_count_64 rfl (lv_at hl 1 rfl) ?_
    refine lv_bipush (v := 10) hx hb d_C_count_65 (by decide) ?_
    refine lv_idiv hx hb d_C_count_67 (by decide) ?_
    refine vp_callSi (W.runV (As := [.int (p0 - p0 / 10 * 10), .int (p0 / 10)]) (rest := []) ⟨hx, hb, hml, hown, hts⟩ (c_C_countOf l D cs ad σ n nm ci cj E hI hJ (p0 - p0 / 10 * 10) (p0 / 10)) (cwV 2 hts (gw_V kw_165 kw_167 ks_0_2 kw_1 kw_168) rfl rfl rfl (by decide +kernel) ⟨Nat.le_of_ble_eq_true rfl, Nat.le_of_ble_eq_true rfl⟩) (rd_V hP hK (rl_recv hK hP (RC_f (by decide)) gC_0 rfl)) rfl rfl hl.1 rfl (lv_room (Nat.le_of_ble_eq_true rfl)) d_C_count_68 ⟨Nat.zero_le _, Nat.zero_le _⟩) (fun r_9 h_10 => ?_)
    subst h_10
    exact W.iret (v := cntOf σ nm (p0 - p0 / 10 * 10) (p0 / 10)) hx hb hr (fun t ht hW => ⟨cntOf σ nm (p0 - p0 / 10 * 10) (p0 / 10), rfl, (by unfold cntF; rw [if_neg e_1, if_neg e_4, if_neg e_7, if_neg (by simp only [i32_eq, i32_lt, i32_le, i32_nm1, i32_n0, i32_n1, i32_n2, i32_n3, i32_n4, i32_n5, i32_n6, i32_n7, i32_n8, i32_n9, i32_n10, i32_n20, i32_n30, i32_n31, i32_n39, i32_n40, i32_n49, i32_n50, i32_n100, i32_n160, i32_n1000, i32_n100000, i32_n1000000] at c_8 ⊢; omega)]), ht⟩) (fun q h => nomatch h) d_C_count_71
  · refine lv_iconst (v := (-1)) hx hb d_C_count_55 (by decide) ?_
    refine lv_goto (tgt := 71) hx hb d_C_count_56 (by decide) ?_
    exact W.iret (v := (-1)) hx hb hr (fun t ht hW => ⟨(-1), rfl, (by unfold cntF; rw [if_neg e_1, if_neg e_4, if_neg e_7, if_pos (by simp only [i32_eq, i32_lt, i32_le, i32_nm1, i32_n0, i32_n1, i32_n2, i32_n3, i32_n4, i32_n5, i32_n6, i32_n7, i32_n8, i32_n9, i32_n10, i32_n20, i32_n30, i32_n31, i32_n39, i32_n40, i32_n49, i32_n50, i32_n100, i32_n160, i32_n1000, i32_n100000, i32_n1000000] at c_8 ⊢; omega)]), ht⟩) (fun q h => nomatch h) d_C_count_71
