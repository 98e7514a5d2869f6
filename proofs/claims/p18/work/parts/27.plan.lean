set_option maxHeartbeats 4000000 in
set_option maxRecDepth 100000 in
theorem c_I_appoint (l : Launch) (D : va_G) (tys : List (ClassId × FieldType)) (a : Nat) (f0 f1 f2 f3 f4 f5 f6 f7 f8 f9 : Int32) (p0 p1 p2 : Int32) (sz : Nat) : Met l y_I_appoint (Cond.code y_I_appoint b_I_appoint 4 none :: GW) ({ frames := 0, cells := 0, slots := 0, locals := 0 }) (va_Pc [.ref a, .int p0, .int p1, .int p2] (w1_B D tys a (.inr (2, [.int f0, .int f1, .int f2, .int f3, .int f4, .int f5, .int f6, .int f7, .int f8, .int f9])) sz)) (va_Qv (fun _ : Unit => True) (fun _ t => va_P D cls_ [(a, .inr (2, [.int f0, .int f1, .int f2, .int 1, .int f4, .int p0, .int p1, .int p2, .int f8, .int f9]))] t.heap) (va_A [(a, .inr (2, [.int f0, .int f1, .int f2, .int f3, .int f4, .int f5, .int f6, .int f7, .int f8, .int f9]))] sz)) 0 0 (va_A [(a, .inr (2, [.int f0, .int f1, .int f2, .int f3, .int f4, .int f5, .int f6, .int f7, .int f8, .int f9]))] sz) := by
  refine Met.ofW (cc := b_I_appoint) (maxL := 4) (ret := none) (by decide) rfl ?_
  intro p e s m args below meth c s₁ B hml hv
  obtain ⟨rfl, hsz, hP, hK⟩ := hv
  have hx := B.exec
  have hb := B.bytes
  have hr := B.returns
  have hts := atoms_spec (ws := Cond.code y_I_appoint b_I_appoint 4 none :: GW) B.pre
  have hG : ∀ w ∈ GW, w.before _ s = true := fun w h => hts w (List.mem_cons_of_mem _ h)
  have hown : s.vm.findClass R_I = some m.cls := findClass_of_methodNamed B.named
  have hlocks := B.notSynchronized
  subst hsz
  have hD0 : va_D (fun _ => True) [(a, .inr (2, [.int f0, .int f1, .int f2, .int f3, .int f4, .int f5, .int f6, .int f7, .int f8, .int f9]))] := va_D1
  have hD := hD0.self (sz := s.heap.size)
  generalize hAe : va_A [(a, .inr (2, [.int f0, .int f1, .int f2, .int f3, .int f4, .int f5, .int f6, .int f7, .int f8, .int f9]))] s.heap.size = A at hD ⊢
  have hA : ∀ q : Nat, s.heap.size ≤ q → A q := fun q h => by rw [← hAe]; exact Or.inr h
  have hS : va_S A s.heap s.heap [] := va_S.rf
  have hl := lv_entry ([.ref a, .int p0, .int p1, .int p2]) (n := 4) (Nat.le_of_ble_eq_true rfl)
  rw [lg_entry_eq]
  generalize (lg_sl ([.ref a, .int p0, .int p1, .int p2]) ++ List.replicate (4 - (lg_sl ([.ref a, .int p0, .int p1, .int p2])).length) Slot.unset).toArray = ls at hl ⊢
  have hl : lv_has ls 4 [(0, .ref a), (1, .int p0), (2, .int p1), (3, .int p2)] := hl
  refine lv_aload_n hx hb d_I_appoint_0 rfl (lv_at hl 0 rfl) ?_
  refine lv_iconst (v := 1) hx hb d_I_appoint_1 (by decide) ?_
  refine va_put (D := D) (ci := 2) (v := .int 1) (ty := .int) (C := R_I) (T := F_I) (N := 10) hx hb hG in_I T_I T_I_ok n_I hown hK hP hD hS 0 rfl rfl 3 (by decide) (hG _ kw_292) (fun _ h9 => h9) rfl (by decide +kernel) rfl rfl (Nat.le_of_ble_eq_true rfl) d_I_appoint_2 (fun H locs hP hD hS => ?_)
  have hP : va_P D cls_ [(a, .inr (2, [.int f0, .int f1, .int f2, .int 1, .int f4, .int f5, .int f6, .int f7, .int f8, .int f9]))] H := hP
  have hD : va_D A [(a, .inr (2, [.int f0, .int f1, .int f2, .int 1, .int f4, .int f5, .int f6, .int f7, .int f8, .int f9]))] := hD
  refine lv_aload_n hx hb d_I_appoint_5 rfl (lv_at hl 0 rfl) ?_
  refine lv_iload_n hx hb d_I_appoint_6 rfl (lv_at hl 1 rfl) ?_
  refine va_put (D := D) (ci := 2) (v := .int p0) (ty := .int) (C := R_I) (T := F_I) (N := 10) hx hb hG in_I T_I T_I_ok n_I hown hK hP hD hS 0 rfl rfl 5 (by decide) (hG _ kw_296) (fun _ h9 => h9) rfl (by decide +kernel) rfl rfl (Nat.le_of_ble_eq_true rfl) d_I_appoint_7 (fun H locs hP hD hS => ?_)
  have hP : va_P D cls_ [(a, .inr (2, [.int f0, .int f1, .int f2, .int 1, .int f4, .int p0, .int f6, .int f7, .int f8, .int f9]))] H := hP
  have hD : va_D A [(a, .inr (2, [.int f0, .int f1, .int f2, .int 1, .int f4, .int p0, .int f6, .int f7, .int f8, .int f9]))] := hD
  refine lv_aload_n hx hb d_I_appoint_10 rfl (lv_at hl 0 rfl) ?_
  refine lv_iload_n hx hb d_I_appoint_11 rfl (lv_at hl 2 rfl) ?_
  refine va_put (D := D) (ci := 2) (v := .int p1) (ty := .int) (C := R_I) (T := F_I) (N := 10) hx hb hG in_I T_I T_I_ok n_I hown hK hP hD hS 0 rfl rfl 6 (by decide) (hG _ kw_298) (fun _ h9 => h9) rfl (by decide +kernel) rfl rfl (Nat.le_of_ble_eq_true rfl) d_I_appoint_12 (fun H locs hP hD hS => ?_)
  have hP : va_P D cls_ [(a, .inr (2, [.int f0, .int f1, .int f2, .int 1, .int f4, .int p0, .int p1, .int f7, .int f8, .int f9]))] H := hP
  have hD : va_D A [(a, .inr (2, [.int f0, .int f1, .int f2, .int 1, .int f4, .int p0, .int p1, .int f7, .int f8, .int f9]))] := hD
  refine lv_aload_n hx hb d_I_appoint_15 rfl (lv_at hl 0 rfl) ?_
  refine lv_iload_n hx hb d_I_appoint_16 rfl (lv_at hl 3 rfl) ?_
  refine va_put (D := D) (ci := 2) (v := .int p2) (ty := .int) (C := R_I) (T := F_I) (N := 10) hx hb hG in_I T_I T_I_ok n_I hown hK hP hD hS 0 rfl rfl 7 (by decide) (hG _ kw_300) (fun _ h9 => h9) rfl (by decide +kernel) rfl rfl (Nat.le_of_ble_eq_true rfl) d_I_appoint_17 (fun H locs hP hD hS => ?_)
  have hP : va_P D cls_ [(a, .inr (2, [.int f0, .int f1, .int f2, .int 1, .int f4, .int p0, .int p1, .int p2, .int f8, .int f9]))] H := hP
  have hD : va_D A [(a, .inr (2, [.int f0, .int f1, .int f2, .int 1, .int f4, .int p0, .int p1, .int p2, .int f8, .int f9]))] := hD
  exact W.vret hx hb hr (fun t ht hW => ⟨⟨(), rfl, trivial, by show va_P _ _ _ t.heap; rw [ht]; exact hP⟩, hS.F ht⟩) hS.2.2 d_I_appoint_20
set_option maxHeartbeats 4000000 in
set_option maxRecDepth 100000 in
theorem c_C_plan (l : Launch) (D : va_G) (cs : Nat → ClassId) (ad : Nat → Nat) (σ : Nat → Nat → Int32) (n nm ci cj E : Nat) (hI : Iv n nm ci cj) (hst : l.stackTraces = false) (sz : Nat) (p0 p1 p2 p3 : Int32) : vx_Met l y_C_plan (Cond.code y_C_plan b_C_plan 6 (some .int) :: GW) ({ frames := 8, cells := 1, slots := 6, locals := 256 }) (va_Pc [.ref (ad 0), .int p0, .int p1, .int p2, .int p3] (xr_B D cs (wC cs ad σ n nm ci cj E) sz)) (va_Qi (fun r (u : Nat → Nat → Int32) => ∃ i, i < n ∧ p0 = nI i ∧ ((0 ≤ p1 ∧ p1 ≤ 3) ∧ (σ 0 0 ≤ p2 ∧ p2 ≤ 100000) ∧ (σ 0 0 ≤ p3 ∧ p3 ≤ 100000) ∧ p2 < p3) ∧ ((((σ 23 i = 0 ∨ σ 23 i = 4) ∧ ¬ ∃ j, j < n ∧ (σ 23 j = 1 ∨ σ 23 j = 2) ∧ σ 25 j = p1 ∧ σ 26 j < p3 ∧ p2 < σ 27 j) ∧ r = 1 ∧ u = su (su (su (su σ 23 i 1) 25 i p1) 26 i p2) 27 i p3) ∨ (¬ ((σ 23 i = 0 ∨ σ 23 i = 4) ∧ ¬ ∃ j, j < n ∧ (σ 23 j = 1 ∨ σ 23 j = 2) ∧ σ 25 j = p1 ∧ σ 26 j < p3 ∧ p2 < σ 27 j) ∧ r = 0 ∧ u = σ))) (fun u => wr_T D cs (wC cs ad u n nm ci cj E) (va_A (wC cs ad σ n nm ci cj E) sz)) (va_A (wC cs ad σ n nm ci cj E) sz)) (vx_X (fun _ : Unit => ¬ ((∃ i, i < n ∧ p0 = nI i) ∧ ((0 ≤ p1 ∧ p1 ≤ 3) ∧ (σ 0 0 ≤ p2 ∧ p2 ≤ 100000) ∧ (σ 0 0 ≤ p3 ∧ p3 ≤ 100000) ∧ p2 < p3))) (fun E9 _ t => E9 = xe_A ∧ wr_T D cs (wC cs ad σ n nm ci cj E) (va_A (wC cs ad σ n nm ci cj E) sz) t) (va_A (wC cs ad σ n nm ci cj E) sz)) 1 6 (va_A (wC cs ad σ n nm ci cj E) sz) := by
  refine vx_ofW (cc := b_C_plan) (maxL := 6) (ret := (some .int)) (by decide) rfl ?_
  intro p e s m args below meth c s₁ B hml hnt hv
  obtain ⟨rfl, ⟨hsz, hP, hK, hD0⟩, hX, hZ⟩ := hv
  have hx := B.exec
  have hb := B.bytes
  have hr := B.returns
  have hts := atoms_spec (ws := Cond.code y_C_plan b_C_plan 6 (some .int) :: GW) B.pre
  have hG : ∀ w ∈ GW, w.before _ s = true := fun w h => hts w (List.mem_cons_of_mem _ h)
  have hown : s.vm.findClass R_C = some m.cls := findClass_of_methodNamed B.named
  have hlocks := B.notSynchronized
  subst hsz
  have hD := hD0.self (sz := s.heap.size)
  generalize hAe : va_A (wC cs ad σ n nm ci cj E) s.heap.size = A at hD hZ ⊢
  have hA : ∀ q : Nat, s.heap.size ≤ q → A q := fun q h => by rw [← hAe]; exact Or.inr h
  have hS : va_S A s.heap s.heap [] := va_S.rf
  have hl := lv_entry ([.ref (ad 0), .int p0, .int p1, .int p2, .int p3]) (n := 6) (Nat.le_of_ble_eq_true rfl)
  rw [lg_entry_eq]
  generalize (lg_sl ([.ref (ad 0), .int p0, .int p1, .int p2, .int p3]) ++ List.replicate (6 - (lg_sl ([.ref (ad 0), .int p0, .int p1, .int p2, .int p3])).length) Slot.unset).toArray = ls at hl ⊢
  have hl : lv_has ls 6 [(0, .ref (ad 0)), (1, .int p0), (2, .int p1), (3, .int p2), (4, .int p3)] := hl
  refine lv_aload_n hx hb d_C_plan_0 rfl (lv_at hl 0 rfl) ?_
  refine lv_iload_n hx hb d_C_plan_1 rfl (lv_at hl 1 rfl) ?_
  refine vp_callSi (W.runV (As := [.int p0]) (rest := []) ⟨hx, hb, hml, hown, hts⟩ (c_C_isInspection l D cs ad σ n nm ci cj E hI p0) (cwV 1 hts (gw_V kw_112 kw_114 ks_0_1 kw_1 kw_115) rfl rfl rfl (by decide +kernel) ⟨Nat.le_of_ble_eq_true rfl, Nat.le_of_ble_eq_true rfl⟩) (rd_V hP hK (rl_recv hK hP (RC_f (by decide)) gC_0 rfl)) rfl rfl hl.1 rfl (lv_room (Nat.le_of_ble_eq_true rfl)) d_C_plan_2 ⟨Nat.zero_le _, Nat.zero_le _⟩) (fun r_1 h_2 => ?_)
  subst h_2
  refine lv_if_eq (tgt := 17) hx hb d_C_plan_5 (by decide) (fun c_3 => ?_) (fun c_3 => ?_)
  · exact vx_throwS (own := "InspectSteps") (cls := xe_A) (text := "no such inspection or place") (names := xe_up) (ik := 68) (is := 101) (ic := 72) (A := A) hx hb hst hown (by decide) (by decide) (hG _ kw_192) (hG _ kw_10) (hX.2 (101, "no such inspection or place") (by decide)).choose_spec (xa_A hG hX) xa_A3 hZ.1 hZ.2 hS (hl.1.trans hml.symm) d_C_plan_17 d_C_plan_20 d_C_plan_21 d_C_plan_23 d_C_plan_26 (fun x h => (hnt x h).elim) (Nat.le_of_ble_eq_true rfl) (Nat.le_of_ble_eq_true rfl) (Nat.le_of_ble_eq_true rfl) (Nat.le_of_ble_eq_true rfl) hlocks (fun t ha hz hk => ⟨(), fun ⟨⟨j, hj, e9⟩, _⟩ => (b2i_eq0.mp c_3) (e9 ▸ at_not (by have := hI; unfold Iv at this; omega) hj), ⟨rfl, (thr_T hS hP hK hD ha hz hk).1⟩, (thr_T hS hP hK hD ha hz hk).2⟩) hS.2.2 (Nat.le_of_ble_eq_true rfl) (Nat.le_of_ble_eq_true rfl)
  · obtain ⟨i, hi, rfl⟩ := at_ (by have := hI; unfold Iv at this; omega) (Classical.not_not.mp (fun h => c_3 (b2i_eq0.mpr h)))
    refine lv_iload_n hx hb d_C_plan_8 rfl (lv_at hl 2 rfl) ?_
    refine lv_iconst (v := 0) hx hb d_C_plan_9 (by decide) ?_
    refine lv_iconst (v := 3) hx hb d_C_plan_10 (by decide) ?_
    refine vp_callSi (W.runS (As := [.int p1, .int 0, .int 3]) (rest := []) ⟨hx, hb, hml, hown, hts⟩ (c_C_isWithin l p1 0 3) (va_cwS 3 hts (gw_S kw_98 kw_99 kw_1 kw_100) rfl rfl rfl (by decide +kernel) ⟨Nat.le_of_ble_eq_true rfl, Nat.le_of_ble_eq_true rfl⟩) ⟨fun _ _ _ _ q => q, fun U _ _ => ⟨rfl, trivial⟩⟩ rfl rfl hl.1 rfl (lv_room (Nat.le_of_ble_eq_true rfl)) d_C_plan_11 ⟨Nat.zero_le _, Nat.zero_le _⟩) (fun r_4 h_5 => ?_)
    subst h_5
    refine lv_if_ne (tgt := 27) hx hb d_C_plan_14 (by decide) (fun c_6 => ?_) (fun c_6 => ?_)
    · refine lv_aload_n hx hb d_C_plan_27 rfl (lv_at hl 0 rfl) ?_
      refine lv_iload_n hx hb d_C_plan_28 rfl (lv_at hl 3 rfl) ?_
      refine vp_callSi (W.runV (As := [.int p2]) (rest := []) ⟨hx, hb, hml, hown, hts⟩ (c_C_isTimeToCome l D cs ad σ n nm ci cj E hI p2) (cwV 1 hts (gw_V kw_260 kw_262 ks_0_6 kw_1 kw_263) rfl rfl rfl (by decide +kernel) ⟨Nat.le_of_ble_eq_true rfl, Nat.le_of_ble_eq_true rfl⟩) (rd_V hP hK (rl_recv hK hP (RC_f (by decide)) gC_0 rfl)) rfl rfl hl.1 rfl (lv_room (Nat.le_of_ble_eq_true rfl)) d_C_plan_29 ⟨Nat.zero_le _, Nat.zero_le _⟩) (fun r_7 h_8 => ?_)
      subst h_8
      refine lv_if_eq (tgt := 50) hx hb d_C_plan_32 (by decide) (fun c_9 => ?_) (fun c_9 => ?_)
      · exact vx_throwS (own := "InspectSteps") (cls := xe_A) (text := "no times from now on, in order") (names := xe_up) (ik := 68) (is := 103) (ic := 72) (A := A) hx hb hst hown (by decide) (by decide) (hG _ kw_192) (hG _ kw_10) (hX.2 (103, "no times from now on, in order") (by decide)).choose_spec (xa_A hG hX) xa_A3 hZ.1 hZ.2 hS (hl.1.trans hml.symm) d_C_plan_50 d_C_plan_53 d_C_plan_54 d_C_plan_56 d_C_plan_59 (fun x h => (hnt x h).elim) (Nat.le_of_ble_eq_true rfl) (Nat.le_of_ble_eq_true rfl) (Nat.le_of_ble_eq_true rfl) (Nat.le_of_ble_eq_true rfl) hlocks (fun t ha hz hk => ⟨(), fun h9 => by have h8 := h9.2; (try simp only [b2i_eq0, Classical.not_not] at c_6 c_9); simp only [i32_eq, i32_lt, i32_le, i32_nm1, i32_n0, i32_n1, i32_n2, i32_n3, i32_n4, i32_n5, i32_n6, i32_n7, i32_n8, i32_n9, i32_n10, i32_n20, i32_n30, i32_n31, i32_n39, i32_n40, i32_n49, i32_n50, i32_n100, i32_n160, i32_n1000, i32_n100000, i32_n1000000] at c_6 c_9 h8; omega, ⟨rfl, (thr_T hS hP hK hD ha hz hk).1⟩, (thr_T hS hP hK hD ha hz hk).2⟩) hS.2.2 (Nat.le_of_ble_eq_true rfl) (Nat.le_of_ble_eq_true rfl)
      · refine lv_aload_n hx hb d_C_plan_35 rfl (lv_at hl 0 rfl) ?_
        refine lv_iload hx hb d_C_plan_36 (lv_at hl 4 rfl) ?_
        refine vp_callSi (W.runV (As := [.int p3]) (rest := []) ⟨hx, hb, hml, hown, hts⟩ (c_C_isTimeToCome l D cs ad σ n nm ci cj E hI p3) (cwV 1 hts (gw_V kw_260 kw_262 ks_0_6 kw_1 kw_263) rfl rfl rfl (by decide +kernel) ⟨Nat.le_of_ble_eq_true rfl, Nat.le_of_ble_eq_true rfl⟩) (rd_V hP hK (rl_recv hK hP (RC_f (by decide)) gC_0 rfl)) rfl rfl hl.1 rfl (lv_room (Nat.le_of_ble_eq_true rfl)) d_C_plan_38 ⟨Nat.zero_le _, Nat.zero_le _⟩) (fun r_10 h_11 => ?_)
        subst h_11
        refine lv_if_eq (tgt := 50) hx hb d_C_plan_41 (by decide) (fun c_12 => ?_) (fun c_12 => ?_)
        · exact vx_throwS (own := "InspectSteps") (cls := xe_A) (text := "no times from now on, in order") (names := xe_up) (ik := 68) (is := 103) (ic := 72) (A := A) hx hb hst hown (by decide) (by decide) (hG _ kw_192) (hG _ kw_10) (hX.2 (103, "no times from now on, in order") (by decide)).choose_spec (xa_A hG hX) xa_A3 hZ.1 hZ.2 hS (hl.1.trans hml.symm) d_C_plan_50 d_C_plan_53 d_C_plan_54 d_C_plan_56 d_C_plan_59 (fun x h => (hnt x h).elim) (Nat.le_of_ble_eq_true rfl) (Nat.le_of_ble_eq_true rfl) (Nat.le_of_ble_eq_true rfl) (Nat.le_of_ble_eq_true rfl) hlocks (fun t ha hz hk => ⟨(), fun h9 => by have h8 := h9.2; (try simp only [b2i_eq0, Classical.not_not] at c_6 c_9 c_12); simp only [i32_eq, i32_lt, i32_le, i32_nm1, i32_n0, i32_n1, i32_n2, i32_n3, i32_n4, i32_n5, i32_n6, i32_n7, i32_n8, i32_n9, i32_n10, i32_n20, i32_n30, i32_n31, i32_n39, i32_n40, i32_n49, i32_n50, i32_n100, i32_n160, i32_n1000, i32_n100000, i32_n1000000] at c_6 c_9 c_12 h8; omega, ⟨rfl, (thr_T hS hP hK hD ha hz hk).1⟩, (thr_T hS hP hK hD ha hz hk).2⟩) hS.2.2 (Nat.le_of_ble_eq_true rfl) (Nat.le_of_ble_eq_true rfl)
        · refine lv_iload_n hx hb d_C_plan_44 rfl (lv_at hl 3 rfl) ?_
          refine lv_iload hx hb d_C_plan_45 (lv_at hl 4 rfl) ?_
          refine lv_icmp_lt (tgt := 60) hx hb d_C_plan_47 (by decide) (fun c_13 => ?_) (fun c_13 => ?_)
          · refine lv_aload_n hx hb d_C_plan_60 rfl (lv_at hl 0 rfl) ?_
            refine rl_get (r := 0) (ci := 1) (v := .ref (ad 1)) (C := R_C) (T := F_C) (N := 10) hx hb hG in_C hown hK hP (RC_f (by decide)) gC_0 rfl 0 (by decide) kw_59 (fun _ h9 => h9) rfl d_C_plan_61 ?_
            refine lv_iload_n hx hb d_C_plan_64 rfl (lv_at hl 1 rfl) ?_
            refine va_csr (W.runV (As := [.int (nI i)]) (rest := []) ⟨hx, hb, hml, hown, hts⟩ (c_Al_get l D (tys_ cs) (ad 1) (ad 3) n ci i (ad (100 + i)) (σ 7 0) (cs 2) (rowsF 100 n ad) hi hI.2.2.1 (by have := hI; unfold Iv at this; omega) 2 rfl (if_pos hi)) (cwV 1 hts (gw_V kw_120 kw_121 kw_122 kw_4 kw_123) rfl rfl rfl (by decide +kernel) ⟨Nat.le_of_ble_eq_true rfl, Nat.le_of_ble_eq_true rfl⟩) (rd_V (rl_two hP (RC_f (by decide)) (gC_1 (Nat.lt_of_le_of_lt (Nat.zero_le _) hi)) (RC_3 (Nat.lt_of_le_of_lt (Nat.zero_le _) hi)) gC_3) hK (rl_recv hK hP (RC_f (by decide)) (gC_1 (Nat.lt_of_le_of_lt (Nat.zero_le _) hi)) rfl)) rfl rfl hl.1 rfl (lv_room (Nat.le_of_ble_eq_true rfl)) d_C_plan_65 ⟨Nat.zero_le _, Nat.zero_le _⟩) (fun r_14 h_15 => ?_)
            subst h_15
            refine va_castS hx hb hown (hG _ kw_134) ((hK.1 2 _ rfl).2) (rl_recv hK hP (RC_ins hi) (gC_ins (by have := hI; unfold Iv at this; omega)) rfl) d_C_plan_68 ?_
            refine lv_astore (lv' := [(5, .ref (ad (100 + i))), (0, .ref (ad 0)), (1, .int (nI i)), (2, .int p1), (3, .int p2), (4, .int p3)]) hx hb d_C_plan_71 hl (by decide) rfl (fun ls hl => ?_)
            refine lv_aload hx hb d_C_plan_73 (lv_at hl 0 rfl) ?_
            refine vp_callSi (W.runV (As := []) (rest := []) ⟨hx, hb, hml, hown, hts⟩ (c_I_canBePlanned l D (tys_ cs) (ad (100 + i)) (σ 20 i) (σ 21 i) (σ 22 i) (σ 23 i) (σ 24 i) (σ 25 i) (σ 26 i) (σ 27 i) (σ 28 i) (σ 29 i)) (cwV 0 hts (gw_V kw_391 kw_392 kw_393 kw_12 kw_394) rfl rfl rfl (by decide +kernel) ⟨Nat.le_of_ble_eq_true rfl, Nat.le_of_ble_eq_true rfl⟩) (rd_V (rl_one hP (RC_ins hi) (gC_ins (by have := hI; unfold Iv at this; omega))) hK (rl_recv hK hP (RC_ins hi) (gC_ins (by have := hI; unfold Iv at this; omega)) rfl)) rfl rfl hl.1 rfl (lv_room (Nat.le_of_ble_eq_true rfl)) d_C_plan_75 ⟨Nat.zero_le _, Nat.zero_le _⟩) (fun r_16 h_17 => ?_)
            subst h_17
            refine lv_if_eq (tgt := 92) hx hb d_C_plan_78 (by decide) (fun c_18 => ?_) (fun c_18 => ?_)
            · refine lv_iconst (v := 0) hx hb d_C_plan_92 (by decide) ?_
              refine W.widen (k := 1) (n := 6) (Nat.zero_le _) (Nat.zero_le _) (vx_ret ?_)
              exact W.iret (v := 0) hx hb hr (fun t ht hW => ⟨⟨0, σ, rfl, ⟨i, hi, rfl, by (try simp only [b2i_eq0, Classical.not_not] at c_6 c_9 c_12 c_13); simp only [i32_eq, i32_lt, i32_le, i32_nm1, i32_n0, i32_n1, i32_n2, i32_n3, i32_n4, i32_n5, i32_n6, i32_n7, i32_n8, i32_n9, i32_n10, i32_n20, i32_n30, i32_n31, i32_n39, i32_n40, i32_n49, i32_n50, i32_n100, i32_n160, i32_n1000, i32_n100000, i32_n1000000] at c_6 c_9 c_12 c_13 ⊢; omega, Or.inr ⟨fun h9 => (b2i_eq0.mp c_18) h9.1, rfl, rfl⟩⟩, by rw [ht]; exact hP, va_K.moved hW.alike hK, hD⟩, hS.F ht⟩) hS.2.2 d_C_plan_93
            · refine lv_aload_n hx hb d_C_plan_81 rfl (lv_at hl 1 rfl) ?_
              refine lv_iload_n hx hb d_C_plan_82 rfl (lv_at hl 3 rfl) ?_
              refine lv_iload_n hx hb d_C_plan_83 rfl (lv_at hl 4 rfl) ?_
              refine lv_iload hx hb d_C_plan_84 (lv_at hl 5 rfl) ?_
              refine vp_callSi (W.runV (As := [.int p1, .int p2, .int p3]) (rest := []) ⟨hx, hb, hml, hown, hts⟩ (c_C_isTaken l D cs ad σ n nm ci cj E hI p1 p2 p3) (cwV 3 hts (gw_V kw_395 kw_397 ks_0_10 kw_1 kw_398) rfl rfl rfl (by decide +kernel) ⟨Nat.le_of_ble_eq_true rfl, Nat.le_of_ble_eq_true rfl⟩) (rd_V hP hK (rl_recv hK hP (RC_f (by decide)) gC_0 rfl)) rfl rfl hl.1 rfl (lv_room (Nat.le_of_ble_eq_true rfl)) d_C_plan_86 ⟨Nat.zero_le _, Nat.zero_le _⟩) (fun r_19 h_20 => ?_)
              subst h_20
              refine lv_if_eq (tgt := 94) hx hb d_C_plan_89 (by decide) (fun c_21 => ?_) (fun c_21 => ?_)
              · refine lv_aload hx hb d_C_plan_94 (lv_at hl 0 rfl) ?_
                refine lv_iload_n hx hb d_C_plan_96 rfl (lv_at hl 3 rfl) ?_
                refine lv_iload_n hx hb d_C_plan_97 rfl (lv_at hl 4 rfl) ?_
                refine lv_iload hx hb d_C_plan_98 (lv_at hl 5 rfl) ?_
                have hFc := rl_free1 (r := 100 + i) (x := .inr (2, insF σ i)) hD hS hA (RC_ins hi)
                refine va_callv (va_runV (As := [.int p1, .int p2, .int p3]) (rest := []) ⟨hx, hb, hml, hown, hts⟩ (c_I_appoint l D (tys_ cs) (ad (100 + i)) (σ 20 i) (σ 21 i) (σ 22 i) (σ 23 i) (σ 24 i) (σ 25 i) (σ 26 i) (σ 27 i) (σ 28 i) (σ 29 i) p1 p2 p3 s.heap.size) (cwV 3 hts (gw_V kw_407 kw_408 kw_409 kw_12 kw_410) rfl rfl rfl (by decide +kernel) ⟨Nat.le_of_ble_eq_true rfl, Nat.le_of_ble_eq_true rfl⟩) (w1_V (rl_one hP (RC_ins hi) (gC_ins (by have := hI; unfold Iv at this; omega))) hK (rl_recv hK hP (RC_ins hi) (gC_ins (by have := hI; unfold Iv at this; omega)) rfl)) rfl rfl hl.1 rfl (lv_room (Nat.le_of_ble_eq_true rfl)) d_C_plan_100 ⟨Nat.le_of_ble_eq_true rfl, Nat.le_of_ble_eq_true rfl⟩) hS (fun q _ h => hFc q h) hFc (fun u t H1 locs ht hvm hw hB hz1 hk1 hS => ?_)
                rw [ht] at hB
                obtain ⟨hP, hD⟩ := rl_join1 (r := 100 + i) (x := .inr (2, insF σ i)) hP hD (RC_ins hi) hk1 hB
                have eN : ([.int (σ 20 i), .int (σ 21 i), .int (σ 22 i), .int 1, .int (σ 24 i), .int p1, .int p2, .int p3, .int (σ 28 i), .int (σ 29 i)] : List Value) = insF (su (su (su (su σ 23 i 1) 25 i p1) 26 i p2) 27 i p3) i := by simp [insF, su]
                rw [eN, wC_insG (σ' := su (su (su (su σ 23 i 1) 25 i p1) 26 i p2) 27 i p3) (hn_ hI) (hm_ hI) (by have := hI; unfold Iv at this; omega) (fun k b h9 => by unfold su; repeat rw [if_neg (by omega)])] at hP hD
                refine lv_iconst (v := 1) hx hb d_C_plan_103 (by decide) ?_
                refine W.widen (k := 1) (n := 6) (Nat.zero_le _) (Nat.zero_le _) (vx_ret ?_)
                exact W.iret (v := 1) hx hb hr (fun t ht hW => ⟨⟨1, su (su (su (su σ 23 i 1) 25 i p1) 26 i p2) 27 i p3, rfl, ⟨i, hi, rfl, by (try simp only [b2i_eq0, Classical.not_not] at c_6 c_9 c_12 c_13); simp only [i32_eq, i32_lt, i32_le, i32_nm1, i32_n0, i32_n1, i32_n2, i32_n3, i32_n4, i32_n5, i32_n6, i32_n7, i32_n8, i32_n9, i32_n10, i32_n20, i32_n30, i32_n31, i32_n39, i32_n40, i32_n49, i32_n50, i32_n100, i32_n160, i32_n1000, i32_n100000, i32_n1000000] at c_6 c_9 c_12 c_13 ⊢; omega, Or.inl ⟨⟨Classical.not_not.mp (fun h => c_18 (b2i_eq0.mpr h)), b2i_eq0.mp c_21⟩, rfl, rfl⟩⟩, by rw [ht]; exact hP, va_K.moved hW.alike hK, hD⟩, hS.F ht⟩) hS.2.2 d_C_plan_104
              · refine lv_iconst (v := 0) hx hb d_C_plan_92 (by decide) ?_
                refine W.widen (k := 1) (n := 6) (Nat.zero_le _) (Nat.zero_le _) (vx_ret ?_)
                exact W.iret (v := 0) hx hb hr (fun t ht hW => ⟨⟨0, σ, rfl, ⟨i, hi, rfl, by (try simp only [b2i_eq0, Classical.not_not] at c_6 c_9 c_12 c_13); simp only [i32_eq, i32_lt, i32_le, i32_nm1, i32_n0, i32_n1, i32_n2, i32_n3, i32_n4, i32_n5, i32_n6, i32_n7, i32_n8, i32_n9, i32_n10, i32_n20, i32_n30, i32_n31, i32_n39, i32_n40, i32_n49, i32_n50, i32_n100, i32_n160, i32_n1000, i32_n100000, i32_n1000000] at c_6 c_9 c_12 c_13 ⊢; omega, Or.inr ⟨fun h9 => h9.2 (Classical.not_not.mp (fun h => c_21 (b2i_eq0.mpr h))), rfl, rfl⟩⟩, by rw [ht]; exact hP, va_K.moved hW.alike hK, hD⟩, hS.F ht⟩) hS.2.2 d_C_plan_93
          · exact vx_throwS (own := "InspectSteps") (cls := xe_A) (text := "no times from now on, in order") (names := xe_up) (ik := 68) (is := 103) (ic := 72) (A := A) hx hb hst hown (by decide) (by decide) (hG _ kw_192) (hG _ kw_10) (hX.2 (103, "no times from now on, in order") (by decide)).choose_spec (xa_A hG hX) xa_A3 hZ.1 hZ.2 hS (hl.1.trans hml.symm) d_C_plan_50 d_C_plan_53 d_C_plan_54 d_C_plan_56 d_C_plan_59 (fun x h => (hnt x h).elim) (Nat.le_of_ble_eq_true rfl) (Nat.le_of_ble_eq_true rfl) (Nat.le_of_ble_eq_true rfl) (Nat.le_of_ble_eq_true rfl) hlocks (fun t ha hz hk => ⟨(), fun h9 => by have h8 := h9.2; (try simp only [b2i_eq0, Classical.not_not] at c_6 c_9 c_12 c_13); simp only [i32_eq, i32_lt, i32_le, i32_nm1, i32_n0, i32_n1, i32_n2, i32_n3, i32_n4, i32_n5, i32_n6, i32_n7, i32_n8, i32_n9, i32_n10, i32_n20, i32_n30, i32_n31, i32_n39, i32_n40, i32_n49, i32_n50, i32_n100, i32_n160, i32_n1000, i32_n100000, i32_n1000000] at c_6 c_9 c_12 c_13 h8; omega, ⟨rfl, (thr_T hS hP hK hD ha hz hk).1⟩, (thr_T hS hP hK hD ha hz hk).2⟩) hS.2.2 (Nat.le_of_ble_eq_true rfl) (Nat.le_of_ble_eq_true rfl)
    · exact vx_throwS (own := "InspectSteps") (cls := xe_A) (text := "no such inspection or place") (names := xe_up) (ik := 68) (is := 101) (ic := 72) (A := A) hx hb hst hown (by decide) (by decide) (hG _ kw_192) (hG _ kw_10) (hX.2 (101, "no such inspection or place") (by decide)).choose_spec (xa_A hG hX) xa_A3 hZ.1 hZ.2 hS (hl.1.trans hml.symm) d_C_plan_17 d_C_plan_20 d_C_plan_21 d_C_plan_23 d_C_plan_26 (fun x h => (hnt x h).elim) (Nat.le_of_ble_eq_true rfl) (Nat.le_of_ble_eq_true rfl) (Nat.le_of_ble_eq_true rfl) (Nat.le_of_ble_eq_true rfl) hlocks (fun t ha hz hk => ⟨(), fun h9 => by have h8 := h9.2; (try simp only [b2i_eq0, Classical.not_not] at c_6); simp only [i32_eq, i32_lt, i32_le, i32_nm1, i32_n0, i32_n1, i32_n2, i32_n3, i32_n4, i32_n5, i32_n6, i32_n7, i32_n8, i32_n9, i32_n10, i32_n20, i32_n30, i32_n31, i32_n39, i32_n40, i32_n49, i32_n50, i32_n100, i32_n160, i32_n1000, i32_n100000, i32_n1000000] at c_6 h8; omega, ⟨rfl, (thr_T hS hP hK hD ha hz hk).1⟩, (thr_T hS hP hK hD ha hz hk).2⟩) hS.2.2 (Nat.le_of_ble_eq_true rfl) (Nat.le_of_ble_eq_true rfl)
