set_option maxHeartbeats 4000000 in
set_option maxRecDepth 100000 in
theorem c_C_seal (l : Launch) (D : va_G) (cs : Nat → ClassId) (ad : Nat → Nat) (σ : Nat → Nat → Int32) (n nm ci cj E : Nat) (hI : Iv n nm ci cj) (hst : l.stackTraces = false) (sz : Nat) (p0 p1 p2 p3 : Int32) : vx_Met l y_C_seal (Cond.code y_C_seal b_C_seal 5 (some .int) :: GW) ({ frames := 8, cells := 1, slots := 6, locals := 256 }) (va_Pc [.ref (ad 0), .int p0, .int p1, .int p2, .int p3] (xr_B D cs (wC cs ad σ n nm ci cj E) sz)) (va_Qi (fun r (u : Nat → Nat → Int32) => ((0 ≤ p0 ∧ p0 ≤ 9) ∧ (0 ≤ p2 ∧ p2 ≤ 9) ∧ (0 ≤ p3 ∧ p3 ≤ 9) ∧ (1 ≤ p1 ∧ p1 ≤ 1000000) ∧ ¬ p2 = p3) ∧ (((σ 2 p0.toNatClampNeg = -1 ∧ (¬ ∃ j, j < n ∧ σ 20 j = p0 ∧ 3 ≤ σ 21 j ∧ σ 23 j = 2) ∧ ((0 ≤ p2 ∧ p2 ≤ 9) ∧ σ 1 p2.toNatClampNeg >>> (5 &&& 31) &&& 1 = 1) ∧ ((0 ≤ p3 ∧ p3 ≤ 9) ∧ σ 1 p3.toNatClampNeg >>> (5 &&& 31) &&& 1 = 1)) ∧ r = 1 ∧ u = su σ 2 p0.toNatClampNeg p1) ∨ (¬ (σ 2 p0.toNatClampNeg = -1 ∧ (¬ ∃ j, j < n ∧ σ 20 j = p0 ∧ 3 ≤ σ 21 j ∧ σ 23 j = 2) ∧ ((0 ≤ p2 ∧ p2 ≤ 9) ∧ σ 1 p2.toNatClampNeg >>> (5 &&& 31) &&& 1 = 1) ∧ ((0 ≤ p3 ∧ p3 ≤ 9) ∧ σ 1 p3.toNatClampNeg >>> (5 &&& 31) &&& 1 = 1)) ∧ r = 0 ∧ u = σ))) (fun u => wr_T D cs (wC cs ad u n nm ci cj E) (va_A (wC cs ad σ n nm ci cj E) sz)) (va_A (wC cs ad σ n nm ci cj E) sz)) (vx_X (fun _ : Unit => ¬ ((0 ≤ p0 ∧ p0 ≤ 9) ∧ (0 ≤ p2 ∧ p2 ≤ 9) ∧ (0 ≤ p3 ∧ p3 ≤ 9) ∧ (1 ≤ p1 ∧ p1 ≤ 1000000) ∧ ¬ p2 = p3)) (fun E9 _ t => E9 = xe_A ∧ wr_T D cs (wC cs ad σ n nm ci cj E) (va_A (wC cs ad σ n nm ci cj E) sz) t) (va_A (wC cs ad σ n nm ci cj E) sz)) 1 6 (va_A (wC cs ad σ n nm ci cj E) sz) := by
  refine vx_ofW (cc := b_C_seal) (maxL := 5) (ret := (some .int)) (by decide) rfl ?_
  intro p e s m args below meth c s₁ B hml hnt hv
  obtain ⟨rfl, ⟨hsz, hP, hK, hD0⟩, hX, hZ⟩ := hv
  have hx := B.exec
  have hb := B.bytes
  have hr := B.returns
  have hts := atoms_spec (ws := Cond.code y_C_seal b_C_seal 5 (some .int) :: GW) B.pre
  have hG : ∀ w ∈ GW, w.before _ s = true := fun w h => hts w (List.mem_cons_of_mem _ h)
  have hown : s.vm.findClass R_C = some m.cls := findClass_of_methodNamed B.named
  have hlocks := B.notSynchronized
  subst hsz
  have hD := hD0.self (sz := s.heap.size)
  generalize hAe : va_A (wC cs ad σ n nm ci cj E) s.heap.size = A at hD hZ ⊢
  have hA : ∀ q : Nat, s.heap.size ≤ q → A q := fun q h => by rw [← hAe]; exact Or.inr h
  have hS : va_S A s.heap s.heap [] := va_S.rf
  have hl := lv_entry ([.ref (ad 0), .int p0, .int p1, .int p2, .int p3]) (n := 5) (Nat.le_of_ble_eq_true rfl)
  rw [lg_entry_eq]
  generalize (lg_sl ([.ref (ad 0), .int p0, .int p1, .int p2, .int p3]) ++ List.replicate (5 - (lg_sl ([.ref (ad 0), .int p0, .int p1, .int p2, .int p3])).length) Slot.unset).toArray = ls at hl ⊢
  have hl : lv_has ls 5 [(0, .ref (ad 0)), (1, .int p0), (2, .int p1), (3, .int p2), (4, .int p3)] := hl
  refine lv_iload_n hx hb d_C_seal_0 rfl (lv_at hl 1 rfl) ?_
  refine vp_callSi (W.runS (As := [.int p0]) (rest := []) ⟨hx, hb, hml, hown, hts⟩ (c_C_isDeclaration l p0) (va_cwS 1 hts (gw_S kw_143 kw_144 kw_1 kw_145) rfl rfl rfl (by decide +kernel) ⟨Nat.le_of_ble_eq_true rfl, Nat.le_of_ble_eq_true rfl⟩) ⟨fun _ _ _ _ q => q, fun U _ _ => ⟨rfl, trivial⟩⟩ rfl rfl hl.1 rfl (lv_room (Nat.le_of_ble_eq_true rfl)) d_C_seal_1 ⟨Nat.zero_le _, Nat.zero_le _⟩) (fun r_1 h_2 => ?_)
  subst h_2
  refine lv_if_eq (tgt := 22) hx hb d_C_seal_4 (by decide) (fun c_3 => ?_) (fun c_3 => ?_)
  · exact vx_throwS (own := "InspectSteps") (cls := xe_A) (text := "no such declaration or people") (names := xe_up) (ik := 68) (is := 142) (ic := 72) (A := A) hx hb hst hown (by decide) (by decide) (hG _ kw_192) (hG _ kw_10) (hX.2 (142, "no such declaration or people") (by decide)).choose_spec (xa_A hG hX) xa_A3 hZ.1 hZ.2 hS (hl.1.trans hml.symm) d_C_seal_22 d_C_seal_25 d_C_seal_26 d_C_seal_28 d_C_seal_31 (fun x h => (hnt x h).elim) (Nat.le_of_ble_eq_true rfl) (Nat.le_of_ble_eq_true rfl) (Nat.le_of_ble_eq_true rfl) (Nat.le_of_ble_eq_true rfl) hlocks (fun t ha hz hk => ⟨(), (by ((try simp only [b2i_eq0, Classical.not_not] at c_3); grind)), ⟨rfl, (thr_T hS hP hK hD ha hz hk).1⟩, (thr_T hS hP hK hD ha hz hk).2⟩) hS.2.2 (Nat.le_of_ble_eq_true rfl) (Nat.le_of_ble_eq_true rfl)
  · refine lv_iload_n hx hb d_C_seal_7 rfl (lv_at hl 3 rfl) ?_
    refine vp_callSi (W.runS (As := [.int p2]) (rest := []) ⟨hx, hb, hml, hown, hts⟩ (c_C_isPerson l p2) (va_cwS 1 hts (gw_S kw_95 kw_96 kw_1 kw_97) rfl rfl rfl (by decide +kernel) ⟨Nat.le_of_ble_eq_true rfl, Nat.le_of_ble_eq_true rfl⟩) ⟨fun _ _ _ _ q => q, fun U _ _ => ⟨rfl, trivial⟩⟩ rfl rfl hl.1 rfl (lv_room (Nat.le_of_ble_eq_true rfl)) d_C_seal_8 ⟨Nat.zero_le _, Nat.zero_le _⟩) (fun r_4 h_5 => ?_)
    subst h_5
    refine lv_if_eq (tgt := 22) hx hb d_C_seal_11 (by decide) (fun c_6 => ?_) (fun c_6 => ?_)
    · exact vx_throwS (own := "InspectSteps") (cls := xe_A) (text := "no such declaration or people") (names := xe_up) (ik := 68) (is := 142) (ic := 72) (A := A) hx hb hst hown (by decide) (by decide) (hG _ kw_192) (hG _ kw_10) (hX.2 (142, "no such declaration or people") (by decide)).choose_spec (xa_A hG hX) xa_A3 hZ.1 hZ.2 hS (hl.1.trans hml.symm) d_C_seal_22 d_C_seal_25 d_C_seal_26 d_C_seal_28 d_C_seal_31 (fun x h => (hnt x h).elim) (Nat.le_of_ble_eq_true rfl) (Nat.le_of_ble_eq_true rfl) (Nat.le_of_ble_eq_true rfl) (Nat.le_of_ble_eq_true rfl) hlocks (fun t ha hz hk => ⟨(), (by ((try simp only [b2i_eq0, Classical.not_not] at c_3 c_6); grind)), ⟨rfl, (thr_T hS hP hK hD ha hz hk).1⟩, (thr_T hS hP hK hD ha hz hk).2⟩) hS.2.2 (Nat.le_of_ble_eq_true rfl) (Nat.le_of_ble_eq_true rfl)
    · refine lv_iload hx hb d_C_seal_14 (lv_at hl 4 rfl) ?_
      refine vp_callSi (W.runS (As := [.int p3]) (rest := []) ⟨hx, hb, hml, hown, hts⟩ (c_C_isPerson l p3) (va_cwS 1 hts (gw_S kw_95 kw_96 kw_1 kw_97) rfl rfl rfl (by decide +kernel) ⟨Nat.le_of_ble_eq_true rfl, Nat.le_of_ble_eq_true rfl⟩) ⟨fun _ _ _ _ q => q, fun U _ _ => ⟨rfl, trivial⟩⟩ rfl rfl hl.1 rfl (lv_room (Nat.le_of_ble_eq_true rfl)) d_C_seal_16 ⟨Nat.zero_le _, Nat.zero_le _⟩) (fun r_7 h_8 => ?_)
      subst h_8
      refine lv_if_ne (tgt := 32) hx hb d_C_seal_19 (by decide) (fun c_9 => ?_) (fun c_9 => ?_)
      · refine lv_iload_n hx hb d_C_seal_32 rfl (lv_at hl 2 rfl) ?_
        refine vp_callSi (W.runS (As := [.int p1]) (rest := []) ⟨hx, hb, hml, hown, hts⟩ (c_C_isSeal l p1) (va_cwS 1 hts (gw_S kw_442 kw_443 kw_1 kw_444) rfl rfl rfl (by decide +kernel) ⟨Nat.le_of_ble_eq_true rfl, Nat.le_of_ble_eq_true rfl⟩) ⟨fun _ _ _ _ q => q, fun U _ _ => ⟨rfl, trivial⟩⟩ rfl rfl hl.1 rfl (lv_room (Nat.le_of_ble_eq_true rfl)) d_C_seal_33 ⟨Nat.zero_le _, Nat.zero_le _⟩) (fun r_10 h_11 => ?_)
        subst h_11
        refine lv_if_eq (tgt := 45) hx hb d_C_seal_36 (by decide) (fun c_12 => ?_) (fun c_12 => ?_)
        · exact vx_throwS (own := "InspectSteps") (cls := xe_A) (text := "no such seal, or one person alone") (names := xe_up) (ik := 68) (is := 147) (ic := 72) (A := A) hx hb hst hown (by decide) (by decide) (hG _ kw_192) (hG _ kw_10) (hX.2 (147, "no such seal, or one person alone") (by decide)).choose_spec (xa_A hG hX) xa_A3 hZ.1 hZ.2 hS (hl.1.trans hml.symm) d_C_seal_45 d_C_seal_48 d_C_seal_49 d_C_seal_51 d_C_seal_54 (fun x h => (hnt x h).elim) (Nat.le_of_ble_eq_true rfl) (Nat.le_of_ble_eq_true rfl) (Nat.le_of_ble_eq_true rfl) (Nat.le_of_ble_eq_true rfl) hlocks (fun t ha hz hk => ⟨(), (by ((try simp only [b2i_eq0, Classical.not_not] at c_3 c_6 c_9 c_12); grind)), ⟨rfl, (thr_T hS hP hK hD ha hz hk).1⟩, (thr_T hS hP hK hD ha hz hk).2⟩) hS.2.2 (Nat.le_of_ble_eq_true rfl) (Nat.le_of_ble_eq_true rfl)
        · refine lv_iload_n hx hb d_C_seal_39 rfl (lv_at hl 3 rfl) ?_
          refine lv_iload hx hb d_C_seal_40 (lv_at hl 4 rfl) ?_
          refine lv_icmp_ne (tgt := 55) hx hb d_C_seal_42 (by decide) (fun c_13 => ?_) (fun c_13 => ?_)
          · refine lv_aload_n hx hb d_C_seal_55 rfl (lv_at hl 0 rfl) ?_
            refine rl_get (r := 0) (ci := 1) (v := .ref (ad 6)) (C := R_C) (T := F_C) (N := 10) hx hb hG in_C hown hK hP (RC_f (by decide)) gC_0 rfl 3 (by decide) kw_62 (fun _ h9 => h9) rfl d_C_seal_56 ?_
            refine lv_iload_n hx hb d_C_seal_59 rfl (lv_at hl 1 rfl) ?_
            refine rl_iald (r := 6) (i := p0) hx hb hK hP (RC_f (by decide)) 0 gC_6 rfl (vp_in_iff.mpr (by ((try simp only [b2i_eq0, Classical.not_not] at c_3 c_6 c_9 c_12 c_13); simp only [i32_eq, i32_lt, i32_le, i32_nm1, i32_n0, i32_n1, i32_n2, i32_n3, i32_n4, i32_n5, i32_n6, i32_n7, i32_n8, i32_n9, i32_n10, i32_n20, i32_n30, i32_n31, i32_n39, i32_n40, i32_n49, i32_n50, i32_n100, i32_n160, i32_n1000, i32_n100000, i32_n1000000] at c_3 c_6 c_9 c_12 c_13 ⊢; omega))) d_C_seal_60 ?_
            refine lv_iconst (v := (-1)) hx hb d_C_seal_61 (by decide) ?_
            refine lv_icmp_ne (tgt := 92) hx hb d_C_seal_62 (by decide) (fun c_14 => ?_) (fun c_14 => ?_)
            · refine lv_iconst (v := 0) hx hb d_C_seal_92 (by decide) ?_
              refine W.widen (k := 1) (n := 6) (Nat.zero_le _) (Nat.zero_le _) (vx_ret ?_)
              exact W.iret (v := 0) hx hb hr (fun t ht hW => ⟨⟨0, σ, rfl, ⟨by ((try simp only [b2i_eq0, Classical.not_not] at c_3 c_6 c_9 c_12 c_13 c_14); grind), Or.inr ⟨by ((try simp only [b2i_eq0, Classical.not_not] at c_3 c_6 c_9 c_12 c_13 c_14); grind), rfl, rfl⟩⟩, by rw [ht]; exact hP, va_K.moved hW.alike hK, hD⟩, hS.F ht⟩) hS.2.2 d_C_seal_93
            · refine lv_aload_n hx hb d_C_seal_65 rfl (lv_at hl 0 rfl) ?_
              refine lv_iload_n hx hb d_C_seal_66 rfl (lv_at hl 1 rfl) ?_
              refine vp_callSi (W.runV (As := [.int p0]) (rest := []) ⟨hx, hb, hml, hown, hts⟩ (c_C_isBeingOpened l D cs ad σ n nm ci cj E hI p0) (cwV 1 hts (gw_V kw_446 kw_448 ks_0_11 kw_1 kw_449) rfl rfl rfl (by decide +kernel) ⟨Nat.le_of_ble_eq_true rfl, Nat.le_of_ble_eq_true rfl⟩) (rd_V hP hK (rl_recv hK hP (RC_f (by decide)) gC_0 rfl)) rfl rfl hl.1 rfl (lv_room (Nat.le_of_ble_eq_true rfl)) d_C_seal_67 ⟨Nat.zero_le _, Nat.zero_le _⟩) (fun r_15 h_16 => ?_)
              subst h_16
              refine lv_if_ne (tgt := 92) hx hb d_C_seal_70 (by decide) (fun c_17 => ?_) (fun c_17 => ?_)
              · refine lv_iconst (v := 0) hx hb d_C_seal_92 (by decide) ?_
                refine W.widen (k := 1) (n := 6) (Nat.zero_le _) (Nat.zero_le _) (vx_ret ?_)
                exact W.iret (v := 0) hx hb hr (fun t ht hW => ⟨⟨0, σ, rfl, ⟨by ((try simp only [b2i_eq0, Classical.not_not] at c_3 c_6 c_9 c_12 c_13 c_14 c_17); grind), Or.inr ⟨by ((try simp only [b2i_eq0, Classical.not_not] at c_3 c_6 c_9 c_12 c_13 c_14 c_17); grind), rfl, rfl⟩⟩, by rw [ht]; exact hP, va_K.moved hW.alike hK, hD⟩, hS.F ht⟩) hS.2.2 d_C_seal_93
              · refine lv_aload_n hx hb d_C_seal_73 rfl (lv_at hl 0 rfl) ?_
                refine lv_iload_n hx hb d_C_seal_74 rfl (lv_at hl 3 rfl) ?_
                refine lv_iconst (v := 5) hx hb d_C_seal_75 (by decide) ?_
                refine vp_callSi (W.runV (As := [.int p2, .int 5]) (rest := []) ⟨hx, hb, hml, hown, hts⟩ (c_C_mayDo l D cs ad σ n nm ci cj E hI p2 5) (cwV 2 hts (gw_V kw_101 kw_103 ks_0_0 kw_1 kw_104) rfl rfl rfl (by decide +kernel) ⟨Nat.le_of_ble_eq_true rfl, Nat.le_of_ble_eq_true rfl⟩) (rd_V hP hK (rl_recv hK hP (RC_f (by decide)) gC_0 rfl)) rfl rfl hl.1 rfl (lv_room (Nat.le_of_ble_eq_true rfl)) d_C_seal_76 ⟨Nat.zero_le _, Nat.zero_le _⟩) (fun r_18 h_19 => ?_)
                subst h_19
                refine lv_if_eq (tgt := 92) hx hb d_C_seal_79 (by decide) (fun c_20 => ?_) (fun c_20 => ?_)
                · refine lv_iconst (v := 0) hx hb d_C_seal_92 (by decide) ?_
                  refine W.widen (k := 1) (n := 6) (Nat.zero_le _) (Nat.zero_le _) (vx_ret ?_)
                  exact W.iret (v := 0) hx hb hr (fun t ht hW => ⟨⟨0, σ, rfl, ⟨by ((try simp only [b2i_eq0, Classical.not_not] at c_3 c_6 c_9 c_12 c_13 c_14 c_17 c_20); grind), Or.inr ⟨by ((try simp only [b2i_eq0, Classical.not_not] at c_3 c_6 c_9 c_12 c_13 c_14 c_17 c_20); grind), rfl, rfl⟩⟩, by rw [ht]; exact hP, va_K.moved hW.alike hK, hD⟩, hS.F ht⟩) hS.2.2 d_C_seal_93
                · refine lv_aload_n hx hb d_C_seal_82 rfl (lv_at hl 0 rfl) ?_
                  refine lv_iload hx hb d_C_seal_83 (lv_at hl 4 rfl) ?_
                  refine lv_iconst (v := 5) hx hb d_C_seal_85 (by decide) ?_
                  refine vp_callSi (W.runV (As := [.int p3, .int 5]) (rest := []) ⟨hx, hb, hml, hown, hts⟩ (c_C_mayDo l D cs ad σ n nm ci cj E hI p3 5) (cwV 2 hts (gw_V kw_101 kw_103 ks_0_0 kw_1 kw_104) rfl rfl rfl (by decide +kernel) ⟨Nat.le_of_ble_eq_true rfl, Nat.le_of_ble_eq_true rfl⟩) (rd_V hP hK (rl_recv hK hP (RC_f (by decide)) gC_0 rfl)) rfl rfl hl.1 rfl (lv_room (Nat.le_of_ble_eq_true rfl)) d_C_seal_86 ⟨Nat.zero_le _, Nat.zero_le _⟩) (fun r_21 h_22 => ?_)
                  subst h_22
                  refine lv_if_ne (tgt := 94) hx hb d_C_seal_89 (by decide) (fun c_23 => ?_) (fun c_23 => ?_)
                  · refine lv_aload_n hx hb d_C_seal_94 rfl (lv_at hl 0 rfl) ?_
                    refine rl_get (r := 0) (ci := 1) (v := .ref (ad 6)) (C := R_C) (T := F_C) (N := 10) hx hb hG in_C hown hK hP (RC_f (by decide)) gC_0 rfl 3 (by decide) kw_62 (fun _ h9 => h9) rfl d_C_seal_95 ?_
                    refine lv_iload_n hx hb d_C_seal_98 rfl (lv_at hl 1 rfl) ?_
                    refine lv_iload_n hx hb d_C_seal_99 rfl (lv_at hl 2 rfl) ?_
                    refine rl_iast (r := 6) (i := p0) (x := p1) hx hb hK hP hD hS (RC_f (by decide)) 0 gC_6 rfl (vp_in_iff.mpr (by ((try simp only [b2i_eq0, Classical.not_not] at c_3 c_6 c_9 c_12 c_13 c_14 c_17 c_20 c_23); simp only [i32_eq, i32_lt, i32_le, i32_nm1, i32_n0, i32_n1, i32_n2, i32_n3, i32_n4, i32_n5, i32_n6, i32_n7, i32_n8, i32_n9, i32_n10, i32_n20, i32_n30, i32_n31, i32_n39, i32_n40, i32_n49, i32_n50, i32_n100, i32_n160, i32_n1000, i32_n100000, i32_n1000000] at c_3 c_6 c_9 c_12 c_13 c_14 c_17 c_20 c_23 ⊢; omega))) d_C_seal_100 (fun H locs hP hD hS => ?_)
                    rw [wC_arr (k := 2) (hn_ hI) (hm_ hI) (by decide)] at hP hD
                    refine lv_iconst (v := 1) hx hb d_C_seal_101 (by decide) ?_
                    refine W.widen (k := 1) (n := 6) (Nat.zero_le _) (Nat.zero_le _) (vx_ret ?_)
                    exact W.iret (v := 1) hx hb hr (fun t ht hW => ⟨⟨1, su σ 2 p0.toNatClampNeg p1, rfl, ⟨by ((try simp only [b2i_eq0, Classical.not_not] at c_3 c_6 c_9 c_12 c_13 c_14 c_17 c_20 c_23); grind), Or.inl ⟨by ((try simp only [b2i_eq0, Classical.not_not] at c_3 c_6 c_9 c_12 c_13 c_14 c_17 c_20 c_23); grind), rfl, rfl⟩⟩, by rw [ht]; exact hP, va_K.moved hW.alike hK, hD⟩, hS.F ht⟩) hS.2.2 d_C_seal_102
                  · refine lv_iconst (v := 0) hx hb d_C_seal_92 (by decide) ?_
                    refine W.widen (k := 1) (n := 6) (Nat.zero_le _) (Nat.zero_le _) (vx_ret ?_)
                    exact W.iret (v := 0) hx hb hr (fun t ht hW => ⟨⟨0, σ, rfl, ⟨by ((try simp only [b2i_eq0, Classical.not_not] at c_3 c_6 c_9 c_12 c_13 c_14 c_17 c_20 c_23); grind), Or.inr ⟨by ((try simp only [b2i_eq0, Classical.not_not] at c_3 c_6 c_9 c_12 c_13 c_14 c_17 c_20 c_23); grind), rfl, rfl⟩⟩, by rw [ht]; exact hP, va_K.moved hW.alike hK, hD⟩, hS.F ht⟩) hS.2.2 d_C_seal_93
          · exact vx_throwS (own := "InspectSteps") (cls := xe_A) (text := "no such seal, or one person alone") (names := xe_up) (ik := 68) (is := 147) (ic := 72) (A := A) hx hb hst hown (by decide) (by decide) (hG _ kw_192) (hG _ kw_10) (hX.2 (147, "no such seal, or one person alone") (by decide)).choose_spec (xa_A hG hX) xa_A3 hZ.1 hZ.2 hS (hl.1.trans hml.symm) d_C_seal_45 d_C_seal_48 d_C_seal_49 d_C_seal_51 d_C_seal_54 (fun x h => (hnt x h).elim) (Nat.le_of_ble_eq_true rfl) (Nat.le_of_ble_eq_true rfl) (Nat.le_of_ble_eq_true rfl) (Nat.le_of_ble_eq_true rfl) hlocks (fun t ha hz hk => ⟨(), (by ((try simp only [b2i_eq0, Classical.not_not] at c_3 c_6 c_9 c_12 c_13); grind)), ⟨rfl, (thr_T hS hP hK hD ha hz hk).1⟩, (thr_T hS hP hK hD ha hz hk).2⟩) hS.2.2 (Nat.le_of_ble_eq_true rfl) (Nat.le_of_ble_eq_true rfl)
      · exact vx_throwS (own := "InspectSteps") (cls := xe_A) (text := "no such declaration or people") (names := xe_up) (ik := 68) (is := 142) (ic := 72) (A := A) hx hb hst hown (by decide) (by decide) (hG _ kw_192) (hG _ kw_10) (hX.2 (142, "no such declaration or people") (by decide)).choose_spec (xa_A hG hX) xa_A3 hZ.1 hZ.2 hS (hl.1.trans hml.symm) d_C_seal_22 d_C_seal_25 d_C_seal_26 d_C_seal_28 d_C_seal_31 (fun x h => (hnt x h).elim) (Nat.le_of_ble_eq_true rfl) (Nat.le_of_ble_eq_true rfl) (Nat.le_of_ble_eq_true rfl) (Nat.le_of_ble_eq_true rfl) hlocks (fun t ha hz hk => ⟨(), (by ((try simp only [b2i_eq0, Classical.not_not] at c_3 c_6 c_9); grind)), ⟨rfl, (thr_T hS hP hK hD ha hz hk).1⟩, (thr_T hS hP hK hD ha hz hk).2⟩) hS.2.2 (Nat.le_of_ble_eq_true rfl) (Nat.le_of_ble_eq_true rfl)
set_option maxHeartbeats 4000000 in
set_option maxRecDepth 100000 in
theorem c_C_begin (l : Launch) (D : va_G) (cs : Nat → ClassId) (ad : Nat → Nat) (σ : Nat → Nat → Int32) (n nm ci cj E : Nat) (hI : Iv n nm ci cj) (hJ : Jv σ n nm) (hst : l.stackTraces = false) (sz : Nat) (p0 p1 : Int32) : vx_Met l y_C_begin (Cond.code y_C_begin b_C_begin 4 (some .int) :: GW) ({ frames := 8, cells := 1, slots := 6, locals := 256 }) (va_Pc [.ref (ad 0), .int p0, .int p1] (xr_B D cs (wC cs ad σ n nm ci cj E) sz)) (va_Qi (fun r (u : Nat → Nat → Int32) => ∃ i, i < n ∧ p0 = nI i ∧ (0 ≤ p1 ∧ p1 ≤ 9) ∧ ((((σ 23 i = 1 ∧ σ 26 i ≤ σ 0 0 ∧ σ 0 0 ≤ σ 27 i) ∧ (0 ≤ p1 ∧ p1 ≤ 9) ∧ σ 1 p1.toNatClampNeg >>> (σ 21 i &&& 31) &&& 1 = 1) ∧ r = 1 ∧ ((3 ≤ σ 21 i ∧ u = su (su (su (su σ 23 i 2) 28 i p1) 4 (σ 20 i).toNatClampNeg (σ 4 (σ 20 i).toNatClampNeg + 100 * (σ 21 i + 1))) 2 (σ 20 i).toNatClampNeg (-1)) ∨ (¬ 3 ≤ σ 21 i ∧ u = su (su (su σ 23 i 2) 28 i p1) 4 (σ 20 i).toNatClampNeg (σ 4 (σ 20 i).toNatClampNeg + 100 * (σ 21 i + 1))))) ∨ (¬ ((σ 23 i = 1 ∧ σ 26 i ≤ σ 0 0 ∧ σ 0 0 ≤ σ 27 i) ∧ (0 ≤ p1 ∧ p1 ≤ 9) ∧ σ 1 p1.toNatClampNeg >>> (σ 21 i &&& 31) &&& 1 = 1) ∧ r = 0 ∧ u = σ))) (fun u => wr_T D cs (wC cs ad u n nm ci cj E) (va_A (wC cs ad σ n nm ci cj E) sz)) (va_A (wC cs ad σ n nm ci cj E) sz)) (vx_X (fun _ : Unit => ¬ ((∃ i, i < n ∧ p0 = nI i) ∧ (0 ≤ p1 ∧ p1 ≤ 9))) (fun E9 _ t => E9 = xe_A ∧ wr_T D cs (wC cs ad σ n nm ci cj E) (va_A (wC cs ad σ n nm ci cj E) sz) t) (va_A (wC cs ad σ n nm ci cj E) sz)) 1 6 (va_A (wC cs ad σ n nm ci cj E) sz) := by
  refine vx_ofW (cc := b_C_begin) (maxL := 4) (ret := (some .int)) (by decide) rfl ?_
  intro p e s m args below meth c s₁ B hml hnt hv
  obtain ⟨rfl, ⟨hsz, hP, hK, hD0⟩, hX, hZ⟩ := hv
  have hx := B.exec
  have hb := B.bytes
  have hr := B.returns
  have hts := atoms_spec (ws := Cond.code y_C_begin b_C_begin 4 (some .int) :: GW) B.pre
  have hG : ∀ w ∈ GW, w.before _ s = true := fun w h => hts w (List.mem_cons_of_mem _ h)
  have hown : s.vm.findClass R_C = some m.cls := findClass_of_methodNamed B.named
  have hlocks := B.notSynchronized
  subst hsz
  have hD := hD0.self (sz := s.heap.size)
  generalize hAe : va_A (wC cs ad σ n nm ci cj E) s.heap.size = A at hD hZ ⊢
  have hA : ∀ q : Nat, s.heap.size ≤ q → A q := fun q h => by rw [← hAe]; exact Or.inr h
  have hS : va_S A s.heap s.heap [] := va_S.rf
  have hl := lv_entry ([.ref (ad 0), .int p0, .int p1]) (n := 4) (Nat.le_of_ble_eq_true rfl)
  rw [lg_entry_eq]
  generalize (lg_sl ([.ref (ad 0), .int p0, .int p1]) ++ List.replicate (4 - (lg_sl ([.ref (ad 0), .int p0, .int p1])).length) Slot.unset).toArray = ls at hl ⊢
  have hl : lv_has ls 4 [(0, .ref (ad 0)), (1, .int p0), (2, .int p1)] := hl
  refine lv_aload_n hx hb d_C_begin_0 rfl (lv_at hl 0 rfl) ?_
  refine lv_iload_n hx hb d_C_begin_1 rfl (lv_at hl 1 rfl) ?_
  refine vp_callSi (W.runV (As := [.int p0]) (rest := []) ⟨hx, hb, hml, hown, hts⟩ (c_C_isInspection l D cs ad σ n nm ci cj E hI p0) (cwV 1 hts (gw_V kw_112 kw_114 ks_0_1 kw_1 kw_115) rfl rfl rfl (by decide +kernel) ⟨Nat.le_of_ble_eq_true rfl, Nat.le_of_ble_eq_true rfl⟩) (rd_V hP hK (rl_recv hK hP (RC_f (by decide)) gC_0 rfl)) rfl rfl hl.1 rfl (lv_room (Nat.le_of_ble_eq_true rfl)) d_C_begin_2 ⟨Nat.zero_le _, Nat.zero_le _⟩) (fun r_1 h_2 => ?_)
  subst h_2
  refine lv_if_eq (tgt := 15) hx hb d_C_begin_5 (by decide) (fun c_3 => ?_) (fun c_3 => ?_)
  · exact vx_throwS (own := "InspectSteps") (cls := xe_A) (text := "no such inspection or person") (names := xe_up) (ik := 68) (is := 119) (ic := 72) (A := A) hx hb hst hown (by decide) (by decide) (hG _ kw_192) (hG _ kw_10) (hX.2 (119, "no such inspection or person") (by decide)).choose_spec (xa_A hG hX) xa_A3 hZ.1 hZ.2 hS (hl.1.trans hml.symm) d_C_begin_15 d_C_begin_18 d_C_begin_19 d_C_begin_21 d_C_begin_24 (fun x h => (hnt x h).elim) (Nat.le_of_ble_eq_true rfl) (Nat.le_of_ble_eq_true rfl) (Nat.le_of_ble_eq_true rfl) (Nat.le_of_ble_eq_true rfl) hlocks (fun t ha hz hk => ⟨(), fun ⟨⟨j, hj, e9⟩, _⟩ => (b2i_eq0.mp c_3) (e9 ▸ at_not (by have := hI; unfold Iv at this; omega) hj), ⟨rfl, (thr_T hS hP hK hD ha hz hk).1⟩, (thr_T hS hP hK hD ha hz hk).2⟩) hS.2.2 (Nat.le_of_ble_eq_true rfl) (Nat.le_of_ble_eq_true rfl)
  · obtain ⟨i, hi, rfl⟩ := at_ (by have := hI; unfold Iv at this; omega) (Classical.not_not.mp (fun h => c_3 (b2i_eq0.mpr h)))
    refine lv_iload_n hx hb d_C_begin_8 rfl (lv_at hl 2 rfl) ?_
    refine vp_callSi (W.runS (As := [.int p1]) (rest := []) ⟨hx, hb, hml, hown, hts⟩ (c_C_isPerson l p1) (va_cwS 1 hts (gw_S kw_95 kw_96 kw_1 kw_97) rfl rfl rfl (by decide +kernel) ⟨Nat.le_of_ble_eq_true rfl, Nat.le_of_ble_eq_true rfl⟩) ⟨fun _ _ _ _ q => q, fun U _ _ => ⟨rfl, trivial⟩⟩ rfl rfl hl.1 rfl (lv_room (Nat.le_of_ble_eq_true rfl)) d_C_begin_9 ⟨Nat.zero_le _, Nat.zero_le _⟩) (fun r_4 h_5 => ?_)
    subst h_5
    refine lv_if_ne (tgt := 25) hx hb d_C_begin_12 (by decide) (fun c_6 => ?_) (fun c_6 => ?_)
    · refine lv_aload_n hx hb d_C_begin_25 rfl (lv_at hl 0 rfl) ?_
      refine rl_get (r := 0) (ci := 1) (v := .ref (ad 1)) (C := R_C) (T := F_C) (N := 10) hx hb hG in_C hown hK hP (RC_f (by decide)) gC_0 rfl 0 (by decide) kw_59 (fun _ h9 => h9) rfl d_C_begin_26 ?_
      refine lv_iload_n hx hb d_C_begin_29 rfl (lv_at hl 1 rfl) ?_
      refine va_csr (W.runV (As := [.int (nI i)]) (rest := []) ⟨hx, hb, hml, hown, hts⟩ (c_Al_get l D (tys_ cs) (ad 1) (ad 3) n ci i (ad (100 + i)) (σ 7 0) (cs 2) (rowsF 100 n ad) hi hI.2.2.1 (by have := hI; unfold Iv at this; omega) 2 rfl (if_pos hi)) (cwV 1 hts (gw_V kw_120 kw_121 kw_122 kw_4 kw_123) rfl rfl rfl (by decide +kernel) ⟨Nat.le_of_ble_eq_true rfl, Nat.le_of_ble_eq_true rfl⟩) (rd_V (rl_two hP (RC_f (by decide)) (gC_1 (Nat.lt_of_le_of_lt (Nat.zero_le _) hi)) (RC_3 (Nat.lt_of_le_of_lt (Nat.zero_le _) hi)) gC_3) hK (rl_recv hK hP (RC_f (by decide)) (gC_1 (Nat.lt_of_le_of_lt (Nat.zero_le _) hi)) rfl)) rfl rfl hl.1 rfl (lv_room (Nat.le_of_ble_eq_true rfl)) d_C_begin_30 ⟨Nat.zero_le _, Nat.zero_le _⟩) (fun r_7 h_8 => ?_)
      subst h_8
      refine va_castS hx hb hown (hG _ kw_134) ((hK.1 2 _ rfl).2) (rl_recv hK hP (RC_ins hi) (gC_ins (by have := hI; unfold Iv at this; omega)) rfl) d_C_begin_33 ?_
      refine lv_astore_n (lv' := [(3, .ref (ad (100 + i))), (0, .ref (ad 0)), (1, .int (nI i)), (2, .int p1)]) hx hb d_C_begin_36 rfl hl (by decide) rfl (fun ls hl => ?_)
      refine lv_aload_n hx hb d_C_begin_37 rfl (lv_at hl 0 rfl) ?_
      refine lv_aload_n hx hb d_C_begin_38 rfl (lv_at hl 1 rfl) ?_
      refine rl_get (r := 0) (ci := 1) (v := .int (σ 0 0)) (C := R_C) (T := F_C) (N := 10) hx hb hG in_C hown hK hP (RC_f (by decide)) gC_0 rfl 9 (by decide) kw_68 (fun _ h9 => h9) rfl d_C_begin_39 ?_
      refine vp_callSi (W.runV (As := [.int (σ 0 0)]) (rest := []) ⟨hx, hb, hml, hown, hts⟩ (c_I_canBeBegunAt l D (tys_ cs) (ad (100 + i)) (σ 20 i) (σ 21 i) (σ 22 i) (σ 23 i) (σ 24 i) (σ 25 i) (σ 26 i) (σ 27 i) (σ 28 i) (σ 29 i) (σ 0 0)) (cwV 1 hts (gw_V kw_419 kw_420 kw_421 kw_12 kw_422) rfl rfl rfl (by decide +kernel) ⟨Nat.le_of_ble_eq_true rfl, Nat.le_of_ble_eq_true rfl⟩) (rd_V (rl_one hP (RC_ins hi) (gC_ins (by have := hI; unfold Iv at this; omega))) hK (rl_recv hK hP (RC_ins hi) (gC_ins (by have := hI; unfold Iv at this; omega)) rfl)) rfl rfl hl.1 rfl (lv_room (Nat.le_of_ble_eq_true rfl)) d_C_begin_42 ⟨Nat.zero_le _, Nat.zero_le _⟩) (fun r_9 h_10 => ?_)
      subst h_10
      refine lv_if_eq (tgt := 60) hx hb d_C_begin_45 (by decide) (fun c_11 => ?_) (fun c_11 => ?_)
      · refine lv_iconst (v := 0) hx hb d_C_begin_60 (by decide) ?_
        refine W.widen (k := 1) (n := 6) (Nat.zero_le _) (Nat.zero_le _) (vx_ret ?_)
        exact W.iret (v := 0) hx hb hr (fun t ht hW => ⟨⟨0, σ, rfl, ⟨i, hi, rfl, Classical.not_not.mp (fun h => c_6 (b2i_eq0.mpr h)), Or.inr ⟨by ((try simp only [b2i_eq0, Classical.not_not] at c_6 c_11); grind), rfl, rfl⟩⟩, by rw [ht]; exact hP, va_K.moved hW.alike hK, hD⟩, hS.F ht⟩) hS.2.2 d_C_begin_61
      · refine lv_aload_n hx hb d_C_begin_48 rfl (lv_at hl 1 rfl) ?_
        refine lv_iload_n hx hb d_C_begin_49 rfl (lv_at hl 3 rfl) ?_
        refine lv_aload_n hx hb d_C_begin_50 rfl (lv_at hl 0 rfl) ?_
        refine rl_get (r := 100 + i) (ci := 2) (v := .int (σ 21 i)) (C := R_I) (T := F_I) (N := 10) hx hb hG in_I hown hK hP (RC_ins hi) (gC_ins (by have := hI; unfold Iv at this; omega)) rfl 1 (by decide) kw_290 (fun _ h9 => h9) rfl d_C_begin_51 ?_
        refine vp_callSi (W.runV (As := [.int p1, .int (σ 21 i)]) (rest := []) ⟨hx, hb, hml, hown, hts⟩ (c_C_mayDo l D cs ad σ n nm ci cj E hI p1 (σ 21 i)) (cwV 2 hts (gw_V kw_101 kw_103 ks_0_0 kw_1 kw_104) rfl rfl rfl (by decide +kernel) ⟨Nat.le_of_ble_eq_true rfl, Nat.le_of_ble_eq_true rfl⟩) (rd_V hP hK (rl_recv hK hP (RC_f (by decide)) gC_0 rfl)) rfl rfl hl.1 rfl (lv_room (Nat.le_of_ble_eq_true rfl)) d_C_begin_54 ⟨Nat.zero_le _, Nat.zero_le _⟩) (fun r_12 h_13 => ?_)
        subst h_13
        refine lv_if_ne (tgt := 62) hx hb d_C_begin_57 (by decide) (fun c_14 => ?_) (fun c_14 => ?_)
        · refine lv_aload_n hx hb d_C_begin_62 rfl (lv_at hl 0 rfl) ?_
          refine lv_iconst (v := 2) hx hb d_C_begin_63 (by decide) ?_
          refine rl_put (r := 100 + i) (ci := 2) (v := .int 2) (ty := .int) (C := R_I) (T := F_I) (N := 10) hx hb hG in_I T_I T_I_ok n_I hown hK hP hD hS (RC_ins hi) (gC_ins (by have := hI; unfold Iv at this; omega)) rfl 3 (by decide) kw_293 (fun _ h9 => h9) rfl (by decide +kernel) rfl rfl (Nat.le_of_ble_eq_true rfl) d_C_begin_64 (fun H locs hP hD hS => ?_)
          rw [wC_ins (f := 3) (hn_ hI) (hm_ hI) (by have := hI; unfold Iv at this; omega) (by decide)] at hP hD
          refine lv_aload_n hx hb d_C_begin_67 rfl (lv_at hl 0 rfl) ?_
          refine lv_iload_n hx hb d_C_begin_68 rfl (lv_at hl 3 rfl) ?_
          refine rl_put (r := 100 + i) (ci := 2) (v := .int p1) (ty := .int) (C := R_I) (T := F_I) (N := 10) hx hb hG in_I T_I T_I_ok n_I hown hK hP hD hS (RC_ins hi) (gC_ins (by have := hI; unfold Iv at this; omega)) rfl 8 (by decide) kw_303 (fun _ h9 => h9) rfl (by decide +kernel) rfl rfl (Nat.le_of_ble_eq_true rfl) d_C_begin_69 (fun H locs hP hD hS => ?_)
          rw [wC_ins (f := 8) (hn_ hI) (hm_ hI) (by have := hI; unfold Iv at this; omega) (by decide)] at hP hD
          refine lv_aload_n hx hb d_C_begin_72 rfl (lv_at hl 1 rfl) ?_
          refine rl_get (r := 0) (ci := 1) (v := .ref (ad 8)) (C := R_C) (T := F_C) (N := 10) hx hb hG in_C hown hK hP (RC_f (by decide)) gC_0 rfl 5 (by decide) kw_64 (fun _ h9 => h9) rfl d_C_begin_73 ?_
          refine lv_aload_n hx hb d_C_begin_76 rfl (lv_at hl 0 rfl) ?_
          refine rl_get (r := 100 + i) (ci := 2) (v := .int (σ 20 i)) (C := R_I) (T := F_I) (N := 10) hx hb hG in_I hown hK hP (RC_ins hi) (gC_ins (by have := hI; unfold Iv at this; omega)) rfl 0 (by decide) kw_288 (fun _ h9 => h9) rfl d_C_begin_77 ?_
          refine lv_dup2_11 hx hb d_C_begin_80 rfl rfl ?_
          refine rl_iald (r := 8) (i := σ 20 i) hx hb hK hP (RC_f (by decide)) 0 gC_8 rfl (hJ.1 i hi).1 d_C_begin_81 ?_
          refine lv_bipush (v := 100) hx hb d_C_begin_82 (by decide) ?_
          refine lv_aload_n hx hb d_C_begin_84 rfl (lv_at hl 0 rfl) ?_
          refine rl_get (r := 100 + i) (ci := 2) (v := .int (σ 21 i)) (C := R_I) (T := F_I) (N := 10) hx hb hG in_I hown hK hP (RC_ins hi) (gC_ins (by have := hI; unfold Iv at this; omega)) rfl 1 (by decide) kw_290 (fun _ h9 => h9) rfl d_C_begin_85 ?_
          refine lv_iconst (v := 1) hx hb d_C_begin_88 (by decide) ?_
          refine lv_iadd hx hb d_C_begin_89 ?_
          refine lv_imul hx hb d_C_begin_90 ?_
          refine lv_iadd hx hb d_C_begin_91 ?_
          refine rl_iast (r := 8) (i := σ 20 i) (x := (σ 4 ((σ 20 i).toNatClampNeg)) + (100 * ((σ 21 i) + 1))) hx hb hK hP hD hS (RC_f (by decide)) 0 gC_8 rfl (hJ.1 i hi).1 d_C_begin_92 (fun H locs hP hD hS => ?_)
          rw [wC_arr (k := 4) (hn_ hI) (hm_ hI) (by decide)] at hP hD
          refine lv_aload_n hx hb d_C_begin_93 rfl (lv_at hl 0 rfl) ?_
          refine vp_callSi (W.runV (As := []) (rest := []) ⟨hx, hb, hml, hown, hts⟩ (c_I_isOpening l D (tys_ cs) (ad (100 + i)) (σ 20 i) (σ 21 i) (σ 22 i) ((su σ 23 i 2) 23 i) (σ 24 i) (σ 25 i) (σ 26 i) (σ 27 i) ((su (su σ 23 i 2) 28 i p1) 28 i) (σ 29 i)) (cwV 0 hts (gw_V kw_423 kw_424 kw_425 kw_12 kw_426) rfl rfl rfl (by decide +kernel) ⟨Nat.le_of_ble_eq_true rfl, Nat.le_of_ble_eq_true rfl⟩) (rd_V (rl_one hP (RC_ins hi) (gC_ins (by have := hI; unfold Iv at this; omega))) hK (rl_recv hK hP (RC_ins hi) (gC_ins (by have := hI; unfold Iv at this; omega)) rfl)) rfl rfl hl.1 rfl (lv_room (Nat.le_of_ble_eq_true rfl)) d_C_begin_94 ⟨Nat.zero_le _, Nat.zero_le _⟩) (fun r_15 h_16 => ?_)
          subst h_16
          refine lv_if_eq (tgt := 110) hx hb d_C_begin_97 (by decide) (fun c_17 => ?_) (fun c_17 => ?_)
          · refine lv_iconst (v := 1) hx hb d_C_begin_110 (by decide) ?_
            refine W.widen (k := 1) (n := 6) (Nat.zero_le _) (Nat.zero_le _) (vx_ret ?_)
            exact W.iret (v := 1) hx hb hr (fun t ht hW => ⟨⟨1, su (su (su σ 23 i 2) 28 i p1) 4 ((σ 20 i).toNatClampNeg) ((σ 4 ((σ 20 i).toNatClampNeg)) + (100 * ((σ 21 i) + 1))), rfl, ⟨i, hi, rfl, Classical.not_not.mp (fun h => c_6 (b2i_eq0.mpr h)), Or.inl ⟨by ((try simp only [b2i_eq0, Classical.not_not] at c_6 c_11 c_14 c_17); grind), rfl, Or.inr ⟨by ((try simp only [b2i_eq0, Classical.not_not] at c_6 c_11 c_14 c_17); grind), rfl⟩⟩⟩, by rw [ht]; exact hP, va_K.moved hW.alike hK, hD⟩, hS.F ht⟩) hS.2.2 d_C_begin_111
          · refine lv_aload_n hx hb d_C_begin_100 rfl (lv_at hl 1 rfl) ?_
            refine rl_get (r := 0) (ci := 1) (v := .ref (ad 6)) (C := R_C) (T := F_C) (N := 10) hx hb hG in_C hown hK hP (RC_f (by decide)) gC_0 rfl 3 (by decide) kw_62 (fun _ h9 => h9) rfl d_C_begin_101 ?_
            refine lv_aload_n hx hb d_C_begin_104 rfl (lv_at hl 0 rfl) ?_
            refine rl_get (r := 100 + i) (ci := 2) (v := .int (σ 20 i)) (C := R_I) (T := F_I) (N := 10) hx hb hG in_I hown hK hP (RC_ins hi) (gC_ins (by have := hI; unfold Iv at this; omega)) rfl 0 (by decide) kw_288 (fun _ h9 => h9) rfl d_C_begin_105 ?_
            refine lv_iconst (v := (-1)) hx hb d_C_begin_108 (by decide) ?_
            refine rl_iast (r := 6) (i := σ 20 i) (x := (-1)) hx hb hK hP hD hS (RC_f (by decide)) 0 gC_6 rfl (hJ.1 i hi).1 d_C_begin_109 (fun H locs hP hD hS => ?_)
            rw [wC_arr (k := 2) (hn_ hI) (hm_ hI) (by decide)] at hP hD
            refine lv_iconst (v := 1) hx hb d_C_begin_110 (by decide) ?_
            refine W.widen (k := 1) (n := 6) (Nat.zero_le _) (Nat.zero_le _) (vx_ret ?_)
            exact W.iret (v := 1) hx hb hr (fun t ht hW => ⟨⟨1, su (su (su (su σ 23 i 2) 28 i p1) 4 ((σ 20 i).toNatClampNeg) ((σ 4 ((σ 20 i).toNatClampNeg)) + (100 * ((σ 21 i) + 1)))) 2 ((σ 20 i).toNatClampNeg) (-1), rfl, ⟨i, hi, rfl, Classical.not_not.mp (fun h => c_6 (b2i_eq0.mpr h)), Or.inl ⟨by ((try simp only [b2i_eq0, Classical.not_not] at c_6 c_11 c_14 c_17); grind), rfl, Or.inl ⟨by ((try simp only [b2i_eq0, Classical.not_not] at c_6 c_11 c_14 c_17); grind), rfl⟩⟩⟩, by rw [ht]; exact hP, va_K.moved hW.alike hK, hD⟩, hS.F ht⟩) hS.2.2 d_C_begin_111
        · refine lv_iconst (v := 0) hx hb d_C_begin_60 (by decide) ?_
          refine W.widen (k := 1) (n := 6) (Nat.zero_le _) (Nat.zero_le _) (vx_ret ?_)
          exact W.iret (v := 0) hx hb hr (fun t ht hW => ⟨⟨0, σ, rfl, ⟨i, hi, rfl, Classical.not_not.mp (fun h => c_6 (b2i_eq0.mpr h)), Or.inr ⟨by ((try simp only [b2i_eq0, Classical.not_not] at c_6 c_11 c_14); grind), rfl, rfl⟩⟩, by rw [ht]; exact hP, va_K.moved hW.alike hK, hD⟩, hS.F ht⟩) hS.2.2 d_C_begin_61
    · exact vx_throwS (own := "InspectSteps") (cls := xe_A) (text := "no such inspection or person") (names := xe_up) (ik := 68) (is := 119) (ic := 72) (A := A) hx hb hst hown (by decide) (by decide) (hG _ kw_192) (hG _ kw_10) (hX.2 (119, "no such inspection or person") (by decide)).choose_spec (xa_A hG hX) xa_A3 hZ.1 hZ.2 hS (hl.1.trans hml.symm) d_C_begin_15 d_C_begin_18 d_C_begin_19 d_C_begin_21 d_C_begin_24 (fun x h => (hnt x h).elim) (Nat.le_of_ble_eq_true rfl) (Nat.le_of_ble_eq_true rfl) (Nat.le_of_ble_eq_true rfl) (Nat.le_of_ble_eq_true rfl) hlocks (fun t ha hz hk => ⟨(), fun h9 => (b2i_eq0.mp c_6) h9.2, ⟨rfl, (thr_T hS hP hK hD ha hz hk).1⟩, (thr_T hS hP hK hD ha hz hk).2⟩) hS.2.2 (Nat.le_of_ble_eq_true rfl) (Nat.le_of_ble_eq_true rfl)
