set_option maxHeartbeats 4000000 in
set_option maxRecDepth 100000 in
theorem c_C_end (l : Launch) (D : va_G) (cs : Nat → ClassId) (ad : Nat → Nat) (σ : Nat → Nat → Int32) (n nm ci cj E : Nat) (hI : Iv n nm ci cj) (hst : l.stackTraces = false) (sz : Nat) (p0 p1 p2 : Int32) : vx_Met l y_C_end (Cond.code y_C_end b_C_end 5 (some .int) :: GW) ({ frames := 8, cells := 1, slots := 6, locals := 256 }) (va_Pc [.ref (ad 0), .int p0, .int p1, .int p2] (xr_B D cs (wC cs ad σ n nm ci cj E) sz)) (va_Qi (fun r (u : Nat → Nat → Int32) => ∃ i, i < n ∧ p0 = nI i ∧ (0 ≤ p1 ∧ p1 ≤ 9) ∧ ((σ 23 i = 2 ∧ σ 28 i = p1 ∧ r = 1 ∧ u = su σ 23 i (if p2 = 0 then 4 else 3)) ∨ (¬ (σ 23 i = 2 ∧ σ 28 i = p1) ∧ r = 0 ∧ u = σ))) (fun u => wr_T D cs (wC cs ad u n nm ci cj E) (va_A (wC cs ad σ n nm ci cj E) sz)) (va_A (wC cs ad σ n nm ci cj E) sz)) (vx_X (fun _ : Unit => ¬ ((∃ i, i < n ∧ p0 = nI i) ∧ (0 ≤ p1 ∧ p1 ≤ 9))) (fun E9 _ t => E9 = xe_A ∧ wr_T D cs (wC cs ad σ n nm ci cj E) (va_A (wC cs ad σ n nm ci cj E) sz) t) (va_A (wC cs ad σ n nm ci cj E) sz)) 1 6 (va_A (wC cs ad σ n nm ci cj E) sz) := by
  refine vx_ofW (cc := b_C_end) (maxL := 5) (ret := (some .int)) (by decide) rfl ?_
  intro p e s m args below meth c s₁ B hml hnt hv
  obtain ⟨rfl, ⟨hsz, hP, hK, hD0⟩, hX, hZ⟩ := hv
  have hx := B.exec
  have hb := B.bytes
  have hr := B.returns
  have hts := atoms_spec (ws := Cond.code y_C_end b_C_end 5 (some .int) :: GW) B.pre
  have hG : ∀ w ∈ GW, w.before _ s = true := fun w h => hts w (List.mem_cons_of_mem _ h)
  have hown : s.vm.findClass R_C = some m.cls := findClass_of_methodNamed B.named
  have hlocks := B.notSynchronized
  subst hsz
  have hD := hD0.self (sz := s.heap.size)
  generalize hAe : va_A (wC cs ad σ n nm ci cj E) s.heap.size = A at hD hZ ⊢
  have hA : ∀ q : Nat, s.heap.size ≤ q → A q := fun q h => by rw [← hAe]; exact Or.inr h
  have hS : va_S A s.heap s.heap [] := va_S.rf
  have hl := lv_entry ([.ref (ad 0), .int p0, .int p1, .int p2]) (n := 5) (Nat.le_of_ble_eq_true rfl)
  rw [lg_entry_eq]
  generalize (lg_sl ([.ref (ad 0), .int p0, .int p1, .int p2]) ++ List.replicate (5 - (lg_sl ([.ref (ad 0), .int p0, .int p1, .int p2])).length) Slot.unset).toArray = ls at hl ⊢
  have hl : lv_has ls 5 [(0, .ref (ad 0)), (1, .int p0), (2, .int p1), (3, .int p2)] := hl
  refine lv_aload_n hx hb d_C_end_0 rfl (lv_at hl 0 rfl) ?_
  refine lv_iload_n hx hb d_C_end_1 rfl (lv_at hl 1 rfl) ?_
  refine vp_callSi (W.runV (As := [.int p0]) (rest := []) ⟨hx, hb, hml, hown, hts⟩ (c_C_isInspection l D cs ad σ n nm ci cj E hI p0) (cwV 1 hts (gw_V kw_112 kw_114 ks_0_1 kw_1 kw_115) rfl rfl rfl (by decide +kernel) ⟨Nat.le_of_ble_eq_true rfl, Nat.le_of_ble_eq_true rfl⟩) (rd_V hP hK (rl_recv hK hP (RC_f (by decide)) gC_0 rfl)) rfl rfl hl.1 rfl (lv_room (Nat.le_of_ble_eq_true rfl)) d_C_end_2 ⟨Nat.zero_le _, Nat.zero_le _⟩) (fun r_1 h_2 => ?_)
  subst h_2
  refine lv_if_eq (tgt := 15) hx hb d_C_end_5 (by decide) (fun c_3 => ?_) (fun c_3 => ?_)
  · exact vx_throwS (own := "InspectSteps") (cls := xe_A) (text := "no such inspection or person") (names := xe_up) (ik := 68) (is := 119) (ic := 72) (A := A) hx hb hst hown (by decide) (by decide) (hG _ kw_192) (hG _ kw_10) (hX.2 (119, "no such inspection or person") (by decide)).choose_spec (xa_A hG hX) xa_A3 hZ.1 hZ.2 hS (hl.1.trans hml.symm) d_C_end_15 d_C_end_18 d_C_end_19 d_C_end_21 d_C_end_24 (fun x h => (hnt x h).elim) (Nat.le_of_ble_eq_true rfl) (Nat.le_of_ble_eq_true rfl) (Nat.le_of_ble_eq_true rfl) (Nat.le_of_ble_eq_true rfl) hlocks (fun t ha hz hk => ⟨(), fun ⟨⟨j, hj, e9⟩, _⟩ => (b2i_eq0.mp c_3) (e9 ▸ at_not (by have := hI; unfold Iv at this; omega) hj), ⟨rfl, (thr_T hS hP hK hD ha hz hk).1⟩, (thr_T hS hP hK hD ha hz hk).2⟩) hS.2.2 (Nat.le_of_ble_eq_true rfl) (Nat.le_of_ble_eq_true rfl)
  · obtain ⟨i, hi, rfl⟩ := at_ (by have := hI; unfold Iv at this; omega) (Classical.not_not.mp (fun h => c_3 (b2i_eq0.mpr h)))
    refine lv_iload_n hx hb d_C_end_8 rfl (lv_at hl 2 rfl) ?_
    refine vp_callSi (W.runS (As := [.int p1]) (rest := []) ⟨hx, hb, hml, hown, hts⟩ (c_C_isPerson l p1) (va_cwS 1 hts (gw_S kw_95 kw_96 kw_1 kw_97) rfl rfl rfl (by decide +kernel) ⟨Nat.le_of_ble_eq_true rfl, Nat.le_of_ble_eq_true rfl⟩) ⟨fun _ _ _ _ q => q, fun U _ _ => ⟨rfl, trivial⟩⟩ rfl rfl hl.1 rfl (lv_room (Nat.le_of_ble_eq_true rfl)) d_C_end_9 ⟨Nat.zero_le _, Nat.zero_le _⟩) (fun r_4 h_5 => ?_)
    subst h_5
    refine lv_if_ne (tgt := 25) hx hb d_C_end_12 (by decide) (fun c_6 => ?_) (fun c_6 => ?_)
    · refine lv_aload_n hx hb d_C_end_25 rfl (lv_at hl 0 rfl) ?_
      refine rl_get (r := 0) (ci := 1) (v := .ref (ad 1)) (C := R_C) (T := F_C) (N := 10) hx hb hG in_C hown hK hP (RC_f (by decide)) gC_0 rfl 0 (by decide) kw_59 (fun _ h9 => h9) rfl d_C_end_26 ?_
      refine lv_iload_n hx hb d_C_end_29 rfl (lv_at hl 1 rfl) ?_
      refine va_csr (W.runV (As := [.int (nI i)]) (rest := []) ⟨hx, hb, hml, hown, hts⟩ (c_Al_get l D (tys_ cs) (ad 1) (ad 3) n ci i (ad (100 + i)) (σ 7 0) (cs 2) (rowsF 100 n ad) hi hI.2.2.1 (by have := hI; unfold Iv at this; omega) 2 rfl (if_pos hi)) (cwV 1 hts (gw_V kw_120 kw_121 kw_122 kw_4 kw_123) rfl rfl rfl (by decide +kernel) ⟨Nat.le_of_ble_eq_true rfl, Nat.le_of_ble_eq_true rfl⟩) (rd_V (rl_two hP (RC_f (by decide)) (gC_1 (Nat.lt_of_le_of_lt (Nat.zero_le _) hi)) (RC_3 (Nat.lt_of_le_of_lt (Nat.zero_le _) hi)) gC_3) hK (rl_recv hK hP (RC_f (by decide)) (gC_1 (Nat.lt_of_le_of_lt (Nat.zero_le _) hi)) rfl)) rfl rfl hl.1 rfl (lv_room (Nat.le_of_ble_eq_true rfl)) d_C_end_30 ⟨Nat.zero_le _, Nat.zero_le _⟩) (fun r_7 h_8 => ?_)
      subst h_8
      refine va_castS hx hb hown (hG _ kw_134) ((hK.1 2 _ rfl).2) (rl_recv hK hP (RC_ins hi) (gC_ins (by have := hI; unfold Iv at this; omega)) rfl) d_C_end_33 ?_
      refine lv_astore (lv' := [(4, .ref (ad (100 + i))), (0, .ref (ad 0)), (1, .int (nI i)), (2, .int p1), (3, .int p2)]) hx hb d_C_end_36 hl (by decide) rfl (fun ls hl => ?_)
      refine lv_aload hx hb d_C_end_38 (lv_at hl 0 rfl) ?_
      refine rl_get (r := 100 + i) (ci := 2) (v := .int (σ 23 i)) (C := R_I) (T := F_I) (N := 10) hx hb hG in_I hown hK hP (RC_ins hi) (gC_ins (by have := hI; unfold Iv at this; omega)) rfl 3 (by decide) kw_293 (fun _ h9 => h9) rfl d_C_end_40 ?_
      refine lv_iconst (v := 2) hx hb d_C_end_43 (by decide) ?_
      refine lv_icmp_ne (tgt := 56) hx hb d_C_end_44 (by decide) (fun c_9 => ?_) (fun c_9 => ?_)
      · refine lv_iconst (v := 0) hx hb d_C_end_56 (by decide) ?_
        refine W.widen (k := 1) (n := 6) (Nat.zero_le _) (Nat.zero_le _) (vx_ret ?_)
        exact W.iret (v := 0) hx hb hr (fun t ht hW => ⟨⟨0, σ, rfl, ⟨i, hi, rfl, Classical.not_not.mp (fun h => c_6 (b2i_eq0.mpr h)), Or.inr ⟨fun h9 => c_9 h9.1, rfl, rfl⟩⟩, by rw [ht]; exact hP, va_K.moved hW.alike hK, hD⟩, hS.F ht⟩) hS.2.2 d_C_end_57
      · refine lv_aload hx hb d_C_end_47 (lv_at hl 0 rfl) ?_
        refine rl_get (r := 100 + i) (ci := 2) (v := .int (σ 28 i)) (C := R_I) (T := F_I) (N := 10) hx hb hG in_I hown hK hP (RC_ins hi) (gC_ins (by have := hI; unfold Iv at this; omega)) rfl 8 (by decide) kw_303 (fun _ h9 => h9) rfl d_C_end_49 ?_
        refine lv_iload_n hx hb d_C_end_52 rfl (lv_at hl 3 rfl) ?_
        refine lv_icmp_eq (tgt := 58) hx hb d_C_end_53 (by decide) (fun c_10 => ?_) (fun c_10 => ?_)
        · refine lv_aload hx hb d_C_end_58 (lv_at hl 0 rfl) ?_
          refine lv_iload_n hx hb d_C_end_60 rfl (lv_at hl 4 rfl) ?_
          refine lv_if_eq (tgt := 68) hx hb d_C_end_61 (by decide) (fun c_11 => ?_) (fun c_11 => ?_)
          · refine lv_iconst (v := 4) hx hb d_C_end_68 (by decide) ?_
            refine rl_put (r := 100 + i) (ci := 2) (v := .int 4) (ty := .int) (C := R_I) (T := F_I) (N := 10) hx hb hG in_I T_I T_I_ok n_I hown hK hP hD hS (RC_ins hi) (gC_ins (by have := hI; unfold Iv at this; omega)) rfl 3 (by decide) kw_293 (fun _ h9 => h9) rfl (by decide +kernel) rfl rfl (Nat.le_of_ble_eq_true rfl) d_C_end_69 (fun H locs hP hD hS => ?_)
            rw [wC_ins (f := 3) (hn_ hI) (hm_ hI) (by have := hI; unfold Iv at this; omega) (by decide)] at hP hD
            refine lv_iconst (v := 1) hx hb d_C_end_72 (by decide) ?_
            refine W.widen (k := 1) (n := 6) (Nat.zero_le _) (Nat.zero_le _) (vx_ret ?_)
            exact W.iret (v := 1) hx hb hr (fun t ht hW => ⟨⟨1, su σ 23 i 4, rfl, ⟨i, hi, rfl, Classical.not_not.mp (fun h => c_6 (b2i_eq0.mpr h)), Or.inl ⟨c_9, c_10, rfl, by rw [if_pos c_11]⟩⟩, by rw [ht]; exact hP, va_K.moved hW.alike hK, hD⟩, hS.F ht⟩) hS.2.2 d_C_end_73
          · refine lv_iconst (v := 3) hx hb d_C_end_64 (by decide) ?_
            refine lv_goto (tgt := 69) hx hb d_C_end_65 (by decide) ?_
            refine rl_put (r := 100 + i) (ci := 2) (v := .int 3) (ty := .int) (C := R_I) (T := F_I) (N := 10) hx hb hG in_I T_I T_I_ok n_I hown hK hP hD hS (RC_ins hi) (gC_ins (by have := hI; unfold Iv at this; omega)) rfl 3 (by decide) kw_293 (fun _ h9 => h9) rfl (by decide +kernel) rfl rfl (Nat.le_of_ble_eq_true rfl) d_C_end_69 (fun H locs hP hD hS => ?_)
            rw [wC_ins (f := 3) (hn_ hI) (hm_ hI) (by have := hI; unfold Iv at this; omega) (by decide)] at hP hD
            refine lv_iconst (v := 1) hx hb d_C_end_72 (by decide) ?_
            refine W.widen (k := 1) (n := 6) (Nat.zero_le _) (Nat.zero_le _) (vx_ret ?_)
            exact W.iret (v := 1) hx hb hr (fun t ht hW => ⟨⟨1, su σ 23 i 3, rfl, ⟨i, hi, rfl, Classical.not_not.mp (fun h => c_6 (b2i_eq0.mpr h)), Or.inl ⟨c_9, c_10, rfl, by rw [if_neg c_11]⟩⟩, by rw [ht]; exact hP, va_K.moved hW.alike hK, hD⟩, hS.F ht⟩) hS.2.2 d_C_end_73
        · refine lv_iconst (v := 0) hx hb d_C_end_56 (by decide) ?_
          refine W.widen (k := 1) (n := 6) (Nat.zero_le _) (Nat.zero_le _) (vx_ret ?_)
          exact W.iret (v := 0) hx hb hr (fun t ht hW => ⟨⟨0, σ, rfl, ⟨i, hi, rfl, Classical.not_not.mp (fun h => c_6 (b2i_eq0.mpr h)), Or.inr ⟨fun h9 => c_10 h9.2, rfl, rfl⟩⟩, by rw [ht]; exact hP, va_K.moved hW.alike hK, hD⟩, hS.F ht⟩) hS.2.2 d_C_end_57
    · exact vx_throwS (own := "InspectSteps") (cls := xe_A) (text := "no such inspection or person") (names := xe_up) (ik := 68) (is := 119) (ic := 72) (A := A) hx hb hst hown (by decide) (by decide) (hG _ kw_192) (hG _ kw_10) (hX.2 (119, "no such inspection or person") (by decide)).choose_spec (xa_A hG hX) xa_A3 hZ.1 hZ.2 hS (hl.1.trans hml.symm) d_C_end_15 d_C_end_18 d_C_end_19 d_C_end_21 d_C_end_24 (fun x h => (hnt x h).elim) (Nat.le_of_ble_eq_true rfl) (Nat.le_of_ble_eq_true rfl) (Nat.le_of_ble_eq_true rfl) (Nat.le_of_ble_eq_true rfl) hlocks (fun t ha hz hk => ⟨(), fun h9 => (b2i_eq0.mp c_6) h9.2, ⟨rfl, (thr_T hS hP hK hD ha hz hk).1⟩, (thr_T hS hP hK hD ha hz hk).2⟩) hS.2.2 (Nat.le_of_ble_eq_true rfl) (Nat.le_of_ble_eq_true rfl)
