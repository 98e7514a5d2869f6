set_option maxHeartbeats 4000000 in
set_option maxRecDepth 100000 in
theorem c_M_plan (l : Launch) (D : va_G) (cs : Nat → ClassId) (ad : Nat → Nat) (τ : Nat → Nat → Int32) (n nm : Nat) (hM : Mv τ n nm) (sz : Nat) (p0 p1 p2 p3 : Int32) : Met l y_M_plan (Cond.code y_M_plan b_M_plan 7 (some .int) :: GW) ({ frames := 2, cells := 0, slots := 0, locals := 64 }) (va_Pc [.ref (ad 0), .int p0, .int p1, .int p2, .int p3] (wr_B D cs (wM cs ad τ) sz)) (va_Qi (fun r (u : Nat → Nat → Int32) => (¬ ((0 ≤ p0 ∧ p0 < nI n) ∧ (0 ≤ p1 ∧ p1 ≤ 3) ∧ (τ 0 3 ≤ p2 ∧ p2 ≤ 100000) ∧ (τ 0 3 ≤ p3 ∧ p3 ≤ 100000) ∧ p2 < p3) ∧ r = 0 ∧ u = su τ 0 0 1) ∨ ∃ i, i < n ∧ p0 = nI i ∧ (0 ≤ p1 ∧ p1 ≤ 3) ∧ (τ 0 3 ≤ p2 ∧ p2 ≤ 100000) ∧ (τ 0 3 ≤ p3 ∧ p3 ≤ 100000) ∧ p2 < p3 ∧ ((¬ ((τ 8 i = 0 ∨ τ 8 i = 4) ∧ ¬ ∃ j, j < n ∧ ((τ 8 j = 1 ∨ τ 8 j = 2) ∧ τ 10 j = p1 ∧ τ 11 j < p3 ∧ p2 < τ 12 j)) ∧ r = 0 ∧ u = su τ 0 0 0) ∨ (((τ 8 i = 0 ∨ τ 8 i = 4) ∧ ¬ ∃ j, j < n ∧ ((τ 8 j = 1 ∨ τ 8 j = 2) ∧ τ 10 j = p1 ∧ τ 11 j < p3 ∧ p2 < τ 12 j)) ∧ r = 1 ∧ u = su (su (su (su (su τ 0 0 0) 8 i 1) 10 i p1) 11 i p2) 12 i p3))) (fun u => wr_T D cs (wM cs ad u) (va_A (wM cs ad τ) sz)) (va_A (wM cs ad τ) sz)) 0 0 (va_A (wM cs ad τ) sz) := by
  refine Met.ofW (cc := b_M_plan) (maxL := 7) (ret := (some .int)) (by decide) rfl ?_
  intro p e s m args below meth c s₁ B hml hv
  obtain ⟨rfl, hsz, hP, hK, hD0⟩ := hv
  have hx := B.exec
  have hb := B.bytes
  have hr := B.returns
  have hts := atoms_spec (ws := Cond.code y_M_plan b_M_plan 7 (some .int) :: GW) B.pre
  have hG : ∀ w ∈ GW, w.before _ s = true := fun w h => hts w (List.mem_cons_of_mem _ h)
  have hown : s.vm.findClass R_M = some m.cls := findClass_of_methodNamed B.named
  have hlocks := B.notSynchronized
  subst hsz
  have hD := hD0.self (sz := s.heap.size)
  generalize hAe : va_A (wM cs ad τ) s.heap.size = A at hD ⊢
  have hA : ∀ q : Nat, s.heap.size ≤ q → A q := fun q h => by rw [← hAe]; exact Or.inr h
  have hS : va_S A s.heap s.heap [] := va_S.rf
  have hn30 : n ≤ 30 := hM.2.2.1
  have hm40 : nm ≤ 40 := hM.2.2.2.1
  have hl := lv_entry ([.ref (ad 0), .int p0, .int p1, .int p2, .int p3]) (n := 7) (Nat.le_of_ble_eq_true rfl)
  rw [lg_entry_eq]
  generalize (lg_sl ([.ref (ad 0), .int p0, .int p1, .int p2, .int p3]) ++ List.replicate (7 - (lg_sl ([.ref (ad 0), .int p0, .int p1, .int p2, .int p3])).length) Slot.unset).toArray = ls at hl ⊢
  have hl : lv_has ls 7 [(0, .ref (ad 0)), (1, .int p0), (2, .int p1), (3, .int p2), (4, .int p3)] := hl
  refine lv_aload_n hx hb d_M_plan_0 rfl (lv_at hl 0 rfl) ?_
  refine lv_aload_n hx hb d_M_plan_1 rfl (lv_at hl 0 rfl) ?_
  refine lv_iload_n hx hb d_M_plan_2 rfl (lv_at hl 1 rfl) ?_
  refine vp_callSi (W.runV (As := [.int p0]) (rest := [.ref (ad 0)]) ⟨hx, hb, hml, hown, hts⟩ (c_M_isOne l D cs ad τ n nm hM p0) (cwV 1 hts (gw_V kw_684 kw_686 ks_1_2 kw_6 kw_687) rfl rfl rfl (by decide +kernel) ⟨Nat.le_of_ble_eq_true rfl, Nat.le_of_ble_eq_true rfl⟩) (rd_V hP hK (rl_recv hK hP (by decide) gM_0 rfl)) rfl rfl hl.1 rfl (lv_room (Nat.le_of_ble_eq_true rfl)) d_M_plan_3 ⟨Nat.zero_le _, Nat.zero_le _⟩) (fun r_1 h_2 => ?_)
  subst h_2
  refine lv_if_eq (tgt := 45) hx hb d_M_plan_6 (by decide) (fun c_3 => ?_) (fun c_3 => ?_)
  · refine lv_iconst (v := 1) hx hb d_M_plan_45 (by decide) ?_
    refine rl_put (r := 0) (ci := 4) (v := .int 1) (ty := .int) (C := R_M) (T := F_M) (N := 25) hx hb hG in_M T_M T_M_ok n_M hown hK hP hD hS (by decide) gM_0 rfl 0 (by decide) kw_581 (fun _ h9 => h9) rfl (by decide +kernel) rfl rfl (Nat.le_of_ble_eq_true rfl) d_M_plan_46 (fun H locs hP hD hS => ?_)
    rw [wM_sc (by decide)] at hP hD
    refine lv_aload_n hx hb d_M_plan_49 rfl (lv_at hl 0 rfl) ?_
    refine rl_get (r := 0) (ci := 4) (v := .int 1) (C := R_M) (T := F_M) (N := 25) hx hb hG in_M hown hK hP (by decide) gM_0 rfl 0 (by decide) kw_581 (fun _ h9 => h9) rfl d_M_plan_50 ?_
    refine lv_if_gt (tgt := 75) hx hb d_M_plan_53 (by decide) (fun c_4 => ?_) (fun c_4 => ?_)
    · refine lv_iconst (v := 0) hx hb d_M_plan_75 (by decide) ?_
      exact W.iret (v := 0) hx hb hr (fun t ht hW => ⟨⟨0, su τ 0 0 1, rfl, Or.inl ⟨fun h9 => (b2i_eq0.mp c_3) (h9.1), rfl, rfl⟩, by rw [ht]; exact hP, va_K.moved hW.alike hK, hD⟩, hS.F ht⟩) hS.2.2 d_M_plan_76
    · exact absurd (by decide) c_4
  · obtain ⟨i, hi, rfl⟩ := atS (by omega) (Classical.not_not.mp (fun h => c_3 (b2i_eq0.mpr h)))
    refine lv_iload_n hx hb d_M_plan_9 rfl (lv_at hl 2 rfl) ?_
    refine lv_iconst (v := 0) hx hb d_M_plan_10 (by decide) ?_
    refine lv_iconst (v := 3) hx hb d_M_plan_11 (by decide) ?_
    refine vp_callSi (W.runS (As := [.int p1, .int 0, .int 3]) (rest := [.ref (ad 0)]) ⟨hx, hb, hml, hown, hts⟩ (c_M_in l p1 0 3) (va_cwS 3 hts (gw_S kw_664 kw_665 kw_6 kw_666) rfl rfl rfl (by decide +kernel) ⟨Nat.le_of_ble_eq_true rfl, Nat.le_of_ble_eq_true rfl⟩) ⟨fun _ _ _ _ q => q, fun U _ _ => ⟨rfl, trivial⟩⟩ rfl rfl hl.1 rfl (lv_room (Nat.le_of_ble_eq_true rfl)) d_M_plan_12 ⟨Nat.zero_le _, Nat.zero_le _⟩) (fun r_5 h_6 => ?_)
    subst h_6
    refine lv_if_eq (tgt := 45) hx hb d_M_plan_15 (by decide) (fun c_7 => ?_) (fun c_7 => ?_)
    · refine lv_iconst (v := 1) hx hb d_M_plan_45 (by decide) ?_
      refine rl_put (r := 0) (ci := 4) (v := .int 1) (ty := .int) (C := R_M) (T := F_M) (N := 25) hx hb hG in_M T_M T_M_ok n_M hown hK hP hD hS (by decide) gM_0 rfl 0 (by decide) kw_581 (fun _ h9 => h9) rfl (by decide +kernel) rfl rfl (Nat.le_of_ble_eq_true rfl) d_M_plan_46 (fun H locs hP hD hS => ?_)
      rw [wM_sc (by decide)] at hP hD
      refine lv_aload_n hx hb d_M_plan_49 rfl (lv_at hl 0 rfl) ?_
      refine rl_get (r := 0) (ci := 4) (v := .int 1) (C := R_M) (T := F_M) (N := 25) hx hb hG in_M hown hK hP (by decide) gM_0 rfl 0 (by decide) kw_581 (fun _ h9 => h9) rfl d_M_plan_50 ?_
      refine lv_if_gt (tgt := 75) hx hb d_M_plan_53 (by decide) (fun c_8 => ?_) (fun c_8 => ?_)
      · refine lv_iconst (v := 0) hx hb d_M_plan_75 (by decide) ?_
        exact W.iret (v := 0) hx hb hr (fun t ht hW => ⟨⟨0, su τ 0 0 1, rfl, Or.inl ⟨fun h9 => (b2i_eq0.mp c_7) (h9.2.1), rfl, rfl⟩, by rw [ht]; exact hP, va_K.moved hW.alike hK, hD⟩, hS.F ht⟩) hS.2.2 d_M_plan_76
      · exact absurd (by decide) c_8
    · refine lv_aload_n hx hb d_M_plan_18 rfl (lv_at hl 0 rfl) ?_
      refine lv_iload_n hx hb d_M_plan_19 rfl (lv_at hl 3 rfl) ?_
      refine vp_callSi (W.runV (As := [.int p2]) (rest := [.ref (ad 0)]) ⟨hx, hb, hml, hown, hts⟩ (c_M_isTime l D cs ad τ n nm hM p2) (cwV 1 hts (gw_V kw_675 kw_677 ks_1_1 kw_6 kw_678) rfl rfl rfl (by decide +kernel) ⟨Nat.le_of_ble_eq_true rfl, Nat.le_of_ble_eq_true rfl⟩) (rd_V hP hK (rl_recv hK hP (by decide) gM_0 rfl)) rfl rfl hl.1 rfl (lv_room (Nat.le_of_ble_eq_true rfl)) d_M_plan_20 ⟨Nat.zero_le _, Nat.zero_le _⟩) (fun r_9 h_10 => ?_)
      subst h_10
      refine lv_if_eq (tgt := 45) hx hb d_M_plan_23 (by decide) (fun c_11 => ?_) (fun c_11 => ?_)
      · refine lv_iconst (v := 1) hx hb d_M_plan_45 (by decide) ?_
        refine rl_put (r := 0) (ci := 4) (v := .int 1) (ty := .int) (C := R_M) (T := F_M) (N := 25) hx hb hG in_M T_M T_M_ok n_M hown hK hP hD hS (by decide) gM_0 rfl 0 (by decide) kw_581 (fun _ h9 => h9) rfl (by decide +kernel) rfl rfl (Nat.le_of_ble_eq_true rfl) d_M_plan_46 (fun H locs hP hD hS => ?_)
        rw [wM_sc (by decide)] at hP hD
        refine lv_aload_n hx hb d_M_plan_49 rfl (lv_at hl 0 rfl) ?_
        refine rl_get (r := 0) (ci := 4) (v := .int 1) (C := R_M) (T := F_M) (N := 25) hx hb hG in_M hown hK hP (by decide) gM_0 rfl 0 (by decide) kw_581 (fun _ h9 => h9) rfl d_M_plan_50 ?_
        refine lv_if_gt (tgt := 75) hx hb d_M_plan_53 (by decide) (fun c_12 => ?_) (fun c_12 => ?_)
        · refine lv_iconst (v := 0) hx hb d_M_plan_75 (by decide) ?_
          exact W.iret (v := 0) hx hb hr (fun t ht hW => ⟨⟨0, su τ 0 0 1, rfl, Or.inl ⟨fun h9 => (b2i_eq0.mp c_11) (h9.2.2.1), rfl, rfl⟩, by rw [ht]; exact hP, va_K.moved hW.alike hK, hD⟩, hS.F ht⟩) hS.2.2 d_M_plan_76
        · exact absurd (by decide) c_12
      · refine lv_aload_n hx hb d_M_plan_26 rfl (lv_at hl 0 rfl) ?_
        refine lv_iload hx hb d_M_plan_27 (lv_at hl 4 rfl) ?_
        refine vp_callSi (W.runV (As := [.int p3]) (rest := [.ref (ad 0)]) ⟨hx, hb, hml, hown, hts⟩ (c_M_isTime l D cs ad τ n nm hM p3) (cwV 1 hts (gw_V kw_675 kw_677 ks_1_1 kw_6 kw_678) rfl rfl rfl (by decide +kernel) ⟨Nat.le_of_ble_eq_true rfl, Nat.le_of_ble_eq_true rfl⟩) (rd_V hP hK (rl_recv hK hP (by decide) gM_0 rfl)) rfl rfl hl.1 rfl (lv_room (Nat.le_of_ble_eq_true rfl)) d_M_plan_29 ⟨Nat.zero_le _, Nat.zero_le _⟩) (fun r_13 h_14 => ?_)
        subst h_14
        refine lv_if_eq (tgt := 45) hx hb d_M_plan_32 (by decide) (fun c_15 => ?_) (fun c_15 => ?_)
        · refine lv_iconst (v := 1) hx hb d_M_plan_45 (by decide) ?_
          refine rl_put (r := 0) (ci := 4) (v := .int 1) (ty := .int) (C := R_M) (T := F_M) (N := 25) hx hb hG in_M T_M T_M_ok n_M hown hK hP hD hS (by decide) gM_0 rfl 0 (by decide) kw_581 (fun _ h9 => h9) rfl (by decide +kernel) rfl rfl (Nat.le_of_ble_eq_true rfl) d_M_plan_46 (fun H locs hP hD hS => ?_)
          rw [wM_sc (by decide)] at hP hD
          refine lv_aload_n hx hb d_M_plan_49 rfl (lv_at hl 0 rfl) ?_
          refine rl_get (r := 0) (ci := 4) (v := .int 1) (C := R_M) (T := F_M) (N := 25) hx hb hG in_M hown hK hP (by decide) gM_0 rfl 0 (by decide) kw_581 (fun _ h9 => h9) rfl d_M_plan_50 ?_
          refine lv_if_gt (tgt := 75) hx hb d_M_plan_53 (by decide) (fun c_16 => ?_) (fun c_16 => ?_)
          · refine lv_iconst (v := 0) hx hb d_M_plan_75 (by decide) ?_
            exact W.iret (v := 0) hx hb hr (fun t ht hW => ⟨⟨0, su τ 0 0 1, rfl, Or.inl ⟨fun h9 => (b2i_eq0.mp c_15) (h9.2.2.2.1), rfl, rfl⟩, by rw [ht]; exact hP, va_K.moved hW.alike hK, hD⟩, hS.F ht⟩) hS.2.2 d_M_plan_76
          · exact absurd (by decide) c_16
        · refine lv_iload_n hx hb d_M_plan_35 rfl (lv_at hl 3 rfl) ?_
          refine lv_iload hx hb d_M_plan_36 (lv_at hl 4 rfl) ?_
          refine lv_icmp_ge (tgt := 45) hx hb d_M_plan_38 (by decide) (fun c_17 => ?_) (fun c_17 => ?_)
          · refine lv_iconst (v := 1) hx hb d_M_plan_45 (by decide) ?_
            refine rl_put (r := 0) (ci := 4) (v := .int 1) (ty := .int) (C := R_M) (T := F_M) (N := 25) hx hb hG in_M T_M T_M_ok n_M hown hK hP hD hS (by decide) gM_0 rfl 0 (by decide) kw_581 (fun _ h9 => h9) rfl (by decide +kernel) rfl rfl (Nat.le_of_ble_eq_true rfl) d_M_plan_46 (fun H locs hP hD hS => ?_)
            rw [wM_sc (by decide)] at hP hD
            refine lv_aload_n hx hb d_M_plan_49 rfl (lv_at hl 0 rfl) ?_
            refine rl_get (r := 0) (ci := 4) (v := .int 1) (C := R_M) (T := F_M) (N := 25) hx hb hG in_M hown hK hP (by decide) gM_0 rfl 0 (by decide) kw_581 (fun _ h9 => h9) rfl d_M_plan_50 ?_
            refine lv_if_gt (tgt := 75) hx hb d_M_plan_53 (by decide) (fun c_18 => ?_) (fun c_18 => ?_)
            · refine lv_iconst (v := 0) hx hb d_M_plan_75 (by decide) ?_
              exact W.iret (v := 0) hx hb hr (fun t ht hW => ⟨⟨0, su τ 0 0 1, rfl, Or.inl ⟨fun h9 => Int32.not_lt.mpr c_17 h9.2.2.2.2, rfl, rfl⟩, by rw [ht]; exact hP, va_K.moved hW.alike hK, hD⟩, hS.F ht⟩) hS.2.2 d_M_plan_76
            · exact absurd (by decide) c_18
          · refine lv_iconst (v := 0) hx hb d_M_plan_41 (by decide) ?_
            refine lv_goto (tgt := 46) hx hb d_M_plan_42 (by decide) ?_
            refine rl_put (r := 0) (ci := 4) (v := .int 0) (ty := .int) (C := R_M) (T := F_M) (N := 25) hx hb hG in_M T_M T_M_ok n_M hown hK hP hD hS (by decide) gM_0 rfl 0 (by decide) kw_581 (fun _ h9 => h9) rfl (by decide +kernel) rfl rfl (Nat.le_of_ble_eq_true rfl) d_M_plan_46 (fun H locs hP hD hS => ?_)
            rw [wM_sc (by decide)] at hP hD
            refine lv_aload_n hx hb d_M_plan_49 rfl (lv_at hl 0 rfl) ?_
            refine rl_get (r := 0) (ci := 4) (v := .int 0) (C := R_M) (T := F_M) (N := 25) hx hb hG in_M hown hK hP (by decide) gM_0 rfl 0 (by decide) kw_581 (fun _ h9 => h9) rfl d_M_plan_50 ?_
            refine lv_if_gt (tgt := 75) hx hb d_M_plan_53 (by decide) (fun c_19 => ?_) (fun c_19 => ?_)
            · exact absurd c_19 (by decide)
            · refine lv_aload_n hx hb d_M_plan_56 rfl (lv_at hl 0 rfl) ?_
              refine rl_get (r := 0) (ci := 4) (v := .ref (ad 8)) (C := R_M) (T := F_M) (N := 25) hx hb hG in_M hown hK hP (by decide) gM_0 rfl 8 (by decide) kw_589 (fun _ h9 => h9) rfl d_M_plan_57 ?_
              refine lv_iload_n hx hb d_M_plan_60 rfl (lv_at hl 1 rfl) ?_
              refine rl_iald (r := 8) (i := nI i) (n := 30) hx hb hK hP (by decide) 0 rfl rfl (vp_in_nI (by omega) (by decide)) d_M_plan_61 ?_
              rw [nI_clamp (by omega)]
              refine W.eq (g2 := F0 m 62 ls [.int (τ 8 i)]) rfl ?_
              refine lv_if_eq (tgt := 77) hx hb d_M_plan_62 (by decide) (fun c_20 => ?_) (fun c_20 => ?_)
              · refine lv_iconst (v := 0) hx hb d_M_plan_77 (by decide) ?_
                refine lv_istore (lv' := [(5, .int 0), (0, .ref (ad 0)), (1, .int (nI i)), (2, .int p1), (3, .int p2), (4, .int p3)]) hx hb d_M_plan_78 hl (by decide) rfl (fun ls hl => ?_)
                replace hl : ∃ z : Nat, lv_has ls 7 [(5, .int (nI z)), (0, .ref (ad 0)), (1, .int (nI i)), (2, .int p1), (3, .int p2), (4, .int p3)] ∧ z ≤ n ∧ (∀ j, j < z → ¬ ((τ 8 j = 1 ∨ τ 8 j = 2) ∧ τ 10 j = p1 ∧ τ 11 j < p3 ∧ p2 < τ 12 j)) := ⟨0, lv_sub hl [0, 1, 2, 3, 4, 5] rfl, Nat.zero_le _, fun _ h => absurd h (Nat.not_lt_zero _)⟩
                obtain ⟨z, hl, hle_z, hinv_z⟩ := hl
                obtain ⟨k_z, hk_z⟩ : ∃ k, n - z = k := ⟨_, rfl⟩
                induction k_z using Nat.strongRecOn generalizing z ls with
                | _ k_z ih_z =>
                  refine lv_iload hx hb d_M_plan_80 (lv_at hl 0 rfl) ?_
                  refine lv_aload_n hx hb d_M_plan_82 rfl (lv_at hl 1 rfl) ?_
                  refine rl_get (r := 0) (ci := 4) (v := .int (nI n)) (C := R_M) (T := F_M) (N := 25) hx hb hG in_M hown hK hP (by decide) gM_0 rfl 1 (by decide) kw_582 (fun _ h9 => h9) (show _ = some (Value.int (nI n)) by rw [← hM.1]; rfl) d_M_plan_83 ?_
                  refine lv_icmp_ge (tgt := 152) hx hb d_M_plan_86 (by decide) (fun c_21 => ?_) (fun c_21 => ?_)
                  · have hz_z : z = n := nI_exit hle_z c_21 (by omega)
                    subst hz_z
                    refine lv_aload_n hx hb d_M_plan_152 rfl (lv_at hl 1 rfl) ?_
                    refine rl_get (r := 0) (ci := 4) (v := .ref (ad 8)) (C := R_M) (T := F_M) (N := 25) hx hb hG in_M hown hK hP (by decide) gM_0 rfl 8 (by decide) kw_589 (fun _ h9 => h9) rfl d_M_plan_153 ?_
                    refine lv_iload_n hx hb d_M_plan_156 rfl (lv_at hl 2 rfl) ?_
                    refine lv_iconst (v := 1) hx hb d_M_plan_157 (by decide) ?_
                    refine rl_iast (r := 8) (i := nI i) (x := 1) (n := 30) hx hb hK hP hD hS (by decide) 0 rfl rfl (vp_in_nI (by omega) (by decide)) d_M_plan_158 (fun H locs hP hD hS => ?_)
                    rw [nI_clamp (by omega)] at hP hD
                    rw [show rl_w RM ad (va_up (gM cs ad (su τ 0 0 0)) 8 (arI (clM cs 8) 30 (upd ((su τ 0 0 0) 8) i 1))) = wM cs ad (su (su τ 0 0 0) 8 i 1) from wM_arr (r := 8) (by decide)] at hP hD
                    refine lv_aload_n hx hb d_M_plan_159 rfl (lv_at hl 1 rfl) ?_
                    refine rl_get (r := 0) (ci := 4) (v := .ref (ad 10)) (C := R_M) (T := F_M) (N := 25) hx hb hG in_M hown hK hP (by decide) gM_0 rfl 10 (by decide) kw_591 (fun _ h9 => h9) rfl d_M_plan_160 ?_
                    refine lv_iload_n hx hb d_M_plan_163 rfl (lv_at hl 2 rfl) ?_
                    refine lv_iload_n hx hb d_M_plan_164 rfl (lv_at hl 3 rfl) ?_
                    refine rl_iast (r := 10) (i := nI i) (x := p1) (n := 30) hx hb hK hP hD hS (by decide) 0 rfl rfl (vp_in_nI (by omega) (by decide)) d_M_plan_165 (fun H locs hP hD hS => ?_)
                    rw [nI_clamp (by omega)] at hP hD
                    rw [show rl_w RM ad (va_up (gM cs ad (su (su τ 0 0 0) 8 i 1)) 10 (arI (clM cs 10) 30 (upd ((su (su τ 0 0 0) 8 i 1) 10) i p1))) = wM cs ad (su (su (su τ 0 0 0) 8 i 1) 10 i p1) from wM_arr (r := 10) (by decide)] at hP hD
                    refine lv_aload_n hx hb d_M_plan_166 rfl (lv_at hl 1 rfl) ?_
                    refine rl_get (r := 0) (ci := 4) (v := .ref (ad 11)) (C := R_M) (T := F_M) (N := 25) hx hb hG in_M hown hK hP (by decide) gM_0 rfl 11 (by decide) kw_592 (fun _ h9 => h9) rfl d_M_plan_167 ?_
                    refine lv_iload_n hx hb d_M_plan_170 rfl (lv_at hl 2 rfl) ?_
                    refine lv_iload_n hx hb d_M_plan_171 rfl (lv_at hl 4 rfl) ?_
                    refine rl_iast (r := 11) (i := nI i) (x := p2) (n := 30) hx hb hK hP hD hS (by decide) 0 rfl rfl (vp_in_nI (by omega) (by decide)) d_M_plan_172 (fun H locs hP hD hS => ?_)
                    rw [nI_clamp (by omega)] at hP hD
                    rw [show rl_w RM ad (va_up (gM cs ad (su (su (su τ 0 0 0) 8 i 1) 10 i p1)) 11 (arI (clM cs 11) 30 (upd ((su (su (su τ 0 0 0) 8 i 1) 10 i p1) 11) i p2))) = wM cs ad (su (su (su (su τ 0 0 0) 8 i 1) 10 i p1) 11 i p2) from wM_arr (r := 11) (by decide)] at hP hD
                    refine lv_aload_n hx hb d_M_plan_173 rfl (lv_at hl 1 rfl) ?_
                    refine rl_get (r := 0) (ci := 4) (v := .ref (ad 12)) (C := R_M) (T := F_M) (N := 25) hx hb hG in_M hown hK hP (by decide) gM_0 rfl 12 (by decide) kw_593 (fun _ h9 => h9) rfl d_M_plan_174 ?_
                    refine lv_iload_n hx hb d_M_plan_177 rfl (lv_at hl 2 rfl) ?_
                    refine lv_iload hx hb d_M_plan_178 (lv_at hl 5 rfl) ?_
                    refine rl_iast (r := 12) (i := nI i) (x := p3) (n := 30) hx hb hK hP hD hS (by decide) 0 rfl rfl (vp_in_nI (by omega) (by decide)) d_M_plan_180 (fun H locs hP hD hS => ?_)
                    rw [nI_clamp (by omega)] at hP hD
                    rw [show rl_w RM ad (va_up (gM cs ad (su (su (su (su τ 0 0 0) 8 i 1) 10 i p1) 11 i p2)) 12 (arI (clM cs 12) 30 (upd ((su (su (su (su τ 0 0 0) 8 i 1) 10 i p1) 11 i p2) 12) i p3))) = wM cs ad (su (su (su (su (su τ 0 0 0) 8 i 1) 10 i p1) 11 i p2) 12 i p3) from wM_arr (r := 12) (by decide)] at hP hD
                    refine lv_iconst (v := 1) hx hb d_M_plan_181 (by decide) ?_
                    exact W.iret (v := 1) hx hb hr (fun t ht hW => ⟨⟨1, su (su (su (su (su τ 0 0 0) 8 i 1) 10 i p1) 11 i p2) 12 i p3, rfl, Or.inr ⟨i, hi, rfl, Classical.not_not.mp (fun h => c_7 (b2i_eq0.mpr h)), Classical.not_not.mp (fun h => c_11 (b2i_eq0.mpr h)), Classical.not_not.mp (fun h => c_15 (b2i_eq0.mpr h)), Int32.not_le.mp c_17, Or.inr ⟨⟨Or.inl c_20, fun ⟨j, hj, h9⟩ => hinv_z j hj h9⟩, rfl, rfl⟩⟩, by rw [ht]; exact hP, va_K.moved hW.alike hK, hD⟩, hS.F ht⟩) hS.2.2 d_M_plan_182
                  · have hlt_z : z < n := nI_go hle_z c_21 (by omega)
                    refine lv_iload hx hb d_M_plan_89 (lv_at hl 5 rfl) ?_
                    refine lv_aload_n hx hb d_M_plan_91 rfl (lv_at hl 1 rfl) ?_
                    refine rl_get (r := 0) (ci := 4) (v := .ref (ad 11)) (C := R_M) (T := F_M) (N := 25) hx hb hG in_M hown hK hP (by decide) gM_0 rfl 11 (by decide) kw_592 (fun _ h9 => h9) rfl d_M_plan_92 ?_
                    refine lv_iload hx hb d_M_plan_95 (lv_at hl 0 rfl) ?_
                    refine rl_iald (r := 11) (i := nI z) (n := 30) hx hb hK hP (by decide) 0 rfl rfl (vp_in_nI (by omega) (by decide)) d_M_plan_97 ?_
                    rw [nI_clamp (by omega)]
                    refine W.eq (g2 := F0 m 98 ls [.int (τ 11 z), .int p3]) rfl ?_
                    refine lv_icmp_le (tgt := 112) hx hb d_M_plan_98 (by decide) (fun c_22 => ?_) (fun c_22 => ?_)
                    · refine lv_iconst (v := 1) hx hb d_M_plan_112 (by decide) ?_
                      refine lv_goto (tgt := 117) hx hb d_M_plan_113 (by decide) ?_
                      refine lv_istore (lv' := [(6, .int 1), (5, .int (nI z)), (0, .ref (ad 0)), (1, .int (nI i)), (2, .int p1), (3, .int p2), (4, .int p3)]) hx hb d_M_plan_117 hl (by decide) rfl (fun ls hl => ?_)
                      refine lv_aload_n hx hb d_M_plan_119 rfl (lv_at hl 2 rfl) ?_
                      refine lv_iload hx hb d_M_plan_120 (lv_at hl 1 rfl) ?_
                      refine vp_callSi (W.runV (As := [.int (nI z)]) (rest := []) ⟨hx, hb, hml, hown, hts⟩ (c_M_takesPlace l D cs ad (su τ 0 0 0) n nm (Mv_0 hM) z (by omega)) (cwV 1 hts (gw_V kw_688 kw_690 ks_1_3 kw_6 kw_691) rfl rfl rfl (by decide +kernel) ⟨Nat.le_of_ble_eq_true rfl, Nat.le_of_ble_eq_true rfl⟩) (rd_V hP hK (rl_recv hK hP (by decide) gM_0 rfl)) rfl rfl hl.1 rfl (lv_room (Nat.le_of_ble_eq_true rfl)) d_M_plan_122 ⟨Nat.zero_le _, Nat.zero_le _⟩) (fun r_23 h_24 => ?_)
                      subst h_24
                      refine W.eq (g2 := F0 m 125 ls [.int (b2i (τ 8 z = 1 ∨ τ 8 z = 2))]) rfl ?_
                      refine lv_if_eq (tgt := 146) hx hb d_M_plan_125 (by decide) (fun c_25 => ?_) (fun c_25 => ?_)
                      · refine lv_iinc (v := nI (z + 1)) (lv' := [(5, .int (nI (z + 1))), (6, .int 1), (0, .ref (ad 0)), (1, .int (nI i)), (2, .int p1), (3, .int p2), (4, .int p3)]) hx hb d_M_plan_146 hl (k := 1) rfl (by exact nI_1 _) (by decide) rfl (fun ls hl => ?_)
                        refine lv_goto (tgt := 80) hx hb d_M_plan_149 (by decide) ?_
                        exact ih_z (n - (z + 1)) (by omega) ls (z + 1) (lv_sub hl [0, 2, 3, 4, 5, 6] rfl) hlt_z (fun j hj => (Nat.lt_succ_iff_lt_or_eq.mp hj).elim (hinv_z j) (fun e9 => by subst e9; intro h9; (try simp only [b2i_eq0, Classical.not_not] at c_22 c_25); simp only [i32_eq, i32_lt, i32_le, i32_nm1, i32_n0, i32_n1, i32_n2, i32_n3, i32_n4, i32_n5, i32_n6, i32_n7, i32_n8, i32_n9, i32_n10, i32_n20, i32_n30, i32_n31, i32_n39, i32_n40, i32_n49, i32_n50, i32_n100, i32_n160, i32_n1000, i32_n100000, i32_n1000000] at c_22 c_25 h9; omega)) rfl
                      · refine lv_aload_n hx hb d_M_plan_128 rfl (lv_at hl 2 rfl) ?_
                        refine rl_get (r := 0) (ci := 4) (v := .ref (ad 10)) (C := R_M) (T := F_M) (N := 25) hx hb hG in_M hown hK hP (by decide) gM_0 rfl 10 (by decide) kw_591 (fun _ h9 => h9) rfl d_M_plan_129 ?_
                        refine lv_iload hx hb d_M_plan_132 (lv_at hl 1 rfl) ?_
                        refine rl_iald (r := 10) (i := nI z) (n := 30) hx hb hK hP (by decide) 0 rfl rfl (vp_in_nI (by omega) (by decide)) d_M_plan_134 ?_
                        rw [nI_clamp (by omega)]
                        refine W.eq (g2 := F0 m 135 ls [.int (τ 10 z)]) rfl ?_
                        refine lv_iload_n hx hb d_M_plan_135 rfl (lv_at hl 4 rfl) ?_
                        refine lv_icmp_ne (tgt := 146) hx hb d_M_plan_136 (by decide) (fun c_26 => ?_) (fun c_26 => ?_)
                        · refine lv_iinc (v := nI (z + 1)) (lv' := [(5, .int (nI (z + 1))), (6, .int 1), (0, .ref (ad 0)), (1, .int (nI i)), (2, .int p1), (3, .int p2), (4, .int p3)]) hx hb d_M_plan_146 hl (k := 1) rfl (by exact nI_1 _) (by decide) rfl (fun ls hl => ?_)
                          refine lv_goto (tgt := 80) hx hb d_M_plan_149 (by decide) ?_
                          exact ih_z (n - (z + 1)) (by omega) ls (z + 1) (lv_sub hl [0, 2, 3, 4, 5, 6] rfl) hlt_z (fun j hj => (Nat.lt_succ_iff_lt_or_eq.mp hj).elim (hinv_z j) (fun e9 => by subst e9; intro h9; (try simp only [b2i_eq0, Classical.not_not] at c_22 c_25 c_26); simp only [i32_eq, i32_lt, i32_le, i32_nm1, i32_n0, i32_n1, i32_n2, i32_n3, i32_n4, i32_n5, i32_n6, i32_n7, i32_n8, i32_n9, i32_n10, i32_n20, i32_n30, i32_n31, i32_n39, i32_n40, i32_n49, i32_n50, i32_n100, i32_n160, i32_n1000, i32_n100000, i32_n1000000] at c_22 c_25 c_26 h9; omega)) rfl
                        · refine lv_iload hx hb d_M_plan_139 (lv_at hl 0 rfl) ?_
                          refine lv_if_ne (tgt := 146) hx hb d_M_plan_141 (by decide) (fun c_27 => ?_) (fun c_27 => ?_)
                          · refine lv_iinc (v := nI (z + 1)) (lv' := [(5, .int (nI (z + 1))), (6, .int 1), (0, .ref (ad 0)), (1, .int (nI i)), (2, .int p1), (3, .int p2), (4, .int p3)]) hx hb d_M_plan_146 hl (k := 1) rfl (by exact nI_1 _) (by decide) rfl (fun ls hl => ?_)
                            refine lv_goto (tgt := 80) hx hb d_M_plan_149 (by decide) ?_
                            exact ih_z (n - (z + 1)) (by omega) ls (z + 1) (lv_sub hl [0, 2, 3, 4, 5, 6] rfl) hlt_z (fun j hj => (Nat.lt_succ_iff_lt_or_eq.mp hj).elim (hinv_z j) (fun e9 => by subst e9; intro h9; (try simp only [b2i_eq0, Classical.not_not] at c_22 c_25 c_26); simp only [i32_eq, i32_lt, i32_le, i32_nm1, i32_n0, i32_n1, i32_n2, i32_n3, i32_n4, i32_n5, i32_n6, i32_n7, i32_n8, i32_n9, i32_n10, i32_n20, i32_n30, i32_n31, i32_n39, i32_n40, i32_n49, i32_n50, i32_n100, i32_n160, i32_n1000, i32_n100000, i32_n1000000] at c_22 c_25 c_26 h9; omega)) rfl
                          · exact absurd c_27 (by decide)
                    · refine lv_iload_n hx hb d_M_plan_101 rfl (lv_at hl 4 rfl) ?_
                      refine lv_aload_n hx hb d_M_plan_102 rfl (lv_at hl 1 rfl) ?_
                      refine rl_get (r := 0) (ci := 4) (v := .ref (ad 12)) (C := R_M) (T := F_M) (N := 25) hx hb hG in_M hown hK hP (by decide) gM_0 rfl 12 (by decide) kw_593 (fun _ h9 => h9) rfl d_M_plan_103 ?_
                      refine lv_iload hx hb d_M_plan_106 (lv_at hl 0 rfl) ?_
                      refine rl_iald (r := 12) (i := nI z) (n := 30) hx hb hK hP (by decide) 0 rfl rfl (vp_in_nI (by omega) (by decide)) d_M_plan_108 ?_
                      rw [nI_clamp (by omega)]
                      refine W.eq (g2 := F0 m 109 ls [.int (τ 12 z), .int p2]) rfl ?_
                      refine lv_icmp_lt (tgt := 116) hx hb d_M_plan_109 (by decide) (fun c_28 => ?_) (fun c_28 => ?_)
                      · refine lv_iconst (v := 0) hx hb d_M_plan_116 (by decide) ?_
                        refine lv_istore (lv' := [(6, .int 0), (5, .int (nI z)), (0, .ref (ad 0)), (1, .int (nI i)), (2, .int p1), (3, .int p2), (4, .int p3)]) hx hb d_M_plan_117 hl (by decide) rfl (fun ls hl => ?_)
                        refine lv_aload_n hx hb d_M_plan_119 rfl (lv_at hl 2 rfl) ?_
                        refine lv_iload hx hb d_M_plan_120 (lv_at hl 1 rfl) ?_
                        refine vp_callSi (W.runV (As := [.int (nI z)]) (rest := []) ⟨hx, hb, hml, hown, hts⟩ (c_M_takesPlace l D cs ad (su τ 0 0 0) n nm (Mv_0 hM) z (by omega)) (cwV 1 hts (gw_V kw_688 kw_690 ks_1_3 kw_6 kw_691) rfl rfl rfl (by decide +kernel) ⟨Nat.le_of_ble_eq_true rfl, Nat.le_of_ble_eq_true rfl⟩) (rd_V hP hK (rl_recv hK hP (by decide) gM_0 rfl)) rfl rfl hl.1 rfl (lv_room (Nat.le_of_ble_eq_true rfl)) d_M_plan_122 ⟨Nat.zero_le _, Nat.zero_le _⟩) (fun r_29 h_30 => ?_)
                        subst h_30
                        refine W.eq (g2 := F0 m 125 ls [.int (b2i (τ 8 z = 1 ∨ τ 8 z = 2))]) rfl ?_
                        refine lv_if_eq (tgt := 146) hx hb d_M_plan_125 (by decide) (fun c_31 => ?_) (fun c_31 => ?_)
                        · refine lv_iinc (v := nI (z + 1)) (lv' := [(5, .int (nI (z + 1))), (6, .int 0), (0, .ref (ad 0)), (1, .int (nI i)), (2, .int p1), (3, .int p2), (4, .int p3)]) hx hb d_M_plan_146 hl (k := 1) rfl (by exact nI_1 _) (by decide) rfl (fun ls hl => ?_)
                          refine lv_goto (tgt := 80) hx hb d_M_plan_149 (by decide) ?_
                          exact ih_z (n - (z + 1)) (by omega) ls (z + 1) (lv_sub hl [0, 2, 3, 4, 5, 6] rfl) hlt_z (fun j hj => (Nat.lt_succ_iff_lt_or_eq.mp hj).elim (hinv_z j) (fun e9 => by subst e9; intro h9; (try simp only [b2i_eq0, Classical.not_not] at c_22 c_28 c_31); simp only [i32_eq, i32_lt, i32_le, i32_nm1, i32_n0, i32_n1, i32_n2, i32_n3, i32_n4, i32_n5, i32_n6, i32_n7, i32_n8, i32_n9, i32_n10, i32_n20, i32_n30, i32_n31, i32_n39, i32_n40, i32_n49, i32_n50, i32_n100, i32_n160, i32_n1000, i32_n100000, i32_n1000000] at c_22 c_28 c_31 h9; omega)) rfl
                        · refine lv_aload_n hx hb d_M_plan_128 rfl (lv_at hl 2 rfl) ?_
                          refine rl_get (r := 0) (ci := 4) (v := .ref (ad 10)) (C := R_M) (T := F_M) (N := 25) hx hb hG in_M hown hK hP (by decide) gM_0 rfl 10 (by decide) kw_591 (fun _ h9 => h9) rfl d_M_plan_129 ?_
                          refine lv_iload hx hb d_M_plan_132 (lv_at hl 1 rfl) ?_
                          refine rl_iald (r := 10) (i := nI z) (n := 30) hx hb hK hP (by decide) 0 rfl rfl (vp_in_nI (by omega) (by decide)) d_M_plan_134 ?_
                          rw [nI_clamp (by omega)]
                          refine W.eq (g2 := F0 m 135 ls [.int (τ 10 z)]) rfl ?_
                          refine lv_iload_n hx hb d_M_plan_135 rfl (lv_at hl 4 rfl) ?_
                          refine lv_icmp_ne (tgt := 146) hx hb d_M_plan_136 (by decide) (fun c_32 => ?_) (fun c_32 => ?_)
                          · refine lv_iinc (v := nI (z + 1)) (lv' := [(5, .int (nI (z + 1))), (6, .int 0), (0, .ref (ad 0)), (1, .int (nI i)), (2, .int p1), (3, .int p2), (4, .int p3)]) hx hb d_M_plan_146 hl (k := 1) rfl (by exact nI_1 _) (by decide) rfl (fun ls hl => ?_)
                            refine lv_goto (tgt := 80) hx hb d_M_plan_149 (by decide) ?_
                            exact ih_z (n - (z + 1)) (by omega) ls (z + 1) (lv_sub hl [0, 2, 3, 4, 5, 6] rfl) hlt_z (fun j hj => (Nat.lt_succ_iff_lt_or_eq.mp hj).elim (hinv_z j) (fun e9 => by subst e9; intro h9; (try simp only [b2i_eq0, Classical.not_not] at c_22 c_28 c_31 c_32); simp only [i32_eq, i32_lt, i32_le, i32_nm1, i32_n0, i32_n1, i32_n2, i32_n3, i32_n4, i32_n5, i32_n6, i32_n7, i32_n8, i32_n9, i32_n10, i32_n20, i32_n30, i32_n31, i32_n39, i32_n40, i32_n49, i32_n50, i32_n100, i32_n160, i32_n1000, i32_n100000, i32_n1000000] at c_22 c_28 c_31 c_32 h9; omega)) rfl
                          · refine lv_iload hx hb d_M_plan_139 (lv_at hl 0 rfl) ?_
                            refine lv_if_ne (tgt := 146) hx hb d_M_plan_141 (by decide) (fun c_33 => ?_) (fun c_33 => ?_)
                            · exact absurd (by decide) c_33
                            · refine lv_iconst (v := 0) hx hb d_M_plan_144 (by decide) ?_
                              exact W.iret (v := 0) hx hb hr (fun t ht hW => ⟨⟨0, su τ 0 0 0, rfl, Or.inr ⟨i, hi, rfl, Classical.not_not.mp (fun h => c_7 (b2i_eq0.mpr h)), Classical.not_not.mp (fun h => c_11 (b2i_eq0.mpr h)), Classical.not_not.mp (fun h => c_15 (b2i_eq0.mpr h)), Int32.not_le.mp c_17, Or.inl ⟨fun h9 => h9.2 ⟨z, hlt_z, by (try simp only [b2i_eq0, Classical.not_not] at c_22 c_28 c_31 c_32); simp only [i32_eq, i32_lt, i32_le, i32_nm1, i32_n0, i32_n1, i32_n2, i32_n3, i32_n4, i32_n5, i32_n6, i32_n7, i32_n8, i32_n9, i32_n10, i32_n20, i32_n30, i32_n31, i32_n39, i32_n40, i32_n49, i32_n50, i32_n100, i32_n160, i32_n1000, i32_n100000, i32_n1000000] at c_22 c_28 c_31 c_32 ⊢; omega⟩, rfl, rfl⟩⟩, by rw [ht]; exact hP, va_K.moved hW.alike hK, hD⟩, hS.F ht⟩) hS.2.2 d_M_plan_145
                      · refine lv_iconst (v := 1) hx hb d_M_plan_112 (by decide) ?_
                        refine lv_goto (tgt := 117) hx hb d_M_plan_113 (by decide) ?_
                        refine lv_istore (lv' := [(6, .int 1), (5, .int (nI z)), (0, .ref (ad 0)), (1, .int (nI i)), (2, .int p1), (3, .int p2), (4, .int p3)]) hx hb d_M_plan_117 hl (by decide) rfl (fun ls hl => ?_)
                        refine lv_aload_n hx hb d_M_plan_119 rfl (lv_at hl 2 rfl) ?_
                        refine lv_iload hx hb d_M_plan_120 (lv_at hl 1 rfl) ?_
                        refine vp_callSi (W.runV (As := [.int (nI z)]) (rest := []) ⟨hx, hb, hml, hown, hts⟩ (c_M_takesPlace l D cs ad (su τ 0 0 0) n nm (Mv_0 hM) z (by omega)) (cwV 1 hts (gw_V kw_688 kw_690 ks_1_3 kw_6 kw_691) rfl rfl rfl (by decide +kernel) ⟨Nat.le_of_ble_eq_true rfl, Nat.le_of_ble_eq_true rfl⟩) (rd_V hP hK (rl_recv hK hP (by decide) gM_0 rfl)) rfl rfl hl.1 rfl (lv_room (Nat.le_of_ble_eq_true rfl)) d_M_plan_122 ⟨Nat.zero_le _, Nat.zero_le _⟩) (fun r_34 h_35 => ?_)
                        subst h_35
                        refine W.eq (g2 := F0 m 125 ls [.int (b2i (τ 8 z = 1 ∨ τ 8 z = 2))]) rfl ?_
                        refine lv_if_eq (tgt := 146) hx hb d_M_plan_125 (by decide) (fun c_36 => ?_) (fun c_36 => ?_)
                        · refine lv_iinc (v := nI (z + 1)) (lv' := [(5, .int (nI (z + 1))), (6, .int 1), (0, .ref (ad 0)), (1, .int (nI i)), (2, .int p1), (3, .int p2), (4, .int p3)]) hx hb d_M_plan_146 hl (k := 1) rfl (by exact nI_1 _) (by decide) rfl (fun ls hl => ?_)
                          refine lv_goto (tgt := 80) hx hb d_M_plan_149 (by decide) ?_
                          exact ih_z (n - (z + 1)) (by omega) ls (z + 1) (lv_sub hl [0, 2, 3, 4, 5, 6] rfl) hlt_z (fun j hj => (Nat.lt_succ_iff_lt_or_eq.mp hj).elim (hinv_z j) (fun e9 => by subst e9; intro h9; (try simp only [b2i_eq0, Classical.not_not] at c_22 c_28 c_36); simp only [i32_eq, i32_lt, i32_le, i32_nm1, i32_n0, i32_n1, i32_n2, i32_n3, i32_n4, i32_n5, i32_n6, i32_n7, i32_n8, i32_n9, i32_n10, i32_n20, i32_n30, i32_n31, i32_n39, i32_n40, i32_n49, i32_n50, i32_n100, i32_n160, i32_n1000, i32_n100000, i32_n1000000] at c_22 c_28 c_36 h9; omega)) rfl
                        · refine lv_aload_n hx hb d_M_plan_128 rfl (lv_at hl 2 rfl) ?_
                          refine rl_get (r := 0) (ci := 4) (v := .ref (ad 10)) (C := R_M) (T := F_M) (N := 25) hx hb hG in_M hown hK hP (by decide) gM_0 rfl 10 (by decide) kw_591 (fun _ h9 => h9) rfl d_M_plan_129 ?_
                          refine lv_iload hx hb d_M_plan_132 (lv_at hl 1 rfl) ?_
                          refine rl_iald (r := 10) (i := nI z) (n := 30) hx hb hK hP (by decide) 0 rfl rfl (vp_in_nI (by omega) (by decide)) d_M_plan_134 ?_
                          rw [nI_clamp (by omega)]
                          refine W.eq (g2 := F0 m 135 ls [.int (τ 10 z)]) rfl ?_
                          refine lv_iload_n hx hb d_M_plan_135 rfl (lv_at hl 4 rfl) ?_
                          refine lv_icmp_ne (tgt := 146) hx hb d_M_plan_136 (by decide) (fun c_37 => ?_) (fun c_37 => ?_)
                          · refine lv_iinc (v := nI (z + 1)) (lv' := [(5, .int (nI (z + 1))), (6, .int 1), (0, .ref (ad 0)), (1, .int (nI i)), (2, .int p1), (3, .int p2), (4, .int p3)]) hx hb d_M_plan_146 hl (k := 1) rfl (by exact nI_1 _) (by decide) rfl (fun ls hl => ?_)
                            refine lv_goto (tgt := 80) hx hb d_M_plan_149 (by decide) ?_
                            exact ih_z (n - (z + 1)) (by omega) ls (z + 1) (lv_sub hl [0, 2, 3, 4, 5, 6] rfl) hlt_z (fun j hj => (Nat.lt_succ_iff_lt_or_eq.mp hj).elim (hinv_z j) (fun e9 => by subst e9; intro h9; (try simp only [b2i_eq0, Classical.not_not] at c_22 c_28 c_36 c_37); simp only [i32_eq, i32_lt, i32_le, i32_nm1, i32_n0, i32_n1, i32_n2, i32_n3, i32_n4, i32_n5, i32_n6, i32_n7, i32_n8, i32_n9, i32_n10, i32_n20, i32_n30, i32_n31, i32_n39, i32_n40, i32_n49, i32_n50, i32_n100, i32_n160, i32_n1000, i32_n100000, i32_n1000000] at c_22 c_28 c_36 c_37 h9; omega)) rfl
                          · refine lv_iload hx hb d_M_plan_139 (lv_at hl 0 rfl) ?_
                            refine lv_if_ne (tgt := 146) hx hb d_M_plan_141 (by decide) (fun c_38 => ?_) (fun c_38 => ?_)
                            · refine lv_iinc (v := nI (z + 1)) (lv' := [(5, .int (nI (z + 1))), (6, .int 1), (0, .ref (ad 0)), (1, .int (nI i)), (2, .int p1), (3, .int p2), (4, .int p3)]) hx hb d_M_plan_146 hl (k := 1) rfl (by exact nI_1 _) (by decide) rfl (fun ls hl => ?_)
                              refine lv_goto (tgt := 80) hx hb d_M_plan_149 (by decide) ?_
                              exact ih_z (n - (z + 1)) (by omega) ls (z + 1) (lv_sub hl [0, 2, 3, 4, 5, 6] rfl) hlt_z (fun j hj => (Nat.lt_succ_iff_lt_or_eq.mp hj).elim (hinv_z j) (fun e9 => by subst e9; intro h9; (try simp only [b2i_eq0, Classical.not_not] at c_22 c_28 c_36 c_37); simp only [i32_eq, i32_lt, i32_le, i32_nm1, i32_n0, i32_n1, i32_n2, i32_n3, i32_n4, i32_n5, i32_n6, i32_n7, i32_n8, i32_n9, i32_n10, i32_n20, i32_n30, i32_n31, i32_n39, i32_n40, i32_n49, i32_n50, i32_n100, i32_n160, i32_n1000, i32_n100000, i32_n1000000] at c_22 c_28 c_36 c_37 h9; omega)) rfl
                            · exact absurd c_38 (by decide)
              · refine lv_aload_n hx hb d_M_plan_65 rfl (lv_at hl 0 rfl) ?_
                refine rl_get (r := 0) (ci := 4) (v := .ref (ad 8)) (C := R_M) (T := F_M) (N := 25) hx hb hG in_M hown hK hP (by decide) gM_0 rfl 8 (by decide) kw_589 (fun _ h9 => h9) rfl d_M_plan_66 ?_
                refine lv_iload_n hx hb d_M_plan_69 rfl (lv_at hl 1 rfl) ?_
                refine rl_iald (r := 8) (i := nI i) (n := 30) hx hb hK hP (by decide) 0 rfl rfl (vp_in_nI (by omega) (by decide)) d_M_plan_70 ?_
                rw [nI_clamp (by omega)]
                refine W.eq (g2 := F0 m 71 ls [.int (τ 8 i)]) rfl ?_
                refine lv_iconst (v := 4) hx hb d_M_plan_71 (by decide) ?_
                refine lv_icmp_eq (tgt := 77) hx hb d_M_plan_72 (by decide) (fun c_39 => ?_) (fun c_39 => ?_)
                · refine lv_iconst (v := 0) hx hb d_M_plan_77 (by decide) ?_
                  refine lv_istore (lv' := [(5, .int 0), (0, .ref (ad 0)), (1, .int (nI i)), (2, .int p1), (3, .int p2), (4, .int p3)]) hx hb d_M_plan_78 hl (by decide) rfl (fun ls hl => ?_)
                  replace hl : ∃ z : Nat, lv_has ls 7 [(5, .int (nI z)), (0, .ref (ad 0)), (1, .int (nI i)), (2, .int p1), (3, .int p2), (4, .int p3)] ∧ z ≤ n ∧ (∀ j, j < z → ¬ ((τ 8 j = 1 ∨ τ 8 j = 2) ∧ τ 10 j = p1 ∧ τ 11 j < p3 ∧ p2 < τ 12 j)) := ⟨0, lv_sub hl [0, 1, 2, 3, 4, 5] rfl, Nat.zero_le _, fun _ h => absurd h (Nat.not_lt_zero _)⟩
                  obtain ⟨z, hl, hle_z, hinv_z⟩ := hl
                  obtain ⟨k_z, hk_z⟩ : ∃ k, n - z = k := ⟨_, rfl⟩
                  induction k_z using Nat.strongRecOn generalizing z ls with
                  | _ k_z ih_z =>
                    refine lv_iload hx hb d_M_plan_80 (lv_at hl 0 rfl) ?_
                    refine lv_aload_n hx hb d_M_plan_82 rfl (lv_at hl 1 rfl) ?_
                    refine rl_get (r := 0) (ci := 4) (v := .int (nI n)) (C := R_M) (T := F_M) (N := 25) hx hb hG in_M hown hK hP (by decide) gM_0 rfl 1 (by decide) kw_582 (fun _ h9 => h9) (show _ = some (Value.int (nI n)) by rw [← hM.1]; rfl) d_M_plan_83 ?_
                    refine lv_icmp_ge (tgt := 152) hx hb d_M_plan_86 (by decide) (fun c_40 => ?_) (fun c_40 => ?_)
                    · have hz_z : z = n := nI_exit hle_z c_40 (by omega)
                      subst hz_z
                      refine lv_aload_n hx hb d_M_plan_152 rfl (lv_at hl 1 rfl) ?_
                      refine rl_get (r := 0) (ci := 4) (v := .ref (ad 8)) (C := R_M) (T := F_M) (N := 25) hx hb hG in_M hown hK hP (by decide) gM_0 rfl 8 (by decide) kw_589 (fun _ h9 => h9) rfl d_M_plan_153 ?_
                      refine lv_iload_n hx hb d_M_plan_156 rfl (lv_at hl 2 rfl) ?_
                      refine lv_iconst (v := 1) hx hb d_M_plan_157 (by decide) ?_
                      refine rl_iast (r := 8) (i := nI i) (x := 1) (n := 30) hx hb hK hP hD hS (by decide) 0 rfl rfl (vp_in_nI (by omega) (by decide)) d_M_plan_158 (fun H locs hP hD hS => ?_)
                      rw [nI_clamp (by omega)] at hP hD
                      rw [show rl_w RM ad (va_up (gM cs ad (su τ 0 0 0)) 8 (arI (clM cs 8) 30 (upd ((su τ 0 0 0) 8) i 1))) = wM cs ad (su (su τ 0 0 0) 8 i 1) from wM_arr (r := 8) (by decide)] at hP hD
                      refine lv_aload_n hx hb d_M_plan_159 rfl (lv_at hl 1 rfl) ?_
                      refine rl_get (r := 0) (ci := 4) (v := .ref (ad 10)) (C := R_M) (T := F_M) (N := 25) hx hb hG in_M hown hK hP (by decide) gM_0 rfl 10 (by decide) kw_591 (fun _ h9 => h9) rfl d_M_plan_160 ?_
                      refine lv_iload_n hx hb d_M_plan_163 rfl (lv_at hl 2 rfl) ?_
                      refine lv_iload_n hx hb d_M_plan_164 rfl (lv_at hl 3 rfl) ?_
                      refine rl_iast (r := 10) (i := nI i) (x := p1) (n := 30) hx hb hK hP hD hS (by decide) 0 rfl rfl (vp_in_nI (by omega) (by decide)) d_M_plan_165 (fun H locs hP hD hS => ?_)
                      rw [nI_clamp (by omega)] at hP hD
                      rw [show rl_w RM ad (va_up (gM cs ad (su (su τ 0 0 0) 8 i 1)) 10 (arI (clM cs 10) 30 (upd ((su (su τ 0 0 0) 8 i 1) 10) i p1))) = wM cs ad (su (su (su τ 0 0 0) 8 i 1) 10 i p1) from wM_arr (r := 10) (by decide)] at hP hD
                      refine lv_aload_n hx hb d_M_plan_166 rfl (lv_at hl 1 rfl) ?_
                      refine rl_get (r := 0) (ci := 4) (v := .ref (ad 11)) (C := R_M) (T := F_M) (N := 25) hx hb hG in_M hown hK hP (by decide) gM_0 rfl 11 (by decide) kw_592 (fun _ h9 => h9) rfl d_M_plan_167 ?_
                      refine lv_iload_n hx hb d_M_plan_170 rfl (lv_at hl 2 rfl) ?_
                      refine lv_iload_n hx hb d_M_plan_171 rfl (lv_at hl 4 rfl) ?_
                      refine rl_iast (r := 11) (i := nI i) (x := p2) (n := 30) hx hb hK hP hD hS (by decide) 0 rfl rfl (vp_in_nI (by omega) (by decide)) d_M_plan_172 (fun H locs hP hD hS => ?_)
                      rw [nI_clamp (by omega)] at hP hD
                      rw [show rl_w RM ad (va_up (gM cs ad (su (su (su τ 0 0 0) 8 i 1) 10 i p1)) 11 (arI (clM cs 11) 30 (upd ((su (su (su τ 0 0 0) 8 i 1) 10 i p1) 11) i p2))) = wM cs ad (su (su (su (su τ 0 0 0) 8 i 1) 10 i p1) 11 i p2) from wM_arr (r := 11) (by decide)] at hP hD
                      refine lv_aload_n hx hb d_M_plan_173 rfl (lv_at hl 1 rfl) ?_
                      refine rl_get (r := 0) (ci := 4) (v := .ref (ad 12)) (C := R_M) (T := F_M) (N := 25) hx hb hG in_M hown hK hP (by decide) gM_0 rfl 12 (by decide) kw_593 (fun _ h9 => h9) rfl d_M_plan_174 ?_
                      refine lv_iload_n hx hb d_M_plan_177 rfl (lv_at hl 2 rfl) ?_
                      refine lv_iload hx hb d_M_plan_178 (lv_at hl 5 rfl) ?_
                      refine rl_iast (r := 12) (i := nI i) (x := p3) (n := 30) hx hb hK hP hD hS (by decide) 0 rfl rfl (vp_in_nI (by omega) (by decide)) d_M_plan_180 (fun H locs hP hD hS => ?_)
                      rw [nI_clamp (by omega)] at hP hD
                      rw [show rl_w RM ad (va_up (gM cs ad (su (su (su (su τ 0 0 0) 8 i 1) 10 i p1) 11 i p2)) 12 (arI (clM cs 12) 30 (upd ((su (su (su (su τ 0 0 0) 8 i 1) 10 i p1) 11 i p2) 12) i p3))) = wM cs ad (su (su (su (su (su τ 0 0 0) 8 i 1) 10 i p1) 11 i p2) 12 i p3) from wM_arr (r := 12) (by decide)] at hP hD
                      refine lv_iconst (v := 1) hx hb d_M_plan_181 (by decide) ?_
                      exact W.iret (v := 1) hx hb hr (fun t ht hW => ⟨⟨1, su (su (su (su (su τ 0 0 0) 8 i 1) 10 i p1) 11 i p2) 12 i p3, rfl, Or.inr ⟨i, hi, rfl, Classical.not_not.mp (fun h => c_7 (b2i_eq0.mpr h)), Classical.not_not.mp (fun h => c_11 (b2i_eq0.mpr h)), Classical.not_not.mp (fun h => c_15 (b2i_eq0.mpr h)), Int32.not_le.mp c_17, Or.inr ⟨⟨Or.inr c_39, fun ⟨j, hj, h9⟩ => hinv_z j hj h9⟩, rfl, rfl⟩⟩, by rw [ht]; exact hP, va_K.moved hW.alike hK, hD⟩, hS.F ht⟩) hS.2.2 d_M_plan_182
                    · have hlt_z : z < n := nI_go hle_z c_40 (by omega)
                      refine lv_iload hx hb d_M_plan_89 (lv_at hl 5 rfl) ?_
                      refine lv_aload_n hx hb d_M_plan_91 rfl (lv_at hl 1 rfl) ?_
                      refine rl_get (r := 0) (ci := 4) (v := .ref (ad 11)) (C := R_M) (T := F_M) (N := 25) hx hb hG in_M hown hK hP (by decide) gM_0 rfl 11 (by decide) kw_592 (fun _ h9 => h9) rfl d_M_plan_92 ?_
                      refine lv_iload hx hb d_M_plan_95 (lv_at hl 0 rfl) ?_
                      refine rl_iald (r := 11) (i := nI z) (n := 30) hx hb hK hP (by decide) 0 rfl rfl (vp_in_nI (by omega) (by decide)) d_M_plan_97 ?_
                      rw [nI_clamp (by omega)]
                      refine W.eq (g2 := F0 m 98 ls [.int (τ 11 z), .int p3]) rfl ?_
                      refine lv_icmp_le (tgt := 112) hx hb d_M_plan_98 (by decide) (fun c_41 => ?_) (fun c_41 => ?_)
                      · refine lv_iconst (v := 1) hx hb d_M_plan_112 (by decide) ?_
                        refine lv_goto (tgt := 117) hx hb d_M_plan_113 (by decide) ?_
                        refine lv_istore (lv' := [(6, .int 1), (5, .int (nI z)), (0, .ref (ad 0)), (1, .int (nI i)), (2, .int p1), (3, .int p2), (4, .int p3)]) hx hb d_M_plan_117 hl (by decide) rfl (fun ls hl => ?_)
                        refine lv_aload_n hx hb d_M_plan_119 rfl (lv_at hl 2 rfl) ?_
                        refine lv_iload hx hb d_M_plan_120 (lv_at hl 1 rfl) ?_
                        refine vp_callSi (W.runV (As := [.int (nI z)]) (rest := []) ⟨hx, hb, hml, hown, hts⟩ (c_M_takesPlace l D cs ad (su τ 0 0 0) n nm (Mv_0 hM) z (by omega)) (cwV 1 hts (gw_V kw_688 kw_690 ks_1_3 kw_6 kw_691) rfl rfl rfl (by decide +kernel) ⟨Nat.le_of_ble_eq_true rfl, Nat.le_of_ble_eq_true rfl⟩) (rd_V hP hK (rl_recv hK hP (by decide) gM_0 rfl)) rfl rfl hl.1 rfl (lv_room (Nat.le_of_ble_eq_true rfl)) d_M_plan_122 ⟨Nat.zero_le _, Nat.zero_le _⟩) (fun r_42 h_43 => ?_)
                        subst h_43
                        refine W.eq (g2 := F0 m 125 ls [.int (b2i (τ 8 z = 1 ∨ τ 8 z = 2))]) rfl ?_
                        refine lv_if_eq (tgt := 146) hx hb d_M_plan_125 (by decide) (fun c_44 => ?_) (fun c_44 => ?_)
                        · refine lv_iinc (v := nI (z + 1)) (lv' := [(5, .int (nI (z + 1))), (6, .int 1), (0, .ref (ad 0)), (1, .int (nI i)), (2, .int p1), (3, .int p2), (4, .int p3)]) hx hb d_M_plan_146 hl (k := 1) rfl (by exact nI_1 _) (by decide) rfl (fun ls hl => ?_)
                          refine lv_goto (tgt := 80) hx hb d_M_plan_149 (by decide) ?_
                          exact ih_z (n - (z + 1)) (by omega) ls (z + 1) (lv_sub hl [0, 2, 3, 4, 5, 6] rfl) hlt_z (fun j hj => (Nat.lt_succ_iff_lt_or_eq.mp hj).elim (hinv_z j) (fun e9 => by subst e9; intro h9; (try simp only [b2i_eq0, Classical.not_not] at c_41 c_44); simp only [i32_eq, i32_lt, i32_le, i32_nm1, i32_n0, i32_n1, i32_n2, i32_n3, i32_n4, i32_n5, i32_n6, i32_n7, i32_n8, i32_n9, i32_n10, i32_n20, i32_n30, i32_n31, i32_n39, i32_n40, i32_n49, i32_n50, i32_n100, i32_n160, i32_n1000, i32_n100000, i32_n1000000] at c_41 c_44 h9; omega)) rfl
                        · refine lv_aload_n hx hb d_M_plan_128 rfl (lv_at hl 2 rfl) ?_
                          refine rl_get (r := 0) (ci := 4) (v := .ref (ad 10)) (C := R_M) (T := F_M) (N := 25) hx hb hG in_M hown hK hP (by decide) gM_0 rfl 10 (by decide) kw_591 (fun _ h9 => h9) rfl d_M_plan_129 ?_
                          refine lv_iload hx hb d_M_plan_132 (lv_at hl 1 rfl) ?_
                          refine rl_iald (r := 10) (i := nI z) (n := 30) hx hb hK hP (by decide) 0 rfl rfl (vp_in_nI (by omega) (by decide)) d_M_plan_134 ?_
                          rw [nI_clamp (by omega)]
                          refine W.eq (g2 := F0 m 135 ls [.int (τ 10 z)]) rfl ?_
                          refine lv_iload_n hx hb d_M_plan_135 rfl (lv_at hl 4 rfl) ?_
                          refine lv_icmp_ne (tgt := 146) hx hb d_M_plan_136 (by decide) (fun c_45 => ?_) (fun c_45 => ?_)
                          · refine lv_iinc (v := nI (z + 1)) (lv' := [(5, .int (nI (z + 1))), (6, .int 1), (0, .ref (ad 0)), (1, .int (nI i)), (2, .int p1), (3, .int p2), (4, .int p3)]) hx hb d_M_plan_146 hl (k := 1) rfl (by exact nI_1 _) (by decide) rfl (fun ls hl => ?_)
                            refine lv_goto (tgt := 80) hx hb d_M_plan_149 (by decide) ?_
                            exact ih_z (n - (z + 1)) (by omega) ls (z + 1) (lv_sub hl [0, 2, 3, 4, 5, 6] rfl) hlt_z (fun j hj => (Nat.lt_succ_iff_lt_or_eq.mp hj).elim (hinv_z j) (fun e9 => by subst e9; intro h9; (try simp only [b2i_eq0, Classical.not_not] at c_41 c_44 c_45); simp only [i32_eq, i32_lt, i32_le, i32_nm1, i32_n0, i32_n1, i32_n2, i32_n3, i32_n4, i32_n5, i32_n6, i32_n7, i32_n8, i32_n9, i32_n10, i32_n20, i32_n30, i32_n31, i32_n39, i32_n40, i32_n49, i32_n50, i32_n100, i32_n160, i32_n1000, i32_n100000, i32_n1000000] at c_41 c_44 c_45 h9; omega)) rfl
                          · refine lv_iload hx hb d_M_plan_139 (lv_at hl 0 rfl) ?_
                            refine lv_if_ne (tgt := 146) hx hb d_M_plan_141 (by decide) (fun c_46 => ?_) (fun c_46 => ?_)
                            · refine lv_iinc (v := nI (z + 1)) (lv' := [(5, .int (nI (z + 1))), (6, .int 1), (0, .ref (ad 0)), (1, .int (nI i)), (2, .int p1), (3, .int p2), (4, .int p3)]) hx hb d_M_plan_146 hl (k := 1) rfl (by exact nI_1 _) (by decide) rfl (fun ls hl => ?_)
                              refine lv_goto (tgt := 80) hx hb d_M_plan_149 (by decide) ?_
                              exact ih_z (n - (z + 1)) (by omega) ls (z + 1) (lv_sub hl [0, 2, 3, 4, 5, 6] rfl) hlt_z (fun j hj => (Nat.lt_succ_iff_lt_or_eq.mp hj).elim (hinv_z j) (fun e9 => by subst e9; intro h9; (try simp only [b2i_eq0, Classical.not_not] at c_41 c_44 c_45); simp only [i32_eq, i32_lt, i32_le, i32_nm1, i32_n0, i32_n1, i32_n2, i32_n3, i32_n4, i32_n5, i32_n6, i32_n7, i32_n8, i32_n9, i32_n10, i32_n20, i32_n30, i32_n31, i32_n39, i32_n40, i32_n49, i32_n50, i32_n100, i32_n160, i32_n1000, i32_n100000, i32_n1000000] at c_41 c_44 c_45 h9; omega)) rfl
                            · exact absurd c_46 (by decide)
                      · refine lv_iload_n hx hb d_M_plan_101 rfl (lv_at hl 4 rfl) ?_
                        refine lv_aload_n hx hb d_M_plan_102 rfl (lv_at hl 1 rfl) ?_
                        refine rl_get (r := 0) (ci := 4) (v := .ref (ad 12)) (C := R_M) (T := F_M) (N := 25) hx hb hG in_M hown hK hP (by decide) gM_0 rfl 12 (by decide) kw_593 (fun _ h9 => h9) rfl d_M_plan_103 ?_
                        refine lv_iload hx hb d_M_plan_106 (lv_at hl 0 rfl) ?_
                        refine rl_iald (r := 12) (i := nI z) (n := 30) hx hb hK hP (by decide) 0 rfl rfl (vp_in_nI (by omega) (by decide)) d_M_plan_108 ?_
                        rw [nI_clamp (by omega)]
                        refine W.eq (g2 := F0 m 109 ls [.int (τ 12 z), .int p2]) rfl ?_
                        refine lv_icmp_lt (tgt := 116) hx hb d_M_plan_109 (by decide) (fun c_47 => ?_) (fun c_47 => ?_)
                        · refine lv_iconst (v := 0) hx hb d_M_plan_116 (by decide) ?_
                          refine lv_istore (lv' := [(6, .int 0), (5, .int (nI z)), (0, .ref (ad 0)), (1, .int (nI i)), (2, .int p1), (3, .int p2), (4, .int p3)]) hx hb d_M_plan_117 hl (by decide) rfl (fun ls hl => ?_)
                          refine lv_aload_n hx hb d_M_plan_119 rfl (lv_at hl 2 rfl) ?_
                          refine lv_iload hx hb d_M_plan_120 (lv_at hl 1 rfl) ?_
                          refine vp_callSi (W.runV (As := [.int (nI z)]) (rest := []) ⟨hx, hb, hml, hown, hts⟩ (c_M_takesPlace l D cs ad (su τ 0 0 0) n nm (Mv_0 hM) z (by omega)) (cwV 1 hts (gw_V kw_688 kw_690 ks_1_3 kw_6 kw_691) rfl rfl rfl (by decide +kernel) ⟨Nat.le_of_ble_eq_true rfl, Nat.le_of_ble_eq_true rfl⟩) (rd_V hP hK (rl_recv hK hP (by decide) gM_0 rfl)) rfl rfl hl.1 rfl (lv_room (Nat.le_of_ble_eq_true rfl)) d_M_plan_122 ⟨Nat.zero_le _, Nat.zero_le _⟩) (fun r_48 h_49 => ?_)
                          subst h_49
                          refine W.eq (g2 := F0 m 125 ls [.int (b2i (τ 8 z = 1 ∨ τ 8 z = 2))]) rfl ?_
                          refine lv_if_eq (tgt := 146) hx hb d_M_plan_125 (by decide) (fun c_50 => ?_) (fun c_50 => ?_)
                          · refine lv_iinc (v := nI (z + 1)) (lv' := [(5, .int (nI (z + 1))), (6, .int 0), (0, .ref (ad 0)), (1, .int (nI i)), (2, .int p1), (3, .int p2), (4, .int p3)]) hx hb d_M_plan_146 hl (k := 1) rfl (by exact nI_1 _) (by decide) rfl (fun ls hl => ?_)
                            refine lv_goto (tgt := 80) hx hb d_M_plan_149 (by decide) ?_
                            exact ih_z (n - (z + 1)) (by omega) ls (z + 1) (lv_sub hl [0, 2, 3, 4, 5, 6] rfl) hlt_z (fun j hj => (Nat.lt_succ_iff_lt_or_eq.mp hj).elim (hinv_z j) (fun e9 => by subst e9; intro h9; (try simp only [b2i_eq0, Classical.not_not] at c_41 c_47 c_50); simp only [i32_eq, i32_lt, i32_le, i32_nm1, i32_n0, i32_n1, i32_n2, i32_n3, i32_n4, i32_n5, i32_n6, i32_n7, i32_n8, i32_n9, i32_n10, i32_n20, i32_n30, i32_n31, i32_n39, i32_n40, i32_n49, i32_n50, i32_n100, i32_n160, i32_n1000, i32_n100000, i32_n1000000] at c_41 c_47 c_50 h9; omega)) rfl
                          · refine lv_aload_n hx hb d_M_plan_128 rfl (lv_at hl 2 rfl) ?_
                            refine rl_get (r := 0) (ci := 4) (v := .ref (ad 10)) (C := R_M) (T := F_M) (N := 25) hx hb hG in_M hown hK hP (by decide) gM_0 rfl 10 (by decide) kw_591 (fun _ h9 => h9) rfl d_M_plan_129 ?_
                            refine lv_iload hx hb d_M_plan_132 (lv_at hl 1 rfl) ?_
                            refine rl_iald (r := 10) (i := nI z) (n := 30) hx hb hK hP (by decide) 0 rfl rfl (vp_in_nI (by omega) (by decide)) d_M_plan_134 ?_
                            rw [nI_clamp (by omega)]
                            refine W.eq (g2 := F0 m 135 ls [.int (τ 10 z)]) rfl ?_
                            refine lv_iload_n hx hb d_M_plan_135 rfl (lv_at hl 4 rfl) ?_
                            refine lv_icmp_ne (tgt := 146) hx hb d_M_plan_136 (by decide) (fun c_51 => ?_) (fun c_51 => ?_)
                            · refine lv_iinc (v := nI (z + 1)) (lv' := [(5, .int (nI (z + 1))), (6, .int 0), (0, .ref (ad 0)), (1, .int (nI i)), (2, .int p1), (3, .int p2), (4, .int p3)]) hx hb d_M_plan_146 hl (k := 1) rfl (by exact nI_1 _) (by decide) rfl (fun ls hl => ?_)
                              refine lv_goto (tgt := 80) hx hb d_M_plan_149 (by decide) ?_
                              exact ih_z (n - (z + 1)) (by omega) ls (z + 1) (lv_sub hl [0, 2, 3, 4, 5, 6] rfl) hlt_z (fun j hj => (Nat.lt_succ_iff_lt_or_eq.mp hj).elim (hinv_z j) (fun e9 => by subst e9; intro h9; (try simp only [b2i_eq0, Classical.not_not] at c_41 c_47 c_50 c_51); simp only [i32_eq, i32_lt, i32_le, i32_nm1, i32_n0, i32_n1, i32_n2, i32_n3, i32_n4, i32_n5, i32_n6, i32_n7, i32_n8, i32_n9, i32_n10, i32_n20, i32_n30, i32_n31, i32_n39, i32_n40, i32_n49, i32_n50, i32_n100, i32_n160, i32_n1000, i32_n100000, i32_n1000000] at c_41 c_47 c_50 c_51 h9; omega)) rfl
                            · refine lv_iload hx hb d_M_plan_139 (lv_at hl 0 rfl) ?_
                              refine lv_if_ne (tgt := 146) hx hb d_M_plan_141 (by decide) (fun c_52 => ?_) (fun c_52 => ?_)
                              · exact absurd (by decide) c_52
                              · refine lv_iconst (v := 0) hx hb d_M_plan_144 (by decide) ?_
                                exact W.iret (v := 0) hx hb hr (fun t ht hW => ⟨⟨0, su τ 0 0 0, rfl, Or.inr ⟨i, hi, rfl, Classical.not_not.mp (fun h => c_7 (b2i_eq0.mpr h)), Classical.not_not.mp (fun h => c_11 (b2i_eq0.mpr h)), Classical.not_not.mp (fun h => c_15 (b2i_eq0.mpr h)), Int32.not_le.mp c_17, Or.inl ⟨fun h9 => h9.2 ⟨z, hlt_z, by (try simp only [b2i_eq0, Classical.not_not] at c_41 c_47 c_50 c_51); simp only [i32_eq, i32_lt, i32_le, i32_nm1, i32_n0, i32_n1, i32_n2, i32_n3, i32_n4, i32_n5, i32_n6, i32_n7, i32_n8, i32_n9, i32_n10, i32_n20, i32_n30, i32_n31, i32_n39, i32_n40, i32_n49, i32_n50, i32_n100, i32_n160, i32_n1000, i32_n100000, i32_n1000000] at c_41 c_47 c_50 c_51 ⊢; omega⟩, rfl, rfl⟩⟩, by rw [ht]; exact hP, va_K.moved hW.alike hK, hD⟩, hS.F ht⟩) hS.2.2 d_M_plan_145
                        · refine lv_iconst (v := 1) hx hb d_M_plan_112 (by decide) ?_
                          refine lv_goto (tgt := 117) hx hb d_M_plan_113 (by decide) ?_
                          refine lv_istore (lv' := [(6, .int 1), (5, .int (nI z)), (0, .ref (ad 0)), (1, .int (nI i)), (2, .int p1), (3, .int p2), (4, .int p3)]) hx hb d_M_plan_117 hl (by decide) rfl (fun ls hl => ?_)
                          refine lv_aload_n hx hb d_M_plan_119 rfl (lv_at hl 2 rfl) ?_
                          refine lv_iload hx hb d_M_plan_120 (lv_at hl 1 rfl) ?_
                          refine vp_callSi (W.runV (As := [.int (nI z)]) (rest := []) ⟨hx, hb, hml, hown, hts⟩ (c_M_takesPlace l D cs ad (su τ 0 0 0) n nm (Mv_0 hM) z (by omega)) (cwV 1 hts (gw_V kw_688 kw_690 ks_1_3 kw_6 kw_691) rfl rfl rfl (by decide +kernel) ⟨Nat.le_of_ble_eq_true rfl, Nat.le_of_ble_eq_true rfl⟩) (rd_V hP hK (rl_recv hK hP (by decide) gM_0 rfl)) rfl rfl hl.1 rfl (lv_room (Nat.le_of_ble_eq_true rfl)) d_M_plan_122 ⟨Nat.zero_le _, Nat.zero_le _⟩) (fun r_53 h_54 => ?_)
                          subst h_54
                          refine W.eq (g2 := F0 m 125 ls [.int (b2i (τ 8 z = 1 ∨ τ 8 z = 2))]) rfl ?_
                          refine lv_if_eq (tgt := 146) hx hb d_M_plan_125 (by decide) (fun c_55 => ?_) (fun c_55 => ?_)
                          · refine lv_iinc (v := nI (z + 1)) (lv' := [(5, .int (nI (z + 1))), (6, .int 1), (0, .ref (ad 0)), (1, .int (nI i)), (2, .int p1), (3, .int p2), (4, .int p3)]) hx hb d_M_plan_146 hl (k := 1) rfl (by exact nI_1 _) (by decide) rfl (fun ls hl => ?_)
                            refine lv_goto (tgt := 80) hx hb d_M_plan_149 (by decide) ?_
                            exact ih_z (n - (z + 1)) (by omega) ls (z + 1) (lv_sub hl [0, 2, 3, 4, 5, 6] rfl) hlt_z (fun j hj => (Nat.lt_succ_iff_lt_or_eq.mp hj).elim (hinv_z j) (fun e9 => by subst e9; intro h9; (try simp only [b2i_eq0, Classical.not_not] at c_41 c_47 c_55); simp only [i32_eq, i32_lt, i32_le, i32_nm1, i32_n0, i32_n1, i32_n2, i32_n3, i32_n4, i32_n5, i32_n6, i32_n7, i32_n8, i32_n9, i32_n10, i32_n20, i32_n30, i32_n31, i32_n39, i32_n40, i32_n49, i32_n50, i32_n100, i32_n160, i32_n1000, i32_n100000, i32_n1000000] at c_41 c_47 c_55 h9; omega)) rfl
                          · refine lv_aload_n hx hb d_M_plan_128 rfl (lv_at hl 2 rfl) ?_
                            refine rl_get (r := 0) (ci := 4) (v := .ref (ad 10)) (C := R_M) (T := F_M) (N := 25) hx hb hG in_M hown hK hP (by decide) gM_0 rfl 10 (by decide) kw_591 (fun _ h9 => h9) rfl d_M_plan_129 ?_
                            refine lv_iload hx hb d_M_plan_132 (lv_at hl 1 rfl) ?_
                            refine rl_iald (r := 10) (i := nI z) (n := 30) hx hb hK hP (by decide) 0 rfl rfl (vp_in_nI (by omega) (by decide)) d_M_plan_134 ?_
                            rw [nI_clamp (by omega)]
                            refine W.eq (g2 := F0 m 135 ls [.int (τ 10 z)]) rfl ?_
                            refine lv_iload_n hx hb d_M_plan_135 rfl (lv_at hl 4 rfl) ?_
                            refine lv_icmp_ne (tgt := 146) hx hb d_M_plan_136 (by decide) (fun c_56 => ?_) (fun c_56 => ?_)
                            · refine lv_iinc (v := nI (z + 1)) (lv' := [(5, .int (nI (z + 1))), (6, .int 1), (0, .ref (ad 0)), (1, .int (nI i)), (2, .int p1), (3, .int p2), (4, .int p3)]) hx hb d_M_plan_146 hl (k := 1) rfl (by exact nI_1 _) (by decide) rfl (fun ls hl => ?_)
                              refine lv_goto (tgt := 80) hx hb d_M_plan_149 (by decide) ?_
                              exact ih_z (n - (z + 1)) (by omega) ls (z + 1) (lv_sub hl [0, 2, 3, 4, 5, 6] rfl) hlt_z (fun j hj => (Nat.lt_succ_iff_lt_or_eq.mp hj).elim (hinv_z j) (fun e9 => by subst e9; intro h9; (try simp only [b2i_eq0, Classical.not_not] at c_41 c_47 c_55 c_56); simp only [i32_eq, i32_lt, i32_le, i32_nm1, i32_n0, i32_n1, i32_n2, i32_n3, i32_n4, i32_n5, i32_n6, i32_n7, i32_n8, i32_n9, i32_n10, i32_n20, i32_n30, i32_n31, i32_n39, i32_n40, i32_n49, i32_n50, i32_n100, i32_n160, i32_n1000, i32_n100000, i32_n1000000] at c_41 c_47 c_55 c_56 h9; omega)) rfl
                            · refine lv_iload hx hb d_M_plan_139 (lv_at hl 0 rfl) ?_
                              refine lv_if_ne (tgt := 146) hx hb d_M_plan_141 (by decide) (fun c_57 => ?_) (fun c_57 => ?_)
                              · refine lv_iinc (v := nI (z + 1)) (lv' := [(5, .int (nI (z + 1))), (6, .int 1), (0, .ref (ad 0)), (1, .int (nI i)), (2, .int p1), (3, .int p2), (4, .int p3)]) hx hb d_M_plan_146 hl (k := 1) rfl (by exact nI_1 _) (by decide) rfl (fun ls hl => ?_)
                                refine lv_goto (tgt := 80) hx hb d_M_plan_149 (by decide) ?_
                                exact ih_z (n - (z + 1)) (by omega) ls (z + 1) (lv_sub hl [0, 2, 3, 4, 5, 6] rfl) hlt_z (fun j hj => (Nat.lt_succ_iff_lt_or_eq.mp hj).elim (hinv_z j) (fun e9 => by subst e9; intro h9; (try simp only [b2i_eq0, Classical.not_not] at c_41 c_47 c_55 c_56); simp only [i32_eq, i32_lt, i32_le, i32_nm1, i32_n0, i32_n1, i32_n2, i32_n3, i32_n4, i32_n5, i32_n6, i32_n7, i32_n8, i32_n9, i32_n10, i32_n20, i32_n30, i32_n31, i32_n39, i32_n40, i32_n49, i32_n50, i32_n100, i32_n160, i32_n1000, i32_n100000, i32_n1000000] at c_41 c_47 c_55 c_56 h9; omega)) rfl
                              · exact absurd c_57 (by decide)
                · refine lv_iconst (v := 0) hx hb d_M_plan_75 (by decide) ?_
                  exact W.iret (v := 0) hx hb hr (fun t ht hW => ⟨⟨0, su τ 0 0 0, rfl, Or.inr ⟨i, hi, rfl, Classical.not_not.mp (fun h => c_7 (b2i_eq0.mpr h)), Classical.not_not.mp (fun h => c_11 (b2i_eq0.mpr h)), Classical.not_not.mp (fun h => c_15 (b2i_eq0.mpr h)), Int32.not_le.mp c_17, Or.inl ⟨fun h9 => h9.1.elim c_20 c_39, rfl, rfl⟩⟩, by rw [ht]; exact hP, va_K.moved hW.alike hK, hD⟩, hS.F ht⟩) hS.2.2 d_M_plan_76
set_option maxHeartbeats 4000000 in
set_option maxRecDepth 100000 in
theorem c_M_seal (l : Launch) (D : va_G) (cs : Nat → ClassId) (ad : Nat → Nat) (τ : Nat → Nat → Int32) (n nm : Nat) (hM : Mv τ n nm) (hz : ∀ k, k < 60 → τ 4 k = 0 ∨ τ 4 k = 1) (sz : Nat) (p0 p1 p2 p3 : Int32) : Met l y_M_seal (Cond.code y_M_seal b_M_seal 6 (some .int) :: GW) ({ frames := 2, cells := 0, slots := 0, locals := 64 }) (va_Pc [.ref (ad 0), .int p0, .int p1, .int p2, .int p3] (wr_B D cs (wM cs ad τ) sz)) (va_Qi (fun r (u : Nat → Nat → Int32) => (¬ ((0 ≤ p0 ∧ p0 < 10) ∧ (1 ≤ p1 ∧ p1 ≤ 1000000) ∧ (0 ≤ p2 ∧ p2 < 10) ∧ (0 ≤ p3 ∧ p3 < 10) ∧ ¬ p2 = p3) ∧ r = 0 ∧ u = su τ 0 0 1) ∨ ∃ a b k, a < 10 ∧ b < 10 ∧ k < 10 ∧ p0 = nI a ∧ p2 = nI b ∧ p3 = nI k ∧ (1 ≤ p1 ∧ p1 ≤ 1000000) ∧ ¬ nI b = nI k ∧ ((¬ (¬ τ 16 a = 0 ∧ ¬ τ 4 (6 * b + 5) = 0 ∧ ¬ τ 4 (6 * k + 5) = 0 ∧ ¬ ∃ j, j < n ∧ (τ 5 j = nI a ∧ 2 < τ 6 j ∧ τ 8 j = 2)) ∧ r = 0 ∧ u = su τ 0 0 0) ∨ ((¬ τ 16 a = 0 ∧ ¬ τ 4 (6 * b + 5) = 0 ∧ ¬ τ 4 (6 * k + 5) = 0 ∧ ¬ ∃ j, j < n ∧ (τ 5 j = nI a ∧ 2 < τ 6 j ∧ τ 8 j = 2)) ∧ r = 1 ∧ u = su (su (su τ 0 0 0) 16 a 0) 15 a p1))) (fun u => wr_T D cs (wM cs ad u) (va_A (wM cs ad τ) sz)) (va_A (wM cs ad τ) sz)) 0 0 (va_A (wM cs ad τ) sz) := by
  refine Met.ofW (cc := b_M_seal) (maxL := 6) (ret := (some .int)) (by decide) rfl ?_
  intro p e s m args below meth c s₁ B hml hv
  obtain ⟨rfl, hsz, hP, hK, hD0⟩ := hv
  have hx := B.exec
  have hb := B.bytes
  have hr := B.returns
  have hts := atoms_spec (ws := Cond.code y_M_seal b_M_seal 6 (some .int) :: GW) B.pre
  have hG : ∀ w ∈ GW, w.before _ s = true := fun w h => hts w (List.mem_cons_of_mem _ h)
  have hown : s.vm.findClass R_M = some m.cls := findClass_of_methodNamed B.named
  have hlocks := B.notSynchronized
  subst hsz
  have hD := hD0.self (sz := s.heap.size)
  generalize hAe : va_A (wM cs ad τ) s.heap.size = A at hD ⊢
  have hA : ∀ q : Nat, s.heap.size ≤ q → A q := fun q h => by rw [← hAe]; exact Or.inr h
  have hS : va_S A s.heap s.heap [] := va_S.rf
  have hn30 : n ≤ 30 := hM.2.2.1
  have hm40 : nm ≤ 40 := hM.2.2.2.1
  have hl := lv_entry ([.ref (ad 0), .int p0, .int p1, .int p2, .int p3]) (n := 6) (Nat.le_of_ble_eq_true rfl)
  rw [lg_entry_eq]
  generalize (lg_sl ([.ref (ad 0), .int p0, .int p1, .int p2, .int p3]) ++ List.replicate (6 - (lg_sl ([.ref (ad 0), .int p0, .int p1, .int p2, .int p3])).length) Slot.unset).toArray = ls at hl ⊢
  have hl : lv_has ls 6 [(0, .ref (ad 0)), (1, .int p0), (2, .int p1), (3, .int p2), (4, .int p3)] := hl
  refine lv_aload_n hx hb d_M_seal_0 rfl (lv_at hl 0 rfl) ?_
  refine lv_iload_n hx hb d_M_seal_1 rfl (lv_at hl 1 rfl) ?_
  refine vp_callSi (W.runS (As := [.int p0]) (rest := [.ref (ad 0)]) ⟨hx, hb, hml, hown, hts⟩ (c_M_isTen l p0) (va_cwS 1 hts (gw_S kw_661 kw_662 kw_6 kw_663) rfl rfl rfl (by decide +kernel) ⟨Nat.le_of_ble_eq_true rfl, Nat.le_of_ble_eq_true rfl⟩) ⟨fun _ _ _ _ q => q, fun U _ _ => ⟨rfl, trivial⟩⟩ rfl rfl hl.1 rfl (lv_room (Nat.le_of_ble_eq_true rfl)) d_M_seal_2 ⟨Nat.zero_le _, Nat.zero_le _⟩) (fun r_1 h_2 => ?_)
  subst h_2
  refine lv_if_eq (tgt := 43) hx hb d_M_seal_5 (by decide) (fun c_3 => ?_) (fun c_3 => ?_)
  · refine lv_iconst (v := 1) hx hb d_M_seal_43 (by decide) ?_
    refine rl_put (r := 0) (ci := 4) (v := .int 1) (ty := .int) (C := R_M) (T := F_M) (N := 25) hx hb hG in_M T_M T_M_ok n_M hown hK hP hD hS (by decide) gM_0 rfl 0 (by decide) kw_581 (fun _ h9 => h9) rfl (by decide +kernel) rfl rfl (Nat.le_of_ble_eq_true rfl) d_M_seal_44 (fun H locs hP hD hS => ?_)
    rw [wM_sc (by decide)] at hP hD
    refine lv_aload_n hx hb d_M_seal_47 rfl (lv_at hl 0 rfl) ?_
    refine rl_get (r := 0) (ci := 4) (v := .int 1) (C := R_M) (T := F_M) (N := 25) hx hb hG in_M hown hK hP (by decide) gM_0 rfl 0 (by decide) kw_581 (fun _ h9 => h9) rfl d_M_seal_48 ?_
    refine lv_if_gt (tgt := 82) hx hb d_M_seal_51 (by decide) (fun c_4 => ?_) (fun c_4 => ?_)
    · refine lv_iconst (v := 0) hx hb d_M_seal_82 (by decide) ?_
      exact W.iret (v := 0) hx hb hr (fun t ht hW => ⟨⟨0, su τ 0 0 1, rfl, Or.inl ⟨fun h9 => (b2i_eq0.mp c_3) (h9.1), rfl, rfl⟩, by rw [ht]; exact hP, va_K.moved hW.alike hK, hD⟩, hS.F ht⟩) hS.2.2 d_M_seal_83
    · exact absurd (by decide) c_4
  · obtain ⟨a, ha, rfl⟩ := at10 (Classical.not_not.mp (fun h => c_3 (b2i_eq0.mpr h)))
    refine lv_iload_n hx hb d_M_seal_8 rfl (lv_at hl 2 rfl) ?_
    refine lv_iconst (v := 1) hx hb d_M_seal_9 (by decide) ?_
    refine lv_ldc (v := 1000000) hx hb hown (hG _ kw_708) d_M_seal_10 ?_
    refine vp_callSi (W.runS (As := [.int p1, .int 1, .int 1000000]) (rest := [.ref (ad 0)]) ⟨hx, hb, hml, hown, hts⟩ (c_M_in l p1 1 1000000) (va_cwS 3 hts (gw_S kw_664 kw_665 kw_6 kw_666) rfl rfl rfl (by decide +kernel) ⟨Nat.le_of_ble_eq_true rfl, Nat.le_of_ble_eq_true rfl⟩) ⟨fun _ _ _ _ q => q, fun U _ _ => ⟨rfl, trivial⟩⟩ rfl rfl hl.1 rfl (lv_room (Nat.le_of_ble_eq_true rfl)) d_M_seal_12 ⟨Nat.zero_le _, Nat.zero_le _⟩) (fun r_5 h_6 => ?_)
    subst h_6
    refine lv_if_eq (tgt := 43) hx hb d_M_seal_15 (by decide) (fun c_7 => ?_) (fun c_7 => ?_)
    · refine lv_iconst (v := 1) hx hb d_M_seal_43 (by decide) ?_
      refine rl_put (r := 0) (ci := 4) (v := .int 1) (ty := .int) (C := R_M) (T := F_M) (N := 25) hx hb hG in_M T_M T_M_ok n_M hown hK hP hD hS (by decide) gM_0 rfl 0 (by decide) kw_581 (fun _ h9 => h9) rfl (by decide +kernel) rfl rfl (Nat.le_of_ble_eq_true rfl) d_M_seal_44 (fun H locs hP hD hS => ?_)
      rw [wM_sc (by decide)] at hP hD
      refine lv_aload_n hx hb d_M_seal_47 rfl (lv_at hl 0 rfl) ?_
      refine rl_get (r := 0) (ci := 4) (v := .int 1) (C := R_M) (T := F_M) (N := 25) hx hb hG in_M hown hK hP (by decide) gM_0 rfl 0 (by decide) kw_581 (fun _ h9 => h9) rfl d_M_seal_48 ?_
      refine lv_if_gt (tgt := 82) hx hb d_M_seal_51 (by decide) (fun c_8 => ?_) (fun c_8 => ?_)
      · refine lv_iconst (v := 0) hx hb d_M_seal_82 (by decide) ?_
        exact W.iret (v := 0) hx hb hr (fun t ht hW => ⟨⟨0, su τ 0 0 1, rfl, Or.inl ⟨fun h9 => (b2i_eq0.mp c_7) (h9.2.1), rfl, rfl⟩, by rw [ht]; exact hP, va_K.moved hW.alike hK, hD⟩, hS.F ht⟩) hS.2.2 d_M_seal_83
      · exact absurd (by decide) c_8
    · refine lv_iload_n hx hb d_M_seal_18 rfl (lv_at hl 3 rfl) ?_
      refine vp_callSi (W.runS (As := [.int p2]) (rest := [.ref (ad 0)]) ⟨hx, hb, hml, hown, hts⟩ (c_M_isTen l p2) (va_cwS 1 hts (gw_S kw_661 kw_662 kw_6 kw_663) rfl rfl rfl (by decide +kernel) ⟨Nat.le_of_ble_eq_true rfl, Nat.le_of_ble_eq_true rfl⟩) ⟨fun _ _ _ _ q => q, fun U _ _ => ⟨rfl, trivial⟩⟩ rfl rfl hl.1 rfl (lv_room (Nat.le_of_ble_eq_true rfl)) d_M_seal_19 ⟨Nat.zero_le _, Nat.zero_le _⟩) (fun r_9 h_10 => ?_)
      subst h_10
      refine lv_if_eq (tgt := 43) hx hb d_M_seal_22 (by decide) (fun c_11 => ?_) (fun c_11 => ?_)
      · refine lv_iconst (v := 1) hx hb d_M_seal_43 (by decide) ?_
        refine rl_put (r := 0) (ci := 4) (v := .int 1) (ty := .int) (C := R_M) (T := F_M) (N := 25) hx hb hG in_M T_M T_M_ok n_M hown hK hP hD hS (by decide) gM_0 rfl 0 (by decide) kw_581 (fun _ h9 => h9) rfl (by decide +kernel) rfl rfl (Nat.le_of_ble_eq_true rfl) d_M_seal_44 (fun H locs hP hD hS => ?_)
        rw [wM_sc (by decide)] at hP hD
        refine lv_aload_n hx hb d_M_seal_47 rfl (lv_at hl 0 rfl) ?_
        refine rl_get (r := 0) (ci := 4) (v := .int 1) (C := R_M) (T := F_M) (N := 25) hx hb hG in_M hown hK hP (by decide) gM_0 rfl 0 (by decide) kw_581 (fun _ h9 => h9) rfl d_M_seal_48 ?_
        refine lv_if_gt (tgt := 82) hx hb d_M_seal_51 (by decide) (fun c_12 => ?_) (fun c_12 => ?_)
        · refine lv_iconst (v := 0) hx hb d_M_seal_82 (by decide) ?_
          exact W.iret (v := 0) hx hb hr (fun t ht hW => ⟨⟨0, su τ 0 0 1, rfl, Or.inl ⟨fun h9 => (b2i_eq0.mp c_11) (h9.2.2.1), rfl, rfl⟩, by rw [ht]; exact hP, va_K.moved hW.alike hK, hD⟩, hS.F ht⟩) hS.2.2 d_M_seal_83
        · exact absurd (by decide) c_12
      · obtain ⟨b, hb9, rfl⟩ := at10 (Classical.not_not.mp (fun h => c_11 (b2i_eq0.mpr h)))
        refine lv_iload hx hb d_M_seal_25 (lv_at hl 4 rfl) ?_
        refine vp_callSi (W.runS (As := [.int p3]) (rest := [.ref (ad 0)]) ⟨hx, hb, hml, hown, hts⟩ (c_M_isTen l p3) (va_cwS 1 hts (gw_S kw_661 kw_662 kw_6 kw_663) rfl rfl rfl (by decide +kernel) ⟨Nat.le_of_ble_eq_true rfl, Nat.le_of_ble_eq_true rfl⟩) ⟨fun _ _ _ _ q => q, fun U _ _ => ⟨rfl, trivial⟩⟩ rfl rfl hl.1 rfl (lv_room (Nat.le_of_ble_eq_true rfl)) d_M_seal_27 ⟨Nat.zero_le _, Nat.zero_le _⟩) (fun r_13 h_14 => ?_)
        subst h_14
        refine lv_if_eq (tgt := 43) hx hb d_M_seal_30 (by decide) (fun c_15 => ?_) (fun c_15 => ?_)
        · refine lv_iconst (v := 1) hx hb d_M_seal_43 (by decide) ?_
          refine rl_put (r := 0) (ci := 4) (v := .int 1) (ty := .int) (C := R_M) (T := F_M) (N := 25) hx hb hG in_M T_M T_M_ok n_M hown hK hP hD hS (by decide) gM_0 rfl 0 (by decide) kw_581 (fun _ h9 => h9) rfl (by decide +kernel) rfl rfl (Nat.le_of_ble_eq_true rfl) d_M_seal_44 (fun H locs hP hD hS => ?_)
          rw [wM_sc (by decide)] at hP hD
          refine lv_aload_n hx hb d_M_seal_47 rfl (lv_at hl 0 rfl) ?_
          refine rl_get (r := 0) (ci := 4) (v := .int 1) (C := R_M) (T := F_M) (N := 25) hx hb hG in_M hown hK hP (by decide) gM_0 rfl 0 (by decide) kw_581 (fun _ h9 => h9) rfl d_M_seal_48 ?_
          refine lv_if_gt (tgt := 82) hx hb d_M_seal_51 (by decide) (fun c_16 => ?_) (fun c_16 => ?_)
          · refine lv_iconst (v := 0) hx hb d_M_seal_82 (by decide) ?_
            exact W.iret (v := 0) hx hb hr (fun t ht hW => ⟨⟨0, su τ 0 0 1, rfl, Or.inl ⟨fun h9 => (b2i_eq0.mp c_15) (h9.2.2.2.1), rfl, rfl⟩, by rw [ht]; exact hP, va_K.moved hW.alike hK, hD⟩, hS.F ht⟩) hS.2.2 d_M_seal_83
          · exact absurd (by decide) c_16
        · obtain ⟨k, hk9, rfl⟩ := at10 (Classical.not_not.mp (fun h => c_15 (b2i_eq0.mpr h)))
          refine lv_iload_n hx hb d_M_seal_33 rfl (lv_at hl 3 rfl) ?_
          refine lv_iload hx hb d_M_seal_34 (lv_at hl 4 rfl) ?_
          refine lv_icmp_eq (tgt := 43) hx hb d_M_seal_36 (by decide) (fun c_17 => ?_) (fun c_17 => ?_)
          · refine lv_iconst (v := 1) hx hb d_M_seal_43 (by decide) ?_
            refine rl_put (r := 0) (ci := 4) (v := .int 1) (ty := .int) (C := R_M) (T := F_M) (N := 25) hx hb hG in_M T_M T_M_ok n_M hown hK hP hD hS (by decide) gM_0 rfl 0 (by decide) kw_581 (fun _ h9 => h9) rfl (by decide +kernel) rfl rfl (Nat.le_of_ble_eq_true rfl) d_M_seal_44 (fun H locs hP hD hS => ?_)
            rw [wM_sc (by decide)] at hP hD
            refine lv_aload_n hx hb d_M_seal_47 rfl (lv_at hl 0 rfl) ?_
            refine rl_get (r := 0) (ci := 4) (v := .int 1) (C := R_M) (T := F_M) (N := 25) hx hb hG in_M hown hK hP (by decide) gM_0 rfl 0 (by decide) kw_581 (fun _ h9 => h9) rfl d_M_seal_48 ?_
            refine lv_if_gt (tgt := 82) hx hb d_M_seal_51 (by decide) (fun c_18 => ?_) (fun c_18 => ?_)
            · refine lv_iconst (v := 0) hx hb d_M_seal_82 (by decide) ?_
              exact W.iret (v := 0) hx hb hr (fun t ht hW => ⟨⟨0, su τ 0 0 1, rfl, Or.inl ⟨fun h9 => h9.2.2.2.2 c_17, rfl, rfl⟩, by rw [ht]; exact hP, va_K.moved hW.alike hK, hD⟩, hS.F ht⟩) hS.2.2 d_M_seal_83
            · exact absurd (by decide) c_18
          · refine lv_iconst (v := 0) hx hb d_M_seal_39 (by decide) ?_
            refine lv_goto (tgt := 44) hx hb d_M_seal_40 (by decide) ?_
            refine rl_put (r := 0) (ci := 4) (v := .int 0) (ty := .int) (C := R_M) (T := F_M) (N := 25) hx hb hG in_M T_M T_M_ok n_M hown hK hP hD hS (by decide) gM_0 rfl 0 (by decide) kw_581 (fun _ h9 => h9) rfl (by decide +kernel) rfl rfl (Nat.le_of_ble_eq_true rfl) d_M_seal_44 (fun H locs hP hD hS => ?_)
            rw [wM_sc (by decide)] at hP hD
            refine lv_aload_n hx hb d_M_seal_47 rfl (lv_at hl 0 rfl) ?_
            refine rl_get (r := 0) (ci := 4) (v := .int 0) (C := R_M) (T := F_M) (N := 25) hx hb hG in_M hown hK hP (by decide) gM_0 rfl 0 (by decide) kw_581 (fun _ h9 => h9) rfl d_M_seal_48 ?_
            refine lv_if_gt (tgt := 82) hx hb d_M_seal_51 (by decide) (fun c_19 => ?_) (fun c_19 => ?_)
            · exact absurd c_19 (by decide)
            · refine lv_aload_n hx hb d_M_seal_54 rfl (lv_at hl 0 rfl) ?_
              refine rl_get (r := 0) (ci := 4) (v := .ref (ad 16)) (C := R_M) (T := F_M) (N := 25) hx hb hG in_M hown hK hP (by decide) gM_0 rfl 16 (by decide) kw_597 (fun _ h9 => h9) rfl d_M_seal_55 ?_
              refine lv_iload_n hx hb d_M_seal_58 rfl (lv_at hl 1 rfl) ?_
              refine rl_zald (r := 16) (i := nI a) (n := 10) hx hb hK hP (by decide) 1 rfl rfl (vp_in_nI (by omega) (by decide)) d_M_seal_59 ?_
              rw [nI_clamp (by omega)]
              refine W.eq (g2 := F0 m 60 ls [.int (τ 16 a)]) rfl ?_
              refine lv_if_eq (tgt := 82) hx hb d_M_seal_60 (by decide) (fun c_20 => ?_) (fun c_20 => ?_)
              · refine lv_iconst (v := 0) hx hb d_M_seal_82 (by decide) ?_
                exact W.iret (v := 0) hx hb hr (fun t ht hW => ⟨⟨0, su τ 0 0 0, rfl, Or.inr ⟨a, b, k, ha, hb9, hk9, rfl, rfl, rfl, Classical.not_not.mp (fun h => c_7 (b2i_eq0.mpr h)), c_17, Or.inl ⟨fun h9 => h9.1 c_20, rfl, rfl⟩⟩, by rw [ht]; exact hP, va_K.moved hW.alike hK, hD⟩, hS.F ht⟩) hS.2.2 d_M_seal_83
              · refine lv_aload_n hx hb d_M_seal_63 rfl (lv_at hl 0 rfl) ?_
                refine lv_iload_n hx hb d_M_seal_64 rfl (lv_at hl 3 rfl) ?_
                refine lv_iconst (v := 5) hx hb d_M_seal_65 (by decide) ?_
                refine vp_callSi (W.runV (As := [.int (nI b), .int 5]) (rest := []) ⟨hx, hb, hml, hown, hts⟩ (c_M_may l D cs ad (su τ 0 0 0) n nm (Mv_0 hM) b 5 (by omega) (by omega) (hz _ (by omega))) (cwV 2 hts (gw_V kw_667 kw_669 ks_1_0 kw_6 kw_670) rfl rfl rfl (by decide +kernel) ⟨Nat.le_of_ble_eq_true rfl, Nat.le_of_ble_eq_true rfl⟩) (rd_V hP hK (rl_recv hK hP (by decide) gM_0 rfl)) rfl rfl hl.1 rfl (lv_room (Nat.le_of_ble_eq_true rfl)) d_M_seal_66 ⟨Nat.zero_le _, Nat.zero_le _⟩) (fun r_21 h_22 => ?_)
                subst h_22
                refine W.eq (g2 := F0 m 69 ls [.int (τ 4 (6 * b + 5))]) rfl ?_
                refine lv_if_eq (tgt := 82) hx hb d_M_seal_69 (by decide) (fun c_23 => ?_) (fun c_23 => ?_)
                · refine lv_iconst (v := 0) hx hb d_M_seal_82 (by decide) ?_
                  exact W.iret (v := 0) hx hb hr (fun t ht hW => ⟨⟨0, su τ 0 0 0, rfl, Or.inr ⟨a, b, k, ha, hb9, hk9, rfl, rfl, rfl, Classical.not_not.mp (fun h => c_7 (b2i_eq0.mpr h)), c_17, Or.inl ⟨fun h9 => h9.2.1 c_23, rfl, rfl⟩⟩, by rw [ht]; exact hP, va_K.moved hW.alike hK, hD⟩, hS.F ht⟩) hS.2.2 d_M_seal_83
                · refine lv_aload_n hx hb d_M_seal_72 rfl (lv_at hl 0 rfl) ?_
                  refine lv_iload hx hb d_M_seal_73 (lv_at hl 4 rfl) ?_
                  refine lv_iconst (v := 5) hx hb d_M_seal_75 (by decide) ?_
                  refine vp_callSi (W.runV (As := [.int (nI k), .int 5]) (rest := []) ⟨hx, hb, hml, hown, hts⟩ (c_M_may l D cs ad (su τ 0 0 0) n nm (Mv_0 hM) k 5 (by omega) (by omega) (hz _ (by omega))) (cwV 2 hts (gw_V kw_667 kw_669 ks_1_0 kw_6 kw_670) rfl rfl rfl (by decide +kernel) ⟨Nat.le_of_ble_eq_true rfl, Nat.le_of_ble_eq_true rfl⟩) (rd_V hP hK (rl_recv hK hP (by decide) gM_0 rfl)) rfl rfl hl.1 rfl (lv_room (Nat.le_of_ble_eq_true rfl)) d_M_seal_76 ⟨Nat.zero_le _, Nat.zero_le _⟩) (fun r_24 h_25 => ?_)
                  subst h_25
                  refine W.eq (g2 := F0 m 79 ls [.int (τ 4 (6 * k + 5))]) rfl ?_
                  refine lv_if_ne (tgt := 84) hx hb d_M_seal_79 (by decide) (fun c_26 => ?_) (fun c_26 => ?_)
                  · refine lv_iconst (v := 0) hx hb d_M_seal_84 (by decide) ?_
                    refine lv_istore (lv' := [(5, .int 0), (0, .ref (ad 0)), (1, .int (nI a)), (2, .int p1), (3, .int (nI b)), (4, .int (nI k))]) hx hb d_M_seal_85 hl (by decide) rfl (fun ls hl => ?_)
                    replace hl : ∃ z : Nat, lv_has ls 6 [(5, .int (nI z)), (0, .ref (ad 0)), (1, .int (nI a)), (2, .int p1), (3, .int (nI b)), (4, .int (nI k))] ∧ z ≤ n ∧ (∀ j, j < z → ¬ (τ 5 j = nI a ∧ 2 < τ 6 j ∧ τ 8 j = 2)) := ⟨0, lv_sub hl [0, 1, 2, 3, 4, 5] rfl, Nat.zero_le _, fun _ h => absurd h (Nat.not_lt_zero _)⟩
                    obtain ⟨z, hl, hle_z, hinv_z⟩ := hl
                    obtain ⟨k_z, hk_z⟩ : ∃ k, n - z = k := ⟨_, rfl⟩
                    induction k_z using Nat.strongRecOn generalizing z ls with
                    | _ k_z ih_z =>
                      refine lv_iload hx hb d_M_seal_87 (lv_at hl 0 rfl) ?_
                      refine lv_aload_n hx hb d_M_seal_89 rfl (lv_at hl 1 rfl) ?_
                      refine rl_get (r := 0) (ci := 4) (v := .int (nI n)) (C := R_M) (T := F_M) (N := 25) hx hb hG in_M hown hK hP (by decide) gM_0 rfl 1 (by decide) kw_582 (fun _ h9 => h9) (show _ = some (Value.int (nI n)) by rw [← hM.1]; rfl) d_M_seal_90 ?_
                      refine lv_icmp_ge (tgt := 124) hx hb d_M_seal_93 (by decide) (fun c_27 => ?_) (fun c_27 => ?_)
                      · have hz_z : z = n := nI_exit hle_z c_27 (by omega)
                        subst hz_z
                        refine lv_aload_n hx hb d_M_seal_124 rfl (lv_at hl 1 rfl) ?_
                        refine rl_get (r := 0) (ci := 4) (v := .ref (ad 16)) (C := R_M) (T := F_M) (N := 25) hx hb hG in_M hown hK hP (by decide) gM_0 rfl 16 (by decide) kw_597 (fun _ h9 => h9) rfl d_M_seal_125 ?_
                        refine lv_iload_n hx hb d_M_seal_128 rfl (lv_at hl 2 rfl) ?_
                        refine lv_iconst (v := 0) hx hb d_M_seal_129 (by decide) ?_
                        refine rl_zast (r := 16) (i := nI a) (x := 0) (n := 10) hx hb hK hP hD hS (by decide) 1 rfl rfl (vp_in_nI (by omega) (by decide)) d_M_seal_130 (fun H locs hP hD hS => ?_)
                        rw [nI_clamp (by omega)] at hP hD
                        rw [show vp_nar .boolean (0 : Int32) = 0 from rfl] at hP hD
                        rw [show rl_w RM ad (va_up (gM cs ad (su τ 0 0 0)) 16 (arI (clM cs 16) 10 (upd ((su τ 0 0 0) 16) a 0))) = wM cs ad (su (su τ 0 0 0) 16 a 0) from wM_arr (r := 16) (by decide)] at hP hD
                        refine lv_aload_n hx hb d_M_seal_131 rfl (lv_at hl 1 rfl) ?_
                        refine rl_get (r := 0) (ci := 4) (v := .ref (ad 15)) (C := R_M) (T := F_M) (N := 25) hx hb hG in_M hown hK hP (by decide) gM_0 rfl 15 (by decide) kw_596 (fun _ h9 => h9) rfl d_M_seal_132 ?_
                        refine lv_iload_n hx hb d_M_seal_135 rfl (lv_at hl 2 rfl) ?_
                        refine lv_iload_n hx hb d_M_seal_136 rfl (lv_at hl 3 rfl) ?_
                        refine rl_iast (r := 15) (i := nI a) (x := p1) (n := 10) hx hb hK hP hD hS (by decide) 0 rfl rfl (vp_in_nI (by omega) (by decide)) d_M_seal_137 (fun H locs hP hD hS => ?_)
                        rw [nI_clamp (by omega)] at hP hD
                        rw [show rl_w RM ad (va_up (gM cs ad (su (su τ 0 0 0) 16 a 0)) 15 (arI (clM cs 15) 10 (upd ((su (su τ 0 0 0) 16 a 0) 15) a p1))) = wM cs ad (su (su (su τ 0 0 0) 16 a 0) 15 a p1) from wM_arr (r := 15) (by decide)] at hP hD
                        refine lv_iconst (v := 1) hx hb d_M_seal_138 (by decide) ?_
                        exact W.iret (v := 1) hx hb hr (fun t ht hW => ⟨⟨1, su (su (su τ 0 0 0) 16 a 0) 15 a p1, rfl, Or.inr ⟨a, b, k, ha, hb9, hk9, rfl, rfl, rfl, Classical.not_not.mp (fun h => c_7 (b2i_eq0.mpr h)), c_17, Or.inr ⟨⟨c_20, c_23, c_26, fun ⟨j, hj, h9⟩ => hinv_z j hj h9⟩, rfl, rfl⟩⟩, by rw [ht]; exact hP, va_K.moved hW.alike hK, hD⟩, hS.F ht⟩) hS.2.2 d_M_seal_139
                      · have hlt_z : z < n := nI_go hle_z c_27 (by omega)
                        refine lv_aload_n hx hb d_M_seal_96 rfl (lv_at hl 1 rfl) ?_
                        refine rl_get (r := 0) (ci := 4) (v := .ref (ad 5)) (C := R_M) (T := F_M) (N := 25) hx hb hG in_M hown hK hP (by decide) gM_0 rfl 5 (by decide) kw_586 (fun _ h9 => h9) rfl d_M_seal_97 ?_
                        refine lv_iload hx hb d_M_seal_100 (lv_at hl 0 rfl) ?_
                        refine rl_iald (r := 5) (i := nI z) (n := 30) hx hb hK hP (by decide) 0 rfl rfl (vp_in_nI (by omega) (by decide)) d_M_seal_102 ?_
                        rw [nI_clamp (by omega)]
                        refine W.eq (g2 := F0 m 103 ls [.int (τ 5 z)]) rfl ?_
                        refine lv_iload_n hx hb d_M_seal_103 rfl (lv_at hl 2 rfl) ?_
                        refine lv_icmp_ne (tgt := 118) hx hb d_M_seal_104 (by decide) (fun c_28 => ?_) (fun c_28 => ?_)
                        · refine lv_iinc (v := nI (z + 1)) (lv' := [(5, .int (nI (z + 1))), (0, .ref (ad 0)), (1, .int (nI a)), (2, .int p1), (3, .int (nI b)), (4, .int (nI k))]) hx hb d_M_seal_118 hl (k := 0) rfl (by exact nI_1 _) (by decide) rfl (fun ls hl => ?_)
                          refine lv_goto (tgt := 87) hx hb d_M_seal_121 (by decide) ?_
                          exact ih_z (n - (z + 1)) (by omega) ls (z + 1) (lv_sub hl [0, 1, 2, 3, 4, 5] rfl) hlt_z (fun j hj => (Nat.lt_succ_iff_lt_or_eq.mp hj).elim (hinv_z j) (fun e9 => by subst e9; intro h9; exact c_28 h9.1)) rfl
                        · refine lv_aload_n hx hb d_M_seal_107 rfl (lv_at hl 1 rfl) ?_
                          refine lv_iload hx hb d_M_seal_108 (lv_at hl 0 rfl) ?_
                          refine vp_callSi (W.runV (As := [.int (nI z)]) (rest := []) ⟨hx, hb, hml, hown, hts⟩ (c_M_isOpened l D cs ad (su τ 0 0 0) n nm (Mv_0 hM) z (by omega)) (cwV 1 hts (gw_V kw_709 kw_711 ks_1_4 kw_6 kw_712) rfl rfl rfl (by decide +kernel) ⟨Nat.le_of_ble_eq_true rfl, Nat.le_of_ble_eq_true rfl⟩) (rd_V hP hK (rl_recv hK hP (by decide) gM_0 rfl)) rfl rfl hl.1 rfl (lv_room (Nat.le_of_ble_eq_true rfl)) d_M_seal_110 ⟨Nat.zero_le _, Nat.zero_le _⟩) (fun r_29 h_30 => ?_)
                          subst h_30
                          refine W.eq (g2 := F0 m 113 ls [.int (b2i (2 < τ 6 z ∧ τ 8 z = 2))]) rfl ?_
                          refine lv_if_eq (tgt := 118) hx hb d_M_seal_113 (by decide) (fun c_31 => ?_) (fun c_31 => ?_)
                          · refine lv_iinc (v := nI (z + 1)) (lv' := [(5, .int (nI (z + 1))), (0, .ref (ad 0)), (1, .int (nI a)), (2, .int p1), (3, .int (nI b)), (4, .int (nI k))]) hx hb d_M_seal_118 hl (k := 0) rfl (by exact nI_1 _) (by decide) rfl (fun ls hl => ?_)
                            refine lv_goto (tgt := 87) hx hb d_M_seal_121 (by decide) ?_
                            exact ih_z (n - (z + 1)) (by omega) ls (z + 1) (lv_sub hl [0, 1, 2, 3, 4, 5] rfl) hlt_z (fun j hj => (Nat.lt_succ_iff_lt_or_eq.mp hj).elim (hinv_z j) (fun e9 => by subst e9; intro h9; exact (b2i_eq0.mp c_31) h9.2)) rfl
                          · refine lv_iconst (v := 0) hx hb d_M_seal_116 (by decide) ?_
                            exact W.iret (v := 0) hx hb hr (fun t ht hW => ⟨⟨0, su τ 0 0 0, rfl, Or.inr ⟨a, b, k, ha, hb9, hk9, rfl, rfl, rfl, Classical.not_not.mp (fun h => c_7 (b2i_eq0.mpr h)), c_17, Or.inl ⟨fun h9 => h9.2.2.2 ⟨z, hlt_z, c_28, Classical.not_not.mp (fun h => c_31 (b2i_eq0.mpr h))⟩, rfl, rfl⟩⟩, by rw [ht]; exact hP, va_K.moved hW.alike hK, hD⟩, hS.F ht⟩) hS.2.2 d_M_seal_117
                  · refine lv_iconst (v := 0) hx hb d_M_seal_82 (by decide) ?_
                    exact W.iret (v := 0) hx hb hr (fun t ht hW => ⟨⟨0, su τ 0 0 0, rfl, Or.inr ⟨a, b, k, ha, hb9, hk9, rfl, rfl, rfl, Classical.not_not.mp (fun h => c_7 (b2i_eq0.mpr h)), c_17, Or.inl ⟨fun h9 => h9.2.2.1 c_26, rfl, rfl⟩⟩, by rw [ht]; exact hP, va_K.moved hW.alike hK, hD⟩, hS.F ht⟩) hS.2.2 d_M_seal_83
set_option maxHeartbeats 4000000 in
set_option maxRecDepth 100000 in
theorem c_M_release (l : Launch) (D : va_G) (cs : Nat → ClassId) (ad : Nat → Nat) (τ : Nat → Nat → Int32) (n nm : Nat) (hM : Mv τ n nm) (sz : Nat) (p0 : Int32) : Met l y_M_release (Cond.code y_M_release b_M_release 5 (some .int) :: GW) ({ frames := 3, cells := 0, slots := 0, locals := 96 }) (va_Pc [.ref (ad 0), .int p0] (wr_B D cs (wM cs ad τ) sz)) (va_Qi (fun r (u : Nat → Nat → Int32) => (¬ (0 ≤ p0 ∧ p0 < 10) ∧ r = 0 ∧ u = su τ 0 0 1) ∨ ∃ a, a < 10 ∧ p0 = nI a ∧ r = ifP (∃ j, j < n ∧ τ 5 j = nI a ∧ ¬ τ 8 j = 3 ∧ ¬ τ 8 j = 5) 1 (ifP (¬ τ 16 a = 0) 2 (ifP (¬ τ 17 a = 0) 3 (ifP (∃ j, j < nm ∧ dS τ j = nI a ∧ (τ 21 (4 * j) < 0 ∧ τ 21 (4 * j + 1) < 0 ∧ τ 21 (4 * j + 2) < 0 ∧ τ 21 (4 * j + 3) < 0)) 4 (ifP (0 < grM τ (nI a) 0 (4 * nm)) 5 0)))) ∧ u = su τ 0 0 0) (fun u => wr_T D cs (wM cs ad u) (va_A (wM cs ad τ) sz)) (va_A (wM cs ad τ) sz)) 0 0 (va_A (wM cs ad τ) sz) := by
  refine Met.ofW (cc := b_M_release) (maxL := 5) (ret := (some .int)) (by decide) rfl ?_
  intro p e s m args below meth c s₁ B hml hv
  obtain ⟨rfl, hsz, hP, hK, hD0⟩ := hv
  have hx := B.exec
  have hb := B.bytes
  have hr := B.returns
  have hts := atoms_spec (ws := Cond.code y_M_release b_M_release 5 (some .int) :: GW) B.pre
  have hG : ∀ w ∈ GW, w.before _ s = true := fun w h => hts w (List.mem_cons_of_mem _ h)
  have hown : s.vm.findClass R_M = some m.cls := findClass_of_methodNamed B.named
  have hlocks := B.notSynchronized
  subst hsz
  have hD := hD0.self (sz := s.heap.size)
  generalize hAe : va_A (wM cs ad τ) s.heap.size = A at hD ⊢
  have hA : ∀ q : Nat, s.heap.size ≤ q → A q := fun q h => by rw [← hAe]; exact Or.inr h
  have hS : va_S A s.heap s.heap [] := va_S.rf
  have hn30 : n ≤ 30 := hM.2.2.1
  have hm40 : nm ≤ 40 := hM.2.2.2.1
  have hl := lv_entry ([.ref (ad 0), .int p0]) (n := 5) (Nat.le_of_ble_eq_true rfl)
  rw [lg_entry_eq]
  generalize (lg_sl ([.ref (ad 0), .int p0]) ++ List.replicate (5 - (lg_sl ([.ref (ad 0), .int p0])).length) Slot.unset).toArray = ls at hl ⊢
  have hl : lv_has ls 5 [(0, .ref (ad 0)), (1, .int p0)] := hl
  refine lv_aload_n hx hb d_M_release_0 rfl (lv_at hl 0 rfl) ?_
  refine lv_iload_n hx hb d_M_release_1 rfl (lv_at hl 1 rfl) ?_
  refine vp_callSi (W.runS (As := [.int p0]) (rest := [.ref (ad 0)]) ⟨hx, hb, hml, hown, hts⟩ (c_M_isTen l p0) (va_cwS 1 hts (gw_S kw_661 kw_662 kw_6 kw_663) rfl rfl rfl (by decide +kernel) ⟨Nat.le_of_ble_eq_true rfl, Nat.le_of_ble_eq_true rfl⟩) ⟨fun _ _ _ _ q => q, fun U _ _ => ⟨rfl, trivial⟩⟩ rfl rfl hl.1 rfl (lv_room (Nat.le_of_ble_eq_true rfl)) d_M_release_2 ⟨Nat.zero_le _, Nat.zero_le _⟩) (fun r_1 h_2 => ?_)
  subst h_2
  refine lv_if_eq (tgt := 12) hx hb d_M_release_5 (by decide) (fun c_3 => ?_) (fun c_3 => ?_)
  · refine lv_iconst (v := 1) hx hb d_M_release_12 (by decide) ?_
    refine rl_put (r := 0) (ci := 4) (v := .int 1) (ty := .int) (C := R_M) (T := F_M) (N := 25) hx hb hG in_M T_M T_M_ok n_M hown hK hP hD hS (by decide) gM_0 rfl 0 (by decide) kw_581 (fun _ h9 => h9) rfl (by decide +kernel) rfl rfl (Nat.le_of_ble_eq_true rfl) d_M_release_13 (fun H locs hP hD hS => ?_)
    rw [wM_sc (by decide)] at hP hD
    refine lv_aload_n hx hb d_M_release_16 rfl (lv_at hl 0 rfl) ?_
    refine rl_get (r := 0) (ci := 4) (v := .int 1) (C := R_M) (T := F_M) (N := 25) hx hb hG in_M hown hK hP (by decide) gM_0 rfl 0 (by decide) kw_581 (fun _ h9 => h9) rfl d_M_release_17 ?_
    refine lv_if_le (tgt := 25) hx hb d_M_release_20 (by decide) (fun c_4 => ?_) (fun c_4 => ?_)
    · exact absurd c_4 (by decide)
    · refine lv_iconst (v := 0) hx hb d_M_release_23 (by decide) ?_
      exact W.iret (v := 0) hx hb hr (fun t ht hW => ⟨⟨0, su τ 0 0 1, rfl, Or.inl ⟨b2i_eq0.mp c_3, rfl, rfl⟩, by rw [ht]; exact hP, va_K.moved hW.alike hK, hD⟩, hS.F ht⟩) hS.2.2 d_M_release_24
  · obtain ⟨a, ha, rfl⟩ := at10 (Classical.not_not.mp (fun h => c_3 (b2i_eq0.mpr h)))
    refine lv_iconst (v := 0) hx hb d_M_release_8 (by decide) ?_
    refine lv_goto (tgt := 13) hx hb d_M_release_9 (by decide) ?_
    refine rl_put (r := 0) (ci := 4) (v := .int 0) (ty := .int) (C := R_M) (T := F_M) (N := 25) hx hb hG in_M T_M T_M_ok n_M hown hK hP hD hS (by decide) gM_0 rfl 0 (by decide) kw_581 (fun _ h9 => h9) rfl (by decide +kernel) rfl rfl (Nat.le_of_ble_eq_true rfl) d_M_release_13 (fun H locs hP hD hS => ?_)
    rw [wM_sc (by decide)] at hP hD
    refine lv_aload_n hx hb d_M_release_16 rfl (lv_at hl 0 rfl) ?_
    refine rl_get (r := 0) (ci := 4) (v := .int 0) (C := R_M) (T := F_M) (N := 25) hx hb hG in_M hown hK hP (by decide) gM_0 rfl 0 (by decide) kw_581 (fun _ h9 => h9) rfl d_M_release_17 ?_
    refine lv_if_le (tgt := 25) hx hb d_M_release_20 (by decide) (fun c_5 => ?_) (fun c_5 => ?_)
    · refine lv_iconst (v := 0) hx hb d_M_release_25 (by decide) ?_
      refine lv_istore_n (lv' := [(2, .int 0), (0, .ref (ad 0)), (1, .int (nI a))]) hx hb d_M_release_26 rfl hl (by decide) rfl (fun ls hl => ?_)
      refine lv_iconst (v := 0) hx hb d_M_release_27 (by decide) ?_
      refine lv_istore_n (lv' := [(3, .int 0), (2, .int 0), (0, .ref (ad 0)), (1, .int (nI a))]) hx hb d_M_release_28 rfl hl (by decide) rfl (fun ls hl => ?_)
      replace hl : ∃ z : Nat, lv_has ls 5 [(3, .int (nI z)), (2, .int (b2i (∃ j, j < z ∧ τ 5 j = nI a ∧ ¬ τ 8 j = 3 ∧ ¬ τ 8 j = 5))), (0, .ref (ad 0)), (1, .int (nI a))] ∧ z ≤ n ∧ (0 ≤ z) := ⟨0, (by rw [show b2i (∃ j, j < 0 ∧ τ 5 j = nI a ∧ ¬ τ 8 j = 3 ∧ ¬ τ 8 j = 5) = 0 from b2i_f (fun ⟨j, hj, _⟩ => Nat.not_lt_zero j hj)]; exact lv_sub hl [0, 1, 2, 3] rfl), Nat.zero_le _, Nat.zero_le _⟩
      obtain ⟨z, hl, hle_z, hinv_z⟩ := hl
      obtain ⟨k_z, hk_z⟩ : ∃ k, n - z = k := ⟨_, rfl⟩
      induction k_z using Nat.strongRecOn generalizing z ls with
      | _ k_z ih_z =>
        refine lv_iload_n hx hb d_M_release_29 rfl (lv_at hl 0 rfl) ?_
        refine lv_aload_n hx hb d_M_release_30 rfl (lv_at hl 2 rfl) ?_
        refine rl_get (r := 0) (ci := 4) (v := .int (nI n)) (C := R_M) (T := F_M) (N := 25) hx hb hG in_M hown hK hP (by decide) gM_0 rfl 1 (by decide) kw_582 (fun _ h9 => h9) (show _ = some (Value.int (nI n)) by rw [← hM.1]; rfl) d_M_release_31 ?_
        refine lv_icmp_ge (tgt := 83) hx hb d_M_release_34 (by decide) (fun c_6 => ?_) (fun c_6 => ?_)
        · have hz_z : z = n := nI_exit hle_z c_6 (by omega)
          rw [hz_z] at hl
          refine lv_iconst (v := 0) hx hb d_M_release_83 (by decide) ?_
          refine lv_istore_n (lv' := [(3, .int 0), (2, .int (b2i (∃ j, j < n ∧ τ 5 j = nI a ∧ ¬ τ 8 j = 3 ∧ ¬ τ 8 j = 5))), (0, .ref (ad 0)), (1, .int (nI a))]) hx hb d_M_release_84 rfl hl (by decide) rfl (fun ls hl => ?_)
          refine lv_iconst (v := 0) hx hb d_M_release_85 (by decide) ?_
          refine lv_istore (lv' := [(4, .int 0), (3, .int 0), (2, .int (b2i (∃ j, j < n ∧ τ 5 j = nI a ∧ ¬ τ 8 j = 3 ∧ ¬ τ 8 j = 5))), (0, .ref (ad 0)), (1, .int (nI a))]) hx hb d_M_release_86 hl (by decide) rfl (fun ls hl => ?_)
          replace hl : ∃ y : Nat, lv_has ls 5 [(4, .int (nI y)), (3, .int (b2i (∃ j, j < y ∧ dS τ j = nI a ∧ (τ 21 (4 * j) < 0 ∧ τ 21 (4 * j + 1) < 0 ∧ τ 21 (4 * j + 2) < 0 ∧ τ 21 (4 * j + 3) < 0)))), (2, .int (b2i (∃ j, j < n ∧ τ 5 j = nI a ∧ ¬ τ 8 j = 3 ∧ ¬ τ 8 j = 5))), (0, .ref (ad 0)), (1, .int (nI a))] ∧ y ≤ nm ∧ (0 ≤ y) := ⟨0, (by rw [show b2i (∃ j, j < 0 ∧ dS τ j = nI a ∧ (τ 21 (4 * j) < 0 ∧ τ 21 (4 * j + 1) < 0 ∧ τ 21 (4 * j + 2) < 0 ∧ τ 21 (4 * j + 3) < 0)) = 0 from b2i_f (fun ⟨j, hj, _⟩ => Nat.not_lt_zero j hj)]; exact lv_sub hl [0, 1, 2, 3, 4] rfl), Nat.zero_le _, Nat.zero_le _⟩
          obtain ⟨y, hl, hle_y, hinv_y⟩ := hl
          obtain ⟨k_y, hk_y⟩ : ∃ k, nm - y = k := ⟨_, rfl⟩
          induction k_y using Nat.strongRecOn generalizing y ls with
          | _ k_y ih_y =>
            refine lv_iload hx hb d_M_release_88 (lv_at hl 0 rfl) ?_
            refine lv_aload_n hx hb d_M_release_90 rfl (lv_at hl 3 rfl) ?_
            refine rl_get (r := 0) (ci := 4) (v := .int (nI nm)) (C := R_M) (T := F_M) (N := 25) hx hb hG in_M hown hK hP (by decide) gM_0 rfl 2 (by decide) kw_583 (fun _ h9 => h9) (show _ = some (Value.int (nI nm)) by rw [← hM.2.1]; rfl) d_M_release_91 ?_
            refine lv_icmp_ge (tgt := 132) hx hb d_M_release_94 (by decide) (fun c_7 => ?_) (fun c_7 => ?_)
            · have hz_y : y = nm := nI_exit hle_y c_7 (by omega)
              rw [hz_y] at hl
              refine lv_iload_n hx hb d_M_release_132 rfl (lv_at hl 2 rfl) ?_
              refine lv_if_eq (tgt := 140) hx hb d_M_release_133 (by decide) (fun c_8 => ?_) (fun c_8 => ?_)
              · refine lv_aload_n hx hb d_M_release_140 rfl (lv_at hl 3 rfl) ?_
                refine rl_get (r := 0) (ci := 4) (v := .ref (ad 16)) (C := R_M) (T := F_M) (N := 25) hx hb hG in_M hown hK hP (by decide) gM_0 rfl 16 (by decide) kw_597 (fun _ h9 => h9) rfl d_M_release_141 ?_
                refine lv_iload_n hx hb d_M_release_144 rfl (lv_at hl 4 rfl) ?_
                refine rl_zald (r := 16) (i := nI a) (n := 10) hx hb hK hP (by decide) 1 rfl rfl (vp_in_nI (by omega) (by decide)) d_M_release_145 ?_
                rw [nI_clamp (by omega)]
                refine W.eq (g2 := F0 m 146 ls [.int (τ 16 a)]) rfl ?_
                refine lv_if_eq (tgt := 153) hx hb d_M_release_146 (by decide) (fun c_9 => ?_) (fun c_9 => ?_)
                · refine lv_aload_n hx hb d_M_release_153 rfl (lv_at hl 3 rfl) ?_
                  refine rl_get (r := 0) (ci := 4) (v := .ref (ad 17)) (C := R_M) (T := F_M) (N := 25) hx hb hG in_M hown hK hP (by decide) gM_0 rfl 17 (by decide) kw_598 (fun _ h9 => h9) rfl d_M_release_154 ?_
                  refine lv_iload_n hx hb d_M_release_157 rfl (lv_at hl 4 rfl) ?_
                  refine rl_iald (r := 17) (i := nI a) (n := 10) hx hb hK hP (by decide) 0 rfl rfl (vp_in_nI (by omega) (by decide)) d_M_release_158 ?_
                  rw [nI_clamp (by omega)]
                  refine W.eq (g2 := F0 m 159 ls [.int (τ 17 a)]) rfl ?_
                  refine lv_if_eq (tgt := 166) hx hb d_M_release_159 (by decide) (fun c_10 => ?_) (fun c_10 => ?_)
                  · refine lv_iload_n hx hb d_M_release_166 rfl (lv_at hl 1 rfl) ?_
                    refine lv_if_eq (tgt := 174) hx hb d_M_release_167 (by decide) (fun c_11 => ?_) (fun c_11 => ?_)
                    · refine lv_aload_n hx hb d_M_release_174 rfl (lv_at hl 3 rfl) ?_
                      refine lv_iload_n hx hb d_M_release_175 rfl (lv_at hl 4 rfl) ?_
                      refine lv_iconst (v := 0) hx hb d_M_release_176 (by decide) ?_
                      refine vp_callSi (W.runV (As := [.int (nI a), .int 0]) (rest := []) ⟨hx, hb, hml, hown, hts⟩ (c_M_great l D cs ad (su τ 0 0 0) n nm (Mv_0 hM) (nI a) 0) (cwV 2 hts (gw_V kw_746 kw_748 ks_1_7 kw_6 kw_749) rfl rfl rfl (by decide +kernel) ⟨Nat.le_of_ble_eq_true rfl, Nat.le_of_ble_eq_true rfl⟩) (rd_V hP hK (rl_recv hK hP (by decide) gM_0 rfl)) rfl rfl hl.1 rfl (lv_room (Nat.le_of_ble_eq_true rfl)) d_M_release_177 ⟨Nat.zero_le _, Nat.zero_le _⟩) (fun r_12 h_13 => ?_)
                      subst h_13
                      rw [grM_0]
                      refine lv_if_le (tgt := 187) hx hb d_M_release_180 (by decide) (fun c_14 => ?_) (fun c_14 => ?_)
                      · refine lv_iconst (v := 0) hx hb d_M_release_187 (by decide) ?_
                        exact W.iret (v := 0) hx hb hr (fun t ht hW => ⟨⟨0, su τ 0 0 0, rfl, Or.inr ⟨a, ha, rfl, (by rw [ifP_f (b2i_eq0.mp c_8), ifP_f (fun h9 => h9 c_9), ifP_f (fun h9 => h9 c_10), ifP_f (b2i_eq0.mp c_11), ifP_f (Int32.not_lt.mpr c_14)]), rfl⟩, by rw [ht]; exact hP, va_K.moved hW.alike hK, hD⟩, hS.F ht⟩) hS.2.2 d_M_release_188
                      · refine lv_iconst (v := 5) hx hb d_M_release_183 (by decide) ?_
                        refine lv_goto (tgt := 188) hx hb d_M_release_184 (by decide) ?_
                        exact W.iret (v := 5) hx hb hr (fun t ht hW => ⟨⟨5, su τ 0 0 0, rfl, Or.inr ⟨a, ha, rfl, (by rw [ifP_f (b2i_eq0.mp c_8), ifP_f (fun h9 => h9 c_9), ifP_f (fun h9 => h9 c_10), ifP_f (b2i_eq0.mp c_11), ifP_t (Int32.not_le.mp c_14)]), rfl⟩, by rw [ht]; exact hP, va_K.moved hW.alike hK, hD⟩, hS.F ht⟩) hS.2.2 d_M_release_188
                    · refine lv_iconst (v := 4) hx hb d_M_release_170 (by decide) ?_
                      refine lv_goto (tgt := 188) hx hb d_M_release_171 (by decide) ?_
                      exact W.iret (v := 4) hx hb hr (fun t ht hW => ⟨⟨4, su τ 0 0 0, rfl, Or.inr ⟨a, ha, rfl, (by rw [ifP_f (b2i_eq0.mp c_8), ifP_f (fun h9 => h9 c_9), ifP_f (fun h9 => h9 c_10), ifP_t (Classical.not_not.mp (fun h => c_11 (b2i_eq0.mpr h)))]), rfl⟩, by rw [ht]; exact hP, va_K.moved hW.alike hK, hD⟩, hS.F ht⟩) hS.2.2 d_M_release_188
                  · refine lv_iconst (v := 3) hx hb d_M_release_162 (by decide) ?_
                    refine lv_goto (tgt := 188) hx hb d_M_release_163 (by decide) ?_
                    exact W.iret (v := 3) hx hb hr (fun t ht hW => ⟨⟨3, su τ 0 0 0, rfl, Or.inr ⟨a, ha, rfl, (by rw [ifP_f (b2i_eq0.mp c_8), ifP_f (fun h9 => h9 c_9), ifP_t c_10]), rfl⟩, by rw [ht]; exact hP, va_K.moved hW.alike hK, hD⟩, hS.F ht⟩) hS.2.2 d_M_release_188
                · refine lv_iconst (v := 2) hx hb d_M_release_149 (by decide) ?_
                  refine lv_goto (tgt := 188) hx hb d_M_release_150 (by decide) ?_
                  exact W.iret (v := 2) hx hb hr (fun t ht hW => ⟨⟨2, su τ 0 0 0, rfl, Or.inr ⟨a, ha, rfl, (by rw [ifP_f (b2i_eq0.mp c_8), ifP_t c_9]), rfl⟩, by rw [ht]; exact hP, va_K.moved hW.alike hK, hD⟩, hS.F ht⟩) hS.2.2 d_M_release_188
              · refine lv_iconst (v := 1) hx hb d_M_release_136 (by decide) ?_
                refine lv_goto (tgt := 188) hx hb d_M_release_137 (by decide) ?_
                exact W.iret (v := 1) hx hb hr (fun t ht hW => ⟨⟨1, su τ 0 0 0, rfl, Or.inr ⟨a, ha, rfl, (by rw [ifP_t (Classical.not_not.mp (fun h => c_8 (b2i_eq0.mpr h)))]), rfl⟩, by rw [ht]; exact hP, va_K.moved hW.alike hK, hD⟩, hS.F ht⟩) hS.2.2 d_M_release_188
            · have hlt_y : y < nm := nI_go hle_y c_7 (by omega)
              refine lv_iload_n hx hb d_M_release_97 rfl (lv_at hl 1 rfl) ?_
              refine lv_if_ne (tgt := 120) hx hb d_M_release_98 (by decide) (fun c_15 => ?_) (fun c_15 => ?_)
              · refine lv_iconst (v := 1) hx hb d_M_release_120 (by decide) ?_
                refine lv_goto (tgt := 125) hx hb d_M_release_121 (by decide) ?_
                refine lv_istore_n (lv' := [(3, .int 1), (4, .int (nI y)), (2, .int (b2i (∃ j, j < n ∧ τ 5 j = nI a ∧ ¬ τ 8 j = 3 ∧ ¬ τ 8 j = 5))), (0, .ref (ad 0)), (1, .int (nI a))]) hx hb d_M_release_125 rfl hl (by decide) rfl (fun ls hl => ?_)
                refine lv_iinc (v := nI (y + 1)) (lv' := [(4, .int (nI (y + 1))), (3, .int 1), (2, .int (b2i (∃ j, j < n ∧ τ 5 j = nI a ∧ ¬ τ 8 j = 3 ∧ ¬ τ 8 j = 5))), (0, .ref (ad 0)), (1, .int (nI a))]) hx hb d_M_release_126 hl (k := 1) rfl (by first | exact nI_1 _ | rfl) (by decide) rfl (fun ls hl => ?_)
                refine lv_goto (tgt := 88) hx hb d_M_release_129 (by decide) ?_
                exact ih_y (nm - (y + 1)) (by omega) ls (y + 1) (by rw [show b2i (∃ j, j < (y + 1) ∧ dS τ j = nI a ∧ (τ 21 (4 * j) < 0 ∧ τ 21 (4 * j + 1) < 0 ∧ τ 21 (4 * j + 2) < 0 ∧ τ 21 (4 * j + 3) < 0)) = 1 from b2i_t (let ⟨j, hj, h9⟩ := Classical.not_not.mp (fun h => c_15 (b2i_eq0.mpr h)); ⟨j, by omega, h9⟩)]; exact (lv_sub hl [0, 1, 2, 3, 4] rfl)) hlt_y (Nat.zero_le _) rfl
              · refine lv_aload_n hx hb d_M_release_101 rfl (lv_at hl 3 rfl) ?_
                refine lv_iload hx hb d_M_release_102 (lv_at hl 0 rfl) ?_
                refine lv_iload_n hx hb d_M_release_104 rfl (lv_at hl 4 rfl) ?_
                refine vp_callSi (W.runV (As := [.int (nI y), .int (nI a)]) (rest := []) ⟨hx, hb, hml, hown, hts⟩ (c_M_isOf l D cs ad (su τ 0 0 0) n nm (Mv_0 hM) y hlt_y (nI a)) (cwV 2 hts (gw_V kw_750 kw_752 ks_1_8 kw_6 kw_753) rfl rfl rfl (by decide +kernel) ⟨Nat.le_of_ble_eq_true rfl, Nat.le_of_ble_eq_true rfl⟩) (rd_V hP hK (rl_recv hK hP (by decide) gM_0 rfl)) rfl rfl hl.1 rfl (lv_room (Nat.le_of_ble_eq_true rfl)) d_M_release_105 ⟨Nat.zero_le _, Nat.zero_le _⟩) (fun r_16 h_17 => ?_)
                subst h_17
                refine W.eq (g2 := F0 m 108 ls [.int (b2i (dS τ y = (nI a)))]) rfl ?_
                refine lv_if_eq (tgt := 124) hx hb d_M_release_108 (by decide) (fun c_18 => ?_) (fun c_18 => ?_)
                · refine lv_iconst (v := 0) hx hb d_M_release_124 (by decide) ?_
                  refine lv_istore_n (lv' := [(3, .int 0), (4, .int (nI y)), (2, .int (b2i (∃ j, j < n ∧ τ 5 j = nI a ∧ ¬ τ 8 j = 3 ∧ ¬ τ 8 j = 5))), (0, .ref (ad 0)), (1, .int (nI a))]) hx hb d_M_release_125 rfl hl (by decide) rfl (fun ls hl => ?_)
                  refine lv_iinc (v := nI (y + 1)) (lv' := [(4, .int (nI (y + 1))), (3, .int 0), (2, .int (b2i (∃ j, j < n ∧ τ 5 j = nI a ∧ ¬ τ 8 j = 3 ∧ ¬ τ 8 j = 5))), (0, .ref (ad 0)), (1, .int (nI a))]) hx hb d_M_release_126 hl (k := 1) rfl (by first | exact nI_1 _ | rfl) (by decide) rfl (fun ls hl => ?_)
                  refine lv_goto (tgt := 88) hx hb d_M_release_129 (by decide) ?_
                  exact ih_y (nm - (y + 1)) (by omega) ls (y + 1) (by rw [show b2i (∃ j, j < (y + 1) ∧ dS τ j = nI a ∧ (τ 21 (4 * j) < 0 ∧ τ 21 (4 * j + 1) < 0 ∧ τ 21 (4 * j + 2) < 0 ∧ τ 21 (4 * j + 3) < 0)) = 0 from b2i_f (fun ⟨j, hj, h9⟩ => (Nat.lt_succ_iff_lt_or_eq.mp hj).elim (fun h8 => (b2i_eq0.mp c_15) ⟨j, h8, h9⟩) (fun e9 => by subst e9; exact (b2i_eq0.mp c_18) h9.1))]; exact (lv_sub hl [0, 1, 2, 3, 4] rfl)) hlt_y (Nat.zero_le _) rfl
                · refine lv_aload_n hx hb d_M_release_111 rfl (lv_at hl 3 rfl) ?_
                  refine lv_iload hx hb d_M_release_112 (lv_at hl 0 rfl) ?_
                  refine vp_callSi (W.runV (As := [.int (nI y)]) (rest := []) ⟨hx, hb, hml, hown, hts⟩ (c_M_hasNoResult l D cs ad (su τ 0 0 0) n nm (Mv_0 hM) y (by omega)) (cwV 1 hts (gw_V kw_762 kw_764 ks_1_9 kw_6 kw_765) rfl rfl rfl (by decide +kernel) ⟨Nat.le_of_ble_eq_true rfl, Nat.le_of_ble_eq_true rfl⟩) (rd_V hP hK (rl_recv hK hP (by decide) gM_0 rfl)) rfl rfl hl.1 rfl (lv_room (Nat.le_of_ble_eq_true rfl)) d_M_release_114 ⟨Nat.zero_le _, Nat.zero_le _⟩) (fun r_19 h_20 => ?_)
                  subst h_20
                  refine W.eq (g2 := F0 m 117 ls [.int (b2i (τ 21 (4 * y) < 0 ∧ τ 21 (4 * y + 1) < 0 ∧ τ 21 (4 * y + 2) < 0 ∧ τ 21 (4 * y + 3) < 0))]) rfl ?_
                  refine lv_if_eq (tgt := 124) hx hb d_M_release_117 (by decide) (fun c_21 => ?_) (fun c_21 => ?_)
                  · refine lv_iconst (v := 0) hx hb d_M_release_124 (by decide) ?_
                    refine lv_istore_n (lv' := [(3, .int 0), (4, .int (nI y)), (2, .int (b2i (∃ j, j < n ∧ τ 5 j = nI a ∧ ¬ τ 8 j = 3 ∧ ¬ τ 8 j = 5))), (0, .ref (ad 0)), (1, .int (nI a))]) hx hb d_M_release_125 rfl hl (by decide) rfl (fun ls hl => ?_)
                    refine lv_iinc (v := nI (y + 1)) (lv' := [(4, .int (nI (y + 1))), (3, .int 0), (2, .int (b2i (∃ j, j < n ∧ τ 5 j = nI a ∧ ¬ τ 8 j = 3 ∧ ¬ τ 8 j = 5))), (0, .ref (ad 0)), (1, .int (nI a))]) hx hb d_M_release_126 hl (k := 1) rfl (by first | exact nI_1 _ | rfl) (by decide) rfl (fun ls hl => ?_)
                    refine lv_goto (tgt := 88) hx hb d_M_release_129 (by decide) ?_
                    exact ih_y (nm - (y + 1)) (by omega) ls (y + 1) (by rw [show b2i (∃ j, j < (y + 1) ∧ dS τ j = nI a ∧ (τ 21 (4 * j) < 0 ∧ τ 21 (4 * j + 1) < 0 ∧ τ 21 (4 * j + 2) < 0 ∧ τ 21 (4 * j + 3) < 0)) = 0 from b2i_f (fun ⟨j, hj, h9⟩ => (Nat.lt_succ_iff_lt_or_eq.mp hj).elim (fun h8 => (b2i_eq0.mp c_15) ⟨j, h8, h9⟩) (fun e9 => by subst e9; exact (b2i_eq0.mp c_21) h9.2))]; exact (lv_sub hl [0, 1, 2, 3, 4] rfl)) hlt_y (Nat.zero_le _) rfl
                  · refine lv_iconst (v := 1) hx hb d_M_release_120 (by decide) ?_
                    refine lv_goto (tgt := 125) hx hb d_M_release_121 (by decide) ?_
                    refine lv_istore_n (lv' := [(3, .int 1), (4, .int (nI y)), (2, .int (b2i (∃ j, j < n ∧ τ 5 j = nI a ∧ ¬ τ 8 j = 3 ∧ ¬ τ 8 j = 5))), (0, .ref (ad 0)), (1, .int (nI a))]) hx hb d_M_release_125 rfl hl (by decide) rfl (fun ls hl => ?_)
                    refine lv_iinc (v := nI (y + 1)) (lv' := [(4, .int (nI (y + 1))), (3, .int 1), (2, .int (b2i (∃ j, j < n ∧ τ 5 j = nI a ∧ ¬ τ 8 j = 3 ∧ ¬ τ 8 j = 5))), (0, .ref (ad 0)), (1, .int (nI a))]) hx hb d_M_release_126 hl (k := 1) rfl (by first | exact nI_1 _ | rfl) (by decide) rfl (fun ls hl => ?_)
                    refine lv_goto (tgt := 88) hx hb d_M_release_129 (by decide) ?_
                    exact ih_y (nm - (y + 1)) (by omega) ls (y + 1) (by rw [show b2i (∃ j, j < (y + 1) ∧ dS τ j = nI a ∧ (τ 21 (4 * j) < 0 ∧ τ 21 (4 * j + 1) < 0 ∧ τ 21 (4 * j + 2) < 0 ∧ τ 21 (4 * j + 3) < 0)) = 1 from b2i_t ⟨y, by omega, Classical.not_not.mp (fun h => c_18 (b2i_eq0.mpr h)), Classical.not_not.mp (fun h => c_21 (b2i_eq0.mpr h))⟩]; exact (lv_sub hl [0, 1, 2, 3, 4] rfl)) hlt_y (Nat.zero_le _) rfl
        · have hlt_z : z < n := nI_go hle_z c_6 (by omega)
          refine lv_iload_n hx hb d_M_release_37 rfl (lv_at hl 1 rfl) ?_
          refine lv_if_ne (tgt := 71) hx hb d_M_release_38 (by decide) (fun c_22 => ?_) (fun c_22 => ?_)
          · refine lv_iconst (v := 1) hx hb d_M_release_71 (by decide) ?_
            refine lv_goto (tgt := 76) hx hb d_M_release_72 (by decide) ?_
            refine lv_istore_n (lv' := [(2, .int 1), (3, .int (nI z)), (0, .ref (ad 0)), (1, .int (nI a))]) hx hb d_M_release_76 rfl hl (by decide) rfl (fun ls hl => ?_)
            refine lv_iinc (v := nI (z + 1)) (lv' := [(3, .int (nI (z + 1))), (2, .int 1), (0, .ref (ad 0)), (1, .int (nI a))]) hx hb d_M_release_77 hl (k := 1) rfl (by first | exact nI_1 _ | rfl) (by decide) rfl (fun ls hl => ?_)
            refine lv_goto (tgt := 29) hx hb d_M_release_80 (by decide) ?_
            exact ih_z (n - (z + 1)) (by omega) ls (z + 1) (by rw [show b2i (∃ j, j < (z + 1) ∧ τ 5 j = nI a ∧ ¬ τ 8 j = 3 ∧ ¬ τ 8 j = 5) = 1 from b2i_t (let ⟨j, hj, h9⟩ := Classical.not_not.mp (fun h => c_22 (b2i_eq0.mpr h)); ⟨j, by omega, h9⟩)]; exact (lv_sub hl [0, 1, 2, 3] rfl)) hlt_z (Nat.zero_le _) rfl
          · refine lv_aload_n hx hb d_M_release_41 rfl (lv_at hl 2 rfl) ?_
            refine rl_get (r := 0) (ci := 4) (v := .ref (ad 5)) (C := R_M) (T := F_M) (N := 25) hx hb hG in_M hown hK hP (by decide) gM_0 rfl 5 (by decide) kw_586 (fun _ h9 => h9) rfl d_M_release_42 ?_
            refine lv_iload_n hx hb d_M_release_45 rfl (lv_at hl 0 rfl) ?_
            refine rl_iald (r := 5) (i := nI z) (n := 30) hx hb hK hP (by decide) 0 rfl rfl (vp_in_nI (by omega) (by decide)) d_M_release_46 ?_
            rw [nI_clamp (by omega)]
            refine W.eq (g2 := F0 m 47 ls [.int (τ 5 z)]) rfl ?_
            refine lv_iload_n hx hb d_M_release_47 rfl (lv_at hl 3 rfl) ?_
            refine lv_icmp_ne (tgt := 75) hx hb d_M_release_48 (by decide) (fun c_23 => ?_) (fun c_23 => ?_)
            · refine lv_iconst (v := 0) hx hb d_M_release_75 (by decide) ?_
              refine lv_istore_n (lv' := [(2, .int 0), (3, .int (nI z)), (0, .ref (ad 0)), (1, .int (nI a))]) hx hb d_M_release_76 rfl hl (by decide) rfl (fun ls hl => ?_)
              refine lv_iinc (v := nI (z + 1)) (lv' := [(3, .int (nI (z + 1))), (2, .int 0), (0, .ref (ad 0)), (1, .int (nI a))]) hx hb d_M_release_77 hl (k := 1) rfl (by first | exact nI_1 _ | rfl) (by decide) rfl (fun ls hl => ?_)
              refine lv_goto (tgt := 29) hx hb d_M_release_80 (by decide) ?_
              exact ih_z (n - (z + 1)) (by omega) ls (z + 1) (by rw [show b2i (∃ j, j < (z + 1) ∧ τ 5 j = nI a ∧ ¬ τ 8 j = 3 ∧ ¬ τ 8 j = 5) = 0 from b2i_f (fun ⟨j, hj, h9⟩ => (Nat.lt_succ_iff_lt_or_eq.mp hj).elim (fun h8 => (b2i_eq0.mp c_22) ⟨j, h8, h9⟩) (fun e9 => by subst e9; exact c_23 h9.1))]; exact (lv_sub hl [0, 1, 2, 3] rfl)) hlt_z (Nat.zero_le _) rfl
            · refine lv_aload_n hx hb d_M_release_51 rfl (lv_at hl 2 rfl) ?_
              refine rl_get (r := 0) (ci := 4) (v := .ref (ad 8)) (C := R_M) (T := F_M) (N := 25) hx hb hG in_M hown hK hP (by decide) gM_0 rfl 8 (by decide) kw_589 (fun _ h9 => h9) rfl d_M_release_52 ?_
              refine lv_iload_n hx hb d_M_release_55 rfl (lv_at hl 0 rfl) ?_
              refine rl_iald (r := 8) (i := nI z) (n := 30) hx hb hK hP (by decide) 0 rfl rfl (vp_in_nI (by omega) (by decide)) d_M_release_56 ?_
              rw [nI_clamp (by omega)]
              refine W.eq (g2 := F0 m 57 ls [.int (τ 8 z)]) rfl ?_
              refine lv_iconst (v := 3) hx hb d_M_release_57 (by decide) ?_
              refine lv_icmp_eq (tgt := 75) hx hb d_M_release_58 (by decide) (fun c_24 => ?_) (fun c_24 => ?_)
              · refine lv_iconst (v := 0) hx hb d_M_release_75 (by decide) ?_
                refine lv_istore_n (lv' := [(2, .int 0), (3, .int (nI z)), (0, .ref (ad 0)), (1, .int (nI a))]) hx hb d_M_release_76 rfl hl (by decide) rfl (fun ls hl => ?_)
                refine lv_iinc (v := nI (z + 1)) (lv' := [(3, .int (nI (z + 1))), (2, .int 0), (0, .ref (ad 0)), (1, .int (nI a))]) hx hb d_M_release_77 hl (k := 1) rfl (by first | exact nI_1 _ | rfl) (by decide) rfl (fun ls hl => ?_)
                refine lv_goto (tgt := 29) hx hb d_M_release_80 (by decide) ?_
                exact ih_z (n - (z + 1)) (by omega) ls (z + 1) (by rw [show b2i (∃ j, j < (z + 1) ∧ τ 5 j = nI a ∧ ¬ τ 8 j = 3 ∧ ¬ τ 8 j = 5) = 0 from b2i_f (fun ⟨j, hj, h9⟩ => (Nat.lt_succ_iff_lt_or_eq.mp hj).elim (fun h8 => (b2i_eq0.mp c_22) ⟨j, h8, h9⟩) (fun e9 => by subst e9; exact h9.2.1 c_24))]; exact (lv_sub hl [0, 1, 2, 3] rfl)) hlt_z (Nat.zero_le _) rfl
              · refine lv_aload_n hx hb d_M_release_61 rfl (lv_at hl 2 rfl) ?_
                refine rl_get (r := 0) (ci := 4) (v := .ref (ad 8)) (C := R_M) (T := F_M) (N := 25) hx hb hG in_M hown hK hP (by decide) gM_0 rfl 8 (by decide) kw_589 (fun _ h9 => h9) rfl d_M_release_62 ?_
                refine lv_iload_n hx hb d_M_release_65 rfl (lv_at hl 0 rfl) ?_
                refine rl_iald (r := 8) (i := nI z) (n := 30) hx hb hK hP (by decide) 0 rfl rfl (vp_in_nI (by omega) (by decide)) d_M_release_66 ?_
                rw [nI_clamp (by omega)]
                refine W.eq (g2 := F0 m 67 ls [.int (τ 8 z)]) rfl ?_
                refine lv_iconst (v := 5) hx hb d_M_release_67 (by decide) ?_
                refine lv_icmp_eq (tgt := 75) hx hb d_M_release_68 (by decide) (fun c_25 => ?_) (fun c_25 => ?_)
                · refine lv_iconst (v := 0) hx hb d_M_release_75 (by decide) ?_
                  refine lv_istore_n (lv' := [(2, .int 0), (3, .int (nI z)), (0, .ref (ad 0)), (1, .int (nI a))]) hx hb d_M_release_76 rfl hl (by decide) rfl (fun ls hl => ?_)
                  refine lv_iinc (v := nI (z + 1)) (lv' := [(3, .int (nI (z + 1))), (2, .int 0), (0, .ref (ad 0)), (1, .int (nI a))]) hx hb d_M_release_77 hl (k := 1) rfl (by first | exact nI_1 _ | rfl) (by decide) rfl (fun ls hl => ?_)
                  refine lv_goto (tgt := 29) hx hb d_M_release_80 (by decide) ?_
                  exact ih_z (n - (z + 1)) (by omega) ls (z + 1) (by rw [show b2i (∃ j, j < (z + 1) ∧ τ 5 j = nI a ∧ ¬ τ 8 j = 3 ∧ ¬ τ 8 j = 5) = 0 from b2i_f (fun ⟨j, hj, h9⟩ => (Nat.lt_succ_iff_lt_or_eq.mp hj).elim (fun h8 => (b2i_eq0.mp c_22) ⟨j, h8, h9⟩) (fun e9 => by subst e9; exact h9.2.2 c_25))]; exact (lv_sub hl [0, 1, 2, 3] rfl)) hlt_z (Nat.zero_le _) rfl
                · refine lv_iconst (v := 1) hx hb d_M_release_71 (by decide) ?_
                  refine lv_goto (tgt := 76) hx hb d_M_release_72 (by decide) ?_
                  refine lv_istore_n (lv' := [(2, .int 1), (3, .int (nI z)), (0, .ref (ad 0)), (1, .int (nI a))]) hx hb d_M_release_76 rfl hl (by decide) rfl (fun ls hl => ?_)
                  refine lv_iinc (v := nI (z + 1)) (lv' := [(3, .int (nI (z + 1))), (2, .int 1), (0, .ref (ad 0)), (1, .int (nI a))]) hx hb d_M_release_77 hl (k := 1) rfl (by first | exact nI_1 _ | rfl) (by decide) rfl (fun ls hl => ?_)
                  refine lv_goto (tgt := 29) hx hb d_M_release_80 (by decide) ?_
                  exact ih_z (n - (z + 1)) (by omega) ls (z + 1) (by rw [show b2i (∃ j, j < (z + 1) ∧ τ 5 j = nI a ∧ ¬ τ 8 j = 3 ∧ ¬ τ 8 j = 5) = 1 from b2i_t ⟨z, by omega, c_23, c_24, c_25⟩]; exact (lv_sub hl [0, 1, 2, 3] rfl)) hlt_z (Nat.zero_le _) rfl
    · exact absurd (by decide) c_5
