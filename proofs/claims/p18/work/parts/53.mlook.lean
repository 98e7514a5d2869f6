theorem atG {p : Int32} {n : Nat} (hn : n < 2 ^ 31) (h1 : ¬ p < 0) (h2 : ¬ nI n ≤ p) : ∃ a : Nat, a < n ∧ p = nI a := by
  obtain ⟨q, hq, e⟩ := nI_of h1
  subst e
  exact ⟨q, Nat.not_le.mp (fun h => h2 (nI_le h hq)), rfl⟩
def lkM (τ : Nat → Nat → Int32) (nm i : Nat) (w : Int32) : Int32 := if w = 0 then τ 5 i else if w = 1 then τ 6 i else if w = 2 then τ 8 i else if w = 3 then τ 9 i else if w = 4 then (if τ 8 i = 1 ∨ τ 8 i = 2 then τ 10 i else -1) else if w = 5 then (if τ 8 i = 1 ∨ τ 8 i = 2 then τ 11 i else -1) else if w = 6 then (if τ 8 i = 1 ∨ τ 8 i = 2 then τ 12 i else -1) else if w = 7 then τ 13 i else smM τ (nI i) nm
def cnM (τ : Nat → Nat → Int32) (n nm : Nat) (p : Int32) : Int32 := if 10 ≤ p ∧ p < 50 then (if p < 20 then (if τ 16 (p - p / 10 * 10).toNatClampNeg = 0 then τ 15 (p - p / 10 * 10).toNatClampNeg else -1) else if p < 30 then τ 17 (p - p / 10 * 10).toNatClampNeg else if p < 40 then coM τ nm (p - p / 10 * 10) n else grM τ (p - p / 10 * 10) 1 (4 * nm)) else if p = 0 then nI n else if p = 1 then nI nm else if p = 2 then τ 0 3 else -1
theorem m10_dec : ∀ c : Nat, c < 50 → 0 ≤ (nI c - nI c / 10 * 10).toInt ∧ (nI c - nI c / 10 * 10).toInt < 10 := by decide +kernel
theorem m10_in {p : Int32} (h1 : 10 ≤ p) (h2 : p < 50) : vp_in (p - p / 10 * 10) 10 := by
  rw [i32_le, i32_n10] at h1
  rw [i32_lt, i32_n50] at h2
  obtain ⟨q, hq, e⟩ := nI_of (x := p) (fun h9 => by rw [i32_lt, i32_n0] at h9; omega)
  subst e
  rw [nI_toInt hq] at h1 h2
  exact vp_in_iff.mpr (m10_dec q (by omega))
set_option maxHeartbeats 4000000 in
set_option maxRecDepth 100000 in
theorem c_M_result (l : Launch) (D : va_G) (cs : Nat → ClassId) (ad : Nat → Nat) (τ : Nat → Nat → Int32) (n nm : Nat) (hM : Mv τ n nm) (sz : Nat) (p0 p1 p2 p3 : Int32) : Met l y_M_result (Cond.code y_M_result b_M_result 6 (some .int) :: GW) ({ frames := 2, cells := 0, slots := 0, locals := 64 }) (va_Pc [.ref (ad 0), .int p0, .int p1, .int p2, .int p3] (wr_B D cs (wM cs ad τ) sz)) (va_Qi (fun r (u : Nat → Nat → Int32) => (¬ ((0 ≤ p0 ∧ p0 < nI nm) ∧ (1 ≤ p1 ∧ p1 ≤ 1000000) ∧ (0 ≤ p2 ∧ p2 ≤ 3) ∧ (0 ≤ p3 ∧ p3 ≤ 1000000)) ∧ r = 0 ∧ u = su τ 0 0 1) ∨ ∃ i q, i < nm ∧ q < 4 ∧ p0 = nI i ∧ p2 = nI q ∧ (1 ≤ p1 ∧ p1 ≤ 1000000) ∧ (0 ≤ p3 ∧ p3 ≤ 1000000) ∧ ((¬ slM τ p1 nm = nI i ∧ r = (if slM τ p1 nm < 0 then -3 else -2) ∧ u = su τ 0 0 0) ∨ (slM τ p1 nm = nI i ∧ ¬ τ 21 (4 * i + q) < 0 ∧ r = -1 ∧ u = su τ 0 0 0) ∨ (slM τ p1 nm = nI i ∧ τ 21 (4 * i + q) < 0 ∧ r = dfM (su (su τ 0 0 0) 21 (4 * i + q) p3) i q ∧ u = su (su τ 0 0 0) 21 (4 * i + q) p3))) (fun u => wr_T D cs (wM cs ad u) (va_A (wM cs ad τ) sz)) (va_A (wM cs ad τ) sz)) 0 0 (va_A (wM cs ad τ) sz) := by
  refine Met.ofW (cc := b_M_result) (maxL := 6) (ret := (some .int)) (by decide) rfl ?_
  intro p e s m args below meth c s₁ B hml hv
  obtain ⟨rfl, hsz, hP, hK, hD0⟩ := hv
  have hx := B.exec
  have hb := B.bytes
  have hr := B.returns
  have hts := atoms_spec (ws := Cond.code y_M_result b_M_result 6 (some .int) :: GW) B.pre
  have hG : ∀ w ∈ GW, w.before _ s = true := fun w h => hts w (List.mem_cons_of_mem _ h)
  have hown : s.vm.findClass R_M = some m.cls := findClass_of_methodNamed B.named
  have hlocks := B.notSynchronized
  subst hsz
  have hD := hD0.self (sz := s.heap.size)
  generalize hAe : va_A (wM cs ad τ) s.heap.size = A at hD ⊢
  have hA : ∀ q : Nat, s.heap.size ≤ q → A q := fun q h => by rw [← hAe]; exact Or.inr h
  have hS : va_S A s.heap s.heap [] := va_S.rf
  have hn30 : n ≤ 30 := hM.2.2.1
  have hm40 : nm ≤ 40 := hM.2.2.2.1
  have hl := lv_entry ([.ref (ad 0), .int p0, .int p1, .int p2, .int p3]) (n := 6) (Nat.le_of_ble_eq_true rfl)
  rw [lg_entry_eq]
  generalize (lg_sl ([.ref (ad 0), .int p0, .int p1, .int p2, .int p3]) ++ List.replicate (6 - (lg_sl ([.ref (ad 0), .int p0, .int p1, .int p2, .int p3])).length) Slot.unset).toArray = ls at hl ⊢
  have hl : lv_has ls 6 [(0, .ref (ad 0)), (1, .int p0), (2, .int p1), (3, .int p2), (4, .int p3)] := hl
  refine lv_aload_n hx hb d_M_result_0 rfl (lv_at hl 0 rfl) ?_
  refine lv_iload_n hx hb d_M_result_1 rfl (lv_at hl 1 rfl) ?_
  refine lv_if_lt (tgt := 47) hx hb d_M_result_2 (by decide) (fun c_1 => ?_) (fun c_1 => ?_)
  · refine lv_iconst (v := 1) hx hb d_M_result_47 (by decide) ?_
    refine rl_put (r := 0) (ci := 4) (v := .int 1) (ty := .int) (C := R_M) (T := F_M) (N := 25) hx hb hG in_M T_M T_M_ok n_M hown hK hP hD hS (by decide) gM_0 rfl 0 (by decide) kw_581 (fun _ h9 => h9) rfl (by decide +kernel) rfl rfl (Nat.le_of_ble_eq_true rfl) d_M_result_48 (fun H locs hP hD hS => ?_)
    rw [wM_sc (by decide)] at hP hD
    refine lv_aload_n hx hb d_M_result_51 rfl (lv_at hl 0 rfl) ?_
    refine rl_get (r := 0) (ci := 4) (v := .int 1) (C := R_M) (T := F_M) (N := 25) hx hb hG in_M hown hK hP (by decide) gM_0 rfl 0 (by decide) kw_581 (fun _ h9 => h9) rfl d_M_result_52 ?_
    refine lv_if_le (tgt := 60) hx hb d_M_result_55 (by decide) (fun c_2 => ?_) (fun c_2 => ?_)
    · exact absurd c_2 (by decide)
    · refine lv_iconst (v := 0) hx hb d_M_result_58 (by decide) ?_
      exact W.iret (v := 0) hx hb hr (fun t ht hW => ⟨⟨0, su τ 0 0 1, rfl, Or.inl ⟨fun h9 => by have h8 := h9.1; simp only [i32_eq, i32_lt, i32_le, i32_nm1, i32_n0, i32_n1, i32_n2, i32_n3, i32_n4, i32_n5, i32_n6, i32_n7, i32_n8, i32_n9, i32_n10, i32_n20, i32_n30, i32_n31, i32_n39, i32_n40, i32_n49, i32_n50, i32_n100, i32_n160, i32_n1000, i32_n100000, i32_n1000000] at c_1 h8; omega, rfl, rfl⟩, by rw [ht]; exact hP, va_K.moved hW.alike hK, hD⟩, hS.F ht⟩) hS.2.2 d_M_result_59
  · refine lv_iload_n hx hb d_M_result_5 rfl (lv_at hl 1 rfl) ?_
    refine lv_aload_n hx hb d_M_result_6 rfl (lv_at hl 0 rfl) ?_
    refine rl_get (r := 0) (ci := 4) (v := .int (nI nm)) (C := R_M) (T := F_M) (N := 25) hx hb hG in_M hown hK hP (by decide) gM_0 rfl 2 (by decide) kw_583 (fun _ h9 => h9) (show _ = some (Value.int (nI nm)) by rw [← hM.2.1]; rfl) d_M_result_7 ?_
    refine lv_icmp_ge (tgt := 47) hx hb d_M_result_10 (by decide) (fun c_3 => ?_) (fun c_3 => ?_)
    · refine lv_iconst (v := 1) hx hb d_M_result_47 (by decide) ?_
      refine rl_put (r := 0) (ci := 4) (v := .int 1) (ty := .int) (C := R_M) (T := F_M) (N := 25) hx hb hG in_M T_M T_M_ok n_M hown hK hP hD hS (by decide) gM_0 rfl 0 (by decide) kw_581 (fun _ h9 => h9) rfl (by decide +kernel) rfl rfl (Nat.le_of_ble_eq_true rfl) d_M_result_48 (fun H locs hP hD hS => ?_)
      rw [wM_sc (by decide)] at hP hD
      refine lv_aload_n hx hb d_M_result_51 rfl (lv_at hl 0 rfl) ?_
      refine rl_get (r := 0) (ci := 4) (v := .int 1) (C := R_M) (T := F_M) (N := 25) hx hb hG in_M hown hK hP (by decide) gM_0 rfl 0 (by decide) kw_581 (fun _ h9 => h9) rfl d_M_result_52 ?_
      refine lv_if_le (tgt := 60) hx hb d_M_result_55 (by decide) (fun c_4 => ?_) (fun c_4 => ?_)
      · exact absurd c_4 (by decide)
      · refine lv_iconst (v := 0) hx hb d_M_result_58 (by decide) ?_
        exact W.iret (v := 0) hx hb hr (fun t ht hW => ⟨⟨0, su τ 0 0 1, rfl, Or.inl ⟨fun h9 => by have h8 := h9.1; simp only [i32_eq, i32_lt, i32_le, i32_nm1, i32_n0, i32_n1, i32_n2, i32_n3, i32_n4, i32_n5, i32_n6, i32_n7, i32_n8, i32_n9, i32_n10, i32_n20, i32_n30, i32_n31, i32_n39, i32_n40, i32_n49, i32_n50, i32_n100, i32_n160, i32_n1000, i32_n100000, i32_n1000000] at c_1 c_3 h8; omega, rfl, rfl⟩, by rw [ht]; exact hP, va_K.moved hW.alike hK, hD⟩, hS.F ht⟩) hS.2.2 d_M_result_59
    · obtain ⟨i, hi, rfl⟩ := atG (by omega) c_1 c_3
      refine lv_iload_n hx hb d_M_result_13 rfl (lv_at hl 2 rfl) ?_
      refine lv_iconst (v := 1) hx hb d_M_result_14 (by decide) ?_
      refine lv_ldc (v := 1000000) hx hb hown (hG _ kw_708) d_M_result_15 ?_
      refine vp_callSi (W.runS (As := [.int p1, .int 1, .int 1000000]) (rest := [.ref (ad 0)]) ⟨hx, hb, hml, hown, hts⟩ (c_M_in l p1 1 1000000) (va_cwS 3 hts (gw_S kw_664 kw_665 kw_6 kw_666) rfl rfl rfl (by decide +kernel) ⟨Nat.le_of_ble_eq_true rfl, Nat.le_of_ble_eq_true rfl⟩) ⟨fun _ _ _ _ q => q, fun U _ _ => ⟨rfl, trivial⟩⟩ rfl rfl hl.1 rfl (lv_room (Nat.le_of_ble_eq_true rfl)) d_M_result_17 ⟨Nat.zero_le _, Nat.zero_le _⟩) (fun r_5 h_6 => ?_)
      subst h_6
      refine lv_if_eq (tgt := 47) hx hb d_M_result_20 (by decide) (fun c_7 => ?_) (fun c_7 => ?_)
      · refine lv_iconst (v := 1) hx hb d_M_result_47 (by decide) ?_
        refine rl_put (r := 0) (ci := 4) (v := .int 1) (ty := .int) (C := R_M) (T := F_M) (N := 25) hx hb hG in_M T_M T_M_ok n_M hown hK hP hD hS (by decide) gM_0 rfl 0 (by decide) kw_581 (fun _ h9 => h9) rfl (by decide +kernel) rfl rfl (Nat.le_of_ble_eq_true rfl) d_M_result_48 (fun H locs hP hD hS => ?_)
        rw [wM_sc (by decide)] at hP hD
        refine lv_aload_n hx hb d_M_result_51 rfl (lv_at hl 0 rfl) ?_
        refine rl_get (r := 0) (ci := 4) (v := .int 1) (C := R_M) (T := F_M) (N := 25) hx hb hG in_M hown hK hP (by decide) gM_0 rfl 0 (by decide) kw_581 (fun _ h9 => h9) rfl d_M_result_52 ?_
        refine lv_if_le (tgt := 60) hx hb d_M_result_55 (by decide) (fun c_8 => ?_) (fun c_8 => ?_)
        · exact absurd c_8 (by decide)
        · refine lv_iconst (v := 0) hx hb d_M_result_58 (by decide) ?_
          exact W.iret (v := 0) hx hb hr (fun t ht hW => ⟨⟨0, su τ 0 0 1, rfl, Or.inl ⟨fun h9 => (b2i_eq0.mp c_7) (h9.2.1), rfl, rfl⟩, by rw [ht]; exact hP, va_K.moved hW.alike hK, hD⟩, hS.F ht⟩) hS.2.2 d_M_result_59
      · refine lv_iload_n hx hb d_M_result_23 rfl (lv_at hl 3 rfl) ?_
        refine lv_iconst (v := 0) hx hb d_M_result_24 (by decide) ?_
        refine lv_iconst (v := 3) hx hb d_M_result_25 (by decide) ?_
        refine vp_callSi (W.runS (As := [.int p2, .int 0, .int 3]) (rest := [.ref (ad 0)]) ⟨hx, hb, hml, hown, hts⟩ (c_M_in l p2 0 3) (va_cwS 3 hts (gw_S kw_664 kw_665 kw_6 kw_666) rfl rfl rfl (by decide +kernel) ⟨Nat.le_of_ble_eq_true rfl, Nat.le_of_ble_eq_true rfl⟩) ⟨fun _ _ _ _ q => q, fun U _ _ => ⟨rfl, trivial⟩⟩ rfl rfl hl.1 rfl (lv_room (Nat.le_of_ble_eq_true rfl)) d_M_result_26 ⟨Nat.zero_le _, Nat.zero_le _⟩) (fun r_9 h_10 => ?_)
        subst h_10
        refine lv_if_eq (tgt := 47) hx hb d_M_result_29 (by decide) (fun c_11 => ?_) (fun c_11 => ?_)
        · refine lv_iconst (v := 1) hx hb d_M_result_47 (by decide) ?_
          refine rl_put (r := 0) (ci := 4) (v := .int 1) (ty := .int) (C := R_M) (T := F_M) (N := 25) hx hb hG in_M T_M T_M_ok n_M hown hK hP hD hS (by decide) gM_0 rfl 0 (by decide) kw_581 (fun _ h9 => h9) rfl (by decide +kernel) rfl rfl (Nat.le_of_ble_eq_true rfl) d_M_result_48 (fun H locs hP hD hS => ?_)
          rw [wM_sc (by decide)] at hP hD
          refine lv_aload_n hx hb d_M_result_51 rfl (lv_at hl 0 rfl) ?_
          refine rl_get (r := 0) (ci := 4) (v := .int 1) (C := R_M) (T := F_M) (N := 25) hx hb hG in_M hown hK hP (by decide) gM_0 rfl 0 (by decide) kw_581 (fun _ h9 => h9) rfl d_M_result_52 ?_
          refine lv_if_le (tgt := 60) hx hb d_M_result_55 (by decide) (fun c_12 => ?_) (fun c_12 => ?_)
          · exact absurd c_12 (by decide)
          · refine lv_iconst (v := 0) hx hb d_M_result_58 (by decide) ?_
            exact W.iret (v := 0) hx hb hr (fun t ht hW => ⟨⟨0, su τ 0 0 1, rfl, Or.inl ⟨fun h9 => (b2i_eq0.mp c_11) (h9.2.2.1), rfl, rfl⟩, by rw [ht]; exact hP, va_K.moved hW.alike hK, hD⟩, hS.F ht⟩) hS.2.2 d_M_result_59
        · obtain ⟨q, hq, rfl⟩ := atN (M := 3) (N := 3) (by decide) (Classical.not_not.mp (fun h => c_11 (b2i_eq0.mpr h)))
          refine lv_iload hx hb d_M_result_32 (lv_at hl 4 rfl) ?_
          refine lv_iconst (v := 0) hx hb d_M_result_34 (by decide) ?_
          refine lv_ldc (v := 1000000) hx hb hown (hG _ kw_708) d_M_result_35 ?_
          refine vp_callSi (W.runS (As := [.int p3, .int 0, .int 1000000]) (rest := [.ref (ad 0)]) ⟨hx, hb, hml, hown, hts⟩ (c_M_in l p3 0 1000000) (va_cwS 3 hts (gw_S kw_664 kw_665 kw_6 kw_666) rfl rfl rfl (by decide +kernel) ⟨Nat.le_of_ble_eq_true rfl, Nat.le_of_ble_eq_true rfl⟩) ⟨fun _ _ _ _ q => q, fun U _ _ => ⟨rfl, trivial⟩⟩ rfl rfl hl.1 rfl (lv_room (Nat.le_of_ble_eq_true rfl)) d_M_result_37 ⟨Nat.zero_le _, Nat.zero_le _⟩) (fun r_13 h_14 => ?_)
          subst h_14
          refine lv_if_eq (tgt := 47) hx hb d_M_result_40 (by decide) (fun c_15 => ?_) (fun c_15 => ?_)
          · refine lv_iconst (v := 1) hx hb d_M_result_47 (by decide) ?_
            refine rl_put (r := 0) (ci := 4) (v := .int 1) (ty := .int) (C := R_M) (T := F_M) (N := 25) hx hb hG in_M T_M T_M_ok n_M hown hK hP hD hS (by decide) gM_0 rfl 0 (by decide) kw_581 (fun _ h9 => h9) rfl (by decide +kernel) rfl rfl (Nat.le_of_ble_eq_true rfl) d_M_result_48 (fun H locs hP hD hS => ?_)
            rw [wM_sc (by decide)] at hP hD
            refine lv_aload_n hx hb d_M_result_51 rfl (lv_at hl 0 rfl) ?_
            refine rl_get (r := 0) (ci := 4) (v := .int 1) (C := R_M) (T := F_M) (N := 25) hx hb hG in_M hown hK hP (by decide) gM_0 rfl 0 (by decide) kw_581 (fun _ h9 => h9) rfl d_M_result_52 ?_
            refine lv_if_le (tgt := 60) hx hb d_M_result_55 (by decide) (fun c_16 => ?_) (fun c_16 => ?_)
            · exact absurd c_16 (by decide)
            · refine lv_iconst (v := 0) hx hb d_M_result_58 (by decide) ?_
              exact W.iret (v := 0) hx hb hr (fun t ht hW => ⟨⟨0, su τ 0 0 1, rfl, Or.inl ⟨fun h9 => (b2i_eq0.mp c_15) (h9.2.2.2), rfl, rfl⟩, by rw [ht]; exact hP, va_K.moved hW.alike hK, hD⟩, hS.F ht⟩) hS.2.2 d_M_result_59
          · refine lv_iconst (v := 0) hx hb d_M_result_43 (by decide) ?_
            refine lv_goto (tgt := 48) hx hb d_M_result_44 (by decide) ?_
            refine rl_put (r := 0) (ci := 4) (v := .int 0) (ty := .int) (C := R_M) (T := F_M) (N := 25) hx hb hG in_M T_M T_M_ok n_M hown hK hP hD hS (by decide) gM_0 rfl 0 (by decide) kw_581 (fun _ h9 => h9) rfl (by decide +kernel) rfl rfl (Nat.le_of_ble_eq_true rfl) d_M_result_48 (fun H locs hP hD hS => ?_)
            rw [wM_sc (by decide)] at hP hD
            refine lv_aload_n hx hb d_M_result_51 rfl (lv_at hl 0 rfl) ?_
            refine rl_get (r := 0) (ci := 4) (v := .int 0) (C := R_M) (T := F_M) (N := 25) hx hb hG in_M hown hK hP (by decide) gM_0 rfl 0 (by decide) kw_581 (fun _ h9 => h9) rfl d_M_result_52 ?_
            refine lv_if_le (tgt := 60) hx hb d_M_result_55 (by decide) (fun c_17 => ?_) (fun c_17 => ?_)
            · refine lv_aload_n hx hb d_M_result_60 rfl (lv_at hl 0 rfl) ?_
              refine lv_iload_n hx hb d_M_result_61 rfl (lv_at hl 2 rfl) ?_
              refine vp_callSi (W.runV (As := [.int p1]) (rest := []) ⟨hx, hb, hml, hown, hts⟩ (c_M_sealed l D cs ad (su τ 0 0 0) n nm (Mv_0 hM) p1) (cwV 1 hts (gw_V kw_717 kw_719 ks_1_5 kw_6 kw_720) rfl rfl rfl (by decide +kernel) ⟨Nat.le_of_ble_eq_true rfl, Nat.le_of_ble_eq_true rfl⟩) (rd_V hP hK (rl_recv hK hP (by decide) gM_0 rfl)) rfl rfl hl.1 rfl (lv_room (Nat.le_of_ble_eq_true rfl)) d_M_result_62 ⟨Nat.zero_le _, Nat.zero_le _⟩) (fun r_18 h_19 => ?_)
              subst h_19
              rw [slM_0]
              refine lv_istore (lv' := [(5, .int (slM τ p1 nm)), (0, .ref (ad 0)), (1, .int (nI i)), (2, .int p1), (3, .int (nI q)), (4, .int p3)]) hx hb d_M_result_65 hl (by decide) rfl (fun ls hl => ?_)
              refine lv_iload hx hb d_M_result_67 (lv_at hl 0 rfl) ?_
              refine lv_iload_n hx hb d_M_result_69 rfl (lv_at hl 2 rfl) ?_
              refine lv_icmp_eq (tgt := 86) hx hb d_M_result_70 (by decide) (fun c_20 => ?_) (fun c_20 => ?_)
              · refine lv_aload_n hx hb d_M_result_86 rfl (lv_at hl 1 rfl) ?_
                refine rl_get (r := 0) (ci := 4) (v := .ref (ad 21)) (C := R_M) (T := F_M) (N := 25) hx hb hG in_M hown hK hP (by decide) gM_0 rfl 21 (by decide) kw_602 (fun _ h9 => h9) rfl d_M_result_87 ?_
                refine lv_iconst (v := 4) hx hb d_M_result_90 (by decide) ?_
                refine lv_iload_n hx hb d_M_result_91 rfl (lv_at hl 2 rfl) ?_
                refine lv_imul hx hb d_M_result_92 ?_
                refine lv_iload_n hx hb d_M_result_93 rfl (lv_at hl 4 rfl) ?_
                refine lv_iadd hx hb d_M_result_94 ?_
                rw [ix4]
                refine rl_iald (r := 21) (i := nI (4 * i + q)) (n := 160) hx hb hK hP (by decide) 0 rfl rfl (vp_in_nI (by omega) (by decide)) d_M_result_95 ?_
                rw [nI_clamp (by omega)]
                refine W.eq (g2 := F0 m 96 ls [.int (τ 21 (4 * i + q))]) rfl ?_
                refine lv_if_lt (tgt := 101) hx hb d_M_result_96 (by decide) (fun c_21 => ?_) (fun c_21 => ?_)
                · refine lv_aload_n hx hb d_M_result_101 rfl (lv_at hl 1 rfl) ?_
                  refine rl_get (r := 0) (ci := 4) (v := .ref (ad 21)) (C := R_M) (T := F_M) (N := 25) hx hb hG in_M hown hK hP (by decide) gM_0 rfl 21 (by decide) kw_602 (fun _ h9 => h9) rfl d_M_result_102 ?_
                  refine lv_iconst (v := 4) hx hb d_M_result_105 (by decide) ?_
                  refine lv_iload_n hx hb d_M_result_106 rfl (lv_at hl 2 rfl) ?_
                  refine lv_imul hx hb d_M_result_107 ?_
                  refine lv_iload_n hx hb d_M_result_108 rfl (lv_at hl 4 rfl) ?_
                  refine lv_iadd hx hb d_M_result_109 ?_
                  refine lv_iload hx hb d_M_result_110 (lv_at hl 5 rfl) ?_
                  rw [ix4]
                  refine rl_iast (r := 21) (i := nI (4 * i + q)) (x := p3) (n := 160) hx hb hK hP hD hS (by decide) 0 rfl rfl (vp_in_nI (by omega) (by decide)) d_M_result_112 (fun H locs hP hD hS => ?_)
                  rw [nI_clamp (by omega)] at hP hD
                  rw [show rl_w RM ad (va_up (gM cs ad (su τ 0 0 0)) 21 (arI (clM cs 21) 160 (upd ((su τ 0 0 0) 21) (4 * i + q) p3))) = wM cs ad (su (su τ 0 0 0) 21 (4 * i + q) p3) from wM_arr (r := 21) (by decide)] at hP hD
                  refine lv_aload_n hx hb d_M_result_113 rfl (lv_at hl 1 rfl) ?_
                  refine lv_iload_n hx hb d_M_result_114 rfl (lv_at hl 2 rfl) ?_
                  refine lv_iload_n hx hb d_M_result_115 rfl (lv_at hl 4 rfl) ?_
                  refine vp_callSi (W.runV (As := [.int (nI i), .int (nI q)]) (rest := []) ⟨hx, hb, hml, hown, hts⟩ (c_M_differs l D cs ad (su (su τ 0 0 0) 21 (4 * i + q) p3) n nm (Mv_k (Mv_0 hM) (by decide)) i q hi hq) (cwV 2 hts (gw_V kw_725 kw_727 ks_1_6 kw_6 kw_728) rfl rfl rfl (by decide +kernel) ⟨Nat.le_of_ble_eq_true rfl, Nat.le_of_ble_eq_true rfl⟩) (rd_V hP hK (rl_recv hK hP (by decide) gM_0 rfl)) rfl rfl hl.1 rfl (lv_room (Nat.le_of_ble_eq_true rfl)) d_M_result_116 ⟨Nat.zero_le _, Nat.zero_le _⟩) (fun r_22 h_23 => ?_)
                  subst h_23
                  exact W.iret (v := dfM (su (su τ 0 0 0) 21 (4 * i + q) p3) i q) hx hb hr (fun t ht hW => ⟨⟨dfM (su (su τ 0 0 0) 21 (4 * i + q) p3) i q, su (su τ 0 0 0) 21 (4 * i + q) p3, rfl, Or.inr ⟨i, q, hi, hq, rfl, rfl, Classical.not_not.mp (fun h => c_7 (b2i_eq0.mpr h)), Classical.not_not.mp (fun h => c_15 (b2i_eq0.mpr h)), Or.inr (Or.inr ⟨c_20, c_21, rfl, rfl⟩)⟩, by rw [ht]; exact hP, va_K.moved hW.alike hK, hD⟩, hS.F ht⟩) hS.2.2 d_M_result_119
                · refine lv_iconst (v := (-1)) hx hb d_M_result_99 (by decide) ?_
                  exact W.iret (v := (-1)) hx hb hr (fun t ht hW => ⟨⟨(-1), su τ 0 0 0, rfl, Or.inr ⟨i, q, hi, hq, rfl, rfl, Classical.not_not.mp (fun h => c_7 (b2i_eq0.mpr h)), Classical.not_not.mp (fun h => c_15 (b2i_eq0.mpr h)), Or.inr (Or.inl ⟨c_20, c_21, rfl, rfl⟩)⟩, by rw [ht]; exact hP, va_K.moved hW.alike hK, hD⟩, hS.F ht⟩) hS.2.2 d_M_result_100
              · refine lv_iload hx hb d_M_result_73 (lv_at hl 0 rfl) ?_
                refine lv_if_ge (tgt := 83) hx hb d_M_result_75 (by decide) (fun c_24 => ?_) (fun c_24 => ?_)
                · refine lv_bipush (v := (-2)) hx hb d_M_result_83 (by decide) ?_
                  exact W.iret (v := (-2)) hx hb hr (fun t ht hW => ⟨⟨(-2), su τ 0 0 0, rfl, Or.inr ⟨i, q, hi, hq, rfl, rfl, Classical.not_not.mp (fun h => c_7 (b2i_eq0.mpr h)), Classical.not_not.mp (fun h => c_15 (b2i_eq0.mpr h)), Or.inl ⟨c_20, (if_neg (Int32.not_lt.mpr c_24)).symm, rfl⟩⟩, by rw [ht]; exact hP, va_K.moved hW.alike hK, hD⟩, hS.F ht⟩) hS.2.2 d_M_result_85
                · refine lv_bipush (v := (-3)) hx hb d_M_result_78 (by decide) ?_
                  refine lv_goto (tgt := 85) hx hb d_M_result_80 (by decide) ?_
                  exact W.iret (v := (-3)) hx hb hr (fun t ht hW => ⟨⟨(-3), su τ 0 0 0, rfl, Or.inr ⟨i, q, hi, hq, rfl, rfl, Classical.not_not.mp (fun h => c_7 (b2i_eq0.mpr h)), Classical.not_not.mp (fun h => c_15 (b2i_eq0.mpr h)), Or.inl ⟨c_20, (if_pos (Int32.not_le.mp c_24)).symm, rfl⟩⟩, by rw [ht]; exact hP, va_K.moved hW.alike hK, hD⟩, hS.F ht⟩) hS.2.2 d_M_result_85
            · exact absurd (by decide) c_17
set_option maxHeartbeats 4000000 in
set_option maxRecDepth 100000 in
theorem c_M_look (l : Launch) (D : va_G) (cs : Nat → ClassId) (ad : Nat → Nat) (τ : Nat → Nat → Int32) (n nm : Nat) (hM : Mv τ n nm) (sz : Nat) (p0 p1 : Int32) : Met l y_M_look (Cond.code y_M_look b_M_look 3 (some .int) :: GW) ({ frames := 2, cells := 0, slots := 0, locals := 64 }) (va_Pc [.ref (ad 0), .int p0, .int p1] (wr_B D cs (wM cs ad τ) sz)) (va_Qi (fun r (u : Nat → Nat → Int32) => (¬ ((0 ≤ p0 ∧ p0 < nI n) ∧ (0 ≤ p1 ∧ p1 ≤ 8)) ∧ r = 0 ∧ u = su τ 0 0 1) ∨ ∃ i, i < n ∧ p0 = nI i ∧ (0 ≤ p1 ∧ p1 ≤ 8) ∧ r = lkM τ nm i p1 ∧ u = su τ 0 0 0) (fun u => wr_T D cs (wM cs ad u) (va_A (wM cs ad τ) sz)) (va_A (wM cs ad τ) sz)) 0 0 (va_A (wM cs ad τ) sz) := by
  refine Met.ofW (cc := b_M_look) (maxL := 3) (ret := (some .int)) (by decide) rfl ?_
  intro p e s m args below meth c s₁ B hml hv
  obtain ⟨rfl, hsz, hP, hK, hD0⟩ := hv
  have hx := B.exec
  have hb := B.bytes
  have hr := B.returns
  have hts := atoms_spec (ws := Cond.code y_M_look b_M_look 3 (some .int) :: GW) B.pre
  have hG : ∀ w ∈ GW, w.before _ s = true := fun w h => hts w (List.mem_cons_of_mem _ h)
  have hown : s.vm.findClass R_M = some m.cls := findClass_of_methodNamed B.named
  have hlocks := B.notSynchronized
  subst hsz
  have hD := hD0.self (sz := s.heap.size)
  generalize hAe : va_A (wM cs ad τ) s.heap.size = A at hD ⊢
  have hA : ∀ q : Nat, s.heap.size ≤ q → A q := fun q h => by rw [← hAe]; exact Or.inr h
  have hS : va_S A s.heap s.heap [] := va_S.rf
  have hn30 : n ≤ 30 := hM.2.2.1
  have hm40 : nm ≤ 40 := hM.2.2.2.1
  have hl := lv_entry ([.ref (ad 0), .int p0, .int p1]) (n := 3) (Nat.le_of_ble_eq_true rfl)
  rw [lg_entry_eq]
  generalize (lg_sl ([.ref (ad 0), .int p0, .int p1]) ++ List.replicate (3 - (lg_sl ([.ref (ad 0), .int p0, .int p1])).length) Slot.unset).toArray = ls at hl ⊢
  have hl : lv_has ls 3 [(0, .ref (ad 0)), (1, .int p0), (2, .int p1)] := hl
  refine lv_aload_n hx hb d_M_look_0 rfl (lv_at hl 0 rfl) ?_
  refine lv_aload_n hx hb d_M_look_1 rfl (lv_at hl 0 rfl) ?_
  refine lv_iload_n hx hb d_M_look_2 rfl (lv_at hl 1 rfl) ?_
  refine vp_callSi (W.runV (As := [.int p0]) (rest := [.ref (ad 0)]) ⟨hx, hb, hml, hown, hts⟩ (c_M_isOne l D cs ad τ n nm hM p0) (cwV 1 hts (gw_V kw_684 kw_686 ks_1_2 kw_6 kw_687) rfl rfl rfl (by decide +kernel) ⟨Nat.le_of_ble_eq_true rfl, Nat.le_of_ble_eq_true rfl⟩) (rd_V hP hK (rl_recv hK hP (by decide) gM_0 rfl)) rfl rfl hl.1 rfl (lv_room (Nat.le_of_ble_eq_true rfl)) d_M_look_3 ⟨Nat.zero_le _, Nat.zero_le _⟩) (fun r_1 h_2 => ?_)
  subst h_2
  refine lv_if_eq (tgt := 23) hx hb d_M_look_6 (by decide) (fun c_3 => ?_) (fun c_3 => ?_)
  · refine lv_iconst (v := 1) hx hb d_M_look_23 (by decide) ?_
    refine rl_put (r := 0) (ci := 4) (v := .int 1) (ty := .int) (C := R_M) (T := F_M) (N := 25) hx hb hG in_M T_M T_M_ok n_M hown hK hP hD hS (by decide) gM_0 rfl 0 (by decide) kw_581 (fun _ h9 => h9) rfl (by decide +kernel) rfl rfl (Nat.le_of_ble_eq_true rfl) d_M_look_24 (fun H locs hP hD hS => ?_)
    rw [wM_sc (by decide)] at hP hD
    refine lv_aload_n hx hb d_M_look_27 rfl (lv_at hl 0 rfl) ?_
    refine rl_get (r := 0) (ci := 4) (v := .int 1) (C := R_M) (T := F_M) (N := 25) hx hb hG in_M hown hK hP (by decide) gM_0 rfl 0 (by decide) kw_581 (fun _ h9 => h9) rfl d_M_look_28 ?_
    refine lv_if_le (tgt := 36) hx hb d_M_look_31 (by decide) (fun c_4 => ?_) (fun c_4 => ?_)
    · exact absurd c_4 (by decide)
    · refine lv_iconst (v := 0) hx hb d_M_look_34 (by decide) ?_
      exact W.iret (v := 0) hx hb hr (fun t ht hW => ⟨⟨0, su τ 0 0 1, rfl, Or.inl ⟨fun h9 => (b2i_eq0.mp c_3) (h9.1), rfl, rfl⟩, by rw [ht]; exact hP, va_K.moved hW.alike hK, hD⟩, hS.F ht⟩) hS.2.2 d_M_look_35
  · obtain ⟨i, hi, rfl⟩ := atS (by omega) (Classical.not_not.mp (fun h => c_3 (b2i_eq0.mpr h)))
    refine lv_iload_n hx hb d_M_look_9 rfl (lv_at hl 2 rfl) ?_
    refine lv_iconst (v := 0) hx hb d_M_look_10 (by decide) ?_
    refine lv_bipush (v := 8) hx hb d_M_look_11 (by decide) ?_
    refine vp_callSi (W.runS (As := [.int p1, .int 0, .int 8]) (rest := [.ref (ad 0)]) ⟨hx, hb, hml, hown, hts⟩ (c_M_in l p1 0 8) (va_cwS 3 hts (gw_S kw_664 kw_665 kw_6 kw_666) rfl rfl rfl (by decide +kernel) ⟨Nat.le_of_ble_eq_true rfl, Nat.le_of_ble_eq_true rfl⟩) ⟨fun _ _ _ _ q => q, fun U _ _ => ⟨rfl, trivial⟩⟩ rfl rfl hl.1 rfl (lv_room (Nat.le_of_ble_eq_true rfl)) d_M_look_13 ⟨Nat.zero_le _, Nat.zero_le _⟩) (fun r_5 h_6 => ?_)
    subst h_6
    refine lv_if_eq (tgt := 23) hx hb d_M_look_16 (by decide) (fun c_7 => ?_) (fun c_7 => ?_)
    · refine lv_iconst (v := 1) hx hb d_M_look_23 (by decide) ?_
      refine rl_put (r := 0) (ci := 4) (v := .int 1) (ty := .int) (C := R_M) (T := F_M) (N := 25) hx hb hG in_M T_M T_M_ok n_M hown hK hP hD hS (by decide) gM_0 rfl 0 (by decide) kw_581 (fun _ h9 => h9) rfl (by decide +kernel) rfl rfl (Nat.le_of_ble_eq_true rfl) d_M_look_24 (fun H locs hP hD hS => ?_)
      rw [wM_sc (by decide)] at hP hD
      refine lv_aload_n hx hb d_M_look_27 rfl (lv_at hl 0 rfl) ?_
      refine rl_get (r := 0) (ci := 4) (v := .int 1) (C := R_M) (T := F_M) (N := 25) hx hb hG in_M hown hK hP (by decide) gM_0 rfl 0 (by decide) kw_581 (fun _ h9 => h9) rfl d_M_look_28 ?_
      refine lv_if_le (tgt := 36) hx hb d_M_look_31 (by decide) (fun c_8 => ?_) (fun c_8 => ?_)
      · exact absurd c_8 (by decide)
      · refine lv_iconst (v := 0) hx hb d_M_look_34 (by decide) ?_
        exact W.iret (v := 0) hx hb hr (fun t ht hW => ⟨⟨0, su τ 0 0 1, rfl, Or.inl ⟨fun h9 => (b2i_eq0.mp c_7) (h9.2), rfl, rfl⟩, by rw [ht]; exact hP, va_K.moved hW.alike hK, hD⟩, hS.F ht⟩) hS.2.2 d_M_look_35
    · refine lv_iconst (v := 0) hx hb d_M_look_19 (by decide) ?_
      refine lv_goto (tgt := 24) hx hb d_M_look_20 (by decide) ?_
      refine rl_put (r := 0) (ci := 4) (v := .int 0) (ty := .int) (C := R_M) (T := F_M) (N := 25) hx hb hG in_M T_M T_M_ok n_M hown hK hP hD hS (by decide) gM_0 rfl 0 (by decide) kw_581 (fun _ h9 => h9) rfl (by decide +kernel) rfl rfl (Nat.le_of_ble_eq_true rfl) d_M_look_24 (fun H locs hP hD hS => ?_)
      rw [wM_sc (by decide)] at hP hD
      refine lv_aload_n hx hb d_M_look_27 rfl (lv_at hl 0 rfl) ?_
      refine rl_get (r := 0) (ci := 4) (v := .int 0) (C := R_M) (T := F_M) (N := 25) hx hb hG in_M hown hK hP (by decide) gM_0 rfl 0 (by decide) kw_581 (fun _ h9 => h9) rfl d_M_look_28 ?_
      refine lv_if_le (tgt := 36) hx hb d_M_look_31 (by decide) (fun c_9 => ?_) (fun c_9 => ?_)
      · refine lv_iload_n hx hb d_M_look_36 rfl (lv_at hl 2 rfl) ?_
        by_cases e_10 : p1 = 0
        · subst e_10
          refine lv_tableIn (x := 0) (tgt := 84) hx hb d_M_look_37 (by decide) (by decide) rfl (by decide) ?_
          refine lv_aload_n hx hb d_M_look_84 rfl (lv_at hl 0 rfl) ?_
          refine rl_get (r := 0) (ci := 4) (v := .ref (ad 5)) (C := R_M) (T := F_M) (N := 25) hx hb hG in_M hown hK hP (by decide) gM_0 rfl 5 (by decide) kw_586 (fun _ h9 => h9) rfl d_M_look_85 ?_
          refine lv_iload_n hx hb d_M_look_88 rfl (lv_at hl 1 rfl) ?_
          refine rl_iald (r := 5) (i := nI i) (n := 30) hx hb hK hP (by decide) 0 rfl rfl (vp_in_nI (by omega) (by decide)) d_M_look_89 ?_
          rw [nI_clamp (by omega)]
          refine W.eq (g2 := F0 m 90 ls [.int (τ 5 i)]) rfl ?_
          exact W.iret (v := τ 5 i) hx hb hr (fun t ht hW => ⟨⟨τ 5 i, su τ 0 0 0, rfl, Or.inr ⟨i, hi, rfl, Classical.not_not.mp (fun h => c_7 (b2i_eq0.mpr h)), rfl, rfl⟩, by rw [ht]; exact hP, va_K.moved hW.alike hK, hD⟩, hS.F ht⟩) hS.2.2 d_M_look_90
        by_cases e_11 : p1 = 1
        · subst e_11
          refine lv_tableIn (x := 1) (tgt := 91) hx hb d_M_look_37 (by decide) (by decide) rfl (by decide) ?_
          refine lv_aload_n hx hb d_M_look_91 rfl (lv_at hl 0 rfl) ?_
          refine rl_get (r := 0) (ci := 4) (v := .ref (ad 6)) (C := R_M) (T := F_M) (N := 25) hx hb hG in_M hown hK hP (by decide) gM_0 rfl 6 (by decide) kw_587 (fun _ h9 => h9) rfl d_M_look_92 ?_
          refine lv_iload_n hx hb d_M_look_95 rfl (lv_at hl 1 rfl) ?_
          refine rl_iald (r := 6) (i := nI i) (n := 30) hx hb hK hP (by decide) 0 rfl rfl (vp_in_nI (by omega) (by decide)) d_M_look_96 ?_
          rw [nI_clamp (by omega)]
          refine W.eq (g2 := F0 m 97 ls [.int (τ 6 i)]) rfl ?_
          exact W.iret (v := τ 6 i) hx hb hr (fun t ht hW => ⟨⟨τ 6 i, su τ 0 0 0, rfl, Or.inr ⟨i, hi, rfl, Classical.not_not.mp (fun h => c_7 (b2i_eq0.mpr h)), rfl, rfl⟩, by rw [ht]; exact hP, va_K.moved hW.alike hK, hD⟩, hS.F ht⟩) hS.2.2 d_M_look_97
        by_cases e_12 : p1 = 2
        · subst e_12
          refine lv_tableIn (x := 2) (tgt := 98) hx hb d_M_look_37 (by decide) (by decide) rfl (by decide) ?_
          refine lv_aload_n hx hb d_M_look_98 rfl (lv_at hl 0 rfl) ?_
          refine rl_get (r := 0) (ci := 4) (v := .ref (ad 8)) (C := R_M) (T := F_M) (N := 25) hx hb hG in_M hown hK hP (by decide) gM_0 rfl 8 (by decide) kw_589 (fun _ h9 => h9) rfl d_M_look_99 ?_
          refine lv_iload_n hx hb d_M_look_102 rfl (lv_at hl 1 rfl) ?_
          refine rl_iald (r := 8) (i := nI i) (n := 30) hx hb hK hP (by decide) 0 rfl rfl (vp_in_nI (by omega) (by decide)) d_M_look_103 ?_
          rw [nI_clamp (by omega)]
          refine W.eq (g2 := F0 m 104 ls [.int (τ 8 i)]) rfl ?_
          exact W.iret (v := τ 8 i) hx hb hr (fun t ht hW => ⟨⟨τ 8 i, su τ 0 0 0, rfl, Or.inr ⟨i, hi, rfl, Classical.not_not.mp (fun h => c_7 (b2i_eq0.mpr h)), rfl, rfl⟩, by rw [ht]; exact hP, va_K.moved hW.alike hK, hD⟩, hS.F ht⟩) hS.2.2 d_M_look_104
        by_cases e_13 : p1 = 3
        · subst e_13
          refine lv_tableIn (x := 3) (tgt := 105) hx hb d_M_look_37 (by decide) (by decide) rfl (by decide) ?_
          refine lv_aload_n hx hb d_M_look_105 rfl (lv_at hl 0 rfl) ?_
          refine rl_get (r := 0) (ci := 4) (v := .ref (ad 9)) (C := R_M) (T := F_M) (N := 25) hx hb hG in_M hown hK hP (by decide) gM_0 rfl 9 (by decide) kw_590 (fun _ h9 => h9) rfl d_M_look_106 ?_
          refine lv_iload_n hx hb d_M_look_109 rfl (lv_at hl 1 rfl) ?_
          refine rl_iald (r := 9) (i := nI i) (n := 30) hx hb hK hP (by decide) 0 rfl rfl (vp_in_nI (by omega) (by decide)) d_M_look_110 ?_
          rw [nI_clamp (by omega)]
          refine W.eq (g2 := F0 m 111 ls [.int (τ 9 i)]) rfl ?_
          exact W.iret (v := τ 9 i) hx hb hr (fun t ht hW => ⟨⟨τ 9 i, su τ 0 0 0, rfl, Or.inr ⟨i, hi, rfl, Classical.not_not.mp (fun h => c_7 (b2i_eq0.mpr h)), rfl, rfl⟩, by rw [ht]; exact hP, va_K.moved hW.alike hK, hD⟩, hS.F ht⟩) hS.2.2 d_M_look_111
        by_cases e_14 : p1 = 4
        · subst e_14
          refine lv_tableIn (x := 4) (tgt := 112) hx hb d_M_look_37 (by decide) (by decide) rfl (by decide) ?_
          refine lv_aload_n hx hb d_M_look_112 rfl (lv_at hl 0 rfl) ?_
          refine lv_iload_n hx hb d_M_look_113 rfl (lv_at hl 1 rfl) ?_
          refine vp_callSi (W.runV (As := [.int (nI i)]) (rest := []) ⟨hx, hb, hml, hown, hts⟩ (c_M_takesPlace l D cs ad (su τ 0 0 0) n nm (Mv_0 hM) i (by omega)) (cwV 1 hts (gw_V kw_688 kw_690 ks_1_3 kw_6 kw_691) rfl rfl rfl (by decide +kernel) ⟨Nat.le_of_ble_eq_true rfl, Nat.le_of_ble_eq_true rfl⟩) (rd_V hP hK (rl_recv hK hP (by decide) gM_0 rfl)) rfl rfl hl.1 rfl (lv_room (Nat.le_of_ble_eq_true rfl)) d_M_look_114 ⟨Nat.zero_le _, Nat.zero_le _⟩) (fun r_15 h_16 => ?_)
          subst h_16
          refine W.eq (g2 := F0 m 117 ls [.int (b2i (τ 8 i = 1 ∨ τ 8 i = 2))]) rfl ?_
          refine lv_if_eq (tgt := 129) hx hb d_M_look_117 (by decide) (fun c_17 => ?_) (fun c_17 => ?_)
          · refine lv_iconst (v := (-1)) hx hb d_M_look_129 (by decide) ?_
            exact W.iret (v := (-1)) hx hb hr (fun t ht hW => ⟨⟨(-1), su τ 0 0 0, rfl, Or.inr ⟨i, hi, rfl, Classical.not_not.mp (fun h => c_7 (b2i_eq0.mpr h)), (by unfold lkM; simp only [show ¬ ((4 : Int32) = 0) by decide, show ¬ ((4 : Int32) = 1) by decide, show ¬ ((4 : Int32) = 2) by decide, show ¬ ((4 : Int32) = 3) by decide, if_false, if_true]; exact (if_neg (b2i_eq0.mp c_17)).symm), rfl⟩, by rw [ht]; exact hP, va_K.moved hW.alike hK, hD⟩, hS.F ht⟩) hS.2.2 d_M_look_130
          · refine lv_aload_n hx hb d_M_look_120 rfl (lv_at hl 0 rfl) ?_
            refine rl_get (r := 0) (ci := 4) (v := .ref (ad 10)) (C := R_M) (T := F_M) (N := 25) hx hb hG in_M hown hK hP (by decide) gM_0 rfl 10 (by decide) kw_591 (fun _ h9 => h9) rfl d_M_look_121 ?_
            refine lv_iload_n hx hb d_M_look_124 rfl (lv_at hl 1 rfl) ?_
            refine rl_iald (r := 10) (i := nI i) (n := 30) hx hb hK hP (by decide) 0 rfl rfl (vp_in_nI (by omega) (by decide)) d_M_look_125 ?_
            rw [nI_clamp (by omega)]
            refine W.eq (g2 := F0 m 126 ls [.int (τ 10 i)]) rfl ?_
            refine lv_goto (tgt := 130) hx hb d_M_look_126 (by decide) ?_
            exact W.iret (v := τ 10 i) hx hb hr (fun t ht hW => ⟨⟨τ 10 i, su τ 0 0 0, rfl, Or.inr ⟨i, hi, rfl, Classical.not_not.mp (fun h => c_7 (b2i_eq0.mpr h)), (by unfold lkM; simp only [show ¬ ((4 : Int32) = 0) by decide, show ¬ ((4 : Int32) = 1) by decide, show ¬ ((4 : Int32) = 2) by decide, show ¬ ((4 : Int32) = 3) by decide, if_false, if_true]; exact (if_pos (Classical.not_not.mp (fun h => c_17 (b2i_eq0.mpr h)))).symm), rfl⟩, by rw [ht]; exact hP, va_K.moved hW.alike hK, hD⟩, hS.F ht⟩) hS.2.2 d_M_look_130
        by_cases e_18 : p1 = 5
        · subst e_18
          refine lv_tableIn (x := 5) (tgt := 131) hx hb d_M_look_37 (by decide) (by decide) rfl (by decide) ?_
          refine lv_aload_n hx hb d_M_look_131 rfl (lv_at hl 0 rfl) ?_
          refine lv_iload_n hx hb d_M_look_132 rfl (lv_at hl 1 rfl) ?_
          refine vp_callSi (W.runV (As := [.int (nI i)]) (rest := []) ⟨hx, hb, hml, hown, hts⟩ (c_M_takesPlace l D cs ad (su τ 0 0 0) n nm (Mv_0 hM) i (by omega)) (cwV 1 hts (gw_V kw_688 kw_690 ks_1_3 kw_6 kw_691) rfl rfl rfl (by decide +kernel) ⟨Nat.le_of_ble_eq_true rfl, Nat.le_of_ble_eq_true rfl⟩) (rd_V hP hK (rl_recv hK hP (by decide) gM_0 rfl)) rfl rfl hl.1 rfl (lv_room (Nat.le_of_ble_eq_true rfl)) d_M_look_133 ⟨Nat.zero_le _, Nat.zero_le _⟩) (fun r_19 h_20 => ?_)
          subst h_20
          refine W.eq (g2 := F0 m 136 ls [.int (b2i (τ 8 i = 1 ∨ τ 8 i = 2))]) rfl ?_
          refine lv_if_eq (tgt := 148) hx hb d_M_look_136 (by decide) (fun c_21 => ?_) (fun c_21 => ?_)
          · refine lv_iconst (v := (-1)) hx hb d_M_look_148 (by decide) ?_
            exact W.iret (v := (-1)) hx hb hr (fun t ht hW => ⟨⟨(-1), su τ 0 0 0, rfl, Or.inr ⟨i, hi, rfl, Classical.not_not.mp (fun h => c_7 (b2i_eq0.mpr h)), (by unfold lkM; simp only [show ¬ ((5 : Int32) = 0) by decide, show ¬ ((5 : Int32) = 1) by decide, show ¬ ((5 : Int32) = 2) by decide, show ¬ ((5 : Int32) = 3) by decide, show ¬ ((5 : Int32) = 4) by decide, if_false, if_true]; exact (if_neg (b2i_eq0.mp c_21)).symm), rfl⟩, by rw [ht]; exact hP, va_K.moved hW.alike hK, hD⟩, hS.F ht⟩) hS.2.2 d_M_look_149
          · refine lv_aload_n hx hb d_M_look_139 rfl (lv_at hl 0 rfl) ?_
            refine rl_get (r := 0) (ci := 4) (v := .ref (ad 11)) (C := R_M) (T := F_M) (N := 25) hx hb hG in_M hown hK hP (by decide) gM_0 rfl 11 (by decide) kw_592 (fun _ h9 => h9) rfl d_M_look_140 ?_
            refine lv_iload_n hx hb d_M_look_143 rfl (lv_at hl 1 rfl) ?_
            refine rl_iald (r := 11) (i := nI i) (n := 30) hx hb hK hP (by decide) 0 rfl rfl (vp_in_nI (by omega) (by decide)) d_M_look_144 ?_
            rw [nI_clamp (by omega)]
            refine W.eq (g2 := F0 m 145 ls [.int (τ 11 i)]) rfl ?_
            refine lv_goto (tgt := 149) hx hb d_M_look_145 (by decide) ?_
            exact W.iret (v := τ 11 i) hx hb hr (fun t ht hW => ⟨⟨τ 11 i, su τ 0 0 0, rfl, Or.inr ⟨i, hi, rfl, Classical.not_not.mp (fun h => c_7 (b2i_eq0.mpr h)), (by unfold lkM; simp only [show ¬ ((5 : Int32) = 0) by decide, show ¬ ((5 : Int32) = 1) by decide, show ¬ ((5 : Int32) = 2) by decide, show ¬ ((5 : Int32) = 3) by decide, show ¬ ((5 : Int32) = 4) by decide, if_false, if_true]; exact (if_pos (Classical.not_not.mp (fun h => c_21 (b2i_eq0.mpr h)))).symm), rfl⟩, by rw [ht]; exact hP, va_K.moved hW.alike hK, hD⟩, hS.F ht⟩) hS.2.2 d_M_look_149
        by_cases e_22 : p1 = 6
        · subst e_22
          refine lv_tableIn (x := 6) (tgt := 150) hx hb d_M_look_37 (by decide) (by decide) rfl (by decide) ?_
          refine lv_aload_n hx hb d_M_look_150 rfl (lv_at hl 0 rfl) ?_
          refine lv_iload_n hx hb d_M_look_151 rfl (lv_at hl 1 rfl) ?_
          refine vp_callSi (W.runV (As := [.int (nI i)]) (rest := []) ⟨hx, hb, hml, hown, hts⟩ (c_M_takesPlace l D cs ad (su τ 0 0 0) n nm (Mv_0 hM) i (by omega)) (cwV 1 hts (gw_V kw_688 kw_690 ks_1_3 kw_6 kw_691) rfl rfl rfl (by decide +kernel) ⟨Nat.le_of_ble_eq_true rfl, Nat.le_of_ble_eq_true rfl⟩) (rd_V hP hK (rl_recv hK hP (by decide) gM_0 rfl)) rfl rfl hl.1 rfl (lv_room (Nat.le_of_ble_eq_true rfl)) d_M_look_152 ⟨Nat.zero_le _, Nat.zero_le _⟩) (fun r_23 h_24 => ?_)
          subst h_24
          refine W.eq (g2 := F0 m 155 ls [.int (b2i (τ 8 i = 1 ∨ τ 8 i = 2))]) rfl ?_
          refine lv_if_eq (tgt := 167) hx hb d_M_look_155 (by decide) (fun c_25 => ?_) (fun c_25 => ?_)
          · refine lv_iconst (v := (-1)) hx hb d_M_look_167 (by decide) ?_
            exact W.iret (v := (-1)) hx hb hr (fun t ht hW => ⟨⟨(-1), su τ 0 0 0, rfl, Or.inr ⟨i, hi, rfl, Classical.not_not.mp (fun h => c_7 (b2i_eq0.mpr h)), (by unfold lkM; simp only [show ¬ ((6 : Int32) = 0) by decide, show ¬ ((6 : Int32) = 1) by decide, show ¬ ((6 : Int32) = 2) by decide, show ¬ ((6 : Int32) = 3) by decide, show ¬ ((6 : Int32) = 4) by decide, show ¬ ((6 : Int32) = 5) by decide, if_false, if_true]; exact (if_neg (b2i_eq0.mp c_25)).symm), rfl⟩, by rw [ht]; exact hP, va_K.moved hW.alike hK, hD⟩, hS.F ht⟩) hS.2.2 d_M_look_168
          · refine lv_aload_n hx hb d_M_look_158 rfl (lv_at hl 0 rfl) ?_
            refine rl_get (r := 0) (ci := 4) (v := .ref (ad 12)) (C := R_M) (T := F_M) (N := 25) hx hb hG in_M hown hK hP (by decide) gM_0 rfl 12 (by decide) kw_593 (fun _ h9 => h9) rfl d_M_look_159 ?_
            refine lv_iload_n hx hb d_M_look_162 rfl (lv_at hl 1 rfl) ?_
            refine rl_iald (r := 12) (i := nI i) (n := 30) hx hb hK hP (by decide) 0 rfl rfl (vp_in_nI (by omega) (by decide)) d_M_look_163 ?_
            rw [nI_clamp (by omega)]
            refine W.eq (g2 := F0 m 164 ls [.int (τ 12 i)]) rfl ?_
            refine lv_goto (tgt := 168) hx hb d_M_look_164 (by decide) ?_
            exact W.iret (v := τ 12 i) hx hb hr (fun t ht hW => ⟨⟨τ 12 i, su τ 0 0 0, rfl, Or.inr ⟨i, hi, rfl, Classical.not_not.mp (fun h => c_7 (b2i_eq0.mpr h)), (by unfold lkM; simp only [show ¬ ((6 : Int32) = 0) by decide, show ¬ ((6 : Int32) = 1) by decide, show ¬ ((6 : Int32) = 2) by decide, show ¬ ((6 : Int32) = 3) by decide, show ¬ ((6 : Int32) = 4) by decide, show ¬ ((6 : Int32) = 5) by decide, if_false, if_true]; exact (if_pos (Classical.not_not.mp (fun h => c_25 (b2i_eq0.mpr h)))).symm), rfl⟩, by rw [ht]; exact hP, va_K.moved hW.alike hK, hD⟩, hS.F ht⟩) hS.2.2 d_M_look_168
        by_cases e_26 : p1 = 7
        · subst e_26
          refine lv_tableIn (x := 7) (tgt := 169) hx hb d_M_look_37 (by decide) (by decide) rfl (by decide) ?_
          refine lv_aload_n hx hb d_M_look_169 rfl (lv_at hl 0 rfl) ?_
          refine rl_get (r := 0) (ci := 4) (v := .ref (ad 13)) (C := R_M) (T := F_M) (N := 25) hx hb hG in_M hown hK hP (by decide) gM_0 rfl 13 (by decide) kw_594 (fun _ h9 => h9) rfl d_M_look_170 ?_
          refine lv_iload_n hx hb d_M_look_173 rfl (lv_at hl 1 rfl) ?_
          refine rl_iald (r := 13) (i := nI i) (n := 30) hx hb hK hP (by decide) 0 rfl rfl (vp_in_nI (by omega) (by decide)) d_M_look_174 ?_
          rw [nI_clamp (by omega)]
          refine W.eq (g2 := F0 m 175 ls [.int (τ 13 i)]) rfl ?_
          exact W.iret (v := τ 13 i) hx hb hr (fun t ht hW => ⟨⟨τ 13 i, su τ 0 0 0, rfl, Or.inr ⟨i, hi, rfl, Classical.not_not.mp (fun h => c_7 (b2i_eq0.mpr h)), rfl, rfl⟩, by rw [ht]; exact hP, va_K.moved hW.alike hK, hD⟩, hS.F ht⟩) hS.2.2 d_M_look_175
        refine lv_tableOut (tgt := 176) hx hb d_M_look_37 (by simp only [i32_eq, i32_lt, i32_le, i32_nm1, i32_n0, i32_n1, i32_n2, i32_n3, i32_n4, i32_n5, i32_n6, i32_n7, i32_n8, i32_n9, i32_n10, i32_n20, i32_n30, i32_n31, i32_n39, i32_n40, i32_n49, i32_n50, i32_n100, i32_n160, i32_n1000, i32_n100000, i32_n1000000] at e_10 e_11 e_12 e_13 e_14 e_18 e_22 e_26 ⊢; omega) (by decide) ?_
        refine lv_aload_n hx hb d_M_look_176 rfl (lv_at hl 0 rfl) ?_
        refine lv_iload_n hx hb d_M_look_177 rfl (lv_at hl 1 rfl) ?_
        refine vp_callSi (W.runV (As := [.int (nI i)]) (rest := []) ⟨hx, hb, hml, hown, hts⟩ (c_M_samplesOf l D cs ad (su τ 0 0 0) n nm (Mv_0 hM) (nI i)) (cwV 1 hts (gw_V kw_770 kw_772 ks_1_10 kw_6 kw_773) rfl rfl rfl (by decide +kernel) ⟨Nat.le_of_ble_eq_true rfl, Nat.le_of_ble_eq_true rfl⟩) (rd_V hP hK (rl_recv hK hP (by decide) gM_0 rfl)) rfl rfl hl.1 rfl (lv_room (Nat.le_of_ble_eq_true rfl)) d_M_look_178 ⟨Nat.zero_le _, Nat.zero_le _⟩) (fun r_27 h_28 => ?_)
        subst h_28
        rw [smM_0]
        exact W.iret (v := smM τ (nI i) nm) hx hb hr (fun t ht hW => ⟨⟨smM τ (nI i) nm, su τ 0 0 0, rfl, Or.inr ⟨i, hi, rfl, Classical.not_not.mp (fun h => c_7 (b2i_eq0.mpr h)), (by unfold lkM; rw [if_neg e_10, if_neg e_11, if_neg e_12, if_neg e_13, if_neg e_14, if_neg e_18, if_neg e_22, if_neg e_26]), rfl⟩, by rw [ht]; exact hP, va_K.moved hW.alike hK, hD⟩, hS.F ht⟩) hS.2.2 d_M_look_181
      · exact absurd (by decide) c_9
set_option maxHeartbeats 4000000 in
set_option maxRecDepth 100000 in
theorem c_M_count (l : Launch) (D : va_G) (cs : Nat → ClassId) (ad : Nat → Nat) (τ : Nat → Nat → Int32) (n nm : Nat) (hM : Mv τ n nm) (sz : Nat) (p0 : Int32) : Met l y_M_count (Cond.code y_M_count b_M_count 3 (some .int) :: GW) ({ frames := 3, cells := 0, slots := 0, locals := 96 }) (va_Pc [.ref (ad 0), .int p0] (wr_B D cs (wM cs ad τ) sz)) (va_Qi (fun r (u : Nat → Nat → Int32) => r = cnM τ n nm p0 ∧ u = su τ 0 0 0) (fun u => wr_T D cs (wM cs ad u) (va_A (wM cs ad τ) sz)) (va_A (wM cs ad τ) sz)) 0 0 (va_A (wM cs ad τ) sz) := by
  refine Met.ofW (cc := b_M_count) (maxL := 3) (ret := (some .int)) (by decide) rfl ?_
  intro p e s m args below meth c s₁ B hml hv
  obtain ⟨rfl, hsz, hP, hK, hD0⟩ := hv
  have hx := B.exec
  have hb := B.bytes
  have hr := B.returns
  have hts := atoms_spec (ws := Cond.code y_M_count b_M_count 3 (some .int) :: GW) B.pre
  have hG : ∀ w ∈ GW, w.before _ s = true := fun w h => hts w (List.mem_cons_of_mem _ h)
  have hown : s.vm.findClass R_M = some m.cls := findClass_of_methodNamed B.named
  have hlocks := B.notSynchronized
  subst hsz
  have hD := hD0.self (sz := s.heap.size)
  generalize hAe : va_A (wM cs ad τ) s.heap.size = A at hD ⊢
  have hA : ∀ q : Nat, s.heap.size ≤ q → A q := fun q h => by rw [← hAe]; exact Or.inr h
  have hS : va_S A s.heap s.heap [] := va_S.rf
  have hn30 : n ≤ 30 := hM.2.2.1
  have hm40 : nm ≤ 40 := hM.2.2.2.1
  have hl := lv_entry ([.ref (ad 0), .int p0]) (n := 3) (Nat.le_of_ble_eq_true rfl)
  rw [lg_entry_eq]
  generalize (lg_sl ([.ref (ad 0), .int p0]) ++ List.replicate (3 - (lg_sl ([.ref (ad 0), .int p0])).length) Slot.unset).toArray = ls at hl ⊢
  have hl : lv_has ls 3 [(0, .ref (ad 0)), (1, .int p0)] := hl
  refine lv_aload_n hx hb d_M_count_0 rfl (lv_at hl 0 rfl) ?_
  refine lv_iconst (v := 0) hx hb d_M_count_1 (by decide) ?_
  refine rl_put (r := 0) (ci := 4) (v := .int 0) (ty := .int) (C := R_M) (T := F_M) (N := 25) hx hb hG in_M T_M T_M_ok n_M hown hK hP hD hS (by decide) gM_0 rfl 0 (by decide) kw_581 (fun _ h9 => h9) rfl (by decide +kernel) rfl rfl (Nat.le_of_ble_eq_true rfl) d_M_count_2 (fun H locs hP hD hS => ?_)
  rw [wM_sc (by decide)] at hP hD
  refine lv_iload_n hx hb d_M_count_5 rfl (lv_at hl 1 rfl) ?_
  refine lv_bipush (v := 10) hx hb d_M_count_6 (by decide) ?_
  refine lv_icmp_lt (tgt := 86) hx hb d_M_count_8 (by decide) (fun c_1 => ?_) (fun c_1 => ?_)
  · refine lv_iload_n hx hb d_M_count_86 rfl (lv_at hl 1 rfl) ?_
    refine lv_if_ne (tgt := 97) hx hb d_M_count_87 (by decide) (fun c_2 => ?_) (fun c_2 => ?_)
    · refine lv_iload_n hx hb d_M_count_97 rfl (lv_at hl 1 rfl) ?_
      refine lv_iconst (v := 1) hx hb d_M_count_98 (by decide) ?_
      refine lv_icmp_ne (tgt := 109) hx hb d_M_count_99 (by decide) (fun c_3 => ?_) (fun c_3 => ?_)
      · refine lv_iload_n hx hb d_M_count_109 rfl (lv_at hl 1 rfl) ?_
        refine lv_iconst (v := 2) hx hb d_M_count_110 (by decide) ?_
        refine lv_icmp_ne (tgt := 121) hx hb d_M_count_111 (by decide) (fun c_4 => ?_) (fun c_4 => ?_)
        · refine lv_iconst (v := (-1)) hx hb d_M_count_121 (by decide) ?_
          exact W.iret (v := (-1)) hx hb hr (fun t ht hW => ⟨⟨(-1), su τ 0 0 0, rfl, ⟨(by unfold cnM; rw [if_neg (fun h9 => Int32.not_lt.mpr h9.1 c_1), if_neg c_2, if_neg c_3, if_neg c_4]), rfl⟩, by rw [ht]; exact hP, va_K.moved hW.alike hK, hD⟩, hS.F ht⟩) hS.2.2 d_M_count_122
        · refine lv_aload_n hx hb d_M_count_114 rfl (lv_at hl 0 rfl) ?_
          refine rl_get (r := 0) (ci := 4) (v := .int (τ 0 3)) (C := R_M) (T := F_M) (N := 25) hx hb hG in_M hown hK hP (by decide) gM_0 rfl 3 (by decide) kw_584 (fun _ h9 => h9) rfl d_M_count_115 ?_
          refine lv_goto (tgt := 122) hx hb d_M_count_118 (by decide) ?_
          exact W.iret (v := τ 0 3) hx hb hr (fun t ht hW => ⟨⟨τ 0 3, su τ 0 0 0, rfl, ⟨(by unfold cnM; rw [if_neg (fun h9 => Int32.not_lt.mpr h9.1 c_1), if_neg c_2, if_neg c_3, if_pos c_4]), rfl⟩, by rw [ht]; exact hP, va_K.moved hW.alike hK, hD⟩, hS.F ht⟩) hS.2.2 d_M_count_122
      · refine lv_aload_n hx hb d_M_count_102 rfl (lv_at hl 0 rfl) ?_
        refine rl_get (r := 0) (ci := 4) (v := .int (nI nm)) (C := R_M) (T := F_M) (N := 25) hx hb hG in_M hown hK hP (by decide) gM_0 rfl 2 (by decide) kw_583 (fun _ h9 => h9) (show _ = some (Value.int (nI nm)) by rw [← hM.2.1]; rfl) d_M_count_103 ?_
        refine lv_goto (tgt := 122) hx hb d_M_count_106 (by decide) ?_
        exact W.iret (v := nI nm) hx hb hr (fun t ht hW => ⟨⟨nI nm, su τ 0 0 0, rfl, ⟨(by unfold cnM; rw [if_neg (fun h9 => Int32.not_lt.mpr h9.1 c_1), if_neg c_2, if_pos c_3]), rfl⟩, by rw [ht]; exact hP, va_K.moved hW.alike hK, hD⟩, hS.F ht⟩) hS.2.2 d_M_count_122
    · refine lv_aload_n hx hb d_M_count_90 rfl (lv_at hl 0 rfl) ?_
      refine rl_get (r := 0) (ci := 4) (v := .int (nI n)) (C := R_M) (T := F_M) (N := 25) hx hb hG in_M hown hK hP (by decide) gM_0 rfl 1 (by decide) kw_582 (fun _ h9 => h9) (show _ = some (Value.int (nI n)) by rw [← hM.1]; rfl) d_M_count_91 ?_
      refine lv_goto (tgt := 122) hx hb d_M_count_94 (by decide) ?_
      exact W.iret (v := nI n) hx hb hr (fun t ht hW => ⟨⟨nI n, su τ 0 0 0, rfl, ⟨(by unfold cnM; rw [if_neg (fun h9 => Int32.not_lt.mpr h9.1 c_1), if_pos c_2]), rfl⟩, by rw [ht]; exact hP, va_K.moved hW.alike hK, hD⟩, hS.F ht⟩) hS.2.2 d_M_count_122
  · refine lv_iload_n hx hb d_M_count_11 rfl (lv_at hl 1 rfl) ?_
    refine lv_bipush (v := 50) hx hb d_M_count_12 (by decide) ?_
    refine lv_icmp_ge (tgt := 86) hx hb d_M_count_14 (by decide) (fun c_5 => ?_) (fun c_5 => ?_)
    · refine lv_iload_n hx hb d_M_count_86 rfl (lv_at hl 1 rfl) ?_
      refine lv_if_ne (tgt := 97) hx hb d_M_count_87 (by decide) (fun c_6 => ?_) (fun c_6 => ?_)
      · refine lv_iload_n hx hb d_M_count_97 rfl (lv_at hl 1 rfl) ?_
        refine lv_iconst (v := 1) hx hb d_M_count_98 (by decide) ?_
        refine lv_icmp_ne (tgt := 109) hx hb d_M_count_99 (by decide) (fun c_7 => ?_) (fun c_7 => ?_)
        · refine lv_iload_n hx hb d_M_count_109 rfl (lv_at hl 1 rfl) ?_
          refine lv_iconst (v := 2) hx hb d_M_count_110 (by decide) ?_
          refine lv_icmp_ne (tgt := 121) hx hb d_M_count_111 (by decide) (fun c_8 => ?_) (fun c_8 => ?_)
          · refine lv_iconst (v := (-1)) hx hb d_M_count_121 (by decide) ?_
            exact W.iret (v := (-1)) hx hb hr (fun t ht hW => ⟨⟨(-1), su τ 0 0 0, rfl, ⟨(by unfold cnM; rw [if_neg (fun h9 => Int32.not_lt.mpr c_5 h9.2), if_neg c_6, if_neg c_7, if_neg c_8]), rfl⟩, by rw [ht]; exact hP, va_K.moved hW.alike hK, hD⟩, hS.F ht⟩) hS.2.2 d_M_count_122
          · refine lv_aload_n hx hb d_M_count_114 rfl (lv_at hl 0 rfl) ?_
            refine rl_get (r := 0) (ci := 4) (v := .int (τ 0 3)) (C := R_M) (T := F_M) (N := 25) hx hb hG in_M hown hK hP (by decide) gM_0 rfl 3 (by decide) kw_584 (fun _ h9 => h9) rfl d_M_count_115 ?_
            refine lv_goto (tgt := 122) hx hb d_M_count_118 (by decide) ?_
            exact W.iret (v := τ 0 3) hx hb hr (fun t ht hW => ⟨⟨τ 0 3, su τ 0 0 0, rfl, ⟨(by unfold cnM; rw [if_neg (fun h9 => Int32.not_lt.mpr c_5 h9.2), if_neg c_6, if_neg c_7, if_pos c_8]), rfl⟩, by rw [ht]; exact hP, va_K.moved hW.alike hK, hD⟩, hS.F ht⟩) hS.2.2 d_M_count_122
        · refine lv_aload_n hx hb d_M_count_102 rfl (lv_at hl 0 rfl) ?_
          refine rl_get (r := 0) (ci := 4) (v := .int (nI nm)) (C := R_M) (T := F_M) (N := 25) hx hb hG in_M hown hK hP (by decide) gM_0 rfl 2 (by decide) kw_583 (fun _ h9 => h9) (show _ = some (Value.int (nI nm)) by rw [← hM.2.1]; rfl) d_M_count_103 ?_
          refine lv_goto (tgt := 122) hx hb d_M_count_106 (by decide) ?_
          exact W.iret (v := nI nm) hx hb hr (fun t ht hW => ⟨⟨nI nm, su τ 0 0 0, rfl, ⟨(by unfold cnM; rw [if_neg (fun h9 => Int32.not_lt.mpr c_5 h9.2), if_neg c_6, if_pos c_7]), rfl⟩, by rw [ht]; exact hP, va_K.moved hW.alike hK, hD⟩, hS.F ht⟩) hS.2.2 d_M_count_122
      · refine lv_aload_n hx hb d_M_count_90 rfl (lv_at hl 0 rfl) ?_
        refine rl_get (r := 0) (ci := 4) (v := .int (nI n)) (C := R_M) (T := F_M) (N := 25) hx hb hG in_M hown hK hP (by decide) gM_0 rfl 1 (by decide) kw_582 (fun _ h9 => h9) (show _ = some (Value.int (nI n)) by rw [← hM.1]; rfl) d_M_count_91 ?_
        refine lv_goto (tgt := 122) hx hb d_M_count_94 (by decide) ?_
        exact W.iret (v := nI n) hx hb hr (fun t ht hW => ⟨⟨nI n, su τ 0 0 0, rfl, ⟨(by unfold cnM; rw [if_neg (fun h9 => Int32.not_lt.mpr c_5 h9.2), if_pos c_6]), rfl⟩, by rw [ht]; exact hP, va_K.moved hW.alike hK, hD⟩, hS.F ht⟩) hS.2.2 d_M_count_122
    · have hd10 := m10_in (Int32.not_lt.mp c_1) (Int32.not_le.mp c_5)
      refine lv_iload_n hx hb d_M_count_17 rfl (lv_at hl 1 rfl) ?_
      refine lv_bipush (v := 10) hx hb d_M_count_18 (by decide) ?_
      refine lv_irem hx hb d_M_count_20 (by decide) ?_
      refine lv_istore_n (lv' := [(2, .int (p0 - p0 / 10 * 10)), (0, .ref (ad 0)), (1, .int p0)]) hx hb d_M_count_21 rfl hl (by decide) rfl (fun ls hl => ?_)
      refine lv_iload_n hx hb d_M_count_22 rfl (lv_at hl 2 rfl) ?_
      refine lv_bipush (v := 20) hx hb d_M_count_23 (by decide) ?_
      refine lv_icmp_ge (tgt := 50) hx hb d_M_count_25 (by decide) (fun c_9 => ?_) (fun c_9 => ?_)
      · refine lv_iload_n hx hb d_M_count_50 rfl (lv_at hl 2 rfl) ?_
        refine lv_bipush (v := 30) hx hb d_M_count_51 (by decide) ?_
        refine lv_icmp_ge (tgt := 65) hx hb d_M_count_53 (by decide) (fun c_10 => ?_) (fun c_10 => ?_)
        · refine lv_iload_n hx hb d_M_count_65 rfl (lv_at hl 2 rfl) ?_
          refine lv_bipush (v := 40) hx hb d_M_count_66 (by decide) ?_
          refine lv_icmp_ge (tgt := 79) hx hb d_M_count_68 (by decide) (fun c_11 => ?_) (fun c_11 => ?_)
          · refine lv_aload_n hx hb d_M_count_79 rfl (lv_at hl 1 rfl) ?_
            refine lv_iload_n hx hb d_M_count_80 rfl (lv_at hl 0 rfl) ?_
            refine lv_iconst (v := 1) hx hb d_M_count_81 (by decide) ?_
            refine vp_callSi (W.runV (As := [.int (p0 - p0 / 10 * 10), .int 1]) (rest := []) ⟨hx, hb, hml, hown, hts⟩ (c_M_great l D cs ad (su τ 0 0 0) n nm (Mv_0 hM) (p0 - p0 / 10 * 10) 1) (cwV 2 hts (gw_V kw_746 kw_748 ks_1_7 kw_6 kw_749) rfl rfl rfl (by decide +kernel) ⟨Nat.le_of_ble_eq_true rfl, Nat.le_of_ble_eq_true rfl⟩) (rd_V hP hK (rl_recv hK hP (by decide) gM_0 rfl)) rfl rfl hl.1 rfl (lv_room (Nat.le_of_ble_eq_true rfl)) d_M_count_82 ⟨Nat.zero_le _, Nat.zero_le _⟩) (fun r_12 h_13 => ?_)
            subst h_13
            rw [grM_0]
            exact W.iret (v := grM τ (p0 - p0 / 10 * 10) 1 (4 * nm)) hx hb hr (fun t ht hW => ⟨⟨grM τ (p0 - p0 / 10 * 10) 1 (4 * nm), su τ 0 0 0, rfl, ⟨(by unfold cnM; rw [if_pos ⟨Int32.not_lt.mp c_1, Int32.not_le.mp c_5⟩]; rw [if_neg (Int32.not_lt.mpr c_9), if_neg (Int32.not_lt.mpr c_10), if_neg (Int32.not_lt.mpr c_11)]), rfl⟩, by rw [ht]; exact hP, va_K.moved hW.alike hK, hD⟩, hS.F ht⟩) hS.2.2 d_M_count_85
          · refine lv_aload_n hx hb d_M_count_71 rfl (lv_at hl 1 rfl) ?_
            refine lv_iload_n hx hb d_M_count_72 rfl (lv_at hl 0 rfl) ?_
            refine vp_callSi (W.runV (As := [.int (p0 - p0 / 10 * 10)]) (rest := []) ⟨hx, hb, hml, hown, hts⟩ (c_M_costsOf l D cs ad (su τ 0 0 0) n nm (Mv_0 hM) (p0 - p0 / 10 * 10)) (cwV 1 hts (gw_V kw_778 kw_780 ks_1_11 kw_6 kw_781) rfl rfl rfl (by decide +kernel) ⟨Nat.le_of_ble_eq_true rfl, Nat.le_of_ble_eq_true rfl⟩) (rd_V hP hK (rl_recv hK hP (by decide) gM_0 rfl)) rfl rfl hl.1 rfl (lv_room (Nat.le_of_ble_eq_true rfl)) d_M_count_73 ⟨Nat.zero_le _, Nat.zero_le _⟩) (fun r_14 h_15 => ?_)
            subst h_15
            rw [coM_0]
            refine lv_goto (tgt := 85) hx hb d_M_count_76 (by decide) ?_
            exact W.iret (v := coM τ nm (p0 - p0 / 10 * 10) n) hx hb hr (fun t ht hW => ⟨⟨coM τ nm (p0 - p0 / 10 * 10) n, su τ 0 0 0, rfl, ⟨(by unfold cnM; rw [if_pos ⟨Int32.not_lt.mp c_1, Int32.not_le.mp c_5⟩]; rw [if_neg (Int32.not_lt.mpr c_9), if_neg (Int32.not_lt.mpr c_10), if_pos (Int32.not_le.mp c_11)]), rfl⟩, by rw [ht]; exact hP, va_K.moved hW.alike hK, hD⟩, hS.F ht⟩) hS.2.2 d_M_count_85
        · refine lv_aload_n hx hb d_M_count_56 rfl (lv_at hl 1 rfl) ?_
          refine rl_get (r := 0) (ci := 4) (v := .ref (ad 17)) (C := R_M) (T := F_M) (N := 25) hx hb hG in_M hown hK hP (by decide) gM_0 rfl 17 (by decide) kw_598 (fun _ h9 => h9) rfl d_M_count_57 ?_
          refine lv_iload_n hx hb d_M_count_60 rfl (lv_at hl 0 rfl) ?_
          refine rl_iald (r := 17) (i := p0 - p0 / 10 * 10) (n := 10) hx hb hK hP (by decide) 0 rfl rfl hd10 d_M_count_61 ?_
          refine W.eq (g2 := F0 m 62 ls [.int (τ 17 ((p0 - p0 / 10 * 10).toNatClampNeg))]) rfl ?_
          refine lv_goto (tgt := 85) hx hb d_M_count_62 (by decide) ?_
          exact W.iret (v := τ 17 ((p0 - p0 / 10 * 10).toNatClampNeg)) hx hb hr (fun t ht hW => ⟨⟨τ 17 ((p0 - p0 / 10 * 10).toNatClampNeg), su τ 0 0 0, rfl, ⟨(by unfold cnM; rw [if_pos ⟨Int32.not_lt.mp c_1, Int32.not_le.mp c_5⟩]; rw [if_neg (Int32.not_lt.mpr c_9), if_pos (Int32.not_le.mp c_10)]), rfl⟩, by rw [ht]; exact hP, va_K.moved hW.alike hK, hD⟩, hS.F ht⟩) hS.2.2 d_M_count_85
      · refine lv_aload_n hx hb d_M_count_28 rfl (lv_at hl 1 rfl) ?_
        refine rl_get (r := 0) (ci := 4) (v := .ref (ad 16)) (C := R_M) (T := F_M) (N := 25) hx hb hG in_M hown hK hP (by decide) gM_0 rfl 16 (by decide) kw_597 (fun _ h9 => h9) rfl d_M_count_29 ?_
        refine lv_iload_n hx hb d_M_count_32 rfl (lv_at hl 0 rfl) ?_
        refine rl_zald (r := 16) (i := p0 - p0 / 10 * 10) (n := 10) hx hb hK hP (by decide) 1 rfl rfl hd10 d_M_count_33 ?_
        refine W.eq (g2 := F0 m 34 ls [.int (τ 16 ((p0 - p0 / 10 * 10).toNatClampNeg))]) rfl ?_
        refine lv_if_eq (tgt := 41) hx hb d_M_count_34 (by decide) (fun c_16 => ?_) (fun c_16 => ?_)
        · refine lv_aload_n hx hb d_M_count_41 rfl (lv_at hl 1 rfl) ?_
          refine rl_get (r := 0) (ci := 4) (v := .ref (ad 15)) (C := R_M) (T := F_M) (N := 25) hx hb hG in_M hown hK hP (by decide) gM_0 rfl 15 (by decide) kw_596 (fun _ h9 => h9) rfl d_M_count_42 ?_
          refine lv_iload_n hx hb d_M_count_45 rfl (lv_at hl 0 rfl) ?_
          refine rl_iald (r := 15) (i := p0 - p0 / 10 * 10) (n := 10) hx hb hK hP (by decide) 0 rfl rfl hd10 d_M_count_46 ?_
          refine W.eq (g2 := F0 m 47 ls [.int (τ 15 ((p0 - p0 / 10 * 10).toNatClampNeg))]) rfl ?_
          refine lv_goto (tgt := 85) hx hb d_M_count_47 (by decide) ?_
          exact W.iret (v := τ 15 ((p0 - p0 / 10 * 10).toNatClampNeg)) hx hb hr (fun t ht hW => ⟨⟨τ 15 ((p0 - p0 / 10 * 10).toNatClampNeg), su τ 0 0 0, rfl, ⟨(by unfold cnM; rw [if_pos ⟨Int32.not_lt.mp c_1, Int32.not_le.mp c_5⟩]; rw [if_pos (Int32.not_le.mp c_9)]; exact (if_pos c_16).symm), rfl⟩, by rw [ht]; exact hP, va_K.moved hW.alike hK, hD⟩, hS.F ht⟩) hS.2.2 d_M_count_85
        · refine lv_iconst (v := (-1)) hx hb d_M_count_37 (by decide) ?_
          refine lv_goto (tgt := 85) hx hb d_M_count_38 (by decide) ?_
          exact W.iret (v := (-1)) hx hb hr (fun t ht hW => ⟨⟨(-1), su τ 0 0 0, rfl, ⟨(by unfold cnM; rw [if_pos ⟨Int32.not_lt.mp c_1, Int32.not_le.mp c_5⟩]; rw [if_pos (Int32.not_le.mp c_9)]; exact (if_neg c_16).symm), rfl⟩, by rw [ht]; exact hP, va_K.moved hW.alike hK, hD⟩, hS.F ht⟩) hS.2.2 d_M_count_85
