theorem slM_0 {τ : Nat → Nat → Int32} {p x : Int32} : ∀ k : Nat, slM (su τ 0 0 x) p k = slM τ p k
  | 0 => rfl
  | k + 1 => by
    show (if (su τ 0 0 x) 20 k = p then nI k else slM (su τ 0 0 x) p k) = if τ 20 k = p then nI k else slM τ p k
    rw [slM_0 k, su_ne (by decide)]
theorem smM_0 {τ : Nat → Nat → Int32} {p x : Int32} : ∀ k : Nat, smM (su τ 0 0 x) p k = smM τ p k
  | 0 => rfl
  | k + 1 => by
    show smM (su τ 0 0 x) p k + (if (su τ 0 0 x) 19 k = p then 1 else 0) = smM τ p k + (if τ 19 k = p then 1 else 0)
    rw [smM_0 k, su_ne (by decide)]
theorem dfM_0 {τ : Nat → Nat → Int32} {x : Int32} {i q : Nat} : dfM (su τ 0 0 x) i q = dfM τ i q := by
  unfold dfM dS
  rw [su_ne (by decide), su_ne (by decide), su_ne (by decide), su_ne (by decide), su_ne (by decide), su_ne (by decide)]
theorem grM_0 {τ : Nat → Nat → Int32} {p b x : Int32} : ∀ k : Nat, grM (su τ 0 0 x) p b k = grM τ p b k
  | 0 => rfl
  | k + 1 => by
    show grM (su τ 0 0 x) p b k + (if dS (su τ 0 0 x) (k / 4) = p ∧ dfM (su τ 0 0 x) (k / 4) (k % 4) = 2 ∧ (¬ b = 0 ∨ (su τ 0 0 x) 22 k = 0) then 1 else 0) = grM τ p b k + (if dS τ (k / 4) = p ∧ dfM τ (k / 4) (k % 4) = 2 ∧ (¬ b = 0 ∨ τ 22 k = 0) then 1 else 0)
    rw [grM_0 k, dfM_0, su_ne (by decide), show dS (su τ 0 0 x) (k / 4) = dS τ (k / 4) by unfold dS; rw [su_ne (by decide), su_ne (by decide)]]
theorem coM_0 {τ : Nat → Nat → Int32} {nm : Nat} {p x : Int32} : ∀ k : Nat, coM (su τ 0 0 x) nm p k = coM τ nm p k
  | 0 => rfl
  | k + 1 => by
    show coM (su τ 0 0 x) nm p k + (if (su τ 0 0 x) 5 k = p then 100 * ((su τ 0 0 x) 6 k + 1) * (su τ 0 0 x) 14 k + 50 * smM (su τ 0 0 x) (nI k) nm else 0) = coM τ nm p k + (if τ 5 k = p then 100 * (τ 6 k + 1) * τ 14 k + 50 * smM τ (nI k) nm else 0)
    rw [coM_0 k, smM_0, su_ne (by decide), su_ne (by decide), su_ne (by decide)]
set_option maxHeartbeats 4000000 in
set_option maxRecDepth 100000 in
theorem c_M_right (l : Launch) (D : va_G) (cs : Nat → ClassId) (ad : Nat → Nat) (τ : Nat → Nat → Int32) (n nm : Nat) (hM : Mv τ n nm) (hz : ∀ k, k < 60 → τ 4 k = 0 ∨ τ 4 k = 1) (sz : Nat) (p0 p1 p2 : Int32) (hb2 : p2 = 0 ∨ p2 = 1) : Met l y_M_right (Cond.code y_M_right b_M_right 4 (some .boolean) :: GW) ({ frames := 2, cells := 0, slots := 0, locals := 64 }) (va_Pc [.ref (ad 0), .int p0, .int p1, .int p2] (wr_B D cs (wM cs ad τ) sz)) (va_Qi (fun r (u : Nat → Nat → Int32) => (¬ ((0 ≤ p0 ∧ p0 < 10) ∧ (0 ≤ p1 ∧ p1 ≤ 5)) ∧ r = 0 ∧ u = su τ 0 0 0) ∨ ∃ a b, a < 10 ∧ b < 6 ∧ p0 = nI a ∧ p1 = nI b ∧ ((τ 4 (6 * a + b) = p2 ∧ r = 0 ∧ u = su τ 0 0 0) ∨ (¬ τ 4 (6 * a + b) = p2 ∧ r = 1 ∧ u = su (su τ 0 0 0) 4 (6 * a + b) p2))) (fun u => wr_T D cs (wM cs ad u) (va_A (wM cs ad τ) sz)) (va_A (wM cs ad τ) sz)) 0 0 (va_A (wM cs ad τ) sz) := by
  refine Met.ofW (cc := b_M_right) (maxL := 4) (ret := (some .boolean)) (by decide) rfl ?_
  intro p e s m args below meth c s₁ B hml hv
  obtain ⟨rfl, hsz, hP, hK, hD0⟩ := hv
  have hx := B.exec
  have hb := B.bytes
  have hr := B.returns
  have hts := atoms_spec (ws := Cond.code y_M_right b_M_right 4 (some .boolean) :: GW) B.pre
  have hG : ∀ w ∈ GW, w.before _ s = true := fun w h => hts w (List.mem_cons_of_mem _ h)
  have hown : s.vm.findClass R_M = some m.cls := findClass_of_methodNamed B.named
  have hlocks := B.notSynchronized
  subst hsz
  have hD := hD0.self (sz := s.heap.size)
  generalize hAe : va_A (wM cs ad τ) s.heap.size = A at hD ⊢
  have hA : ∀ q : Nat, s.heap.size ≤ q → A q := fun q h => by rw [← hAe]; exact Or.inr h
  have hS : va_S A s.heap s.heap [] := va_S.rf
  have hnar2 : vp_nar .boolean p2 = p2 := by rcases hb2 with h | h <;> rw [h] <;> rfl
  have hn30 : n ≤ 30 := hM.2.2.1
  have hm40 : nm ≤ 40 := hM.2.2.2.1
  have hl := lv_entry ([.ref (ad 0), .int p0, .int p1, .int p2]) (n := 4) (Nat.le_of_ble_eq_true rfl)
  rw [lg_entry_eq]
  generalize (lg_sl ([.ref (ad 0), .int p0, .int p1, .int p2]) ++ List.replicate (4 - (lg_sl ([.ref (ad 0), .int p0, .int p1, .int p2])).length) Slot.unset).toArray = ls at hl ⊢
  have hl : lv_has ls 4 [(0, .ref (ad 0)), (1, .int p0), (2, .int p1), (3, .int p2)] := hl
  refine lv_aload_n hx hb d_M_right_0 rfl (lv_at hl 0 rfl) ?_
  refine lv_iconst (v := 0) hx hb d_M_right_1 (by decide) ?_
  refine rl_put (r := 0) (ci := 4) (v := .int 0) (ty := .int) (C := R_M) (T := F_M) (N := 25) hx hb hG in_M T_M T_M_ok n_M hown hK hP hD hS (by decide) gM_0 rfl 0 (by decide) kw_581 (fun _ h9 => h9) rfl (by decide +kernel) rfl rfl (Nat.le_of_ble_eq_true rfl) d_M_right_2 (fun H locs hP hD hS => ?_)
  rw [wM_sc (by decide)] at hP hD
  refine lv_iload_n hx hb d_M_right_5 rfl (lv_at hl 1 rfl) ?_
  refine vp_callSi (W.runS (As := [.int p0]) (rest := []) ⟨hx, hb, hml, hown, hts⟩ (c_M_isTen l p0) (va_cwS 1 hts (gw_S kw_661 kw_662 kw_6 kw_663) rfl rfl rfl (by decide +kernel) ⟨Nat.le_of_ble_eq_true rfl, Nat.le_of_ble_eq_true rfl⟩) ⟨fun _ _ _ _ q => q, fun U _ _ => ⟨rfl, trivial⟩⟩ rfl rfl hl.1 rfl (lv_room (Nat.le_of_ble_eq_true rfl)) d_M_right_6 ⟨Nat.zero_le _, Nat.zero_le _⟩) (fun r_1 h_2 => ?_)
  subst h_2
  refine lv_if_eq (tgt := 31) hx hb d_M_right_9 (by decide) (fun c_3 => ?_) (fun c_3 => ?_)
  · refine lv_iconst (v := 0) hx hb d_M_right_31 (by decide) ?_
    exact W.zret (v := 0) (ty := .boolean) hx hb hr rfl (fun t ht hW => ⟨⟨0, su τ 0 0 0, rfl, Or.inl ⟨fun h9 => (b2i_eq0.mp c_3) (h9.1), rfl, rfl⟩, by rw [ht]; exact hP, va_K.moved hW.alike hK, hD⟩, hS.F ht⟩) hS.2.2 d_M_right_32
  · obtain ⟨a, ha, rfl⟩ := at10 (Classical.not_not.mp (fun h => c_3 (b2i_eq0.mpr h)))
    refine lv_iload_n hx hb d_M_right_12 rfl (lv_at hl 2 rfl) ?_
    refine lv_iconst (v := 0) hx hb d_M_right_13 (by decide) ?_
    refine lv_iconst (v := 5) hx hb d_M_right_14 (by decide) ?_
    refine vp_callSi (W.runS (As := [.int p1, .int 0, .int 5]) (rest := []) ⟨hx, hb, hml, hown, hts⟩ (c_M_in l p1 0 5) (va_cwS 3 hts (gw_S kw_664 kw_665 kw_6 kw_666) rfl rfl rfl (by decide +kernel) ⟨Nat.le_of_ble_eq_true rfl, Nat.le_of_ble_eq_true rfl⟩) ⟨fun _ _ _ _ q => q, fun U _ _ => ⟨rfl, trivial⟩⟩ rfl rfl hl.1 rfl (lv_room (Nat.le_of_ble_eq_true rfl)) d_M_right_15 ⟨Nat.zero_le _, Nat.zero_le _⟩) (fun r_4 h_5 => ?_)
    subst h_5
    refine lv_if_eq (tgt := 31) hx hb d_M_right_18 (by decide) (fun c_6 => ?_) (fun c_6 => ?_)
    · refine lv_iconst (v := 0) hx hb d_M_right_31 (by decide) ?_
      exact W.zret (v := 0) (ty := .boolean) hx hb hr rfl (fun t ht hW => ⟨⟨0, su τ 0 0 0, rfl, Or.inl ⟨fun h9 => (b2i_eq0.mp c_6) (h9.2), rfl, rfl⟩, by rw [ht]; exact hP, va_K.moved hW.alike hK, hD⟩, hS.F ht⟩) hS.2.2 d_M_right_32
    · obtain ⟨b, hb9, rfl⟩ := atN (M := 5) (N := 5) (by decide) (Classical.not_not.mp (fun h => c_6 (b2i_eq0.mpr h)))
      refine lv_aload_n hx hb d_M_right_21 rfl (lv_at hl 0 rfl) ?_
      refine lv_iload_n hx hb d_M_right_22 rfl (lv_at hl 1 rfl) ?_
      refine lv_iload_n hx hb d_M_right_23 rfl (lv_at hl 2 rfl) ?_
      refine vp_callSi (W.runV (As := [.int (nI a), .int (nI b)]) (rest := []) ⟨hx, hb, hml, hown, hts⟩ (c_M_may l D cs ad (su τ 0 0 0) n nm (Mv_0 hM) a b (by omega) (by omega) (hz _ (by omega))) (cwV 2 hts (gw_V kw_667 kw_669 ks_1_0 kw_6 kw_670) rfl rfl rfl (by decide +kernel) ⟨Nat.le_of_ble_eq_true rfl, Nat.le_of_ble_eq_true rfl⟩) (rd_V hP hK (rl_recv hK hP (by decide) gM_0 rfl)) rfl rfl hl.1 rfl (lv_room (Nat.le_of_ble_eq_true rfl)) d_M_right_24 ⟨Nat.zero_le _, Nat.zero_le _⟩) (fun r_7 h_8 => ?_)
      subst h_8
      refine W.eq (g2 := F0 m 27 ls [.int (τ 4 (6 * a + b))]) rfl ?_
      refine lv_iload_n hx hb d_M_right_27 rfl (lv_at hl 3 rfl) ?_
      refine lv_icmp_ne (tgt := 33) hx hb d_M_right_28 (by decide) (fun c_9 => ?_) (fun c_9 => ?_)
      · refine lv_aload_n hx hb d_M_right_33 rfl (lv_at hl 0 rfl) ?_
        refine rl_get (r := 0) (ci := 4) (v := .ref (ad 4)) (C := R_M) (T := F_M) (N := 25) hx hb hG in_M hown hK hP (by decide) gM_0 rfl 4 (by decide) kw_585 (fun _ h9 => h9) rfl d_M_right_34 ?_
        refine lv_bipush (v := 6) hx hb d_M_right_37 (by decide) ?_
        refine lv_iload_n hx hb d_M_right_39 rfl (lv_at hl 1 rfl) ?_
        refine lv_imul hx hb d_M_right_40 ?_
        refine lv_iload_n hx hb d_M_right_41 rfl (lv_at hl 2 rfl) ?_
        refine lv_iadd hx hb d_M_right_42 ?_
        refine lv_iload_n hx hb d_M_right_43 rfl (lv_at hl 3 rfl) ?_
        rw [ix6]
        refine rl_zast (r := 4) (i := nI (6 * a + b)) (x := p2) (n := 60) hx hb hK hP hD hS (by decide) 1 rfl rfl (vp_in_nI (by omega) (by decide)) d_M_right_44 (fun H locs hP hD hS => ?_)
        rw [nI_clamp (by omega)] at hP hD
        rw [hnar2] at hP hD
        rw [show rl_w RM ad (va_up (gM cs ad (su τ 0 0 0)) 4 (arI (clM cs 4) 60 (upd ((su τ 0 0 0) 4) (6 * a + b) p2))) = wM cs ad (su (su τ 0 0 0) 4 (6 * a + b) p2) from wM_arr (r := 4) (by decide)] at hP hD
        refine lv_iconst (v := 1) hx hb d_M_right_45 (by decide) ?_
        exact W.zret (v := 1) (ty := .boolean) hx hb hr rfl (fun t ht hW => ⟨⟨1, su (su τ 0 0 0) 4 (6 * a + b) p2, rfl, Or.inr ⟨a, b, ha, hb9, rfl, rfl, Or.inr ⟨c_9, rfl, rfl⟩⟩, by rw [ht]; exact hP, va_K.moved hW.alike hK, hD⟩, hS.F ht⟩) hS.2.2 d_M_right_46
      · refine lv_iconst (v := 0) hx hb d_M_right_31 (by decide) ?_
        exact W.zret (v := 0) (ty := .boolean) hx hb hr rfl (fun t ht hW => ⟨⟨0, su τ 0 0 0, rfl, Or.inr ⟨a, b, ha, hb9, rfl, rfl, Or.inl ⟨c_9, rfl, rfl⟩⟩, by rw [ht]; exact hP, va_K.moved hW.alike hK, hD⟩, hS.F ht⟩) hS.2.2 d_M_right_32
set_option maxHeartbeats 4000000 in
set_option maxRecDepth 100000 in
theorem c_M_inspection (l : Launch) (D : va_G) (cs : Nat → ClassId) (ad : Nat → Nat) (τ : Nat → Nat → Int32) (n nm : Nat) (hM : Mv τ n nm) (sz : Nat) (p0 p1 p2 : Int32) : Met l y_M_inspection (Cond.code y_M_inspection b_M_inspection 4 (some .int) :: GW) ({ frames := 2, cells := 0, slots := 0, locals := 64 }) (va_Pc [.ref (ad 0), .int p0, .int p1, .int p2] (wr_B D cs (wM cs ad τ) sz)) (va_Qi (fun r (u : Nat → Nat → Int32) => (¬ ((0 ≤ p0 ∧ p0 < 10) ∧ (0 ≤ p1 ∧ p1 ≤ 4) ∧ (τ 0 3 ≤ p2 ∧ p2 ≤ 100000)) ∧ r = 0 ∧ u = su τ 0 0 1) ∨ (((0 ≤ p0 ∧ p0 < 10) ∧ (0 ≤ p1 ∧ p1 ≤ 4) ∧ (τ 0 3 ≤ p2 ∧ p2 ≤ 100000)) ∧ n = 30 ∧ r = 0 ∧ u = su τ 0 0 2) ∨ (((0 ≤ p0 ∧ p0 < 10) ∧ (0 ≤ p1 ∧ p1 ≤ 4) ∧ (τ 0 3 ≤ p2 ∧ p2 ≤ 100000)) ∧ n < 30 ∧ r = nI n ∧ u = su (su (su (su (su (su τ 0 0 0) 5 n p0) 6 n p1) 7 n p2) 13 n (-1)) 0 1 (nI (n + 1)))) (fun u => wr_T D cs (wM cs ad u) (va_A (wM cs ad τ) sz)) (va_A (wM cs ad τ) sz)) 0 0 (va_A (wM cs ad τ) sz) := by
  refine Met.ofW (cc := b_M_inspection) (maxL := 4) (ret := (some .int)) (by decide) rfl ?_
  intro p e s m args below meth c s₁ B hml hv
  obtain ⟨rfl, hsz, hP, hK, hD0⟩ := hv
  have hx := B.exec
  have hb := B.bytes
  have hr := B.returns
  have hts := atoms_spec (ws := Cond.code y_M_inspection b_M_inspection 4 (some .int) :: GW) B.pre
  have hG : ∀ w ∈ GW, w.before _ s = true := fun w h => hts w (List.mem_cons_of_mem _ h)
  have hown : s.vm.findClass R_M = some m.cls := findClass_of_methodNamed B.named
  have hlocks := B.notSynchronized
  subst hsz
  have hD := hD0.self (sz := s.heap.size)
  generalize hAe : va_A (wM cs ad τ) s.heap.size = A at hD ⊢
  have hA : ∀ q : Nat, s.heap.size ≤ q → A q := fun q h => by rw [← hAe]; exact Or.inr h
  have hS : va_S A s.heap s.heap [] := va_S.rf
  have hn30 : n ≤ 30 := hM.2.2.1
  have hm40 : nm ≤ 40 := hM.2.2.2.1
  have hl := lv_entry ([.ref (ad 0), .int p0, .int p1, .int p2]) (n := 4) (Nat.le_of_ble_eq_true rfl)
  rw [lg_entry_eq]
  generalize (lg_sl ([.ref (ad 0), .int p0, .int p1, .int p2]) ++ List.replicate (4 - (lg_sl ([.ref (ad 0), .int p0, .int p1, .int p2])).length) Slot.unset).toArray = ls at hl ⊢
  have hl : lv_has ls 4 [(0, .ref (ad 0)), (1, .int p0), (2, .int p1), (3, .int p2)] := hl
  refine lv_aload_n hx hb d_M_inspection_0 rfl (lv_at hl 0 rfl) ?_
  refine lv_iload_n hx hb d_M_inspection_1 rfl (lv_at hl 1 rfl) ?_
  refine vp_callSi (W.runS (As := [.int p0]) (rest := [.ref (ad 0)]) ⟨hx, hb, hml, hown, hts⟩ (c_M_isTen l p0) (va_cwS 1 hts (gw_S kw_661 kw_662 kw_6 kw_663) rfl rfl rfl (by decide +kernel) ⟨Nat.le_of_ble_eq_true rfl, Nat.le_of_ble_eq_true rfl⟩) ⟨fun _ _ _ _ q => q, fun U _ _ => ⟨rfl, trivial⟩⟩ rfl rfl hl.1 rfl (lv_room (Nat.le_of_ble_eq_true rfl)) d_M_inspection_2 ⟨Nat.zero_le _, Nat.zero_le _⟩) (fun r_1 h_2 => ?_)
  subst h_2
  refine lv_if_eq (tgt := 25) hx hb d_M_inspection_5 (by decide) (fun c_3 => ?_) (fun c_3 => ?_)
  · refine lv_iconst (v := 1) hx hb d_M_inspection_25 (by decide) ?_
    refine lv_goto (tgt := 43) hx hb d_M_inspection_26 (by decide) ?_
    refine rl_put (r := 0) (ci := 4) (v := .int 1) (ty := .int) (C := R_M) (T := F_M) (N := 25) hx hb hG in_M T_M T_M_ok n_M hown hK hP hD hS (by decide) gM_0 rfl 0 (by decide) kw_581 (fun _ h9 => h9) rfl (by decide +kernel) rfl rfl (Nat.le_of_ble_eq_true rfl) d_M_inspection_43 (fun H locs hP hD hS => ?_)
    rw [wM_sc (by decide)] at hP hD
    refine lv_aload_n hx hb d_M_inspection_46 rfl (lv_at hl 0 rfl) ?_
    refine rl_get (r := 0) (ci := 4) (v := .int 1) (C := R_M) (T := F_M) (N := 25) hx hb hG in_M hown hK hP (by decide) gM_0 rfl 0 (by decide) kw_581 (fun _ h9 => h9) rfl d_M_inspection_47 ?_
    refine lv_if_le (tgt := 55) hx hb d_M_inspection_50 (by decide) (fun c_4 => ?_) (fun c_4 => ?_)
    · exact absurd c_4 (by decide)
    · refine lv_iconst (v := 0) hx hb d_M_inspection_53 (by decide) ?_
      exact W.iret (v := 0) hx hb hr (fun t ht hW => ⟨⟨0, su τ 0 0 1, rfl, Or.inl ⟨fun h9 => (b2i_eq0.mp c_3) (h9.1), rfl, rfl⟩, by rw [ht]; exact hP, va_K.moved hW.alike hK, hD⟩, hS.F ht⟩) hS.2.2 d_M_inspection_54
  · refine lv_iload_n hx hb d_M_inspection_8 rfl (lv_at hl 2 rfl) ?_
    refine lv_iconst (v := 0) hx hb d_M_inspection_9 (by decide) ?_
    refine lv_iconst (v := 4) hx hb d_M_inspection_10 (by decide) ?_
    refine vp_callSi (W.runS (As := [.int p1, .int 0, .int 4]) (rest := [.ref (ad 0)]) ⟨hx, hb, hml, hown, hts⟩ (c_M_in l p1 0 4) (va_cwS 3 hts (gw_S kw_664 kw_665 kw_6 kw_666) rfl rfl rfl (by decide +kernel) ⟨Nat.le_of_ble_eq_true rfl, Nat.le_of_ble_eq_true rfl⟩) ⟨fun _ _ _ _ q => q, fun U _ _ => ⟨rfl, trivial⟩⟩ rfl rfl hl.1 rfl (lv_room (Nat.le_of_ble_eq_true rfl)) d_M_inspection_11 ⟨Nat.zero_le _, Nat.zero_le _⟩) (fun r_5 h_6 => ?_)
    subst h_6
    refine lv_if_eq (tgt := 25) hx hb d_M_inspection_14 (by decide) (fun c_7 => ?_) (fun c_7 => ?_)
    · refine lv_iconst (v := 1) hx hb d_M_inspection_25 (by decide) ?_
      refine lv_goto (tgt := 43) hx hb d_M_inspection_26 (by decide) ?_
      refine rl_put (r := 0) (ci := 4) (v := .int 1) (ty := .int) (C := R_M) (T := F_M) (N := 25) hx hb hG in_M T_M T_M_ok n_M hown hK hP hD hS (by decide) gM_0 rfl 0 (by decide) kw_581 (fun _ h9 => h9) rfl (by decide +kernel) rfl rfl (Nat.le_of_ble_eq_true rfl) d_M_inspection_43 (fun H locs hP hD hS => ?_)
      rw [wM_sc (by decide)] at hP hD
      refine lv_aload_n hx hb d_M_inspection_46 rfl (lv_at hl 0 rfl) ?_
      refine rl_get (r := 0) (ci := 4) (v := .int 1) (C := R_M) (T := F_M) (N := 25) hx hb hG in_M hown hK hP (by decide) gM_0 rfl 0 (by decide) kw_581 (fun _ h9 => h9) rfl d_M_inspection_47 ?_
      refine lv_if_le (tgt := 55) hx hb d_M_inspection_50 (by decide) (fun c_8 => ?_) (fun c_8 => ?_)
      · exact absurd c_8 (by decide)
      · refine lv_iconst (v := 0) hx hb d_M_inspection_53 (by decide) ?_
        exact W.iret (v := 0) hx hb hr (fun t ht hW => ⟨⟨0, su τ 0 0 1, rfl, Or.inl ⟨fun h9 => (b2i_eq0.mp c_7) (h9.2.1), rfl, rfl⟩, by rw [ht]; exact hP, va_K.moved hW.alike hK, hD⟩, hS.F ht⟩) hS.2.2 d_M_inspection_54
    · refine lv_aload_n hx hb d_M_inspection_17 rfl (lv_at hl 0 rfl) ?_
      refine lv_iload_n hx hb d_M_inspection_18 rfl (lv_at hl 3 rfl) ?_
      refine vp_callSi (W.runV (As := [.int p2]) (rest := [.ref (ad 0)]) ⟨hx, hb, hml, hown, hts⟩ (c_M_isTime l D cs ad τ n nm hM p2) (cwV 1 hts (gw_V kw_675 kw_677 ks_1_1 kw_6 kw_678) rfl rfl rfl (by decide +kernel) ⟨Nat.le_of_ble_eq_true rfl, Nat.le_of_ble_eq_true rfl⟩) (rd_V hP hK (rl_recv hK hP (by decide) gM_0 rfl)) rfl rfl hl.1 rfl (lv_room (Nat.le_of_ble_eq_true rfl)) d_M_inspection_19 ⟨Nat.zero_le _, Nat.zero_le _⟩) (fun r_9 h_10 => ?_)
      subst h_10
      refine lv_if_ne (tgt := 29) hx hb d_M_inspection_22 (by decide) (fun c_11 => ?_) (fun c_11 => ?_)
      · refine lv_aload_n hx hb d_M_inspection_29 rfl (lv_at hl 0 rfl) ?_
        refine rl_get (r := 0) (ci := 4) (v := .int (nI n)) (C := R_M) (T := F_M) (N := 25) hx hb hG in_M hown hK hP (by decide) gM_0 rfl 1 (by decide) kw_582 (fun _ h9 => h9) (show _ = some (Value.int (nI n)) by rw [← hM.1]; rfl) d_M_inspection_30 ?_
        refine lv_bipush (v := 30) hx hb d_M_inspection_33 (by decide) ?_
        refine lv_icmp_ne (tgt := 42) hx hb d_M_inspection_35 (by decide) (fun c_12 => ?_) (fun c_12 => ?_)
        · have hn9 : n < 30 := Nat.lt_of_le_of_ne hn30 (fun h9 => c_12 (by rw [h9]; rfl))
          refine lv_iconst (v := 0) hx hb d_M_inspection_42 (by decide) ?_
          refine rl_put (r := 0) (ci := 4) (v := .int 0) (ty := .int) (C := R_M) (T := F_M) (N := 25) hx hb hG in_M T_M T_M_ok n_M hown hK hP hD hS (by decide) gM_0 rfl 0 (by decide) kw_581 (fun _ h9 => h9) rfl (by decide +kernel) rfl rfl (Nat.le_of_ble_eq_true rfl) d_M_inspection_43 (fun H locs hP hD hS => ?_)
          rw [wM_sc (by decide)] at hP hD
          refine lv_aload_n hx hb d_M_inspection_46 rfl (lv_at hl 0 rfl) ?_
          refine rl_get (r := 0) (ci := 4) (v := .int 0) (C := R_M) (T := F_M) (N := 25) hx hb hG in_M hown hK hP (by decide) gM_0 rfl 0 (by decide) kw_581 (fun _ h9 => h9) rfl d_M_inspection_47 ?_
          refine lv_if_le (tgt := 55) hx hb d_M_inspection_50 (by decide) (fun c_13 => ?_) (fun c_13 => ?_)
          · refine lv_aload_n hx hb d_M_inspection_55 rfl (lv_at hl 0 rfl) ?_
            refine rl_get (r := 0) (ci := 4) (v := .ref (ad 5)) (C := R_M) (T := F_M) (N := 25) hx hb hG in_M hown hK hP (by decide) gM_0 rfl 5 (by decide) kw_586 (fun _ h9 => h9) rfl d_M_inspection_56 ?_
            refine lv_aload_n hx hb d_M_inspection_59 rfl (lv_at hl 0 rfl) ?_
            refine rl_get (r := 0) (ci := 4) (v := .int (nI n)) (C := R_M) (T := F_M) (N := 25) hx hb hG in_M hown hK hP (by decide) gM_0 rfl 1 (by decide) kw_582 (fun _ h9 => h9) (show _ = some (Value.int (nI n)) by rw [← hM.1]; rfl) d_M_inspection_60 ?_
            refine lv_iload_n hx hb d_M_inspection_63 rfl (lv_at hl 1 rfl) ?_
            refine rl_iast (r := 5) (i := nI n) (x := p0) (n := 30) hx hb hK hP hD hS (by decide) 0 rfl rfl (vp_in_nI (by omega) (by decide)) d_M_inspection_64 (fun H locs hP hD hS => ?_)
            rw [nI_clamp (by omega)] at hP hD
            rw [show rl_w RM ad (va_up (gM cs ad (su τ 0 0 0)) 5 (arI (clM cs 5) 30 (upd ((su τ 0 0 0) 5) n p0))) = wM cs ad (su (su τ 0 0 0) 5 n p0) from wM_arr (r := 5) (by decide)] at hP hD
            refine lv_aload_n hx hb d_M_inspection_65 rfl (lv_at hl 0 rfl) ?_
            refine rl_get (r := 0) (ci := 4) (v := .ref (ad 6)) (C := R_M) (T := F_M) (N := 25) hx hb hG in_M hown hK hP (by decide) gM_0 rfl 6 (by decide) kw_587 (fun _ h9 => h9) rfl d_M_inspection_66 ?_
            refine lv_aload_n hx hb d_M_inspection_69 rfl (lv_at hl 0 rfl) ?_
            refine rl_get (r := 0) (ci := 4) (v := .int (nI n)) (C := R_M) (T := F_M) (N := 25) hx hb hG in_M hown hK hP (by decide) gM_0 rfl 1 (by decide) kw_582 (fun _ h9 => h9) (show _ = some (Value.int (nI n)) by rw [← hM.1]; rfl) d_M_inspection_70 ?_
            refine lv_iload_n hx hb d_M_inspection_73 rfl (lv_at hl 2 rfl) ?_
            refine rl_iast (r := 6) (i := nI n) (x := p1) (n := 30) hx hb hK hP hD hS (by decide) 0 rfl rfl (vp_in_nI (by omega) (by decide)) d_M_inspection_74 (fun H locs hP hD hS => ?_)
            rw [nI_clamp (by omega)] at hP hD
            rw [show rl_w RM ad (va_up (gM cs ad (su (su τ 0 0 0) 5 n p0)) 6 (arI (clM cs 6) 30 (upd ((su (su τ 0 0 0) 5 n p0) 6) n p1))) = wM cs ad (su (su (su τ 0 0 0) 5 n p0) 6 n p1) from wM_arr (r := 6) (by decide)] at hP hD
            refine lv_aload_n hx hb d_M_inspection_75 rfl (lv_at hl 0 rfl) ?_
            refine rl_get (r := 0) (ci := 4) (v := .ref (ad 7)) (C := R_M) (T := F_M) (N := 25) hx hb hG in_M hown hK hP (by decide) gM_0 rfl 7 (by decide) kw_588 (fun _ h9 => h9) rfl d_M_inspection_76 ?_
            refine lv_aload_n hx hb d_M_inspection_79 rfl (lv_at hl 0 rfl) ?_
            refine rl_get (r := 0) (ci := 4) (v := .int (nI n)) (C := R_M) (T := F_M) (N := 25) hx hb hG in_M hown hK hP (by decide) gM_0 rfl 1 (by decide) kw_582 (fun _ h9 => h9) (show _ = some (Value.int (nI n)) by rw [← hM.1]; rfl) d_M_inspection_80 ?_
            refine lv_iload_n hx hb d_M_inspection_83 rfl (lv_at hl 3 rfl) ?_
            refine rl_iast (r := 7) (i := nI n) (x := p2) (n := 30) hx hb hK hP hD hS (by decide) 0 rfl rfl (vp_in_nI (by omega) (by decide)) d_M_inspection_84 (fun H locs hP hD hS => ?_)
            rw [nI_clamp (by omega)] at hP hD
            rw [show rl_w RM ad (va_up (gM cs ad (su (su (su τ 0 0 0) 5 n p0) 6 n p1)) 7 (arI (clM cs 7) 30 (upd ((su (su (su τ 0 0 0) 5 n p0) 6 n p1) 7) n p2))) = wM cs ad (su (su (su (su τ 0 0 0) 5 n p0) 6 n p1) 7 n p2) from wM_arr (r := 7) (by decide)] at hP hD
            refine lv_aload_n hx hb d_M_inspection_85 rfl (lv_at hl 0 rfl) ?_
            refine rl_get (r := 0) (ci := 4) (v := .ref (ad 13)) (C := R_M) (T := F_M) (N := 25) hx hb hG in_M hown hK hP (by decide) gM_0 rfl 13 (by decide) kw_594 (fun _ h9 => h9) rfl d_M_inspection_86 ?_
            refine lv_aload_n hx hb d_M_inspection_89 rfl (lv_at hl 0 rfl) ?_
            refine rl_get (r := 0) (ci := 4) (v := .int (nI n)) (C := R_M) (T := F_M) (N := 25) hx hb hG in_M hown hK hP (by decide) gM_0 rfl 1 (by decide) kw_582 (fun _ h9 => h9) (show _ = some (Value.int (nI n)) by rw [← hM.1]; rfl) d_M_inspection_90 ?_
            refine lv_iconst (v := (-1)) hx hb d_M_inspection_93 (by decide) ?_
            refine rl_iast (r := 13) (i := nI n) (x := (-1)) (n := 30) hx hb hK hP hD hS (by decide) 0 rfl rfl (vp_in_nI (by omega) (by decide)) d_M_inspection_94 (fun H locs hP hD hS => ?_)
            rw [nI_clamp (by omega)] at hP hD
            rw [show rl_w RM ad (va_up (gM cs ad (su (su (su (su τ 0 0 0) 5 n p0) 6 n p1) 7 n p2)) 13 (arI (clM cs 13) 30 (upd ((su (su (su (su τ 0 0 0) 5 n p0) 6 n p1) 7 n p2) 13) n (-1)))) = wM cs ad (su (su (su (su (su τ 0 0 0) 5 n p0) 6 n p1) 7 n p2) 13 n (-1)) from wM_arr (r := 13) (by decide)] at hP hD
            refine lv_aload_n hx hb d_M_inspection_95 rfl (lv_at hl 0 rfl) ?_
            refine lv_dup hx hb d_M_inspection_96 rfl ?_
            refine rl_get (r := 0) (ci := 4) (v := .int (nI n)) (C := R_M) (T := F_M) (N := 25) hx hb hG in_M hown hK hP (by decide) gM_0 rfl 1 (by decide) kw_582 (fun _ h9 => h9) (show _ = some (Value.int (nI n)) by rw [← hM.1]; rfl) d_M_inspection_97 ?_
            refine lv_iconst (v := 1) hx hb d_M_inspection_100 (by decide) ?_
            refine lv_iadd hx hb d_M_inspection_101 ?_
            refine rl_put (r := 0) (ci := 4) (v := .int ((nI n) + 1)) (ty := .int) (C := R_M) (T := F_M) (N := 25) hx hb hG in_M T_M T_M_ok n_M hown hK hP hD hS (by decide) gM_0 rfl 1 (by decide) kw_582 (fun _ h9 => h9) rfl (by decide +kernel) rfl rfl (Nat.le_of_ble_eq_true rfl) d_M_inspection_102 (fun H locs hP hD hS => ?_)
            rw [wM_sc (by decide)] at hP hD
            rw [nI_1] at hP hD
            refine lv_aload_n hx hb d_M_inspection_105 rfl (lv_at hl 0 rfl) ?_
            refine rl_get (r := 0) (ci := 4) (v := .int (nI (n + 1))) (C := R_M) (T := F_M) (N := 25) hx hb hG in_M hown hK hP (by decide) gM_0 rfl 1 (by decide) kw_582 (fun _ h9 => h9) rfl d_M_inspection_106 ?_
            refine lv_iconst (v := 1) hx hb d_M_inspection_109 (by decide) ?_
            refine lv_isub hx hb d_M_inspection_110 ?_
            rw [nI_pred]
            exact W.iret (v := nI n) hx hb hr (fun t ht hW => ⟨⟨nI n, su (su (su (su (su (su τ 0 0 0) 5 n p0) 6 n p1) 7 n p2) 13 n (-1)) 0 1 (nI (n + 1)), rfl, Or.inr (Or.inr ⟨⟨Classical.not_not.mp (fun h => c_3 (b2i_eq0.mpr h)), Classical.not_not.mp (fun h => c_7 (b2i_eq0.mpr h)), Classical.not_not.mp (fun h => c_11 (b2i_eq0.mpr h))⟩, hn9, rfl, rfl⟩), by rw [ht]; exact hP, va_K.moved hW.alike hK, hD⟩, hS.F ht⟩) hS.2.2 d_M_inspection_111
          · exact absurd (by decide) c_13
        · refine lv_iconst (v := 2) hx hb d_M_inspection_38 (by decide) ?_
          refine lv_goto (tgt := 43) hx hb d_M_inspection_39 (by decide) ?_
          refine rl_put (r := 0) (ci := 4) (v := .int 2) (ty := .int) (C := R_M) (T := F_M) (N := 25) hx hb hG in_M T_M T_M_ok n_M hown hK hP hD hS (by decide) gM_0 rfl 0 (by decide) kw_581 (fun _ h9 => h9) rfl (by decide +kernel) rfl rfl (Nat.le_of_ble_eq_true rfl) d_M_inspection_43 (fun H locs hP hD hS => ?_)
          rw [wM_sc (by decide)] at hP hD
          refine lv_aload_n hx hb d_M_inspection_46 rfl (lv_at hl 0 rfl) ?_
          refine rl_get (r := 0) (ci := 4) (v := .int 2) (C := R_M) (T := F_M) (N := 25) hx hb hG in_M hown hK hP (by decide) gM_0 rfl 0 (by decide) kw_581 (fun _ h9 => h9) rfl d_M_inspection_47 ?_
          refine lv_if_le (tgt := 55) hx hb d_M_inspection_50 (by decide) (fun c_14 => ?_) (fun c_14 => ?_)
          · exact absurd c_14 (by decide)
          · refine lv_iconst (v := 0) hx hb d_M_inspection_53 (by decide) ?_
            exact W.iret (v := 0) hx hb hr (fun t ht hW => ⟨⟨0, su τ 0 0 2, rfl, Or.inr (Or.inl ⟨⟨Classical.not_not.mp (fun h => c_3 (b2i_eq0.mpr h)), Classical.not_not.mp (fun h => c_7 (b2i_eq0.mpr h)), Classical.not_not.mp (fun h => c_11 (b2i_eq0.mpr h))⟩, (nI_eq (b := 30) (by omega) (by decide)).mp c_12, rfl, rfl⟩), by rw [ht]; exact hP, va_K.moved hW.alike hK, hD⟩, hS.F ht⟩) hS.2.2 d_M_inspection_54
      · refine lv_iconst (v := 1) hx hb d_M_inspection_25 (by decide) ?_
        refine lv_goto (tgt := 43) hx hb d_M_inspection_26 (by decide) ?_
        refine rl_put (r := 0) (ci := 4) (v := .int 1) (ty := .int) (C := R_M) (T := F_M) (N := 25) hx hb hG in_M T_M T_M_ok n_M hown hK hP hD hS (by decide) gM_0 rfl 0 (by decide) kw_581 (fun _ h9 => h9) rfl (by decide +kernel) rfl rfl (Nat.le_of_ble_eq_true rfl) d_M_inspection_43 (fun H locs hP hD hS => ?_)
        rw [wM_sc (by decide)] at hP hD
        refine lv_aload_n hx hb d_M_inspection_46 rfl (lv_at hl 0 rfl) ?_
        refine rl_get (r := 0) (ci := 4) (v := .int 1) (C := R_M) (T := F_M) (N := 25) hx hb hG in_M hown hK hP (by decide) gM_0 rfl 0 (by decide) kw_581 (fun _ h9 => h9) rfl d_M_inspection_47 ?_
        refine lv_if_le (tgt := 55) hx hb d_M_inspection_50 (by decide) (fun c_15 => ?_) (fun c_15 => ?_)
        · exact absurd c_15 (by decide)
        · refine lv_iconst (v := 0) hx hb d_M_inspection_53 (by decide) ?_
          exact W.iret (v := 0) hx hb hr (fun t ht hW => ⟨⟨0, su τ 0 0 1, rfl, Or.inl ⟨fun h9 => (b2i_eq0.mp c_11) (h9.2.2), rfl, rfl⟩, by rw [ht]; exact hP, va_K.moved hW.alike hK, hD⟩, hS.F ht⟩) hS.2.2 d_M_inspection_54
set_option maxHeartbeats 4000000 in
set_option maxRecDepth 100000 in
theorem c_M_end (l : Launch) (D : va_G) (cs : Nat → ClassId) (ad : Nat → Nat) (τ : Nat → Nat → Int32) (n nm : Nat) (hM : Mv τ n nm) (sz : Nat) (p0 p1 p2 : Int32) : Met l y_M_end (Cond.code y_M_end b_M_end 4 (some .int) :: GW) ({ frames := 2, cells := 0, slots := 0, locals := 64 }) (va_Pc [.ref (ad 0), .int p0, .int p1, .int p2] (wr_B D cs (wM cs ad τ) sz)) (va_Qi (fun r (u : Nat → Nat → Int32) => (¬ ((0 ≤ p0 ∧ p0 < nI n) ∧ (0 ≤ p1 ∧ p1 < 10)) ∧ r = 0 ∧ u = su τ 0 0 1) ∨ ∃ i, i < n ∧ p0 = nI i ∧ (0 ≤ p1 ∧ p1 < 10) ∧ ((¬ (τ 8 i = 2 ∧ τ 13 i = p1) ∧ r = 0 ∧ u = su τ 0 0 0) ∨ ((τ 8 i = 2 ∧ τ 13 i = p1) ∧ r = 1 ∧ u = su (su τ 0 0 0) 8 i (if p2 = 0 then 4 else 3)))) (fun u => wr_T D cs (wM cs ad u) (va_A (wM cs ad τ) sz)) (va_A (wM cs ad τ) sz)) 0 0 (va_A (wM cs ad τ) sz) := by
  refine Met.ofW (cc := b_M_end) (maxL := 4) (ret := (some .int)) (by decide) rfl ?_
  intro p e s m args below meth c s₁ B hml hv
  obtain ⟨rfl, hsz, hP, hK, hD0⟩ := hv
  have hx := B.exec
  have hb := B.bytes
  have hr := B.returns
  have hts := atoms_spec (ws := Cond.code y_M_end b_M_end 4 (some .int) :: GW) B.pre
  have hG : ∀ w ∈ GW, w.before _ s = true := fun w h => hts w (List.mem_cons_of_mem _ h)
  have hown : s.vm.findClass R_M = some m.cls := findClass_of_methodNamed B.named
  have hlocks := B.notSynchronized
  subst hsz
  have hD := hD0.self (sz := s.heap.size)
  generalize hAe : va_A (wM cs ad τ) s.heap.size = A at hD ⊢
  have hA : ∀ q : Nat, s.heap.size ≤ q → A q := fun q h => by rw [← hAe]; exact Or.inr h
  have hS : va_S A s.heap s.heap [] := va_S.rf
  have hn30 : n ≤ 30 := hM.2.2.1
  have hm40 : nm ≤ 40 := hM.2.2.2.1
  have hl := lv_entry ([.ref (ad 0), .int p0, .int p1, .int p2]) (n := 4) (Nat.le_of_ble_eq_true rfl)
  rw [lg_entry_eq]
  generalize (lg_sl ([.ref (ad 0), .int p0, .int p1, .int p2]) ++ List.replicate (4 - (lg_sl ([.ref (ad 0), .int p0, .int p1, .int p2])).length) Slot.unset).toArray = ls at hl ⊢
  have hl : lv_has ls 4 [(0, .ref (ad 0)), (1, .int p0), (2, .int p1), (3, .int p2)] := hl
  refine lv_aload_n hx hb d_M_end_0 rfl (lv_at hl 0 rfl) ?_
  refine lv_aload_n hx hb d_M_end_1 rfl (lv_at hl 0 rfl) ?_
  refine lv_iload_n hx hb d_M_end_2 rfl (lv_at hl 1 rfl) ?_
  refine vp_callSi (W.runV (As := [.int p0]) (rest := [.ref (ad 0)]) ⟨hx, hb, hml, hown, hts⟩ (c_M_isOne l D cs ad τ n nm hM p0) (cwV 1 hts (gw_V kw_684 kw_686 ks_1_2 kw_6 kw_687) rfl rfl rfl (by decide +kernel) ⟨Nat.le_of_ble_eq_true rfl, Nat.le_of_ble_eq_true rfl⟩) (rd_V hP hK (rl_recv hK hP (by decide) gM_0 rfl)) rfl rfl hl.1 rfl (lv_room (Nat.le_of_ble_eq_true rfl)) d_M_end_3 ⟨Nat.zero_le _, Nat.zero_le _⟩) (fun r_1 h_2 => ?_)
  subst h_2
  refine lv_if_eq (tgt := 20) hx hb d_M_end_6 (by decide) (fun c_3 => ?_) (fun c_3 => ?_)
  · refine lv_iconst (v := 1) hx hb d_M_end_20 (by decide) ?_
    refine rl_put (r := 0) (ci := 4) (v := .int 1) (ty := .int) (C := R_M) (T := F_M) (N := 25) hx hb hG in_M T_M T_M_ok n_M hown hK hP hD hS (by decide) gM_0 rfl 0 (by decide) kw_581 (fun _ h9 => h9) rfl (by decide +kernel) rfl rfl (Nat.le_of_ble_eq_true rfl) d_M_end_21 (fun H locs hP hD hS => ?_)
    rw [wM_sc (by decide)] at hP hD
    refine lv_aload_n hx hb d_M_end_24 rfl (lv_at hl 0 rfl) ?_
    refine rl_get (r := 0) (ci := 4) (v := .int 1) (C := R_M) (T := F_M) (N := 25) hx hb hG in_M hown hK hP (by decide) gM_0 rfl 0 (by decide) kw_581 (fun _ h9 => h9) rfl d_M_end_25 ?_
    refine lv_if_gt (tgt := 51) hx hb d_M_end_28 (by decide) (fun c_4 => ?_) (fun c_4 => ?_)
    · refine lv_iconst (v := 0) hx hb d_M_end_51 (by decide) ?_
      exact W.iret (v := 0) hx hb hr (fun t ht hW => ⟨⟨0, su τ 0 0 1, rfl, Or.inl ⟨fun h9 => (b2i_eq0.mp c_3) (h9.1), rfl, rfl⟩, by rw [ht]; exact hP, va_K.moved hW.alike hK, hD⟩, hS.F ht⟩) hS.2.2 d_M_end_52
    · exact absurd (by decide) c_4
  · obtain ⟨i, hi, rfl⟩ := atS (by omega) (Classical.not_not.mp (fun h => c_3 (b2i_eq0.mpr h)))
    refine lv_iload_n hx hb d_M_end_9 rfl (lv_at hl 2 rfl) ?_
    refine vp_callSi (W.runS (As := [.int p1]) (rest := [.ref (ad 0)]) ⟨hx, hb, hml, hown, hts⟩ (c_M_isTen l p1) (va_cwS 1 hts (gw_S kw_661 kw_662 kw_6 kw_663) rfl rfl rfl (by decide +kernel) ⟨Nat.le_of_ble_eq_true rfl, Nat.le_of_ble_eq_true rfl⟩) ⟨fun _ _ _ _ q => q, fun U _ _ => ⟨rfl, trivial⟩⟩ rfl rfl hl.1 rfl (lv_room (Nat.le_of_ble_eq_true rfl)) d_M_end_10 ⟨Nat.zero_le _, Nat.zero_le _⟩) (fun r_5 h_6 => ?_)
    subst h_6
    refine lv_if_eq (tgt := 20) hx hb d_M_end_13 (by decide) (fun c_7 => ?_) (fun c_7 => ?_)
    · refine lv_iconst (v := 1) hx hb d_M_end_20 (by decide) ?_
      refine rl_put (r := 0) (ci := 4) (v := .int 1) (ty := .int) (C := R_M) (T := F_M) (N := 25) hx hb hG in_M T_M T_M_ok n_M hown hK hP hD hS (by decide) gM_0 rfl 0 (by decide) kw_581 (fun _ h9 => h9) rfl (by decide +kernel) rfl rfl (Nat.le_of_ble_eq_true rfl) d_M_end_21 (fun H locs hP hD hS => ?_)
      rw [wM_sc (by decide)] at hP hD
      refine lv_aload_n hx hb d_M_end_24 rfl (lv_at hl 0 rfl) ?_
      refine rl_get (r := 0) (ci := 4) (v := .int 1) (C := R_M) (T := F_M) (N := 25) hx hb hG in_M hown hK hP (by decide) gM_0 rfl 0 (by decide) kw_581 (fun _ h9 => h9) rfl d_M_end_25 ?_
      refine lv_if_gt (tgt := 51) hx hb d_M_end_28 (by decide) (fun c_8 => ?_) (fun c_8 => ?_)
      · refine lv_iconst (v := 0) hx hb d_M_end_51 (by decide) ?_
        exact W.iret (v := 0) hx hb hr (fun t ht hW => ⟨⟨0, su τ 0 0 1, rfl, Or.inl ⟨fun h9 => (b2i_eq0.mp c_7) (h9.2), rfl, rfl⟩, by rw [ht]; exact hP, va_K.moved hW.alike hK, hD⟩, hS.F ht⟩) hS.2.2 d_M_end_52
      · exact absurd (by decide) c_8
    · refine lv_iconst (v := 0) hx hb d_M_end_16 (by decide) ?_
      refine lv_goto (tgt := 21) hx hb d_M_end_17 (by decide) ?_
      refine rl_put (r := 0) (ci := 4) (v := .int 0) (ty := .int) (C := R_M) (T := F_M) (N := 25) hx hb hG in_M T_M T_M_ok n_M hown hK hP hD hS (by decide) gM_0 rfl 0 (by decide) kw_581 (fun _ h9 => h9) rfl (by decide +kernel) rfl rfl (Nat.le_of_ble_eq_true rfl) d_M_end_21 (fun H locs hP hD hS => ?_)
      rw [wM_sc (by decide)] at hP hD
      refine lv_aload_n hx hb d_M_end_24 rfl (lv_at hl 0 rfl) ?_
      refine rl_get (r := 0) (ci := 4) (v := .int 0) (C := R_M) (T := F_M) (N := 25) hx hb hG in_M hown hK hP (by decide) gM_0 rfl 0 (by decide) kw_581 (fun _ h9 => h9) rfl d_M_end_25 ?_
      refine lv_if_gt (tgt := 51) hx hb d_M_end_28 (by decide) (fun c_9 => ?_) (fun c_9 => ?_)
      · exact absurd c_9 (by decide)
      · refine lv_aload_n hx hb d_M_end_31 rfl (lv_at hl 0 rfl) ?_
        refine rl_get (r := 0) (ci := 4) (v := .ref (ad 8)) (C := R_M) (T := F_M) (N := 25) hx hb hG in_M hown hK hP (by decide) gM_0 rfl 8 (by decide) kw_589 (fun _ h9 => h9) rfl d_M_end_32 ?_
        refine lv_iload_n hx hb d_M_end_35 rfl (lv_at hl 1 rfl) ?_
        refine rl_iald (r := 8) (i := nI i) (n := 30) hx hb hK hP (by decide) 0 rfl rfl (vp_in_nI (by omega) (by decide)) d_M_end_36 ?_
        rw [nI_clamp (by omega)]
        refine W.eq (g2 := F0 m 37 ls [.int (τ 8 i)]) rfl ?_
        refine lv_iconst (v := 2) hx hb d_M_end_37 (by decide) ?_
        refine lv_icmp_ne (tgt := 51) hx hb d_M_end_38 (by decide) (fun c_10 => ?_) (fun c_10 => ?_)
        · refine lv_iconst (v := 0) hx hb d_M_end_51 (by decide) ?_
          exact W.iret (v := 0) hx hb hr (fun t ht hW => ⟨⟨0, su τ 0 0 0, rfl, Or.inr ⟨i, hi, rfl, Classical.not_not.mp (fun h => c_7 (b2i_eq0.mpr h)), Or.inl ⟨fun h9 => c_10 h9.1, rfl, rfl⟩⟩, by rw [ht]; exact hP, va_K.moved hW.alike hK, hD⟩, hS.F ht⟩) hS.2.2 d_M_end_52
        · refine lv_aload_n hx hb d_M_end_41 rfl (lv_at hl 0 rfl) ?_
          refine rl_get (r := 0) (ci := 4) (v := .ref (ad 13)) (C := R_M) (T := F_M) (N := 25) hx hb hG in_M hown hK hP (by decide) gM_0 rfl 13 (by decide) kw_594 (fun _ h9 => h9) rfl d_M_end_42 ?_
          refine lv_iload_n hx hb d_M_end_45 rfl (lv_at hl 1 rfl) ?_
          refine rl_iald (r := 13) (i := nI i) (n := 30) hx hb hK hP (by decide) 0 rfl rfl (vp_in_nI (by omega) (by decide)) d_M_end_46 ?_
          rw [nI_clamp (by omega)]
          refine W.eq (g2 := F0 m 47 ls [.int (τ 13 i)]) rfl ?_
          refine lv_iload_n hx hb d_M_end_47 rfl (lv_at hl 2 rfl) ?_
          refine lv_icmp_eq (tgt := 53) hx hb d_M_end_48 (by decide) (fun c_11 => ?_) (fun c_11 => ?_)
          · refine lv_aload_n hx hb d_M_end_53 rfl (lv_at hl 0 rfl) ?_
            refine rl_get (r := 0) (ci := 4) (v := .ref (ad 8)) (C := R_M) (T := F_M) (N := 25) hx hb hG in_M hown hK hP (by decide) gM_0 rfl 8 (by decide) kw_589 (fun _ h9 => h9) rfl d_M_end_54 ?_
            refine lv_iload_n hx hb d_M_end_57 rfl (lv_at hl 1 rfl) ?_
            refine lv_iload_n hx hb d_M_end_58 rfl (lv_at hl 3 rfl) ?_
            refine lv_if_eq (tgt := 66) hx hb d_M_end_59 (by decide) (fun c_12 => ?_) (fun c_12 => ?_)
            · refine lv_iconst (v := 4) hx hb d_M_end_66 (by decide) ?_
              refine rl_iast (r := 8) (i := nI i) (x := 4) (n := 30) hx hb hK hP hD hS (by decide) 0 rfl rfl (vp_in_nI (by omega) (by decide)) d_M_end_67 (fun H locs hP hD hS => ?_)
              rw [nI_clamp (by omega)] at hP hD
              rw [show rl_w RM ad (va_up (gM cs ad (su τ 0 0 0)) 8 (arI (clM cs 8) 30 (upd ((su τ 0 0 0) 8) i 4))) = wM cs ad (su (su τ 0 0 0) 8 i 4) from wM_arr (r := 8) (by decide)] at hP hD
              refine lv_iconst (v := 1) hx hb d_M_end_68 (by decide) ?_
              exact W.iret (v := 1) hx hb hr (fun t ht hW => ⟨⟨1, su (su τ 0 0 0) 8 i 4, rfl, Or.inr ⟨i, hi, rfl, Classical.not_not.mp (fun h => c_7 (b2i_eq0.mpr h)), Or.inr ⟨⟨c_10, c_11⟩, rfl, by rw [if_pos c_12]⟩⟩, by rw [ht]; exact hP, va_K.moved hW.alike hK, hD⟩, hS.F ht⟩) hS.2.2 d_M_end_69
            · refine lv_iconst (v := 3) hx hb d_M_end_62 (by decide) ?_
              refine lv_goto (tgt := 67) hx hb d_M_end_63 (by decide) ?_
              refine rl_iast (r := 8) (i := nI i) (x := 3) (n := 30) hx hb hK hP hD hS (by decide) 0 rfl rfl (vp_in_nI (by omega) (by decide)) d_M_end_67 (fun H locs hP hD hS => ?_)
              rw [nI_clamp (by omega)] at hP hD
              rw [show rl_w RM ad (va_up (gM cs ad (su τ 0 0 0)) 8 (arI (clM cs 8) 30 (upd ((su τ 0 0 0) 8) i 3))) = wM cs ad (su (su τ 0 0 0) 8 i 3) from wM_arr (r := 8) (by decide)] at hP hD
              refine lv_iconst (v := 1) hx hb d_M_end_68 (by decide) ?_
              exact W.iret (v := 1) hx hb hr (fun t ht hW => ⟨⟨1, su (su τ 0 0 0) 8 i 3, rfl, Or.inr ⟨i, hi, rfl, Classical.not_not.mp (fun h => c_7 (b2i_eq0.mpr h)), Or.inr ⟨⟨c_10, c_11⟩, rfl, by rw [if_neg c_12]⟩⟩, by rw [ht]; exact hP, va_K.moved hW.alike hK, hD⟩, hS.F ht⟩) hS.2.2 d_M_end_69
          · refine lv_iconst (v := 0) hx hb d_M_end_51 (by decide) ?_
            exact W.iret (v := 0) hx hb hr (fun t ht hW => ⟨⟨0, su τ 0 0 0, rfl, Or.inr ⟨i, hi, rfl, Classical.not_not.mp (fun h => c_7 (b2i_eq0.mpr h)), Or.inl ⟨fun h9 => c_11 h9.2, rfl, rfl⟩⟩, by rw [ht]; exact hP, va_K.moved hW.alike hK, hD⟩, hS.F ht⟩) hS.2.2 d_M_end_52
set_option maxHeartbeats 4000000 in
set_option maxRecDepth 100000 in
theorem c_M_begin (l : Launch) (D : va_G) (cs : Nat → ClassId) (ad : Nat → Nat) (τ : Nat → Nat → Int32) (n nm : Nat) (hM : Mv τ n nm) (hz : ∀ k, k < 60 → τ 4 k = 0 ∨ τ 4 k = 1) (sz : Nat) (p0 p1 : Int32) : Met l y_M_begin (Cond.code y_M_begin b_M_begin 3 (some .int) :: GW) ({ frames := 2, cells := 0, slots := 0, locals := 64 }) (va_Pc [.ref (ad 0), .int p0, .int p1] (wr_B D cs (wM cs ad τ) sz)) (va_Qi (fun r (u : Nat → Nat → Int32) => (¬ ((0 ≤ p0 ∧ p0 < nI n) ∧ (0 ≤ p1 ∧ p1 < 10)) ∧ r = 0 ∧ u = su τ 0 0 1) ∨ ∃ i a k, i < n ∧ a < 10 ∧ k < 5 ∧ p0 = nI i ∧ p1 = nI a ∧ τ 6 i = nI k ∧ ((¬ (τ 8 i = 1 ∧ τ 11 i ≤ τ 0 3 ∧ τ 0 3 ≤ τ 12 i ∧ ¬ τ 4 (6 * a + k) = 0) ∧ r = 0 ∧ u = su τ 0 0 0) ∨ ((τ 8 i = 1 ∧ τ 11 i ≤ τ 0 3 ∧ τ 0 3 ≤ τ 12 i ∧ ¬ τ 4 (6 * a + k) = 0) ∧ r = 1 ∧ u = if 2 < τ 6 i then su (su (su (su (su τ 0 0 0) 8 i 2) 13 i p1) 14 i (τ 14 i + 1)) 16 (τ 5 i).toNatClampNeg 1 else su (su (su (su τ 0 0 0) 8 i 2) 13 i p1) 14 i (τ 14 i + 1)))) (fun u => wr_T D cs (wM cs ad u) (va_A (wM cs ad τ) sz)) (va_A (wM cs ad τ) sz)) 0 0 (va_A (wM cs ad τ) sz) := by
  refine Met.ofW (cc := b_M_begin) (maxL := 3) (ret := (some .int)) (by decide) rfl ?_
  intro p e s m args below meth c s₁ B hml hv
  obtain ⟨rfl, hsz, hP, hK, hD0⟩ := hv
  have hx := B.exec
  have hb := B.bytes
  have hr := B.returns
  have hts := atoms_spec (ws := Cond.code y_M_begin b_M_begin 3 (some .int) :: GW) B.pre
  have hG : ∀ w ∈ GW, w.before _ s = true := fun w h => hts w (List.mem_cons_of_mem _ h)
  have hown : s.vm.findClass R_M = some m.cls := findClass_of_methodNamed B.named
  have hlocks := B.notSynchronized
  subst hsz
  have hD := hD0.self (sz := s.heap.size)
  generalize hAe : va_A (wM cs ad τ) s.heap.size = A at hD ⊢
  have hA : ∀ q : Nat, s.heap.size ≤ q → A q := fun q h => by rw [← hAe]; exact Or.inr h
  have hS : va_S A s.heap s.heap [] := va_S.rf
  have hn30 : n ≤ 30 := hM.2.2.1
  have hm40 : nm ≤ 40 := hM.2.2.2.1
  have hl := lv_entry ([.ref (ad 0), .int p0, .int p1]) (n := 3) (Nat.le_of_ble_eq_true rfl)
  rw [lg_entry_eq]
  generalize (lg_sl ([.ref (ad 0), .int p0, .int p1]) ++ List.replicate (3 - (lg_sl ([.ref (ad 0), .int p0, .int p1])).length) Slot.unset).toArray = ls at hl ⊢
  have hl : lv_has ls 3 [(0, .ref (ad 0)), (1, .int p0), (2, .int p1)] := hl
  refine lv_aload_n hx hb d_M_begin_0 rfl (lv_at hl 0 rfl) ?_
  refine lv_aload_n hx hb d_M_begin_1 rfl (lv_at hl 0 rfl) ?_
  refine lv_iload_n hx hb d_M_begin_2 rfl (lv_at hl 1 rfl) ?_
  refine vp_callSi (W.runV (As := [.int p0]) (rest := [.ref (ad 0)]) ⟨hx, hb, hml, hown, hts⟩ (c_M_isOne l D cs ad τ n nm hM p0) (cwV 1 hts (gw_V kw_684 kw_686 ks_1_2 kw_6 kw_687) rfl rfl rfl (by decide +kernel) ⟨Nat.le_of_ble_eq_true rfl, Nat.le_of_ble_eq_true rfl⟩) (rd_V hP hK (rl_recv hK hP (by decide) gM_0 rfl)) rfl rfl hl.1 rfl (lv_room (Nat.le_of_ble_eq_true rfl)) d_M_begin_3 ⟨Nat.zero_le _, Nat.zero_le _⟩) (fun r_1 h_2 => ?_)
  subst h_2
  refine lv_if_eq (tgt := 20) hx hb d_M_begin_6 (by decide) (fun c_3 => ?_) (fun c_3 => ?_)
  · refine lv_iconst (v := 1) hx hb d_M_begin_20 (by decide) ?_
    refine rl_put (r := 0) (ci := 4) (v := .int 1) (ty := .int) (C := R_M) (T := F_M) (N := 25) hx hb hG in_M T_M T_M_ok n_M hown hK hP hD hS (by decide) gM_0 rfl 0 (by decide) kw_581 (fun _ h9 => h9) rfl (by decide +kernel) rfl rfl (Nat.le_of_ble_eq_true rfl) d_M_begin_21 (fun H locs hP hD hS => ?_)
    rw [wM_sc (by decide)] at hP hD
    refine lv_aload_n hx hb d_M_begin_24 rfl (lv_at hl 0 rfl) ?_
    refine rl_get (r := 0) (ci := 4) (v := .int 1) (C := R_M) (T := F_M) (N := 25) hx hb hG in_M hown hK hP (by decide) gM_0 rfl 0 (by decide) kw_581 (fun _ h9 => h9) rfl d_M_begin_25 ?_
    refine lv_if_gt (tgt := 81) hx hb d_M_begin_28 (by decide) (fun c_4 => ?_) (fun c_4 => ?_)
    · refine lv_iconst (v := 0) hx hb d_M_begin_81 (by decide) ?_
      exact W.iret (v := 0) hx hb hr (fun t ht hW => ⟨⟨0, su τ 0 0 1, rfl, Or.inl ⟨fun h9 => (b2i_eq0.mp c_3) (h9.1), rfl, rfl⟩, by rw [ht]; exact hP, va_K.moved hW.alike hK, hD⟩, hS.F ht⟩) hS.2.2 d_M_begin_82
    · exact absurd (by decide) c_4
  · obtain ⟨i, hi, rfl⟩ := atS (by omega) (Classical.not_not.mp (fun h => c_3 (b2i_eq0.mpr h)))
    obtain ⟨k, hk5, ek⟩ := at_in (n := 5) (by decide) (hM.2.2.2.2.1 i hi).2
    obtain ⟨d, hd, ed⟩ := at_in (n := 10) (by decide) (hM.2.2.2.2.1 i hi).1
    refine lv_iload_n hx hb d_M_begin_9 rfl (lv_at hl 2 rfl) ?_
    refine vp_callSi (W.runS (As := [.int p1]) (rest := [.ref (ad 0)]) ⟨hx, hb, hml, hown, hts⟩ (c_M_isTen l p1) (va_cwS 1 hts (gw_S kw_661 kw_662 kw_6 kw_663) rfl rfl rfl (by decide +kernel) ⟨Nat.le_of_ble_eq_true rfl, Nat.le_of_ble_eq_true rfl⟩) ⟨fun _ _ _ _ q => q, fun U _ _ => ⟨rfl, trivial⟩⟩ rfl rfl hl.1 rfl (lv_room (Nat.le_of_ble_eq_true rfl)) d_M_begin_10 ⟨Nat.zero_le _, Nat.zero_le _⟩) (fun r_5 h_6 => ?_)
    subst h_6
    refine lv_if_eq (tgt := 20) hx hb d_M_begin_13 (by decide) (fun c_7 => ?_) (fun c_7 => ?_)
    · refine lv_iconst (v := 1) hx hb d_M_begin_20 (by decide) ?_
      refine rl_put (r := 0) (ci := 4) (v := .int 1) (ty := .int) (C := R_M) (T := F_M) (N := 25) hx hb hG in_M T_M T_M_ok n_M hown hK hP hD hS (by decide) gM_0 rfl 0 (by decide) kw_581 (fun _ h9 => h9) rfl (by decide +kernel) rfl rfl (Nat.le_of_ble_eq_true rfl) d_M_begin_21 (fun H locs hP hD hS => ?_)
      rw [wM_sc (by decide)] at hP hD
      refine lv_aload_n hx hb d_M_begin_24 rfl (lv_at hl 0 rfl) ?_
      refine rl_get (r := 0) (ci := 4) (v := .int 1) (C := R_M) (T := F_M) (N := 25) hx hb hG in_M hown hK hP (by decide) gM_0 rfl 0 (by decide) kw_581 (fun _ h9 => h9) rfl d_M_begin_25 ?_
      refine lv_if_gt (tgt := 81) hx hb d_M_begin_28 (by decide) (fun c_8 => ?_) (fun c_8 => ?_)
      · refine lv_iconst (v := 0) hx hb d_M_begin_81 (by decide) ?_
        exact W.iret (v := 0) hx hb hr (fun t ht hW => ⟨⟨0, su τ 0 0 1, rfl, Or.inl ⟨fun h9 => (b2i_eq0.mp c_7) (h9.2), rfl, rfl⟩, by rw [ht]; exact hP, va_K.moved hW.alike hK, hD⟩, hS.F ht⟩) hS.2.2 d_M_begin_82
      · exact absurd (by decide) c_8
    · obtain ⟨a, ha, rfl⟩ := at10 (Classical.not_not.mp (fun h => c_7 (b2i_eq0.mpr h)))
      refine lv_iconst (v := 0) hx hb d_M_begin_16 (by decide) ?_
      refine lv_goto (tgt := 21) hx hb d_M_begin_17 (by decide) ?_
      refine rl_put (r := 0) (ci := 4) (v := .int 0) (ty := .int) (C := R_M) (T := F_M) (N := 25) hx hb hG in_M T_M T_M_ok n_M hown hK hP hD hS (by decide) gM_0 rfl 0 (by decide) kw_581 (fun _ h9 => h9) rfl (by decide +kernel) rfl rfl (Nat.le_of_ble_eq_true rfl) d_M_begin_21 (fun H locs hP hD hS => ?_)
      rw [wM_sc (by decide)] at hP hD
      refine lv_aload_n hx hb d_M_begin_24 rfl (lv_at hl 0 rfl) ?_
      refine rl_get (r := 0) (ci := 4) (v := .int 0) (C := R_M) (T := F_M) (N := 25) hx hb hG in_M hown hK hP (by decide) gM_0 rfl 0 (by decide) kw_581 (fun _ h9 => h9) rfl d_M_begin_25 ?_
      refine lv_if_gt (tgt := 81) hx hb d_M_begin_28 (by decide) (fun c_9 => ?_) (fun c_9 => ?_)
      · exact absurd c_9 (by decide)
      · refine lv_aload_n hx hb d_M_begin_31 rfl (lv_at hl 0 rfl) ?_
        refine rl_get (r := 0) (ci := 4) (v := .ref (ad 8)) (C := R_M) (T := F_M) (N := 25) hx hb hG in_M hown hK hP (by decide) gM_0 rfl 8 (by decide) kw_589 (fun _ h9 => h9) rfl d_M_begin_32 ?_
        refine lv_iload_n hx hb d_M_begin_35 rfl (lv_at hl 1 rfl) ?_
        refine rl_iald (r := 8) (i := nI i) (n := 30) hx hb hK hP (by decide) 0 rfl rfl (vp_in_nI (by omega) (by decide)) d_M_begin_36 ?_
        rw [nI_clamp (by omega)]
        refine W.eq (g2 := F0 m 37 ls [.int (τ 8 i)]) rfl ?_
        refine lv_iconst (v := 1) hx hb d_M_begin_37 (by decide) ?_
        refine lv_icmp_ne (tgt := 81) hx hb d_M_begin_38 (by decide) (fun c_10 => ?_) (fun c_10 => ?_)
        · refine lv_iconst (v := 0) hx hb d_M_begin_81 (by decide) ?_
          exact W.iret (v := 0) hx hb hr (fun t ht hW => ⟨⟨0, su τ 0 0 0, rfl, Or.inr ⟨i, a, k, hi, ha, hk5, rfl, rfl, ek, Or.inl ⟨fun h9 => c_10 h9.1, rfl, rfl⟩⟩, by rw [ht]; exact hP, va_K.moved hW.alike hK, hD⟩, hS.F ht⟩) hS.2.2 d_M_begin_82
        · refine lv_aload_n hx hb d_M_begin_41 rfl (lv_at hl 0 rfl) ?_
          refine rl_get (r := 0) (ci := 4) (v := .int (τ 0 3)) (C := R_M) (T := F_M) (N := 25) hx hb hG in_M hown hK hP (by decide) gM_0 rfl 3 (by decide) kw_584 (fun _ h9 => h9) rfl d_M_begin_42 ?_
          refine lv_aload_n hx hb d_M_begin_45 rfl (lv_at hl 0 rfl) ?_
          refine rl_get (r := 0) (ci := 4) (v := .ref (ad 11)) (C := R_M) (T := F_M) (N := 25) hx hb hG in_M hown hK hP (by decide) gM_0 rfl 11 (by decide) kw_592 (fun _ h9 => h9) rfl d_M_begin_46 ?_
          refine lv_iload_n hx hb d_M_begin_49 rfl (lv_at hl 1 rfl) ?_
          refine rl_iald (r := 11) (i := nI i) (n := 30) hx hb hK hP (by decide) 0 rfl rfl (vp_in_nI (by omega) (by decide)) d_M_begin_50 ?_
          rw [nI_clamp (by omega)]
          refine W.eq (g2 := F0 m 51 ls [.int (τ 11 i), .int (τ 0 3)]) rfl ?_
          refine lv_icmp_lt (tgt := 81) hx hb d_M_begin_51 (by decide) (fun c_11 => ?_) (fun c_11 => ?_)
          · refine lv_iconst (v := 0) hx hb d_M_begin_81 (by decide) ?_
            exact W.iret (v := 0) hx hb hr (fun t ht hW => ⟨⟨0, su τ 0 0 0, rfl, Or.inr ⟨i, a, k, hi, ha, hk5, rfl, rfl, ek, Or.inl ⟨fun h9 => Int32.not_lt.mpr h9.2.1 c_11, rfl, rfl⟩⟩, by rw [ht]; exact hP, va_K.moved hW.alike hK, hD⟩, hS.F ht⟩) hS.2.2 d_M_begin_82
          · refine lv_aload_n hx hb d_M_begin_54 rfl (lv_at hl 0 rfl) ?_
            refine rl_get (r := 0) (ci := 4) (v := .int (τ 0 3)) (C := R_M) (T := F_M) (N := 25) hx hb hG in_M hown hK hP (by decide) gM_0 rfl 3 (by decide) kw_584 (fun _ h9 => h9) rfl d_M_begin_55 ?_
            refine lv_aload_n hx hb d_M_begin_58 rfl (lv_at hl 0 rfl) ?_
            refine rl_get (r := 0) (ci := 4) (v := .ref (ad 12)) (C := R_M) (T := F_M) (N := 25) hx hb hG in_M hown hK hP (by decide) gM_0 rfl 12 (by decide) kw_593 (fun _ h9 => h9) rfl d_M_begin_59 ?_
            refine lv_iload_n hx hb d_M_begin_62 rfl (lv_at hl 1 rfl) ?_
            refine rl_iald (r := 12) (i := nI i) (n := 30) hx hb hK hP (by decide) 0 rfl rfl (vp_in_nI (by omega) (by decide)) d_M_begin_63 ?_
            rw [nI_clamp (by omega)]
            refine W.eq (g2 := F0 m 64 ls [.int (τ 12 i), .int (τ 0 3)]) rfl ?_
            refine lv_icmp_gt (tgt := 81) hx hb d_M_begin_64 (by decide) (fun c_12 => ?_) (fun c_12 => ?_)
            · refine lv_iconst (v := 0) hx hb d_M_begin_81 (by decide) ?_
              exact W.iret (v := 0) hx hb hr (fun t ht hW => ⟨⟨0, su τ 0 0 0, rfl, Or.inr ⟨i, a, k, hi, ha, hk5, rfl, rfl, ek, Or.inl ⟨fun h9 => Int32.not_lt.mpr h9.2.2.1 c_12, rfl, rfl⟩⟩, by rw [ht]; exact hP, va_K.moved hW.alike hK, hD⟩, hS.F ht⟩) hS.2.2 d_M_begin_82
            · refine lv_aload_n hx hb d_M_begin_67 rfl (lv_at hl 0 rfl) ?_
              refine lv_iload_n hx hb d_M_begin_68 rfl (lv_at hl 2 rfl) ?_
              refine lv_aload_n hx hb d_M_begin_69 rfl (lv_at hl 0 rfl) ?_
              refine rl_get (r := 0) (ci := 4) (v := .ref (ad 6)) (C := R_M) (T := F_M) (N := 25) hx hb hG in_M hown hK hP (by decide) gM_0 rfl 6 (by decide) kw_587 (fun _ h9 => h9) rfl d_M_begin_70 ?_
              refine lv_iload_n hx hb d_M_begin_73 rfl (lv_at hl 1 rfl) ?_
              refine rl_iald (r := 6) (i := nI i) (n := 30) hx hb hK hP (by decide) 0 rfl rfl (vp_in_nI (by omega) (by decide)) d_M_begin_74 ?_
              rw [nI_clamp (by omega)]
              refine W.eq (g2 := F0 m 75 ls [.int (τ 6 i), .int (nI a), .ref (ad 0)]) rfl ?_
              rw [ek]
              refine vp_callSi (W.runV (As := [.int (nI a), .int (nI k)]) (rest := []) ⟨hx, hb, hml, hown, hts⟩ (c_M_may l D cs ad (su τ 0 0 0) n nm (Mv_0 hM) a k (by omega) (by omega) (hz _ (by omega))) (cwV 2 hts (gw_V kw_667 kw_669 ks_1_0 kw_6 kw_670) rfl rfl rfl (by decide +kernel) ⟨Nat.le_of_ble_eq_true rfl, Nat.le_of_ble_eq_true rfl⟩) (rd_V hP hK (rl_recv hK hP (by decide) gM_0 rfl)) rfl rfl hl.1 rfl (lv_room (Nat.le_of_ble_eq_true rfl)) d_M_begin_75 ⟨Nat.zero_le _, Nat.zero_le _⟩) (fun r_13 h_14 => ?_)
              subst h_14
              refine W.eq (g2 := F0 m 78 ls [.int (τ 4 (6 * a + k))]) rfl ?_
              refine lv_if_ne (tgt := 83) hx hb d_M_begin_78 (by decide) (fun c_15 => ?_) (fun c_15 => ?_)
              · refine lv_aload_n hx hb d_M_begin_83 rfl (lv_at hl 0 rfl) ?_
                refine rl_get (r := 0) (ci := 4) (v := .ref (ad 8)) (C := R_M) (T := F_M) (N := 25) hx hb hG in_M hown hK hP (by decide) gM_0 rfl 8 (by decide) kw_589 (fun _ h9 => h9) rfl d_M_begin_84 ?_
                refine lv_iload_n hx hb d_M_begin_87 rfl (lv_at hl 1 rfl) ?_
                refine lv_iconst (v := 2) hx hb d_M_begin_88 (by decide) ?_
                refine rl_iast (r := 8) (i := nI i) (x := 2) (n := 30) hx hb hK hP hD hS (by decide) 0 rfl rfl (vp_in_nI (by omega) (by decide)) d_M_begin_89 (fun H locs hP hD hS => ?_)
                rw [nI_clamp (by omega)] at hP hD
                rw [show rl_w RM ad (va_up (gM cs ad (su τ 0 0 0)) 8 (arI (clM cs 8) 30 (upd ((su τ 0 0 0) 8) i 2))) = wM cs ad (su (su τ 0 0 0) 8 i 2) from wM_arr (r := 8) (by decide)] at hP hD
                refine lv_aload_n hx hb d_M_begin_90 rfl (lv_at hl 0 rfl) ?_
                refine rl_get (r := 0) (ci := 4) (v := .ref (ad 13)) (C := R_M) (T := F_M) (N := 25) hx hb hG in_M hown hK hP (by decide) gM_0 rfl 13 (by decide) kw_594 (fun _ h9 => h9) rfl d_M_begin_91 ?_
                refine lv_iload_n hx hb d_M_begin_94 rfl (lv_at hl 1 rfl) ?_
                refine lv_iload_n hx hb d_M_begin_95 rfl (lv_at hl 2 rfl) ?_
                refine rl_iast (r := 13) (i := nI i) (x := nI a) (n := 30) hx hb hK hP hD hS (by decide) 0 rfl rfl (vp_in_nI (by omega) (by decide)) d_M_begin_96 (fun H locs hP hD hS => ?_)
                rw [nI_clamp (by omega)] at hP hD
                rw [show rl_w RM ad (va_up (gM cs ad (su (su τ 0 0 0) 8 i 2)) 13 (arI (clM cs 13) 30 (upd ((su (su τ 0 0 0) 8 i 2) 13) i (nI a)))) = wM cs ad (su (su (su τ 0 0 0) 8 i 2) 13 i (nI a)) from wM_arr (r := 13) (by decide)] at hP hD
                refine lv_aload_n hx hb d_M_begin_97 rfl (lv_at hl 0 rfl) ?_
                refine rl_get (r := 0) (ci := 4) (v := .ref (ad 14)) (C := R_M) (T := F_M) (N := 25) hx hb hG in_M hown hK hP (by decide) gM_0 rfl 14 (by decide) kw_595 (fun _ h9 => h9) rfl d_M_begin_98 ?_
                refine lv_iload_n hx hb d_M_begin_101 rfl (lv_at hl 1 rfl) ?_
                refine lv_dup2_11 hx hb d_M_begin_102 rfl rfl ?_
                refine rl_iald (r := 14) (i := nI i) (n := 30) hx hb hK hP (by decide) 0 rfl rfl (vp_in_nI (by omega) (by decide)) d_M_begin_103 ?_
                rw [nI_clamp (by omega)]
                refine W.eq (g2 := F0 m 104 ls [.int (τ 14 i), .int (nI i), .ref (ad 14)]) rfl ?_
                refine lv_iconst (v := 1) hx hb d_M_begin_104 (by decide) ?_
                refine lv_iadd hx hb d_M_begin_105 ?_
                refine rl_iast (r := 14) (i := nI i) (x := (τ 14 i) + 1) (n := 30) hx hb hK hP hD hS (by decide) 0 rfl rfl (vp_in_nI (by omega) (by decide)) d_M_begin_106 (fun H locs hP hD hS => ?_)
                rw [nI_clamp (by omega)] at hP hD
                rw [show rl_w RM ad (va_up (gM cs ad (su (su (su τ 0 0 0) 8 i 2) 13 i (nI a))) 14 (arI (clM cs 14) 30 (upd ((su (su (su τ 0 0 0) 8 i 2) 13 i (nI a)) 14) i ((τ 14 i) + 1)))) = wM cs ad (su (su (su (su τ 0 0 0) 8 i 2) 13 i (nI a)) 14 i ((τ 14 i) + 1)) from wM_arr (r := 14) (by decide)] at hP hD
                refine lv_aload_n hx hb d_M_begin_107 rfl (lv_at hl 0 rfl) ?_
                refine rl_get (r := 0) (ci := 4) (v := .ref (ad 6)) (C := R_M) (T := F_M) (N := 25) hx hb hG in_M hown hK hP (by decide) gM_0 rfl 6 (by decide) kw_587 (fun _ h9 => h9) rfl d_M_begin_108 ?_
                refine lv_iload_n hx hb d_M_begin_111 rfl (lv_at hl 1 rfl) ?_
                refine rl_iald (r := 6) (i := nI i) (n := 30) hx hb hK hP (by decide) 0 rfl rfl (vp_in_nI (by omega) (by decide)) d_M_begin_112 ?_
                rw [nI_clamp (by omega)]
                refine W.eq (g2 := F0 m 113 ls [.int (τ 6 i)]) rfl ?_
                rw [ek]
                refine lv_iconst (v := 2) hx hb d_M_begin_113 (by decide) ?_
                refine lv_icmp_le (tgt := 129) hx hb d_M_begin_114 (by decide) (fun c_16 => ?_) (fun c_16 => ?_)
                · refine lv_iconst (v := 1) hx hb d_M_begin_129 (by decide) ?_
                  exact W.iret (v := 1) hx hb hr (fun t ht hW => ⟨⟨1, su (su (su (su τ 0 0 0) 8 i 2) 13 i (nI a)) 14 i ((τ 14 i) + 1), rfl, Or.inr ⟨i, a, k, hi, ha, hk5, rfl, rfl, ek, Or.inr ⟨⟨c_10, Int32.not_lt.mp c_11, Int32.not_lt.mp c_12, c_15⟩, rfl, by rw [if_neg (by have h9 := c_16; rw [← ek] at h9; rw [i32_lt]; rw [i32_le] at h9; omega)]⟩⟩, by rw [ht]; exact hP, va_K.moved hW.alike hK, hD⟩, hS.F ht⟩) hS.2.2 d_M_begin_130
                · refine lv_aload_n hx hb d_M_begin_117 rfl (lv_at hl 0 rfl) ?_
                  refine rl_get (r := 0) (ci := 4) (v := .ref (ad 16)) (C := R_M) (T := F_M) (N := 25) hx hb hG in_M hown hK hP (by decide) gM_0 rfl 16 (by decide) kw_597 (fun _ h9 => h9) rfl d_M_begin_118 ?_
                  refine lv_aload_n hx hb d_M_begin_121 rfl (lv_at hl 0 rfl) ?_
                  refine rl_get (r := 0) (ci := 4) (v := .ref (ad 5)) (C := R_M) (T := F_M) (N := 25) hx hb hG in_M hown hK hP (by decide) gM_0 rfl 5 (by decide) kw_586 (fun _ h9 => h9) rfl d_M_begin_122 ?_
                  refine lv_iload_n hx hb d_M_begin_125 rfl (lv_at hl 1 rfl) ?_
                  refine rl_iald (r := 5) (i := nI i) (n := 30) hx hb hK hP (by decide) 0 rfl rfl (vp_in_nI (by omega) (by decide)) d_M_begin_126 ?_
                  rw [nI_clamp (by omega)]
                  refine W.eq (g2 := F0 m 127 ls [.int (τ 5 i), .ref (ad 16)]) rfl ?_
                  rw [ed]
                  refine lv_iconst (v := 1) hx hb d_M_begin_127 (by decide) ?_
                  refine rl_zast (r := 16) (i := nI d) (x := 1) (n := 10) hx hb hK hP hD hS (by decide) 1 rfl rfl (vp_in_nI (by omega) (by decide)) d_M_begin_128 (fun H locs hP hD hS => ?_)
                  rw [nI_clamp (by omega)] at hP hD
                  rw [show vp_nar .boolean (1 : Int32) = 1 from rfl] at hP hD
                  rw [show rl_w RM ad (va_up (gM cs ad (su (su (su (su τ 0 0 0) 8 i 2) 13 i (nI a)) 14 i ((τ 14 i) + 1))) 16 (arI (clM cs 16) 10 (upd ((su (su (su (su τ 0 0 0) 8 i 2) 13 i (nI a)) 14 i ((τ 14 i) + 1)) 16) d 1))) = wM cs ad (su (su (su (su (su τ 0 0 0) 8 i 2) 13 i (nI a)) 14 i ((τ 14 i) + 1)) 16 d 1) from wM_arr (r := 16) (by decide)] at hP hD
                  refine lv_iconst (v := 1) hx hb d_M_begin_129 (by decide) ?_
                  exact W.iret (v := 1) hx hb hr (fun t ht hW => ⟨⟨1, su (su (su (su (su τ 0 0 0) 8 i 2) 13 i (nI a)) 14 i ((τ 14 i) + 1)) 16 d 1, rfl, Or.inr ⟨i, a, k, hi, ha, hk5, rfl, rfl, ek, Or.inr ⟨⟨c_10, Int32.not_lt.mp c_11, Int32.not_lt.mp c_12, c_15⟩, rfl, by rw [if_pos (by have h9 := c_16; rw [← ek] at h9; rw [i32_lt]; rw [i32_le] at h9; omega), ed, nI_clamp (by omega)]⟩⟩, by rw [ht]; exact hP, va_K.moved hW.alike hK, hD⟩, hS.F ht⟩) hS.2.2 d_M_begin_130
              · refine lv_iconst (v := 0) hx hb d_M_begin_81 (by decide) ?_
                exact W.iret (v := 0) hx hb hr (fun t ht hW => ⟨⟨0, su τ 0 0 0, rfl, Or.inr ⟨i, a, k, hi, ha, hk5, rfl, rfl, ek, Or.inl ⟨fun h9 => h9.2.2.2 c_15, rfl, rfl⟩⟩, by rw [ht]; exact hP, va_K.moved hW.alike hK, hD⟩, hS.F ht⟩) hS.2.2 d_M_begin_82
set_option maxHeartbeats 4000000 in
set_option maxRecDepth 100000 in
theorem c_M_giveUp (l : Launch) (D : va_G) (cs : Nat → ClassId) (ad : Nat → Nat) (τ : Nat → Nat → Int32) (n nm : Nat) (hM : Mv τ n nm) (sz : Nat) (p0 : Int32) : Met l y_M_giveUp (Cond.code y_M_giveUp b_M_giveUp 2 (some .boolean) :: GW) ({ frames := 2, cells := 0, slots := 0, locals := 64 }) (va_Pc [.ref (ad 0), .int p0] (wr_B D cs (wM cs ad τ) sz)) (va_Qi (fun r (u : Nat → Nat → Int32) => (¬ (0 ≤ p0 ∧ p0 < nI n) ∧ r = 0 ∧ u = su τ 0 0 0) ∨ ∃ i, i < n ∧ p0 = nI i ∧ ((¬ (τ 8 i = 0 ∨ τ 8 i = 1 ∨ τ 8 i = 4) ∧ r = 0 ∧ u = su τ 0 0 0) ∨ ((τ 8 i = 0 ∨ τ 8 i = 1 ∨ τ 8 i = 4) ∧ r = 1 ∧ u = su (su τ 0 0 0) 8 i 5))) (fun u => wr_T D cs (wM cs ad u) (va_A (wM cs ad τ) sz)) (va_A (wM cs ad τ) sz)) 0 0 (va_A (wM cs ad τ) sz) := by
  refine Met.ofW (cc := b_M_giveUp) (maxL := 2) (ret := (some .boolean)) (by decide) rfl ?_
  intro p e s m args below meth c s₁ B hml hv
  obtain ⟨rfl, hsz, hP, hK, hD0⟩ := hv
  have hx := B.exec
  have hb := B.bytes
  have hr := B.returns
  have hts := atoms_spec (ws := Cond.code y_M_giveUp b_M_giveUp 2 (some .boolean) :: GW) B.pre
  have hG : ∀ w ∈ GW, w.before _ s = true := fun w h => hts w (List.mem_cons_of_mem _ h)
  have hown : s.vm.findClass R_M = some m.cls := findClass_of_methodNamed B.named
  have hlocks := B.notSynchronized
  subst hsz
  have hD := hD0.self (sz := s.heap.size)
  generalize hAe : va_A (wM cs ad τ) s.heap.size = A at hD ⊢
  have hA : ∀ q : Nat, s.heap.size ≤ q → A q := fun q h => by rw [← hAe]; exact Or.inr h
  have hS : va_S A s.heap s.heap [] := va_S.rf
  have hn30 : n ≤ 30 := hM.2.2.1
  have hm40 : nm ≤ 40 := hM.2.2.2.1
  have hl := lv_entry ([.ref (ad 0), .int p0]) (n := 2) (Nat.le_of_ble_eq_true rfl)
  rw [lg_entry_eq]
  generalize (lg_sl ([.ref (ad 0), .int p0]) ++ List.replicate (2 - (lg_sl ([.ref (ad 0), .int p0])).length) Slot.unset).toArray = ls at hl ⊢
  have hl : lv_has ls 2 [(0, .ref (ad 0)), (1, .int p0)] := hl
  refine lv_aload_n hx hb d_M_giveUp_0 rfl (lv_at hl 0 rfl) ?_
  refine lv_iconst (v := 0) hx hb d_M_giveUp_1 (by decide) ?_
  refine rl_put (r := 0) (ci := 4) (v := .int 0) (ty := .int) (C := R_M) (T := F_M) (N := 25) hx hb hG in_M T_M T_M_ok n_M hown hK hP hD hS (by decide) gM_0 rfl 0 (by decide) kw_581 (fun _ h9 => h9) rfl (by decide +kernel) rfl rfl (Nat.le_of_ble_eq_true rfl) d_M_giveUp_2 (fun H locs hP hD hS => ?_)
  rw [wM_sc (by decide)] at hP hD
  refine lv_aload_n hx hb d_M_giveUp_5 rfl (lv_at hl 0 rfl) ?_
  refine lv_iload_n hx hb d_M_giveUp_6 rfl (lv_at hl 1 rfl) ?_
  refine vp_callSi (W.runV (As := [.int p0]) (rest := []) ⟨hx, hb, hml, hown, hts⟩ (c_M_isOne l D cs ad (su τ 0 0 0) n nm (Mv_0 hM) p0) (cwV 1 hts (gw_V kw_684 kw_686 ks_1_2 kw_6 kw_687) rfl rfl rfl (by decide +kernel) ⟨Nat.le_of_ble_eq_true rfl, Nat.le_of_ble_eq_true rfl⟩) (rd_V hP hK (rl_recv hK hP (by decide) gM_0 rfl)) rfl rfl hl.1 rfl (lv_room (Nat.le_of_ble_eq_true rfl)) d_M_giveUp_7 ⟨Nat.zero_le _, Nat.zero_le _⟩) (fun r_1 h_2 => ?_)
  subst h_2
  refine lv_if_eq (tgt := 42) hx hb d_M_giveUp_10 (by decide) (fun c_3 => ?_) (fun c_3 => ?_)
  · refine lv_iconst (v := 0) hx hb d_M_giveUp_42 (by decide) ?_
    exact W.zret (v := 0) (ty := .boolean) hx hb hr rfl (fun t ht hW => ⟨⟨0, su τ 0 0 0, rfl, Or.inl ⟨b2i_eq0.mp c_3, rfl, rfl⟩, by rw [ht]; exact hP, va_K.moved hW.alike hK, hD⟩, hS.F ht⟩) hS.2.2 d_M_giveUp_43
  · obtain ⟨i, hi, rfl⟩ := atS (by omega) (Classical.not_not.mp (fun h => c_3 (b2i_eq0.mpr h)))
    refine lv_aload_n hx hb d_M_giveUp_13 rfl (lv_at hl 0 rfl) ?_
    refine rl_get (r := 0) (ci := 4) (v := .ref (ad 8)) (C := R_M) (T := F_M) (N := 25) hx hb hG in_M hown hK hP (by decide) gM_0 rfl 8 (by decide) kw_589 (fun _ h9 => h9) rfl d_M_giveUp_14 ?_
    refine lv_iload_n hx hb d_M_giveUp_17 rfl (lv_at hl 1 rfl) ?_
    refine rl_iald (r := 8) (i := nI i) (n := 30) hx hb hK hP (by decide) 0 rfl rfl (vp_in_nI (by omega) (by decide)) d_M_giveUp_18 ?_
    rw [nI_clamp (by omega)]
    refine W.eq (g2 := F0 m 19 ls [.int (τ 8 i)]) rfl ?_
    refine lv_if_eq (tgt := 44) hx hb d_M_giveUp_19 (by decide) (fun c_4 => ?_) (fun c_4 => ?_)
    · refine lv_aload_n hx hb d_M_giveUp_44 rfl (lv_at hl 0 rfl) ?_
      refine rl_get (r := 0) (ci := 4) (v := .ref (ad 8)) (C := R_M) (T := F_M) (N := 25) hx hb hG in_M hown hK hP (by decide) gM_0 rfl 8 (by decide) kw_589 (fun _ h9 => h9) rfl d_M_giveUp_45 ?_
      refine lv_iload_n hx hb d_M_giveUp_48 rfl (lv_at hl 1 rfl) ?_
      refine lv_iconst (v := 5) hx hb d_M_giveUp_49 (by decide) ?_
      refine rl_iast (r := 8) (i := nI i) (x := 5) (n := 30) hx hb hK hP hD hS (by decide) 0 rfl rfl (vp_in_nI (by omega) (by decide)) d_M_giveUp_50 (fun H locs hP hD hS => ?_)
      rw [nI_clamp (by omega)] at hP hD
      rw [show rl_w RM ad (va_up (gM cs ad (su τ 0 0 0)) 8 (arI (clM cs 8) 30 (upd ((su τ 0 0 0) 8) i 5))) = wM cs ad (su (su τ 0 0 0) 8 i 5) from wM_arr (r := 8) (by decide)] at hP hD
      refine lv_iconst (v := 1) hx hb d_M_giveUp_51 (by decide) ?_
      exact W.zret (v := 1) (ty := .boolean) hx hb hr rfl (fun t ht hW => ⟨⟨1, su (su τ 0 0 0) 8 i 5, rfl, Or.inr ⟨i, hi, rfl, Or.inr ⟨Or.inl c_4, rfl, rfl⟩⟩, by rw [ht]; exact hP, va_K.moved hW.alike hK, hD⟩, hS.F ht⟩) hS.2.2 d_M_giveUp_52
    · refine lv_aload_n hx hb d_M_giveUp_22 rfl (lv_at hl 0 rfl) ?_
      refine rl_get (r := 0) (ci := 4) (v := .ref (ad 8)) (C := R_M) (T := F_M) (N := 25) hx hb hG in_M hown hK hP (by decide) gM_0 rfl 8 (by decide) kw_589 (fun _ h9 => h9) rfl d_M_giveUp_23 ?_
      refine lv_iload_n hx hb d_M_giveUp_26 rfl (lv_at hl 1 rfl) ?_
      refine rl_iald (r := 8) (i := nI i) (n := 30) hx hb hK hP (by decide) 0 rfl rfl (vp_in_nI (by omega) (by decide)) d_M_giveUp_27 ?_
      rw [nI_clamp (by omega)]
      refine W.eq (g2 := F0 m 28 ls [.int (τ 8 i)]) rfl ?_
      refine lv_iconst (v := 1) hx hb d_M_giveUp_28 (by decide) ?_
      refine lv_icmp_eq (tgt := 44) hx hb d_M_giveUp_29 (by decide) (fun c_5 => ?_) (fun c_5 => ?_)
      · refine lv_aload_n hx hb d_M_giveUp_44 rfl (lv_at hl 0 rfl) ?_
        refine rl_get (r := 0) (ci := 4) (v := .ref (ad 8)) (C := R_M) (T := F_M) (N := 25) hx hb hG in_M hown hK hP (by decide) gM_0 rfl 8 (by decide) kw_589 (fun _ h9 => h9) rfl d_M_giveUp_45 ?_
        refine lv_iload_n hx hb d_M_giveUp_48 rfl (lv_at hl 1 rfl) ?_
        refine lv_iconst (v := 5) hx hb d_M_giveUp_49 (by decide) ?_
        refine rl_iast (r := 8) (i := nI i) (x := 5) (n := 30) hx hb hK hP hD hS (by decide) 0 rfl rfl (vp_in_nI (by omega) (by decide)) d_M_giveUp_50 (fun H locs hP hD hS => ?_)
        rw [nI_clamp (by omega)] at hP hD
        rw [show rl_w RM ad (va_up (gM cs ad (su τ 0 0 0)) 8 (arI (clM cs 8) 30 (upd ((su τ 0 0 0) 8) i 5))) = wM cs ad (su (su τ 0 0 0) 8 i 5) from wM_arr (r := 8) (by decide)] at hP hD
        refine lv_iconst (v := 1) hx hb d_M_giveUp_51 (by decide) ?_
        exact W.zret (v := 1) (ty := .boolean) hx hb hr rfl (fun t ht hW => ⟨⟨1, su (su τ 0 0 0) 8 i 5, rfl, Or.inr ⟨i, hi, rfl, Or.inr ⟨Or.inr (Or.inl c_5), rfl, rfl⟩⟩, by rw [ht]; exact hP, va_K.moved hW.alike hK, hD⟩, hS.F ht⟩) hS.2.2 d_M_giveUp_52
      · refine lv_aload_n hx hb d_M_giveUp_32 rfl (lv_at hl 0 rfl) ?_
        refine rl_get (r := 0) (ci := 4) (v := .ref (ad 8)) (C := R_M) (T := F_M) (N := 25) hx hb hG in_M hown hK hP (by decide) gM_0 rfl 8 (by decide) kw_589 (fun _ h9 => h9) rfl d_M_giveUp_33 ?_
        refine lv_iload_n hx hb d_M_giveUp_36 rfl (lv_at hl 1 rfl) ?_
        refine rl_iald (r := 8) (i := nI i) (n := 30) hx hb hK hP (by decide) 0 rfl rfl (vp_in_nI (by omega) (by decide)) d_M_giveUp_37 ?_
        rw [nI_clamp (by omega)]
        refine W.eq (g2 := F0 m 38 ls [.int (τ 8 i)]) rfl ?_
        refine lv_iconst (v := 4) hx hb d_M_giveUp_38 (by decide) ?_
        refine lv_icmp_eq (tgt := 44) hx hb d_M_giveUp_39 (by decide) (fun c_6 => ?_) (fun c_6 => ?_)
        · refine lv_aload_n hx hb d_M_giveUp_44 rfl (lv_at hl 0 rfl) ?_
          refine rl_get (r := 0) (ci := 4) (v := .ref (ad 8)) (C := R_M) (T := F_M) (N := 25) hx hb hG in_M hown hK hP (by decide) gM_0 rfl 8 (by decide) kw_589 (fun _ h9 => h9) rfl d_M_giveUp_45 ?_
          refine lv_iload_n hx hb d_M_giveUp_48 rfl (lv_at hl 1 rfl) ?_
          refine lv_iconst (v := 5) hx hb d_M_giveUp_49 (by decide) ?_
          refine rl_iast (r := 8) (i := nI i) (x := 5) (n := 30) hx hb hK hP hD hS (by decide) 0 rfl rfl (vp_in_nI (by omega) (by decide)) d_M_giveUp_50 (fun H locs hP hD hS => ?_)
          rw [nI_clamp (by omega)] at hP hD
          rw [show rl_w RM ad (va_up (gM cs ad (su τ 0 0 0)) 8 (arI (clM cs 8) 30 (upd ((su τ 0 0 0) 8) i 5))) = wM cs ad (su (su τ 0 0 0) 8 i 5) from wM_arr (r := 8) (by decide)] at hP hD
          refine lv_iconst (v := 1) hx hb d_M_giveUp_51 (by decide) ?_
          exact W.zret (v := 1) (ty := .boolean) hx hb hr rfl (fun t ht hW => ⟨⟨1, su (su τ 0 0 0) 8 i 5, rfl, Or.inr ⟨i, hi, rfl, Or.inr ⟨Or.inr (Or.inr c_6), rfl, rfl⟩⟩, by rw [ht]; exact hP, va_K.moved hW.alike hK, hD⟩, hS.F ht⟩) hS.2.2 d_M_giveUp_52
        · refine lv_iconst (v := 0) hx hb d_M_giveUp_42 (by decide) ?_
          exact W.zret (v := 0) (ty := .boolean) hx hb hr rfl (fun t ht hW => ⟨⟨0, su τ 0 0 0, rfl, Or.inr ⟨i, hi, rfl, Or.inl ⟨fun h9 => h9.elim c_4 (fun h8 => h8.elim c_5 c_6), rfl, rfl⟩⟩, by rw [ht]; exact hP, va_K.moved hW.alike hK, hD⟩, hS.F ht⟩) hS.2.2 d_M_giveUp_43
set_option maxHeartbeats 4000000 in
set_option maxRecDepth 100000 in
theorem c_M_declared (l : Launch) (D : va_G) (cs : Nat → ClassId) (ad : Nat → Nat) (τ : Nat → Nat → Int32) (n nm : Nat) (hM : Mv τ n nm) (sz : Nat) (p0 p1 p2 : Int32) : Met l y_M_declared (Cond.code y_M_declared b_M_declared 4 (some .boolean) :: GW) ({ frames := 2, cells := 0, slots := 0, locals := 64 }) (va_Pc [.ref (ad 0), .int p0, .int p1, .int p2] (wr_B D cs (wM cs ad τ) sz)) (va_Qi (fun r (u : Nat → Nat → Int32) => (¬ ((0 ≤ p0 ∧ p0 < 10) ∧ (0 ≤ p1 ∧ p1 ≤ 3) ∧ (0 ≤ p2 ∧ p2 ≤ 1000000)) ∧ r = 0 ∧ u = su τ 0 0 0) ∨ ∃ a b, a < 10 ∧ b < 4 ∧ p0 = nI a ∧ p1 = nI b ∧ (0 ≤ p2 ∧ p2 ≤ 1000000) ∧ r = 1 ∧ u = su (su τ 0 0 0) 18 (4 * a + b) p2) (fun u => wr_T D cs (wM cs ad u) (va_A (wM cs ad τ) sz)) (va_A (wM cs ad τ) sz)) 0 0 (va_A (wM cs ad τ) sz) := by
  refine Met.ofW (cc := b_M_declared) (maxL := 4) (ret := (some .boolean)) (by decide) rfl ?_
  intro p e s m args below meth c s₁ B hml hv
  obtain ⟨rfl, hsz, hP, hK, hD0⟩ := hv
  have hx := B.exec
  have hb := B.bytes
  have hr := B.returns
  have hts := atoms_spec (ws := Cond.code y_M_declared b_M_declared 4 (some .boolean) :: GW) B.pre
  have hG : ∀ w ∈ GW, w.before _ s = true := fun w h => hts w (List.mem_cons_of_mem _ h)
  have hown : s.vm.findClass R_M = some m.cls := findClass_of_methodNamed B.named
  have hlocks := B.notSynchronized
  subst hsz
  have hD := hD0.self (sz := s.heap.size)
  generalize hAe : va_A (wM cs ad τ) s.heap.size = A at hD ⊢
  have hA : ∀ q : Nat, s.heap.size ≤ q → A q := fun q h => by rw [← hAe]; exact Or.inr h
  have hS : va_S A s.heap s.heap [] := va_S.rf
  have hn30 : n ≤ 30 := hM.2.2.1
  have hm40 : nm ≤ 40 := hM.2.2.2.1
  have hl := lv_entry ([.ref (ad 0), .int p0, .int p1, .int p2]) (n := 4) (Nat.le_of_ble_eq_true rfl)
  rw [lg_entry_eq]
  generalize (lg_sl ([.ref (ad 0), .int p0, .int p1, .int p2]) ++ List.replicate (4 - (lg_sl ([.ref (ad 0), .int p0, .int p1, .int p2])).length) Slot.unset).toArray = ls at hl ⊢
  have hl : lv_has ls 4 [(0, .ref (ad 0)), (1, .int p0), (2, .int p1), (3, .int p2)] := hl
  refine lv_aload_n hx hb d_M_declared_0 rfl (lv_at hl 0 rfl) ?_
  refine lv_iconst (v := 0) hx hb d_M_declared_1 (by decide) ?_
  refine rl_put (r := 0) (ci := 4) (v := .int 0) (ty := .int) (C := R_M) (T := F_M) (N := 25) hx hb hG in_M T_M T_M_ok n_M hown hK hP hD hS (by decide) gM_0 rfl 0 (by decide) kw_581 (fun _ h9 => h9) rfl (by decide +kernel) rfl rfl (Nat.le_of_ble_eq_true rfl) d_M_declared_2 (fun H locs hP hD hS => ?_)
  rw [wM_sc (by decide)] at hP hD
  refine lv_iload_n hx hb d_M_declared_5 rfl (lv_at hl 1 rfl) ?_
  refine vp_callSi (W.runS (As := [.int p0]) (rest := []) ⟨hx, hb, hml, hown, hts⟩ (c_M_isTen l p0) (va_cwS 1 hts (gw_S kw_661 kw_662 kw_6 kw_663) rfl rfl rfl (by decide +kernel) ⟨Nat.le_of_ble_eq_true rfl, Nat.le_of_ble_eq_true rfl⟩) ⟨fun _ _ _ _ q => q, fun U _ _ => ⟨rfl, trivial⟩⟩ rfl rfl hl.1 rfl (lv_room (Nat.le_of_ble_eq_true rfl)) d_M_declared_6 ⟨Nat.zero_le _, Nat.zero_le _⟩) (fun r_1 h_2 => ?_)
  subst h_2
  refine lv_if_eq (tgt := 31) hx hb d_M_declared_9 (by decide) (fun c_3 => ?_) (fun c_3 => ?_)
  · refine lv_iconst (v := 0) hx hb d_M_declared_31 (by decide) ?_
    exact W.zret (v := 0) (ty := .boolean) hx hb hr rfl (fun t ht hW => ⟨⟨0, su τ 0 0 0, rfl, Or.inl ⟨fun h9 => (b2i_eq0.mp c_3) (h9.1), rfl, rfl⟩, by rw [ht]; exact hP, va_K.moved hW.alike hK, hD⟩, hS.F ht⟩) hS.2.2 d_M_declared_32
  · obtain ⟨a, ha, rfl⟩ := at10 (Classical.not_not.mp (fun h => c_3 (b2i_eq0.mpr h)))
    refine lv_iload_n hx hb d_M_declared_12 rfl (lv_at hl 2 rfl) ?_
    refine lv_iconst (v := 0) hx hb d_M_declared_13 (by decide) ?_
    refine lv_iconst (v := 3) hx hb d_M_declared_14 (by decide) ?_
    refine vp_callSi (W.runS (As := [.int p1, .int 0, .int 3]) (rest := []) ⟨hx, hb, hml, hown, hts⟩ (c_M_in l p1 0 3) (va_cwS 3 hts (gw_S kw_664 kw_665 kw_6 kw_666) rfl rfl rfl (by decide +kernel) ⟨Nat.le_of_ble_eq_true rfl, Nat.le_of_ble_eq_true rfl⟩) ⟨fun _ _ _ _ q => q, fun U _ _ => ⟨rfl, trivial⟩⟩ rfl rfl hl.1 rfl (lv_room (Nat.le_of_ble_eq_true rfl)) d_M_declared_15 ⟨Nat.zero_le _, Nat.zero_le _⟩) (fun r_4 h_5 => ?_)
    subst h_5
    refine lv_if_eq (tgt := 31) hx hb d_M_declared_18 (by decide) (fun c_6 => ?_) (fun c_6 => ?_)
    · refine lv_iconst (v := 0) hx hb d_M_declared_31 (by decide) ?_
      exact W.zret (v := 0) (ty := .boolean) hx hb hr rfl (fun t ht hW => ⟨⟨0, su τ 0 0 0, rfl, Or.inl ⟨fun h9 => (b2i_eq0.mp c_6) (h9.2.1), rfl, rfl⟩, by rw [ht]; exact hP, va_K.moved hW.alike hK, hD⟩, hS.F ht⟩) hS.2.2 d_M_declared_32
    · obtain ⟨b, hb9, rfl⟩ := atN (M := 3) (N := 3) (by decide) (Classical.not_not.mp (fun h => c_6 (b2i_eq0.mpr h)))
      refine lv_iload_n hx hb d_M_declared_21 rfl (lv_at hl 3 rfl) ?_
      refine lv_iconst (v := 0) hx hb d_M_declared_22 (by decide) ?_
      refine lv_ldc (v := 1000000) hx hb hown (hG _ kw_708) d_M_declared_23 ?_
      refine vp_callSi (W.runS (As := [.int p2, .int 0, .int 1000000]) (rest := []) ⟨hx, hb, hml, hown, hts⟩ (c_M_in l p2 0 1000000) (va_cwS 3 hts (gw_S kw_664 kw_665 kw_6 kw_666) rfl rfl rfl (by decide +kernel) ⟨Nat.le_of_ble_eq_true rfl, Nat.le_of_ble_eq_true rfl⟩) ⟨fun _ _ _ _ q => q, fun U _ _ => ⟨rfl, trivial⟩⟩ rfl rfl hl.1 rfl (lv_room (Nat.le_of_ble_eq_true rfl)) d_M_declared_25 ⟨Nat.zero_le _, Nat.zero_le _⟩) (fun r_7 h_8 => ?_)
      subst h_8
      refine lv_if_ne (tgt := 33) hx hb d_M_declared_28 (by decide) (fun c_9 => ?_) (fun c_9 => ?_)
      · refine lv_aload_n hx hb d_M_declared_33 rfl (lv_at hl 0 rfl) ?_
        refine rl_get (r := 0) (ci := 4) (v := .ref (ad 18)) (C := R_M) (T := F_M) (N := 25) hx hb hG in_M hown hK hP (by decide) gM_0 rfl 18 (by decide) kw_599 (fun _ h9 => h9) rfl d_M_declared_34 ?_
        refine lv_iconst (v := 4) hx hb d_M_declared_37 (by decide) ?_
        refine lv_iload_n hx hb d_M_declared_38 rfl (lv_at hl 1 rfl) ?_
        refine lv_imul hx hb d_M_declared_39 ?_
        refine lv_iload_n hx hb d_M_declared_40 rfl (lv_at hl 2 rfl) ?_
        refine lv_iadd hx hb d_M_declared_41 ?_
        refine lv_iload_n hx hb d_M_declared_42 rfl (lv_at hl 3 rfl) ?_
        rw [ix4]
        refine rl_iast (r := 18) (i := nI (4 * a + b)) (x := p2) (n := 40) hx hb hK hP hD hS (by decide) 0 rfl rfl (vp_in_nI (by omega) (by decide)) d_M_declared_43 (fun H locs hP hD hS => ?_)
        rw [nI_clamp (by omega)] at hP hD
        rw [show rl_w RM ad (va_up (gM cs ad (su τ 0 0 0)) 18 (arI (clM cs 18) 40 (upd ((su τ 0 0 0) 18) (4 * a + b) p2))) = wM cs ad (su (su τ 0 0 0) 18 (4 * a + b) p2) from wM_arr (r := 18) (by decide)] at hP hD
        refine lv_iconst (v := 1) hx hb d_M_declared_44 (by decide) ?_
        exact W.zret (v := 1) (ty := .boolean) hx hb hr rfl (fun t ht hW => ⟨⟨1, su (su τ 0 0 0) 18 (4 * a + b) p2, rfl, Or.inr ⟨a, b, ha, hb9, rfl, rfl, Classical.not_not.mp (fun h => c_9 (b2i_eq0.mpr h)), rfl, rfl⟩, by rw [ht]; exact hP, va_K.moved hW.alike hK, hD⟩, hS.F ht⟩) hS.2.2 d_M_declared_45
      · refine lv_iconst (v := 0) hx hb d_M_declared_31 (by decide) ?_
        exact W.zret (v := 0) (ty := .boolean) hx hb hr rfl (fun t ht hW => ⟨⟨0, su τ 0 0 0, rfl, Or.inl ⟨fun h9 => (b2i_eq0.mp c_9) (h9.2.2), rfl, rfl⟩, by rw [ht]; exact hP, va_K.moved hW.alike hK, hD⟩, hS.F ht⟩) hS.2.2 d_M_declared_32
set_option maxHeartbeats 4000000 in
set_option maxRecDepth 100000 in
theorem c_M_tolerance (l : Launch) (D : va_G) (cs : Nat → ClassId) (ad : Nat → Nat) (τ : Nat → Nat → Int32) (n nm : Nat) (hM : Mv τ n nm) (sz : Nat) (p0 p1 p2 : Int32) : Met l y_M_tolerance (Cond.code y_M_tolerance b_M_tolerance 4 (some .boolean) :: GW) ({ frames := 2, cells := 0, slots := 0, locals := 64 }) (va_Pc [.ref (ad 0), .int p0, .int p1, .int p2] (wr_B D cs (wM cs ad τ) sz)) (va_Qi (fun r (u : Nat → Nat → Int32) => (¬ ((0 ≤ p0 ∧ p0 ≤ 3) ∧ (0 ≤ p1 ∧ p1 ≤ 1000) ∧ (0 ≤ p2 ∧ p2 ≤ 1000)) ∧ r = 0 ∧ u = su τ 0 0 0) ∨ ∃ b, b < 4 ∧ p0 = nI b ∧ (0 ≤ p1 ∧ p1 ≤ 1000) ∧ (0 ≤ p2 ∧ p2 ≤ 1000) ∧ r = 1 ∧ u = su (su (su τ 0 0 0) 23 b p1) 24 b p2) (fun u => wr_T D cs (wM cs ad u) (va_A (wM cs ad τ) sz)) (va_A (wM cs ad τ) sz)) 0 0 (va_A (wM cs ad τ) sz) := by
  refine Met.ofW (cc := b_M_tolerance) (maxL := 4) (ret := (some .boolean)) (by decide) rfl ?_
  intro p e s m args below meth c s₁ B hml hv
  obtain ⟨rfl, hsz, hP, hK, hD0⟩ := hv
  have hx := B.exec
  have hb := B.bytes
  have hr := B.returns
  have hts := atoms_spec (ws := Cond.code y_M_tolerance b_M_tolerance 4 (some .boolean) :: GW) B.pre
  have hG : ∀ w ∈ GW, w.before _ s = true := fun w h => hts w (List.mem_cons_of_mem _ h)
  have hown : s.vm.findClass R_M = some m.cls := findClass_of_methodNamed B.named
  have hlocks := B.notSynchronized
  subst hsz
  have hD := hD0.self (sz := s.heap.size)
  generalize hAe : va_A (wM cs ad τ) s.heap.size = A at hD ⊢
  have hA : ∀ q : Nat, s.heap.size ≤ q → A q := fun q h => by rw [← hAe]; exact Or.inr h
  have hS : va_S A s.heap s.heap [] := va_S.rf
  have hn30 : n ≤ 30 := hM.2.2.1
  have hm40 : nm ≤ 40 := hM.2.2.2.1
  have hl := lv_entry ([.ref (ad 0), .int p0, .int p1, .int p2]) (n := 4) (Nat.le_of_ble_eq_true rfl)
  rw [lg_entry_eq]
  generalize (lg_sl ([.ref (ad 0), .int p0, .int p1, .int p2]) ++ List.replicate (4 - (lg_sl ([.ref (ad 0), .int p0, .int p1, .int p2])).length) Slot.unset).toArray = ls at hl ⊢
  have hl : lv_has ls 4 [(0, .ref (ad 0)), (1, .int p0), (2, .int p1), (3, .int p2)] := hl
  refine lv_aload_n hx hb d_M_tolerance_0 rfl (lv_at hl 0 rfl) ?_
  refine lv_iconst (v := 0) hx hb d_M_tolerance_1 (by decide) ?_
  refine rl_put (r := 0) (ci := 4) (v := .int 0) (ty := .int) (C := R_M) (T := F_M) (N := 25) hx hb hG in_M T_M T_M_ok n_M hown hK hP hD hS (by decide) gM_0 rfl 0 (by decide) kw_581 (fun _ h9 => h9) rfl (by decide +kernel) rfl rfl (Nat.le_of_ble_eq_true rfl) d_M_tolerance_2 (fun H locs hP hD hS => ?_)
  rw [wM_sc (by decide)] at hP hD
  refine lv_iload_n hx hb d_M_tolerance_5 rfl (lv_at hl 1 rfl) ?_
  refine lv_iconst (v := 0) hx hb d_M_tolerance_6 (by decide) ?_
  refine lv_iconst (v := 3) hx hb d_M_tolerance_7 (by decide) ?_
  refine vp_callSi (W.runS (As := [.int p0, .int 0, .int 3]) (rest := []) ⟨hx, hb, hml, hown, hts⟩ (c_M_in l p0 0 3) (va_cwS 3 hts (gw_S kw_664 kw_665 kw_6 kw_666) rfl rfl rfl (by decide +kernel) ⟨Nat.le_of_ble_eq_true rfl, Nat.le_of_ble_eq_true rfl⟩) ⟨fun _ _ _ _ q => q, fun U _ _ => ⟨rfl, trivial⟩⟩ rfl rfl hl.1 rfl (lv_room (Nat.le_of_ble_eq_true rfl)) d_M_tolerance_8 ⟨Nat.zero_le _, Nat.zero_le _⟩) (fun r_1 h_2 => ?_)
  subst h_2
  refine lv_if_eq (tgt := 36) hx hb d_M_tolerance_11 (by decide) (fun c_3 => ?_) (fun c_3 => ?_)
  · refine lv_iconst (v := 0) hx hb d_M_tolerance_36 (by decide) ?_
    exact W.zret (v := 0) (ty := .boolean) hx hb hr rfl (fun t ht hW => ⟨⟨0, su τ 0 0 0, rfl, Or.inl ⟨fun h9 => (b2i_eq0.mp c_3) (h9.1), rfl, rfl⟩, by rw [ht]; exact hP, va_K.moved hW.alike hK, hD⟩, hS.F ht⟩) hS.2.2 d_M_tolerance_37
  · obtain ⟨b, hb9, rfl⟩ := atN (M := 3) (N := 3) (by decide) (Classical.not_not.mp (fun h => c_3 (b2i_eq0.mpr h)))
    refine lv_iload_n hx hb d_M_tolerance_14 rfl (lv_at hl 2 rfl) ?_
    refine lv_iconst (v := 0) hx hb d_M_tolerance_15 (by decide) ?_
    refine lv_sipush (v := 1000) hx hb d_M_tolerance_16 (by decide) ?_
    refine vp_callSi (W.runS (As := [.int p1, .int 0, .int 1000]) (rest := []) ⟨hx, hb, hml, hown, hts⟩ (c_M_in l p1 0 1000) (va_cwS 3 hts (gw_S kw_664 kw_665 kw_6 kw_666) rfl rfl rfl (by decide +kernel) ⟨Nat.le_of_ble_eq_true rfl, Nat.le_of_ble_eq_true rfl⟩) ⟨fun _ _ _ _ q => q, fun U _ _ => ⟨rfl, trivial⟩⟩ rfl rfl hl.1 rfl (lv_room (Nat.le_of_ble_eq_true rfl)) d_M_tolerance_19 ⟨Nat.zero_le _, Nat.zero_le _⟩) (fun r_4 h_5 => ?_)
    subst h_5
    refine lv_if_eq (tgt := 36) hx hb d_M_tolerance_22 (by decide) (fun c_6 => ?_) (fun c_6 => ?_)
    · refine lv_iconst (v := 0) hx hb d_M_tolerance_36 (by decide) ?_
      exact W.zret (v := 0) (ty := .boolean) hx hb hr rfl (fun t ht hW => ⟨⟨0, su τ 0 0 0, rfl, Or.inl ⟨fun h9 => (b2i_eq0.mp c_6) (h9.2.1), rfl, rfl⟩, by rw [ht]; exact hP, va_K.moved hW.alike hK, hD⟩, hS.F ht⟩) hS.2.2 d_M_tolerance_37
    · refine lv_iload_n hx hb d_M_tolerance_25 rfl (lv_at hl 3 rfl) ?_
      refine lv_iconst (v := 0) hx hb d_M_tolerance_26 (by decide) ?_
      refine lv_sipush (v := 1000) hx hb d_M_tolerance_27 (by decide) ?_
      refine vp_callSi (W.runS (As := [.int p2, .int 0, .int 1000]) (rest := []) ⟨hx, hb, hml, hown, hts⟩ (c_M_in l p2 0 1000) (va_cwS 3 hts (gw_S kw_664 kw_665 kw_6 kw_666) rfl rfl rfl (by decide +kernel) ⟨Nat.le_of_ble_eq_true rfl, Nat.le_of_ble_eq_true rfl⟩) ⟨fun _ _ _ _ q => q, fun U _ _ => ⟨rfl, trivial⟩⟩ rfl rfl hl.1 rfl (lv_room (Nat.le_of_ble_eq_true rfl)) d_M_tolerance_30 ⟨Nat.zero_le _, Nat.zero_le _⟩) (fun r_7 h_8 => ?_)
      subst h_8
      refine lv_if_ne (tgt := 38) hx hb d_M_tolerance_33 (by decide) (fun c_9 => ?_) (fun c_9 => ?_)
      · refine lv_aload_n hx hb d_M_tolerance_38 rfl (lv_at hl 0 rfl) ?_
        refine rl_get (r := 0) (ci := 4) (v := .ref (ad 23)) (C := R_M) (T := F_M) (N := 25) hx hb hG in_M hown hK hP (by decide) gM_0 rfl 23 (by decide) kw_604 (fun _ h9 => h9) rfl d_M_tolerance_39 ?_
        refine lv_iload_n hx hb d_M_tolerance_42 rfl (lv_at hl 1 rfl) ?_
        refine lv_iload_n hx hb d_M_tolerance_43 rfl (lv_at hl 2 rfl) ?_
        refine rl_iast (r := 23) (i := nI b) (x := p1) (n := 4) hx hb hK hP hD hS (by decide) 0 rfl rfl (vp_in_nI (by omega) (by decide)) d_M_tolerance_44 (fun H locs hP hD hS => ?_)
        rw [nI_clamp (by omega)] at hP hD
        rw [show rl_w RM ad (va_up (gM cs ad (su τ 0 0 0)) 23 (arI (clM cs 23) 4 (upd ((su τ 0 0 0) 23) b p1))) = wM cs ad (su (su τ 0 0 0) 23 b p1) from wM_arr (r := 23) (by decide)] at hP hD
        refine lv_aload_n hx hb d_M_tolerance_45 rfl (lv_at hl 0 rfl) ?_
        refine rl_get (r := 0) (ci := 4) (v := .ref (ad 24)) (C := R_M) (T := F_M) (N := 25) hx hb hG in_M hown hK hP (by decide) gM_0 rfl 24 (by decide) kw_605 (fun _ h9 => h9) rfl d_M_tolerance_46 ?_
        refine lv_iload_n hx hb d_M_tolerance_49 rfl (lv_at hl 1 rfl) ?_
        refine lv_iload_n hx hb d_M_tolerance_50 rfl (lv_at hl 3 rfl) ?_
        refine rl_iast (r := 24) (i := nI b) (x := p2) (n := 4) hx hb hK hP hD hS (by decide) 0 rfl rfl (vp_in_nI (by omega) (by decide)) d_M_tolerance_51 (fun H locs hP hD hS => ?_)
        rw [nI_clamp (by omega)] at hP hD
        rw [show rl_w RM ad (va_up (gM cs ad (su (su τ 0 0 0) 23 b p1)) 24 (arI (clM cs 24) 4 (upd ((su (su τ 0 0 0) 23 b p1) 24) b p2))) = wM cs ad (su (su (su τ 0 0 0) 23 b p1) 24 b p2) from wM_arr (r := 24) (by decide)] at hP hD
        refine lv_iconst (v := 1) hx hb d_M_tolerance_52 (by decide) ?_
        exact W.zret (v := 1) (ty := .boolean) hx hb hr rfl (fun t ht hW => ⟨⟨1, su (su (su τ 0 0 0) 23 b p1) 24 b p2, rfl, Or.inr ⟨b, hb9, rfl, Classical.not_not.mp (fun h => c_6 (b2i_eq0.mpr h)), Classical.not_not.mp (fun h => c_9 (b2i_eq0.mpr h)), rfl, rfl⟩, by rw [ht]; exact hP, va_K.moved hW.alike hK, hD⟩, hS.F ht⟩) hS.2.2 d_M_tolerance_53
      · refine lv_iconst (v := 0) hx hb d_M_tolerance_36 (by decide) ?_
        exact W.zret (v := 0) (ty := .boolean) hx hb hr rfl (fun t ht hW => ⟨⟨0, su τ 0 0 0, rfl, Or.inl ⟨fun h9 => (b2i_eq0.mp c_9) (h9.2.2), rfl, rfl⟩, by rw [ht]; exact hP, va_K.moved hW.alike hK, hD⟩, hS.F ht⟩) hS.2.2 d_M_tolerance_37
set_option maxHeartbeats 4000000 in
set_option maxRecDepth 100000 in
theorem c_M_sample (l : Launch) (D : va_G) (cs : Nat → ClassId) (ad : Nat → Nat) (τ : Nat → Nat → Int32) (n nm : Nat) (hM : Mv τ n nm) (sz : Nat) (p0 p1 : Int32) : Met l y_M_sample (Cond.code y_M_sample b_M_sample 3 (some .int) :: GW) ({ frames := 2, cells := 0, slots := 0, locals := 64 }) (va_Pc [.ref (ad 0), .int p0, .int p1] (wr_B D cs (wM cs ad τ) sz)) (va_Qi (fun r (u : Nat → Nat → Int32) => (¬ ((0 ≤ p0 ∧ p0 < nI n) ∧ (1 ≤ p1 ∧ p1 ≤ 1000000)) ∧ r = 0 ∧ u = su τ 0 0 1) ∨ ((∃ i, i < n ∧ p0 = nI i ∧ (1 ≤ p1 ∧ p1 ≤ 1000000)) ∧ nm = 40 ∧ r = 0 ∧ u = su τ 0 0 2) ∨ ∃ i, i < n ∧ p0 = nI i ∧ (1 ≤ p1 ∧ p1 ≤ 1000000) ∧ nm < 40 ∧ ((¬ ((2 < τ 6 i ∧ τ 8 i = 2) ∧ slM τ p1 nm < 0) ∧ r = -1 ∧ u = su τ 0 0 0) ∨ (((2 < τ 6 i ∧ τ 8 i = 2) ∧ slM τ p1 nm < 0) ∧ r = nI nm ∧ u = su (su (su (su τ 0 0 0) 19 nm (nI i)) 20 nm p1) 0 2 (nI (nm + 1))))) (fun u => wr_T D cs (wM cs ad u) (va_A (wM cs ad τ) sz)) (va_A (wM cs ad τ) sz)) 0 0 (va_A (wM cs ad τ) sz) := by
  refine Met.ofW (cc := b_M_sample) (maxL := 3) (ret := (some .int)) (by decide) rfl ?_
  intro p e s m args below meth c s₁ B hml hv
  obtain ⟨rfl, hsz, hP, hK, hD0⟩ := hv
  have hx := B.exec
  have hb := B.bytes
  have hr := B.returns
  have hts := atoms_spec (ws := Cond.code y_M_sample b_M_sample 3 (some .int) :: GW) B.pre
  have hG : ∀ w ∈ GW, w.before _ s = true := fun w h => hts w (List.mem_cons_of_mem _ h)
  have hown : s.vm.findClass R_M = some m.cls := findClass_of_methodNamed B.named
  have hlocks := B.notSynchronized
  subst hsz
  have hD := hD0.self (sz := s.heap.size)
  generalize hAe : va_A (wM cs ad τ) s.heap.size = A at hD ⊢
  have hA : ∀ q : Nat, s.heap.size ≤ q → A q := fun q h => by rw [← hAe]; exact Or.inr h
  have hS : va_S A s.heap s.heap [] := va_S.rf
  have hn30 : n ≤ 30 := hM.2.2.1
  have hm40 : nm ≤ 40 := hM.2.2.2.1
  have hl := lv_entry ([.ref (ad 0), .int p0, .int p1]) (n := 3) (Nat.le_of_ble_eq_true rfl)
  rw [lg_entry_eq]
  generalize (lg_sl ([.ref (ad 0), .int p0, .int p1]) ++ List.replicate (3 - (lg_sl ([.ref (ad 0), .int p0, .int p1])).length) Slot.unset).toArray = ls at hl ⊢
  have hl : lv_has ls 3 [(0, .ref (ad 0)), (1, .int p0), (2, .int p1)] := hl
  refine lv_aload_n hx hb d_M_sample_0 rfl (lv_at hl 0 rfl) ?_
  refine lv_aload_n hx hb d_M_sample_1 rfl (lv_at hl 0 rfl) ?_
  refine lv_iload_n hx hb d_M_sample_2 rfl (lv_at hl 1 rfl) ?_
  refine vp_callSi (W.runV (As := [.int p0]) (rest := [.ref (ad 0)]) ⟨hx, hb, hml, hown, hts⟩ (c_M_isOne l D cs ad τ n nm hM p0) (cwV 1 hts (gw_V kw_684 kw_686 ks_1_2 kw_6 kw_687) rfl rfl rfl (by decide +kernel) ⟨Nat.le_of_ble_eq_true rfl, Nat.le_of_ble_eq_true rfl⟩) (rd_V hP hK (rl_recv hK hP (by decide) gM_0 rfl)) rfl rfl hl.1 rfl (lv_room (Nat.le_of_ble_eq_true rfl)) d_M_sample_3 ⟨Nat.zero_le _, Nat.zero_le _⟩) (fun r_1 h_2 => ?_)
  subst h_2
  refine lv_if_eq (tgt := 19) hx hb d_M_sample_6 (by decide) (fun c_3 => ?_) (fun c_3 => ?_)
  · refine lv_iconst (v := 1) hx hb d_M_sample_19 (by decide) ?_
    refine lv_goto (tgt := 37) hx hb d_M_sample_20 (by decide) ?_
    refine rl_put (r := 0) (ci := 4) (v := .int 1) (ty := .int) (C := R_M) (T := F_M) (N := 25) hx hb hG in_M T_M T_M_ok n_M hown hK hP hD hS (by decide) gM_0 rfl 0 (by decide) kw_581 (fun _ h9 => h9) rfl (by decide +kernel) rfl rfl (Nat.le_of_ble_eq_true rfl) d_M_sample_37 (fun H locs hP hD hS => ?_)
    rw [wM_sc (by decide)] at hP hD
    refine lv_aload_n hx hb d_M_sample_40 rfl (lv_at hl 0 rfl) ?_
    refine rl_get (r := 0) (ci := 4) (v := .int 1) (C := R_M) (T := F_M) (N := 25) hx hb hG in_M hown hK hP (by decide) gM_0 rfl 0 (by decide) kw_581 (fun _ h9 => h9) rfl d_M_sample_41 ?_
    refine lv_if_le (tgt := 49) hx hb d_M_sample_44 (by decide) (fun c_4 => ?_) (fun c_4 => ?_)
    · exact absurd c_4 (by decide)
    · refine lv_iconst (v := 0) hx hb d_M_sample_47 (by decide) ?_
      exact W.iret (v := 0) hx hb hr (fun t ht hW => ⟨⟨0, su τ 0 0 1, rfl, Or.inl ⟨fun h9 => (b2i_eq0.mp c_3) (h9.1), rfl, rfl⟩, by rw [ht]; exact hP, va_K.moved hW.alike hK, hD⟩, hS.F ht⟩) hS.2.2 d_M_sample_48
  · obtain ⟨i, hi, rfl⟩ := atS (by omega) (Classical.not_not.mp (fun h => c_3 (b2i_eq0.mpr h)))
    refine lv_iload_n hx hb d_M_sample_9 rfl (lv_at hl 2 rfl) ?_
    refine lv_iconst (v := 1) hx hb d_M_sample_10 (by decide) ?_
    refine lv_ldc (v := 1000000) hx hb hown (hG _ kw_708) d_M_sample_11 ?_
    refine vp_callSi (W.runS (As := [.int p1, .int 1, .int 1000000]) (rest := [.ref (ad 0)]) ⟨hx, hb, hml, hown, hts⟩ (c_M_in l p1 1 1000000) (va_cwS 3 hts (gw_S kw_664 kw_665 kw_6 kw_666) rfl rfl rfl (by decide +kernel) ⟨Nat.le_of_ble_eq_true rfl, Nat.le_of_ble_eq_true rfl⟩) ⟨fun _ _ _ _ q => q, fun U _ _ => ⟨rfl, trivial⟩⟩ rfl rfl hl.1 rfl (lv_room (Nat.le_of_ble_eq_true rfl)) d_M_sample_13 ⟨Nat.zero_le _, Nat.zero_le _⟩) (fun r_5 h_6 => ?_)
    subst h_6
    refine lv_if_ne (tgt := 23) hx hb d_M_sample_16 (by decide) (fun c_7 => ?_) (fun c_7 => ?_)
    · refine lv_aload_n hx hb d_M_sample_23 rfl (lv_at hl 0 rfl) ?_
      refine rl_get (r := 0) (ci := 4) (v := .int (nI nm)) (C := R_M) (T := F_M) (N := 25) hx hb hG in_M hown hK hP (by decide) gM_0 rfl 2 (by decide) kw_583 (fun _ h9 => h9) (show _ = some (Value.int (nI nm)) by rw [← hM.2.1]; rfl) d_M_sample_24 ?_
      refine lv_bipush (v := 40) hx hb d_M_sample_27 (by decide) ?_
      refine lv_icmp_ne (tgt := 36) hx hb d_M_sample_29 (by decide) (fun c_8 => ?_) (fun c_8 => ?_)
      · have hm9 : nm < 40 := Nat.lt_of_le_of_ne hm40 (fun h9 => c_8 (by rw [h9]; rfl))
        refine lv_iconst (v := 0) hx hb d_M_sample_36 (by decide) ?_
        refine rl_put (r := 0) (ci := 4) (v := .int 0) (ty := .int) (C := R_M) (T := F_M) (N := 25) hx hb hG in_M T_M T_M_ok n_M hown hK hP hD hS (by decide) gM_0 rfl 0 (by decide) kw_581 (fun _ h9 => h9) rfl (by decide +kernel) rfl rfl (Nat.le_of_ble_eq_true rfl) d_M_sample_37 (fun H locs hP hD hS => ?_)
        rw [wM_sc (by decide)] at hP hD
        refine lv_aload_n hx hb d_M_sample_40 rfl (lv_at hl 0 rfl) ?_
        refine rl_get (r := 0) (ci := 4) (v := .int 0) (C := R_M) (T := F_M) (N := 25) hx hb hG in_M hown hK hP (by decide) gM_0 rfl 0 (by decide) kw_581 (fun _ h9 => h9) rfl d_M_sample_41 ?_
        refine lv_if_le (tgt := 49) hx hb d_M_sample_44 (by decide) (fun c_9 => ?_) (fun c_9 => ?_)
        · refine lv_aload_n hx hb d_M_sample_49 rfl (lv_at hl 0 rfl) ?_
          refine lv_iload_n hx hb d_M_sample_50 rfl (lv_at hl 1 rfl) ?_
          refine vp_callSi (W.runV (As := [.int (nI i)]) (rest := []) ⟨hx, hb, hml, hown, hts⟩ (c_M_isOpened l D cs ad (su τ 0 0 0) n nm (Mv_0 hM) i (by omega)) (cwV 1 hts (gw_V kw_709 kw_711 ks_1_4 kw_6 kw_712) rfl rfl rfl (by decide +kernel) ⟨Nat.le_of_ble_eq_true rfl, Nat.le_of_ble_eq_true rfl⟩) (rd_V hP hK (rl_recv hK hP (by decide) gM_0 rfl)) rfl rfl hl.1 rfl (lv_room (Nat.le_of_ble_eq_true rfl)) d_M_sample_51 ⟨Nat.zero_le _, Nat.zero_le _⟩) (fun r_10 h_11 => ?_)
          subst h_11
          refine W.eq (g2 := F0 m 54 ls [.int (b2i (2 < τ 6 i ∧ τ 8 i = 2))]) rfl ?_
          refine lv_if_eq (tgt := 65) hx hb d_M_sample_54 (by decide) (fun c_12 => ?_) (fun c_12 => ?_)
          · refine lv_iconst (v := (-1)) hx hb d_M_sample_65 (by decide) ?_
            exact W.iret (v := (-1)) hx hb hr (fun t ht hW => ⟨⟨(-1), su τ 0 0 0, rfl, Or.inr (Or.inr ⟨i, hi, rfl, Classical.not_not.mp (fun h => c_7 (b2i_eq0.mpr h)), hm9, Or.inl ⟨fun h9 => (b2i_eq0.mp c_12) h9.1, rfl, rfl⟩⟩), by rw [ht]; exact hP, va_K.moved hW.alike hK, hD⟩, hS.F ht⟩) hS.2.2 d_M_sample_66
          · refine lv_aload_n hx hb d_M_sample_57 rfl (lv_at hl 0 rfl) ?_
            refine lv_iload_n hx hb d_M_sample_58 rfl (lv_at hl 2 rfl) ?_
            refine vp_callSi (W.runV (As := [.int p1]) (rest := []) ⟨hx, hb, hml, hown, hts⟩ (c_M_sealed l D cs ad (su τ 0 0 0) n nm (Mv_0 hM) p1) (cwV 1 hts (gw_V kw_717 kw_719 ks_1_5 kw_6 kw_720) rfl rfl rfl (by decide +kernel) ⟨Nat.le_of_ble_eq_true rfl, Nat.le_of_ble_eq_true rfl⟩) (rd_V hP hK (rl_recv hK hP (by decide) gM_0 rfl)) rfl rfl hl.1 rfl (lv_room (Nat.le_of_ble_eq_true rfl)) d_M_sample_59 ⟨Nat.zero_le _, Nat.zero_le _⟩) (fun r_13 h_14 => ?_)
            subst h_14
            rw [slM_0]
            refine lv_if_lt (tgt := 67) hx hb d_M_sample_62 (by decide) (fun c_15 => ?_) (fun c_15 => ?_)
            · refine lv_aload_n hx hb d_M_sample_67 rfl (lv_at hl 0 rfl) ?_
              refine rl_get (r := 0) (ci := 4) (v := .ref (ad 19)) (C := R_M) (T := F_M) (N := 25) hx hb hG in_M hown hK hP (by decide) gM_0 rfl 19 (by decide) kw_600 (fun _ h9 => h9) rfl d_M_sample_68 ?_
              refine lv_aload_n hx hb d_M_sample_71 rfl (lv_at hl 0 rfl) ?_
              refine rl_get (r := 0) (ci := 4) (v := .int (nI nm)) (C := R_M) (T := F_M) (N := 25) hx hb hG in_M hown hK hP (by decide) gM_0 rfl 2 (by decide) kw_583 (fun _ h9 => h9) (show _ = some (Value.int (nI nm)) by rw [← hM.2.1]; rfl) d_M_sample_72 ?_
              refine lv_iload_n hx hb d_M_sample_75 rfl (lv_at hl 1 rfl) ?_
              refine rl_iast (r := 19) (i := nI nm) (x := nI i) (n := 40) hx hb hK hP hD hS (by decide) 0 rfl rfl (vp_in_nI (by omega) (by decide)) d_M_sample_76 (fun H locs hP hD hS => ?_)
              rw [nI_clamp (by omega)] at hP hD
              rw [show rl_w RM ad (va_up (gM cs ad (su τ 0 0 0)) 19 (arI (clM cs 19) 40 (upd ((su τ 0 0 0) 19) nm (nI i)))) = wM cs ad (su (su τ 0 0 0) 19 nm (nI i)) from wM_arr (r := 19) (by decide)] at hP hD
              refine lv_aload_n hx hb d_M_sample_77 rfl (lv_at hl 0 rfl) ?_
              refine rl_get (r := 0) (ci := 4) (v := .ref (ad 20)) (C := R_M) (T := F_M) (N := 25) hx hb hG in_M hown hK hP (by decide) gM_0 rfl 20 (by decide) kw_601 (fun _ h9 => h9) rfl d_M_sample_78 ?_
              refine lv_aload_n hx hb d_M_sample_81 rfl (lv_at hl 0 rfl) ?_
              refine rl_get (r := 0) (ci := 4) (v := .int (nI nm)) (C := R_M) (T := F_M) (N := 25) hx hb hG in_M hown hK hP (by decide) gM_0 rfl 2 (by decide) kw_583 (fun _ h9 => h9) (show _ = some (Value.int (nI nm)) by rw [← hM.2.1]; rfl) d_M_sample_82 ?_
              refine lv_iload_n hx hb d_M_sample_85 rfl (lv_at hl 2 rfl) ?_
              refine rl_iast (r := 20) (i := nI nm) (x := p1) (n := 40) hx hb hK hP hD hS (by decide) 0 rfl rfl (vp_in_nI (by omega) (by decide)) d_M_sample_86 (fun H locs hP hD hS => ?_)
              rw [nI_clamp (by omega)] at hP hD
              rw [show rl_w RM ad (va_up (gM cs ad (su (su τ 0 0 0) 19 nm (nI i))) 20 (arI (clM cs 20) 40 (upd ((su (su τ 0 0 0) 19 nm (nI i)) 20) nm p1))) = wM cs ad (su (su (su τ 0 0 0) 19 nm (nI i)) 20 nm p1) from wM_arr (r := 20) (by decide)] at hP hD
              refine lv_aload_n hx hb d_M_sample_87 rfl (lv_at hl 0 rfl) ?_
              refine lv_dup hx hb d_M_sample_88 rfl ?_
              refine rl_get (r := 0) (ci := 4) (v := .int (nI nm)) (C := R_M) (T := F_M) (N := 25) hx hb hG in_M hown hK hP (by decide) gM_0 rfl 2 (by decide) kw_583 (fun _ h9 => h9) (show _ = some (Value.int (nI nm)) by rw [← hM.2.1]; rfl) d_M_sample_89 ?_
              refine lv_iconst (v := 1) hx hb d_M_sample_92 (by decide) ?_
              refine lv_iadd hx hb d_M_sample_93 ?_
              refine rl_put (r := 0) (ci := 4) (v := .int ((nI nm) + 1)) (ty := .int) (C := R_M) (T := F_M) (N := 25) hx hb hG in_M T_M T_M_ok n_M hown hK hP hD hS (by decide) gM_0 rfl 2 (by decide) kw_583 (fun _ h9 => h9) rfl (by decide +kernel) rfl rfl (Nat.le_of_ble_eq_true rfl) d_M_sample_94 (fun H locs hP hD hS => ?_)
              rw [wM_sc (by decide)] at hP hD
              rw [nI_1] at hP hD
              refine lv_aload_n hx hb d_M_sample_97 rfl (lv_at hl 0 rfl) ?_
              refine rl_get (r := 0) (ci := 4) (v := .int (nI (nm + 1))) (C := R_M) (T := F_M) (N := 25) hx hb hG in_M hown hK hP (by decide) gM_0 rfl 2 (by decide) kw_583 (fun _ h9 => h9) rfl d_M_sample_98 ?_
              refine lv_iconst (v := 1) hx hb d_M_sample_101 (by decide) ?_
              refine lv_isub hx hb d_M_sample_102 ?_
              rw [nI_pred]
              exact W.iret (v := nI nm) hx hb hr (fun t ht hW => ⟨⟨nI nm, su (su (su (su τ 0 0 0) 19 nm (nI i)) 20 nm p1) 0 2 (nI (nm + 1)), rfl, Or.inr (Or.inr ⟨i, hi, rfl, Classical.not_not.mp (fun h => c_7 (b2i_eq0.mpr h)), hm9, Or.inr ⟨⟨Classical.not_not.mp (fun h => c_12 (b2i_eq0.mpr h)), c_15⟩, rfl, rfl⟩⟩), by rw [ht]; exact hP, va_K.moved hW.alike hK, hD⟩, hS.F ht⟩) hS.2.2 d_M_sample_103
            · refine lv_iconst (v := (-1)) hx hb d_M_sample_65 (by decide) ?_
              exact W.iret (v := (-1)) hx hb hr (fun t ht hW => ⟨⟨(-1), su τ 0 0 0, rfl, Or.inr (Or.inr ⟨i, hi, rfl, Classical.not_not.mp (fun h => c_7 (b2i_eq0.mpr h)), hm9, Or.inl ⟨fun h9 => c_15 h9.2, rfl, rfl⟩⟩), by rw [ht]; exact hP, va_K.moved hW.alike hK, hD⟩, hS.F ht⟩) hS.2.2 d_M_sample_66
        · exact absurd (by decide) c_9
      · refine lv_iconst (v := 2) hx hb d_M_sample_32 (by decide) ?_
        refine lv_goto (tgt := 37) hx hb d_M_sample_33 (by decide) ?_
        refine rl_put (r := 0) (ci := 4) (v := .int 2) (ty := .int) (C := R_M) (T := F_M) (N := 25) hx hb hG in_M T_M T_M_ok n_M hown hK hP hD hS (by decide) gM_0 rfl 0 (by decide) kw_581 (fun _ h9 => h9) rfl (by decide +kernel) rfl rfl (Nat.le_of_ble_eq_true rfl) d_M_sample_37 (fun H locs hP hD hS => ?_)
        rw [wM_sc (by decide)] at hP hD
        refine lv_aload_n hx hb d_M_sample_40 rfl (lv_at hl 0 rfl) ?_
        refine rl_get (r := 0) (ci := 4) (v := .int 2) (C := R_M) (T := F_M) (N := 25) hx hb hG in_M hown hK hP (by decide) gM_0 rfl 0 (by decide) kw_581 (fun _ h9 => h9) rfl d_M_sample_41 ?_
        refine lv_if_le (tgt := 49) hx hb d_M_sample_44 (by decide) (fun c_16 => ?_) (fun c_16 => ?_)
        · exact absurd c_16 (by decide)
        · refine lv_iconst (v := 0) hx hb d_M_sample_47 (by decide) ?_
          exact W.iret (v := 0) hx hb hr (fun t ht hW => ⟨⟨0, su τ 0 0 2, rfl, Or.inr (Or.inl ⟨⟨i, hi, rfl, Classical.not_not.mp (fun h => c_7 (b2i_eq0.mpr h))⟩, (nI_eq (b := 40) (by omega) (by decide)).mp c_8, rfl, rfl⟩), by rw [ht]; exact hP, va_K.moved hW.alike hK, hD⟩, hS.F ht⟩) hS.2.2 d_M_sample_48
    · refine lv_iconst (v := 1) hx hb d_M_sample_19 (by decide) ?_
      refine lv_goto (tgt := 37) hx hb d_M_sample_20 (by decide) ?_
      refine rl_put (r := 0) (ci := 4) (v := .int 1) (ty := .int) (C := R_M) (T := F_M) (N := 25) hx hb hG in_M T_M T_M_ok n_M hown hK hP hD hS (by decide) gM_0 rfl 0 (by decide) kw_581 (fun _ h9 => h9) rfl (by decide +kernel) rfl rfl (Nat.le_of_ble_eq_true rfl) d_M_sample_37 (fun H locs hP hD hS => ?_)
      rw [wM_sc (by decide)] at hP hD
      refine lv_aload_n hx hb d_M_sample_40 rfl (lv_at hl 0 rfl) ?_
      refine rl_get (r := 0) (ci := 4) (v := .int 1) (C := R_M) (T := F_M) (N := 25) hx hb hG in_M hown hK hP (by decide) gM_0 rfl 0 (by decide) kw_581 (fun _ h9 => h9) rfl d_M_sample_41 ?_
      refine lv_if_le (tgt := 49) hx hb d_M_sample_44 (by decide) (fun c_17 => ?_) (fun c_17 => ?_)
      · exact absurd c_17 (by decide)
      · refine lv_iconst (v := 0) hx hb d_M_sample_47 (by decide) ?_
        exact W.iret (v := 0) hx hb hr (fun t ht hW => ⟨⟨0, su τ 0 0 1, rfl, Or.inl ⟨fun h9 => (b2i_eq0.mp c_7) (h9.2), rfl, rfl⟩, by rw [ht]; exact hP, va_K.moved hW.alike hK, hD⟩, hS.F ht⟩) hS.2.2 d_M_sample_48
set_option maxHeartbeats 4000000 in
set_option maxRecDepth 100000 in
theorem c_M_hold (l : Launch) (D : va_G) (cs : Nat → ClassId) (ad : Nat → Nat) (τ : Nat → Nat → Int32) (n nm : Nat) (hM : Mv τ n nm) (sz : Nat) (p0 p1 p2 : Int32) : Met l y_M_hold (Cond.code y_M_hold b_M_hold 4 (some .boolean) :: GW) ({ frames := 2, cells := 0, slots := 0, locals := 64 }) (va_Pc [.ref (ad 0), .int p0, .int p1, .int p2] (wr_B D cs (wM cs ad τ) sz)) (va_Qi (fun r (u : Nat → Nat → Int32) => (¬ ((0 ≤ p0 ∧ p0 < 10) ∧ (0 ≤ p1 ∧ p1 ≤ 7)) ∧ r = 0 ∧ u = su τ 0 0 0) ∨ ∃ a b, a < 10 ∧ b < 8 ∧ p0 = nI a ∧ p1 = nI b ∧ ((b2i (τ 17 a >>> (nI b &&& 31) &&& 1 = 1) = p2 ∧ r = 0 ∧ u = su τ 0 0 0) ∨ (¬ b2i (τ 17 a >>> (nI b &&& 31) &&& 1 = 1) = p2 ∧ r = 1 ∧ u = su (su τ 0 0 0) 17 a (τ 17 a + (if p2 = 0 then -(1 <<< (nI b &&& 31)) else 1 <<< (nI b &&& 31)))))) (fun u => wr_T D cs (wM cs ad u) (va_A (wM cs ad τ) sz)) (va_A (wM cs ad τ) sz)) 0 0 (va_A (wM cs ad τ) sz) := by
  refine Met.ofW (cc := b_M_hold) (maxL := 4) (ret := (some .boolean)) (by decide) rfl ?_
  intro p e s m args below meth c s₁ B hml hv
  obtain ⟨rfl, hsz, hP, hK, hD0⟩ := hv
  have hx := B.exec
  have hb := B.bytes
  have hr := B.returns
  have hts := atoms_spec (ws := Cond.code y_M_hold b_M_hold 4 (some .boolean) :: GW) B.pre
  have hG : ∀ w ∈ GW, w.before _ s = true := fun w h => hts w (List.mem_cons_of_mem _ h)
  have hown : s.vm.findClass R_M = some m.cls := findClass_of_methodNamed B.named
  have hlocks := B.notSynchronized
  subst hsz
  have hD := hD0.self (sz := s.heap.size)
  generalize hAe : va_A (wM cs ad τ) s.heap.size = A at hD ⊢
  have hA : ∀ q : Nat, s.heap.size ≤ q → A q := fun q h => by rw [← hAe]; exact Or.inr h
  have hS : va_S A s.heap s.heap [] := va_S.rf
  have hn30 : n ≤ 30 := hM.2.2.1
  have hm40 : nm ≤ 40 := hM.2.2.2.1
  have hl := lv_entry ([.ref (ad 0), .int p0, .int p1, .int p2]) (n := 4) (Nat.le_of_ble_eq_true rfl)
  rw [lg_entry_eq]
  generalize (lg_sl ([.ref (ad 0), .int p0, .int p1, .int p2]) ++ List.replicate (4 - (lg_sl ([.ref (ad 0), .int p0, .int p1, .int p2])).length) Slot.unset).toArray = ls at hl ⊢
  have hl : lv_has ls 4 [(0, .ref (ad 0)), (1, .int p0), (2, .int p1), (3, .int p2)] := hl
  refine lv_aload_n hx hb d_M_hold_0 rfl (lv_at hl 0 rfl) ?_
  refine lv_iconst (v := 0) hx hb d_M_hold_1 (by decide) ?_
  refine rl_put (r := 0) (ci := 4) (v := .int 0) (ty := .int) (C := R_M) (T := F_M) (N := 25) hx hb hG in_M T_M T_M_ok n_M hown hK hP hD hS (by decide) gM_0 rfl 0 (by decide) kw_581 (fun _ h9 => h9) rfl (by decide +kernel) rfl rfl (Nat.le_of_ble_eq_true rfl) d_M_hold_2 (fun H locs hP hD hS => ?_)
  rw [wM_sc (by decide)] at hP hD
  refine lv_iload_n hx hb d_M_hold_5 rfl (lv_at hl 1 rfl) ?_
  refine vp_callSi (W.runS (As := [.int p0]) (rest := []) ⟨hx, hb, hml, hown, hts⟩ (c_M_isTen l p0) (va_cwS 1 hts (gw_S kw_661 kw_662 kw_6 kw_663) rfl rfl rfl (by decide +kernel) ⟨Nat.le_of_ble_eq_true rfl, Nat.le_of_ble_eq_true rfl⟩) ⟨fun _ _ _ _ q => q, fun U _ _ => ⟨rfl, trivial⟩⟩ rfl rfl hl.1 rfl (lv_room (Nat.le_of_ble_eq_true rfl)) d_M_hold_6 ⟨Nat.zero_le _, Nat.zero_le _⟩) (fun r_1 h_2 => ?_)
  subst h_2
  refine lv_if_eq (tgt := 45) hx hb d_M_hold_9 (by decide) (fun c_3 => ?_) (fun c_3 => ?_)
  · refine lv_iconst (v := 0) hx hb d_M_hold_45 (by decide) ?_
    exact W.zret (v := 0) (ty := .boolean) hx hb hr rfl (fun t ht hW => ⟨⟨0, su τ 0 0 0, rfl, Or.inl ⟨fun h9 => (b2i_eq0.mp c_3) (h9.1), rfl, rfl⟩, by rw [ht]; exact hP, va_K.moved hW.alike hK, hD⟩, hS.F ht⟩) hS.2.2 d_M_hold_46
  · obtain ⟨a, ha, rfl⟩ := at10 (Classical.not_not.mp (fun h => c_3 (b2i_eq0.mpr h)))
    refine lv_iload_n hx hb d_M_hold_12 rfl (lv_at hl 2 rfl) ?_
    refine lv_iconst (v := 0) hx hb d_M_hold_13 (by decide) ?_
    refine lv_bipush (v := 7) hx hb d_M_hold_14 (by decide) ?_
    refine vp_callSi (W.runS (As := [.int p1, .int 0, .int 7]) (rest := []) ⟨hx, hb, hml, hown, hts⟩ (c_M_in l p1 0 7) (va_cwS 3 hts (gw_S kw_664 kw_665 kw_6 kw_666) rfl rfl rfl (by decide +kernel) ⟨Nat.le_of_ble_eq_true rfl, Nat.le_of_ble_eq_true rfl⟩) ⟨fun _ _ _ _ q => q, fun U _ _ => ⟨rfl, trivial⟩⟩ rfl rfl hl.1 rfl (lv_room (Nat.le_of_ble_eq_true rfl)) d_M_hold_16 ⟨Nat.zero_le _, Nat.zero_le _⟩) (fun r_4 h_5 => ?_)
    subst h_5
    refine lv_if_eq (tgt := 45) hx hb d_M_hold_19 (by decide) (fun c_6 => ?_) (fun c_6 => ?_)
    · refine lv_iconst (v := 0) hx hb d_M_hold_45 (by decide) ?_
      exact W.zret (v := 0) (ty := .boolean) hx hb hr rfl (fun t ht hW => ⟨⟨0, su τ 0 0 0, rfl, Or.inl ⟨fun h9 => (b2i_eq0.mp c_6) (h9.2), rfl, rfl⟩, by rw [ht]; exact hP, va_K.moved hW.alike hK, hD⟩, hS.F ht⟩) hS.2.2 d_M_hold_46
    · obtain ⟨b, hb9, rfl⟩ := atN (M := 7) (N := 7) (by decide) (Classical.not_not.mp (fun h => c_6 (b2i_eq0.mpr h)))
      refine lv_aload_n hx hb d_M_hold_22 rfl (lv_at hl 0 rfl) ?_
      refine rl_get (r := 0) (ci := 4) (v := .ref (ad 17)) (C := R_M) (T := F_M) (N := 25) hx hb hG in_M hown hK hP (by decide) gM_0 rfl 17 (by decide) kw_598 (fun _ h9 => h9) rfl d_M_hold_23 ?_
      refine lv_iload_n hx hb d_M_hold_26 rfl (lv_at hl 1 rfl) ?_
      refine rl_iald (r := 17) (i := nI a) (n := 10) hx hb hK hP (by decide) 0 rfl rfl (vp_in_nI (by omega) (by decide)) d_M_hold_27 ?_
      rw [nI_clamp (by omega)]
      refine W.eq (g2 := F0 m 28 ls [.int (τ 17 a)]) rfl ?_
      refine lv_iload_n hx hb d_M_hold_28 rfl (lv_at hl 2 rfl) ?_
      refine lv_ishr hx hb d_M_hold_29 ?_
      refine lv_iconst (v := 1) hx hb d_M_hold_30 (by decide) ?_
      refine lv_iand hx hb d_M_hold_31 ?_
      refine lv_iconst (v := 1) hx hb d_M_hold_32 (by decide) ?_
      refine lv_icmp_ne (tgt := 40) hx hb d_M_hold_33 (by decide) (fun c_7 => ?_) (fun c_7 => ?_)
      · refine lv_iconst (v := 0) hx hb d_M_hold_40 (by decide) ?_
        refine lv_iload_n hx hb d_M_hold_41 rfl (lv_at hl 3 rfl) ?_
        refine lv_icmp_ne (tgt := 47) hx hb d_M_hold_42 (by decide) (fun c_8 => ?_) (fun c_8 => ?_)
        · refine lv_aload_n hx hb d_M_hold_47 rfl (lv_at hl 0 rfl) ?_
          refine rl_get (r := 0) (ci := 4) (v := .ref (ad 17)) (C := R_M) (T := F_M) (N := 25) hx hb hG in_M hown hK hP (by decide) gM_0 rfl 17 (by decide) kw_598 (fun _ h9 => h9) rfl d_M_hold_48 ?_
          refine lv_iload_n hx hb d_M_hold_51 rfl (lv_at hl 1 rfl) ?_
          refine lv_dup2_11 hx hb d_M_hold_52 rfl rfl ?_
          refine rl_iald (r := 17) (i := nI a) (n := 10) hx hb hK hP (by decide) 0 rfl rfl (vp_in_nI (by omega) (by decide)) d_M_hold_53 ?_
          rw [nI_clamp (by omega)]
          refine W.eq (g2 := F0 m 54 ls [.int (τ 17 a), .int (nI a), .ref (ad 17)]) rfl ?_
          refine lv_iload_n hx hb d_M_hold_54 rfl (lv_at hl 3 rfl) ?_
          refine lv_if_eq (tgt := 64) hx hb d_M_hold_55 (by decide) (fun c_9 => ?_) (fun c_9 => ?_)
          · refine lv_iconst (v := 1) hx hb d_M_hold_64 (by decide) ?_
            refine lv_iload_n hx hb d_M_hold_65 rfl (lv_at hl 2 rfl) ?_
            refine lv_ishl hx hb d_M_hold_66 ?_
            refine lv_ineg hx hb d_M_hold_67 ?_
            refine lv_iadd hx hb d_M_hold_68 ?_
            refine rl_iast (r := 17) (i := nI a) (x := (τ 17 a) + (-(1 <<< ((nI b) &&& 31)))) (n := 10) hx hb hK hP hD hS (by decide) 0 rfl rfl (vp_in_nI (by omega) (by decide)) d_M_hold_69 (fun H locs hP hD hS => ?_)
            rw [nI_clamp (by omega)] at hP hD
            rw [show rl_w RM ad (va_up (gM cs ad (su τ 0 0 0)) 17 (arI (clM cs 17) 10 (upd ((su τ 0 0 0) 17) a ((τ 17 a) + (-(1 <<< ((nI b) &&& 31))))))) = wM cs ad (su (su τ 0 0 0) 17 a ((τ 17 a) + (-(1 <<< ((nI b) &&& 31))))) from wM_arr (r := 17) (by decide)] at hP hD
            refine lv_iconst (v := 1) hx hb d_M_hold_70 (by decide) ?_
            exact W.zret (v := 1) (ty := .boolean) hx hb hr rfl (fun t ht hW => ⟨⟨1, su (su τ 0 0 0) 17 a ((τ 17 a) + (-(1 <<< ((nI b) &&& 31)))), rfl, Or.inr ⟨a, b, ha, hb9, rfl, rfl, Or.inr ⟨fun h9 => c_8 ((b2i_f c_7).symm.trans h9), rfl, by rw [if_pos c_9]⟩⟩, by rw [ht]; exact hP, va_K.moved hW.alike hK, hD⟩, hS.F ht⟩) hS.2.2 d_M_hold_71
          · refine lv_iconst (v := 1) hx hb d_M_hold_58 (by decide) ?_
            refine lv_iload_n hx hb d_M_hold_59 rfl (lv_at hl 2 rfl) ?_
            refine lv_ishl hx hb d_M_hold_60 ?_
            refine lv_goto (tgt := 68) hx hb d_M_hold_61 (by decide) ?_
            refine lv_iadd hx hb d_M_hold_68 ?_
            refine rl_iast (r := 17) (i := nI a) (x := (τ 17 a) + (1 <<< ((nI b) &&& 31))) (n := 10) hx hb hK hP hD hS (by decide) 0 rfl rfl (vp_in_nI (by omega) (by decide)) d_M_hold_69 (fun H locs hP hD hS => ?_)
            rw [nI_clamp (by omega)] at hP hD
            rw [show rl_w RM ad (va_up (gM cs ad (su τ 0 0 0)) 17 (arI (clM cs 17) 10 (upd ((su τ 0 0 0) 17) a ((τ 17 a) + (1 <<< ((nI b) &&& 31)))))) = wM cs ad (su (su τ 0 0 0) 17 a ((τ 17 a) + (1 <<< ((nI b) &&& 31)))) from wM_arr (r := 17) (by decide)] at hP hD
            refine lv_iconst (v := 1) hx hb d_M_hold_70 (by decide) ?_
            exact W.zret (v := 1) (ty := .boolean) hx hb hr rfl (fun t ht hW => ⟨⟨1, su (su τ 0 0 0) 17 a ((τ 17 a) + (1 <<< ((nI b) &&& 31))), rfl, Or.inr ⟨a, b, ha, hb9, rfl, rfl, Or.inr ⟨fun h9 => c_8 ((b2i_f c_7).symm.trans h9), rfl, by rw [if_neg c_9]⟩⟩, by rw [ht]; exact hP, va_K.moved hW.alike hK, hD⟩, hS.F ht⟩) hS.2.2 d_M_hold_71
        · refine lv_iconst (v := 0) hx hb d_M_hold_45 (by decide) ?_
          exact W.zret (v := 0) (ty := .boolean) hx hb hr rfl (fun t ht hW => ⟨⟨0, su τ 0 0 0, rfl, Or.inr ⟨a, b, ha, hb9, rfl, rfl, Or.inl ⟨(b2i_f c_7).trans c_8, rfl, rfl⟩⟩, by rw [ht]; exact hP, va_K.moved hW.alike hK, hD⟩, hS.F ht⟩) hS.2.2 d_M_hold_46
      · refine lv_iconst (v := 1) hx hb d_M_hold_36 (by decide) ?_
        refine lv_goto (tgt := 41) hx hb d_M_hold_37 (by decide) ?_
        refine lv_iload_n hx hb d_M_hold_41 rfl (lv_at hl 3 rfl) ?_
        refine lv_icmp_ne (tgt := 47) hx hb d_M_hold_42 (by decide) (fun c_10 => ?_) (fun c_10 => ?_)
        · refine lv_aload_n hx hb d_M_hold_47 rfl (lv_at hl 0 rfl) ?_
          refine rl_get (r := 0) (ci := 4) (v := .ref (ad 17)) (C := R_M) (T := F_M) (N := 25) hx hb hG in_M hown hK hP (by decide) gM_0 rfl 17 (by decide) kw_598 (fun _ h9 => h9) rfl d_M_hold_48 ?_
          refine lv_iload_n hx hb d_M_hold_51 rfl (lv_at hl 1 rfl) ?_
          refine lv_dup2_11 hx hb d_M_hold_52 rfl rfl ?_
          refine rl_iald (r := 17) (i := nI a) (n := 10) hx hb hK hP (by decide) 0 rfl rfl (vp_in_nI (by omega) (by decide)) d_M_hold_53 ?_
          rw [nI_clamp (by omega)]
          refine W.eq (g2 := F0 m 54 ls [.int (τ 17 a), .int (nI a), .ref (ad 17)]) rfl ?_
          refine lv_iload_n hx hb d_M_hold_54 rfl (lv_at hl 3 rfl) ?_
          refine lv_if_eq (tgt := 64) hx hb d_M_hold_55 (by decide) (fun c_11 => ?_) (fun c_11 => ?_)
          · refine lv_iconst (v := 1) hx hb d_M_hold_64 (by decide) ?_
            refine lv_iload_n hx hb d_M_hold_65 rfl (lv_at hl 2 rfl) ?_
            refine lv_ishl hx hb d_M_hold_66 ?_
            refine lv_ineg hx hb d_M_hold_67 ?_
            refine lv_iadd hx hb d_M_hold_68 ?_
            refine rl_iast (r := 17) (i := nI a) (x := (τ 17 a) + (-(1 <<< ((nI b) &&& 31)))) (n := 10) hx hb hK hP hD hS (by decide) 0 rfl rfl (vp_in_nI (by omega) (by decide)) d_M_hold_69 (fun H locs hP hD hS => ?_)
            rw [nI_clamp (by omega)] at hP hD
            rw [show rl_w RM ad (va_up (gM cs ad (su τ 0 0 0)) 17 (arI (clM cs 17) 10 (upd ((su τ 0 0 0) 17) a ((τ 17 a) + (-(1 <<< ((nI b) &&& 31))))))) = wM cs ad (su (su τ 0 0 0) 17 a ((τ 17 a) + (-(1 <<< ((nI b) &&& 31))))) from wM_arr (r := 17) (by decide)] at hP hD
            refine lv_iconst (v := 1) hx hb d_M_hold_70 (by decide) ?_
            exact W.zret (v := 1) (ty := .boolean) hx hb hr rfl (fun t ht hW => ⟨⟨1, su (su τ 0 0 0) 17 a ((τ 17 a) + (-(1 <<< ((nI b) &&& 31)))), rfl, Or.inr ⟨a, b, ha, hb9, rfl, rfl, Or.inr ⟨fun h9 => c_10 ((b2i_t c_7).symm.trans h9), rfl, by rw [if_pos c_11]⟩⟩, by rw [ht]; exact hP, va_K.moved hW.alike hK, hD⟩, hS.F ht⟩) hS.2.2 d_M_hold_71
          · refine lv_iconst (v := 1) hx hb d_M_hold_58 (by decide) ?_
            refine lv_iload_n hx hb d_M_hold_59 rfl (lv_at hl 2 rfl) ?_
            refine lv_ishl hx hb d_M_hold_60 ?_
            refine lv_goto (tgt := 68) hx hb d_M_hold_61 (by decide) ?_
            refine lv_iadd hx hb d_M_hold_68 ?_
            refine rl_iast (r := 17) (i := nI a) (x := (τ 17 a) + (1 <<< ((nI b) &&& 31))) (n := 10) hx hb hK hP hD hS (by decide) 0 rfl rfl (vp_in_nI (by omega) (by decide)) d_M_hold_69 (fun H locs hP hD hS => ?_)
            rw [nI_clamp (by omega)] at hP hD
            rw [show rl_w RM ad (va_up (gM cs ad (su τ 0 0 0)) 17 (arI (clM cs 17) 10 (upd ((su τ 0 0 0) 17) a ((τ 17 a) + (1 <<< ((nI b) &&& 31)))))) = wM cs ad (su (su τ 0 0 0) 17 a ((τ 17 a) + (1 <<< ((nI b) &&& 31)))) from wM_arr (r := 17) (by decide)] at hP hD
            refine lv_iconst (v := 1) hx hb d_M_hold_70 (by decide) ?_
            exact W.zret (v := 1) (ty := .boolean) hx hb hr rfl (fun t ht hW => ⟨⟨1, su (su τ 0 0 0) 17 a ((τ 17 a) + (1 <<< ((nI b) &&& 31))), rfl, Or.inr ⟨a, b, ha, hb9, rfl, rfl, Or.inr ⟨fun h9 => c_10 ((b2i_t c_7).symm.trans h9), rfl, by rw [if_neg c_11]⟩⟩, by rw [ht]; exact hP, va_K.moved hW.alike hK, hD⟩, hS.F ht⟩) hS.2.2 d_M_hold_71
        · refine lv_iconst (v := 0) hx hb d_M_hold_45 (by decide) ?_
          exact W.zret (v := 0) (ty := .boolean) hx hb hr rfl (fun t ht hW => ⟨⟨0, su τ 0 0 0, rfl, Or.inr ⟨a, b, ha, hb9, rfl, rfl, Or.inl ⟨(b2i_t c_7).trans c_10, rfl, rfl⟩⟩, by rw [ht]; exact hP, va_K.moved hW.alike hK, hD⟩, hS.F ht⟩) hS.2.2 d_M_hold_46
