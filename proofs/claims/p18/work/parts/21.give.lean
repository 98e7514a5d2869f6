theorem at_not {i n : Nat} (hn : n < 2 ^ 31) (hi : i < n) : 0 ≤ nI i ∧ nI i ≤ nI n - 1 := by
  refine ⟨nI_pos' (by omega), ?_⟩
  rw [show nI n - 1 = nI (n - 1) by have := nI_pred (n - 1); rwa [Nat.sub_add_cancel (by omega)] at this]
  exact nI_le (by omega) (by omega)
theorem nI_inj {i j : Nat} (hi : i < 2 ^ 31) (hj : j < 2 ^ 31) (h : nI i = nI j) : i = j := (nI_eq hi hj).mp h
set_option maxHeartbeats 4000000 in
set_option maxRecDepth 100000 in
theorem c_C_giveUp (l : Launch) (D : va_G) (cs : Nat → ClassId) (ad : Nat → Nat) (σ : Nat → Nat → Int32) (n nm ci cj E : Nat) (hI : Iv n nm ci cj) (sz : Nat) (p0 : Int32) : Met l y_C_giveUp (Cond.code y_C_giveUp b_C_giveUp 3 (some .boolean) :: GW) ({ frames := 3, cells := 0, slots := 0, locals := 96 }) (va_Pc [.ref (ad 0), .int p0] (wr_B D cs (wC cs ad σ n nm ci cj E) sz)) (va_Qi (fun r (u : Nat → Nat → Int32) => (∃ i, i < n ∧ p0 = nI i ∧ (σ 23 i = 0 ∨ σ 23 i = 1 ∨ σ 23 i = 4) ∧ r = 1 ∧ u = su σ 23 i 5) ∨ ((¬ ∃ i, i < n ∧ p0 = nI i ∧ (σ 23 i = 0 ∨ σ 23 i = 1 ∨ σ 23 i = 4)) ∧ r = 0 ∧ u = σ)) (fun u => wr_T D cs (wC cs ad u n nm ci cj E) (va_A (wC cs ad σ n nm ci cj E) sz)) (va_A (wC cs ad σ n nm ci cj E) sz)) 0 0 (va_A (wC cs ad σ n nm ci cj E) sz) := by
  refine Met.ofW (cc := b_C_giveUp) (maxL := 3) (ret := (some .boolean)) (by decide) rfl ?_
  intro p e s m args below meth c s₁ B hml hv
  obtain ⟨rfl, hsz, hP, hK, hD0⟩ := hv
  have hx := B.exec
  have hb := B.bytes
  have hr := B.returns
  have hts := atoms_spec (ws := Cond.code y_C_giveUp b_C_giveUp 3 (some .boolean) :: GW) B.pre
  have hG : ∀ w ∈ GW, w.before _ s = true := fun w h => hts w (List.mem_cons_of_mem _ h)
  have hown : s.vm.findClass R_C = some m.cls := findClass_of_methodNamed B.named
  have hlocks := B.notSynchronized
  subst hsz
  have hD := hD0.self (sz := s.heap.size)
  generalize hAe : va_A (wC cs ad σ n nm ci cj E) s.heap.size = A at hD ⊢
  have hA : ∀ q : Nat, s.heap.size ≤ q → A q := fun q h => by rw [← hAe]; exact Or.inr h
  have hS : va_S A s.heap s.heap [] := va_S.rf
  have hl := lv_entry ([.ref (ad 0), .int p0]) (n := 3) (Nat.le_of_ble_eq_true rfl)
  rw [lg_entry_eq]
  generalize (lg_sl ([.ref (ad 0), .int p0]) ++ List.replicate (3 - (lg_sl ([.ref (ad 0), .int p0])).length) Slot.unset).toArray = ls at hl ⊢
  have hl : lv_has ls 3 [(0, .ref (ad 0)), (1, .int p0)] := hl
  refine lv_aload_n hx hb d_C_giveUp_0 rfl (lv_at hl 0 rfl) ?_
  refine lv_iload_n hx hb d_C_giveUp_1 rfl (lv_at hl 1 rfl) ?_
  refine vp_callSi (W.runV (As := [.int p0]) (rest := []) ⟨hx, hb, hml, hown, hts⟩ (c_C_isInspection l D cs ad σ n nm ci cj E hI p0) (cwV 1 hts (gw_V kw_112 kw_114 ks_0_1 kw_1 kw_115) rfl rfl rfl (by decide +kernel) ⟨Nat.le_of_ble_eq_true rfl, Nat.le_of_ble_eq_true rfl⟩) (rd_V hP hK (rl_recv hK hP (RC_f (by decide)) gC_0 rfl)) rfl rfl hl.1 rfl (lv_room (Nat.le_of_ble_eq_true rfl)) d_C_giveUp_2 ⟨Nat.zero_le _, Nat.zero_le _⟩) (fun r_1 h_2 => ?_)
  subst h_2
  refine lv_if_ne (tgt := 10) hx hb d_C_giveUp_5 (by decide) (fun c_3 => ?_) (fun c_3 => ?_)
  · obtain ⟨i, hi, rfl⟩ := at_ (by have := hI; unfold Iv at this; omega) (Classical.not_not.mp (fun h => c_3 (b2i_eq0.mpr h)))
    refine lv_aload_n hx hb d_C_giveUp_10 rfl (lv_at hl 0 rfl) ?_
    refine rl_get (r := 0) (ci := 1) (v := .ref (ad 1)) (C := R_C) (T := F_C) (N := 10) hx hb hG in_C hown hK hP (RC_f (by decide)) gC_0 rfl 0 (by decide) kw_59 (fun _ h9 => h9) rfl d_C_giveUp_11 ?_
    refine lv_iload_n hx hb d_C_giveUp_14 rfl (lv_at hl 1 rfl) ?_
    refine va_csr (W.runV (As := [.int (nI i)]) (rest := []) ⟨hx, hb, hml, hown, hts⟩ (c_Al_get l D (tys_ cs) (ad 1) (ad 3) n ci i (ad (100 + i)) (σ 7 0) (cs 2) (rowsF 100 n ad) hi hI.2.2.1 (by have := hI; unfold Iv at this; omega) 2 rfl (if_pos hi)) (cwV 1 hts (gw_V kw_120 kw_121 kw_122 kw_4 kw_123) rfl rfl rfl (by decide +kernel) ⟨Nat.le_of_ble_eq_true rfl, Nat.le_of_ble_eq_true rfl⟩) (rd_V (rl_two hP (RC_f (by decide)) (gC_1 (Nat.lt_of_le_of_lt (Nat.zero_le _) hi)) (RC_3 (Nat.lt_of_le_of_lt (Nat.zero_le _) hi)) gC_3) hK (rl_recv hK hP (RC_f (by decide)) (gC_1 (Nat.lt_of_le_of_lt (Nat.zero_le _) hi)) rfl)) rfl rfl hl.1 rfl (lv_room (Nat.le_of_ble_eq_true rfl)) d_C_giveUp_15 ⟨Nat.zero_le _, Nat.zero_le _⟩) (fun r_4 h_5 => ?_)
    subst h_5
    refine va_castS hx hb hown (hG _ kw_134) ((hK.1 2 _ rfl).2) (rl_recv hK hP (RC_ins hi) (gC_ins (by have := hI; unfold Iv at this; omega)) rfl) d_C_giveUp_18 ?_
    refine lv_astore_n (lv' := [(2, .ref (ad (100 + i))), (0, .ref (ad 0)), (1, .int (nI i))]) hx hb d_C_giveUp_21 rfl hl (by decide) rfl (fun ls hl => ?_)
    refine lv_aload_n hx hb d_C_giveUp_22 rfl (lv_at hl 0 rfl) ?_
    refine vp_callSi (W.runV (As := []) (rest := []) ⟨hx, hb, hml, hown, hts⟩ (c_I_canBeGivenUp l D (tys_ cs) (ad (100 + i)) (σ 20 i) (σ 21 i) (σ 22 i) (σ 23 i) (σ 24 i) (σ 25 i) (σ 26 i) (σ 27 i) (σ 28 i) (σ 29 i)) (cwV 0 hts (gw_V kw_135 kw_136 kw_137 kw_12 kw_138) rfl rfl rfl (by decide +kernel) ⟨Nat.le_of_ble_eq_true rfl, Nat.le_of_ble_eq_true rfl⟩) (rd_V (rl_one hP (RC_ins hi) (gC_ins (by have := hI; unfold Iv at this; omega))) hK (rl_recv hK hP (RC_ins hi) (gC_ins (by have := hI; unfold Iv at this; omega)) rfl)) rfl rfl hl.1 rfl (lv_room (Nat.le_of_ble_eq_true rfl)) d_C_giveUp_23 ⟨Nat.zero_le _, Nat.zero_le _⟩) (fun r_6 h_7 => ?_)
    subst h_7
    refine lv_if_ne (tgt := 31) hx hb d_C_giveUp_26 (by decide) (fun c_8 => ?_) (fun c_8 => ?_)
    · refine lv_aload_n hx hb d_C_giveUp_31 rfl (lv_at hl 0 rfl) ?_
      refine lv_iconst (v := 5) hx hb d_C_giveUp_32 (by decide) ?_
      refine rl_put (r := 100 + i) (ci := 2) (v := .int 5) (ty := .int) (C := R_I) (T := F_I) (N := 10) hx hb hG in_I T_I T_I_ok n_I hown hK hP hD hS (RC_ins hi) (gC_ins (by have := hI; unfold Iv at this; omega)) rfl 3 (by decide) kw_293 (fun _ h9 => h9) rfl (by decide +kernel) rfl rfl (Nat.le_of_ble_eq_true rfl) d_C_giveUp_33 (fun H locs hP hD hS => ?_)
      rw [wC_ins (f := 3) (hn_ hI) (hm_ hI) (by have := hI; unfold Iv at this; omega) (by decide)] at hP hD
      refine lv_iconst (v := 1) hx hb d_C_giveUp_36 (by decide) ?_
      exact W.zret (v := 1) (ty := .boolean) hx hb hr rfl (fun t ht hW => ⟨⟨1, su σ 23 i 5, rfl, Or.inl ⟨i, hi, rfl, by ((try simp only [b2i_eq0, Classical.not_not] at c_8); first | (simp only [i32_eq, i32_lt, i32_le, i32_nm1, i32_n0, i32_n1, i32_n2, i32_n3, i32_n4, i32_n5, i32_n6, i32_n7, i32_n8, i32_n9, i32_n10, i32_n20, i32_n30, i32_n31, i32_n39, i32_n40, i32_n49, i32_n50, i32_n100, i32_n160, i32_n1000, i32_n100000, i32_n1000000] at c_8 ⊢; omega) | grind), rfl, rfl⟩, by rw [ht]; exact hP, va_K.moved hW.alike hK, hD⟩, hS.F ht⟩) hS.2.2 d_C_giveUp_37
    · refine lv_iconst (v := 0) hx hb d_C_giveUp_29 (by decide) ?_
      exact W.zret (v := 0) (ty := .boolean) hx hb hr rfl (fun t ht hW => ⟨⟨0, σ, rfl, Or.inr ⟨fun ⟨j, hj, e9, h9⟩ => by cases nI_inj (by have := hI; unfold Iv at this; omega) (by have := hI; unfold Iv at this; omega) e9; revert h9; ((try simp only [b2i_eq0, Classical.not_not] at c_8); first | (simp only [i32_eq, i32_lt, i32_le, i32_nm1, i32_n0, i32_n1, i32_n2, i32_n3, i32_n4, i32_n5, i32_n6, i32_n7, i32_n8, i32_n9, i32_n10, i32_n20, i32_n30, i32_n31, i32_n39, i32_n40, i32_n49, i32_n50, i32_n100, i32_n160, i32_n1000, i32_n100000, i32_n1000000] at c_8 ⊢; omega) | grind), rfl, rfl⟩, by rw [ht]; exact hP, va_K.moved hW.alike hK, hD⟩, hS.F ht⟩) hS.2.2 d_C_giveUp_30
  · refine lv_iconst (v := 0) hx hb d_C_giveUp_8 (by decide) ?_
    exact W.zret (v := 0) (ty := .boolean) hx hb hr rfl (fun t ht hW => ⟨⟨0, σ, rfl, Or.inr ⟨fun ⟨j, hj, e9, _⟩ => (b2i_eq0.mp c_3) (e9 ▸ at_not (by have := hI; unfold Iv at this; omega) hj), rfl, rfl⟩, by rw [ht]; exact hP, va_K.moved hW.alike hK, hD⟩, hS.F ht⟩) hS.2.2 d_C_giveUp_9
set_option maxHeartbeats 4000000 in
set_option maxRecDepth 100000 in
theorem c_C_declared (l : Launch) (D : va_G) (cs : Nat → ClassId) (ad : Nat → Nat) (σ : Nat → Nat → Int32) (n nm ci cj E : Nat) (hI : Iv n nm ci cj) (sz : Nat) (p0 p1 p2 : Int32) : Met l y_C_declared (Cond.code y_C_declared b_C_declared 4 (some .boolean) :: GW) ({ frames := 3, cells := 0, slots := 0, locals := 96 }) (va_Pc [.ref (ad 0), .int p0, .int p1, .int p2] (wr_B D cs (wC cs ad σ n nm ci cj E) sz)) (va_Qi (fun r (u : Nat → Nat → Int32) => (((0 ≤ p0 ∧ p0 ≤ 9) ∧ (0 ≤ p1 ∧ p1 ≤ 3) ∧ (0 ≤ p2 ∧ p2 ≤ 1000000)) ∧ r = 1 ∧ u = su σ (10 + p0.toNatClampNeg) p1.toNatClampNeg p2) ∨ (¬ ((0 ≤ p0 ∧ p0 ≤ 9) ∧ (0 ≤ p1 ∧ p1 ≤ 3) ∧ (0 ≤ p2 ∧ p2 ≤ 1000000)) ∧ r = 0 ∧ u = σ)) (fun u => wr_T D cs (wC cs ad u n nm ci cj E) (va_A (wC cs ad σ n nm ci cj E) sz)) (va_A (wC cs ad σ n nm ci cj E) sz)) 0 0 (va_A (wC cs ad σ n nm ci cj E) sz) := by
  refine Met.ofW (cc := b_C_declared) (maxL := 4) (ret := (some .boolean)) (by decide) rfl ?_
  intro p e s m args below meth c s₁ B hml hv
  obtain ⟨rfl, hsz, hP, hK, hD0⟩ := hv
  have hx := B.exec
  have hb := B.bytes
  have hr := B.returns
  have hts := atoms_spec (ws := Cond.code y_C_declared b_C_declared 4 (some .boolean) :: GW) B.pre
  have hG : ∀ w ∈ GW, w.before _ s = true := fun w h => hts w (List.mem_cons_of_mem _ h)
  have hown : s.vm.findClass R_C = some m.cls := findClass_of_methodNamed B.named
  have hlocks := B.notSynchronized
  subst hsz
  have hD := hD0.self (sz := s.heap.size)
  generalize hAe : va_A (wC cs ad σ n nm ci cj E) s.heap.size = A at hD ⊢
  have hA : ∀ q : Nat, s.heap.size ≤ q → A q := fun q h => by rw [← hAe]; exact Or.inr h
  have hS : va_S A s.heap s.heap [] := va_S.rf
  have hl := lv_entry ([.ref (ad 0), .int p0, .int p1, .int p2]) (n := 4) (Nat.le_of_ble_eq_true rfl)
  rw [lg_entry_eq]
  generalize (lg_sl ([.ref (ad 0), .int p0, .int p1, .int p2]) ++ List.replicate (4 - (lg_sl ([.ref (ad 0), .int p0, .int p1, .int p2])).length) Slot.unset).toArray = ls at hl ⊢
  have hl : lv_has ls 4 [(0, .ref (ad 0)), (1, .int p0), (2, .int p1), (3, .int p2)] := hl
  refine lv_iload_n hx hb d_C_declared_0 rfl (lv_at hl 1 rfl) ?_
  refine vp_callSi (W.runS (As := [.int p0]) (rest := []) ⟨hx, hb, hml, hown, hts⟩ (c_C_isDeclaration l p0) (va_cwS 1 hts (gw_S kw_143 kw_144 kw_1 kw_145) rfl rfl rfl (by decide +kernel) ⟨Nat.le_of_ble_eq_true rfl, Nat.le_of_ble_eq_true rfl⟩) ⟨fun _ _ _ _ q => q, fun U _ _ => ⟨rfl, trivial⟩⟩ rfl rfl hl.1 rfl (lv_room (Nat.le_of_ble_eq_true rfl)) d_C_declared_1 ⟨Nat.zero_le _, Nat.zero_le _⟩) (fun r_1 h_2 => ?_)
  subst h_2
  refine lv_if_eq (tgt := 21) hx hb d_C_declared_4 (by decide) (fun c_3 => ?_) (fun c_3 => ?_)
  · refine lv_iconst (v := 0) hx hb d_C_declared_21 (by decide) ?_
    exact W.zret (v := 0) (ty := .boolean) hx hb hr rfl (fun t ht hW => ⟨⟨0, σ, rfl, Or.inr ⟨by ((try simp only [b2i_eq0, Classical.not_not] at c_3); first | (simp only [i32_eq, i32_lt, i32_le, i32_nm1, i32_n0, i32_n1, i32_n2, i32_n3, i32_n4, i32_n5, i32_n6, i32_n7, i32_n8, i32_n9, i32_n10, i32_n20, i32_n30, i32_n31, i32_n39, i32_n40, i32_n49, i32_n50, i32_n100, i32_n160, i32_n1000, i32_n100000, i32_n1000000] at c_3 ⊢; omega) | grind), rfl, rfl⟩, by rw [ht]; exact hP, va_K.moved hW.alike hK, hD⟩, hS.F ht⟩) hS.2.2 d_C_declared_22
  · refine lv_iload_n hx hb d_C_declared_7 rfl (lv_at hl 2 rfl) ?_
    refine vp_callSi (W.runS (As := [.int p1]) (rest := []) ⟨hx, hb, hml, hown, hts⟩ (c_C_isMeasure l p1) (va_cwS 1 hts (gw_S kw_146 kw_147 kw_1 kw_148) rfl rfl rfl (by decide +kernel) ⟨Nat.le_of_ble_eq_true rfl, Nat.le_of_ble_eq_true rfl⟩) ⟨fun _ _ _ _ q => q, fun U _ _ => ⟨rfl, trivial⟩⟩ rfl rfl hl.1 rfl (lv_room (Nat.le_of_ble_eq_true rfl)) d_C_declared_8 ⟨Nat.zero_le _, Nat.zero_le _⟩) (fun r_4 h_5 => ?_)
    subst h_5
    refine lv_if_eq (tgt := 21) hx hb d_C_declared_11 (by decide) (fun c_6 => ?_) (fun c_6 => ?_)
    · refine lv_iconst (v := 0) hx hb d_C_declared_21 (by decide) ?_
      exact W.zret (v := 0) (ty := .boolean) hx hb hr rfl (fun t ht hW => ⟨⟨0, σ, rfl, Or.inr ⟨by ((try simp only [b2i_eq0, Classical.not_not] at c_3 c_6); first | (simp only [i32_eq, i32_lt, i32_le, i32_nm1, i32_n0, i32_n1, i32_n2, i32_n3, i32_n4, i32_n5, i32_n6, i32_n7, i32_n8, i32_n9, i32_n10, i32_n20, i32_n30, i32_n31, i32_n39, i32_n40, i32_n49, i32_n50, i32_n100, i32_n160, i32_n1000, i32_n100000, i32_n1000000] at c_3 c_6 ⊢; omega) | grind), rfl, rfl⟩, by rw [ht]; exact hP, va_K.moved hW.alike hK, hD⟩, hS.F ht⟩) hS.2.2 d_C_declared_22
    · refine lv_iload_n hx hb d_C_declared_14 rfl (lv_at hl 3 rfl) ?_
      refine vp_callSi (W.runS (As := [.int p2]) (rest := []) ⟨hx, hb, hml, hown, hts⟩ (c_C_isValue l p2) (va_cwS 1 hts (gw_S kw_149 kw_150 kw_1 kw_151) rfl rfl rfl (by decide +kernel) ⟨Nat.le_of_ble_eq_true rfl, Nat.le_of_ble_eq_true rfl⟩) ⟨fun _ _ _ _ q => q, fun U _ _ => ⟨rfl, trivial⟩⟩ rfl rfl hl.1 rfl (lv_room (Nat.le_of_ble_eq_true rfl)) d_C_declared_15 ⟨Nat.zero_le _, Nat.zero_le _⟩) (fun r_7 h_8 => ?_)
      subst h_8
      refine lv_if_ne (tgt := 23) hx hb d_C_declared_18 (by decide) (fun c_9 => ?_) (fun c_9 => ?_)
      · refine lv_aload_n hx hb d_C_declared_23 rfl (lv_at hl 0 rfl) ?_
        refine rl_get (r := 0) (ci := 1) (v := .ref (ad 9)) (C := R_C) (T := F_C) (N := 10) hx hb hG in_C hown hK hP (RC_f (by decide)) gC_0 rfl 6 (by decide) kw_65 (fun _ h9 => h9) rfl d_C_declared_24 ?_
        refine lv_iload_n hx hb d_C_declared_27 rfl (lv_at hl 1 rfl) ?_
        have hv9 : vp_in p0 10 := vp_in_iff.mpr (by ((try simp only [b2i_eq0, Classical.not_not] at c_3 c_6 c_9); simp only [i32_eq, i32_lt, i32_le, i32_nm1, i32_n0, i32_n1, i32_n2, i32_n3, i32_n4, i32_n5, i32_n6, i32_n7, i32_n8, i32_n9, i32_n10, i32_n20, i32_n30, i32_n31, i32_n39, i32_n40, i32_n49, i32_n50, i32_n100, i32_n160, i32_n1000, i32_n100000, i32_n1000000] at c_3 c_6 c_9 ⊢; omega))
        have hdc : p0.toNatClampNeg < 10 := Nat.not_le.mp fun q9 => hv9 (Or.inr q9)
        refine rl_aldA (r := 9) (i := p0) (v := .ref (ad (20 + p0.toNatClampNeg))) hx hb hK hP (RC_f (by decide)) 3 gC_9 rfl hv9 (by simp only [rowsF, if_pos hdc]; rfl) d_C_declared_28 ?_
        refine lv_iload_n hx hb d_C_declared_29 rfl (lv_at hl 2 rfl) ?_
        refine lv_iload_n hx hb d_C_declared_30 rfl (lv_at hl 3 rfl) ?_
        refine rl_iast (r := 20 + p0.toNatClampNeg) (i := p1) (x := p2) hx hb hK hP hD hS (RC_row hdc) 0 (gC_row hdc) rfl (vp_in_iff.mpr (by ((try simp only [b2i_eq0, Classical.not_not] at c_3 c_6 c_9); simp only [i32_eq, i32_lt, i32_le, i32_nm1, i32_n0, i32_n1, i32_n2, i32_n3, i32_n4, i32_n5, i32_n6, i32_n7, i32_n8, i32_n9, i32_n10, i32_n20, i32_n30, i32_n31, i32_n39, i32_n40, i32_n49, i32_n50, i32_n100, i32_n160, i32_n1000, i32_n100000, i32_n1000000] at c_3 c_6 c_9 ⊢; omega))) d_C_declared_31 (fun H locs hP hD hS => ?_)
        rw [wC_row (hn_ hI) (hm_ hI) hdc] at hP hD
        refine lv_iconst (v := 1) hx hb d_C_declared_32 (by decide) ?_
        exact W.zret (v := 1) (ty := .boolean) hx hb hr rfl (fun t ht hW => ⟨⟨1, su σ (10 + p0.toNatClampNeg) p1.toNatClampNeg p2, rfl, Or.inl ⟨by ((try simp only [b2i_eq0, Classical.not_not] at c_3 c_6 c_9); first | (simp only [i32_eq, i32_lt, i32_le, i32_nm1, i32_n0, i32_n1, i32_n2, i32_n3, i32_n4, i32_n5, i32_n6, i32_n7, i32_n8, i32_n9, i32_n10, i32_n20, i32_n30, i32_n31, i32_n39, i32_n40, i32_n49, i32_n50, i32_n100, i32_n160, i32_n1000, i32_n100000, i32_n1000000] at c_3 c_6 c_9 ⊢; omega) | grind), rfl, rfl⟩, by rw [ht]; exact hP, va_K.moved hW.alike hK, hD⟩, hS.F ht⟩) hS.2.2 d_C_declared_33
      · refine lv_iconst (v := 0) hx hb d_C_declared_21 (by decide) ?_
        exact W.zret (v := 0) (ty := .boolean) hx hb hr rfl (fun t ht hW => ⟨⟨0, σ, rfl, Or.inr ⟨by ((try simp only [b2i_eq0, Classical.not_not] at c_3 c_6 c_9); first | (simp only [i32_eq, i32_lt, i32_le, i32_nm1, i32_n0, i32_n1, i32_n2, i32_n3, i32_n4, i32_n5, i32_n6, i32_n7, i32_n8, i32_n9, i32_n10, i32_n20, i32_n30, i32_n31, i32_n39, i32_n40, i32_n49, i32_n50, i32_n100, i32_n160, i32_n1000, i32_n100000, i32_n1000000] at c_3 c_6 c_9 ⊢; omega) | grind), rfl, rfl⟩, by rw [ht]; exact hP, va_K.moved hW.alike hK, hD⟩, hS.F ht⟩) hS.2.2 d_C_declared_22
