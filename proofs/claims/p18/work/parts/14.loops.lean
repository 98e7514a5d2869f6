set_option maxHeartbeats 4000000 in
set_option maxRecDepth 100000 in
theorem c_C_isTaken (l : Launch) (D : va_G) (cs : Nat → ClassId) (ad : Nat → Nat) (σ : Nat → Nat → Int32) (n nm ci cj E : Nat) (hI : Iv n nm ci cj) (p0 p1 p2 : Int32) : Met l y_C_isTaken (Cond.code y_C_isTaken b_C_isTaken 5 (some .boolean) :: GW) ({ frames := 3, cells := 0, slots := 0, locals := 96 }) (va_Pc [.ref (ad 0), .int p0, .int p1, .int p2] (rd_B D (tys_ cs) (wC cs ad σ n nm ci cj E))) (vp_Si (fun r => r = b2i (∃ j, j < n ∧ (σ 23 j = 1 ∨ σ 23 j = 2) ∧ σ 25 j = p0 ∧ σ 26 j < p2 ∧ p1 < σ 27 j))) 0 0 (fun _ => False) := by
  refine Met.ofW (cc := b_C_isTaken) (maxL := 5) (ret := (some .boolean)) (by decide) rfl ?_
  intro p e s m args below meth c s₁ B hml hv
  obtain ⟨rfl, hP, hK⟩ := hv
  have hx := B.exec
  have hb := B.bytes
  have hr := B.returns
  have hts := atoms_spec (ws := Cond.code y_C_isTaken b_C_isTaken 5 (some .boolean) :: GW) B.pre
  have hG : ∀ w ∈ GW, w.before _ s = true := fun w h => hts w (List.mem_cons_of_mem _ h)
  have hown : s.vm.findClass R_C = some m.cls := findClass_of_methodNamed B.named
  have hlocks := B.notSynchronized
  have hl := lv_entry ([.ref (ad 0), .int p0, .int p1, .int p2]) (n := 5) (Nat.le_of_ble_eq_true rfl)
  rw [lg_entry_eq]
  generalize (lg_sl ([.ref (ad 0), .int p0, .int p1, .int p2]) ++ List.replicate (5 - (lg_sl ([.ref (ad 0), .int p0, .int p1, .int p2])).length) Slot.unset).toArray = ls at hl ⊢
  have hl : lv_has ls 5 [(0, .ref (ad 0)), (1, .int p0), (2, .int p1), (3, .int p2)] := hl
  refine lv_iconst (v := 0) hx hb d_C_isTaken_0 (by decide) ?_
  refine lv_istore (lv' := [(4, .int 0), (0, .ref (ad 0)), (1, .int p0), (2, .int p1), (3, .int p2)]) hx hb d_C_isTaken_1 hl (by decide) rfl (fun ls hl => ?_)
  replace hl : ∃ z : Nat, lv_has ls 5 [(4, .int (nI z)), (0, .ref (ad 0)), (1, .int p0), (2, .int p1), (3, .int p2)] ∧ z ≤ n ∧ (∀ j, j < z → ¬ ((σ 23 j = 1 ∨ σ 23 j = 2) ∧ σ 25 j = p0 ∧ σ 26 j < p2 ∧ p1 < σ 27 j)) := ⟨0, lv_sub hl [0, 1, 2, 3, 4] rfl, Nat.zero_le _, fun _ h => absurd h (Nat.not_lt_zero _)⟩
  obtain ⟨z, hl, hle_z, hinv_z⟩ := hl
  obtain ⟨k_z, hk_z⟩ : ∃ k, n - z = k := ⟨_, rfl⟩
  induction k_z using Nat.strongRecOn generalizing z ls with
  | _ k_z ih_z =>
    refine lv_iload hx hb d_C_isTaken_3 (lv_at hl 0 rfl) ?_
    refine lv_aload_n hx hb d_C_isTaken_5 rfl (lv_at hl 1 rfl) ?_
    refine rl_get (r := 0) (ci := 1) (v := .ref (ad 1)) (C := R_C) (T := F_C) (N := 10) hx hb hG in_C hown hK hP (RC_f (by decide)) gC_0 rfl 0 (by decide) kw_59 (fun _ h9 => h9) rfl d_C_isTaken_6 ?_
    refine vp_callSi (W.runV (As := []) (rest := [.int (nI z)]) ⟨hx, hb, hml, hown, hts⟩ (c_Al_size l D (tys_ cs) (ad 1) (.ref (if n = 0 then E else ad 3)) (nI n) (σ 7 0)) (cwV 0 hts (gw_V kw_116 kw_117 kw_118 kw_4 kw_119) rfl rfl rfl (by decide +kernel) ⟨Nat.le_of_ble_eq_true rfl, Nat.le_of_ble_eq_true rfl⟩) (rd_V (rl_one hP (RC_f (by decide)) gC_1') hK (rl_recv hK hP (RC_f (by decide)) gC_1' rfl)) rfl rfl hl.1 rfl (lv_room (Nat.le_of_ble_eq_true rfl)) d_C_isTaken_9 ⟨Nat.zero_le _, Nat.zero_le _⟩) (fun r_1 h_2 => ?_)
    subst h_2
    refine lv_icmp_ge (tgt := 44) hx hb d_C_isTaken_12 (by decide) (fun c_3 => ?_) (fun c_3 => ?_)
    · have hz_z : z = n := nI_exit hle_z c_3 (by have := hI; unfold Iv at this; omega)
      subst hz_z
      refine lv_iconst (v := 0) hx hb d_C_isTaken_44 (by decide) ?_
      exact W.zret (v := 0) (ty := .boolean) hx hb hr rfl (fun t ht hW => ⟨0, rfl, (b2i_f (fun ⟨j, hj, h⟩ => hinv_z j hj h)).symm, ht⟩) (fun q h => nomatch h) d_C_isTaken_45
    · have hlt_z : z < n := nI_go hle_z c_3 (by have := hI; unfold Iv at this; omega)
      refine lv_aload_n hx hb d_C_isTaken_15 rfl (lv_at hl 1 rfl) ?_
      refine rl_get (r := 0) (ci := 1) (v := .ref (ad 1)) (C := R_C) (T := F_C) (N := 10) hx hb hG in_C hown hK hP (RC_f (by decide)) gC_0 rfl 0 (by decide) kw_59 (fun _ h9 => h9) rfl d_C_isTaken_16 ?_
      refine lv_iload hx hb d_C_isTaken_19 (lv_at hl 0 rfl) ?_
      refine va_csr (W.runV (As := [.int (nI z)]) (rest := []) ⟨hx, hb, hml, hown, hts⟩ (c_Al_get l D (tys_ cs) (ad 1) (ad 3) n ci z (ad (100 + z)) (σ 7 0) (cs 2) (rowsF 100 n ad) hlt_z hI.2.2.1 (by have := hI; unfold Iv at this; omega) 2 rfl (if_pos hlt_z)) (cwV 1 hts (gw_V kw_120 kw_121 kw_122 kw_4 kw_123) rfl rfl rfl (by decide +kernel) ⟨Nat.le_of_ble_eq_true rfl, Nat.le_of_ble_eq_true rfl⟩) (rd_V (rl_two hP (RC_f (by decide)) (gC_1 (Nat.lt_of_le_of_lt (Nat.zero_le _) hlt_z)) (RC_3 (Nat.lt_of_le_of_lt (Nat.zero_le _) hlt_z)) gC_3) hK (rl_recv hK hP (RC_f (by decide)) (gC_1 (Nat.lt_of_le_of_lt (Nat.zero_le _) hlt_z)) rfl)) rfl rfl hl.1 rfl (lv_room (Nat.le_of_ble_eq_true rfl)) d_C_isTaken_21 ⟨Nat.zero_le _, Nat.zero_le _⟩) (fun r_4 h_5 => ?_)
      subst h_5
      refine va_castS hx hb hown (hG _ kw_134) ((hK.1 2 _ rfl).2) (rl_recv hK hP (RC_ins hlt_z) (gC_ins (by have := hI; unfold Iv at this; omega)) rfl) d_C_isTaken_24 ?_
      refine lv_iload_n hx hb d_C_isTaken_27 rfl (lv_at hl 2 rfl) ?_
      refine lv_iload_n hx hb d_C_isTaken_28 rfl (lv_at hl 3 rfl) ?_
      refine lv_iload_n hx hb d_C_isTaken_29 rfl (lv_at hl 4 rfl) ?_
      refine vp_callSi (W.runV (As := [.int p0, .int p1, .int p2]) (rest := []) ⟨hx, hb, hml, hown, hts⟩ (c_I_takes l D (tys_ cs) (ad (100 + z)) (σ 20 z) (σ 21 z) (σ 22 z) (σ 23 z) (σ 24 z) (σ 25 z) (σ 26 z) (σ 27 z) (σ 28 z) (σ 29 z) p0 p1 p2) (cwV 3 hts (gw_V kw_399 kw_400 kw_401 kw_12 kw_402) rfl rfl rfl (by decide +kernel) ⟨Nat.le_of_ble_eq_true rfl, Nat.le_of_ble_eq_true rfl⟩) (rd_V (rl_one hP (RC_ins hlt_z) (gC_ins (by have := hI; unfold Iv at this; omega))) hK (rl_recv hK hP (RC_ins hlt_z) (gC_ins (by have := hI; unfold Iv at this; omega)) rfl)) rfl rfl hl.1 rfl (lv_room (Nat.le_of_ble_eq_true rfl)) d_C_isTaken_30 ⟨Nat.zero_le _, Nat.zero_le _⟩) (fun r_6 h_7 => ?_)
      subst h_7
      refine lv_if_eq (tgt := 38) hx hb d_C_isTaken_33 (by decide) (fun c_8 => ?_) (fun c_8 => ?_)
      · refine lv_iinc (v := nI (z + 1)) (lv' := [(4, .int (nI (z + 1))), (0, .ref (ad 0)), (1, .int p0), (2, .int p1), (3, .int p2)]) hx hb d_C_isTaken_38 hl (k := 0) rfl (by exact nI_1 z) (by decide) rfl (fun ls hl => ?_)
        refine lv_goto (tgt := 3) hx hb d_C_isTaken_41 (by decide) ?_
        exact ih_z (n - (z + 1)) (by omega) ls (z + 1) (lv_sub hl [0, 1, 2, 3, 4] rfl) hlt_z (lt_s hinv_z (by ((try simp only [b2i_eq0, Classical.not_not] at c_8); first | (simp only [i32_eq, i32_lt, i32_le, i32_nm1, i32_n0, i32_n1, i32_n2, i32_n3, i32_n4, i32_n5, i32_n6, i32_n7, i32_n8, i32_n9, i32_n10, i32_n20, i32_n30, i32_n31, i32_n39, i32_n40, i32_n49, i32_n50, i32_n100, i32_n160, i32_n1000, i32_n100000, i32_n1000000] at c_8 ⊢; omega) | grind))) rfl
      · refine lv_iconst (v := 1) hx hb d_C_isTaken_36 (by decide) ?_
        exact W.zret (v := 1) (ty := .boolean) hx hb hr rfl (fun t ht hW => ⟨1, rfl, (b2i_t ⟨z, hlt_z, by ((try simp only [b2i_eq0, Classical.not_not] at c_8); first | (simp only [i32_eq, i32_lt, i32_le, i32_nm1, i32_n0, i32_n1, i32_n2, i32_n3, i32_n4, i32_n5, i32_n6, i32_n7, i32_n8, i32_n9, i32_n10, i32_n20, i32_n30, i32_n31, i32_n39, i32_n40, i32_n49, i32_n50, i32_n100, i32_n160, i32_n1000, i32_n100000, i32_n1000000] at c_8 ⊢; omega) | grind)⟩).symm, ht⟩) (fun q h => nomatch h) d_C_isTaken_37
set_option maxHeartbeats 4000000 in
set_option maxRecDepth 100000 in
theorem c_C_isBeingOpened (l : Launch) (D : va_G) (cs : Nat → ClassId) (ad : Nat → Nat) (σ : Nat → Nat → Int32) (n nm ci cj E : Nat) (hI : Iv n nm ci cj) (p0 : Int32) : Met l y_C_isBeingOpened (Cond.code y_C_isBeingOpened b_C_isBeingOpened 4 (some .boolean) :: GW) ({ frames := 3, cells := 0, slots := 0, locals := 96 }) (va_Pc [.ref (ad 0), .int p0] (rd_B D (tys_ cs) (wC cs ad σ n nm ci cj E))) (vp_Si (fun r => r = b2i (∃ j, j < n ∧ σ 20 j = p0 ∧ 3 ≤ σ 21 j ∧ σ 23 j = 2))) 0 0 (fun _ => False) := by
  refine Met.ofW (cc := b_C_isBeingOpened) (maxL := 4) (ret := (some .boolean)) (by decide) rfl ?_
  intro p e s m args below meth c s₁ B hml hv
  obtain ⟨rfl, hP, hK⟩ := hv
  have hx := B.exec
  have hb := B.bytes
  have hr := B.returns
  have hts := atoms_spec (ws := Cond.code y_C_isBeingOpened b_C_isBeingOpened 4 (some .boolean) :: GW) B.pre
  have hG : ∀ w ∈ GW, w.before _ s = true := fun w h => hts w (List.mem_cons_of_mem _ h)
  have hown : s.vm.findClass R_C = some m.cls := findClass_of_methodNamed B.named
  have hlocks := B.notSynchronized
  have hl := lv_entry ([.ref (ad 0), .int p0]) (n := 4) (Nat.le_of_ble_eq_true rfl)
  rw [lg_entry_eq]
  generalize (lg_sl ([.ref (ad 0), .int p0]) ++ List.replicate (4 - (lg_sl ([.ref (ad 0), .int p0])).length) Slot.unset).toArray = ls at hl ⊢
  have hl : lv_has ls 4 [(0, .ref (ad 0)), (1, .int p0)] := hl
  refine lv_iconst (v := 0) hx hb d_C_isBeingOpened_0 (by decide) ?_
  refine lv_istore_n (lv' := [(2, .int 0), (0, .ref (ad 0)), (1, .int p0)]) hx hb d_C_isBeingOpened_1 rfl hl (by decide) rfl (fun ls hl => ?_)
  replace hl : ∃ z : Nat, lv_has ls 4 [(2, .int (nI z)), (0, .ref (ad 0)), (1, .int p0)] ∧ z ≤ n ∧ (∀ j, j < z → ¬ (σ 20 j = p0 ∧ 3 ≤ σ 21 j ∧ σ 23 j = 2)) := ⟨0, lv_sub hl [0, 1, 2] rfl, Nat.zero_le _, fun _ h => absurd h (Nat.not_lt_zero _)⟩
  obtain ⟨z, hl, hle_z, hinv_z⟩ := hl
  obtain ⟨k_z, hk_z⟩ : ∃ k, n - z = k := ⟨_, rfl⟩
  induction k_z using Nat.strongRecOn generalizing z ls with
  | _ k_z ih_z =>
    refine lv_iload_n hx hb d_C_isBeingOpened_2 rfl (lv_at hl 0 rfl) ?_
    refine lv_aload_n hx hb d_C_isBeingOpened_3 rfl (lv_at hl 1 rfl) ?_
    refine rl_get (r := 0) (ci := 1) (v := .ref (ad 1)) (C := R_C) (T := F_C) (N := 10) hx hb hG in_C hown hK hP (RC_f (by decide)) gC_0 rfl 0 (by decide) kw_59 (fun _ h9 => h9) rfl d_C_isBeingOpened_4 ?_
    refine vp_callSi (W.runV (As := []) (rest := [.int (nI z)]) ⟨hx, hb, hml, hown, hts⟩ (c_Al_size l D (tys_ cs) (ad 1) (.ref (if n = 0 then E else ad 3)) (nI n) (σ 7 0)) (cwV 0 hts (gw_V kw_116 kw_117 kw_118 kw_4 kw_119) rfl rfl rfl (by decide +kernel) ⟨Nat.le_of_ble_eq_true rfl, Nat.le_of_ble_eq_true rfl⟩) (rd_V (rl_one hP (RC_f (by decide)) gC_1') hK (rl_recv hK hP (RC_f (by decide)) gC_1' rfl)) rfl rfl hl.1 rfl (lv_room (Nat.le_of_ble_eq_true rfl)) d_C_isBeingOpened_7 ⟨Nat.zero_le _, Nat.zero_le _⟩) (fun r_1 h_2 => ?_)
    subst h_2
    refine lv_icmp_ge (tgt := 56) hx hb d_C_isBeingOpened_10 (by decide) (fun c_3 => ?_) (fun c_3 => ?_)
    · have hz_z : z = n := nI_exit hle_z c_3 (by have := hI; unfold Iv at this; omega)
      subst hz_z
      refine lv_iconst (v := 0) hx hb d_C_isBeingOpened_56 (by decide) ?_
      exact W.zret (v := 0) (ty := .boolean) hx hb hr rfl (fun t ht hW => ⟨0, rfl, (b2i_f (fun ⟨j, hj, h⟩ => hinv_z j hj h)).symm, ht⟩) (fun q h => nomatch h) d_C_isBeingOpened_57
    · have hlt_z : z < n := nI_go hle_z c_3 (by have := hI; unfold Iv at this; omega)
      refine lv_aload_n hx hb d_C_isBeingOpened_13 rfl (lv_at hl 1 rfl) ?_
      refine rl_get (r := 0) (ci := 1) (v := .ref (ad 1)) (C := R_C) (T := F_C) (N := 10) hx hb hG in_C hown hK hP (RC_f (by decide)) gC_0 rfl 0 (by decide) kw_59 (fun _ h9 => h9) rfl d_C_isBeingOpened_14 ?_
      refine lv_iload_n hx hb d_C_isBeingOpened_17 rfl (lv_at hl 0 rfl) ?_
      refine va_csr (W.runV (As := [.int (nI z)]) (rest := []) ⟨hx, hb, hml, hown, hts⟩ (c_Al_get l D (tys_ cs) (ad 1) (ad 3) n ci z (ad (100 + z)) (σ 7 0) (cs 2) (rowsF 100 n ad) hlt_z hI.2.2.1 (by have := hI; unfold Iv at this; omega) 2 rfl (if_pos hlt_z)) (cwV 1 hts (gw_V kw_120 kw_121 kw_122 kw_4 kw_123) rfl rfl rfl (by decide +kernel) ⟨Nat.le_of_ble_eq_true rfl, Nat.le_of_ble_eq_true rfl⟩) (rd_V (rl_two hP (RC_f (by decide)) (gC_1 (Nat.lt_of_le_of_lt (Nat.zero_le _) hlt_z)) (RC_3 (Nat.lt_of_le_of_lt (Nat.zero_le _) hlt_z)) gC_3) hK (rl_recv hK hP (RC_f (by decide)) (gC_1 (Nat.lt_of_le_of_lt (Nat.zero_le _) hlt_z)) rfl)) rfl rfl hl.1 rfl (lv_room (Nat.le_of_ble_eq_true rfl)) d_C_isBeingOpened_18 ⟨Nat.zero_le _, Nat.zero_le _⟩) (fun r_4 h_5 => ?_)
      subst h_5
      refine va_castS hx hb hown (hG _ kw_134) ((hK.1 2 _ rfl).2) (rl_recv hK hP (RC_ins hlt_z) (gC_ins (by have := hI; unfold Iv at this; omega)) rfl) d_C_isBeingOpened_21 ?_
      refine lv_astore_n (lv' := [(3, .ref (ad (100 + z))), (2, .int (nI z)), (0, .ref (ad 0)), (1, .int p0)]) hx hb d_C_isBeingOpened_24 rfl hl (by decide) rfl (fun ls hl => ?_)
      refine lv_aload_n hx hb d_C_isBeingOpened_25 rfl (lv_at hl 0 rfl) ?_
      refine rl_get (r := 100 + z) (ci := 2) (v := .int (σ 20 z)) (C := R_I) (T := F_I) (N := 10) hx hb hG in_I hown hK hP (RC_ins hlt_z) (gC_ins (by have := hI; unfold Iv at this; omega)) rfl 0 (by decide) kw_288 (fun _ h9 => h9) rfl d_C_isBeingOpened_26 ?_
      refine lv_iload_n hx hb d_C_isBeingOpened_29 rfl (lv_at hl 3 rfl) ?_
      refine lv_icmp_ne (tgt := 50) hx hb d_C_isBeingOpened_30 (by decide) (fun c_6 => ?_) (fun c_6 => ?_)
      · refine lv_iinc (v := nI (z + 1)) (lv' := [(2, .int (nI (z + 1))), (3, .ref (ad (100 + z))), (0, .ref (ad 0)), (1, .int p0)]) hx hb d_C_isBeingOpened_50 hl (k := 1) rfl (by exact nI_1 z) (by decide) rfl (fun ls hl => ?_)
        refine lv_goto (tgt := 2) hx hb d_C_isBeingOpened_53 (by decide) ?_
        exact ih_z (n - (z + 1)) (by omega) ls (z + 1) (lv_sub hl [0, 2, 3] rfl) hlt_z (lt_s hinv_z (by ((try simp only [b2i_eq0, Classical.not_not] at c_6); first | (simp only [i32_eq, i32_lt, i32_le, i32_nm1, i32_n0, i32_n1, i32_n2, i32_n3, i32_n4, i32_n5, i32_n6, i32_n7, i32_n8, i32_n9, i32_n10, i32_n20, i32_n30, i32_n31, i32_n39, i32_n40, i32_n49, i32_n50, i32_n100, i32_n160, i32_n1000, i32_n100000, i32_n1000000] at c_6 ⊢; omega) | grind))) rfl
      · refine lv_aload_n hx hb d_C_isBeingOpened_33 rfl (lv_at hl 0 rfl) ?_
        refine vp_callSi (W.runV (As := []) (rest := []) ⟨hx, hb, hml, hown, hts⟩ (c_I_isOpening l D (tys_ cs) (ad (100 + z)) (σ 20 z) (σ 21 z) (σ 22 z) (σ 23 z) (σ 24 z) (σ 25 z) (σ 26 z) (σ 27 z) (σ 28 z) (σ 29 z)) (cwV 0 hts (gw_V kw_423 kw_424 kw_425 kw_12 kw_426) rfl rfl rfl (by decide +kernel) ⟨Nat.le_of_ble_eq_true rfl, Nat.le_of_ble_eq_true rfl⟩) (rd_V (rl_one hP (RC_ins hlt_z) (gC_ins (by have := hI; unfold Iv at this; omega))) hK (rl_recv hK hP (RC_ins hlt_z) (gC_ins (by have := hI; unfold Iv at this; omega)) rfl)) rfl rfl hl.1 rfl (lv_room (Nat.le_of_ble_eq_true rfl)) d_C_isBeingOpened_34 ⟨Nat.zero_le _, Nat.zero_le _⟩) (fun r_7 h_8 => ?_)
        subst h_8
        refine lv_if_eq (tgt := 50) hx hb d_C_isBeingOpened_37 (by decide) (fun c_9 => ?_) (fun c_9 => ?_)
        · refine lv_iinc (v := nI (z + 1)) (lv' := [(2, .int (nI (z + 1))), (3, .ref (ad (100 + z))), (0, .ref (ad 0)), (1, .int p0)]) hx hb d_C_isBeingOpened_50 hl (k := 1) rfl (by exact nI_1 z) (by decide) rfl (fun ls hl => ?_)
          refine lv_goto (tgt := 2) hx hb d_C_isBeingOpened_53 (by decide) ?_
          exact ih_z (n - (z + 1)) (by omega) ls (z + 1) (lv_sub hl [0, 2, 3] rfl) hlt_z (lt_s hinv_z (by ((try simp only [b2i_eq0, Classical.not_not] at c_6 c_9); first | (simp only [i32_eq, i32_lt, i32_le, i32_nm1, i32_n0, i32_n1, i32_n2, i32_n3, i32_n4, i32_n5, i32_n6, i32_n7, i32_n8, i32_n9, i32_n10, i32_n20, i32_n30, i32_n31, i32_n39, i32_n40, i32_n49, i32_n50, i32_n100, i32_n160, i32_n1000, i32_n100000, i32_n1000000] at c_6 c_9 ⊢; omega) | grind))) rfl
        · refine lv_aload_n hx hb d_C_isBeingOpened_40 rfl (lv_at hl 0 rfl) ?_
          refine rl_get (r := 100 + z) (ci := 2) (v := .int (σ 23 z)) (C := R_I) (T := F_I) (N := 10) hx hb hG in_I hown hK hP (RC_ins hlt_z) (gC_ins (by have := hI; unfold Iv at this; omega)) rfl 3 (by decide) kw_293 (fun _ h9 => h9) rfl d_C_isBeingOpened_41 ?_
          refine lv_iconst (v := 2) hx hb d_C_isBeingOpened_44 (by decide) ?_
          refine lv_icmp_ne (tgt := 50) hx hb d_C_isBeingOpened_45 (by decide) (fun c_10 => ?_) (fun c_10 => ?_)
          · refine lv_iinc (v := nI (z + 1)) (lv' := [(2, .int (nI (z + 1))), (3, .ref (ad (100 + z))), (0, .ref (ad 0)), (1, .int p0)]) hx hb d_C_isBeingOpened_50 hl (k := 1) rfl (by exact nI_1 z) (by decide) rfl (fun ls hl => ?_)
            refine lv_goto (tgt := 2) hx hb d_C_isBeingOpened_53 (by decide) ?_
            exact ih_z (n - (z + 1)) (by omega) ls (z + 1) (lv_sub hl [0, 2, 3] rfl) hlt_z (lt_s hinv_z (by ((try simp only [b2i_eq0, Classical.not_not] at c_6 c_9 c_10); first | (simp only [i32_eq, i32_lt, i32_le, i32_nm1, i32_n0, i32_n1, i32_n2, i32_n3, i32_n4, i32_n5, i32_n6, i32_n7, i32_n8, i32_n9, i32_n10, i32_n20, i32_n30, i32_n31, i32_n39, i32_n40, i32_n49, i32_n50, i32_n100, i32_n160, i32_n1000, i32_n100000, i32_n1000000] at c_6 c_9 c_10 ⊢; omega) | grind))) rfl
          · refine lv_iconst (v := 1) hx hb d_C_isBeingOpened_48 (by decide) ?_
            exact W.zret (v := 1) (ty := .boolean) hx hb hr rfl (fun t ht hW => ⟨1, rfl, (b2i_t ⟨z, hlt_z, by ((try simp only [b2i_eq0, Classical.not_not] at c_6 c_9 c_10); first | (simp only [i32_eq, i32_lt, i32_le, i32_nm1, i32_n0, i32_n1, i32_n2, i32_n3, i32_n4, i32_n5, i32_n6, i32_n7, i32_n8, i32_n9, i32_n10, i32_n20, i32_n30, i32_n31, i32_n39, i32_n40, i32_n49, i32_n50, i32_n100, i32_n160, i32_n1000, i32_n100000, i32_n1000000] at c_6 c_9 c_10 ⊢; omega) | grind)⟩).symm, ht⟩) (fun q h => nomatch h) d_C_isBeingOpened_49
set_option maxHeartbeats 4000000 in
set_option maxRecDepth 100000 in
theorem c_C_hasPendingInspection (l : Launch) (D : va_G) (cs : Nat → ClassId) (ad : Nat → Nat) (σ : Nat → Nat → Int32) (n nm ci cj E : Nat) (hI : Iv n nm ci cj) (p0 : Int32) : Met l y_C_hasPendingInspection (Cond.code y_C_hasPendingInspection b_C_hasPendingInspection 4 (some .boolean) :: GW) ({ frames := 3, cells := 0, slots := 0, locals := 96 }) (va_Pc [.ref (ad 0), .int p0] (rd_B D (tys_ cs) (wC cs ad σ n nm ci cj E))) (vp_Si (fun r => r = b2i (∃ j, j < n ∧ σ 20 j = p0 ∧ ¬ σ 23 j = 3 ∧ ¬ σ 23 j = 5))) 0 0 (fun _ => False) := by
  refine Met.ofW (cc := b_C_hasPendingInspection) (maxL := 4) (ret := (some .boolean)) (by decide) rfl ?_
  intro p e s m args below meth c s₁ B hml hv
  obtain ⟨rfl, hP, hK⟩ := hv
  have hx := B.exec
  have hb := B.bytes
  have hr := B.returns
  have hts := atoms_spec (ws := Cond.code y_C_hasPendingInspection b_C_hasPendingInspection 4 (some .boolean) :: GW) B.pre
  have hG : ∀ w ∈ GW, w.before _ s = true := fun w h => hts w (List.mem_cons_of_mem _ h)
  have hown : s.vm.findClass R_C = some m.cls := findClass_of_methodNamed B.named
  have hlocks := B.notSynchronized
  have hl := lv_entry ([.ref (ad 0), .int p0]) (n := 4) (Nat.le_of_ble_eq_true rfl)
  rw [lg_entry_eq]
  generalize (lg_sl ([.ref (ad 0), .int p0]) ++ List.replicate (4 - (lg_sl ([.ref (ad 0), .int p0])).length) Slot.unset).toArray = ls at hl ⊢
  have hl : lv_has ls 4 [(0, .ref (ad 0)), (1, .int p0)] := hl
  refine lv_iconst (v := 0) hx hb d_C_hasPendingInspection_0 (by decide) ?_
  refine lv_istore_n (lv' := [(2, .int 0), (0, .ref (ad 0)), (1, .int p0)]) hx hb d_C_hasPendingInspection_1 rfl hl (by decide) rfl (fun ls hl => ?_)
  replace hl : ∃ z : Nat, lv_has ls 4 [(2, .int (nI z)), (0, .ref (ad 0)), (1, .int p0)] ∧ z ≤ n ∧ (∀ j, j < z → ¬ (σ 20 j = p0 ∧ ¬ σ 23 j = 3 ∧ ¬ σ 23 j = 5)) := ⟨0, lv_sub hl [0, 1, 2] rfl, Nat.zero_le _, fun _ h => absurd h (Nat.not_lt_zero _)⟩
  obtain ⟨z, hl, hle_z, hinv_z⟩ := hl
  obtain ⟨k_z, hk_z⟩ : ∃ k, n - z = k := ⟨_, rfl⟩
  induction k_z using Nat.strongRecOn generalizing z ls with
  | _ k_z ih_z =>
    refine lv_iload_n hx hb d_C_hasPendingInspection_2 rfl (lv_at hl 0 rfl) ?_
    refine lv_aload_n hx hb d_C_hasPendingInspection_3 rfl (lv_at hl 1 rfl) ?_
    refine rl_get (r := 0) (ci := 1) (v := .ref (ad 1)) (C := R_C) (T := F_C) (N := 10) hx hb hG in_C hown hK hP (RC_f (by decide)) gC_0 rfl 0 (by decide) kw_59 (fun _ h9 => h9) rfl d_C_hasPendingInspection_4 ?_
    refine vp_callSi (W.runV (As := []) (rest := [.int (nI z)]) ⟨hx, hb, hml, hown, hts⟩ (c_Al_size l D (tys_ cs) (ad 1) (.ref (if n = 0 then E else ad 3)) (nI n) (σ 7 0)) (cwV 0 hts (gw_V kw_116 kw_117 kw_118 kw_4 kw_119) rfl rfl rfl (by decide +kernel) ⟨Nat.le_of_ble_eq_true rfl, Nat.le_of_ble_eq_true rfl⟩) (rd_V (rl_one hP (RC_f (by decide)) gC_1') hK (rl_recv hK hP (RC_f (by decide)) gC_1' rfl)) rfl rfl hl.1 rfl (lv_room (Nat.le_of_ble_eq_true rfl)) d_C_hasPendingInspection_7 ⟨Nat.zero_le _, Nat.zero_le _⟩) (fun r_1 h_2 => ?_)
    subst h_2
    refine lv_icmp_ge (tgt := 48) hx hb d_C_hasPendingInspection_10 (by decide) (fun c_3 => ?_) (fun c_3 => ?_)
    · have hz_z : z = n := nI_exit hle_z c_3 (by have := hI; unfold Iv at this; omega)
      subst hz_z
      refine lv_iconst (v := 0) hx hb d_C_hasPendingInspection_48 (by decide) ?_
      exact W.zret (v := 0) (ty := .boolean) hx hb hr rfl (fun t ht hW => ⟨0, rfl, (b2i_f (fun ⟨j, hj, h⟩ => hinv_z j hj h)).symm, ht⟩) (fun q h => nomatch h) d_C_hasPendingInspection_49
    · have hlt_z : z < n := nI_go hle_z c_3 (by have := hI; unfold Iv at this; omega)
      refine lv_aload_n hx hb d_C_hasPendingInspection_13 rfl (lv_at hl 1 rfl) ?_
      refine rl_get (r := 0) (ci := 1) (v := .ref (ad 1)) (C := R_C) (T := F_C) (N := 10) hx hb hG in_C hown hK hP (RC_f (by decide)) gC_0 rfl 0 (by decide) kw_59 (fun _ h9 => h9) rfl d_C_hasPendingInspection_14 ?_
      refine lv_iload_n hx hb d_C_hasPendingInspection_17 rfl (lv_at hl 0 rfl) ?_
      refine va_csr (W.runV (As := [.int (nI z)]) (rest := []) ⟨hx, hb, hml, hown, hts⟩ (c_Al_get l D (tys_ cs) (ad 1) (ad 3) n ci z (ad (100 + z)) (σ 7 0) (cs 2) (rowsF 100 n ad) hlt_z hI.2.2.1 (by have := hI; unfold Iv at this; omega) 2 rfl (if_pos hlt_z)) (cwV 1 hts (gw_V kw_120 kw_121 kw_122 kw_4 kw_123) rfl rfl rfl (by decide +kernel) ⟨Nat.le_of_ble_eq_true rfl, Nat.le_of_ble_eq_true rfl⟩) (rd_V (rl_two hP (RC_f (by decide)) (gC_1 (Nat.lt_of_le_of_lt (Nat.zero_le _) hlt_z)) (RC_3 (Nat.lt_of_le_of_lt (Nat.zero_le _) hlt_z)) gC_3) hK (rl_recv hK hP (RC_f (by decide)) (gC_1 (Nat.lt_of_le_of_lt (Nat.zero_le _) hlt_z)) rfl)) rfl rfl hl.1 rfl (lv_room (Nat.le_of_ble_eq_true rfl)) d_C_hasPendingInspection_18 ⟨Nat.zero_le _, Nat.zero_le _⟩) (fun r_4 h_5 => ?_)
      subst h_5
      refine va_castS hx hb hown (hG _ kw_134) ((hK.1 2 _ rfl).2) (rl_recv hK hP (RC_ins hlt_z) (gC_ins (by have := hI; unfold Iv at this; omega)) rfl) d_C_hasPendingInspection_21 ?_
      refine lv_astore_n (lv' := [(3, .ref (ad (100 + z))), (2, .int (nI z)), (0, .ref (ad 0)), (1, .int p0)]) hx hb d_C_hasPendingInspection_24 rfl hl (by decide) rfl (fun ls hl => ?_)
      refine lv_aload_n hx hb d_C_hasPendingInspection_25 rfl (lv_at hl 0 rfl) ?_
      refine rl_get (r := 100 + z) (ci := 2) (v := .int (σ 20 z)) (C := R_I) (T := F_I) (N := 10) hx hb hG in_I hown hK hP (RC_ins hlt_z) (gC_ins (by have := hI; unfold Iv at this; omega)) rfl 0 (by decide) kw_288 (fun _ h9 => h9) rfl d_C_hasPendingInspection_26 ?_
      refine lv_iload_n hx hb d_C_hasPendingInspection_29 rfl (lv_at hl 3 rfl) ?_
      refine lv_icmp_ne (tgt := 42) hx hb d_C_hasPendingInspection_30 (by decide) (fun c_6 => ?_) (fun c_6 => ?_)
      · refine lv_iinc (v := nI (z + 1)) (lv' := [(2, .int (nI (z + 1))), (3, .ref (ad (100 + z))), (0, .ref (ad 0)), (1, .int p0)]) hx hb d_C_hasPendingInspection_42 hl (k := 1) rfl (by exact nI_1 z) (by decide) rfl (fun ls hl => ?_)
        refine lv_goto (tgt := 2) hx hb d_C_hasPendingInspection_45 (by decide) ?_
        exact ih_z (n - (z + 1)) (by omega) ls (z + 1) (lv_sub hl [0, 2, 3] rfl) hlt_z (lt_s hinv_z (by ((try simp only [b2i_eq0, Classical.not_not] at c_6); first | (simp only [i32_eq, i32_lt, i32_le, i32_nm1, i32_n0, i32_n1, i32_n2, i32_n3, i32_n4, i32_n5, i32_n6, i32_n7, i32_n8, i32_n9, i32_n10, i32_n20, i32_n30, i32_n31, i32_n39, i32_n40, i32_n49, i32_n50, i32_n100, i32_n160, i32_n1000, i32_n100000, i32_n1000000] at c_6 ⊢; omega) | grind))) rfl
      · refine lv_aload_n hx hb d_C_hasPendingInspection_33 rfl (lv_at hl 0 rfl) ?_
        refine vp_callSi (W.runV (As := []) (rest := []) ⟨hx, hb, hml, hown, hts⟩ (c_I_isPending l D (tys_ cs) (ad (100 + z)) (σ 20 z) (σ 21 z) (σ 22 z) (σ 23 z) (σ 24 z) (σ 25 z) (σ 26 z) (σ 27 z) (σ 28 z) (σ 29 z)) (cwV 0 hts (gw_V kw_540 kw_521 kw_522 kw_12 kw_523) rfl rfl rfl (by decide +kernel) ⟨Nat.le_of_ble_eq_true rfl, Nat.le_of_ble_eq_true rfl⟩) (rd_V (rl_one hP (RC_ins hlt_z) (gC_ins (by have := hI; unfold Iv at this; omega))) hK (rl_recv hK hP (RC_ins hlt_z) (gC_ins (by have := hI; unfold Iv at this; omega)) rfl)) rfl rfl hl.1 rfl (lv_room (Nat.le_of_ble_eq_true rfl)) d_C_hasPendingInspection_34 ⟨Nat.zero_le _, Nat.zero_le _⟩) (fun r_7 h_8 => ?_)
        subst h_8
        refine lv_if_eq (tgt := 42) hx hb d_C_hasPendingInspection_37 (by decide) (fun c_9 => ?_) (fun c_9 => ?_)
        · refine lv_iinc (v := nI (z + 1)) (lv' := [(2, .int (nI (z + 1))), (3, .ref (ad (100 + z))), (0, .ref (ad 0)), (1, .int p0)]) hx hb d_C_hasPendingInspection_42 hl (k := 1) rfl (by exact nI_1 z) (by decide) rfl (fun ls hl => ?_)
          refine lv_goto (tgt := 2) hx hb d_C_hasPendingInspection_45 (by decide) ?_
          exact ih_z (n - (z + 1)) (by omega) ls (z + 1) (lv_sub hl [0, 2, 3] rfl) hlt_z (lt_s hinv_z (by ((try simp only [b2i_eq0, Classical.not_not] at c_6 c_9); first | (simp only [i32_eq, i32_lt, i32_le, i32_nm1, i32_n0, i32_n1, i32_n2, i32_n3, i32_n4, i32_n5, i32_n6, i32_n7, i32_n8, i32_n9, i32_n10, i32_n20, i32_n30, i32_n31, i32_n39, i32_n40, i32_n49, i32_n50, i32_n100, i32_n160, i32_n1000, i32_n100000, i32_n1000000] at c_6 c_9 ⊢; omega) | grind))) rfl
        · refine lv_iconst (v := 1) hx hb d_C_hasPendingInspection_40 (by decide) ?_
          exact W.zret (v := 1) (ty := .boolean) hx hb hr rfl (fun t ht hW => ⟨1, rfl, (b2i_t ⟨z, hlt_z, by ((try simp only [b2i_eq0, Classical.not_not] at c_6 c_9); first | (simp only [i32_eq, i32_lt, i32_le, i32_nm1, i32_n0, i32_n1, i32_n2, i32_n3, i32_n4, i32_n5, i32_n6, i32_n7, i32_n8, i32_n9, i32_n10, i32_n20, i32_n30, i32_n31, i32_n39, i32_n40, i32_n49, i32_n50, i32_n100, i32_n160, i32_n1000, i32_n100000, i32_n1000000] at c_6 c_9 ⊢; omega) | grind)⟩).symm, ht⟩) (fun q h => nomatch h) d_C_hasPendingInspection_41
set_option maxHeartbeats 4000000 in
set_option maxRecDepth 100000 in
theorem c_C_isSealOfSample (l : Launch) (D : va_G) (cs : Nat → ClassId) (ad : Nat → Nat) (σ : Nat → Nat → Int32) (n nm ci cj E : Nat) (hI : Iv n nm ci cj) (p0 : Int32) : Met l y_C_isSealOfSample (Cond.code y_C_isSealOfSample b_C_isSealOfSample 3 (some .boolean) :: GW) ({ frames := 3, cells := 0, slots := 0, locals := 96 }) (va_Pc [.ref (ad 0), .int p0] (rd_B D (tys_ cs) (wC cs ad σ n nm ci cj E))) (vp_Si (fun r => r = b2i (∃ j, j < nm ∧ σ 31 j = p0))) 0 0 (fun _ => False) := by
  refine Met.ofW (cc := b_C_isSealOfSample) (maxL := 3) (ret := (some .boolean)) (by decide) rfl ?_
  intro p e s m args below meth c s₁ B hml hv
  obtain ⟨rfl, hP, hK⟩ := hv
  have hx := B.exec
  have hb := B.bytes
  have hr := B.returns
  have hts := atoms_spec (ws := Cond.code y_C_isSealOfSample b_C_isSealOfSample 3 (some .boolean) :: GW) B.pre
  have hG : ∀ w ∈ GW, w.before _ s = true := fun w h => hts w (List.mem_cons_of_mem _ h)
  have hown : s.vm.findClass R_C = some m.cls := findClass_of_methodNamed B.named
  have hlocks := B.notSynchronized
  have hl := lv_entry ([.ref (ad 0), .int p0]) (n := 3) (Nat.le_of_ble_eq_true rfl)
  rw [lg_entry_eq]
  generalize (lg_sl ([.ref (ad 0), .int p0]) ++ List.replicate (3 - (lg_sl ([.ref (ad 0), .int p0])).length) Slot.unset).toArray = ls at hl ⊢
  have hl : lv_has ls 3 [(0, .ref (ad 0)), (1, .int p0)] := hl
  refine lv_iconst (v := 0) hx hb d_C_isSealOfSample_0 (by decide) ?_
  refine lv_istore_n (lv' := [(2, .int 0), (0, .ref (ad 0)), (1, .int p0)]) hx hb d_C_isSealOfSample_1 rfl hl (by decide) rfl (fun ls hl => ?_)
  replace hl : ∃ z : Nat, lv_has ls 3 [(2, .int (nI z)), (0, .ref (ad 0)), (1, .int p0)] ∧ z ≤ nm ∧ (∀ j, j < z → ¬ (σ 31 j = p0)) := ⟨0, lv_sub hl [0, 1, 2] rfl, Nat.zero_le _, fun _ h => absurd h (Nat.not_lt_zero _)⟩
  obtain ⟨z, hl, hle_z, hinv_z⟩ := hl
  obtain ⟨k_z, hk_z⟩ : ∃ k, nm - z = k := ⟨_, rfl⟩
  induction k_z using Nat.strongRecOn generalizing z ls with
  | _ k_z ih_z =>
    refine lv_iload_n hx hb d_C_isSealOfSample_2 rfl (lv_at hl 0 rfl) ?_
    refine lv_aload_n hx hb d_C_isSealOfSample_3 rfl (lv_at hl 1 rfl) ?_
    refine rl_get (r := 0) (ci := 1) (v := .ref (ad 2)) (C := R_C) (T := F_C) (N := 10) hx hb hG in_C hown hK hP (RC_f (by decide)) gC_0 rfl 1 (by decide) kw_60 (fun _ h9 => h9) rfl d_C_isSealOfSample_4 ?_
    refine vp_callSi (W.runV (As := []) (rest := [.int (nI z)]) ⟨hx, hb, hml, hown, hts⟩ (c_Al_size l D (tys_ cs) (ad 2) (.ref (if nm = 0 then E else ad 4)) (nI nm) (σ 7 1)) (cwV 0 hts (gw_V kw_116 kw_117 kw_118 kw_4 kw_119) rfl rfl rfl (by decide +kernel) ⟨Nat.le_of_ble_eq_true rfl, Nat.le_of_ble_eq_true rfl⟩) (rd_V (rl_one hP (RC_f (by decide)) gC_2') hK (rl_recv hK hP (RC_f (by decide)) gC_2' rfl)) rfl rfl hl.1 rfl (lv_room (Nat.le_of_ble_eq_true rfl)) d_C_isSealOfSample_7 ⟨Nat.zero_le _, Nat.zero_le _⟩) (fun r_1 h_2 => ?_)
    subst h_2
    refine lv_icmp_ge (tgt := 39) hx hb d_C_isSealOfSample_10 (by decide) (fun c_3 => ?_) (fun c_3 => ?_)
    · have hz_z : z = nm := nI_exit hle_z c_3 (by have := hI; unfold Iv at this; omega)
      subst hz_z
      refine lv_iconst (v := 0) hx hb d_C_isSealOfSample_39 (by decide) ?_
      exact W.zret (v := 0) (ty := .boolean) hx hb hr rfl (fun t ht hW => ⟨0, rfl, (b2i_f (fun ⟨j, hj, h⟩ => hinv_z j hj h)).symm, ht⟩) (fun q h => nomatch h) d_C_isSealOfSample_40
    · have hlt_z : z < nm := nI_go hle_z c_3 (by have := hI; unfold Iv at this; omega)
      refine lv_aload_n hx hb d_C_isSealOfSample_13 rfl (lv_at hl 1 rfl) ?_
      refine rl_get (r := 0) (ci := 1) (v := .ref (ad 2)) (C := R_C) (T := F_C) (N := 10) hx hb hG in_C hown hK hP (RC_f (by decide)) gC_0 rfl 1 (by decide) kw_60 (fun _ h9 => h9) rfl d_C_isSealOfSample_14 ?_
      refine lv_iload_n hx hb d_C_isSealOfSample_17 rfl (lv_at hl 0 rfl) ?_
      refine va_csr (W.runV (As := [.int (nI z)]) (rest := []) ⟨hx, hb, hml, hown, hts⟩ (c_Al_get l D (tys_ cs) (ad 2) (ad 4) nm cj z (ad (200 + z)) (σ 7 1) (cs 2) (rowsF 200 nm ad) hlt_z hI.2.2.2.1 (by have := hI; unfold Iv at this; omega) 2 rfl (if_pos hlt_z)) (cwV 1 hts (gw_V kw_120 kw_121 kw_122 kw_4 kw_123) rfl rfl rfl (by decide +kernel) ⟨Nat.le_of_ble_eq_true rfl, Nat.le_of_ble_eq_true rfl⟩) (rd_V (rl_two hP (RC_f (by decide)) (gC_2 (Nat.lt_of_le_of_lt (Nat.zero_le _) hlt_z)) (RC_4 (Nat.lt_of_le_of_lt (Nat.zero_le _) hlt_z)) gC_4) hK (rl_recv hK hP (RC_f (by decide)) (gC_2 (Nat.lt_of_le_of_lt (Nat.zero_le _) hlt_z)) rfl)) rfl rfl hl.1 rfl (lv_room (Nat.le_of_ble_eq_true rfl)) d_C_isSealOfSample_18 ⟨Nat.zero_le _, Nat.zero_le _⟩) (fun r_4 h_5 => ?_)
      subst h_5
      refine va_castS hx hb hown (hG _ kw_173) ((hK.1 3 _ rfl).2) (rl_recv hK hP (RC_sam hlt_z) (gC_sam (by have := hI; unfold Iv at this; omega)) rfl) d_C_isSealOfSample_21 ?_
      refine rl_get (r := 200 + z) (ci := 3) (v := .int (σ 31 z)) (C := R_S) (T := F_S) (N := 4) hx hb hG in_S hown hK hP (RC_sam hlt_z) (gC_sam (by have := hI; unfold Iv at this; omega)) rfl 1 (by decide) kw_472 (fun _ h9 => h9) rfl d_C_isSealOfSample_24 ?_
      refine lv_iload_n hx hb d_C_isSealOfSample_27 rfl (lv_at hl 2 rfl) ?_
      refine lv_icmp_ne (tgt := 33) hx hb d_C_isSealOfSample_28 (by decide) (fun c_6 => ?_) (fun c_6 => ?_)
      · refine lv_iinc (v := nI (z + 1)) (lv' := [(2, .int (nI (z + 1))), (0, .ref (ad 0)), (1, .int p0)]) hx hb d_C_isSealOfSample_33 hl (k := 0) rfl (by exact nI_1 z) (by decide) rfl (fun ls hl => ?_)
        refine lv_goto (tgt := 2) hx hb d_C_isSealOfSample_36 (by decide) ?_
        exact ih_z (nm - (z + 1)) (by omega) ls (z + 1) (lv_sub hl [0, 1, 2] rfl) hlt_z (lt_s hinv_z (by ((try simp only [b2i_eq0, Classical.not_not] at c_6); first | (simp only [i32_eq, i32_lt, i32_le, i32_nm1, i32_n0, i32_n1, i32_n2, i32_n3, i32_n4, i32_n5, i32_n6, i32_n7, i32_n8, i32_n9, i32_n10, i32_n20, i32_n30, i32_n31, i32_n39, i32_n40, i32_n49, i32_n50, i32_n100, i32_n160, i32_n1000, i32_n100000, i32_n1000000] at c_6 ⊢; omega) | grind))) rfl
      · refine lv_iconst (v := 1) hx hb d_C_isSealOfSample_31 (by decide) ?_
        exact W.zret (v := 1) (ty := .boolean) hx hb hr rfl (fun t ht hW => ⟨1, rfl, (b2i_t ⟨z, hlt_z, by ((try simp only [b2i_eq0, Classical.not_not] at c_6); first | (simp only [i32_eq, i32_lt, i32_le, i32_nm1, i32_n0, i32_n1, i32_n2, i32_n3, i32_n4, i32_n5, i32_n6, i32_n7, i32_n8, i32_n9, i32_n10, i32_n20, i32_n30, i32_n31, i32_n39, i32_n40, i32_n49, i32_n50, i32_n100, i32_n160, i32_n1000, i32_n100000, i32_n1000000] at c_6 ⊢; omega) | grind)⟩).symm, ht⟩) (fun q h => nomatch h) d_C_isSealOfSample_32
set_option maxHeartbeats 4000000 in
set_option maxRecDepth 100000 in
theorem c_S_hasResult (l : Launch) (D : va_G) (cs : Nat → ClassId) (a b : Nat) (d0 s0 : Int32) (v : Value) (f : Nat → Int32) : Met l y_S_hasResult (Cond.code y_S_hasResult b_S_hasResult 2 (some .boolean) :: GW) ({ frames := 0, cells := 0, slots := 0, locals := 0 }) (va_Pc [.ref a] (rd_B D (tys_ cs) [(a, .inr (3, [.int d0, .int s0, .ref b, v])), (b, arI (cs 0) 4 f)])) (vp_Si (fun r => r = b2i (∃ j, j < 4 ∧ ¬ f j = -1))) 0 0 (fun _ => False) := by
  refine Met.ofW (cc := b_S_hasResult) (maxL := 2) (ret := (some .boolean)) (by decide) rfl ?_
  intro p e s m args below meth c s₁ B hml hv
  obtain ⟨rfl, hP, hK⟩ := hv
  have hx := B.exec
  have hb := B.bytes
  have hr := B.returns
  have hts := atoms_spec (ws := Cond.code y_S_hasResult b_S_hasResult 2 (some .boolean) :: GW) B.pre
  have hG : ∀ w ∈ GW, w.before _ s = true := fun w h => hts w (List.mem_cons_of_mem _ h)
  have hown : s.vm.findClass R_S = some m.cls := findClass_of_methodNamed B.named
  have hlocks := B.notSynchronized
  have hl := lv_entry ([.ref a]) (n := 2) (Nat.le_of_ble_eq_true rfl)
  rw [lg_entry_eq]
  generalize (lg_sl ([.ref a]) ++ List.replicate (2 - (lg_sl ([.ref a])).length) Slot.unset).toArray = ls at hl ⊢
  have hl : lv_has ls 2 [(0, .ref a)] := hl
  refine lv_iconst (v := 0) hx hb d_S_hasResult_0 (by decide) ?_
  refine lv_istore_n (lv' := [(1, .int 0), (0, .ref a)]) hx hb d_S_hasResult_1 rfl hl (by decide) rfl (fun ls hl => ?_)
  replace hl : ∃ z : Nat, lv_has ls 2 [(1, .int (nI z)), (0, .ref a)] ∧ z ≤ 4 ∧ (∀ j, j < z → ¬ (¬ f j = -1)) := ⟨0, lv_sub hl [0, 1] rfl, Nat.zero_le _, fun _ h => absurd h (Nat.not_lt_zero _)⟩
  obtain ⟨z, hl, hle_z, hinv_z⟩ := hl
  obtain ⟨k_z, hk_z⟩ : ∃ k, 4 - z = k := ⟨_, rfl⟩
  induction k_z using Nat.strongRecOn generalizing z ls with
  | _ k_z ih_z =>
    refine lv_iload_n hx hb d_S_hasResult_2 rfl (lv_at hl 0 rfl) ?_
    refine lv_iconst (v := 4) hx hb d_S_hasResult_3 (by decide) ?_
    refine lv_icmp_ge (tgt := 25) hx hb d_S_hasResult_4 (by decide) (fun c_1 => ?_) (fun c_1 => ?_)
    · have hz_z : z = 4 := nI_exit hle_z c_1 (by decide)
      subst hz_z
      refine lv_iconst (v := 0) hx hb d_S_hasResult_25 (by decide) ?_
      exact W.zret (v := 0) (ty := .boolean) hx hb hr rfl (fun t ht hW => ⟨0, rfl, (b2i_f (fun ⟨j, hj, h⟩ => hinv_z j hj h)).symm, ht⟩) (fun q h => nomatch h) d_S_hasResult_26
    · have hlt_z : z < 4 := nI_go hle_z c_1 (by decide)
      refine lv_aload_n hx hb d_S_hasResult_7 rfl (lv_at hl 1 rfl) ?_
      refine va_get (D := D) (ci := 3) (v := .ref b) (C := R_S) (T := F_S) (N := 4) hx hb hG in_S hown hK hP 0 rfl rfl 2 (by decide) (hG _ kw_473) (fun _ h9 => h9) rfl d_S_hasResult_8 ?_
      refine lv_iload_n hx hb d_S_hasResult_11 rfl (lv_at hl 0 rfl) ?_
      refine va_iald hx hb hK hP 1 0 rfl rfl (vp_in_nI hlt_z (by decide)) d_S_hasResult_12 ?_
      rw [nI_clamp (Nat.lt_trans hlt_z (by decide))]
      refine lv_iconst (v := (-1)) hx hb d_S_hasResult_13 (by decide) ?_
      refine lv_icmp_eq (tgt := 19) hx hb d_S_hasResult_14 (by decide) (fun c_2 => ?_) (fun c_2 => ?_)
      · refine lv_iinc (v := nI (z + 1)) (lv' := [(1, .int (nI (z + 1))), (0, .ref a)]) hx hb d_S_hasResult_19 hl (k := 0) rfl (by exact nI_1 z) (by decide) rfl (fun ls hl => ?_)
        refine lv_goto (tgt := 2) hx hb d_S_hasResult_22 (by decide) ?_
        exact ih_z (4 - (z + 1)) (by omega) ls (z + 1) (lv_sub hl [0, 1] rfl) hlt_z (lt_s hinv_z (by ((try simp only [b2i_eq0, Classical.not_not] at c_2); first | (simp only [i32_eq, i32_lt, i32_le, i32_nm1, i32_n0, i32_n1, i32_n2, i32_n3, i32_n4, i32_n5, i32_n6, i32_n7, i32_n8, i32_n9, i32_n10, i32_n20, i32_n30, i32_n31, i32_n39, i32_n40, i32_n49, i32_n50, i32_n100, i32_n160, i32_n1000, i32_n100000, i32_n1000000] at c_2 ⊢; omega) | grind))) rfl
      · refine lv_iconst (v := 1) hx hb d_S_hasResult_17 (by decide) ?_
        exact W.zret (v := 1) (ty := .boolean) hx hb hr rfl (fun t ht hW => ⟨1, rfl, (b2i_t ⟨z, hlt_z, by ((try simp only [b2i_eq0, Classical.not_not] at c_2); first | (simp only [i32_eq, i32_lt, i32_le, i32_nm1, i32_n0, i32_n1, i32_n2, i32_n3, i32_n4, i32_n5, i32_n6, i32_n7, i32_n8, i32_n9, i32_n10, i32_n20, i32_n30, i32_n31, i32_n39, i32_n40, i32_n49, i32_n50, i32_n100, i32_n160, i32_n1000, i32_n100000, i32_n1000000] at c_2 ⊢; omega) | grind)⟩).symm, ht⟩) (fun q h => nomatch h) d_S_hasResult_18
set_option maxHeartbeats 4000000 in
set_option maxRecDepth 100000 in
theorem c_C_hasSampleWithoutResult (l : Launch) (D : va_G) (cs : Nat → ClassId) (ad : Nat → Nat) (σ : Nat → Nat → Int32) (n nm ci cj E : Nat) (hI : Iv n nm ci cj) (p0 : Int32) : Met l y_C_hasSampleWithoutResult (Cond.code y_C_hasSampleWithoutResult b_C_hasSampleWithoutResult 4 (some .boolean) :: GW) ({ frames := 3, cells := 0, slots := 0, locals := 96 }) (va_Pc [.ref (ad 0), .int p0] (rd_B D (tys_ cs) (wC cs ad σ n nm ci cj E))) (vp_Si (fun r => r = b2i (∃ j, j < nm ∧ σ 30 j = p0 ∧ ¬ ∃ q, q < 4 ∧ ¬ σ (1000 + j) q = -1))) 0 0 (fun _ => False) := by
  refine Met.ofW (cc := b_C_hasSampleWithoutResult) (maxL := 4) (ret := (some .boolean)) (by decide) rfl ?_
  intro p e s m args below meth c s₁ B hml hv
  obtain ⟨rfl, hP, hK⟩ := hv
  have hx := B.exec
  have hb := B.bytes
  have hr := B.returns
  have hts := atoms_spec (ws := Cond.code y_C_hasSampleWithoutResult b_C_hasSampleWithoutResult 4 (some .boolean) :: GW) B.pre
  have hG : ∀ w ∈ GW, w.before _ s = true := fun w h => hts w (List.mem_cons_of_mem _ h)
  have hown : s.vm.findClass R_C = some m.cls := findClass_of_methodNamed B.named
  have hlocks := B.notSynchronized
  have hl := lv_entry ([.ref (ad 0), .int p0]) (n := 4) (Nat.le_of_ble_eq_true rfl)
  rw [lg_entry_eq]
  generalize (lg_sl ([.ref (ad 0), .int p0]) ++ List.replicate (4 - (lg_sl ([.ref (ad 0), .int p0])).length) Slot.unset).toArray = ls at hl ⊢
  have hl : lv_has ls 4 [(0, .ref (ad 0)), (1, .int p0)] := hl
  refine lv_iconst (v := 0) hx hb d_C_hasSampleWithoutResult_0 (by decide) ?_
  refine lv_istore_n (lv' := [(2, .int 0), (0, .ref (ad 0)), (1, .int p0)]) hx hb d_C_hasSampleWithoutResult_1 rfl hl (by decide) rfl (fun ls hl => ?_)
  replace hl : ∃ z : Nat, lv_has ls 4 [(2, .int (nI z)), (0, .ref (ad 0)), (1, .int p0)] ∧ z ≤ nm ∧ (∀ j, j < z → ¬ (σ 30 j = p0 ∧ ¬ ∃ q, q < 4 ∧ ¬ σ (1000 + j) q = -1)) := ⟨0, lv_sub hl [0, 1, 2] rfl, Nat.zero_le _, fun _ h => absurd h (Nat.not_lt_zero _)⟩
  obtain ⟨z, hl, hle_z, hinv_z⟩ := hl
  obtain ⟨k_z, hk_z⟩ : ∃ k, nm - z = k := ⟨_, rfl⟩
  induction k_z using Nat.strongRecOn generalizing z ls with
  | _ k_z ih_z =>
    refine lv_iload_n hx hb d_C_hasSampleWithoutResult_2 rfl (lv_at hl 0 rfl) ?_
    refine lv_aload_n hx hb d_C_hasSampleWithoutResult_3 rfl (lv_at hl 1 rfl) ?_
    refine rl_get (r := 0) (ci := 1) (v := .ref (ad 2)) (C := R_C) (T := F_C) (N := 10) hx hb hG in_C hown hK hP (RC_f (by decide)) gC_0 rfl 1 (by decide) kw_60 (fun _ h9 => h9) rfl d_C_hasSampleWithoutResult_4 ?_
    refine vp_callSi (W.runV (As := []) (rest := [.int (nI z)]) ⟨hx, hb, hml, hown, hts⟩ (c_Al_size l D (tys_ cs) (ad 2) (.ref (if nm = 0 then E else ad 4)) (nI nm) (σ 7 1)) (cwV 0 hts (gw_V kw_116 kw_117 kw_118 kw_4 kw_119) rfl rfl rfl (by decide +kernel) ⟨Nat.le_of_ble_eq_true rfl, Nat.le_of_ble_eq_true rfl⟩) (rd_V (rl_one hP (RC_f (by decide)) gC_2') hK (rl_recv hK hP (RC_f (by decide)) gC_2' rfl)) rfl rfl hl.1 rfl (lv_room (Nat.le_of_ble_eq_true rfl)) d_C_hasSampleWithoutResult_7 ⟨Nat.zero_le _, Nat.zero_le _⟩) (fun r_1 h_2 => ?_)
    subst h_2
    refine lv_icmp_ge (tgt := 48) hx hb d_C_hasSampleWithoutResult_10 (by decide) (fun c_3 => ?_) (fun c_3 => ?_)
    · have hz_z : z = nm := nI_exit hle_z c_3 (by have := hI; unfold Iv at this; omega)
      subst hz_z
      refine lv_iconst (v := 0) hx hb d_C_hasSampleWithoutResult_48 (by decide) ?_
      exact W.zret (v := 0) (ty := .boolean) hx hb hr rfl (fun t ht hW => ⟨0, rfl, (b2i_f (fun ⟨j, hj, h⟩ => hinv_z j hj h)).symm, ht⟩) (fun q h => nomatch h) d_C_hasSampleWithoutResult_49
    · have hlt_z : z < nm := nI_go hle_z c_3 (by have := hI; unfold Iv at this; omega)
      refine lv_aload_n hx hb d_C_hasSampleWithoutResult_13 rfl (lv_at hl 1 rfl) ?_
      refine rl_get (r := 0) (ci := 1) (v := .ref (ad 2)) (C := R_C) (T := F_C) (N := 10) hx hb hG in_C hown hK hP (RC_f (by decide)) gC_0 rfl 1 (by decide) kw_60 (fun _ h9 => h9) rfl d_C_hasSampleWithoutResult_14 ?_
      refine lv_iload_n hx hb d_C_hasSampleWithoutResult_17 rfl (lv_at hl 0 rfl) ?_
      refine va_csr (W.runV (As := [.int (nI z)]) (rest := []) ⟨hx, hb, hml, hown, hts⟩ (c_Al_get l D (tys_ cs) (ad 2) (ad 4) nm cj z (ad (200 + z)) (σ 7 1) (cs 2) (rowsF 200 nm ad) hlt_z hI.2.2.2.1 (by have := hI; unfold Iv at this; omega) 2 rfl (if_pos hlt_z)) (cwV 1 hts (gw_V kw_120 kw_121 kw_122 kw_4 kw_123) rfl rfl rfl (by decide +kernel) ⟨Nat.le_of_ble_eq_true rfl, Nat.le_of_ble_eq_true rfl⟩) (rd_V (rl_two hP (RC_f (by decide)) (gC_2 (Nat.lt_of_le_of_lt (Nat.zero_le _) hlt_z)) (RC_4 (Nat.lt_of_le_of_lt (Nat.zero_le _) hlt_z)) gC_4) hK (rl_recv hK hP (RC_f (by decide)) (gC_2 (Nat.lt_of_le_of_lt (Nat.zero_le _) hlt_z)) rfl)) rfl rfl hl.1 rfl (lv_room (Nat.le_of_ble_eq_true rfl)) d_C_hasSampleWithoutResult_18 ⟨Nat.zero_le _, Nat.zero_le _⟩) (fun r_4 h_5 => ?_)
      subst h_5
      refine va_castS hx hb hown (hG _ kw_173) ((hK.1 3 _ rfl).2) (rl_recv hK hP (RC_sam hlt_z) (gC_sam (by have := hI; unfold Iv at this; omega)) rfl) d_C_hasSampleWithoutResult_21 ?_
      refine lv_astore_n (lv' := [(3, .ref (ad (200 + z))), (2, .int (nI z)), (0, .ref (ad 0)), (1, .int p0)]) hx hb d_C_hasSampleWithoutResult_24 rfl hl (by decide) rfl (fun ls hl => ?_)
      refine lv_aload_n hx hb d_C_hasSampleWithoutResult_25 rfl (lv_at hl 0 rfl) ?_
      refine rl_get (r := 200 + z) (ci := 3) (v := .int (σ 30 z)) (C := R_S) (T := F_S) (N := 4) hx hb hG in_S hown hK hP (RC_sam hlt_z) (gC_sam (by have := hI; unfold Iv at this; omega)) rfl 0 (by decide) kw_470 (fun _ h9 => h9) rfl d_C_hasSampleWithoutResult_26 ?_
      refine lv_iload_n hx hb d_C_hasSampleWithoutResult_29 rfl (lv_at hl 3 rfl) ?_
      refine lv_icmp_ne (tgt := 42) hx hb d_C_hasSampleWithoutResult_30 (by decide) (fun c_6 => ?_) (fun c_6 => ?_)
      · refine lv_iinc (v := nI (z + 1)) (lv' := [(2, .int (nI (z + 1))), (3, .ref (ad (200 + z))), (0, .ref (ad 0)), (1, .int p0)]) hx hb d_C_hasSampleWithoutResult_42 hl (k := 1) rfl (by exact nI_1 z) (by decide) rfl (fun ls hl => ?_)
        refine lv_goto (tgt := 2) hx hb d_C_hasSampleWithoutResult_45 (by decide) ?_
        exact ih_z (nm - (z + 1)) (by omega) ls (z + 1) (lv_sub hl [0, 2, 3] rfl) hlt_z (lt_s hinv_z (by ((try simp only [b2i_eq0, Classical.not_not] at c_6); first | (simp only [i32_eq, i32_lt, i32_le, i32_nm1, i32_n0, i32_n1, i32_n2, i32_n3, i32_n4, i32_n5, i32_n6, i32_n7, i32_n8, i32_n9, i32_n10, i32_n20, i32_n30, i32_n31, i32_n39, i32_n40, i32_n49, i32_n50, i32_n100, i32_n160, i32_n1000, i32_n100000, i32_n1000000] at c_6 ⊢; omega) | grind))) rfl
      · refine lv_aload_n hx hb d_C_hasSampleWithoutResult_33 rfl (lv_at hl 0 rfl) ?_
        refine vp_callSi (W.runV (As := []) (rest := []) ⟨hx, hb, hml, hown, hts⟩ (c_S_hasResult l D cs (ad (200 + z)) (ad (300 + z)) (σ 30 z) (σ 31 z) (.ref (ad (400 + z))) (σ (1000 + z))) (cwV 0 hts (gw_V kw_545 kw_546 kw_547 kw_18 kw_548) rfl rfl rfl (by decide +kernel) ⟨Nat.le_of_ble_eq_true rfl, Nat.le_of_ble_eq_true rfl⟩) (rd_V (rl_two hP (RC_sam hlt_z) (gC_sam (by have := hI; unfold Iv at this; omega)) (RC_fou hlt_z) (gC_fou (by have := hI; unfold Iv at this; omega))) hK (rl_recv hK hP (RC_sam hlt_z) (gC_sam (by have := hI; unfold Iv at this; omega)) rfl)) rfl rfl hl.1 rfl (lv_room (Nat.le_of_ble_eq_true rfl)) d_C_hasSampleWithoutResult_34 ⟨Nat.zero_le _, Nat.zero_le _⟩) (fun r_7 h_8 => ?_)
        subst h_8
        refine lv_if_ne (tgt := 42) hx hb d_C_hasSampleWithoutResult_37 (by decide) (fun c_9 => ?_) (fun c_9 => ?_)
        · refine lv_iinc (v := nI (z + 1)) (lv' := [(2, .int (nI (z + 1))), (3, .ref (ad (200 + z))), (0, .ref (ad 0)), (1, .int p0)]) hx hb d_C_hasSampleWithoutResult_42 hl (k := 1) rfl (by exact nI_1 z) (by decide) rfl (fun ls hl => ?_)
          refine lv_goto (tgt := 2) hx hb d_C_hasSampleWithoutResult_45 (by decide) ?_
          exact ih_z (nm - (z + 1)) (by omega) ls (z + 1) (lv_sub hl [0, 2, 3] rfl) hlt_z (lt_s hinv_z (by ((try simp only [b2i_eq0, Classical.not_not] at c_6 c_9); first | (simp only [i32_eq, i32_lt, i32_le, i32_nm1, i32_n0, i32_n1, i32_n2, i32_n3, i32_n4, i32_n5, i32_n6, i32_n7, i32_n8, i32_n9, i32_n10, i32_n20, i32_n30, i32_n31, i32_n39, i32_n40, i32_n49, i32_n50, i32_n100, i32_n160, i32_n1000, i32_n100000, i32_n1000000] at c_6 c_9 ⊢; omega) | grind))) rfl
        · refine lv_iconst (v := 1) hx hb d_C_hasSampleWithoutResult_40 (by decide) ?_
          exact W.zret (v := 1) (ty := .boolean) hx hb hr rfl (fun t ht hW => ⟨1, rfl, (b2i_t ⟨z, hlt_z, by ((try simp only [b2i_eq0, Classical.not_not] at c_6 c_9); first | (simp only [i32_eq, i32_lt, i32_le, i32_nm1, i32_n0, i32_n1, i32_n2, i32_n3, i32_n4, i32_n5, i32_n6, i32_n7, i32_n8, i32_n9, i32_n10, i32_n20, i32_n30, i32_n31, i32_n39, i32_n40, i32_n49, i32_n50, i32_n100, i32_n160, i32_n1000, i32_n100000, i32_n1000000] at c_6 c_9 ⊢; omega) | grind)⟩).symm, ht⟩) (fun q h => nomatch h) d_C_hasSampleWithoutResult_41
