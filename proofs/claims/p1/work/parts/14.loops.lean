set_option maxHeartbeats 4000000 in
set_option maxRecDepth 100000 in
theorem c_C_isTaken (l : Launch) (D : va_G) (cs : Nat → ClassId) (ad : Nat → Nat) (σ : Nat → Nat → Int32) (n m ci cj E : Nat) (hI : Iv n m ci cj) (p0 p1 p2 : Int32) : Met l y_C_isTaken (Cond.code y_C_isTaken b_C_isTaken 5 (some .boolean) :: GW) ({ frames := 3, cells := 0, slots := 0, locals := 96 }) (va_Pc [.ref (ad 0), .int p0, .int p1, .int p2] (rd_B D (tys_ cs) (wC cs ad σ n m ci cj E))) (vp_Si (fun r => r = b2i (∃ j, j < n ∧ (σ 23 j = 1 ∨ σ 23 j = 2) ∧ σ 25 j = p0 ∧ σ 26 j < p2 ∧ p1 < σ 27 j))) 0 0 (fun _ => False) := by
  refine Met.ofW (cc := b_C_isTaken) (maxL := 5) (ret := (some .boolean)) (by decide) rfl ?_
  intro p e s m args below meth c s₁ B hml hv
  obtain ⟨rfl, hP, hK⟩ := hv
  have hx := B.exec
  have hb := B.bytes
  have hr := B.returns
  have hts := atoms_spec (ws := Cond.code y_C_isTaken b_C_isTaken 5 (some .boolean) :: GW) B.pre
  have hG : ∀ w ∈ GW, w.before _ s = true := fun w h => hts w (List.mem_cons_of_mem _ h)
  have hown : s.vm.findClass R_C = some m.cls := findClass_of_methodNamed B.named
  have hlocks := B.notSynchronized
  have hl := lv_entry ([.ref (ad 0), .int p0, .int p1, .int p2]) (n := 5) (Nat.le_of_ble_eq_true rfl)
  rw [lg_entry_eq]
  generalize (lg_sl ([.ref (ad 0), .int p0, .int p1, .int p2]) ++ List.replicate (5 - (lg_sl ([.ref (ad 0), .int p0, .int p1, .int p2])).length) Slot.unset).toArray = ls at hl ⊢
  have hl : lv_has ls 5 [(0, .ref (ad 0)), (1, .int p0), (2, .int p1), (3, .int p2)] := hl
  refine lv_iconst (v := 0) hx hb d_C_isTaken_0 (by decide) ?_
  refine lv_istore (lv' := [(4, .int 0), (0, .ref (ad 0)), (1, .int p0), (2, .int p1), (3, .int p2)]) hx hb d_C_isTaken_1 hl (by decide) rfl (fun ls hl => ?_)
  replace hl : ∃ z : Nat, lv_has ls 5 [(4, .int (nI z)), (0, .ref (ad 0)), (1, .int p0), (2, .int p1), (3, .int p2)] ∧ z ≤ n ∧ (∀ j, j < z → ¬ ((σ 23 j = 1 ∨ σ 23 j = 2) ∧ σ 25 j = p0 ∧ σ 26 j < p2 ∧ p1 < σ 27 j)) := ⟨0, lv_sub hl [0, 1, 2, 3, 4] rfl, Nat.zero_le _, fun _ h => absurd h (Nat.not_lt_zero _)⟩
  obtain ⟨z, hl, hle_z, hinv_z⟩ := hl
  obtain ⟨k_z, hk_z⟩ : ∃ k, n - z = k := ⟨_, rfl⟩
  induction k_z using Nat.strongRecOn generalizing z ls with
  | _ k_z ih_z =>
    refine lv_iload hx hb d_C_isTaken_3 (lv_at hl 0 rfl) ?_
    refine lv_aload_n hx hb d_C_isTaken_5 rfl (lv_at hl 1 rfl) ?_
    refine rl_get (r := 0) (ci := 1) (v := .ref (ad 1)) (C := R_C) (T := F_C) (N := 10) hx hb hG in_C hown hK hP (RC_f (by decide)) gC_0 rfl 0 (by decide) kw_59 (fun _ h9 => h9) rfl d_C_isTaken_6 ?_
    refine vp_callSi (W.runV (As := []) (rest := [.int (nI z)]) ⟨hx, hb, hml, hown, hts⟩ (c_Al_size l D (tys_ cs) (ad 1) (.ref (if n = 0 then E else ad 3)) (nI n) (σ 7 0)) (cwV 0 hts (gw_V kw_116 kw_117 kw_118 kw_4 kw_119) rfl rfl rfl (by decide +kernel) ⟨Nat.le_of_ble_eq_true rfl, Nat.le_of_ble_eq_true rfl⟩) (rd_V (rl_one hP (RC_f (by decide)) gC_1') hK (rl_recv hK hP (RC_f (by decide)) gC_1' rfl)) rfl rfl hl.1 rfl (lv_room (Nat.le_of_ble_eq_true rfl)) d_C_isTaken_9 ⟨Nat.zero_le _, Nat.zero_le _⟩) (fun r_1 h_2 => ?_)
    subst h_2
    refine lv_icmp_ge (tgt := 44) hx hb d_C_isTaken_12 (by decide) (fun c_3 => ?_) (fun c_3 => ?_)
    · have hz_z : z = n := nI_exit hle_z c_3 (by have := hI; unfold Iv at this; omega)
      subst hz_z
      refine lv_iconst (v := 0) hx hb d_C_isTaken_44 (by decide) ?_
      exact W.zret (v := 0) (ty := .boolean) hx hb hr rfl (fun t ht hW => ⟨0, rfl, (b2i_f (fun ⟨j, hj, h⟩ => hinv_z j hj h)).symm, ht⟩) (fun q h => nomatch h) d_C_isTaken_45
    · have hlt_z : z < n := nI_go hle_z c_3 (by have := hI; unfold Iv at this; omega)
      refine lv_aload_n hx hb d_C_isTaken_15 rfl (lv_at hl 1 rfl) ?_
      refine rl_get (r := 0) (ci := 1) (v := .ref (ad 1)) (C := R_C) (T := F_C) (N := 10) hx hb hG in_C hown hK hP (RC_f (by decide)) gC_0 rfl 0 (by decide) kw_59 (fun _ h9 => h9) rfl d_C_isTaken_16 ?_
      refine lv_iload hx hb d_C_isTaken_19 (lv_at hl 0 rfl) ?_
      refine va_csr (W.runV (As := [.int (nI z)]) (rest := []) ⟨hx, hb, hml, hown, hts⟩ (c_Al_get l D (tys_ cs) (ad 1) (ad 3) n ci z (ad (100 + z)) (σ 7 0) (cs 2) (rowsF 100 n ad) hlt_z hI.2.2.1 (by have := hI; unfold Iv at this; omega) 2 rfl (if_pos hlt_z)) (cwV 1 hts (gw_V kw_120 kw_121 kw_122 kw_4 kw_123) rfl rfl rfl (by decide +kernel) ⟨Nat.le_of_ble_eq_true rfl, Nat.le_of_ble_eq_true rfl⟩) (rd_V (rl_two hP (RC_f (by decide)) (gC_1 (Nat.lt_of_le_of_lt (Nat.zero_le _) hlt_z)) (RC_3 (Nat.lt_of_le_of_lt (Nat.zero_le _) hlt_z)) gC_3) hK (rl_recv hK hP (RC_f (by decide)) (gC_1 (Nat.lt_of_le_of_lt (Nat.zero_le _) hlt_z)) rfl)) rfl rfl hl.1 rfl (lv_room (Nat.le_of_ble_eq_true rfl)) d_C_isTaken_21 ⟨Nat.zero_le _, Nat.zero_le _⟩) (fun r_4 h_5 => ?_)
      subst h_5
      refine va_castS hx hb hown (hG _ kw_134) ((hK.1 2 _ rfl).2) (rl_recv hK hP (RC_ins hlt_z) (gC_ins (by have := hI; unfold Iv at this; omega)) rfl) d_C_isTaken_24 ?_
      refine lv_iload_n hx hb d_C_isTaken_27 rfl (lv_at hl 2 rfl) ?_
      refine lv_iload_n hx hb d_C_isTaken_28 rfl (lv_at hl 3 rfl) ?_
      refine lv_iload_n hx hb d_C_isTaken_29 rfl (lv_at hl 4 rfl) ?_
      refine vp_callSi (W.runV (As := [.int p0, .int p1, .int p2]) (rest := []) ⟨hx, hb, hml, hown, hts⟩ (c_I_takes l D (tys_ cs) (ad (100 + z)) (σ 20 z) (σ 21 z) (σ 22 z) (σ 23 z) (σ 24 z) (σ 25 z) (σ 26 z) (σ 27 z) (σ 28 z) (σ 29 z) p0 p1 p2) (cwV 3 hts (gw_V kw_399 kw_400 kw_401 kw_12 kw_402) rfl rfl rfl (by decide +kernel) ⟨Nat.le_of_ble_eq_true rfl, Nat.le_of_ble_eq_true rfl⟩) (rd_V (rl_one hP (RC_ins hlt_z) (gC_ins (by have := hI; unfold Iv at this; omega))) hK (rl_recv hK hP (RC_ins hlt_z) (gC_ins (by have := hI; unfold Iv at this; omega)) rfl)) rfl rfl hl.1 rfl (lv_room (Nat.le_of_ble_eq_true rfl)) d_C_isTaken_30 ⟨Nat.zero_le _, Nat.zero_le _⟩) (fun r_6 h_7 => ?_)
      subst h_7
      refine lv_if_eq (tgt := 38) hx hb d_C_isTaken_33 (by decide) (fun c_8 => ?_) (fun c_8 => ?_)
      · refine lv_iinc (v := nI (z + 1)) (lv' := [(4, .int (nI (z + 1))), (0, .ref (ad 0)), (1, .int p0), (2, .int p1), (3, .int p2)]) hx hb d_C_isTaken_38 hl (k := 0) rfl (by exact nI_1 z) (by decide) rfl (fun ls hl => ?_)
        refine lv_goto (tgt := 3) hx hb d_C_isTaken_41 (by decide) ?_
        exact ih_z (n - (z + 1)) (by omega) ls (z + 1) (lv_sub hl [0, 1, 2, 3, 4] rfl) hlt_z (lt_s hinv_z (by ((try simp only [b2i_eq0, Classical.not_not] at c_8); simp only [i32_eq, i32_lt, i32_le, i32_nm1, i32_n0, i32_n1, i32_n2, i32_n3, i32_n4, i32_n5, i32_n6, i32_n7, i32_n8, i32_n9, i32_n10, i32_n20, i32_n30, i32_n31, i32_n39, i32_n40, i32_n49, i32_n50, i32_n100, i32_n160, i32_n1000, i32_n100000, i32_n1000000] at c_8 ⊢; omega))) rfl
      · refine lv_iconst (v := 1) hx hb d_C_isTaken_36 (by decide) ?_
        exact W.zret (v := 1) (ty := .boolean) hx hb hr rfl (fun t ht hW => ⟨1, rfl, (b2i_t ⟨z, hlt_z, by ((try simp only [b2i_eq0, Classical.not_not] at c_8); simp only [i32_eq, i32_lt, i32_le, i32_nm1, i32_n0, i32_n1, i32_n2, i32_n3, i32_n4, i32_n5, i32_n6, i32_n7, i32_n8, i32_n9, i32_n10, i32_n20, i32_n30, i32_n31, i32_n39, i32_n40, i32_n49, i32_n50, i32_n100, i32_n160, i32_n1000, i32_n100000, i32_n1000000] at c_8 ⊢; omega)⟩).symm, ht⟩) (fun q h => nomatch h) d_C_isTaken_37
