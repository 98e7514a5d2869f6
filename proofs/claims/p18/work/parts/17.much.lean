theorem add_z0 (x : Int32) : x + 0 = x := by
  rw [← Int32.toBitVec_inj]
  simp
theorem add_a3 (x y : Int32) : x + y + 1 = x + (y + 1) := Int32.add_assoc x y 1
set_option maxHeartbeats 4000000 in
set_option maxRecDepth 100000 in
theorem c_C_muchDifferent (l : Launch) (D : va_G) (cs : Nat → ClassId) (ad : Nat → Nat) (σ : Nat → Nat → Int32) (n nm ci cj E : Nat) (hI : Iv n nm ci cj) (hJ : Jv σ n nm) (p0 p1 : Int32) : Met l y_C_muchDifferent (Cond.code y_C_muchDifferent b_C_muchDifferent 7 (some .int) :: GW) ({ frames := 3, cells := 0, slots := 0, locals := 96 }) (va_Pc [.ref (ad 0), .int p0, .int p1] (rd_B D (tys_ cs) (wC cs ad σ n nm ci cj E))) (vp_Si (fun r => r = cntS σ p0 p1 nm)) 0 0 (fun _ => False) := by
  refine Met.ofW (cc := b_C_muchDifferent) (maxL := 7) (ret := (some .int)) (by decide) rfl ?_
  intro p e s m args below meth c s₁ B hml hv
  obtain ⟨rfl, hP, hK⟩ := hv
  have hx := B.exec
  have hb := B.bytes
  have hr := B.returns
  have hts := atoms_spec (ws := Cond.code y_C_muchDifferent b_C_muchDifferent 7 (some .int) :: GW) B.pre
  have hG : ∀ w ∈ GW, w.before _ s = true := fun w h => hts w (List.mem_cons_of_mem _ h)
  have hown : s.vm.findClass R_C = some m.cls := findClass_of_methodNamed B.named
  have hlocks := B.notSynchronized
  have hl := lv_entry ([.ref (ad 0), .int p0, .int p1]) (n := 7) (Nat.le_of_ble_eq_true rfl)
  rw [lg_entry_eq]
  generalize (lg_sl ([.ref (ad 0), .int p0, .int p1]) ++ List.replicate (7 - (lg_sl ([.ref (ad 0), .int p0, .int p1])).length) Slot.unset).toArray = ls at hl ⊢
  have hl : lv_has ls 7 [(0, .ref (ad 0)), (1, .int p0), (2, .int p1)] := hl
  refine lv_iconst (v := 0) hx hb d_C_muchDifferent_0 (by decide) ?_
  refine lv_istore_n (lv' := [(3, .int 0), (0, .ref (ad 0)), (1, .int p0), (2, .int p1)]) hx hb d_C_muchDifferent_1 rfl hl (by decide) rfl (fun ls hl => ?_)
  refine lv_iconst (v := 0) hx hb d_C_muchDifferent_2 (by decide) ?_
  refine lv_istore (lv' := [(4, .int 0), (3, .int 0), (0, .ref (ad 0)), (1, .int p0), (2, .int p1)]) hx hb d_C_muchDifferent_3 hl (by decide) rfl (fun ls hl => ?_)
  replace hl : ∃ z : Nat, lv_has ls 7 [(4, .int (nI z)), (3, .int (cntS σ p0 p1 z)), (0, .ref (ad 0)), (1, .int p0), (2, .int p1)] ∧ z ≤ nm ∧ (0 ≤ z) := ⟨0, lv_sub hl [0, 1, 2, 3, 4] rfl, Nat.zero_le _, Nat.zero_le _⟩
  obtain ⟨z, hl, hle_z, hinv_z⟩ := hl
  obtain ⟨k_z, hk_z⟩ : ∃ k, nm - z = k := ⟨_, rfl⟩
  induction k_z using Nat.strongRecOn generalizing z ls with
  | _ k_z ih_z =>
    refine lv_iload hx hb d_C_muchDifferent_5 (lv_at hl 0 rfl) ?_
    refine lv_aload_n hx hb d_C_muchDifferent_7 rfl (lv_at hl 2 rfl) ?_
    refine rl_get (r := 0) (ci := 1) (v := .ref (ad 2)) (C := R_C) (T := F_C) (N := 10) hx hb hG in_C hown hK hP (RC_f (by decide)) gC_0 rfl 1 (by decide) kw_60 (fun _ h9 => h9) rfl d_C_muchDifferent_8 ?_
    refine vp_callSi (W.runV (As := []) (rest := [.int (nI z)]) ⟨hx, hb, hml, hown, hts⟩ (c_Al_size l D (tys_ cs) (ad 2) (.ref (if nm = 0 then E else ad 4)) (nI nm) (σ 7 1)) (cwV 0 hts (gw_V kw_116 kw_117 kw_118 kw_4 kw_119) rfl rfl rfl (by decide +kernel) ⟨Nat.le_of_ble_eq_true rfl, Nat.le_of_ble_eq_true rfl⟩) (rd_V (rl_one hP (RC_f (by decide)) gC_2') hK (rl_recv hK hP (RC_f (by decide)) gC_2' rfl)) rfl rfl hl.1 rfl (lv_room (Nat.le_of_ble_eq_true rfl)) d_C_muchDifferent_11 ⟨Nat.zero_le _, Nat.zero_le _⟩) (fun r_1 h_2 => ?_)
    subst h_2
    refine lv_icmp_ge (tgt := 94) hx hb d_C_muchDifferent_14 (by decide) (fun c_3 => ?_) (fun c_3 => ?_)
    · have hz_z : z = nm := nI_exit hle_z c_3 (by have := hI; unfold Iv at this; omega)
      subst hz_z
      refine lv_iload_n hx hb d_C_muchDifferent_94 rfl (lv_at hl 1 rfl) ?_
      exact W.iret (v := cntS σ p0 p1 z) hx hb hr (fun t ht hW => ⟨_, rfl, rfl, ht⟩) (fun q h => nomatch h) d_C_muchDifferent_95
    · have hlt_z : z < nm := nI_go hle_z c_3 (by have := hI; unfold Iv at this; omega)
      refine lv_aload_n hx hb d_C_muchDifferent_17 rfl (lv_at hl 2 rfl) ?_
      refine rl_get (r := 0) (ci := 1) (v := .ref (ad 2)) (C := R_C) (T := F_C) (N := 10) hx hb hG in_C hown hK hP (RC_f (by decide)) gC_0 rfl 1 (by decide) kw_60 (fun _ h9 => h9) rfl d_C_muchDifferent_18 ?_
      refine lv_iload hx hb d_C_muchDifferent_21 (lv_at hl 0 rfl) ?_
      refine va_csr (W.runV (As := [.int (nI z)]) (rest := []) ⟨hx, hb, hml, hown, hts⟩ (c_Al_get l D (tys_ cs) (ad 2) (ad 4) nm cj z (ad (200 + z)) (σ 7 1) (cs 2) (rowsF 200 nm ad) hlt_z hI.2.2.2.1 (by have := hI; unfold Iv at this; omega) 2 rfl (if_pos hlt_z)) (cwV 1 hts (gw_V kw_120 kw_121 kw_122 kw_4 kw_123) rfl rfl rfl (by decide +kernel) ⟨Nat.le_of_ble_eq_true rfl, Nat.le_of_ble_eq_true rfl⟩) (rd_V (rl_two hP (RC_f (by decide)) (gC_2 (Nat.lt_of_le_of_lt (Nat.zero_le _) hlt_z)) (RC_4 (Nat.lt_of_le_of_lt (Nat.zero_le _) hlt_z)) gC_4) hK (rl_recv hK hP (RC_f (by decide)) (gC_2 (Nat.lt_of_le_of_lt (Nat.zero_le _) hlt_z)) rfl)) rfl rfl hl.1 rfl (lv_room (Nat.le_of_ble_eq_true rfl)) d_C_muchDifferent_23 ⟨Nat.zero_le _, Nat.zero_le _⟩) (fun r_4 h_5 => ?_)
      subst h_5
      refine va_castS hx hb hown (hG _ kw_173) ((hK.1 3 _ rfl).2) (rl_recv hK hP (RC_sam hlt_z) (gC_sam (by have := hI; unfold Iv at this; omega)) rfl) d_C_muchDifferent_26 ?_
      refine lv_astore (lv' := [(5, .ref (ad (200 + z))), (4, .int (nI z)), (3, .int (cntS σ p0 p1 z)), (0, .ref (ad 0)), (1, .int p0), (2, .int p1)]) hx hb d_C_muchDifferent_29 hl (by decide) rfl (fun ls hl => ?_)
      refine lv_aload hx hb d_C_muchDifferent_31 (lv_at hl 0 rfl) ?_
      refine rl_get (r := 200 + z) (ci := 3) (v := .int (σ 30 z)) (C := R_S) (T := F_S) (N := 4) hx hb hG in_S hown hK hP (RC_sam hlt_z) (gC_sam (by have := hI; unfold Iv at this; omega)) rfl 0 (by decide) kw_470 (fun _ h9 => h9) rfl d_C_muchDifferent_33 ?_
      refine lv_iload_n hx hb d_C_muchDifferent_36 rfl (lv_at hl 4 rfl) ?_
      refine lv_icmp_eq (tgt := 43) hx hb d_C_muchDifferent_37 (by decide) (fun c_6 => ?_) (fun c_6 => ?_)
      · refine lv_iconst (v := 0) hx hb d_C_muchDifferent_43 (by decide) ?_
        refine lv_istore (lv' := [(6, .int 0), (5, .ref (ad (200 + z))), (4, .int (nI z)), (3, .int (cntS σ p0 p1 z)), (0, .ref (ad 0)), (1, .int p0), (2, .int p1)]) hx hb d_C_muchDifferent_44 hl (by decide) rfl (fun ls hl => ?_)
        replace hl : ∃ y : Nat, lv_has ls 7 [(6, .int (nI y)), (5, .ref (ad (200 + z))), (4, .int (nI z)), (3, .int (cntS σ p0 p1 z + cntM σ p1 z y)), (0, .ref (ad 0)), (1, .int p0), (2, .int p1)] ∧ y ≤ 4 ∧ (0 ≤ y) := ⟨0, (by rw [show cntS σ p0 p1 z + cntM σ p1 z 0 = cntS σ p0 p1 z from add_z0 _]; exact lv_sub hl [0, 1, 2, 3, 4, 5, 6] rfl), Nat.zero_le _, Nat.zero_le _⟩
        obtain ⟨y, hl, hle_y, hinv_y⟩ := hl
        obtain ⟨k_y, hk_y⟩ : ∃ k, 4 - y = k := ⟨_, rfl⟩
        induction k_y using Nat.strongRecOn generalizing y ls with
        | _ k_y ih_y =>
          refine lv_iload hx hb d_C_muchDifferent_46 (lv_at hl 0 rfl) ?_
          refine lv_iconst (v := 4) hx hb d_C_muchDifferent_48 (by decide) ?_
          refine lv_icmp_ge (tgt := 88) hx hb d_C_muchDifferent_49 (by decide) (fun c_7 => ?_) (fun c_7 => ?_)
          · have hz_y : y = 4 := nI_exit hle_y c_7 (by decide)
            subst hz_y
            refine lv_iinc (v := nI (z + 1)) (lv' := [(4, .int (nI (z + 1))), (6, .int (nI 4)), (5, .ref (ad (200 + z))), (3, .int (cntS σ p0 p1 z + cntM σ p1 z 4)), (0, .ref (ad 0)), (1, .int p0), (2, .int p1)]) hx hb d_C_muchDifferent_88 hl (k := 2) rfl (by first | exact nI_1 _ | rfl) (by decide) rfl (fun ls hl => ?_)
            refine lv_goto (tgt := 5) hx hb d_C_muchDifferent_91 (by decide) ?_
            exact ih_z (nm - (z + 1)) (by omega) ls (z + 1) (by rw [show cntS σ p0 p1 (z + 1) = cntS σ p0 p1 z + cntM σ p1 z 4 from if_pos c_6]; exact (lv_sub hl [0, 3, 4, 5, 6] rfl)) hlt_z (Nat.zero_le _) rfl
          · have hlt_y : y < 4 := nI_go hle_y c_7 (by decide)
            refine lv_iload_n hx hb d_C_muchDifferent_52 rfl (lv_at hl 6 rfl) ?_
            refine lv_if_ne (tgt := 67) hx hb d_C_muchDifferent_53 (by decide) (fun c_8 => ?_) (fun c_8 => ?_)
            · refine lv_aload_n hx hb d_C_muchDifferent_67 rfl (lv_at hl 4 rfl) ?_
              refine lv_aload hx hb d_C_muchDifferent_68 (lv_at hl 1 rfl) ?_
              refine lv_iload hx hb d_C_muchDifferent_70 (lv_at hl 0 rfl) ?_
              refine vp_callSi (W.runV (As := [.ref (ad (200 + z)), .int (nI y)]) (rest := []) ⟨hx, hb, hml, hown, hts⟩ (c_C_difference l D cs ad σ n nm ci cj E hI z y hlt_z hlt_y (hJ.2 z hlt_z)) (cwV 2 hts (gw_V kw_174 kw_176 ks_0_4 kw_1 kw_177) rfl rfl rfl (by decide +kernel) ⟨Nat.le_of_ble_eq_true rfl, Nat.le_of_ble_eq_true rfl⟩) (rd_V hP hK (rl_recv hK hP (RC_f (by decide)) gC_0 rfl)) rfl rfl hl.1 rfl (lv_room (Nat.le_of_ble_eq_true rfl)) d_C_muchDifferent_72 ⟨Nat.zero_le _, Nat.zero_le _⟩) (fun r_9 h_10 => ?_)
              subst h_10
              refine lv_iconst (v := 2) hx hb d_C_muchDifferent_75 (by decide) ?_
              refine lv_icmp_ne (tgt := 82) hx hb d_C_muchDifferent_76 (by decide) (fun c_11 => ?_) (fun c_11 => ?_)
              · refine lv_iinc (v := nI (y + 1)) (lv' := [(6, .int (nI (y + 1))), (5, .ref (ad (200 + z))), (4, .int (nI z)), (3, .int (cntS σ p0 p1 z + cntM σ p1 z y)), (0, .ref (ad 0)), (1, .int p0), (2, .int p1)]) hx hb d_C_muchDifferent_82 hl (k := 0) rfl (by first | exact nI_1 _ | rfl) (by decide) rfl (fun ls hl => ?_)
                refine lv_goto (tgt := 46) hx hb d_C_muchDifferent_85 (by decide) ?_
                exact ih_y (4 - (y + 1)) (by omega) ls (y + 1) (by rw [show cntM σ p1 z (y + 1) = cntM σ p1 z y from if_neg (by grind)]; exact (lv_sub hl [0, 1, 2, 3, 4, 5, 6] rfl)) hlt_y (Nat.zero_le _) rfl
              · refine lv_iinc (v := (cntS σ p0 p1 z + cntM σ p1 z y) + 1) (lv' := [(3, .int ((cntS σ p0 p1 z + cntM σ p1 z y) + 1)), (6, .int (nI y)), (5, .ref (ad (200 + z))), (4, .int (nI z)), (0, .ref (ad 0)), (1, .int p0), (2, .int p1)]) hx hb d_C_muchDifferent_79 hl (k := 3) rfl (by first | exact nI_1 _ | rfl) (by decide) rfl (fun ls hl => ?_)
                refine lv_iinc (v := nI (y + 1)) (lv' := [(6, .int (nI (y + 1))), (3, .int ((cntS σ p0 p1 z + cntM σ p1 z y) + 1)), (5, .ref (ad (200 + z))), (4, .int (nI z)), (0, .ref (ad 0)), (1, .int p0), (2, .int p1)]) hx hb d_C_muchDifferent_82 hl (k := 1) rfl (by first | exact nI_1 _ | rfl) (by decide) rfl (fun ls hl => ?_)
                refine lv_goto (tgt := 46) hx hb d_C_muchDifferent_85 (by decide) ?_
                exact ih_y (4 - (y + 1)) (by omega) ls (y + 1) (by rw [show cntM σ p1 z (y + 1) = cntM σ p1 z y + 1 from if_pos (by grind), ← add_a3]; exact (lv_sub hl [0, 2, 3, 1, 4, 5, 6] rfl)) hlt_y (Nat.zero_le _) rfl
            · refine lv_aload hx hb d_C_muchDifferent_56 (lv_at hl 1 rfl) ?_
              refine rl_get (r := 200 + z) (ci := 3) (v := .ref (ad (400 + z))) (C := R_S) (T := F_S) (N := 4) hx hb hG in_S hown hK hP (RC_sam hlt_z) (gC_sam (by have := hI; unfold Iv at this; omega)) rfl 3 (by decide) kw_476 (fun _ h9 => h9) rfl d_C_muchDifferent_58 ?_
              refine lv_iload hx hb d_C_muchDifferent_61 (lv_at hl 0 rfl) ?_
              refine rl_zald (r := 400 + z) (i := nI y) hx hb hK hP (RC_set hlt_z) 1 (gC_set (by have := hI; unfold Iv at this; omega)) rfl (vp_in_nI (Nat.lt_of_lt_of_le hlt_y (by decide)) (by decide)) d_C_muchDifferent_63 ?_
              rw [nI_clamp (Nat.lt_of_lt_of_le hlt_y (by decide))]
              refine lv_if_ne (tgt := 82) hx hb d_C_muchDifferent_64 (by decide) (fun c_12 => ?_) (fun c_12 => ?_)
              · refine lv_iinc (v := nI (y + 1)) (lv' := [(6, .int (nI (y + 1))), (5, .ref (ad (200 + z))), (4, .int (nI z)), (3, .int (cntS σ p0 p1 z + cntM σ p1 z y)), (0, .ref (ad 0)), (1, .int p0), (2, .int p1)]) hx hb d_C_muchDifferent_82 hl (k := 0) rfl (by first | exact nI_1 _ | rfl) (by decide) rfl (fun ls hl => ?_)
                refine lv_goto (tgt := 46) hx hb d_C_muchDifferent_85 (by decide) ?_
                exact ih_y (4 - (y + 1)) (by omega) ls (y + 1) (by rw [show cntM σ p1 z (y + 1) = cntM σ p1 z y from if_neg (by grind)]; exact (lv_sub hl [0, 1, 2, 3, 4, 5, 6] rfl)) hlt_y (Nat.zero_le _) rfl
              · refine lv_aload_n hx hb d_C_muchDifferent_67 rfl (lv_at hl 4 rfl) ?_
                refine lv_aload hx hb d_C_muchDifferent_68 (lv_at hl 1 rfl) ?_
                refine lv_iload hx hb d_C_muchDifferent_70 (lv_at hl 0 rfl) ?_
                refine vp_callSi (W.runV (As := [.ref (ad (200 + z)), .int (nI y)]) (rest := []) ⟨hx, hb, hml, hown, hts⟩ (c_C_difference l D cs ad σ n nm ci cj E hI z y hlt_z hlt_y (hJ.2 z hlt_z)) (cwV 2 hts (gw_V kw_174 kw_176 ks_0_4 kw_1 kw_177) rfl rfl rfl (by decide +kernel) ⟨Nat.le_of_ble_eq_true rfl, Nat.le_of_ble_eq_true rfl⟩) (rd_V hP hK (rl_recv hK hP (RC_f (by decide)) gC_0 rfl)) rfl rfl hl.1 rfl (lv_room (Nat.le_of_ble_eq_true rfl)) d_C_muchDifferent_72 ⟨Nat.zero_le _, Nat.zero_le _⟩) (fun r_13 h_14 => ?_)
                subst h_14
                refine lv_iconst (v := 2) hx hb d_C_muchDifferent_75 (by decide) ?_
                refine lv_icmp_ne (tgt := 82) hx hb d_C_muchDifferent_76 (by decide) (fun c_15 => ?_) (fun c_15 => ?_)
                · refine lv_iinc (v := nI (y + 1)) (lv' := [(6, .int (nI (y + 1))), (5, .ref (ad (200 + z))), (4, .int (nI z)), (3, .int (cntS σ p0 p1 z + cntM σ p1 z y)), (0, .ref (ad 0)), (1, .int p0), (2, .int p1)]) hx hb d_C_muchDifferent_82 hl (k := 0) rfl (by first | exact nI_1 _ | rfl) (by decide) rfl (fun ls hl => ?_)
                  refine lv_goto (tgt := 46) hx hb d_C_muchDifferent_85 (by decide) ?_
                  exact ih_y (4 - (y + 1)) (by omega) ls (y + 1) (by rw [show cntM σ p1 z (y + 1) = cntM σ p1 z y from if_neg (by grind)]; exact (lv_sub hl [0, 1, 2, 3, 4, 5, 6] rfl)) hlt_y (Nat.zero_le _) rfl
                · refine lv_iinc (v := (cntS σ p0 p1 z + cntM σ p1 z y) + 1) (lv' := [(3, .int ((cntS σ p0 p1 z + cntM σ p1 z y) + 1)), (6, .int (nI y)), (5, .ref (ad (200 + z))), (4, .int (nI z)), (0, .ref (ad 0)), (1, .int p0), (2, .int p1)]) hx hb d_C_muchDifferent_79 hl (k := 3) rfl (by first | exact nI_1 _ | rfl) (by decide) rfl (fun ls hl => ?_)
                  refine lv_iinc (v := nI (y + 1)) (lv' := [(6, .int (nI (y + 1))), (3, .int ((cntS σ p0 p1 z + cntM σ p1 z y) + 1)), (5, .ref (ad (200 + z))), (4, .int (nI z)), (0, .ref (ad 0)), (1, .int p0), (2, .int p1)]) hx hb d_C_muchDifferent_82 hl (k := 1) rfl (by first | exact nI_1 _ | rfl) (by decide) rfl (fun ls hl => ?_)
                  refine lv_goto (tgt := 46) hx hb d_C_muchDifferent_85 (by decide) ?_
                  exact ih_y (4 - (y + 1)) (by omega) ls (y + 1) (by rw [show cntM σ p1 z (y + 1) = cntM σ p1 z y + 1 from if_pos (by grind), ← add_a3]; exact (lv_sub hl [0, 2, 3, 1, 4, 5, 6] rfl)) hlt_y (Nat.zero_le _) rfl
      · refine lv_goto (tgt := 88) hx hb d_C_muchDifferent_40 (by decide) ?_
        refine lv_iinc (v := nI (z + 1)) (lv' := [(4, .int (nI (z + 1))), (5, .ref (ad (200 + z))), (3, .int (cntS σ p0 p1 z)), (0, .ref (ad 0)), (1, .int p0), (2, .int p1)]) hx hb d_C_muchDifferent_88 hl (k := 1) rfl (by first | exact nI_1 _ | rfl) (by decide) rfl (fun ls hl => ?_)
        refine lv_goto (tgt := 5) hx hb d_C_muchDifferent_91 (by decide) ?_
        exact ih_z (nm - (z + 1)) (by omega) ls (z + 1) (by rw [show cntS σ p0 p1 (z + 1) = cntS σ p0 p1 z from if_neg c_6]; exact (lv_sub hl [0, 2, 3, 4, 5] rfl)) hlt_z (Nat.zero_le _) rfl
