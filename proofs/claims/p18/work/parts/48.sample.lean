def saT (τ : Nat → Nat → Int32) (i : Nat) : Nat → Nat → Int32 := su (su τ 29 i (τ 29 i + 1)) 4 (τ 20 i).toNatClampNeg (τ 4 (τ 20 i).toNatClampNeg + 50)
set_option maxHeartbeats 4000000 in
set_option maxRecDepth 100000 in
theorem c_C_sample (l : Launch) (D : va_G) (cs : Nat → ClassId) (ad : Nat → Nat) (σ : Nat → Nat → Int32) (n nm ci cj E : Nat) (hI : Iv n nm ci cj) (hJ : Jv σ n nm) (mi : Nat) (hst : l.stackTraces = false) (sz : Nat) (p0 p1 : Int32) : vx_Met l y_C_sample (Cond.code y_C_sample b_C_sample 4 (some .int) :: GW) ({ frames := 8, cells := 4, slots := 120, locals := 256 }) (va_Pc [.ref (ad 0), .int p0, .int p1] (fun U => xr_B D cs (wC cs ad σ n nm ci cj E) sz U ∧ gr_K mi U ∧ em_E D cs E (va_A (wC cs ad σ n nm ci cj E) sz) U U.heap)) (va_Qi (fun r (u : (Nat → Nat) × Nat × Nat × (Nat → Nat → Int32)) => ∃ i, i < n ∧ p0 = nI i ∧ (1 ≤ p1 ∧ p1 ≤ 1000000) ∧ nm < 40 ∧ u.1 0 = ad 0 ∧ (((3 ≤ σ 21 i ∧ σ 23 i = 2 ∧ ¬ (∃ j, j < nm ∧ σ 31 j = p1)) ∧ r = nI nm ∧ u.2.1 = nm + 1 ∧ nm + 1 ≤ u.2.2.1 ∧ u.2.2.1 ≤ 100 ∧ u.2.2.2 = saT (nwS σ nm (σ 20 i) p1) i) ∨ (¬ (3 ≤ σ 21 i ∧ σ 23 i = 2 ∧ ¬ (∃ j, j < nm ∧ σ 31 j = p1)) ∧ r = -1 ∧ u = (ad, nm, cj, σ)))) (fun u => wr_T D cs (wC cs u.1 u.2.2.2 n u.2.1 ci u.2.2.1 E) (va_A (wC cs ad σ n nm ci cj E) sz)) (va_A (wC cs ad σ n nm ci cj E) sz)) (vx_X (fun c : Nat => (c = 1 ∧ ¬ ((∃ i, i < n ∧ p0 = nI i) ∧ (1 ≤ p1 ∧ p1 ≤ 1000000))) ∨ (c = 2 ∧ ((∃ i, i < n ∧ p0 = nI i) ∧ (1 ≤ p1 ∧ p1 ≤ 1000000)) ∧ nm = 40)) (fun E9 c t => E9 = xnm c ∧ wr_T D cs (wC cs ad σ n nm ci cj E) (va_A (wC cs ad σ n nm ci cj E) sz) t) (va_A (wC cs ad σ n nm ci cj E) sz)) 4 120 (va_A (wC cs ad σ n nm ci cj E) sz) := by
  refine vx_ofW (cc := b_C_sample) (maxL := 4) (ret := (some .int)) (by decide) rfl ?_
  intro p e s m args below meth c s₁ B hml hnt hv
  obtain ⟨rfl, ⟨⟨hsz, hP, hK, hD0⟩, hX, hZ⟩, hg, hE⟩ := hv
  have hx := B.exec
  have hb := B.bytes
  have hr := B.returns
  have hts := atoms_spec (ws := Cond.code y_C_sample b_C_sample 4 (some .int) :: GW) B.pre
  have hG : ∀ w ∈ GW, w.before _ s = true := fun w h => hts w (List.mem_cons_of_mem _ h)
  have hown : s.vm.findClass R_C = some m.cls := findClass_of_methodNamed B.named
  have hlocks := B.notSynchronized
  subst hsz
  have hD := hD0.self (sz := s.heap.size)
  generalize hAe : va_A (wC cs ad σ n nm ci cj E) s.heap.size = A at hD hZ hE ⊢
  have hA : ∀ q : Nat, s.heap.size ≤ q → A q := fun q h => by rw [← hAe]; exact Or.inr h
  have hS : va_S A s.heap s.heap [] := va_S.rf
  have hl := lv_entry ([.ref (ad 0), .int p0, .int p1]) (n := 4) (Nat.le_of_ble_eq_true rfl)
  rw [lg_entry_eq]
  generalize (lg_sl ([.ref (ad 0), .int p0, .int p1]) ++ List.replicate (4 - (lg_sl ([.ref (ad 0), .int p0, .int p1])).length) Slot.unset).toArray = ls at hl ⊢
  have hl : lv_has ls 4 [(0, .ref (ad 0)), (1, .int p0), (2, .int p1)] := hl
  refine lv_aload_n hx hb d_C_sample_0 rfl (lv_at hl 0 rfl) ?_
  refine lv_iload_n hx hb d_C_sample_1 rfl (lv_at hl 1 rfl) ?_
  refine vp_callSi (W.runV (As := [.int p0]) (rest := []) ⟨hx, hb, hml, hown, hts⟩ (c_C_isInspection l D cs ad σ n nm ci cj E hI p0) (cwV 1 hts (gw_V kw_112 kw_114 ks_0_1 kw_1 kw_115) rfl rfl rfl (by decide +kernel) ⟨Nat.le_of_ble_eq_true rfl, Nat.le_of_ble_eq_true rfl⟩) (rd_V hP hK (rl_recv hK hP (RC_f (by decide)) gC_0 rfl)) rfl rfl hl.1 rfl (lv_room (Nat.le_of_ble_eq_true rfl)) d_C_sample_2 ⟨Nat.zero_le _, Nat.zero_le _⟩) (fun r_1 h_2 => ?_)
  subst h_2
  refine lv_if_eq (tgt := 15) hx hb d_C_sample_5 (by decide) (fun c_3 => ?_) (fun c_3 => ?_)
  · exact vx_throwS (own := "InspectSteps") (cls := xe_A) (text := "no such inspection or seal") (names := xe_up) (ik := 68) (is := 152) (ic := 72) (A := A) hx hb hst hown (by decide) (by decide) (hG _ kw_192) (hG _ kw_10) (hX.2 (152, "no such inspection or seal") (by decide)).choose_spec (xa_A hG hX) xa_A3 hZ.1 hZ.2 hS (hl.1.trans hml.symm) d_C_sample_15 d_C_sample_18 d_C_sample_19 d_C_sample_21 d_C_sample_24 (fun x h => (hnt x h).elim) (Nat.le_of_ble_eq_true rfl) (Nat.le_of_ble_eq_true rfl) (Nat.le_of_ble_eq_true rfl) (Nat.le_of_ble_eq_true rfl) hlocks (fun t ha hz hk => ⟨1, Or.inl ⟨rfl, fun ⟨⟨j, hj, e9⟩, _⟩ => (b2i_eq0.mp c_3) (e9 ▸ at_not (by have := hI; unfold Iv at this; omega) hj)⟩, ⟨rfl, (thr_T hS hP hK hD ha hz hk).1⟩, (thr_T hS hP hK hD ha hz hk).2⟩) hS.2.2 (Nat.le_of_ble_eq_true rfl) (Nat.le_of_ble_eq_true rfl)
  · obtain ⟨i, hi, rfl⟩ := at_ (by have := hI; unfold Iv at this; omega) (Classical.not_not.mp (fun h => c_3 (b2i_eq0.mpr h)))
    refine lv_iload_n hx hb d_C_sample_8 rfl (lv_at hl 2 rfl) ?_
    refine vp_callSi (W.runS (As := [.int p1]) (rest := []) ⟨hx, hb, hml, hown, hts⟩ (c_C_isSeal l p1) (va_cwS 1 hts (gw_S kw_442 kw_443 kw_1 kw_444) rfl rfl rfl (by decide +kernel) ⟨Nat.le_of_ble_eq_true rfl, Nat.le_of_ble_eq_true rfl⟩) ⟨fun _ _ _ _ q => q, fun U _ _ => ⟨rfl, trivial⟩⟩ rfl rfl hl.1 rfl (lv_room (Nat.le_of_ble_eq_true rfl)) d_C_sample_9 ⟨Nat.zero_le _, Nat.zero_le _⟩) (fun r_4 h_5 => ?_)
    subst h_5
    refine lv_if_ne (tgt := 25) hx hb d_C_sample_12 (by decide) (fun c_6 => ?_) (fun c_6 => ?_)
    · refine lv_aload_n hx hb d_C_sample_25 rfl (lv_at hl 0 rfl) ?_
      refine rl_get (r := 0) (ci := 1) (v := .ref (ad 2)) (C := R_C) (T := F_C) (N := 10) hx hb hG in_C hown hK hP (RC_f (by decide)) gC_0 rfl 1 (by decide) kw_60 (fun _ h9 => h9) rfl d_C_sample_26 ?_
      refine vp_callSi (W.runV (As := []) (rest := []) ⟨hx, hb, hml, hown, hts⟩ (c_Al_size l D (tys_ cs) (ad 2) (.ref (if nm = 0 then E else ad 4)) (nI nm) (σ 7 1)) (cwV 0 hts (gw_V kw_116 kw_117 kw_118 kw_4 kw_119) rfl rfl rfl (by decide +kernel) ⟨Nat.le_of_ble_eq_true rfl, Nat.le_of_ble_eq_true rfl⟩) (rd_V (rl_one hP (RC_f (by decide)) gC_2') hK (rl_recv hK hP (RC_f (by decide)) gC_2' rfl)) rfl rfl hl.1 rfl (lv_room (Nat.le_of_ble_eq_true rfl)) d_C_sample_29 ⟨Nat.zero_le _, Nat.zero_le _⟩) (fun r_7 h_8 => ?_)
      subst h_8
      refine lv_bipush (v := 40) hx hb d_C_sample_32 (by decide) ?_
      refine lv_icmp_lt (tgt := 47) hx hb d_C_sample_34 (by decide) (fun c_9 => ?_) (fun c_9 => ?_)
      · have hm40 : nm < 40 := (nI_ltI (a := nm) (b := 40) (by have := hI; unfold Iv at this; omega) (by decide)).mp c_9
        have hn30 := hn_ hI
        have hrn := (RC_newS (n := n) (nm := nm) hn30 hm40).1
        have inr : 200 + nm ∈ RC n nm ++ [200 + nm] := List.mem_append_right _ (List.mem_singleton.mpr rfl)
        refine lv_aload_n hx hb d_C_sample_47 rfl (lv_at hl 0 rfl) ?_
        refine rl_get (r := 0) (ci := 1) (v := .ref (ad 1)) (C := R_C) (T := F_C) (N := 10) hx hb hG in_C hown hK hP (RC_f (by decide)) gC_0 rfl 0 (by decide) kw_59 (fun _ h9 => h9) rfl d_C_sample_48 ?_
        refine lv_iload_n hx hb d_C_sample_51 rfl (lv_at hl 1 rfl) ?_
        refine va_csr (W.runV (As := [.int (nI i)]) (rest := []) ⟨hx, hb, hml, hown, hts⟩ (c_Al_get l D (tys_ cs) (ad 1) (ad 3) n ci i (ad (100 + i)) (σ 7 0) (cs 2) (rowsF 100 n ad) hi hI.2.2.1 (by have := hI; unfold Iv at this; omega) 2 rfl (if_pos hi)) (cwV 1 hts (gw_V kw_120 kw_121 kw_122 kw_4 kw_123) rfl rfl rfl (by decide +kernel) ⟨Nat.le_of_ble_eq_true rfl, Nat.le_of_ble_eq_true rfl⟩) (rd_V (rl_two hP (RC_f (by decide)) (gC_1 (Nat.lt_of_le_of_lt (Nat.zero_le _) hi)) (RC_3 (Nat.lt_of_le_of_lt (Nat.zero_le _) hi)) gC_3) hK (rl_recv hK hP (RC_f (by decide)) (gC_1 (Nat.lt_of_le_of_lt (Nat.zero_le _) hi)) rfl)) rfl rfl hl.1 rfl (lv_room (Nat.le_of_ble_eq_true rfl)) d_C_sample_52 ⟨Nat.zero_le _, Nat.zero_le _⟩) (fun r_10 h_11 => ?_)
        subst h_11
        refine va_castS hx hb hown (hG _ kw_134) ((hK.1 2 _ rfl).2) (rl_recv hK hP (RC_ins hi) (gC_ins (by have := hI; unfold Iv at this; omega)) rfl) d_C_sample_55 ?_
        refine lv_astore_n (lv' := [(3, .ref (ad (100 + i))), (0, .ref (ad 0)), (1, .int (nI i)), (2, .int p1)]) hx hb d_C_sample_58 rfl hl (by decide) rfl (fun ls hl => ?_)
        refine lv_aload_n hx hb d_C_sample_59 rfl (lv_at hl 0 rfl) ?_
        refine vp_callSi (W.runV (As := []) (rest := []) ⟨hx, hb, hml, hown, hts⟩ (c_I_isOpening l D (tys_ cs) (ad (100 + i)) (σ 20 i) (σ 21 i) (σ 22 i) (σ 23 i) (σ 24 i) (σ 25 i) (σ 26 i) (σ 27 i) (σ 28 i) (σ 29 i)) (cwV 0 hts (gw_V kw_423 kw_424 kw_425 kw_12 kw_426) rfl rfl rfl (by decide +kernel) ⟨Nat.le_of_ble_eq_true rfl, Nat.le_of_ble_eq_true rfl⟩) (rd_V (rl_one hP (RC_ins hi) (gC_ins (by have := hI; unfold Iv at this; omega))) hK (rl_recv hK hP (RC_ins hi) (gC_ins (by have := hI; unfold Iv at this; omega)) rfl)) rfl rfl hl.1 rfl (lv_room (Nat.le_of_ble_eq_true rfl)) d_C_sample_60 ⟨Nat.zero_le _, Nat.zero_le _⟩) (fun r_12 h_13 => ?_)
        subst h_13
        refine lv_if_eq (tgt := 82) hx hb d_C_sample_63 (by decide) (fun c_14 => ?_) (fun c_14 => ?_)
        · refine lv_iconst (v := (-1)) hx hb d_C_sample_82 (by decide) ?_
          refine W.widen (k := 4) (n := 120) (Nat.le_of_ble_eq_true rfl) (Nat.le_of_ble_eq_true rfl) (vx_ret ?_)
          exact W.iret (v := (-1)) hx hb hr (fun t ht hW => ⟨⟨-1, (ad, nm, cj, σ), rfl, ⟨i, hi, rfl, Classical.not_not.mp (fun h => c_6 (b2i_eq0.mpr h)), hm40, rfl, Or.inr ⟨fun h9 => (b2i_eq0.mp c_14) h9.1, rfl, rfl⟩⟩, by rw [ht]; exact hP, va_K.moved hW.alike hK, hD⟩, hS.F ht⟩) hS.2.2 d_C_sample_83
        · refine lv_aload_n hx hb d_C_sample_66 rfl (lv_at hl 0 rfl) ?_
          refine rl_get (r := 100 + i) (ci := 2) (v := .int (σ 23 i)) (C := R_I) (T := F_I) (N := 10) hx hb hG in_I hown hK hP (RC_ins hi) (gC_ins (by have := hI; unfold Iv at this; omega)) rfl 3 (by decide) kw_293 (fun _ h9 => h9) rfl d_C_sample_67 ?_
          refine lv_iconst (v := 2) hx hb d_C_sample_70 (by decide) ?_
          refine lv_icmp_ne (tgt := 82) hx hb d_C_sample_71 (by decide) (fun c_15 => ?_) (fun c_15 => ?_)
          · refine lv_iconst (v := (-1)) hx hb d_C_sample_82 (by decide) ?_
            refine W.widen (k := 4) (n := 120) (Nat.le_of_ble_eq_true rfl) (Nat.le_of_ble_eq_true rfl) (vx_ret ?_)
            exact W.iret (v := (-1)) hx hb hr (fun t ht hW => ⟨⟨-1, (ad, nm, cj, σ), rfl, ⟨i, hi, rfl, Classical.not_not.mp (fun h => c_6 (b2i_eq0.mpr h)), hm40, rfl, Or.inr ⟨fun h9 => c_15 h9.2.1, rfl, rfl⟩⟩, by rw [ht]; exact hP, va_K.moved hW.alike hK, hD⟩, hS.F ht⟩) hS.2.2 d_C_sample_83
          · refine lv_aload_n hx hb d_C_sample_74 rfl (lv_at hl 1 rfl) ?_
            refine lv_iload_n hx hb d_C_sample_75 rfl (lv_at hl 3 rfl) ?_
            refine vp_callSi (W.runV (As := [.int p1]) (rest := []) ⟨hx, hb, hml, hown, hts⟩ (c_C_isSealOfSample l D cs ad σ n nm ci cj E hI p1) (cwV 1 hts (gw_V kw_459 kw_461 ks_0_12 kw_1 kw_462) rfl rfl rfl (by decide +kernel) ⟨Nat.le_of_ble_eq_true rfl, Nat.le_of_ble_eq_true rfl⟩) (rd_V hP hK (rl_recv hK hP (RC_f (by decide)) gC_0 rfl)) rfl rfl hl.1 rfl (lv_room (Nat.le_of_ble_eq_true rfl)) d_C_sample_76 ⟨Nat.zero_le _, Nat.zero_le _⟩) (fun r_16 h_17 => ?_)
            subst h_17
            refine lv_if_eq (tgt := 84) hx hb d_C_sample_79 (by decide) (fun c_18 => ?_) (fun c_18 => ?_)
            · refine lv_aload_n hx hb d_C_sample_84 rfl (lv_at hl 1 rfl) ?_
              refine rl_get (r := 0) (ci := 1) (v := .ref (ad 2)) (C := R_C) (T := F_C) (N := 10) hx hb hG in_C hown hK hP (RC_f (by decide)) gC_0 rfl 1 (by decide) kw_60 (fun _ h9 => h9) rfl d_C_sample_85 ?_
              refine rl_new (C := R_S) (T := F_S) (N := 4) (ci := 3) hx hb hG in_S T_S T_S_ok hown kw_173 kw_463 kw_18 hK hP hD hS hA rfl hrn (fs := [.int 0, .int 0, .null, .null]) (by decide +kernel) (Nat.le_of_ble_eq_true rfl) (Nat.le_of_ble_eq_true rfl) d_C_sample_88 (fun q H hP hD hS => ?_)
              have eq : va_up ad (200 + nm) q (200 + nm) = q := va_up_self _ _ _
              refine lv_dup hx hb d_C_sample_91 rfl ?_
              refine lv_aload_n hx hb d_C_sample_92 rfl (lv_at hl 0 rfl) ?_
              have ei : va_up ad (200 + nm) q (100 + i) = ad (100 + i) := va_up_ne _ _ (by omega)
              rw [← ei]
              refine rl_get (r := 100 + i) (ci := 2) (v := .int (σ 20 i)) (C := R_I) (T := F_I) (N := 10) hx hb hG in_I hown hK hP (List.mem_append_left _ (RC_ins hi)) (fs := insF σ i) (by rw [va_up_ne _ _ (by omega)]; exact gC_ins (by omega)) rfl 0 (by decide) kw_288 (fun _ h9 => h9) rfl d_C_sample_93 ?_
              refine lv_iload_n hx hb d_C_sample_96 rfl (lv_at hl 3 rfl) ?_
              have hPc : va_P D cls_ [(q, .inr (3, [.int 0, .int 0, .null, .null]))] H := by
                have h := rl_one hP inr (va_up_self _ _ _)
                rw [eq] at h
                exact h
              have hFc : ∀ x, va_A [(q, .inr (3, [.int 0, .int 0, .null, .null]))] H.size x → A x := by
                have h := rl_free1 (r := 200 + nm) (x := .inr (3, [.int 0, .int 0, .null, .null])) hD hS hA inr
                rw [eq] at h
                exact h
              refine va_callv (va_runI (As := [.int (σ 20 i), .int p1]) (rest := [.ref q, .ref (ad 2)]) ⟨hx, hb, hml, hown, hts⟩ (c_S_init l D cs q (σ 20 i) p1 H.size) (cwI 2 hts (gw_I kw_466) rfl rfl rfl (hG _ kw_18) (hG _ kw_464) (hG _ kw_465) rfl (by decide +kernel) ⟨Nat.le_of_ble_eq_true rfl, Nat.le_of_ble_eq_true rfl⟩) ⟨w1_blind, fun U hU hW => ⟨rfl, by rw [hU], by rw [hU]; exact hPc, va_K.moved hW.alike hK⟩⟩ rfl rfl hl.1 rfl (lv_room (Nat.le_of_ble_eq_true rfl)) d_C_sample_97 ⟨Nat.le_of_ble_eq_true rfl, Nat.le_of_ble_eq_true rfl⟩) hS (fun q _ h => hFc q h) hFc (fun u t H1 locs ht hvm hw hB hz1 hk1 hS => ?_)
              obtain ⟨q1, q2⟩ := u
              obtain ⟨hB1, hB2⟩ := hB
              rw [ht] at hB1
              obtain ⟨hP, hD⟩ := wS_init hn30 hm40 hP hD hk1 hB1 hB2 hFc
              obtain ⟨hPa, hDa, hFa, hva, hya⟩ := adS_pre hn30 hm40 hK hg.2.2.2.2.2.2 hP hD hS hA
              refine va_calli (va_runV (As := [.ref q]) (rest := []) ⟨hx, hb, hml, hown, hts⟩ (c_Al_add1 l D cs (ad 2) (ad 4) q mi nm cj E (σ 7 1) (rowsF 200 nm ad) H1.size (fun _ => hI.2.2.2.1) hI.2.2.2.2.2 (by omega) (fun j hj => if_neg (by omega))) (cwV 1 hts (gw_V kw_327 kw_328 kw_329 kw_4 kw_330) rfl rfl rfl (by decide +kernel) ⟨Nat.le_of_ble_eq_true rfl, Nat.le_of_ble_eq_true rfl⟩) ⟨ad_blind, va_recv hK hPa (ci := 0) (q0 := 0) rfl rfl, fun U hU hW => ⟨rfl, by rw [hU], by rw [hU]; exact hPa, va_K.moved hW.alike hK, hDa, hg.moved hW.alike, fun _ => by rw [hU]; exact ((hE.kept (fun x h1 h2 => hS.2.1 x h1 h2)).moved hW.alike).narrow hFa, ⟨hva.1, hva.2.1, by rw [hU]; exact hva.2.2.moved hW.alike⟩, fun i y hi hy => ⟨(hya i y hi hy).1, (hya i y hi hy).2.1, by rw [hU]; exact (hya i y hi hy).2.2.moved hW.alike⟩⟩⟩ rfl rfl hl.1 rfl (lv_room (Nat.le_of_ble_eq_true rfl)) d_C_sample_100 ⟨Nat.le_of_ble_eq_true rfl, Nat.le_of_ble_eq_true rfl⟩) hS (fun x _ h => hFa x h) hFa (fun r u t H2 locs ht hvm hw hB hz2 hk2 hS => ?_)
              obtain ⟨rfl, hu1, hu2⟩ := hw
              obtain ⟨hP2, hD2⟩ := hB
              rw [ht] at hP2
              obtain ⟨hP, hD⟩ := wC_addS hn30 hm40 hP hD hk2 hP2 hD2 hFa
              obtain ⟨e1, cap1⟩ := u
              obtain ⟨ad9, e9⟩ : ∃ ad9, ad9 = va_up (adS ad nm q q1 q2) 4 e1 := ⟨_, rfl⟩
              have e90 : ad9 0 = ad 0 := by rw [e9, va_up_ne _ _ (by omega), adS_o (by omega) (by omega) (by omega)]
              have e9i : ad9 (100 + i) = ad (100 + i) := by rw [e9, va_up_ne _ _ (by omega), adS_o (by omega) (by omega) (by omega)]
              rw [← e9] at hP hD
              rw [← e90, ← e9i] at hl
              clear e9 e9i
              obtain ⟨τ, eτ⟩ : ∃ τ, τ = nwS σ nm (σ 20 i) p1 := ⟨_, rfl⟩
              have hv20 : vp_in (τ 20 i) 10 := by rw [eτ, nwS_k (by omega) (by omega) (by omega) (by omega) (by omega)]; exact (hJ.1 i hi).1
              rw [← eτ] at hP hD
              replace hP : va_P D cls_ (wC cs ad9 τ n (nm + 1) ci cap1 E) H2 := hP
              replace hD : va_D A (wC cs ad9 τ n (nm + 1) ci cap1 E) := hD
              have hI9 := hI
              have hI : Iv n (nm + 1) ci cap1 := ⟨hn30, by omega, hI.2.2.1, hu1, hI.2.2.2.2.1, hu2⟩
              clear hE hg hX hZ
              clear hFa hya hva hDa hPa hP2 hD2 hk2
              refine lv_pop hx hb d_C_sample_103 rfl ?_
              refine lv_aload_n hx hb d_C_sample_104 rfl (lv_at hl 0 rfl) ?_
              refine lv_dup hx hb d_C_sample_105 rfl ?_
              refine rl_get (r := 100 + i) (ci := 2) (v := .int (τ 29 i)) (C := R_I) (T := F_I) (N := 10) hx hb hG in_I hown hK hP (RC_ins hi) (gC_ins (by have := hI; unfold Iv at this; omega)) rfl 9 (by decide) kw_305 (fun _ h9 => h9) rfl d_C_sample_106 ?_
              refine lv_iconst (v := 1) hx hb d_C_sample_109 (by decide) ?_
              refine lv_iadd hx hb d_C_sample_110 ?_
              refine rl_put (r := 100 + i) (ci := 2) (v := .int ((τ 29 i) + 1)) (ty := .int) (C := R_I) (T := F_I) (N := 10) hx hb hG in_I T_I T_I_ok n_I hown hK hP hD hS (RC_ins hi) (gC_ins (by have := hI; unfold Iv at this; omega)) rfl 9 (by decide) kw_305 (fun _ h9 => h9) rfl (by decide +kernel) rfl rfl (Nat.le_of_ble_eq_true rfl) d_C_sample_111 (fun H locs hP hD hS => ?_)
              rw [wC_ins (f := 9) (hn_ hI) (hm_ hI) (by have := hI; unfold Iv at this; omega) (by decide)] at hP hD
              refine lv_aload_n hx hb d_C_sample_114 rfl (lv_at hl 1 rfl) ?_
              refine rl_get (r := 0) (ci := 1) (v := .ref (ad9 8)) (C := R_C) (T := F_C) (N := 10) hx hb hG in_C hown hK hP (RC_f (by decide)) gC_0 rfl 5 (by decide) kw_64 (fun _ h9 => h9) rfl d_C_sample_115 ?_
              refine lv_aload_n hx hb d_C_sample_118 rfl (lv_at hl 0 rfl) ?_
              refine rl_get (r := 100 + i) (ci := 2) (v := .int (τ 20 i)) (C := R_I) (T := F_I) (N := 10) hx hb hG in_I hown hK hP (RC_ins hi) (gC_ins (by have := hI; unfold Iv at this; omega)) rfl 0 (by decide) kw_288 (fun _ h9 => h9) rfl d_C_sample_119 ?_
              refine lv_dup2_11 hx hb d_C_sample_122 rfl rfl ?_
              refine rl_iald (r := 8) (i := τ 20 i) hx hb hK hP (RC_f (by decide)) 0 gC_8 rfl hv20 d_C_sample_123 ?_
              refine lv_bipush (v := 50) hx hb d_C_sample_124 (by decide) ?_
              refine lv_iadd hx hb d_C_sample_126 ?_
              refine rl_iast (r := 8) (i := τ 20 i) (x := (τ 4 ((τ 20 i).toNatClampNeg)) + 50) hx hb hK hP hD hS (RC_f (by decide)) 0 gC_8 rfl hv20 d_C_sample_127 (fun H locs hP hD hS => ?_)
              rw [wC_arr (k := 4) (hn_ hI) (hm_ hI) (by decide)] at hP hD
              refine lv_aload_n hx hb d_C_sample_128 rfl (lv_at hl 1 rfl) ?_
              refine rl_get (r := 0) (ci := 1) (v := .ref (ad9 2)) (C := R_C) (T := F_C) (N := 10) hx hb hG in_C hown hK hP (RC_f (by decide)) gC_0 rfl 1 (by decide) kw_60 (fun _ h9 => h9) rfl d_C_sample_129 ?_
              refine vp_callSi (W.runV (As := []) (rest := []) ⟨hx, hb, hml, hown, hts⟩ (c_Al_size l D (tys_ cs) (ad9 2) (.ref (if nm + 1 = 0 then E else ad9 4)) (nI (nm + 1)) ((su (su τ 29 i ((τ 29 i) + 1)) 4 ((τ 20 i).toNatClampNeg) ((τ 4 ((τ 20 i).toNatClampNeg)) + 50)) 7 1)) (cwV 0 hts (gw_V kw_116 kw_117 kw_118 kw_4 kw_119) rfl rfl rfl (by decide +kernel) ⟨Nat.le_of_ble_eq_true rfl, Nat.le_of_ble_eq_true rfl⟩) (rd_V (rl_one hP (RC_f (by decide)) gC_2') hK (rl_recv hK hP (RC_f (by decide)) gC_2' rfl)) rfl rfl hl.1 rfl (lv_room (Nat.le_of_ble_eq_true rfl)) d_C_sample_132 ⟨Nat.le_of_ble_eq_true rfl, Nat.le_of_ble_eq_true rfl⟩) (fun r_19 h_20 => ?_)
              subst h_20
              refine lv_iconst (v := 1) hx hb d_C_sample_135 (by decide) ?_
              refine lv_isub hx hb d_C_sample_136 ?_
              rw [nI_pred]
              refine W.widen (k := 4) (n := 120) (Nat.le_of_ble_eq_true rfl) (Nat.le_of_ble_eq_true rfl) (vx_ret ?_)
              exact W.iret (v := nI nm) hx hb hr (fun t ht hW => ⟨⟨nI nm, (ad9, nm + 1, cap1, saT τ i), rfl, ⟨i, hi, rfl, Classical.not_not.mp (fun h => c_6 (b2i_eq0.mpr h)), hm40, e90, Or.inl ⟨⟨by ((try simp only [b2i_eq0, Classical.not_not] at c_14); grind), by ((try simp only [b2i_eq0, Classical.not_not] at c_15); grind), by ((try simp only [b2i_eq0, Classical.not_not] at c_18); grind)⟩, rfl, rfl, hu1, hu2, by rw [eτ]⟩⟩, by rw [ht]; exact hP, va_K.moved hW.alike hK, hD⟩, hS.F ht⟩) hS.2.2 d_C_sample_137
            · refine lv_iconst (v := (-1)) hx hb d_C_sample_82 (by decide) ?_
              refine W.widen (k := 4) (n := 120) (Nat.le_of_ble_eq_true rfl) (Nat.le_of_ble_eq_true rfl) (vx_ret ?_)
              exact W.iret (v := (-1)) hx hb hr (fun t ht hW => ⟨⟨-1, (ad, nm, cj, σ), rfl, ⟨i, hi, rfl, Classical.not_not.mp (fun h => c_6 (b2i_eq0.mpr h)), hm40, rfl, Or.inr ⟨fun h9 => h9.2.2 (Classical.not_not.mp (fun h => c_18 (b2i_eq0.mpr h))), rfl, rfl⟩⟩, by rw [ht]; exact hP, va_K.moved hW.alike hK, hD⟩, hS.F ht⟩) hS.2.2 d_C_sample_83
      · exact vx_throwS (own := "InspectSteps") (cls := xe_S) (text := "no more samples") (names := xe_up) (ik := 84) (is := 154) (ic := 88) (A := A) hx hb hst hown (by decide) (by decide) (hG _ kw_266) (hG _ kw_11) (hX.2 (154, "no more samples") (by decide)).choose_spec (xa_S hG hX) xa_S3 hZ.1 hZ.2 hS (hl.1.trans hml.symm) d_C_sample_37 d_C_sample_40 d_C_sample_41 d_C_sample_43 d_C_sample_46 (fun x h => (hnt x h).elim) (Nat.le_of_ble_eq_true rfl) (Nat.le_of_ble_eq_true rfl) (Nat.le_of_ble_eq_true rfl) (Nat.le_of_ble_eq_true rfl) hlocks (fun t ha hz hk => ⟨2, Or.inr ⟨rfl, ⟨⟨i, hi, rfl⟩, Classical.not_not.mp (fun h => c_6 (b2i_eq0.mpr h))⟩, (Nat.le_antisymm (hm_ hI) (Nat.not_lt.mp (fun h9 => c_9 ((nI_ltI (a := nm) (b := 40) (by have := hI; unfold Iv at this; omega) (by decide)).mpr h9))))⟩, ⟨rfl, (thr_T hS hP hK hD ha hz hk).1⟩, (thr_T hS hP hK hD ha hz hk).2⟩) hS.2.2 (Nat.le_of_ble_eq_true rfl) (Nat.le_of_ble_eq_true rfl)
    · exact vx_throwS (own := "InspectSteps") (cls := xe_A) (text := "no such inspection or seal") (names := xe_up) (ik := 68) (is := 152) (ic := 72) (A := A) hx hb hst hown (by decide) (by decide) (hG _ kw_192) (hG _ kw_10) (hX.2 (152, "no such inspection or seal") (by decide)).choose_spec (xa_A hG hX) xa_A3 hZ.1 hZ.2 hS (hl.1.trans hml.symm) d_C_sample_15 d_C_sample_18 d_C_sample_19 d_C_sample_21 d_C_sample_24 (fun x h => (hnt x h).elim) (Nat.le_of_ble_eq_true rfl) (Nat.le_of_ble_eq_true rfl) (Nat.le_of_ble_eq_true rfl) (Nat.le_of_ble_eq_true rfl) hlocks (fun t ha hz hk => ⟨1, Or.inl ⟨rfl, fun h9 => (b2i_eq0.mp c_6) h9.2⟩, ⟨rfl, (thr_T hS hP hK hD ha hz hk).1⟩, (thr_T hS hP hK hD ha hz hk).2⟩) hS.2.2 (Nat.le_of_ble_eq_true rfl) (Nat.le_of_ble_eq_true rfl)
