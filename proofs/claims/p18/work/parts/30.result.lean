section GS
variable {cs : Nat → ClassId} {ad : Nat → Nat} {σ : Nat → Nat → Int32} {n nm ci cj E : Nat}
theorem wC_set {i j : Nat} {x : Int32} (hn : n ≤ 30) (hm : nm ≤ 40) (hi : i < 100) : rl_w (RC n nm) ad (va_up (gC cs ad σ n nm ci cj E) (400 + i) (arI (cs 1) 4 (upd (σ (2000 + i)) j x))) = wC cs ad (su σ (2000 + i) j x) n nm ci cj E := by
  apply rl_congr
  intro q hq
  by_cases e : q = 400 + i
  · subst e
    rw [va_up_self, gC_set hi, su_same]
  · rw [va_up_ne _ _ e]
    refine (gC_away hq hn hm (by omega) (by omega) (fun r' c h hqr => ?_) (fun d hqd => by rcases RC_cases hq hn hm with h | ⟨d', hd', h⟩ | h | h | ⟨d', hd', h⟩ | ⟨d', hd', h⟩ | ⟨d', hd', h⟩ | ⟨d', hd', h⟩ <;> first | omega | (simp only [List.mem_cons, List.not_mem_nil, or_false] at h; omega)) (fun i hi hqi => Or.inr (by omega)) (fun i hi hqi => Or.inr (by omega)) (fun i' hqi => by rcases RC_cases hq hn hm with h | ⟨d', hd', h⟩ | h | h | ⟨d', hd', h⟩ | ⟨d', hd', h⟩ | ⟨d', hd', h⟩ | ⟨d', hd', h⟩ <;> first | omega | (simp only [List.mem_cons, List.not_mem_nil, or_false] at h; omega)) (by omega)).symm
    simp only [List.mem_cons, Prod.mk.injEq, List.not_mem_nil, or_false] at h
    omega
end GS
theorem at4 {p : Int32} (h : 0 ≤ p ∧ p ≤ 3) : ∃ q : Nat, q < 4 ∧ p = nI q := by
  obtain ⟨q, hq, e⟩ := nI_of2 (x := p) (M := 3) (n := 3) (by decide) (fun h9 => by rw [i32_lt, i32_n0] at h9; have := h.1; rw [i32_le, i32_n0] at this; omega) h.2
  exact ⟨q, by omega, e⟩
set_option maxHeartbeats 4000000 in
set_option maxRecDepth 100000 in
theorem c_C_result (l : Launch) (D : va_G) (cs : Nat → ClassId) (ad : Nat → Nat) (σ : Nat → Nat → Int32) (n nm ci cj E : Nat) (hI : Iv n nm ci cj) (hJ : Jv σ n nm) (hst : l.stackTraces = false) (sz : Nat) (p0 p1 p2 p3 : Int32) : vx_Met l y_C_result (Cond.code y_C_result b_C_result 6 (some .int) :: GW) ({ frames := 8, cells := 1, slots := 6, locals := 256 }) (va_Pc [.ref (ad 0), .int p0, .int p1, .int p2, .int p3] (xr_B D cs (wC cs ad σ n nm ci cj E) sz)) (va_Qi (fun r (u : Nat → Nat → Int32) => ∃ i q, i < nm ∧ q < 4 ∧ p0 = nI i ∧ p2 = nI q ∧ (1 ≤ p1 ∧ p1 ≤ 1000000) ∧ (0 ≤ p3 ∧ p3 ≤ 1000000) ∧ ((¬ σ (1000 + i) q = -1 ∧ r = -1 ∧ u = σ) ∨ (σ (1000 + i) q = -1 ∧ ¬ σ 31 i = p1 ∧ r = ifP (∃ j, j < nm ∧ σ 31 j = p1) (-2) (-3) ∧ u = σ) ∨ (σ (1000 + i) q = -1 ∧ σ 31 i = p1 ∧ r = dfS (su σ (1000 + i) q p3) i q ∧ u = su σ (1000 + i) q p3))) (fun u => wr_T D cs (wC cs ad u n nm ci cj E) (va_A (wC cs ad σ n nm ci cj E) sz)) (va_A (wC cs ad σ n nm ci cj E) sz)) (vx_X (fun _ : Unit => ¬ ((∃ i, i < nm ∧ p0 = nI i) ∧ (0 ≤ p2 ∧ p2 ≤ 3) ∧ (1 ≤ p1 ∧ p1 ≤ 1000000) ∧ (0 ≤ p3 ∧ p3 ≤ 1000000))) (fun E9 _ t => E9 = xe_A ∧ wr_T D cs (wC cs ad σ n nm ci cj E) (va_A (wC cs ad σ n nm ci cj E) sz) t) (va_A (wC cs ad σ n nm ci cj E) sz)) 1 6 (va_A (wC cs ad σ n nm ci cj E) sz) := by
  refine vx_ofW (cc := b_C_result) (maxL := 6) (ret := (some .int)) (by decide) rfl ?_
  intro p e s m args below meth c s₁ B hml hnt hv
  obtain ⟨rfl, ⟨hsz, hP, hK, hD0⟩, hX, hZ⟩ := hv
  have hx := B.exec
  have hb := B.bytes
  have hr := B.returns
  have hts := atoms_spec (ws := Cond.code y_C_result b_C_result 6 (some .int) :: GW) B.pre
  have hG : ∀ w ∈ GW, w.before _ s = true := fun w h => hts w (List.mem_cons_of_mem _ h)
  have hown : s.vm.findClass R_C = some m.cls := findClass_of_methodNamed B.named
  have hlocks := B.notSynchronized
  subst hsz
  have hD := hD0.self (sz := s.heap.size)
  generalize hAe : va_A (wC cs ad σ n nm ci cj E) s.heap.size = A at hD hZ ⊢
  have hA : ∀ q : Nat, s.heap.size ≤ q → A q := fun q h => by rw [← hAe]; exact Or.inr h
  have hS : va_S A s.heap s.heap [] := va_S.rf
  have hl := lv_entry ([.ref (ad 0), .int p0, .int p1, .int p2, .int p3]) (n := 6) (Nat.le_of_ble_eq_true rfl)
  rw [lg_entry_eq]
  generalize (lg_sl ([.ref (ad 0), .int p0, .int p1, .int p2, .int p3]) ++ List.replicate (6 - (lg_sl ([.ref (ad 0), .int p0, .int p1, .int p2, .int p3])).length) Slot.unset).toArray = ls at hl ⊢
  have hl : lv_has ls 6 [(0, .ref (ad 0)), (1, .int p0), (2, .int p1), (3, .int p2), (4, .int p3)] := hl
  refine lv_iload_n hx hb d_C_result_0 rfl (lv_at hl 1 rfl) ?_
  refine lv_iconst (v := 0) hx hb d_C_result_1 (by decide) ?_
  refine lv_aload_n hx hb d_C_result_2 rfl (lv_at hl 0 rfl) ?_
  refine rl_get (r := 0) (ci := 1) (v := .ref (ad 2)) (C := R_C) (T := F_C) (N := 10) hx hb hG in_C hown hK hP (RC_f (by decide)) gC_0 rfl 1 (by decide) kw_60 (fun _ h9 => h9) rfl d_C_result_3 ?_
  refine vp_callSi (W.runV (As := []) (rest := [.int 0, .int p0]) ⟨hx, hb, hml, hown, hts⟩ (c_Al_size l D (tys_ cs) (ad 2) (.ref (if nm = 0 then E else ad 4)) (nI nm) (σ 7 1)) (cwV 0 hts (gw_V kw_116 kw_117 kw_118 kw_4 kw_119) rfl rfl rfl (by decide +kernel) ⟨Nat.le_of_ble_eq_true rfl, Nat.le_of_ble_eq_true rfl⟩) (rd_V (rl_one hP (RC_f (by decide)) gC_2') hK (rl_recv hK hP (RC_f (by decide)) gC_2' rfl)) rfl rfl hl.1 rfl (lv_room (Nat.le_of_ble_eq_true rfl)) d_C_result_6 ⟨Nat.zero_le _, Nat.zero_le _⟩) (fun r_1 h_2 => ?_)
  subst h_2
  refine lv_iconst (v := 1) hx hb d_C_result_9 (by decide) ?_
  refine lv_isub hx hb d_C_result_10 ?_
  refine vp_callSi (W.runS (As := [.int p0, .int 0, .int ((nI nm) - 1)]) (rest := []) ⟨hx, hb, hml, hown, hts⟩ (c_C_isWithin l p0 0 ((nI nm) - 1)) (va_cwS 3 hts (gw_S kw_98 kw_99 kw_1 kw_100) rfl rfl rfl (by decide +kernel) ⟨Nat.le_of_ble_eq_true rfl, Nat.le_of_ble_eq_true rfl⟩) ⟨fun _ _ _ _ q => q, fun U _ _ => ⟨rfl, trivial⟩⟩ rfl rfl hl.1 rfl (lv_room (Nat.le_of_ble_eq_true rfl)) d_C_result_11 ⟨Nat.zero_le _, Nat.zero_le _⟩) (fun r_3 h_4 => ?_)
  subst h_4
  refine lv_if_eq (tgt := 24) hx hb d_C_result_14 (by decide) (fun c_5 => ?_) (fun c_5 => ?_)
  · exact vx_throwS (own := "InspectSteps") (cls := xe_A) (text := "no such sample or measure") (names := xe_up) (ik := 68) (is := 170) (ic := 72) (A := A) hx hb hst hown (by decide) (by decide) (hG _ kw_192) (hG _ kw_10) (hX.2 (170, "no such sample or measure") (by decide)).choose_spec (xa_A hG hX) xa_A3 hZ.1 hZ.2 hS (hl.1.trans hml.symm) d_C_result_24 d_C_result_27 d_C_result_28 d_C_result_30 d_C_result_33 (fun x h => (hnt x h).elim) (Nat.le_of_ble_eq_true rfl) (Nat.le_of_ble_eq_true rfl) (Nat.le_of_ble_eq_true rfl) (Nat.le_of_ble_eq_true rfl) hlocks (fun t ha hz hk => ⟨(), fun ⟨⟨j, hj, e9⟩, _⟩ => (b2i_eq0.mp c_5) (e9 ▸ at_not (by have := hI; unfold Iv at this; omega) hj), ⟨rfl, (thr_T hS hP hK hD ha hz hk).1⟩, (thr_T hS hP hK hD ha hz hk).2⟩) hS.2.2 (Nat.le_of_ble_eq_true rfl) (Nat.le_of_ble_eq_true rfl)
  · obtain ⟨i, hi, rfl⟩ := at_ (by have := hI; unfold Iv at this; omega) (Classical.not_not.mp (fun h => c_5 (b2i_eq0.mpr h)))
    refine lv_iload_n hx hb d_C_result_17 rfl (lv_at hl 3 rfl) ?_
    refine vp_callSi (W.runS (As := [.int p2]) (rest := []) ⟨hx, hb, hml, hown, hts⟩ (c_C_isMeasure l p2) (va_cwS 1 hts (gw_S kw_146 kw_147 kw_1 kw_148) rfl rfl rfl (by decide +kernel) ⟨Nat.le_of_ble_eq_true rfl, Nat.le_of_ble_eq_true rfl⟩) ⟨fun _ _ _ _ q => q, fun U _ _ => ⟨rfl, trivial⟩⟩ rfl rfl hl.1 rfl (lv_room (Nat.le_of_ble_eq_true rfl)) d_C_result_18 ⟨Nat.zero_le _, Nat.zero_le _⟩) (fun r_6 h_7 => ?_)
    subst h_7
    refine lv_if_ne (tgt := 34) hx hb d_C_result_21 (by decide) (fun c_8 => ?_) (fun c_8 => ?_)
    · obtain ⟨q, hq, rfl⟩ := at4 (Classical.not_not.mp (fun h => c_8 (b2i_eq0.mpr h)))
      refine lv_iload_n hx hb d_C_result_34 rfl (lv_at hl 2 rfl) ?_
      refine vp_callSi (W.runS (As := [.int p1]) (rest := []) ⟨hx, hb, hml, hown, hts⟩ (c_C_isSeal l p1) (va_cwS 1 hts (gw_S kw_442 kw_443 kw_1 kw_444) rfl rfl rfl (by decide +kernel) ⟨Nat.le_of_ble_eq_true rfl, Nat.le_of_ble_eq_true rfl⟩) ⟨fun _ _ _ _ q => q, fun U _ _ => ⟨rfl, trivial⟩⟩ rfl rfl hl.1 rfl (lv_room (Nat.le_of_ble_eq_true rfl)) d_C_result_35 ⟨Nat.zero_le _, Nat.zero_le _⟩) (fun r_9 h_10 => ?_)
      subst h_10
      refine lv_if_eq (tgt := 49) hx hb d_C_result_38 (by decide) (fun c_11 => ?_) (fun c_11 => ?_)
      · exact vx_throwS (own := "InspectSteps") (cls := xe_A) (text := "no such seal or value") (names := xe_up) (ik := 68) (is := 175) (ic := 72) (A := A) hx hb hst hown (by decide) (by decide) (hG _ kw_192) (hG _ kw_10) (hX.2 (175, "no such seal or value") (by decide)).choose_spec (xa_A hG hX) xa_A3 hZ.1 hZ.2 hS (hl.1.trans hml.symm) d_C_result_49 d_C_result_52 d_C_result_53 d_C_result_55 d_C_result_58 (fun x h => (hnt x h).elim) (Nat.le_of_ble_eq_true rfl) (Nat.le_of_ble_eq_true rfl) (Nat.le_of_ble_eq_true rfl) (Nat.le_of_ble_eq_true rfl) hlocks (fun t ha hz hk => ⟨(), fun h9 => (b2i_eq0.mp c_11) h9.2.2.1, ⟨rfl, (thr_T hS hP hK hD ha hz hk).1⟩, (thr_T hS hP hK hD ha hz hk).2⟩) hS.2.2 (Nat.le_of_ble_eq_true rfl) (Nat.le_of_ble_eq_true rfl)
      · refine lv_iload hx hb d_C_result_41 (lv_at hl 4 rfl) ?_
        refine vp_callSi (W.runS (As := [.int p3]) (rest := []) ⟨hx, hb, hml, hown, hts⟩ (c_C_isValue l p3) (va_cwS 1 hts (gw_S kw_149 kw_150 kw_1 kw_151) rfl rfl rfl (by decide +kernel) ⟨Nat.le_of_ble_eq_true rfl, Nat.le_of_ble_eq_true rfl⟩) ⟨fun _ _ _ _ q => q, fun U _ _ => ⟨rfl, trivial⟩⟩ rfl rfl hl.1 rfl (lv_room (Nat.le_of_ble_eq_true rfl)) d_C_result_43 ⟨Nat.zero_le _, Nat.zero_le _⟩) (fun r_12 h_13 => ?_)
        subst h_13
        refine lv_if_ne (tgt := 59) hx hb d_C_result_46 (by decide) (fun c_14 => ?_) (fun c_14 => ?_)
        · refine lv_aload_n hx hb d_C_result_59 rfl (lv_at hl 0 rfl) ?_
          refine rl_get (r := 0) (ci := 1) (v := .ref (ad 2)) (C := R_C) (T := F_C) (N := 10) hx hb hG in_C hown hK hP (RC_f (by decide)) gC_0 rfl 1 (by decide) kw_60 (fun _ h9 => h9) rfl d_C_result_60 ?_
          refine lv_iload_n hx hb d_C_result_63 rfl (lv_at hl 1 rfl) ?_
          refine va_csr (W.runV (As := [.int (nI i)]) (rest := []) ⟨hx, hb, hml, hown, hts⟩ (c_Al_get l D (tys_ cs) (ad 2) (ad 4) nm cj i (ad (200 + i)) (σ 7 1) (cs 2) (rowsF 200 nm ad) hi hI.2.2.2.1 (by have := hI; unfold Iv at this; omega) 2 rfl (if_pos hi)) (cwV 1 hts (gw_V kw_120 kw_121 kw_122 kw_4 kw_123) rfl rfl rfl (by decide +kernel) ⟨Nat.le_of_ble_eq_true rfl, Nat.le_of_ble_eq_true rfl⟩) (rd_V (rl_two hP (RC_f (by decide)) (gC_2 (Nat.lt_of_le_of_lt (Nat.zero_le _) hi)) (RC_4 (Nat.lt_of_le_of_lt (Nat.zero_le _) hi)) gC_4) hK (rl_recv hK hP (RC_f (by decide)) (gC_2 (Nat.lt_of_le_of_lt (Nat.zero_le _) hi)) rfl)) rfl rfl hl.1 rfl (lv_room (Nat.le_of_ble_eq_true rfl)) d_C_result_64 ⟨Nat.zero_le _, Nat.zero_le _⟩) (fun r_15 h_16 => ?_)
          subst h_16
          refine va_castS hx hb hown (hG _ kw_173) ((hK.1 3 _ rfl).2) (rl_recv hK hP (RC_sam hi) (gC_sam (by have := hI; unfold Iv at this; omega)) rfl) d_C_result_67 ?_
          refine lv_astore (lv' := [(5, .ref (ad (200 + i))), (0, .ref (ad 0)), (1, .int (nI i)), (2, .int p1), (3, .int (nI q)), (4, .int p3)]) hx hb d_C_result_70 hl (by decide) rfl (fun ls hl => ?_)
          refine lv_aload hx hb d_C_result_72 (lv_at hl 0 rfl) ?_
          refine rl_get (r := 200 + i) (ci := 3) (v := .ref (ad (300 + i))) (C := R_S) (T := F_S) (N := 4) hx hb hG in_S hown hK hP (RC_sam hi) (gC_sam (by have := hI; unfold Iv at this; omega)) rfl 2 (by decide) kw_474 (fun _ h9 => h9) rfl d_C_result_74 ?_
          refine lv_iload_n hx hb d_C_result_77 rfl (lv_at hl 4 rfl) ?_
          refine rl_iald (r := 300 + i) (i := nI q) hx hb hK hP (RC_fou hi) 0 (gC_fou (by have := hI; unfold Iv at this; omega)) rfl (vp_in_nI (Nat.lt_of_lt_of_le hq (by decide)) (by decide)) d_C_result_78 ?_
          rw [nI_clamp (Nat.lt_of_lt_of_le hq (by decide))]
          refine lv_iconst (v := (-1)) hx hb d_C_result_79 (by decide) ?_
          refine lv_icmp_eq (tgt := 85) hx hb d_C_result_80 (by decide) (fun c_17 => ?_) (fun c_17 => ?_)
          · refine lv_aload hx hb d_C_result_85 (lv_at hl 0 rfl) ?_
            refine rl_get (r := 200 + i) (ci := 3) (v := .int (σ 31 i)) (C := R_S) (T := F_S) (N := 4) hx hb hG in_S hown hK hP (RC_sam hi) (gC_sam (by have := hI; unfold Iv at this; omega)) rfl 1 (by decide) kw_472 (fun _ h9 => h9) rfl d_C_result_87 ?_
            refine lv_iload_n hx hb d_C_result_90 rfl (lv_at hl 3 rfl) ?_
            refine lv_icmp_eq (tgt := 110) hx hb d_C_result_91 (by decide) (fun c_18 => ?_) (fun c_18 => ?_)
            · refine lv_aload hx hb d_C_result_110 (lv_at hl 0 rfl) ?_
              refine rl_get (r := 200 + i) (ci := 3) (v := .ref (ad (300 + i))) (C := R_S) (T := F_S) (N := 4) hx hb hG in_S hown hK hP (RC_sam hi) (gC_sam (by have := hI; unfold Iv at this; omega)) rfl 2 (by decide) kw_474 (fun _ h9 => h9) rfl d_C_result_112 ?_
              refine lv_iload_n hx hb d_C_result_115 rfl (lv_at hl 4 rfl) ?_
              refine lv_iload hx hb d_C_result_116 (lv_at hl 5 rfl) ?_
              refine rl_iast (r := 300 + i) (i := nI q) (x := p3) hx hb hK hP hD hS (RC_fou hi) 0 (gC_fou (by have := hI; unfold Iv at this; omega)) rfl (vp_in_nI (Nat.lt_of_lt_of_le hq (by decide)) (by decide)) d_C_result_118 (fun H locs hP hD hS => ?_)
              rw [nI_clamp (Nat.lt_of_lt_of_le hq (by decide))] at hP hD
              rw [wC_fou (hn_ hI) (hm_ hI) (by have := hI; unfold Iv at this; omega)] at hP hD
              refine lv_aload_n hx hb d_C_result_119 rfl (lv_at hl 1 rfl) ?_
              refine lv_aload hx hb d_C_result_120 (lv_at hl 0 rfl) ?_
              refine lv_iload_n hx hb d_C_result_122 rfl (lv_at hl 4 rfl) ?_
              refine vp_callSi (W.runV (As := [.ref (ad (200 + i)), .int (nI q)]) (rest := []) ⟨hx, hb, hml, hown, hts⟩ (c_C_difference l D cs ad (su σ (1000 + i) q p3) n nm ci cj E hI i q hi hq (by rw [su_ne (by omega)]; exact hJ.2 i hi)) (cwV 2 hts (gw_V kw_174 kw_176 ks_0_4 kw_1 kw_177) rfl rfl rfl (by decide +kernel) ⟨Nat.le_of_ble_eq_true rfl, Nat.le_of_ble_eq_true rfl⟩) (rd_V hP hK (rl_recv hK hP (RC_f (by decide)) gC_0 rfl)) rfl rfl hl.1 rfl (lv_room (Nat.le_of_ble_eq_true rfl)) d_C_result_123 ⟨Nat.zero_le _, Nat.zero_le _⟩) (fun r_19 h_20 => ?_)
              subst h_20
              refine W.widen (k := 1) (n := 6) (Nat.zero_le _) (Nat.zero_le _) (vx_ret ?_)
              exact W.iret (v := dfS (su σ (1000 + i) q p3) i q) hx hb hr (fun t ht hW => ⟨⟨dfS (su σ (1000 + i) q p3) i q, su σ (1000 + i) q p3, rfl, ⟨i, q, hi, hq, rfl, rfl, Classical.not_not.mp (fun h => c_11 (b2i_eq0.mpr h)), Classical.not_not.mp (fun h => c_14 (b2i_eq0.mpr h)), Or.inr (Or.inr ⟨by ((try simp only [b2i_eq0, Classical.not_not] at c_17); grind), by ((try simp only [b2i_eq0, Classical.not_not] at c_18); grind), rfl, rfl⟩)⟩, by rw [ht]; exact hP, va_K.moved hW.alike hK, hD⟩, hS.F ht⟩) hS.2.2 d_C_result_126
            · refine lv_aload_n hx hb d_C_result_94 rfl (lv_at hl 1 rfl) ?_
              refine lv_iload_n hx hb d_C_result_95 rfl (lv_at hl 3 rfl) ?_
              refine vp_callSi (W.runV (As := [.int p1]) (rest := []) ⟨hx, hb, hml, hown, hts⟩ (c_C_isSealOfSample l D cs ad σ n nm ci cj E hI p1) (cwV 1 hts (gw_V kw_459 kw_461 ks_0_12 kw_1 kw_462) rfl rfl rfl (by decide +kernel) ⟨Nat.le_of_ble_eq_true rfl, Nat.le_of_ble_eq_true rfl⟩) (rd_V hP hK (rl_recv hK hP (RC_f (by decide)) gC_0 rfl)) rfl rfl hl.1 rfl (lv_room (Nat.le_of_ble_eq_true rfl)) d_C_result_96 ⟨Nat.zero_le _, Nat.zero_le _⟩) (fun r_21 h_22 => ?_)
              subst h_22
              refine lv_if_eq (tgt := 107) hx hb d_C_result_99 (by decide) (fun c_23 => ?_) (fun c_23 => ?_)
              · refine lv_bipush (v := (-3)) hx hb d_C_result_107 (by decide) ?_
                refine W.widen (k := 1) (n := 6) (Nat.zero_le _) (Nat.zero_le _) (vx_ret ?_)
                exact W.iret (v := (-3)) hx hb hr (fun t ht hW => ⟨⟨(-3), σ, rfl, ⟨i, q, hi, hq, rfl, rfl, Classical.not_not.mp (fun h => c_11 (b2i_eq0.mpr h)), Classical.not_not.mp (fun h => c_14 (b2i_eq0.mpr h)), Or.inr (Or.inl ⟨by ((try simp only [b2i_eq0, Classical.not_not] at c_17); grind), by ((try simp only [b2i_eq0, Classical.not_not] at c_18); grind), (ifP_f (b2i_eq0.mp c_23)).symm, rfl⟩)⟩, by rw [ht]; exact hP, va_K.moved hW.alike hK, hD⟩, hS.F ht⟩) hS.2.2 d_C_result_109
              · refine lv_bipush (v := (-2)) hx hb d_C_result_102 (by decide) ?_
                refine lv_goto (tgt := 109) hx hb d_C_result_104 (by decide) ?_
                refine W.widen (k := 1) (n := 6) (Nat.zero_le _) (Nat.zero_le _) (vx_ret ?_)
                exact W.iret (v := (-2)) hx hb hr (fun t ht hW => ⟨⟨(-2), σ, rfl, ⟨i, q, hi, hq, rfl, rfl, Classical.not_not.mp (fun h => c_11 (b2i_eq0.mpr h)), Classical.not_not.mp (fun h => c_14 (b2i_eq0.mpr h)), Or.inr (Or.inl ⟨by ((try simp only [b2i_eq0, Classical.not_not] at c_17); grind), by ((try simp only [b2i_eq0, Classical.not_not] at c_18); grind), (ifP_t (Classical.not_not.mp (fun h => c_23 (b2i_eq0.mpr h)))).symm, rfl⟩)⟩, by rw [ht]; exact hP, va_K.moved hW.alike hK, hD⟩, hS.F ht⟩) hS.2.2 d_C_result_109
          · refine lv_iconst (v := (-1)) hx hb d_C_result_83 (by decide) ?_
            refine W.widen (k := 1) (n := 6) (Nat.zero_le _) (Nat.zero_le _) (vx_ret ?_)
            exact W.iret (v := (-1)) hx hb hr (fun t ht hW => ⟨⟨(-1), σ, rfl, ⟨i, q, hi, hq, rfl, rfl, Classical.not_not.mp (fun h => c_11 (b2i_eq0.mpr h)), Classical.not_not.mp (fun h => c_14 (b2i_eq0.mpr h)), Or.inl ⟨c_17, rfl, rfl⟩⟩, by rw [ht]; exact hP, va_K.moved hW.alike hK, hD⟩, hS.F ht⟩) hS.2.2 d_C_result_84
        · exact vx_throwS (own := "InspectSteps") (cls := xe_A) (text := "no such seal or value") (names := xe_up) (ik := 68) (is := 175) (ic := 72) (A := A) hx hb hst hown (by decide) (by decide) (hG _ kw_192) (hG _ kw_10) (hX.2 (175, "no such seal or value") (by decide)).choose_spec (xa_A hG hX) xa_A3 hZ.1 hZ.2 hS (hl.1.trans hml.symm) d_C_result_49 d_C_result_52 d_C_result_53 d_C_result_55 d_C_result_58 (fun x h => (hnt x h).elim) (Nat.le_of_ble_eq_true rfl) (Nat.le_of_ble_eq_true rfl) (Nat.le_of_ble_eq_true rfl) (Nat.le_of_ble_eq_true rfl) hlocks (fun t ha hz hk => ⟨(), fun h9 => (b2i_eq0.mp c_14) h9.2.2.2, ⟨rfl, (thr_T hS hP hK hD ha hz hk).1⟩, (thr_T hS hP hK hD ha hz hk).2⟩) hS.2.2 (Nat.le_of_ble_eq_true rfl) (Nat.le_of_ble_eq_true rfl)
    · exact vx_throwS (own := "InspectSteps") (cls := xe_A) (text := "no such sample or measure") (names := xe_up) (ik := 68) (is := 170) (ic := 72) (A := A) hx hb hst hown (by decide) (by decide) (hG _ kw_192) (hG _ kw_10) (hX.2 (170, "no such sample or measure") (by decide)).choose_spec (xa_A hG hX) xa_A3 hZ.1 hZ.2 hS (hl.1.trans hml.symm) d_C_result_24 d_C_result_27 d_C_result_28 d_C_result_30 d_C_result_33 (fun x h => (hnt x h).elim) (Nat.le_of_ble_eq_true rfl) (Nat.le_of_ble_eq_true rfl) (Nat.le_of_ble_eq_true rfl) (Nat.le_of_ble_eq_true rfl) hlocks (fun t ha hz hk => ⟨(), fun h9 => (b2i_eq0.mp c_8) h9.2.1, ⟨rfl, (thr_T hS hP hK hD ha hz hk).1⟩, (thr_T hS hP hK hD ha hz hk).2⟩) hS.2.2 (Nat.le_of_ble_eq_true rfl) (Nat.le_of_ble_eq_true rfl)
