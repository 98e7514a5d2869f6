noncomputable def tkS (σ : Nat → Nat → Int32) (t : Int32) (z : Nat) : Nat → Nat → Int32 := fun k b => if k = 24 ∧ b < z then puL (σ 22 b) (σ 23 b) (σ 24 b) (σ 0 0) t else σ k b
noncomputable def tkN (σ : Nat → Nat → Int32) (t : Int32) : Nat → Int32
  | 0 => 0
  | z + 1 => tkN σ t z + puF (σ 22 z) (σ 23 z) (σ 24 z) (σ 0 0) t
theorem tkS_0 {σ : Nat → Nat → Int32} {t : Int32} : tkS σ t 0 = σ := funext fun k => funext fun b => if_neg (fun h => absurd h.2 (Nat.not_lt_zero _))
theorem tkS_z {σ : Nat → Nat → Int32} {t : Int32} {z : Nat} : tkS σ t z 24 z = σ 24 z := if_neg (fun h => absurd h.2 (Nat.lt_irrefl _))
theorem tkS_n {σ : Nat → Nat → Int32} {t : Int32} {z : Nat} : tkS σ t (z + 1) 24 z = puL (σ 22 z) (σ 23 z) (σ 24 z) (σ 0 0) t := if_pos ⟨rfl, Nat.lt_succ_self _⟩
theorem tkS_o {σ : Nat → Nat → Int32} {t : Int32} {z k b : Nat} (h : ¬ (20 ≤ k ∧ k ≤ 29 ∧ b = z)) : tkS σ t (z + 1) k b = tkS σ t z k b := by
  unfold tkS
  by_cases e : k = 24 ∧ b < z
  · rw [if_pos e, if_pos ⟨e.1, by omega⟩]
  · rw [if_neg e, if_neg (fun h9 => e ⟨h9.1, by omega⟩)]
set_option maxHeartbeats 4000000 in
set_option maxRecDepth 100000 in
theorem c_C_tick (l : Launch) (D : va_G) (cs : Nat → ClassId) (ad : Nat → Nat) (σ : Nat → Nat → Int32) (n nm ci cj E : Nat) (hI : Iv n nm ci cj) (hst : l.stackTraces = false) (sz : Nat) (p0 : Int32) : vx_Met l y_C_tick (Cond.code y_C_tick b_C_tick 4 (some .int) :: GW) ({ frames := 8, cells := 1, slots := 6, locals := 256 }) (va_Pc [.ref (ad 0), .int p0] (xr_B D cs (wC cs ad σ n nm ci cj E) sz)) (va_Qi (fun r (u : Nat → Nat → Int32) => (σ 0 0 ≤ p0 ∧ p0 ≤ 100000) ∧ r = tkN σ p0 n ∧ u = su (tkS σ p0 n) 0 0 p0) (fun u => wr_T D cs (wC cs ad u n nm ci cj E) (va_A (wC cs ad σ n nm ci cj E) sz)) (va_A (wC cs ad σ n nm ci cj E) sz)) (vx_X (fun _ : Unit => ¬ (σ 0 0 ≤ p0 ∧ p0 ≤ 100000)) (fun E9 _ t => E9 = xe_A ∧ wr_T D cs (wC cs ad σ n nm ci cj E) (va_A (wC cs ad σ n nm ci cj E) sz) t) (va_A (wC cs ad σ n nm ci cj E) sz)) 1 6 (va_A (wC cs ad σ n nm ci cj E) sz) := by
  refine vx_ofW (cc := b_C_tick) (maxL := 4) (ret := (some .int)) (by decide) rfl ?_
  intro p e s m args below meth c s₁ B hml hnt hv
  obtain ⟨rfl, ⟨hsz, hP, hK, hD0⟩, hX, hZ⟩ := hv
  have hx := B.exec
  have hb := B.bytes
  have hr := B.returns
  have hts := atoms_spec (ws := Cond.code y_C_tick b_C_tick 4 (some .int) :: GW) B.pre
  have hG : ∀ w ∈ GW, w.before _ s = true := fun w h => hts w (List.mem_cons_of_mem _ h)
  have hown : s.vm.findClass R_C = some m.cls := findClass_of_methodNamed B.named
  have hlocks := B.notSynchronized
  subst hsz
  have hD := hD0.self (sz := s.heap.size)
  generalize hAe : va_A (wC cs ad σ n nm ci cj E) s.heap.size = A at hD hZ ⊢
  have hA : ∀ q : Nat, s.heap.size ≤ q → A q := fun q h => by rw [← hAe]; exact Or.inr h
  have hS : va_S A s.heap s.heap [] := va_S.rf
  have hl := lv_entry ([.ref (ad 0), .int p0]) (n := 4) (Nat.le_of_ble_eq_true rfl)
  rw [lg_entry_eq]
  generalize (lg_sl ([.ref (ad 0), .int p0]) ++ List.replicate (4 - (lg_sl ([.ref (ad 0), .int p0])).length) Slot.unset).toArray = ls at hl ⊢
  have hl : lv_has ls 4 [(0, .ref (ad 0)), (1, .int p0)] := hl
  refine lv_aload_n hx hb d_C_tick_0 rfl (lv_at hl 0 rfl) ?_
  refine lv_iload_n hx hb d_C_tick_1 rfl (lv_at hl 1 rfl) ?_
  refine vp_callSi (W.runV (As := [.int p0]) (rest := []) ⟨hx, hb, hml, hown, hts⟩ (c_C_isTimeToCome l D cs ad σ n nm ci cj E hI p0) (cwV 1 hts (gw_V kw_260 kw_262 ks_0_6 kw_1 kw_263) rfl rfl rfl (by decide +kernel) ⟨Nat.le_of_ble_eq_true rfl, Nat.le_of_ble_eq_true rfl⟩) (rd_V hP hK (rl_recv hK hP (RC_f (by decide)) gC_0 rfl)) rfl rfl hl.1 rfl (lv_room (Nat.le_of_ble_eq_true rfl)) d_C_tick_2 ⟨Nat.zero_le _, Nat.zero_le _⟩) (fun r_1 h_2 => ?_)
  subst h_2
  refine lv_if_ne (tgt := 18) hx hb d_C_tick_5 (by decide) (fun c_3 => ?_) (fun c_3 => ?_)
  · refine lv_iconst (v := 0) hx hb d_C_tick_18 (by decide) ?_
    refine lv_istore_n (lv' := [(2, .int 0), (0, .ref (ad 0)), (1, .int p0)]) hx hb d_C_tick_19 rfl hl (by decide) rfl (fun ls hl => ?_)
    refine lv_iconst (v := 0) hx hb d_C_tick_20 (by decide) ?_
    refine lv_istore_n (lv' := [(3, .int 0), (2, .int 0), (0, .ref (ad 0)), (1, .int p0)]) hx hb d_C_tick_21 rfl hl (by decide) rfl (fun ls hl => ?_)
    obtain ⟨H9, eH⟩ : ∃ H9 : Heap, H9 = s.heap := ⟨_, rfl⟩
    obtain ⟨L9, eL⟩ : ∃ L9 : List Loc, L9 = [] := ⟨_, rfl⟩
    have hS : va_S A s.heap H9 L9 := by rw [eH, eL]; exact hS
    have hP0 : va_P D cls_ (wC cs ad (tkS σ p0 0) n nm ci cj E) H9 := by rw [eH, tkS_0]; exact hP
    have hD0 : va_D A (wC cs ad (tkS σ p0 0) n nm ci cj E) := by rw [tkS_0]; exact hD
    rw [← eH, ← eL]
    clear eH eL
    replace hl : ∃ z : Nat, lv_has ls 4 [(3, .int (nI z)), (2, .int (tkN σ p0 z)), (0, .ref (ad 0)), (1, .int p0)] ∧ z ≤ n ∧ va_P D cls_ (wC cs ad (tkS σ p0 z) n nm ci cj E) H9 ∧ va_D A (wC cs ad (tkS σ p0 z) n nm ci cj E) := ⟨0, hl, Nat.zero_le _, hP0, hD0⟩
    clear hP0 hD0
    obtain ⟨z, hl, hle_z, hP, hD⟩ := hl
    obtain ⟨k_z, hk_z⟩ : ∃ k, n - z = k := ⟨_, rfl⟩
    induction k_z using Nat.strongRecOn generalizing z ls H9 L9 with
    | _ k_z ih_z =>
      refine lv_iload_n hx hb d_C_tick_22 rfl (lv_at hl 0 rfl) ?_
      refine lv_aload_n hx hb d_C_tick_23 rfl (lv_at hl 2 rfl) ?_
      refine rl_get (r := 0) (ci := 1) (v := .ref (ad 1)) (C := R_C) (T := F_C) (N := 10) hx hb hG in_C hown hK hP (RC_f (by decide)) gC_0 rfl 0 (by decide) kw_59 (fun _ h9 => h9) rfl d_C_tick_24 ?_
      refine vp_callSi (W.runV (As := []) (rest := [.int (nI z)]) ⟨hx, hb, hml, hown, hts⟩ (c_Al_size l D (tys_ cs) (ad 1) (.ref (if n = 0 then E else ad 3)) (nI n) ((tkS σ p0 z) 7 0)) (cwV 0 hts (gw_V kw_116 kw_117 kw_118 kw_4 kw_119) rfl rfl rfl (by decide +kernel) ⟨Nat.le_of_ble_eq_true rfl, Nat.le_of_ble_eq_true rfl⟩) (rd_V (rl_one hP (RC_f (by decide)) gC_1') hK (rl_recv hK hP (RC_f (by decide)) gC_1' rfl)) rfl rfl hl.1 rfl (lv_room (Nat.le_of_ble_eq_true rfl)) d_C_tick_27 ⟨Nat.zero_le _, Nat.zero_le _⟩) (fun r_4 h_5 => ?_)
      subst h_5
      refine lv_icmp_ge (tgt := 61) hx hb d_C_tick_30 (by decide) (fun c_6 => ?_) (fun c_6 => ?_)
      · have hz_z : z = n := nI_exit hle_z c_6 (by have := hI; unfold Iv at this; omega)
        subst hz_z
        refine lv_aload_n hx hb d_C_tick_61 rfl (lv_at hl 2 rfl) ?_
        refine lv_iload_n hx hb d_C_tick_62 rfl (lv_at hl 3 rfl) ?_
        refine rl_put (r := 0) (ci := 1) (v := .int p0) (ty := .int) (C := R_C) (T := F_C) (N := 10) hx hb hG in_C T_C T_C_ok n_C hown hK hP hD hS (RC_f (by decide)) gC_0 rfl 9 (by decide) kw_68 (fun _ h9 => h9) rfl (by decide +kernel) rfl rfl (Nat.le_of_ble_eq_true rfl) d_C_tick_63 (fun H locs hP hD hS => ?_)
        have hP := hP
        rw [show ([Value.ref (ad 1), .ref (ad 2), .ref (ad 5), .ref (ad 6), .ref (ad 7), .ref (ad 8), .ref (ad 9), .ref (ad 10), .ref (ad 11), .int (tkS σ p0 z 0 0)] : List Value).set 9 (.int p0) = [.ref (ad 1), .ref (ad 2), .ref (ad 5), .ref (ad 6), .ref (ad 7), .ref (ad 8), .ref (ad 9), .ref (ad 10), .ref (ad 11), .int p0] from rfl, wC_now (hn_ hI) (hm_ hI)] at hP hD
        refine lv_iload_n hx hb d_C_tick_66 rfl (lv_at hl 1 rfl) ?_
        refine W.widen (k := 1) (n := 6) (Nat.zero_le _) (Nat.zero_le _) (vx_ret ?_)
        exact W.iret (v := tkN σ p0 z) hx hb hr (fun t ht hW => ⟨⟨tkN σ p0 z, su (tkS σ p0 z) 0 0 p0, rfl, ⟨Classical.not_not.mp (fun h => c_3 (b2i_eq0.mpr h)), rfl, rfl⟩, by rw [ht]; exact hP, va_K.moved hW.alike hK, hD⟩, hS.F ht⟩) hS.2.2 d_C_tick_67
      · have hlt_z : z < n := nI_go hle_z c_6 (by have := hI; unfold Iv at this; omega)
        refine lv_iload_n hx hb d_C_tick_33 rfl (lv_at hl 1 rfl) ?_
        refine lv_aload_n hx hb d_C_tick_34 rfl (lv_at hl 2 rfl) ?_
        refine rl_get (r := 0) (ci := 1) (v := .ref (ad 1)) (C := R_C) (T := F_C) (N := 10) hx hb hG in_C hown hK hP (RC_f (by decide)) gC_0 rfl 0 (by decide) kw_59 (fun _ h9 => h9) rfl d_C_tick_35 ?_
        refine lv_iload_n hx hb d_C_tick_38 rfl (lv_at hl 0 rfl) ?_
        refine va_csr (W.runV (As := [.int (nI z)]) (rest := [.int (tkN σ p0 z)]) ⟨hx, hb, hml, hown, hts⟩ (c_Al_get l D (tys_ cs) (ad 1) (ad 3) n ci z (ad (100 + z)) ((tkS σ p0 z) 7 0) (cs 2) (rowsF 100 n ad) hlt_z hI.2.2.1 (by have := hI; unfold Iv at this; omega) 2 rfl (if_pos hlt_z)) (cwV 1 hts (gw_V kw_120 kw_121 kw_122 kw_4 kw_123) rfl rfl rfl (by decide +kernel) ⟨Nat.le_of_ble_eq_true rfl, Nat.le_of_ble_eq_true rfl⟩) (rd_V (rl_two hP (RC_f (by decide)) (gC_1 (Nat.lt_of_le_of_lt (Nat.zero_le _) hlt_z)) (RC_3 (Nat.lt_of_le_of_lt (Nat.zero_le _) hlt_z)) gC_3) hK (rl_recv hK hP (RC_f (by decide)) (gC_1 (Nat.lt_of_le_of_lt (Nat.zero_le _) hlt_z)) rfl)) rfl rfl hl.1 rfl (lv_room (Nat.le_of_ble_eq_true rfl)) d_C_tick_39 ⟨Nat.zero_le _, Nat.zero_le _⟩) (fun r_7 h_8 => ?_)
        subst h_8
        refine va_castS hx hb hown (hG _ kw_134) ((hK.1 2 _ rfl).2) (rl_recv hK hP (RC_ins hlt_z) (gC_ins (by have := hI; unfold Iv at this; omega)) rfl) d_C_tick_42 ?_
        refine lv_aload_n hx hb d_C_tick_45 rfl (lv_at hl 2 rfl) ?_
        refine rl_get (r := 0) (ci := 1) (v := .int (σ 0 0)) (C := R_C) (T := F_C) (N := 10) hx hb hG in_C hown hK hP (RC_f (by decide)) gC_0 rfl 9 (by decide) kw_68 (fun _ h9 => h9) rfl d_C_tick_46 ?_
        refine lv_iload_n hx hb d_C_tick_49 rfl (lv_at hl 3 rfl) ?_
        have hFc := rl_free1 (r := 100 + z) (x := .inr (2, insF (tkS σ p0 z) z)) hD hS hA (RC_ins hlt_z)
        refine va_calli (va_runV (As := [.int (σ 0 0), .int p0]) (rest := [.int (tkN σ p0 z)]) ⟨hx, hb, hml, hown, hts⟩ (c_I_passUp l D (tys_ cs) (ad (100 + z)) (tkS σ p0 z 20 z) (tkS σ p0 z 21 z) (tkS σ p0 z 22 z) (tkS σ p0 z 23 z) (tkS σ p0 z 24 z) (tkS σ p0 z 25 z) (tkS σ p0 z 26 z) (tkS σ p0 z 27 z) (tkS σ p0 z 28 z) (tkS σ p0 z 29 z) (σ 0 0) p0 H9.size) (cwV 2 hts (gw_V kw_516 kw_517 kw_518 kw_12 kw_519) rfl rfl rfl (by decide +kernel) ⟨Nat.le_of_ble_eq_true rfl, Nat.le_of_ble_eq_true rfl⟩) (w1_V (rl_one hP (RC_ins hlt_z) (gC_ins (by have := hI; unfold Iv at this; omega))) hK (rl_recv hK hP (RC_ins hlt_z) (gC_ins (by have := hI; unfold Iv at this; omega)) rfl)) rfl rfl hl.1 rfl (lv_room (Nat.le_of_ble_eq_true rfl)) d_C_tick_50 ⟨Nat.le_of_ble_eq_true rfl, Nat.le_of_ble_eq_true rfl⟩) hS (fun q _ h => hFc q h) hFc (fun r u t H1 locs ht hvm hw hB hz1 hk1 hS => ?_)
        subst hw
        replace hB : va_P D cls_ [(ad (100 + z), _)] t.heap := hB
        rw [ht] at hB
        obtain ⟨hP, hD⟩ := rl_join1 (r := 100 + z) (x := .inr (2, insF (tkS σ p0 z) z)) hP hD (RC_ins hlt_z) hk1 hB
        have eN : ([.int (tkS σ p0 z 20 z), .int (tkS σ p0 z 21 z), .int (tkS σ p0 z 22 z), .int (tkS σ p0 z 23 z), .int (puL (tkS σ p0 z 22 z) (tkS σ p0 z 23 z) (tkS σ p0 z 24 z) (σ 0 0) p0), .int (tkS σ p0 z 25 z), .int (tkS σ p0 z 26 z), .int (tkS σ p0 z 27 z), .int (tkS σ p0 z 28 z), .int (tkS σ p0 z 29 z)] : List Value) = insF (tkS σ p0 (z + 1)) z := by rw [tkS_z]; unfold insF; rw [tkS_n]; rfl
        rw [eN, wC_insG (σ' := tkS σ p0 (z + 1)) (hn_ hI) (hm_ hI) (by have := hI; unfold Iv at this; omega) (fun k b h9 => tkS_o h9)] at hP hD
        rw [show puF (tkS σ p0 z 22 z) (tkS σ p0 z 23 z) (tkS σ p0 z 24 z) (σ 0 0) p0 = puF (σ 22 z) (σ 23 z) (σ 24 z) (σ 0 0) p0 by rw [tkS_z]; rfl]
        refine lv_iadd hx hb d_C_tick_53 ?_
        refine W.eq (g2 := F0 m 54 ls [.int (tkN σ p0 (z + 1))]) rfl ?_
        refine lv_istore_n (lv' := [(2, .int (tkN σ p0 (z + 1))), (3, .int (nI z)), (0, .ref (ad 0)), (1, .int p0)]) hx hb d_C_tick_54 rfl hl (by decide) rfl (fun ls hl => ?_)
        refine lv_iinc (v := nI (z + 1)) (lv' := [(3, .int (nI (z + 1))), (2, .int (tkN σ p0 (z + 1))), (0, .ref (ad 0)), (1, .int p0)]) hx hb d_C_tick_55 hl (k := 1) rfl (by exact nI_1 _) (by decide) rfl (fun ls hl => ?_)
        refine lv_goto (tgt := 22) hx hb d_C_tick_58 (by decide) ?_
        exact ih_z (n - (z + 1)) (by omega) ls H1 locs hS (z + 1) (lv_sub hl [0, 1, 2, 3] rfl) hlt_z hP hD rfl
  · exact vx_throwS (own := "InspectSteps") (cls := xe_A) (text := "no time from now on") (names := xe_up) (ik := 68) (is := 200) (ic := 72) (A := A) hx hb hst hown (by decide) (by decide) (hG _ kw_192) (hG _ kw_10) (hX.2 (200, "no time from now on") (by decide)).choose_spec (xa_A hG hX) xa_A3 hZ.1 hZ.2 hS (hl.1.trans hml.symm) d_C_tick_8 d_C_tick_11 d_C_tick_12 d_C_tick_14 d_C_tick_17 (fun x h => (hnt x h).elim) (Nat.le_of_ble_eq_true rfl) (Nat.le_of_ble_eq_true rfl) (Nat.le_of_ble_eq_true rfl) (Nat.le_of_ble_eq_true rfl) hlocks (fun t ha hz hk => ⟨(), b2i_eq0.mp c_3, ⟨rfl, (thr_T hS hP hK hD ha hz hk).1⟩, (thr_T hS hP hK hD ha hz hk).2⟩) hS.2.2 (Nat.le_of_ble_eq_true rfl) (Nat.le_of_ble_eq_true rfl)
