theorem wr_blind {D : va_G} {cs : Nat → ClassId} {ws : va_W} {sz : Nat} {av : List Value} : FrameBlind (va_Pc av (wr_B D cs ws sz)) := fun a U g mk q => by
  obtain ⟨q0, q1, qP, qK, qD⟩ := q
  exact ⟨q0, q1, qP, va_K.moved (u := U) (U := U.calling g mk a) (Vm.Alike.refl U.vm) qK, qD⟩
theorem wr_V {D : va_G} {cs : Nat → ClassId} {ws : va_W} {A : Nat → Prop} {s : State} {H : Heap} {C : String} {b : Nat} {As : List Value} (hP : va_P D cls_ ws H) (hK : va_K D cls_ (tys_ cs) s) (hD : va_D A ws) (hr : ∃ cell : Cell, H[b]? = some cell ∧ cell.vm.isStatics = false ∧ s.vm.findClass C = some cell.cls) : PreV s H C b (va_Pc (.ref b :: As) (wr_B D cs ws H.size)) As :=
  ⟨wr_blind, hr, fun U hU hW => ⟨rfl, by rw [hU], by rw [hU]; exact hP, va_K.moved hW.alike hK, hD.weaken (fun _ _ _ _ => trivial)⟩⟩
def seS (σ : Nat → Nat → Int32) (d : Int32) : Nat → Nat → Nat → Int32
  | 0 => σ
  | z + 1 => if σ 30 z = d then seM (seS σ d z) z 4 else seS σ d z
theorem seS_30 {σ : Nat → Nat → Int32} {d : Int32} {b : Nat} : ∀ z : Nat, seS σ d z 30 b = σ 30 b
  | 0 => rfl
  | z + 1 => by
    show (if σ 30 z = d then seM (seS σ d z) z 4 else seS σ d z) 30 b = _
    by_cases h : σ 30 z = d
    · rw [if_pos h, seM_ne (by omega), seS_30 z]
    · rw [if_neg h, seS_30 z]
set_option maxHeartbeats 4000000 in
set_option maxRecDepth 100000 in
theorem c_C_settle (l : Launch) (D : va_G) (cs : Nat → ClassId) (ad : Nat → Nat) (σ : Nat → Nat → Int32) (n nm ci cj E : Nat) (hI : Iv n nm ci cj) (hJ : Jv σ n nm) (hst : l.stackTraces = false) (sz : Nat) (p0 : Int32) : vx_Met l y_C_settle (Cond.code y_C_settle b_C_settle 5 (some .int) :: GW) ({ frames := 8, cells := 1, slots := 6, locals := 256 }) (va_Pc [.ref (ad 0), .int p0] (xr_B D cs (wC cs ad σ n nm ci cj E) sz)) (va_Qi (fun r (u : Nat → Nat → Int32) => (0 ≤ p0 ∧ p0 ≤ 9) ∧ r = cntS σ p0 0 nm ∧ u = seS σ p0 nm) (fun u => wr_T D cs (wC cs ad u n nm ci cj E) (va_A (wC cs ad σ n nm ci cj E) sz)) (va_A (wC cs ad σ n nm ci cj E) sz)) (vx_X (fun _ : Unit => ¬ (0 ≤ p0 ∧ p0 ≤ 9)) (fun E9 _ t => E9 = xe_A ∧ wr_T D cs (wC cs ad σ n nm ci cj E) (va_A (wC cs ad σ n nm ci cj E) sz) t) (va_A (wC cs ad σ n nm ci cj E) sz)) 1 6 (va_A (wC cs ad σ n nm ci cj E) sz) := by
  refine vx_ofW (cc := b_C_settle) (maxL := 5) (ret := (some .int)) (by decide) rfl ?_
  intro p e s m args below meth c s₁ B hml hnt hv
  obtain ⟨rfl, ⟨hsz, hP, hK, hD0⟩, hX, hZ⟩ := hv
  have hx := B.exec
  have hb := B.bytes
  have hr := B.returns
  have hts := atoms_spec (ws := Cond.code y_C_settle b_C_settle 5 (some .int) :: GW) B.pre
  have hG : ∀ w ∈ GW, w.before _ s = true := fun w h => hts w (List.mem_cons_of_mem _ h)
  have hown : s.vm.findClass R_C = some m.cls := findClass_of_methodNamed B.named
  have hlocks := B.notSynchronized
  subst hsz
  have hD := hD0.self (sz := s.heap.size)
  generalize hAe : va_A (wC cs ad σ n nm ci cj E) s.heap.size = A at hD hZ ⊢
  have hA : ∀ q : Nat, s.heap.size ≤ q → A q := fun q h => by rw [← hAe]; exact Or.inr h
  have hS : va_S A s.heap s.heap [] := va_S.rf
  have hl := lv_entry ([.ref (ad 0), .int p0]) (n := 5) (Nat.le_of_ble_eq_true rfl)
  rw [lg_entry_eq]
  generalize (lg_sl ([.ref (ad 0), .int p0]) ++ List.replicate (5 - (lg_sl ([.ref (ad 0), .int p0])).length) Slot.unset).toArray = ls at hl ⊢
  have hl : lv_has ls 5 [(0, .ref (ad 0)), (1, .int p0)] := hl
  refine lv_iload_n hx hb d_C_settle_0 rfl (lv_at hl 1 rfl) ?_
  refine vp_callSi (W.runS (As := [.int p0]) (rest := []) ⟨hx, hb, hml, hown, hts⟩ (c_C_isDeclaration l p0) (va_cwS 1 hts (gw_S kw_143 kw_144 kw_1 kw_145) rfl rfl rfl (by decide +kernel) ⟨Nat.le_of_ble_eq_true rfl, Nat.le_of_ble_eq_true rfl⟩) ⟨fun _ _ _ _ q => q, fun U _ _ => ⟨rfl, trivial⟩⟩ rfl rfl hl.1 rfl (lv_room (Nat.le_of_ble_eq_true rfl)) d_C_settle_1 ⟨Nat.zero_le _, Nat.zero_le _⟩) (fun r_1 h_2 => ?_)
  subst h_2
  refine lv_if_ne (tgt := 17) hx hb d_C_settle_4 (by decide) (fun c_3 => ?_) (fun c_3 => ?_)
  · refine lv_aload_n hx hb d_C_settle_17 rfl (lv_at hl 0 rfl) ?_
    refine lv_iload_n hx hb d_C_settle_18 rfl (lv_at hl 1 rfl) ?_
    refine lv_iconst (v := 0) hx hb d_C_settle_19 (by decide) ?_
    refine vp_callSi (W.runV (As := [.int p0, .int 0]) (rest := []) ⟨hx, hb, hml, hown, hts⟩ (c_C_muchDifferent l D cs ad σ n nm ci cj E hI hJ p0 0) (cwV 2 hts (gw_V kw_169 kw_171 ks_0_3 kw_1 kw_172) rfl rfl rfl (by decide +kernel) ⟨Nat.le_of_ble_eq_true rfl, Nat.le_of_ble_eq_true rfl⟩) (rd_V hP hK (rl_recv hK hP (RC_f (by decide)) gC_0 rfl)) rfl rfl hl.1 rfl (lv_room (Nat.le_of_ble_eq_true rfl)) d_C_settle_20 ⟨Nat.zero_le _, Nat.zero_le _⟩) (fun r_4 h_5 => ?_)
    subst h_5
    refine lv_istore_n (lv' := [(2, .int (cntS σ p0 0 nm)), (0, .ref (ad 0)), (1, .int p0)]) hx hb d_C_settle_23 rfl hl (by decide) rfl (fun ls hl => ?_)
    refine lv_iconst (v := 0) hx hb d_C_settle_24 (by decide) ?_
    refine lv_istore_n (lv' := [(3, .int 0), (2, .int (cntS σ p0 0 nm)), (0, .ref (ad 0)), (1, .int p0)]) hx hb d_C_settle_25 rfl hl (by decide) rfl (fun ls hl => ?_)
    obtain ⟨H9, eH⟩ : ∃ H9 : Heap, H9 = s.heap := ⟨_, rfl⟩
    obtain ⟨L9, eL⟩ : ∃ L9 : List Loc, L9 = [] := ⟨_, rfl⟩
    have hS : va_S A s.heap H9 L9 := by rw [eH, eL]; exact hS
    have hP0 : va_P D cls_ (wC cs ad (seS σ p0 0) n nm ci cj E) H9 := by rw [eH]; exact hP
    have hD0 : va_D A (wC cs ad (seS σ p0 0) n nm ci cj E) := hD
    rw [← eH, ← eL]
    clear eH eL
    replace hl : ∃ z : Nat, lv_has ls 5 [(3, .int (nI z)), (2, .int (cntS σ p0 0 nm)), (0, .ref (ad 0)), (1, .int p0)] ∧ z ≤ nm ∧ va_P D cls_ (wC cs ad (seS σ p0 z) n nm ci cj E) H9 ∧ va_D A (wC cs ad (seS σ p0 z) n nm ci cj E) := ⟨0, hl, Nat.zero_le _, hP0, hD0⟩
    clear hP0 hD0
    obtain ⟨z, hl, hle_z, hP, hD⟩ := hl
    obtain ⟨k_z, hk_z⟩ : ∃ k, nm - z = k := ⟨_, rfl⟩
    induction k_z using Nat.strongRecOn generalizing z ls H9 L9 with
    | _ k_z ih_z =>
      refine lv_iload_n hx hb d_C_settle_26 rfl (lv_at hl 0 rfl) ?_
      refine lv_aload_n hx hb d_C_settle_27 rfl (lv_at hl 2 rfl) ?_
      refine rl_get (r := 0) (ci := 1) (v := .ref (ad 2)) (C := R_C) (T := F_C) (N := 10) hx hb hG in_C hown hK hP (RC_f (by decide)) gC_0 rfl 1 (by decide) kw_60 (fun _ h9 => h9) rfl d_C_settle_28 ?_
      refine vp_callSi (W.runV (As := []) (rest := [.int (nI z)]) ⟨hx, hb, hml, hown, hts⟩ (c_Al_size l D (tys_ cs) (ad 2) (.ref (if nm = 0 then E else ad 4)) (nI nm) ((seS σ p0 z) 7 1)) (cwV 0 hts (gw_V kw_116 kw_117 kw_118 kw_4 kw_119) rfl rfl rfl (by decide +kernel) ⟨Nat.le_of_ble_eq_true rfl, Nat.le_of_ble_eq_true rfl⟩) (rd_V (rl_one hP (RC_f (by decide)) gC_2') hK (rl_recv hK hP (RC_f (by decide)) gC_2' rfl)) rfl rfl hl.1 rfl (lv_room (Nat.le_of_ble_eq_true rfl)) d_C_settle_31 ⟨Nat.zero_le _, Nat.zero_le _⟩) (fun r_6 h_7 => ?_)
      subst h_7
      refine lv_icmp_ge (tgt := 70) hx hb d_C_settle_34 (by decide) (fun c_8 => ?_) (fun c_8 => ?_)
      · have hz_z : z = nm := nI_exit hle_z c_8 (by have := hI; unfold Iv at this; omega)
        subst hz_z
        refine lv_iload_n hx hb d_C_settle_70 rfl (lv_at hl 1 rfl) ?_
        refine W.widen (k := 1) (n := 6) (Nat.zero_le _) (Nat.zero_le _) (vx_ret ?_)
        exact W.iret (v := cntS σ p0 0 z) hx hb hr (fun t ht hW => ⟨⟨cntS σ p0 0 z, seS σ p0 z, rfl, ⟨Classical.not_not.mp (fun h => c_3 (b2i_eq0.mpr h)), rfl, rfl⟩, by rw [ht]; exact hP, va_K.moved hW.alike hK, hD⟩, hS.F ht⟩) hS.2.2 d_C_settle_71
      · have hlt_z : z < nm := nI_go hle_z c_8 (by have := hI; unfold Iv at this; omega)
        refine lv_aload_n hx hb d_C_settle_37 rfl (lv_at hl 2 rfl) ?_
        refine rl_get (r := 0) (ci := 1) (v := .ref (ad 2)) (C := R_C) (T := F_C) (N := 10) hx hb hG in_C hown hK hP (RC_f (by decide)) gC_0 rfl 1 (by decide) kw_60 (fun _ h9 => h9) rfl d_C_settle_38 ?_
        refine lv_iload_n hx hb d_C_settle_41 rfl (lv_at hl 0 rfl) ?_
        refine va_csr (W.runV (As := [.int (nI z)]) (rest := []) ⟨hx, hb, hml, hown, hts⟩ (c_Al_get l D (tys_ cs) (ad 2) (ad 4) nm cj z (ad (200 + z)) ((seS σ p0 z) 7 1) (cs 2) (rowsF 200 nm ad) hlt_z hI.2.2.2.1 (by have := hI; unfold Iv at this; omega) 2 rfl (if_pos hlt_z)) (cwV 1 hts (gw_V kw_120 kw_121 kw_122 kw_4 kw_123) rfl rfl rfl (by decide +kernel) ⟨Nat.le_of_ble_eq_true rfl, Nat.le_of_ble_eq_true rfl⟩) (rd_V (rl_two hP (RC_f (by decide)) (gC_2 (Nat.lt_of_le_of_lt (Nat.zero_le _) hlt_z)) (RC_4 (Nat.lt_of_le_of_lt (Nat.zero_le _) hlt_z)) gC_4) hK (rl_recv hK hP (RC_f (by decide)) (gC_2 (Nat.lt_of_le_of_lt (Nat.zero_le _) hlt_z)) rfl)) rfl rfl hl.1 rfl (lv_room (Nat.le_of_ble_eq_true rfl)) d_C_settle_42 ⟨Nat.zero_le _, Nat.zero_le _⟩) (fun r_9 h_10 => ?_)
        subst h_10
        refine va_castS hx hb hown (hG _ kw_173) ((hK.1 3 _ rfl).2) (rl_recv hK hP (RC_sam hlt_z) (gC_sam (by have := hI; unfold Iv at this; omega)) rfl) d_C_settle_45 ?_
        refine lv_astore (lv' := [(4, .ref (ad (200 + z))), (3, .int (nI z)), (2, .int (cntS σ p0 0 nm)), (0, .ref (ad 0)), (1, .int p0)]) hx hb d_C_settle_48 hl (by decide) rfl (fun ls hl => ?_)
        refine lv_aload hx hb d_C_settle_50 (lv_at hl 0 rfl) ?_
        refine rl_get (r := 200 + z) (ci := 3) (v := .int ((seS σ p0 z) 30 z)) (C := R_S) (T := F_S) (N := 4) hx hb hG in_S hown hK hP (RC_sam hlt_z) (gC_sam (by have := hI; unfold Iv at this; omega)) rfl 0 (by decide) kw_470 (fun _ h9 => h9) rfl d_C_settle_52 ?_
        refine lv_iload_n hx hb d_C_settle_55 rfl (lv_at hl 4 rfl) ?_
        refine lv_icmp_ne (tgt := 64) hx hb d_C_settle_56 (by decide) (fun c_11 => ?_) (fun c_11 => ?_)
        · rw [seS_30] at c_11
          refine lv_iinc (v := nI (z + 1)) (lv' := [(3, .int (nI (z + 1))), (4, .ref (ad (200 + z))), (2, .int (cntS σ p0 0 nm)), (0, .ref (ad 0)), (1, .int p0)]) hx hb d_C_settle_64 hl (k := 1) rfl (by exact nI_1 _) (by decide) rfl (fun ls hl => ?_)
          refine lv_goto (tgt := 26) hx hb d_C_settle_67 (by decide) ?_
          rw [← show seS σ p0 (z + 1) = seS σ p0 z from if_neg c_11] at hP hD
          exact ih_z (nm - (z + 1)) (by omega) ls H9 L9 hS (z + 1) (lv_sub hl [0, 2, 3, 4] rfl) hlt_z hP hD rfl
        · rw [seS_30] at c_11
          refine lv_aload hx hb d_C_settle_59 (lv_at hl 0 rfl) ?_
          have hFc := rl_free hD hS hA
          refine va_callv (va_runV (As := []) (rest := []) ⟨hx, hb, hml, hown, hts⟩ (c_S_settleTold l D cs ad (seS σ p0 z) n nm ci cj E hI z hlt_z H9.size) (cwV 0 hts (gw_V kw_504 kw_505 kw_506 kw_18 kw_507) rfl rfl rfl (by decide +kernel) ⟨Nat.le_of_ble_eq_true rfl, Nat.le_of_ble_eq_true rfl⟩) (wr_V hP hK hD (rl_recv hK hP (RC_sam hlt_z) (gC_sam (by have := hI; unfold Iv at this; omega)) rfl)) rfl rfl hl.1 rfl (lv_room (Nat.le_of_ble_eq_true rfl)) d_C_settle_61 ⟨Nat.le_of_ble_eq_true rfl, Nat.le_of_ble_eq_true rfl⟩) hS (fun q _ h => hFc q h) hFc (fun u t H1 locs ht hvm hw hB hz1 hk1 hS => ?_)
          subst hw
          obtain ⟨hP1, -, hD1⟩ := hB
          rw [ht] at hP1
          rw [← show seS σ p0 (z + 1) = seM (seS σ p0 z) z 4 from if_pos c_11] at hP1 hD1
          have hP : va_P D cls_ (wC cs ad (seS σ p0 (z + 1)) n nm ci cj E) H1 := hP1
          have hD : va_D A (wC cs ad (seS σ p0 (z + 1)) n nm ci cj E) := hD1.weaken (fun _ q9 _ h => hFc q9.1 h)
          refine lv_iinc (v := nI (z + 1)) (lv' := [(3, .int (nI (z + 1))), (4, .ref (ad (200 + z))), (2, .int (cntS σ p0 0 nm)), (0, .ref (ad 0)), (1, .int p0)]) hx hb d_C_settle_64 hl (k := 1) rfl (by exact nI_1 _) (by decide) rfl (fun ls hl => ?_)
          refine lv_goto (tgt := 26) hx hb d_C_settle_67 (by decide) ?_
          exact ih_z (nm - (z + 1)) (by omega) ls H1 locs hS (z + 1) (lv_sub hl [0, 2, 3, 4] rfl) hlt_z hP hD rfl
  · exact vx_throwS (own := "InspectSteps") (cls := xe_A) (text := "no such declaration") (names := xe_up) (ik := 68) (is := 190) (ic := 72) (A := A) hx hb hst hown (by decide) (by decide) (hG _ kw_192) (hG _ kw_10) (hX.2 (190, "no such declaration") (by decide)).choose_spec (xa_A hG hX) xa_A3 hZ.1 hZ.2 hS (hl.1.trans hml.symm) d_C_settle_7 d_C_settle_10 d_C_settle_11 d_C_settle_13 d_C_settle_16 (fun x h => (hnt x h).elim) (Nat.le_of_ble_eq_true rfl) (Nat.le_of_ble_eq_true rfl) (Nat.le_of_ble_eq_true rfl) (Nat.le_of_ble_eq_true rfl) hlocks (fun t ha hz hk => ⟨(), b2i_eq0.mp c_3, ⟨rfl, (thr_T hS hP hK hD ha hz hk).1⟩, (thr_T hS hP hK hD ha hz hk).2⟩) hS.2.2 (Nat.le_of_ble_eq_true rfl) (Nat.le_of_ble_eq_true rfl)
