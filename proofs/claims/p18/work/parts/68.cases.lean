set_option maxHeartbeats 4000000 in
set_option maxRecDepth 100000 in
theorem lp_next {p : Program} {l : Launch} {e : Env} {s : State} {m : MethodId} {below : List Frame} {meth : Method} {c : Code} {b L : Nat} {xs : Nat → Int32} {D : va_G} {cs : Nat → ClassId} {mi E : Nat} (C : lw_C p l s m meth c b L xs D cs mi E 2560) {t : Nat} (hn : lpH 23 p l e s m below meth c b L D cs E (t + 1)) (ht5 : 5 * t + 5 ≤ L) {ls : Array Slot} {H : Heap} {locs : List Loc} {ad am : Nat → Nat} {σ τ : Nat → Nat → Int32} {n nm ci cj o : Nat} {f : Nat → Int64} (hl : lv_has ls 7 [(0, .ref b), (1, .ref (ad 0)), (2, .ref (am 0)), (3, .ref o), (4, .int (nI (5 * t)))]) (hI : Iv n nm ci cj) (hT : TT σ τ n nm) (hP : va_P D cls_ (wL cs ad σ n nm ci cj E am τ o f) H) (hD : va_D (AL s) (wL cs ad σ n nm ci cj E am τ o f)) (hS : va_S (AL s) s.heap H locs) {cells slots : Nat} (h1 : cells ≤ 43 + 4 * (t + 1)) (h2 : slots ≤ 978 + 120 * (t + 1)) : W p l e room_1 s m #[Value.ref b] below meth c H locs cells slots (lw_Z below #[Value.ref b] s) (F0 m 914 ls []) := by
  obtain ⟨hx, hb, hr, hml, hown, hG, hX, hbl, hlocks, hK, hXk, hZ, hg, hE, hnc, hst, hLN⟩ := C
  have hA : ∀ q : Nat, s.heap.size ≤ q → AL s q := fun _ h => h
  have hbA : ¬ AL s b := Nat.not_le.mpr hbl
  refine W.widen h1 h2 ?_
  refine lv_iinc (v := nI (5 * (t + 1))) (lv' := [(4, .int (nI (5 * (t + 1)))), (0, .ref b), (1, .ref (ad 0)), (2, .ref (am 0)), (3, .ref o)]) hx hb d_L_law_914 hl (k := 4) rfl (by show nI (5 * t) + 5 = _; rw [show (5 : Int32) = nI 5 from rfl, nI_add, show 5 * t + 5 = 5 * (t + 1) by omega]) (by decide) rfl (fun ls hl => ?_)
  refine lv_goto (tgt := 23) hx hb d_L_law_917 (by decide) ?_
  exact hn ls H locs ad am σ τ n nm ci cj o f (lv_sub hl [1, 2, 3, 4, 0] rfl) (by omega) hI hT (by omega) hP hD hS
set_option maxHeartbeats 4000000 in
set_option maxRecDepth 100000 in
theorem lc_0 {p : Program} {l : Launch} {e : Env} {s : State} {m : MethodId} {below : List Frame} {meth : Method} {c : Code} {b L : Nat} {xs : Nat → Int32} {D : va_G} {cs : Nat → ClassId} {mi E : Nat} (C : lw_C p l s m meth c b L xs D cs mi E 2560) {t : Nat} (hn : lpH 23 p l e s m below meth c b L D cs E (t + 1)) (ht5 : 5 * t + 5 ≤ L) {ls : Array Slot} {H : Heap} {locs : List Loc} {ad am : Nat → Nat} {σ τ : Nat → Nat → Int32} {n nm ci cj o : Nat} {f : Nat → Int64} (hl : lv_has ls 7 [(0, .ref b), (1, .ref (ad 0)), (2, .ref (am 0)), (3, .ref o), (4, .int (nI (5 * t)))]) (hI : Iv n nm ci cj) (hT : TT σ τ n nm) (ht0 : t = 0 → nm = 0) (hP : va_P D cls_ (wL cs ad σ n nm ci cj E am τ o f) H) (hD : va_D (AL s) (wL cs ad σ n nm ci cj E am τ o f)) (hS : va_S (AL s) s.heap H locs) : W p l e room_1 s m #[Value.ref b] below meth c H locs (43 + 4 * t) (978 + 120 * t) (lw_Z below #[Value.ref b] s) (F0 m 120 ls []) := by
  have C9 := C
  obtain ⟨hx, hb, hr, hml, hown, hG, hX, hbl, hlocks, hK, hXk, hZ, hg, hE, hnc, hst, hLN⟩ := C9
  have hA : ∀ q : Nat, s.heap.size ≤ q → AL s q := fun _ h => h
  have hbA : ¬ AL s b := Nat.not_le.mpr hbl
  have hts : ∀ w ∈ (Cond.initialized "InspectSteps" :: GW), w.before #[Value.ref b] s = true := List.forall_mem_cons.mpr ⟨hG _ kw_1, hG⟩
  refine lv_aload_n hx hb d_L_law_120 rfl (lv_at hl 1 rfl) ?_
  refine lv_aload_n hx hb d_L_law_121 rfl (lv_at hl 0 rfl) ?_
  refine lv_iload hx hb d_L_law_122 (lv_at hl 4 rfl) ?_
  refine lv_iconst (v := 1) hx hb d_L_law_124 (by decide) ?_
  refine lv_iadd hx hb d_L_law_125 ?_
  rw [show nI (5 * t) + 1 = nI (5 * t + 1) from nI_add _ 1]
  refine va_sld hx hb hX hbl hbA hS (i := nI (5 * t + 1)) (vp_in_nI (by omega) (by omega)) d_L_law_126 ?_
  rw [nI_clamp (by omega)]
  refine lv_aload_n hx hb d_L_law_127 rfl (lv_at hl 0 rfl) ?_
  refine lv_iload hx hb d_L_law_128 (lv_at hl 4 rfl) ?_
  refine lv_iconst (v := 2) hx hb d_L_law_130 (by decide) ?_
  refine lv_iadd hx hb d_L_law_131 ?_
  rw [show nI (5 * t) + 2 = nI (5 * t + 2) from nI_add _ 2]
  refine va_sld hx hb hX hbl hbA hS (i := nI (5 * t + 2)) (vp_in_nI (by omega) (by omega)) d_L_law_132 ?_
  rw [nI_clamp (by omega)]
  refine lv_aload_n hx hb d_L_law_133 rfl (lv_at hl 0 rfl) ?_
  refine lv_iload hx hb d_L_law_134 (lv_at hl 4 rfl) ?_
  refine lv_iconst (v := 3) hx hb d_L_law_136 (by decide) ?_
  refine lv_iadd hx hb d_L_law_137 ?_
  rw [show nI (5 * t) + 3 = nI (5 * t + 3) from nI_add _ 3]
  refine va_sld hx hb hX hbl hbA hS (i := nI (5 * t + 3)) (vp_in_nI (by omega) (by omega)) d_L_law_138 ?_
  rw [nI_clamp (by omega)]
  refine lv_if_eq (tgt := 146) hx hb d_L_law_139 (by decide) (fun c_1 => ?_) (fun c_1 => ?_)
  · refine lv_iconst (v := 0) hx hb d_L_law_146 (by decide) ?_
    have hPx := fr_l hP
    have hDx := fr_dl hD
    have hFX := fr_A hD hS hA
    refine va_calli (va_runV (As := [.int (xs (5 * t + 1)), .int (xs (5 * t + 2)), .int 0]) (rest := []) ⟨hx, hb, hml, hown, hts⟩ (c_C_right l D cs ad σ n nm ci cj E hI H.size (xs (5 * t + 1)) (xs (5 * t + 2)) 0) (cwV 3 hts (gw_V kw_91 kw_92 kw_93 kw_1 kw_94) rfl rfl rfl (by decide +kernel) ⟨Nat.le_of_ble_eq_true rfl, Nat.le_of_ble_eq_true rfl⟩) ⟨wr_blind, rl_recv hK hPx (RC_f (by decide)) gC_0 rfl, fun U hU hW => ⟨rfl, by rw [hU], by rw [hU]; exact hPx, va_K.moved hW.alike hK, hDx.weaken (fun _ _ _ _ => trivial)⟩⟩ rfl rfl hl.1 rfl (lv_room (Nat.le_of_ble_eq_true rfl)) d_L_law_147 ⟨by show _ ≤ 601024; omega, by show _ ≤ 7293034; omega⟩) hS (fun q _ h => hFX q h) hFX (fun rc_3 uc_4 t9 H_2 locs ht hvm hw hB hz1 hk1 hS => ?_)
    have hc : cr_right σ n nm (xs (5 * t + 1)) (xs (5 * t + 2)) 0 rc_3 uc_4 := hw
    obtain ⟨hP1, -, hD1⟩ := hB
    rw [ht] at hP1
    obtain ⟨hP, hD⟩ := fr_join hP hD hk1 hFX hP1 hD1
    replace hP : va_P D cls_ (wL cs ad uc_4 n nm ci cj E am τ o f) H_2 := hP
    replace hD : va_D (AL s) (wL cs ad uc_4 n nm ci cj E am τ o f) := hD
    refine lv_pop hx hb d_L_law_150 rfl ?_
    refine lv_aload_n hx hb d_L_law_151 rfl (lv_at hl 2 rfl) ?_
    refine lv_aload_n hx hb d_L_law_152 rfl (lv_at hl 0 rfl) ?_
    refine lv_iload hx hb d_L_law_153 (lv_at hl 4 rfl) ?_
    refine lv_iconst (v := 1) hx hb d_L_law_155 (by decide) ?_
    refine lv_iadd hx hb d_L_law_156 ?_
    rw [show nI (5 * t) + 1 = nI (5 * t + 1) from nI_add _ 1]
    refine va_sld hx hb hX hbl hbA hS (i := nI (5 * t + 1)) (vp_in_nI (by omega) (by omega)) d_L_law_157 ?_
    rw [nI_clamp (by omega)]
    refine lv_aload_n hx hb d_L_law_158 rfl (lv_at hl 0 rfl) ?_
    refine lv_iload hx hb d_L_law_159 (lv_at hl 4 rfl) ?_
    refine lv_iconst (v := 2) hx hb d_L_law_161 (by decide) ?_
    refine lv_iadd hx hb d_L_law_162 ?_
    rw [show nI (5 * t) + 2 = nI (5 * t + 2) from nI_add _ 2]
    refine va_sld hx hb hX hbl hbA hS (i := nI (5 * t + 2)) (vp_in_nI (by omega) (by omega)) d_L_law_163 ?_
    rw [nI_clamp (by omega)]
    refine lv_aload_n hx hb d_L_law_164 rfl (lv_at hl 0 rfl) ?_
    refine lv_iload hx hb d_L_law_165 (lv_at hl 4 rfl) ?_
    refine lv_iconst (v := 3) hx hb d_L_law_167 (by decide) ?_
    refine lv_iadd hx hb d_L_law_168 ?_
    rw [show nI (5 * t) + 3 = nI (5 * t + 3) from nI_add _ 3]
    refine va_sld hx hb hX hbl hbA hS (i := nI (5 * t + 3)) (vp_in_nI (by omega) (by omega)) d_L_law_169 ?_
    rw [nI_clamp (by omega)]
    refine lv_if_eq (tgt := 177) hx hb d_L_law_170 (by decide) (fun _ => ?_) (fun c9 => absurd c_1 c9)
    refine lv_iconst (v := 0) hx hb d_L_law_177 (by decide) ?_
    have hM := hT.mv
    have hz := hT.hz
    have hPm := pm_mP hP
    have hDm := pm_mD hD
    have hFm := fr_A hDm hS hA
    refine va_calli (va_runV (As := [.int (xs (5 * t + 1)), .int (xs (5 * t + 2)), .int 0]) (rest := []) ⟨hx, hb, hml, hown, hts⟩ (c_M_right l D cs am τ n nm hM hz H_2.size (xs (5 * t + 1)) (xs (5 * t + 2)) 0 (Or.inl rfl)) (cwV 3 hts (gw_V kw_657 kw_658 kw_659 kw_6 kw_660) rfl rfl rfl (by decide +kernel) ⟨Nat.le_of_ble_eq_true rfl, Nat.le_of_ble_eq_true rfl⟩) ⟨wr_blind, rl_recv hK (fr_l hPm) (by decide) gM_0 rfl, fun U hU hW => ⟨rfl, by rw [hU], by rw [hU]; exact fr_l hPm, va_K.moved hW.alike hK, (fr_dl hDm).weaken (fun _ _ _ _ => trivial)⟩⟩ rfl rfl hl.1 rfl (lv_room (Nat.le_of_ble_eq_true rfl)) d_L_law_178 ⟨by show _ ≤ 601024; omega, by show _ ≤ 7293034; omega⟩) hS (fun q _ h => hFm q h) hFm (fun rm_6 um_7 t9 H_5 locs ht hvm hw hB hz1 hk1 hS => ?_)
    have hm : mr_right τ n nm (xs (5 * t + 1)) (xs (5 * t + 2)) 0 rm_6 um_7 := hw
    obtain ⟨hP1, -, hD1⟩ := hB
    rw [ht] at hP1
    obtain ⟨hPm, hDm⟩ := fr_join hPm hDm hk1 hFm hP1 hD1
    have hP := pm_mP hPm
    have hD := pm_mD hDm
    replace hP : va_P D cls_ (wL cs ad uc_4 n nm ci cj E am um_7 o f) H_5 := hP
    replace hD : va_D (AL s) (wL cs ad uc_4 n nm ci cj E am um_7 o f) := hD
    obtain ⟨heq, hT⟩ := tt_right hT (Or.inl rfl) hc hm
    subst heq
    refine lv_pop hx hb d_L_law_181 rfl ?_
    refine lv_goto (tgt := 914) hx hb d_L_law_182 (by decide) ?_
    exact lp_next C hn ht5 (lv_sub hl [0, 1, 2, 3, 4] rfl) hI hT hP hD hS (by omega) (by omega)
  · refine lv_iconst (v := 1) hx hb d_L_law_142 (by decide) ?_
    refine lv_goto (tgt := 147) hx hb d_L_law_143 (by decide) ?_
    have hPx := fr_l hP
    have hDx := fr_dl hD
    have hFX := fr_A hD hS hA
    refine va_calli (va_runV (As := [.int (xs (5 * t + 1)), .int (xs (5 * t + 2)), .int 1]) (rest := []) ⟨hx, hb, hml, hown, hts⟩ (c_C_right l D cs ad σ n nm ci cj E hI H.size (xs (5 * t + 1)) (xs (5 * t + 2)) 1) (cwV 3 hts (gw_V kw_91 kw_92 kw_93 kw_1 kw_94) rfl rfl rfl (by decide +kernel) ⟨Nat.le_of_ble_eq_true rfl, Nat.le_of_ble_eq_true rfl⟩) ⟨wr_blind, rl_recv hK hPx (RC_f (by decide)) gC_0 rfl, fun U hU hW => ⟨rfl, by rw [hU], by rw [hU]; exact hPx, va_K.moved hW.alike hK, hDx.weaken (fun _ _ _ _ => trivial)⟩⟩ rfl rfl hl.1 rfl (lv_room (Nat.le_of_ble_eq_true rfl)) d_L_law_147 ⟨by show _ ≤ 601024; omega, by show _ ≤ 7293034; omega⟩) hS (fun q _ h => hFX q h) hFX (fun rc_9 uc_10 t9 H_8 locs ht hvm hw hB hz1 hk1 hS => ?_)
    have hc : cr_right σ n nm (xs (5 * t + 1)) (xs (5 * t + 2)) 1 rc_9 uc_10 := hw
    obtain ⟨hP1, -, hD1⟩ := hB
    rw [ht] at hP1
    obtain ⟨hP, hD⟩ := fr_join hP hD hk1 hFX hP1 hD1
    replace hP : va_P D cls_ (wL cs ad uc_10 n nm ci cj E am τ o f) H_8 := hP
    replace hD : va_D (AL s) (wL cs ad uc_10 n nm ci cj E am τ o f) := hD
    refine lv_pop hx hb d_L_law_150 rfl ?_
    refine lv_aload_n hx hb d_L_law_151 rfl (lv_at hl 2 rfl) ?_
    refine lv_aload_n hx hb d_L_law_152 rfl (lv_at hl 0 rfl) ?_
    refine lv_iload hx hb d_L_law_153 (lv_at hl 4 rfl) ?_
    refine lv_iconst (v := 1) hx hb d_L_law_155 (by decide) ?_
    refine lv_iadd hx hb d_L_law_156 ?_
    rw [show nI (5 * t) + 1 = nI (5 * t + 1) from nI_add _ 1]
    refine va_sld hx hb hX hbl hbA hS (i := nI (5 * t + 1)) (vp_in_nI (by omega) (by omega)) d_L_law_157 ?_
    rw [nI_clamp (by omega)]
    refine lv_aload_n hx hb d_L_law_158 rfl (lv_at hl 0 rfl) ?_
    refine lv_iload hx hb d_L_law_159 (lv_at hl 4 rfl) ?_
    refine lv_iconst (v := 2) hx hb d_L_law_161 (by decide) ?_
    refine lv_iadd hx hb d_L_law_162 ?_
    rw [show nI (5 * t) + 2 = nI (5 * t + 2) from nI_add _ 2]
    refine va_sld hx hb hX hbl hbA hS (i := nI (5 * t + 2)) (vp_in_nI (by omega) (by omega)) d_L_law_163 ?_
    rw [nI_clamp (by omega)]
    refine lv_aload_n hx hb d_L_law_164 rfl (lv_at hl 0 rfl) ?_
    refine lv_iload hx hb d_L_law_165 (lv_at hl 4 rfl) ?_
    refine lv_iconst (v := 3) hx hb d_L_law_167 (by decide) ?_
    refine lv_iadd hx hb d_L_law_168 ?_
    rw [show nI (5 * t) + 3 = nI (5 * t + 3) from nI_add _ 3]
    refine va_sld hx hb hX hbl hbA hS (i := nI (5 * t + 3)) (vp_in_nI (by omega) (by omega)) d_L_law_169 ?_
    rw [nI_clamp (by omega)]
    refine lv_if_eq (tgt := 177) hx hb d_L_law_170 (by decide) (fun c9 => absurd c9 c_1) (fun _ => ?_)
    refine lv_iconst (v := 1) hx hb d_L_law_173 (by decide) ?_
    refine lv_goto (tgt := 178) hx hb d_L_law_174 (by decide) ?_
    have hM := hT.mv
    have hz := hT.hz
    have hPm := pm_mP hP
    have hDm := pm_mD hD
    have hFm := fr_A hDm hS hA
    refine va_calli (va_runV (As := [.int (xs (5 * t + 1)), .int (xs (5 * t + 2)), .int 1]) (rest := []) ⟨hx, hb, hml, hown, hts⟩ (c_M_right l D cs am τ n nm hM hz H_8.size (xs (5 * t + 1)) (xs (5 * t + 2)) 1 (Or.inr rfl)) (cwV 3 hts (gw_V kw_657 kw_658 kw_659 kw_6 kw_660) rfl rfl rfl (by decide +kernel) ⟨Nat.le_of_ble_eq_true rfl, Nat.le_of_ble_eq_true rfl⟩) ⟨wr_blind, rl_recv hK (fr_l hPm) (by decide) gM_0 rfl, fun U hU hW => ⟨rfl, by rw [hU], by rw [hU]; exact fr_l hPm, va_K.moved hW.alike hK, (fr_dl hDm).weaken (fun _ _ _ _ => trivial)⟩⟩ rfl rfl hl.1 rfl (lv_room (Nat.le_of_ble_eq_true rfl)) d_L_law_178 ⟨by show _ ≤ 601024; omega, by show _ ≤ 7293034; omega⟩) hS (fun q _ h => hFm q h) hFm (fun rm_12 um_13 t9 H_11 locs ht hvm hw hB hz1 hk1 hS => ?_)
    have hm : mr_right τ n nm (xs (5 * t + 1)) (xs (5 * t + 2)) 1 rm_12 um_13 := hw
    obtain ⟨hP1, -, hD1⟩ := hB
    rw [ht] at hP1
    obtain ⟨hPm, hDm⟩ := fr_join hPm hDm hk1 hFm hP1 hD1
    have hP := pm_mP hPm
    have hD := pm_mD hDm
    replace hP : va_P D cls_ (wL cs ad uc_10 n nm ci cj E am um_13 o f) H_11 := hP
    replace hD : va_D (AL s) (wL cs ad uc_10 n nm ci cj E am um_13 o f) := hD
    obtain ⟨heq, hT⟩ := tt_right hT (Or.inr rfl) hc hm
    subst heq
    refine lv_pop hx hb d_L_law_181 rfl ?_
    refine lv_goto (tgt := 914) hx hb d_L_law_182 (by decide) ?_
    exact lp_next C hn ht5 (lv_sub hl [0, 1, 2, 3, 4] rfl) hI hT hP hD hS (by omega) (by omega)
set_option maxHeartbeats 4000000 in
set_option maxRecDepth 100000 in
theorem lc_1 {p : Program} {l : Launch} {e : Env} {s : State} {m : MethodId} {below : List Frame} {meth : Method} {c : Code} {b L : Nat} {xs : Nat → Int32} {D : va_G} {cs : Nat → ClassId} {mi E : Nat} (C : lw_C p l s m meth c b L xs D cs mi E 2560) {t : Nat} (hn : lpH 23 p l e s m below meth c b L D cs E (t + 1)) (ht5 : 5 * t + 5 ≤ L) {ls : Array Slot} {H : Heap} {locs : List Loc} {ad am : Nat → Nat} {σ τ : Nat → Nat → Int32} {n nm ci cj o : Nat} {f : Nat → Int64} (hl : lv_has ls 7 [(0, .ref b), (1, .ref (ad 0)), (2, .ref (am 0)), (3, .ref o), (4, .int (nI (5 * t)))]) (hI : Iv n nm ci cj) (hT : TT σ τ n nm) (ht0 : t = 0 → nm = 0) (hP : va_P D cls_ (wL cs ad σ n nm ci cj E am τ o f) H) (hD : va_D (AL s) (wL cs ad σ n nm ci cj E am τ o f)) (hS : va_S (AL s) s.heap H locs) : W p l e room_1 s m #[Value.ref b] below meth c H locs (43 + 4 * t) (978 + 120 * t) (lw_Z below #[Value.ref b] s) (F0 m 185 ls []) := by
  have C9 := C
  obtain ⟨hx, hb, hr, hml, hown, hG, hX, hbl, hlocks, hK, hXk, hZ, hg, hE, hnc, hst, hLN⟩ := C9
  have hA : ∀ q : Nat, s.heap.size ≤ q → AL s q := fun _ h => h
  have hbA : ¬ AL s b := Nat.not_le.mpr hbl
  have hts : ∀ w ∈ (Cond.initialized "InspectSteps" :: GW), w.before #[Value.ref b] s = true := List.forall_mem_cons.mpr ⟨hG _ kw_1, hG⟩
  refine lv_aload_n hx hb d_L_law_185 rfl (lv_at hl 1 rfl) ?_
  refine lv_aload_n hx hb d_L_law_186 rfl (lv_at hl 0 rfl) ?_
  refine lv_iload hx hb d_L_law_187 (lv_at hl 4 rfl) ?_
  refine lv_iconst (v := 1) hx hb d_L_law_189 (by decide) ?_
  refine lv_iadd hx hb d_L_law_190 ?_
  rw [show nI (5 * t) + 1 = nI (5 * t + 1) from nI_add _ 1]
  refine va_sld hx hb hX hbl hbA hS (i := nI (5 * t + 1)) (vp_in_nI (by omega) (by omega)) d_L_law_191 ?_
  rw [nI_clamp (by omega)]
  refine lv_aload_n hx hb d_L_law_192 rfl (lv_at hl 0 rfl) ?_
  refine lv_iload hx hb d_L_law_193 (lv_at hl 4 rfl) ?_
  refine lv_iconst (v := 2) hx hb d_L_law_195 (by decide) ?_
  refine lv_iadd hx hb d_L_law_196 ?_
  rw [show nI (5 * t) + 2 = nI (5 * t + 2) from nI_add _ 2]
  refine va_sld hx hb hX hbl hbA hS (i := nI (5 * t + 2)) (vp_in_nI (by omega) (by omega)) d_L_law_197 ?_
  rw [nI_clamp (by omega)]
  refine lv_aload_n hx hb d_L_law_198 rfl (lv_at hl 0 rfl) ?_
  refine lv_iload hx hb d_L_law_199 (lv_at hl 4 rfl) ?_
  refine lv_iconst (v := 3) hx hb d_L_law_201 (by decide) ?_
  refine lv_iadd hx hb d_L_law_202 ?_
  rw [show nI (5 * t) + 3 = nI (5 * t + 3) from nI_add _ 3]
  refine va_sld hx hb hX hbl hbA hS (i := nI (5 * t + 3)) (vp_in_nI (by omega) (by omega)) d_L_law_203 ?_
  rw [nI_clamp (by omega)]
  refine lv_aload_n hx hb d_L_law_204 rfl (lv_at hl 3 rfl) ?_
  have hPh := pm_hP hP
  have hDh := pm_hD hD
  have hFh := fr_A hDh hS hA
  refine va_calli (vx_runSW (As := [.ref (ad 0), .int (xs (5 * t + 1)), .int (xs (5 * t + 2)), .int (xs (5 * t + 3)), .ref o]) (rest := []) ⟨hx, hb, hml, hown, hts⟩ (c_L_inspection l D cs ad σ n nm ci cj E hI hT.jv mi hst o f H.size (xs (5 * t + 1)) (xs (5 * t + 2)) (xs (5 * t + 3))) (vx_cwSW 5 hts (gw_SW kw_183 kw_184 kw_0 kw_185) rfl rfl rfl (by decide +kernel) ⟨Nat.le_of_ble_eq_true rfl, Nat.le_of_ble_eq_true rfl⟩) ⟨hp_blind, fun U hU hW => ⟨rfl, by rw [hU], by rw [hU]; exact fr_l hPh, va_K.moved hW.alike hK, (fr_dl hDh).weaken (fun _ _ _ _ => trivial), hXk.warm hW, by rw [hU]; exact ((hZ.kept (fun q h1 h2 => hS.2.1 q h1 h2)).moved hW.alike).narrow hFh, hg.moved hW.alike, by rw [hU]; exact ((hE.kept (fun q h1 h2 => hS.2.1 q h1 h2)).moved hW.alike).narrow hFh, va_Nc.moved hW.alike hnc⟩⟩ rfl rfl hl.1 rfl (lv_room (Nat.le_of_ble_eq_true rfl)) d_L_law_205 ⟨by show _ ≤ 601024; omega, by show _ ≤ 7293034; omega⟩) hS (fun q _ h => hFh q h) hFh (fun kc_2 uc t9 H_1 locs ht hvm hw hB hz1 hk1 hS => ?_)
  obtain ⟨rc_3, hc, hfo⟩ := hw
  obtain ⟨hP1, -, hD1⟩ := hB
  rw [ht] at hP1
  obtain ⟨hPh, hDh⟩ := fr_join hPh hDh hk1 hFh hP1 hD1
  have hP := pm_hP' hPh
  have hD := pm_hD' hDh
  obtain ⟨⟨ad1, ci1, s1, n1⟩, f1⟩ := uc
  obtain ⟨e0, hI1⟩ := cr_ins_ad hc hI
  replace e0 : ad1 0 = ad 0 := e0
  replace hI1 : Iv n1 nm ci1 cj := hI1
  rw [← e0] at hl
  replace hfo : kc_2 = 0 → f1 0 = rc_3.toInt64 := hfo
  replace hP : va_P D cls_ (wL cs ad1 s1 n1 nm ci1 cj E am τ o f1) H_1 := hP
  replace hD : va_D (AL s) (wL cs ad1 s1 n1 nm ci1 cj E am τ o f1) := hD
  refine lv_istore (lv' := [(5, .int kc_2), (0, .ref b), (1, .ref (ad1 0)), (2, .ref (am 0)), (3, .ref o), (4, .int (nI (5 * t)))]) hx hb d_L_law_208 hl (by decide) rfl (fun ls hl => ?_)
  refine lv_aload_n hx hb d_L_law_210 rfl (lv_at hl 3 rfl) ?_
  refine lv_aload_n hx hb d_L_law_211 rfl (lv_at hl 1 rfl) ?_
  refine lv_iload hx hb d_L_law_212 (lv_at hl 5 rfl) ?_
  refine lv_iconst (v := 1) hx hb d_L_law_214 (by decide) ?_
  refine lv_iadd hx hb d_L_law_215 ?_
  rw [show nI (5 * t) + 1 = nI (5 * t + 1) from nI_add _ 1]
  refine va_sld hx hb hX hbl hbA hS (i := nI (5 * t + 1)) (vp_in_nI (by omega) (by omega)) d_L_law_216 ?_
  rw [nI_clamp (by omega)]
  refine lv_aload_n hx hb d_L_law_217 rfl (lv_at hl 1 rfl) ?_
  refine lv_iload hx hb d_L_law_218 (lv_at hl 5 rfl) ?_
  refine lv_iconst (v := 2) hx hb d_L_law_220 (by decide) ?_
  refine lv_iadd hx hb d_L_law_221 ?_
  rw [show nI (5 * t) + 2 = nI (5 * t + 2) from nI_add _ 2]
  refine va_sld hx hb hX hbl hbA hS (i := nI (5 * t + 2)) (vp_in_nI (by omega) (by omega)) d_L_law_222 ?_
  rw [nI_clamp (by omega)]
  refine lv_aload_n hx hb d_L_law_223 rfl (lv_at hl 1 rfl) ?_
  refine lv_iload hx hb d_L_law_224 (lv_at hl 5 rfl) ?_
  refine lv_iconst (v := 3) hx hb d_L_law_226 (by decide) ?_
  refine lv_iadd hx hb d_L_law_227 ?_
  rw [show nI (5 * t) + 3 = nI (5 * t + 3) from nI_add _ 3]
  refine va_sld hx hb hX hbl hbA hS (i := nI (5 * t + 3)) (vp_in_nI (by omega) (by omega)) d_L_law_228 ?_
  rw [nI_clamp (by omega)]
  have hM := hT.mv
  have hz := hT.hz
  have hPm := pm_mP hP
  have hDm := pm_mD hD
  have hFm := fr_A hDm hS hA
  refine va_calli (va_runV (As := [.int (xs (5 * t + 1)), .int (xs (5 * t + 2)), .int (xs (5 * t + 3))]) (rest := []) ⟨hx, hb, hml, hown, hts⟩ (c_M_inspection l D cs am τ n nm hM H_1.size (xs (5 * t + 1)) (xs (5 * t + 2)) (xs (5 * t + 3))) (cwV 3 hts (gw_V kw_671 kw_672 kw_673 kw_6 kw_674) rfl rfl rfl (by decide +kernel) ⟨Nat.le_of_ble_eq_true rfl, Nat.le_of_ble_eq_true rfl⟩) ⟨wr_blind, rl_recv hK (fr_l hPm) (by decide) gM_0 rfl, fun U hU hW => ⟨rfl, by rw [hU], by rw [hU]; exact fr_l hPm, va_K.moved hW.alike hK, (fr_dl hDm).weaken (fun _ _ _ _ => trivial)⟩⟩ rfl rfl hl.1 rfl (lv_room (Nat.le_of_ble_eq_true rfl)) d_L_law_229 ⟨by show _ ≤ 601024; omega, by show _ ≤ 7293034; omega⟩) hS (fun q _ h => hFm q h) hFm (fun rm_5 um_6 t9 H_4 locs ht hvm hw hB hz1 hk1 hS => ?_)
  have hm : mr_inspection τ n nm (xs (5 * t + 1)) (xs (5 * t + 2)) (xs (5 * t + 3)) rm_5 um_6 := hw
  obtain ⟨hP1, -, hD1⟩ := hB
  rw [ht] at hP1
  obtain ⟨hPm, hDm⟩ := fr_join hPm hDm hk1 hFm hP1 hD1
  have hP := pm_mP hPm
  have hD := pm_mD hDm
  replace hP : va_P D cls_ (wL cs ad1 s1 n1 nm ci1 cj E am um_6 o f1) H_4 := hP
  replace hD : va_D (AL s) (wL cs ad1 s1 n1 nm ci1 cj E am um_6 o f1) := hD
  obtain ⟨hk0, hr0, hT⟩ := tt_inspection hT hc hm
  replace hT : TT s1 um_6 n1 nm := hT
  have hI := hI1
  refine lv_istore (lv' := [(6, .int rm_5), (5, .int kc_2), (0, .ref b), (1, .ref (ad1 0)), (2, .ref (am 0)), (3, .ref o), (4, .int (nI (5 * t)))]) hx hb d_L_law_232 hl (by decide) rfl (fun ls hl => ?_)
  refine lv_goto (tgt := 914) hx hb d_L_law_234 (by decide) ?_
  exact lp_next C hn ht5 (lv_sub hl [2, 3, 4, 5, 6] rfl) hI hT hP hD hS (by omega) (by omega)
set_option maxHeartbeats 4000000 in
set_option maxRecDepth 100000 in
theorem lc_2 {p : Program} {l : Launch} {e : Env} {s : State} {m : MethodId} {below : List Frame} {meth : Method} {c : Code} {b L : Nat} {xs : Nat → Int32} {D : va_G} {cs : Nat → ClassId} {mi E : Nat} (C : lw_C p l s m meth c b L xs D cs mi E 2560) {t : Nat} (hn : lpH 23 p l e s m below meth c b L D cs E (t + 1)) (ht5 : 5 * t + 5 ≤ L) {ls : Array Slot} {H : Heap} {locs : List Loc} {ad am : Nat → Nat} {σ τ : Nat → Nat → Int32} {n nm ci cj o : Nat} {f : Nat → Int64} (hl : lv_has ls 7 [(0, .ref b), (1, .ref (ad 0)), (2, .ref (am 0)), (3, .ref o), (4, .int (nI (5 * t)))]) (hI : Iv n nm ci cj) (hT : TT σ τ n nm) (ht0 : t = 0 → nm = 0) (hP : va_P D cls_ (wL cs ad σ n nm ci cj E am τ o f) H) (hD : va_D (AL s) (wL cs ad σ n nm ci cj E am τ o f)) (hS : va_S (AL s) s.heap H locs) : W p l e room_1 s m #[Value.ref b] below meth c H locs (43 + 4 * t) (978 + 120 * t) (lw_Z below #[Value.ref b] s) (F0 m 237 ls []) := by
  have C9 := C
  obtain ⟨hx, hb, hr, hml, hown, hG, hX, hbl, hlocks, hK, hXk, hZ, hg, hE, hnc, hst, hLN⟩ := C9
  have hA : ∀ q : Nat, s.heap.size ≤ q → AL s q := fun _ h => h
  have hbA : ¬ AL s b := Nat.not_le.mpr hbl
  have hts : ∀ w ∈ (Cond.initialized "InspectSteps" :: GW), w.before #[Value.ref b] s = true := List.forall_mem_cons.mpr ⟨hG _ kw_1, hG⟩
  refine lv_aload_n hx hb d_L_law_237 rfl (lv_at hl 1 rfl) ?_
  refine lv_aload_n hx hb d_L_law_238 rfl (lv_at hl 0 rfl) ?_
  refine lv_iload hx hb d_L_law_239 (lv_at hl 4 rfl) ?_
  refine lv_iconst (v := 1) hx hb d_L_law_241 (by decide) ?_
  refine lv_iadd hx hb d_L_law_242 ?_
  rw [show nI (5 * t) + 1 = nI (5 * t + 1) from nI_add _ 1]
  refine va_sld hx hb hX hbl hbA hS (i := nI (5 * t + 1)) (vp_in_nI (by omega) (by omega)) d_L_law_243 ?_
  rw [nI_clamp (by omega)]
  refine lv_aload_n hx hb d_L_law_244 rfl (lv_at hl 0 rfl) ?_
  refine lv_iload hx hb d_L_law_245 (lv_at hl 4 rfl) ?_
  refine lv_iconst (v := 2) hx hb d_L_law_247 (by decide) ?_
  refine lv_iadd hx hb d_L_law_248 ?_
  rw [show nI (5 * t) + 2 = nI (5 * t + 2) from nI_add _ 2]
  refine va_sld hx hb hX hbl hbA hS (i := nI (5 * t + 2)) (vp_in_nI (by omega) (by omega)) d_L_law_249 ?_
  rw [nI_clamp (by omega)]
  refine lv_aload_n hx hb d_L_law_250 rfl (lv_at hl 0 rfl) ?_
  refine lv_iload hx hb d_L_law_251 (lv_at hl 4 rfl) ?_
  refine lv_iconst (v := 3) hx hb d_L_law_253 (by decide) ?_
  refine lv_iadd hx hb d_L_law_254 ?_
  rw [show nI (5 * t) + 3 = nI (5 * t + 3) from nI_add _ 3]
  refine va_sld hx hb hX hbl hbA hS (i := nI (5 * t + 3)) (vp_in_nI (by omega) (by omega)) d_L_law_255 ?_
  rw [nI_clamp (by omega)]
  refine lv_aload_n hx hb d_L_law_256 rfl (lv_at hl 0 rfl) ?_
  refine lv_iload hx hb d_L_law_257 (lv_at hl 4 rfl) ?_
  refine lv_iconst (v := 4) hx hb d_L_law_259 (by decide) ?_
  refine lv_iadd hx hb d_L_law_260 ?_
  rw [show nI (5 * t) + 4 = nI (5 * t + 4) from nI_add _ 4]
  refine va_sld hx hb hX hbl hbA hS (i := nI (5 * t + 4)) (vp_in_nI (by omega) (by omega)) d_L_law_261 ?_
  rw [nI_clamp (by omega)]
  refine lv_aload_n hx hb d_L_law_262 rfl (lv_at hl 3 rfl) ?_
  have hPh := pm_hP hP
  have hDh := pm_hD hD
  have hFh := fr_A hDh hS hA
  refine va_calli (vx_runSW (As := [.ref (ad 0), .int (xs (5 * t + 1)), .int (xs (5 * t + 2)), .int (xs (5 * t + 3)), .int (xs (5 * t + 4)), .ref o]) (rest := []) ⟨hx, hb, hml, hown, hts⟩ (c_L_plan l D cs ad σ n nm ci cj E hI hT.jv mi hst o f H.size (xs (5 * t + 1)) (xs (5 * t + 2)) (xs (5 * t + 3)) (xs (5 * t + 4))) (vx_cwSW 6 hts (gw_SW kw_382 kw_383 kw_0 kw_384) rfl rfl rfl (by decide +kernel) ⟨Nat.le_of_ble_eq_true rfl, Nat.le_of_ble_eq_true rfl⟩) ⟨hp_blind, fun U hU hW => ⟨rfl, by rw [hU], by rw [hU]; exact fr_l hPh, va_K.moved hW.alike hK, (fr_dl hDh).weaken (fun _ _ _ _ => trivial), hXk.warm hW, by rw [hU]; exact ((hZ.kept (fun q h1 h2 => hS.2.1 q h1 h2)).moved hW.alike).narrow hFh, hg.moved hW.alike, by rw [hU]; exact ((hE.kept (fun q h1 h2 => hS.2.1 q h1 h2)).moved hW.alike).narrow hFh, va_Nc.moved hW.alike hnc⟩⟩ rfl rfl hl.1 rfl (lv_room (Nat.le_of_ble_eq_true rfl)) d_L_law_263 ⟨by show _ ≤ 601024; omega, by show _ ≤ 7293034; omega⟩) hS (fun q _ h => hFh q h) hFh (fun kc_2 uc t9 H_1 locs ht hvm hw hB hz1 hk1 hS => ?_)
  obtain ⟨rc_3, hc, hfo⟩ := hw
  obtain ⟨hP1, -, hD1⟩ := hB
  rw [ht] at hP1
  obtain ⟨hPh, hDh⟩ := fr_join hPh hDh hk1 hFh hP1 hD1
  have hP := pm_hP' hPh
  have hD := pm_hD' hDh
  obtain ⟨s1, f1⟩ := uc
  replace hfo : kc_2 = 0 → f1 0 = rc_3.toInt64 := hfo
  replace hP : va_P D cls_ (wL cs ad s1 n nm ci cj E am τ o f1) H_1 := hP
  replace hD : va_D (AL s) (wL cs ad s1 n nm ci cj E am τ o f1) := hD
  refine lv_istore (lv' := [(5, .int kc_2), (0, .ref b), (1, .ref (ad 0)), (2, .ref (am 0)), (3, .ref o), (4, .int (nI (5 * t)))]) hx hb d_L_law_266 hl (by decide) rfl (fun ls hl => ?_)
  refine lv_aload_n hx hb d_L_law_268 rfl (lv_at hl 3 rfl) ?_
  refine lv_aload_n hx hb d_L_law_269 rfl (lv_at hl 1 rfl) ?_
  refine lv_iload hx hb d_L_law_270 (lv_at hl 5 rfl) ?_
  refine lv_iconst (v := 1) hx hb d_L_law_272 (by decide) ?_
  refine lv_iadd hx hb d_L_law_273 ?_
  rw [show nI (5 * t) + 1 = nI (5 * t + 1) from nI_add _ 1]
  refine va_sld hx hb hX hbl hbA hS (i := nI (5 * t + 1)) (vp_in_nI (by omega) (by omega)) d_L_law_274 ?_
  rw [nI_clamp (by omega)]
  refine lv_aload_n hx hb d_L_law_275 rfl (lv_at hl 1 rfl) ?_
  refine lv_iload hx hb d_L_law_276 (lv_at hl 5 rfl) ?_
  refine lv_iconst (v := 2) hx hb d_L_law_278 (by decide) ?_
  refine lv_iadd hx hb d_L_law_279 ?_
  rw [show nI (5 * t) + 2 = nI (5 * t + 2) from nI_add _ 2]
  refine va_sld hx hb hX hbl hbA hS (i := nI (5 * t + 2)) (vp_in_nI (by omega) (by omega)) d_L_law_280 ?_
  rw [nI_clamp (by omega)]
  refine lv_aload_n hx hb d_L_law_281 rfl (lv_at hl 1 rfl) ?_
  refine lv_iload hx hb d_L_law_282 (lv_at hl 5 rfl) ?_
  refine lv_iconst (v := 3) hx hb d_L_law_284 (by decide) ?_
  refine lv_iadd hx hb d_L_law_285 ?_
  rw [show nI (5 * t) + 3 = nI (5 * t + 3) from nI_add _ 3]
  refine va_sld hx hb hX hbl hbA hS (i := nI (5 * t + 3)) (vp_in_nI (by omega) (by omega)) d_L_law_286 ?_
  rw [nI_clamp (by omega)]
  refine lv_aload_n hx hb d_L_law_287 rfl (lv_at hl 1 rfl) ?_
  refine lv_iload hx hb d_L_law_288 (lv_at hl 5 rfl) ?_
  refine lv_iconst (v := 4) hx hb d_L_law_290 (by decide) ?_
  refine lv_iadd hx hb d_L_law_291 ?_
  rw [show nI (5 * t) + 4 = nI (5 * t + 4) from nI_add _ 4]
  refine va_sld hx hb hX hbl hbA hS (i := nI (5 * t + 4)) (vp_in_nI (by omega) (by omega)) d_L_law_292 ?_
  rw [nI_clamp (by omega)]
  have hM := hT.mv
  have hz := hT.hz
  have hPm := pm_mP hP
  have hDm := pm_mD hD
  have hFm := fr_A hDm hS hA
  refine va_calli (va_runV (As := [.int (xs (5 * t + 1)), .int (xs (5 * t + 2)), .int (xs (5 * t + 3)), .int (xs (5 * t + 4))]) (rest := []) ⟨hx, hb, hml, hown, hts⟩ (c_M_plan l D cs am τ n nm hM H_1.size (xs (5 * t + 1)) (xs (5 * t + 2)) (xs (5 * t + 3)) (xs (5 * t + 4))) (cwV 4 hts (gw_V kw_680 kw_681 kw_682 kw_6 kw_683) rfl rfl rfl (by decide +kernel) ⟨Nat.le_of_ble_eq_true rfl, Nat.le_of_ble_eq_true rfl⟩) ⟨wr_blind, rl_recv hK (fr_l hPm) (by decide) gM_0 rfl, fun U hU hW => ⟨rfl, by rw [hU], by rw [hU]; exact fr_l hPm, va_K.moved hW.alike hK, (fr_dl hDm).weaken (fun _ _ _ _ => trivial)⟩⟩ rfl rfl hl.1 rfl (lv_room (Nat.le_of_ble_eq_true rfl)) d_L_law_293 ⟨by show _ ≤ 601024; omega, by show _ ≤ 7293034; omega⟩) hS (fun q _ h => hFm q h) hFm (fun rm_5 um_6 t9 H_4 locs ht hvm hw hB hz1 hk1 hS => ?_)
  have hm : mr_plan τ n nm (xs (5 * t + 1)) (xs (5 * t + 2)) (xs (5 * t + 3)) (xs (5 * t + 4)) rm_5 um_6 := hw
  obtain ⟨hP1, -, hD1⟩ := hB
  rw [ht] at hP1
  obtain ⟨hPm, hDm⟩ := fr_join hPm hDm hk1 hFm hP1 hD1
  have hP := pm_mP hPm
  have hD := pm_mD hDm
  replace hP : va_P D cls_ (wL cs ad s1 n nm ci cj E am um_6 o f1) H_4 := hP
  replace hD : va_D (AL s) (wL cs ad s1 n nm ci cj E am um_6 o f1) := hD
  obtain ⟨hk0, hr0, hT⟩ := tt_plan hT hc hm
  refine lv_istore (lv' := [(6, .int rm_5), (5, .int kc_2), (0, .ref b), (1, .ref (ad 0)), (2, .ref (am 0)), (3, .ref o), (4, .int (nI (5 * t)))]) hx hb d_L_law_296 hl (by decide) rfl (fun ls hl => ?_)
  refine lv_goto (tgt := 914) hx hb d_L_law_298 (by decide) ?_
  exact lp_next C hn ht5 (lv_sub hl [2, 3, 4, 5, 6] rfl) hI hT hP hD hS (by omega) (by omega)
set_option maxHeartbeats 4000000 in
set_option maxRecDepth 100000 in
theorem lc_3 {p : Program} {l : Launch} {e : Env} {s : State} {m : MethodId} {below : List Frame} {meth : Method} {c : Code} {b L : Nat} {xs : Nat → Int32} {D : va_G} {cs : Nat → ClassId} {mi E : Nat} (C : lw_C p l s m meth c b L xs D cs mi E 2560) {t : Nat} (hn : lpH 23 p l e s m below meth c b L D cs E (t + 1)) (ht5 : 5 * t + 5 ≤ L) {ls : Array Slot} {H : Heap} {locs : List Loc} {ad am : Nat → Nat} {σ τ : Nat → Nat → Int32} {n nm ci cj o : Nat} {f : Nat → Int64} (hl : lv_has ls 7 [(0, .ref b), (1, .ref (ad 0)), (2, .ref (am 0)), (3, .ref o), (4, .int (nI (5 * t)))]) (hI : Iv n nm ci cj) (hT : TT σ τ n nm) (ht0 : t = 0 → nm = 0) (hP : va_P D cls_ (wL cs ad σ n nm ci cj E am τ o f) H) (hD : va_D (AL s) (wL cs ad σ n nm ci cj E am τ o f)) (hS : va_S (AL s) s.heap H locs) : W p l e room_1 s m #[Value.ref b] below meth c H locs (43 + 4 * t) (978 + 120 * t) (lw_Z below #[Value.ref b] s) (F0 m 301 ls []) := by
  have C9 := C
  obtain ⟨hx, hb, hr, hml, hown, hG, hX, hbl, hlocks, hK, hXk, hZ, hg, hE, hnc, hst, hLN⟩ := C9
  have hA : ∀ q : Nat, s.heap.size ≤ q → AL s q := fun _ h => h
  have hbA : ¬ AL s b := Nat.not_le.mpr hbl
  have hts : ∀ w ∈ (Cond.initialized "InspectSteps" :: GW), w.before #[Value.ref b] s = true := List.forall_mem_cons.mpr ⟨hG _ kw_1, hG⟩
  refine lv_aload_n hx hb d_L_law_301 rfl (lv_at hl 1 rfl) ?_
  refine lv_aload_n hx hb d_L_law_302 rfl (lv_at hl 0 rfl) ?_
  refine lv_iload hx hb d_L_law_303 (lv_at hl 4 rfl) ?_
  refine lv_iconst (v := 1) hx hb d_L_law_305 (by decide) ?_
  refine lv_iadd hx hb d_L_law_306 ?_
  rw [show nI (5 * t) + 1 = nI (5 * t + 1) from nI_add _ 1]
  refine va_sld hx hb hX hbl hbA hS (i := nI (5 * t + 1)) (vp_in_nI (by omega) (by omega)) d_L_law_307 ?_
  rw [nI_clamp (by omega)]
  refine lv_aload_n hx hb d_L_law_308 rfl (lv_at hl 0 rfl) ?_
  refine lv_iload hx hb d_L_law_309 (lv_at hl 4 rfl) ?_
  refine lv_iconst (v := 2) hx hb d_L_law_311 (by decide) ?_
  refine lv_iadd hx hb d_L_law_312 ?_
  rw [show nI (5 * t) + 2 = nI (5 * t + 2) from nI_add _ 2]
  refine va_sld hx hb hX hbl hbA hS (i := nI (5 * t + 2)) (vp_in_nI (by omega) (by omega)) d_L_law_313 ?_
  rw [nI_clamp (by omega)]
  refine lv_aload_n hx hb d_L_law_314 rfl (lv_at hl 3 rfl) ?_
  have hPh := pm_hP hP
  have hDh := pm_hD hD
  have hFh := fr_A hDh hS hA
  refine va_calli (vx_runSW (As := [.ref (ad 0), .int (xs (5 * t + 1)), .int (xs (5 * t + 2)), .ref o]) (rest := []) ⟨hx, hb, hml, hown, hts⟩ (c_L_begin l D cs ad σ n nm ci cj E hI hT.jv mi hst o f H.size (xs (5 * t + 1)) (xs (5 * t + 2))) (vx_cwSW 4 hts (gw_SW kw_411 kw_412 kw_0 kw_413) rfl rfl rfl (by decide +kernel) ⟨Nat.le_of_ble_eq_true rfl, Nat.le_of_ble_eq_true rfl⟩) ⟨hp_blind, fun U hU hW => ⟨rfl, by rw [hU], by rw [hU]; exact fr_l hPh, va_K.moved hW.alike hK, (fr_dl hDh).weaken (fun _ _ _ _ => trivial), hXk.warm hW, by rw [hU]; exact ((hZ.kept (fun q h1 h2 => hS.2.1 q h1 h2)).moved hW.alike).narrow hFh, hg.moved hW.alike, by rw [hU]; exact ((hE.kept (fun q h1 h2 => hS.2.1 q h1 h2)).moved hW.alike).narrow hFh, va_Nc.moved hW.alike hnc⟩⟩ rfl rfl hl.1 rfl (lv_room (Nat.le_of_ble_eq_true rfl)) d_L_law_315 ⟨by show _ ≤ 601024; omega, by show _ ≤ 7293034; omega⟩) hS (fun q _ h => hFh q h) hFh (fun kc_2 uc t9 H_1 locs ht hvm hw hB hz1 hk1 hS => ?_)
  obtain ⟨rc_3, hc, hfo⟩ := hw
  obtain ⟨hP1, -, hD1⟩ := hB
  rw [ht] at hP1
  obtain ⟨hPh, hDh⟩ := fr_join hPh hDh hk1 hFh hP1 hD1
  have hP := pm_hP' hPh
  have hD := pm_hD' hDh
  obtain ⟨s1, f1⟩ := uc
  replace hfo : kc_2 = 0 → f1 0 = rc_3.toInt64 := hfo
  replace hP : va_P D cls_ (wL cs ad s1 n nm ci cj E am τ o f1) H_1 := hP
  replace hD : va_D (AL s) (wL cs ad s1 n nm ci cj E am τ o f1) := hD
  refine lv_istore (lv' := [(5, .int kc_2), (0, .ref b), (1, .ref (ad 0)), (2, .ref (am 0)), (3, .ref o), (4, .int (nI (5 * t)))]) hx hb d_L_law_318 hl (by decide) rfl (fun ls hl => ?_)
  refine lv_aload_n hx hb d_L_law_320 rfl (lv_at hl 3 rfl) ?_
  refine lv_aload_n hx hb d_L_law_321 rfl (lv_at hl 1 rfl) ?_
  refine lv_iload hx hb d_L_law_322 (lv_at hl 5 rfl) ?_
  refine lv_iconst (v := 1) hx hb d_L_law_324 (by decide) ?_
  refine lv_iadd hx hb d_L_law_325 ?_
  rw [show nI (5 * t) + 1 = nI (5 * t + 1) from nI_add _ 1]
  refine va_sld hx hb hX hbl hbA hS (i := nI (5 * t + 1)) (vp_in_nI (by omega) (by omega)) d_L_law_326 ?_
  rw [nI_clamp (by omega)]
  refine lv_aload_n hx hb d_L_law_327 rfl (lv_at hl 1 rfl) ?_
  refine lv_iload hx hb d_L_law_328 (lv_at hl 5 rfl) ?_
  refine lv_iconst (v := 2) hx hb d_L_law_330 (by decide) ?_
  refine lv_iadd hx hb d_L_law_331 ?_
  rw [show nI (5 * t) + 2 = nI (5 * t + 2) from nI_add _ 2]
  refine va_sld hx hb hX hbl hbA hS (i := nI (5 * t + 2)) (vp_in_nI (by omega) (by omega)) d_L_law_332 ?_
  rw [nI_clamp (by omega)]
  have hM := hT.mv
  have hz := hT.hz
  have hPm := pm_mP hP
  have hDm := pm_mD hD
  have hFm := fr_A hDm hS hA
  refine va_calli (va_runV (As := [.int (xs (5 * t + 1)), .int (xs (5 * t + 2))]) (rest := []) ⟨hx, hb, hml, hown, hts⟩ (c_M_begin l D cs am τ n nm hM hz H_1.size (xs (5 * t + 1)) (xs (5 * t + 2))) (cwV 2 hts (gw_V kw_692 kw_693 kw_694 kw_6 kw_695) rfl rfl rfl (by decide +kernel) ⟨Nat.le_of_ble_eq_true rfl, Nat.le_of_ble_eq_true rfl⟩) ⟨wr_blind, rl_recv hK (fr_l hPm) (by decide) gM_0 rfl, fun U hU hW => ⟨rfl, by rw [hU], by rw [hU]; exact fr_l hPm, va_K.moved hW.alike hK, (fr_dl hDm).weaken (fun _ _ _ _ => trivial)⟩⟩ rfl rfl hl.1 rfl (lv_room (Nat.le_of_ble_eq_true rfl)) d_L_law_333 ⟨by show _ ≤ 601024; omega, by show _ ≤ 7293034; omega⟩) hS (fun q _ h => hFm q h) hFm (fun rm_5 um_6 t9 H_4 locs ht hvm hw hB hz1 hk1 hS => ?_)
  have hm : mr_begin τ n nm (xs (5 * t + 1)) (xs (5 * t + 2)) rm_5 um_6 := hw
  obtain ⟨hP1, -, hD1⟩ := hB
  rw [ht] at hP1
  obtain ⟨hPm, hDm⟩ := fr_join hPm hDm hk1 hFm hP1 hD1
  have hP := pm_mP hPm
  have hD := pm_mD hDm
  replace hP : va_P D cls_ (wL cs ad s1 n nm ci cj E am um_6 o f1) H_4 := hP
  replace hD : va_D (AL s) (wL cs ad s1 n nm ci cj E am um_6 o f1) := hD
  obtain ⟨hk0, hr0, hT⟩ := tt_begin hT hc hm
  refine lv_istore (lv' := [(6, .int rm_5), (5, .int kc_2), (0, .ref b), (1, .ref (ad 0)), (2, .ref (am 0)), (3, .ref o), (4, .int (nI (5 * t)))]) hx hb d_L_law_336 hl (by decide) rfl (fun ls hl => ?_)
  refine lv_goto (tgt := 914) hx hb d_L_law_338 (by decide) ?_
  exact lp_next C hn ht5 (lv_sub hl [2, 3, 4, 5, 6] rfl) hI hT hP hD hS (by omega) (by omega)
set_option maxHeartbeats 4000000 in
set_option maxRecDepth 100000 in
theorem lc_4 {p : Program} {l : Launch} {e : Env} {s : State} {m : MethodId} {below : List Frame} {meth : Method} {c : Code} {b L : Nat} {xs : Nat → Int32} {D : va_G} {cs : Nat → ClassId} {mi E : Nat} (C : lw_C p l s m meth c b L xs D cs mi E 2560) {t : Nat} (hn : lpH 23 p l e s m below meth c b L D cs E (t + 1)) (ht5 : 5 * t + 5 ≤ L) {ls : Array Slot} {H : Heap} {locs : List Loc} {ad am : Nat → Nat} {σ τ : Nat → Nat → Int32} {n nm ci cj o : Nat} {f : Nat → Int64} (hl : lv_has ls 7 [(0, .ref b), (1, .ref (ad 0)), (2, .ref (am 0)), (3, .ref o), (4, .int (nI (5 * t)))]) (hI : Iv n nm ci cj) (hT : TT σ τ n nm) (ht0 : t = 0 → nm = 0) (hP : va_P D cls_ (wL cs ad σ n nm ci cj E am τ o f) H) (hD : va_D (AL s) (wL cs ad σ n nm ci cj E am τ o f)) (hS : va_S (AL s) s.heap H locs) : W p l e room_1 s m #[Value.ref b] below meth c H locs (43 + 4 * t) (978 + 120 * t) (lw_Z below #[Value.ref b] s) (F0 m 341 ls []) := by
  have C9 := C
  obtain ⟨hx, hb, hr, hml, hown, hG, hX, hbl, hlocks, hK, hXk, hZ, hg, hE, hnc, hst, hLN⟩ := C9
  have hA : ∀ q : Nat, s.heap.size ≤ q → AL s q := fun _ h => h
  have hbA : ¬ AL s b := Nat.not_le.mpr hbl
  have hts : ∀ w ∈ (Cond.initialized "InspectSteps" :: GW), w.before #[Value.ref b] s = true := List.forall_mem_cons.mpr ⟨hG _ kw_1, hG⟩
  refine lv_aload_n hx hb d_L_law_341 rfl (lv_at hl 1 rfl) ?_
  refine lv_aload_n hx hb d_L_law_342 rfl (lv_at hl 0 rfl) ?_
  refine lv_iload hx hb d_L_law_343 (lv_at hl 4 rfl) ?_
  refine lv_iconst (v := 1) hx hb d_L_law_345 (by decide) ?_
  refine lv_iadd hx hb d_L_law_346 ?_
  rw [show nI (5 * t) + 1 = nI (5 * t + 1) from nI_add _ 1]
  refine va_sld hx hb hX hbl hbA hS (i := nI (5 * t + 1)) (vp_in_nI (by omega) (by omega)) d_L_law_347 ?_
  rw [nI_clamp (by omega)]
  refine lv_aload_n hx hb d_L_law_348 rfl (lv_at hl 0 rfl) ?_
  refine lv_iload hx hb d_L_law_349 (lv_at hl 4 rfl) ?_
  refine lv_iconst (v := 2) hx hb d_L_law_351 (by decide) ?_
  refine lv_iadd hx hb d_L_law_352 ?_
  rw [show nI (5 * t) + 2 = nI (5 * t + 2) from nI_add _ 2]
  refine va_sld hx hb hX hbl hbA hS (i := nI (5 * t + 2)) (vp_in_nI (by omega) (by omega)) d_L_law_353 ?_
  rw [nI_clamp (by omega)]
  refine lv_aload_n hx hb d_L_law_354 rfl (lv_at hl 0 rfl) ?_
  refine lv_iload hx hb d_L_law_355 (lv_at hl 4 rfl) ?_
  refine lv_iconst (v := 3) hx hb d_L_law_357 (by decide) ?_
  refine lv_iadd hx hb d_L_law_358 ?_
  rw [show nI (5 * t) + 3 = nI (5 * t + 3) from nI_add _ 3]
  refine va_sld hx hb hX hbl hbA hS (i := nI (5 * t + 3)) (vp_in_nI (by omega) (by omega)) d_L_law_359 ?_
  rw [nI_clamp (by omega)]
  refine lv_if_eq (tgt := 367) hx hb d_L_law_360 (by decide) (fun c_1 => ?_) (fun c_1 => ?_)
  · refine lv_iconst (v := 0) hx hb d_L_law_367 (by decide) ?_
    refine lv_aload_n hx hb d_L_law_368 rfl (lv_at hl 3 rfl) ?_
    have hPh := pm_hP hP
    have hDh := pm_hD hD
    have hFh := fr_A hDh hS hA
    refine va_calli (vx_runSW (As := [.ref (ad 0), .int (xs (5 * t + 1)), .int (xs (5 * t + 2)), .int 0, .ref o]) (rest := []) ⟨hx, hb, hml, hown, hts⟩ (c_L_end l D cs ad σ n nm ci cj E hI hT.jv mi hst o f H.size (xs (5 * t + 1)) (xs (5 * t + 2)) 0) (vx_cwSW 5 hts (gw_SW kw_427 kw_428 kw_0 kw_429) rfl rfl rfl (by decide +kernel) ⟨Nat.le_of_ble_eq_true rfl, Nat.le_of_ble_eq_true rfl⟩) ⟨hp_blind, fun U hU hW => ⟨rfl, by rw [hU], by rw [hU]; exact fr_l hPh, va_K.moved hW.alike hK, (fr_dl hDh).weaken (fun _ _ _ _ => trivial), hXk.warm hW, by rw [hU]; exact ((hZ.kept (fun q h1 h2 => hS.2.1 q h1 h2)).moved hW.alike).narrow hFh, hg.moved hW.alike, by rw [hU]; exact ((hE.kept (fun q h1 h2 => hS.2.1 q h1 h2)).moved hW.alike).narrow hFh, va_Nc.moved hW.alike hnc⟩⟩ rfl rfl hl.1 rfl (lv_room (Nat.le_of_ble_eq_true rfl)) d_L_law_369 ⟨by show _ ≤ 601024; omega, by show _ ≤ 7293034; omega⟩) hS (fun q _ h => hFh q h) hFh (fun kc_3 uc t9 H_2 locs ht hvm hw hB hz1 hk1 hS => ?_)
    obtain ⟨rc_4, hc, hfo⟩ := hw
    obtain ⟨hP1, -, hD1⟩ := hB
    rw [ht] at hP1
    obtain ⟨hPh, hDh⟩ := fr_join hPh hDh hk1 hFh hP1 hD1
    have hP := pm_hP' hPh
    have hD := pm_hD' hDh
    obtain ⟨s1, f1⟩ := uc
    replace hfo : kc_3 = 0 → f1 0 = rc_4.toInt64 := hfo
    replace hP : va_P D cls_ (wL cs ad s1 n nm ci cj E am τ o f1) H_2 := hP
    replace hD : va_D (AL s) (wL cs ad s1 n nm ci cj E am τ o f1) := hD
    refine lv_istore (lv' := [(5, .int kc_3), (0, .ref b), (1, .ref (ad 0)), (2, .ref (am 0)), (3, .ref o), (4, .int (nI (5 * t)))]) hx hb d_L_law_372 hl (by decide) rfl (fun ls hl => ?_)
    refine lv_aload_n hx hb d_L_law_374 rfl (lv_at hl 3 rfl) ?_
    refine lv_aload_n hx hb d_L_law_375 rfl (lv_at hl 1 rfl) ?_
    refine lv_iload hx hb d_L_law_376 (lv_at hl 5 rfl) ?_
    refine lv_iconst (v := 1) hx hb d_L_law_378 (by decide) ?_
    refine lv_iadd hx hb d_L_law_379 ?_
    rw [show nI (5 * t) + 1 = nI (5 * t + 1) from nI_add _ 1]
    refine va_sld hx hb hX hbl hbA hS (i := nI (5 * t + 1)) (vp_in_nI (by omega) (by omega)) d_L_law_380 ?_
    rw [nI_clamp (by omega)]
    refine lv_aload_n hx hb d_L_law_381 rfl (lv_at hl 1 rfl) ?_
    refine lv_iload hx hb d_L_law_382 (lv_at hl 5 rfl) ?_
    refine lv_iconst (v := 2) hx hb d_L_law_384 (by decide) ?_
    refine lv_iadd hx hb d_L_law_385 ?_
    rw [show nI (5 * t) + 2 = nI (5 * t + 2) from nI_add _ 2]
    refine va_sld hx hb hX hbl hbA hS (i := nI (5 * t + 2)) (vp_in_nI (by omega) (by omega)) d_L_law_386 ?_
    rw [nI_clamp (by omega)]
    refine lv_aload_n hx hb d_L_law_387 rfl (lv_at hl 1 rfl) ?_
    refine lv_iload hx hb d_L_law_388 (lv_at hl 5 rfl) ?_
    refine lv_iconst (v := 3) hx hb d_L_law_390 (by decide) ?_
    refine lv_iadd hx hb d_L_law_391 ?_
    rw [show nI (5 * t) + 3 = nI (5 * t + 3) from nI_add _ 3]
    refine va_sld hx hb hX hbl hbA hS (i := nI (5 * t + 3)) (vp_in_nI (by omega) (by omega)) d_L_law_392 ?_
    rw [nI_clamp (by omega)]
    refine lv_if_eq (tgt := 400) hx hb d_L_law_393 (by decide) (fun _ => ?_) (fun c9 => absurd c_1 c9)
    refine lv_iconst (v := 0) hx hb d_L_law_400 (by decide) ?_
    have hM := hT.mv
    have hz := hT.hz
    have hPm := pm_mP hP
    have hDm := pm_mD hD
    have hFm := fr_A hDm hS hA
    refine va_calli (va_runV (As := [.int (xs (5 * t + 1)), .int (xs (5 * t + 2)), .int 0]) (rest := []) ⟨hx, hb, hml, hown, hts⟩ (c_M_end l D cs am τ n nm hM H_2.size (xs (5 * t + 1)) (xs (5 * t + 2)) 0) (cwV 3 hts (gw_V kw_696 kw_697 kw_698 kw_6 kw_699) rfl rfl rfl (by decide +kernel) ⟨Nat.le_of_ble_eq_true rfl, Nat.le_of_ble_eq_true rfl⟩) ⟨wr_blind, rl_recv hK (fr_l hPm) (by decide) gM_0 rfl, fun U hU hW => ⟨rfl, by rw [hU], by rw [hU]; exact fr_l hPm, va_K.moved hW.alike hK, (fr_dl hDm).weaken (fun _ _ _ _ => trivial)⟩⟩ rfl rfl hl.1 rfl (lv_room (Nat.le_of_ble_eq_true rfl)) d_L_law_401 ⟨by show _ ≤ 601024; omega, by show _ ≤ 7293034; omega⟩) hS (fun q _ h => hFm q h) hFm (fun rm_6 um_7 t9 H_5 locs ht hvm hw hB hz1 hk1 hS => ?_)
    have hm : mr_end τ n nm (xs (5 * t + 1)) (xs (5 * t + 2)) 0 rm_6 um_7 := hw
    obtain ⟨hP1, -, hD1⟩ := hB
    rw [ht] at hP1
    obtain ⟨hPm, hDm⟩ := fr_join hPm hDm hk1 hFm hP1 hD1
    have hP := pm_mP hPm
    have hD := pm_mD hDm
    replace hP : va_P D cls_ (wL cs ad s1 n nm ci cj E am um_7 o f1) H_5 := hP
    replace hD : va_D (AL s) (wL cs ad s1 n nm ci cj E am um_7 o f1) := hD
    obtain ⟨hk0, hr0, hT⟩ := tt_end hT hc hm
    refine lv_istore (lv' := [(6, .int rm_6), (5, .int kc_3), (0, .ref b), (1, .ref (ad 0)), (2, .ref (am 0)), (3, .ref o), (4, .int (nI (5 * t)))]) hx hb d_L_law_404 hl (by decide) rfl (fun ls hl => ?_)
    refine lv_goto (tgt := 914) hx hb d_L_law_406 (by decide) ?_
    exact lp_next C hn ht5 (lv_sub hl [2, 3, 4, 5, 6] rfl) hI hT hP hD hS (by omega) (by omega)
  · refine lv_iconst (v := 1) hx hb d_L_law_363 (by decide) ?_
    refine lv_goto (tgt := 368) hx hb d_L_law_364 (by decide) ?_
    refine lv_aload_n hx hb d_L_law_368 rfl (lv_at hl 3 rfl) ?_
    have hPh := pm_hP hP
    have hDh := pm_hD hD
    have hFh := fr_A hDh hS hA
    refine va_calli (vx_runSW (As := [.ref (ad 0), .int (xs (5 * t + 1)), .int (xs (5 * t + 2)), .int 1, .ref o]) (rest := []) ⟨hx, hb, hml, hown, hts⟩ (c_L_end l D cs ad σ n nm ci cj E hI hT.jv mi hst o f H.size (xs (5 * t + 1)) (xs (5 * t + 2)) 1) (vx_cwSW 5 hts (gw_SW kw_427 kw_428 kw_0 kw_429) rfl rfl rfl (by decide +kernel) ⟨Nat.le_of_ble_eq_true rfl, Nat.le_of_ble_eq_true rfl⟩) ⟨hp_blind, fun U hU hW => ⟨rfl, by rw [hU], by rw [hU]; exact fr_l hPh, va_K.moved hW.alike hK, (fr_dl hDh).weaken (fun _ _ _ _ => trivial), hXk.warm hW, by rw [hU]; exact ((hZ.kept (fun q h1 h2 => hS.2.1 q h1 h2)).moved hW.alike).narrow hFh, hg.moved hW.alike, by rw [hU]; exact ((hE.kept (fun q h1 h2 => hS.2.1 q h1 h2)).moved hW.alike).narrow hFh, va_Nc.moved hW.alike hnc⟩⟩ rfl rfl hl.1 rfl (lv_room (Nat.le_of_ble_eq_true rfl)) d_L_law_369 ⟨by show _ ≤ 601024; omega, by show _ ≤ 7293034; omega⟩) hS (fun q _ h => hFh q h) hFh (fun kc_9 uc t9 H_8 locs ht hvm hw hB hz1 hk1 hS => ?_)
    obtain ⟨rc_10, hc, hfo⟩ := hw
    obtain ⟨hP1, -, hD1⟩ := hB
    rw [ht] at hP1
    obtain ⟨hPh, hDh⟩ := fr_join hPh hDh hk1 hFh hP1 hD1
    have hP := pm_hP' hPh
    have hD := pm_hD' hDh
    obtain ⟨s1, f1⟩ := uc
    replace hfo : kc_9 = 0 → f1 0 = rc_10.toInt64 := hfo
    replace hP : va_P D cls_ (wL cs ad s1 n nm ci cj E am τ o f1) H_8 := hP
    replace hD : va_D (AL s) (wL cs ad s1 n nm ci cj E am τ o f1) := hD
    refine lv_istore (lv' := [(5, .int kc_9), (0, .ref b), (1, .ref (ad 0)), (2, .ref (am 0)), (3, .ref o), (4, .int (nI (5 * t)))]) hx hb d_L_law_372 hl (by decide) rfl (fun ls hl => ?_)
    refine lv_aload_n hx hb d_L_law_374 rfl (lv_at hl 3 rfl) ?_
    refine lv_aload_n hx hb d_L_law_375 rfl (lv_at hl 1 rfl) ?_
    refine lv_iload hx hb d_L_law_376 (lv_at hl 5 rfl) ?_
    refine lv_iconst (v := 1) hx hb d_L_law_378 (by decide) ?_
    refine lv_iadd hx hb d_L_law_379 ?_
    rw [show nI (5 * t) + 1 = nI (5 * t + 1) from nI_add _ 1]
    refine va_sld hx hb hX hbl hbA hS (i := nI (5 * t + 1)) (vp_in_nI (by omega) (by omega)) d_L_law_380 ?_
    rw [nI_clamp (by omega)]
    refine lv_aload_n hx hb d_L_law_381 rfl (lv_at hl 1 rfl) ?_
    refine lv_iload hx hb d_L_law_382 (lv_at hl 5 rfl) ?_
    refine lv_iconst (v := 2) hx hb d_L_law_384 (by decide) ?_
    refine lv_iadd hx hb d_L_law_385 ?_
    rw [show nI (5 * t) + 2 = nI (5 * t + 2) from nI_add _ 2]
    refine va_sld hx hb hX hbl hbA hS (i := nI (5 * t + 2)) (vp_in_nI (by omega) (by omega)) d_L_law_386 ?_
    rw [nI_clamp (by omega)]
    refine lv_aload_n hx hb d_L_law_387 rfl (lv_at hl 1 rfl) ?_
    refine lv_iload hx hb d_L_law_388 (lv_at hl 5 rfl) ?_
    refine lv_iconst (v := 3) hx hb d_L_law_390 (by decide) ?_
    refine lv_iadd hx hb d_L_law_391 ?_
    rw [show nI (5 * t) + 3 = nI (5 * t + 3) from nI_add _ 3]
    refine va_sld hx hb hX hbl hbA hS (i := nI (5 * t + 3)) (vp_in_nI (by omega) (by omega)) d_L_law_392 ?_
    rw [nI_clamp (by omega)]
    refine lv_if_eq (tgt := 400) hx hb d_L_law_393 (by decide) (fun c9 => absurd c9 c_1) (fun _ => ?_)
    refine lv_iconst (v := 1) hx hb d_L_law_396 (by decide) ?_
    refine lv_goto (tgt := 401) hx hb d_L_law_397 (by decide) ?_
    have hM := hT.mv
    have hz := hT.hz
    have hPm := pm_mP hP
    have hDm := pm_mD hD
    have hFm := fr_A hDm hS hA
    refine va_calli (va_runV (As := [.int (xs (5 * t + 1)), .int (xs (5 * t + 2)), .int 1]) (rest := []) ⟨hx, hb, hml, hown, hts⟩ (c_M_end l D cs am τ n nm hM H_8.size (xs (5 * t + 1)) (xs (5 * t + 2)) 1) (cwV 3 hts (gw_V kw_696 kw_697 kw_698 kw_6 kw_699) rfl rfl rfl (by decide +kernel) ⟨Nat.le_of_ble_eq_true rfl, Nat.le_of_ble_eq_true rfl⟩) ⟨wr_blind, rl_recv hK (fr_l hPm) (by decide) gM_0 rfl, fun U hU hW => ⟨rfl, by rw [hU], by rw [hU]; exact fr_l hPm, va_K.moved hW.alike hK, (fr_dl hDm).weaken (fun _ _ _ _ => trivial)⟩⟩ rfl rfl hl.1 rfl (lv_room (Nat.le_of_ble_eq_true rfl)) d_L_law_401 ⟨by show _ ≤ 601024; omega, by show _ ≤ 7293034; omega⟩) hS (fun q _ h => hFm q h) hFm (fun rm_12 um_13 t9 H_11 locs ht hvm hw hB hz1 hk1 hS => ?_)
    have hm : mr_end τ n nm (xs (5 * t + 1)) (xs (5 * t + 2)) 1 rm_12 um_13 := hw
    obtain ⟨hP1, -, hD1⟩ := hB
    rw [ht] at hP1
    obtain ⟨hPm, hDm⟩ := fr_join hPm hDm hk1 hFm hP1 hD1
    have hP := pm_mP hPm
    have hD := pm_mD hDm
    replace hP : va_P D cls_ (wL cs ad s1 n nm ci cj E am um_13 o f1) H_11 := hP
    replace hD : va_D (AL s) (wL cs ad s1 n nm ci cj E am um_13 o f1) := hD
    obtain ⟨hk0, hr0, hT⟩ := tt_end hT hc hm
    refine lv_istore (lv' := [(6, .int rm_12), (5, .int kc_9), (0, .ref b), (1, .ref (ad 0)), (2, .ref (am 0)), (3, .ref o), (4, .int (nI (5 * t)))]) hx hb d_L_law_404 hl (by decide) rfl (fun ls hl => ?_)
    refine lv_goto (tgt := 914) hx hb d_L_law_406 (by decide) ?_
    exact lp_next C hn ht5 (lv_sub hl [2, 3, 4, 5, 6] rfl) hI hT hP hD hS (by omega) (by omega)
set_option maxHeartbeats 4000000 in
set_option maxRecDepth 100000 in
theorem lc_5 {p : Program} {l : Launch} {e : Env} {s : State} {m : MethodId} {below : List Frame} {meth : Method} {c : Code} {b L : Nat} {xs : Nat → Int32} {D : va_G} {cs : Nat → ClassId} {mi E : Nat} (C : lw_C p l s m meth c b L xs D cs mi E 2560) {t : Nat} (hn : lpH 23 p l e s m below meth c b L D cs E (t + 1)) (ht5 : 5 * t + 5 ≤ L) {ls : Array Slot} {H : Heap} {locs : List Loc} {ad am : Nat → Nat} {σ τ : Nat → Nat → Int32} {n nm ci cj o : Nat} {f : Nat → Int64} (hl : lv_has ls 7 [(0, .ref b), (1, .ref (ad 0)), (2, .ref (am 0)), (3, .ref o), (4, .int (nI (5 * t)))]) (hI : Iv n nm ci cj) (hT : TT σ τ n nm) (ht0 : t = 0 → nm = 0) (hP : va_P D cls_ (wL cs ad σ n nm ci cj E am τ o f) H) (hD : va_D (AL s) (wL cs ad σ n nm ci cj E am τ o f)) (hS : va_S (AL s) s.heap H locs) : W p l e room_1 s m #[Value.ref b] below meth c H locs (43 + 4 * t) (978 + 120 * t) (lw_Z below #[Value.ref b] s) (F0 m 409 ls []) := by
  have C9 := C
  obtain ⟨hx, hb, hr, hml, hown, hG, hX, hbl, hlocks, hK, hXk, hZ, hg, hE, hnc, hst, hLN⟩ := C9
  have hA : ∀ q : Nat, s.heap.size ≤ q → AL s q := fun _ h => h
  have hbA : ¬ AL s b := Nat.not_le.mpr hbl
  have hts : ∀ w ∈ (Cond.initialized "InspectSteps" :: GW), w.before #[Value.ref b] s = true := List.forall_mem_cons.mpr ⟨hG _ kw_1, hG⟩
  refine lv_aload_n hx hb d_L_law_409 rfl (lv_at hl 1 rfl) ?_
  refine lv_aload_n hx hb d_L_law_410 rfl (lv_at hl 0 rfl) ?_
  refine lv_iload hx hb d_L_law_411 (lv_at hl 4 rfl) ?_
  refine lv_iconst (v := 1) hx hb d_L_law_413 (by decide) ?_
  refine lv_iadd hx hb d_L_law_414 ?_
  rw [show nI (5 * t) + 1 = nI (5 * t + 1) from nI_add _ 1]
  refine va_sld hx hb hX hbl hbA hS (i := nI (5 * t + 1)) (vp_in_nI (by omega) (by omega)) d_L_law_415 ?_
  rw [nI_clamp (by omega)]
  have hPx := fr_l hP
  have hDx := fr_dl hD
  have hFX := fr_A hD hS hA
  refine va_calli (va_runV (As := [.int (xs (5 * t + 1))]) (rest := []) ⟨hx, hb, hml, hown, hts⟩ (c_C_giveUp l D cs ad σ n nm ci cj E hI H.size (xs (5 * t + 1))) (cwV 1 hts (gw_V kw_108 kw_109 kw_110 kw_1 kw_111) rfl rfl rfl (by decide +kernel) ⟨Nat.le_of_ble_eq_true rfl, Nat.le_of_ble_eq_true rfl⟩) ⟨wr_blind, rl_recv hK hPx (RC_f (by decide)) gC_0 rfl, fun U hU hW => ⟨rfl, by rw [hU], by rw [hU]; exact hPx, va_K.moved hW.alike hK, hDx.weaken (fun _ _ _ _ => trivial)⟩⟩ rfl rfl hl.1 rfl (lv_room (Nat.le_of_ble_eq_true rfl)) d_L_law_416 ⟨by show _ ≤ 601024; omega, by show _ ≤ 7293034; omega⟩) hS (fun q _ h => hFX q h) hFX (fun rc_2 uc_3 t9 H_1 locs ht hvm hw hB hz1 hk1 hS => ?_)
  have hc : cr_giveUp σ n nm (xs (5 * t + 1)) rc_2 uc_3 := hw
  obtain ⟨hP1, -, hD1⟩ := hB
  rw [ht] at hP1
  obtain ⟨hP, hD⟩ := fr_join hP hD hk1 hFX hP1 hD1
  replace hP : va_P D cls_ (wL cs ad uc_3 n nm ci cj E am τ o f) H_1 := hP
  replace hD : va_D (AL s) (wL cs ad uc_3 n nm ci cj E am τ o f) := hD
  refine lv_pop hx hb d_L_law_419 rfl ?_
  refine lv_aload_n hx hb d_L_law_420 rfl (lv_at hl 2 rfl) ?_
  refine lv_aload_n hx hb d_L_law_421 rfl (lv_at hl 0 rfl) ?_
  refine lv_iload hx hb d_L_law_422 (lv_at hl 4 rfl) ?_
  refine lv_iconst (v := 1) hx hb d_L_law_424 (by decide) ?_
  refine lv_iadd hx hb d_L_law_425 ?_
  rw [show nI (5 * t) + 1 = nI (5 * t + 1) from nI_add _ 1]
  refine va_sld hx hb hX hbl hbA hS (i := nI (5 * t + 1)) (vp_in_nI (by omega) (by omega)) d_L_law_426 ?_
  rw [nI_clamp (by omega)]
  have hM := hT.mv
  have hz := hT.hz
  have hPm := pm_mP hP
  have hDm := pm_mD hD
  have hFm := fr_A hDm hS hA
  refine va_calli (va_runV (As := [.int (xs (5 * t + 1))]) (rest := []) ⟨hx, hb, hml, hown, hts⟩ (c_M_giveUp l D cs am τ n nm hM H_1.size (xs (5 * t + 1))) (cwV 1 hts (gw_V kw_700 kw_701 kw_702 kw_6 kw_703) rfl rfl rfl (by decide +kernel) ⟨Nat.le_of_ble_eq_true rfl, Nat.le_of_ble_eq_true rfl⟩) ⟨wr_blind, rl_recv hK (fr_l hPm) (by decide) gM_0 rfl, fun U hU hW => ⟨rfl, by rw [hU], by rw [hU]; exact fr_l hPm, va_K.moved hW.alike hK, (fr_dl hDm).weaken (fun _ _ _ _ => trivial)⟩⟩ rfl rfl hl.1 rfl (lv_room (Nat.le_of_ble_eq_true rfl)) d_L_law_427 ⟨by show _ ≤ 601024; omega, by show _ ≤ 7293034; omega⟩) hS (fun q _ h => hFm q h) hFm (fun rm_5 um_6 t9 H_4 locs ht hvm hw hB hz1 hk1 hS => ?_)
  have hm : mr_giveUp τ n nm (xs (5 * t + 1)) rm_5 um_6 := hw
  obtain ⟨hP1, -, hD1⟩ := hB
  rw [ht] at hP1
  obtain ⟨hPm, hDm⟩ := fr_join hPm hDm hk1 hFm hP1 hD1
  have hP := pm_mP hPm
  have hD := pm_mD hDm
  replace hP : va_P D cls_ (wL cs ad uc_3 n nm ci cj E am um_6 o f) H_4 := hP
  replace hD : va_D (AL s) (wL cs ad uc_3 n nm ci cj E am um_6 o f) := hD
  obtain ⟨heq, hT⟩ := tt_giveUp hT hc hm
  subst heq
  refine lv_pop hx hb d_L_law_430 rfl ?_
  refine lv_goto (tgt := 914) hx hb d_L_law_431 (by decide) ?_
  exact lp_next C hn ht5 (lv_sub hl [0, 1, 2, 3, 4] rfl) hI hT hP hD hS (by omega) (by omega)
set_option maxHeartbeats 4000000 in
set_option maxRecDepth 100000 in
theorem lc_6 {p : Program} {l : Launch} {e : Env} {s : State} {m : MethodId} {below : List Frame} {meth : Method} {c : Code} {b L : Nat} {xs : Nat → Int32} {D : va_G} {cs : Nat → ClassId} {mi E : Nat} (C : lw_C p l s m meth c b L xs D cs mi E 2560) {t : Nat} (hn : lpH 23 p l e s m below meth c b L D cs E (t + 1)) (ht5 : 5 * t + 5 ≤ L) {ls : Array Slot} {H : Heap} {locs : List Loc} {ad am : Nat → Nat} {σ τ : Nat → Nat → Int32} {n nm ci cj o : Nat} {f : Nat → Int64} (hl : lv_has ls 7 [(0, .ref b), (1, .ref (ad 0)), (2, .ref (am 0)), (3, .ref o), (4, .int (nI (5 * t)))]) (hI : Iv n nm ci cj) (hT : TT σ τ n nm) (ht0 : t = 0 → nm = 0) (hP : va_P D cls_ (wL cs ad σ n nm ci cj E am τ o f) H) (hD : va_D (AL s) (wL cs ad σ n nm ci cj E am τ o f)) (hS : va_S (AL s) s.heap H locs) : W p l e room_1 s m #[Value.ref b] below meth c H locs (43 + 4 * t) (978 + 120 * t) (lw_Z below #[Value.ref b] s) (F0 m 434 ls []) := by
  have C9 := C
  obtain ⟨hx, hb, hr, hml, hown, hG, hX, hbl, hlocks, hK, hXk, hZ, hg, hE, hnc, hst, hLN⟩ := C9
  have hA : ∀ q : Nat, s.heap.size ≤ q → AL s q := fun _ h => h
  have hbA : ¬ AL s b := Nat.not_le.mpr hbl
  have hts : ∀ w ∈ (Cond.initialized "InspectSteps" :: GW), w.before #[Value.ref b] s = true := List.forall_mem_cons.mpr ⟨hG _ kw_1, hG⟩
  refine lv_aload_n hx hb d_L_law_434 rfl (lv_at hl 1 rfl) ?_
  refine lv_aload_n hx hb d_L_law_435 rfl (lv_at hl 0 rfl) ?_
  refine lv_iload hx hb d_L_law_436 (lv_at hl 4 rfl) ?_
  refine lv_iconst (v := 1) hx hb d_L_law_438 (by decide) ?_
  refine lv_iadd hx hb d_L_law_439 ?_
  rw [show nI (5 * t) + 1 = nI (5 * t + 1) from nI_add _ 1]
  refine va_sld hx hb hX hbl hbA hS (i := nI (5 * t + 1)) (vp_in_nI (by omega) (by omega)) d_L_law_440 ?_
  rw [nI_clamp (by omega)]
  refine lv_aload_n hx hb d_L_law_441 rfl (lv_at hl 0 rfl) ?_
  refine lv_iload hx hb d_L_law_442 (lv_at hl 4 rfl) ?_
  refine lv_iconst (v := 2) hx hb d_L_law_444 (by decide) ?_
  refine lv_iadd hx hb d_L_law_445 ?_
  rw [show nI (5 * t) + 2 = nI (5 * t + 2) from nI_add _ 2]
  refine va_sld hx hb hX hbl hbA hS (i := nI (5 * t + 2)) (vp_in_nI (by omega) (by omega)) d_L_law_446 ?_
  rw [nI_clamp (by omega)]
  refine lv_aload_n hx hb d_L_law_447 rfl (lv_at hl 0 rfl) ?_
  refine lv_iload hx hb d_L_law_448 (lv_at hl 4 rfl) ?_
  refine lv_iconst (v := 3) hx hb d_L_law_450 (by decide) ?_
  refine lv_iadd hx hb d_L_law_451 ?_
  rw [show nI (5 * t) + 3 = nI (5 * t + 3) from nI_add _ 3]
  refine va_sld hx hb hX hbl hbA hS (i := nI (5 * t + 3)) (vp_in_nI (by omega) (by omega)) d_L_law_452 ?_
  rw [nI_clamp (by omega)]
  refine lv_aload_n hx hb d_L_law_453 rfl (lv_at hl 0 rfl) ?_
  refine lv_iload hx hb d_L_law_454 (lv_at hl 4 rfl) ?_
  refine lv_iconst (v := 4) hx hb d_L_law_456 (by decide) ?_
  refine lv_iadd hx hb d_L_law_457 ?_
  rw [show nI (5 * t) + 4 = nI (5 * t + 4) from nI_add _ 4]
  refine va_sld hx hb hX hbl hbA hS (i := nI (5 * t + 4)) (vp_in_nI (by omega) (by omega)) d_L_law_458 ?_
  rw [nI_clamp (by omega)]
  refine lv_aload_n hx hb d_L_law_459 rfl (lv_at hl 3 rfl) ?_
  have hPh := pm_hP hP
  have hDh := pm_hD hD
  have hFh := fr_A hDh hS hA
  refine va_calli (vx_runSW (As := [.ref (ad 0), .int (xs (5 * t + 1)), .int (xs (5 * t + 2)), .int (xs (5 * t + 3)), .int (xs (5 * t + 4)), .ref o]) (rest := []) ⟨hx, hb, hml, hown, hts⟩ (c_L_seal l D cs ad σ n nm ci cj E hI hT.jv mi hst o f H.size (xs (5 * t + 1)) (xs (5 * t + 2)) (xs (5 * t + 3)) (xs (5 * t + 4))) (vx_cwSW 6 hts (gw_SW kw_434 kw_435 kw_0 kw_436) rfl rfl rfl (by decide +kernel) ⟨Nat.le_of_ble_eq_true rfl, Nat.le_of_ble_eq_true rfl⟩) ⟨hp_blind, fun U hU hW => ⟨rfl, by rw [hU], by rw [hU]; exact fr_l hPh, va_K.moved hW.alike hK, (fr_dl hDh).weaken (fun _ _ _ _ => trivial), hXk.warm hW, by rw [hU]; exact ((hZ.kept (fun q h1 h2 => hS.2.1 q h1 h2)).moved hW.alike).narrow hFh, hg.moved hW.alike, by rw [hU]; exact ((hE.kept (fun q h1 h2 => hS.2.1 q h1 h2)).moved hW.alike).narrow hFh, va_Nc.moved hW.alike hnc⟩⟩ rfl rfl hl.1 rfl (lv_room (Nat.le_of_ble_eq_true rfl)) d_L_law_460 ⟨by show _ ≤ 601024; omega, by show _ ≤ 7293034; omega⟩) hS (fun q _ h => hFh q h) hFh (fun kc_2 uc t9 H_1 locs ht hvm hw hB hz1 hk1 hS => ?_)
  obtain ⟨rc_3, hc, hfo⟩ := hw
  obtain ⟨hP1, -, hD1⟩ := hB
  rw [ht] at hP1
  obtain ⟨hPh, hDh⟩ := fr_join hPh hDh hk1 hFh hP1 hD1
  have hP := pm_hP' hPh
  have hD := pm_hD' hDh
  obtain ⟨s1, f1⟩ := uc
  replace hfo : kc_2 = 0 → f1 0 = rc_3.toInt64 := hfo
  replace hP : va_P D cls_ (wL cs ad s1 n nm ci cj E am τ o f1) H_1 := hP
  replace hD : va_D (AL s) (wL cs ad s1 n nm ci cj E am τ o f1) := hD
  refine lv_istore (lv' := [(5, .int kc_2), (0, .ref b), (1, .ref (ad 0)), (2, .ref (am 0)), (3, .ref o), (4, .int (nI (5 * t)))]) hx hb d_L_law_463 hl (by decide) rfl (fun ls hl => ?_)
  refine lv_aload_n hx hb d_L_law_465 rfl (lv_at hl 3 rfl) ?_
  refine lv_aload_n hx hb d_L_law_466 rfl (lv_at hl 1 rfl) ?_
  refine lv_iload hx hb d_L_law_467 (lv_at hl 5 rfl) ?_
  refine lv_iconst (v := 1) hx hb d_L_law_469 (by decide) ?_
  refine lv_iadd hx hb d_L_law_470 ?_
  rw [show nI (5 * t) + 1 = nI (5 * t + 1) from nI_add _ 1]
  refine va_sld hx hb hX hbl hbA hS (i := nI (5 * t + 1)) (vp_in_nI (by omega) (by omega)) d_L_law_471 ?_
  rw [nI_clamp (by omega)]
  refine lv_aload_n hx hb d_L_law_472 rfl (lv_at hl 1 rfl) ?_
  refine lv_iload hx hb d_L_law_473 (lv_at hl 5 rfl) ?_
  refine lv_iconst (v := 2) hx hb d_L_law_475 (by decide) ?_
  refine lv_iadd hx hb d_L_law_476 ?_
  rw [show nI (5 * t) + 2 = nI (5 * t + 2) from nI_add _ 2]
  refine va_sld hx hb hX hbl hbA hS (i := nI (5 * t + 2)) (vp_in_nI (by omega) (by omega)) d_L_law_477 ?_
  rw [nI_clamp (by omega)]
  refine lv_aload_n hx hb d_L_law_478 rfl (lv_at hl 1 rfl) ?_
  refine lv_iload hx hb d_L_law_479 (lv_at hl 5 rfl) ?_
  refine lv_iconst (v := 3) hx hb d_L_law_481 (by decide) ?_
  refine lv_iadd hx hb d_L_law_482 ?_
  rw [show nI (5 * t) + 3 = nI (5 * t + 3) from nI_add _ 3]
  refine va_sld hx hb hX hbl hbA hS (i := nI (5 * t + 3)) (vp_in_nI (by omega) (by omega)) d_L_law_483 ?_
  rw [nI_clamp (by omega)]
  refine lv_aload_n hx hb d_L_law_484 rfl (lv_at hl 1 rfl) ?_
  refine lv_iload hx hb d_L_law_485 (lv_at hl 5 rfl) ?_
  refine lv_iconst (v := 4) hx hb d_L_law_487 (by decide) ?_
  refine lv_iadd hx hb d_L_law_488 ?_
  rw [show nI (5 * t) + 4 = nI (5 * t + 4) from nI_add _ 4]
  refine va_sld hx hb hX hbl hbA hS (i := nI (5 * t + 4)) (vp_in_nI (by omega) (by omega)) d_L_law_489 ?_
  rw [nI_clamp (by omega)]
  have hM := hT.mv
  have hz := hT.hz
  have hPm := pm_mP hP
  have hDm := pm_mD hD
  have hFm := fr_A hDm hS hA
  refine va_calli (va_runV (As := [.int (xs (5 * t + 1)), .int (xs (5 * t + 2)), .int (xs (5 * t + 3)), .int (xs (5 * t + 4))]) (rest := []) ⟨hx, hb, hml, hown, hts⟩ (c_M_seal l D cs am τ n nm hM hz H_1.size (xs (5 * t + 1)) (xs (5 * t + 2)) (xs (5 * t + 3)) (xs (5 * t + 4))) (cwV 4 hts (gw_V kw_704 kw_705 kw_706 kw_6 kw_707) rfl rfl rfl (by decide +kernel) ⟨Nat.le_of_ble_eq_true rfl, Nat.le_of_ble_eq_true rfl⟩) ⟨wr_blind, rl_recv hK (fr_l hPm) (by decide) gM_0 rfl, fun U hU hW => ⟨rfl, by rw [hU], by rw [hU]; exact fr_l hPm, va_K.moved hW.alike hK, (fr_dl hDm).weaken (fun _ _ _ _ => trivial)⟩⟩ rfl rfl hl.1 rfl (lv_room (Nat.le_of_ble_eq_true rfl)) d_L_law_490 ⟨by show _ ≤ 601024; omega, by show _ ≤ 7293034; omega⟩) hS (fun q _ h => hFm q h) hFm (fun rm_5 um_6 t9 H_4 locs ht hvm hw hB hz1 hk1 hS => ?_)
  have hm : mr_seal τ n nm (xs (5 * t + 1)) (xs (5 * t + 2)) (xs (5 * t + 3)) (xs (5 * t + 4)) rm_5 um_6 := hw
  obtain ⟨hP1, -, hD1⟩ := hB
  rw [ht] at hP1
  obtain ⟨hPm, hDm⟩ := fr_join hPm hDm hk1 hFm hP1 hD1
  have hP := pm_mP hPm
  have hD := pm_mD hDm
  replace hP : va_P D cls_ (wL cs ad s1 n nm ci cj E am um_6 o f1) H_4 := hP
  replace hD : va_D (AL s) (wL cs ad s1 n nm ci cj E am um_6 o f1) := hD
  obtain ⟨hk0, hr0, hT⟩ := tt_seal hT hc hm
  refine lv_istore (lv' := [(6, .int rm_5), (5, .int kc_2), (0, .ref b), (1, .ref (ad 0)), (2, .ref (am 0)), (3, .ref o), (4, .int (nI (5 * t)))]) hx hb d_L_law_493 hl (by decide) rfl (fun ls hl => ?_)
  refine lv_goto (tgt := 914) hx hb d_L_law_495 (by decide) ?_
  exact lp_next C hn ht5 (lv_sub hl [2, 3, 4, 5, 6] rfl) hI hT hP hD hS (by omega) (by omega)
set_option maxHeartbeats 4000000 in
set_option maxRecDepth 100000 in
theorem lc_7 {p : Program} {l : Launch} {e : Env} {s : State} {m : MethodId} {below : List Frame} {meth : Method} {c : Code} {b L : Nat} {xs : Nat → Int32} {D : va_G} {cs : Nat → ClassId} {mi E : Nat} (C : lw_C p l s m meth c b L xs D cs mi E 2560) {t : Nat} (hn : lpH 23 p l e s m below meth c b L D cs E (t + 1)) (ht5 : 5 * t + 5 ≤ L) {ls : Array Slot} {H : Heap} {locs : List Loc} {ad am : Nat → Nat} {σ τ : Nat → Nat → Int32} {n nm ci cj o : Nat} {f : Nat → Int64} (hl : lv_has ls 7 [(0, .ref b), (1, .ref (ad 0)), (2, .ref (am 0)), (3, .ref o), (4, .int (nI (5 * t)))]) (hI : Iv n nm ci cj) (hT : TT σ τ n nm) (ht0 : t = 0 → nm = 0) (hP : va_P D cls_ (wL cs ad σ n nm ci cj E am τ o f) H) (hD : va_D (AL s) (wL cs ad σ n nm ci cj E am τ o f)) (hS : va_S (AL s) s.heap H locs) : W p l e room_1 s m #[Value.ref b] below meth c H locs (43 + 4 * t) (978 + 120 * t) (lw_Z below #[Value.ref b] s) (F0 m 498 ls []) := by
  have C9 := C
  obtain ⟨hx, hb, hr, hml, hown, hG, hX, hbl, hlocks, hK, hXk, hZ, hg, hE, hnc, hst, hLN⟩ := C9
  have hA : ∀ q : Nat, s.heap.size ≤ q → AL s q := fun _ h => h
  have hbA : ¬ AL s b := Nat.not_le.mpr hbl
  have hts : ∀ w ∈ (Cond.initialized "InspectSteps" :: GW), w.before #[Value.ref b] s = true := List.forall_mem_cons.mpr ⟨hG _ kw_1, hG⟩
  refine lv_aload_n hx hb d_L_law_498 rfl (lv_at hl 1 rfl) ?_
  refine lv_aload_n hx hb d_L_law_499 rfl (lv_at hl 0 rfl) ?_
  refine lv_iload hx hb d_L_law_500 (lv_at hl 4 rfl) ?_
  refine lv_iconst (v := 1) hx hb d_L_law_502 (by decide) ?_
  refine lv_iadd hx hb d_L_law_503 ?_
  rw [show nI (5 * t) + 1 = nI (5 * t + 1) from nI_add _ 1]
  refine va_sld hx hb hX hbl hbA hS (i := nI (5 * t + 1)) (vp_in_nI (by omega) (by omega)) d_L_law_504 ?_
  rw [nI_clamp (by omega)]
  refine lv_aload_n hx hb d_L_law_505 rfl (lv_at hl 0 rfl) ?_
  refine lv_iload hx hb d_L_law_506 (lv_at hl 4 rfl) ?_
  refine lv_iconst (v := 2) hx hb d_L_law_508 (by decide) ?_
  refine lv_iadd hx hb d_L_law_509 ?_
  rw [show nI (5 * t) + 2 = nI (5 * t + 2) from nI_add _ 2]
  refine va_sld hx hb hX hbl hbA hS (i := nI (5 * t + 2)) (vp_in_nI (by omega) (by omega)) d_L_law_510 ?_
  rw [nI_clamp (by omega)]
  refine lv_aload_n hx hb d_L_law_511 rfl (lv_at hl 3 rfl) ?_
  have hPh := pm_hP hP
  have hDh := pm_hD hD
  have hFh := fr_A hDh hS hA
  refine va_calli (vx_runSW (As := [.ref (ad 0), .int (xs (5 * t + 1)), .int (xs (5 * t + 2)), .ref o]) (rest := []) ⟨hx, hb, hml, hown, hts⟩ (c_L_sample l D cs ad σ n nm ci cj E hI hT.jv mi hst o f H.size (xs (5 * t + 1)) (xs (5 * t + 2))) (vx_cwSW 4 hts (gw_SW kw_450 kw_451 kw_0 kw_452) rfl rfl rfl (by decide +kernel) ⟨Nat.le_of_ble_eq_true rfl, Nat.le_of_ble_eq_true rfl⟩) ⟨hp_blind, fun U hU hW => ⟨rfl, by rw [hU], by rw [hU]; exact fr_l hPh, va_K.moved hW.alike hK, (fr_dl hDh).weaken (fun _ _ _ _ => trivial), hXk.warm hW, by rw [hU]; exact ((hZ.kept (fun q h1 h2 => hS.2.1 q h1 h2)).moved hW.alike).narrow hFh, hg.moved hW.alike, by rw [hU]; exact ((hE.kept (fun q h1 h2 => hS.2.1 q h1 h2)).moved hW.alike).narrow hFh, va_Nc.moved hW.alike hnc⟩⟩ rfl rfl hl.1 rfl (lv_room (Nat.le_of_ble_eq_true rfl)) d_L_law_512 ⟨by show _ ≤ 601024; omega, by show _ ≤ 7293034; omega⟩) hS (fun q _ h => hFh q h) hFh (fun kc_2 uc t9 H_1 locs ht hvm hw hB hz1 hk1 hS => ?_)
  obtain ⟨rc_3, hc, hfo⟩ := hw
  obtain ⟨hP1, -, hD1⟩ := hB
  rw [ht] at hP1
  obtain ⟨hPh, hDh⟩ := fr_join hPh hDh hk1 hFh hP1 hD1
  have hP := pm_hP' hPh
  have hD := pm_hD' hDh
  obtain ⟨⟨ad1, nm1, cj1, s1⟩, f1⟩ := uc
  obtain ⟨e0, hI1⟩ := cr_sam_ad hc hI
  replace e0 : ad1 0 = ad 0 := e0
  replace hI1 : Iv n nm1 ci cj1 := hI1
  rw [← e0] at hl
  replace hfo : kc_2 = 0 → f1 0 = rc_3.toInt64 := hfo
  replace hP : va_P D cls_ (wL cs ad1 s1 n nm1 ci cj1 E am τ o f1) H_1 := hP
  replace hD : va_D (AL s) (wL cs ad1 s1 n nm1 ci cj1 E am τ o f1) := hD
  refine lv_istore (lv' := [(5, .int kc_2), (0, .ref b), (1, .ref (ad1 0)), (2, .ref (am 0)), (3, .ref o), (4, .int (nI (5 * t)))]) hx hb d_L_law_515 hl (by decide) rfl (fun ls hl => ?_)
  refine lv_aload_n hx hb d_L_law_517 rfl (lv_at hl 3 rfl) ?_
  refine lv_aload_n hx hb d_L_law_518 rfl (lv_at hl 1 rfl) ?_
  refine lv_iload hx hb d_L_law_519 (lv_at hl 5 rfl) ?_
  refine lv_iconst (v := 1) hx hb d_L_law_521 (by decide) ?_
  refine lv_iadd hx hb d_L_law_522 ?_
  rw [show nI (5 * t) + 1 = nI (5 * t + 1) from nI_add _ 1]
  refine va_sld hx hb hX hbl hbA hS (i := nI (5 * t + 1)) (vp_in_nI (by omega) (by omega)) d_L_law_523 ?_
  rw [nI_clamp (by omega)]
  refine lv_aload_n hx hb d_L_law_524 rfl (lv_at hl 1 rfl) ?_
  refine lv_iload hx hb d_L_law_525 (lv_at hl 5 rfl) ?_
  refine lv_iconst (v := 2) hx hb d_L_law_527 (by decide) ?_
  refine lv_iadd hx hb d_L_law_528 ?_
  rw [show nI (5 * t) + 2 = nI (5 * t + 2) from nI_add _ 2]
  refine va_sld hx hb hX hbl hbA hS (i := nI (5 * t + 2)) (vp_in_nI (by omega) (by omega)) d_L_law_529 ?_
  rw [nI_clamp (by omega)]
  have hM := hT.mv
  have hz := hT.hz
  have hPm := pm_mP hP
  have hDm := pm_mD hD
  have hFm := fr_A hDm hS hA
  refine va_calli (va_runV (As := [.int (xs (5 * t + 1)), .int (xs (5 * t + 2))]) (rest := []) ⟨hx, hb, hml, hown, hts⟩ (c_M_sample l D cs am τ n nm hM H_1.size (xs (5 * t + 1)) (xs (5 * t + 2))) (cwV 2 hts (gw_V kw_713 kw_714 kw_715 kw_6 kw_716) rfl rfl rfl (by decide +kernel) ⟨Nat.le_of_ble_eq_true rfl, Nat.le_of_ble_eq_true rfl⟩) ⟨wr_blind, rl_recv hK (fr_l hPm) (by decide) gM_0 rfl, fun U hU hW => ⟨rfl, by rw [hU], by rw [hU]; exact fr_l hPm, va_K.moved hW.alike hK, (fr_dl hDm).weaken (fun _ _ _ _ => trivial)⟩⟩ rfl rfl hl.1 rfl (lv_room (Nat.le_of_ble_eq_true rfl)) d_L_law_530 ⟨by show _ ≤ 601024; omega, by show _ ≤ 7293034; omega⟩) hS (fun q _ h => hFm q h) hFm (fun rm_5 um_6 t9 H_4 locs ht hvm hw hB hz1 hk1 hS => ?_)
  have hm : mr_sample τ n nm (xs (5 * t + 1)) (xs (5 * t + 2)) rm_5 um_6 := hw
  obtain ⟨hP1, -, hD1⟩ := hB
  rw [ht] at hP1
  obtain ⟨hPm, hDm⟩ := fr_join hPm hDm hk1 hFm hP1 hD1
  have hP := pm_mP hPm
  have hD := pm_mD hDm
  replace hP : va_P D cls_ (wL cs ad1 s1 n nm1 ci cj1 E am um_6 o f1) H_4 := hP
  replace hD : va_D (AL s) (wL cs ad1 s1 n nm1 ci cj1 E am um_6 o f1) := hD
  obtain ⟨hk0, hr0, hT⟩ := tt_sample hT hc hm
  replace hT : TT s1 um_6 n nm1 := hT
  have hI := hI1
  refine lv_istore (lv' := [(6, .int rm_5), (5, .int kc_2), (0, .ref b), (1, .ref (ad1 0)), (2, .ref (am 0)), (3, .ref o), (4, .int (nI (5 * t)))]) hx hb d_L_law_533 hl (by decide) rfl (fun ls hl => ?_)
  refine lv_goto (tgt := 914) hx hb d_L_law_535 (by decide) ?_
  exact lp_next C hn ht5 (lv_sub hl [2, 3, 4, 5, 6] rfl) hI hT hP hD hS (by omega) (by omega)
set_option maxHeartbeats 4000000 in
set_option maxRecDepth 100000 in
theorem lc_8 {p : Program} {l : Launch} {e : Env} {s : State} {m : MethodId} {below : List Frame} {meth : Method} {c : Code} {b L : Nat} {xs : Nat → Int32} {D : va_G} {cs : Nat → ClassId} {mi E : Nat} (C : lw_C p l s m meth c b L xs D cs mi E 2560) {t : Nat} (hn : lpH 23 p l e s m below meth c b L D cs E (t + 1)) (ht5 : 5 * t + 5 ≤ L) {ls : Array Slot} {H : Heap} {locs : List Loc} {ad am : Nat → Nat} {σ τ : Nat → Nat → Int32} {n nm ci cj o : Nat} {f : Nat → Int64} (hl : lv_has ls 7 [(0, .ref b), (1, .ref (ad 0)), (2, .ref (am 0)), (3, .ref o), (4, .int (nI (5 * t)))]) (hI : Iv n nm ci cj) (hT : TT σ τ n nm) (ht0 : t = 0 → nm = 0) (hP : va_P D cls_ (wL cs ad σ n nm ci cj E am τ o f) H) (hD : va_D (AL s) (wL cs ad σ n nm ci cj E am τ o f)) (hS : va_S (AL s) s.heap H locs) : W p l e room_1 s m #[Value.ref b] below meth c H locs (43 + 4 * t) (978 + 120 * t) (lw_Z below #[Value.ref b] s) (F0 m 538 ls []) := by
  have C9 := C
  obtain ⟨hx, hb, hr, hml, hown, hG, hX, hbl, hlocks, hK, hXk, hZ, hg, hE, hnc, hst, hLN⟩ := C9
  have hA : ∀ q : Nat, s.heap.size ≤ q → AL s q := fun _ h => h
  have hbA : ¬ AL s b := Nat.not_le.mpr hbl
  have hts : ∀ w ∈ (Cond.initialized "InspectSteps" :: GW), w.before #[Value.ref b] s = true := List.forall_mem_cons.mpr ⟨hG _ kw_1, hG⟩
  refine lv_aload_n hx hb d_L_law_538 rfl (lv_at hl 1 rfl) ?_
  refine lv_aload_n hx hb d_L_law_539 rfl (lv_at hl 0 rfl) ?_
  refine lv_iload hx hb d_L_law_540 (lv_at hl 4 rfl) ?_
  refine lv_iconst (v := 1) hx hb d_L_law_542 (by decide) ?_
  refine lv_iadd hx hb d_L_law_543 ?_
  rw [show nI (5 * t) + 1 = nI (5 * t + 1) from nI_add _ 1]
  refine va_sld hx hb hX hbl hbA hS (i := nI (5 * t + 1)) (vp_in_nI (by omega) (by omega)) d_L_law_544 ?_
  rw [nI_clamp (by omega)]
  refine lv_aload_n hx hb d_L_law_545 rfl (lv_at hl 0 rfl) ?_
  refine lv_iload hx hb d_L_law_546 (lv_at hl 4 rfl) ?_
  refine lv_iconst (v := 2) hx hb d_L_law_548 (by decide) ?_
  refine lv_iadd hx hb d_L_law_549 ?_
  rw [show nI (5 * t) + 2 = nI (5 * t + 2) from nI_add _ 2]
  refine va_sld hx hb hX hbl hbA hS (i := nI (5 * t + 2)) (vp_in_nI (by omega) (by omega)) d_L_law_550 ?_
  rw [nI_clamp (by omega)]
  refine lv_aload_n hx hb d_L_law_551 rfl (lv_at hl 0 rfl) ?_
  refine lv_iload hx hb d_L_law_552 (lv_at hl 4 rfl) ?_
  refine lv_iconst (v := 3) hx hb d_L_law_554 (by decide) ?_
  refine lv_iadd hx hb d_L_law_555 ?_
  rw [show nI (5 * t) + 3 = nI (5 * t + 3) from nI_add _ 3]
  refine va_sld hx hb hX hbl hbA hS (i := nI (5 * t + 3)) (vp_in_nI (by omega) (by omega)) d_L_law_556 ?_
  rw [nI_clamp (by omega)]
  refine lv_aload_n hx hb d_L_law_557 rfl (lv_at hl 0 rfl) ?_
  refine lv_iload hx hb d_L_law_558 (lv_at hl 4 rfl) ?_
  refine lv_iconst (v := 4) hx hb d_L_law_560 (by decide) ?_
  refine lv_iadd hx hb d_L_law_561 ?_
  rw [show nI (5 * t) + 4 = nI (5 * t + 4) from nI_add _ 4]
  refine va_sld hx hb hX hbl hbA hS (i := nI (5 * t + 4)) (vp_in_nI (by omega) (by omega)) d_L_law_562 ?_
  rw [nI_clamp (by omega)]
  refine lv_aload_n hx hb d_L_law_563 rfl (lv_at hl 3 rfl) ?_
  have hPh := pm_hP hP
  have hDh := pm_hD hD
  have hFh := fr_A hDh hS hA
  refine va_calli (vx_runSW (As := [.ref (ad 0), .int (xs (5 * t + 1)), .int (xs (5 * t + 2)), .int (xs (5 * t + 3)), .int (xs (5 * t + 4)), .ref o]) (rest := []) ⟨hx, hb, hml, hown, hts⟩ (c_L_result l D cs ad σ n nm ci cj E hI hT.jv mi hst o f H.size (xs (5 * t + 1)) (xs (5 * t + 2)) (xs (5 * t + 3)) (xs (5 * t + 4))) (vx_cwSW 6 hts (gw_SW kw_487 kw_488 kw_0 kw_489) rfl rfl rfl (by decide +kernel) ⟨Nat.le_of_ble_eq_true rfl, Nat.le_of_ble_eq_true rfl⟩) ⟨hp_blind, fun U hU hW => ⟨rfl, by rw [hU], by rw [hU]; exact fr_l hPh, va_K.moved hW.alike hK, (fr_dl hDh).weaken (fun _ _ _ _ => trivial), hXk.warm hW, by rw [hU]; exact ((hZ.kept (fun q h1 h2 => hS.2.1 q h1 h2)).moved hW.alike).narrow hFh, hg.moved hW.alike, by rw [hU]; exact ((hE.kept (fun q h1 h2 => hS.2.1 q h1 h2)).moved hW.alike).narrow hFh, va_Nc.moved hW.alike hnc⟩⟩ rfl rfl hl.1 rfl (lv_room (Nat.le_of_ble_eq_true rfl)) d_L_law_564 ⟨by show _ ≤ 601024; omega, by show _ ≤ 7293034; omega⟩) hS (fun q _ h => hFh q h) hFh (fun kc_2 uc t9 H_1 locs ht hvm hw hB hz1 hk1 hS => ?_)
  obtain ⟨rc_3, hc, hfo⟩ := hw
  obtain ⟨hP1, -, hD1⟩ := hB
  rw [ht] at hP1
  obtain ⟨hPh, hDh⟩ := fr_join hPh hDh hk1 hFh hP1 hD1
  have hP := pm_hP' hPh
  have hD := pm_hD' hDh
  obtain ⟨s1, f1⟩ := uc
  replace hfo : kc_2 = 0 → f1 0 = rc_3.toInt64 := hfo
  replace hP : va_P D cls_ (wL cs ad s1 n nm ci cj E am τ o f1) H_1 := hP
  replace hD : va_D (AL s) (wL cs ad s1 n nm ci cj E am τ o f1) := hD
  refine lv_istore (lv' := [(5, .int kc_2), (0, .ref b), (1, .ref (ad 0)), (2, .ref (am 0)), (3, .ref o), (4, .int (nI (5 * t)))]) hx hb d_L_law_567 hl (by decide) rfl (fun ls hl => ?_)
  refine lv_aload_n hx hb d_L_law_569 rfl (lv_at hl 3 rfl) ?_
  refine lv_aload_n hx hb d_L_law_570 rfl (lv_at hl 1 rfl) ?_
  refine lv_iload hx hb d_L_law_571 (lv_at hl 5 rfl) ?_
  refine lv_iconst (v := 1) hx hb d_L_law_573 (by decide) ?_
  refine lv_iadd hx hb d_L_law_574 ?_
  rw [show nI (5 * t) + 1 = nI (5 * t + 1) from nI_add _ 1]
  refine va_sld hx hb hX hbl hbA hS (i := nI (5 * t + 1)) (vp_in_nI (by omega) (by omega)) d_L_law_575 ?_
  rw [nI_clamp (by omega)]
  refine lv_aload_n hx hb d_L_law_576 rfl (lv_at hl 1 rfl) ?_
  refine lv_iload hx hb d_L_law_577 (lv_at hl 5 rfl) ?_
  refine lv_iconst (v := 2) hx hb d_L_law_579 (by decide) ?_
  refine lv_iadd hx hb d_L_law_580 ?_
  rw [show nI (5 * t) + 2 = nI (5 * t + 2) from nI_add _ 2]
  refine va_sld hx hb hX hbl hbA hS (i := nI (5 * t + 2)) (vp_in_nI (by omega) (by omega)) d_L_law_581 ?_
  rw [nI_clamp (by omega)]
  refine lv_aload_n hx hb d_L_law_582 rfl (lv_at hl 1 rfl) ?_
  refine lv_iload hx hb d_L_law_583 (lv_at hl 5 rfl) ?_
  refine lv_iconst (v := 3) hx hb d_L_law_585 (by decide) ?_
  refine lv_iadd hx hb d_L_law_586 ?_
  rw [show nI (5 * t) + 3 = nI (5 * t + 3) from nI_add _ 3]
  refine va_sld hx hb hX hbl hbA hS (i := nI (5 * t + 3)) (vp_in_nI (by omega) (by omega)) d_L_law_587 ?_
  rw [nI_clamp (by omega)]
  refine lv_aload_n hx hb d_L_law_588 rfl (lv_at hl 1 rfl) ?_
  refine lv_iload hx hb d_L_law_589 (lv_at hl 5 rfl) ?_
  refine lv_iconst (v := 4) hx hb d_L_law_591 (by decide) ?_
  refine lv_iadd hx hb d_L_law_592 ?_
  rw [show nI (5 * t) + 4 = nI (5 * t + 4) from nI_add _ 4]
  refine va_sld hx hb hX hbl hbA hS (i := nI (5 * t + 4)) (vp_in_nI (by omega) (by omega)) d_L_law_593 ?_
  rw [nI_clamp (by omega)]
  have hM := hT.mv
  have hz := hT.hz
  have hPm := pm_mP hP
  have hDm := pm_mD hD
  have hFm := fr_A hDm hS hA
  refine va_calli (va_runV (As := [.int (xs (5 * t + 1)), .int (xs (5 * t + 2)), .int (xs (5 * t + 3)), .int (xs (5 * t + 4))]) (rest := []) ⟨hx, hb, hml, hown, hts⟩ (c_M_result l D cs am τ n nm hM H_1.size (xs (5 * t + 1)) (xs (5 * t + 2)) (xs (5 * t + 3)) (xs (5 * t + 4))) (cwV 4 hts (gw_V kw_721 kw_722 kw_723 kw_6 kw_724) rfl rfl rfl (by decide +kernel) ⟨Nat.le_of_ble_eq_true rfl, Nat.le_of_ble_eq_true rfl⟩) ⟨wr_blind, rl_recv hK (fr_l hPm) (by decide) gM_0 rfl, fun U hU hW => ⟨rfl, by rw [hU], by rw [hU]; exact fr_l hPm, va_K.moved hW.alike hK, (fr_dl hDm).weaken (fun _ _ _ _ => trivial)⟩⟩ rfl rfl hl.1 rfl (lv_room (Nat.le_of_ble_eq_true rfl)) d_L_law_594 ⟨by show _ ≤ 601024; omega, by show _ ≤ 7293034; omega⟩) hS (fun q _ h => hFm q h) hFm (fun rm_5 um_6 t9 H_4 locs ht hvm hw hB hz1 hk1 hS => ?_)
  have hm : mr_result τ n nm (xs (5 * t + 1)) (xs (5 * t + 2)) (xs (5 * t + 3)) (xs (5 * t + 4)) rm_5 um_6 := hw
  obtain ⟨hP1, -, hD1⟩ := hB
  rw [ht] at hP1
  obtain ⟨hPm, hDm⟩ := fr_join hPm hDm hk1 hFm hP1 hD1
  have hP := pm_mP hPm
  have hD := pm_mD hDm
  replace hP : va_P D cls_ (wL cs ad s1 n nm ci cj E am um_6 o f1) H_4 := hP
  replace hD : va_D (AL s) (wL cs ad s1 n nm ci cj E am um_6 o f1) := hD
  obtain ⟨hk0, hpos, hT⟩ := tt_result hT hc hm
  refine lv_istore (lv' := [(6, .int rm_5), (5, .int kc_2), (0, .ref b), (1, .ref (ad 0)), (2, .ref (am 0)), (3, .ref o), (4, .int (nI (5 * t)))]) hx hb d_L_law_597 hl (by decide) rfl (fun ls hl => ?_)
  refine lv_goto (tgt := 914) hx hb d_L_law_599 (by decide) ?_
  exact lp_next C hn ht5 (lv_sub hl [2, 3, 4, 5, 6] rfl) hI hT hP hD hS (by omega) (by omega)
set_option maxHeartbeats 4000000 in
set_option maxRecDepth 100000 in
theorem lc_9 {p : Program} {l : Launch} {e : Env} {s : State} {m : MethodId} {below : List Frame} {meth : Method} {c : Code} {b L : Nat} {xs : Nat → Int32} {D : va_G} {cs : Nat → ClassId} {mi E : Nat} (C : lw_C p l s m meth c b L xs D cs mi E 2560) {t : Nat} (hn : lpH 23 p l e s m below meth c b L D cs E (t + 1)) (ht5 : 5 * t + 5 ≤ L) {ls : Array Slot} {H : Heap} {locs : List Loc} {ad am : Nat → Nat} {σ τ : Nat → Nat → Int32} {n nm ci cj o : Nat} {f : Nat → Int64} (hl : lv_has ls 7 [(0, .ref b), (1, .ref (ad 0)), (2, .ref (am 0)), (3, .ref o), (4, .int (nI (5 * t)))]) (hI : Iv n nm ci cj) (hT : TT σ τ n nm) (ht0 : t = 0 → nm = 0) (hP : va_P D cls_ (wL cs ad σ n nm ci cj E am τ o f) H) (hD : va_D (AL s) (wL cs ad σ n nm ci cj E am τ o f)) (hS : va_S (AL s) s.heap H locs) : W p l e room_1 s m #[Value.ref b] below meth c H locs (43 + 4 * t) (978 + 120 * t) (lw_Z below #[Value.ref b] s) (F0 m 602 ls []) := by
  have C9 := C
  obtain ⟨hx, hb, hr, hml, hown, hG, hX, hbl, hlocks, hK, hXk, hZ, hg, hE, hnc, hst, hLN⟩ := C9
  have hA : ∀ q : Nat, s.heap.size ≤ q → AL s q := fun _ h => h
  have hbA : ¬ AL s b := Nat.not_le.mpr hbl
  have hts : ∀ w ∈ (Cond.initialized "InspectSteps" :: GW), w.before #[Value.ref b] s = true := List.forall_mem_cons.mpr ⟨hG _ kw_1, hG⟩
  refine lv_aload_n hx hb d_L_law_602 rfl (lv_at hl 1 rfl) ?_
  refine lv_aload_n hx hb d_L_law_603 rfl (lv_at hl 0 rfl) ?_
  refine lv_iload hx hb d_L_law_604 (lv_at hl 4 rfl) ?_
  refine lv_iconst (v := 1) hx hb d_L_law_606 (by decide) ?_
  refine lv_iadd hx hb d_L_law_607 ?_
  rw [show nI (5 * t) + 1 = nI (5 * t + 1) from nI_add _ 1]
  refine va_sld hx hb hX hbl hbA hS (i := nI (5 * t + 1)) (vp_in_nI (by omega) (by omega)) d_L_law_608 ?_
  rw [nI_clamp (by omega)]
  refine lv_aload_n hx hb d_L_law_609 rfl (lv_at hl 0 rfl) ?_
  refine lv_iload hx hb d_L_law_610 (lv_at hl 4 rfl) ?_
  refine lv_iconst (v := 2) hx hb d_L_law_612 (by decide) ?_
  refine lv_iadd hx hb d_L_law_613 ?_
  rw [show nI (5 * t) + 2 = nI (5 * t + 2) from nI_add _ 2]
  refine va_sld hx hb hX hbl hbA hS (i := nI (5 * t + 2)) (vp_in_nI (by omega) (by omega)) d_L_law_614 ?_
  rw [nI_clamp (by omega)]
  refine lv_aload_n hx hb d_L_law_615 rfl (lv_at hl 0 rfl) ?_
  refine lv_iload hx hb d_L_law_616 (lv_at hl 4 rfl) ?_
  refine lv_iconst (v := 3) hx hb d_L_law_618 (by decide) ?_
  refine lv_iadd hx hb d_L_law_619 ?_
  rw [show nI (5 * t) + 3 = nI (5 * t + 3) from nI_add _ 3]
  refine va_sld hx hb hX hbl hbA hS (i := nI (5 * t + 3)) (vp_in_nI (by omega) (by omega)) d_L_law_620 ?_
  rw [nI_clamp (by omega)]
  have hPx := fr_l hP
  have hDx := fr_dl hD
  have hFX := fr_A hD hS hA
  refine va_calli (va_runV (As := [.int (xs (5 * t + 1)), .int (xs (5 * t + 2)), .int (xs (5 * t + 3))]) (rest := []) ⟨hx, hb, hml, hown, hts⟩ (c_C_declared l D cs ad σ n nm ci cj E hI H.size (xs (5 * t + 1)) (xs (5 * t + 2)) (xs (5 * t + 3))) (cwV 3 hts (gw_V kw_139 kw_140 kw_141 kw_1 kw_142) rfl rfl rfl (by decide +kernel) ⟨Nat.le_of_ble_eq_true rfl, Nat.le_of_ble_eq_true rfl⟩) ⟨wr_blind, rl_recv hK hPx (RC_f (by decide)) gC_0 rfl, fun U hU hW => ⟨rfl, by rw [hU], by rw [hU]; exact hPx, va_K.moved hW.alike hK, hDx.weaken (fun _ _ _ _ => trivial)⟩⟩ rfl rfl hl.1 rfl (lv_room (Nat.le_of_ble_eq_true rfl)) d_L_law_621 ⟨by show _ ≤ 601024; omega, by show _ ≤ 7293034; omega⟩) hS (fun q _ h => hFX q h) hFX (fun rc_2 uc_3 t9 H_1 locs ht hvm hw hB hz1 hk1 hS => ?_)
  have hc : cr_declared σ n nm (xs (5 * t + 1)) (xs (5 * t + 2)) (xs (5 * t + 3)) rc_2 uc_3 := hw
  obtain ⟨hP1, -, hD1⟩ := hB
  rw [ht] at hP1
  obtain ⟨hP, hD⟩ := fr_join hP hD hk1 hFX hP1 hD1
  replace hP : va_P D cls_ (wL cs ad uc_3 n nm ci cj E am τ o f) H_1 := hP
  replace hD : va_D (AL s) (wL cs ad uc_3 n nm ci cj E am τ o f) := hD
  refine lv_pop hx hb d_L_law_624 rfl ?_
  refine lv_aload_n hx hb d_L_law_625 rfl (lv_at hl 2 rfl) ?_
  refine lv_aload_n hx hb d_L_law_626 rfl (lv_at hl 0 rfl) ?_
  refine lv_iload hx hb d_L_law_627 (lv_at hl 4 rfl) ?_
  refine lv_iconst (v := 1) hx hb d_L_law_629 (by decide) ?_
  refine lv_iadd hx hb d_L_law_630 ?_
  rw [show nI (5 * t) + 1 = nI (5 * t + 1) from nI_add _ 1]
  refine va_sld hx hb hX hbl hbA hS (i := nI (5 * t + 1)) (vp_in_nI (by omega) (by omega)) d_L_law_631 ?_
  rw [nI_clamp (by omega)]
  refine lv_aload_n hx hb d_L_law_632 rfl (lv_at hl 0 rfl) ?_
  refine lv_iload hx hb d_L_law_633 (lv_at hl 4 rfl) ?_
  refine lv_iconst (v := 2) hx hb d_L_law_635 (by decide) ?_
  refine lv_iadd hx hb d_L_law_636 ?_
  rw [show nI (5 * t) + 2 = nI (5 * t + 2) from nI_add _ 2]
  refine va_sld hx hb hX hbl hbA hS (i := nI (5 * t + 2)) (vp_in_nI (by omega) (by omega)) d_L_law_637 ?_
  rw [nI_clamp (by omega)]
  refine lv_aload_n hx hb d_L_law_638 rfl (lv_at hl 0 rfl) ?_
  refine lv_iload hx hb d_L_law_639 (lv_at hl 4 rfl) ?_
  refine lv_iconst (v := 3) hx hb d_L_law_641 (by decide) ?_
  refine lv_iadd hx hb d_L_law_642 ?_
  rw [show nI (5 * t) + 3 = nI (5 * t + 3) from nI_add _ 3]
  refine va_sld hx hb hX hbl hbA hS (i := nI (5 * t + 3)) (vp_in_nI (by omega) (by omega)) d_L_law_643 ?_
  rw [nI_clamp (by omega)]
  have hM := hT.mv
  have hz := hT.hz
  have hPm := pm_mP hP
  have hDm := pm_mD hD
  have hFm := fr_A hDm hS hA
  refine va_calli (va_runV (As := [.int (xs (5 * t + 1)), .int (xs (5 * t + 2)), .int (xs (5 * t + 3))]) (rest := []) ⟨hx, hb, hml, hown, hts⟩ (c_M_declared l D cs am τ n nm hM H_1.size (xs (5 * t + 1)) (xs (5 * t + 2)) (xs (5 * t + 3))) (cwV 3 hts (gw_V kw_730 kw_731 kw_732 kw_6 kw_733) rfl rfl rfl (by decide +kernel) ⟨Nat.le_of_ble_eq_true rfl, Nat.le_of_ble_eq_true rfl⟩) ⟨wr_blind, rl_recv hK (fr_l hPm) (by decide) gM_0 rfl, fun U hU hW => ⟨rfl, by rw [hU], by rw [hU]; exact fr_l hPm, va_K.moved hW.alike hK, (fr_dl hDm).weaken (fun _ _ _ _ => trivial)⟩⟩ rfl rfl hl.1 rfl (lv_room (Nat.le_of_ble_eq_true rfl)) d_L_law_644 ⟨by show _ ≤ 601024; omega, by show _ ≤ 7293034; omega⟩) hS (fun q _ h => hFm q h) hFm (fun rm_5 um_6 t9 H_4 locs ht hvm hw hB hz1 hk1 hS => ?_)
  have hm : mr_declared τ n nm (xs (5 * t + 1)) (xs (5 * t + 2)) (xs (5 * t + 3)) rm_5 um_6 := hw
  obtain ⟨hP1, -, hD1⟩ := hB
  rw [ht] at hP1
  obtain ⟨hPm, hDm⟩ := fr_join hPm hDm hk1 hFm hP1 hD1
  have hP := pm_mP hPm
  have hD := pm_mD hDm
  replace hP : va_P D cls_ (wL cs ad uc_3 n nm ci cj E am um_6 o f) H_4 := hP
  replace hD : va_D (AL s) (wL cs ad uc_3 n nm ci cj E am um_6 o f) := hD
  obtain ⟨heq, hT⟩ := tt_declared hT hc hm
  subst heq
  refine lv_pop hx hb d_L_law_647 rfl ?_
  refine lv_goto (tgt := 914) hx hb d_L_law_648 (by decide) ?_
  exact lp_next C hn ht5 (lv_sub hl [0, 1, 2, 3, 4] rfl) hI hT hP hD hS (by omega) (by omega)
set_option maxHeartbeats 4000000 in
set_option maxRecDepth 100000 in
theorem lc_10 {p : Program} {l : Launch} {e : Env} {s : State} {m : MethodId} {below : List Frame} {meth : Method} {c : Code} {b L : Nat} {xs : Nat → Int32} {D : va_G} {cs : Nat → ClassId} {mi E : Nat} (C : lw_C p l s m meth c b L xs D cs mi E 2560) {t : Nat} (hn : lpH 23 p l e s m below meth c b L D cs E (t + 1)) (ht5 : 5 * t + 5 ≤ L) {ls : Array Slot} {H : Heap} {locs : List Loc} {ad am : Nat → Nat} {σ τ : Nat → Nat → Int32} {n nm ci cj o : Nat} {f : Nat → Int64} (hl : lv_has ls 7 [(0, .ref b), (1, .ref (ad 0)), (2, .ref (am 0)), (3, .ref o), (4, .int (nI (5 * t)))]) (hI : Iv n nm ci cj) (hT : TT σ τ n nm) (ht0 : t = 0 → nm = 0) (hP : va_P D cls_ (wL cs ad σ n nm ci cj E am τ o f) H) (hD : va_D (AL s) (wL cs ad σ n nm ci cj E am τ o f)) (hS : va_S (AL s) s.heap H locs) : W p l e room_1 s m #[Value.ref b] below meth c H locs (43 + 4 * t) (978 + 120 * t) (lw_Z below #[Value.ref b] s) (F0 m 651 ls []) := by
  have C9 := C
  obtain ⟨hx, hb, hr, hml, hown, hG, hX, hbl, hlocks, hK, hXk, hZ, hg, hE, hnc, hst, hLN⟩ := C9
  have hA : ∀ q : Nat, s.heap.size ≤ q → AL s q := fun _ h => h
  have hbA : ¬ AL s b := Nat.not_le.mpr hbl
  have hts : ∀ w ∈ (Cond.initialized "InspectSteps" :: GW), w.before #[Value.ref b] s = true := List.forall_mem_cons.mpr ⟨hG _ kw_1, hG⟩
  refine lv_aload_n hx hb d_L_law_651 rfl (lv_at hl 1 rfl) ?_
  refine lv_aload_n hx hb d_L_law_652 rfl (lv_at hl 0 rfl) ?_
  refine lv_iload hx hb d_L_law_653 (lv_at hl 4 rfl) ?_
  refine lv_iconst (v := 1) hx hb d_L_law_655 (by decide) ?_
  refine lv_iadd hx hb d_L_law_656 ?_
  rw [show nI (5 * t) + 1 = nI (5 * t + 1) from nI_add _ 1]
  refine va_sld hx hb hX hbl hbA hS (i := nI (5 * t + 1)) (vp_in_nI (by omega) (by omega)) d_L_law_657 ?_
  rw [nI_clamp (by omega)]
  refine lv_aload_n hx hb d_L_law_658 rfl (lv_at hl 0 rfl) ?_
  refine lv_iload hx hb d_L_law_659 (lv_at hl 4 rfl) ?_
  refine lv_iconst (v := 2) hx hb d_L_law_661 (by decide) ?_
  refine lv_iadd hx hb d_L_law_662 ?_
  rw [show nI (5 * t) + 2 = nI (5 * t + 2) from nI_add _ 2]
  refine va_sld hx hb hX hbl hbA hS (i := nI (5 * t + 2)) (vp_in_nI (by omega) (by omega)) d_L_law_663 ?_
  rw [nI_clamp (by omega)]
  refine lv_aload_n hx hb d_L_law_664 rfl (lv_at hl 0 rfl) ?_
  refine lv_iload hx hb d_L_law_665 (lv_at hl 4 rfl) ?_
  refine lv_iconst (v := 3) hx hb d_L_law_667 (by decide) ?_
  refine lv_iadd hx hb d_L_law_668 ?_
  rw [show nI (5 * t) + 3 = nI (5 * t + 3) from nI_add _ 3]
  refine va_sld hx hb hX hbl hbA hS (i := nI (5 * t + 3)) (vp_in_nI (by omega) (by omega)) d_L_law_669 ?_
  rw [nI_clamp (by omega)]
  have hPx := fr_l hP
  have hDx := fr_dl hD
  have hFX := fr_A hD hS hA
  refine va_calli (va_runV (As := [.int (xs (5 * t + 1)), .int (xs (5 * t + 2)), .int (xs (5 * t + 3))]) (rest := []) ⟨hx, hb, hml, hown, hts⟩ (c_C_tolerance l D cs ad σ n nm ci cj E hI H.size (xs (5 * t + 1)) (xs (5 * t + 2)) (xs (5 * t + 3))) (cwV 3 hts (gw_V kw_153 kw_154 kw_155 kw_1 kw_156) rfl rfl rfl (by decide +kernel) ⟨Nat.le_of_ble_eq_true rfl, Nat.le_of_ble_eq_true rfl⟩) ⟨wr_blind, rl_recv hK hPx (RC_f (by decide)) gC_0 rfl, fun U hU hW => ⟨rfl, by rw [hU], by rw [hU]; exact hPx, va_K.moved hW.alike hK, hDx.weaken (fun _ _ _ _ => trivial)⟩⟩ rfl rfl hl.1 rfl (lv_room (Nat.le_of_ble_eq_true rfl)) d_L_law_670 ⟨by show _ ≤ 601024; omega, by show _ ≤ 7293034; omega⟩) hS (fun q _ h => hFX q h) hFX (fun rc_2 uc_3 t9 H_1 locs ht hvm hw hB hz1 hk1 hS => ?_)
  have hc : cr_tolerance σ n nm (xs (5 * t + 1)) (xs (5 * t + 2)) (xs (5 * t + 3)) rc_2 uc_3 := hw
  obtain ⟨hP1, -, hD1⟩ := hB
  rw [ht] at hP1
  obtain ⟨hP, hD⟩ := fr_join hP hD hk1 hFX hP1 hD1
  replace hP : va_P D cls_ (wL cs ad uc_3 n nm ci cj E am τ o f) H_1 := hP
  replace hD : va_D (AL s) (wL cs ad uc_3 n nm ci cj E am τ o f) := hD
  refine lv_pop hx hb d_L_law_673 rfl ?_
  refine lv_aload_n hx hb d_L_law_674 rfl (lv_at hl 2 rfl) ?_
  refine lv_aload_n hx hb d_L_law_675 rfl (lv_at hl 0 rfl) ?_
  refine lv_iload hx hb d_L_law_676 (lv_at hl 4 rfl) ?_
  refine lv_iconst (v := 1) hx hb d_L_law_678 (by decide) ?_
  refine lv_iadd hx hb d_L_law_679 ?_
  rw [show nI (5 * t) + 1 = nI (5 * t + 1) from nI_add _ 1]
  refine va_sld hx hb hX hbl hbA hS (i := nI (5 * t + 1)) (vp_in_nI (by omega) (by omega)) d_L_law_680 ?_
  rw [nI_clamp (by omega)]
  refine lv_aload_n hx hb d_L_law_681 rfl (lv_at hl 0 rfl) ?_
  refine lv_iload hx hb d_L_law_682 (lv_at hl 4 rfl) ?_
  refine lv_iconst (v := 2) hx hb d_L_law_684 (by decide) ?_
  refine lv_iadd hx hb d_L_law_685 ?_
  rw [show nI (5 * t) + 2 = nI (5 * t + 2) from nI_add _ 2]
  refine va_sld hx hb hX hbl hbA hS (i := nI (5 * t + 2)) (vp_in_nI (by omega) (by omega)) d_L_law_686 ?_
  rw [nI_clamp (by omega)]
  refine lv_aload_n hx hb d_L_law_687 rfl (lv_at hl 0 rfl) ?_
  refine lv_iload hx hb d_L_law_688 (lv_at hl 4 rfl) ?_
  refine lv_iconst (v := 3) hx hb d_L_law_690 (by decide) ?_
  refine lv_iadd hx hb d_L_law_691 ?_
  rw [show nI (5 * t) + 3 = nI (5 * t + 3) from nI_add _ 3]
  refine va_sld hx hb hX hbl hbA hS (i := nI (5 * t + 3)) (vp_in_nI (by omega) (by omega)) d_L_law_692 ?_
  rw [nI_clamp (by omega)]
  have hM := hT.mv
  have hz := hT.hz
  have hPm := pm_mP hP
  have hDm := pm_mD hD
  have hFm := fr_A hDm hS hA
  refine va_calli (va_runV (As := [.int (xs (5 * t + 1)), .int (xs (5 * t + 2)), .int (xs (5 * t + 3))]) (rest := []) ⟨hx, hb, hml, hown, hts⟩ (c_M_tolerance l D cs am τ n nm hM H_1.size (xs (5 * t + 1)) (xs (5 * t + 2)) (xs (5 * t + 3))) (cwV 3 hts (gw_V kw_734 kw_735 kw_736 kw_6 kw_737) rfl rfl rfl (by decide +kernel) ⟨Nat.le_of_ble_eq_true rfl, Nat.le_of_ble_eq_true rfl⟩) ⟨wr_blind, rl_recv hK (fr_l hPm) (by decide) gM_0 rfl, fun U hU hW => ⟨rfl, by rw [hU], by rw [hU]; exact fr_l hPm, va_K.moved hW.alike hK, (fr_dl hDm).weaken (fun _ _ _ _ => trivial)⟩⟩ rfl rfl hl.1 rfl (lv_room (Nat.le_of_ble_eq_true rfl)) d_L_law_693 ⟨by show _ ≤ 601024; omega, by show _ ≤ 7293034; omega⟩) hS (fun q _ h => hFm q h) hFm (fun rm_5 um_6 t9 H_4 locs ht hvm hw hB hz1 hk1 hS => ?_)
  have hm : mr_tolerance τ n nm (xs (5 * t + 1)) (xs (5 * t + 2)) (xs (5 * t + 3)) rm_5 um_6 := hw
  obtain ⟨hP1, -, hD1⟩ := hB
  rw [ht] at hP1
  obtain ⟨hPm, hDm⟩ := fr_join hPm hDm hk1 hFm hP1 hD1
  have hP := pm_mP hPm
  have hD := pm_mD hDm
  replace hP : va_P D cls_ (wL cs ad uc_3 n nm ci cj E am um_6 o f) H_4 := hP
  replace hD : va_D (AL s) (wL cs ad uc_3 n nm ci cj E am um_6 o f) := hD
  obtain ⟨heq, hT⟩ := tt_tolerance hT hc hm
  subst heq
  refine lv_pop hx hb d_L_law_696 rfl ?_
  refine lv_goto (tgt := 914) hx hb d_L_law_697 (by decide) ?_
  exact lp_next C hn ht5 (lv_sub hl [0, 1, 2, 3, 4] rfl) hI hT hP hD hS (by omega) (by omega)
set_option maxHeartbeats 4000000 in
set_option maxRecDepth 100000 in
theorem lc_11 {p : Program} {l : Launch} {e : Env} {s : State} {m : MethodId} {below : List Frame} {meth : Method} {c : Code} {b L : Nat} {xs : Nat → Int32} {D : va_G} {cs : Nat → ClassId} {mi E : Nat} (C : lw_C p l s m meth c b L xs D cs mi E 2560) {t : Nat} (hn : lpH 23 p l e s m below meth c b L D cs E (t + 1)) (ht5 : 5 * t + 5 ≤ L) {ls : Array Slot} {H : Heap} {locs : List Loc} {ad am : Nat → Nat} {σ τ : Nat → Nat → Int32} {n nm ci cj o : Nat} {f : Nat → Int64} (hl : lv_has ls 7 [(0, .ref b), (1, .ref (ad 0)), (2, .ref (am 0)), (3, .ref o), (4, .int (nI (5 * t)))]) (hI : Iv n nm ci cj) (hT : TT σ τ n nm) (ht0 : t = 0 → nm = 0) (hP : va_P D cls_ (wL cs ad σ n nm ci cj E am τ o f) H) (hD : va_D (AL s) (wL cs ad σ n nm ci cj E am τ o f)) (hS : va_S (AL s) s.heap H locs) : W p l e room_1 s m #[Value.ref b] below meth c H locs (43 + 4 * t) (978 + 120 * t) (lw_Z below #[Value.ref b] s) (F0 m 700 ls []) := by
  have C9 := C
  obtain ⟨hx, hb, hr, hml, hown, hG, hX, hbl, hlocks, hK, hXk, hZ, hg, hE, hnc, hst, hLN⟩ := C9
  have hA : ∀ q : Nat, s.heap.size ≤ q → AL s q := fun _ h => h
  have hbA : ¬ AL s b := Nat.not_le.mpr hbl
  have hts : ∀ w ∈ (Cond.initialized "InspectSteps" :: GW), w.before #[Value.ref b] s = true := List.forall_mem_cons.mpr ⟨hG _ kw_1, hG⟩
  refine lv_aload_n hx hb d_L_law_700 rfl (lv_at hl 1 rfl) ?_
  refine lv_aload_n hx hb d_L_law_701 rfl (lv_at hl 0 rfl) ?_
  refine lv_iload hx hb d_L_law_702 (lv_at hl 4 rfl) ?_
  refine lv_iconst (v := 1) hx hb d_L_law_704 (by decide) ?_
  refine lv_iadd hx hb d_L_law_705 ?_
  rw [show nI (5 * t) + 1 = nI (5 * t + 1) from nI_add _ 1]
  refine va_sld hx hb hX hbl hbA hS (i := nI (5 * t + 1)) (vp_in_nI (by omega) (by omega)) d_L_law_706 ?_
  rw [nI_clamp (by omega)]
  refine lv_aload_n hx hb d_L_law_707 rfl (lv_at hl 0 rfl) ?_
  refine lv_iload hx hb d_L_law_708 (lv_at hl 4 rfl) ?_
  refine lv_iconst (v := 2) hx hb d_L_law_710 (by decide) ?_
  refine lv_iadd hx hb d_L_law_711 ?_
  rw [show nI (5 * t) + 2 = nI (5 * t + 2) from nI_add _ 2]
  refine va_sld hx hb hX hbl hbA hS (i := nI (5 * t + 2)) (vp_in_nI (by omega) (by omega)) d_L_law_712 ?_
  rw [nI_clamp (by omega)]
  refine lv_aload_n hx hb d_L_law_713 rfl (lv_at hl 0 rfl) ?_
  refine lv_iload hx hb d_L_law_714 (lv_at hl 4 rfl) ?_
  refine lv_iconst (v := 3) hx hb d_L_law_716 (by decide) ?_
  refine lv_iadd hx hb d_L_law_717 ?_
  rw [show nI (5 * t) + 3 = nI (5 * t + 3) from nI_add _ 3]
  refine va_sld hx hb hX hbl hbA hS (i := nI (5 * t + 3)) (vp_in_nI (by omega) (by omega)) d_L_law_718 ?_
  rw [nI_clamp (by omega)]
  refine lv_if_eq (tgt := 726) hx hb d_L_law_719 (by decide) (fun c_1 => ?_) (fun c_1 => ?_)
  · refine lv_iconst (v := 0) hx hb d_L_law_726 (by decide) ?_
    have hPx := fr_l hP
    have hDx := fr_dl hD
    have hFX := fr_A hD hS hA
    refine va_calli (va_runV (As := [.int (xs (5 * t + 1)), .int (xs (5 * t + 2)), .int 0]) (rest := []) ⟨hx, hb, hml, hown, hts⟩ (c_C_hold l D cs ad σ n nm ci cj E hI H.size (xs (5 * t + 1)) (xs (5 * t + 2)) 0) (cwV 3 hts (gw_V kw_157 kw_158 kw_159 kw_1 kw_160) rfl rfl rfl (by decide +kernel) ⟨Nat.le_of_ble_eq_true rfl, Nat.le_of_ble_eq_true rfl⟩) ⟨wr_blind, rl_recv hK hPx (RC_f (by decide)) gC_0 rfl, fun U hU hW => ⟨rfl, by rw [hU], by rw [hU]; exact hPx, va_K.moved hW.alike hK, hDx.weaken (fun _ _ _ _ => trivial)⟩⟩ rfl rfl hl.1 rfl (lv_room (Nat.le_of_ble_eq_true rfl)) d_L_law_727 ⟨by show _ ≤ 601024; omega, by show _ ≤ 7293034; omega⟩) hS (fun q _ h => hFX q h) hFX (fun rc_3 uc_4 t9 H_2 locs ht hvm hw hB hz1 hk1 hS => ?_)
    have hc : cr_hold σ n nm (xs (5 * t + 1)) (xs (5 * t + 2)) 0 rc_3 uc_4 := hw
    obtain ⟨hP1, -, hD1⟩ := hB
    rw [ht] at hP1
    obtain ⟨hP, hD⟩ := fr_join hP hD hk1 hFX hP1 hD1
    replace hP : va_P D cls_ (wL cs ad uc_4 n nm ci cj E am τ o f) H_2 := hP
    replace hD : va_D (AL s) (wL cs ad uc_4 n nm ci cj E am τ o f) := hD
    refine lv_pop hx hb d_L_law_730 rfl ?_
    refine lv_aload_n hx hb d_L_law_731 rfl (lv_at hl 2 rfl) ?_
    refine lv_aload_n hx hb d_L_law_732 rfl (lv_at hl 0 rfl) ?_
    refine lv_iload hx hb d_L_law_733 (lv_at hl 4 rfl) ?_
    refine lv_iconst (v := 1) hx hb d_L_law_735 (by decide) ?_
    refine lv_iadd hx hb d_L_law_736 ?_
    rw [show nI (5 * t) + 1 = nI (5 * t + 1) from nI_add _ 1]
    refine va_sld hx hb hX hbl hbA hS (i := nI (5 * t + 1)) (vp_in_nI (by omega) (by omega)) d_L_law_737 ?_
    rw [nI_clamp (by omega)]
    refine lv_aload_n hx hb d_L_law_738 rfl (lv_at hl 0 rfl) ?_
    refine lv_iload hx hb d_L_law_739 (lv_at hl 4 rfl) ?_
    refine lv_iconst (v := 2) hx hb d_L_law_741 (by decide) ?_
    refine lv_iadd hx hb d_L_law_742 ?_
    rw [show nI (5 * t) + 2 = nI (5 * t + 2) from nI_add _ 2]
    refine va_sld hx hb hX hbl hbA hS (i := nI (5 * t + 2)) (vp_in_nI (by omega) (by omega)) d_L_law_743 ?_
    rw [nI_clamp (by omega)]
    refine lv_aload_n hx hb d_L_law_744 rfl (lv_at hl 0 rfl) ?_
    refine lv_iload hx hb d_L_law_745 (lv_at hl 4 rfl) ?_
    refine lv_iconst (v := 3) hx hb d_L_law_747 (by decide) ?_
    refine lv_iadd hx hb d_L_law_748 ?_
    rw [show nI (5 * t) + 3 = nI (5 * t + 3) from nI_add _ 3]
    refine va_sld hx hb hX hbl hbA hS (i := nI (5 * t + 3)) (vp_in_nI (by omega) (by omega)) d_L_law_749 ?_
    rw [nI_clamp (by omega)]
    refine lv_if_eq (tgt := 757) hx hb d_L_law_750 (by decide) (fun _ => ?_) (fun c9 => absurd c_1 c9)
    refine lv_iconst (v := 0) hx hb d_L_law_757 (by decide) ?_
    have hM := hT.mv
    have hz := hT.hz
    have hPm := pm_mP hP
    have hDm := pm_mD hD
    have hFm := fr_A hDm hS hA
    refine va_calli (va_runV (As := [.int (xs (5 * t + 1)), .int (xs (5 * t + 2)), .int 0]) (rest := []) ⟨hx, hb, hml, hown, hts⟩ (c_M_hold l D cs am τ n nm hM H_2.size (xs (5 * t + 1)) (xs (5 * t + 2)) 0) (cwV 3 hts (gw_V kw_738 kw_739 kw_740 kw_6 kw_741) rfl rfl rfl (by decide +kernel) ⟨Nat.le_of_ble_eq_true rfl, Nat.le_of_ble_eq_true rfl⟩) ⟨wr_blind, rl_recv hK (fr_l hPm) (by decide) gM_0 rfl, fun U hU hW => ⟨rfl, by rw [hU], by rw [hU]; exact fr_l hPm, va_K.moved hW.alike hK, (fr_dl hDm).weaken (fun _ _ _ _ => trivial)⟩⟩ rfl rfl hl.1 rfl (lv_room (Nat.le_of_ble_eq_true rfl)) d_L_law_758 ⟨by show _ ≤ 601024; omega, by show _ ≤ 7293034; omega⟩) hS (fun q _ h => hFm q h) hFm (fun rm_6 um_7 t9 H_5 locs ht hvm hw hB hz1 hk1 hS => ?_)
    have hm : mr_hold τ n nm (xs (5 * t + 1)) (xs (5 * t + 2)) 0 rm_6 um_7 := hw
    obtain ⟨hP1, -, hD1⟩ := hB
    rw [ht] at hP1
    obtain ⟨hPm, hDm⟩ := fr_join hPm hDm hk1 hFm hP1 hD1
    have hP := pm_mP hPm
    have hD := pm_mD hDm
    replace hP : va_P D cls_ (wL cs ad uc_4 n nm ci cj E am um_7 o f) H_5 := hP
    replace hD : va_D (AL s) (wL cs ad uc_4 n nm ci cj E am um_7 o f) := hD
    obtain ⟨heq, hT⟩ := tt_hold hT (Or.inl rfl) hc hm
    subst heq
    refine lv_pop hx hb d_L_law_761 rfl ?_
    refine lv_goto (tgt := 914) hx hb d_L_law_762 (by decide) ?_
    exact lp_next C hn ht5 (lv_sub hl [0, 1, 2, 3, 4] rfl) hI hT hP hD hS (by omega) (by omega)
  · refine lv_iconst (v := 1) hx hb d_L_law_722 (by decide) ?_
    refine lv_goto (tgt := 727) hx hb d_L_law_723 (by decide) ?_
    have hPx := fr_l hP
    have hDx := fr_dl hD
    have hFX := fr_A hD hS hA
    refine va_calli (va_runV (As := [.int (xs (5 * t + 1)), .int (xs (5 * t + 2)), .int 1]) (rest := []) ⟨hx, hb, hml, hown, hts⟩ (c_C_hold l D cs ad σ n nm ci cj E hI H.size (xs (5 * t + 1)) (xs (5 * t + 2)) 1) (cwV 3 hts (gw_V kw_157 kw_158 kw_159 kw_1 kw_160) rfl rfl rfl (by decide +kernel) ⟨Nat.le_of_ble_eq_true rfl, Nat.le_of_ble_eq_true rfl⟩) ⟨wr_blind, rl_recv hK hPx (RC_f (by decide)) gC_0 rfl, fun U hU hW => ⟨rfl, by rw [hU], by rw [hU]; exact hPx, va_K.moved hW.alike hK, hDx.weaken (fun _ _ _ _ => trivial)⟩⟩ rfl rfl hl.1 rfl (lv_room (Nat.le_of_ble_eq_true rfl)) d_L_law_727 ⟨by show _ ≤ 601024; omega, by show _ ≤ 7293034; omega⟩) hS (fun q _ h => hFX q h) hFX (fun rc_9 uc_10 t9 H_8 locs ht hvm hw hB hz1 hk1 hS => ?_)
    have hc : cr_hold σ n nm (xs (5 * t + 1)) (xs (5 * t + 2)) 1 rc_9 uc_10 := hw
    obtain ⟨hP1, -, hD1⟩ := hB
    rw [ht] at hP1
    obtain ⟨hP, hD⟩ := fr_join hP hD hk1 hFX hP1 hD1
    replace hP : va_P D cls_ (wL cs ad uc_10 n nm ci cj E am τ o f) H_8 := hP
    replace hD : va_D (AL s) (wL cs ad uc_10 n nm ci cj E am τ o f) := hD
    refine lv_pop hx hb d_L_law_730 rfl ?_
    refine lv_aload_n hx hb d_L_law_731 rfl (lv_at hl 2 rfl) ?_
    refine lv_aload_n hx hb d_L_law_732 rfl (lv_at hl 0 rfl) ?_
    refine lv_iload hx hb d_L_law_733 (lv_at hl 4 rfl) ?_
    refine lv_iconst (v := 1) hx hb d_L_law_735 (by decide) ?_
    refine lv_iadd hx hb d_L_law_736 ?_
    rw [show nI (5 * t) + 1 = nI (5 * t + 1) from nI_add _ 1]
    refine va_sld hx hb hX hbl hbA hS (i := nI (5 * t + 1)) (vp_in_nI (by omega) (by omega)) d_L_law_737 ?_
    rw [nI_clamp (by omega)]
    refine lv_aload_n hx hb d_L_law_738 rfl (lv_at hl 0 rfl) ?_
    refine lv_iload hx hb d_L_law_739 (lv_at hl 4 rfl) ?_
    refine lv_iconst (v := 2) hx hb d_L_law_741 (by decide) ?_
    refine lv_iadd hx hb d_L_law_742 ?_
    rw [show nI (5 * t) + 2 = nI (5 * t + 2) from nI_add _ 2]
    refine va_sld hx hb hX hbl hbA hS (i := nI (5 * t + 2)) (vp_in_nI (by omega) (by omega)) d_L_law_743 ?_
    rw [nI_clamp (by omega)]
    refine lv_aload_n hx hb d_L_law_744 rfl (lv_at hl 0 rfl) ?_
    refine lv_iload hx hb d_L_law_745 (lv_at hl 4 rfl) ?_
    refine lv_iconst (v := 3) hx hb d_L_law_747 (by decide) ?_
    refine lv_iadd hx hb d_L_law_748 ?_
    rw [show nI (5 * t) + 3 = nI (5 * t + 3) from nI_add _ 3]
    refine va_sld hx hb hX hbl hbA hS (i := nI (5 * t + 3)) (vp_in_nI (by omega) (by omega)) d_L_law_749 ?_
    rw [nI_clamp (by omega)]
    refine lv_if_eq (tgt := 757) hx hb d_L_law_750 (by decide) (fun c9 => absurd c9 c_1) (fun _ => ?_)
    refine lv_iconst (v := 1) hx hb d_L_law_753 (by decide) ?_
    refine lv_goto (tgt := 758) hx hb d_L_law_754 (by decide) ?_
    have hM := hT.mv
    have hz := hT.hz
    have hPm := pm_mP hP
    have hDm := pm_mD hD
    have hFm := fr_A hDm hS hA
    refine va_calli (va_runV (As := [.int (xs (5 * t + 1)), .int (xs (5 * t + 2)), .int 1]) (rest := []) ⟨hx, hb, hml, hown, hts⟩ (c_M_hold l D cs am τ n nm hM H_8.size (xs (5 * t + 1)) (xs (5 * t + 2)) 1) (cwV 3 hts (gw_V kw_738 kw_739 kw_740 kw_6 kw_741) rfl rfl rfl (by decide +kernel) ⟨Nat.le_of_ble_eq_true rfl, Nat.le_of_ble_eq_true rfl⟩) ⟨wr_blind, rl_recv hK (fr_l hPm) (by decide) gM_0 rfl, fun U hU hW => ⟨rfl, by rw [hU], by rw [hU]; exact fr_l hPm, va_K.moved hW.alike hK, (fr_dl hDm).weaken (fun _ _ _ _ => trivial)⟩⟩ rfl rfl hl.1 rfl (lv_room (Nat.le_of_ble_eq_true rfl)) d_L_law_758 ⟨by show _ ≤ 601024; omega, by show _ ≤ 7293034; omega⟩) hS (fun q _ h => hFm q h) hFm (fun rm_12 um_13 t9 H_11 locs ht hvm hw hB hz1 hk1 hS => ?_)
    have hm : mr_hold τ n nm (xs (5 * t + 1)) (xs (5 * t + 2)) 1 rm_12 um_13 := hw
    obtain ⟨hP1, -, hD1⟩ := hB
    rw [ht] at hP1
    obtain ⟨hPm, hDm⟩ := fr_join hPm hDm hk1 hFm hP1 hD1
    have hP := pm_mP hPm
    have hD := pm_mD hDm
    replace hP : va_P D cls_ (wL cs ad uc_10 n nm ci cj E am um_13 o f) H_11 := hP
    replace hD : va_D (AL s) (wL cs ad uc_10 n nm ci cj E am um_13 o f) := hD
    obtain ⟨heq, hT⟩ := tt_hold hT (Or.inr rfl) hc hm
    subst heq
    refine lv_pop hx hb d_L_law_761 rfl ?_
    refine lv_goto (tgt := 914) hx hb d_L_law_762 (by decide) ?_
    exact lp_next C hn ht5 (lv_sub hl [0, 1, 2, 3, 4] rfl) hI hT hP hD hS (by omega) (by omega)
set_option maxHeartbeats 4000000 in
set_option maxRecDepth 100000 in
theorem lc_12 {p : Program} {l : Launch} {e : Env} {s : State} {m : MethodId} {below : List Frame} {meth : Method} {c : Code} {b L : Nat} {xs : Nat → Int32} {D : va_G} {cs : Nat → ClassId} {mi E : Nat} (C : lw_C p l s m meth c b L xs D cs mi E 2560) {t : Nat} (hn : lpH 23 p l e s m below meth c b L D cs E (t + 1)) (ht5 : 5 * t + 5 ≤ L) {ls : Array Slot} {H : Heap} {locs : List Loc} {ad am : Nat → Nat} {σ τ : Nat → Nat → Int32} {n nm ci cj o : Nat} {f : Nat → Int64} (hl : lv_has ls 7 [(0, .ref b), (1, .ref (ad 0)), (2, .ref (am 0)), (3, .ref o), (4, .int (nI (5 * t)))]) (hI : Iv n nm ci cj) (hT : TT σ τ n nm) (ht0 : t = 0 → nm = 0) (hP : va_P D cls_ (wL cs ad σ n nm ci cj E am τ o f) H) (hD : va_D (AL s) (wL cs ad σ n nm ci cj E am τ o f)) (hS : va_S (AL s) s.heap H locs) : W p l e room_1 s m #[Value.ref b] below meth c H locs (43 + 4 * t) (978 + 120 * t) (lw_Z below #[Value.ref b] s) (F0 m 765 ls []) := by
  have C9 := C
  obtain ⟨hx, hb, hr, hml, hown, hG, hX, hbl, hlocks, hK, hXk, hZ, hg, hE, hnc, hst, hLN⟩ := C9
  have hA : ∀ q : Nat, s.heap.size ≤ q → AL s q := fun _ h => h
  have hbA : ¬ AL s b := Nat.not_le.mpr hbl
  have hts : ∀ w ∈ (Cond.initialized "InspectSteps" :: GW), w.before #[Value.ref b] s = true := List.forall_mem_cons.mpr ⟨hG _ kw_1, hG⟩
  refine lv_aload_n hx hb d_L_law_765 rfl (lv_at hl 1 rfl) ?_
  refine lv_aload_n hx hb d_L_law_766 rfl (lv_at hl 0 rfl) ?_
  refine lv_iload hx hb d_L_law_767 (lv_at hl 4 rfl) ?_
  refine lv_iconst (v := 1) hx hb d_L_law_769 (by decide) ?_
  refine lv_iadd hx hb d_L_law_770 ?_
  rw [show nI (5 * t) + 1 = nI (5 * t + 1) from nI_add _ 1]
  refine va_sld hx hb hX hbl hbA hS (i := nI (5 * t + 1)) (vp_in_nI (by omega) (by omega)) d_L_law_771 ?_
  rw [nI_clamp (by omega)]
  refine lv_aload_n hx hb d_L_law_772 rfl (lv_at hl 3 rfl) ?_
  have hPh := pm_hP hP
  have hDh := pm_hD hD
  have hFh := fr_A hDh hS hA
  refine va_calli (vx_runSW (As := [.ref (ad 0), .int (xs (5 * t + 1)), .ref o]) (rest := []) ⟨hx, hb, hml, hown, hts⟩ (c_L_settle l D cs ad σ n nm ci cj E hI hT.jv mi hst o f H.size (xs (5 * t + 1))) (vx_cwSW 3 hts (gw_SW kw_496 kw_497 kw_0 kw_498) rfl rfl rfl (by decide +kernel) ⟨Nat.le_of_ble_eq_true rfl, Nat.le_of_ble_eq_true rfl⟩) ⟨hp_blind, fun U hU hW => ⟨rfl, by rw [hU], by rw [hU]; exact fr_l hPh, va_K.moved hW.alike hK, (fr_dl hDh).weaken (fun _ _ _ _ => trivial), hXk.warm hW, by rw [hU]; exact ((hZ.kept (fun q h1 h2 => hS.2.1 q h1 h2)).moved hW.alike).narrow hFh, hg.moved hW.alike, by rw [hU]; exact ((hE.kept (fun q h1 h2 => hS.2.1 q h1 h2)).moved hW.alike).narrow hFh, va_Nc.moved hW.alike hnc⟩⟩ rfl rfl hl.1 rfl (lv_room (Nat.le_of_ble_eq_true rfl)) d_L_law_773 ⟨by show _ ≤ 601024; omega, by show _ ≤ 7293034; omega⟩) hS (fun q _ h => hFh q h) hFh (fun kc_2 uc t9 H_1 locs ht hvm hw hB hz1 hk1 hS => ?_)
  obtain ⟨rc_3, hc, hfo⟩ := hw
  obtain ⟨hP1, -, hD1⟩ := hB
  rw [ht] at hP1
  obtain ⟨hPh, hDh⟩ := fr_join hPh hDh hk1 hFh hP1 hD1
  have hP := pm_hP' hPh
  have hD := pm_hD' hDh
  obtain ⟨s1, f1⟩ := uc
  replace hfo : kc_2 = 0 → f1 0 = rc_3.toInt64 := hfo
  replace hP : va_P D cls_ (wL cs ad s1 n nm ci cj E am τ o f1) H_1 := hP
  replace hD : va_D (AL s) (wL cs ad s1 n nm ci cj E am τ o f1) := hD
  refine lv_istore (lv' := [(5, .int kc_2), (0, .ref b), (1, .ref (ad 0)), (2, .ref (am 0)), (3, .ref o), (4, .int (nI (5 * t)))]) hx hb d_L_law_776 hl (by decide) rfl (fun ls hl => ?_)
  refine lv_aload_n hx hb d_L_law_778 rfl (lv_at hl 3 rfl) ?_
  refine lv_aload_n hx hb d_L_law_779 rfl (lv_at hl 1 rfl) ?_
  refine lv_iload hx hb d_L_law_780 (lv_at hl 5 rfl) ?_
  refine lv_iconst (v := 1) hx hb d_L_law_782 (by decide) ?_
  refine lv_iadd hx hb d_L_law_783 ?_
  rw [show nI (5 * t) + 1 = nI (5 * t + 1) from nI_add _ 1]
  refine va_sld hx hb hX hbl hbA hS (i := nI (5 * t + 1)) (vp_in_nI (by omega) (by omega)) d_L_law_784 ?_
  rw [nI_clamp (by omega)]
  have hM := hT.mv
  have hz := hT.hz
  have hPm := pm_mP hP
  have hDm := pm_mD hD
  have hFm := fr_A hDm hS hA
  refine va_calli (va_runV (As := [.int (xs (5 * t + 1))]) (rest := []) ⟨hx, hb, hml, hown, hts⟩ (c_M_settle l D cs am τ n nm hM H_1.size (xs (5 * t + 1))) (cwV 1 hts (gw_V kw_742 kw_743 kw_744 kw_6 kw_745) rfl rfl rfl (by decide +kernel) ⟨Nat.le_of_ble_eq_true rfl, Nat.le_of_ble_eq_true rfl⟩) ⟨wr_blind, rl_recv hK (fr_l hPm) (by decide) gM_0 rfl, fun U hU hW => ⟨rfl, by rw [hU], by rw [hU]; exact fr_l hPm, va_K.moved hW.alike hK, (fr_dl hDm).weaken (fun _ _ _ _ => trivial)⟩⟩ rfl rfl hl.1 rfl (lv_room (Nat.le_of_ble_eq_true rfl)) d_L_law_785 ⟨by show _ ≤ 601024; omega, by show _ ≤ 7293034; omega⟩) hS (fun q _ h => hFm q h) hFm (fun rm_5 um_6 t9 H_4 locs ht hvm hw hB hz1 hk1 hS => ?_)
  have hm : mr_settle τ n nm (xs (5 * t + 1)) rm_5 um_6 := hw
  obtain ⟨hP1, -, hD1⟩ := hB
  rw [ht] at hP1
  obtain ⟨hPm, hDm⟩ := fr_join hPm hDm hk1 hFm hP1 hD1
  have hP := pm_mP hPm
  have hD := pm_mD hDm
  replace hP : va_P D cls_ (wL cs ad s1 n nm ci cj E am um_6 o f1) H_4 := hP
  replace hD : va_D (AL s) (wL cs ad s1 n nm ci cj E am um_6 o f1) := hD
  obtain ⟨hk0, hr0, hT⟩ := tt_settle hT hc hm
  refine lv_istore (lv' := [(6, .int rm_5), (5, .int kc_2), (0, .ref b), (1, .ref (ad 0)), (2, .ref (am 0)), (3, .ref o), (4, .int (nI (5 * t)))]) hx hb d_L_law_788 hl (by decide) rfl (fun ls hl => ?_)
  refine lv_goto (tgt := 914) hx hb d_L_law_790 (by decide) ?_
  exact lp_next C hn ht5 (lv_sub hl [2, 3, 4, 5, 6] rfl) hI hT hP hD hS (by omega) (by omega)
set_option maxHeartbeats 4000000 in
set_option maxRecDepth 100000 in
theorem lc_13 {p : Program} {l : Launch} {e : Env} {s : State} {m : MethodId} {below : List Frame} {meth : Method} {c : Code} {b L : Nat} {xs : Nat → Int32} {D : va_G} {cs : Nat → ClassId} {mi E : Nat} (C : lw_C p l s m meth c b L xs D cs mi E 2560) {t : Nat} (hn : lpH 23 p l e s m below meth c b L D cs E (t + 1)) (ht5 : 5 * t + 5 ≤ L) {ls : Array Slot} {H : Heap} {locs : List Loc} {ad am : Nat → Nat} {σ τ : Nat → Nat → Int32} {n nm ci cj o : Nat} {f : Nat → Int64} (hl : lv_has ls 7 [(0, .ref b), (1, .ref (ad 0)), (2, .ref (am 0)), (3, .ref o), (4, .int (nI (5 * t)))]) (hI : Iv n nm ci cj) (hT : TT σ τ n nm) (ht0 : t = 0 → nm = 0) (hP : va_P D cls_ (wL cs ad σ n nm ci cj E am τ o f) H) (hD : va_D (AL s) (wL cs ad σ n nm ci cj E am τ o f)) (hS : va_S (AL s) s.heap H locs) : W p l e room_1 s m #[Value.ref b] below meth c H locs (43 + 4 * t) (978 + 120 * t) (lw_Z below #[Value.ref b] s) (F0 m 793 ls []) := by
  have C9 := C
  obtain ⟨hx, hb, hr, hml, hown, hG, hX, hbl, hlocks, hK, hXk, hZ, hg, hE, hnc, hst, hLN⟩ := C9
  have hA : ∀ q : Nat, s.heap.size ≤ q → AL s q := fun _ h => h
  have hbA : ¬ AL s b := Nat.not_le.mpr hbl
  have hts : ∀ w ∈ (Cond.initialized "InspectSteps" :: GW), w.before #[Value.ref b] s = true := List.forall_mem_cons.mpr ⟨hG _ kw_1, hG⟩
  refine lv_aload_n hx hb d_L_law_793 rfl (lv_at hl 1 rfl) ?_
  refine lv_aload_n hx hb d_L_law_794 rfl (lv_at hl 0 rfl) ?_
  refine lv_iload hx hb d_L_law_795 (lv_at hl 4 rfl) ?_
  refine lv_iconst (v := 1) hx hb d_L_law_797 (by decide) ?_
  refine lv_iadd hx hb d_L_law_798 ?_
  rw [show nI (5 * t) + 1 = nI (5 * t + 1) from nI_add _ 1]
  refine va_sld hx hb hX hbl hbA hS (i := nI (5 * t + 1)) (vp_in_nI (by omega) (by omega)) d_L_law_799 ?_
  rw [nI_clamp (by omega)]
  refine lv_aload_n hx hb d_L_law_800 rfl (lv_at hl 3 rfl) ?_
  have hPh := pm_hP hP
  have hDh := pm_hD hD
  have hFh := fr_A hDh hS hA
  refine va_calli (vx_runSW (As := [.ref (ad 0), .int (xs (5 * t + 1)), .ref o]) (rest := []) ⟨hx, hb, hml, hown, hts⟩ (c_L_tick l D cs ad σ n nm ci cj E hI hT.jv mi hst o f H.size (xs (5 * t + 1))) (vx_cwSW 3 hts (gw_SW kw_508 kw_509 kw_0 kw_510) rfl rfl rfl (by decide +kernel) ⟨Nat.le_of_ble_eq_true rfl, Nat.le_of_ble_eq_true rfl⟩) ⟨hp_blind, fun U hU hW => ⟨rfl, by rw [hU], by rw [hU]; exact fr_l hPh, va_K.moved hW.alike hK, (fr_dl hDh).weaken (fun _ _ _ _ => trivial), hXk.warm hW, by rw [hU]; exact ((hZ.kept (fun q h1 h2 => hS.2.1 q h1 h2)).moved hW.alike).narrow hFh, hg.moved hW.alike, by rw [hU]; exact ((hE.kept (fun q h1 h2 => hS.2.1 q h1 h2)).moved hW.alike).narrow hFh, va_Nc.moved hW.alike hnc⟩⟩ rfl rfl hl.1 rfl (lv_room (Nat.le_of_ble_eq_true rfl)) d_L_law_801 ⟨by show _ ≤ 601024; omega, by show _ ≤ 7293034; omega⟩) hS (fun q _ h => hFh q h) hFh (fun kc_2 uc t9 H_1 locs ht hvm hw hB hz1 hk1 hS => ?_)
  obtain ⟨rc_3, hc, hfo⟩ := hw
  obtain ⟨hP1, -, hD1⟩ := hB
  rw [ht] at hP1
  obtain ⟨hPh, hDh⟩ := fr_join hPh hDh hk1 hFh hP1 hD1
  have hP := pm_hP' hPh
  have hD := pm_hD' hDh
  obtain ⟨s1, f1⟩ := uc
  replace hfo : kc_2 = 0 → f1 0 = rc_3.toInt64 := hfo
  replace hP : va_P D cls_ (wL cs ad s1 n nm ci cj E am τ o f1) H_1 := hP
  replace hD : va_D (AL s) (wL cs ad s1 n nm ci cj E am τ o f1) := hD
  refine lv_istore (lv' := [(5, .int kc_2), (0, .ref b), (1, .ref (ad 0)), (2, .ref (am 0)), (3, .ref o), (4, .int (nI (5 * t)))]) hx hb d_L_law_804 hl (by decide) rfl (fun ls hl => ?_)
  refine lv_aload_n hx hb d_L_law_806 rfl (lv_at hl 3 rfl) ?_
  refine lv_aload_n hx hb d_L_law_807 rfl (lv_at hl 1 rfl) ?_
  refine lv_iload hx hb d_L_law_808 (lv_at hl 5 rfl) ?_
  refine lv_iconst (v := 1) hx hb d_L_law_810 (by decide) ?_
  refine lv_iadd hx hb d_L_law_811 ?_
  rw [show nI (5 * t) + 1 = nI (5 * t + 1) from nI_add _ 1]
  refine va_sld hx hb hX hbl hbA hS (i := nI (5 * t + 1)) (vp_in_nI (by omega) (by omega)) d_L_law_812 ?_
  rw [nI_clamp (by omega)]
  have hM := hT.mv
  have hz := hT.hz
  obtain ⟨w9, hw9, hw9q⟩ : ∃ w9, w9 ≤ 100000 ∧ σ 0 0 = nI w9 := hT.1.2.2.2.2.2
  have hw9e : τ 0 3 = nI w9 := hT.1.2.2.1.trans hw9q
  have hPm := pm_mP hP
  have hDm := pm_mD hD
  have hFm := fr_A hDm hS hA
  refine va_calli (va_runV (As := [.int (xs (5 * t + 1))]) (rest := []) ⟨hx, hb, hml, hown, hts⟩ (c_M_tick l D cs am τ n nm hM w9 hw9 hw9e H_1.size (xs (5 * t + 1))) (cwV 1 hts (gw_V kw_754 kw_755 kw_756 kw_6 kw_757) rfl rfl rfl (by decide +kernel) ⟨Nat.le_of_ble_eq_true rfl, Nat.le_of_ble_eq_true rfl⟩) ⟨wr_blind, rl_recv hK (fr_l hPm) (by decide) gM_0 rfl, fun U hU hW => ⟨rfl, by rw [hU], by rw [hU]; exact fr_l hPm, va_K.moved hW.alike hK, (fr_dl hDm).weaken (fun _ _ _ _ => trivial)⟩⟩ rfl rfl hl.1 rfl (lv_room (Nat.le_of_ble_eq_true rfl)) d_L_law_813 ⟨by show _ ≤ 601024; omega, by show _ ≤ 7293034; omega⟩) hS (fun q _ h => hFm q h) hFm (fun rm_5 um_6 t9 H_4 locs ht hvm hw hB hz1 hk1 hS => ?_)
  have hm : mr_tick τ n nm w9 (xs (5 * t + 1)) rm_5 um_6 := hw
  obtain ⟨hP1, -, hD1⟩ := hB
  rw [ht] at hP1
  obtain ⟨hPm, hDm⟩ := fr_join hPm hDm hk1 hFm hP1 hD1
  have hP := pm_mP hPm
  have hD := pm_mD hDm
  replace hP : va_P D cls_ (wL cs ad s1 n nm ci cj E am um_6 o f1) H_4 := hP
  replace hD : va_D (AL s) (wL cs ad s1 n nm ci cj E am um_6 o f1) := hD
  obtain ⟨hk0, hr0, hT⟩ := tt_tick hT hw9 hw9e hc hm
  refine lv_istore (lv' := [(6, .int rm_5), (5, .int kc_2), (0, .ref b), (1, .ref (ad 0)), (2, .ref (am 0)), (3, .ref o), (4, .int (nI (5 * t)))]) hx hb d_L_law_816 hl (by decide) rfl (fun ls hl => ?_)
  refine lv_goto (tgt := 914) hx hb d_L_law_818 (by decide) ?_
  exact lp_next C hn ht5 (lv_sub hl [2, 3, 4, 5, 6] rfl) hI hT hP hD hS (by omega) (by omega)
set_option maxHeartbeats 4000000 in
set_option maxRecDepth 100000 in
theorem lc_14 {p : Program} {l : Launch} {e : Env} {s : State} {m : MethodId} {below : List Frame} {meth : Method} {c : Code} {b L : Nat} {xs : Nat → Int32} {D : va_G} {cs : Nat → ClassId} {mi E : Nat} (C : lw_C p l s m meth c b L xs D cs mi E 2560) {t : Nat} (hn : lpH 23 p l e s m below meth c b L D cs E (t + 1)) (ht5 : 5 * t + 5 ≤ L) {ls : Array Slot} {H : Heap} {locs : List Loc} {ad am : Nat → Nat} {σ τ : Nat → Nat → Int32} {n nm ci cj o : Nat} {f : Nat → Int64} (hl : lv_has ls 7 [(0, .ref b), (1, .ref (ad 0)), (2, .ref (am 0)), (3, .ref o), (4, .int (nI (5 * t)))]) (hI : Iv n nm ci cj) (hT : TT σ τ n nm) (ht0 : t = 0 → nm = 0) (hP : va_P D cls_ (wL cs ad σ n nm ci cj E am τ o f) H) (hD : va_D (AL s) (wL cs ad σ n nm ci cj E am τ o f)) (hS : va_S (AL s) s.heap H locs) : W p l e room_1 s m #[Value.ref b] below meth c H locs (43 + 4 * t) (978 + 120 * t) (lw_Z below #[Value.ref b] s) (F0 m 821 ls []) := by
  have C9 := C
  obtain ⟨hx, hb, hr, hml, hown, hG, hX, hbl, hlocks, hK, hXk, hZ, hg, hE, hnc, hst, hLN⟩ := C9
  have hA : ∀ q : Nat, s.heap.size ≤ q → AL s q := fun _ h => h
  have hbA : ¬ AL s b := Nat.not_le.mpr hbl
  have hts : ∀ w ∈ (Cond.initialized "InspectSteps" :: GW), w.before #[Value.ref b] s = true := List.forall_mem_cons.mpr ⟨hG _ kw_1, hG⟩
  refine lv_aload_n hx hb d_L_law_821 rfl (lv_at hl 1 rfl) ?_
  refine lv_aload_n hx hb d_L_law_822 rfl (lv_at hl 0 rfl) ?_
  refine lv_iload hx hb d_L_law_823 (lv_at hl 4 rfl) ?_
  refine lv_iconst (v := 1) hx hb d_L_law_825 (by decide) ?_
  refine lv_iadd hx hb d_L_law_826 ?_
  rw [show nI (5 * t) + 1 = nI (5 * t + 1) from nI_add _ 1]
  refine va_sld hx hb hX hbl hbA hS (i := nI (5 * t + 1)) (vp_in_nI (by omega) (by omega)) d_L_law_827 ?_
  rw [nI_clamp (by omega)]
  refine lv_aload_n hx hb d_L_law_828 rfl (lv_at hl 3 rfl) ?_
  have hPh := pm_hP hP
  have hDh := pm_hD hD
  have hFh := fr_A hDh hS hA
  refine va_calli (vx_runSW (As := [.ref (ad 0), .int (xs (5 * t + 1)), .ref o]) (rest := []) ⟨hx, hb, hml, hown, hts⟩ (c_L_release l D cs ad σ n nm ci cj E hI hT.jv mi hst o f H.size (xs (5 * t + 1))) (vx_cwSW 3 hts (gw_SW kw_529 kw_530 kw_0 kw_531) rfl rfl rfl (by decide +kernel) ⟨Nat.le_of_ble_eq_true rfl, Nat.le_of_ble_eq_true rfl⟩) ⟨hp_blind, fun U hU hW => ⟨rfl, by rw [hU], by rw [hU]; exact fr_l hPh, va_K.moved hW.alike hK, (fr_dl hDh).weaken (fun _ _ _ _ => trivial), hXk.warm hW, by rw [hU]; exact ((hZ.kept (fun q h1 h2 => hS.2.1 q h1 h2)).moved hW.alike).narrow hFh, hg.moved hW.alike, by rw [hU]; exact ((hE.kept (fun q h1 h2 => hS.2.1 q h1 h2)).moved hW.alike).narrow hFh, va_Nc.moved hW.alike hnc⟩⟩ rfl rfl hl.1 rfl (lv_room (Nat.le_of_ble_eq_true rfl)) d_L_law_829 ⟨by show _ ≤ 601024; omega, by show _ ≤ 7293034; omega⟩) hS (fun q _ h => hFh q h) hFh (fun kc_2 uc t9 H_1 locs ht hvm hw hB hz1 hk1 hS => ?_)
  obtain ⟨rc_3, hc, hfo⟩ := hw
  obtain ⟨hP1, -, hD1⟩ := hB
  rw [ht] at hP1
  obtain ⟨hPh, hDh⟩ := fr_join hPh hDh hk1 hFh hP1 hD1
  have hP := pm_hP' hPh
  have hD := pm_hD' hDh
  obtain ⟨s1, f1⟩ := uc
  replace hfo : kc_2 = 0 → f1 0 = rc_3.toInt64 := hfo
  replace hP : va_P D cls_ (wL cs ad s1 n nm ci cj E am τ o f1) H_1 := hP
  replace hD : va_D (AL s) (wL cs ad s1 n nm ci cj E am τ o f1) := hD
  refine lv_istore (lv' := [(5, .int kc_2), (0, .ref b), (1, .ref (ad 0)), (2, .ref (am 0)), (3, .ref o), (4, .int (nI (5 * t)))]) hx hb d_L_law_832 hl (by decide) rfl (fun ls hl => ?_)
  refine lv_aload_n hx hb d_L_law_834 rfl (lv_at hl 3 rfl) ?_
  refine lv_aload_n hx hb d_L_law_835 rfl (lv_at hl 1 rfl) ?_
  refine lv_iload hx hb d_L_law_836 (lv_at hl 5 rfl) ?_
  refine lv_iconst (v := 1) hx hb d_L_law_838 (by decide) ?_
  refine lv_iadd hx hb d_L_law_839 ?_
  rw [show nI (5 * t) + 1 = nI (5 * t + 1) from nI_add _ 1]
  refine va_sld hx hb hX hbl hbA hS (i := nI (5 * t + 1)) (vp_in_nI (by omega) (by omega)) d_L_law_840 ?_
  rw [nI_clamp (by omega)]
  have hM := hT.mv
  have hz := hT.hz
  have hPm := pm_mP hP
  have hDm := pm_mD hD
  have hFm := fr_A hDm hS hA
  refine va_calli (va_runV (As := [.int (xs (5 * t + 1))]) (rest := []) ⟨hx, hb, hml, hown, hts⟩ (c_M_release l D cs am τ n nm hM H_1.size (xs (5 * t + 1))) (cwV 1 hts (gw_V kw_758 kw_759 kw_760 kw_6 kw_761) rfl rfl rfl (by decide +kernel) ⟨Nat.le_of_ble_eq_true rfl, Nat.le_of_ble_eq_true rfl⟩) ⟨wr_blind, rl_recv hK (fr_l hPm) (by decide) gM_0 rfl, fun U hU hW => ⟨rfl, by rw [hU], by rw [hU]; exact fr_l hPm, va_K.moved hW.alike hK, (fr_dl hDm).weaken (fun _ _ _ _ => trivial)⟩⟩ rfl rfl hl.1 rfl (lv_room (Nat.le_of_ble_eq_true rfl)) d_L_law_841 ⟨by show _ ≤ 601024; omega, by show _ ≤ 7293034; omega⟩) hS (fun q _ h => hFm q h) hFm (fun rm_5 um_6 t9 H_4 locs ht hvm hw hB hz1 hk1 hS => ?_)
  have hm : mr_release τ n nm (xs (5 * t + 1)) rm_5 um_6 := hw
  obtain ⟨hP1, -, hD1⟩ := hB
  rw [ht] at hP1
  obtain ⟨hPm, hDm⟩ := fr_join hPm hDm hk1 hFm hP1 hD1
  have hP := pm_mP hPm
  have hD := pm_mD hDm
  replace hP : va_P D cls_ (wL cs ad s1 n nm ci cj E am um_6 o f1) H_4 := hP
  replace hD : va_D (AL s) (wL cs ad s1 n nm ci cj E am um_6 o f1) := hD
  obtain ⟨hk0, hr0, hT⟩ := tt_release hT hc hm
  refine lv_istore (lv' := [(6, .int rm_5), (5, .int kc_2), (0, .ref b), (1, .ref (ad 0)), (2, .ref (am 0)), (3, .ref o), (4, .int (nI (5 * t)))]) hx hb d_L_law_844 hl (by decide) rfl (fun ls hl => ?_)
  refine lv_goto (tgt := 914) hx hb d_L_law_846 (by decide) ?_
  exact lp_next C hn ht5 (lv_sub hl [2, 3, 4, 5, 6] rfl) hI hT hP hD hS (by omega) (by omega)
set_option maxHeartbeats 4000000 in
set_option maxRecDepth 100000 in
theorem lc_15 {p : Program} {l : Launch} {e : Env} {s : State} {m : MethodId} {below : List Frame} {meth : Method} {c : Code} {b L : Nat} {xs : Nat → Int32} {D : va_G} {cs : Nat → ClassId} {mi E : Nat} (C : lw_C p l s m meth c b L xs D cs mi E 2560) {t : Nat} (hn : lpH 23 p l e s m below meth c b L D cs E (t + 1)) (ht5 : 5 * t + 5 ≤ L) {ls : Array Slot} {H : Heap} {locs : List Loc} {ad am : Nat → Nat} {σ τ : Nat → Nat → Int32} {n nm ci cj o : Nat} {f : Nat → Int64} (hl : lv_has ls 7 [(0, .ref b), (1, .ref (ad 0)), (2, .ref (am 0)), (3, .ref o), (4, .int (nI (5 * t)))]) (hI : Iv n nm ci cj) (hT : TT σ τ n nm) (ht0 : t = 0 → nm = 0) (hP : va_P D cls_ (wL cs ad σ n nm ci cj E am τ o f) H) (hD : va_D (AL s) (wL cs ad σ n nm ci cj E am τ o f)) (hS : va_S (AL s) s.heap H locs) : W p l e room_1 s m #[Value.ref b] below meth c H locs (43 + 4 * t) (978 + 120 * t) (lw_Z below #[Value.ref b] s) (F0 m 849 ls []) := by
  have C9 := C
  obtain ⟨hx, hb, hr, hml, hown, hG, hX, hbl, hlocks, hK, hXk, hZ, hg, hE, hnc, hst, hLN⟩ := C9
  have hA : ∀ q : Nat, s.heap.size ≤ q → AL s q := fun _ h => h
  have hbA : ¬ AL s b := Nat.not_le.mpr hbl
  have hts : ∀ w ∈ (Cond.initialized "InspectSteps" :: GW), w.before #[Value.ref b] s = true := List.forall_mem_cons.mpr ⟨hG _ kw_1, hG⟩
  refine lv_aload_n hx hb d_L_law_849 rfl (lv_at hl 1 rfl) ?_
  refine lv_aload_n hx hb d_L_law_850 rfl (lv_at hl 0 rfl) ?_
  refine lv_iload hx hb d_L_law_851 (lv_at hl 4 rfl) ?_
  refine lv_iconst (v := 1) hx hb d_L_law_853 (by decide) ?_
  refine lv_iadd hx hb d_L_law_854 ?_
  rw [show nI (5 * t) + 1 = nI (5 * t + 1) from nI_add _ 1]
  refine va_sld hx hb hX hbl hbA hS (i := nI (5 * t + 1)) (vp_in_nI (by omega) (by omega)) d_L_law_855 ?_
  rw [nI_clamp (by omega)]
  refine lv_aload_n hx hb d_L_law_856 rfl (lv_at hl 0 rfl) ?_
  refine lv_iload hx hb d_L_law_857 (lv_at hl 4 rfl) ?_
  refine lv_iconst (v := 2) hx hb d_L_law_859 (by decide) ?_
  refine lv_iadd hx hb d_L_law_860 ?_
  rw [show nI (5 * t) + 2 = nI (5 * t + 2) from nI_add _ 2]
  refine va_sld hx hb hX hbl hbA hS (i := nI (5 * t + 2)) (vp_in_nI (by omega) (by omega)) d_L_law_861 ?_
  rw [nI_clamp (by omega)]
  refine lv_aload_n hx hb d_L_law_862 rfl (lv_at hl 3 rfl) ?_
  have hPh := pm_hP hP
  have hDh := pm_hD hD
  have hFh := fr_A hDh hS hA
  refine va_calli (vx_runSW (As := [.ref (ad 0), .int (xs (5 * t + 1)), .int (xs (5 * t + 2)), .ref o]) (rest := []) ⟨hx, hb, hml, hown, hts⟩ (c_L_look l D cs ad σ n nm ci cj E hI hT.jv mi hst o f H.size (xs (5 * t + 1)) (xs (5 * t + 2))) (vx_cwSW 4 hts (gw_SW kw_549 kw_550 kw_0 kw_551) rfl rfl rfl (by decide +kernel) ⟨Nat.le_of_ble_eq_true rfl, Nat.le_of_ble_eq_true rfl⟩) ⟨hp_blind, fun U hU hW => ⟨rfl, by rw [hU], by rw [hU]; exact fr_l hPh, va_K.moved hW.alike hK, (fr_dl hDh).weaken (fun _ _ _ _ => trivial), hXk.warm hW, by rw [hU]; exact ((hZ.kept (fun q h1 h2 => hS.2.1 q h1 h2)).moved hW.alike).narrow hFh, hg.moved hW.alike, by rw [hU]; exact ((hE.kept (fun q h1 h2 => hS.2.1 q h1 h2)).moved hW.alike).narrow hFh, va_Nc.moved hW.alike hnc⟩⟩ rfl rfl hl.1 rfl (lv_room (Nat.le_of_ble_eq_true rfl)) d_L_law_863 ⟨by show _ ≤ 601024; omega, by show _ ≤ 7293034; omega⟩) hS (fun q _ h => hFh q h) hFh (fun kc_2 uc t9 H_1 locs ht hvm hw hB hz1 hk1 hS => ?_)
  obtain ⟨rc_3, hc, hfo⟩ := hw
  obtain ⟨hP1, -, hD1⟩ := hB
  rw [ht] at hP1
  obtain ⟨hPh, hDh⟩ := fr_join hPh hDh hk1 hFh hP1 hD1
  have hP := pm_hP' hPh
  have hD := pm_hD' hDh
  obtain ⟨s1, f1⟩ := uc
  replace hfo : kc_2 = 0 → f1 0 = rc_3.toInt64 := hfo
  replace hP : va_P D cls_ (wL cs ad s1 n nm ci cj E am τ o f1) H_1 := hP
  replace hD : va_D (AL s) (wL cs ad s1 n nm ci cj E am τ o f1) := hD
  refine lv_istore (lv' := [(5, .int kc_2), (0, .ref b), (1, .ref (ad 0)), (2, .ref (am 0)), (3, .ref o), (4, .int (nI (5 * t)))]) hx hb d_L_law_866 hl (by decide) rfl (fun ls hl => ?_)
  refine lv_aload_n hx hb d_L_law_868 rfl (lv_at hl 3 rfl) ?_
  refine lv_aload_n hx hb d_L_law_869 rfl (lv_at hl 1 rfl) ?_
  refine lv_iload hx hb d_L_law_870 (lv_at hl 5 rfl) ?_
  refine lv_iconst (v := 1) hx hb d_L_law_872 (by decide) ?_
  refine lv_iadd hx hb d_L_law_873 ?_
  rw [show nI (5 * t) + 1 = nI (5 * t + 1) from nI_add _ 1]
  refine va_sld hx hb hX hbl hbA hS (i := nI (5 * t + 1)) (vp_in_nI (by omega) (by omega)) d_L_law_874 ?_
  rw [nI_clamp (by omega)]
  refine lv_aload_n hx hb d_L_law_875 rfl (lv_at hl 1 rfl) ?_
  refine lv_iload hx hb d_L_law_876 (lv_at hl 5 rfl) ?_
  refine lv_iconst (v := 2) hx hb d_L_law_878 (by decide) ?_
  refine lv_iadd hx hb d_L_law_879 ?_
  rw [show nI (5 * t) + 2 = nI (5 * t + 2) from nI_add _ 2]
  refine va_sld hx hb hX hbl hbA hS (i := nI (5 * t + 2)) (vp_in_nI (by omega) (by omega)) d_L_law_880 ?_
  rw [nI_clamp (by omega)]
  have hM := hT.mv
  have hz := hT.hz
  have hPm := pm_mP hP
  have hDm := pm_mD hD
  have hFm := fr_A hDm hS hA
  refine va_calli (va_runV (As := [.int (xs (5 * t + 1)), .int (xs (5 * t + 2))]) (rest := []) ⟨hx, hb, hml, hown, hts⟩ (c_M_look l D cs am τ n nm hM H_1.size (xs (5 * t + 1)) (xs (5 * t + 2))) (cwV 2 hts (gw_V kw_766 kw_767 kw_768 kw_6 kw_769) rfl rfl rfl (by decide +kernel) ⟨Nat.le_of_ble_eq_true rfl, Nat.le_of_ble_eq_true rfl⟩) ⟨wr_blind, rl_recv hK (fr_l hPm) (by decide) gM_0 rfl, fun U hU hW => ⟨rfl, by rw [hU], by rw [hU]; exact fr_l hPm, va_K.moved hW.alike hK, (fr_dl hDm).weaken (fun _ _ _ _ => trivial)⟩⟩ rfl rfl hl.1 rfl (lv_room (Nat.le_of_ble_eq_true rfl)) d_L_law_881 ⟨by show _ ≤ 601024; omega, by show _ ≤ 7293034; omega⟩) hS (fun q _ h => hFm q h) hFm (fun rm_5 um_6 t9 H_4 locs ht hvm hw hB hz1 hk1 hS => ?_)
  have hm : mr_look τ n nm (xs (5 * t + 1)) (xs (5 * t + 2)) rm_5 um_6 := hw
  obtain ⟨hP1, -, hD1⟩ := hB
  rw [ht] at hP1
  obtain ⟨hPm, hDm⟩ := fr_join hPm hDm hk1 hFm hP1 hD1
  have hP := pm_mP hPm
  have hD := pm_mD hDm
  replace hP : va_P D cls_ (wL cs ad s1 n nm ci cj E am um_6 o f1) H_4 := hP
  replace hD : va_D (AL s) (wL cs ad s1 n nm ci cj E am um_6 o f1) := hD
  obtain ⟨hk0, hr0, hT⟩ := tt_look hT hc hm
  refine lv_istore (lv' := [(6, .int rm_5), (5, .int kc_2), (0, .ref b), (1, .ref (ad 0)), (2, .ref (am 0)), (3, .ref o), (4, .int (nI (5 * t)))]) hx hb d_L_law_884 hl (by decide) rfl (fun ls hl => ?_)
  refine lv_goto (tgt := 914) hx hb d_L_law_886 (by decide) ?_
  exact lp_next C hn ht5 (lv_sub hl [2, 3, 4, 5, 6] rfl) hI hT hP hD hS (by omega) (by omega)
set_option maxHeartbeats 4000000 in
set_option maxRecDepth 100000 in
theorem lc_16 {p : Program} {l : Launch} {e : Env} {s : State} {m : MethodId} {below : List Frame} {meth : Method} {c : Code} {b L : Nat} {xs : Nat → Int32} {D : va_G} {cs : Nat → ClassId} {mi E : Nat} (C : lw_C p l s m meth c b L xs D cs mi E 2560) {t : Nat} (hn : lpH 23 p l e s m below meth c b L D cs E (t + 1)) (ht5 : 5 * t + 5 ≤ L) {ls : Array Slot} {H : Heap} {locs : List Loc} {ad am : Nat → Nat} {σ τ : Nat → Nat → Int32} {n nm ci cj o : Nat} {f : Nat → Int64} (hl : lv_has ls 7 [(0, .ref b), (1, .ref (ad 0)), (2, .ref (am 0)), (3, .ref o), (4, .int (nI (5 * t)))]) (hI : Iv n nm ci cj) (hT : TT σ τ n nm) (ht0 : t = 0 → nm = 0) (hP : va_P D cls_ (wL cs ad σ n nm ci cj E am τ o f) H) (hD : va_D (AL s) (wL cs ad σ n nm ci cj E am τ o f)) (hS : va_S (AL s) s.heap H locs) : W p l e room_1 s m #[Value.ref b] below meth c H locs (43 + 4 * t) (978 + 120 * t) (lw_Z below #[Value.ref b] s) (F0 m 889 ls []) := by
  have C9 := C
  obtain ⟨hx, hb, hr, hml, hown, hG, hX, hbl, hlocks, hK, hXk, hZ, hg, hE, hnc, hst, hLN⟩ := C9
  have hA : ∀ q : Nat, s.heap.size ≤ q → AL s q := fun _ h => h
  have hbA : ¬ AL s b := Nat.not_le.mpr hbl
  have hts : ∀ w ∈ (Cond.initialized "InspectSteps" :: GW), w.before #[Value.ref b] s = true := List.forall_mem_cons.mpr ⟨hG _ kw_1, hG⟩
  refine lv_aload_n hx hb d_L_law_889 rfl (lv_at hl 1 rfl) ?_
  refine lv_aload_n hx hb d_L_law_890 rfl (lv_at hl 0 rfl) ?_
  refine lv_iload hx hb d_L_law_891 (lv_at hl 4 rfl) ?_
  refine lv_iconst (v := 1) hx hb d_L_law_893 (by decide) ?_
  refine lv_iadd hx hb d_L_law_894 ?_
  rw [show nI (5 * t) + 1 = nI (5 * t + 1) from nI_add _ 1]
  refine va_sld hx hb hX hbl hbA hS (i := nI (5 * t + 1)) (vp_in_nI (by omega) (by omega)) d_L_law_895 ?_
  rw [nI_clamp (by omega)]
  refine vp_callSi (W.runV (As := [.int (xs (5 * t + 1))]) (rest := []) ⟨hx, hb, hml, hown, hts⟩ (c_C_count l D cs ad σ n nm ci cj E hI hT.jv (xs (5 * t + 1))) (cwV 1 hts (gw_V kw_161 kw_162 kw_163 kw_1 kw_164) rfl rfl rfl (by decide +kernel) ⟨Nat.le_of_ble_eq_true rfl, Nat.le_of_ble_eq_true rfl⟩) (rd_V (fr_l hP) hK (rl_recv hK (fr_l hP) (RC_f (by decide)) gC_0 rfl)) rfl rfl hl.1 rfl (lv_room (Nat.le_of_ble_eq_true rfl)) d_L_law_896 ⟨by show _ ≤ 601024; omega, by show _ ≤ 7293034; omega⟩) (fun r_1 h_2 => ?_)
  subst h_2
  refine lv_aload_n hx hb d_L_law_899 rfl (lv_at hl 2 rfl) ?_
  refine lv_aload_n hx hb d_L_law_900 rfl (lv_at hl 0 rfl) ?_
  refine lv_iload hx hb d_L_law_901 (lv_at hl 4 rfl) ?_
  refine lv_iconst (v := 1) hx hb d_L_law_903 (by decide) ?_
  refine lv_iadd hx hb d_L_law_904 ?_
  rw [show nI (5 * t) + 1 = nI (5 * t + 1) from nI_add _ 1]
  refine va_sld hx hb hX hbl hbA hS (i := nI (5 * t + 1)) (vp_in_nI (by omega) (by omega)) d_L_law_905 ?_
  rw [nI_clamp (by omega)]
  have hM := hT.mv
  have hz := hT.hz
  have hPm := pm_mP hP
  have hDm := pm_mD hD
  have hFm := fr_A hDm hS hA
  refine va_calli (va_runV (As := [.int (xs (5 * t + 1))]) (rest := [.int (cntF σ n nm (xs (5 * t + 1)))]) ⟨hx, hb, hml, hown, hts⟩ (c_M_count l D cs am τ n nm hM H.size (xs (5 * t + 1))) (cwV 1 hts (gw_V kw_774 kw_775 kw_776 kw_6 kw_777) rfl rfl rfl (by decide +kernel) ⟨Nat.le_of_ble_eq_true rfl, Nat.le_of_ble_eq_true rfl⟩) ⟨wr_blind, rl_recv hK (fr_l hPm) (by decide) gM_0 rfl, fun U hU hW => ⟨rfl, by rw [hU], by rw [hU]; exact fr_l hPm, va_K.moved hW.alike hK, (fr_dl hDm).weaken (fun _ _ _ _ => trivial)⟩⟩ rfl rfl hl.1 rfl (lv_room (Nat.le_of_ble_eq_true rfl)) d_L_law_906 ⟨by show _ ≤ 601024; omega, by show _ ≤ 7293034; omega⟩) hS (fun q _ h => hFm q h) hFm (fun rm_4 um_5 t9 H_3 locs ht hvm hw hB hz1 hk1 hS => ?_)
  have hm : mr_count τ n nm (xs (5 * t + 1)) rm_4 um_5 := hw
  obtain ⟨hP1, -, hD1⟩ := hB
  rw [ht] at hP1
  obtain ⟨hPm, hDm⟩ := fr_join hPm hDm hk1 hFm hP1 hD1
  have hP := pm_mP hPm
  have hD := pm_mD hDm
  replace hP : va_P D cls_ (wL cs ad σ n nm ci cj E am um_5 o f) H_3 := hP
  replace hD : va_D (AL s) (wL cs ad σ n nm ci cj E am um_5 o f) := hD
  obtain ⟨he1, he2⟩ := hm
  have heq : rm_4 = cntF σ n nm (xs (5 * t + 1)) := he1.trans (tt_count hT).symm
  subst he2
  replace hT := tt_thr (x := 0) hT
  replace hP : va_P D cls_ (wL cs ad σ n nm ci cj E am (su τ 0 0 0) o f) H_3 := hP
  replace hD : va_D (AL s) (wL cs ad σ n nm ci cj E am (su τ 0 0 0) o f) := hD
  refine lv_icmp_eq (tgt := 914) hx hb d_L_law_909 (by decide) (fun _ => ?_) (fun c9 => absurd (heq.symm) c9)
  exact lp_next C hn ht5 (lv_sub hl [0, 1, 2, 3, 4] rfl) hI hT hP hD hS (by omega) (by omega)
