set_option maxHeartbeats 4000000 in
set_option maxRecDepth 100000 in
theorem lp_next {p : Program} {l : Launch} {e : Env} {s : State} {m : MethodId} {below : List Frame} {meth : Method} {c : Code} {b L : Nat} {xs : Nat → Int32} {D : va_G} {cs : Nat → ClassId} {mi E : Nat} (C : lw_C p l s m meth c b L xs D cs mi E 5) {t : Nat} (hn : lpH 23 p l e s m below meth c b L D cs E (t + 1)) (ht5 : 5 * t + 5 ≤ L) {ls : Array Slot} {H : Heap} {locs : List Loc} {ad am : Nat → Nat} {σ τ : Nat → Nat → Int32} {n nm ci cj o : Nat} {f : Nat → Int64} (hl : lv_has ls 7 [(0, .ref b), (1, .ref (ad 0)), (2, .ref (am 0)), (3, .ref o), (4, .int (nI (5 * t)))]) (hI : Iv n nm ci cj) (hT : TT σ τ n nm) (hP : va_P D cls_ (wL cs ad σ n nm ci cj E am τ o f) H) (hD : va_D (AL s) (wL cs ad σ n nm ci cj E am τ o f)) (hS : va_S (AL s) s.heap H locs) {cells slots : Nat} (h1 : cells ≤ 43 + 4 * (t + 1)) (h2 : slots ≤ 978 + 120 * (t + 1)) : W p l e room_1 s m #[Value.ref b] below meth c H locs cells slots (lw_Z below #[Value.ref b] s) (F0 m 1222 ls []) := by
  obtain ⟨hx, hb, hr, hml, hown, hG, hX, hbl, hlocks, hK, hXk, hZ, hg, hE, hnc, hst, hLN⟩ := C
  have hA : ∀ q : Nat, s.heap.size ≤ q → AL s q := fun _ h => h
  have hbA : ¬ AL s b := Nat.not_le.mpr hbl
  refine W.widen h1 h2 ?_
  refine lv_iinc (v := nI (5 * (t + 1))) (lv' := [(4, .int (nI (5 * (t + 1)))), (0, .ref b), (1, .ref (ad 0)), (2, .ref (am 0)), (3, .ref o)]) hx hb d_L_law_1222 hl (k := 4) rfl (by show nI (5 * t) + 5 = _; rw [show (5 : Int32) = nI 5 from rfl, nI_add, show 5 * t + 5 = 5 * (t + 1) by omega]) (by decide) rfl (fun ls hl => ?_)
  refine lv_goto (tgt := 23) hx hb d_L_law_1225 (by decide) ?_
  exact hn ls H locs ad am σ τ n nm ci cj o f (lv_sub hl [1, 2, 3, 4, 0] rfl) (by omega) hI hT (by omega) hP hD hS
set_option maxHeartbeats 4000000 in
set_option maxRecDepth 100000 in
theorem lc_0 {p : Program} {l : Launch} {e : Env} {s : State} {m : MethodId} {below : List Frame} {meth : Method} {c : Code} {b L : Nat} {xs : Nat → Int32} {D : va_G} {cs : Nat → ClassId} {mi E : Nat} (C : lw_C p l s m meth c b L xs D cs mi E 5) {t : Nat} (hn : lpH 23 p l e s m below meth c b L D cs E (t + 1)) (ht5 : 5 * t + 5 ≤ L) {ls : Array Slot} {H : Heap} {locs : List Loc} {ad am : Nat → Nat} {σ τ : Nat → Nat → Int32} {n nm ci cj o : Nat} {f : Nat → Int64} (hl : lv_has ls 7 [(0, .ref b), (1, .ref (ad 0)), (2, .ref (am 0)), (3, .ref o), (4, .int (nI (5 * t)))]) (hI : Iv n nm ci cj) (hT : TT σ τ n nm) (ht0 : t = 0 → nm = 0) (hP : va_P D cls_ (wL cs ad σ n nm ci cj E am τ o f) H) (hD : va_D (AL s) (wL cs ad σ n nm ci cj E am τ o f)) (hS : va_S (AL s) s.heap H locs) : W p l e room_1 s m #[Value.ref b] below meth c H locs (43 + 4 * t) (978 + 120 * t) (lw_Z below #[Value.ref b] s) (F0 m 120 ls []) := by
  have C9 := C
  obtain ⟨hx, hb, hr, hml, hown, hG, hX, hbl, hlocks, hK, hXk, hZ, hg, hE, hnc, hst, hLN⟩ := C9
  have hA : ∀ q : Nat, s.heap.size ≤ q → AL s q := fun _ h => h
  have hbA : ¬ AL s b := Nat.not_le.mpr hbl
  have hts : ∀ w ∈ (Cond.initialized "InspectSteps" :: GW), w.before #[Value.ref b] s = true := List.forall_mem_cons.mpr ⟨hG _ kw_1, hG⟩
  refine lv_aload_n hx hb d_L_law_120 rfl (lv_at hl 1 rfl) ?_
  refine lv_aload_n hx hb d_L_law_121 rfl (lv_at hl 0 rfl) ?_
  refine lv_iload hx hb d_L_law_122 (lv_at hl 4 rfl) ?_
  refine lv_iconst (v := 1) hx hb d_L_law_124 (by decide) ?_
  refine lv_iadd hx hb d_L_law_125 ?_
  rw [show nI (5 * t) + 1 = nI (5 * t + 1) from nI_add _ 1]
  refine va_sld hx hb hX hbl hbA hS (i := nI (5 * t + 1)) (vp_in_nI (by omega) (by omega)) d_L_law_126 ?_
  rw [nI_clamp (by omega)]
  refine lv_aload_n hx hb d_L_law_127 rfl (lv_at hl 0 rfl) ?_
  refine lv_iload hx hb d_L_law_128 (lv_at hl 4 rfl) ?_
  refine lv_iconst (v := 2) hx hb d_L_law_130 (by decide) ?_
  refine lv_iadd hx hb d_L_law_131 ?_
  rw [show nI (5 * t) + 2 = nI (5 * t + 2) from nI_add _ 2]
  refine va_sld hx hb hX hbl hbA hS (i := nI (5 * t + 2)) (vp_in_nI (by omega) (by omega)) d_L_law_132 ?_
  rw [nI_clamp (by omega)]
  refine lv_aload_n hx hb d_L_law_133 rfl (lv_at hl 0 rfl) ?_
  refine lv_iload hx hb d_L_law_134 (lv_at hl 4 rfl) ?_
  refine lv_iconst (v := 3) hx hb d_L_law_136 (by decide) ?_
  refine lv_iadd hx hb d_L_law_137 ?_
  rw [show nI (5 * t) + 3 = nI (5 * t + 3) from nI_add _ 3]
  refine va_sld hx hb hX hbl hbA hS (i := nI (5 * t + 3)) (vp_in_nI (by omega) (by omega)) d_L_law_138 ?_
  rw [nI_clamp (by omega)]
  refine lv_if_eq (tgt := 146) hx hb d_L_law_139 (by decide) (fun c_1 => ?_) (fun c_1 => ?_)
  · refine lv_iconst (v := 0) hx hb d_L_law_146 (by decide) ?_
    have hPx := fr_l hP
    have hDx := fr_dl hD
    have hFX := fr_A hD hS hA
    refine va_calli (va_runV (As := [.int (xs (5 * t + 1)), .int (xs (5 * t + 2)), .int 0]) (rest := []) ⟨hx, hb, hml, hown, hts⟩ (c_C_right l D cs ad σ n nm ci cj E hI H.size (xs (5 * t + 1)) (xs (5 * t + 2)) 0) (cwV 3 hts (gw_V kw_91 kw_92 kw_93 kw_1 kw_94) rfl rfl rfl (by decide +kernel) ⟨Nat.le_of_ble_eq_true rfl, Nat.le_of_ble_eq_true rfl⟩) ⟨wr_blind, rl_recv hK hPx (RC_f (by decide)) gC_0 rfl, fun U hU hW => ⟨rfl, by rw [hU], by rw [hU]; exact hPx, va_K.moved hW.alike hK, hDx.weaken (fun _ _ _ _ => trivial)⟩⟩ rfl rfl hl.1 rfl (lv_room (Nat.le_of_ble_eq_true rfl)) d_L_law_147 ⟨by show _ ≤ 600002; omega, by show _ ≤ 7302232; omega⟩) hS (fun q _ h => hFX q h) hFX (fun rc_3 uc_4 t9 H_2 locs ht hvm hw hB hz1 hk1 hS => ?_)
    have hc : cr_right σ n nm (xs (5 * t + 1)) (xs (5 * t + 2)) 0 rc_3 uc_4 := hw
    obtain ⟨hP1, -, hD1⟩ := hB
    rw [ht] at hP1
    obtain ⟨hP, hD⟩ := fr_join hP hD hk1 hFX hP1 hD1
    replace hP : va_P D cls_ (wL cs ad uc_4 n nm ci cj E am τ o f) H_2 := hP
    replace hD : va_D (AL s) (wL cs ad uc_4 n nm ci cj E am τ o f) := hD
    refine lv_aload_n hx hb d_L_law_150 rfl (lv_at hl 2 rfl) ?_
    refine lv_aload_n hx hb d_L_law_151 rfl (lv_at hl 0 rfl) ?_
    refine lv_iload hx hb d_L_law_152 (lv_at hl 4 rfl) ?_
    refine lv_iconst (v := 1) hx hb d_L_law_154 (by decide) ?_
    refine lv_iadd hx hb d_L_law_155 ?_
    rw [show nI (5 * t) + 1 = nI (5 * t + 1) from nI_add _ 1]
    refine va_sld hx hb hX hbl hbA hS (i := nI (5 * t + 1)) (vp_in_nI (by omega) (by omega)) d_L_law_156 ?_
    rw [nI_clamp (by omega)]
    refine lv_aload_n hx hb d_L_law_157 rfl (lv_at hl 0 rfl) ?_
    refine lv_iload hx hb d_L_law_158 (lv_at hl 4 rfl) ?_
    refine lv_iconst (v := 2) hx hb d_L_law_160 (by decide) ?_
    refine lv_iadd hx hb d_L_law_161 ?_
    rw [show nI (5 * t) + 2 = nI (5 * t + 2) from nI_add _ 2]
    refine va_sld hx hb hX hbl hbA hS (i := nI (5 * t + 2)) (vp_in_nI (by omega) (by omega)) d_L_law_162 ?_
    rw [nI_clamp (by omega)]
    refine lv_aload_n hx hb d_L_law_163 rfl (lv_at hl 0 rfl) ?_
    refine lv_iload hx hb d_L_law_164 (lv_at hl 4 rfl) ?_
    refine lv_iconst (v := 3) hx hb d_L_law_166 (by decide) ?_
    refine lv_iadd hx hb d_L_law_167 ?_
    rw [show nI (5 * t) + 3 = nI (5 * t + 3) from nI_add _ 3]
    refine va_sld hx hb hX hbl hbA hS (i := nI (5 * t + 3)) (vp_in_nI (by omega) (by omega)) d_L_law_168 ?_
    rw [nI_clamp (by omega)]
    refine lv_if_eq (tgt := 176) hx hb d_L_law_169 (by decide) (fun _ => ?_) (fun c9 => absurd c_1 c9)
    refine lv_iconst (v := 0) hx hb d_L_law_176 (by decide) ?_
    have hM := hT.mv
    have hz := hT.hz
    have hPm := pm_mP hP
    have hDm := pm_mD hD
    have hFm := fr_A hDm hS hA
    refine va_calli (va_runV (As := [.int (xs (5 * t + 1)), .int (xs (5 * t + 2)), .int 0]) (rest := [.int rc_3]) ⟨hx, hb, hml, hown, hts⟩ (c_M_right l D cs am τ n nm hM hz H_2.size (xs (5 * t + 1)) (xs (5 * t + 2)) 0 (Or.inl rfl)) (cwV 3 hts (gw_V kw_661 kw_662 kw_663 kw_6 kw_664) rfl rfl rfl (by decide +kernel) ⟨Nat.le_of_ble_eq_true rfl, Nat.le_of_ble_eq_true rfl⟩) ⟨wr_blind, rl_recv hK (fr_l hPm) (by decide) gM_0 rfl, fun U hU hW => ⟨rfl, by rw [hU], by rw [hU]; exact fr_l hPm, va_K.moved hW.alike hK, (fr_dl hDm).weaken (fun _ _ _ _ => trivial)⟩⟩ rfl rfl hl.1 rfl (lv_room (Nat.le_of_ble_eq_true rfl)) d_L_law_177 ⟨by show _ ≤ 600002; omega, by show _ ≤ 7302232; omega⟩) hS (fun q _ h => hFm q h) hFm (fun rm_6 um_7 t9 H_5 locs ht hvm hw hB hz1 hk1 hS => ?_)
    have hm : mr_right τ n nm (xs (5 * t + 1)) (xs (5 * t + 2)) 0 rm_6 um_7 := hw
    obtain ⟨hP1, -, hD1⟩ := hB
    rw [ht] at hP1
    obtain ⟨hPm, hDm⟩ := fr_join hPm hDm hk1 hFm hP1 hD1
    have hP := pm_mP hPm
    have hD := pm_mD hDm
    replace hP : va_P D cls_ (wL cs ad uc_4 n nm ci cj E am um_7 o f) H_5 := hP
    replace hD : va_D (AL s) (wL cs ad uc_4 n nm ci cj E am um_7 o f) := hD
    obtain ⟨heq, hT⟩ := tt_right hT (Or.inl rfl) hc hm
    subst heq
    refine lv_icmp_eq (tgt := 1222) hx hb d_L_law_180 (by decide) (fun _ => ?_) (fun c9 => absurd (rfl) c9)
    exact lp_next C hn ht5 (lv_sub hl [0, 1, 2, 3, 4] rfl) hI hT hP hD hS (by omega) (by omega)
  · refine lv_iconst (v := 1) hx hb d_L_law_142 (by decide) ?_
    refine lv_goto (tgt := 147) hx hb d_L_law_143 (by decide) ?_
    have hPx := fr_l hP
    have hDx := fr_dl hD
    have hFX := fr_A hD hS hA
    refine va_calli (va_runV (As := [.int (xs (5 * t + 1)), .int (xs (5 * t + 2)), .int 1]) (rest := []) ⟨hx, hb, hml, hown, hts⟩ (c_C_right l D cs ad σ n nm ci cj E hI H.size (xs (5 * t + 1)) (xs (5 * t + 2)) 1) (cwV 3 hts (gw_V kw_91 kw_92 kw_93 kw_1 kw_94) rfl rfl rfl (by decide +kernel) ⟨Nat.le_of_ble_eq_true rfl, Nat.le_of_ble_eq_true rfl⟩) ⟨wr_blind, rl_recv hK hPx (RC_f (by decide)) gC_0 rfl, fun U hU hW => ⟨rfl, by rw [hU], by rw [hU]; exact hPx, va_K.moved hW.alike hK, hDx.weaken (fun _ _ _ _ => trivial)⟩⟩ rfl rfl hl.1 rfl (lv_room (Nat.le_of_ble_eq_true rfl)) d_L_law_147 ⟨by show _ ≤ 600002; omega, by show _ ≤ 7302232; omega⟩) hS (fun q _ h => hFX q h) hFX (fun rc_9 uc_10 t9 H_8 locs ht hvm hw hB hz1 hk1 hS => ?_)
    have hc : cr_right σ n nm (xs (5 * t + 1)) (xs (5 * t + 2)) 1 rc_9 uc_10 := hw
    obtain ⟨hP1, -, hD1⟩ := hB
    rw [ht] at hP1
    obtain ⟨hP, hD⟩ := fr_join hP hD hk1 hFX hP1 hD1
    replace hP : va_P D cls_ (wL cs ad uc_10 n nm ci cj E am τ o f) H_8 := hP
    replace hD : va_D (AL s) (wL cs ad uc_10 n nm ci cj E am τ o f) := hD
    refine lv_aload_n hx hb d_L_law_150 rfl (lv_at hl 2 rfl) ?_
    refine lv_aload_n hx hb d_L_law_151 rfl (lv_at hl 0 rfl) ?_
    refine lv_iload hx hb d_L_law_152 (lv_at hl 4 rfl) ?_
    refine lv_iconst (v := 1) hx hb d_L_law_154 (by decide) ?_
    refine lv_iadd hx hb d_L_law_155 ?_
    rw [show nI (5 * t) + 1 = nI (5 * t + 1) from nI_add _ 1]
    refine va_sld hx hb hX hbl hbA hS (i := nI (5 * t + 1)) (vp_in_nI (by omega) (by omega)) d_L_law_156 ?_
    rw [nI_clamp (by omega)]
    refine lv_aload_n hx hb d_L_law_157 rfl (lv_at hl 0 rfl) ?_
    refine lv_iload hx hb d_L_law_158 (lv_at hl 4 rfl) ?_
    refine lv_iconst (v := 2) hx hb d_L_law_160 (by decide) ?_
    refine lv_iadd hx hb d_L_law_161 ?_
    rw [show nI (5 * t) + 2 = nI (5 * t + 2) from nI_add _ 2]
    refine va_sld hx hb hX hbl hbA hS (i := nI (5 * t + 2)) (vp_in_nI (by omega) (by omega)) d_L_law_162 ?_
    rw [nI_clamp (by omega)]
    refine lv_aload_n hx hb d_L_law_163 rfl (lv_at hl 0 rfl) ?_
    refine lv_iload hx hb d_L_law_164 (lv_at hl 4 rfl) ?_
    refine lv_iconst (v := 3) hx hb d_L_law_166 (by decide) ?_
    refine lv_iadd hx hb d_L_law_167 ?_
    rw [show nI (5 * t) + 3 = nI (5 * t + 3) from nI_add _ 3]
    refine va_sld hx hb hX hbl hbA hS (i := nI (5 * t + 3)) (vp_in_nI (by omega) (by omega)) d_L_law_168 ?_
    rw [nI_clamp (by omega)]
    refine lv_if_eq (tgt := 176) hx hb d_L_law_169 (by decide) (fun c9 => absurd c9 c_1) (fun _ => ?_)
    refine lv_iconst (v := 1) hx hb d_L_law_172 (by decide) ?_
    refine lv_goto (tgt := 177) hx hb d_L_law_173 (by decide) ?_
    have hM := hT.mv
    have hz := hT.hz
    have hPm := pm_mP hP
    have hDm := pm_mD hD
    have hFm := fr_A hDm hS hA
    refine va_calli (va_runV (As := [.int (xs (5 * t + 1)), .int (xs (5 * t + 2)), .int 1]) (rest := [.int rc_9]) ⟨hx, hb, hml, hown, hts⟩ (c_M_right l D cs am τ n nm hM hz H_8.size (xs (5 * t + 1)) (xs (5 * t + 2)) 1 (Or.inr rfl)) (cwV 3 hts (gw_V kw_661 kw_662 kw_663 kw_6 kw_664) rfl rfl rfl (by decide +kernel) ⟨Nat.le_of_ble_eq_true rfl, Nat.le_of_ble_eq_true rfl⟩) ⟨wr_blind, rl_recv hK (fr_l hPm) (by decide) gM_0 rfl, fun U hU hW => ⟨rfl, by rw [hU], by rw [hU]; exact fr_l hPm, va_K.moved hW.alike hK, (fr_dl hDm).weaken (fun _ _ _ _ => trivial)⟩⟩ rfl rfl hl.1 rfl (lv_room (Nat.le_of_ble_eq_true rfl)) d_L_law_177 ⟨by show _ ≤ 600002; omega, by show _ ≤ 7302232; omega⟩) hS (fun q _ h => hFm q h) hFm (fun rm_12 um_13 t9 H_11 locs ht hvm hw hB hz1 hk1 hS => ?_)
    have hm : mr_right τ n nm (xs (5 * t + 1)) (xs (5 * t + 2)) 1 rm_12 um_13 := hw
    obtain ⟨hP1, -, hD1⟩ := hB
    rw [ht] at hP1
    obtain ⟨hPm, hDm⟩ := fr_join hPm hDm hk1 hFm hP1 hD1
    have hP := pm_mP hPm
    have hD := pm_mD hDm
    replace hP : va_P D cls_ (wL cs ad uc_10 n nm ci cj E am um_13 o f) H_11 := hP
    replace hD : va_D (AL s) (wL cs ad uc_10 n nm ci cj E am um_13 o f) := hD
    obtain ⟨heq, hT⟩ := tt_right hT (Or.inr rfl) hc hm
    subst heq
    refine lv_icmp_eq (tgt := 1222) hx hb d_L_law_180 (by decide) (fun _ => ?_) (fun c9 => absurd (rfl) c9)
    exact lp_next C hn ht5 (lv_sub hl [0, 1, 2, 3, 4] rfl) hI hT hP hD hS (by omega) (by omega)
set_option maxHeartbeats 4000000 in
set_option maxRecDepth 100000 in
theorem lc_1 {p : Program} {l : Launch} {e : Env} {s : State} {m : MethodId} {below : List Frame} {meth : Method} {c : Code} {b L : Nat} {xs : Nat → Int32} {D : va_G} {cs : Nat → ClassId} {mi E : Nat} (C : lw_C p l s m meth c b L xs D cs mi E 5) {t : Nat} (hn : lpH 23 p l e s m below meth c b L D cs E (t + 1)) (ht5 : 5 * t + 5 ≤ L) {ls : Array Slot} {H : Heap} {locs : List Loc} {ad am : Nat → Nat} {σ τ : Nat → Nat → Int32} {n nm ci cj o : Nat} {f : Nat → Int64} (hl : lv_has ls 7 [(0, .ref b), (1, .ref (ad 0)), (2, .ref (am 0)), (3, .ref o), (4, .int (nI (5 * t)))]) (hI : Iv n nm ci cj) (hT : TT σ τ n nm) (ht0 : t = 0 → nm = 0) (hP : va_P D cls_ (wL cs ad σ n nm ci cj E am τ o f) H) (hD : va_D (AL s) (wL cs ad σ n nm ci cj E am τ o f)) (hS : va_S (AL s) s.heap H locs) : W p l e room_1 s m #[Value.ref b] below meth c H locs (43 + 4 * t) (978 + 120 * t) (lw_Z below #[Value.ref b] s) (F0 m 185 ls []) := by
  have C9 := C
  obtain ⟨hx, hb, hr, hml, hown, hG, hX, hbl, hlocks, hK, hXk, hZ, hg, hE, hnc, hst, hLN⟩ := C9
  have hA : ∀ q : Nat, s.heap.size ≤ q → AL s q := fun _ h => h
  have hbA : ¬ AL s b := Nat.not_le.mpr hbl
  have hts : ∀ w ∈ (Cond.initialized "InspectSteps" :: GW), w.before #[Value.ref b] s = true := List.forall_mem_cons.mpr ⟨hG _ kw_1, hG⟩
  refine lv_aload_n hx hb d_L_law_185 rfl (lv_at hl 1 rfl) ?_
  refine lv_aload_n hx hb d_L_law_186 rfl (lv_at hl 0 rfl) ?_
  refine lv_iload hx hb d_L_law_187 (lv_at hl 4 rfl) ?_
  refine lv_iconst (v := 1) hx hb d_L_law_189 (by decide) ?_
  refine lv_iadd hx hb d_L_law_190 ?_
  rw [show nI (5 * t) + 1 = nI (5 * t + 1) from nI_add _ 1]
  refine va_sld hx hb hX hbl hbA hS (i := nI (5 * t + 1)) (vp_in_nI (by omega) (by omega)) d_L_law_191 ?_
  rw [nI_clamp (by omega)]
  refine lv_aload_n hx hb d_L_law_192 rfl (lv_at hl 0 rfl) ?_
  refine lv_iload hx hb d_L_law_193 (lv_at hl 4 rfl) ?_
  refine lv_iconst (v := 2) hx hb d_L_law_195 (by decide) ?_
  refine lv_iadd hx hb d_L_law_196 ?_
  rw [show nI (5 * t) + 2 = nI (5 * t + 2) from nI_add _ 2]
  refine va_sld hx hb hX hbl hbA hS (i := nI (5 * t + 2)) (vp_in_nI (by omega) (by omega)) d_L_law_197 ?_
  rw [nI_clamp (by omega)]
  refine lv_aload_n hx hb d_L_law_198 rfl (lv_at hl 0 rfl) ?_
  refine lv_iload hx hb d_L_law_199 (lv_at hl 4 rfl) ?_
  refine lv_iconst (v := 3) hx hb d_L_law_201 (by decide) ?_
  refine lv_iadd hx hb d_L_law_202 ?_
  rw [show nI (5 * t) + 3 = nI (5 * t + 3) from nI_add _ 3]
  refine va_sld hx hb hX hbl hbA hS (i := nI (5 * t + 3)) (vp_in_nI (by omega) (by omega)) d_L_law_203 ?_
  rw [nI_clamp (by omega)]
  refine lv_aload_n hx hb d_L_law_204 rfl (lv_at hl 3 rfl) ?_
  have hPh := pm_hP hP
  have hDh := pm_hD hD
  have hFh := fr_A hDh hS hA
  refine va_calli (vx_runSW (As := [.ref (ad 0), .int (xs (5 * t + 1)), .int (xs (5 * t + 2)), .int (xs (5 * t + 3)), .ref o]) (rest := []) ⟨hx, hb, hml, hown, hts⟩ (c_L_inspection l D cs ad σ n nm ci cj E hI hT.jv mi hst o f H.size (xs (5 * t + 1)) (xs (5 * t + 2)) (xs (5 * t + 3))) (vx_cwSW 5 hts (gw_SW kw_183 kw_184 kw_0 kw_185) rfl rfl rfl (by decide +kernel) ⟨Nat.le_of_ble_eq_true rfl, Nat.le_of_ble_eq_true rfl⟩) ⟨hp_blind, fun U hU hW => ⟨rfl, by rw [hU], by rw [hU]; exact fr_l hPh, va_K.moved hW.alike hK, (fr_dl hDh).weaken (fun _ _ _ _ => trivial), hXk.warm hW, by rw [hU]; exact ((hZ.kept (fun q h1 h2 => hS.2.1 q h1 h2)).moved hW.alike).narrow hFh, hg.moved hW.alike, by rw [hU]; exact ((hE.kept (fun q h1 h2 => hS.2.1 q h1 h2)).moved hW.alike).narrow hFh, va_Nc.moved hW.alike hnc⟩⟩ rfl rfl hl.1 rfl (lv_room (Nat.le_of_ble_eq_true rfl)) d_L_law_205 ⟨by show _ ≤ 600002; omega, by show _ ≤ 7302232; omega⟩) hS (fun q _ h => hFh q h) hFh (fun kc_2 uc t9 H_1 locs ht hvm hw hB hz1 hk1 hS => ?_)
  obtain ⟨rc_3, hc, hfo⟩ := hw
  obtain ⟨hP1, -, hD1⟩ := hB
  rw [ht] at hP1
  obtain ⟨hPh, hDh⟩ := fr_join hPh hDh hk1 hFh hP1 hD1
  have hP := pm_hP' hPh
  have hD := pm_hD' hDh
  obtain ⟨⟨ad1, ci1, s1, n1⟩, f1⟩ := uc
  obtain ⟨e0, hI1⟩ := cr_ins_ad hc hI
  replace e0 : ad1 0 = ad 0 := e0
  replace hI1 : Iv n1 nm ci1 cj := hI1
  rw [← e0] at hl
  replace hfo : kc_2 = 0 → f1 0 = rc_3.toInt64 := hfo
  replace hP : va_P D cls_ (wL cs ad1 s1 n1 nm ci1 cj E am τ o f1) H_1 := hP
  replace hD : va_D (AL s) (wL cs ad1 s1 n1 nm ci1 cj E am τ o f1) := hD
  refine lv_istore (lv' := [(5, .int kc_2), (0, .ref b), (1, .ref (ad1 0)), (2, .ref (am 0)), (3, .ref o), (4, .int (nI (5 * t)))]) hx hb d_L_law_208 hl (by decide) rfl (fun ls hl => ?_)
  refine lv_aload_n hx hb d_L_law_210 rfl (lv_at hl 3 rfl) ?_
  refine lv_aload_n hx hb d_L_law_211 rfl (lv_at hl 1 rfl) ?_
  refine lv_iload hx hb d_L_law_212 (lv_at hl 5 rfl) ?_
  refine lv_iconst (v := 1) hx hb d_L_law_214 (by decide) ?_
  refine lv_iadd hx hb d_L_law_215 ?_
  rw [show nI (5 * t) + 1 = nI (5 * t + 1) from nI_add _ 1]
  refine va_sld hx hb hX hbl hbA hS (i := nI (5 * t + 1)) (vp_in_nI (by omega) (by omega)) d_L_law_216 ?_
  rw [nI_clamp (by omega)]
  refine lv_aload_n hx hb d_L_law_217 rfl (lv_at hl 1 rfl) ?_
  refine lv_iload hx hb d_L_law_218 (lv_at hl 5 rfl) ?_
  refine lv_iconst (v := 2) hx hb d_L_law_220 (by decide) ?_
  refine lv_iadd hx hb d_L_law_221 ?_
  rw [show nI (5 * t) + 2 = nI (5 * t + 2) from nI_add _ 2]
  refine va_sld hx hb hX hbl hbA hS (i := nI (5 * t + 2)) (vp_in_nI (by omega) (by omega)) d_L_law_222 ?_
  rw [nI_clamp (by omega)]
  refine lv_aload_n hx hb d_L_law_223 rfl (lv_at hl 1 rfl) ?_
  refine lv_iload hx hb d_L_law_224 (lv_at hl 5 rfl) ?_
  refine lv_iconst (v := 3) hx hb d_L_law_226 (by decide) ?_
  refine lv_iadd hx hb d_L_law_227 ?_
  rw [show nI (5 * t) + 3 = nI (5 * t + 3) from nI_add _ 3]
  refine va_sld hx hb hX hbl hbA hS (i := nI (5 * t + 3)) (vp_in_nI (by omega) (by omega)) d_L_law_228 ?_
  rw [nI_clamp (by omega)]
  have hM := hT.mv
  have hz := hT.hz
  have hPm := pm_mP hP
  have hDm := pm_mD hD
  have hFm := fr_A hDm hS hA
  refine va_calli (va_runV (As := [.int (xs (5 * t + 1)), .int (xs (5 * t + 2)), .int (xs (5 * t + 3))]) (rest := []) ⟨hx, hb, hml, hown, hts⟩ (c_M_inspection l D cs am τ n nm hM H_1.size (xs (5 * t + 1)) (xs (5 * t + 2)) (xs (5 * t + 3))) (cwV 3 hts (gw_V kw_675 kw_676 kw_677 kw_6 kw_678) rfl rfl rfl (by decide +kernel) ⟨Nat.le_of_ble_eq_true rfl, Nat.le_of_ble_eq_true rfl⟩) ⟨wr_blind, rl_recv hK (fr_l hPm) (by decide) gM_0 rfl, fun U hU hW => ⟨rfl, by rw [hU], by rw [hU]; exact fr_l hPm, va_K.moved hW.alike hK, (fr_dl hDm).weaken (fun _ _ _ _ => trivial)⟩⟩ rfl rfl hl.1 rfl (lv_room (Nat.le_of_ble_eq_true rfl)) d_L_law_229 ⟨by show _ ≤ 600002; omega, by show _ ≤ 7302232; omega⟩) hS (fun q _ h => hFm q h) hFm (fun rm_5 um_6 t9 H_4 locs ht hvm hw hB hz1 hk1 hS => ?_)
  have hm : mr_inspection τ n nm (xs (5 * t + 1)) (xs (5 * t + 2)) (xs (5 * t + 3)) rm_5 um_6 := hw
  obtain ⟨hP1, -, hD1⟩ := hB
  rw [ht] at hP1
  obtain ⟨hPm, hDm⟩ := fr_join hPm hDm hk1 hFm hP1 hD1
  have hP := pm_mP hPm
  have hD := pm_mD hDm
  replace hP : va_P D cls_ (wL cs ad1 s1 n1 nm ci1 cj E am um_6 o f1) H_4 := hP
  replace hD : va_D (AL s) (wL cs ad1 s1 n1 nm ci1 cj E am um_6 o f1) := hD
  obtain ⟨hk0, hr0, hT⟩ := tt_inspection hT hc hm
  replace hT : TT s1 um_6 n1 nm := hT
  have hI := hI1
  refine lv_istore (lv' := [(6, .int rm_5), (5, .int kc_2), (0, .ref b), (1, .ref (ad1 0)), (2, .ref (am 0)), (3, .ref o), (4, .int (nI (5 * t)))]) hx hb d_L_law_232 hl (by decide) rfl (fun ls hl => ?_)
  refine lv_aload_n hx hb d_L_law_234 rfl (lv_at hl 4 rfl) ?_
  have hPm := pm_mP hP
  refine vp_callSi (W.runV (As := []) (rest := []) ⟨hx, hb, hml, hown, hts⟩ (c_M_thrown l D cs am um_6 n1 nm hT.mv) (cwV 0 hts (gw_V kw_657 kw_658 kw_659 kw_6 kw_660) rfl rfl rfl (by decide +kernel) ⟨Nat.le_of_ble_eq_true rfl, Nat.le_of_ble_eq_true rfl⟩) (rd_V (fr_l hPm) hK (rl_recv hK (fr_l hPm) (by decide) gM_0 rfl)) rfl rfl hl.1 rfl (lv_room (Nat.le_of_ble_eq_true rfl)) d_L_law_235 ⟨by show _ ≤ 600002; omega, by show _ ≤ 7302232; omega⟩) (fun r_7 h_8 => ?_)
  subst h_8
  rw [hk0]
  refine lv_iload hx hb d_L_law_238 (lv_at hl 1 rfl) ?_
  refine lv_icmp_eq (tgt := 245) hx hb d_L_law_240 (by decide) (fun _ => ?_) (fun c9 => absurd (rfl) c9)
  refine lv_iload hx hb d_L_law_245 (lv_at hl 1 rfl) ?_
  refine lv_if_ne (tgt := 262) hx hb d_L_law_247 (by decide) (fun c_9 => ?_) (fun c_9 => ?_)
  · refine lv_goto (tgt := 1222) hx hb d_L_law_262 (by decide) ?_
    exact lp_next C hn ht5 (lv_sub hl [2, 3, 4, 5, 6] rfl) hI hT hP hD hS (by omega) (by omega)
  · refine lv_aload_n hx hb d_L_law_250 rfl (lv_at hl 5 rfl) ?_
    refine lv_iconst (v := 0) hx hb d_L_law_251 (by decide) ?_
    have hPo := hP
    rw [show (wL cs ad1 s1 n1 nm ci1 cj E am um_6 o f1) = (wC cs ad1 s1 n1 nm ci1 cj E ++ wM cs am um_6) ++ [(o, outc cs f1)] from (List.append_assoc _ _ _).symm] at hPo
    refine lo_lald hx hb hK hPo d_L_law_252 ?_
    refine lv_iload hx hb d_L_law_253 (lv_at hl 0 rfl) ?_
    refine lv_i2l hx hb d_L_law_255 rfl ?_
    rw [hfo c_9, hr0 c_9]
    refine W.lcmp hx hb d_L_law_256 ?_
    refine lv_if_eq (tgt := 262) hx hb d_L_law_257 (by decide) (fun _ => ?_) (fun c9 => absurd ((lg_cmp_eq _ _).mpr rfl) c9)
    refine lv_goto (tgt := 1222) hx hb d_L_law_262 (by decide) ?_
    exact lp_next C hn ht5 (lv_sub hl [2, 3, 4, 5, 6] rfl) hI hT hP hD hS (by omega) (by omega)
set_option maxHeartbeats 4000000 in
set_option maxRecDepth 100000 in
theorem lc_2 {p : Program} {l : Launch} {e : Env} {s : State} {m : MethodId} {below : List Frame} {meth : Method} {c : Code} {b L : Nat} {xs : Nat → Int32} {D : va_G} {cs : Nat → ClassId} {mi E : Nat} (C : lw_C p l s m meth c b L xs D cs mi E 5) {t : Nat} (hn : lpH 23 p l e s m below meth c b L D cs E (t + 1)) (ht5 : 5 * t + 5 ≤ L) {ls : Array Slot} {H : Heap} {locs : List Loc} {ad am : Nat → Nat} {σ τ : Nat → Nat → Int32} {n nm ci cj o : Nat} {f : Nat → Int64} (hl : lv_has ls 7 [(0, .ref b), (1, .ref (ad 0)), (2, .ref (am 0)), (3, .ref o), (4, .int (nI (5 * t)))]) (hI : Iv n nm ci cj) (hT : TT σ τ n nm) (ht0 : t = 0 → nm = 0) (hP : va_P D cls_ (wL cs ad σ n nm ci cj E am τ o f) H) (hD : va_D (AL s) (wL cs ad σ n nm ci cj E am τ o f)) (hS : va_S (AL s) s.heap H locs) : W p l e room_1 s m #[Value.ref b] below meth c H locs (43 + 4 * t) (978 + 120 * t) (lw_Z below #[Value.ref b] s) (F0 m 265 ls []) := by
  have C9 := C
  obtain ⟨hx, hb, hr, hml, hown, hG, hX, hbl, hlocks, hK, hXk, hZ, hg, hE, hnc, hst, hLN⟩ := C9
  have hA : ∀ q : Nat, s.heap.size ≤ q → AL s q := fun _ h => h
  have hbA : ¬ AL s b := Nat.not_le.mpr hbl
  have hts : ∀ w ∈ (Cond.initialized "InspectSteps" :: GW), w.before #[Value.ref b] s = true := List.forall_mem_cons.mpr ⟨hG _ kw_1, hG⟩
  refine lv_aload_n hx hb d_L_law_265 rfl (lv_at hl 1 rfl) ?_
  refine lv_aload_n hx hb d_L_law_266 rfl (lv_at hl 0 rfl) ?_
  refine lv_iload hx hb d_L_law_267 (lv_at hl 4 rfl) ?_
  refine lv_iconst (v := 1) hx hb d_L_law_269 (by decide) ?_
  refine lv_iadd hx hb d_L_law_270 ?_
  rw [show nI (5 * t) + 1 = nI (5 * t + 1) from nI_add _ 1]
  refine va_sld hx hb hX hbl hbA hS (i := nI (5 * t + 1)) (vp_in_nI (by omega) (by omega)) d_L_law_271 ?_
  rw [nI_clamp (by omega)]
  refine lv_aload_n hx hb d_L_law_272 rfl (lv_at hl 0 rfl) ?_
  refine lv_iload hx hb d_L_law_273 (lv_at hl 4 rfl) ?_
  refine lv_iconst (v := 2) hx hb d_L_law_275 (by decide) ?_
  refine lv_iadd hx hb d_L_law_276 ?_
  rw [show nI (5 * t) + 2 = nI (5 * t + 2) from nI_add _ 2]
  refine va_sld hx hb hX hbl hbA hS (i := nI (5 * t + 2)) (vp_in_nI (by omega) (by omega)) d_L_law_277 ?_
  rw [nI_clamp (by omega)]
  refine lv_aload_n hx hb d_L_law_278 rfl (lv_at hl 0 rfl) ?_
  refine lv_iload hx hb d_L_law_279 (lv_at hl 4 rfl) ?_
  refine lv_iconst (v := 3) hx hb d_L_law_281 (by decide) ?_
  refine lv_iadd hx hb d_L_law_282 ?_
  rw [show nI (5 * t) + 3 = nI (5 * t + 3) from nI_add _ 3]
  refine va_sld hx hb hX hbl hbA hS (i := nI (5 * t + 3)) (vp_in_nI (by omega) (by omega)) d_L_law_283 ?_
  rw [nI_clamp (by omega)]
  refine lv_aload_n hx hb d_L_law_284 rfl (lv_at hl 0 rfl) ?_
  refine lv_iload hx hb d_L_law_285 (lv_at hl 4 rfl) ?_
  refine lv_iconst (v := 4) hx hb d_L_law_287 (by decide) ?_
  refine lv_iadd hx hb d_L_law_288 ?_
  rw [show nI (5 * t) + 4 = nI (5 * t + 4) from nI_add _ 4]
  refine va_sld hx hb hX hbl hbA hS (i := nI (5 * t + 4)) (vp_in_nI (by omega) (by omega)) d_L_law_289 ?_
  rw [nI_clamp (by omega)]
  refine lv_aload_n hx hb d_L_law_290 rfl (lv_at hl 3 rfl) ?_
  have hPh := pm_hP hP
  have hDh := pm_hD hD
  have hFh := fr_A hDh hS hA
  refine va_calli (vx_runSW (As := [.ref (ad 0), .int (xs (5 * t + 1)), .int (xs (5 * t + 2)), .int (xs (5 * t + 3)), .int (xs (5 * t + 4)), .ref o]) (rest := []) ⟨hx, hb, hml, hown, hts⟩ (c_L_plan l D cs ad σ n nm ci cj E hI hT.jv mi hst o f H.size (xs (5 * t + 1)) (xs (5 * t + 2)) (xs (5 * t + 3)) (xs (5 * t + 4))) (vx_cwSW 6 hts (gw_SW kw_382 kw_383 kw_0 kw_384) rfl rfl rfl (by decide +kernel) ⟨Nat.le_of_ble_eq_true rfl, Nat.le_of_ble_eq_true rfl⟩) ⟨hp_blind, fun U hU hW => ⟨rfl, by rw [hU], by rw [hU]; exact fr_l hPh, va_K.moved hW.alike hK, (fr_dl hDh).weaken (fun _ _ _ _ => trivial), hXk.warm hW, by rw [hU]; exact ((hZ.kept (fun q h1 h2 => hS.2.1 q h1 h2)).moved hW.alike).narrow hFh, hg.moved hW.alike, by rw [hU]; exact ((hE.kept (fun q h1 h2 => hS.2.1 q h1 h2)).moved hW.alike).narrow hFh, va_Nc.moved hW.alike hnc⟩⟩ rfl rfl hl.1 rfl (lv_room (Nat.le_of_ble_eq_true rfl)) d_L_law_291 ⟨by show _ ≤ 600002; omega, by show _ ≤ 7302232; omega⟩) hS (fun q _ h => hFh q h) hFh (fun kc_2 uc t9 H_1 locs ht hvm hw hB hz1 hk1 hS => ?_)
  obtain ⟨rc_3, hc, hfo⟩ := hw
  obtain ⟨hP1, -, hD1⟩ := hB
  rw [ht] at hP1
  obtain ⟨hPh, hDh⟩ := fr_join hPh hDh hk1 hFh hP1 hD1
  have hP := pm_hP' hPh
  have hD := pm_hD' hDh
  obtain ⟨s1, f1⟩ := uc
  replace hfo : kc_2 = 0 → f1 0 = rc_3.toInt64 := hfo
  replace hP : va_P D cls_ (wL cs ad s1 n nm ci cj E am τ o f1) H_1 := hP
  replace hD : va_D (AL s) (wL cs ad s1 n nm ci cj E am τ o f1) := hD
  refine lv_istore (lv' := [(5, .int kc_2), (0, .ref b), (1, .ref (ad 0)), (2, .ref (am 0)), (3, .ref o), (4, .int (nI (5 * t)))]) hx hb d_L_law_294 hl (by decide) rfl (fun ls hl => ?_)
  refine lv_aload_n hx hb d_L_law_296 rfl (lv_at hl 3 rfl) ?_
  refine lv_aload_n hx hb d_L_law_297 rfl (lv_at hl 1 rfl) ?_
  refine lv_iload hx hb d_L_law_298 (lv_at hl 5 rfl) ?_
  refine lv_iconst (v := 1) hx hb d_L_law_300 (by decide) ?_
  refine lv_iadd hx hb d_L_law_301 ?_
  rw [show nI (5 * t) + 1 = nI (5 * t + 1) from nI_add _ 1]
  refine va_sld hx hb hX hbl hbA hS (i := nI (5 * t + 1)) (vp_in_nI (by omega) (by omega)) d_L_law_302 ?_
  rw [nI_clamp (by omega)]
  refine lv_aload_n hx hb d_L_law_303 rfl (lv_at hl 1 rfl) ?_
  refine lv_iload hx hb d_L_law_304 (lv_at hl 5 rfl) ?_
  refine lv_iconst (v := 2) hx hb d_L_law_306 (by decide) ?_
  refine lv_iadd hx hb d_L_law_307 ?_
  rw [show nI (5 * t) + 2 = nI (5 * t + 2) from nI_add _ 2]
  refine va_sld hx hb hX hbl hbA hS (i := nI (5 * t + 2)) (vp_in_nI (by omega) (by omega)) d_L_law_308 ?_
  rw [nI_clamp (by omega)]
  refine lv_aload_n hx hb d_L_law_309 rfl (lv_at hl 1 rfl) ?_
  refine lv_iload hx hb d_L_law_310 (lv_at hl 5 rfl) ?_
  refine lv_iconst (v := 3) hx hb d_L_law_312 (by decide) ?_
  refine lv_iadd hx hb d_L_law_313 ?_
  rw [show nI (5 * t) + 3 = nI (5 * t + 3) from nI_add _ 3]
  refine va_sld hx hb hX hbl hbA hS (i := nI (5 * t + 3)) (vp_in_nI (by omega) (by omega)) d_L_law_314 ?_
  rw [nI_clamp (by omega)]
  refine lv_aload_n hx hb d_L_law_315 rfl (lv_at hl 1 rfl) ?_
  refine lv_iload hx hb d_L_law_316 (lv_at hl 5 rfl) ?_
  refine lv_iconst (v := 4) hx hb d_L_law_318 (by decide) ?_
  refine lv_iadd hx hb d_L_law_319 ?_
  rw [show nI (5 * t) + 4 = nI (5 * t + 4) from nI_add _ 4]
  refine va_sld hx hb hX hbl hbA hS (i := nI (5 * t + 4)) (vp_in_nI (by omega) (by omega)) d_L_law_320 ?_
  rw [nI_clamp (by omega)]
  have hM := hT.mv
  have hz := hT.hz
  have hPm := pm_mP hP
  have hDm := pm_mD hD
  have hFm := fr_A hDm hS hA
  refine va_calli (va_runV (As := [.int (xs (5 * t + 1)), .int (xs (5 * t + 2)), .int (xs (5 * t + 3)), .int (xs (5 * t + 4))]) (rest := []) ⟨hx, hb, hml, hown, hts⟩ (c_M_plan l D cs am τ n nm hM H_1.size (xs (5 * t + 1)) (xs (5 * t + 2)) (xs (5 * t + 3)) (xs (5 * t + 4))) (cwV 4 hts (gw_V kw_684 kw_685 kw_686 kw_6 kw_687) rfl rfl rfl (by decide +kernel) ⟨Nat.le_of_ble_eq_true rfl, Nat.le_of_ble_eq_true rfl⟩) ⟨wr_blind, rl_recv hK (fr_l hPm) (by decide) gM_0 rfl, fun U hU hW => ⟨rfl, by rw [hU], by rw [hU]; exact fr_l hPm, va_K.moved hW.alike hK, (fr_dl hDm).weaken (fun _ _ _ _ => trivial)⟩⟩ rfl rfl hl.1 rfl (lv_room (Nat.le_of_ble_eq_true rfl)) d_L_law_321 ⟨by show _ ≤ 600002; omega, by show _ ≤ 7302232; omega⟩) hS (fun q _ h => hFm q h) hFm (fun rm_5 um_6 t9 H_4 locs ht hvm hw hB hz1 hk1 hS => ?_)
  have hm : mr_plan τ n nm (xs (5 * t + 1)) (xs (5 * t + 2)) (xs (5 * t + 3)) (xs (5 * t + 4)) rm_5 um_6 := hw
  obtain ⟨hP1, -, hD1⟩ := hB
  rw [ht] at hP1
  obtain ⟨hPm, hDm⟩ := fr_join hPm hDm hk1 hFm hP1 hD1
  have hP := pm_mP hPm
  have hD := pm_mD hDm
  replace hP : va_P D cls_ (wL cs ad s1 n nm ci cj E am um_6 o f1) H_4 := hP
  replace hD : va_D (AL s) (wL cs ad s1 n nm ci cj E am um_6 o f1) := hD
  obtain ⟨hk0, hr0, hT⟩ := tt_plan hT hc hm
  refine lv_istore (lv' := [(6, .int rm_5), (5, .int kc_2), (0, .ref b), (1, .ref (ad 0)), (2, .ref (am 0)), (3, .ref o), (4, .int (nI (5 * t)))]) hx hb d_L_law_324 hl (by decide) rfl (fun ls hl => ?_)
  refine lv_aload_n hx hb d_L_law_326 rfl (lv_at hl 4 rfl) ?_
  have hPm := pm_mP hP
  refine vp_callSi (W.runV (As := []) (rest := []) ⟨hx, hb, hml, hown, hts⟩ (c_M_thrown l D cs am um_6 n nm hT.mv) (cwV 0 hts (gw_V kw_657 kw_658 kw_659 kw_6 kw_660) rfl rfl rfl (by decide +kernel) ⟨Nat.le_of_ble_eq_true rfl, Nat.le_of_ble_eq_true rfl⟩) (rd_V (fr_l hPm) hK (rl_recv hK (fr_l hPm) (by decide) gM_0 rfl)) rfl rfl hl.1 rfl (lv_room (Nat.le_of_ble_eq_true rfl)) d_L_law_327 ⟨by show _ ≤ 600002; omega, by show _ ≤ 7302232; omega⟩) (fun r_7 h_8 => ?_)
  subst h_8
  rw [hk0]
  refine lv_iload hx hb d_L_law_330 (lv_at hl 1 rfl) ?_
  refine lv_icmp_eq (tgt := 337) hx hb d_L_law_332 (by decide) (fun _ => ?_) (fun c9 => absurd (rfl) c9)
  refine lv_iload hx hb d_L_law_337 (lv_at hl 1 rfl) ?_
  refine lv_if_ne (tgt := 354) hx hb d_L_law_339 (by decide) (fun c_9 => ?_) (fun c_9 => ?_)
  · refine lv_goto (tgt := 1222) hx hb d_L_law_354 (by decide) ?_
    exact lp_next C hn ht5 (lv_sub hl [2, 3, 4, 5, 6] rfl) hI hT hP hD hS (by omega) (by omega)
  · refine lv_aload_n hx hb d_L_law_342 rfl (lv_at hl 5 rfl) ?_
    refine lv_iconst (v := 0) hx hb d_L_law_343 (by decide) ?_
    have hPo := hP
    rw [show (wL cs ad s1 n nm ci cj E am um_6 o f1) = (wC cs ad s1 n nm ci cj E ++ wM cs am um_6) ++ [(o, outc cs f1)] from (List.append_assoc _ _ _).symm] at hPo
    refine lo_lald hx hb hK hPo d_L_law_344 ?_
    refine lv_iload hx hb d_L_law_345 (lv_at hl 0 rfl) ?_
    refine lv_i2l hx hb d_L_law_347 rfl ?_
    rw [hfo c_9, hr0 c_9]
    refine W.lcmp hx hb d_L_law_348 ?_
    refine lv_if_eq (tgt := 354) hx hb d_L_law_349 (by decide) (fun _ => ?_) (fun c9 => absurd ((lg_cmp_eq _ _).mpr rfl) c9)
    refine lv_goto (tgt := 1222) hx hb d_L_law_354 (by decide) ?_
    exact lp_next C hn ht5 (lv_sub hl [2, 3, 4, 5, 6] rfl) hI hT hP hD hS (by omega) (by omega)
set_option maxHeartbeats 4000000 in
set_option maxRecDepth 100000 in
theorem lc_3 {p : Program} {l : Launch} {e : Env} {s : State} {m : MethodId} {below : List Frame} {meth : Method} {c : Code} {b L : Nat} {xs : Nat → Int32} {D : va_G} {cs : Nat → ClassId} {mi E : Nat} (C : lw_C p l s m meth c b L xs D cs mi E 5) {t : Nat} (hn : lpH 23 p l e s m below meth c b L D cs E (t + 1)) (ht5 : 5 * t + 5 ≤ L) {ls : Array Slot} {H : Heap} {locs : List Loc} {ad am : Nat → Nat} {σ τ : Nat → Nat → Int32} {n nm ci cj o : Nat} {f : Nat → Int64} (hl : lv_has ls 7 [(0, .ref b), (1, .ref (ad 0)), (2, .ref (am 0)), (3, .ref o), (4, .int (nI (5 * t)))]) (hI : Iv n nm ci cj) (hT : TT σ τ n nm) (ht0 : t = 0 → nm = 0) (hP : va_P D cls_ (wL cs ad σ n nm ci cj E am τ o f) H) (hD : va_D (AL s) (wL cs ad σ n nm ci cj E am τ o f)) (hS : va_S (AL s) s.heap H locs) : W p l e room_1 s m #[Value.ref b] below meth c H locs (43 + 4 * t) (978 + 120 * t) (lw_Z below #[Value.ref b] s) (F0 m 357 ls []) := by
  have C9 := C
  obtain ⟨hx, hb, hr, hml, hown, hG, hX, hbl, hlocks, hK, hXk, hZ, hg, hE, hnc, hst, hLN⟩ := C9
  have hA : ∀ q : Nat, s.heap.size ≤ q → AL s q := fun _ h => h
  have hbA : ¬ AL s b := Nat.not_le.mpr hbl
  have hts : ∀ w ∈ (Cond.initialized "InspectSteps" :: GW), w.before #[Value.ref b] s = true := List.forall_mem_cons.mpr ⟨hG _ kw_1, hG⟩
  refine lv_aload_n hx hb d_L_law_357 rfl (lv_at hl 1 rfl) ?_
  refine lv_aload_n hx hb d_L_law_358 rfl (lv_at hl 0 rfl) ?_
  refine lv_iload hx hb d_L_law_359 (lv_at hl 4 rfl) ?_
  refine lv_iconst (v := 1) hx hb d_L_law_361 (by decide) ?_
  refine lv_iadd hx hb d_L_law_362 ?_
  rw [show nI (5 * t) + 1 = nI (5 * t + 1) from nI_add _ 1]
  refine va_sld hx hb hX hbl hbA hS (i := nI (5 * t + 1)) (vp_in_nI (by omega) (by omega)) d_L_law_363 ?_
  rw [nI_clamp (by omega)]
  refine lv_aload_n hx hb d_L_law_364 rfl (lv_at hl 0 rfl) ?_
  refine lv_iload hx hb d_L_law_365 (lv_at hl 4 rfl) ?_
  refine lv_iconst (v := 2) hx hb d_L_law_367 (by decide) ?_
  refine lv_iadd hx hb d_L_law_368 ?_
  rw [show nI (5 * t) + 2 = nI (5 * t + 2) from nI_add _ 2]
  refine va_sld hx hb hX hbl hbA hS (i := nI (5 * t + 2)) (vp_in_nI (by omega) (by omega)) d_L_law_369 ?_
  rw [nI_clamp (by omega)]
  refine lv_aload_n hx hb d_L_law_370 rfl (lv_at hl 3 rfl) ?_
  have hPh := pm_hP hP
  have hDh := pm_hD hD
  have hFh := fr_A hDh hS hA
  refine va_calli (vx_runSW (As := [.ref (ad 0), .int (xs (5 * t + 1)), .int (xs (5 * t + 2)), .ref o]) (rest := []) ⟨hx, hb, hml, hown, hts⟩ (c_L_begin l D cs ad σ n nm ci cj E hI hT.jv mi hst o f H.size (xs (5 * t + 1)) (xs (5 * t + 2))) (vx_cwSW 4 hts (gw_SW kw_411 kw_412 kw_0 kw_413) rfl rfl rfl (by decide +kernel) ⟨Nat.le_of_ble_eq_true rfl, Nat.le_of_ble_eq_true rfl⟩) ⟨hp_blind, fun U hU hW => ⟨rfl, by rw [hU], by rw [hU]; exact fr_l hPh, va_K.moved hW.alike hK, (fr_dl hDh).weaken (fun _ _ _ _ => trivial), hXk.warm hW, by rw [hU]; exact ((hZ.kept (fun q h1 h2 => hS.2.1 q h1 h2)).moved hW.alike).narrow hFh, hg.moved hW.alike, by rw [hU]; exact ((hE.kept (fun q h1 h2 => hS.2.1 q h1 h2)).moved hW.alike).narrow hFh, va_Nc.moved hW.alike hnc⟩⟩ rfl rfl hl.1 rfl (lv_room (Nat.le_of_ble_eq_true rfl)) d_L_law_371 ⟨by show _ ≤ 600002; omega, by show _ ≤ 7302232; omega⟩) hS (fun q _ h => hFh q h) hFh (fun kc_2 uc t9 H_1 locs ht hvm hw hB hz1 hk1 hS => ?_)
  obtain ⟨rc_3, hc, hfo⟩ := hw
  obtain ⟨hP1, -, hD1⟩ := hB
  rw [ht] at hP1
  obtain ⟨hPh, hDh⟩ := fr_join hPh hDh hk1 hFh hP1 hD1
  have hP := pm_hP' hPh
  have hD := pm_hD' hDh
  obtain ⟨s1, f1⟩ := uc
  replace hfo : kc_2 = 0 → f1 0 = rc_3.toInt64 := hfo
  replace hP : va_P D cls_ (wL cs ad s1 n nm ci cj E am τ o f1) H_1 := hP
  replace hD : va_D (AL s) (wL cs ad s1 n nm ci cj E am τ o f1) := hD
  refine lv_istore (lv' := [(5, .int kc_2), (0, .ref b), (1, .ref (ad 0)), (2, .ref (am 0)), (3, .ref o), (4, .int (nI (5 * t)))]) hx hb d_L_law_374 hl (by decide) rfl (fun ls hl => ?_)
  refine lv_aload_n hx hb d_L_law_376 rfl (lv_at hl 3 rfl) ?_
  refine lv_aload_n hx hb d_L_law_377 rfl (lv_at hl 1 rfl) ?_
  refine lv_iload hx hb d_L_law_378 (lv_at hl 5 rfl) ?_
  refine lv_iconst (v := 1) hx hb d_L_law_380 (by decide) ?_
  refine lv_iadd hx hb d_L_law_381 ?_
  rw [show nI (5 * t) + 1 = nI (5 * t + 1) from nI_add _ 1]
  refine va_sld hx hb hX hbl hbA hS (i := nI (5 * t + 1)) (vp_in_nI (by omega) (by omega)) d_L_law_382 ?_
  rw [nI_clamp (by omega)]
  refine lv_aload_n hx hb d_L_law_383 rfl (lv_at hl 1 rfl) ?_
  refine lv_iload hx hb d_L_law_384 (lv_at hl 5 rfl) ?_
  refine lv_iconst (v := 2) hx hb d_L_law_386 (by decide) ?_
  refine lv_iadd hx hb d_L_law_387 ?_
  rw [show nI (5 * t) + 2 = nI (5 * t + 2) from nI_add _ 2]
  refine va_sld hx hb hX hbl hbA hS (i := nI (5 * t + 2)) (vp_in_nI (by omega) (by omega)) d_L_law_388 ?_
  rw [nI_clamp (by omega)]
  have hM := hT.mv
  have hz := hT.hz
  have hPm := pm_mP hP
  have hDm := pm_mD hD
  have hFm := fr_A hDm hS hA
  refine va_calli (va_runV (As := [.int (xs (5 * t + 1)), .int (xs (5 * t + 2))]) (rest := []) ⟨hx, hb, hml, hown, hts⟩ (c_M_begin l D cs am τ n nm hM hz H_1.size (xs (5 * t + 1)) (xs (5 * t + 2))) (cwV 2 hts (gw_V kw_696 kw_697 kw_698 kw_6 kw_699) rfl rfl rfl (by decide +kernel) ⟨Nat.le_of_ble_eq_true rfl, Nat.le_of_ble_eq_true rfl⟩) ⟨wr_blind, rl_recv hK (fr_l hPm) (by decide) gM_0 rfl, fun U hU hW => ⟨rfl, by rw [hU], by rw [hU]; exact fr_l hPm, va_K.moved hW.alike hK, (fr_dl hDm).weaken (fun _ _ _ _ => trivial)⟩⟩ rfl rfl hl.1 rfl (lv_room (Nat.le_of_ble_eq_true rfl)) d_L_law_389 ⟨by show _ ≤ 600002; omega, by show _ ≤ 7302232; omega⟩) hS (fun q _ h => hFm q h) hFm (fun rm_5 um_6 t9 H_4 locs ht hvm hw hB hz1 hk1 hS => ?_)
  have hm : mr_begin τ n nm (xs (5 * t + 1)) (xs (5 * t + 2)) rm_5 um_6 := hw
  obtain ⟨hP1, -, hD1⟩ := hB
  rw [ht] at hP1
  obtain ⟨hPm, hDm⟩ := fr_join hPm hDm hk1 hFm hP1 hD1
  have hP := pm_mP hPm
  have hD := pm_mD hDm
  replace hP : va_P D cls_ (wL cs ad s1 n nm ci cj E am um_6 o f1) H_4 := hP
  replace hD : va_D (AL s) (wL cs ad s1 n nm ci cj E am um_6 o f1) := hD
  obtain ⟨hk0, hr0, hT⟩ := tt_begin hT hc hm
  refine lv_istore (lv' := [(6, .int rm_5), (5, .int kc_2), (0, .ref b), (1, .ref (ad 0)), (2, .ref (am 0)), (3, .ref o), (4, .int (nI (5 * t)))]) hx hb d_L_law_392 hl (by decide) rfl (fun ls hl => ?_)
  refine lv_aload_n hx hb d_L_law_394 rfl (lv_at hl 4 rfl) ?_
  have hPm := pm_mP hP
  refine vp_callSi (W.runV (As := []) (rest := []) ⟨hx, hb, hml, hown, hts⟩ (c_M_thrown l D cs am um_6 n nm hT.mv) (cwV 0 hts (gw_V kw_657 kw_658 kw_659 kw_6 kw_660) rfl rfl rfl (by decide +kernel) ⟨Nat.le_of_ble_eq_true rfl, Nat.le_of_ble_eq_true rfl⟩) (rd_V (fr_l hPm) hK (rl_recv hK (fr_l hPm) (by decide) gM_0 rfl)) rfl rfl hl.1 rfl (lv_room (Nat.le_of_ble_eq_true rfl)) d_L_law_395 ⟨by show _ ≤ 600002; omega, by show _ ≤ 7302232; omega⟩) (fun r_7 h_8 => ?_)
  subst h_8
  rw [hk0]
  refine lv_iload hx hb d_L_law_398 (lv_at hl 1 rfl) ?_
  refine lv_icmp_eq (tgt := 405) hx hb d_L_law_400 (by decide) (fun _ => ?_) (fun c9 => absurd (rfl) c9)
  refine lv_iload hx hb d_L_law_405 (lv_at hl 1 rfl) ?_
  refine lv_if_ne (tgt := 422) hx hb d_L_law_407 (by decide) (fun c_9 => ?_) (fun c_9 => ?_)
  · refine lv_goto (tgt := 1222) hx hb d_L_law_422 (by decide) ?_
    exact lp_next C hn ht5 (lv_sub hl [2, 3, 4, 5, 6] rfl) hI hT hP hD hS (by omega) (by omega)
  · refine lv_aload_n hx hb d_L_law_410 rfl (lv_at hl 5 rfl) ?_
    refine lv_iconst (v := 0) hx hb d_L_law_411 (by decide) ?_
    have hPo := hP
    rw [show (wL cs ad s1 n nm ci cj E am um_6 o f1) = (wC cs ad s1 n nm ci cj E ++ wM cs am um_6) ++ [(o, outc cs f1)] from (List.append_assoc _ _ _).symm] at hPo
    refine lo_lald hx hb hK hPo d_L_law_412 ?_
    refine lv_iload hx hb d_L_law_413 (lv_at hl 0 rfl) ?_
    refine lv_i2l hx hb d_L_law_415 rfl ?_
    rw [hfo c_9, hr0 c_9]
    refine W.lcmp hx hb d_L_law_416 ?_
    refine lv_if_eq (tgt := 422) hx hb d_L_law_417 (by decide) (fun _ => ?_) (fun c9 => absurd ((lg_cmp_eq _ _).mpr rfl) c9)
    refine lv_goto (tgt := 1222) hx hb d_L_law_422 (by decide) ?_
    exact lp_next C hn ht5 (lv_sub hl [2, 3, 4, 5, 6] rfl) hI hT hP hD hS (by omega) (by omega)
set_option maxHeartbeats 4000000 in
set_option maxRecDepth 100000 in
theorem lc_4 {p : Program} {l : Launch} {e : Env} {s : State} {m : MethodId} {below : List Frame} {meth : Method} {c : Code} {b L : Nat} {xs : Nat → Int32} {D : va_G} {cs : Nat → ClassId} {mi E : Nat} (C : lw_C p l s m meth c b L xs D cs mi E 5) {t : Nat} (hn : lpH 23 p l e s m below meth c b L D cs E (t + 1)) (ht5 : 5 * t + 5 ≤ L) {ls : Array Slot} {H : Heap} {locs : List Loc} {ad am : Nat → Nat} {σ τ : Nat → Nat → Int32} {n nm ci cj o : Nat} {f : Nat → Int64} (hl : lv_has ls 7 [(0, .ref b), (1, .ref (ad 0)), (2, .ref (am 0)), (3, .ref o), (4, .int (nI (5 * t)))]) (hI : Iv n nm ci cj) (hT : TT σ τ n nm) (ht0 : t = 0 → nm = 0) (hP : va_P D cls_ (wL cs ad σ n nm ci cj E am τ o f) H) (hD : va_D (AL s) (wL cs ad σ n nm ci cj E am τ o f)) (hS : va_S (AL s) s.heap H locs) : W p l e room_1 s m #[Value.ref b] below meth c H locs (43 + 4 * t) (978 + 120 * t) (lw_Z below #[Value.ref b] s) (F0 m 425 ls []) := by
  have C9 := C
  obtain ⟨hx, hb, hr, hml, hown, hG, hX, hbl, hlocks, hK, hXk, hZ, hg, hE, hnc, hst, hLN⟩ := C9
  have hA : ∀ q : Nat, s.heap.size ≤ q → AL s q := fun _ h => h
  have hbA : ¬ AL s b := Nat.not_le.mpr hbl
  have hts : ∀ w ∈ (Cond.initialized "InspectSteps" :: GW), w.before #[Value.ref b] s = true := List.forall_mem_cons.mpr ⟨hG _ kw_1, hG⟩
  refine lv_aload_n hx hb d_L_law_425 rfl (lv_at hl 1 rfl) ?_
  refine lv_aload_n hx hb d_L_law_426 rfl (lv_at hl 0 rfl) ?_
  refine lv_iload hx hb d_L_law_427 (lv_at hl 4 rfl) ?_
  refine lv_iconst (v := 1) hx hb d_L_law_429 (by decide) ?_
  refine lv_iadd hx hb d_L_law_430 ?_
  rw [show nI (5 * t) + 1 = nI (5 * t + 1) from nI_add _ 1]
  refine va_sld hx hb hX hbl hbA hS (i := nI (5 * t + 1)) (vp_in_nI (by omega) (by omega)) d_L_law_431 ?_
  rw [nI_clamp (by omega)]
  refine lv_aload_n hx hb d_L_law_432 rfl (lv_at hl 0 rfl) ?_
  refine lv_iload hx hb d_L_law_433 (lv_at hl 4 rfl) ?_
  refine lv_iconst (v := 2) hx hb d_L_law_435 (by decide) ?_
  refine lv_iadd hx hb d_L_law_436 ?_
  rw [show nI (5 * t) + 2 = nI (5 * t + 2) from nI_add _ 2]
  refine va_sld hx hb hX hbl hbA hS (i := nI (5 * t + 2)) (vp_in_nI (by omega) (by omega)) d_L_law_437 ?_
  rw [nI_clamp (by omega)]
  refine lv_aload_n hx hb d_L_law_438 rfl (lv_at hl 0 rfl) ?_
  refine lv_iload hx hb d_L_law_439 (lv_at hl 4 rfl) ?_
  refine lv_iconst (v := 3) hx hb d_L_law_441 (by decide) ?_
  refine lv_iadd hx hb d_L_law_442 ?_
  rw [show nI (5 * t) + 3 = nI (5 * t + 3) from nI_add _ 3]
  refine va_sld hx hb hX hbl hbA hS (i := nI (5 * t + 3)) (vp_in_nI (by omega) (by omega)) d_L_law_443 ?_
  rw [nI_clamp (by omega)]
  refine lv_if_eq (tgt := 451) hx hb d_L_law_444 (by decide) (fun c_1 => ?_) (fun c_1 => ?_)
  · refine lv_iconst (v := 0) hx hb d_L_law_451 (by decide) ?_
    refine lv_aload_n hx hb d_L_law_452 rfl (lv_at hl 3 rfl) ?_
    have hPh := pm_hP hP
    have hDh := pm_hD hD
    have hFh := fr_A hDh hS hA
    refine va_calli (vx_runSW (As := [.ref (ad 0), .int (xs (5 * t + 1)), .int (xs (5 * t + 2)), .int 0, .ref o]) (rest := []) ⟨hx, hb, hml, hown, hts⟩ (c_L_end l D cs ad σ n nm ci cj E hI hT.jv mi hst o f H.size (xs (5 * t + 1)) (xs (5 * t + 2)) 0) (vx_cwSW 5 hts (gw_SW kw_427 kw_428 kw_0 kw_429) rfl rfl rfl (by decide +kernel) ⟨Nat.le_of_ble_eq_true rfl, Nat.le_of_ble_eq_true rfl⟩) ⟨hp_blind, fun U hU hW => ⟨rfl, by rw [hU], by rw [hU]; exact fr_l hPh, va_K.moved hW.alike hK, (fr_dl hDh).weaken (fun _ _ _ _ => trivial), hXk.warm hW, by rw [hU]; exact ((hZ.kept (fun q h1 h2 => hS.2.1 q h1 h2)).moved hW.alike).narrow hFh, hg.moved hW.alike, by rw [hU]; exact ((hE.kept (fun q h1 h2 => hS.2.1 q h1 h2)).moved hW.alike).narrow hFh, va_Nc.moved hW.alike hnc⟩⟩ rfl rfl hl.1 rfl (lv_room (Nat.le_of_ble_eq_true rfl)) d_L_law_453 ⟨by show _ ≤ 600002; omega, by show _ ≤ 7302232; omega⟩) hS (fun q _ h => hFh q h) hFh (fun kc_3 uc t9 H_2 locs ht hvm hw hB hz1 hk1 hS => ?_)
    obtain ⟨rc_4, hc, hfo⟩ := hw
    obtain ⟨hP1, -, hD1⟩ := hB
    rw [ht] at hP1
    obtain ⟨hPh, hDh⟩ := fr_join hPh hDh hk1 hFh hP1 hD1
    have hP := pm_hP' hPh
    have hD := pm_hD' hDh
    obtain ⟨s1, f1⟩ := uc
    replace hfo : kc_3 = 0 → f1 0 = rc_4.toInt64 := hfo
    replace hP : va_P D cls_ (wL cs ad s1 n nm ci cj E am τ o f1) H_2 := hP
    replace hD : va_D (AL s) (wL cs ad s1 n nm ci cj E am τ o f1) := hD
    refine lv_istore (lv' := [(5, .int kc_3), (0, .ref b), (1, .ref (ad 0)), (2, .ref (am 0)), (3, .ref o), (4, .int (nI (5 * t)))]) hx hb d_L_law_456 hl (by decide) rfl (fun ls hl => ?_)
    refine lv_aload_n hx hb d_L_law_458 rfl (lv_at hl 3 rfl) ?_
    refine lv_aload_n hx hb d_L_law_459 rfl (lv_at hl 1 rfl) ?_
    refine lv_iload hx hb d_L_law_460 (lv_at hl 5 rfl) ?_
    refine lv_iconst (v := 1) hx hb d_L_law_462 (by decide) ?_
    refine lv_iadd hx hb d_L_law_463 ?_
    rw [show nI (5 * t) + 1 = nI (5 * t + 1) from nI_add _ 1]
    refine va_sld hx hb hX hbl hbA hS (i := nI (5 * t + 1)) (vp_in_nI (by omega) (by omega)) d_L_law_464 ?_
    rw [nI_clamp (by omega)]
    refine lv_aload_n hx hb d_L_law_465 rfl (lv_at hl 1 rfl) ?_
    refine lv_iload hx hb d_L_law_466 (lv_at hl 5 rfl) ?_
    refine lv_iconst (v := 2) hx hb d_L_law_468 (by decide) ?_
    refine lv_iadd hx hb d_L_law_469 ?_
    rw [show nI (5 * t) + 2 = nI (5 * t + 2) from nI_add _ 2]
    refine va_sld hx hb hX hbl hbA hS (i := nI (5 * t + 2)) (vp_in_nI (by omega) (by omega)) d_L_law_470 ?_
    rw [nI_clamp (by omega)]
    refine lv_aload_n hx hb d_L_law_471 rfl (lv_at hl 1 rfl) ?_
    refine lv_iload hx hb d_L_law_472 (lv_at hl 5 rfl) ?_
    refine lv_iconst (v := 3) hx hb d_L_law_474 (by decide) ?_
    refine lv_iadd hx hb d_L_law_475 ?_
    rw [show nI (5 * t) + 3 = nI (5 * t + 3) from nI_add _ 3]
    refine va_sld hx hb hX hbl hbA hS (i := nI (5 * t + 3)) (vp_in_nI (by omega) (by omega)) d_L_law_476 ?_
    rw [nI_clamp (by omega)]
    refine lv_if_eq (tgt := 484) hx hb d_L_law_477 (by decide) (fun _ => ?_) (fun c9 => absurd c_1 c9)
    refine lv_iconst (v := 0) hx hb d_L_law_484 (by decide) ?_
    have hM := hT.mv
    have hz := hT.hz
    have hPm := pm_mP hP
    have hDm := pm_mD hD
    have hFm := fr_A hDm hS hA
    refine va_calli (va_runV (As := [.int (xs (5 * t + 1)), .int (xs (5 * t + 2)), .int 0]) (rest := []) ⟨hx, hb, hml, hown, hts⟩ (c_M_end l D cs am τ n nm hM H_2.size (xs (5 * t + 1)) (xs (5 * t + 2)) 0) (cwV 3 hts (gw_V kw_700 kw_701 kw_702 kw_6 kw_703) rfl rfl rfl (by decide +kernel) ⟨Nat.le_of_ble_eq_true rfl, Nat.le_of_ble_eq_true rfl⟩) ⟨wr_blind, rl_recv hK (fr_l hPm) (by decide) gM_0 rfl, fun U hU hW => ⟨rfl, by rw [hU], by rw [hU]; exact fr_l hPm, va_K.moved hW.alike hK, (fr_dl hDm).weaken (fun _ _ _ _ => trivial)⟩⟩ rfl rfl hl.1 rfl (lv_room (Nat.le_of_ble_eq_true rfl)) d_L_law_485 ⟨by show _ ≤ 600002; omega, by show _ ≤ 7302232; omega⟩) hS (fun q _ h => hFm q h) hFm (fun rm_6 um_7 t9 H_5 locs ht hvm hw hB hz1 hk1 hS => ?_)
    have hm : mr_end τ n nm (xs (5 * t + 1)) (xs (5 * t + 2)) 0 rm_6 um_7 := hw
    obtain ⟨hP1, -, hD1⟩ := hB
    rw [ht] at hP1
    obtain ⟨hPm, hDm⟩ := fr_join hPm hDm hk1 hFm hP1 hD1
    have hP := pm_mP hPm
    have hD := pm_mD hDm
    replace hP : va_P D cls_ (wL cs ad s1 n nm ci cj E am um_7 o f1) H_5 := hP
    replace hD : va_D (AL s) (wL cs ad s1 n nm ci cj E am um_7 o f1) := hD
    obtain ⟨hk0, hr0, hT⟩ := tt_end hT hc hm
    refine lv_istore (lv' := [(6, .int rm_6), (5, .int kc_3), (0, .ref b), (1, .ref (ad 0)), (2, .ref (am 0)), (3, .ref o), (4, .int (nI (5 * t)))]) hx hb d_L_law_488 hl (by decide) rfl (fun ls hl => ?_)
    refine lv_aload_n hx hb d_L_law_490 rfl (lv_at hl 4 rfl) ?_
    have hPm := pm_mP hP
    refine vp_callSi (W.runV (As := []) (rest := []) ⟨hx, hb, hml, hown, hts⟩ (c_M_thrown l D cs am um_7 n nm hT.mv) (cwV 0 hts (gw_V kw_657 kw_658 kw_659 kw_6 kw_660) rfl rfl rfl (by decide +kernel) ⟨Nat.le_of_ble_eq_true rfl, Nat.le_of_ble_eq_true rfl⟩) (rd_V (fr_l hPm) hK (rl_recv hK (fr_l hPm) (by decide) gM_0 rfl)) rfl rfl hl.1 rfl (lv_room (Nat.le_of_ble_eq_true rfl)) d_L_law_491 ⟨by show _ ≤ 600002; omega, by show _ ≤ 7302232; omega⟩) (fun r_8 h_9 => ?_)
    subst h_9
    rw [hk0]
    refine lv_iload hx hb d_L_law_494 (lv_at hl 1 rfl) ?_
    refine lv_icmp_eq (tgt := 501) hx hb d_L_law_496 (by decide) (fun _ => ?_) (fun c9 => absurd (rfl) c9)
    refine lv_iload hx hb d_L_law_501 (lv_at hl 1 rfl) ?_
    refine lv_if_ne (tgt := 518) hx hb d_L_law_503 (by decide) (fun c_10 => ?_) (fun c_10 => ?_)
    · refine lv_goto (tgt := 1222) hx hb d_L_law_518 (by decide) ?_
      exact lp_next C hn ht5 (lv_sub hl [2, 3, 4, 5, 6] rfl) hI hT hP hD hS (by omega) (by omega)
    · refine lv_aload_n hx hb d_L_law_506 rfl (lv_at hl 5 rfl) ?_
      refine lv_iconst (v := 0) hx hb d_L_law_507 (by decide) ?_
      have hPo := hP
      rw [show (wL cs ad s1 n nm ci cj E am um_7 o f1) = (wC cs ad s1 n nm ci cj E ++ wM cs am um_7) ++ [(o, outc cs f1)] from (List.append_assoc _ _ _).symm] at hPo
      refine lo_lald hx hb hK hPo d_L_law_508 ?_
      refine lv_iload hx hb d_L_law_509 (lv_at hl 0 rfl) ?_
      refine lv_i2l hx hb d_L_law_511 rfl ?_
      rw [hfo c_10, hr0 c_10]
      refine W.lcmp hx hb d_L_law_512 ?_
      refine lv_if_eq (tgt := 518) hx hb d_L_law_513 (by decide) (fun _ => ?_) (fun c9 => absurd ((lg_cmp_eq _ _).mpr rfl) c9)
      refine lv_goto (tgt := 1222) hx hb d_L_law_518 (by decide) ?_
      exact lp_next C hn ht5 (lv_sub hl [2, 3, 4, 5, 6] rfl) hI hT hP hD hS (by omega) (by omega)
  · refine lv_iconst (v := 1) hx hb d_L_law_447 (by decide) ?_
    refine lv_goto (tgt := 452) hx hb d_L_law_448 (by decide) ?_
    refine lv_aload_n hx hb d_L_law_452 rfl (lv_at hl 3 rfl) ?_
    have hPh := pm_hP hP
    have hDh := pm_hD hD
    have hFh := fr_A hDh hS hA
    refine va_calli (vx_runSW (As := [.ref (ad 0), .int (xs (5 * t + 1)), .int (xs (5 * t + 2)), .int 1, .ref o]) (rest := []) ⟨hx, hb, hml, hown, hts⟩ (c_L_end l D cs ad σ n nm ci cj E hI hT.jv mi hst o f H.size (xs (5 * t + 1)) (xs (5 * t + 2)) 1) (vx_cwSW 5 hts (gw_SW kw_427 kw_428 kw_0 kw_429) rfl rfl rfl (by decide +kernel) ⟨Nat.le_of_ble_eq_true rfl, Nat.le_of_ble_eq_true rfl⟩) ⟨hp_blind, fun U hU hW => ⟨rfl, by rw [hU], by rw [hU]; exact fr_l hPh, va_K.moved hW.alike hK, (fr_dl hDh).weaken (fun _ _ _ _ => trivial), hXk.warm hW, by rw [hU]; exact ((hZ.kept (fun q h1 h2 => hS.2.1 q h1 h2)).moved hW.alike).narrow hFh, hg.moved hW.alike, by rw [hU]; exact ((hE.kept (fun q h1 h2 => hS.2.1 q h1 h2)).moved hW.alike).narrow hFh, va_Nc.moved hW.alike hnc⟩⟩ rfl rfl hl.1 rfl (lv_room (Nat.le_of_ble_eq_true rfl)) d_L_law_453 ⟨by show _ ≤ 600002; omega, by show _ ≤ 7302232; omega⟩) hS (fun q _ h => hFh q h) hFh (fun kc_12 uc t9 H_11 locs ht hvm hw hB hz1 hk1 hS => ?_)
    obtain ⟨rc_13, hc, hfo⟩ := hw
    obtain ⟨hP1, -, hD1⟩ := hB
    rw [ht] at hP1
    obtain ⟨hPh, hDh⟩ := fr_join hPh hDh hk1 hFh hP1 hD1
    have hP := pm_hP' hPh
    have hD := pm_hD' hDh
    obtain ⟨s1, f1⟩ := uc
    replace hfo : kc_12 = 0 → f1 0 = rc_13.toInt64 := hfo
    replace hP : va_P D cls_ (wL cs ad s1 n nm ci cj E am τ o f1) H_11 := hP
    replace hD : va_D (AL s) (wL cs ad s1 n nm ci cj E am τ o f1) := hD
    refine lv_istore (lv' := [(5, .int kc_12), (0, .ref b), (1, .ref (ad 0)), (2, .ref (am 0)), (3, .ref o), (4, .int (nI (5 * t)))]) hx hb d_L_law_456 hl (by decide) rfl (fun ls hl => ?_)
    refine lv_aload_n hx hb d_L_law_458 rfl (lv_at hl 3 rfl) ?_
    refine lv_aload_n hx hb d_L_law_459 rfl (lv_at hl 1 rfl) ?_
    refine lv_iload hx hb d_L_law_460 (lv_at hl 5 rfl) ?_
    refine lv_iconst (v := 1) hx hb d_L_law_462 (by decide) ?_
    refine lv_iadd hx hb d_L_law_463 ?_
    rw [show nI (5 * t) + 1 = nI (5 * t + 1) from nI_add _ 1]
    refine va_sld hx hb hX hbl hbA hS (i := nI (5 * t + 1)) (vp_in_nI (by omega) (by omega)) d_L_law_464 ?_
    rw [nI_clamp (by omega)]
    refine lv_aload_n hx hb d_L_law_465 rfl (lv_at hl 1 rfl) ?_
    refine lv_iload hx hb d_L_law_466 (lv_at hl 5 rfl) ?_
    refine lv_iconst (v := 2) hx hb d_L_law_468 (by decide) ?_
    refine lv_iadd hx hb d_L_law_469 ?_
    rw [show nI (5 * t) + 2 = nI (5 * t + 2) from nI_add _ 2]
    refine va_sld hx hb hX hbl hbA hS (i := nI (5 * t + 2)) (vp_in_nI (by omega) (by omega)) d_L_law_470 ?_
    rw [nI_clamp (by omega)]
    refine lv_aload_n hx hb d_L_law_471 rfl (lv_at hl 1 rfl) ?_
    refine lv_iload hx hb d_L_law_472 (lv_at hl 5 rfl) ?_
    refine lv_iconst (v := 3) hx hb d_L_law_474 (by decide) ?_
    refine lv_iadd hx hb d_L_law_475 ?_
    rw [show nI (5 * t) + 3 = nI (5 * t + 3) from nI_add _ 3]
    refine va_sld hx hb hX hbl hbA hS (i := nI (5 * t + 3)) (vp_in_nI (by omega) (by omega)) d_L_law_476 ?_
    rw [nI_clamp (by omega)]
    refine lv_if_eq (tgt := 484) hx hb d_L_law_477 (by decide) (fun c9 => absurd c9 c_1) (fun _ => ?_)
    refine lv_iconst (v := 1) hx hb d_L_law_480 (by decide) ?_
    refine lv_goto (tgt := 485) hx hb d_L_law_481 (by decide) ?_
    have hM := hT.mv
    have hz := hT.hz
    have hPm := pm_mP hP
    have hDm := pm_mD hD
    have hFm := fr_A hDm hS hA
    refine va_calli (va_runV (As := [.int (xs (5 * t + 1)), .int (xs (5 * t + 2)), .int 1]) (rest := []) ⟨hx, hb, hml, hown, hts⟩ (c_M_end l D cs am τ n nm hM H_11.size (xs (5 * t + 1)) (xs (5 * t + 2)) 1) (cwV 3 hts (gw_V kw_700 kw_701 kw_702 kw_6 kw_703) rfl rfl rfl (by decide +kernel) ⟨Nat.le_of_ble_eq_true rfl, Nat.le_of_ble_eq_true rfl⟩) ⟨wr_blind, rl_recv hK (fr_l hPm) (by decide) gM_0 rfl, fun U hU hW => ⟨rfl, by rw [hU], by rw [hU]; exact fr_l hPm, va_K.moved hW.alike hK, (fr_dl hDm).weaken (fun _ _ _ _ => trivial)⟩⟩ rfl rfl hl.1 rfl (lv_room (Nat.le_of_ble_eq_true rfl)) d_L_law_485 ⟨by show _ ≤ 600002; omega, by show _ ≤ 7302232; omega⟩) hS (fun q _ h => hFm q h) hFm (fun rm_15 um_16 t9 H_14 locs ht hvm hw hB hz1 hk1 hS => ?_)
    have hm : mr_end τ n nm (xs (5 * t + 1)) (xs (5 * t + 2)) 1 rm_15 um_16 := hw
    obtain ⟨hP1, -, hD1⟩ := hB
    rw [ht] at hP1
    obtain ⟨hPm, hDm⟩ := fr_join hPm hDm hk1 hFm hP1 hD1
    have hP := pm_mP hPm
    have hD := pm_mD hDm
    replace hP : va_P D cls_ (wL cs ad s1 n nm ci cj E am um_16 o f1) H_14 := hP
    replace hD : va_D (AL s) (wL cs ad s1 n nm ci cj E am um_16 o f1) := hD
    obtain ⟨hk0, hr0, hT⟩ := tt_end hT hc hm
    refine lv_istore (lv' := [(6, .int rm_15), (5, .int kc_12), (0, .ref b), (1, .ref (ad 0)), (2, .ref (am 0)), (3, .ref o), (4, .int (nI (5 * t)))]) hx hb d_L_law_488 hl (by decide) rfl (fun ls hl => ?_)
    refine lv_aload_n hx hb d_L_law_490 rfl (lv_at hl 4 rfl) ?_
    have hPm := pm_mP hP
    refine vp_callSi (W.runV (As := []) (rest := []) ⟨hx, hb, hml, hown, hts⟩ (c_M_thrown l D cs am um_16 n nm hT.mv) (cwV 0 hts (gw_V kw_657 kw_658 kw_659 kw_6 kw_660) rfl rfl rfl (by decide +kernel) ⟨Nat.le_of_ble_eq_true rfl, Nat.le_of_ble_eq_true rfl⟩) (rd_V (fr_l hPm) hK (rl_recv hK (fr_l hPm) (by decide) gM_0 rfl)) rfl rfl hl.1 rfl (lv_room (Nat.le_of_ble_eq_true rfl)) d_L_law_491 ⟨by show _ ≤ 600002; omega, by show _ ≤ 7302232; omega⟩) (fun r_17 h_18 => ?_)
    subst h_18
    rw [hk0]
    refine lv_iload hx hb d_L_law_494 (lv_at hl 1 rfl) ?_
    refine lv_icmp_eq (tgt := 501) hx hb d_L_law_496 (by decide) (fun _ => ?_) (fun c9 => absurd (rfl) c9)
    refine lv_iload hx hb d_L_law_501 (lv_at hl 1 rfl) ?_
    refine lv_if_ne (tgt := 518) hx hb d_L_law_503 (by decide) (fun c_19 => ?_) (fun c_19 => ?_)
    · refine lv_goto (tgt := 1222) hx hb d_L_law_518 (by decide) ?_
      exact lp_next C hn ht5 (lv_sub hl [2, 3, 4, 5, 6] rfl) hI hT hP hD hS (by omega) (by omega)
    · refine lv_aload_n hx hb d_L_law_506 rfl (lv_at hl 5 rfl) ?_
      refine lv_iconst (v := 0) hx hb d_L_law_507 (by decide) ?_
      have hPo := hP
      rw [show (wL cs ad s1 n nm ci cj E am um_16 o f1) = (wC cs ad s1 n nm ci cj E ++ wM cs am um_16) ++ [(o, outc cs f1)] from (List.append_assoc _ _ _).symm] at hPo
      refine lo_lald hx hb hK hPo d_L_law_508 ?_
      refine lv_iload hx hb d_L_law_509 (lv_at hl 0 rfl) ?_
      refine lv_i2l hx hb d_L_law_511 rfl ?_
      rw [hfo c_19, hr0 c_19]
      refine W.lcmp hx hb d_L_law_512 ?_
      refine lv_if_eq (tgt := 518) hx hb d_L_law_513 (by decide) (fun _ => ?_) (fun c9 => absurd ((lg_cmp_eq _ _).mpr rfl) c9)
      refine lv_goto (tgt := 1222) hx hb d_L_law_518 (by decide) ?_
      exact lp_next C hn ht5 (lv_sub hl [2, 3, 4, 5, 6] rfl) hI hT hP hD hS (by omega) (by omega)
set_option maxHeartbeats 4000000 in
set_option maxRecDepth 100000 in
theorem lc_5 {p : Program} {l : Launch} {e : Env} {s : State} {m : MethodId} {below : List Frame} {meth : Method} {c : Code} {b L : Nat} {xs : Nat → Int32} {D : va_G} {cs : Nat → ClassId} {mi E : Nat} (C : lw_C p l s m meth c b L xs D cs mi E 5) {t : Nat} (hn : lpH 23 p l e s m below meth c b L D cs E (t + 1)) (ht5 : 5 * t + 5 ≤ L) {ls : Array Slot} {H : Heap} {locs : List Loc} {ad am : Nat → Nat} {σ τ : Nat → Nat → Int32} {n nm ci cj o : Nat} {f : Nat → Int64} (hl : lv_has ls 7 [(0, .ref b), (1, .ref (ad 0)), (2, .ref (am 0)), (3, .ref o), (4, .int (nI (5 * t)))]) (hI : Iv n nm ci cj) (hT : TT σ τ n nm) (ht0 : t = 0 → nm = 0) (hP : va_P D cls_ (wL cs ad σ n nm ci cj E am τ o f) H) (hD : va_D (AL s) (wL cs ad σ n nm ci cj E am τ o f)) (hS : va_S (AL s) s.heap H locs) : W p l e room_1 s m #[Value.ref b] below meth c H locs (43 + 4 * t) (978 + 120 * t) (lw_Z below #[Value.ref b] s) (F0 m 521 ls []) := by
  have C9 := C
  obtain ⟨hx, hb, hr, hml, hown, hG, hX, hbl, hlocks, hK, hXk, hZ, hg, hE, hnc, hst, hLN⟩ := C9
  have hA : ∀ q : Nat, s.heap.size ≤ q → AL s q := fun _ h => h
  have hbA : ¬ AL s b := Nat.not_le.mpr hbl
  have hts : ∀ w ∈ (Cond.initialized "InspectSteps" :: GW), w.before #[Value.ref b] s = true := List.forall_mem_cons.mpr ⟨hG _ kw_1, hG⟩
  refine lv_aload_n hx hb d_L_law_521 rfl (lv_at hl 1 rfl) ?_
  refine lv_aload_n hx hb d_L_law_522 rfl (lv_at hl 0 rfl) ?_
  refine lv_iload hx hb d_L_law_523 (lv_at hl 4 rfl) ?_
  refine lv_iconst (v := 1) hx hb d_L_law_525 (by decide) ?_
  refine lv_iadd hx hb d_L_law_526 ?_
  rw [show nI (5 * t) + 1 = nI (5 * t + 1) from nI_add _ 1]
  refine va_sld hx hb hX hbl hbA hS (i := nI (5 * t + 1)) (vp_in_nI (by omega) (by omega)) d_L_law_527 ?_
  rw [nI_clamp (by omega)]
  have hPx := fr_l hP
  have hDx := fr_dl hD
  have hFX := fr_A hD hS hA
  refine va_calli (va_runV (As := [.int (xs (5 * t + 1))]) (rest := []) ⟨hx, hb, hml, hown, hts⟩ (c_C_giveUp l D cs ad σ n nm ci cj E hI H.size (xs (5 * t + 1))) (cwV 1 hts (gw_V kw_108 kw_109 kw_110 kw_1 kw_111) rfl rfl rfl (by decide +kernel) ⟨Nat.le_of_ble_eq_true rfl, Nat.le_of_ble_eq_true rfl⟩) ⟨wr_blind, rl_recv hK hPx (RC_f (by decide)) gC_0 rfl, fun U hU hW => ⟨rfl, by rw [hU], by rw [hU]; exact hPx, va_K.moved hW.alike hK, hDx.weaken (fun _ _ _ _ => trivial)⟩⟩ rfl rfl hl.1 rfl (lv_room (Nat.le_of_ble_eq_true rfl)) d_L_law_528 ⟨by show _ ≤ 600002; omega, by show _ ≤ 7302232; omega⟩) hS (fun q _ h => hFX q h) hFX (fun rc_2 uc_3 t9 H_1 locs ht hvm hw hB hz1 hk1 hS => ?_)
  have hc : cr_giveUp σ n nm (xs (5 * t + 1)) rc_2 uc_3 := hw
  obtain ⟨hP1, -, hD1⟩ := hB
  rw [ht] at hP1
  obtain ⟨hP, hD⟩ := fr_join hP hD hk1 hFX hP1 hD1
  replace hP : va_P D cls_ (wL cs ad uc_3 n nm ci cj E am τ o f) H_1 := hP
  replace hD : va_D (AL s) (wL cs ad uc_3 n nm ci cj E am τ o f) := hD
  refine lv_aload_n hx hb d_L_law_531 rfl (lv_at hl 2 rfl) ?_
  refine lv_aload_n hx hb d_L_law_532 rfl (lv_at hl 0 rfl) ?_
  refine lv_iload hx hb d_L_law_533 (lv_at hl 4 rfl) ?_
  refine lv_iconst (v := 1) hx hb d_L_law_535 (by decide) ?_
  refine lv_iadd hx hb d_L_law_536 ?_
  rw [show nI (5 * t) + 1 = nI (5 * t + 1) from nI_add _ 1]
  refine va_sld hx hb hX hbl hbA hS (i := nI (5 * t + 1)) (vp_in_nI (by omega) (by omega)) d_L_law_537 ?_
  rw [nI_clamp (by omega)]
  have hM := hT.mv
  have hz := hT.hz
  have hPm := pm_mP hP
  have hDm := pm_mD hD
  have hFm := fr_A hDm hS hA
  refine va_calli (va_runV (As := [.int (xs (5 * t + 1))]) (rest := [.int rc_2]) ⟨hx, hb, hml, hown, hts⟩ (c_M_giveUp l D cs am τ n nm hM H_1.size (xs (5 * t + 1))) (cwV 1 hts (gw_V kw_704 kw_705 kw_706 kw_6 kw_707) rfl rfl rfl (by decide +kernel) ⟨Nat.le_of_ble_eq_true rfl, Nat.le_of_ble_eq_true rfl⟩) ⟨wr_blind, rl_recv hK (fr_l hPm) (by decide) gM_0 rfl, fun U hU hW => ⟨rfl, by rw [hU], by rw [hU]; exact fr_l hPm, va_K.moved hW.alike hK, (fr_dl hDm).weaken (fun _ _ _ _ => trivial)⟩⟩ rfl rfl hl.1 rfl (lv_room (Nat.le_of_ble_eq_true rfl)) d_L_law_538 ⟨by show _ ≤ 600002; omega, by show _ ≤ 7302232; omega⟩) hS (fun q _ h => hFm q h) hFm (fun rm_5 um_6 t9 H_4 locs ht hvm hw hB hz1 hk1 hS => ?_)
  have hm : mr_giveUp τ n nm (xs (5 * t + 1)) rm_5 um_6 := hw
  obtain ⟨hP1, -, hD1⟩ := hB
  rw [ht] at hP1
  obtain ⟨hPm, hDm⟩ := fr_join hPm hDm hk1 hFm hP1 hD1
  have hP := pm_mP hPm
  have hD := pm_mD hDm
  replace hP : va_P D cls_ (wL cs ad uc_3 n nm ci cj E am um_6 o f) H_4 := hP
  replace hD : va_D (AL s) (wL cs ad uc_3 n nm ci cj E am um_6 o f) := hD
  obtain ⟨heq, hT⟩ := tt_giveUp hT hc hm
  subst heq
  refine lv_icmp_eq (tgt := 1222) hx hb d_L_law_541 (by decide) (fun _ => ?_) (fun c9 => absurd (rfl) c9)
  exact lp_next C hn ht5 (lv_sub hl [0, 1, 2, 3, 4] rfl) hI hT hP hD hS (by omega) (by omega)
set_option maxHeartbeats 4000000 in
set_option maxRecDepth 100000 in
theorem lc_6 {p : Program} {l : Launch} {e : Env} {s : State} {m : MethodId} {below : List Frame} {meth : Method} {c : Code} {b L : Nat} {xs : Nat → Int32} {D : va_G} {cs : Nat → ClassId} {mi E : Nat} (C : lw_C p l s m meth c b L xs D cs mi E 5) {t : Nat} (hn : lpH 23 p l e s m below meth c b L D cs E (t + 1)) (ht5 : 5 * t + 5 ≤ L) {ls : Array Slot} {H : Heap} {locs : List Loc} {ad am : Nat → Nat} {σ τ : Nat → Nat → Int32} {n nm ci cj o : Nat} {f : Nat → Int64} (hl : lv_has ls 7 [(0, .ref b), (1, .ref (ad 0)), (2, .ref (am 0)), (3, .ref o), (4, .int (nI (5 * t)))]) (hI : Iv n nm ci cj) (hT : TT σ τ n nm) (ht0 : t = 0 → nm = 0) (hP : va_P D cls_ (wL cs ad σ n nm ci cj E am τ o f) H) (hD : va_D (AL s) (wL cs ad σ n nm ci cj E am τ o f)) (hS : va_S (AL s) s.heap H locs) : W p l e room_1 s m #[Value.ref b] below meth c H locs (43 + 4 * t) (978 + 120 * t) (lw_Z below #[Value.ref b] s) (F0 m 546 ls []) := by
  have C9 := C
  obtain ⟨hx, hb, hr, hml, hown, hG, hX, hbl, hlocks, hK, hXk, hZ, hg, hE, hnc, hst, hLN⟩ := C9
  have hA : ∀ q : Nat, s.heap.size ≤ q → AL s q := fun _ h => h
  have hbA : ¬ AL s b := Nat.not_le.mpr hbl
  have hts : ∀ w ∈ (Cond.initialized "InspectSteps" :: GW), w.before #[Value.ref b] s = true := List.forall_mem_cons.mpr ⟨hG _ kw_1, hG⟩
  refine lv_aload_n hx hb d_L_law_546 rfl (lv_at hl 1 rfl) ?_
  refine lv_aload_n hx hb d_L_law_547 rfl (lv_at hl 0 rfl) ?_
  refine lv_iload hx hb d_L_law_548 (lv_at hl 4 rfl) ?_
  refine lv_iconst (v := 1) hx hb d_L_law_550 (by decide) ?_
  refine lv_iadd hx hb d_L_law_551 ?_
  rw [show nI (5 * t) + 1 = nI (5 * t + 1) from nI_add _ 1]
  refine va_sld hx hb hX hbl hbA hS (i := nI (5 * t + 1)) (vp_in_nI (by omega) (by omega)) d_L_law_552 ?_
  rw [nI_clamp (by omega)]
  refine lv_aload_n hx hb d_L_law_553 rfl (lv_at hl 0 rfl) ?_
  refine lv_iload hx hb d_L_law_554 (lv_at hl 4 rfl) ?_
  refine lv_iconst (v := 2) hx hb d_L_law_556 (by decide) ?_
  refine lv_iadd hx hb d_L_law_557 ?_
  rw [show nI (5 * t) + 2 = nI (5 * t + 2) from nI_add _ 2]
  refine va_sld hx hb hX hbl hbA hS (i := nI (5 * t + 2)) (vp_in_nI (by omega) (by omega)) d_L_law_558 ?_
  rw [nI_clamp (by omega)]
  refine lv_aload_n hx hb d_L_law_559 rfl (lv_at hl 0 rfl) ?_
  refine lv_iload hx hb d_L_law_560 (lv_at hl 4 rfl) ?_
  refine lv_iconst (v := 3) hx hb d_L_law_562 (by decide) ?_
  refine lv_iadd hx hb d_L_law_563 ?_
  rw [show nI (5 * t) + 3 = nI (5 * t + 3) from nI_add _ 3]
  refine va_sld hx hb hX hbl hbA hS (i := nI (5 * t + 3)) (vp_in_nI (by omega) (by omega)) d_L_law_564 ?_
  rw [nI_clamp (by omega)]
  refine lv_aload_n hx hb d_L_law_565 rfl (lv_at hl 0 rfl) ?_
  refine lv_iload hx hb d_L_law_566 (lv_at hl 4 rfl) ?_
  refine lv_iconst (v := 4) hx hb d_L_law_568 (by decide) ?_
  refine lv_iadd hx hb d_L_law_569 ?_
  rw [show nI (5 * t) + 4 = nI (5 * t + 4) from nI_add _ 4]
  refine va_sld hx hb hX hbl hbA hS (i := nI (5 * t + 4)) (vp_in_nI (by omega) (by omega)) d_L_law_570 ?_
  rw [nI_clamp (by omega)]
  refine lv_aload_n hx hb d_L_law_571 rfl (lv_at hl 3 rfl) ?_
  have hPh := pm_hP hP
  have hDh := pm_hD hD
  have hFh := fr_A hDh hS hA
  refine va_calli (vx_runSW (As := [.ref (ad 0), .int (xs (5 * t + 1)), .int (xs (5 * t + 2)), .int (xs (5 * t + 3)), .int (xs (5 * t + 4)), .ref o]) (rest := []) ⟨hx, hb, hml, hown, hts⟩ (c_L_seal l D cs ad σ n nm ci cj E hI hT.jv mi hst o f H.size (xs (5 * t + 1)) (xs (5 * t + 2)) (xs (5 * t + 3)) (xs (5 * t + 4))) (vx_cwSW 6 hts (gw_SW kw_434 kw_435 kw_0 kw_436) rfl rfl rfl (by decide +kernel) ⟨Nat.le_of_ble_eq_true rfl, Nat.le_of_ble_eq_true rfl⟩) ⟨hp_blind, fun U hU hW => ⟨rfl, by rw [hU], by rw [hU]; exact fr_l hPh, va_K.moved hW.alike hK, (fr_dl hDh).weaken (fun _ _ _ _ => trivial), hXk.warm hW, by rw [hU]; exact ((hZ.kept (fun q h1 h2 => hS.2.1 q h1 h2)).moved hW.alike).narrow hFh, hg.moved hW.alike, by rw [hU]; exact ((hE.kept (fun q h1 h2 => hS.2.1 q h1 h2)).moved hW.alike).narrow hFh, va_Nc.moved hW.alike hnc⟩⟩ rfl rfl hl.1 rfl (lv_room (Nat.le_of_ble_eq_true rfl)) d_L_law_572 ⟨by show _ ≤ 600002; omega, by show _ ≤ 7302232; omega⟩) hS (fun q _ h => hFh q h) hFh (fun kc_2 uc t9 H_1 locs ht hvm hw hB hz1 hk1 hS => ?_)
  obtain ⟨rc_3, hc, hfo⟩ := hw
  obtain ⟨hP1, -, hD1⟩ := hB
  rw [ht] at hP1
  obtain ⟨hPh, hDh⟩ := fr_join hPh hDh hk1 hFh hP1 hD1
  have hP := pm_hP' hPh
  have hD := pm_hD' hDh
  obtain ⟨s1, f1⟩ := uc
  replace hfo : kc_2 = 0 → f1 0 = rc_3.toInt64 := hfo
  replace hP : va_P D cls_ (wL cs ad s1 n nm ci cj E am τ o f1) H_1 := hP
  replace hD : va_D (AL s) (wL cs ad s1 n nm ci cj E am τ o f1) := hD
  refine lv_istore (lv' := [(5, .int kc_2), (0, .ref b), (1, .ref (ad 0)), (2, .ref (am 0)), (3, .ref o), (4, .int (nI (5 * t)))]) hx hb d_L_law_575 hl (by decide) rfl (fun ls hl => ?_)
  refine lv_aload_n hx hb d_L_law_577 rfl (lv_at hl 3 rfl) ?_
  refine lv_aload_n hx hb d_L_law_578 rfl (lv_at hl 1 rfl) ?_
  refine lv_iload hx hb d_L_law_579 (lv_at hl 5 rfl) ?_
  refine lv_iconst (v := 1) hx hb d_L_law_581 (by decide) ?_
  refine lv_iadd hx hb d_L_law_582 ?_
  rw [show nI (5 * t) + 1 = nI (5 * t + 1) from nI_add _ 1]
  refine va_sld hx hb hX hbl hbA hS (i := nI (5 * t + 1)) (vp_in_nI (by omega) (by omega)) d_L_law_583 ?_
  rw [nI_clamp (by omega)]
  refine lv_aload_n hx hb d_L_law_584 rfl (lv_at hl 1 rfl) ?_
  refine lv_iload hx hb d_L_law_585 (lv_at hl 5 rfl) ?_
  refine lv_iconst (v := 2) hx hb d_L_law_587 (by decide) ?_
  refine lv_iadd hx hb d_L_law_588 ?_
  rw [show nI (5 * t) + 2 = nI (5 * t + 2) from nI_add _ 2]
  refine va_sld hx hb hX hbl hbA hS (i := nI (5 * t + 2)) (vp_in_nI (by omega) (by omega)) d_L_law_589 ?_
  rw [nI_clamp (by omega)]
  refine lv_aload_n hx hb d_L_law_590 rfl (lv_at hl 1 rfl) ?_
  refine lv_iload hx hb d_L_law_591 (lv_at hl 5 rfl) ?_
  refine lv_iconst (v := 3) hx hb d_L_law_593 (by decide) ?_
  refine lv_iadd hx hb d_L_law_594 ?_
  rw [show nI (5 * t) + 3 = nI (5 * t + 3) from nI_add _ 3]
  refine va_sld hx hb hX hbl hbA hS (i := nI (5 * t + 3)) (vp_in_nI (by omega) (by omega)) d_L_law_595 ?_
  rw [nI_clamp (by omega)]
  refine lv_aload_n hx hb d_L_law_596 rfl (lv_at hl 1 rfl) ?_
  refine lv_iload hx hb d_L_law_597 (lv_at hl 5 rfl) ?_
  refine lv_iconst (v := 4) hx hb d_L_law_599 (by decide) ?_
  refine lv_iadd hx hb d_L_law_600 ?_
  rw [show nI (5 * t) + 4 = nI (5 * t + 4) from nI_add _ 4]
  refine va_sld hx hb hX hbl hbA hS (i := nI (5 * t + 4)) (vp_in_nI (by omega) (by omega)) d_L_law_601 ?_
  rw [nI_clamp (by omega)]
  have hM := hT.mv
  have hz := hT.hz
  have hPm := pm_mP hP
  have hDm := pm_mD hD
  have hFm := fr_A hDm hS hA
  refine va_calli (va_runV (As := [.int (xs (5 * t + 1)), .int (xs (5 * t + 2)), .int (xs (5 * t + 3)), .int (xs (5 * t + 4))]) (rest := []) ⟨hx, hb, hml, hown, hts⟩ (c_M_seal l D cs am τ n nm hM hz H_1.size (xs (5 * t + 1)) (xs (5 * t + 2)) (xs (5 * t + 3)) (xs (5 * t + 4))) (cwV 4 hts (gw_V kw_708 kw_709 kw_710 kw_6 kw_711) rfl rfl rfl (by decide +kernel) ⟨Nat.le_of_ble_eq_true rfl, Nat.le_of_ble_eq_true rfl⟩) ⟨wr_blind, rl_recv hK (fr_l hPm) (by decide) gM_0 rfl, fun U hU hW => ⟨rfl, by rw [hU], by rw [hU]; exact fr_l hPm, va_K.moved hW.alike hK, (fr_dl hDm).weaken (fun _ _ _ _ => trivial)⟩⟩ rfl rfl hl.1 rfl (lv_room (Nat.le_of_ble_eq_true rfl)) d_L_law_602 ⟨by show _ ≤ 600002; omega, by show _ ≤ 7302232; omega⟩) hS (fun q _ h => hFm q h) hFm (fun rm_5 um_6 t9 H_4 locs ht hvm hw hB hz1 hk1 hS => ?_)
  have hm : mr_seal τ n nm (xs (5 * t + 1)) (xs (5 * t + 2)) (xs (5 * t + 3)) (xs (5 * t + 4)) rm_5 um_6 := hw
  obtain ⟨hP1, -, hD1⟩ := hB
  rw [ht] at hP1
  obtain ⟨hPm, hDm⟩ := fr_join hPm hDm hk1 hFm hP1 hD1
  have hP := pm_mP hPm
  have hD := pm_mD hDm
  replace hP : va_P D cls_ (wL cs ad s1 n nm ci cj E am um_6 o f1) H_4 := hP
  replace hD : va_D (AL s) (wL cs ad s1 n nm ci cj E am um_6 o f1) := hD
  obtain ⟨hk0, hr0, hT⟩ := tt_seal hT hc hm
  refine lv_istore (lv' := [(6, .int rm_5), (5, .int kc_2), (0, .ref b), (1, .ref (ad 0)), (2, .ref (am 0)), (3, .ref o), (4, .int (nI (5 * t)))]) hx hb d_L_law_605 hl (by decide) rfl (fun ls hl => ?_)
  refine lv_aload_n hx hb d_L_law_607 rfl (lv_at hl 4 rfl) ?_
  have hPm := pm_mP hP
  refine vp_callSi (W.runV (As := []) (rest := []) ⟨hx, hb, hml, hown, hts⟩ (c_M_thrown l D cs am um_6 n nm hT.mv) (cwV 0 hts (gw_V kw_657 kw_658 kw_659 kw_6 kw_660) rfl rfl rfl (by decide +kernel) ⟨Nat.le_of_ble_eq_true rfl, Nat.le_of_ble_eq_true rfl⟩) (rd_V (fr_l hPm) hK (rl_recv hK (fr_l hPm) (by decide) gM_0 rfl)) rfl rfl hl.1 rfl (lv_room (Nat.le_of_ble_eq_true rfl)) d_L_law_608 ⟨by show _ ≤ 600002; omega, by show _ ≤ 7302232; omega⟩) (fun r_7 h_8 => ?_)
  subst h_8
  rw [hk0]
  refine lv_iload hx hb d_L_law_611 (lv_at hl 1 rfl) ?_
  refine lv_icmp_eq (tgt := 618) hx hb d_L_law_613 (by decide) (fun _ => ?_) (fun c9 => absurd (rfl) c9)
  refine lv_iload hx hb d_L_law_618 (lv_at hl 1 rfl) ?_
  refine lv_if_ne (tgt := 635) hx hb d_L_law_620 (by decide) (fun c_9 => ?_) (fun c_9 => ?_)
  · refine lv_goto (tgt := 1222) hx hb d_L_law_635 (by decide) ?_
    exact lp_next C hn ht5 (lv_sub hl [2, 3, 4, 5, 6] rfl) hI hT hP hD hS (by omega) (by omega)
  · refine lv_aload_n hx hb d_L_law_623 rfl (lv_at hl 5 rfl) ?_
    refine lv_iconst (v := 0) hx hb d_L_law_624 (by decide) ?_
    have hPo := hP
    rw [show (wL cs ad s1 n nm ci cj E am um_6 o f1) = (wC cs ad s1 n nm ci cj E ++ wM cs am um_6) ++ [(o, outc cs f1)] from (List.append_assoc _ _ _).symm] at hPo
    refine lo_lald hx hb hK hPo d_L_law_625 ?_
    refine lv_iload hx hb d_L_law_626 (lv_at hl 0 rfl) ?_
    refine lv_i2l hx hb d_L_law_628 rfl ?_
    rw [hfo c_9, hr0 c_9]
    refine W.lcmp hx hb d_L_law_629 ?_
    refine lv_if_eq (tgt := 635) hx hb d_L_law_630 (by decide) (fun _ => ?_) (fun c9 => absurd ((lg_cmp_eq _ _).mpr rfl) c9)
    refine lv_goto (tgt := 1222) hx hb d_L_law_635 (by decide) ?_
    exact lp_next C hn ht5 (lv_sub hl [2, 3, 4, 5, 6] rfl) hI hT hP hD hS (by omega) (by omega)
set_option maxHeartbeats 4000000 in
set_option maxRecDepth 100000 in
theorem lc_7 {p : Program} {l : Launch} {e : Env} {s : State} {m : MethodId} {below : List Frame} {meth : Method} {c : Code} {b L : Nat} {xs : Nat → Int32} {D : va_G} {cs : Nat → ClassId} {mi E : Nat} (C : lw_C p l s m meth c b L xs D cs mi E 5) {t : Nat} (hn : lpH 23 p l e s m below meth c b L D cs E (t + 1)) (ht5 : 5 * t + 5 ≤ L) {ls : Array Slot} {H : Heap} {locs : List Loc} {ad am : Nat → Nat} {σ τ : Nat → Nat → Int32} {n nm ci cj o : Nat} {f : Nat → Int64} (hl : lv_has ls 7 [(0, .ref b), (1, .ref (ad 0)), (2, .ref (am 0)), (3, .ref o), (4, .int (nI (5 * t)))]) (hI : Iv n nm ci cj) (hT : TT σ τ n nm) (ht0 : t = 0 → nm = 0) (hP : va_P D cls_ (wL cs ad σ n nm ci cj E am τ o f) H) (hD : va_D (AL s) (wL cs ad σ n nm ci cj E am τ o f)) (hS : va_S (AL s) s.heap H locs) : W p l e room_1 s m #[Value.ref b] below meth c H locs (43 + 4 * t) (978 + 120 * t) (lw_Z below #[Value.ref b] s) (F0 m 638 ls []) := by
  have C9 := C
  obtain ⟨hx, hb, hr, hml, hown, hG, hX, hbl, hlocks, hK, hXk, hZ, hg, hE, hnc, hst, hLN⟩ := C9
  have hA : ∀ q : Nat, s.heap.size ≤ q → AL s q := fun _ h => h
  have hbA : ¬ AL s b := Nat.not_le.mpr hbl
  have hts : ∀ w ∈ (Cond.initialized "InspectSteps" :: GW), w.before #[Value.ref b] s = true := List.forall_mem_cons.mpr ⟨hG _ kw_1, hG⟩
  refine lv_aload_n hx hb d_L_law_638 rfl (lv_at hl 1 rfl) ?_
  refine lv_aload_n hx hb d_L_law_639 rfl (lv_at hl 0 rfl) ?_
  refine lv_iload hx hb d_L_law_640 (lv_at hl 4 rfl) ?_
  refine lv_iconst (v := 1) hx hb d_L_law_642 (by decide) ?_
  refine lv_iadd hx hb d_L_law_643 ?_
  rw [show nI (5 * t) + 1 = nI (5 * t + 1) from nI_add _ 1]
  refine va_sld hx hb hX hbl hbA hS (i := nI (5 * t + 1)) (vp_in_nI (by omega) (by omega)) d_L_law_644 ?_
  rw [nI_clamp (by omega)]
  refine lv_aload_n hx hb d_L_law_645 rfl (lv_at hl 0 rfl) ?_
  refine lv_iload hx hb d_L_law_646 (lv_at hl 4 rfl) ?_
  refine lv_iconst (v := 2) hx hb d_L_law_648 (by decide) ?_
  refine lv_iadd hx hb d_L_law_649 ?_
  rw [show nI (5 * t) + 2 = nI (5 * t + 2) from nI_add _ 2]
  refine va_sld hx hb hX hbl hbA hS (i := nI (5 * t + 2)) (vp_in_nI (by omega) (by omega)) d_L_law_650 ?_
  rw [nI_clamp (by omega)]
  refine lv_aload_n hx hb d_L_law_651 rfl (lv_at hl 3 rfl) ?_
  have hPh := pm_hP hP
  have hDh := pm_hD hD
  have hFh := fr_A hDh hS hA
  refine va_calli (vx_runSW (As := [.ref (ad 0), .int (xs (5 * t + 1)), .int (xs (5 * t + 2)), .ref o]) (rest := []) ⟨hx, hb, hml, hown, hts⟩ (c_L_sample l D cs ad σ n nm ci cj E hI hT.jv mi hst o f H.size (xs (5 * t + 1)) (xs (5 * t + 2))) (vx_cwSW 4 hts (gw_SW kw_450 kw_451 kw_0 kw_452) rfl rfl rfl (by decide +kernel) ⟨Nat.le_of_ble_eq_true rfl, Nat.le_of_ble_eq_true rfl⟩) ⟨hp_blind, fun U hU hW => ⟨rfl, by rw [hU], by rw [hU]; exact fr_l hPh, va_K.moved hW.alike hK, (fr_dl hDh).weaken (fun _ _ _ _ => trivial), hXk.warm hW, by rw [hU]; exact ((hZ.kept (fun q h1 h2 => hS.2.1 q h1 h2)).moved hW.alike).narrow hFh, hg.moved hW.alike, by rw [hU]; exact ((hE.kept (fun q h1 h2 => hS.2.1 q h1 h2)).moved hW.alike).narrow hFh, va_Nc.moved hW.alike hnc⟩⟩ rfl rfl hl.1 rfl (lv_room (Nat.le_of_ble_eq_true rfl)) d_L_law_652 ⟨by show _ ≤ 600002; omega, by show _ ≤ 7302232; omega⟩) hS (fun q _ h => hFh q h) hFh (fun kc_2 uc t9 H_1 locs ht hvm hw hB hz1 hk1 hS => ?_)
  obtain ⟨rc_3, hc, hfo⟩ := hw
  obtain ⟨hP1, -, hD1⟩ := hB
  rw [ht] at hP1
  obtain ⟨hPh, hDh⟩ := fr_join hPh hDh hk1 hFh hP1 hD1
  have hP := pm_hP' hPh
  have hD := pm_hD' hDh
  obtain ⟨⟨ad1, nm1, cj1, s1⟩, f1⟩ := uc
  obtain ⟨e0, hI1⟩ := cr_sam_ad hc hI
  replace e0 : ad1 0 = ad 0 := e0
  replace hI1 : Iv n nm1 ci cj1 := hI1
  rw [← e0] at hl
  replace hfo : kc_2 = 0 → f1 0 = rc_3.toInt64 := hfo
  replace hP : va_P D cls_ (wL cs ad1 s1 n nm1 ci cj1 E am τ o f1) H_1 := hP
  replace hD : va_D (AL s) (wL cs ad1 s1 n nm1 ci cj1 E am τ o f1) := hD
  refine lv_istore (lv' := [(5, .int kc_2), (0, .ref b), (1, .ref (ad1 0)), (2, .ref (am 0)), (3, .ref o), (4, .int (nI (5 * t)))]) hx hb d_L_law_655 hl (by decide) rfl (fun ls hl => ?_)
  refine lv_aload_n hx hb d_L_law_657 rfl (lv_at hl 3 rfl) ?_
  refine lv_aload_n hx hb d_L_law_658 rfl (lv_at hl 1 rfl) ?_
  refine lv_iload hx hb d_L_law_659 (lv_at hl 5 rfl) ?_
  refine lv_iconst (v := 1) hx hb d_L_law_661 (by decide) ?_
  refine lv_iadd hx hb d_L_law_662 ?_
  rw [show nI (5 * t) + 1 = nI (5 * t + 1) from nI_add _ 1]
  refine va_sld hx hb hX hbl hbA hS (i := nI (5 * t + 1)) (vp_in_nI (by omega) (by omega)) d_L_law_663 ?_
  rw [nI_clamp (by omega)]
  refine lv_aload_n hx hb d_L_law_664 rfl (lv_at hl 1 rfl) ?_
  refine lv_iload hx hb d_L_law_665 (lv_at hl 5 rfl) ?_
  refine lv_iconst (v := 2) hx hb d_L_law_667 (by decide) ?_
  refine lv_iadd hx hb d_L_law_668 ?_
  rw [show nI (5 * t) + 2 = nI (5 * t + 2) from nI_add _ 2]
  refine va_sld hx hb hX hbl hbA hS (i := nI (5 * t + 2)) (vp_in_nI (by omega) (by omega)) d_L_law_669 ?_
  rw [nI_clamp (by omega)]
  have hM := hT.mv
  have hz := hT.hz
  have hPm := pm_mP hP
  have hDm := pm_mD hD
  have hFm := fr_A hDm hS hA
  refine va_calli (va_runV (As := [.int (xs (5 * t + 1)), .int (xs (5 * t + 2))]) (rest := []) ⟨hx, hb, hml, hown, hts⟩ (c_M_sample l D cs am τ n nm hM H_1.size (xs (5 * t + 1)) (xs (5 * t + 2))) (cwV 2 hts (gw_V kw_717 kw_718 kw_719 kw_6 kw_720) rfl rfl rfl (by decide +kernel) ⟨Nat.le_of_ble_eq_true rfl, Nat.le_of_ble_eq_true rfl⟩) ⟨wr_blind, rl_recv hK (fr_l hPm) (by decide) gM_0 rfl, fun U hU hW => ⟨rfl, by rw [hU], by rw [hU]; exact fr_l hPm, va_K.moved hW.alike hK, (fr_dl hDm).weaken (fun _ _ _ _ => trivial)⟩⟩ rfl rfl hl.1 rfl (lv_room (Nat.le_of_ble_eq_true rfl)) d_L_law_670 ⟨by show _ ≤ 600002; omega, by show _ ≤ 7302232; omega⟩) hS (fun q _ h => hFm q h) hFm (fun rm_5 um_6 t9 H_4 locs ht hvm hw hB hz1 hk1 hS => ?_)
  have hm : mr_sample τ n nm (xs (5 * t + 1)) (xs (5 * t + 2)) rm_5 um_6 := hw
  obtain ⟨hP1, -, hD1⟩ := hB
  rw [ht] at hP1
  obtain ⟨hPm, hDm⟩ := fr_join hPm hDm hk1 hFm hP1 hD1
  have hP := pm_mP hPm
  have hD := pm_mD hDm
  replace hP : va_P D cls_ (wL cs ad1 s1 n nm1 ci cj1 E am um_6 o f1) H_4 := hP
  replace hD : va_D (AL s) (wL cs ad1 s1 n nm1 ci cj1 E am um_6 o f1) := hD
  obtain ⟨hk0, hr0, hT⟩ := tt_sample hT hc hm
  replace hT : TT s1 um_6 n nm1 := hT
  have hI := hI1
  refine lv_istore (lv' := [(6, .int rm_5), (5, .int kc_2), (0, .ref b), (1, .ref (ad1 0)), (2, .ref (am 0)), (3, .ref o), (4, .int (nI (5 * t)))]) hx hb d_L_law_673 hl (by decide) rfl (fun ls hl => ?_)
  refine lv_aload_n hx hb d_L_law_675 rfl (lv_at hl 4 rfl) ?_
  have hPm := pm_mP hP
  refine vp_callSi (W.runV (As := []) (rest := []) ⟨hx, hb, hml, hown, hts⟩ (c_M_thrown l D cs am um_6 n nm1 hT.mv) (cwV 0 hts (gw_V kw_657 kw_658 kw_659 kw_6 kw_660) rfl rfl rfl (by decide +kernel) ⟨Nat.le_of_ble_eq_true rfl, Nat.le_of_ble_eq_true rfl⟩) (rd_V (fr_l hPm) hK (rl_recv hK (fr_l hPm) (by decide) gM_0 rfl)) rfl rfl hl.1 rfl (lv_room (Nat.le_of_ble_eq_true rfl)) d_L_law_676 ⟨by show _ ≤ 600002; omega, by show _ ≤ 7302232; omega⟩) (fun r_7 h_8 => ?_)
  subst h_8
  rw [hk0]
  refine lv_iload hx hb d_L_law_679 (lv_at hl 1 rfl) ?_
  refine lv_icmp_eq (tgt := 686) hx hb d_L_law_681 (by decide) (fun _ => ?_) (fun c9 => absurd (rfl) c9)
  refine lv_iload hx hb d_L_law_686 (lv_at hl 1 rfl) ?_
  refine lv_if_ne (tgt := 703) hx hb d_L_law_688 (by decide) (fun c_9 => ?_) (fun c_9 => ?_)
  · refine lv_goto (tgt := 1222) hx hb d_L_law_703 (by decide) ?_
    exact lp_next C hn ht5 (lv_sub hl [2, 3, 4, 5, 6] rfl) hI hT hP hD hS (by omega) (by omega)
  · refine lv_aload_n hx hb d_L_law_691 rfl (lv_at hl 5 rfl) ?_
    refine lv_iconst (v := 0) hx hb d_L_law_692 (by decide) ?_
    have hPo := hP
    rw [show (wL cs ad1 s1 n nm1 ci cj1 E am um_6 o f1) = (wC cs ad1 s1 n nm1 ci cj1 E ++ wM cs am um_6) ++ [(o, outc cs f1)] from (List.append_assoc _ _ _).symm] at hPo
    refine lo_lald hx hb hK hPo d_L_law_693 ?_
    refine lv_iload hx hb d_L_law_694 (lv_at hl 0 rfl) ?_
    refine lv_i2l hx hb d_L_law_696 rfl ?_
    rw [hfo c_9, hr0 c_9]
    refine W.lcmp hx hb d_L_law_697 ?_
    refine lv_if_eq (tgt := 703) hx hb d_L_law_698 (by decide) (fun _ => ?_) (fun c9 => absurd ((lg_cmp_eq _ _).mpr rfl) c9)
    refine lv_goto (tgt := 1222) hx hb d_L_law_703 (by decide) ?_
    exact lp_next C hn ht5 (lv_sub hl [2, 3, 4, 5, 6] rfl) hI hT hP hD hS (by omega) (by omega)
set_option maxHeartbeats 4000000 in
set_option maxRecDepth 100000 in
theorem lc_8 {p : Program} {l : Launch} {e : Env} {s : State} {m : MethodId} {below : List Frame} {meth : Method} {c : Code} {b L : Nat} {xs : Nat → Int32} {D : va_G} {cs : Nat → ClassId} {mi E : Nat} (C : lw_C p l s m meth c b L xs D cs mi E 5) {t : Nat} (hn : lpH 23 p l e s m below meth c b L D cs E (t + 1)) (ht5 : 5 * t + 5 ≤ L) {ls : Array Slot} {H : Heap} {locs : List Loc} {ad am : Nat → Nat} {σ τ : Nat → Nat → Int32} {n nm ci cj o : Nat} {f : Nat → Int64} (hl : lv_has ls 7 [(0, .ref b), (1, .ref (ad 0)), (2, .ref (am 0)), (3, .ref o), (4, .int (nI (5 * t)))]) (hI : Iv n nm ci cj) (hT : TT σ τ n nm) (ht0 : t = 0 → nm = 0) (hP : va_P D cls_ (wL cs ad σ n nm ci cj E am τ o f) H) (hD : va_D (AL s) (wL cs ad σ n nm ci cj E am τ o f)) (hS : va_S (AL s) s.heap H locs) : W p l e room_1 s m #[Value.ref b] below meth c H locs (43 + 4 * t) (978 + 120 * t) (lw_Z below #[Value.ref b] s) (F0 m 706 ls []) := by
  have C9 := C
  obtain ⟨hx, hb, hr, hml, hown, hG, hX, hbl, hlocks, hK, hXk, hZ, hg, hE, hnc, hst, hLN⟩ := C9
  have hA : ∀ q : Nat, s.heap.size ≤ q → AL s q := fun _ h => h
  have hbA : ¬ AL s b := Nat.not_le.mpr hbl
  have hts : ∀ w ∈ (Cond.initialized "InspectSteps" :: GW), w.before #[Value.ref b] s = true := List.forall_mem_cons.mpr ⟨hG _ kw_1, hG⟩
  refine lv_aload_n hx hb d_L_law_706 rfl (lv_at hl 1 rfl) ?_
  refine lv_aload_n hx hb d_L_law_707 rfl (lv_at hl 0 rfl) ?_
  refine lv_iload hx hb d_L_law_708 (lv_at hl 4 rfl) ?_
  refine lv_iconst (v := 1) hx hb d_L_law_710 (by decide) ?_
  refine lv_iadd hx hb d_L_law_711 ?_
  rw [show nI (5 * t) + 1 = nI (5 * t + 1) from nI_add _ 1]
  refine va_sld hx hb hX hbl hbA hS (i := nI (5 * t + 1)) (vp_in_nI (by omega) (by omega)) d_L_law_712 ?_
  rw [nI_clamp (by omega)]
  refine lv_aload_n hx hb d_L_law_713 rfl (lv_at hl 0 rfl) ?_
  refine lv_iload hx hb d_L_law_714 (lv_at hl 4 rfl) ?_
  refine lv_iconst (v := 2) hx hb d_L_law_716 (by decide) ?_
  refine lv_iadd hx hb d_L_law_717 ?_
  rw [show nI (5 * t) + 2 = nI (5 * t + 2) from nI_add _ 2]
  refine va_sld hx hb hX hbl hbA hS (i := nI (5 * t + 2)) (vp_in_nI (by omega) (by omega)) d_L_law_718 ?_
  rw [nI_clamp (by omega)]
  refine lv_aload_n hx hb d_L_law_719 rfl (lv_at hl 0 rfl) ?_
  refine lv_iload hx hb d_L_law_720 (lv_at hl 4 rfl) ?_
  refine lv_iconst (v := 3) hx hb d_L_law_722 (by decide) ?_
  refine lv_iadd hx hb d_L_law_723 ?_
  rw [show nI (5 * t) + 3 = nI (5 * t + 3) from nI_add _ 3]
  refine va_sld hx hb hX hbl hbA hS (i := nI (5 * t + 3)) (vp_in_nI (by omega) (by omega)) d_L_law_724 ?_
  rw [nI_clamp (by omega)]
  refine lv_aload_n hx hb d_L_law_725 rfl (lv_at hl 0 rfl) ?_
  refine lv_iload hx hb d_L_law_726 (lv_at hl 4 rfl) ?_
  refine lv_iconst (v := 4) hx hb d_L_law_728 (by decide) ?_
  refine lv_iadd hx hb d_L_law_729 ?_
  rw [show nI (5 * t) + 4 = nI (5 * t + 4) from nI_add _ 4]
  refine va_sld hx hb hX hbl hbA hS (i := nI (5 * t + 4)) (vp_in_nI (by omega) (by omega)) d_L_law_730 ?_
  rw [nI_clamp (by omega)]
  refine lv_aload_n hx hb d_L_law_731 rfl (lv_at hl 3 rfl) ?_
  have hPh := pm_hP hP
  have hDh := pm_hD hD
  have hFh := fr_A hDh hS hA
  refine va_calli (vx_runSW (As := [.ref (ad 0), .int (xs (5 * t + 1)), .int (xs (5 * t + 2)), .int (xs (5 * t + 3)), .int (xs (5 * t + 4)), .ref o]) (rest := []) ⟨hx, hb, hml, hown, hts⟩ (c_L_result l D cs ad σ n nm ci cj E hI hT.jv mi hst o f H.size (xs (5 * t + 1)) (xs (5 * t + 2)) (xs (5 * t + 3)) (xs (5 * t + 4))) (vx_cwSW 6 hts (gw_SW kw_487 kw_488 kw_0 kw_489) rfl rfl rfl (by decide +kernel) ⟨Nat.le_of_ble_eq_true rfl, Nat.le_of_ble_eq_true rfl⟩) ⟨hp_blind, fun U hU hW => ⟨rfl, by rw [hU], by rw [hU]; exact fr_l hPh, va_K.moved hW.alike hK, (fr_dl hDh).weaken (fun _ _ _ _ => trivial), hXk.warm hW, by rw [hU]; exact ((hZ.kept (fun q h1 h2 => hS.2.1 q h1 h2)).moved hW.alike).narrow hFh, hg.moved hW.alike, by rw [hU]; exact ((hE.kept (fun q h1 h2 => hS.2.1 q h1 h2)).moved hW.alike).narrow hFh, va_Nc.moved hW.alike hnc⟩⟩ rfl rfl hl.1 rfl (lv_room (Nat.le_of_ble_eq_true rfl)) d_L_law_732 ⟨by show _ ≤ 600002; omega, by show _ ≤ 7302232; omega⟩) hS (fun q _ h => hFh q h) hFh (fun kc_2 uc t9 H_1 locs ht hvm hw hB hz1 hk1 hS => ?_)
  obtain ⟨rc_3, hc, hfo⟩ := hw
  obtain ⟨hP1, -, hD1⟩ := hB
  rw [ht] at hP1
  obtain ⟨hPh, hDh⟩ := fr_join hPh hDh hk1 hFh hP1 hD1
  have hP := pm_hP' hPh
  have hD := pm_hD' hDh
  obtain ⟨s1, f1⟩ := uc
  replace hfo : kc_2 = 0 → f1 0 = rc_3.toInt64 := hfo
  replace hP : va_P D cls_ (wL cs ad s1 n nm ci cj E am τ o f1) H_1 := hP
  replace hD : va_D (AL s) (wL cs ad s1 n nm ci cj E am τ o f1) := hD
  refine lv_istore (lv' := [(5, .int kc_2), (0, .ref b), (1, .ref (ad 0)), (2, .ref (am 0)), (3, .ref o), (4, .int (nI (5 * t)))]) hx hb d_L_law_735 hl (by decide) rfl (fun ls hl => ?_)
  refine lv_aload_n hx hb d_L_law_737 rfl (lv_at hl 3 rfl) ?_
  refine lv_aload_n hx hb d_L_law_738 rfl (lv_at hl 1 rfl) ?_
  refine lv_iload hx hb d_L_law_739 (lv_at hl 5 rfl) ?_
  refine lv_iconst (v := 1) hx hb d_L_law_741 (by decide) ?_
  refine lv_iadd hx hb d_L_law_742 ?_
  rw [show nI (5 * t) + 1 = nI (5 * t + 1) from nI_add _ 1]
  refine va_sld hx hb hX hbl hbA hS (i := nI (5 * t + 1)) (vp_in_nI (by omega) (by omega)) d_L_law_743 ?_
  rw [nI_clamp (by omega)]
  refine lv_aload_n hx hb d_L_law_744 rfl (lv_at hl 1 rfl) ?_
  refine lv_iload hx hb d_L_law_745 (lv_at hl 5 rfl) ?_
  refine lv_iconst (v := 2) hx hb d_L_law_747 (by decide) ?_
  refine lv_iadd hx hb d_L_law_748 ?_
  rw [show nI (5 * t) + 2 = nI (5 * t + 2) from nI_add _ 2]
  refine va_sld hx hb hX hbl hbA hS (i := nI (5 * t + 2)) (vp_in_nI (by omega) (by omega)) d_L_law_749 ?_
  rw [nI_clamp (by omega)]
  refine lv_aload_n hx hb d_L_law_750 rfl (lv_at hl 1 rfl) ?_
  refine lv_iload hx hb d_L_law_751 (lv_at hl 5 rfl) ?_
  refine lv_iconst (v := 3) hx hb d_L_law_753 (by decide) ?_
  refine lv_iadd hx hb d_L_law_754 ?_
  rw [show nI (5 * t) + 3 = nI (5 * t + 3) from nI_add _ 3]
  refine va_sld hx hb hX hbl hbA hS (i := nI (5 * t + 3)) (vp_in_nI (by omega) (by omega)) d_L_law_755 ?_
  rw [nI_clamp (by omega)]
  refine lv_aload_n hx hb d_L_law_756 rfl (lv_at hl 1 rfl) ?_
  refine lv_iload hx hb d_L_law_757 (lv_at hl 5 rfl) ?_
  refine lv_iconst (v := 4) hx hb d_L_law_759 (by decide) ?_
  refine lv_iadd hx hb d_L_law_760 ?_
  rw [show nI (5 * t) + 4 = nI (5 * t + 4) from nI_add _ 4]
  refine va_sld hx hb hX hbl hbA hS (i := nI (5 * t + 4)) (vp_in_nI (by omega) (by omega)) d_L_law_761 ?_
  rw [nI_clamp (by omega)]
  have hM := hT.mv
  have hz := hT.hz
  have hPm := pm_mP hP
  have hDm := pm_mD hD
  have hFm := fr_A hDm hS hA
  refine va_calli (va_runV (As := [.int (xs (5 * t + 1)), .int (xs (5 * t + 2)), .int (xs (5 * t + 3)), .int (xs (5 * t + 4))]) (rest := []) ⟨hx, hb, hml, hown, hts⟩ (c_M_result l D cs am τ n nm hM H_1.size (xs (5 * t + 1)) (xs (5 * t + 2)) (xs (5 * t + 3)) (xs (5 * t + 4))) (cwV 4 hts (gw_V kw_725 kw_726 kw_727 kw_6 kw_728) rfl rfl rfl (by decide +kernel) ⟨Nat.le_of_ble_eq_true rfl, Nat.le_of_ble_eq_true rfl⟩) ⟨wr_blind, rl_recv hK (fr_l hPm) (by decide) gM_0 rfl, fun U hU hW => ⟨rfl, by rw [hU], by rw [hU]; exact fr_l hPm, va_K.moved hW.alike hK, (fr_dl hDm).weaken (fun _ _ _ _ => trivial)⟩⟩ rfl rfl hl.1 rfl (lv_room (Nat.le_of_ble_eq_true rfl)) d_L_law_762 ⟨by show _ ≤ 600002; omega, by show _ ≤ 7302232; omega⟩) hS (fun q _ h => hFm q h) hFm (fun rm_5 um_6 t9 H_4 locs ht hvm hw hB hz1 hk1 hS => ?_)
  have hm : mr_result τ n nm (xs (5 * t + 1)) (xs (5 * t + 2)) (xs (5 * t + 3)) (xs (5 * t + 4)) rm_5 um_6 := hw
  obtain ⟨hP1, -, hD1⟩ := hB
  rw [ht] at hP1
  obtain ⟨hPm, hDm⟩ := fr_join hPm hDm hk1 hFm hP1 hD1
  have hP := pm_mP hPm
  have hD := pm_mD hDm
  replace hP : va_P D cls_ (wL cs ad s1 n nm ci cj E am um_6 o f1) H_4 := hP
  replace hD : va_D (AL s) (wL cs ad s1 n nm ci cj E am um_6 o f1) := hD
  obtain ⟨hk0, hpos, hT⟩ := tt_result hT hc hm
  refine lv_istore (lv' := [(6, .int rm_5), (5, .int kc_2), (0, .ref b), (1, .ref (ad 0)), (2, .ref (am 0)), (3, .ref o), (4, .int (nI (5 * t)))]) hx hb d_L_law_765 hl (by decide) rfl (fun ls hl => ?_)
  refine lv_aload_n hx hb d_L_law_767 rfl (lv_at hl 4 rfl) ?_
  have hPm := pm_mP hP
  refine vp_callSi (W.runV (As := []) (rest := []) ⟨hx, hb, hml, hown, hts⟩ (c_M_thrown l D cs am um_6 n nm hT.mv) (cwV 0 hts (gw_V kw_657 kw_658 kw_659 kw_6 kw_660) rfl rfl rfl (by decide +kernel) ⟨Nat.le_of_ble_eq_true rfl, Nat.le_of_ble_eq_true rfl⟩) (rd_V (fr_l hPm) hK (rl_recv hK (fr_l hPm) (by decide) gM_0 rfl)) rfl rfl hl.1 rfl (lv_room (Nat.le_of_ble_eq_true rfl)) d_L_law_768 ⟨by show _ ≤ 600002; omega, by show _ ≤ 7302232; omega⟩) (fun r_7 h_8 => ?_)
  subst h_8
  rw [hk0]
  refine lv_iload hx hb d_L_law_771 (lv_at hl 1 rfl) ?_
  refine lv_icmp_eq (tgt := 778) hx hb d_L_law_773 (by decide) (fun _ => ?_) (fun c9 => absurd (rfl) c9)
  refine lv_iload hx hb d_L_law_778 (lv_at hl 1 rfl) ?_
  refine lv_if_ne (tgt := 795) hx hb d_L_law_780 (by decide) (fun c_9 => ?_) (fun c_9 => ?_)
  · refine lv_goto (tgt := 1222) hx hb d_L_law_795 (by decide) ?_
    exact lp_next C hn ht5 (lv_sub hl [2, 3, 4, 5, 6] rfl) hI hT hP hD hS (by omega) (by omega)
  · exact absurd (hpos c_9) (by have := ht0 (by omega); omega)
set_option maxHeartbeats 4000000 in
set_option maxRecDepth 100000 in
theorem lc_9 {p : Program} {l : Launch} {e : Env} {s : State} {m : MethodId} {below : List Frame} {meth : Method} {c : Code} {b L : Nat} {xs : Nat → Int32} {D : va_G} {cs : Nat → ClassId} {mi E : Nat} (C : lw_C p l s m meth c b L xs D cs mi E 5) {t : Nat} (hn : lpH 23 p l e s m below meth c b L D cs E (t + 1)) (ht5 : 5 * t + 5 ≤ L) {ls : Array Slot} {H : Heap} {locs : List Loc} {ad am : Nat → Nat} {σ τ : Nat → Nat → Int32} {n nm ci cj o : Nat} {f : Nat → Int64} (hl : lv_has ls 7 [(0, .ref b), (1, .ref (ad 0)), (2, .ref (am 0)), (3, .ref o), (4, .int (nI (5 * t)))]) (hI : Iv n nm ci cj) (hT : TT σ τ n nm) (ht0 : t = 0 → nm = 0) (hP : va_P D cls_ (wL cs ad σ n nm ci cj E am τ o f) H) (hD : va_D (AL s) (wL cs ad σ n nm ci cj E am τ o f)) (hS : va_S (AL s) s.heap H locs) : W p l e room_1 s m #[Value.ref b] below meth c H locs (43 + 4 * t) (978 + 120 * t) (lw_Z below #[Value.ref b] s) (F0 m 798 ls []) := by
  have C9 := C
  obtain ⟨hx, hb, hr, hml, hown, hG, hX, hbl, hlocks, hK, hXk, hZ, hg, hE, hnc, hst, hLN⟩ := C9
  have hA : ∀ q : Nat, s.heap.size ≤ q → AL s q := fun _ h => h
  have hbA : ¬ AL s b := Nat.not_le.mpr hbl
  have hts : ∀ w ∈ (Cond.initialized "InspectSteps" :: GW), w.before #[Value.ref b] s = true := List.forall_mem_cons.mpr ⟨hG _ kw_1, hG⟩
  refine lv_aload_n hx hb d_L_law_798 rfl (lv_at hl 1 rfl) ?_
  refine lv_aload_n hx hb d_L_law_799 rfl (lv_at hl 0 rfl) ?_
  refine lv_iload hx hb d_L_law_800 (lv_at hl 4 rfl) ?_
  refine lv_iconst (v := 1) hx hb d_L_law_802 (by decide) ?_
  refine lv_iadd hx hb d_L_law_803 ?_
  rw [show nI (5 * t) + 1 = nI (5 * t + 1) from nI_add _ 1]
  refine va_sld hx hb hX hbl hbA hS (i := nI (5 * t + 1)) (vp_in_nI (by omega) (by omega)) d_L_law_804 ?_
  rw [nI_clamp (by omega)]
  refine lv_aload_n hx hb d_L_law_805 rfl (lv_at hl 0 rfl) ?_
  refine lv_iload hx hb d_L_law_806 (lv_at hl 4 rfl) ?_
  refine lv_iconst (v := 2) hx hb d_L_law_808 (by decide) ?_
  refine lv_iadd hx hb d_L_law_809 ?_
  rw [show nI (5 * t) + 2 = nI (5 * t + 2) from nI_add _ 2]
  refine va_sld hx hb hX hbl hbA hS (i := nI (5 * t + 2)) (vp_in_nI (by omega) (by omega)) d_L_law_810 ?_
  rw [nI_clamp (by omega)]
  refine lv_aload_n hx hb d_L_law_811 rfl (lv_at hl 0 rfl) ?_
  refine lv_iload hx hb d_L_law_812 (lv_at hl 4 rfl) ?_
  refine lv_iconst (v := 3) hx hb d_L_law_814 (by decide) ?_
  refine lv_iadd hx hb d_L_law_815 ?_
  rw [show nI (5 * t) + 3 = nI (5 * t + 3) from nI_add _ 3]
  refine va_sld hx hb hX hbl hbA hS (i := nI (5 * t + 3)) (vp_in_nI (by omega) (by omega)) d_L_law_816 ?_
  rw [nI_clamp (by omega)]
  have hPx := fr_l hP
  have hDx := fr_dl hD
  have hFX := fr_A hD hS hA
  refine va_calli (va_runV (As := [.int (xs (5 * t + 1)), .int (xs (5 * t + 2)), .int (xs (5 * t + 3))]) (rest := []) ⟨hx, hb, hml, hown, hts⟩ (c_C_declared l D cs ad σ n nm ci cj E hI H.size (xs (5 * t + 1)) (xs (5 * t + 2)) (xs (5 * t + 3))) (cwV 3 hts (gw_V kw_139 kw_140 kw_141 kw_1 kw_142) rfl rfl rfl (by decide +kernel) ⟨Nat.le_of_ble_eq_true rfl, Nat.le_of_ble_eq_true rfl⟩) ⟨wr_blind, rl_recv hK hPx (RC_f (by decide)) gC_0 rfl, fun U hU hW => ⟨rfl, by rw [hU], by rw [hU]; exact hPx, va_K.moved hW.alike hK, hDx.weaken (fun _ _ _ _ => trivial)⟩⟩ rfl rfl hl.1 rfl (lv_room (Nat.le_of_ble_eq_true rfl)) d_L_law_817 ⟨by show _ ≤ 600002; omega, by show _ ≤ 7302232; omega⟩) hS (fun q _ h => hFX q h) hFX (fun rc_2 uc_3 t9 H_1 locs ht hvm hw hB hz1 hk1 hS => ?_)
  have hc : cr_declared σ n nm (xs (5 * t + 1)) (xs (5 * t + 2)) (xs (5 * t + 3)) rc_2 uc_3 := hw
  obtain ⟨hP1, -, hD1⟩ := hB
  rw [ht] at hP1
  obtain ⟨hP, hD⟩ := fr_join hP hD hk1 hFX hP1 hD1
  replace hP : va_P D cls_ (wL cs ad uc_3 n nm ci cj E am τ o f) H_1 := hP
  replace hD : va_D (AL s) (wL cs ad uc_3 n nm ci cj E am τ o f) := hD
  refine lv_aload_n hx hb d_L_law_820 rfl (lv_at hl 2 rfl) ?_
  refine lv_aload_n hx hb d_L_law_821 rfl (lv_at hl 0 rfl) ?_
  refine lv_iload hx hb d_L_law_822 (lv_at hl 4 rfl) ?_
  refine lv_iconst (v := 1) hx hb d_L_law_824 (by decide) ?_
  refine lv_iadd hx hb d_L_law_825 ?_
  rw [show nI (5 * t) + 1 = nI (5 * t + 1) from nI_add _ 1]
  refine va_sld hx hb hX hbl hbA hS (i := nI (5 * t + 1)) (vp_in_nI (by omega) (by omega)) d_L_law_826 ?_
  rw [nI_clamp (by omega)]
  refine lv_aload_n hx hb d_L_law_827 rfl (lv_at hl 0 rfl) ?_
  refine lv_iload hx hb d_L_law_828 (lv_at hl 4 rfl) ?_
  refine lv_iconst (v := 2) hx hb d_L_law_830 (by decide) ?_
  refine lv_iadd hx hb d_L_law_831 ?_
  rw [show nI (5 * t) + 2 = nI (5 * t + 2) from nI_add _ 2]
  refine va_sld hx hb hX hbl hbA hS (i := nI (5 * t + 2)) (vp_in_nI (by omega) (by omega)) d_L_law_832 ?_
  rw [nI_clamp (by omega)]
  refine lv_aload_n hx hb d_L_law_833 rfl (lv_at hl 0 rfl) ?_
  refine lv_iload hx hb d_L_law_834 (lv_at hl 4 rfl) ?_
  refine lv_iconst (v := 3) hx hb d_L_law_836 (by decide) ?_
  refine lv_iadd hx hb d_L_law_837 ?_
  rw [show nI (5 * t) + 3 = nI (5 * t + 3) from nI_add _ 3]
  refine va_sld hx hb hX hbl hbA hS (i := nI (5 * t + 3)) (vp_in_nI (by omega) (by omega)) d_L_law_838 ?_
  rw [nI_clamp (by omega)]
  have hM := hT.mv
  have hz := hT.hz
  have hPm := pm_mP hP
  have hDm := pm_mD hD
  have hFm := fr_A hDm hS hA
  refine va_calli (va_runV (As := [.int (xs (5 * t + 1)), .int (xs (5 * t + 2)), .int (xs (5 * t + 3))]) (rest := [.int rc_2]) ⟨hx, hb, hml, hown, hts⟩ (c_M_declared l D cs am τ n nm hM H_1.size (xs (5 * t + 1)) (xs (5 * t + 2)) (xs (5 * t + 3))) (cwV 3 hts (gw_V kw_734 kw_735 kw_736 kw_6 kw_737) rfl rfl rfl (by decide +kernel) ⟨Nat.le_of_ble_eq_true rfl, Nat.le_of_ble_eq_true rfl⟩) ⟨wr_blind, rl_recv hK (fr_l hPm) (by decide) gM_0 rfl, fun U hU hW => ⟨rfl, by rw [hU], by rw [hU]; exact fr_l hPm, va_K.moved hW.alike hK, (fr_dl hDm).weaken (fun _ _ _ _ => trivial)⟩⟩ rfl rfl hl.1 rfl (lv_room (Nat.le_of_ble_eq_true rfl)) d_L_law_839 ⟨by show _ ≤ 600002; omega, by show _ ≤ 7302232; omega⟩) hS (fun q _ h => hFm q h) hFm (fun rm_5 um_6 t9 H_4 locs ht hvm hw hB hz1 hk1 hS => ?_)
  have hm : mr_declared τ n nm (xs (5 * t + 1)) (xs (5 * t + 2)) (xs (5 * t + 3)) rm_5 um_6 := hw
  obtain ⟨hP1, -, hD1⟩ := hB
  rw [ht] at hP1
  obtain ⟨hPm, hDm⟩ := fr_join hPm hDm hk1 hFm hP1 hD1
  have hP := pm_mP hPm
  have hD := pm_mD hDm
  replace hP : va_P D cls_ (wL cs ad uc_3 n nm ci cj E am um_6 o f) H_4 := hP
  replace hD : va_D (AL s) (wL cs ad uc_3 n nm ci cj E am um_6 o f) := hD
  obtain ⟨heq, hT⟩ := tt_declared hT hc hm
  subst heq
  refine lv_icmp_eq (tgt := 1222) hx hb d_L_law_842 (by decide) (fun _ => ?_) (fun c9 => absurd (rfl) c9)
  exact lp_next C hn ht5 (lv_sub hl [0, 1, 2, 3, 4] rfl) hI hT hP hD hS (by omega) (by omega)
set_option maxHeartbeats 4000000 in
set_option maxRecDepth 100000 in
theorem lc_10 {p : Program} {l : Launch} {e : Env} {s : State} {m : MethodId} {below : List Frame} {meth : Method} {c : Code} {b L : Nat} {xs : Nat → Int32} {D : va_G} {cs : Nat → ClassId} {mi E : Nat} (C : lw_C p l s m meth c b L xs D cs mi E 5) {t : Nat} (hn : lpH 23 p l e s m below meth c b L D cs E (t + 1)) (ht5 : 5 * t + 5 ≤ L) {ls : Array Slot} {H : Heap} {locs : List Loc} {ad am : Nat → Nat} {σ τ : Nat → Nat → Int32} {n nm ci cj o : Nat} {f : Nat → Int64} (hl : lv_has ls 7 [(0, .ref b), (1, .ref (ad 0)), (2, .ref (am 0)), (3, .ref o), (4, .int (nI (5 * t)))]) (hI : Iv n nm ci cj) (hT : TT σ τ n nm) (ht0 : t = 0 → nm = 0) (hP : va_P D cls_ (wL cs ad σ n nm ci cj E am τ o f) H) (hD : va_D (AL s) (wL cs ad σ n nm ci cj E am τ o f)) (hS : va_S (AL s) s.heap H locs) : W p l e room_1 s m #[Value.ref b] below meth c H locs (43 + 4 * t) (978 + 120 * t) (lw_Z below #[Value.ref b] s) (F0 m 847 ls []) := by
  have C9 := C
  obtain ⟨hx, hb, hr, hml, hown, hG, hX, hbl, hlocks, hK, hXk, hZ, hg, hE, hnc, hst, hLN⟩ := C9
  have hA : ∀ q : Nat, s.heap.size ≤ q → AL s q := fun _ h => h
  have hbA : ¬ AL s b := Nat.not_le.mpr hbl
  have hts : ∀ w ∈ (Cond.initialized "InspectSteps" :: GW), w.before #[Value.ref b] s = true := List.forall_mem_cons.mpr ⟨hG _ kw_1, hG⟩
  refine lv_aload_n hx hb d_L_law_847 rfl (lv_at hl 1 rfl) ?_
  refine lv_aload_n hx hb d_L_law_848 rfl (lv_at hl 0 rfl) ?_
  refine lv_iload hx hb d_L_law_849 (lv_at hl 4 rfl) ?_
  refine lv_iconst (v := 1) hx hb d_L_law_851 (by decide) ?_
  refine lv_iadd hx hb d_L_law_852 ?_
  rw [show nI (5 * t) + 1 = nI (5 * t + 1) from nI_add _ 1]
  refine va_sld hx hb hX hbl hbA hS (i := nI (5 * t + 1)) (vp_in_nI (by omega) (by omega)) d_L_law_853 ?_
  rw [nI_clamp (by omega)]
  refine lv_aload_n hx hb d_L_law_854 rfl (lv_at hl 0 rfl) ?_
  refine lv_iload hx hb d_L_law_855 (lv_at hl 4 rfl) ?_
  refine lv_iconst (v := 2) hx hb d_L_law_857 (by decide) ?_
  refine lv_iadd hx hb d_L_law_858 ?_
  rw [show nI (5 * t) + 2 = nI (5 * t + 2) from nI_add _ 2]
  refine va_sld hx hb hX hbl hbA hS (i := nI (5 * t + 2)) (vp_in_nI (by omega) (by omega)) d_L_law_859 ?_
  rw [nI_clamp (by omega)]
  refine lv_aload_n hx hb d_L_law_860 rfl (lv_at hl 0 rfl) ?_
  refine lv_iload hx hb d_L_law_861 (lv_at hl 4 rfl) ?_
  refine lv_iconst (v := 3) hx hb d_L_law_863 (by decide) ?_
  refine lv_iadd hx hb d_L_law_864 ?_
  rw [show nI (5 * t) + 3 = nI (5 * t + 3) from nI_add _ 3]
  refine va_sld hx hb hX hbl hbA hS (i := nI (5 * t + 3)) (vp_in_nI (by omega) (by omega)) d_L_law_865 ?_
  rw [nI_clamp (by omega)]
  have hPx := fr_l hP
  have hDx := fr_dl hD
  have hFX := fr_A hD hS hA
  refine va_calli (va_runV (As := [.int (xs (5 * t + 1)), .int (xs (5 * t + 2)), .int (xs (5 * t + 3))]) (rest := []) ⟨hx, hb, hml, hown, hts⟩ (c_C_tolerance l D cs ad σ n nm ci cj E hI H.size (xs (5 * t + 1)) (xs (5 * t + 2)) (xs (5 * t + 3))) (cwV 3 hts (gw_V kw_153 kw_154 kw_155 kw_1 kw_156) rfl rfl rfl (by decide +kernel) ⟨Nat.le_of_ble_eq_true rfl, Nat.le_of_ble_eq_true rfl⟩) ⟨wr_blind, rl_recv hK hPx (RC_f (by decide)) gC_0 rfl, fun U hU hW => ⟨rfl, by rw [hU], by rw [hU]; exact hPx, va_K.moved hW.alike hK, hDx.weaken (fun _ _ _ _ => trivial)⟩⟩ rfl rfl hl.1 rfl (lv_room (Nat.le_of_ble_eq_true rfl)) d_L_law_866 ⟨by show _ ≤ 600002; omega, by show _ ≤ 7302232; omega⟩) hS (fun q _ h => hFX q h) hFX (fun rc_2 uc_3 t9 H_1 locs ht hvm hw hB hz1 hk1 hS => ?_)
  have hc : cr_tolerance σ n nm (xs (5 * t + 1)) (xs (5 * t + 2)) (xs (5 * t + 3)) rc_2 uc_3 := hw
  obtain ⟨hP1, -, hD1⟩ := hB
  rw [ht] at hP1
  obtain ⟨hP, hD⟩ := fr_join hP hD hk1 hFX hP1 hD1
  replace hP : va_P D cls_ (wL cs ad uc_3 n nm ci cj E am τ o f) H_1 := hP
  replace hD : va_D (AL s) (wL cs ad uc_3 n nm ci cj E am τ o f) := hD
  refine lv_aload_n hx hb d_L_law_869 rfl (lv_at hl 2 rfl) ?_
  refine lv_aload_n hx hb d_L_law_870 rfl (lv_at hl 0 rfl) ?_
  refine lv_iload hx hb d_L_law_871 (lv_at hl 4 rfl) ?_
  refine lv_iconst (v := 1) hx hb d_L_law_873 (by decide) ?_
  refine lv_iadd hx hb d_L_law_874 ?_
  rw [show nI (5 * t) + 1 = nI (5 * t + 1) from nI_add _ 1]
  refine va_sld hx hb hX hbl hbA hS (i := nI (5 * t + 1)) (vp_in_nI (by omega) (by omega)) d_L_law_875 ?_
  rw [nI_clamp (by omega)]
  refine lv_aload_n hx hb d_L_law_876 rfl (lv_at hl 0 rfl) ?_
  refine lv_iload hx hb d_L_law_877 (lv_at hl 4 rfl) ?_
  refine lv_iconst (v := 2) hx hb d_L_law_879 (by decide) ?_
  refine lv_iadd hx hb d_L_law_880 ?_
  rw [show nI (5 * t) + 2 = nI (5 * t + 2) from nI_add _ 2]
  refine va_sld hx hb hX hbl hbA hS (i := nI (5 * t + 2)) (vp_in_nI (by omega) (by omega)) d_L_law_881 ?_
  rw [nI_clamp (by omega)]
  refine lv_aload_n hx hb d_L_law_882 rfl (lv_at hl 0 rfl) ?_
  refine lv_iload hx hb d_L_law_883 (lv_at hl 4 rfl) ?_
  refine lv_iconst (v := 3) hx hb d_L_law_885 (by decide) ?_
  refine lv_iadd hx hb d_L_law_886 ?_
  rw [show nI (5 * t) + 3 = nI (5 * t + 3) from nI_add _ 3]
  refine va_sld hx hb hX hbl hbA hS (i := nI (5 * t + 3)) (vp_in_nI (by omega) (by omega)) d_L_law_887 ?_
  rw [nI_clamp (by omega)]
  have hM := hT.mv
  have hz := hT.hz
  have hPm := pm_mP hP
  have hDm := pm_mD hD
  have hFm := fr_A hDm hS hA
  refine va_calli (va_runV (As := [.int (xs (5 * t + 1)), .int (xs (5 * t + 2)), .int (xs (5 * t + 3))]) (rest := [.int rc_2]) ⟨hx, hb, hml, hown, hts⟩ (c_M_tolerance l D cs am τ n nm hM H_1.size (xs (5 * t + 1)) (xs (5 * t + 2)) (xs (5 * t + 3))) (cwV 3 hts (gw_V kw_738 kw_739 kw_740 kw_6 kw_741) rfl rfl rfl (by decide +kernel) ⟨Nat.le_of_ble_eq_true rfl, Nat.le_of_ble_eq_true rfl⟩) ⟨wr_blind, rl_recv hK (fr_l hPm) (by decide) gM_0 rfl, fun U hU hW => ⟨rfl, by rw [hU], by rw [hU]; exact fr_l hPm, va_K.moved hW.alike hK, (fr_dl hDm).weaken (fun _ _ _ _ => trivial)⟩⟩ rfl rfl hl.1 rfl (lv_room (Nat.le_of_ble_eq_true rfl)) d_L_law_888 ⟨by show _ ≤ 600002; omega, by show _ ≤ 7302232; omega⟩) hS (fun q _ h => hFm q h) hFm (fun rm_5 um_6 t9 H_4 locs ht hvm hw hB hz1 hk1 hS => ?_)
  have hm : mr_tolerance τ n nm (xs (5 * t + 1)) (xs (5 * t + 2)) (xs (5 * t + 3)) rm_5 um_6 := hw
  obtain ⟨hP1, -, hD1⟩ := hB
  rw [ht] at hP1
  obtain ⟨hPm, hDm⟩ := fr_join hPm hDm hk1 hFm hP1 hD1
  have hP := pm_mP hPm
  have hD := pm_mD hDm
  replace hP : va_P D cls_ (wL cs ad uc_3 n nm ci cj E am um_6 o f) H_4 := hP
  replace hD : va_D (AL s) (wL cs ad uc_3 n nm ci cj E am um_6 o f) := hD
  obtain ⟨heq, hT⟩ := tt_tolerance hT hc hm
  subst heq
  refine lv_icmp_eq (tgt := 1222) hx hb d_L_law_891 (by decide) (fun _ => ?_) (fun c9 => absurd (rfl) c9)
  exact lp_next C hn ht5 (lv_sub hl [0, 1, 2, 3, 4] rfl) hI hT hP hD hS (by omega) (by omega)
set_option maxHeartbeats 4000000 in
set_option maxRecDepth 100000 in
theorem lc_11 {p : Program} {l : Launch} {e : Env} {s : State} {m : MethodId} {below : List Frame} {meth : Method} {c : Code} {b L : Nat} {xs : Nat → Int32} {D : va_G} {cs : Nat → ClassId} {mi E : Nat} (C : lw_C p l s m meth c b L xs D cs mi E 5) {t : Nat} (hn : lpH 23 p l e s m below meth c b L D cs E (t + 1)) (ht5 : 5 * t + 5 ≤ L) {ls : Array Slot} {H : Heap} {locs : List Loc} {ad am : Nat → Nat} {σ τ : Nat → Nat → Int32} {n nm ci cj o : Nat} {f : Nat → Int64} (hl : lv_has ls 7 [(0, .ref b), (1, .ref (ad 0)), (2, .ref (am 0)), (3, .ref o), (4, .int (nI (5 * t)))]) (hI : Iv n nm ci cj) (hT : TT σ τ n nm) (ht0 : t = 0 → nm = 0) (hP : va_P D cls_ (wL cs ad σ n nm ci cj E am τ o f) H) (hD : va_D (AL s) (wL cs ad σ n nm ci cj E am τ o f)) (hS : va_S (AL s) s.heap H locs) : W p l e room_1 s m #[Value.ref b] below meth c H locs (43 + 4 * t) (978 + 120 * t) (lw_Z below #[Value.ref b] s) (F0 m 896 ls []) := by
  have C9 := C
  obtain ⟨hx, hb, hr, hml, hown, hG, hX, hbl, hlocks, hK, hXk, hZ, hg, hE, hnc, hst, hLN⟩ := C9
  have hA : ∀ q : Nat, s.heap.size ≤ q → AL s q := fun _ h => h
  have hbA : ¬ AL s b := Nat.not_le.mpr hbl
  have hts : ∀ w ∈ (Cond.initialized "InspectSteps" :: GW), w.before #[Value.ref b] s = true := List.forall_mem_cons.mpr ⟨hG _ kw_1, hG⟩
  refine lv_aload_n hx hb d_L_law_896 rfl (lv_at hl 1 rfl) ?_
  refine lv_aload_n hx hb d_L_law_897 rfl (lv_at hl 0 rfl) ?_
  refine lv_iload hx hb d_L_law_898 (lv_at hl 4 rfl) ?_
  refine lv_iconst (v := 1) hx hb d_L_law_900 (by decide) ?_
  refine lv_iadd hx hb d_L_law_901 ?_
  rw [show nI (5 * t) + 1 = nI (5 * t + 1) from nI_add _ 1]
  refine va_sld hx hb hX hbl hbA hS (i := nI (5 * t + 1)) (vp_in_nI (by omega) (by omega)) d_L_law_902 ?_
  rw [nI_clamp (by omega)]
  refine lv_aload_n hx hb d_L_law_903 rfl (lv_at hl 0 rfl) ?_
  refine lv_iload hx hb d_L_law_904 (lv_at hl 4 rfl) ?_
  refine lv_iconst (v := 2) hx hb d_L_law_906 (by decide) ?_
  refine lv_iadd hx hb d_L_law_907 ?_
  rw [show nI (5 * t) + 2 = nI (5 * t + 2) from nI_add _ 2]
  refine va_sld hx hb hX hbl hbA hS (i := nI (5 * t + 2)) (vp_in_nI (by omega) (by omega)) d_L_law_908 ?_
  rw [nI_clamp (by omega)]
  refine lv_aload_n hx hb d_L_law_909 rfl (lv_at hl 0 rfl) ?_
  refine lv_iload hx hb d_L_law_910 (lv_at hl 4 rfl) ?_
  refine lv_iconst (v := 3) hx hb d_L_law_912 (by decide) ?_
  refine lv_iadd hx hb d_L_law_913 ?_
  rw [show nI (5 * t) + 3 = nI (5 * t + 3) from nI_add _ 3]
  refine va_sld hx hb hX hbl hbA hS (i := nI (5 * t + 3)) (vp_in_nI (by omega) (by omega)) d_L_law_914 ?_
  rw [nI_clamp (by omega)]
  refine lv_if_eq (tgt := 922) hx hb d_L_law_915 (by decide) (fun c_1 => ?_) (fun c_1 => ?_)
  · refine lv_iconst (v := 0) hx hb d_L_law_922 (by decide) ?_
    have hPx := fr_l hP
    have hDx := fr_dl hD
    have hFX := fr_A hD hS hA
    refine va_calli (va_runV (As := [.int (xs (5 * t + 1)), .int (xs (5 * t + 2)), .int 0]) (rest := []) ⟨hx, hb, hml, hown, hts⟩ (c_C_hold l D cs ad σ n nm ci cj E hI H.size (xs (5 * t + 1)) (xs (5 * t + 2)) 0) (cwV 3 hts (gw_V kw_157 kw_158 kw_159 kw_1 kw_160) rfl rfl rfl (by decide +kernel) ⟨Nat.le_of_ble_eq_true rfl, Nat.le_of_ble_eq_true rfl⟩) ⟨wr_blind, rl_recv hK hPx (RC_f (by decide)) gC_0 rfl, fun U hU hW => ⟨rfl, by rw [hU], by rw [hU]; exact hPx, va_K.moved hW.alike hK, hDx.weaken (fun _ _ _ _ => trivial)⟩⟩ rfl rfl hl.1 rfl (lv_room (Nat.le_of_ble_eq_true rfl)) d_L_law_923 ⟨by show _ ≤ 600002; omega, by show _ ≤ 7302232; omega⟩) hS (fun q _ h => hFX q h) hFX (fun rc_3 uc_4 t9 H_2 locs ht hvm hw hB hz1 hk1 hS => ?_)
    have hc : cr_hold σ n nm (xs (5 * t + 1)) (xs (5 * t + 2)) 0 rc_3 uc_4 := hw
    obtain ⟨hP1, -, hD1⟩ := hB
    rw [ht] at hP1
    obtain ⟨hP, hD⟩ := fr_join hP hD hk1 hFX hP1 hD1
    replace hP : va_P D cls_ (wL cs ad uc_4 n nm ci cj E am τ o f) H_2 := hP
    replace hD : va_D (AL s) (wL cs ad uc_4 n nm ci cj E am τ o f) := hD
    refine lv_aload_n hx hb d_L_law_926 rfl (lv_at hl 2 rfl) ?_
    refine lv_aload_n hx hb d_L_law_927 rfl (lv_at hl 0 rfl) ?_
    refine lv_iload hx hb d_L_law_928 (lv_at hl 4 rfl) ?_
    refine lv_iconst (v := 1) hx hb d_L_law_930 (by decide) ?_
    refine lv_iadd hx hb d_L_law_931 ?_
    rw [show nI (5 * t) + 1 = nI (5 * t + 1) from nI_add _ 1]
    refine va_sld hx hb hX hbl hbA hS (i := nI (5 * t + 1)) (vp_in_nI (by omega) (by omega)) d_L_law_932 ?_
    rw [nI_clamp (by omega)]
    refine lv_aload_n hx hb d_L_law_933 rfl (lv_at hl 0 rfl) ?_
    refine lv_iload hx hb d_L_law_934 (lv_at hl 4 rfl) ?_
    refine lv_iconst (v := 2) hx hb d_L_law_936 (by decide) ?_
    refine lv_iadd hx hb d_L_law_937 ?_
    rw [show nI (5 * t) + 2 = nI (5 * t + 2) from nI_add _ 2]
    refine va_sld hx hb hX hbl hbA hS (i := nI (5 * t + 2)) (vp_in_nI (by omega) (by omega)) d_L_law_938 ?_
    rw [nI_clamp (by omega)]
    refine lv_aload_n hx hb d_L_law_939 rfl (lv_at hl 0 rfl) ?_
    refine lv_iload hx hb d_L_law_940 (lv_at hl 4 rfl) ?_
    refine lv_iconst (v := 3) hx hb d_L_law_942 (by decide) ?_
    refine lv_iadd hx hb d_L_law_943 ?_
    rw [show nI (5 * t) + 3 = nI (5 * t + 3) from nI_add _ 3]
    refine va_sld hx hb hX hbl hbA hS (i := nI (5 * t + 3)) (vp_in_nI (by omega) (by omega)) d_L_law_944 ?_
    rw [nI_clamp (by omega)]
    refine lv_if_eq (tgt := 952) hx hb d_L_law_945 (by decide) (fun _ => ?_) (fun c9 => absurd c_1 c9)
    refine lv_iconst (v := 0) hx hb d_L_law_952 (by decide) ?_
    have hM := hT.mv
    have hz := hT.hz
    have hPm := pm_mP hP
    have hDm := pm_mD hD
    have hFm := fr_A hDm hS hA
    refine va_calli (va_runV (As := [.int (xs (5 * t + 1)), .int (xs (5 * t + 2)), .int 0]) (rest := [.int rc_3]) ⟨hx, hb, hml, hown, hts⟩ (c_M_hold l D cs am τ n nm hM H_2.size (xs (5 * t + 1)) (xs (5 * t + 2)) 0) (cwV 3 hts (gw_V kw_742 kw_743 kw_744 kw_6 kw_745) rfl rfl rfl (by decide +kernel) ⟨Nat.le_of_ble_eq_true rfl, Nat.le_of_ble_eq_true rfl⟩) ⟨wr_blind, rl_recv hK (fr_l hPm) (by decide) gM_0 rfl, fun U hU hW => ⟨rfl, by rw [hU], by rw [hU]; exact fr_l hPm, va_K.moved hW.alike hK, (fr_dl hDm).weaken (fun _ _ _ _ => trivial)⟩⟩ rfl rfl hl.1 rfl (lv_room (Nat.le_of_ble_eq_true rfl)) d_L_law_953 ⟨by show _ ≤ 600002; omega, by show _ ≤ 7302232; omega⟩) hS (fun q _ h => hFm q h) hFm (fun rm_6 um_7 t9 H_5 locs ht hvm hw hB hz1 hk1 hS => ?_)
    have hm : mr_hold τ n nm (xs (5 * t + 1)) (xs (5 * t + 2)) 0 rm_6 um_7 := hw
    obtain ⟨hP1, -, hD1⟩ := hB
    rw [ht] at hP1
    obtain ⟨hPm, hDm⟩ := fr_join hPm hDm hk1 hFm hP1 hD1
    have hP := pm_mP hPm
    have hD := pm_mD hDm
    replace hP : va_P D cls_ (wL cs ad uc_4 n nm ci cj E am um_7 o f) H_5 := hP
    replace hD : va_D (AL s) (wL cs ad uc_4 n nm ci cj E am um_7 o f) := hD
    obtain ⟨heq, hT⟩ := tt_hold hT (Or.inl rfl) hc hm
    subst heq
    refine lv_icmp_eq (tgt := 1222) hx hb d_L_law_956 (by decide) (fun _ => ?_) (fun c9 => absurd (rfl) c9)
    exact lp_next C hn ht5 (lv_sub hl [0, 1, 2, 3, 4] rfl) hI hT hP hD hS (by omega) (by omega)
  · refine lv_iconst (v := 1) hx hb d_L_law_918 (by decide) ?_
    refine lv_goto (tgt := 923) hx hb d_L_law_919 (by decide) ?_
    have hPx := fr_l hP
    have hDx := fr_dl hD
    have hFX := fr_A hD hS hA
    refine va_calli (va_runV (As := [.int (xs (5 * t + 1)), .int (xs (5 * t + 2)), .int 1]) (rest := []) ⟨hx, hb, hml, hown, hts⟩ (c_C_hold l D cs ad σ n nm ci cj E hI H.size (xs (5 * t + 1)) (xs (5 * t + 2)) 1) (cwV 3 hts (gw_V kw_157 kw_158 kw_159 kw_1 kw_160) rfl rfl rfl (by decide +kernel) ⟨Nat.le_of_ble_eq_true rfl, Nat.le_of_ble_eq_true rfl⟩) ⟨wr_blind, rl_recv hK hPx (RC_f (by decide)) gC_0 rfl, fun U hU hW => ⟨rfl, by rw [hU], by rw [hU]; exact hPx, va_K.moved hW.alike hK, hDx.weaken (fun _ _ _ _ => trivial)⟩⟩ rfl rfl hl.1 rfl (lv_room (Nat.le_of_ble_eq_true rfl)) d_L_law_923 ⟨by show _ ≤ 600002; omega, by show _ ≤ 7302232; omega⟩) hS (fun q _ h => hFX q h) hFX (fun rc_9 uc_10 t9 H_8 locs ht hvm hw hB hz1 hk1 hS => ?_)
    have hc : cr_hold σ n nm (xs (5 * t + 1)) (xs (5 * t + 2)) 1 rc_9 uc_10 := hw
    obtain ⟨hP1, -, hD1⟩ := hB
    rw [ht] at hP1
    obtain ⟨hP, hD⟩ := fr_join hP hD hk1 hFX hP1 hD1
    replace hP : va_P D cls_ (wL cs ad uc_10 n nm ci cj E am τ o f) H_8 := hP
    replace hD : va_D (AL s) (wL cs ad uc_10 n nm ci cj E am τ o f) := hD
    refine lv_aload_n hx hb d_L_law_926 rfl (lv_at hl 2 rfl) ?_
    refine lv_aload_n hx hb d_L_law_927 rfl (lv_at hl 0 rfl) ?_
    refine lv_iload hx hb d_L_law_928 (lv_at hl 4 rfl) ?_
    refine lv_iconst (v := 1) hx hb d_L_law_930 (by decide) ?_
    refine lv_iadd hx hb d_L_law_931 ?_
    rw [show nI (5 * t) + 1 = nI (5 * t + 1) from nI_add _ 1]
    refine va_sld hx hb hX hbl hbA hS (i := nI (5 * t + 1)) (vp_in_nI (by omega) (by omega)) d_L_law_932 ?_
    rw [nI_clamp (by omega)]
    refine lv_aload_n hx hb d_L_law_933 rfl (lv_at hl 0 rfl) ?_
    refine lv_iload hx hb d_L_law_934 (lv_at hl 4 rfl) ?_
    refine lv_iconst (v := 2) hx hb d_L_law_936 (by decide) ?_
    refine lv_iadd hx hb d_L_law_937 ?_
    rw [show nI (5 * t) + 2 = nI (5 * t + 2) from nI_add _ 2]
    refine va_sld hx hb hX hbl hbA hS (i := nI (5 * t + 2)) (vp_in_nI (by omega) (by omega)) d_L_law_938 ?_
    rw [nI_clamp (by omega)]
    refine lv_aload_n hx hb d_L_law_939 rfl (lv_at hl 0 rfl) ?_
    refine lv_iload hx hb d_L_law_940 (lv_at hl 4 rfl) ?_
    refine lv_iconst (v := 3) hx hb d_L_law_942 (by decide) ?_
    refine lv_iadd hx hb d_L_law_943 ?_
    rw [show nI (5 * t) + 3 = nI (5 * t + 3) from nI_add _ 3]
    refine va_sld hx hb hX hbl hbA hS (i := nI (5 * t + 3)) (vp_in_nI (by omega) (by omega)) d_L_law_944 ?_
    rw [nI_clamp (by omega)]
    refine lv_if_eq (tgt := 952) hx hb d_L_law_945 (by decide) (fun c9 => absurd c9 c_1) (fun _ => ?_)
    refine lv_iconst (v := 1) hx hb d_L_law_948 (by decide) ?_
    refine lv_goto (tgt := 953) hx hb d_L_law_949 (by decide) ?_
    have hM := hT.mv
    have hz := hT.hz
    have hPm := pm_mP hP
    have hDm := pm_mD hD
    have hFm := fr_A hDm hS hA
    refine va_calli (va_runV (As := [.int (xs (5 * t + 1)), .int (xs (5 * t + 2)), .int 1]) (rest := [.int rc_9]) ⟨hx, hb, hml, hown, hts⟩ (c_M_hold l D cs am τ n nm hM H_8.size (xs (5 * t + 1)) (xs (5 * t + 2)) 1) (cwV 3 hts (gw_V kw_742 kw_743 kw_744 kw_6 kw_745) rfl rfl rfl (by decide +kernel) ⟨Nat.le_of_ble_eq_true rfl, Nat.le_of_ble_eq_true rfl⟩) ⟨wr_blind, rl_recv hK (fr_l hPm) (by decide) gM_0 rfl, fun U hU hW => ⟨rfl, by rw [hU], by rw [hU]; exact fr_l hPm, va_K.moved hW.alike hK, (fr_dl hDm).weaken (fun _ _ _ _ => trivial)⟩⟩ rfl rfl hl.1 rfl (lv_room (Nat.le_of_ble_eq_true rfl)) d_L_law_953 ⟨by show _ ≤ 600002; omega, by show _ ≤ 7302232; omega⟩) hS (fun q _ h => hFm q h) hFm (fun rm_12 um_13 t9 H_11 locs ht hvm hw hB hz1 hk1 hS => ?_)
    have hm : mr_hold τ n nm (xs (5 * t + 1)) (xs (5 * t + 2)) 1 rm_12 um_13 := hw
    obtain ⟨hP1, -, hD1⟩ := hB
    rw [ht] at hP1
    obtain ⟨hPm, hDm⟩ := fr_join hPm hDm hk1 hFm hP1 hD1
    have hP := pm_mP hPm
    have hD := pm_mD hDm
    replace hP : va_P D cls_ (wL cs ad uc_10 n nm ci cj E am um_13 o f) H_11 := hP
    replace hD : va_D (AL s) (wL cs ad uc_10 n nm ci cj E am um_13 o f) := hD
    obtain ⟨heq, hT⟩ := tt_hold hT (Or.inr rfl) hc hm
    subst heq
    refine lv_icmp_eq (tgt := 1222) hx hb d_L_law_956 (by decide) (fun _ => ?_) (fun c9 => absurd (rfl) c9)
    exact lp_next C hn ht5 (lv_sub hl [0, 1, 2, 3, 4] rfl) hI hT hP hD hS (by omega) (by omega)
set_option maxHeartbeats 4000000 in
set_option maxRecDepth 100000 in
theorem lc_12 {p : Program} {l : Launch} {e : Env} {s : State} {m : MethodId} {below : List Frame} {meth : Method} {c : Code} {b L : Nat} {xs : Nat → Int32} {D : va_G} {cs : Nat → ClassId} {mi E : Nat} (C : lw_C p l s m meth c b L xs D cs mi E 5) {t : Nat} (hn : lpH 23 p l e s m below meth c b L D cs E (t + 1)) (ht5 : 5 * t + 5 ≤ L) {ls : Array Slot} {H : Heap} {locs : List Loc} {ad am : Nat → Nat} {σ τ : Nat → Nat → Int32} {n nm ci cj o : Nat} {f : Nat → Int64} (hl : lv_has ls 7 [(0, .ref b), (1, .ref (ad 0)), (2, .ref (am 0)), (3, .ref o), (4, .int (nI (5 * t)))]) (hI : Iv n nm ci cj) (hT : TT σ τ n nm) (ht0 : t = 0 → nm = 0) (hP : va_P D cls_ (wL cs ad σ n nm ci cj E am τ o f) H) (hD : va_D (AL s) (wL cs ad σ n nm ci cj E am τ o f)) (hS : va_S (AL s) s.heap H locs) : W p l e room_1 s m #[Value.ref b] below meth c H locs (43 + 4 * t) (978 + 120 * t) (lw_Z below #[Value.ref b] s) (F0 m 961 ls []) := by
  have C9 := C
  obtain ⟨hx, hb, hr, hml, hown, hG, hX, hbl, hlocks, hK, hXk, hZ, hg, hE, hnc, hst, hLN⟩ := C9
  have hA : ∀ q : Nat, s.heap.size ≤ q → AL s q := fun _ h => h
  have hbA : ¬ AL s b := Nat.not_le.mpr hbl
  have hts : ∀ w ∈ (Cond.initialized "InspectSteps" :: GW), w.before #[Value.ref b] s = true := List.forall_mem_cons.mpr ⟨hG _ kw_1, hG⟩
  refine lv_aload_n hx hb d_L_law_961 rfl (lv_at hl 1 rfl) ?_
  refine lv_aload_n hx hb d_L_law_962 rfl (lv_at hl 0 rfl) ?_
  refine lv_iload hx hb d_L_law_963 (lv_at hl 4 rfl) ?_
  refine lv_iconst (v := 1) hx hb d_L_law_965 (by decide) ?_
  refine lv_iadd hx hb d_L_law_966 ?_
  rw [show nI (5 * t) + 1 = nI (5 * t + 1) from nI_add _ 1]
  refine va_sld hx hb hX hbl hbA hS (i := nI (5 * t + 1)) (vp_in_nI (by omega) (by omega)) d_L_law_967 ?_
  rw [nI_clamp (by omega)]
  refine lv_aload_n hx hb d_L_law_968 rfl (lv_at hl 3 rfl) ?_
  have hPh := pm_hP hP
  have hDh := pm_hD hD
  have hFh := fr_A hDh hS hA
  refine va_calli (vx_runSW (As := [.ref (ad 0), .int (xs (5 * t + 1)), .ref o]) (rest := []) ⟨hx, hb, hml, hown, hts⟩ (c_L_settle l D cs ad σ n nm ci cj E hI hT.jv mi hst o f H.size (xs (5 * t + 1))) (vx_cwSW 3 hts (gw_SW kw_496 kw_497 kw_0 kw_498) rfl rfl rfl (by decide +kernel) ⟨Nat.le_of_ble_eq_true rfl, Nat.le_of_ble_eq_true rfl⟩) ⟨hp_blind, fun U hU hW => ⟨rfl, by rw [hU], by rw [hU]; exact fr_l hPh, va_K.moved hW.alike hK, (fr_dl hDh).weaken (fun _ _ _ _ => trivial), hXk.warm hW, by rw [hU]; exact ((hZ.kept (fun q h1 h2 => hS.2.1 q h1 h2)).moved hW.alike).narrow hFh, hg.moved hW.alike, by rw [hU]; exact ((hE.kept (fun q h1 h2 => hS.2.1 q h1 h2)).moved hW.alike).narrow hFh, va_Nc.moved hW.alike hnc⟩⟩ rfl rfl hl.1 rfl (lv_room (Nat.le_of_ble_eq_true rfl)) d_L_law_969 ⟨by show _ ≤ 600002; omega, by show _ ≤ 7302232; omega⟩) hS (fun q _ h => hFh q h) hFh (fun kc_2 uc t9 H_1 locs ht hvm hw hB hz1 hk1 hS => ?_)
  obtain ⟨rc_3, hc, hfo⟩ := hw
  obtain ⟨hP1, -, hD1⟩ := hB
  rw [ht] at hP1
  obtain ⟨hPh, hDh⟩ := fr_join hPh hDh hk1 hFh hP1 hD1
  have hP := pm_hP' hPh
  have hD := pm_hD' hDh
  obtain ⟨s1, f1⟩ := uc
  replace hfo : kc_2 = 0 → f1 0 = rc_3.toInt64 := hfo
  replace hP : va_P D cls_ (wL cs ad s1 n nm ci cj E am τ o f1) H_1 := hP
  replace hD : va_D (AL s) (wL cs ad s1 n nm ci cj E am τ o f1) := hD
  refine lv_istore (lv' := [(5, .int kc_2), (0, .ref b), (1, .ref (ad 0)), (2, .ref (am 0)), (3, .ref o), (4, .int (nI (5 * t)))]) hx hb d_L_law_972 hl (by decide) rfl (fun ls hl => ?_)
  refine lv_aload_n hx hb d_L_law_974 rfl (lv_at hl 3 rfl) ?_
  refine lv_aload_n hx hb d_L_law_975 rfl (lv_at hl 1 rfl) ?_
  refine lv_iload hx hb d_L_law_976 (lv_at hl 5 rfl) ?_
  refine lv_iconst (v := 1) hx hb d_L_law_978 (by decide) ?_
  refine lv_iadd hx hb d_L_law_979 ?_
  rw [show nI (5 * t) + 1 = nI (5 * t + 1) from nI_add _ 1]
  refine va_sld hx hb hX hbl hbA hS (i := nI (5 * t + 1)) (vp_in_nI (by omega) (by omega)) d_L_law_980 ?_
  rw [nI_clamp (by omega)]
  have hM := hT.mv
  have hz := hT.hz
  have hPm := pm_mP hP
  have hDm := pm_mD hD
  have hFm := fr_A hDm hS hA
  refine va_calli (va_runV (As := [.int (xs (5 * t + 1))]) (rest := []) ⟨hx, hb, hml, hown, hts⟩ (c_M_settle l D cs am τ n nm hM H_1.size (xs (5 * t + 1))) (cwV 1 hts (gw_V kw_746 kw_747 kw_748 kw_6 kw_749) rfl rfl rfl (by decide +kernel) ⟨Nat.le_of_ble_eq_true rfl, Nat.le_of_ble_eq_true rfl⟩) ⟨wr_blind, rl_recv hK (fr_l hPm) (by decide) gM_0 rfl, fun U hU hW => ⟨rfl, by rw [hU], by rw [hU]; exact fr_l hPm, va_K.moved hW.alike hK, (fr_dl hDm).weaken (fun _ _ _ _ => trivial)⟩⟩ rfl rfl hl.1 rfl (lv_room (Nat.le_of_ble_eq_true rfl)) d_L_law_981 ⟨by show _ ≤ 600002; omega, by show _ ≤ 7302232; omega⟩) hS (fun q _ h => hFm q h) hFm (fun rm_5 um_6 t9 H_4 locs ht hvm hw hB hz1 hk1 hS => ?_)
  have hm : mr_settle τ n nm (xs (5 * t + 1)) rm_5 um_6 := hw
  obtain ⟨hP1, -, hD1⟩ := hB
  rw [ht] at hP1
  obtain ⟨hPm, hDm⟩ := fr_join hPm hDm hk1 hFm hP1 hD1
  have hP := pm_mP hPm
  have hD := pm_mD hDm
  replace hP : va_P D cls_ (wL cs ad s1 n nm ci cj E am um_6 o f1) H_4 := hP
  replace hD : va_D (AL s) (wL cs ad s1 n nm ci cj E am um_6 o f1) := hD
  obtain ⟨hk0, hr0, hT⟩ := tt_settle hT hc hm
  refine lv_istore (lv' := [(6, .int rm_5), (5, .int kc_2), (0, .ref b), (1, .ref (ad 0)), (2, .ref (am 0)), (3, .ref o), (4, .int (nI (5 * t)))]) hx hb d_L_law_984 hl (by decide) rfl (fun ls hl => ?_)
  refine lv_aload_n hx hb d_L_law_986 rfl (lv_at hl 4 rfl) ?_
  have hPm := pm_mP hP
  refine vp_callSi (W.runV (As := []) (rest := []) ⟨hx, hb, hml, hown, hts⟩ (c_M_thrown l D cs am um_6 n nm hT.mv) (cwV 0 hts (gw_V kw_657 kw_658 kw_659 kw_6 kw_660) rfl rfl rfl (by decide +kernel) ⟨Nat.le_of_ble_eq_true rfl, Nat.le_of_ble_eq_true rfl⟩) (rd_V (fr_l hPm) hK (rl_recv hK (fr_l hPm) (by decide) gM_0 rfl)) rfl rfl hl.1 rfl (lv_room (Nat.le_of_ble_eq_true rfl)) d_L_law_987 ⟨by show _ ≤ 600002; omega, by show _ ≤ 7302232; omega⟩) (fun r_7 h_8 => ?_)
  subst h_8
  rw [hk0]
  refine lv_iload hx hb d_L_law_990 (lv_at hl 1 rfl) ?_
  refine lv_icmp_eq (tgt := 997) hx hb d_L_law_992 (by decide) (fun _ => ?_) (fun c9 => absurd (rfl) c9)
  refine lv_iload hx hb d_L_law_997 (lv_at hl 1 rfl) ?_
  refine lv_if_ne (tgt := 1014) hx hb d_L_law_999 (by decide) (fun c_9 => ?_) (fun c_9 => ?_)
  · refine lv_goto (tgt := 1222) hx hb d_L_law_1014 (by decide) ?_
    exact lp_next C hn ht5 (lv_sub hl [2, 3, 4, 5, 6] rfl) hI hT hP hD hS (by omega) (by omega)
  · refine lv_aload_n hx hb d_L_law_1002 rfl (lv_at hl 5 rfl) ?_
    refine lv_iconst (v := 0) hx hb d_L_law_1003 (by decide) ?_
    have hPo := hP
    rw [show (wL cs ad s1 n nm ci cj E am um_6 o f1) = (wC cs ad s1 n nm ci cj E ++ wM cs am um_6) ++ [(o, outc cs f1)] from (List.append_assoc _ _ _).symm] at hPo
    refine lo_lald hx hb hK hPo d_L_law_1004 ?_
    refine lv_iload hx hb d_L_law_1005 (lv_at hl 0 rfl) ?_
    refine lv_i2l hx hb d_L_law_1007 rfl ?_
    rw [hfo c_9, hr0 c_9]
    refine W.lcmp hx hb d_L_law_1008 ?_
    refine lv_if_eq (tgt := 1014) hx hb d_L_law_1009 (by decide) (fun _ => ?_) (fun c9 => absurd ((lg_cmp_eq _ _).mpr rfl) c9)
    refine lv_goto (tgt := 1222) hx hb d_L_law_1014 (by decide) ?_
    exact lp_next C hn ht5 (lv_sub hl [2, 3, 4, 5, 6] rfl) hI hT hP hD hS (by omega) (by omega)
set_option maxHeartbeats 4000000 in
set_option maxRecDepth 100000 in
theorem lc_13 {p : Program} {l : Launch} {e : Env} {s : State} {m : MethodId} {below : List Frame} {meth : Method} {c : Code} {b L : Nat} {xs : Nat → Int32} {D : va_G} {cs : Nat → ClassId} {mi E : Nat} (C : lw_C p l s m meth c b L xs D cs mi E 5) {t : Nat} (hn : lpH 23 p l e s m below meth c b L D cs E (t + 1)) (ht5 : 5 * t + 5 ≤ L) {ls : Array Slot} {H : Heap} {locs : List Loc} {ad am : Nat → Nat} {σ τ : Nat → Nat → Int32} {n nm ci cj o : Nat} {f : Nat → Int64} (hl : lv_has ls 7 [(0, .ref b), (1, .ref (ad 0)), (2, .ref (am 0)), (3, .ref o), (4, .int (nI (5 * t)))]) (hI : Iv n nm ci cj) (hT : TT σ τ n nm) (ht0 : t = 0 → nm = 0) (hP : va_P D cls_ (wL cs ad σ n nm ci cj E am τ o f) H) (hD : va_D (AL s) (wL cs ad σ n nm ci cj E am τ o f)) (hS : va_S (AL s) s.heap H locs) : W p l e room_1 s m #[Value.ref b] below meth c H locs (43 + 4 * t) (978 + 120 * t) (lw_Z below #[Value.ref b] s) (F0 m 1017 ls []) := by
  have C9 := C
  obtain ⟨hx, hb, hr, hml, hown, hG, hX, hbl, hlocks, hK, hXk, hZ, hg, hE, hnc, hst, hLN⟩ := C9
  have hA : ∀ q : Nat, s.heap.size ≤ q → AL s q := fun _ h => h
  have hbA : ¬ AL s b := Nat.not_le.mpr hbl
  have hts : ∀ w ∈ (Cond.initialized "InspectSteps" :: GW), w.before #[Value.ref b] s = true := List.forall_mem_cons.mpr ⟨hG _ kw_1, hG⟩
  refine lv_aload_n hx hb d_L_law_1017 rfl (lv_at hl 1 rfl) ?_
  refine lv_aload_n hx hb d_L_law_1018 rfl (lv_at hl 0 rfl) ?_
  refine lv_iload hx hb d_L_law_1019 (lv_at hl 4 rfl) ?_
  refine lv_iconst (v := 1) hx hb d_L_law_1021 (by decide) ?_
  refine lv_iadd hx hb d_L_law_1022 ?_
  rw [show nI (5 * t) + 1 = nI (5 * t + 1) from nI_add _ 1]
  refine va_sld hx hb hX hbl hbA hS (i := nI (5 * t + 1)) (vp_in_nI (by omega) (by omega)) d_L_law_1023 ?_
  rw [nI_clamp (by omega)]
  refine lv_aload_n hx hb d_L_law_1024 rfl (lv_at hl 3 rfl) ?_
  have hPh := pm_hP hP
  have hDh := pm_hD hD
  have hFh := fr_A hDh hS hA
  refine va_calli (vx_runSW (As := [.ref (ad 0), .int (xs (5 * t + 1)), .ref o]) (rest := []) ⟨hx, hb, hml, hown, hts⟩ (c_L_tick l D cs ad σ n nm ci cj E hI hT.jv mi hst o f H.size (xs (5 * t + 1))) (vx_cwSW 3 hts (gw_SW kw_508 kw_509 kw_0 kw_510) rfl rfl rfl (by decide +kernel) ⟨Nat.le_of_ble_eq_true rfl, Nat.le_of_ble_eq_true rfl⟩) ⟨hp_blind, fun U hU hW => ⟨rfl, by rw [hU], by rw [hU]; exact fr_l hPh, va_K.moved hW.alike hK, (fr_dl hDh).weaken (fun _ _ _ _ => trivial), hXk.warm hW, by rw [hU]; exact ((hZ.kept (fun q h1 h2 => hS.2.1 q h1 h2)).moved hW.alike).narrow hFh, hg.moved hW.alike, by rw [hU]; exact ((hE.kept (fun q h1 h2 => hS.2.1 q h1 h2)).moved hW.alike).narrow hFh, va_Nc.moved hW.alike hnc⟩⟩ rfl rfl hl.1 rfl (lv_room (Nat.le_of_ble_eq_true rfl)) d_L_law_1025 ⟨by show _ ≤ 600002; omega, by show _ ≤ 7302232; omega⟩) hS (fun q _ h => hFh q h) hFh (fun kc_2 uc t9 H_1 locs ht hvm hw hB hz1 hk1 hS => ?_)
  obtain ⟨rc_3, hc, hfo⟩ := hw
  obtain ⟨hP1, -, hD1⟩ := hB
  rw [ht] at hP1
  obtain ⟨hPh, hDh⟩ := fr_join hPh hDh hk1 hFh hP1 hD1
  have hP := pm_hP' hPh
  have hD := pm_hD' hDh
  obtain ⟨s1, f1⟩ := uc
  replace hfo : kc_2 = 0 → f1 0 = rc_3.toInt64 := hfo
  replace hP : va_P D cls_ (wL cs ad s1 n nm ci cj E am τ o f1) H_1 := hP
  replace hD : va_D (AL s) (wL cs ad s1 n nm ci cj E am τ o f1) := hD
  refine lv_istore (lv' := [(5, .int kc_2), (0, .ref b), (1, .ref (ad 0)), (2, .ref (am 0)), (3, .ref o), (4, .int (nI (5 * t)))]) hx hb d_L_law_1028 hl (by decide) rfl (fun ls hl => ?_)
  refine lv_aload_n hx hb d_L_law_1030 rfl (lv_at hl 3 rfl) ?_
  refine lv_aload_n hx hb d_L_law_1031 rfl (lv_at hl 1 rfl) ?_
  refine lv_iload hx hb d_L_law_1032 (lv_at hl 5 rfl) ?_
  refine lv_iconst (v := 1) hx hb d_L_law_1034 (by decide) ?_
  refine lv_iadd hx hb d_L_law_1035 ?_
  rw [show nI (5 * t) + 1 = nI (5 * t + 1) from nI_add _ 1]
  refine va_sld hx hb hX hbl hbA hS (i := nI (5 * t + 1)) (vp_in_nI (by omega) (by omega)) d_L_law_1036 ?_
  rw [nI_clamp (by omega)]
  have hM := hT.mv
  have hz := hT.hz
  obtain ⟨w9, hw9, hw9q⟩ : ∃ w9, w9 ≤ 100000 ∧ σ 0 0 = nI w9 := hT.1.2.2.2.2.2
  have hw9e : τ 0 3 = nI w9 := hT.1.2.2.1.trans hw9q
  have hPm := pm_mP hP
  have hDm := pm_mD hD
  have hFm := fr_A hDm hS hA
  refine va_calli (va_runV (As := [.int (xs (5 * t + 1))]) (rest := []) ⟨hx, hb, hml, hown, hts⟩ (c_M_tick l D cs am τ n nm hM w9 hw9 hw9e H_1.size (xs (5 * t + 1))) (cwV 1 hts (gw_V kw_758 kw_759 kw_760 kw_6 kw_761) rfl rfl rfl (by decide +kernel) ⟨Nat.le_of_ble_eq_true rfl, Nat.le_of_ble_eq_true rfl⟩) ⟨wr_blind, rl_recv hK (fr_l hPm) (by decide) gM_0 rfl, fun U hU hW => ⟨rfl, by rw [hU], by rw [hU]; exact fr_l hPm, va_K.moved hW.alike hK, (fr_dl hDm).weaken (fun _ _ _ _ => trivial)⟩⟩ rfl rfl hl.1 rfl (lv_room (Nat.le_of_ble_eq_true rfl)) d_L_law_1037 ⟨by show _ ≤ 600002; omega, by show _ ≤ 7302232; omega⟩) hS (fun q _ h => hFm q h) hFm (fun rm_5 um_6 t9 H_4 locs ht hvm hw hB hz1 hk1 hS => ?_)
  have hm : mr_tick τ n nm w9 (xs (5 * t + 1)) rm_5 um_6 := hw
  obtain ⟨hP1, -, hD1⟩ := hB
  rw [ht] at hP1
  obtain ⟨hPm, hDm⟩ := fr_join hPm hDm hk1 hFm hP1 hD1
  have hP := pm_mP hPm
  have hD := pm_mD hDm
  replace hP : va_P D cls_ (wL cs ad s1 n nm ci cj E am um_6 o f1) H_4 := hP
  replace hD : va_D (AL s) (wL cs ad s1 n nm ci cj E am um_6 o f1) := hD
  obtain ⟨hk0, hr0, hT⟩ := tt_tick hT hw9 hw9e hc hm
  refine lv_istore (lv' := [(6, .int rm_5), (5, .int kc_2), (0, .ref b), (1, .ref (ad 0)), (2, .ref (am 0)), (3, .ref o), (4, .int (nI (5 * t)))]) hx hb d_L_law_1040 hl (by decide) rfl (fun ls hl => ?_)
  refine lv_aload_n hx hb d_L_law_1042 rfl (lv_at hl 4 rfl) ?_
  have hPm := pm_mP hP
  refine vp_callSi (W.runV (As := []) (rest := []) ⟨hx, hb, hml, hown, hts⟩ (c_M_thrown l D cs am um_6 n nm hT.mv) (cwV 0 hts (gw_V kw_657 kw_658 kw_659 kw_6 kw_660) rfl rfl rfl (by decide +kernel) ⟨Nat.le_of_ble_eq_true rfl, Nat.le_of_ble_eq_true rfl⟩) (rd_V (fr_l hPm) hK (rl_recv hK (fr_l hPm) (by decide) gM_0 rfl)) rfl rfl hl.1 rfl (lv_room (Nat.le_of_ble_eq_true rfl)) d_L_law_1043 ⟨by show _ ≤ 600002; omega, by show _ ≤ 7302232; omega⟩) (fun r_7 h_8 => ?_)
  subst h_8
  rw [hk0]
  refine lv_iload hx hb d_L_law_1046 (lv_at hl 1 rfl) ?_
  refine lv_icmp_eq (tgt := 1053) hx hb d_L_law_1048 (by decide) (fun _ => ?_) (fun c9 => absurd (rfl) c9)
  refine lv_iload hx hb d_L_law_1053 (lv_at hl 1 rfl) ?_
  refine lv_if_ne (tgt := 1070) hx hb d_L_law_1055 (by decide) (fun c_9 => ?_) (fun c_9 => ?_)
  · refine lv_goto (tgt := 1222) hx hb d_L_law_1070 (by decide) ?_
    exact lp_next C hn ht5 (lv_sub hl [2, 3, 4, 5, 6] rfl) hI hT hP hD hS (by omega) (by omega)
  · refine lv_aload_n hx hb d_L_law_1058 rfl (lv_at hl 5 rfl) ?_
    refine lv_iconst (v := 0) hx hb d_L_law_1059 (by decide) ?_
    have hPo := hP
    rw [show (wL cs ad s1 n nm ci cj E am um_6 o f1) = (wC cs ad s1 n nm ci cj E ++ wM cs am um_6) ++ [(o, outc cs f1)] from (List.append_assoc _ _ _).symm] at hPo
    refine lo_lald hx hb hK hPo d_L_law_1060 ?_
    refine lv_iload hx hb d_L_law_1061 (lv_at hl 0 rfl) ?_
    refine lv_i2l hx hb d_L_law_1063 rfl ?_
    rw [hfo c_9, hr0 c_9]
    refine W.lcmp hx hb d_L_law_1064 ?_
    refine lv_if_eq (tgt := 1070) hx hb d_L_law_1065 (by decide) (fun _ => ?_) (fun c9 => absurd ((lg_cmp_eq _ _).mpr rfl) c9)
    refine lv_goto (tgt := 1222) hx hb d_L_law_1070 (by decide) ?_
    exact lp_next C hn ht5 (lv_sub hl [2, 3, 4, 5, 6] rfl) hI hT hP hD hS (by omega) (by omega)
set_option maxHeartbeats 4000000 in
set_option maxRecDepth 100000 in
theorem lc_14 {p : Program} {l : Launch} {e : Env} {s : State} {m : MethodId} {below : List Frame} {meth : Method} {c : Code} {b L : Nat} {xs : Nat → Int32} {D : va_G} {cs : Nat → ClassId} {mi E : Nat} (C : lw_C p l s m meth c b L xs D cs mi E 5) {t : Nat} (hn : lpH 23 p l e s m below meth c b L D cs E (t + 1)) (ht5 : 5 * t + 5 ≤ L) {ls : Array Slot} {H : Heap} {locs : List Loc} {ad am : Nat → Nat} {σ τ : Nat → Nat → Int32} {n nm ci cj o : Nat} {f : Nat → Int64} (hl : lv_has ls 7 [(0, .ref b), (1, .ref (ad 0)), (2, .ref (am 0)), (3, .ref o), (4, .int (nI (5 * t)))]) (hI : Iv n nm ci cj) (hT : TT σ τ n nm) (ht0 : t = 0 → nm = 0) (hP : va_P D cls_ (wL cs ad σ n nm ci cj E am τ o f) H) (hD : va_D (AL s) (wL cs ad σ n nm ci cj E am τ o f)) (hS : va_S (AL s) s.heap H locs) : W p l e room_1 s m #[Value.ref b] below meth c H locs (43 + 4 * t) (978 + 120 * t) (lw_Z below #[Value.ref b] s) (F0 m 1073 ls []) := by
  have C9 := C
  obtain ⟨hx, hb, hr, hml, hown, hG, hX, hbl, hlocks, hK, hXk, hZ, hg, hE, hnc, hst, hLN⟩ := C9
  have hA : ∀ q : Nat, s.heap.size ≤ q → AL s q := fun _ h => h
  have hbA : ¬ AL s b := Nat.not_le.mpr hbl
  have hts : ∀ w ∈ (Cond.initialized "InspectSteps" :: GW), w.before #[Value.ref b] s = true := List.forall_mem_cons.mpr ⟨hG _ kw_1, hG⟩
  refine lv_aload_n hx hb d_L_law_1073 rfl (lv_at hl 1 rfl) ?_
  refine lv_aload_n hx hb d_L_law_1074 rfl (lv_at hl 0 rfl) ?_
  refine lv_iload hx hb d_L_law_1075 (lv_at hl 4 rfl) ?_
  refine lv_iconst (v := 1) hx hb d_L_law_1077 (by decide) ?_
  refine lv_iadd hx hb d_L_law_1078 ?_
  rw [show nI (5 * t) + 1 = nI (5 * t + 1) from nI_add _ 1]
  refine va_sld hx hb hX hbl hbA hS (i := nI (5 * t + 1)) (vp_in_nI (by omega) (by omega)) d_L_law_1079 ?_
  rw [nI_clamp (by omega)]
  refine lv_aload_n hx hb d_L_law_1080 rfl (lv_at hl 3 rfl) ?_
  have hPh := pm_hP hP
  have hDh := pm_hD hD
  have hFh := fr_A hDh hS hA
  refine va_calli (vx_runSW (As := [.ref (ad 0), .int (xs (5 * t + 1)), .ref o]) (rest := []) ⟨hx, hb, hml, hown, hts⟩ (c_L_release l D cs ad σ n nm ci cj E hI hT.jv mi hst o f H.size (xs (5 * t + 1))) (vx_cwSW 3 hts (gw_SW kw_529 kw_530 kw_0 kw_531) rfl rfl rfl (by decide +kernel) ⟨Nat.le_of_ble_eq_true rfl, Nat.le_of_ble_eq_true rfl⟩) ⟨hp_blind, fun U hU hW => ⟨rfl, by rw [hU], by rw [hU]; exact fr_l hPh, va_K.moved hW.alike hK, (fr_dl hDh).weaken (fun _ _ _ _ => trivial), hXk.warm hW, by rw [hU]; exact ((hZ.kept (fun q h1 h2 => hS.2.1 q h1 h2)).moved hW.alike).narrow hFh, hg.moved hW.alike, by rw [hU]; exact ((hE.kept (fun q h1 h2 => hS.2.1 q h1 h2)).moved hW.alike).narrow hFh, va_Nc.moved hW.alike hnc⟩⟩ rfl rfl hl.1 rfl (lv_room (Nat.le_of_ble_eq_true rfl)) d_L_law_1081 ⟨by show _ ≤ 600002; omega, by show _ ≤ 7302232; omega⟩) hS (fun q _ h => hFh q h) hFh (fun kc_2 uc t9 H_1 locs ht hvm hw hB hz1 hk1 hS => ?_)
  obtain ⟨rc_3, hc, hfo⟩ := hw
  obtain ⟨hP1, -, hD1⟩ := hB
  rw [ht] at hP1
  obtain ⟨hPh, hDh⟩ := fr_join hPh hDh hk1 hFh hP1 hD1
  have hP := pm_hP' hPh
  have hD := pm_hD' hDh
  obtain ⟨s1, f1⟩ := uc
  replace hfo : kc_2 = 0 → f1 0 = rc_3.toInt64 := hfo
  replace hP : va_P D cls_ (wL cs ad s1 n nm ci cj E am τ o f1) H_1 := hP
  replace hD : va_D (AL s) (wL cs ad s1 n nm ci cj E am τ o f1) := hD
  refine lv_istore (lv' := [(5, .int kc_2), (0, .ref b), (1, .ref (ad 0)), (2, .ref (am 0)), (3, .ref o), (4, .int (nI (5 * t)))]) hx hb d_L_law_1084 hl (by decide) rfl (fun ls hl => ?_)
  refine lv_aload_n hx hb d_L_law_1086 rfl (lv_at hl 3 rfl) ?_
  refine lv_aload_n hx hb d_L_law_1087 rfl (lv_at hl 1 rfl) ?_
  refine lv_iload hx hb d_L_law_1088 (lv_at hl 5 rfl) ?_
  refine lv_iconst (v := 1) hx hb d_L_law_1090 (by decide) ?_
  refine lv_iadd hx hb d_L_law_1091 ?_
  rw [show nI (5 * t) + 1 = nI (5 * t + 1) from nI_add _ 1]
  refine va_sld hx hb hX hbl hbA hS (i := nI (5 * t + 1)) (vp_in_nI (by omega) (by omega)) d_L_law_1092 ?_
  rw [nI_clamp (by omega)]
  have hM := hT.mv
  have hz := hT.hz
  have hPm := pm_mP hP
  have hDm := pm_mD hD
  have hFm := fr_A hDm hS hA
  refine va_calli (va_runV (As := [.int (xs (5 * t + 1))]) (rest := []) ⟨hx, hb, hml, hown, hts⟩ (c_M_release l D cs am τ n nm hM H_1.size (xs (5 * t + 1))) (cwV 1 hts (gw_V kw_762 kw_763 kw_764 kw_6 kw_765) rfl rfl rfl (by decide +kernel) ⟨Nat.le_of_ble_eq_true rfl, Nat.le_of_ble_eq_true rfl⟩) ⟨wr_blind, rl_recv hK (fr_l hPm) (by decide) gM_0 rfl, fun U hU hW => ⟨rfl, by rw [hU], by rw [hU]; exact fr_l hPm, va_K.moved hW.alike hK, (fr_dl hDm).weaken (fun _ _ _ _ => trivial)⟩⟩ rfl rfl hl.1 rfl (lv_room (Nat.le_of_ble_eq_true rfl)) d_L_law_1093 ⟨by show _ ≤ 600002; omega, by show _ ≤ 7302232; omega⟩) hS (fun q _ h => hFm q h) hFm (fun rm_5 um_6 t9 H_4 locs ht hvm hw hB hz1 hk1 hS => ?_)
  have hm : mr_release τ n nm (xs (5 * t + 1)) rm_5 um_6 := hw
  obtain ⟨hP1, -, hD1⟩ := hB
  rw [ht] at hP1
  obtain ⟨hPm, hDm⟩ := fr_join hPm hDm hk1 hFm hP1 hD1
  have hP := pm_mP hPm
  have hD := pm_mD hDm
  replace hP : va_P D cls_ (wL cs ad s1 n nm ci cj E am um_6 o f1) H_4 := hP
  replace hD : va_D (AL s) (wL cs ad s1 n nm ci cj E am um_6 o f1) := hD
  obtain ⟨hk0, hr0, hT⟩ := tt_release hT hc hm
  refine lv_istore (lv' := [(6, .int rm_5), (5, .int kc_2), (0, .ref b), (1, .ref (ad 0)), (2, .ref (am 0)), (3, .ref o), (4, .int (nI (5 * t)))]) hx hb d_L_law_1096 hl (by decide) rfl (fun ls hl => ?_)
  refine lv_aload_n hx hb d_L_law_1098 rfl (lv_at hl 4 rfl) ?_
  have hPm := pm_mP hP
  refine vp_callSi (W.runV (As := []) (rest := []) ⟨hx, hb, hml, hown, hts⟩ (c_M_thrown l D cs am um_6 n nm hT.mv) (cwV 0 hts (gw_V kw_657 kw_658 kw_659 kw_6 kw_660) rfl rfl rfl (by decide +kernel) ⟨Nat.le_of_ble_eq_true rfl, Nat.le_of_ble_eq_true rfl⟩) (rd_V (fr_l hPm) hK (rl_recv hK (fr_l hPm) (by decide) gM_0 rfl)) rfl rfl hl.1 rfl (lv_room (Nat.le_of_ble_eq_true rfl)) d_L_law_1099 ⟨by show _ ≤ 600002; omega, by show _ ≤ 7302232; omega⟩) (fun r_7 h_8 => ?_)
  subst h_8
  rw [hk0]
  refine lv_iload hx hb d_L_law_1102 (lv_at hl 1 rfl) ?_
  refine lv_icmp_eq (tgt := 1109) hx hb d_L_law_1104 (by decide) (fun _ => ?_) (fun c9 => absurd (rfl) c9)
  refine lv_iload hx hb d_L_law_1109 (lv_at hl 1 rfl) ?_
  refine lv_if_ne (tgt := 1126) hx hb d_L_law_1111 (by decide) (fun c_9 => ?_) (fun c_9 => ?_)
  · refine lv_goto (tgt := 1222) hx hb d_L_law_1126 (by decide) ?_
    exact lp_next C hn ht5 (lv_sub hl [2, 3, 4, 5, 6] rfl) hI hT hP hD hS (by omega) (by omega)
  · refine lv_aload_n hx hb d_L_law_1114 rfl (lv_at hl 5 rfl) ?_
    refine lv_iconst (v := 0) hx hb d_L_law_1115 (by decide) ?_
    have hPo := hP
    rw [show (wL cs ad s1 n nm ci cj E am um_6 o f1) = (wC cs ad s1 n nm ci cj E ++ wM cs am um_6) ++ [(o, outc cs f1)] from (List.append_assoc _ _ _).symm] at hPo
    refine lo_lald hx hb hK hPo d_L_law_1116 ?_
    refine lv_iload hx hb d_L_law_1117 (lv_at hl 0 rfl) ?_
    refine lv_i2l hx hb d_L_law_1119 rfl ?_
    rw [hfo c_9, hr0 c_9]
    refine W.lcmp hx hb d_L_law_1120 ?_
    refine lv_if_eq (tgt := 1126) hx hb d_L_law_1121 (by decide) (fun _ => ?_) (fun c9 => absurd ((lg_cmp_eq _ _).mpr rfl) c9)
    refine lv_goto (tgt := 1222) hx hb d_L_law_1126 (by decide) ?_
    exact lp_next C hn ht5 (lv_sub hl [2, 3, 4, 5, 6] rfl) hI hT hP hD hS (by omega) (by omega)
set_option maxHeartbeats 4000000 in
set_option maxRecDepth 100000 in
theorem lc_15 {p : Program} {l : Launch} {e : Env} {s : State} {m : MethodId} {below : List Frame} {meth : Method} {c : Code} {b L : Nat} {xs : Nat → Int32} {D : va_G} {cs : Nat → ClassId} {mi E : Nat} (C : lw_C p l s m meth c b L xs D cs mi E 5) {t : Nat} (hn : lpH 23 p l e s m below meth c b L D cs E (t + 1)) (ht5 : 5 * t + 5 ≤ L) {ls : Array Slot} {H : Heap} {locs : List Loc} {ad am : Nat → Nat} {σ τ : Nat → Nat → Int32} {n nm ci cj o : Nat} {f : Nat → Int64} (hl : lv_has ls 7 [(0, .ref b), (1, .ref (ad 0)), (2, .ref (am 0)), (3, .ref o), (4, .int (nI (5 * t)))]) (hI : Iv n nm ci cj) (hT : TT σ τ n nm) (ht0 : t = 0 → nm = 0) (hP : va_P D cls_ (wL cs ad σ n nm ci cj E am τ o f) H) (hD : va_D (AL s) (wL cs ad σ n nm ci cj E am τ o f)) (hS : va_S (AL s) s.heap H locs) : W p l e room_1 s m #[Value.ref b] below meth c H locs (43 + 4 * t) (978 + 120 * t) (lw_Z below #[Value.ref b] s) (F0 m 1129 ls []) := by
  have C9 := C
  obtain ⟨hx, hb, hr, hml, hown, hG, hX, hbl, hlocks, hK, hXk, hZ, hg, hE, hnc, hst, hLN⟩ := C9
  have hA : ∀ q : Nat, s.heap.size ≤ q → AL s q := fun _ h => h
  have hbA : ¬ AL s b := Nat.not_le.mpr hbl
  have hts : ∀ w ∈ (Cond.initialized "InspectSteps" :: GW), w.before #[Value.ref b] s = true := List.forall_mem_cons.mpr ⟨hG _ kw_1, hG⟩
  refine lv_aload_n hx hb d_L_law_1129 rfl (lv_at hl 1 rfl) ?_
  refine lv_aload_n hx hb d_L_law_1130 rfl (lv_at hl 0 rfl) ?_
  refine lv_iload hx hb d_L_law_1131 (lv_at hl 4 rfl) ?_
  refine lv_iconst (v := 1) hx hb d_L_law_1133 (by decide) ?_
  refine lv_iadd hx hb d_L_law_1134 ?_
  rw [show nI (5 * t) + 1 = nI (5 * t + 1) from nI_add _ 1]
  refine va_sld hx hb hX hbl hbA hS (i := nI (5 * t + 1)) (vp_in_nI (by omega) (by omega)) d_L_law_1135 ?_
  rw [nI_clamp (by omega)]
  refine lv_aload_n hx hb d_L_law_1136 rfl (lv_at hl 0 rfl) ?_
  refine lv_iload hx hb d_L_law_1137 (lv_at hl 4 rfl) ?_
  refine lv_iconst (v := 2) hx hb d_L_law_1139 (by decide) ?_
  refine lv_iadd hx hb d_L_law_1140 ?_
  rw [show nI (5 * t) + 2 = nI (5 * t + 2) from nI_add _ 2]
  refine va_sld hx hb hX hbl hbA hS (i := nI (5 * t + 2)) (vp_in_nI (by omega) (by omega)) d_L_law_1141 ?_
  rw [nI_clamp (by omega)]
  refine lv_aload_n hx hb d_L_law_1142 rfl (lv_at hl 3 rfl) ?_
  have hPh := pm_hP hP
  have hDh := pm_hD hD
  have hFh := fr_A hDh hS hA
  refine va_calli (vx_runSW (As := [.ref (ad 0), .int (xs (5 * t + 1)), .int (xs (5 * t + 2)), .ref o]) (rest := []) ⟨hx, hb, hml, hown, hts⟩ (c_L_look l D cs ad σ n nm ci cj E hI hT.jv mi hst o f H.size (xs (5 * t + 1)) (xs (5 * t + 2))) (vx_cwSW 4 hts (gw_SW kw_549 kw_550 kw_0 kw_551) rfl rfl rfl (by decide +kernel) ⟨Nat.le_of_ble_eq_true rfl, Nat.le_of_ble_eq_true rfl⟩) ⟨hp_blind, fun U hU hW => ⟨rfl, by rw [hU], by rw [hU]; exact fr_l hPh, va_K.moved hW.alike hK, (fr_dl hDh).weaken (fun _ _ _ _ => trivial), hXk.warm hW, by rw [hU]; exact ((hZ.kept (fun q h1 h2 => hS.2.1 q h1 h2)).moved hW.alike).narrow hFh, hg.moved hW.alike, by rw [hU]; exact ((hE.kept (fun q h1 h2 => hS.2.1 q h1 h2)).moved hW.alike).narrow hFh, va_Nc.moved hW.alike hnc⟩⟩ rfl rfl hl.1 rfl (lv_room (Nat.le_of_ble_eq_true rfl)) d_L_law_1143 ⟨by show _ ≤ 600002; omega, by show _ ≤ 7302232; omega⟩) hS (fun q _ h => hFh q h) hFh (fun kc_2 uc t9 H_1 locs ht hvm hw hB hz1 hk1 hS => ?_)
  obtain ⟨rc_3, hc, hfo⟩ := hw
  obtain ⟨hP1, -, hD1⟩ := hB
  rw [ht] at hP1
  obtain ⟨hPh, hDh⟩ := fr_join hPh hDh hk1 hFh hP1 hD1
  have hP := pm_hP' hPh
  have hD := pm_hD' hDh
  obtain ⟨s1, f1⟩ := uc
  replace hfo : kc_2 = 0 → f1 0 = rc_3.toInt64 := hfo
  replace hP : va_P D cls_ (wL cs ad s1 n nm ci cj E am τ o f1) H_1 := hP
  replace hD : va_D (AL s) (wL cs ad s1 n nm ci cj E am τ o f1) := hD
  refine lv_istore (lv' := [(5, .int kc_2), (0, .ref b), (1, .ref (ad 0)), (2, .ref (am 0)), (3, .ref o), (4, .int (nI (5 * t)))]) hx hb d_L_law_1146 hl (by decide) rfl (fun ls hl => ?_)
  refine lv_aload_n hx hb d_L_law_1148 rfl (lv_at hl 3 rfl) ?_
  refine lv_aload_n hx hb d_L_law_1149 rfl (lv_at hl 1 rfl) ?_
  refine lv_iload hx hb d_L_law_1150 (lv_at hl 5 rfl) ?_
  refine lv_iconst (v := 1) hx hb d_L_law_1152 (by decide) ?_
  refine lv_iadd hx hb d_L_law_1153 ?_
  rw [show nI (5 * t) + 1 = nI (5 * t + 1) from nI_add _ 1]
  refine va_sld hx hb hX hbl hbA hS (i := nI (5 * t + 1)) (vp_in_nI (by omega) (by omega)) d_L_law_1154 ?_
  rw [nI_clamp (by omega)]
  refine lv_aload_n hx hb d_L_law_1155 rfl (lv_at hl 1 rfl) ?_
  refine lv_iload hx hb d_L_law_1156 (lv_at hl 5 rfl) ?_
  refine lv_iconst (v := 2) hx hb d_L_law_1158 (by decide) ?_
  refine lv_iadd hx hb d_L_law_1159 ?_
  rw [show nI (5 * t) + 2 = nI (5 * t + 2) from nI_add _ 2]
  refine va_sld hx hb hX hbl hbA hS (i := nI (5 * t + 2)) (vp_in_nI (by omega) (by omega)) d_L_law_1160 ?_
  rw [nI_clamp (by omega)]
  have hM := hT.mv
  have hz := hT.hz
  have hPm := pm_mP hP
  have hDm := pm_mD hD
  have hFm := fr_A hDm hS hA
  refine va_calli (va_runV (As := [.int (xs (5 * t + 1)), .int (xs (5 * t + 2))]) (rest := []) ⟨hx, hb, hml, hown, hts⟩ (c_M_look l D cs am τ n nm hM H_1.size (xs (5 * t + 1)) (xs (5 * t + 2))) (cwV 2 hts (gw_V kw_770 kw_771 kw_772 kw_6 kw_773) rfl rfl rfl (by decide +kernel) ⟨Nat.le_of_ble_eq_true rfl, Nat.le_of_ble_eq_true rfl⟩) ⟨wr_blind, rl_recv hK (fr_l hPm) (by decide) gM_0 rfl, fun U hU hW => ⟨rfl, by rw [hU], by rw [hU]; exact fr_l hPm, va_K.moved hW.alike hK, (fr_dl hDm).weaken (fun _ _ _ _ => trivial)⟩⟩ rfl rfl hl.1 rfl (lv_room (Nat.le_of_ble_eq_true rfl)) d_L_law_1161 ⟨by show _ ≤ 600002; omega, by show _ ≤ 7302232; omega⟩) hS (fun q _ h => hFm q h) hFm (fun rm_5 um_6 t9 H_4 locs ht hvm hw hB hz1 hk1 hS => ?_)
  have hm : mr_look τ n nm (xs (5 * t + 1)) (xs (5 * t + 2)) rm_5 um_6 := hw
  obtain ⟨hP1, -, hD1⟩ := hB
  rw [ht] at hP1
  obtain ⟨hPm, hDm⟩ := fr_join hPm hDm hk1 hFm hP1 hD1
  have hP := pm_mP hPm
  have hD := pm_mD hDm
  replace hP : va_P D cls_ (wL cs ad s1 n nm ci cj E am um_6 o f1) H_4 := hP
  replace hD : va_D (AL s) (wL cs ad s1 n nm ci cj E am um_6 o f1) := hD
  obtain ⟨hk0, hr0, hT⟩ := tt_look hT hc hm
  refine lv_istore (lv' := [(6, .int rm_5), (5, .int kc_2), (0, .ref b), (1, .ref (ad 0)), (2, .ref (am 0)), (3, .ref o), (4, .int (nI (5 * t)))]) hx hb d_L_law_1164 hl (by decide) rfl (fun ls hl => ?_)
  refine lv_aload_n hx hb d_L_law_1166 rfl (lv_at hl 4 rfl) ?_
  have hPm := pm_mP hP
  refine vp_callSi (W.runV (As := []) (rest := []) ⟨hx, hb, hml, hown, hts⟩ (c_M_thrown l D cs am um_6 n nm hT.mv) (cwV 0 hts (gw_V kw_657 kw_658 kw_659 kw_6 kw_660) rfl rfl rfl (by decide +kernel) ⟨Nat.le_of_ble_eq_true rfl, Nat.le_of_ble_eq_true rfl⟩) (rd_V (fr_l hPm) hK (rl_recv hK (fr_l hPm) (by decide) gM_0 rfl)) rfl rfl hl.1 rfl (lv_room (Nat.le_of_ble_eq_true rfl)) d_L_law_1167 ⟨by show _ ≤ 600002; omega, by show _ ≤ 7302232; omega⟩) (fun r_7 h_8 => ?_)
  subst h_8
  rw [hk0]
  refine lv_iload hx hb d_L_law_1170 (lv_at hl 1 rfl) ?_
  refine lv_icmp_eq (tgt := 1177) hx hb d_L_law_1172 (by decide) (fun _ => ?_) (fun c9 => absurd (rfl) c9)
  refine lv_iload hx hb d_L_law_1177 (lv_at hl 1 rfl) ?_
  refine lv_if_ne (tgt := 1194) hx hb d_L_law_1179 (by decide) (fun c_9 => ?_) (fun c_9 => ?_)
  · refine lv_goto (tgt := 1222) hx hb d_L_law_1194 (by decide) ?_
    exact lp_next C hn ht5 (lv_sub hl [2, 3, 4, 5, 6] rfl) hI hT hP hD hS (by omega) (by omega)
  · refine lv_aload_n hx hb d_L_law_1182 rfl (lv_at hl 5 rfl) ?_
    refine lv_iconst (v := 0) hx hb d_L_law_1183 (by decide) ?_
    have hPo := hP
    rw [show (wL cs ad s1 n nm ci cj E am um_6 o f1) = (wC cs ad s1 n nm ci cj E ++ wM cs am um_6) ++ [(o, outc cs f1)] from (List.append_assoc _ _ _).symm] at hPo
    refine lo_lald hx hb hK hPo d_L_law_1184 ?_
    refine lv_iload hx hb d_L_law_1185 (lv_at hl 0 rfl) ?_
    refine lv_i2l hx hb d_L_law_1187 rfl ?_
    rw [hfo c_9, hr0 c_9]
    refine W.lcmp hx hb d_L_law_1188 ?_
    refine lv_if_eq (tgt := 1194) hx hb d_L_law_1189 (by decide) (fun _ => ?_) (fun c9 => absurd ((lg_cmp_eq _ _).mpr rfl) c9)
    refine lv_goto (tgt := 1222) hx hb d_L_law_1194 (by decide) ?_
    exact lp_next C hn ht5 (lv_sub hl [2, 3, 4, 5, 6] rfl) hI hT hP hD hS (by omega) (by omega)
set_option maxHeartbeats 4000000 in
set_option maxRecDepth 100000 in
theorem lc_16 {p : Program} {l : Launch} {e : Env} {s : State} {m : MethodId} {below : List Frame} {meth : Method} {c : Code} {b L : Nat} {xs : Nat → Int32} {D : va_G} {cs : Nat → ClassId} {mi E : Nat} (C : lw_C p l s m meth c b L xs D cs mi E 5) {t : Nat} (hn : lpH 23 p l e s m below meth c b L D cs E (t + 1)) (ht5 : 5 * t + 5 ≤ L) {ls : Array Slot} {H : Heap} {locs : List Loc} {ad am : Nat → Nat} {σ τ : Nat → Nat → Int32} {n nm ci cj o : Nat} {f : Nat → Int64} (hl : lv_has ls 7 [(0, .ref b), (1, .ref (ad 0)), (2, .ref (am 0)), (3, .ref o), (4, .int (nI (5 * t)))]) (hI : Iv n nm ci cj) (hT : TT σ τ n nm) (ht0 : t = 0 → nm = 0) (hP : va_P D cls_ (wL cs ad σ n nm ci cj E am τ o f) H) (hD : va_D (AL s) (wL cs ad σ n nm ci cj E am τ o f)) (hS : va_S (AL s) s.heap H locs) : W p l e room_1 s m #[Value.ref b] below meth c H locs (43 + 4 * t) (978 + 120 * t) (lw_Z below #[Value.ref b] s) (F0 m 1197 ls []) := by
  have C9 := C
  obtain ⟨hx, hb, hr, hml, hown, hG, hX, hbl, hlocks, hK, hXk, hZ, hg, hE, hnc, hst, hLN⟩ := C9
  have hA : ∀ q : Nat, s.heap.size ≤ q → AL s q := fun _ h => h
  have hbA : ¬ AL s b := Nat.not_le.mpr hbl
  have hts : ∀ w ∈ (Cond.initialized "InspectSteps" :: GW), w.before #[Value.ref b] s = true := List.forall_mem_cons.mpr ⟨hG _ kw_1, hG⟩
  refine lv_aload_n hx hb d_L_law_1197 rfl (lv_at hl 1 rfl) ?_
  refine lv_aload_n hx hb d_L_law_1198 rfl (lv_at hl 0 rfl) ?_
  refine lv_iload hx hb d_L_law_1199 (lv_at hl 4 rfl) ?_
  refine lv_iconst (v := 1) hx hb d_L_law_1201 (by decide) ?_
  refine lv_iadd hx hb d_L_law_1202 ?_
  rw [show nI (5 * t) + 1 = nI (5 * t + 1) from nI_add _ 1]
  refine va_sld hx hb hX hbl hbA hS (i := nI (5 * t + 1)) (vp_in_nI (by omega) (by omega)) d_L_law_1203 ?_
  rw [nI_clamp (by omega)]
  refine vp_callSi (W.runV (As := [.int (xs (5 * t + 1))]) (rest := []) ⟨hx, hb, hml, hown, hts⟩ (c_C_count l D cs ad σ n nm ci cj E hI hT.jv (xs (5 * t + 1))) (cwV 1 hts (gw_V kw_161 kw_162 kw_163 kw_1 kw_164) rfl rfl rfl (by decide +kernel) ⟨Nat.le_of_ble_eq_true rfl, Nat.le_of_ble_eq_true rfl⟩) (rd_V (fr_l hP) hK (rl_recv hK (fr_l hP) (RC_f (by decide)) gC_0 rfl)) rfl rfl hl.1 rfl (lv_room (Nat.le_of_ble_eq_true rfl)) d_L_law_1204 ⟨by show _ ≤ 600002; omega, by show _ ≤ 7302232; omega⟩) (fun r_1 h_2 => ?_)
  subst h_2
  refine lv_aload_n hx hb d_L_law_1207 rfl (lv_at hl 2 rfl) ?_
  refine lv_aload_n hx hb d_L_law_1208 rfl (lv_at hl 0 rfl) ?_
  refine lv_iload hx hb d_L_law_1209 (lv_at hl 4 rfl) ?_
  refine lv_iconst (v := 1) hx hb d_L_law_1211 (by decide) ?_
  refine lv_iadd hx hb d_L_law_1212 ?_
  rw [show nI (5 * t) + 1 = nI (5 * t + 1) from nI_add _ 1]
  refine va_sld hx hb hX hbl hbA hS (i := nI (5 * t + 1)) (vp_in_nI (by omega) (by omega)) d_L_law_1213 ?_
  rw [nI_clamp (by omega)]
  have hM := hT.mv
  have hz := hT.hz
  have hPm := pm_mP hP
  have hDm := pm_mD hD
  have hFm := fr_A hDm hS hA
  refine va_calli (va_runV (As := [.int (xs (5 * t + 1))]) (rest := [.int (cntF σ n nm (xs (5 * t + 1)))]) ⟨hx, hb, hml, hown, hts⟩ (c_M_count l D cs am τ n nm hM H.size (xs (5 * t + 1))) (cwV 1 hts (gw_V kw_778 kw_779 kw_780 kw_6 kw_781) rfl rfl rfl (by decide +kernel) ⟨Nat.le_of_ble_eq_true rfl, Nat.le_of_ble_eq_true rfl⟩) ⟨wr_blind, rl_recv hK (fr_l hPm) (by decide) gM_0 rfl, fun U hU hW => ⟨rfl, by rw [hU], by rw [hU]; exact fr_l hPm, va_K.moved hW.alike hK, (fr_dl hDm).weaken (fun _ _ _ _ => trivial)⟩⟩ rfl rfl hl.1 rfl (lv_room (Nat.le_of_ble_eq_true rfl)) d_L_law_1214 ⟨by show _ ≤ 600002; omega, by show _ ≤ 7302232; omega⟩) hS (fun q _ h => hFm q h) hFm (fun rm_4 um_5 t9 H_3 locs ht hvm hw hB hz1 hk1 hS => ?_)
  have hm : mr_count τ n nm (xs (5 * t + 1)) rm_4 um_5 := hw
  obtain ⟨hP1, -, hD1⟩ := hB
  rw [ht] at hP1
  obtain ⟨hPm, hDm⟩ := fr_join hPm hDm hk1 hFm hP1 hD1
  have hP := pm_mP hPm
  have hD := pm_mD hDm
  replace hP : va_P D cls_ (wL cs ad σ n nm ci cj E am um_5 o f) H_3 := hP
  replace hD : va_D (AL s) (wL cs ad σ n nm ci cj E am um_5 o f) := hD
  obtain ⟨he1, he2⟩ := hm
  have heq : rm_4 = cntF σ n nm (xs (5 * t + 1)) := he1.trans (tt_count hT).symm
  subst he2
  replace hT := tt_thr (x := 0) hT
  replace hP : va_P D cls_ (wL cs ad σ n nm ci cj E am (su τ 0 0 0) o f) H_3 := hP
  replace hD : va_D (AL s) (wL cs ad σ n nm ci cj E am (su τ 0 0 0) o f) := hD
  refine lv_icmp_eq (tgt := 1222) hx hb d_L_law_1217 (by decide) (fun _ => ?_) (fun c9 => absurd (heq.symm) c9)
  exact lp_next C hn ht5 (lv_sub hl [0, 1, 2, 3, 4] rfl) hI hT hP hD hS (by omega) (by omega)
