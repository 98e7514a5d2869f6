theorem lp_cmp {L t : Nat} (hL : L ≤ 100000) (ht : 5 * t ≤ L) : nI L - 5 < nI (5 * t) ↔ L < 5 * t + 5 := by
  rw [i32_lt, Int32.toInt_sub, nI_toInt (by omega), nI_toInt (by omega), i32_n5, Int.bmod_eq_of_le (by omega) (by omega)]
  omega
set_option maxHeartbeats 4000000 in
set_option maxRecDepth 100000 in
theorem lp_all {p : Program} {l : Launch} {e : Env} {s : State} {m : MethodId} {below : List Frame} {meth : Method} {c : Code} {b L : Nat} {xs : Nat → Int32} {D : va_G} {cs : Nat → ClassId} {mi E : Nat} (C : lw_C p l s m meth c b L xs D cs mi E 2560) : ∀ x t : Nat, L - 5 * t = x → lpH 23 p l e s m below meth c b L D cs E t := by
  intro x
  induction x using Nat.strongRecOn with
  | _ x ih =>
    intro t hx9 ls H locs ad am σ τ n nm ci cj o f hl h5 hI hT ht0 hP hD hS
    have C9 := C
    obtain ⟨hx, hb, hr, hml, hown, hG, hX, hbl, hlocks, hK, hXk, hZ, hg, hE, hnc, hst, hLN⟩ := C9
    have hA : ∀ q : Nat, s.heap.size ≤ q → AL s q := fun _ h => h
    have hbA : ¬ AL s b := Nat.not_le.mpr hbl
    refine lv_iload hx hb d_L_law_23 (lv_at hl 4 rfl) ?_
    refine lv_aload_n hx hb d_L_law_25 rfl (lv_at hl 0 rfl) ?_
    refine va_slen hx hb hX hbl hbA hS d_L_law_26 ?_
    refine W.eq (g2 := F0 m 27 ls [.int (nI L), .int (nI (5 * t))]) rfl ?_
    refine lv_iconst (v := 5) hx hb d_L_law_27 (by decide) ?_
    refine lv_isub hx hb d_L_law_28 ?_
    refine lv_icmp_gt (tgt := 920) hx hb d_L_law_29 (by decide) (fun c1 => ?_) (fun c1 => ?_)
    · refine lv_iconst (v := 1) hx hb d_L_law_920 (by decide) ?_
      refine va_forget hS.2.2 ?_
      refine W.widen (k := 601024) (n := 7293034) (by omega) (by omega) ?_
      exact lw_ret hx hb hr hlocks d_L_law_921
    · have ht5 : 5 * t + 5 ≤ L := by have h9 : ¬ L < 5 * t + 5 := fun h8 => c1 ((lp_cmp (by omega) h5).mpr h8); omega
      have hn := ih (L - 5 * (t + 1)) (by omega) (t + 1) rfl
      refine lv_aload_n hx hb d_L_law_32 rfl (lv_at hl 0 rfl) ?_
      refine lv_iload hx hb d_L_law_33 (lv_at hl 4 rfl) ?_
      refine va_sld hx hb hX hbl hbA hS (i := nI (5 * t)) (vp_in_nI (by omega) (by omega)) d_L_law_35 ?_
      rw [nI_clamp (by omega)]
      refine lv_bipush (v := 31) hx hb d_L_law_36 (by decide) ?_
      refine lv_iand hx hb d_L_law_38 ?_
      generalize hsw : (xs (5 * t)) &&& 31 = sw
      by_cases e_0 : sw = 0
      · subst e_0
        refine lv_tableIn (x := 0) (tgt := 120) hx hb d_L_law_39 (by decide) (by decide) rfl (by decide) ?_
        exact lc_0 C hn ht5 hl hI hT ht0 hP hD hS
      by_cases e_1 : sw = 1
      · subst e_1
        refine lv_tableIn (x := 1) (tgt := 185) hx hb d_L_law_39 (by decide) (by decide) rfl (by decide) ?_
        exact lc_1 C hn ht5 hl hI hT ht0 hP hD hS
      by_cases e_2 : sw = 2
      · subst e_2
        refine lv_tableIn (x := 2) (tgt := 237) hx hb d_L_law_39 (by decide) (by decide) rfl (by decide) ?_
        exact lc_2 C hn ht5 hl hI hT ht0 hP hD hS
      by_cases e_3 : sw = 3
      · subst e_3
        refine lv_tableIn (x := 3) (tgt := 301) hx hb d_L_law_39 (by decide) (by decide) rfl (by decide) ?_
        exact lc_3 C hn ht5 hl hI hT ht0 hP hD hS
      by_cases e_4 : sw = 4
      · subst e_4
        refine lv_tableIn (x := 4) (tgt := 341) hx hb d_L_law_39 (by decide) (by decide) rfl (by decide) ?_
        exact lc_4 C hn ht5 hl hI hT ht0 hP hD hS
      by_cases e_5 : sw = 5
      · subst e_5
        refine lv_tableIn (x := 5) (tgt := 409) hx hb d_L_law_39 (by decide) (by decide) rfl (by decide) ?_
        exact lc_5 C hn ht5 hl hI hT ht0 hP hD hS
      by_cases e_6 : sw = 6
      · subst e_6
        refine lv_tableIn (x := 6) (tgt := 434) hx hb d_L_law_39 (by decide) (by decide) rfl (by decide) ?_
        exact lc_6 C hn ht5 hl hI hT ht0 hP hD hS
      by_cases e_7 : sw = 7
      · subst e_7
        refine lv_tableIn (x := 7) (tgt := 498) hx hb d_L_law_39 (by decide) (by decide) rfl (by decide) ?_
        exact lc_7 C hn ht5 hl hI hT ht0 hP hD hS
      by_cases e_8 : sw = 8
      · subst e_8
        refine lv_tableIn (x := 8) (tgt := 538) hx hb d_L_law_39 (by decide) (by decide) rfl (by decide) ?_
        exact lc_8 C hn ht5 hl hI hT ht0 hP hD hS
      by_cases e_9 : sw = 9
      · subst e_9
        refine lv_tableIn (x := 9) (tgt := 602) hx hb d_L_law_39 (by decide) (by decide) rfl (by decide) ?_
        exact lc_9 C hn ht5 hl hI hT ht0 hP hD hS
      by_cases e_10 : sw = 10
      · subst e_10
        refine lv_tableIn (x := 10) (tgt := 651) hx hb d_L_law_39 (by decide) (by decide) rfl (by decide) ?_
        exact lc_10 C hn ht5 hl hI hT ht0 hP hD hS
      by_cases e_11 : sw = 11
      · subst e_11
        refine lv_tableIn (x := 11) (tgt := 700) hx hb d_L_law_39 (by decide) (by decide) rfl (by decide) ?_
        exact lc_11 C hn ht5 hl hI hT ht0 hP hD hS
      by_cases e_12 : sw = 12
      · subst e_12
        refine lv_tableIn (x := 12) (tgt := 765) hx hb d_L_law_39 (by decide) (by decide) rfl (by decide) ?_
        exact lc_12 C hn ht5 hl hI hT ht0 hP hD hS
      by_cases e_13 : sw = 13
      · subst e_13
        refine lv_tableIn (x := 13) (tgt := 793) hx hb d_L_law_39 (by decide) (by decide) rfl (by decide) ?_
        exact lc_13 C hn ht5 hl hI hT ht0 hP hD hS
      by_cases e_14 : sw = 14
      · subst e_14
        refine lv_tableIn (x := 14) (tgt := 821) hx hb d_L_law_39 (by decide) (by decide) rfl (by decide) ?_
        exact lc_14 C hn ht5 hl hI hT ht0 hP hD hS
      by_cases e_15 : sw = 15
      · subst e_15
        refine lv_tableIn (x := 15) (tgt := 849) hx hb d_L_law_39 (by decide) (by decide) rfl (by decide) ?_
        exact lc_15 C hn ht5 hl hI hT ht0 hP hD hS
      by_cases e_16 : sw = 16
      · subst e_16
        refine lv_tableIn (x := 16) (tgt := 889) hx hb d_L_law_39 (by decide) (by decide) rfl (by decide) ?_
        exact lc_16 C hn ht5 hl hI hT ht0 hP hD hS
      refine lv_tableOut (tgt := 914) hx hb d_L_law_39 (by simp only [i32_eq, i32_lt, i32_le, i32_nm1, i32_n0, i32_n1, i32_n2, i32_n3, i32_n4, i32_n5, i32_n6, i32_n7, i32_n8, i32_n9, i32_n10, i32_n20, i32_n30, i32_n31, i32_n39, i32_n40, i32_n49, i32_n50, i32_n100, i32_n160, i32_n1000, i32_n100000, i32_n1000000, i32_n11, i32_n12, i32_n13, i32_n14, i32_n15, i32_n16] at e_0 e_1 e_2 e_3 e_4 e_5 e_6 e_7 e_8 e_9 e_10 e_11 e_12 e_13 e_14 e_15 e_16 ⊢; omega) (by decide) ?_
      exact lp_next C hn ht5 hl hI hT hP hD hS (by omega) (by omega)
theorem str_ok {args : Array Value} {s : State} {k : Nat} {tx : String} {cur : ClassId} (hcur : s.vm.findClass "InspectSteps" = some cur) (h : (Cond.stringRef "InspectSteps" k tx).before args s = true) : ∃ a : Nat, vk_R "InspectSteps" k tx a s := by
  obtain ⟨_, _, _, a, _, _, _, _, _, he⟩ := Cond.stringRef_spec hcur h
  exact ⟨a, vk_R.of h he⟩
set_option maxHeartbeats 4000000 in
set_option maxRecDepth 100000 in
theorem wl_ctx {p : Program} {l : Launch} {s : State} {m : MethodId} {meth : Method} {c : Code} {b L : Nat} {xs : Nat → Int32} (hst : l.stackTraces = false) (hL : L ≤ 2560) (C0 : lw_At p s m meth c b L xs) : ∃ (D : va_G) (cs : Nat → ClassId) (mi E : Nat), lw_C p l s m meth c b L xs D cs mi E 2560 ∧ ao_I s := by
  obtain ⟨hx, hb, hr, hml, hown, hts, hX, hbl, hlocks, hgv⟩ := C0
  have hG : ∀ w ∈ GW, w.before #[Value.ref b] s = true := fun w h => hts w (GW_in w h)
  have hAl : ∀ a : Nat, a < s.heap.size → ¬ AL s a := fun a h => Nat.not_le.mpr h
  have hs := flat_of_before _ hgv
  obtain ⟨c0, i0, k0⟩ := u_known (C := R_Al) (T := F_Al) (N := 3) (n := 3) hG in_Al (hG _ kw_29)
  obtain ⟨c1, i1, k1⟩ := u_known (C := R_C) (T := F_C) (N := 10) (n := 10) hG in_C (hG _ kw_21)
  obtain ⟨c2, i2, k2⟩ := u_known (C := R_I) (T := F_I) (N := 10) (n := 10) hG in_I (hG _ kw_282)
  obtain ⟨c3, i3, k3⟩ := u_known (C := R_S) (T := F_S) (N := 4) (n := 4) hG in_S (hG _ kw_463)
  obtain ⟨c4, i4, k4⟩ := u_known (C := R_M) (T := F_M) (N := 25) (n := 25) hG in_M (hG _ kw_576)
  obtain ⟨cI, kI, pI, a1, a2, a3⟩ := Cond.arrayClass_spec (hG _ kw_90)
  obtain ⟨cB, kB, pB, b1, b2, b3⟩ := Cond.arrayClass_spec (hG _ kw_486)
  obtain ⟨cJ, kJ, pJ, j1, j2, j3⟩ := Cond.arrayClass_spec (hG _ kw_782)
  have hAO : va_AO ob_N s := va_AO.of (hts _ (List.mem_append_right _ (List.mem_append_right _ (List.mem_append_left _ (List.mem_of_getElem? (i := 132) rfl)))))
  have hAI : ao_I s := ao_I.of (hts _ (List.mem_append_right _ (List.mem_append_left _ (List.mem_of_getElem? (i := 55) rfl))))
  obtain ⟨pO, cO, kO, o1, -, o2, o3, o4⟩ := Cond.arrayOver_spec hAO
  obtain ⟨pA, cA, kA, d1, d2, d3, d4⟩ := Cond.arrayOver_specA hAI
  obtain ⟨mi, hmi⟩ := va_Mi.of (hs (.isRef (.mirror "[Ljava/lang/Object;")) (by decide +kernel))
  obtain ⟨E, hEv, hET⟩ := va_Tof (tm := .static "java/util/ArrayList" "DEFAULTCAPACITY_EMPTY_ELEMENTDATA" "[Ljava/lang/Object;") (ty := .object ob_N) (N := 0) (f := fun _ => .null) (A := AL s) (by decide) (hs (.arrayOf (.static "java/util/ArrayList" "DEFAULTCAPACITY_EMPTY_ELEMENTDATA" "[Ljava/lang/Object;") (.object ob_N)) (by decide +kernel)) (va_eqt (hs (.eq (.length (.static "java/util/ArrayList" "DEFAULTCAPACITY_EMPTY_ELEMENTDATA" "[Ljava/lang/Object;")) (.int 0)) (by decide +kernel))) (fun j hj => absurd hj (Nat.not_lt_zero _)) hAl
  refine ⟨(fun k => if k = 0 then c0 else if k = 1 then c1 else if k = 2 then c2 else if k = 3 then c3 else c4, fun k => if k = 0 then i0 else if k = 1 then i1 else if k = 2 then i2 else if k = 3 then i3 else i4), fun k => if k = 0 then cI else if k = 1 then cB else if k = 2 then cO else if k = 3 then cA else cJ, mi, E, ⟨hx, hb, hr, hml, hown, hG, hX, hbl, hlocks, ⟨?_, ?_⟩, ⟨?_, ?_⟩, ?_, ⟨hmi, hAO, va_Dc.of (hts _ (List.mem_append_right _ (List.mem_append_right _ (List.mem_append_right _ (List.mem_append_right _ (List.mem_of_getElem? (i := 68) rfl)))))), va_Nw.of rfl (hts _ (List.mem_append_right _ (List.mem_append_right _ (List.mem_append_left _ (List.mem_of_getElem? (i := 127) rfl))))), va_Nw.of rfl (hts _ (List.mem_append_right _ (List.mem_append_right _ (List.mem_append_left _ (List.mem_of_getElem? (i := 139) rfl))))), va_Nw.of rfl (hts _ (List.mem_append_right _ (List.mem_append_right _ (List.mem_append_right _ (List.mem_append_right _ (List.mem_of_getElem? (i := 71) rfl)))))), va_Nw.of rfl (hts _ (List.mem_append_right _ (List.mem_append_right _ (List.mem_append_right _ (List.mem_append_right _ (List.mem_of_getElem? (i := 72) rfl))))))⟩, ⟨va_Zref (hts _ (List.mem_append_right _ (List.mem_append_left _ (List.mem_of_getElem? (i := 41) rfl)))) (hG _ kw_4) hEv hAl, hET⟩, va_Nc.of (hs (.not (.castable xe_S xe_A)) (by decide +kernel)), hst, hL⟩, hAI⟩
  · intro k q hq
    match k, hq with
    | 0, hq => cases hq; exact k0
    | 1, hq => cases hq; exact k1
    | 2, hq => cases hq; exact k2
    | 3, hq => cases hq; exact k3
    | 4, hq => cases hq; exact k4
    | k + 5, hq => simp [cls_] at hq
  · intro k q hq
    match k, hq with
    | 0, hq => cases hq; exact ⟨fun N z => ⟨(fun q hq => by cases hq), kI, a2, pI, a3⟩, a1⟩
    | 1, hq => cases hq; exact ⟨fun N z => ⟨(fun q hq => by cases hq), kB, b2, pB, b3⟩, b1⟩
    | 2, hq => cases hq; exact ⟨fun N z => ⟨(fun q hq => by cases hq), kO, o2, pO, o3⟩, kO, pO, o2, o3, o1, o4⟩
    | 3, hq => cases hq; exact ⟨fun N z => ⟨(fun q hq => by cases hq), kA, d2, pA, d3⟩, d4⟩
    | 4, hq => cases hq; exact ⟨fun N z => ⟨(fun q hq => by cases hq), kJ, j2, pJ, j3⟩, j1⟩
    | k + 5, hq => simp [tys_] at hq
  · exact ⟨va_Nw.of rfl (hts _ (List.mem_append_right _ (List.mem_append_left _ (List.mem_of_getElem? (i := 194) rfl)))), va_Nw.of rfl (hts _ (List.mem_append_right _ (List.mem_append_right _ (List.mem_append_left _ (List.mem_of_getElem? (i := 28) rfl))))), va_Nw.of rfl (hts _ (List.mem_append_right _ (List.mem_append_right _ (List.mem_append_right _ (List.mem_append_left _ (List.mem_of_getElem? (i := 79) rfl)))))), va_Nw.of rfl (hts _ (List.mem_append_right _ (List.mem_append_left _ (List.mem_of_getElem? (i := 196) rfl)))), va_Nw.of rfl (hts _ (List.mem_append_right _ (List.mem_append_left _ (List.mem_of_getElem? (i := 198) rfl)))), va_Nw.of rfl (hts _ (List.mem_append_right _ (List.mem_append_left _ (List.mem_of_getElem? (i := 200) rfl))))⟩
  · intro q hq
    simp only [xs_l, List.mem_cons, List.not_mem_nil, or_false] at hq
    rcases hq with rfl | rfl | rfl | rfl | rfl | rfl | rfl | rfl | rfl | rfl | rfl | rfl | rfl | rfl | rfl | rfl
    · exact str_ok k1.2.1 (hts _ (List.mem_append_right _ (List.mem_append_left _ (List.mem_of_getElem? (i := 233) rfl))))
    · exact str_ok k1.2.1 (hts _ (List.mem_append_right _ (List.mem_append_right _ (List.mem_append_left _ (List.mem_of_getElem? (i := 25) rfl)))))
    · exact str_ok k1.2.1 (hts _ (List.mem_append_right _ (List.mem_append_right _ (List.mem_append_left _ (List.mem_of_getElem? (i := 35) rfl)))))
    · exact str_ok k1.2.1 (hts _ (List.mem_append_right _ (List.mem_append_right _ (List.mem_append_left _ (List.mem_of_getElem? (i := 149) rfl)))))
    · exact str_ok k1.2.1 (hts _ (List.mem_append_right _ (List.mem_append_right _ (List.mem_append_left _ (List.mem_of_getElem? (i := 150) rfl)))))
    · exact str_ok k1.2.1 (hts _ (List.mem_append_right _ (List.mem_append_right _ (List.mem_append_left _ (List.mem_of_getElem? (i := 178) rfl)))))
    · exact str_ok k1.2.1 (hts _ (List.mem_append_right _ (List.mem_append_right _ (List.mem_append_left _ (List.mem_of_getElem? (i := 201) rfl)))))
    · exact str_ok k1.2.1 (hts _ (List.mem_append_right _ (List.mem_append_right _ (List.mem_append_left _ (List.mem_of_getElem? (i := 205) rfl)))))
    · exact str_ok k1.2.1 (hts _ (List.mem_append_right _ (List.mem_append_right _ (List.mem_append_left _ (List.mem_of_getElem? (i := 217) rfl)))))
    · exact str_ok k1.2.1 (hts _ (List.mem_append_right _ (List.mem_append_right _ (List.mem_append_left _ (List.mem_of_getElem? (i := 218) rfl)))))
    · exact str_ok k1.2.1 (hts _ (List.mem_append_right _ (List.mem_append_right _ (List.mem_append_right _ (List.mem_append_left _ (List.mem_of_getElem? (i := 14) rfl))))))
    · exact str_ok k1.2.1 (hts _ (List.mem_append_right _ (List.mem_append_right _ (List.mem_append_right _ (List.mem_append_left _ (List.mem_of_getElem? (i := 15) rfl))))))
    · exact str_ok k1.2.1 (hts _ (List.mem_append_right _ (List.mem_append_right _ (List.mem_append_right _ (List.mem_append_left _ (List.mem_of_getElem? (i := 23) rfl))))))
    · exact str_ok k1.2.1 (hts _ (List.mem_append_right _ (List.mem_append_right _ (List.mem_append_right _ (List.mem_append_left _ (List.mem_of_getElem? (i := 35) rfl))))))
    · exact str_ok k1.2.1 (hts _ (List.mem_append_right _ (List.mem_append_right _ (List.mem_append_right _ (List.mem_append_left _ (List.mem_of_getElem? (i := 86) rfl))))))
    · exact str_ok k1.2.1 (hts _ (List.mem_append_right _ (List.mem_append_right _ (List.mem_append_right _ (List.mem_append_left _ (List.mem_of_getElem? (i := 94) rfl))))))
  · exact ⟨vx_Zqof (hts _ (List.mem_append_right _ (List.mem_append_left _ (List.mem_of_getElem? (i := 219) rfl)))) (hG _ kw_7) (hs (.isRef (.static Bundle.tN "UNASSIGNED_STACK" Bundle.steD)) (by decide +kernel)) hAl, vx_Zqof (hts _ (List.mem_append_right _ (List.mem_append_left _ (List.mem_of_getElem? (i := 221) rfl)))) (hG _ kw_7) (hs (.isRef (.static Bundle.tN "SUPPRESSED_SENTINEL" Bundle.listD)) (by decide +kernel)) hAl⟩
set_option maxHeartbeats 4000000 in
set_option maxRecDepth 100000 in
theorem whole_start {p : Program} {e : Env} {s : State} {m : MethodId} {below : List Frame} {meth : Method} {c : Code} (l : Launch) (hst : l.stackTraces = false) {b L : Nat} {xs : Nat → Int32} (hL : L ≤ 2560) (C0 : lw_At p s m meth c b L xs) : W p l e room_1 s m #[Value.ref b] below meth c s.heap [] 0 0 (lw_Z below #[Value.ref b] s) (entryFrame m ([Value.ref b] : List Value).toArray 7) := by
  obtain ⟨D, cs, mi, E, C, hao⟩ := wl_ctx hst hL C0
  have C9 := C
  obtain ⟨hx, hb, hr, hml, hown, hG, hX, hbl, hlocks, hK, hXk, hZ, hg, hE, hnc, -, hLN⟩ := C9
  have hA : ∀ q : Nat, s.heap.size ≤ q → AL s q := fun _ h => h
  have hts : ∀ w ∈ (Cond.initialized "InspectSteps" :: GW), w.before #[Value.ref b] s = true := List.forall_mem_cons.mpr ⟨hG _ kw_1, hG⟩
  have hS : va_S (AL s) s.heap s.heap [] := va_S.rf
  have hP : va_P D cls_ [] s.heap := fun k q h => by simp at h
  have hD : va_D (AL s) [] := ⟨fun i j p q h => by simp at h, fun k q h => by simp at h⟩
  have hl := lv_entry ([.ref b]) (n := 7) (Nat.le_of_ble_eq_true rfl)
  rw [lg_entry_eq]
  generalize (lg_sl ([.ref b]) ++ List.replicate (7 - (lg_sl ([.ref b])).length) Slot.unset).toArray = ls at hl ⊢
  have hl : lv_has ls 7 [(0, .ref b)] := hl
  refine va_new (C := R_C) (T := F_C) (N := 10) (ci := 1) hx hb hG in_C T_C T_C_ok hown (hG _ kw_20) (hG _ kw_21) (hG _ kw_1) hK hP hD hS hA rfl (fs := [.null, .null, .null, .null, .null, .null, .null, .null, .null, .int 0]) (by decide +kernel) (by show _ ≤ 601024; omega) (by show _ ≤ 7293034; omega) d_L_law_0 (fun q0 H hP hD hS => ?_)
  replace hP : va_P D cls_ [(q0, .inr (1, [.null, .null, .null, .null, .null, .null, .null, .null, .null, .int 0]))] H := hP
  replace hD : va_D (AL s) [(q0, .inr (1, [.null, .null, .null, .null, .null, .null, .null, .null, .null, .int 0]))] := hD
  refine lv_dup hx hb d_L_law_3 rfl ?_
  have hF0 : ∀ q, va_A [(q0, .inr (1, [.null, .null, .null, .null, .null, .null, .null, .null, .null, .int 0]))] H.size q → AL s q := fun q h => (A1_in h).elim (fun e9 => e9 ▸ hD.2 0 _ rfl) (fun h9 => hA q (Nat.le_trans hS.1 h9))
  refine va_callv (va_runI (As := []) (rest := [.ref q0]) ⟨hx, hb, hml, hown, hts⟩ (c_C_init l D cs q0 E H.size) (cwI 0 hts (gw_I kw_24) rfl rfl rfl (hG _ kw_1) (hG _ kw_22) (hG _ kw_23) rfl (by decide +kernel) ⟨Nat.le_of_ble_eq_true rfl, Nat.le_of_ble_eq_true rfl⟩) ⟨fun b9 U9 g9 mk9 q9 => ⟨q9.1, (w1_blind b9 U9 g9 mk9 ⟨q9.1, q9.2.1⟩).2, va_Z.moved (u := U9) (U := U9.calling g9 mk9 b9) (Vm.Alike.refl U9.vm) q9.2.2.1, ao_I.moved (u := U9) (U := U9.calling g9 mk9 b9) (Vm.Alike.refl U9.vm) q9.2.2.2⟩, fun U hU hW => ⟨rfl, ⟨by rw [hU], by rw [hU]; exact hP, va_K.moved hW.alike hK⟩, by rw [hU]; exact ((hE.1.kept (fun q h1 h2 => hS.2.1 q h1 h2)).moved hW.alike).narrow hF0, hao.moved hW.alike⟩⟩ rfl rfl hl.1 rfl (lv_room (Nat.le_of_ble_eq_true rfl)) d_L_law_4 ⟨by show _ ≤ 601024; omega, by show _ ≤ 7293034; omega⟩) hS (fun q _ h => hF0 q h) hF0 (fun ad t9 H1 locs ht hvm hw hB hz1 hk1 hS => ?_)
  obtain ⟨hP9, hD1⟩ := hB
  rw [ht] at hP9
  have hD9 := hD1.weaken (fun _ q9 _ h => hF0 q9.1 h)
  clear hP hD hD1 hF0 hk1
  subst hw
  have hP := hP9
  have hD := hD9
  refine lv_astore_n (lv' := [(1, .ref (ad 0)), (0, .ref b)]) hx hb d_L_law_7 rfl hl (by decide) rfl (fun ls hl => ?_)
  refine va_new (C := R_M) (T := F_M) (N := 25) (ci := 4) hx hb hG in_M T_M T_M_ok hown (hG _ kw_575) (hG _ kw_576) (hG _ kw_6) hK hP hD hS hA rfl (fs := [.int 0, .int 0, .int 0, .int 0, .null, .null, .null, .null, .null, .null, .null, .null, .null, .null, .null, .null, .null, .null, .null, .null, .null, .null, .null, .null, .null]) (by decide +kernel) (by show _ ≤ 601024; omega) (by show _ ≤ 7293034; omega) d_L_law_8 (fun q1 H2 hP hD hS => ?_)
  refine lv_dup hx hb d_L_law_11 rfl ?_
  have hPm : va_P D cls_ ([(q1, .inr (4, [.int 0, .int 0, .int 0, .int 0, .null, .null, .null, .null, .null, .null, .null, .null, .null, .null, .null, .null, .null, .null, .null, .null, .null, .null, .null, .null, .null]))] ++ wC cs ad s0 0 0 0 0 E) H2 := fr_cP hP
  have hDm : va_D (AL s) ([(q1, .inr (4, [.int 0, .int 0, .int 0, .int 0, .null, .null, .null, .null, .null, .null, .null, .null, .null, .null, .null, .null, .null, .null, .null, .null, .null, .null, .null, .null, .null]))] ++ wC cs ad s0 0 0 0 0 E) := fr_c hD
  have hFm := fr_A hDm hS hA
  refine va_callv (va_runI (As := []) (rest := [.ref q1]) ⟨hx, hb, hml, hown, hts⟩ (c_M_init l D cs q1 H2.size) (cwI 0 hts (gw_I kw_579) rfl rfl rfl (hG _ kw_6) (hG _ kw_577) (hG _ kw_578) rfl (by decide +kernel) ⟨Nat.le_of_ble_eq_true rfl, Nat.le_of_ble_eq_true rfl⟩) ⟨w1_blind, fun U hU hW => ⟨rfl, by rw [hU], by rw [hU]; exact fr_l hPm, va_K.moved hW.alike hK⟩⟩ rfl rfl hl.1 rfl (lv_room (Nat.le_of_ble_eq_true rfl)) d_L_law_12 ⟨by show _ ≤ 601024; omega, by show _ ≤ 7293034; omega⟩) hS (fun q _ h => hFm q h) hFm (fun am t9 H3 locs ht hvm hw hB hz1 hk1 hS => ?_)
  obtain ⟨hP1, hD1⟩ := hB
  rw [ht] at hP1
  obtain ⟨hPn, hDn⟩ := fr_join hPm hDm hk1 hFm hP1 hD1
  have hP3 := fr_cP hPn
  have hD3 := fr_c hDn
  clear hP hD hPm hDm hFm hk1 hP1 hD1 hPn hDn
  subst hw
  have hP := hP3
  have hD := hD3
  refine lv_astore_n (lv' := [(2, .ref (am 0)), (1, .ref (ad 0)), (0, .ref b)]) hx hb d_L_law_15 rfl hl (by decide) rfl (fun ls hl => ?_)
  refine lv_iconst (v := 1) hx hb d_L_law_16 (by decide) ?_
  refine va_newa (atype := .long) hx hb (hG _ kw_782) (ty := .long) rfl hK hP hD hS hA (n := 1) (N' := 1) (a0 := (1, .inr (.inl (fun _ => 0)))) (fun _ => rfl) (by decide) (by decide) (by decide) (by show _ ≤ 601024; omega) (by show _ ≤ 7293034; omega) d_L_law_17 (fun o cA H4 hK9 hP hD hS => ?_)
  have ec := cA_long hK9
  subst ec
  rw [List.append_assoc] at hP hD
  replace hP : va_P D cls_ (wL cs ad s0 0 0 0 0 E am m0 o (fun _ => 0)) H4 := hP
  replace hD : va_D (AL s) (wL cs ad s0 0 0 0 0 E am m0 o (fun _ => 0)) := hD
  refine lv_astore_n (lv' := [(3, .ref o), (2, .ref (am 0)), (1, .ref (ad 0)), (0, .ref b)]) hx hb d_L_law_19 rfl hl (by decide) rfl (fun ls hl => ?_)
  refine lv_iconst (v := 0) hx hb d_L_law_20 (by decide) ?_
  refine lv_istore (lv' := [(4, .int 0), (3, .ref o), (2, .ref (am 0)), (1, .ref (ad 0)), (0, .ref b)]) hx hb d_L_law_21 hl (by decide) rfl (fun ls hl => ?_)
  refine W.widen (k := 43 + 4 * 0) (n := 978 + 120 * 0) (Nat.le_of_ble_eq_true rfl) (Nat.le_of_ble_eq_true rfl) ?_
  exact lp_all C (L - 5 * 0) 0 rfl ls H4 locs ad am s0 m0 0 0 0 0 o (fun _ => 0) (lv_sub hl [4, 3, 2, 1, 0] rfl) (Nat.zero_le _) ⟨by decide, by decide, by decide, by decide, by decide, by decide⟩ tt_start (fun _ => rfl) hP hD hS
