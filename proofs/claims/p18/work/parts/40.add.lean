/-- an element and what is put in beside it -/
abbrev ay_B (D : va_G) (cs : Nat → ClassId) (ws : va_W) (a eb v mi k : Nat) (f : Nat → Option Nat) (sz : Nat) : State → Prop := fun U => gw_B D cs ws a eb mi k f sz U ∧ v ≠ eb ∧ v ≠ a ∧ va_Any ob_N U U.heap v
theorem ay_blind {D : va_G} {cs : Nat → ClassId} {ws : va_W} {a eb v mi k : Nat} {f : Nat → Option Nat} {sz : Nat} {av : List Value} : FrameBlind (va_Pc av (ay_B D cs ws a eb v mi k f sz)) := fun b U g mk q => by
  obtain ⟨q0, q1, q2, q3, q4⟩ := q
  exact ⟨q0, (gw_blind b U g mk ⟨q0, q1⟩).2, q2, q3, va_Any.moved (u := U) (U := U.calling g mk b) (Vm.Alike.refl U.vm) q4⟩
abbrev aE_B (D : va_G) (cs : Nat → ClassId) (ws : va_W) (a v E mi : Nat) (sz : Nat) : State → Prop := fun U => ge_B D cs ws E mi sz U ∧ v ≠ a ∧ va_Any ob_N U U.heap v
theorem aE_blind {D : va_G} {cs : Nat → ClassId} {ws : va_W} {a v E mi : Nat} {sz : Nat} {av : List Value} : FrameBlind (va_Pc av (aE_B D cs ws a v E mi sz)) := fun b U g mk q => by
  obtain ⟨q0, q1, q3, q4⟩ := q
  exact ⟨q0, (ge_blind b U g mk ⟨q0, q1⟩).2, q3, va_Any.moved (u := U) (U := U.calling g mk b) (Vm.Alike.refl U.vm) q4⟩
theorem nA_1 {a v sz : Nat} {x : va_E} (h1 : v ≠ a) (h2 : v < sz) : ¬ va_A [(a, x)] sz v := by
  rintro (⟨i9, x9, h9⟩ | h)
  · have h3 := (List.getElem?_eq_some_iff.mp h9).1
    simp at h3
    subst h3
    cases h9
    exact h1 rfl
  · omega
theorem nA_2 {a b v sz : Nat} {x y : va_E} (h1 : v ≠ a) (h3 : v ≠ b) (h2 : v < sz) : ¬ va_A [(a, x), (b, y)] sz v := by
  rintro (⟨i9, x9, h9⟩ | h)
  · match i9, h9 with
    | 0, h9 => cases h9; exact h1 rfl
    | 1, h9 => cases h9; exact h3 rfl
    | _ + 2, h9 => cases h9
  · omega
set_option maxHeartbeats 4000000 in
set_option maxRecDepth 100000 in
theorem c_Al_add3f (l : Launch) (D : va_G) (cs : Nat → ClassId) (a eb v mi k cap : Nat) (mc : Int32) (f : Nat → Option Nat) (sz : Nat) (hk : k < cap) (hc : cap ≤ 100) : Met l y_Al_add3 (Cond.code y_Al_add3 b_Al_add3 4 none :: GW) ({ frames := 6, cells := 1, slots := 100, locals := 192 }) (va_Pc [.ref a, .ref v, .ref eb, .int (nI k)] (ay_B D cs [(a, .inr (0, [.ref eb, .int (nI k), .int mc])), (eb, ar_O cs cap f)] a eb v mi k f sz)) (va_Qv (fun (u : Nat × Nat) => k < u.2 ∧ u.2 ≤ 100) (fun u t => va_P D cls_ [(a, .inr (0, [.ref u.1, .int (nI (k + 1)), .int mc])), (u.1, ar_O cs u.2 (va_up f k (some v)))] t.heap ∧ va_D (va_A [(a, .inr (0, [.ref eb, .int (nI k), .int mc])), (eb, ar_O cs cap f)] sz) [(a, .inr (0, [.ref u.1, .int (nI (k + 1)), .int mc])), (u.1, ar_O cs u.2 (va_up f k (some v)))]) (va_A [(a, .inr (0, [.ref eb, .int (nI k), .int mc])), (eb, ar_O cs cap f)] sz)) 1 100 (va_A [(a, .inr (0, [.ref eb, .int (nI k), .int mc])), (eb, ar_O cs cap f)] sz) := by
  refine Met.ofW (cc := b_Al_add3) (maxL := 4) (ret := none) (by decide) rfl ?_
  intro p e s m args below meth c s₁ B hml hv
  obtain ⟨rfl, ⟨hsz, hP, hK, hD0, hg, hY⟩, hv1, hv2, hv3⟩ := hv
  have hx := B.exec
  have hb := B.bytes
  have hr := B.returns
  have hts := atoms_spec (ws := Cond.code y_Al_add3 b_Al_add3 4 none :: GW) B.pre
  have hG : ∀ w ∈ GW, w.before _ s = true := fun w h => hts w (List.mem_cons_of_mem _ h)
  have hown : s.vm.findClass R_Al = some m.cls := findClass_of_methodNamed B.named
  have hlocks := B.notSynchronized
  subst hsz
  have hD := hD0.self (sz := s.heap.size)
  generalize hAe : va_A [(a, .inr (0, [.ref eb, .int (nI k), .int mc])), (eb, ar_O cs cap f)] s.heap.size = A at hD ⊢
  have hA : ∀ q : Nat, s.heap.size ≤ q → A q := fun q h => by rw [← hAe]; exact Or.inr h
  have hS : va_S A s.heap s.heap [] := va_S.rf
  have hl := lv_entry ([.ref a, .ref v, .ref eb, .int (nI k)]) (n := 4) (Nat.le_of_ble_eq_true rfl)
  rw [lg_entry_eq]
  generalize (lg_sl ([.ref a, .ref v, .ref eb, .int (nI k)]) ++ List.replicate (4 - (lg_sl ([.ref a, .ref v, .ref eb, .int (nI k)])).length) Slot.unset).toArray = ls at hl ⊢
  have hl : lv_has ls 4 [(0, .ref a), (1, .ref v), (2, .ref eb), (3, .int (nI k))] := hl
  refine lv_iload_n hx hb d_Al_add3_0 rfl (lv_at hl 3 rfl) ?_
  refine lv_aload_n hx hb d_Al_add3_1 rfl (lv_at hl 2 rfl) ?_
  refine va_alen hx hb hK hP 1 2 rfl rfl (v := nI cap) rfl d_Al_add3_2 ?_
  refine lv_icmp_ne (tgt := 11) hx hb d_Al_add3_3 (by decide) (fun c_1 => ?_) (fun c_1 => ?_)
  · refine lv_aload_n hx hb d_Al_add3_11 rfl (lv_at hl 2 rfl) ?_
    refine lv_iload_n hx hb d_Al_add3_12 rfl (lv_at hl 3 rfl) ?_
    refine lv_aload_n hx hb d_Al_add3_13 rfl (lv_at hl 1 rfl) ?_
    refine va_astqM hx hb hK hP hD hS 1 2 rfl rfl (i := nI k) (v := v) hv3 (vp_in_nI hk (by omega)) d_Al_add3_14 (fun H locs hP hD hS => ?_)
    rw [nI_clamp (by omega)] at hP hD
    replace hP : va_P D cls_ [(a, .inr (0, [.ref eb, .int (nI k), .int mc])), (eb, ar_O cs cap (va_up f k (some v)))] H := hP
    replace hD : va_D A [(a, .inr (0, [.ref eb, .int (nI k), .int mc])), (eb, ar_O cs cap (va_up f k (some v)))] := hD
    refine lv_aload_n hx hb d_Al_add3_15 rfl (lv_at hl 0 rfl) ?_
    refine lv_iload_n hx hb d_Al_add3_16 rfl (lv_at hl 3 rfl) ?_
    refine lv_iconst (v := 1) hx hb d_Al_add3_17 (by decide) ?_
    refine lv_iadd hx hb d_Al_add3_18 ?_
    refine va_put (D := D) (ci := 0) (v := .int ((nI k) + 1)) (ty := .int) (C := R_Al) (T := F_Al) (N := 3) hx hb hG in_Al T_Al T_Al_ok n_Al hown hK hP hD hS 0 rfl rfl 1 (by decide) (hG _ kw_43) (fun _ h9 => h9) rfl (by decide +kernel) rfl rfl (Nat.le_of_ble_eq_true rfl) d_Al_add3_19 (fun H locs hP hD hS => ?_)
    rw [nI_1] at hP hD
    replace hP : va_P D cls_ [(a, .inr (0, [.ref eb, .int (nI (k + 1)), .int mc])), (eb, ar_O cs cap (va_up f k (some v)))] H := hP
    replace hD : va_D A [(a, .inr (0, [.ref eb, .int (nI (k + 1)), .int mc])), (eb, ar_O cs cap (va_up f k (some v)))] := hD
    refine W.widen (k := 1) (n := 100) (Nat.zero_le _) (Nat.zero_le _) ?_
    exact W.vret hx hb hr (fun t ht hW => ⟨⟨(eb, cap), rfl, ⟨hk, hc⟩, by show va_P _ _ _ t.heap; rw [ht]; exact hP, hD⟩, hS.F ht⟩) hS.2.2 d_Al_add3_22
  · exact absurd ((nI_eq (by omega) (by omega)).mp c_1) (by omega)
set_option maxHeartbeats 4000000 in
set_option maxRecDepth 100000 in
theorem c_Al_add3g (l : Launch) (D : va_G) (cs : Nat → ClassId) (a eb v mi k : Nat) (mc : Int32) (f : Nat → Option Nat) (sz : Nat) (hk : 0 < k) (hk2 : k ≤ 40) (hf : ∀ j, k ≤ j → f j = none) : Met l y_Al_add3 (Cond.code y_Al_add3 b_Al_add3 4 none :: GW) ({ frames := 6, cells := 1, slots := 100, locals := 192 }) (va_Pc [.ref a, .ref v, .ref eb, .int (nI k)] (ay_B D cs [(a, .inr (0, [.ref eb, .int (nI k), .int mc])), (eb, ar_O cs k f)] a eb v mi k f sz)) (va_Qv (fun (u : Nat × Nat) => k < u.2 ∧ u.2 ≤ 100) (fun u t => va_P D cls_ [(a, .inr (0, [.ref u.1, .int (nI (k + 1)), .int mc])), (u.1, ar_O cs u.2 (va_up f k (some v)))] t.heap ∧ va_D (va_A [(a, .inr (0, [.ref eb, .int (nI k), .int mc])), (eb, ar_O cs k f)] sz) [(a, .inr (0, [.ref u.1, .int (nI (k + 1)), .int mc])), (u.1, ar_O cs u.2 (va_up f k (some v)))]) (va_A [(a, .inr (0, [.ref eb, .int (nI k), .int mc])), (eb, ar_O cs k f)] sz)) 1 100 (va_A [(a, .inr (0, [.ref eb, .int (nI k), .int mc])), (eb, ar_O cs k f)] sz) := by
  refine Met.ofW (cc := b_Al_add3) (maxL := 4) (ret := none) (by decide) rfl ?_
  intro p e s m args below meth c s₁ B hml hv
  obtain ⟨rfl, ⟨hsz, hP, hK, hD0, hg, hY⟩, hv1, hv2, hv3⟩ := hv
  have hx := B.exec
  have hb := B.bytes
  have hr := B.returns
  have hts := atoms_spec (ws := Cond.code y_Al_add3 b_Al_add3 4 none :: GW) B.pre
  have hG : ∀ w ∈ GW, w.before _ s = true := fun w h => hts w (List.mem_cons_of_mem _ h)
  have hown : s.vm.findClass R_Al = some m.cls := findClass_of_methodNamed B.named
  have hlocks := B.notSynchronized
  subst hsz
  have hD := hD0.self (sz := s.heap.size)
  generalize hAe : va_A [(a, .inr (0, [.ref eb, .int (nI k), .int mc])), (eb, ar_O cs k f)] s.heap.size = A at hD ⊢
  have hA : ∀ q : Nat, s.heap.size ≤ q → A q := fun q h => by rw [← hAe]; exact Or.inr h
  have hS : va_S A s.heap s.heap [] := va_S.rf
  have hl := lv_entry ([.ref a, .ref v, .ref eb, .int (nI k)]) (n := 4) (Nat.le_of_ble_eq_true rfl)
  rw [lg_entry_eq]
  generalize (lg_sl ([.ref a, .ref v, .ref eb, .int (nI k)]) ++ List.replicate (4 - (lg_sl ([.ref a, .ref v, .ref eb, .int (nI k)])).length) Slot.unset).toArray = ls at hl ⊢
  have hl : lv_has ls 4 [(0, .ref a), (1, .ref v), (2, .ref eb), (3, .int (nI k))] := hl
  have hvA : ¬ A v := by rw [← hAe]; exact nA_2 hv2 hv1 hv3.lt
  obtain ⟨gN1, gN2, gN3⟩ := gN_ok k (by omega) hk
  refine lv_iload_n hx hb d_Al_add3_0 rfl (lv_at hl 3 rfl) ?_
  refine lv_aload_n hx hb d_Al_add3_1 rfl (lv_at hl 2 rfl) ?_
  refine va_alen hx hb hK hP 1 2 rfl rfl (v := nI k) rfl d_Al_add3_2 ?_
  refine lv_icmp_ne (tgt := 11) hx hb d_Al_add3_3 (by decide) (fun c_1 => ?_) (fun c_1 => ?_)
  · exact absurd rfl c_1
  · refine lv_aload_n hx hb d_Al_add3_6 rfl (lv_at hl 0 rfl) ?_
    have hFc := rl_free hD hS hA
    refine va_callr (va_runV (As := []) (rest := []) ⟨hx, hb, hml, hown, hts⟩ (c_Al_grow0g l D cs a eb mi k mc f hk hk2 hf s.heap.size) (cwV 0 hts (gw_V kw_335 kw_337 ks_0_8 kw_4 kw_338) rfl rfl rfl (by decide +kernel) ⟨Nat.le_of_ble_eq_true rfl, Nat.le_of_ble_eq_true rfl⟩) ⟨gw_blind, va_recv hK hP (ci := 0) (q0 := 0) rfl rfl, fun U hU hW => ⟨rfl, by rw [hU], by rw [hU]; exact hP, va_K.moved hW.alike hK, hD0, hg.moved hW.alike, fun i y hi hy => ⟨(hY i y hi hy).1, (hY i y hi hy).2.1, by rw [hU]; exact (hY i y hi hy).2.2.moved hW.alike⟩⟩⟩ rfl rfl hl.1 rfl (lv_room (Nat.le_of_ble_eq_true rfl)) d_Al_add3_7 ⟨Nat.le_of_ble_eq_true rfl, Nat.le_of_ble_eq_true rfl⟩) hS (fun q _ h => hFc q h) hFc (fun u ra t H1 locs ht hvm hw hB hz1 hk1 hS => ?_)
    obtain ⟨hP, hD⟩ := hB
    rw [ht] at hP
    rw [hAe] at hD
    have hv9 : va_Any ob_N s H1 v := hv3.kept (hS.2.1 v hv3.lt hvA)
    refine lv_astore_n (lv' := [(2, .ref ra), (0, .ref a), (1, .ref v), (3, .int (nI k))]) hx hb d_Al_add3_10 rfl hl (by decide) rfl (fun ls hl => ?_)
    refine lv_aload_n hx hb d_Al_add3_11 rfl (lv_at hl 0 rfl) ?_
    refine lv_iload_n hx hb d_Al_add3_12 rfl (lv_at hl 3 rfl) ?_
    refine lv_aload_n hx hb d_Al_add3_13 rfl (lv_at hl 2 rfl) ?_
    refine va_astqM hx hb hK hP hD hS 1 2 rfl rfl (i := nI k) (v := v) hv9 (vp_in_nI gN2 (by omega)) d_Al_add3_14 (fun H locs hP hD hS => ?_)
    rw [nI_clamp (by omega)] at hP hD
    replace hP : va_P D cls_ [(a, .inr (0, [.ref ra, .int (nI k), .int mc])), (ra, ar_O cs (gN k) (va_up f k (some v)))] H := hP
    replace hD : va_D A [(a, .inr (0, [.ref ra, .int (nI k), .int mc])), (ra, ar_O cs (gN k) (va_up f k (some v)))] := hD
    refine lv_aload_n hx hb d_Al_add3_15 rfl (lv_at hl 1 rfl) ?_
    refine lv_iload_n hx hb d_Al_add3_16 rfl (lv_at hl 3 rfl) ?_
    refine lv_iconst (v := 1) hx hb d_Al_add3_17 (by decide) ?_
    refine lv_iadd hx hb d_Al_add3_18 ?_
    refine va_put (D := D) (ci := 0) (v := .int ((nI k) + 1)) (ty := .int) (C := R_Al) (T := F_Al) (N := 3) hx hb hG in_Al T_Al T_Al_ok n_Al hown hK hP hD hS 0 rfl rfl 1 (by decide) (hG _ kw_43) (fun _ h9 => h9) rfl (by decide +kernel) rfl rfl (Nat.le_of_ble_eq_true rfl) d_Al_add3_19 (fun H locs hP hD hS => ?_)
    rw [nI_1] at hP hD
    replace hP : va_P D cls_ [(a, .inr (0, [.ref ra, .int (nI (k + 1)), .int mc])), (ra, ar_O cs (gN k) (va_up f k (some v)))] H := hP
    replace hD : va_D A [(a, .inr (0, [.ref ra, .int (nI (k + 1)), .int mc])), (ra, ar_O cs (gN k) (va_up f k (some v)))] := hD
    refine W.widen (k := 1) (n := 100) (Nat.le_refl _) (Nat.le_refl _) ?_
    exact W.vret hx hb hr (fun t ht hW => ⟨⟨(ra, gN k), rfl, ⟨gN2, by omega⟩, by show va_P _ _ _ t.heap; rw [ht]; exact hP, hD⟩, hS.F ht⟩) hS.2.2 d_Al_add3_22
set_option maxHeartbeats 4000000 in
set_option maxRecDepth 100000 in
theorem c_Al_add3e (l : Launch) (D : va_G) (cs : Nat → ClassId) (a v E mi : Nat) (mc : Int32) (sz : Nat) : Met l y_Al_add3 (Cond.code y_Al_add3 b_Al_add3 4 none :: GW) ({ frames := 6, cells := 1, slots := 100, locals := 192 }) (va_Pc [.ref a, .ref v, .ref E, .int (nI 0)] (aE_B D cs [(a, .inr (0, [.ref E, .int (nI 0), .int mc]))] a v E mi sz)) (va_Qv (fun (u : Nat × Nat) => 0 < u.2 ∧ u.2 ≤ 100) (fun u t => va_P D cls_ [(a, .inr (0, [.ref u.1, .int (nI (0 + 1)), .int mc])), (u.1, ar_O cs u.2 (va_up (fun _ => none) 0 (some v)))] t.heap ∧ va_D (va_A [(a, .inr (0, [.ref E, .int (nI 0), .int mc]))] sz) [(a, .inr (0, [.ref u.1, .int (nI (0 + 1)), .int mc])), (u.1, ar_O cs u.2 (va_up (fun _ => none) 0 (some v)))]) (va_A [(a, .inr (0, [.ref E, .int (nI 0), .int mc]))] sz)) 1 100 (va_A [(a, .inr (0, [.ref E, .int (nI 0), .int mc]))] sz) := by
  refine Met.ofW (cc := b_Al_add3) (maxL := 4) (ret := none) (by decide) rfl ?_
  intro p e s m args below meth c s₁ B hml hv
  obtain ⟨rfl, ⟨hsz, hP, hK, hD0, hg, hE⟩, hv2, hv3⟩ := hv
  have hx := B.exec
  have hb := B.bytes
  have hr := B.returns
  have hts := atoms_spec (ws := Cond.code y_Al_add3 b_Al_add3 4 none :: GW) B.pre
  have hG : ∀ w ∈ GW, w.before _ s = true := fun w h => hts w (List.mem_cons_of_mem _ h)
  have hown : s.vm.findClass R_Al = some m.cls := findClass_of_methodNamed B.named
  have hlocks := B.notSynchronized
  subst hsz
  have hD := hD0.self (sz := s.heap.size)
  generalize hAe : va_A [(a, .inr (0, [.ref E, .int (nI 0), .int mc]))] s.heap.size = A at hD hE ⊢
  have hA : ∀ q : Nat, s.heap.size ≤ q → A q := fun q h => by rw [← hAe]; exact Or.inr h
  have hS : va_S A s.heap s.heap [] := va_S.rf
  have hl := lv_entry ([.ref a, .ref v, .ref E, .int (nI 0)]) (n := 4) (Nat.le_of_ble_eq_true rfl)
  rw [lg_entry_eq]
  generalize (lg_sl ([.ref a, .ref v, .ref E, .int (nI 0)]) ++ List.replicate (4 - (lg_sl ([.ref a, .ref v, .ref E, .int (nI 0)])).length) Slot.unset).toArray = ls at hl ⊢
  have hl : lv_has ls 4 [(0, .ref a), (1, .ref v), (2, .ref E), (3, .int (nI 0))] := hl
  have hvA : ¬ A v := by rw [← hAe]; exact nA_1 hv2 hv3.lt
  refine lv_iload_n hx hb d_Al_add3_0 rfl (lv_at hl 3 rfl) ?_
  refine lv_aload_n hx hb d_Al_add3_1 rfl (lv_at hl 2 rfl) ?_
  refine va_tlen hx hb hE.2 hS (v := 0) rfl d_Al_add3_2 ?_
  refine lv_icmp_ne (tgt := 11) hx hb d_Al_add3_3 (by decide) (fun c_1 => ?_) (fun c_1 => ?_)
  · exact absurd nI_0 c_1
  · refine lv_aload_n hx hb d_Al_add3_6 rfl (lv_at hl 0 rfl) ?_
    have hFc := rl_free hD hS hA
    refine va_callr (va_runV (As := []) (rest := []) ⟨hx, hb, hml, hown, hts⟩ (c_Al_grow0e l D cs a E mi mc s.heap.size) (cwV 0 hts (gw_V kw_335 kw_337 ks_0_8 kw_4 kw_338) rfl rfl rfl (by decide +kernel) ⟨Nat.le_of_ble_eq_true rfl, Nat.le_of_ble_eq_true rfl⟩) ⟨ge_blind, va_recv hK hP (ci := 0) (q0 := 0) rfl rfl, fun U hU hW => ⟨rfl, by rw [hU], by rw [hU]; exact hP, va_K.moved hW.alike hK, hD0, hg.moved hW.alike, by rw [hU, hAe]; exact hE.moved hW.alike⟩⟩ rfl rfl hl.1 rfl (lv_room (Nat.le_of_ble_eq_true rfl)) d_Al_add3_7 ⟨Nat.le_of_ble_eq_true rfl, Nat.le_of_ble_eq_true rfl⟩) hS (fun q _ h => hFc q h) hFc (fun u ra t H1 locs ht hvm hw hB hz1 hk1 hS => ?_)
    obtain ⟨hP, hD⟩ := hB
    rw [ht] at hP
    rw [hAe] at hD
    have hv9 : va_Any ob_N s H1 v := hv3.kept (hS.2.1 v hv3.lt hvA)
    refine lv_astore_n (lv' := [(2, .ref ra), (0, .ref a), (1, .ref v), (3, .int (nI 0))]) hx hb d_Al_add3_10 rfl hl (by decide) rfl (fun ls hl => ?_)
    refine lv_aload_n hx hb d_Al_add3_11 rfl (lv_at hl 0 rfl) ?_
    refine lv_iload_n hx hb d_Al_add3_12 rfl (lv_at hl 3 rfl) ?_
    refine lv_aload_n hx hb d_Al_add3_13 rfl (lv_at hl 2 rfl) ?_
    refine va_astqM hx hb hK hP hD hS 1 2 rfl rfl (i := nI 0) (v := v) hv9 (vp_in_nI (by decide : 0 < 10) (by omega)) d_Al_add3_14 (fun H locs hP hD hS => ?_)
    rw [nI_clamp (by omega)] at hP hD
    replace hP : va_P D cls_ [(a, .inr (0, [.ref ra, .int (nI 0), .int mc])), (ra, ar_O cs 10 (va_up (fun _ => none) 0 (some v)))] H := hP
    replace hD : va_D A [(a, .inr (0, [.ref ra, .int (nI 0), .int mc])), (ra, ar_O cs 10 (va_up (fun _ => none) 0 (some v)))] := hD
    refine lv_aload_n hx hb d_Al_add3_15 rfl (lv_at hl 1 rfl) ?_
    refine lv_iload_n hx hb d_Al_add3_16 rfl (lv_at hl 3 rfl) ?_
    refine lv_iconst (v := 1) hx hb d_Al_add3_17 (by decide) ?_
    refine lv_iadd hx hb d_Al_add3_18 ?_
    refine va_put (D := D) (ci := 0) (v := .int ((nI 0) + 1)) (ty := .int) (C := R_Al) (T := F_Al) (N := 3) hx hb hG in_Al T_Al T_Al_ok n_Al hown hK hP hD hS 0 rfl rfl 1 (by decide) (hG _ kw_43) (fun _ h9 => h9) rfl (by decide +kernel) rfl rfl (Nat.le_of_ble_eq_true rfl) d_Al_add3_19 (fun H locs hP hD hS => ?_)
    rw [nI_1] at hP hD
    replace hP : va_P D cls_ [(a, .inr (0, [.ref ra, .int (nI (0 + 1)), .int mc])), (ra, ar_O cs 10 (va_up (fun _ => none) 0 (some v)))] H := hP
    replace hD : va_D A [(a, .inr (0, [.ref ra, .int (nI (0 + 1)), .int mc])), (ra, ar_O cs 10 (va_up (fun _ => none) 0 (some v)))] := hD
    refine W.widen (k := 1) (n := 100) (Nat.le_refl _) (Nat.le_refl _) ?_
    exact W.vret hx hb hr (fun t ht hW => ⟨⟨(ra, 10), rfl, ⟨show 0 < 10 by decide, show 10 ≤ 100 by decide⟩, by show va_P _ _ _ t.heap; rw [ht]; exact hP, hD⟩, hS.F ht⟩) hS.2.2 d_Al_add3_22
