/-- a list and, if it isn't empty, its array -/
def adW (cs : Nat → ClassId) (a eb k cap E : Nat) (mc : Int32) (f : Nat → Option Nat) : va_W := (a, .inr (0, [.ref (if k = 0 then E else eb), .int (nI k), .int mc])) :: (if k = 0 then [] else [(eb, ar_O cs cap f)])
theorem adW_0 {cs : Nat → ClassId} {a eb cap E : Nat} {mc : Int32} {f : Nat → Option Nat} : adW cs a eb 0 cap E mc f = [(a, .inr (0, [.ref E, .int (nI 0), .int mc]))] := rfl
theorem adW_p {cs : Nat → ClassId} {a eb k cap E : Nat} {mc : Int32} {f : Nat → Option Nat} (h : ¬ k = 0) : adW cs a eb k cap E mc f = [(a, .inr (0, [.ref eb, .int (nI k), .int mc])), (eb, ar_O cs cap f)] := by
  unfold adW
  rw [if_neg h, if_neg h]
abbrev ad_B (D : va_G) (cs : Nat → ClassId) (a eb v mi k cap E : Nat) (mc : Int32) (f : Nat → Option Nat) (sz : Nat) : State → Prop := fun U => U.heap.size = sz ∧ va_P D cls_ (adW cs a eb k cap E mc f) U.heap ∧ va_K D cls_ (tys_ cs) U ∧ va_D (fun _ => True) (adW cs a eb k cap E mc f) ∧ gr_K mi U ∧ (k = 0 → em_E D cs E (va_A (adW cs a eb k cap E mc f) sz) U U.heap) ∧ (v ≠ a ∧ (¬ k = 0 → v ≠ eb) ∧ va_Any ob_N U U.heap v) ∧ ∀ i y, i < k → f i = some y → y ≠ eb ∧ y ≠ a ∧ va_Any ob_N U U.heap y
theorem ad_blind {D : va_G} {cs : Nat → ClassId} {a eb v mi k cap E : Nat} {mc : Int32} {f : Nat → Option Nat} {sz : Nat} {av : List Value} : FrameBlind (va_Pc av (ad_B D cs a eb v mi k cap E mc f sz)) := fun b U g mk q => by
  obtain ⟨q0, q1, qP, qK, qD, qG, qE, ⟨q5, q6, q7⟩, qY⟩ := q
  exact ⟨q0, q1, qP, va_K.moved (u := U) (U := U.calling g mk b) (Vm.Alike.refl U.vm) qK, qD, gr_K.moved (u := U) (U := U.calling g mk b) (Vm.Alike.refl U.vm) qG, fun h => em_E.moved (u := U) (U := U.calling g mk b) (Vm.Alike.refl U.vm) (qE h), ⟨q5, q6, va_Any.moved (u := U) (U := U.calling g mk b) (Vm.Alike.refl U.vm) q7⟩, fun i y hi hy => ⟨(qY i y hi hy).1, (qY i y hi hy).2.1, va_Any.moved (u := U) (U := U.calling g mk b) (Vm.Alike.refl U.vm) (qY i y hi hy).2.2⟩⟩
set_option maxHeartbeats 4000000 in
set_option maxRecDepth 100000 in
theorem c_Al_add1 (l : Launch) (D : va_G) (cs : Nat → ClassId) (a eb v mi k cap E : Nat) (mc : Int32) (f : Nat → Option Nat) (sz : Nat) (hk : ¬ k = 0 → k ≤ cap) (hc : cap ≤ 100) (hk40 : k ≤ 40) (hf : ∀ j, k ≤ j → f j = none) : Met l y_Al_add1 (Cond.code y_Al_add1 b_Al_add1 2 (some .boolean) :: GW) ({ frames := 7, cells := 1, slots := 100, locals := 224 }) (va_Pc [.ref a, .ref v] (ad_B D cs a eb v mi k cap E mc f sz)) (va_Qi (fun r (u : Nat × Nat) => r = 1 ∧ k < u.2 ∧ u.2 ≤ 100) (fun u t => va_P D cls_ [(a, .inr (0, [.ref u.1, .int (nI (k + 1)), .int (mc + 1)])), (u.1, ar_O cs u.2 (va_up f k (some v)))] t.heap ∧ va_D (va_A (adW cs a eb k cap E mc f) sz) [(a, .inr (0, [.ref u.1, .int (nI (k + 1)), .int (mc + 1)])), (u.1, ar_O cs u.2 (va_up f k (some v)))]) (va_A (adW cs a eb k cap E mc f) sz)) 1 100 (va_A (adW cs a eb k cap E mc f) sz) := by
  by_cases h0 : k = 0
  · subst h0
    refine Met.ofW (cc := b_Al_add1) (maxL := 2) (ret := (some .boolean)) (by decide) rfl ?_
    intro p e s m args below meth c s₁ B hml hv
    obtain ⟨rfl, hsz, hP, hK, hD0, hg, hE0, ⟨hv1, hv2, hv3⟩, hY⟩ := hv
    have hx := B.exec
    have hb := B.bytes
    have hr := B.returns
    have hts := atoms_spec (ws := Cond.code y_Al_add1 b_Al_add1 2 (some .boolean) :: GW) B.pre
    have hG : ∀ w ∈ GW, w.before _ s = true := fun w h => hts w (List.mem_cons_of_mem _ h)
    have hown : s.vm.findClass R_Al = some m.cls := findClass_of_methodNamed B.named
    have hlocks := B.notSynchronized
    have hE := hE0 rfl
    clear hE0
    rw [adW_0] at hP hD0 hE ⊢
    subst hsz
    have hD := hD0.self (sz := s.heap.size)
    generalize hAe : va_A [(a, .inr (0, [.ref E, .int (nI 0), .int mc]))] s.heap.size = A at hD hE ⊢
    have hA : ∀ q : Nat, s.heap.size ≤ q → A q := fun q h => by rw [← hAe]; exact Or.inr h
    have hS : va_S A s.heap s.heap [] := va_S.rf
    have hl := lv_entry ([.ref a, .ref v]) (n := 2) (Nat.le_of_ble_eq_true rfl)
    rw [lg_entry_eq]
    generalize (lg_sl ([.ref a, .ref v]) ++ List.replicate (2 - (lg_sl ([.ref a, .ref v])).length) Slot.unset).toArray = ls at hl ⊢
    have hl : lv_has ls 2 [(0, .ref a), (1, .ref v)] := hl
    have hvA : ¬ A v := by rw [← hAe]; exact nA_1 hv1 hv3.lt
    refine lv_aload_n hx hb d_Al_add1_0 rfl (lv_at hl 0 rfl) ?_
    refine lv_dup hx hb d_Al_add1_1 rfl ?_
    refine va_get (D := D) (ci := 0) (v := .int mc) (C := R_Al) (T := F_Al) (N := 3) hx hb hG in_Al hown hK hP 0 rfl rfl 2 (by decide) (hG _ kw_45) (fun x9 h9 => u_same (hG _ kw_46) x9 h9) rfl d_Al_add1_2 ?_
    refine lv_iconst (v := 1) hx hb d_Al_add1_5 (by decide) ?_
    refine lv_iadd hx hb d_Al_add1_6 ?_
    refine va_put (D := D) (ci := 0) (v := .int (mc + 1)) (ty := .int) (C := R_Al) (T := F_Al) (N := 3) hx hb hG in_Al T_Al T_Al_ok n_Al hown hK hP hD hS 0 rfl rfl 2 (by decide) (hG _ kw_45) (fun x9 h9 => u_same (hG _ kw_46) x9 h9) rfl (by decide +kernel) rfl rfl (Nat.le_of_ble_eq_true rfl) d_Al_add1_7 (fun H locs hP hD hS => ?_)
    replace hP : va_P D cls_ [(a, .inr (0, [.ref E, .int (nI 0), .int (mc + 1)]))] H := hP
    replace hD : va_D A [(a, .inr (0, [.ref E, .int (nI 0), .int (mc + 1)]))] := hD
    refine lv_aload_n hx hb d_Al_add1_10 rfl (lv_at hl 0 rfl) ?_
    refine lv_aload_n hx hb d_Al_add1_11 rfl (lv_at hl 1 rfl) ?_
    refine lv_aload_n hx hb d_Al_add1_12 rfl (lv_at hl 0 rfl) ?_
    refine va_get (D := D) (ci := 0) (v := .ref E) (C := R_Al) (T := F_Al) (N := 3) hx hb hG in_Al hown hK hP 0 rfl rfl 0 (by decide) (hG _ kw_42) (fun _ h9 => h9) rfl d_Al_add1_13 ?_
    refine lv_aload_n hx hb d_Al_add1_16 rfl (lv_at hl 0 rfl) ?_
    refine va_get (D := D) (ci := 0) (v := .int (nI 0)) (C := R_Al) (T := F_Al) (N := 3) hx hb hG in_Al hown hK hP 0 rfl rfl 1 (by decide) (hG _ kw_43) (fun _ h9 => h9) rfl d_Al_add1_17 ?_
    have hFc := rl_free hD hS hA
    refine va_callv (va_runV (As := [.ref v, .ref E, .int (nI 0)]) (rest := []) ⟨hx, hb, hml, hown, hts⟩ (c_Al_add3e l D cs a v E mi (mc + 1) H.size) (cwV 3 hts (gw_V kw_331 kw_333 ks_0_7 kw_4 kw_334) rfl rfl rfl (by decide +kernel) ⟨Nat.le_of_ble_eq_true rfl, Nat.le_of_ble_eq_true rfl⟩) ⟨aE_blind, va_recv hK hP (ci := 0) (q0 := 0) rfl rfl, fun U hU hW => ⟨rfl, ⟨⟨by rw [hU], by rw [hU]; exact hP, va_K.moved hW.alike hK, hD.weaken (fun _ _ _ _ => trivial), hg.moved hW.alike, by rw [hU]; exact ((hE.kept (fun q h1 h2 => hS.2.1 q h1 h2)).moved hW.alike).narrow hFc⟩, hv1, by rw [hU]; exact (hv3.kept (hS.2.1 v hv3.lt hvA)).moved hW.alike⟩⟩⟩ rfl rfl hl.1 rfl (lv_room (Nat.le_of_ble_eq_true rfl)) d_Al_add1_20 ⟨Nat.le_of_ble_eq_true rfl, Nat.le_of_ble_eq_true rfl⟩) hS (fun q _ h => hFc q h) hFc (fun u t H1 locs ht hvm hw hB hz1 hk1 hS => ?_)
    obtain ⟨hP, hD1⟩ := hB
    rw [ht] at hP
    have hD := hD1.weaken (fun _ q9 _ h => hFc q9.1 h)
    rw [← show f = fun _ => none from funext fun j => hf j (Nat.zero_le _)] at hP hD
    refine lv_iconst (v := 1) hx hb d_Al_add1_23 (by decide) ?_
    exact W.zret (v := 1) (ty := .boolean) hx hb hr rfl (fun t ht hW => ⟨⟨1, u, rfl, ⟨rfl, hw⟩, by show va_P _ _ _ t.heap; rw [ht]; exact hP, hD⟩, hS.F ht⟩) hS.2.2 d_Al_add1_24
  · by_cases hlt : k < cap
    · refine Met.ofW (cc := b_Al_add1) (maxL := 2) (ret := (some .boolean)) (by decide) rfl ?_
      intro p e s m args below meth c s₁ B hml hv
      obtain ⟨rfl, hsz, hP, hK, hD0, hg, hE0, ⟨hv1, hv2, hv3⟩, hY⟩ := hv
      have hx := B.exec
      have hb := B.bytes
      have hr := B.returns
      have hts := atoms_spec (ws := Cond.code y_Al_add1 b_Al_add1 2 (some .boolean) :: GW) B.pre
      have hG : ∀ w ∈ GW, w.before _ s = true := fun w h => hts w (List.mem_cons_of_mem _ h)
      have hown : s.vm.findClass R_Al = some m.cls := findClass_of_methodNamed B.named
      have hlocks := B.notSynchronized
      have hv2 := hv2 h0
      have hkc := hk h0
      rw [adW_p h0] at hP hD0 ⊢
      subst hsz
      have hD := hD0.self (sz := s.heap.size)
      generalize hAe : va_A [(a, .inr (0, [.ref eb, .int (nI k), .int mc])), (eb, ar_O cs cap f)] s.heap.size = A at hD ⊢
      have hA : ∀ q : Nat, s.heap.size ≤ q → A q := fun q h => by rw [← hAe]; exact Or.inr h
      have hS : va_S A s.heap s.heap [] := va_S.rf
      have hl := lv_entry ([.ref a, .ref v]) (n := 2) (Nat.le_of_ble_eq_true rfl)
      rw [lg_entry_eq]
      generalize (lg_sl ([.ref a, .ref v]) ++ List.replicate (2 - (lg_sl ([.ref a, .ref v])).length) Slot.unset).toArray = ls at hl ⊢
      have hl : lv_has ls 2 [(0, .ref a), (1, .ref v)] := hl
      have hvA : ¬ A v := by rw [← hAe]; exact nA_2 hv1 hv2 hv3.lt
      have hyA : ∀ i y, i < k → f i = some y → ¬ A y := fun i y hi hy => by rw [← hAe]; exact nA_2 (hY i y hi hy).2.1 (hY i y hi hy).1 (hY i y hi hy).2.2.lt
      refine lv_aload_n hx hb d_Al_add1_0 rfl (lv_at hl 0 rfl) ?_
      refine lv_dup hx hb d_Al_add1_1 rfl ?_
      refine va_get (D := D) (ci := 0) (v := .int mc) (C := R_Al) (T := F_Al) (N := 3) hx hb hG in_Al hown hK hP 0 rfl rfl 2 (by decide) (hG _ kw_45) (fun x9 h9 => u_same (hG _ kw_46) x9 h9) rfl d_Al_add1_2 ?_
      refine lv_iconst (v := 1) hx hb d_Al_add1_5 (by decide) ?_
      refine lv_iadd hx hb d_Al_add1_6 ?_
      refine va_put (D := D) (ci := 0) (v := .int (mc + 1)) (ty := .int) (C := R_Al) (T := F_Al) (N := 3) hx hb hG in_Al T_Al T_Al_ok n_Al hown hK hP hD hS 0 rfl rfl 2 (by decide) (hG _ kw_45) (fun x9 h9 => u_same (hG _ kw_46) x9 h9) rfl (by decide +kernel) rfl rfl (Nat.le_of_ble_eq_true rfl) d_Al_add1_7 (fun H locs hP hD hS => ?_)
      replace hP : va_P D cls_ [(a, .inr (0, [.ref eb, .int (nI k), .int (mc + 1)])), (eb, ar_O cs cap f)] H := hP
      replace hD : va_D A [(a, .inr (0, [.ref eb, .int (nI k), .int (mc + 1)])), (eb, ar_O cs cap f)] := hD
      refine lv_aload_n hx hb d_Al_add1_10 rfl (lv_at hl 0 rfl) ?_
      refine lv_aload_n hx hb d_Al_add1_11 rfl (lv_at hl 1 rfl) ?_
      refine lv_aload_n hx hb d_Al_add1_12 rfl (lv_at hl 0 rfl) ?_
      refine va_get (D := D) (ci := 0) (v := .ref eb) (C := R_Al) (T := F_Al) (N := 3) hx hb hG in_Al hown hK hP 0 rfl rfl 0 (by decide) (hG _ kw_42) (fun _ h9 => h9) rfl d_Al_add1_13 ?_
      refine lv_aload_n hx hb d_Al_add1_16 rfl (lv_at hl 0 rfl) ?_
      refine va_get (D := D) (ci := 0) (v := .int (nI k)) (C := R_Al) (T := F_Al) (N := 3) hx hb hG in_Al hown hK hP 0 rfl rfl 1 (by decide) (hG _ kw_43) (fun _ h9 => h9) rfl d_Al_add1_17 ?_
      have hFc := rl_free hD hS hA
      refine va_callv (va_runV (As := [.ref v, .ref eb, .int (nI k)]) (rest := []) ⟨hx, hb, hml, hown, hts⟩ (c_Al_add3f l D cs a eb v mi k cap (mc + 1) f H.size hlt hc) (cwV 3 hts (gw_V kw_331 kw_333 ks_0_7 kw_4 kw_334) rfl rfl rfl (by decide +kernel) ⟨Nat.le_of_ble_eq_true rfl, Nat.le_of_ble_eq_true rfl⟩) ⟨ay_blind, va_recv hK hP (ci := 0) (q0 := 0) rfl rfl, fun U hU hW => ⟨rfl, ⟨⟨by rw [hU], by rw [hU]; exact hP, va_K.moved hW.alike hK, hD.weaken (fun _ _ _ _ => trivial), hg.moved hW.alike, fun i y hi hy => ⟨(hY i y hi hy).1, (hY i y hi hy).2.1, by rw [hU]; exact ((hY i y hi hy).2.2.kept (hS.2.1 y (hY i y hi hy).2.2.lt (hyA i y hi hy))).moved hW.alike⟩⟩, hv2, hv1, by rw [hU]; exact (hv3.kept (hS.2.1 v hv3.lt hvA)).moved hW.alike⟩⟩⟩ rfl rfl hl.1 rfl (lv_room (Nat.le_of_ble_eq_true rfl)) d_Al_add1_20 ⟨Nat.le_of_ble_eq_true rfl, Nat.le_of_ble_eq_true rfl⟩) hS (fun q _ h => hFc q h) hFc (fun u t H1 locs ht hvm hw hB hz1 hk1 hS => ?_)
      obtain ⟨hP, hD1⟩ := hB
      rw [ht] at hP
      have hD := hD1.weaken (fun _ q9 _ h => hFc q9.1 h)
      refine lv_iconst (v := 1) hx hb d_Al_add1_23 (by decide) ?_
      exact W.zret (v := 1) (ty := .boolean) hx hb hr rfl (fun t ht hW => ⟨⟨1, u, rfl, ⟨rfl, hw⟩, by show va_P _ _ _ t.heap; rw [ht]; exact hP, hD⟩, hS.F ht⟩) hS.2.2 d_Al_add1_24
    · have hce : cap = k := by have := hk h0; omega
      subst hce
      refine Met.ofW (cc := b_Al_add1) (maxL := 2) (ret := (some .boolean)) (by decide) rfl ?_
      intro p e s m args below meth c s₁ B hml hv
      obtain ⟨rfl, hsz, hP, hK, hD0, hg, hE0, ⟨hv1, hv2, hv3⟩, hY⟩ := hv
      have hx := B.exec
      have hb := B.bytes
      have hr := B.returns
      have hts := atoms_spec (ws := Cond.code y_Al_add1 b_Al_add1 2 (some .boolean) :: GW) B.pre
      have hG : ∀ w ∈ GW, w.before _ s = true := fun w h => hts w (List.mem_cons_of_mem _ h)
      have hown : s.vm.findClass R_Al = some m.cls := findClass_of_methodNamed B.named
      have hlocks := B.notSynchronized
      have hv2 := hv2 h0
      have hkc := hk h0
      rw [adW_p h0] at hP hD0 ⊢
      subst hsz
      have hD := hD0.self (sz := s.heap.size)
      generalize hAe : va_A [(a, .inr (0, [.ref eb, .int (nI cap), .int mc])), (eb, ar_O cs cap f)] s.heap.size = A at hD ⊢
      have hA : ∀ q : Nat, s.heap.size ≤ q → A q := fun q h => by rw [← hAe]; exact Or.inr h
      have hS : va_S A s.heap s.heap [] := va_S.rf
      have hl := lv_entry ([.ref a, .ref v]) (n := 2) (Nat.le_of_ble_eq_true rfl)
      rw [lg_entry_eq]
      generalize (lg_sl ([.ref a, .ref v]) ++ List.replicate (2 - (lg_sl ([.ref a, .ref v])).length) Slot.unset).toArray = ls at hl ⊢
      have hl : lv_has ls 2 [(0, .ref a), (1, .ref v)] := hl
      have hvA : ¬ A v := by rw [← hAe]; exact nA_2 hv1 hv2 hv3.lt
      have hyA : ∀ i y, i < cap → f i = some y → ¬ A y := fun i y hi hy => by rw [← hAe]; exact nA_2 (hY i y hi hy).2.1 (hY i y hi hy).1 (hY i y hi hy).2.2.lt
      refine lv_aload_n hx hb d_Al_add1_0 rfl (lv_at hl 0 rfl) ?_
      refine lv_dup hx hb d_Al_add1_1 rfl ?_
      refine va_get (D := D) (ci := 0) (v := .int mc) (C := R_Al) (T := F_Al) (N := 3) hx hb hG in_Al hown hK hP 0 rfl rfl 2 (by decide) (hG _ kw_45) (fun x9 h9 => u_same (hG _ kw_46) x9 h9) rfl d_Al_add1_2 ?_
      refine lv_iconst (v := 1) hx hb d_Al_add1_5 (by decide) ?_
      refine lv_iadd hx hb d_Al_add1_6 ?_
      refine va_put (D := D) (ci := 0) (v := .int (mc + 1)) (ty := .int) (C := R_Al) (T := F_Al) (N := 3) hx hb hG in_Al T_Al T_Al_ok n_Al hown hK hP hD hS 0 rfl rfl 2 (by decide) (hG _ kw_45) (fun x9 h9 => u_same (hG _ kw_46) x9 h9) rfl (by decide +kernel) rfl rfl (Nat.le_of_ble_eq_true rfl) d_Al_add1_7 (fun H locs hP hD hS => ?_)
      replace hP : va_P D cls_ [(a, .inr (0, [.ref eb, .int (nI cap), .int (mc + 1)])), (eb, ar_O cs cap f)] H := hP
      replace hD : va_D A [(a, .inr (0, [.ref eb, .int (nI cap), .int (mc + 1)])), (eb, ar_O cs cap f)] := hD
      refine lv_aload_n hx hb d_Al_add1_10 rfl (lv_at hl 0 rfl) ?_
      refine lv_aload_n hx hb d_Al_add1_11 rfl (lv_at hl 1 rfl) ?_
      refine lv_aload_n hx hb d_Al_add1_12 rfl (lv_at hl 0 rfl) ?_
      refine va_get (D := D) (ci := 0) (v := .ref eb) (C := R_Al) (T := F_Al) (N := 3) hx hb hG in_Al hown hK hP 0 rfl rfl 0 (by decide) (hG _ kw_42) (fun _ h9 => h9) rfl d_Al_add1_13 ?_
      refine lv_aload_n hx hb d_Al_add1_16 rfl (lv_at hl 0 rfl) ?_
      refine va_get (D := D) (ci := 0) (v := .int (nI cap)) (C := R_Al) (T := F_Al) (N := 3) hx hb hG in_Al hown hK hP 0 rfl rfl 1 (by decide) (hG _ kw_43) (fun _ h9 => h9) rfl d_Al_add1_17 ?_
      have hFc := rl_free hD hS hA
      refine va_callv (va_runV (As := [.ref v, .ref eb, .int (nI cap)]) (rest := []) ⟨hx, hb, hml, hown, hts⟩ (c_Al_add3g l D cs a eb v mi cap (mc + 1) f H.size (by omega) hk40 hf) (cwV 3 hts (gw_V kw_331 kw_333 ks_0_7 kw_4 kw_334) rfl rfl rfl (by decide +kernel) ⟨Nat.le_of_ble_eq_true rfl, Nat.le_of_ble_eq_true rfl⟩) ⟨ay_blind, va_recv hK hP (ci := 0) (q0 := 0) rfl rfl, fun U hU hW => ⟨rfl, ⟨⟨by rw [hU], by rw [hU]; exact hP, va_K.moved hW.alike hK, hD.weaken (fun _ _ _ _ => trivial), hg.moved hW.alike, fun i y hi hy => ⟨(hY i y hi hy).1, (hY i y hi hy).2.1, by rw [hU]; exact ((hY i y hi hy).2.2.kept (hS.2.1 y (hY i y hi hy).2.2.lt (hyA i y hi hy))).moved hW.alike⟩⟩, hv2, hv1, by rw [hU]; exact (hv3.kept (hS.2.1 v hv3.lt hvA)).moved hW.alike⟩⟩⟩ rfl rfl hl.1 rfl (lv_room (Nat.le_of_ble_eq_true rfl)) d_Al_add1_20 ⟨Nat.le_of_ble_eq_true rfl, Nat.le_of_ble_eq_true rfl⟩) hS (fun q _ h => hFc q h) hFc (fun u t H1 locs ht hvm hw hB hz1 hk1 hS => ?_)
      obtain ⟨hP, hD1⟩ := hB
      rw [ht] at hP
      have hD := hD1.weaken (fun _ q9 _ h => hFc q9.1 h)
      refine lv_iconst (v := 1) hx hb d_Al_add1_23 (by decide) ?_
      exact W.zret (v := 1) (ty := .boolean) hx hb hr rfl (fun t ht hW => ⟨⟨1, u, rfl, ⟨rfl, hw⟩, by show va_P _ _ _ t.heap; rw [ht]; exact hP, hD⟩, hS.F ht⟩) hS.2.2 d_Al_add1_24
