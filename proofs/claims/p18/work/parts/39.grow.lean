/-- ArrayList's shared empty array, and its cell -/
def em_E (D : va_G) (cs : Nat → ClassId) (E : Nat) (A : Nat → Prop) (U : State) (H : Heap) : Prop := em_Z E A U H ∧ va_T (.object ob_N) E 0 (fun _ => .null) A U H
theorem em_E.moved {D : va_G} {cs : Nat → ClassId} {E : Nat} {A : Nat → Prop} {u U : State} {H : Heap} (hvm : u.vm.Alike U.vm) (h : em_E D cs E A u H) : em_E D cs E A U H := ⟨h.1.moved hvm, h.2.moved hvm⟩
theorem em_E.kept {D : va_G} {cs : Nat → ClassId} {E : Nat} {A : Nat → Prop} {U : State} {H H1 : Heap} (h : em_E D cs E A U H) (hq : ∀ a : Nat, a < H.size → ¬ A a → H1[a]? = H[a]?) : em_E D cs E A U H1 := ⟨h.1.kept hq, h.2.kept hq⟩
theorem em_E.narrow {D : va_G} {cs : Nat → ClassId} {E : Nat} {A B : Nat → Prop} {U : State} {H : Heap} (h : em_E D cs E A U H) (hAB : ∀ q, B q → A q) : em_E D cs E B U H := ⟨h.1.narrow hAB, h.2.narrow hAB⟩
def gN (k : Nat) : Nat := k + (if k / 2 = 0 then 1 else k / 2)
theorem gN_ok : ∀ k, k < 41 → 0 < k → nI k + maxF (nI (k + 1) - nI k) (nI k >>> (1 &&& 31)) = nI (gN k) ∧ k < gN k ∧ gN k ≤ 60 := by decide +kernel
theorem cpF_id {f : Nat → Option Nat} {k : Nat} (hf : ∀ j, k ≤ j → f j = none) : cpF f k = f := funext fun j => by
  unfold cpF
  by_cases h : j < k
  · rw [if_pos h]
  · rw [if_neg h, hf j (by omega)]
abbrev ar_O (cs : Nat → ClassId) (n : Nat) (f : Nat → Option Nat) : va_E := arQ (cs 2) n f
abbrev gw_B (D : va_G) (cs : Nat → ClassId) (ws : va_W) (a eb mi k : Nat) (f : Nat → Option Nat) (sz : Nat) : State → Prop := fun U => U.heap.size = sz ∧ va_P D cls_ ws U.heap ∧ va_K D cls_ (tys_ cs) U ∧ va_D (fun _ => True) ws ∧ gr_K mi U ∧ ∀ i y, i < k → f i = some y → y ≠ eb ∧ y ≠ a ∧ va_Any ob_N U U.heap y
theorem gw_blind {D : va_G} {cs : Nat → ClassId} {ws : va_W} {a eb mi k : Nat} {f : Nat → Option Nat} {sz : Nat} {av : List Value} : FrameBlind (va_Pc av (gw_B D cs ws a eb mi k f sz)) := fun b U g mk q => by
  obtain ⟨q0, q1, qP, qK, qD, qG, qY⟩ := q
  exact ⟨q0, q1, qP, va_K.moved (u := U) (U := U.calling g mk b) (Vm.Alike.refl U.vm) qK, qD, gr_K.moved (u := U) (U := U.calling g mk b) (Vm.Alike.refl U.vm) qG, fun i y hi hy => ⟨(qY i y hi hy).1, (qY i y hi hy).2.1, va_Any.moved (u := U) (U := U.calling g mk b) (Vm.Alike.refl U.vm) (qY i y hi hy).2.2⟩⟩
abbrev ge_B (D : va_G) (cs : Nat → ClassId) (ws : va_W) (E mi : Nat) (sz : Nat) : State → Prop := fun U => U.heap.size = sz ∧ va_P D cls_ ws U.heap ∧ va_K D cls_ (tys_ cs) U ∧ va_D (fun _ => True) ws ∧ gr_K mi U ∧ em_E D cs E (va_A ws sz) U U.heap
theorem ge_blind {D : va_G} {cs : Nat → ClassId} {ws : va_W} {E mi : Nat} {sz : Nat} {av : List Value} : FrameBlind (va_Pc av (ge_B D cs ws E mi sz)) := fun b U g mk q => by
  obtain ⟨q0, q1, qP, qK, qD, qG, qE⟩ := q
  exact ⟨q0, q1, qP, va_K.moved (u := U) (U := U.calling g mk b) (Vm.Alike.refl U.vm) qK, qD, gr_K.moved (u := U) (U := U.calling g mk b) (Vm.Alike.refl U.vm) qG, em_E.moved (u := U) (U := U.calling g mk b) (Vm.Alike.refl U.vm) qE⟩
set_option maxHeartbeats 4000000 in
set_option maxRecDepth 100000 in
theorem c_Al_grow1g (l : Launch) (D : va_G) (cs : Nat → ClassId) (a eb mi k : Nat) (mc : Int32) (f : Nat → Option Nat) (hk : 0 < k) (hk2 : k ≤ 40) (hf : ∀ j, k ≤ j → f j = none) (sz : Nat) : Met l y_Al_grow1 (Cond.code y_Al_grow1 b_Al_grow1 4 (some (.array (.object "java/lang/Object"))) :: GW) ({ frames := 4, cells := 1, slots := 100, locals := 128 }) (va_Pc [.ref a, .int (nI (k + 1))] (gw_B D cs [(a, .inr (0, [.ref eb, .int (nI k), .int mc])), (eb, ar_O cs k f)] a eb mi k f sz)) (va_Qr (fun _ : Unit => True) (fun _ ra t => va_P D cls_ [(a, .inr (0, [.ref ra, .int (nI k), .int mc])), (ra, ar_O cs (gN k) f)] t.heap ∧ va_D (va_A [(a, .inr (0, [.ref eb, .int (nI k), .int mc])), (eb, ar_O cs k f)] sz) [(a, .inr (0, [.ref ra, .int (nI k), .int mc])), (ra, ar_O cs (gN k) f)]) (va_A [(a, .inr (0, [.ref eb, .int (nI k), .int mc])), (eb, ar_O cs k f)] sz)) 1 100 (va_A [(a, .inr (0, [.ref eb, .int (nI k), .int mc])), (eb, ar_O cs k f)] sz) := by
  refine Met.ofW (cc := b_Al_grow1) (maxL := 4) (ret := (some (.array (.object "java/lang/Object")))) (by decide) rfl ?_
  intro p e s m args below meth c s₁ B hml hv
  obtain ⟨rfl, hsz, hP, hK, hD0, hg, hY⟩ := hv
  have hx := B.exec
  have hb := B.bytes
  have hr := B.returns
  have hts := atoms_spec (ws := Cond.code y_Al_grow1 b_Al_grow1 4 (some (.array (.object "java/lang/Object"))) :: GW) B.pre
  have hG : ∀ w ∈ GW, w.before _ s = true := fun w h => hts w (List.mem_cons_of_mem _ h)
  have hown : s.vm.findClass R_Al = some m.cls := findClass_of_methodNamed B.named
  have hlocks := B.notSynchronized
  subst hsz
  have hD := hD0.self (sz := s.heap.size)
  generalize hAe : va_A [(a, .inr (0, [.ref eb, .int (nI k), .int mc])), (eb, ar_O cs k f)] s.heap.size = A at hD ⊢
  have hA : ∀ q : Nat, s.heap.size ≤ q → A q := fun q h => by rw [← hAe]; exact Or.inr h
  have hS : va_S A s.heap s.heap [] := va_S.rf
  have hl := lv_entry ([.ref a, .int (nI (k + 1))]) (n := 4) (Nat.le_of_ble_eq_true rfl)
  rw [lg_entry_eq]
  generalize (lg_sl ([.ref a, .int (nI (k + 1))]) ++ List.replicate (4 - (lg_sl ([.ref a, .int (nI (k + 1))])).length) Slot.unset).toArray = ls at hl ⊢
  have hl : lv_has ls 4 [(0, .ref a), (1, .int (nI (k + 1)))] := hl
  obtain ⟨gN1, gN2, gN3⟩ := gN_ok k (by omega) hk
  refine lv_aload_n hx hb d_Al_grow1_0 rfl (lv_at hl 0 rfl) ?_
  refine va_get (D := D) (ci := 0) (v := .ref eb) (C := R_Al) (T := F_Al) (N := 3) hx hb hG in_Al hown hK hP 0 rfl rfl 0 (by decide) (hG _ kw_42) (fun _ h9 => h9) rfl d_Al_grow1_1 ?_
  refine va_alen hx hb hK hP 1 2 rfl rfl (v := nI k) rfl d_Al_grow1_4 ?_
  refine lv_istore_n (lv' := [(2, .int (nI k)), (0, .ref a), (1, .int (nI (k + 1)))]) hx hb d_Al_grow1_5 rfl hl (by decide) rfl (fun ls hl => ?_)
  refine lv_iload_n hx hb d_Al_grow1_6 rfl (lv_at hl 0 rfl) ?_
  refine lv_if_gt (tgt := 20) hx hb d_Al_grow1_7 (by decide) (fun c_1 => ?_) (fun c_1 => ?_)
  · refine lv_iload_n hx hb d_Al_grow1_20 rfl (lv_at hl 0 rfl) ?_
    refine lv_iload_n hx hb d_Al_grow1_21 rfl (lv_at hl 2 rfl) ?_
    refine lv_iload_n hx hb d_Al_grow1_22 rfl (lv_at hl 0 rfl) ?_
    refine lv_isub hx hb d_Al_grow1_23 ?_
    refine lv_iload_n hx hb d_Al_grow1_24 rfl (lv_at hl 0 rfl) ?_
    refine lv_iconst (v := 1) hx hb d_Al_grow1_25 (by decide) ?_
    refine lv_ishr hx hb d_Al_grow1_26 ?_
    refine vp_callSi (W.runS (As := [.int (nI k), .int ((nI (k + 1)) - (nI k)), .int ((nI k) >>> (1 &&& 31))]) (rest := []) ⟨hx, hb, hml, hown, hts⟩ (c_As_newLength l (nI k) ((nI (k + 1)) - (nI k)) ((nI k) >>> (1 &&& 31)) (by rw [gN1, ← nI_0]; exact nI_lt (by omega) (by omega)) (by rw [gN1]; exact nI_le (b := 2147483639) (by omega) (by omega))) (va_cwS 3 hts (gw_S kw_343 kw_344 kw_13 kw_345) rfl rfl rfl (by decide +kernel) ⟨Nat.le_of_ble_eq_true rfl, Nat.le_of_ble_eq_true rfl⟩) ⟨fun _ _ _ _ q => q, fun U _ _ => ⟨rfl, trivial⟩⟩ rfl rfl hl.1 rfl (lv_room (Nat.le_of_ble_eq_true rfl)) d_Al_grow1_27 ⟨Nat.zero_le _, Nat.zero_le _⟩) (fun r_2 h_3 => ?_)
    rw [gN1] at h_3
    subst h_3
    refine lv_istore_n (lv' := [(3, .int (nI (gN k))), (2, .int (nI k)), (0, .ref a), (1, .int (nI (k + 1)))]) hx hb d_Al_grow1_30 rfl hl (by decide) rfl (fun ls hl => ?_)
    refine lv_aload_n hx hb d_Al_grow1_31 rfl (lv_at hl 2 rfl) ?_
    refine lv_aload_n hx hb d_Al_grow1_32 rfl (lv_at hl 2 rfl) ?_
    refine va_get (D := D) (ci := 0) (v := .ref eb) (C := R_Al) (T := F_Al) (N := 3) hx hb hG in_Al hown hK hP 0 rfl rfl 0 (by decide) (hG _ kw_42) (fun _ h9 => h9) rfl d_Al_grow1_33 ?_
    refine lv_iload_n hx hb d_Al_grow1_36 rfl (lv_at hl 0 rfl) ?_
    have hPc : va_P D cls_ [(eb, ar_O cs k f)] s.heap := hP.sub [1] rfl
    have hFc : ∀ q, va_A [(eb, ar_O cs k f)] s.heap.size q → A q := fun q h => by
      rcases h with ⟨i9, x9, h9⟩ | h
      · have h3 := (List.getElem?_eq_some_iff.mp h9).1
        simp at h3
        subst h3
        cases h9
        exact hD.2 1 _ rfl
      · exact hA q h
    refine va_callr (va_runS (As := [.ref eb, .int (nI (gN k))]) (rest := [.ref a]) ⟨hx, hb, hml, hown, hts⟩ (c_Ar_copyOf2 l D cs eb mi k (gN k) f (by omega) (by omega) s.heap.size) (va_cwS 2 hts (gw_S kw_353 kw_354 kw_5 kw_355) rfl rfl rfl (by decide +kernel) ⟨Nat.le_of_ble_eq_true rfl, Nat.le_of_ble_eq_true rfl⟩) ⟨cp_blind, fun U hU hW => ⟨rfl, by rw [hU], by rw [hU]; exact hPc, va_K.moved hW.alike hK, hg.moved hW.alike, fun i y hi hy => ⟨(hY i y hi hy).1, by rw [hU]; exact (hY i y hi hy).2.2.moved hW.alike⟩⟩⟩ rfl rfl hl.1 rfl (lv_room (Nat.le_of_ble_eq_true rfl)) d_Al_grow1_37 ⟨Nat.le_of_ble_eq_true rfl, Nat.le_of_ble_eq_true rfl⟩) hS (fun q _ h => hFc q h) hFc (fun u ra t H1 locs ht hvm hw hB hz1 hk1 hS => ?_)
    obtain ⟨hP1, hD1⟩ := hB
    rw [ht] at hP1
    rw [cpF_id hf] at hP1 hD1
    obtain ⟨hP, hD⟩ := va_join (wc := [(eb, ar_O cs k f)]) (wr := [(a, .inr (0, [.ref eb, .int (nI k), .int mc]))]) hP hD [1] [0] rfl rfl rfl (by decide) hk1 hFc hP1 hD1
    refine lv_dup_x1 hx hb d_Al_grow1_40 rfl rfl ?_
    refine va_put (D := D) (ci := 0) (v := .ref ra) (ty := .array (.object "java/lang/Object")) (C := R_Al) (T := F_Al) (N := 3) hx hb hG in_Al T_Al T_Al_ok n_Al hown hK hP hD hS 0 rfl rfl 0 (by decide) (hG _ kw_42) (fun _ h9 => h9) rfl (by decide +kernel) rfl rfl (Nat.le_of_ble_eq_true rfl) d_Al_grow1_41 (fun H locs hP hD hS => ?_)
    replace hP : va_P D cls_ [(a, .inr (0, [.ref ra, .int (nI k), .int mc])), (eb, ar_O cs k f), (ra, ar_O cs (gN k) f)] H := hP
    replace hD : va_D A [(a, .inr (0, [.ref ra, .int (nI k), .int mc])), (eb, ar_O cs k f), (ra, ar_O cs (gN k) f)] := hD
    replace hP : va_P D cls_ [(a, .inr (0, [.ref ra, .int (nI k), .int mc])), (ra, ar_O cs (gN k) f)] _ := hP.sub [0, 2] rfl
    replace hD : va_D A [(a, .inr (0, [.ref ra, .int (nI k), .int mc])), (ra, ar_O cs (gN k) f)] := hD.sub [0, 2] rfl rfl
    refine W.widen (k := 1) (n := 100) (Nat.le_of_ble_eq_true rfl) (Nat.le_of_ble_eq_true rfl) ?_
    exact W.aret (v := .ref ra) hx hb hr (Or.inr ⟨_, rfl⟩) (Or.inr ⟨_, rfl⟩) (fun t ht hW => ⟨⟨(), ra, rfl, trivial, by rw [ht]; exact hP, hD⟩, hS.F ht⟩) hS.2.2 d_Al_grow1_44
  · exact absurd (show (0 : Int32) < nI k by rw [← nI_0]; exact nI_lt hk (by omega)) c_1
set_option maxHeartbeats 4000000 in
set_option maxRecDepth 100000 in
theorem c_Al_grow1e (l : Launch) (D : va_G) (cs : Nat → ClassId) (a E mi : Nat) (mc : Int32) (sz : Nat) : Met l y_Al_grow1 (Cond.code y_Al_grow1 b_Al_grow1 4 (some (.array (.object "java/lang/Object"))) :: GW) ({ frames := 4, cells := 1, slots := 100, locals := 128 }) (va_Pc [.ref a, .int (nI 1)] (ge_B D cs [(a, .inr (0, [.ref E, .int (nI 0), .int mc]))] E mi sz)) (va_Qr (fun _ : Unit => True) (fun _ ra t => va_P D cls_ [(a, .inr (0, [.ref ra, .int (nI 0), .int mc])), (ra, ar_O cs 10 (fun _ => none))] t.heap ∧ va_D (va_A [(a, .inr (0, [.ref E, .int (nI 0), .int mc]))] sz) [(a, .inr (0, [.ref ra, .int (nI 0), .int mc])), (ra, ar_O cs 10 (fun _ => none))]) (va_A [(a, .inr (0, [.ref E, .int (nI 0), .int mc]))] sz)) 1 100 (va_A [(a, .inr (0, [.ref E, .int (nI 0), .int mc]))] sz) := by
  refine Met.ofW (cc := b_Al_grow1) (maxL := 4) (ret := (some (.array (.object "java/lang/Object")))) (by decide) rfl ?_
  intro p e s m args below meth c s₁ B hml hv
  obtain ⟨rfl, hsz, hP, hK, hD0, hg, hE⟩ := hv
  have hx := B.exec
  have hb := B.bytes
  have hr := B.returns
  have hts := atoms_spec (ws := Cond.code y_Al_grow1 b_Al_grow1 4 (some (.array (.object "java/lang/Object"))) :: GW) B.pre
  have hG : ∀ w ∈ GW, w.before _ s = true := fun w h => hts w (List.mem_cons_of_mem _ h)
  have hown : s.vm.findClass R_Al = some m.cls := findClass_of_methodNamed B.named
  have hlocks := B.notSynchronized
  subst hsz
  have hD := hD0.self (sz := s.heap.size)
  generalize hAe : va_A [(a, .inr (0, [.ref E, .int (nI 0), .int mc]))] s.heap.size = A at hD hE ⊢
  have hA : ∀ q : Nat, s.heap.size ≤ q → A q := fun q h => by rw [← hAe]; exact Or.inr h
  have hS : va_S A s.heap s.heap [] := va_S.rf
  have hl := lv_entry ([.ref a, .int (nI 1)]) (n := 4) (Nat.le_of_ble_eq_true rfl)
  rw [lg_entry_eq]
  generalize (lg_sl ([.ref a, .int (nI 1)]) ++ List.replicate (4 - (lg_sl ([.ref a, .int (nI 1)])).length) Slot.unset).toArray = ls at hl ⊢
  have hl : lv_has ls 4 [(0, .ref a), (1, .int (nI 1))] := hl
  refine lv_aload_n hx hb d_Al_grow1_0 rfl (lv_at hl 0 rfl) ?_
  refine va_get (D := D) (ci := 0) (v := .ref E) (C := R_Al) (T := F_Al) (N := 3) hx hb hG in_Al hown hK hP 0 rfl rfl 0 (by decide) (hG _ kw_42) (fun _ h9 => h9) rfl d_Al_grow1_1 ?_
  refine va_tlen hx hb hE.2 hS (v := 0) rfl d_Al_grow1_4 ?_
  refine lv_istore_n (lv' := [(2, .int 0), (0, .ref a), (1, .int (nI 1))]) hx hb d_Al_grow1_5 rfl hl (by decide) rfl (fun ls hl => ?_)
  refine lv_iload_n hx hb d_Al_grow1_6 rfl (lv_at hl 0 rfl) ?_
  refine lv_if_gt (tgt := 20) hx hb d_Al_grow1_7 (by decide) (fun c_1 => ?_) (fun c_1 => ?_)
  · exact absurd c_1 (by decide)
  · refine lv_aload_n hx hb d_Al_grow1_10 rfl (lv_at hl 1 rfl) ?_
    refine va_get (D := D) (ci := 0) (v := .ref E) (C := R_Al) (T := F_Al) (N := 3) hx hb hG in_Al hown hK hP 0 rfl rfl 0 (by decide) (hG _ kw_42) (fun _ h9 => h9) rfl d_Al_grow1_11 ?_
    refine va_gets hx hb hE.1 hS hown (hG _ kw_40) (fun _ h9 => h9) d_Al_grow1_14 ?_
    refine lv_acmp_eq (rx := some E) (ry := some E) (tgt := 45) hx hb d_Al_grow1_17 (by decide) (fun _ => ?_) (fun c => absurd rfl c)
    refine lv_aload_n hx hb d_Al_grow1_45 rfl (lv_at hl 1 rfl) ?_
    refine lv_bipush (v := 10) hx hb d_Al_grow1_46 (by decide) ?_
    refine lv_iload_n hx hb d_Al_grow1_48 rfl (lv_at hl 2 rfl) ?_
    refine va_mmax hx hb (hml.trans hl.1.symm) hown (hG _ kw_380) (hG _ kw_347) (hG _ kw_14) (hG _ ka_max) (Nat.le_of_ble_eq_true rfl) (Nat.le_of_ble_eq_true rfl) (Nat.zero_le _) (Nat.zero_le _) (x := 10) (y := nI 1) d_Al_grow1_49 ?_
    rw [if_neg (by decide)]
    refine va_newq hx hb hown (hG _ kw_381) hg.2.1 hK hP hD hS hA (by decide) (N' := 10) (by decide) (by decide) (Nat.le_of_ble_eq_true rfl) (Nat.le_of_ble_eq_true rfl) d_Al_grow1_52 (fun ra cA H hK9 hP hD hS => ?_)
    have ec := cA_obj hK9
    subst ec
    replace hP : va_P D cls_ [(a, .inr (0, [.ref E, .int (nI 0), .int mc])), (ra, ar_O cs 10 (fun _ => none))] H := hP
    replace hD : va_D A [(a, .inr (0, [.ref E, .int (nI 0), .int mc])), (ra, ar_O cs 10 (fun _ => none))] := hD
    refine lv_dup_x1 hx hb d_Al_grow1_55 rfl rfl ?_
    refine va_put (D := D) (ci := 0) (v := .ref ra) (ty := .array (.object "java/lang/Object")) (C := R_Al) (T := F_Al) (N := 3) hx hb hG in_Al T_Al T_Al_ok n_Al hown hK hP hD hS 0 rfl rfl 0 (by decide) (hG _ kw_42) (fun _ h9 => h9) rfl (by decide +kernel) rfl rfl (Nat.le_of_ble_eq_true rfl) d_Al_grow1_56 (fun H locs hP hD hS => ?_)
    replace hP : va_P D cls_ [(a, .inr (0, [.ref ra, .int (nI 0), .int mc])), (ra, ar_O cs 10 (fun _ => none))] H := hP
    replace hD : va_D A [(a, .inr (0, [.ref ra, .int (nI 0), .int mc])), (ra, ar_O cs 10 (fun _ => none))] := hD
    refine W.widen (k := 1) (n := 100) (Nat.le_of_ble_eq_true rfl) (Nat.le_of_ble_eq_true rfl) ?_
    exact W.aret (v := .ref ra) hx hb hr (Or.inr ⟨_, rfl⟩) (Or.inr ⟨_, rfl⟩) (fun t ht hW => ⟨⟨(), ra, rfl, trivial, by rw [ht]; exact hP, hD⟩, hS.F ht⟩) hS.2.2 d_Al_grow1_59
set_option maxHeartbeats 4000000 in
set_option maxRecDepth 100000 in
theorem c_Al_grow0g (l : Launch) (D : va_G) (cs : Nat → ClassId) (a eb mi k : Nat) (mc : Int32) (f : Nat → Option Nat) (hk : 0 < k) (hk2 : k ≤ 40) (hf : ∀ j, k ≤ j → f j = none) (sz : Nat) : Met l y_Al_grow0 (Cond.code y_Al_grow0 b_Al_grow0 1 (some (.array (.object "java/lang/Object"))) :: GW) ({ frames := 5, cells := 1, slots := 100, locals := 160 }) (va_Pc [.ref a] (gw_B D cs [(a, .inr (0, [.ref eb, .int (nI k), .int mc])), (eb, ar_O cs k f)] a eb mi k f sz)) (va_Qr (fun _ : Unit => True) (fun _ ra t => va_P D cls_ [(a, .inr (0, [.ref ra, .int (nI k), .int mc])), (ra, ar_O cs (gN k) f)] t.heap ∧ va_D (va_A [(a, .inr (0, [.ref eb, .int (nI k), .int mc])), (eb, ar_O cs k f)] sz) [(a, .inr (0, [.ref ra, .int (nI k), .int mc])), (ra, ar_O cs (gN k) f)]) (va_A [(a, .inr (0, [.ref eb, .int (nI k), .int mc])), (eb, ar_O cs k f)] sz)) 1 100 (va_A [(a, .inr (0, [.ref eb, .int (nI k), .int mc])), (eb, ar_O cs k f)] sz) := by
  refine Met.ofW (cc := b_Al_grow0) (maxL := 1) (ret := (some (.array (.object "java/lang/Object")))) (by decide) rfl ?_
  intro p e s m args below meth c s₁ B hml hv
  obtain ⟨rfl, hsz, hP, hK, hD0, hg, hY⟩ := hv
  have hx := B.exec
  have hb := B.bytes
  have hr := B.returns
  have hts := atoms_spec (ws := Cond.code y_Al_grow0 b_Al_grow0 1 (some (.array (.object "java/lang/Object"))) :: GW) B.pre
  have hG : ∀ w ∈ GW, w.before _ s = true := fun w h => hts w (List.mem_cons_of_mem _ h)
  have hown : s.vm.findClass R_Al = some m.cls := findClass_of_methodNamed B.named
  have hlocks := B.notSynchronized
  subst hsz
  have hD := hD0.self (sz := s.heap.size)
  generalize hAe : va_A [(a, .inr (0, [.ref eb, .int (nI k), .int mc])), (eb, ar_O cs k f)] s.heap.size = A at hD ⊢
  have hA : ∀ q : Nat, s.heap.size ≤ q → A q := fun q h => by rw [← hAe]; exact Or.inr h
  have hS : va_S A s.heap s.heap [] := va_S.rf
  have hl := lv_entry ([.ref a]) (n := 1) (Nat.le_of_ble_eq_true rfl)
  rw [lg_entry_eq]
  generalize (lg_sl ([.ref a]) ++ List.replicate (1 - (lg_sl ([.ref a])).length) Slot.unset).toArray = ls at hl ⊢
  have hl : lv_has ls 1 [(0, .ref a)] := hl
  refine lv_aload_n hx hb d_Al_grow0_0 rfl (lv_at hl 0 rfl) ?_
  refine lv_aload_n hx hb d_Al_grow0_1 rfl (lv_at hl 0 rfl) ?_
  refine va_get (D := D) (ci := 0) (v := .int (nI k)) (C := R_Al) (T := F_Al) (N := 3) hx hb hG in_Al hown hK hP 0 rfl rfl 1 (by decide) (hG _ kw_43) (fun _ h9 => h9) rfl d_Al_grow0_2 ?_
  refine lv_iconst (v := 1) hx hb d_Al_grow0_5 (by decide) ?_
  refine lv_iadd hx hb d_Al_grow0_6 ?_
  rw [nI_1]
  have hFc := rl_free hD hS hA
  refine va_callr (va_runV (As := [.int (nI (k + 1))]) (rest := []) ⟨hx, hb, hml, hown, hts⟩ (c_Al_grow1g l D cs a eb mi k mc f hk hk2 hf s.heap.size) (cwV 1 hts (gw_V kw_339 kw_341 ks_0_9 kw_4 kw_342) rfl rfl rfl (by decide +kernel) ⟨Nat.le_of_ble_eq_true rfl, Nat.le_of_ble_eq_true rfl⟩) ⟨gw_blind, va_recv hK hP (ci := 0) (q0 := 0) rfl rfl, fun U hU hW => ⟨rfl, by rw [hU], by rw [hU]; exact hP, va_K.moved hW.alike hK, hD0, hg.moved hW.alike, fun i y hi hy => ⟨(hY i y hi hy).1, (hY i y hi hy).2.1, by rw [hU]; exact (hY i y hi hy).2.2.moved hW.alike⟩⟩⟩ rfl rfl hl.1 rfl (lv_room (Nat.le_of_ble_eq_true rfl)) d_Al_grow0_7 ⟨Nat.le_of_ble_eq_true rfl, Nat.le_of_ble_eq_true rfl⟩) hS (fun q _ h => hFc q h) hFc (fun u ra t H1 locs ht hvm hw hB hz1 hk1 hS => ?_)
  obtain ⟨hP, hD⟩ := hB
  rw [ht] at hP
  rw [hAe] at hD
  refine W.widen (k := 1) (n := 100) (Nat.le_of_ble_eq_true rfl) (Nat.le_of_ble_eq_true rfl) ?_
  exact W.aret (v := .ref ra) hx hb hr (Or.inr ⟨_, rfl⟩) (Or.inr ⟨_, rfl⟩) (fun t ht hW => ⟨⟨(), ra, rfl, trivial, by rw [ht]; exact hP, hD⟩, hS.F ht⟩) hS.2.2 d_Al_grow0_10
set_option maxHeartbeats 4000000 in
set_option maxRecDepth 100000 in
theorem c_Al_grow0e (l : Launch) (D : va_G) (cs : Nat → ClassId) (a E mi : Nat) (mc : Int32) (sz : Nat) : Met l y_Al_grow0 (Cond.code y_Al_grow0 b_Al_grow0 1 (some (.array (.object "java/lang/Object"))) :: GW) ({ frames := 5, cells := 1, slots := 100, locals := 160 }) (va_Pc [.ref a] (ge_B D cs [(a, .inr (0, [.ref E, .int (nI 0), .int mc]))] E mi sz)) (va_Qr (fun _ : Unit => True) (fun _ ra t => va_P D cls_ [(a, .inr (0, [.ref ra, .int (nI 0), .int mc])), (ra, ar_O cs 10 (fun _ => none))] t.heap ∧ va_D (va_A [(a, .inr (0, [.ref E, .int (nI 0), .int mc]))] sz) [(a, .inr (0, [.ref ra, .int (nI 0), .int mc])), (ra, ar_O cs 10 (fun _ => none))]) (va_A [(a, .inr (0, [.ref E, .int (nI 0), .int mc]))] sz)) 1 100 (va_A [(a, .inr (0, [.ref E, .int (nI 0), .int mc]))] sz) := by
  refine Met.ofW (cc := b_Al_grow0) (maxL := 1) (ret := (some (.array (.object "java/lang/Object")))) (by decide) rfl ?_
  intro p e s m args below meth c s₁ B hml hv
  obtain ⟨rfl, hsz, hP, hK, hD0, hg, hE⟩ := hv
  have hx := B.exec
  have hb := B.bytes
  have hr := B.returns
  have hts := atoms_spec (ws := Cond.code y_Al_grow0 b_Al_grow0 1 (some (.array (.object "java/lang/Object"))) :: GW) B.pre
  have hG : ∀ w ∈ GW, w.before _ s = true := fun w h => hts w (List.mem_cons_of_mem _ h)
  have hown : s.vm.findClass R_Al = some m.cls := findClass_of_methodNamed B.named
  have hlocks := B.notSynchronized
  subst hsz
  have hD := hD0.self (sz := s.heap.size)
  generalize hAe : va_A [(a, .inr (0, [.ref E, .int (nI 0), .int mc]))] s.heap.size = A at hD hE ⊢
  have hA : ∀ q : Nat, s.heap.size ≤ q → A q := fun q h => by rw [← hAe]; exact Or.inr h
  have hS : va_S A s.heap s.heap [] := va_S.rf
  have hl := lv_entry ([.ref a]) (n := 1) (Nat.le_of_ble_eq_true rfl)
  rw [lg_entry_eq]
  generalize (lg_sl ([.ref a]) ++ List.replicate (1 - (lg_sl ([.ref a])).length) Slot.unset).toArray = ls at hl ⊢
  have hl : lv_has ls 1 [(0, .ref a)] := hl
  refine lv_aload_n hx hb d_Al_grow0_0 rfl (lv_at hl 0 rfl) ?_
  refine lv_aload_n hx hb d_Al_grow0_1 rfl (lv_at hl 0 rfl) ?_
  refine va_get (D := D) (ci := 0) (v := .int (nI 0)) (C := R_Al) (T := F_Al) (N := 3) hx hb hG in_Al hown hK hP 0 rfl rfl 1 (by decide) (hG _ kw_43) (fun _ h9 => h9) rfl d_Al_grow0_2 ?_
  refine lv_iconst (v := 1) hx hb d_Al_grow0_5 (by decide) ?_
  refine lv_iadd hx hb d_Al_grow0_6 ?_
  rw [nI_1]
  have hFc := rl_free hD hS hA
  refine va_callr (va_runV (As := [.int (nI 1)]) (rest := []) ⟨hx, hb, hml, hown, hts⟩ (c_Al_grow1e l D cs a E mi mc s.heap.size) (cwV 1 hts (gw_V kw_339 kw_341 ks_0_9 kw_4 kw_342) rfl rfl rfl (by decide +kernel) ⟨Nat.le_of_ble_eq_true rfl, Nat.le_of_ble_eq_true rfl⟩) ⟨ge_blind, va_recv hK hP (ci := 0) (q0 := 0) rfl rfl, fun U hU hW => ⟨rfl, by rw [hU], by rw [hU]; exact hP, va_K.moved hW.alike hK, hD0, hg.moved hW.alike, by rw [hU, hAe]; exact hE.moved hW.alike⟩⟩ rfl rfl hl.1 rfl (lv_room (Nat.le_of_ble_eq_true rfl)) d_Al_grow0_7 ⟨Nat.le_of_ble_eq_true rfl, Nat.le_of_ble_eq_true rfl⟩) hS (fun q _ h => hFc q h) hFc (fun u ra t H1 locs ht hvm hw hB hz1 hk1 hS => ?_)
  obtain ⟨hP, hD⟩ := hB
  rw [ht] at hP
  rw [hAe] at hD
  refine W.widen (k := 1) (n := 100) (Nat.le_of_ble_eq_true rfl) (Nat.le_of_ble_eq_true rfl) ?_
  exact W.aret (v := .ref ra) hx hb hr (Or.inr ⟨_, rfl⟩) (Or.inr ⟨_, rfl⟩) (fun t ht hW => ⟨⟨(), ra, rfl, trivial, by rw [ht]; exact hP, hD⟩, hS.F ht⟩) hS.2.2 d_Al_grow0_10
