abbrev ob_N : String := "java/lang/Object"
abbrev gc_N : MethodName := ⟨"java/lang/Object", "getClass", "()Ljava/lang/Class;"⟩
/-- what the growing of a list needs beside its cells -/
def gr_K (mi : Nat) (U : State) : Prop := va_Mi "[Ljava/lang/Object;" mi U ∧ va_AO ob_N U ∧ va_Dc U ∧ va_Nw (.native gc_N) U ∧ va_Nw (.native arraycopyName) U ∧ va_Nw (.castable R_I ob_N) U ∧ va_Nw (.castable R_S ob_N) U
theorem nat_moved {x : MethodName} {u U : State} (hvm : u.vm.Alike U.vm) (h : va_Nw (.native x) u) : va_Nw (.native x) U := va_tabs rfl (rfl : (u.setVm U.vm).vm = U.vm) (by rw [Cond.native_setVm hvm]; exact h)
theorem cst_moved {C T : String} {u U : State} (hvm : u.vm.Alike U.vm) (h : va_Nw (.castable C T) u) : va_Nw (.castable C T) U := va_tabs rfl (rfl : (u.setVm U.vm).vm = U.vm) (by rw [Cond.castable_setVm hvm]; exact h)
theorem gr_K.moved {mi : Nat} {u U : State} (hvm : u.vm.Alike U.vm) (h : gr_K mi u) : gr_K mi U := ⟨h.1.moved hvm, h.2.1.moved hvm, h.2.2.1.moved hvm, nat_moved hvm h.2.2.2.1, nat_moved hvm h.2.2.2.2.1, cst_moved hvm h.2.2.2.2.2.1, cst_moved hvm h.2.2.2.2.2.2⟩
theorem va_Any.moved {E : String} {u U : State} {H : Heap} {a : Nat} (hvm : u.vm.Alike U.vm) (h : va_Any E u H a) : va_Any E U H a := by
  obtain ⟨c, h1, h2, ⟨k, hk⟩, h4⟩ := h
  obtain ⟨k', hk', -⟩ := hvm.2.2 _ _ hk
  exact ⟨c, h1, h2, ⟨k', hk'⟩, fun comp hc => by rw [hvm.assignable]; exact h4 comp (by rw [← hvm.findClass]; exact hc)⟩
theorem va_Any.kept {E : String} {s : State} {H H1 : Heap} {a : Nat} (h : va_Any E s H a) (hq : H1[a]? = H[a]?) : va_Any E s H1 a := by
  obtain ⟨c, h1, h2⟩ := h
  exact ⟨c, hq.trans h1, h2⟩
theorem va_Any.lt {E : String} {s : State} {H : Heap} {a : Nat} (h : va_Any E s H a) : a < H.size := by
  obtain ⟨c, h1, -⟩ := h
  exact (Array.getElem?_eq_some_iff.mp h1).1
section CA
variable {D : va_G} {cl : List vw_C} {cs : Nat → ClassId} {cA : ClassId} {s : State}
theorem cA_obj (hK : va_K D cl (tys_ cs ++ [(cA, .object ob_N)]) s) : cA = cs 2 := by
  obtain ⟨_, _, _, _, _, h1⟩ := (hK.2 5 _ rfl).2
  obtain ⟨_, _, _, _, _, h2⟩ := (hK.2 2 _ rfl).2
  exact Option.some.inj (h1.symm.trans h2)
theorem cA_int (hK : va_K D cl (tys_ cs ++ [(cA, .int)]) s) : cA = cs 0 := by
  have h1 : s.vm.findClass _ = some cA := (hK.2 5 _ rfl).2
  have h2 : s.vm.findClass _ = some (cs 0) := (hK.2 0 _ rfl).2
  exact Option.some.inj (h1.symm.trans h2)
theorem cA_bool (hK : va_K D cl (tys_ cs ++ [(cA, .boolean)]) s) : cA = cs 1 := by
  have h1 : s.vm.findClass _ = some cA := (hK.2 5 _ rfl).2
  have h2 : s.vm.findClass _ = some (cs 1) := (hK.2 1 _ rfl).2
  exact Option.some.inj (h1.symm.trans h2)
theorem cA_long (hK : va_K D cl (tys_ cs ++ [(cA, .long)]) s) : cA = cs 4 := by
  have h1 : s.vm.findClass _ = some cA := (hK.2 5 _ rfl).2
  have h2 : s.vm.findClass _ = some (cs 4) := (hK.2 4 _ rfl).2
  exact Option.some.inj (h1.symm.trans h2)
end CA
def cpF (f : Nat → Option Nat) (cap : Nat) : Nat → Option Nat := fun j => if j < cap then f j else none
theorem cpF_eq {f : Nat → Option Nat} {cap : Nat} (h : cap < 2 ^ 31) : va_cpy f (fun _ => none) (0 : Int32).toNatClampNeg (0 : Int32).toNatClampNeg (nI cap).toNatClampNeg = cpF f cap := by
  rw [nI_clamp h, show (0 : Int32).toNatClampNeg = 0 by decide]
  funext j
  unfold va_cpy cpF
  by_cases h : j < cap
  · rw [if_pos ⟨Nat.zero_le _, by omega⟩, if_pos h, show 0 + (j - 0) = j by omega]
  · rw [if_neg (fun q => h (by omega)), if_neg h]
/-- what is copied: an array, its elements apart from it -/
abbrev cp_B (D : va_G) (cs : Nat → ClassId) (eb mi cap : Nat) (f : Nat → Option Nat) (sz : Nat) : State → Prop := fun U => U.heap.size = sz ∧ va_P D cls_ [(eb, arQ (cs 2) cap f)] U.heap ∧ va_K D cls_ (tys_ cs) U ∧ gr_K mi U ∧ ∀ i y, i < cap → f i = some y → y ≠ eb ∧ va_Any ob_N U U.heap y
theorem cp_blind {D : va_G} {cs : Nat → ClassId} {eb mi cap : Nat} {f : Nat → Option Nat} {sz : Nat} {av : List Value} : FrameBlind (va_Pc av (cp_B D cs eb mi cap f sz)) := fun a U g mk q => by
  obtain ⟨q0, q1, qP, qK, qG, qY⟩ := q
  exact ⟨q0, q1, qP, va_K.moved (u := U) (U := U.calling g mk a) (Vm.Alike.refl U.vm) qK, gr_K.moved (u := U) (U := U.calling g mk a) (Vm.Alike.refl U.vm) qG, fun i y hi hy => ⟨(qY i y hi hy).1, va_Any.moved (u := U) (U := U.calling g mk a) (Vm.Alike.refl U.vm) (qY i y hi hy).2⟩⟩
set_option maxHeartbeats 4000000 in
set_option maxRecDepth 100000 in
theorem c_Ar_copyOf3 (l : Launch) (D : va_G) (cs : Nat → ClassId) (eb mi cap N : Nat) (f : Nat → Option Nat) (hcap : cap ≤ N) (hN : N ≤ 100) (sz : Nat) : Met l y_Ar_copyOf3 (Cond.code y_Ar_copyOf3 b_Ar_copyOf3 4 (some (.array (.object "java/lang/Object"))) :: GW) ({ frames := 2, cells := 1, slots := 100, locals := 64 }) (va_Pc [.ref eb, .int (nI N), .ref mi] (cp_B D cs eb mi cap f sz)) (va_Qr (fun _ : Unit => True) (fun _ ra t => va_P D cls_ [(eb, arQ (cs 2) cap f), (ra, arQ (cs 2) N (cpF f cap))] t.heap ∧ va_D (va_A [(eb, arQ (cs 2) cap f)] sz) [(eb, arQ (cs 2) cap f), (ra, arQ (cs 2) N (cpF f cap))]) (va_A [(eb, arQ (cs 2) cap f)] sz)) 1 100 (va_A [(eb, arQ (cs 2) cap f)] sz) := by
  refine Met.ofW (cc := b_Ar_copyOf3) (maxL := 4) (ret := (some (.array (.object "java/lang/Object")))) (by decide) rfl ?_
  intro p e s m args below meth c s₁ B hml hv
  obtain ⟨rfl, hsz, hP, hK, hg, hY⟩ := hv
  have hx := B.exec
  have hb := B.bytes
  have hr := B.returns
  have hts := atoms_spec (ws := Cond.code y_Ar_copyOf3 b_Ar_copyOf3 4 (some (.array (.object "java/lang/Object"))) :: GW) B.pre
  have hG : ∀ w ∈ GW, w.before _ s = true := fun w h => hts w (List.mem_cons_of_mem _ h)
  have hown : s.vm.findClass R_Ar = some m.cls := findClass_of_methodNamed B.named
  have hlocks := B.notSynchronized
  subst hsz
  have hD0 : va_D (fun _ => True) [(eb, arQ (cs 2) cap f)] := va_D1
  have hD := hD0.self (sz := s.heap.size)
  have hY2 : ∀ i y, i < cap → f i = some y → ¬ va_A [(eb, arQ (cs 2) cap f)] s.heap.size y ∧ va_Any ob_N s s.heap y := fun i y hi hy => ⟨fun h => by
      rcases h with ⟨k, x, hk⟩ | h
      · have h3 := (List.getElem?_eq_some_iff.mp hk).1
        simp at h3
        subst h3
        cases hk
        exact (hY i _ hi hy).1 rfl
      · exact absurd ((hY i y hi hy).2.lt) (Nat.not_lt.mpr h), (hY i y hi hy).2⟩
  generalize hAe : va_A [(eb, arQ (cs 2) cap f)] s.heap.size = A at hD hY2 ⊢
  have hA : ∀ q : Nat, s.heap.size ≤ q → A q := fun q h => by rw [← hAe]; exact Or.inr h
  have hS : va_S A s.heap s.heap [] := va_S.rf
  have hl := lv_entry ([.ref eb, .int (nI N), .ref mi]) (n := 4) (Nat.le_of_ble_eq_true rfl)
  rw [lg_entry_eq]
  generalize (lg_sl ([.ref eb, .int (nI N), .ref mi]) ++ List.replicate (4 - (lg_sl ([.ref eb, .int (nI N), .ref mi])).length) Slot.unset).toArray = ls at hl ⊢
  have hl : lv_has ls 4 [(0, .ref eb), (1, .int (nI N)), (2, .ref mi)] := hl
  refine lv_aload_n hx hb d_Ar_copyOf3_0 rfl (lv_at hl 2 rfl) ?_
  refine va_ldcM hx hb hown (hG _ kw_371) hg.1 d_Ar_copyOf3_1 ?_
  refine lv_acmp_ne (rx := some mi) (ry := some mi) (tgt := 13) hx hb d_Ar_copyOf3_3 (by decide) (fun c => absurd rfl c) (fun _ => ?_)
  refine lv_iload_n hx hb d_Ar_copyOf3_6 rfl (lv_at hl 1 rfl) ?_
  refine va_newq hx hb hown (hG _ kw_373) hg.2.1 hK hP hD hS hA (nI_pos (by omega)) (nI_clamp (by omega)) (by omega) (Nat.le_of_ble_eq_true rfl) (by show 0 + N ≤ 100; omega) d_Ar_copyOf3_7 (fun ra cA H hK9 hP hD hS => ?_)
  have ec := cA_obj hK9
  subst ec
  refine lv_goto (tgt := 24) hx hb d_Ar_copyOf3_10 (by decide) ?_
  refine lv_astore_n (lv' := [(3, .ref ra), (0, .ref eb), (1, .int (nI N)), (2, .ref mi)]) hx hb d_Ar_copyOf3_24 rfl hl (by decide) rfl (fun ls hl => ?_)
  refine lv_aload_n hx hb d_Ar_copyOf3_25 rfl (lv_at hl 1 rfl) ?_
  refine lv_iconst (v := 0) hx hb d_Ar_copyOf3_26 (by decide) ?_
  refine lv_aload_n hx hb d_Ar_copyOf3_27 rfl (lv_at hl 0 rfl) ?_
  refine lv_iconst (v := 0) hx hb d_Ar_copyOf3_28 (by decide) ?_
  refine lv_aload_n hx hb d_Ar_copyOf3_29 rfl (lv_at hl 1 rfl) ?_
  refine va_alen hx hb hK hP 0 2 rfl rfl (v := nI cap) rfl d_Ar_copyOf3_30 ?_
  refine lv_iload_n hx hb d_Ar_copyOf3_31 rfl (lv_at hl 2 rfl) ?_
  refine va_mmin hx hb (hml.trans hl.1.symm) hown (hG _ kw_374) (hG _ kw_375) (hG _ kw_14) (hG _ ka_min) (Nat.le_of_ble_eq_true rfl) (Nat.le_of_ble_eq_true rfl) (Nat.le_of_ble_eq_true rfl) (by show 0 + N ≤ 100; omega) (x := nI cap) (y := nI N) d_Ar_copyOf3_32 ?_
  rw [if_neg (nI_nlt hcap (by omega))]
  refine va_copyM hx hb (hml.trans hl.1.symm) hown (hG _ kw_377) (va_Nw.use rfl hg.2.2.2.2.1) (hG _ kw_378) (hG _ kw_15) hK hP hD hS 0 1 2 2 rfl rfl rfl rfl (n := nI cap) (sp := 0) (dp := 0) (by decide) (by decide) (nI_pos (by omega)) (by rw [nI_clamp (by omega), show (0 : Int32).toNatClampNeg = 0 by decide]; omega) (by rw [nI_clamp (by omega), show (0 : Int32).toNatClampNeg = 0 by decide]; omega) (fun i hi y hy => ?_) (Nat.le_of_ble_eq_true rfl) (Nat.le_of_ble_eq_true rfl) d_Ar_copyOf3_35 (fun H locs hP hD hS => ?_)
  · rw [nI_clamp (by omega)] at hi
    rw [show (0 : Int32).toNatClampNeg + i = i by rw [show (0 : Int32).toNatClampNeg = 0 by decide]; omega] at hy
    exact (hY2 i y hi hy).2.kept (hS.2.1 y (hY2 i y hi hy).2.lt (hY2 i y hi hy).1)
  rw [cpF_eq (by omega)] at hP hD
  replace hP : va_P D cls_ [(eb, arQ (cs 2) cap f), (ra, arQ (cs 2) N (cpF f cap))] H := hP
  replace hD : va_D A [(eb, arQ (cs 2) cap f), (ra, arQ (cs 2) N (cpF f cap))] := hD
  refine lv_aload_n hx hb d_Ar_copyOf3_38 rfl (lv_at hl 0 rfl) ?_
  refine W.widen (k := 1) (n := 100) (Nat.le_of_ble_eq_true rfl) (by omega) ?_
  exact W.aret (v := .ref ra) hx hb hr (Or.inr ⟨_, rfl⟩) (Or.inr ⟨_, rfl⟩) (fun t ht hW => ⟨⟨(), ra, rfl, trivial, by rw [ht]; exact hP, hD⟩, hS.F ht⟩) hS.2.2 d_Ar_copyOf3_39
set_option maxHeartbeats 4000000 in
set_option maxRecDepth 100000 in
theorem c_Ar_copyOf2 (l : Launch) (D : va_G) (cs : Nat → ClassId) (eb mi cap N : Nat) (f : Nat → Option Nat) (hcap : cap ≤ N) (hN : N ≤ 100) (sz : Nat) : Met l y_Ar_copyOf2 (Cond.code y_Ar_copyOf2 b_Ar_copyOf2 2 (some (.array (.object "java/lang/Object"))) :: GW) ({ frames := 3, cells := 1, slots := 100, locals := 96 }) (va_Pc [.ref eb, .int (nI N)] (cp_B D cs eb mi cap f sz)) (va_Qr (fun _ : Unit => True) (fun _ ra t => va_P D cls_ [(eb, arQ (cs 2) cap f), (ra, arQ (cs 2) N (cpF f cap))] t.heap ∧ va_D (va_A [(eb, arQ (cs 2) cap f)] sz) [(eb, arQ (cs 2) cap f), (ra, arQ (cs 2) N (cpF f cap))]) (va_A [(eb, arQ (cs 2) cap f)] sz)) 1 100 (va_A [(eb, arQ (cs 2) cap f)] sz) := by
  refine Met.ofW (cc := b_Ar_copyOf2) (maxL := 2) (ret := (some (.array (.object "java/lang/Object")))) (by decide) rfl ?_
  intro p e s m args below meth c s₁ B hml hv
  obtain ⟨rfl, hsz, hP, hK, hg, hY⟩ := hv
  have hx := B.exec
  have hb := B.bytes
  have hr := B.returns
  have hts := atoms_spec (ws := Cond.code y_Ar_copyOf2 b_Ar_copyOf2 2 (some (.array (.object "java/lang/Object"))) :: GW) B.pre
  have hG : ∀ w ∈ GW, w.before _ s = true := fun w h => hts w (List.mem_cons_of_mem _ h)
  have hown : s.vm.findClass R_Ar = some m.cls := findClass_of_methodNamed B.named
  have hlocks := B.notSynchronized
  subst hsz
  have hD0 : va_D (fun _ => True) [(eb, arQ (cs 2) cap f)] := va_D1
  have hD := hD0.self (sz := s.heap.size)
  have hY2 : ∀ i y, i < cap → f i = some y → ¬ va_A [(eb, arQ (cs 2) cap f)] s.heap.size y ∧ va_Any ob_N s s.heap y := fun i y hi hy => ⟨fun h => by
      rcases h with ⟨k, x, hk⟩ | h
      · have h3 := (List.getElem?_eq_some_iff.mp hk).1
        simp at h3
        subst h3
        cases hk
        exact (hY i _ hi hy).1 rfl
      · exact absurd ((hY i y hi hy).2.lt) (Nat.not_lt.mpr h), (hY i y hi hy).2⟩
  generalize hAe : va_A [(eb, arQ (cs 2) cap f)] s.heap.size = A at hD hY2 ⊢
  have hA : ∀ q : Nat, s.heap.size ≤ q → A q := fun q h => by rw [← hAe]; exact Or.inr h
  have hS : va_S A s.heap s.heap [] := va_S.rf
  have hl := lv_entry ([.ref eb, .int (nI N)]) (n := 2) (Nat.le_of_ble_eq_true rfl)
  rw [lg_entry_eq]
  generalize (lg_sl ([.ref eb, .int (nI N)]) ++ List.replicate (2 - (lg_sl ([.ref eb, .int (nI N)])).length) Slot.unset).toArray = ls at hl ⊢
  have hl : lv_has ls 2 [(0, .ref eb), (1, .int (nI N))] := hl
  refine lv_aload_n hx hb d_Ar_copyOf2_0 rfl (lv_at hl 0 rfl) ?_
  refine lv_iload_n hx hb d_Ar_copyOf2_1 rfl (lv_at hl 1 rfl) ?_
  refine lv_aload_n hx hb d_Ar_copyOf2_2 rfl (lv_at hl 0 rfl) ?_
  refine va_getC (mi := mi) (C := "[Ljava/lang/Object;") hx hb (hml.trans hl.1.symm) hown (hG _ kw_356) hg.2.2.1.use (hG _ kw_787) (hG _ kw_357) (va_Nw.use rfl hg.2.2.2.1) hg.1 ⟨_, hP 0 _ rfl, rfl, va_nmO (hK.2 2 _ rfl).2 (by decide)⟩ (Nat.le_of_ble_eq_true rfl) (Nat.le_of_ble_eq_true rfl) d_Ar_copyOf2_3 ?_
  have hFc := rl_free hD hS hA
  refine va_callr (va_runS (As := [.ref eb, .int (nI N), .ref mi]) (rest := []) ⟨hx, hb, hml, hown, hts⟩ (c_Ar_copyOf3 l D cs eb mi cap N f hcap hN s.heap.size) (va_cwS 3 hts (gw_S kw_368 kw_369 kw_5 kw_370) rfl rfl rfl (by decide +kernel) ⟨Nat.le_of_ble_eq_true rfl, Nat.le_of_ble_eq_true rfl⟩) ⟨cp_blind, fun U hU hW => ⟨rfl, by rw [hU], by rw [hU]; exact hP, va_K.moved hW.alike hK, hg.moved hW.alike, fun i y hi hy => ⟨(hY i y hi hy).1, by rw [hU]; exact (hY i y hi hy).2.moved hW.alike⟩⟩⟩ rfl rfl hl.1 rfl (lv_room (Nat.le_of_ble_eq_true rfl)) d_Ar_copyOf2_6 ⟨Nat.le_of_ble_eq_true rfl, Nat.le_of_ble_eq_true rfl⟩) hS (fun q _ h => hFc q h) hFc (fun u ra t H1 locs ht hvm hw hB hz1 hk1 hS => ?_)
  obtain ⟨hP, hD⟩ := hB
  rw [ht] at hP
  rw [hAe] at hD
  refine W.widen (k := 1) (n := 100) (Nat.le_of_ble_eq_true rfl) (by omega) ?_
  exact W.aret (v := .ref ra) hx hb hr (Or.inr ⟨_, rfl⟩) (Or.inr ⟨_, rfl⟩) (fun t ht hW => ⟨⟨(), ra, rfl, trivial, by rw [ht]; exact hP, hD⟩, hS.F ht⟩) hS.2.2 d_Ar_copyOf2_9
