set_option maxHeartbeats 4000000 in
set_option maxRecDepth 100000 in
theorem c_Pr_checkIndex (l : Launch) (i n : Nat) (hi : i < n) (hn : n < 2 ^ 31) : Met l y_Pr_checkIndex (Cond.code y_Pr_checkIndex b_Pr_checkIndex 3 (some .int) :: GW) ({ frames := 0, cells := 0, slots := 0, locals := 0 }) (va_Pc [.int (nI i), .int (nI n), .null] (fun _ => True)) (vp_Si (fun r => r = nI i)) 0 0 (fun _ => False) := by
  refine Met.ofW (cc := b_Pr_checkIndex) (maxL := 3) (ret := (some .int)) (by decide) rfl ?_
  intro p e s m args below meth c s₁ B hml hv
  obtain ⟨rfl, -⟩ := hv
  have hx := B.exec
  have hb := B.bytes
  have hr := B.returns
  have hts := atoms_spec (ws := Cond.code y_Pr_checkIndex b_Pr_checkIndex 3 (some .int) :: GW) B.pre
  have hG : ∀ w ∈ GW, w.before _ s = true := fun w h => hts w (List.mem_cons_of_mem _ h)
  have hown : s.vm.findClass R_Pr = some m.cls := findClass_of_methodNamed B.named
  have hlocks := B.notSynchronized
  have hl := lv_entry ([.int (nI i), .int (nI n), .null]) (n := 3) (Nat.le_of_ble_eq_true rfl)
  rw [lg_entry_eq]
  generalize (lg_sl ([.int (nI i), .int (nI n), .null]) ++ List.replicate (3 - (lg_sl ([.int (nI i), .int (nI n), .null])).length) Slot.unset).toArray = ls at hl ⊢
  have hl : lv_has ls 3 [(0, .int (nI i)), (1, .int (nI n)), (2, .null)] := hl
  refine lv_iload_n hx hb d_Pr_checkIndex_0 rfl (lv_at hl 0 rfl) ?_
  refine lv_if_lt (tgt := 9) hx hb d_Pr_checkIndex_1 (by decide) (fun c_1 => ?_) (fun c_1 => ?_)
  · exact absurd c_1 (nI_pos (by omega))
  · refine lv_iload_n hx hb d_Pr_checkIndex_4 rfl (lv_at hl 0 rfl) ?_
    refine lv_iload_n hx hb d_Pr_checkIndex_5 rfl (lv_at hl 1 rfl) ?_
    refine lv_icmp_lt (tgt := 16) hx hb d_Pr_checkIndex_6 (by decide) (fun c_2 => ?_) (fun c_2 => ?_)
    · refine lv_iload_n hx hb d_Pr_checkIndex_16 rfl (lv_at hl 0 rfl) ?_
      exact W.iret (v := nI i) hx hb hr (fun t ht hW => ⟨nI i, rfl, rfl, ht⟩) (fun q h => nomatch h) d_Pr_checkIndex_17
    · exact absurd (nI_lt hi hn) c_2
set_option maxHeartbeats 4000000 in
set_option maxRecDepth 100000 in
theorem c_Ob_checkIndex (l : Launch) (i n : Nat) (hi : i < n) (hn : n < 2 ^ 31) : Met l y_Ob_checkIndex (Cond.code y_Ob_checkIndex b_Ob_checkIndex 2 (some .int) :: GW) ({ frames := 1, cells := 0, slots := 0, locals := 32 }) (va_Pc [.int (nI i), .int (nI n)] (fun _ => True)) (vp_Si (fun r => r = nI i)) 0 0 (fun _ => False) := by
  refine Met.ofW (cc := b_Ob_checkIndex) (maxL := 2) (ret := (some .int)) (by decide) rfl ?_
  intro p e s m args below meth c s₁ B hml hv
  obtain ⟨rfl, -⟩ := hv
  have hx := B.exec
  have hb := B.bytes
  have hr := B.returns
  have hts := atoms_spec (ws := Cond.code y_Ob_checkIndex b_Ob_checkIndex 2 (some .int) :: GW) B.pre
  have hG : ∀ w ∈ GW, w.before _ s = true := fun w h => hts w (List.mem_cons_of_mem _ h)
  have hown : s.vm.findClass R_Ob = some m.cls := findClass_of_methodNamed B.named
  have hlocks := B.notSynchronized
  have hl := lv_entry ([.int (nI i), .int (nI n)]) (n := 2) (Nat.le_of_ble_eq_true rfl)
  rw [lg_entry_eq]
  generalize (lg_sl ([.int (nI i), .int (nI n)]) ++ List.replicate (2 - (lg_sl ([.int (nI i), .int (nI n)])).length) Slot.unset).toArray = ls at hl ⊢
  have hl : lv_has ls 2 [(0, .int (nI i)), (1, .int (nI n))] := hl
  refine lv_iload_n hx hb d_Ob_checkIndex_0 rfl (lv_at hl 0 rfl) ?_
  refine lv_iload_n hx hb d_Ob_checkIndex_1 rfl (lv_at hl 1 rfl) ?_
  refine lv_null hx hb d_Ob_checkIndex_2 ?_
  refine vp_callSi (W.runS (As := [.int (nI i), .int (nI n), .null]) (rest := []) ⟨hx, hb, hml, hown, hts⟩ (c_Pr_checkIndex l i n hi hn) (va_cwS 3 hts (gw_S kw_127 kw_128 kw_17 kw_129) rfl rfl rfl (by decide +kernel) ⟨Nat.le_of_ble_eq_true rfl, Nat.le_of_ble_eq_true rfl⟩) ⟨fun _ _ _ _ q => q, fun U _ _ => ⟨rfl, trivial⟩⟩ rfl rfl hl.1 rfl (lv_room (Nat.le_of_ble_eq_true rfl)) d_Ob_checkIndex_3 ⟨Nat.zero_le _, Nat.zero_le _⟩) (fun r_1 h_2 => ?_)
  subst h_2
  exact W.iret (v := nI i) hx hb hr (fun t ht hW => ⟨nI i, rfl, rfl, ht⟩) (fun q h => nomatch h) d_Ob_checkIndex_6
set_option maxHeartbeats 4000000 in
set_option maxRecDepth 100000 in
theorem c_Al_size (l : Launch) (D : va_G) (tys : List (ClassId × FieldType)) (a : Nat) (v0 : Value) (k k2 : Int32) : Met l y_Al_size (Cond.code y_Al_size b_Al_size 1 (some .int) :: GW) ({ frames := 0, cells := 0, slots := 0, locals := 0 }) (va_Pc [.ref a] (rd_B D tys [(a, .inr (0, [v0, .int k, .int k2]))])) (vp_Si (fun r => r = k)) 0 0 (fun _ => False) := by
  refine Met.ofW (cc := b_Al_size) (maxL := 1) (ret := (some .int)) (by decide) rfl ?_
  intro p e s m args below meth c s₁ B hml hv
  obtain ⟨rfl, hP, hK⟩ := hv
  have hx := B.exec
  have hb := B.bytes
  have hr := B.returns
  have hts := atoms_spec (ws := Cond.code y_Al_size b_Al_size 1 (some .int) :: GW) B.pre
  have hG : ∀ w ∈ GW, w.before _ s = true := fun w h => hts w (List.mem_cons_of_mem _ h)
  have hown : s.vm.findClass R_Al = some m.cls := findClass_of_methodNamed B.named
  have hlocks := B.notSynchronized
  have hl := lv_entry ([.ref a]) (n := 1) (Nat.le_of_ble_eq_true rfl)
  rw [lg_entry_eq]
  generalize (lg_sl ([.ref a]) ++ List.replicate (1 - (lg_sl ([.ref a])).length) Slot.unset).toArray = ls at hl ⊢
  have hl : lv_has ls 1 [(0, .ref a)] := hl
  refine lv_aload_n hx hb d_Al_size_0 rfl (lv_at hl 0 rfl) ?_
  refine va_get (D := D) (ci := 0) (v := .int k) (C := R_Al) (T := F_Al) (N := 3) hx hb hG in_Al hown hK hP 0 rfl rfl 1 (by decide) (hG _ kw_43) (fun _ h9 => h9) rfl d_Al_size_1 ?_
  exact W.iret (v := k) hx hb hr (fun t ht hW => ⟨k, rfl, rfl, ht⟩) (fun q h => nomatch h) d_Al_size_4
set_option maxHeartbeats 4000000 in
set_option maxRecDepth 100000 in
theorem c_Al_elementData (l : Launch) (D : va_G) (tys : List (ClassId × FieldType)) (a b : Nat) (n cap i x : Nat) (k2 : Int32) (cA : ClassId) (f : Nat → Option Nat) (hi : i < n) (hn : n ≤ cap) (hc : cap < 2 ^ 31) (t0 : Nat) (ht : tys[t0]? = some (cA, .object "java/lang/Object")) (hf : f i = some x) : Met l y_Al_elementData (Cond.code y_Al_elementData b_Al_elementData 2 (some (.object "java/lang/Object")) :: GW) ({ frames := 0, cells := 0, slots := 0, locals := 0 }) (va_Pc [.ref a, .int (nI i)] (rd_B D tys [(a, .inr (0, [.ref b, .int (nI n), .int k2])), (b, .inl (cA, cap, .inr (.inr (.inr (.inr f)))))])) (va_Sr (fun k => k = x) (fun k => .ref k)) 0 0 (fun _ => False) := by
  refine Met.ofW (cc := b_Al_elementData) (maxL := 2) (ret := (some (.object "java/lang/Object"))) (by decide) rfl ?_
  intro p e s m args below meth c s₁ B hml hv
  obtain ⟨rfl, hP, hK⟩ := hv
  have hx := B.exec
  have hb := B.bytes
  have hr := B.returns
  have hts := atoms_spec (ws := Cond.code y_Al_elementData b_Al_elementData 2 (some (.object "java/lang/Object")) :: GW) B.pre
  have hG : ∀ w ∈ GW, w.before _ s = true := fun w h => hts w (List.mem_cons_of_mem _ h)
  have hown : s.vm.findClass R_Al = some m.cls := findClass_of_methodNamed B.named
  have hlocks := B.notSynchronized
  have hl := lv_entry ([.ref a, .int (nI i)]) (n := 2) (Nat.le_of_ble_eq_true rfl)
  rw [lg_entry_eq]
  generalize (lg_sl ([.ref a, .int (nI i)]) ++ List.replicate (2 - (lg_sl ([.ref a, .int (nI i)])).length) Slot.unset).toArray = ls at hl ⊢
  have hl : lv_has ls 2 [(0, .ref a), (1, .int (nI i))] := hl
  refine lv_aload_n hx hb d_Al_elementData_0 rfl (lv_at hl 0 rfl) ?_
  refine va_get (D := D) (ci := 0) (v := .ref b) (C := R_Al) (T := F_Al) (N := 3) hx hb hG in_Al hown hK hP 0 rfl rfl 0 (by decide) (hG _ kw_42) (fun _ h9 => h9) rfl d_Al_elementData_1 ?_
  refine lv_iload_n hx hb d_Al_elementData_4 rfl (lv_at hl 1 rfl) ?_
  refine va_aldq hx hb hK hP 1 t0 rfl ht (vp_in_nI (Nat.lt_of_lt_of_le hi hn) hc) d_Al_elementData_5 ?_
  rw [nI_clamp (Nat.lt_trans (Nat.lt_of_lt_of_le hi hn) hc), hf]
  exact W.aret (v := .ref x) hx hb hr (Or.inl ⟨_, rfl⟩) (Or.inr ⟨_, rfl⟩) (fun t ht hW => ⟨x, rfl, rfl, ht⟩) (fun q h => nomatch h) d_Al_elementData_6
set_option maxHeartbeats 4000000 in
set_option maxRecDepth 100000 in
theorem c_Al_get (l : Launch) (D : va_G) (tys : List (ClassId × FieldType)) (a b : Nat) (n cap i x : Nat) (k2 : Int32) (cA : ClassId) (f : Nat → Option Nat) (hi : i < n) (hn : n ≤ cap) (hc : cap < 2 ^ 31) (t0 : Nat) (ht : tys[t0]? = some (cA, .object "java/lang/Object")) (hf : f i = some x) : Met l y_Al_get (Cond.code y_Al_get b_Al_get 2 (some (.object "java/lang/Object")) :: GW) ({ frames := 2, cells := 0, slots := 0, locals := 64 }) (va_Pc [.ref a, .int (nI i)] (rd_B D tys [(a, .inr (0, [.ref b, .int (nI n), .int k2])), (b, .inl (cA, cap, .inr (.inr (.inr (.inr f)))))])) (va_Sr (fun k => k = x) (fun k => .ref k)) 0 0 (fun _ => False) := by
  refine Met.ofW (cc := b_Al_get) (maxL := 2) (ret := (some (.object "java/lang/Object"))) (by decide) rfl ?_
  intro p e s m args below meth c s₁ B hml hv
  obtain ⟨rfl, hP, hK⟩ := hv
  have hx := B.exec
  have hb := B.bytes
  have hr := B.returns
  have hts := atoms_spec (ws := Cond.code y_Al_get b_Al_get 2 (some (.object "java/lang/Object")) :: GW) B.pre
  have hG : ∀ w ∈ GW, w.before _ s = true := fun w h => hts w (List.mem_cons_of_mem _ h)
  have hown : s.vm.findClass R_Al = some m.cls := findClass_of_methodNamed B.named
  have hlocks := B.notSynchronized
  have hl := lv_entry ([.ref a, .int (nI i)]) (n := 2) (Nat.le_of_ble_eq_true rfl)
  rw [lg_entry_eq]
  generalize (lg_sl ([.ref a, .int (nI i)]) ++ List.replicate (2 - (lg_sl ([.ref a, .int (nI i)])).length) Slot.unset).toArray = ls at hl ⊢
  have hl : lv_has ls 2 [(0, .ref a), (1, .int (nI i))] := hl
  refine lv_iload_n hx hb d_Al_get_0 rfl (lv_at hl 1 rfl) ?_
  refine lv_aload_n hx hb d_Al_get_1 rfl (lv_at hl 0 rfl) ?_
  refine va_get (D := D) (ci := 0) (v := .int (nI n)) (C := R_Al) (T := F_Al) (N := 3) hx hb hG in_Al hown hK hP 0 rfl rfl 1 (by decide) (hG _ kw_43) (fun _ h9 => h9) rfl d_Al_get_2 ?_
  refine vp_callSi (W.runS (As := [.int (nI i), .int (nI n)]) (rest := []) ⟨hx, hb, hml, hown, hts⟩ (c_Ob_checkIndex l i n hi (by omega)) (va_cwS 2 hts (gw_S kw_124 kw_125 kw_16 kw_126) rfl rfl rfl (by decide +kernel) ⟨Nat.le_of_ble_eq_true rfl, Nat.le_of_ble_eq_true rfl⟩) ⟨fun _ _ _ _ q => q, fun U _ _ => ⟨rfl, trivial⟩⟩ rfl rfl hl.1 rfl (lv_room (Nat.le_of_ble_eq_true rfl)) d_Al_get_5 ⟨Nat.zero_le _, Nat.zero_le _⟩) (fun r_1 h_2 => ?_)
  subst h_2
  refine lv_pop hx hb d_Al_get_8 rfl ?_
  refine lv_aload_n hx hb d_Al_get_9 rfl (lv_at hl 0 rfl) ?_
  refine lv_iload_n hx hb d_Al_get_10 rfl (lv_at hl 1 rfl) ?_
  refine va_csr (W.runV (As := [.int (nI i)]) (rest := []) ⟨hx, hb, hml, hown, hts⟩ (c_Al_elementData l D tys a b n cap i x k2 cA f hi hn hc t0 ht hf) (cwV 1 hts (gw_V kw_130 kw_131 kw_132 kw_4 kw_133) rfl rfl rfl (by decide +kernel) ⟨Nat.le_of_ble_eq_true rfl, Nat.le_of_ble_eq_true rfl⟩) (rd_V hP hK (va_recv hK hP (ci := 0) (q0 := 0) rfl rfl)) rfl rfl hl.1 rfl (lv_room (Nat.le_of_ble_eq_true rfl)) d_Al_get_11 ⟨Nat.zero_le _, Nat.zero_le _⟩) (fun r_9 h_9 => ?_)
  subst h_9
  exact W.aret (v := .ref r_9) hx hb hr (Or.inl ⟨_, rfl⟩) (Or.inr ⟨_, rfl⟩) (fun t ht hW => ⟨r_9, rfl, rfl, ht⟩) (fun q h => nomatch h) d_Al_get_14
