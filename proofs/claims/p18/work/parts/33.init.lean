set_option maxHeartbeats 4000000 in
set_option maxRecDepth 100000 in
theorem c_I_init (l : Launch) (D : va_G) (tys : List (ClassId × FieldType)) (a : Nat) (p0 p1 p2 : Int32) (sz : Nat) : Met l y_I_init (Cond.code y_I_init b_I_init 4 none :: GW) ({ frames := 1, cells := 0, slots := 0, locals := 32 }) (va_Pc [.ref a, .int p0, .int p1, .int p2] (w1_B D tys a (.inr (2, [.int 0, .int 0, .int 0, .int 0, .int 0, .int 0, .int 0, .int 0, .int 0, .int 0])) sz)) (va_Qv (fun _ : Unit => True) (fun _ t => va_P D cls_ [(a, .inr (2, [.int p0, .int p1, .int p2, .int 0, .int 0, .int ((-1)), .int ((-1)), .int ((-1)), .int ((-1)), .int 0]))] t.heap) (va_A [(a, .inr (2, [.int 0, .int 0, .int 0, .int 0, .int 0, .int 0, .int 0, .int 0, .int 0, .int 0]))] sz)) 0 0 (va_A [(a, .inr (2, [.int 0, .int 0, .int 0, .int 0, .int 0, .int 0, .int 0, .int 0, .int 0, .int 0]))] sz) := by
  refine Met.ofW (cc := b_I_init) (maxL := 4) (ret := none) (by decide) rfl ?_
  intro p e s m args below meth c s₁ B hml hv
  obtain ⟨rfl, hsz, hP, hK⟩ := hv
  have hx := B.exec
  have hb := B.bytes
  have hr := B.returns
  have hts := atoms_spec (ws := Cond.code y_I_init b_I_init 4 none :: GW) B.pre
  have hG : ∀ w ∈ GW, w.before _ s = true := fun w h => hts w (List.mem_cons_of_mem _ h)
  have hown : s.vm.findClass R_I = some m.cls := findClass_of_methodNamed B.named
  have hlocks := B.notSynchronized
  have hin : meth.name = "<init>" := (name_of_methodNamed B.named B.method).1
  subst hsz
  have hD0 : va_D (fun _ => True) [(a, .inr (2, [.int 0, .int 0, .int 0, .int 0, .int 0, .int 0, .int 0, .int 0, .int 0, .int 0]))] := va_D1
  have hD := hD0.self (sz := s.heap.size)
  generalize hAe : va_A [(a, .inr (2, [.int 0, .int 0, .int 0, .int 0, .int 0, .int 0, .int 0, .int 0, .int 0, .int 0]))] s.heap.size = A at hD ⊢
  have hA : ∀ q : Nat, s.heap.size ≤ q → A q := fun q h => by rw [← hAe]; exact Or.inr h
  have hS : va_S A s.heap s.heap [] := va_S.rf
  have hl := lv_entry ([.ref a, .int p0, .int p1, .int p2]) (n := 4) (Nat.le_of_ble_eq_true rfl)
  rw [lg_entry_eq]
  generalize (lg_sl ([.ref a, .int p0, .int p1, .int p2]) ++ List.replicate (4 - (lg_sl ([.ref a, .int p0, .int p1, .int p2])).length) Slot.unset).toArray = ls at hl ⊢
  have hl : lv_has ls 4 [(0, .ref a), (1, .int p0), (2, .int p1), (3, .int p2)] := hl
  refine lv_aload_n hx hb d_I_init_0 rfl (lv_at hl 0 rfl) ?_
  refine W.objInit hx hb hown (hG _ kw_286) (hG _ kw_26) (hG _ kw_27) rfl (by rw [hml]; exact hl.1) rfl d_I_init_1 (Nat.le_of_ble_eq_true rfl) (Nat.le_of_ble_eq_true rfl) ?_
  refine W.eq (g2 := F0 m 4 ls []) rfl ?_
  refine lv_aload_n hx hb d_I_init_4 rfl (lv_at hl 0 rfl) ?_
  refine lv_iconst (v := 0) hx hb d_I_init_5 (by decide) ?_
  refine va_put (D := D) (ci := 2) (v := .int 0) (ty := .int) (C := R_I) (T := F_I) (N := 10) hx hb hG in_I T_I T_I_ok n_I hown hK hP hD hS 0 rfl rfl 3 (by decide) (hG _ kw_292) (fun _ h9 => h9) rfl (by decide +kernel) rfl rfl (Nat.le_of_ble_eq_true rfl) d_I_init_6 (fun H locs hP hD hS => ?_)
  have hP : va_P D cls_ [(a, .inr (2, [.int 0, .int 0, .int 0, .int 0, .int 0, .int 0, .int 0, .int 0, .int 0, .int 0]))] H := hP
  have hD : va_D A [(a, .inr (2, [.int 0, .int 0, .int 0, .int 0, .int 0, .int 0, .int 0, .int 0, .int 0, .int 0]))] := hD
  refine lv_aload_n hx hb d_I_init_9 rfl (lv_at hl 0 rfl) ?_
  refine lv_iconst (v := 0) hx hb d_I_init_10 (by decide) ?_
  refine va_put (D := D) (ci := 2) (v := .int 0) (ty := .int) (C := R_I) (T := F_I) (N := 10) hx hb hG in_I T_I T_I_ok n_I hown hK hP hD hS 0 rfl rfl 4 (by decide) (hG _ kw_294) (fun _ h9 => h9) rfl (by decide +kernel) rfl rfl (Nat.le_of_ble_eq_true rfl) d_I_init_11 (fun H locs hP hD hS => ?_)
  have hP : va_P D cls_ [(a, .inr (2, [.int 0, .int 0, .int 0, .int 0, .int 0, .int 0, .int 0, .int 0, .int 0, .int 0]))] H := hP
  have hD : va_D A [(a, .inr (2, [.int 0, .int 0, .int 0, .int 0, .int 0, .int 0, .int 0, .int 0, .int 0, .int 0]))] := hD
  refine lv_aload_n hx hb d_I_init_14 rfl (lv_at hl 0 rfl) ?_
  refine lv_iconst (v := (-1)) hx hb d_I_init_15 (by decide) ?_
  refine va_put (D := D) (ci := 2) (v := .int ((-1))) (ty := .int) (C := R_I) (T := F_I) (N := 10) hx hb hG in_I T_I T_I_ok n_I hown hK hP hD hS 0 rfl rfl 5 (by decide) (hG _ kw_296) (fun _ h9 => h9) rfl (by decide +kernel) rfl rfl (Nat.le_of_ble_eq_true rfl) d_I_init_16 (fun H locs hP hD hS => ?_)
  have hP : va_P D cls_ [(a, .inr (2, [.int 0, .int 0, .int 0, .int 0, .int 0, .int ((-1)), .int 0, .int 0, .int 0, .int 0]))] H := hP
  have hD : va_D A [(a, .inr (2, [.int 0, .int 0, .int 0, .int 0, .int 0, .int ((-1)), .int 0, .int 0, .int 0, .int 0]))] := hD
  refine lv_aload_n hx hb d_I_init_19 rfl (lv_at hl 0 rfl) ?_
  refine lv_iconst (v := (-1)) hx hb d_I_init_20 (by decide) ?_
  refine va_put (D := D) (ci := 2) (v := .int ((-1))) (ty := .int) (C := R_I) (T := F_I) (N := 10) hx hb hG in_I T_I T_I_ok n_I hown hK hP hD hS 0 rfl rfl 6 (by decide) (hG _ kw_298) (fun _ h9 => h9) rfl (by decide +kernel) rfl rfl (Nat.le_of_ble_eq_true rfl) d_I_init_21 (fun H locs hP hD hS => ?_)
  have hP : va_P D cls_ [(a, .inr (2, [.int 0, .int 0, .int 0, .int 0, .int 0, .int ((-1)), .int ((-1)), .int 0, .int 0, .int 0]))] H := hP
  have hD : va_D A [(a, .inr (2, [.int 0, .int 0, .int 0, .int 0, .int 0, .int ((-1)), .int ((-1)), .int 0, .int 0, .int 0]))] := hD
  refine lv_aload_n hx hb d_I_init_24 rfl (lv_at hl 0 rfl) ?_
  refine lv_iconst (v := (-1)) hx hb d_I_init_25 (by decide) ?_
  refine va_put (D := D) (ci := 2) (v := .int ((-1))) (ty := .int) (C := R_I) (T := F_I) (N := 10) hx hb hG in_I T_I T_I_ok n_I hown hK hP hD hS 0 rfl rfl 7 (by decide) (hG _ kw_300) (fun _ h9 => h9) rfl (by decide +kernel) rfl rfl (Nat.le_of_ble_eq_true rfl) d_I_init_26 (fun H locs hP hD hS => ?_)
  have hP : va_P D cls_ [(a, .inr (2, [.int 0, .int 0, .int 0, .int 0, .int 0, .int ((-1)), .int ((-1)), .int ((-1)), .int 0, .int 0]))] H := hP
  have hD : va_D A [(a, .inr (2, [.int 0, .int 0, .int 0, .int 0, .int 0, .int ((-1)), .int ((-1)), .int ((-1)), .int 0, .int 0]))] := hD
  refine lv_aload_n hx hb d_I_init_29 rfl (lv_at hl 0 rfl) ?_
  refine lv_iconst (v := (-1)) hx hb d_I_init_30 (by decide) ?_
  refine va_put (D := D) (ci := 2) (v := .int ((-1))) (ty := .int) (C := R_I) (T := F_I) (N := 10) hx hb hG in_I T_I T_I_ok n_I hown hK hP hD hS 0 rfl rfl 8 (by decide) (hG _ kw_302) (fun _ h9 => h9) rfl (by decide +kernel) rfl rfl (Nat.le_of_ble_eq_true rfl) d_I_init_31 (fun H locs hP hD hS => ?_)
  have hP : va_P D cls_ [(a, .inr (2, [.int 0, .int 0, .int 0, .int 0, .int 0, .int ((-1)), .int ((-1)), .int ((-1)), .int ((-1)), .int 0]))] H := hP
  have hD : va_D A [(a, .inr (2, [.int 0, .int 0, .int 0, .int 0, .int 0, .int ((-1)), .int ((-1)), .int ((-1)), .int ((-1)), .int 0]))] := hD
  refine lv_aload_n hx hb d_I_init_34 rfl (lv_at hl 0 rfl) ?_
  refine lv_iconst (v := 0) hx hb d_I_init_35 (by decide) ?_
  refine va_put (D := D) (ci := 2) (v := .int 0) (ty := .int) (C := R_I) (T := F_I) (N := 10) hx hb hG in_I T_I T_I_ok n_I hown hK hP hD hS 0 rfl rfl 9 (by decide) (hG _ kw_304) (fun _ h9 => h9) rfl (by decide +kernel) rfl rfl (Nat.le_of_ble_eq_true rfl) d_I_init_36 (fun H locs hP hD hS => ?_)
  have hP : va_P D cls_ [(a, .inr (2, [.int 0, .int 0, .int 0, .int 0, .int 0, .int ((-1)), .int ((-1)), .int ((-1)), .int ((-1)), .int 0]))] H := hP
  have hD : va_D A [(a, .inr (2, [.int 0, .int 0, .int 0, .int 0, .int 0, .int ((-1)), .int ((-1)), .int ((-1)), .int ((-1)), .int 0]))] := hD
  refine lv_aload_n hx hb d_I_init_39 rfl (lv_at hl 0 rfl) ?_
  refine lv_iload_n hx hb d_I_init_40 rfl (lv_at hl 1 rfl) ?_
  refine va_putF (D := D) (ci := 2) (v := .int p0) (ty := .int) (C := R_I) (T := F_I) (N := 10) hx hb hG in_I T_I T_I_ok n_I hown hK hP hD hS 0 rfl rfl 0 (by decide) (hG _ kw_287) (fun _ h9 => h9) rfl hin rfl (by decide +kernel) rfl rfl (Nat.le_of_ble_eq_true rfl) d_I_init_41 (fun H locs hP hD hS => ?_)
  have hP : va_P D cls_ [(a, .inr (2, [.int p0, .int 0, .int 0, .int 0, .int 0, .int ((-1)), .int ((-1)), .int ((-1)), .int ((-1)), .int 0]))] H := hP
  have hD : va_D A [(a, .inr (2, [.int p0, .int 0, .int 0, .int 0, .int 0, .int ((-1)), .int ((-1)), .int ((-1)), .int ((-1)), .int 0]))] := hD
  refine lv_aload_n hx hb d_I_init_44 rfl (lv_at hl 0 rfl) ?_
  refine lv_iload_n hx hb d_I_init_45 rfl (lv_at hl 2 rfl) ?_
  refine va_putF (D := D) (ci := 2) (v := .int p1) (ty := .int) (C := R_I) (T := F_I) (N := 10) hx hb hG in_I T_I T_I_ok n_I hown hK hP hD hS 0 rfl rfl 1 (by decide) (hG _ kw_289) (fun _ h9 => h9) rfl hin rfl (by decide +kernel) rfl rfl (Nat.le_of_ble_eq_true rfl) d_I_init_46 (fun H locs hP hD hS => ?_)
  have hP : va_P D cls_ [(a, .inr (2, [.int p0, .int p1, .int 0, .int 0, .int 0, .int ((-1)), .int ((-1)), .int ((-1)), .int ((-1)), .int 0]))] H := hP
  have hD : va_D A [(a, .inr (2, [.int p0, .int p1, .int 0, .int 0, .int 0, .int ((-1)), .int ((-1)), .int ((-1)), .int ((-1)), .int 0]))] := hD
  refine lv_aload_n hx hb d_I_init_49 rfl (lv_at hl 0 rfl) ?_
  refine lv_iload_n hx hb d_I_init_50 rfl (lv_at hl 3 rfl) ?_
  refine va_putF (D := D) (ci := 2) (v := .int p2) (ty := .int) (C := R_I) (T := F_I) (N := 10) hx hb hG in_I T_I T_I_ok n_I hown hK hP hD hS 0 rfl rfl 2 (by decide) (hG _ kw_291) (fun _ h9 => h9) rfl hin rfl (by decide +kernel) rfl rfl (Nat.le_of_ble_eq_true rfl) d_I_init_51 (fun H locs hP hD hS => ?_)
  have hP : va_P D cls_ [(a, .inr (2, [.int p0, .int p1, .int p2, .int 0, .int 0, .int ((-1)), .int ((-1)), .int ((-1)), .int ((-1)), .int 0]))] H := hP
  have hD : va_D A [(a, .inr (2, [.int p0, .int p1, .int p2, .int 0, .int 0, .int ((-1)), .int ((-1)), .int ((-1)), .int ((-1)), .int 0]))] := hD
  exact W.vret hx hb hr (fun t ht hW => ⟨⟨(), rfl, trivial, by show va_P _ _ _ t.heap; rw [ht]; exact hP⟩, hS.F ht⟩) hS.2.2 d_I_init_54
