set_option maxHeartbeats 4000000 in
set_option maxRecDepth 100000 in
theorem c_S_init (l : Launch) (D : va_G) (cs : Nat → ClassId) (a : Nat) (p0 p1 : Int32) (sz : Nat) : Met l y_S_init (Cond.code y_S_init b_S_init 3 none :: GW) ({ frames := 1, cells := 2, slots := 8, locals := 32 }) (va_Pc [.ref a, .int p0, .int p1] (w1_B D (tys_ cs) a (.inr (3, [.int 0, .int 0, .null, .null])) sz)) (va_Qv (fun _ : Nat × Nat => True) (fun u t => va_P D cls_ [(a, .inr (3, [.int p0, .int p1, .ref u.1, .ref u.2])), (u.1, arI (cs 0) 4 (flF (fun _ => 0) (-1) 4)), (u.2, arI (cs 1) 4 (fun _ => 0))] t.heap ∧ va_D (va_A [(a, .inr (3, [.int 0, .int 0, .null, .null]))] sz) [(a, .inr (3, [.int p0, .int p1, .ref u.1, .ref u.2])), (u.1, arI (cs 0) 4 (flF (fun _ => 0) (-1) 4)), (u.2, arI (cs 1) 4 (fun _ => 0))]) (va_A [(a, .inr (3, [.int 0, .int 0, .null, .null]))] sz)) 2 8 (va_A [(a, .inr (3, [.int 0, .int 0, .null, .null]))] sz) := by
  refine Met.ofW (cc := b_S_init) (maxL := 3) (ret := none) (by decide) rfl ?_
  intro p e s m args below meth c s₁ B hml hv
  obtain ⟨rfl, hsz, hP, hK⟩ := hv
  have hx := B.exec
  have hb := B.bytes
  have hr := B.returns
  have hts := atoms_spec (ws := Cond.code y_S_init b_S_init 3 none :: GW) B.pre
  have hG : ∀ w ∈ GW, w.before _ s = true := fun w h => hts w (List.mem_cons_of_mem _ h)
  have hown : s.vm.findClass R_S = some m.cls := findClass_of_methodNamed B.named
  have hlocks := B.notSynchronized
  have hin : meth.name = "<init>" := (name_of_methodNamed B.named B.method).1
  subst hsz
  have hD0 : va_D (fun _ => True) [(a, .inr (3, [.int 0, .int 0, .null, .null]))] := va_D1
  have hD := hD0.self (sz := s.heap.size)
  generalize hAe : va_A [(a, .inr (3, [.int 0, .int 0, .null, .null]))] s.heap.size = A at hD ⊢
  have hA : ∀ q : Nat, s.heap.size ≤ q → A q := fun q h => by rw [← hAe]; exact Or.inr h
  have hS : va_S A s.heap s.heap [] := va_S.rf
  have hl := lv_entry ([.ref a, .int p0, .int p1]) (n := 3) (Nat.le_of_ble_eq_true rfl)
  rw [lg_entry_eq]
  generalize (lg_sl ([.ref a, .int p0, .int p1]) ++ List.replicate (3 - (lg_sl ([.ref a, .int p0, .int p1])).length) Slot.unset).toArray = ls at hl ⊢
  have hl : lv_has ls 3 [(0, .ref a), (1, .int p0), (2, .int p1)] := hl
  refine lv_aload_n hx hb d_S_init_0 rfl (lv_at hl 0 rfl) ?_
  refine W.objInit hx hb hown (hG _ kw_467) (hG _ kw_26) (hG _ kw_27) rfl (by rw [hml]; exact hl.1) rfl d_S_init_1 (Nat.le_of_ble_eq_true rfl) (Nat.le_of_ble_eq_true rfl) ?_
  refine W.eq (g2 := F0 m 4 ls []) rfl ?_
  refine lv_aload_n hx hb d_S_init_4 rfl (lv_at hl 0 rfl) ?_
  refine lv_iconst (v := 4) hx hb d_S_init_5 (by decide) ?_
  refine va_newa (atype := .int) hx hb (hG _ kw_90) (ty := .int) rfl hK hP hD hS hA (n := 4) (N' := 4) (a0 := (4, .inl (fun _ => 0))) (fun _ => rfl) (by decide) (by decide) (by decide) (Nat.le_of_ble_eq_true rfl) (Nat.le_of_ble_eq_true rfl) d_S_init_6 (fun q1 cA H hK9 hP hD hS => ?_)
  have ec := cA_int hK9
  subst ec
  replace hP : va_P D cls_ [(a, .inr (3, [.int 0, .int 0, .null, .null])), (q1, arI (cs 0) 4 (fun _ => 0))] H := hP
  replace hD : va_D A [(a, .inr (3, [.int 0, .int 0, .null, .null])), (q1, arI (cs 0) 4 (fun _ => 0))] := hD
  refine va_putF (D := D) (ci := 3) (v := .ref q1) (ty := .array .int) (C := R_S) (T := F_S) (N := 4) hx hb hG in_S T_S T_S_ok n_S hown hK hP hD hS 0 rfl rfl 2 (by decide) (hG _ kw_473) (fun _ h9 => h9) rfl hin rfl (by decide +kernel) rfl rfl (Nat.le_of_ble_eq_true rfl) d_S_init_8 (fun H locs hP hD hS => ?_)
  replace hP : va_P D cls_ [(a, .inr (3, [.int 0, .int 0, .ref q1, .null])), (q1, arI (cs 0) 4 (fun _ => 0))] H := hP
  replace hD : va_D A [(a, .inr (3, [.int 0, .int 0, .ref q1, .null])), (q1, arI (cs 0) 4 (fun _ => 0))] := hD
  refine lv_aload_n hx hb d_S_init_11 rfl (lv_at hl 0 rfl) ?_
  refine lv_iconst (v := 4) hx hb d_S_init_12 (by decide) ?_
  refine va_newa (atype := .boolean) hx hb (hG _ kw_486) (ty := .boolean) rfl hK hP hD hS hA (n := 4) (N' := 4) (a0 := (4, .inl (fun _ => 0))) (fun _ => rfl) (by decide) (by decide) (by decide) (Nat.le_of_ble_eq_true rfl) (Nat.le_of_ble_eq_true rfl) d_S_init_13 (fun q2 cA H hK9 hP hD hS => ?_)
  have ec := cA_bool hK9
  subst ec
  replace hP : va_P D cls_ [(a, .inr (3, [.int 0, .int 0, .ref q1, .null])), (q1, arI (cs 0) 4 (fun _ => 0)), (q2, arI (cs 1) 4 (fun _ => 0))] H := hP
  replace hD : va_D A [(a, .inr (3, [.int 0, .int 0, .ref q1, .null])), (q1, arI (cs 0) 4 (fun _ => 0)), (q2, arI (cs 1) 4 (fun _ => 0))] := hD
  refine va_putF (D := D) (ci := 3) (v := .ref q2) (ty := .array .boolean) (C := R_S) (T := F_S) (N := 4) hx hb hG in_S T_S T_S_ok n_S hown hK hP hD hS 0 rfl rfl 3 (by decide) (hG _ kw_475) (fun _ h9 => h9) rfl hin rfl (by decide +kernel) rfl rfl (Nat.le_of_ble_eq_true rfl) d_S_init_15 (fun H locs hP hD hS => ?_)
  replace hP : va_P D cls_ [(a, .inr (3, [.int 0, .int 0, .ref q1, .ref q2])), (q1, arI (cs 0) 4 (fun _ => 0)), (q2, arI (cs 1) 4 (fun _ => 0))] H := hP
  replace hD : va_D A [(a, .inr (3, [.int 0, .int 0, .ref q1, .ref q2])), (q1, arI (cs 0) 4 (fun _ => 0)), (q2, arI (cs 1) 4 (fun _ => 0))] := hD
  refine lv_aload_n hx hb d_S_init_18 rfl (lv_at hl 0 rfl) ?_
  refine lv_iload_n hx hb d_S_init_19 rfl (lv_at hl 1 rfl) ?_
  refine va_putF (D := D) (ci := 3) (v := .int p0) (ty := .int) (C := R_S) (T := F_S) (N := 4) hx hb hG in_S T_S T_S_ok n_S hown hK hP hD hS 0 rfl rfl 0 (by decide) (hG _ kw_469) (fun _ h9 => h9) rfl hin rfl (by decide +kernel) rfl rfl (Nat.le_of_ble_eq_true rfl) d_S_init_20 (fun H locs hP hD hS => ?_)
  replace hP : va_P D cls_ [(a, .inr (3, [.int p0, .int 0, .ref q1, .ref q2])), (q1, arI (cs 0) 4 (fun _ => 0)), (q2, arI (cs 1) 4 (fun _ => 0))] H := hP
  replace hD : va_D A [(a, .inr (3, [.int p0, .int 0, .ref q1, .ref q2])), (q1, arI (cs 0) 4 (fun _ => 0)), (q2, arI (cs 1) 4 (fun _ => 0))] := hD
  refine lv_aload_n hx hb d_S_init_23 rfl (lv_at hl 0 rfl) ?_
  refine lv_iload_n hx hb d_S_init_24 rfl (lv_at hl 2 rfl) ?_
  refine va_putF (D := D) (ci := 3) (v := .int p1) (ty := .int) (C := R_S) (T := F_S) (N := 4) hx hb hG in_S T_S T_S_ok n_S hown hK hP hD hS 0 rfl rfl 1 (by decide) (hG _ kw_471) (fun _ h9 => h9) rfl hin rfl (by decide +kernel) rfl rfl (Nat.le_of_ble_eq_true rfl) d_S_init_25 (fun H locs hP hD hS => ?_)
  replace hP : va_P D cls_ [(a, .inr (3, [.int p0, .int p1, .ref q1, .ref q2])), (q1, arI (cs 0) 4 (fun _ => 0)), (q2, arI (cs 1) 4 (fun _ => 0))] H := hP
  replace hD : va_D A [(a, .inr (3, [.int p0, .int p1, .ref q1, .ref q2])), (q1, arI (cs 0) 4 (fun _ => 0)), (q2, arI (cs 1) 4 (fun _ => 0))] := hD
  refine lv_aload_n hx hb d_S_init_28 rfl (lv_at hl 0 rfl) ?_
  refine va_get (D := D) (ci := 3) (v := .ref q1) (C := R_S) (T := F_S) (N := 4) hx hb hG in_S hown hK hP 0 rfl rfl 2 (by decide) (hG _ kw_473) (fun _ h9 => h9) rfl d_S_init_29 ?_
  refine lv_iconst (v := (-1)) hx hb d_S_init_32 (by decide) ?_
  have hPc : va_P D cls_ [(q1, arI (cs 0) 4 (fun _ => 0))] _ := hP.sub [1] rfl
  have hFc : ∀ q, va_A [(q1, arI (cs 0) 4 (fun _ => 0))] H.size q → A q := fun q h => by
    rcases h with ⟨i9, x9, h9⟩ | h
    · have h3 := (List.getElem?_eq_some_iff.mp h9).1
      simp at h3
      subst h3
      cases h9
      exact hD.2 1 _ rfl
    · exact hA q (Nat.le_trans hS.1 h)
  refine va_callv (va_runS (As := [.ref q1, .int ((-1))]) (rest := []) ⟨hx, hb, hml, hown, hts⟩ (c_Ar_fill l D (tys_ cs) q1 (cs 0) 4 (by decide) (fun _ => 0) (-1) 0 rfl H.size) (va_cwS 2 hts (gw_S kw_468 kw_57 kw_5 kw_58) rfl rfl rfl (by decide +kernel) ⟨Nat.le_of_ble_eq_true rfl, Nat.le_of_ble_eq_true rfl⟩) ⟨w1_blind, fun U hU hW => ⟨rfl, by rw [hU], by rw [hU]; exact hPc, va_K.moved hW.alike hK⟩⟩ rfl rfl hl.1 rfl (lv_room (Nat.le_of_ble_eq_true rfl)) d_S_init_33 ⟨Nat.le_of_ble_eq_true rfl, Nat.le_of_ble_eq_true rfl⟩) hS (fun q _ h => hFc q h) hFc (fun u t H1 locs ht hvm hw hB hz1 hk1 hS => ?_)
  have hB1 : va_P D cls_ [(q1, arI (cs 0) 4 (flF (fun _ => 0) (-1) 4))] t.heap := hB
  rw [ht] at hB1
  obtain ⟨hP, hD⟩ := va_join (wc := [(q1, arI (cs 0) 4 (fun _ => 0))]) (wr := [(a, .inr (3, [.int p0, .int p1, .ref q1, .ref q2])), (q2, arI (cs 1) 4 (fun _ => 0))]) hP hD [1] [0, 2] rfl rfl rfl (by decide) hk1 hFc hB1 (va_D1' ((va_D1 (x := arI (cs 0) 4 (fun _ => 0))).self (sz := H.size)))
  replace hP : va_P D cls_ [(a, .inr (3, [.int p0, .int p1, .ref q1, .ref q2])), (q1, arI (cs 0) 4 (flF (fun _ => 0) (-1) 4)), (q2, arI (cs 1) 4 (fun _ => 0))] H1 := hP.sub [0, 2, 1] rfl
  replace hD : va_D A [(a, .inr (3, [.int p0, .int p1, .ref q1, .ref q2])), (q1, arI (cs 0) 4 (flF (fun _ => 0) (-1) 4)), (q2, arI (cs 1) 4 (fun _ => 0))] := hD.sub [0, 2, 1] rfl rfl
  exact W.vret hx hb hr (fun t ht hW => ⟨⟨(q1, q2), rfl, trivial, by show va_P _ _ _ t.heap; rw [ht]; exact hP, hD⟩, hS.F ht⟩) hS.2.2 d_S_init_36
