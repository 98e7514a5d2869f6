def lateF (due t : Int32) : Int32 := if t ≤ due then 0 else (t - due - 1) / 100 + 1
def minF (x y : Int32) : Int32 := if y < x then y else x
noncomputable def ifQ (P : Prop) (a b : Int32) : Int32 := ifP P a b
/-- how often an inspection passes up between two times -/
noncomputable def puF (due st lev b u : Int32) : Int32 := ifP (¬ st = 3 ∧ ¬ st = 5) (minF (lateF due u - lateF due b) (3 - lev)) 0
noncomputable def puL (due st lev b u : Int32) : Int32 := ifP (¬ st = 3 ∧ ¬ st = 5) (lev + minF (lateF due u - lateF due b) (3 - lev)) lev
set_option maxHeartbeats 4000000 in
set_option maxRecDepth 100000 in
theorem c_I_passUp (l : Launch) (D : va_G) (tys : List (ClassId × FieldType)) (a : Nat) (f0 f1 f2 f3 f4 f5 f6 f7 f8 f9 : Int32) (p0 p1 : Int32) (sz : Nat) : Met l y_I_passUp (Cond.code y_I_passUp b_I_passUp 4 (some .int) :: GW) ({ frames := 1, cells := 0, slots := 0, locals := 32 }) (va_Pc [.ref a, .int p0, .int p1] (w1_B D tys a (.inr (2, [.int f0, .int f1, .int f2, .int f3, .int f4, .int f5, .int f6, .int f7, .int f8, .int f9])) sz)) (va_Qi (fun r (_ : Unit) => r = puF f2 f3 f4 p0 p1) (fun _ t => va_P D cls_ [(a, .inr (2, [.int f0, .int f1, .int f2, .int f3, .int (puL f2 f3 f4 p0 p1), .int f5, .int f6, .int f7, .int f8, .int f9]))] t.heap) (va_A [(a, .inr (2, [.int f0, .int f1, .int f2, .int f3, .int f4, .int f5, .int f6, .int f7, .int f8, .int f9]))] sz)) 0 0 (va_A [(a, .inr (2, [.int f0, .int f1, .int f2, .int f3, .int f4, .int f5, .int f6, .int f7, .int f8, .int f9]))] sz) := by
  refine Met.ofW (cc := b_I_passUp) (maxL := 4) (ret := (some .int)) (by decide) rfl ?_
  intro p e s m args below meth c s₁ B hml hv
  obtain ⟨rfl, hsz, hP, hK⟩ := hv
  have hx := B.exec
  have hb := B.bytes
  have hr := B.returns
  have hts := atoms_spec (ws := Cond.code y_I_passUp b_I_passUp 4 (some .int) :: GW) B.pre
  have hG : ∀ w ∈ GW, w.before _ s = true := fun w h => hts w (List.mem_cons_of_mem _ h)
  have hown : s.vm.findClass R_I = some m.cls := findClass_of_methodNamed B.named
  have hlocks := B.notSynchronized
  subst hsz
  have hD0 : va_D (fun _ => True) [(a, .inr (2, [.int f0, .int f1, .int f2, .int f3, .int f4, .int f5, .int f6, .int f7, .int f8, .int f9]))] := va_D1
  have hD := hD0.self (sz := s.heap.size)
  generalize hAe : va_A [(a, .inr (2, [.int f0, .int f1, .int f2, .int f3, .int f4, .int f5, .int f6, .int f7, .int f8, .int f9]))] s.heap.size = A at hD ⊢
  have hA : ∀ q : Nat, s.heap.size ≤ q → A q := fun q h => by rw [← hAe]; exact Or.inr h
  have hS : va_S A s.heap s.heap [] := va_S.rf
  have hl := lv_entry ([.ref a, .int p0, .int p1]) (n := 4) (Nat.le_of_ble_eq_true rfl)
  rw [lg_entry_eq]
  generalize (lg_sl ([.ref a, .int p0, .int p1]) ++ List.replicate (4 - (lg_sl ([.ref a, .int p0, .int p1])).length) Slot.unset).toArray = ls at hl ⊢
  have hl : lv_has ls 4 [(0, .ref a), (1, .int p0), (2, .int p1)] := hl
  refine lv_aload_n hx hb d_I_passUp_0 rfl (lv_at hl 0 rfl) ?_
  refine vp_callSi (W.runV (As := []) (rest := []) ⟨hx, hb, hml, hown, hts⟩ (c_I_isPending l D tys a f0 f1 f2 f3 f4 f5 f6 f7 f8 f9) (cwV 0 hts (gw_V kw_520 kw_521 kw_522 kw_12 kw_523) rfl rfl rfl (by decide +kernel) ⟨Nat.le_of_ble_eq_true rfl, Nat.le_of_ble_eq_true rfl⟩) (rd_V hP hK (va_recv hK hP (ci := 2) (q0 := 0) rfl rfl)) rfl rfl hl.1 rfl (lv_room (Nat.le_of_ble_eq_true rfl)) d_I_passUp_1 ⟨Nat.zero_le _, Nat.zero_le _⟩) (fun r_1 h_2 => ?_)
  subst h_2
  refine lv_if_ne (tgt := 9) hx hb d_I_passUp_4 (by decide) (fun c_3 => ?_) (fun c_3 => ?_)
  · refine lv_aload_n hx hb d_I_passUp_9 rfl (lv_at hl 0 rfl) ?_
    refine lv_iload_n hx hb d_I_passUp_10 rfl (lv_at hl 2 rfl) ?_
    refine vp_callSi (W.runV (As := [.int p1]) (rest := []) ⟨hx, hb, hml, hown, hts⟩ (c_I_lateTimes l D tys a f0 f1 f2 f3 f4 f5 f6 f7 f8 f9 p1) (cwV 1 hts (gw_V kw_524 kw_526 ks_0_13 kw_12 kw_527) rfl rfl rfl (by decide +kernel) ⟨Nat.le_of_ble_eq_true rfl, Nat.le_of_ble_eq_true rfl⟩) (rd_V hP hK (va_recv hK hP (ci := 2) (q0 := 0) rfl rfl)) rfl rfl hl.1 rfl (lv_room (Nat.le_of_ble_eq_true rfl)) d_I_passUp_11 ⟨Nat.zero_le _, Nat.zero_le _⟩) (fun r_4 h_5 => ?_)
    subst h_5
    refine lv_aload_n hx hb d_I_passUp_14 rfl (lv_at hl 0 rfl) ?_
    refine lv_iload_n hx hb d_I_passUp_15 rfl (lv_at hl 1 rfl) ?_
    refine vp_callSi (W.runV (As := [.int p0]) (rest := [.int (lateF f2 p1)]) ⟨hx, hb, hml, hown, hts⟩ (c_I_lateTimes l D tys a f0 f1 f2 f3 f4 f5 f6 f7 f8 f9 p0) (cwV 1 hts (gw_V kw_524 kw_526 ks_0_13 kw_12 kw_527) rfl rfl rfl (by decide +kernel) ⟨Nat.le_of_ble_eq_true rfl, Nat.le_of_ble_eq_true rfl⟩) (rd_V hP hK (va_recv hK hP (ci := 2) (q0 := 0) rfl rfl)) rfl rfl hl.1 rfl (lv_room (Nat.le_of_ble_eq_true rfl)) d_I_passUp_16 ⟨Nat.zero_le _, Nat.zero_le _⟩) (fun r_6 h_7 => ?_)
    subst h_7
    refine lv_isub hx hb d_I_passUp_19 ?_
    refine lv_iconst (v := 3) hx hb d_I_passUp_20 (by decide) ?_
    refine lv_aload_n hx hb d_I_passUp_21 rfl (lv_at hl 0 rfl) ?_
    refine va_get (D := D) (ci := 2) (v := .int f4) (C := R_I) (T := F_I) (N := 10) hx hb hG in_I hown hK hP 0 rfl rfl 4 (by decide) (hG _ kw_294) (fun _ h9 => h9) rfl d_I_passUp_22 ?_
    refine lv_isub hx hb d_I_passUp_25 ?_
    refine va_mmin hx hb (hml.trans hl.1.symm) hown (hG _ kw_528) (hG _ kw_375) (hG _ kw_14) (hG _ ka_min) (Nat.le_of_ble_eq_true rfl) (Nat.le_of_ble_eq_true rfl) (Nat.zero_le _) (Nat.zero_le _) (x := (lateF f2 p1) - (lateF f2 p0)) (y := 3 - f4) d_I_passUp_26 ?_
    refine W.eq (g2 := F0 m 29 ls [.int (minF ((lateF f2 p1) - (lateF f2 p0)) (3 - f4))]) rfl ?_
    refine lv_istore_n (lv' := [(3, .int (minF ((lateF f2 p1) - (lateF f2 p0)) (3 - f4))), (0, .ref a), (1, .int p0), (2, .int p1)]) hx hb d_I_passUp_29 rfl hl (by decide) rfl (fun ls hl => ?_)
    refine lv_aload_n hx hb d_I_passUp_30 rfl (lv_at hl 1 rfl) ?_
    refine lv_dup hx hb d_I_passUp_31 rfl ?_
    refine va_get (D := D) (ci := 2) (v := .int f4) (C := R_I) (T := F_I) (N := 10) hx hb hG in_I hown hK hP 0 rfl rfl 4 (by decide) (hG _ kw_294) (fun _ h9 => h9) rfl d_I_passUp_32 ?_
    refine lv_iload_n hx hb d_I_passUp_35 rfl (lv_at hl 0 rfl) ?_
    refine lv_iadd hx hb d_I_passUp_36 ?_
    refine va_put (D := D) (ci := 2) (v := .int (f4 + (minF ((lateF f2 p1) - (lateF f2 p0)) (3 - f4)))) (ty := .int) (C := R_I) (T := F_I) (N := 10) hx hb hG in_I T_I T_I_ok n_I hown hK hP hD hS 0 rfl rfl 4 (by decide) (hG _ kw_294) (fun _ h9 => h9) rfl (by decide +kernel) rfl rfl (Nat.le_of_ble_eq_true rfl) d_I_passUp_37 (fun H locs hP hD hS => ?_)
    have hP : va_P D cls_ [(a, .inr (2, [.int f0, .int f1, .int f2, .int f3, .int (f4 + (minF ((lateF f2 p1) - (lateF f2 p0)) (3 - f4))), .int f5, .int f6, .int f7, .int f8, .int f9]))] H := hP
    have hD : va_D A [(a, .inr (2, [.int f0, .int f1, .int f2, .int f3, .int (f4 + (minF ((lateF f2 p1) - (lateF f2 p0)) (3 - f4))), .int f5, .int f6, .int f7, .int f8, .int f9]))] := hD
    refine lv_iload_n hx hb d_I_passUp_40 rfl (lv_at hl 0 rfl) ?_
    exact W.iret (v := minF ((lateF f2 p1) - (lateF f2 p0)) (3 - f4)) hx hb hr (fun t ht hW => ⟨⟨_, (), rfl, (ifP_t (Classical.not_not.mp (fun h => c_3 (b2i_eq0.mpr h)))).symm, by show va_P _ _ _ t.heap; rw [ht, show puL f2 f3 f4 p0 p1 = f4 + minF (lateF f2 p1 - lateF f2 p0) (3 - f4) from ifP_t (Classical.not_not.mp (fun h => c_3 (b2i_eq0.mpr h)))]; exact hP⟩, hS.F ht⟩) hS.2.2 d_I_passUp_41
  · refine lv_iconst (v := 0) hx hb d_I_passUp_7 (by decide) ?_
    exact W.iret (v := 0) hx hb hr (fun t ht hW => ⟨⟨_, (), rfl, (ifP_f (b2i_eq0.mp c_3)).symm, by show va_P _ _ _ t.heap; rw [ht, show puL f2 f3 f4 p0 p1 = f4 from ifP_f (b2i_eq0.mp c_3)]; exact hP⟩, hS.F ht⟩) hS.2.2 d_I_passUp_8
