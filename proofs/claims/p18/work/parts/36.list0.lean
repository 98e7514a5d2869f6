theorem va_D1' {A : Nat → Prop} {a : Nat} {x x' : va_E} (hD : va_D A [(a, x)]) : va_D A [(a, x')] := ⟨va_D1.1, fun k q hk => by
  have h3 := (List.getElem?_eq_some_iff.mp hk).1
  simp at h3
  subst h3
  cases hk
  exact hD.2 0 (a, x) rfl⟩
/-- ArrayList's shared empty array: where it lies -/
abbrev em_Z (E : Nat) (A : Nat → Prop) (U : State) (H : Heap) : Prop := va_Z "java/util/ArrayList" "DEFAULTCAPACITY_EMPTY_ELEMENTDATA" "[Ljava/lang/Object;" (.ref E) A U H
set_option maxHeartbeats 4000000 in
set_option maxRecDepth 100000 in
theorem c_Al_init (l : Launch) (D : va_G) (tys : List (ClassId × FieldType)) (a E : Nat) (sz : Nat) : Met l y_Al_init (Cond.code y_Al_init b_Al_init 1 none :: GW) ({ frames := 3, cells := 0, slots := 0, locals := 96 }) (va_Pc [.ref a] (fun U => w1_B D tys a (.inr (0, [.null, .int 0, .int 0])) sz U ∧ em_Z E (va_A [(a, .inr (0, [.null, .int 0, .int 0]))] sz) U U.heap)) (va_Qv (fun _ : Unit => True) (fun _ t => va_P D cls_ [(a, .inr (0, [.ref E, .int 0, .int 0]))] t.heap) (va_A [(a, .inr (0, [.null, .int 0, .int 0]))] sz)) 0 0 (va_A [(a, .inr (0, [.null, .int 0, .int 0]))] sz) := by
  refine Met.ofW (cc := b_Al_init) (maxL := 1) (ret := none) (by decide) rfl ?_
  intro p e s m args below meth c s₁ B hml hv
  obtain ⟨rfl, ⟨hsz, hP, hK⟩, hZ⟩ := hv
  have hx := B.exec
  have hb := B.bytes
  have hr := B.returns
  have hts := atoms_spec (ws := Cond.code y_Al_init b_Al_init 1 none :: GW) B.pre
  have hG : ∀ w ∈ GW, w.before _ s = true := fun w h => hts w (List.mem_cons_of_mem _ h)
  have hown : s.vm.findClass R_Al = some m.cls := findClass_of_methodNamed B.named
  have hlocks := B.notSynchronized
  subst hsz
  have hD0 : va_D (fun _ => True) [(a, .inr (0, [.null, .int 0, .int 0]))] := va_D1
  have hD := hD0.self (sz := s.heap.size)
  generalize hAe : va_A [(a, .inr (0, [.null, .int 0, .int 0]))] s.heap.size = A at hD hZ ⊢
  have hA : ∀ q : Nat, s.heap.size ≤ q → A q := fun q h => by rw [← hAe]; exact Or.inr h
  have hS : va_S A s.heap s.heap [] := va_S.rf
  have hl := lv_entry ([.ref a]) (n := 1) (Nat.le_of_ble_eq_true rfl)
  rw [lg_entry_eq]
  generalize (lg_sl ([.ref a]) ++ List.replicate (1 - (lg_sl ([.ref a])).length) Slot.unset).toArray = ls at hl ⊢
  have hl : lv_has ls 1 [(0, .ref a)] := hl
  refine lv_aload_n hx hb d_Al_init_0 rfl (lv_at hl 0 rfl) ?_
  have hFc := rl_free hD hS hA
  refine va_callv (va_runI (As := []) (rest := []) ⟨hx, hb, hml, hown, hts⟩ (c_Ab_init l D tys a .null (.int 0) 0 s.heap.size) (cwI 0 hts (gw_I kw_35) rfl rfl rfl (hG _ kw_3) (hG _ kw_33) (hG _ kw_34) rfl (by decide +kernel) ⟨Nat.le_of_ble_eq_true rfl, Nat.le_of_ble_eq_true rfl⟩) ⟨w1_blind, fun U hU hW => ⟨rfl, by rw [hU], by rw [hU]; exact hP, va_K.moved hW.alike hK⟩⟩ rfl rfl hl.1 rfl (lv_room (Nat.le_of_ble_eq_true rfl)) d_Al_init_1 ⟨Nat.le_of_ble_eq_true rfl, Nat.le_of_ble_eq_true rfl⟩) hS (fun q _ h => hFc q h) hFc (fun u t H1 locs ht hvm hw hB hz1 hk1 hS => ?_)
  replace hB : va_P D cls_ [(a, .inr (0, [.null, .int 0, .int 0]))] t.heap := hB
  rw [ht] at hB
  have hP := hB
  refine lv_aload_n hx hb d_Al_init_4 rfl (lv_at hl 0 rfl) ?_
  refine va_gets hx hb hZ hS hown (hG _ kw_40) (fun _ h9 => h9) d_Al_init_5 ?_
  refine va_put (D := D) (ci := 0) (v := .ref E) (ty := .array (.object "java/lang/Object")) (C := R_Al) (T := F_Al) (N := 3) hx hb hG in_Al T_Al T_Al_ok n_Al hown hK hP hD hS 0 rfl rfl 0 (by decide) (hG _ kw_42) (fun _ h9 => h9) rfl (by decide +kernel) rfl rfl (Nat.le_of_ble_eq_true rfl) d_Al_init_8 (fun H locs hP hD hS => ?_)
  have hP : va_P D cls_ [(a, .inr (0, [.ref E, .int 0, .int 0]))] H := hP
  exact W.vret hx hb hr (fun t ht hW => ⟨⟨(), rfl, trivial, by show va_P _ _ _ t.heap; rw [ht]; exact hP⟩, hS.F ht⟩) hS.2.2 d_Al_init_11
