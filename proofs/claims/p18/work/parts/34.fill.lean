def flF (f : Nat → Int32) (x : Int32) (k : Nat) : Nat → Int32 := fun j => if j < k then x else f j
theorem flF_0 {f : Nat → Int32} {x : Int32} : flF f x 0 = f := funext fun j => if_neg (Nat.not_lt_zero j)
theorem flF_s {f : Nat → Int32} {x : Int32} {z : Nat} : upd (flF f x z) z x = flF f x (z + 1) := funext fun j => by
  unfold upd flF
  by_cases h : j = z
  · rw [if_pos h, if_pos (by omega)]
  · rw [if_neg h]
    by_cases h2 : j < z
    · rw [if_pos h2, if_pos (by omega)]
    · rw [if_neg h2, if_neg (by omega)]
set_option maxHeartbeats 4000000 in
set_option maxRecDepth 100000 in
theorem c_Ar_fill (l : Launch) (D : va_G) (tys : List (ClassId × FieldType)) (a : Nat) (cA : ClassId) (N : Nat) (hN : N < 2 ^ 31) (f : Nat → Int32) (x : Int32) (t0 : Nat) (ht0 : tys[t0]? = some (cA, .int)) (sz : Nat) : Met l y_Ar_fill (Cond.code y_Ar_fill b_Ar_fill 4 none :: GW) ({ frames := 0, cells := 0, slots := 0, locals := 0 }) (va_Pc [.ref a, .int x] (w1_B D tys a (arI cA N f) sz)) (va_Qv (fun _ : Unit => True) (fun _ t => va_P D cls_ [(a, arI cA N (flF f x N))] t.heap) (va_A [(a, arI cA N f)] sz)) 0 0 (va_A [(a, arI cA N f)] sz) := by
  refine Met.ofW (cc := b_Ar_fill) (maxL := 4) (ret := none) (by decide) rfl ?_
  intro p e s m args below meth c s₁ B hml hv
  obtain ⟨rfl, hsz, hP, hK⟩ := hv
  have hx := B.exec
  have hb := B.bytes
  have hr := B.returns
  have hts := atoms_spec (ws := Cond.code y_Ar_fill b_Ar_fill 4 none :: GW) B.pre
  have hG : ∀ w ∈ GW, w.before _ s = true := fun w h => hts w (List.mem_cons_of_mem _ h)
  have hown : s.vm.findClass R_Ar = some m.cls := findClass_of_methodNamed B.named
  have hlocks := B.notSynchronized
  subst hsz
  have hD0 : va_D (fun _ => True) [(a, arI cA N f)] := va_D1
  have hD := hD0.self (sz := s.heap.size)
  generalize hAe : va_A [(a, arI cA N f)] s.heap.size = A at hD ⊢
  have hA : ∀ q : Nat, s.heap.size ≤ q → A q := fun q h => by rw [← hAe]; exact Or.inr h
  have hS : va_S A s.heap s.heap [] := va_S.rf
  have hl := lv_entry ([.ref a, .int x]) (n := 4) (Nat.le_of_ble_eq_true rfl)
  rw [lg_entry_eq]
  generalize (lg_sl ([.ref a, .int x]) ++ List.replicate (4 - (lg_sl ([.ref a, .int x])).length) Slot.unset).toArray = ls at hl ⊢
  have hl : lv_has ls 4 [(0, .ref a), (1, .int x)] := hl
  refine lv_iconst (v := 0) hx hb d_Ar_fill_0 (by decide) ?_
  refine lv_istore_n (lv' := [(2, .int 0), (0, .ref a), (1, .int x)]) hx hb d_Ar_fill_1 rfl hl (by decide) rfl (fun ls hl => ?_)
  refine lv_aload_n hx hb d_Ar_fill_2 rfl (lv_at hl 1 rfl) ?_
  refine va_alen hx hb hK hP 0 t0 rfl ht0 (v := nI N) rfl d_Ar_fill_3 ?_
  refine lv_istore_n (lv' := [(3, .int (nI N)), (2, .int 0), (0, .ref a), (1, .int x)]) hx hb d_Ar_fill_4 rfl hl (by decide) rfl (fun ls hl => ?_)
  obtain ⟨H9, eH⟩ : ∃ H9 : Heap, H9 = s.heap := ⟨_, rfl⟩
  obtain ⟨L9, eL⟩ : ∃ L9 : List Loc, L9 = [] := ⟨_, rfl⟩
  have hS : va_S A s.heap H9 L9 := by rw [eH, eL]; exact hS
  have hP0 : va_P D cls_ [(a, arI cA N (flF f x 0))] H9 := by rw [eH, flF_0]; exact hP
  have hD0 : va_D A [(a, arI cA N (flF f x 0))] := by rw [flF_0]; exact hD
  rw [← eH, ← eL]
  clear eH eL
  replace hl : ∃ z : Nat, lv_has ls 4 [(3, .int (nI N)), (2, .int (nI z)), (0, .ref a), (1, .int x)] ∧ z ≤ N ∧ va_P D cls_ [(a, arI cA N (flF f x z))] H9 ∧ va_D A [(a, arI cA N (flF f x z))] := ⟨0, hl, Nat.zero_le _, hP0, hD0⟩
  clear hP0 hD0
  obtain ⟨z, hl, hle_z, hP, hD⟩ := hl
  obtain ⟨k_z, hk_z⟩ : ∃ k, N - z = k := ⟨_, rfl⟩
  induction k_z using Nat.strongRecOn generalizing z ls H9 L9 with
  | _ k_z ih_z =>
    refine lv_iload_n hx hb d_Ar_fill_5 rfl (lv_at hl 1 rfl) ?_
    refine lv_iload_n hx hb d_Ar_fill_6 rfl (lv_at hl 0 rfl) ?_
    refine lv_icmp_ge (tgt := 20) hx hb d_Ar_fill_7 (by decide) (fun c_1 => ?_) (fun c_1 => ?_)
    · have hz_z : z = N := nI_exit hle_z c_1 hN
      subst hz_z
      exact W.vret hx hb hr (fun t ht hW => ⟨⟨(), rfl, trivial, by show va_P _ _ _ t.heap; rw [ht]; exact hP⟩, hS.F ht⟩) hS.2.2 d_Ar_fill_20
    · have hlt_z : z < N := nI_go hle_z c_1 hN
      refine lv_aload_n hx hb d_Ar_fill_10 rfl (lv_at hl 2 rfl) ?_
      refine lv_iload_n hx hb d_Ar_fill_11 rfl (lv_at hl 1 rfl) ?_
      refine lv_iload_n hx hb d_Ar_fill_12 rfl (lv_at hl 3 rfl) ?_
      refine va_iast hx hb hK hP hD hS 0 t0 rfl ht0 (vp_in_nI hlt_z hN) d_Ar_fill_13 (fun H locs hP hD hS => ?_)
      rw [nI_clamp (Nat.lt_trans hlt_z hN)] at hP hD
      have hP : va_P D cls_ [(a, arI cA N (flF f x (z + 1)))] H := by rw [← flF_s]; exact hP
      have hD : va_D A [(a, arI cA N (flF f x (z + 1)))] := by rw [← flF_s]; exact hD
      refine lv_iinc (v := nI (z + 1)) (lv' := [(2, .int (nI (z + 1))), (3, .int (nI N)), (0, .ref a), (1, .int x)]) hx hb d_Ar_fill_14 hl (k := 1) rfl (by exact nI_1 _) (by decide) rfl (fun ls hl => ?_)
      refine lv_goto (tgt := 5) hx hb d_Ar_fill_17 (by decide) ?_
      exact ih_z (N - (z + 1)) (by omega) ls H locs hS (z + 1) (lv_sub hl [1, 0, 2, 3] rfl) hlt_z hP hD rfl
