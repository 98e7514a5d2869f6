def maxF (x y : Int32) : Int32 := if x < y then y else x
set_option maxHeartbeats 4000000 in
set_option maxRecDepth 100000 in
theorem c_As_newLength (l : Launch) (p0 p1 p2 : Int32) (h1 : 0 < p0 + maxF p1 p2) (h2 : p0 + maxF p1 p2 ≤ 2147483639) : Met l y_As_newLength (Cond.code y_As_newLength b_As_newLength 4 (some .int) :: GW) ({ frames := 1, cells := 0, slots := 0, locals := 32 }) (va_Pc [.int p0, .int p1, .int p2] (fun _ => True)) (vp_Si (fun r => r = p0 + maxF p1 p2)) 0 0 (fun _ => False) := by
  refine Met.ofW (cc := b_As_newLength) (maxL := 4) (ret := (some .int)) (by decide) rfl ?_
  intro p e s m args below meth c s₁ B hml hv
  obtain ⟨rfl, -⟩ := hv
  have hx := B.exec
  have hb := B.bytes
  have hr := B.returns
  have hts := atoms_spec (ws := Cond.code y_As_newLength b_As_newLength 4 (some .int) :: GW) B.pre
  have hG : ∀ w ∈ GW, w.before _ s = true := fun w h => hts w (List.mem_cons_of_mem _ h)
  have hown : s.vm.findClass R_As = some m.cls := findClass_of_methodNamed B.named
  have hlocks := B.notSynchronized
  have hl := lv_entry ([.int p0, .int p1, .int p2]) (n := 4) (Nat.le_of_ble_eq_true rfl)
  rw [lg_entry_eq]
  generalize (lg_sl ([.int p0, .int p1, .int p2]) ++ List.replicate (4 - (lg_sl ([.int p0, .int p1, .int p2])).length) Slot.unset).toArray = ls at hl ⊢
  have hl : lv_has ls 4 [(0, .int p0), (1, .int p1), (2, .int p2)] := hl
  refine lv_iload_n hx hb d_As_newLength_0 rfl (lv_at hl 0 rfl) ?_
  refine lv_iload_n hx hb d_As_newLength_1 rfl (lv_at hl 1 rfl) ?_
  refine lv_iload_n hx hb d_As_newLength_2 rfl (lv_at hl 2 rfl) ?_
  refine va_mmax hx hb (hml.trans hl.1.symm) hown (hG _ kw_346) (hG _ kw_347) (hG _ kw_14) (hG _ ka_max) (Nat.le_of_ble_eq_true rfl) (Nat.le_of_ble_eq_true rfl) (Nat.zero_le _) (Nat.zero_le _) (x := p1) (y := p2) d_As_newLength_3 ?_
  refine W.eq (g2 := F0 m 6 ls [.int (maxF p1 p2), .int p0]) rfl ?_
  refine lv_iadd hx hb d_As_newLength_6 ?_
  refine lv_istore_n (lv' := [(3, .int (p0 + (maxF p1 p2))), (0, .int p0), (1, .int p1), (2, .int p2)]) hx hb d_As_newLength_7 rfl hl (by decide) rfl (fun ls hl => ?_)
  refine lv_iconst (v := 0) hx hb d_As_newLength_8 (by decide) ?_
  refine lv_iload_n hx hb d_As_newLength_9 rfl (lv_at hl 0 rfl) ?_
  refine lv_icmp_ge (tgt := 21) hx hb d_As_newLength_10 (by decide) (fun c_1 => ?_) (fun c_1 => ?_)
  · exact absurd h1 (by simp only [i32_lt, i32_le] at c_1 ⊢; omega)
  · refine lv_iload_n hx hb d_As_newLength_13 rfl (lv_at hl 0 rfl) ?_
    refine lv_ldc (v := 2147483639) hx hb hown (hG _ kw_349) d_As_newLength_14 ?_
    refine lv_icmp_gt (tgt := 21) hx hb d_As_newLength_16 (by decide) (fun c_2 => ?_) (fun c_2 => ?_)
    · exact absurd h2 (by simp only [i32_lt, i32_le] at c_2 ⊢; omega)
    · refine lv_iload_n hx hb d_As_newLength_19 rfl (lv_at hl 0 rfl) ?_
      exact W.iret (v := p0 + (maxF p1 p2)) hx hb hr (fun t ht hW => ⟨p0 + (maxF p1 p2), rfl, rfl, ht⟩) (fun q h => nomatch h) d_As_newLength_20
