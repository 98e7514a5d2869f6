theorem Mv_0 {τ : Nat → Nat → Int32} {n nm : Nat} {x : Int32} (h : Mv τ n nm) : Mv (su τ 0 0 x) n nm := by
  obtain ⟨h1, h2, h3, h4, h5, h6⟩ := h
  refine ⟨?_, ?_, h3, h4, ?_, ?_⟩
  · rw [su_nj (by decide)]; exact h1
  · rw [su_nj (by decide)]; exact h2
  · intro i hi; rw [su_ne (by decide), su_ne (by decide)]; exact h5 i hi
  · intro i hi; rw [su_ne (by decide)]; exact h6 i hi
theorem Mv_3 {τ : Nat → Nat → Int32} {n nm : Nat} {x : Int32} (h : Mv τ n nm) : Mv (su τ 0 3 x) n nm := by
  obtain ⟨h1, h2, h3, h4, h5, h6⟩ := h
  refine ⟨?_, ?_, h3, h4, ?_, ?_⟩
  · rw [su_nj (by decide)]; exact h1
  · rw [su_nj (by decide)]; exact h2
  · intro i hi; rw [su_ne (by decide), su_ne (by decide)]; exact h5 i hi
  · intro i hi; rw [su_ne (by decide)]; exact h6 i hi
theorem Mv_k {τ : Nat → Nat → Int32} {n nm k j : Nat} {x : Int32} (h : Mv τ n nm) (hk : k ≠ 0 ∧ k ≠ 5 ∧ k ≠ 6 ∧ k ≠ 19) : Mv (su τ k j x) n nm := by
  obtain ⟨h1, h2, h3, h4, h5, h6⟩ := h
  refine ⟨?_, ?_, h3, h4, ?_, ?_⟩
  · rw [su_ne (by omega)]; exact h1
  · rw [su_ne (by omega)]; exact h2
  · intro i hi; rw [su_ne (by omega), su_ne (by omega)]; exact h5 i hi
  · intro i hi; rw [su_ne (by omega)]; exact h6 i hi
theorem lcmp_lt {x y : Int64} : lg_cmp x y < 0 ↔ x < y := by
  have h := lcmp_ge (x := x) (y := y)
  constructor
  · intro h1
    refine Classical.not_not.mp (fun h2 => ?_)
    have h3 := h.mpr h2
    rw [i32_le, i32_n0] at h3
    rw [i32_lt, i32_n0] at h1
    omega
  · intro h1
    have h3 : ¬ 0 ≤ lg_cmp x y := fun q => h.mp q h1
    rw [i32_le, i32_n0] at h3
    rw [i32_lt, i32_n0]
    omega
/-- the declaration of sample i -/
def dS (τ : Nat → Nat → Int32) (i : Nat) : Int32 := τ 5 (τ 19 i).toNatClampNeg
theorem dS_at {τ : Nat → Nat → Int32} {n nm i : Nat} (h : Mv τ n nm) (hi : i < nm) : ∃ j d, j < n ∧ d < 10 ∧ τ 19 i = nI j ∧ τ 5 j = nI d ∧ dS τ i = nI d := by
  have hn := h.2.2.1
  obtain ⟨j, hj, ej⟩ := at_in (by omega) (h.2.2.2.2.2 i hi)
  obtain ⟨d, hd, ed⟩ := at_in (by omega) (h.2.2.2.2.1 j hj).1
  exact ⟨j, d, hj, hd, ej, ed, by unfold dS; rw [ej, nI_clamp (by omega)]; exact ed⟩
def difM (f d u w : Int32) : Int32 := if f.toInt64 < 0 ∨ d.toInt64 < 0 then 0 else if (if d.toInt64 < f.toInt64 then d.toInt64 * u.toInt64 else d.toInt64 * w.toInt64) < (if d.toInt64 < f.toInt64 then 1000 * (f.toInt64 - d.toInt64) else 1000 * (d.toInt64 - f.toInt64)) then (if (if d.toInt64 < f.toInt64 then d.toInt64 * u.toInt64 else d.toInt64 * w.toInt64) + (if d.toInt64 < f.toInt64 then d.toInt64 * u.toInt64 else d.toInt64 * w.toInt64) < (if d.toInt64 < f.toInt64 then 1000 * (f.toInt64 - d.toInt64) else 1000 * (d.toInt64 - f.toInt64)) then 2 else 1) else 0
def dfM (τ : Nat → Nat → Int32) (i q : Nat) : Int32 := difM (τ 21 (4 * i + q)) (τ 18 (4 * (dS τ i).toNatClampNeg + q)) (τ 23 q) (τ 24 q)
set_option maxHeartbeats 4000000 in
set_option maxRecDepth 100000 in
theorem c_M_in (l : Launch) (p0 p1 p2 : Int32) : Met l y_M_in (Cond.code y_M_in b_M_in 3 (some .boolean) :: GW) ({ frames := 0, cells := 0, slots := 0, locals := 0 }) (va_Pc [.int p0, .int p1, .int p2] (fun _ => True)) (vp_Si (fun r => r = b2i (p1 ≤ p0 ∧ p0 ≤ p2))) 0 0 (fun _ => False) := by
  refine Met.ofW (cc := b_M_in) (maxL := 3) (ret := (some .boolean)) (by decide) rfl ?_
  intro p e s m args below meth c s₁ B hml hv
  obtain ⟨rfl, -⟩ := hv
  have hx := B.exec
  have hb := B.bytes
  have hr := B.returns
  have hts := atoms_spec (ws := Cond.code y_M_in b_M_in 3 (some .boolean) :: GW) B.pre
  have hG : ∀ w ∈ GW, w.before _ s = true := fun w h => hts w (List.mem_cons_of_mem _ h)
  have hown : s.vm.findClass R_M = some m.cls := findClass_of_methodNamed B.named
  have hlocks := B.notSynchronized
  have hl := lv_entry ([.int p0, .int p1, .int p2]) (n := 3) (Nat.le_of_ble_eq_true rfl)
  rw [lg_entry_eq]
  generalize (lg_sl ([.int p0, .int p1, .int p2]) ++ List.replicate (3 - (lg_sl ([.int p0, .int p1, .int p2])).length) Slot.unset).toArray = ls at hl ⊢
  have hl : lv_has ls 3 [(0, .int p0), (1, .int p1), (2, .int p2)] := hl
  refine lv_iload_n hx hb d_M_in_0 rfl (lv_at hl 0 rfl) ?_
  refine lv_iload_n hx hb d_M_in_1 rfl (lv_at hl 1 rfl) ?_
  refine lv_icmp_lt (tgt := 14) hx hb d_M_in_2 (by decide) (fun c_1 => ?_) (fun c_1 => ?_)
  · refine lv_iconst (v := 0) hx hb d_M_in_14 (by decide) ?_
    exact W.zret (v := 0) (ty := .boolean) hx hb hr rfl (fun t ht hW => ⟨0, rfl, (b2i_f (by ((try simp only [b2i_eq0, Classical.not_not] at c_1); simp only [i32_eq, i32_lt, i32_le, i32_nm1, i32_n0, i32_n1, i32_n2, i32_n3, i32_n4, i32_n5, i32_n6, i32_n7, i32_n8, i32_n9, i32_n10, i32_n20, i32_n30, i32_n31, i32_n39, i32_n40, i32_n49, i32_n50, i32_n100, i32_n160, i32_n1000, i32_n100000, i32_n1000000] at c_1 ⊢; omega))).symm, ht⟩) (fun q h => nomatch h) d_M_in_15
  · refine lv_iload_n hx hb d_M_in_5 rfl (lv_at hl 0 rfl) ?_
    refine lv_iload_n hx hb d_M_in_6 rfl (lv_at hl 2 rfl) ?_
    refine lv_icmp_gt (tgt := 14) hx hb d_M_in_7 (by decide) (fun c_2 => ?_) (fun c_2 => ?_)
    · refine lv_iconst (v := 0) hx hb d_M_in_14 (by decide) ?_
      exact W.zret (v := 0) (ty := .boolean) hx hb hr rfl (fun t ht hW => ⟨0, rfl, (b2i_f (by ((try simp only [b2i_eq0, Classical.not_not] at c_1 c_2); simp only [i32_eq, i32_lt, i32_le, i32_nm1, i32_n0, i32_n1, i32_n2, i32_n3, i32_n4, i32_n5, i32_n6, i32_n7, i32_n8, i32_n9, i32_n10, i32_n20, i32_n30, i32_n31, i32_n39, i32_n40, i32_n49, i32_n50, i32_n100, i32_n160, i32_n1000, i32_n100000, i32_n1000000] at c_1 c_2 ⊢; omega))).symm, ht⟩) (fun q h => nomatch h) d_M_in_15
    · refine lv_iconst (v := 1) hx hb d_M_in_10 (by decide) ?_
      refine lv_goto (tgt := 15) hx hb d_M_in_11 (by decide) ?_
      exact W.zret (v := 1) (ty := .boolean) hx hb hr rfl (fun t ht hW => ⟨1, rfl, (b2i_t (by ((try simp only [b2i_eq0, Classical.not_not] at c_1 c_2); simp only [i32_eq, i32_lt, i32_le, i32_nm1, i32_n0, i32_n1, i32_n2, i32_n3, i32_n4, i32_n5, i32_n6, i32_n7, i32_n8, i32_n9, i32_n10, i32_n20, i32_n30, i32_n31, i32_n39, i32_n40, i32_n49, i32_n50, i32_n100, i32_n160, i32_n1000, i32_n100000, i32_n1000000] at c_1 c_2 ⊢; omega))).symm, ht⟩) (fun q h => nomatch h) d_M_in_15
set_option maxHeartbeats 4000000 in
set_option maxRecDepth 100000 in
theorem c_M_isTen (l : Launch) (p0 : Int32) : Met l y_M_isTen (Cond.code y_M_isTen b_M_isTen 1 (some .boolean) :: GW) ({ frames := 0, cells := 0, slots := 0, locals := 0 }) (va_Pc [.int p0] (fun _ => True)) (vp_Si (fun r => r = b2i (0 ≤ p0 ∧ p0 < 10))) 0 0 (fun _ => False) := by
  refine Met.ofW (cc := b_M_isTen) (maxL := 1) (ret := (some .boolean)) (by decide) rfl ?_
  intro p e s m args below meth c s₁ B hml hv
  obtain ⟨rfl, -⟩ := hv
  have hx := B.exec
  have hb := B.bytes
  have hr := B.returns
  have hts := atoms_spec (ws := Cond.code y_M_isTen b_M_isTen 1 (some .boolean) :: GW) B.pre
  have hG : ∀ w ∈ GW, w.before _ s = true := fun w h => hts w (List.mem_cons_of_mem _ h)
  have hown : s.vm.findClass R_M = some m.cls := findClass_of_methodNamed B.named
  have hlocks := B.notSynchronized
  have hl := lv_entry ([.int p0]) (n := 1) (Nat.le_of_ble_eq_true rfl)
  rw [lg_entry_eq]
  generalize (lg_sl ([.int p0]) ++ List.replicate (1 - (lg_sl ([.int p0])).length) Slot.unset).toArray = ls at hl ⊢
  have hl : lv_has ls 1 [(0, .int p0)] := hl
  refine lv_iload_n hx hb d_M_isTen_0 rfl (lv_at hl 0 rfl) ?_
  refine lv_if_lt (tgt := 14) hx hb d_M_isTen_1 (by decide) (fun c_1 => ?_) (fun c_1 => ?_)
  · refine lv_iconst (v := 0) hx hb d_M_isTen_14 (by decide) ?_
    exact W.zret (v := 0) (ty := .boolean) hx hb hr rfl (fun t ht hW => ⟨0, rfl, (b2i_f (by ((try simp only [b2i_eq0, Classical.not_not] at c_1); simp only [i32_eq, i32_lt, i32_le, i32_nm1, i32_n0, i32_n1, i32_n2, i32_n3, i32_n4, i32_n5, i32_n6, i32_n7, i32_n8, i32_n9, i32_n10, i32_n20, i32_n30, i32_n31, i32_n39, i32_n40, i32_n49, i32_n50, i32_n100, i32_n160, i32_n1000, i32_n100000, i32_n1000000] at c_1 ⊢; omega))).symm, ht⟩) (fun q h => nomatch h) d_M_isTen_15
  · refine lv_iload_n hx hb d_M_isTen_4 rfl (lv_at hl 0 rfl) ?_
    refine lv_bipush (v := 10) hx hb d_M_isTen_5 (by decide) ?_
    refine lv_icmp_ge (tgt := 14) hx hb d_M_isTen_7 (by decide) (fun c_2 => ?_) (fun c_2 => ?_)
    · refine lv_iconst (v := 0) hx hb d_M_isTen_14 (by decide) ?_
      exact W.zret (v := 0) (ty := .boolean) hx hb hr rfl (fun t ht hW => ⟨0, rfl, (b2i_f (by ((try simp only [b2i_eq0, Classical.not_not] at c_1 c_2); simp only [i32_eq, i32_lt, i32_le, i32_nm1, i32_n0, i32_n1, i32_n2, i32_n3, i32_n4, i32_n5, i32_n6, i32_n7, i32_n8, i32_n9, i32_n10, i32_n20, i32_n30, i32_n31, i32_n39, i32_n40, i32_n49, i32_n50, i32_n100, i32_n160, i32_n1000, i32_n100000, i32_n1000000] at c_1 c_2 ⊢; omega))).symm, ht⟩) (fun q h => nomatch h) d_M_isTen_15
    · refine lv_iconst (v := 1) hx hb d_M_isTen_10 (by decide) ?_
      refine lv_goto (tgt := 15) hx hb d_M_isTen_11 (by decide) ?_
      exact W.zret (v := 1) (ty := .boolean) hx hb hr rfl (fun t ht hW => ⟨1, rfl, (b2i_t (by ((try simp only [b2i_eq0, Classical.not_not] at c_1 c_2); simp only [i32_eq, i32_lt, i32_le, i32_nm1, i32_n0, i32_n1, i32_n2, i32_n3, i32_n4, i32_n5, i32_n6, i32_n7, i32_n8, i32_n9, i32_n10, i32_n20, i32_n30, i32_n31, i32_n39, i32_n40, i32_n49, i32_n50, i32_n100, i32_n160, i32_n1000, i32_n100000, i32_n1000000] at c_1 c_2 ⊢; omega))).symm, ht⟩) (fun q h => nomatch h) d_M_isTen_15
set_option maxHeartbeats 4000000 in
set_option maxRecDepth 100000 in
theorem c_M_isOne (l : Launch) (D : va_G) (cs : Nat → ClassId) (ad : Nat → Nat) (τ : Nat → Nat → Int32) (n nm : Nat) (hM : Mv τ n nm) (p0 : Int32) : Met l y_M_isOne (Cond.code y_M_isOne b_M_isOne 2 (some .boolean) :: GW) ({ frames := 0, cells := 0, slots := 0, locals := 0 }) (va_Pc [.ref (ad 0), .int p0] (rd_B D (tys_ cs) (wM cs ad τ))) (vp_Si (fun r => r = b2i (0 ≤ p0 ∧ p0 < nI n))) 0 0 (fun _ => False) := by
  refine Met.ofW (cc := b_M_isOne) (maxL := 2) (ret := (some .boolean)) (by decide) rfl ?_
  intro p e s m args below meth c s₁ B hml hv
  obtain ⟨rfl, hP, hK⟩ := hv
  have hx := B.exec
  have hb := B.bytes
  have hr := B.returns
  have hts := atoms_spec (ws := Cond.code y_M_isOne b_M_isOne 2 (some .boolean) :: GW) B.pre
  have hG : ∀ w ∈ GW, w.before _ s = true := fun w h => hts w (List.mem_cons_of_mem _ h)
  have hown : s.vm.findClass R_M = some m.cls := findClass_of_methodNamed B.named
  have hlocks := B.notSynchronized
  have hn30 : n ≤ 30 := hM.2.2.1
  have hm40 : nm ≤ 40 := hM.2.2.2.1
  have hl := lv_entry ([.ref (ad 0), .int p0]) (n := 2) (Nat.le_of_ble_eq_true rfl)
  rw [lg_entry_eq]
  generalize (lg_sl ([.ref (ad 0), .int p0]) ++ List.replicate (2 - (lg_sl ([.ref (ad 0), .int p0])).length) Slot.unset).toArray = ls at hl ⊢
  have hl : lv_has ls 2 [(0, .ref (ad 0)), (1, .int p0)] := hl
  refine lv_iload_n hx hb d_M_isOne_0 rfl (lv_at hl 1 rfl) ?_
  refine lv_if_lt (tgt := 16) hx hb d_M_isOne_1 (by decide) (fun c_1 => ?_) (fun c_1 => ?_)
  · refine lv_iconst (v := 0) hx hb d_M_isOne_16 (by decide) ?_
    exact W.zret (v := 0) (ty := .boolean) hx hb hr rfl (fun t ht hW => ⟨0, rfl, (b2i_f (by ((try simp only [b2i_eq0, Classical.not_not] at c_1); simp only [i32_eq, i32_lt, i32_le, i32_nm1, i32_n0, i32_n1, i32_n2, i32_n3, i32_n4, i32_n5, i32_n6, i32_n7, i32_n8, i32_n9, i32_n10, i32_n20, i32_n30, i32_n31, i32_n39, i32_n40, i32_n49, i32_n50, i32_n100, i32_n160, i32_n1000, i32_n100000, i32_n1000000] at c_1 ⊢; omega))).symm, ht⟩) (fun q h => nomatch h) d_M_isOne_17
  · refine lv_iload_n hx hb d_M_isOne_4 rfl (lv_at hl 1 rfl) ?_
    refine lv_aload_n hx hb d_M_isOne_5 rfl (lv_at hl 0 rfl) ?_
    refine rl_get (r := 0) (ci := 4) (v := .int (nI n)) (C := R_M) (T := F_M) (N := 25) hx hb hG in_M hown hK hP (by decide) gM_0 rfl 1 (by decide) kw_582 (fun _ h9 => h9) (show _ = some (Value.int (nI n)) by rw [← hM.1]; rfl) d_M_isOne_6 ?_
    refine lv_icmp_ge (tgt := 16) hx hb d_M_isOne_9 (by decide) (fun c_2 => ?_) (fun c_2 => ?_)
    · refine lv_iconst (v := 0) hx hb d_M_isOne_16 (by decide) ?_
      exact W.zret (v := 0) (ty := .boolean) hx hb hr rfl (fun t ht hW => ⟨0, rfl, (b2i_f (by ((try simp only [b2i_eq0, Classical.not_not] at c_1 c_2); simp only [i32_eq, i32_lt, i32_le, i32_nm1, i32_n0, i32_n1, i32_n2, i32_n3, i32_n4, i32_n5, i32_n6, i32_n7, i32_n8, i32_n9, i32_n10, i32_n20, i32_n30, i32_n31, i32_n39, i32_n40, i32_n49, i32_n50, i32_n100, i32_n160, i32_n1000, i32_n100000, i32_n1000000] at c_1 c_2 ⊢; omega))).symm, ht⟩) (fun q h => nomatch h) d_M_isOne_17
    · refine lv_iconst (v := 1) hx hb d_M_isOne_12 (by decide) ?_
      refine lv_goto (tgt := 17) hx hb d_M_isOne_13 (by decide) ?_
      exact W.zret (v := 1) (ty := .boolean) hx hb hr rfl (fun t ht hW => ⟨1, rfl, (b2i_t (by ((try simp only [b2i_eq0, Classical.not_not] at c_1 c_2); simp only [i32_eq, i32_lt, i32_le, i32_nm1, i32_n0, i32_n1, i32_n2, i32_n3, i32_n4, i32_n5, i32_n6, i32_n7, i32_n8, i32_n9, i32_n10, i32_n20, i32_n30, i32_n31, i32_n39, i32_n40, i32_n49, i32_n50, i32_n100, i32_n160, i32_n1000, i32_n100000, i32_n1000000] at c_1 c_2 ⊢; omega))).symm, ht⟩) (fun q h => nomatch h) d_M_isOne_17
set_option maxHeartbeats 4000000 in
set_option maxRecDepth 100000 in
theorem c_M_isTime (l : Launch) (D : va_G) (cs : Nat → ClassId) (ad : Nat → Nat) (τ : Nat → Nat → Int32) (n nm : Nat) (hM : Mv τ n nm) (p0 : Int32) : Met l y_M_isTime (Cond.code y_M_isTime b_M_isTime 2 (some .boolean) :: GW) ({ frames := 0, cells := 0, slots := 0, locals := 0 }) (va_Pc [.ref (ad 0), .int p0] (rd_B D (tys_ cs) (wM cs ad τ))) (vp_Si (fun r => r = b2i (τ 0 3 ≤ p0 ∧ p0 ≤ 100000))) 0 0 (fun _ => False) := by
  refine Met.ofW (cc := b_M_isTime) (maxL := 2) (ret := (some .boolean)) (by decide) rfl ?_
  intro p e s m args below meth c s₁ B hml hv
  obtain ⟨rfl, hP, hK⟩ := hv
  have hx := B.exec
  have hb := B.bytes
  have hr := B.returns
  have hts := atoms_spec (ws := Cond.code y_M_isTime b_M_isTime 2 (some .boolean) :: GW) B.pre
  have hG : ∀ w ∈ GW, w.before _ s = true := fun w h => hts w (List.mem_cons_of_mem _ h)
  have hown : s.vm.findClass R_M = some m.cls := findClass_of_methodNamed B.named
  have hlocks := B.notSynchronized
  have hn30 : n ≤ 30 := hM.2.2.1
  have hm40 : nm ≤ 40 := hM.2.2.2.1
  have hl := lv_entry ([.ref (ad 0), .int p0]) (n := 2) (Nat.le_of_ble_eq_true rfl)
  rw [lg_entry_eq]
  generalize (lg_sl ([.ref (ad 0), .int p0]) ++ List.replicate (2 - (lg_sl ([.ref (ad 0), .int p0])).length) Slot.unset).toArray = ls at hl ⊢
  have hl : lv_has ls 2 [(0, .ref (ad 0)), (1, .int p0)] := hl
  refine lv_iload_n hx hb d_M_isTime_0 rfl (lv_at hl 1 rfl) ?_
  refine lv_aload_n hx hb d_M_isTime_1 rfl (lv_at hl 0 rfl) ?_
  refine rl_get (r := 0) (ci := 4) (v := .int (τ 0 3)) (C := R_M) (T := F_M) (N := 25) hx hb hG in_M hown hK hP (by decide) gM_0 rfl 3 (by decide) kw_584 (fun _ h9 => h9) rfl d_M_isTime_2 ?_
  refine lv_icmp_lt (tgt := 18) hx hb d_M_isTime_5 (by decide) (fun c_1 => ?_) (fun c_1 => ?_)
  · refine lv_iconst (v := 0) hx hb d_M_isTime_18 (by decide) ?_
    exact W.zret (v := 0) (ty := .boolean) hx hb hr rfl (fun t ht hW => ⟨0, rfl, (b2i_f (by ((try simp only [b2i_eq0, Classical.not_not] at c_1); simp only [i32_eq, i32_lt, i32_le, i32_nm1, i32_n0, i32_n1, i32_n2, i32_n3, i32_n4, i32_n5, i32_n6, i32_n7, i32_n8, i32_n9, i32_n10, i32_n20, i32_n30, i32_n31, i32_n39, i32_n40, i32_n49, i32_n50, i32_n100, i32_n160, i32_n1000, i32_n100000, i32_n1000000] at c_1 ⊢; omega))).symm, ht⟩) (fun q h => nomatch h) d_M_isTime_19
  · refine lv_iload_n hx hb d_M_isTime_8 rfl (lv_at hl 1 rfl) ?_
    refine lv_ldc (v := 100000) hx hb hown (hG _ kw_679) d_M_isTime_9 ?_
    refine lv_icmp_gt (tgt := 18) hx hb d_M_isTime_11 (by decide) (fun c_2 => ?_) (fun c_2 => ?_)
    · refine lv_iconst (v := 0) hx hb d_M_isTime_18 (by decide) ?_
      exact W.zret (v := 0) (ty := .boolean) hx hb hr rfl (fun t ht hW => ⟨0, rfl, (b2i_f (by ((try simp only [b2i_eq0, Classical.not_not] at c_1 c_2); simp only [i32_eq, i32_lt, i32_le, i32_nm1, i32_n0, i32_n1, i32_n2, i32_n3, i32_n4, i32_n5, i32_n6, i32_n7, i32_n8, i32_n9, i32_n10, i32_n20, i32_n30, i32_n31, i32_n39, i32_n40, i32_n49, i32_n50, i32_n100, i32_n160, i32_n1000, i32_n100000, i32_n1000000] at c_1 c_2 ⊢; omega))).symm, ht⟩) (fun q h => nomatch h) d_M_isTime_19
    · refine lv_iconst (v := 1) hx hb d_M_isTime_14 (by decide) ?_
      refine lv_goto (tgt := 19) hx hb d_M_isTime_15 (by decide) ?_
      exact W.zret (v := 1) (ty := .boolean) hx hb hr rfl (fun t ht hW => ⟨1, rfl, (b2i_t (by ((try simp only [b2i_eq0, Classical.not_not] at c_1 c_2); simp only [i32_eq, i32_lt, i32_le, i32_nm1, i32_n0, i32_n1, i32_n2, i32_n3, i32_n4, i32_n5, i32_n6, i32_n7, i32_n8, i32_n9, i32_n10, i32_n20, i32_n30, i32_n31, i32_n39, i32_n40, i32_n49, i32_n50, i32_n100, i32_n160, i32_n1000, i32_n100000, i32_n1000000] at c_1 c_2 ⊢; omega))).symm, ht⟩) (fun q h => nomatch h) d_M_isTime_19
set_option maxHeartbeats 4000000 in
set_option maxRecDepth 100000 in
theorem c_M_may (l : Launch) (D : va_G) (cs : Nat → ClassId) (ad : Nat → Nat) (τ : Nat → Nat → Int32) (n nm : Nat) (hM : Mv τ n nm) (a b : Nat) (ha : a < 10) (hb6 : b < 6) (hz : τ 4 (6 * a + b) = 0 ∨ τ 4 (6 * a + b) = 1) : Met l y_M_may (Cond.code y_M_may b_M_may 3 (some .boolean) :: GW) ({ frames := 0, cells := 0, slots := 0, locals := 0 }) (va_Pc [.ref (ad 0), .int (nI a), .int (nI b)] (rd_B D (tys_ cs) (wM cs ad τ))) (vp_Si (fun r => r = τ 4 (6 * a + b))) 0 0 (fun _ => False) := by
  refine Met.ofW (cc := b_M_may) (maxL := 3) (ret := (some .boolean)) (by decide) rfl ?_
  intro p e s m args below meth c s₁ B hml hv
  obtain ⟨rfl, hP, hK⟩ := hv
  have hx := B.exec
  have hb := B.bytes
  have hr := B.returns
  have hts := atoms_spec (ws := Cond.code y_M_may b_M_may 3 (some .boolean) :: GW) B.pre
  have hG : ∀ w ∈ GW, w.before _ s = true := fun w h => hts w (List.mem_cons_of_mem _ h)
  have hown : s.vm.findClass R_M = some m.cls := findClass_of_methodNamed B.named
  have hlocks := B.notSynchronized
  have hnar : narrow .boolean (.int (τ 4 (6 * a + b))) = .int (τ 4 (6 * a + b)) := by rcases hz with h | h <;> rw [h] <;> rfl
  have hn30 : n ≤ 30 := hM.2.2.1
  have hm40 : nm ≤ 40 := hM.2.2.2.1
  have hl := lv_entry ([.ref (ad 0), .int (nI a), .int (nI b)]) (n := 3) (Nat.le_of_ble_eq_true rfl)
  rw [lg_entry_eq]
  generalize (lg_sl ([.ref (ad 0), .int (nI a), .int (nI b)]) ++ List.replicate (3 - (lg_sl ([.ref (ad 0), .int (nI a), .int (nI b)])).length) Slot.unset).toArray = ls at hl ⊢
  have hl : lv_has ls 3 [(0, .ref (ad 0)), (1, .int (nI a)), (2, .int (nI b))] := hl
  refine lv_aload_n hx hb d_M_may_0 rfl (lv_at hl 0 rfl) ?_
  refine rl_get (r := 0) (ci := 4) (v := .ref (ad 4)) (C := R_M) (T := F_M) (N := 25) hx hb hG in_M hown hK hP (by decide) gM_0 rfl 4 (by decide) kw_585 (fun _ h9 => h9) rfl d_M_may_1 ?_
  refine lv_bipush (v := 6) hx hb d_M_may_4 (by decide) ?_
  refine lv_iload_n hx hb d_M_may_6 rfl (lv_at hl 1 rfl) ?_
  refine lv_imul hx hb d_M_may_7 ?_
  refine lv_iload_n hx hb d_M_may_8 rfl (lv_at hl 2 rfl) ?_
  refine lv_iadd hx hb d_M_may_9 ?_
  rw [ix6]
  refine rl_zald (r := 4) (i := nI (6 * a + b)) (n := 60) hx hb hK hP (by decide) 1 rfl rfl (vp_in_nI (by omega) (by decide)) d_M_may_10 ?_
  rw [nI_clamp (by omega)]
  exact W.zret (v := τ 4 (6 * a + b)) (ty := .boolean) hx hb hr hnar (fun t ht hW => ⟨τ 4 (6 * a + b), rfl, rfl, ht⟩) (fun q h => nomatch h) d_M_may_11
set_option maxHeartbeats 4000000 in
set_option maxRecDepth 100000 in
theorem c_M_takesPlace (l : Launch) (D : va_G) (cs : Nat → ClassId) (ad : Nat → Nat) (τ : Nat → Nat → Int32) (n nm : Nat) (hM : Mv τ n nm) (i : Nat) (hi : i < 30) : Met l y_M_takesPlace (Cond.code y_M_takesPlace b_M_takesPlace 2 (some .boolean) :: GW) ({ frames := 0, cells := 0, slots := 0, locals := 0 }) (va_Pc [.ref (ad 0), .int (nI i)] (rd_B D (tys_ cs) (wM cs ad τ))) (vp_Si (fun r => r = b2i (τ 8 i = 1 ∨ τ 8 i = 2))) 0 0 (fun _ => False) := by
  refine Met.ofW (cc := b_M_takesPlace) (maxL := 2) (ret := (some .boolean)) (by decide) rfl ?_
  intro p e s m args below meth c s₁ B hml hv
  obtain ⟨rfl, hP, hK⟩ := hv
  have hx := B.exec
  have hb := B.bytes
  have hr := B.returns
  have hts := atoms_spec (ws := Cond.code y_M_takesPlace b_M_takesPlace 2 (some .boolean) :: GW) B.pre
  have hG : ∀ w ∈ GW, w.before _ s = true := fun w h => hts w (List.mem_cons_of_mem _ h)
  have hown : s.vm.findClass R_M = some m.cls := findClass_of_methodNamed B.named
  have hlocks := B.notSynchronized
  have hn30 : n ≤ 30 := hM.2.2.1
  have hm40 : nm ≤ 40 := hM.2.2.2.1
  have hl := lv_entry ([.ref (ad 0), .int (nI i)]) (n := 2) (Nat.le_of_ble_eq_true rfl)
  rw [lg_entry_eq]
  generalize (lg_sl ([.ref (ad 0), .int (nI i)]) ++ List.replicate (2 - (lg_sl ([.ref (ad 0), .int (nI i)])).length) Slot.unset).toArray = ls at hl ⊢
  have hl : lv_has ls 2 [(0, .ref (ad 0)), (1, .int (nI i))] := hl
  refine lv_aload_n hx hb d_M_takesPlace_0 rfl (lv_at hl 0 rfl) ?_
  refine rl_get (r := 0) (ci := 4) (v := .ref (ad 8)) (C := R_M) (T := F_M) (N := 25) hx hb hG in_M hown hK hP (by decide) gM_0 rfl 8 (by decide) kw_589 (fun _ h9 => h9) rfl d_M_takesPlace_1 ?_
  refine lv_iload_n hx hb d_M_takesPlace_4 rfl (lv_at hl 1 rfl) ?_
  refine rl_iald (r := 8) (i := nI i) (n := 30) hx hb hK hP (by decide) 0 rfl rfl (vp_in_nI (by omega) (by decide)) d_M_takesPlace_5 ?_
  rw [nI_clamp (by omega)]
  refine lv_iconst (v := 1) hx hb d_M_takesPlace_6 (by decide) ?_
  refine lv_icmp_eq (tgt := 20) hx hb d_M_takesPlace_7 (by decide) (fun c_1 => ?_) (fun c_1 => ?_)
  · refine lv_iconst (v := 1) hx hb d_M_takesPlace_20 (by decide) ?_
    refine lv_goto (tgt := 25) hx hb d_M_takesPlace_21 (by decide) ?_
    exact W.zret (v := 1) (ty := .boolean) hx hb hr rfl (fun t ht hW => ⟨1, rfl, (b2i_t (by ((try simp only [b2i_eq0, Classical.not_not] at c_1); simp only [i32_eq, i32_lt, i32_le, i32_nm1, i32_n0, i32_n1, i32_n2, i32_n3, i32_n4, i32_n5, i32_n6, i32_n7, i32_n8, i32_n9, i32_n10, i32_n20, i32_n30, i32_n31, i32_n39, i32_n40, i32_n49, i32_n50, i32_n100, i32_n160, i32_n1000, i32_n100000, i32_n1000000] at c_1 ⊢; omega))).symm, ht⟩) (fun q h => nomatch h) d_M_takesPlace_25
  · refine lv_aload_n hx hb d_M_takesPlace_10 rfl (lv_at hl 0 rfl) ?_
    refine rl_get (r := 0) (ci := 4) (v := .ref (ad 8)) (C := R_M) (T := F_M) (N := 25) hx hb hG in_M hown hK hP (by decide) gM_0 rfl 8 (by decide) kw_589 (fun _ h9 => h9) rfl d_M_takesPlace_11 ?_
    refine lv_iload_n hx hb d_M_takesPlace_14 rfl (lv_at hl 1 rfl) ?_
    refine rl_iald (r := 8) (i := nI i) (n := 30) hx hb hK hP (by decide) 0 rfl rfl (vp_in_nI (by omega) (by decide)) d_M_takesPlace_15 ?_
    rw [nI_clamp (by omega)]
    refine lv_iconst (v := 2) hx hb d_M_takesPlace_16 (by decide) ?_
    refine lv_icmp_ne (tgt := 24) hx hb d_M_takesPlace_17 (by decide) (fun c_2 => ?_) (fun c_2 => ?_)
    · refine lv_iconst (v := 0) hx hb d_M_takesPlace_24 (by decide) ?_
      exact W.zret (v := 0) (ty := .boolean) hx hb hr rfl (fun t ht hW => ⟨0, rfl, (b2i_f (by ((try simp only [b2i_eq0, Classical.not_not] at c_1 c_2); simp only [i32_eq, i32_lt, i32_le, i32_nm1, i32_n0, i32_n1, i32_n2, i32_n3, i32_n4, i32_n5, i32_n6, i32_n7, i32_n8, i32_n9, i32_n10, i32_n20, i32_n30, i32_n31, i32_n39, i32_n40, i32_n49, i32_n50, i32_n100, i32_n160, i32_n1000, i32_n100000, i32_n1000000] at c_1 c_2 ⊢; omega))).symm, ht⟩) (fun q h => nomatch h) d_M_takesPlace_25
    · refine lv_iconst (v := 1) hx hb d_M_takesPlace_20 (by decide) ?_
      refine lv_goto (tgt := 25) hx hb d_M_takesPlace_21 (by decide) ?_
      exact W.zret (v := 1) (ty := .boolean) hx hb hr rfl (fun t ht hW => ⟨1, rfl, (b2i_t (by ((try simp only [b2i_eq0, Classical.not_not] at c_1 c_2); simp only [i32_eq, i32_lt, i32_le, i32_nm1, i32_n0, i32_n1, i32_n2, i32_n3, i32_n4, i32_n5, i32_n6, i32_n7, i32_n8, i32_n9, i32_n10, i32_n20, i32_n30, i32_n31, i32_n39, i32_n40, i32_n49, i32_n50, i32_n100, i32_n160, i32_n1000, i32_n100000, i32_n1000000] at c_1 c_2 ⊢; omega))).symm, ht⟩) (fun q h => nomatch h) d_M_takesPlace_25
set_option maxHeartbeats 4000000 in
set_option maxRecDepth 100000 in
theorem c_M_isOpened (l : Launch) (D : va_G) (cs : Nat → ClassId) (ad : Nat → Nat) (τ : Nat → Nat → Int32) (n nm : Nat) (hM : Mv τ n nm) (i : Nat) (hi : i < 30) : Met l y_M_isOpened (Cond.code y_M_isOpened b_M_isOpened 2 (some .boolean) :: GW) ({ frames := 0, cells := 0, slots := 0, locals := 0 }) (va_Pc [.ref (ad 0), .int (nI i)] (rd_B D (tys_ cs) (wM cs ad τ))) (vp_Si (fun r => r = b2i (2 < τ 6 i ∧ τ 8 i = 2))) 0 0 (fun _ => False) := by
  refine Met.ofW (cc := b_M_isOpened) (maxL := 2) (ret := (some .boolean)) (by decide) rfl ?_
  intro p e s m args below meth c s₁ B hml hv
  obtain ⟨rfl, hP, hK⟩ := hv
  have hx := B.exec
  have hb := B.bytes
  have hr := B.returns
  have hts := atoms_spec (ws := Cond.code y_M_isOpened b_M_isOpened 2 (some .boolean) :: GW) B.pre
  have hG : ∀ w ∈ GW, w.before _ s = true := fun w h => hts w (List.mem_cons_of_mem _ h)
  have hown : s.vm.findClass R_M = some m.cls := findClass_of_methodNamed B.named
  have hlocks := B.notSynchronized
  have hn30 : n ≤ 30 := hM.2.2.1
  have hm40 : nm ≤ 40 := hM.2.2.2.1
  have hl := lv_entry ([.ref (ad 0), .int (nI i)]) (n := 2) (Nat.le_of_ble_eq_true rfl)
  rw [lg_entry_eq]
  generalize (lg_sl ([.ref (ad 0), .int (nI i)]) ++ List.replicate (2 - (lg_sl ([.ref (ad 0), .int (nI i)])).length) Slot.unset).toArray = ls at hl ⊢
  have hl : lv_has ls 2 [(0, .ref (ad 0)), (1, .int (nI i))] := hl
  refine lv_aload_n hx hb d_M_isOpened_0 rfl (lv_at hl 0 rfl) ?_
  refine rl_get (r := 0) (ci := 4) (v := .ref (ad 6)) (C := R_M) (T := F_M) (N := 25) hx hb hG in_M hown hK hP (by decide) gM_0 rfl 6 (by decide) kw_587 (fun _ h9 => h9) rfl d_M_isOpened_1 ?_
  refine lv_iload_n hx hb d_M_isOpened_4 rfl (lv_at hl 1 rfl) ?_
  refine rl_iald (r := 6) (i := nI i) (n := 30) hx hb hK hP (by decide) 0 rfl rfl (vp_in_nI (by omega) (by decide)) d_M_isOpened_5 ?_
  rw [nI_clamp (by omega)]
  refine lv_iconst (v := 2) hx hb d_M_isOpened_6 (by decide) ?_
  refine lv_icmp_le (tgt := 24) hx hb d_M_isOpened_7 (by decide) (fun c_1 => ?_) (fun c_1 => ?_)
  · refine lv_iconst (v := 0) hx hb d_M_isOpened_24 (by decide) ?_
    exact W.zret (v := 0) (ty := .boolean) hx hb hr rfl (fun t ht hW => ⟨0, rfl, (b2i_f (by ((try simp only [b2i_eq0, Classical.not_not] at c_1); simp only [i32_eq, i32_lt, i32_le, i32_nm1, i32_n0, i32_n1, i32_n2, i32_n3, i32_n4, i32_n5, i32_n6, i32_n7, i32_n8, i32_n9, i32_n10, i32_n20, i32_n30, i32_n31, i32_n39, i32_n40, i32_n49, i32_n50, i32_n100, i32_n160, i32_n1000, i32_n100000, i32_n1000000] at c_1 ⊢; omega))).symm, ht⟩) (fun q h => nomatch h) d_M_isOpened_25
  · refine lv_aload_n hx hb d_M_isOpened_10 rfl (lv_at hl 0 rfl) ?_
    refine rl_get (r := 0) (ci := 4) (v := .ref (ad 8)) (C := R_M) (T := F_M) (N := 25) hx hb hG in_M hown hK hP (by decide) gM_0 rfl 8 (by decide) kw_589 (fun _ h9 => h9) rfl d_M_isOpened_11 ?_
    refine lv_iload_n hx hb d_M_isOpened_14 rfl (lv_at hl 1 rfl) ?_
    refine rl_iald (r := 8) (i := nI i) (n := 30) hx hb hK hP (by decide) 0 rfl rfl (vp_in_nI (by omega) (by decide)) d_M_isOpened_15 ?_
    rw [nI_clamp (by omega)]
    refine lv_iconst (v := 2) hx hb d_M_isOpened_16 (by decide) ?_
    refine lv_icmp_ne (tgt := 24) hx hb d_M_isOpened_17 (by decide) (fun c_2 => ?_) (fun c_2 => ?_)
    · refine lv_iconst (v := 0) hx hb d_M_isOpened_24 (by decide) ?_
      exact W.zret (v := 0) (ty := .boolean) hx hb hr rfl (fun t ht hW => ⟨0, rfl, (b2i_f (by ((try simp only [b2i_eq0, Classical.not_not] at c_1 c_2); simp only [i32_eq, i32_lt, i32_le, i32_nm1, i32_n0, i32_n1, i32_n2, i32_n3, i32_n4, i32_n5, i32_n6, i32_n7, i32_n8, i32_n9, i32_n10, i32_n20, i32_n30, i32_n31, i32_n39, i32_n40, i32_n49, i32_n50, i32_n100, i32_n160, i32_n1000, i32_n100000, i32_n1000000] at c_1 c_2 ⊢; omega))).symm, ht⟩) (fun q h => nomatch h) d_M_isOpened_25
    · refine lv_iconst (v := 1) hx hb d_M_isOpened_20 (by decide) ?_
      refine lv_goto (tgt := 25) hx hb d_M_isOpened_21 (by decide) ?_
      exact W.zret (v := 1) (ty := .boolean) hx hb hr rfl (fun t ht hW => ⟨1, rfl, (b2i_t (by ((try simp only [b2i_eq0, Classical.not_not] at c_1 c_2); simp only [i32_eq, i32_lt, i32_le, i32_nm1, i32_n0, i32_n1, i32_n2, i32_n3, i32_n4, i32_n5, i32_n6, i32_n7, i32_n8, i32_n9, i32_n10, i32_n20, i32_n30, i32_n31, i32_n39, i32_n40, i32_n49, i32_n50, i32_n100, i32_n160, i32_n1000, i32_n100000, i32_n1000000] at c_1 c_2 ⊢; omega))).symm, ht⟩) (fun q h => nomatch h) d_M_isOpened_25
set_option maxHeartbeats 4000000 in
set_option maxRecDepth 100000 in
theorem c_M_isOf (l : Launch) (D : va_G) (cs : Nat → ClassId) (ad : Nat → Nat) (τ : Nat → Nat → Int32) (n nm : Nat) (hM : Mv τ n nm) (i : Nat) (hi : i < nm) (p0 : Int32) : Met l y_M_isOf (Cond.code y_M_isOf b_M_isOf 3 (some .boolean) :: GW) ({ frames := 0, cells := 0, slots := 0, locals := 0 }) (va_Pc [.ref (ad 0), .int (nI i), .int p0] (rd_B D (tys_ cs) (wM cs ad τ))) (vp_Si (fun r => r = b2i (dS τ i = p0))) 0 0 (fun _ => False) := by
  refine Met.ofW (cc := b_M_isOf) (maxL := 3) (ret := (some .boolean)) (by decide) rfl ?_
  intro p e s m args below meth c s₁ B hml hv
  obtain ⟨rfl, hP, hK⟩ := hv
  have hx := B.exec
  have hb := B.bytes
  have hr := B.returns
  have hts := atoms_spec (ws := Cond.code y_M_isOf b_M_isOf 3 (some .boolean) :: GW) B.pre
  have hG : ∀ w ∈ GW, w.before _ s = true := fun w h => hts w (List.mem_cons_of_mem _ h)
  have hown : s.vm.findClass R_M = some m.cls := findClass_of_methodNamed B.named
  have hlocks := B.notSynchronized
  obtain ⟨j, d, hj, hd, ej, ed, eS⟩ := dS_at hM hi
  have hn30 : n ≤ 30 := hM.2.2.1
  have hm40 : nm ≤ 40 := hM.2.2.2.1
  have hl := lv_entry ([.ref (ad 0), .int (nI i), .int p0]) (n := 3) (Nat.le_of_ble_eq_true rfl)
  rw [lg_entry_eq]
  generalize (lg_sl ([.ref (ad 0), .int (nI i), .int p0]) ++ List.replicate (3 - (lg_sl ([.ref (ad 0), .int (nI i), .int p0])).length) Slot.unset).toArray = ls at hl ⊢
  have hl : lv_has ls 3 [(0, .ref (ad 0)), (1, .int (nI i)), (2, .int p0)] := hl
  refine lv_aload_n hx hb d_M_isOf_0 rfl (lv_at hl 0 rfl) ?_
  refine rl_get (r := 0) (ci := 4) (v := .ref (ad 5)) (C := R_M) (T := F_M) (N := 25) hx hb hG in_M hown hK hP (by decide) gM_0 rfl 5 (by decide) kw_586 (fun _ h9 => h9) rfl d_M_isOf_1 ?_
  refine lv_aload_n hx hb d_M_isOf_4 rfl (lv_at hl 0 rfl) ?_
  refine rl_get (r := 0) (ci := 4) (v := .ref (ad 19)) (C := R_M) (T := F_M) (N := 25) hx hb hG in_M hown hK hP (by decide) gM_0 rfl 19 (by decide) kw_600 (fun _ h9 => h9) rfl d_M_isOf_5 ?_
  refine lv_iload_n hx hb d_M_isOf_8 rfl (lv_at hl 1 rfl) ?_
  refine rl_iald (r := 19) (i := nI i) (n := 40) hx hb hK hP (by decide) 0 rfl rfl (vp_in_nI (by omega) (by decide)) d_M_isOf_9 ?_
  rw [nI_clamp (by omega)]
  rw [ej]
  refine rl_iald (r := 5) (i := nI j) (n := 30) hx hb hK hP (by decide) 0 rfl rfl (vp_in_nI (by omega) (by decide)) d_M_isOf_10 ?_
  rw [nI_clamp (by omega)]
  refine lv_iload_n hx hb d_M_isOf_11 rfl (lv_at hl 2 rfl) ?_
  refine lv_icmp_ne (tgt := 19) hx hb d_M_isOf_12 (by decide) (fun c_1 => ?_) (fun c_1 => ?_)
  · refine lv_iconst (v := 0) hx hb d_M_isOf_19 (by decide) ?_
    exact W.zret (v := 0) (ty := .boolean) hx hb hr rfl (fun t ht hW => ⟨0, rfl, (by unfold dS; rw [ej, nI_clamp (by have := hM.2.2.1; omega)]; exact (b2i_f (by ((try simp only [b2i_eq0, Classical.not_not] at c_1); simp only [i32_eq, i32_lt, i32_le, i32_nm1, i32_n0, i32_n1, i32_n2, i32_n3, i32_n4, i32_n5, i32_n6, i32_n7, i32_n8, i32_n9, i32_n10, i32_n20, i32_n30, i32_n31, i32_n39, i32_n40, i32_n49, i32_n50, i32_n100, i32_n160, i32_n1000, i32_n100000, i32_n1000000] at c_1 ⊢; omega))).symm), ht⟩) (fun q h => nomatch h) d_M_isOf_20
  · refine lv_iconst (v := 1) hx hb d_M_isOf_15 (by decide) ?_
    refine lv_goto (tgt := 20) hx hb d_M_isOf_16 (by decide) ?_
    exact W.zret (v := 1) (ty := .boolean) hx hb hr rfl (fun t ht hW => ⟨1, rfl, (by unfold dS; rw [ej, nI_clamp (by have := hM.2.2.1; omega)]; exact (b2i_t (by ((try simp only [b2i_eq0, Classical.not_not] at c_1); simp only [i32_eq, i32_lt, i32_le, i32_nm1, i32_n0, i32_n1, i32_n2, i32_n3, i32_n4, i32_n5, i32_n6, i32_n7, i32_n8, i32_n9, i32_n10, i32_n20, i32_n30, i32_n31, i32_n39, i32_n40, i32_n49, i32_n50, i32_n100, i32_n160, i32_n1000, i32_n100000, i32_n1000000] at c_1 ⊢; omega))).symm), ht⟩) (fun q h => nomatch h) d_M_isOf_20
set_option maxHeartbeats 4000000 in
set_option maxRecDepth 100000 in
theorem c_M_hasNoResult (l : Launch) (D : va_G) (cs : Nat → ClassId) (ad : Nat → Nat) (τ : Nat → Nat → Int32) (n nm : Nat) (hM : Mv τ n nm) (i : Nat) (hi : i < 40) : Met l y_M_hasNoResult (Cond.code y_M_hasNoResult b_M_hasNoResult 2 (some .boolean) :: GW) ({ frames := 0, cells := 0, slots := 0, locals := 0 }) (va_Pc [.ref (ad 0), .int (nI i)] (rd_B D (tys_ cs) (wM cs ad τ))) (vp_Si (fun r => r = b2i (τ 21 (4 * i) < 0 ∧ τ 21 (4 * i + 1) < 0 ∧ τ 21 (4 * i + 2) < 0 ∧ τ 21 (4 * i + 3) < 0))) 0 0 (fun _ => False) := by
  refine Met.ofW (cc := b_M_hasNoResult) (maxL := 2) (ret := (some .boolean)) (by decide) rfl ?_
  intro p e s m args below meth c s₁ B hml hv
  obtain ⟨rfl, hP, hK⟩ := hv
  have hx := B.exec
  have hb := B.bytes
  have hr := B.returns
  have hts := atoms_spec (ws := Cond.code y_M_hasNoResult b_M_hasNoResult 2 (some .boolean) :: GW) B.pre
  have hG : ∀ w ∈ GW, w.before _ s = true := fun w h => hts w (List.mem_cons_of_mem _ h)
  have hown : s.vm.findClass R_M = some m.cls := findClass_of_methodNamed B.named
  have hlocks := B.notSynchronized
  have hn30 : n ≤ 30 := hM.2.2.1
  have hm40 : nm ≤ 40 := hM.2.2.2.1
  have hl := lv_entry ([.ref (ad 0), .int (nI i)]) (n := 2) (Nat.le_of_ble_eq_true rfl)
  rw [lg_entry_eq]
  generalize (lg_sl ([.ref (ad 0), .int (nI i)]) ++ List.replicate (2 - (lg_sl ([.ref (ad 0), .int (nI i)])).length) Slot.unset).toArray = ls at hl ⊢
  have hl : lv_has ls 2 [(0, .ref (ad 0)), (1, .int (nI i))] := hl
  refine lv_aload_n hx hb d_M_hasNoResult_0 rfl (lv_at hl 0 rfl) ?_
  refine rl_get (r := 0) (ci := 4) (v := .ref (ad 21)) (C := R_M) (T := F_M) (N := 25) hx hb hG in_M hown hK hP (by decide) gM_0 rfl 21 (by decide) kw_602 (fun _ h9 => h9) rfl d_M_hasNoResult_1 ?_
  refine lv_iconst (v := 4) hx hb d_M_hasNoResult_4 (by decide) ?_
  refine lv_iload_n hx hb d_M_hasNoResult_5 rfl (lv_at hl 1 rfl) ?_
  refine lv_imul hx hb d_M_hasNoResult_6 ?_
  rw [ix40]
  refine rl_iald (r := 21) (i := nI (4 * i)) (n := 160) hx hb hK hP (by decide) 0 rfl rfl (vp_in_nI (by omega) (by decide)) d_M_hasNoResult_7 ?_
  rw [nI_clamp (by omega)]
  refine lv_if_ge (tgt := 54) hx hb d_M_hasNoResult_8 (by decide) (fun c_1 => ?_) (fun c_1 => ?_)
  · refine lv_iconst (v := 0) hx hb d_M_hasNoResult_54 (by decide) ?_
    exact W.zret (v := 0) (ty := .boolean) hx hb hr rfl (fun t ht hW => ⟨0, rfl, (b2i_f (by ((try simp only [b2i_eq0, Classical.not_not] at c_1); simp only [i32_eq, i32_lt, i32_le, i32_nm1, i32_n0, i32_n1, i32_n2, i32_n3, i32_n4, i32_n5, i32_n6, i32_n7, i32_n8, i32_n9, i32_n10, i32_n20, i32_n30, i32_n31, i32_n39, i32_n40, i32_n49, i32_n50, i32_n100, i32_n160, i32_n1000, i32_n100000, i32_n1000000] at c_1 ⊢; omega))).symm, ht⟩) (fun q h => nomatch h) d_M_hasNoResult_55
  · refine lv_aload_n hx hb d_M_hasNoResult_11 rfl (lv_at hl 0 rfl) ?_
    refine rl_get (r := 0) (ci := 4) (v := .ref (ad 21)) (C := R_M) (T := F_M) (N := 25) hx hb hG in_M hown hK hP (by decide) gM_0 rfl 21 (by decide) kw_602 (fun _ h9 => h9) rfl d_M_hasNoResult_12 ?_
    refine lv_iconst (v := 4) hx hb d_M_hasNoResult_15 (by decide) ?_
    refine lv_iload_n hx hb d_M_hasNoResult_16 rfl (lv_at hl 1 rfl) ?_
    refine lv_imul hx hb d_M_hasNoResult_17 ?_
    refine lv_iconst (v := 1) hx hb d_M_hasNoResult_18 (by decide) ?_
    refine lv_iadd hx hb d_M_hasNoResult_19 ?_
    rw [show 4 * nI i + 1 = nI (4 * i + 1) from ix4 i 1]
    refine rl_iald (r := 21) (i := nI (4 * i + 1)) (n := 160) hx hb hK hP (by decide) 0 rfl rfl (vp_in_nI (by omega) (by decide)) d_M_hasNoResult_20 ?_
    rw [nI_clamp (by omega)]
    refine lv_if_ge (tgt := 54) hx hb d_M_hasNoResult_21 (by decide) (fun c_2 => ?_) (fun c_2 => ?_)
    · refine lv_iconst (v := 0) hx hb d_M_hasNoResult_54 (by decide) ?_
      exact W.zret (v := 0) (ty := .boolean) hx hb hr rfl (fun t ht hW => ⟨0, rfl, (b2i_f (by ((try simp only [b2i_eq0, Classical.not_not] at c_1 c_2); simp only [i32_eq, i32_lt, i32_le, i32_nm1, i32_n0, i32_n1, i32_n2, i32_n3, i32_n4, i32_n5, i32_n6, i32_n7, i32_n8, i32_n9, i32_n10, i32_n20, i32_n30, i32_n31, i32_n39, i32_n40, i32_n49, i32_n50, i32_n100, i32_n160, i32_n1000, i32_n100000, i32_n1000000] at c_1 c_2 ⊢; omega))).symm, ht⟩) (fun q h => nomatch h) d_M_hasNoResult_55
    · refine lv_aload_n hx hb d_M_hasNoResult_24 rfl (lv_at hl 0 rfl) ?_
      refine rl_get (r := 0) (ci := 4) (v := .ref (ad 21)) (C := R_M) (T := F_M) (N := 25) hx hb hG in_M hown hK hP (by decide) gM_0 rfl 21 (by decide) kw_602 (fun _ h9 => h9) rfl d_M_hasNoResult_25 ?_
      refine lv_iconst (v := 4) hx hb d_M_hasNoResult_28 (by decide) ?_
      refine lv_iload_n hx hb d_M_hasNoResult_29 rfl (lv_at hl 1 rfl) ?_
      refine lv_imul hx hb d_M_hasNoResult_30 ?_
      refine lv_iconst (v := 2) hx hb d_M_hasNoResult_31 (by decide) ?_
      refine lv_iadd hx hb d_M_hasNoResult_32 ?_
      rw [show 4 * nI i + 2 = nI (4 * i + 2) from ix4 i 2]
      refine rl_iald (r := 21) (i := nI (4 * i + 2)) (n := 160) hx hb hK hP (by decide) 0 rfl rfl (vp_in_nI (by omega) (by decide)) d_M_hasNoResult_33 ?_
      rw [nI_clamp (by omega)]
      refine lv_if_ge (tgt := 54) hx hb d_M_hasNoResult_34 (by decide) (fun c_3 => ?_) (fun c_3 => ?_)
      · refine lv_iconst (v := 0) hx hb d_M_hasNoResult_54 (by decide) ?_
        exact W.zret (v := 0) (ty := .boolean) hx hb hr rfl (fun t ht hW => ⟨0, rfl, (b2i_f (by ((try simp only [b2i_eq0, Classical.not_not] at c_1 c_2 c_3); simp only [i32_eq, i32_lt, i32_le, i32_nm1, i32_n0, i32_n1, i32_n2, i32_n3, i32_n4, i32_n5, i32_n6, i32_n7, i32_n8, i32_n9, i32_n10, i32_n20, i32_n30, i32_n31, i32_n39, i32_n40, i32_n49, i32_n50, i32_n100, i32_n160, i32_n1000, i32_n100000, i32_n1000000] at c_1 c_2 c_3 ⊢; omega))).symm, ht⟩) (fun q h => nomatch h) d_M_hasNoResult_55
      · refine lv_aload_n hx hb d_M_hasNoResult_37 rfl (lv_at hl 0 rfl) ?_
        refine rl_get (r := 0) (ci := 4) (v := .ref (ad 21)) (C := R_M) (T := F_M) (N := 25) hx hb hG in_M hown hK hP (by decide) gM_0 rfl 21 (by decide) kw_602 (fun _ h9 => h9) rfl d_M_hasNoResult_38 ?_
        refine lv_iconst (v := 4) hx hb d_M_hasNoResult_41 (by decide) ?_
        refine lv_iload_n hx hb d_M_hasNoResult_42 rfl (lv_at hl 1 rfl) ?_
        refine lv_imul hx hb d_M_hasNoResult_43 ?_
        refine lv_iconst (v := 3) hx hb d_M_hasNoResult_44 (by decide) ?_
        refine lv_iadd hx hb d_M_hasNoResult_45 ?_
        rw [show 4 * nI i + 3 = nI (4 * i + 3) from ix4 i 3]
        refine rl_iald (r := 21) (i := nI (4 * i + 3)) (n := 160) hx hb hK hP (by decide) 0 rfl rfl (vp_in_nI (by omega) (by decide)) d_M_hasNoResult_46 ?_
        rw [nI_clamp (by omega)]
        refine lv_if_ge (tgt := 54) hx hb d_M_hasNoResult_47 (by decide) (fun c_4 => ?_) (fun c_4 => ?_)
        · refine lv_iconst (v := 0) hx hb d_M_hasNoResult_54 (by decide) ?_
          exact W.zret (v := 0) (ty := .boolean) hx hb hr rfl (fun t ht hW => ⟨0, rfl, (b2i_f (by ((try simp only [b2i_eq0, Classical.not_not] at c_1 c_2 c_3 c_4); simp only [i32_eq, i32_lt, i32_le, i32_nm1, i32_n0, i32_n1, i32_n2, i32_n3, i32_n4, i32_n5, i32_n6, i32_n7, i32_n8, i32_n9, i32_n10, i32_n20, i32_n30, i32_n31, i32_n39, i32_n40, i32_n49, i32_n50, i32_n100, i32_n160, i32_n1000, i32_n100000, i32_n1000000] at c_1 c_2 c_3 c_4 ⊢; omega))).symm, ht⟩) (fun q h => nomatch h) d_M_hasNoResult_55
        · refine lv_iconst (v := 1) hx hb d_M_hasNoResult_50 (by decide) ?_
          refine lv_goto (tgt := 55) hx hb d_M_hasNoResult_51 (by decide) ?_
          exact W.zret (v := 1) (ty := .boolean) hx hb hr rfl (fun t ht hW => ⟨1, rfl, (b2i_t (by ((try simp only [b2i_eq0, Classical.not_not] at c_1 c_2 c_3 c_4); simp only [i32_eq, i32_lt, i32_le, i32_nm1, i32_n0, i32_n1, i32_n2, i32_n3, i32_n4, i32_n5, i32_n6, i32_n7, i32_n8, i32_n9, i32_n10, i32_n20, i32_n30, i32_n31, i32_n39, i32_n40, i32_n49, i32_n50, i32_n100, i32_n160, i32_n1000, i32_n100000, i32_n1000000] at c_1 c_2 c_3 c_4 ⊢; omega))).symm, ht⟩) (fun q h => nomatch h) d_M_hasNoResult_55
set_option maxHeartbeats 4000000 in
set_option maxRecDepth 100000 in
theorem c_M_differs (l : Launch) (D : va_G) (cs : Nat → ClassId) (ad : Nat → Nat) (τ : Nat → Nat → Int32) (n nm : Nat) (hM : Mv τ n nm) (i q : Nat) (hi : i < nm) (hq : q < 4) : Met l y_M_differs (Cond.code y_M_differs b_M_differs 11 (some .int) :: GW) ({ frames := 0, cells := 0, slots := 0, locals := 0 }) (va_Pc [.ref (ad 0), .int (nI i), .int (nI q)] (rd_B D (tys_ cs) (wM cs ad τ))) (vp_Si (fun r => r = dfM τ i q)) 0 0 (fun _ => False) := by
  refine Met.ofW (cc := b_M_differs) (maxL := 11) (ret := (some .int)) (by decide) rfl ?_
  intro p e s m args below meth c s₁ B hml hv
  obtain ⟨rfl, hP, hK⟩ := hv
  have hx := B.exec
  have hb := B.bytes
  have hr := B.returns
  have hts := atoms_spec (ws := Cond.code y_M_differs b_M_differs 11 (some .int) :: GW) B.pre
  have hG : ∀ w ∈ GW, w.before _ s = true := fun w h => hts w (List.mem_cons_of_mem _ h)
  have hown : s.vm.findClass R_M = some m.cls := findClass_of_methodNamed B.named
  have hlocks := B.notSynchronized
  obtain ⟨j, d, hj, hd, ej, ed, eS⟩ := dS_at hM hi
  have hn30 : n ≤ 30 := hM.2.2.1
  have hm40 : nm ≤ 40 := hM.2.2.2.1
  have hl := lv_entry ([.ref (ad 0), .int (nI i), .int (nI q)]) (n := 11) (Nat.le_of_ble_eq_true rfl)
  rw [lg_entry_eq]
  generalize (lg_sl ([.ref (ad 0), .int (nI i), .int (nI q)]) ++ List.replicate (11 - (lg_sl ([.ref (ad 0), .int (nI i), .int (nI q)])).length) Slot.unset).toArray = ls at hl ⊢
  have hl : lv_has ls 11 [(0, .ref (ad 0)), (1, .int (nI i)), (2, .int (nI q))] := hl
  refine lv_aload_n hx hb d_M_differs_0 rfl (lv_at hl 0 rfl) ?_
  refine rl_get (r := 0) (ci := 4) (v := .ref (ad 21)) (C := R_M) (T := F_M) (N := 25) hx hb hG in_M hown hK hP (by decide) gM_0 rfl 21 (by decide) kw_602 (fun _ h9 => h9) rfl d_M_differs_1 ?_
  refine lv_iconst (v := 4) hx hb d_M_differs_4 (by decide) ?_
  refine lv_iload_n hx hb d_M_differs_5 rfl (lv_at hl 1 rfl) ?_
  refine lv_imul hx hb d_M_differs_6 ?_
  refine lv_iload_n hx hb d_M_differs_7 rfl (lv_at hl 2 rfl) ?_
  refine lv_iadd hx hb d_M_differs_8 ?_
  rw [ix4]
  refine rl_iald (r := 21) (i := nI (4 * i + q)) (n := 160) hx hb hK hP (by decide) 0 rfl rfl (vp_in_nI (by omega) (by decide)) d_M_differs_9 ?_
  rw [nI_clamp (by omega)]
  refine lv_i2l hx hb d_M_differs_10 rfl ?_
  refine lv_lstore_n (lv' := [(3, .long ((τ 21 (4 * i + q)).toInt64)), (0, .ref (ad 0)), (1, .int (nI i)), (2, .int (nI q))]) hx hb d_M_differs_11 rfl hl (by decide) rfl (fun ls hl => ?_)
  refine lv_aload_n hx hb d_M_differs_12 rfl (lv_at hl 1 rfl) ?_
  refine rl_get (r := 0) (ci := 4) (v := .ref (ad 18)) (C := R_M) (T := F_M) (N := 25) hx hb hG in_M hown hK hP (by decide) gM_0 rfl 18 (by decide) kw_599 (fun _ h9 => h9) rfl d_M_differs_13 ?_
  refine lv_iconst (v := 4) hx hb d_M_differs_16 (by decide) ?_
  refine lv_aload_n hx hb d_M_differs_17 rfl (lv_at hl 1 rfl) ?_
  refine rl_get (r := 0) (ci := 4) (v := .ref (ad 5)) (C := R_M) (T := F_M) (N := 25) hx hb hG in_M hown hK hP (by decide) gM_0 rfl 5 (by decide) kw_586 (fun _ h9 => h9) rfl d_M_differs_18 ?_
  refine lv_aload_n hx hb d_M_differs_21 rfl (lv_at hl 1 rfl) ?_
  refine rl_get (r := 0) (ci := 4) (v := .ref (ad 19)) (C := R_M) (T := F_M) (N := 25) hx hb hG in_M hown hK hP (by decide) gM_0 rfl 19 (by decide) kw_600 (fun _ h9 => h9) rfl d_M_differs_22 ?_
  refine lv_iload_n hx hb d_M_differs_25 rfl (lv_at hl 2 rfl) ?_
  refine rl_iald (r := 19) (i := nI i) (n := 40) hx hb hK hP (by decide) 0 rfl rfl (vp_in_nI (by omega) (by decide)) d_M_differs_26 ?_
  rw [nI_clamp (by omega)]
  rw [ej]
  refine rl_iald (r := 5) (i := nI j) (n := 30) hx hb hK hP (by decide) 0 rfl rfl (vp_in_nI (by omega) (by decide)) d_M_differs_27 ?_
  rw [nI_clamp (by omega)]
  rw [ed]
  refine lv_imul hx hb d_M_differs_28 ?_
  refine lv_iload_n hx hb d_M_differs_29 rfl (lv_at hl 3 rfl) ?_
  refine lv_iadd hx hb d_M_differs_30 ?_
  rw [ix4]
  refine rl_iald (r := 18) (i := nI (4 * d + q)) (n := 40) hx hb hK hP (by decide) 0 rfl rfl (vp_in_nI (by omega) (by decide)) d_M_differs_31 ?_
  rw [nI_clamp (by omega)]
  refine lv_i2l hx hb d_M_differs_32 rfl ?_
  refine lv_lstore (lv' := [(5, .long ((τ 18 (4 * d + q)).toInt64)), (3, .long ((τ 21 (4 * i + q)).toInt64)), (0, .ref (ad 0)), (1, .int (nI i)), (2, .int (nI q))]) hx hb d_M_differs_33 hl (by decide) rfl (fun ls hl => ?_)
  refine lv_lload_n hx hb d_M_differs_35 rfl (lv_at hl 1 rfl) ?_
  refine lv_lconst (v := 0) hx hb d_M_differs_36 (by decide) ?_
  refine W.lcmp hx hb d_M_differs_37 ?_
  refine lv_if_lt (tgt := 48) hx hb d_M_differs_38 (by decide) (fun c_1 => ?_) (fun c_1 => ?_)
  · refine lv_iconst (v := 0) hx hb d_M_differs_48 (by decide) ?_
    exact W.iret (v := 0) hx hb hr (fun t ht hW => ⟨0, rfl, (by unfold dfM difM; rw [eS, nI_clamp (by omega)]; exact (if_pos (Or.inl (lcmp_lt.mp c_1))).symm), ht⟩) (fun q h => nomatch h) d_M_differs_49
  · refine lv_lload hx hb d_M_differs_41 (lv_at hl 0 rfl) ?_
    refine lv_lconst (v := 0) hx hb d_M_differs_43 (by decide) ?_
    refine W.lcmp hx hb d_M_differs_44 ?_
    refine lv_if_ge (tgt := 50) hx hb d_M_differs_45 (by decide) (fun c_2 => ?_) (fun c_2 => ?_)
    · refine lv_lload_n hx hb d_M_differs_50 rfl (lv_at hl 1 rfl) ?_
      refine lv_lload hx hb d_M_differs_51 (lv_at hl 0 rfl) ?_
      refine W.lcmp hx hb d_M_differs_53 ?_
      refine lv_if_le (tgt := 68) hx hb d_M_differs_54 (by decide) (fun c_3 => ?_) (fun c_3 => ?_)
      · refine lv_ldc2 (v := 1000) hx hb hown (hG _ kw_729) d_M_differs_68 ?_
        refine lv_lload hx hb d_M_differs_71 (lv_at hl 0 rfl) ?_
        refine lv_lload_n hx hb d_M_differs_73 rfl (lv_at hl 1 rfl) ?_
        refine lv_lsub hx hb d_M_differs_74 ?_
        refine lv_lmul hx hb d_M_differs_75 ?_
        refine lv_lstore (lv' := [(7, .long (1000 * (((τ 18 (4 * d + q)).toInt64) - ((τ 21 (4 * i + q)).toInt64)))), (5, .long ((τ 18 (4 * d + q)).toInt64)), (3, .long ((τ 21 (4 * i + q)).toInt64)), (0, .ref (ad 0)), (1, .int (nI i)), (2, .int (nI q))]) hx hb d_M_differs_76 hl (by decide) rfl (fun ls hl => ?_)
        refine lv_lload_n hx hb d_M_differs_78 rfl (lv_at hl 2 rfl) ?_
        refine lv_lload hx hb d_M_differs_79 (lv_at hl 1 rfl) ?_
        refine W.lcmp hx hb d_M_differs_81 ?_
        refine lv_if_le (tgt := 98) hx hb d_M_differs_82 (by decide) (fun c_4 => ?_) (fun c_4 => ?_)
        · refine lv_lload hx hb d_M_differs_98 (lv_at hl 1 rfl) ?_
          refine lv_aload_n hx hb d_M_differs_100 rfl (lv_at hl 3 rfl) ?_
          refine rl_get (r := 0) (ci := 4) (v := .ref (ad 24)) (C := R_M) (T := F_M) (N := 25) hx hb hG in_M hown hK hP (by decide) gM_0 rfl 24 (by decide) kw_605 (fun _ h9 => h9) rfl d_M_differs_101 ?_
          refine lv_iload_n hx hb d_M_differs_104 rfl (lv_at hl 5 rfl) ?_
          refine rl_iald (r := 24) (i := nI q) (n := 4) hx hb hK hP (by decide) 0 rfl rfl (vp_in_nI (by omega) (by decide)) d_M_differs_105 ?_
          rw [nI_clamp (by omega)]
          refine lv_i2l hx hb d_M_differs_106 rfl ?_
          refine lv_lmul hx hb d_M_differs_107 ?_
          refine lv_lstore (lv' := [(9, .long (((τ 18 (4 * d + q)).toInt64) * ((τ 24 q).toInt64))), (7, .long (1000 * (((τ 18 (4 * d + q)).toInt64) - ((τ 21 (4 * i + q)).toInt64)))), (5, .long ((τ 18 (4 * d + q)).toInt64)), (3, .long ((τ 21 (4 * i + q)).toInt64)), (0, .ref (ad 0)), (1, .int (nI i)), (2, .int (nI q))]) hx hb d_M_differs_108 hl (by decide) rfl (fun ls hl => ?_)
          refine lv_lload hx hb d_M_differs_110 (lv_at hl 1 rfl) ?_
          refine lv_lload hx hb d_M_differs_112 (lv_at hl 0 rfl) ?_
          refine W.lcmp hx hb d_M_differs_114 ?_
          refine lv_if_gt (tgt := 122) hx hb d_M_differs_115 (by decide) (fun c_5 => ?_) (fun c_5 => ?_)
          · refine lv_lload hx hb d_M_differs_122 (lv_at hl 1 rfl) ?_
            refine lv_lload hx hb d_M_differs_124 (lv_at hl 0 rfl) ?_
            refine lv_lload hx hb d_M_differs_126 (lv_at hl 0 rfl) ?_
            refine lv_ladd hx hb d_M_differs_128 ?_
            refine W.lcmp hx hb d_M_differs_129 ?_
            refine lv_if_gt (tgt := 137) hx hb d_M_differs_130 (by decide) (fun c_6 => ?_) (fun c_6 => ?_)
            · refine lv_iconst (v := 2) hx hb d_M_differs_137 (by decide) ?_
              exact W.iret (v := 2) hx hb hr (fun t ht hW => ⟨2, rfl, (by unfold dfM difM; rw [eS, nI_clamp (by omega)]; rw [if_neg (fun h => h.elim (fun h => c_1 (lcmp_lt.mpr h)) (fun h => (lcmp_ge.mp c_2) h))]; simp only [eq_false (lcmp_le.mp c_3), ↓reduceIte]; rw [if_pos (lcmp_gt.mp c_5), if_pos (lcmp_gt.mp c_6)]), ht⟩) (fun q h => nomatch h) d_M_differs_138
            · refine lv_iconst (v := 1) hx hb d_M_differs_133 (by decide) ?_
              refine lv_goto (tgt := 138) hx hb d_M_differs_134 (by decide) ?_
              exact W.iret (v := 1) hx hb hr (fun t ht hW => ⟨1, rfl, (by unfold dfM difM; rw [eS, nI_clamp (by omega)]; rw [if_neg (fun h => h.elim (fun h => c_1 (lcmp_lt.mpr h)) (fun h => (lcmp_ge.mp c_2) h))]; simp only [eq_false (lcmp_le.mp c_3), ↓reduceIte]; rw [if_pos (lcmp_gt.mp c_5), if_neg (fun h => c_6 (lcmp_gt.mpr h))]), ht⟩) (fun q h => nomatch h) d_M_differs_138
          · refine lv_iconst (v := 0) hx hb d_M_differs_118 (by decide) ?_
            refine lv_goto (tgt := 138) hx hb d_M_differs_119 (by decide) ?_
            exact W.iret (v := 0) hx hb hr (fun t ht hW => ⟨0, rfl, (by unfold dfM difM; rw [eS, nI_clamp (by omega)]; rw [if_neg (fun h => h.elim (fun h => c_1 (lcmp_lt.mpr h)) (fun h => (lcmp_ge.mp c_2) h))]; simp only [eq_false (lcmp_le.mp c_3), ↓reduceIte]; rw [if_neg (fun h => c_5 (lcmp_gt.mpr h))]), ht⟩) (fun q h => nomatch h) d_M_differs_138
        · exact absurd c_3 c_4
      · refine lv_ldc2 (v := 1000) hx hb hown (hG _ kw_729) d_M_differs_57 ?_
        refine lv_lload_n hx hb d_M_differs_60 rfl (lv_at hl 1 rfl) ?_
        refine lv_lload hx hb d_M_differs_61 (lv_at hl 0 rfl) ?_
        refine lv_lsub hx hb d_M_differs_63 ?_
        refine lv_lmul hx hb d_M_differs_64 ?_
        refine lv_goto (tgt := 76) hx hb d_M_differs_65 (by decide) ?_
        refine lv_lstore (lv' := [(7, .long (1000 * (((τ 21 (4 * i + q)).toInt64) - ((τ 18 (4 * d + q)).toInt64)))), (5, .long ((τ 18 (4 * d + q)).toInt64)), (3, .long ((τ 21 (4 * i + q)).toInt64)), (0, .ref (ad 0)), (1, .int (nI i)), (2, .int (nI q))]) hx hb d_M_differs_76 hl (by decide) rfl (fun ls hl => ?_)
        refine lv_lload_n hx hb d_M_differs_78 rfl (lv_at hl 2 rfl) ?_
        refine lv_lload hx hb d_M_differs_79 (lv_at hl 1 rfl) ?_
        refine W.lcmp hx hb d_M_differs_81 ?_
        refine lv_if_le (tgt := 98) hx hb d_M_differs_82 (by decide) (fun c_7 => ?_) (fun c_7 => ?_)
        · exact absurd c_7 c_3
        · refine lv_lload hx hb d_M_differs_85 (lv_at hl 1 rfl) ?_
          refine lv_aload_n hx hb d_M_differs_87 rfl (lv_at hl 3 rfl) ?_
          refine rl_get (r := 0) (ci := 4) (v := .ref (ad 23)) (C := R_M) (T := F_M) (N := 25) hx hb hG in_M hown hK hP (by decide) gM_0 rfl 23 (by decide) kw_604 (fun _ h9 => h9) rfl d_M_differs_88 ?_
          refine lv_iload_n hx hb d_M_differs_91 rfl (lv_at hl 5 rfl) ?_
          refine rl_iald (r := 23) (i := nI q) (n := 4) hx hb hK hP (by decide) 0 rfl rfl (vp_in_nI (by omega) (by decide)) d_M_differs_92 ?_
          rw [nI_clamp (by omega)]
          refine lv_i2l hx hb d_M_differs_93 rfl ?_
          refine lv_lmul hx hb d_M_differs_94 ?_
          refine lv_goto (tgt := 108) hx hb d_M_differs_95 (by decide) ?_
          refine lv_lstore (lv' := [(9, .long (((τ 18 (4 * d + q)).toInt64) * ((τ 23 q).toInt64))), (7, .long (1000 * (((τ 21 (4 * i + q)).toInt64) - ((τ 18 (4 * d + q)).toInt64)))), (5, .long ((τ 18 (4 * d + q)).toInt64)), (3, .long ((τ 21 (4 * i + q)).toInt64)), (0, .ref (ad 0)), (1, .int (nI i)), (2, .int (nI q))]) hx hb d_M_differs_108 hl (by decide) rfl (fun ls hl => ?_)
          refine lv_lload hx hb d_M_differs_110 (lv_at hl 1 rfl) ?_
          refine lv_lload hx hb d_M_differs_112 (lv_at hl 0 rfl) ?_
          refine W.lcmp hx hb d_M_differs_114 ?_
          refine lv_if_gt (tgt := 122) hx hb d_M_differs_115 (by decide) (fun c_8 => ?_) (fun c_8 => ?_)
          · refine lv_lload hx hb d_M_differs_122 (lv_at hl 1 rfl) ?_
            refine lv_lload hx hb d_M_differs_124 (lv_at hl 0 rfl) ?_
            refine lv_lload hx hb d_M_differs_126 (lv_at hl 0 rfl) ?_
            refine lv_ladd hx hb d_M_differs_128 ?_
            refine W.lcmp hx hb d_M_differs_129 ?_
            refine lv_if_gt (tgt := 137) hx hb d_M_differs_130 (by decide) (fun c_9 => ?_) (fun c_9 => ?_)
            · refine lv_iconst (v := 2) hx hb d_M_differs_137 (by decide) ?_
              exact W.iret (v := 2) hx hb hr (fun t ht hW => ⟨2, rfl, (by unfold dfM difM; rw [eS, nI_clamp (by omega)]; rw [if_neg (fun h => h.elim (fun h => c_1 (lcmp_lt.mpr h)) (fun h => (lcmp_ge.mp c_2) h))]; simp only [eq_true (Classical.not_not.mp (fun h => c_3 (lcmp_le.mpr h))), ↓reduceIte]; rw [if_pos (lcmp_gt.mp c_8), if_pos (lcmp_gt.mp c_9)]), ht⟩) (fun q h => nomatch h) d_M_differs_138
            · refine lv_iconst (v := 1) hx hb d_M_differs_133 (by decide) ?_
              refine lv_goto (tgt := 138) hx hb d_M_differs_134 (by decide) ?_
              exact W.iret (v := 1) hx hb hr (fun t ht hW => ⟨1, rfl, (by unfold dfM difM; rw [eS, nI_clamp (by omega)]; rw [if_neg (fun h => h.elim (fun h => c_1 (lcmp_lt.mpr h)) (fun h => (lcmp_ge.mp c_2) h))]; simp only [eq_true (Classical.not_not.mp (fun h => c_3 (lcmp_le.mpr h))), ↓reduceIte]; rw [if_pos (lcmp_gt.mp c_8), if_neg (fun h => c_9 (lcmp_gt.mpr h))]), ht⟩) (fun q h => nomatch h) d_M_differs_138
          · refine lv_iconst (v := 0) hx hb d_M_differs_118 (by decide) ?_
            refine lv_goto (tgt := 138) hx hb d_M_differs_119 (by decide) ?_
            exact W.iret (v := 0) hx hb hr (fun t ht hW => ⟨0, rfl, (by unfold dfM difM; rw [eS, nI_clamp (by omega)]; rw [if_neg (fun h => h.elim (fun h => c_1 (lcmp_lt.mpr h)) (fun h => (lcmp_ge.mp c_2) h))]; simp only [eq_true (Classical.not_not.mp (fun h => c_3 (lcmp_le.mpr h))), ↓reduceIte]; rw [if_neg (fun h => c_8 (lcmp_gt.mpr h))]), ht⟩) (fun q h => nomatch h) d_M_differs_138
    · refine lv_iconst (v := 0) hx hb d_M_differs_48 (by decide) ?_
      exact W.iret (v := 0) hx hb hr (fun t ht hW => ⟨0, rfl, (by unfold dfM difM; rw [eS, nI_clamp (by omega)]; exact (if_pos (Or.inr (Classical.not_not.mp (fun h => c_2 (lcmp_ge.mpr h))))).symm), ht⟩) (fun q h => nomatch h) d_M_differs_49
