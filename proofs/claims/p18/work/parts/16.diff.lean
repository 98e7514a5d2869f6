set_option maxHeartbeats 4000000 in
set_option maxRecDepth 100000 in
theorem c_C_difference (l : Launch) (D : va_G) (cs : Nat → ClassId) (ad : Nat → Nat) (σ : Nat → Nat → Int32) (n nm ci cj E : Nat) (hI : Iv n nm ci cj) (i q : Nat) (hi : i < nm) (hq : q < 4) (hsd : vp_in (σ 30 i) 10) : Met l y_C_difference (Cond.code y_C_difference b_C_difference 9 (some .int) :: GW) ({ frames := 1, cells := 0, slots := 0, locals := 32 }) (va_Pc [.ref (ad 0), .ref (ad (200 + i)), .int (nI q)] (rd_B D (tys_ cs) (wC cs ad σ n nm ci cj E))) (vp_Si (fun r => r = dfS σ i q)) 0 0 (fun _ => False) := by
  refine Met.ofW (cc := b_C_difference) (maxL := 9) (ret := (some .int)) (by decide) rfl ?_
  intro p e s m args below meth c s₁ B hml hv
  obtain ⟨rfl, hP, hK⟩ := hv
  have hx := B.exec
  have hb := B.bytes
  have hr := B.returns
  have hts := atoms_spec (ws := Cond.code y_C_difference b_C_difference 9 (some .int) :: GW) B.pre
  have hG : ∀ w ∈ GW, w.before _ s = true := fun w h => hts w (List.mem_cons_of_mem _ h)
  have hown : s.vm.findClass R_C = some m.cls := findClass_of_methodNamed B.named
  have hlocks := B.notSynchronized
  have hdc : (σ 30 i).toNatClampNeg < 10 := Nat.not_le.mp fun q9 => hsd (Or.inr q9)
  have hl := lv_entry ([.ref (ad 0), .ref (ad (200 + i)), .int (nI q)]) (n := 9) (Nat.le_of_ble_eq_true rfl)
  rw [lg_entry_eq]
  generalize (lg_sl ([.ref (ad 0), .ref (ad (200 + i)), .int (nI q)]) ++ List.replicate (9 - (lg_sl ([.ref (ad 0), .ref (ad (200 + i)), .int (nI q)])).length) Slot.unset).toArray = ls at hl ⊢
  have hl : lv_has ls 9 [(0, .ref (ad 0)), (1, .ref (ad (200 + i))), (2, .int (nI q))] := hl
  refine lv_aload_n hx hb d_C_difference_0 rfl (lv_at hl 1 rfl) ?_
  refine rl_get (r := 200 + i) (ci := 3) (v := .ref (ad (300 + i))) (C := R_S) (T := F_S) (N := 4) hx hb hG in_S hown hK hP (RC_sam hi) (gC_sam (by have := hI; unfold Iv at this; omega)) rfl 2 (by decide) kw_474 (fun _ h9 => h9) rfl d_C_difference_1 ?_
  refine lv_iload_n hx hb d_C_difference_4 rfl (lv_at hl 2 rfl) ?_
  refine rl_iald (r := 300 + i) (i := nI q) hx hb hK hP (RC_fou hi) 0 (gC_fou (by have := hI; unfold Iv at this; omega)) rfl (vp_in_nI (Nat.lt_of_lt_of_le hq (by decide)) (by decide)) d_C_difference_5 ?_
  rw [nI_clamp (Nat.lt_of_lt_of_le hq (by decide))]
  refine lv_istore_n (lv' := [(3, .int (σ (1000 + i) q)), (0, .ref (ad 0)), (1, .ref (ad (200 + i))), (2, .int (nI q))]) hx hb d_C_difference_6 rfl hl (by decide) rfl (fun ls hl => ?_)
  refine lv_aload_n hx hb d_C_difference_7 rfl (lv_at hl 1 rfl) ?_
  refine rl_get (r := 0) (ci := 1) (v := .ref (ad 9)) (C := R_C) (T := F_C) (N := 10) hx hb hG in_C hown hK hP (RC_f (by decide)) gC_0 rfl 6 (by decide) kw_65 (fun _ h9 => h9) rfl d_C_difference_8 ?_
  refine lv_aload_n hx hb d_C_difference_11 rfl (lv_at hl 2 rfl) ?_
  refine rl_get (r := 200 + i) (ci := 3) (v := .int (σ 30 i)) (C := R_S) (T := F_S) (N := 4) hx hb hG in_S hown hK hP (RC_sam hi) (gC_sam (by have := hI; unfold Iv at this; omega)) rfl 0 (by decide) kw_470 (fun _ h9 => h9) rfl d_C_difference_12 ?_
  refine rl_aldA (r := 9) (i := σ 30 i) (v := .ref (ad (20 + (σ 30 i).toNatClampNeg))) hx hb hK hP (RC_f (by decide)) 3 gC_9 rfl hsd (by simp only [rowsF, if_pos hdc]; rfl) d_C_difference_15 ?_
  refine lv_iload_n hx hb d_C_difference_16 rfl (lv_at hl 3 rfl) ?_
  refine rl_iald (r := 20 + (σ 30 i).toNatClampNeg) (i := nI q) hx hb hK hP (RC_row hdc) 0 (gC_row hdc) rfl (vp_in_nI (Nat.lt_of_lt_of_le hq (by decide)) (by decide)) d_C_difference_17 ?_
  rw [nI_clamp (Nat.lt_of_lt_of_le hq (by decide))]
  refine lv_istore (lv' := [(4, .int (σ (10 + (σ 30 i).toNatClampNeg) q)), (3, .int (σ (1000 + i) q)), (0, .ref (ad 0)), (1, .ref (ad (200 + i))), (2, .int (nI q))]) hx hb d_C_difference_18 hl (by decide) rfl (fun ls hl => ?_)
  refine lv_iload_n hx hb d_C_difference_20 rfl (lv_at hl 1 rfl) ?_
  refine lv_iconst (v := (-1)) hx hb d_C_difference_21 (by decide) ?_
  refine lv_icmp_eq (tgt := 31) hx hb d_C_difference_22 (by decide) (fun c_1 => ?_) (fun c_1 => ?_)
  · refine lv_iconst (v := 0) hx hb d_C_difference_31 (by decide) ?_
    exact W.iret (v := 0) hx hb hr (fun t ht hW => ⟨0, rfl, (if_pos (by first | exact Or.inl c_1 | exact Or.inr c_1)).symm, ht⟩) (fun q h => nomatch h) d_C_difference_32
  · refine lv_iload hx hb d_C_difference_25 (lv_at hl 0 rfl) ?_
    refine lv_iconst (v := (-1)) hx hb d_C_difference_27 (by decide) ?_
    refine lv_icmp_ne (tgt := 33) hx hb d_C_difference_28 (by decide) (fun c_2 => ?_) (fun c_2 => ?_)
    · refine lv_iload_n hx hb d_C_difference_33 rfl (lv_at hl 1 rfl) ?_
      refine lv_i2l hx hb d_C_difference_34 rfl ?_
      refine lv_iload hx hb d_C_difference_35 (lv_at hl 0 rfl) ?_
      refine lv_i2l hx hb d_C_difference_37 rfl ?_
      refine lv_lsub hx hb d_C_difference_38 ?_
      refine va_mabs_long hx hb (hml.trans hl.1.symm) hown (hG _ kw_178) (hG _ kw_179) (hG _ kw_14) (hG _ ka_abs) (Nat.le_of_ble_eq_true rfl) (Nat.le_of_ble_eq_true rfl) (Nat.zero_le _) (Nat.zero_le _) (x := ((σ (1000 + i) q).toInt64) - ((σ (10 + (σ 30 i).toNatClampNeg) q).toInt64)) d_C_difference_39 ?_
      refine W.eq (g2 := F0 m 42 ls [.long (absL (((σ (1000 + i) q).toInt64) - ((σ (10 + (σ 30 i).toNatClampNeg) q).toInt64)))]) rfl ?_
      refine lv_ldc2 (v := 1000) hx hb hown (hG _ kw_181) d_C_difference_42 ?_
      refine lv_lmul hx hb d_C_difference_45 ?_
      refine lv_lstore (lv' := [(5, .long ((absL (((σ (1000 + i) q).toInt64) - ((σ (10 + (σ 30 i).toNatClampNeg) q).toInt64))) * 1000)), (4, .int (σ (10 + (σ 30 i).toNatClampNeg) q)), (3, .int (σ (1000 + i) q)), (0, .ref (ad 0)), (1, .ref (ad (200 + i))), (2, .int (nI q))]) hx hb d_C_difference_46 hl (by decide) rfl (fun ls hl => ?_)
      refine lv_iload hx hb d_C_difference_48 (lv_at hl 1 rfl) ?_
      refine lv_i2l hx hb d_C_difference_50 rfl ?_
      refine lv_iload_n hx hb d_C_difference_51 rfl (lv_at hl 2 rfl) ?_
      refine lv_iload hx hb d_C_difference_52 (lv_at hl 1 rfl) ?_
      refine lv_icmp_le (tgt := 66) hx hb d_C_difference_54 (by decide) (fun c_3 => ?_) (fun c_3 => ?_)
      · have hA : (if σ (10 + (σ 30 i).toNatClampNeg) q < σ (1000 + i) q then σ 5 q else σ 6 q) = σ 6 q := if_neg (fun h => by rw [i32_lt] at h; rw [i32_le] at c_3; omega)
        refine lv_aload_n hx hb d_C_difference_66 rfl (lv_at hl 3 rfl) ?_
        refine rl_get (r := 0) (ci := 1) (v := .ref (ad 11)) (C := R_C) (T := F_C) (N := 10) hx hb hG in_C hown hK hP (RC_f (by decide)) gC_0 rfl 8 (by decide) kw_67 (fun _ h9 => h9) rfl d_C_difference_67 ?_
        refine lv_iload_n hx hb d_C_difference_70 rfl (lv_at hl 5 rfl) ?_
        refine rl_iald (r := 11) (i := nI q) hx hb hK hP (RC_f (by decide)) 0 gC_11 rfl (vp_in_nI (Nat.lt_of_lt_of_le hq (by decide)) (by decide)) d_C_difference_71 ?_
        rw [nI_clamp (Nat.lt_of_lt_of_le hq (by decide))]
        refine lv_i2l hx hb d_C_difference_72 rfl ?_
        refine lv_lmul hx hb d_C_difference_73 ?_
        refine lv_lstore (lv' := [(7, .long (((σ (10 + (σ 30 i).toNatClampNeg) q).toInt64) * ((σ 6 q).toInt64))), (5, .long ((absL (((σ (1000 + i) q).toInt64) - ((σ (10 + (σ 30 i).toNatClampNeg) q).toInt64))) * 1000)), (4, .int (σ (10 + (σ 30 i).toNatClampNeg) q)), (3, .int (σ (1000 + i) q)), (0, .ref (ad 0)), (1, .ref (ad (200 + i))), (2, .int (nI q))]) hx hb d_C_difference_74 hl (by decide) rfl (fun ls hl => ?_)
        refine lv_lload hx hb d_C_difference_76 (lv_at hl 1 rfl) ?_
        refine lv_lload hx hb d_C_difference_78 (lv_at hl 0 rfl) ?_
        refine W.lcmp hx hb d_C_difference_80 ?_
        refine lv_if_gt (tgt := 86) hx hb d_C_difference_81 (by decide) (fun c_4 => ?_) (fun c_4 => ?_)
        · refine lv_lload hx hb d_C_difference_86 (lv_at hl 1 rfl) ?_
          refine lv_ldc2 (v := 2) hx hb hown (hG _ kw_182) d_C_difference_88 ?_
          refine lv_lload hx hb d_C_difference_91 (lv_at hl 0 rfl) ?_
          refine lv_lmul hx hb d_C_difference_93 ?_
          refine W.lcmp hx hb d_C_difference_94 ?_
          refine lv_if_le (tgt := 102) hx hb d_C_difference_95 (by decide) (fun c_5 => ?_) (fun c_5 => ?_)
          · refine lv_iconst (v := 1) hx hb d_C_difference_102 (by decide) ?_
            exact W.iret (v := 1) hx hb hr (fun t ht hW => ⟨1, rfl, (by unfold dfS diffS; rw [if_neg (fun h => h.elim c_1 c_2), hA, if_pos (lcmp_gt.mp c_4), if_neg (lcmp_le.mp c_5)]), ht⟩) (fun q h => nomatch h) d_C_difference_103
          · refine lv_iconst (v := 2) hx hb d_C_difference_98 (by decide) ?_
            refine lv_goto (tgt := 103) hx hb d_C_difference_99 (by decide) ?_
            exact W.iret (v := 2) hx hb hr (fun t ht hW => ⟨2, rfl, (by unfold dfS diffS; rw [if_neg (fun h => h.elim c_1 c_2), hA, if_pos (lcmp_gt.mp c_4), if_pos (Classical.not_not.mp (fun h => c_5 (lcmp_le.mpr h)))]), ht⟩) (fun q h => nomatch h) d_C_difference_103
        · refine lv_iconst (v := 0) hx hb d_C_difference_84 (by decide) ?_
          exact W.iret (v := 0) hx hb hr (fun t ht hW => ⟨0, rfl, (by unfold dfS diffS; rw [if_neg (fun h => h.elim c_1 c_2), hA, if_neg (fun h => c_4 (lcmp_gt.mpr h))]), ht⟩) (fun q h => nomatch h) d_C_difference_85
      · have hA : (if σ (10 + (σ 30 i).toNatClampNeg) q < σ (1000 + i) q then σ 5 q else σ 6 q) = σ 5 q := if_pos (by rw [i32_lt]; rw [i32_le] at c_3; omega)
        refine lv_aload_n hx hb d_C_difference_57 rfl (lv_at hl 3 rfl) ?_
        refine rl_get (r := 0) (ci := 1) (v := .ref (ad 10)) (C := R_C) (T := F_C) (N := 10) hx hb hG in_C hown hK hP (RC_f (by decide)) gC_0 rfl 7 (by decide) kw_66 (fun _ h9 => h9) rfl d_C_difference_58 ?_
        refine lv_iload_n hx hb d_C_difference_61 rfl (lv_at hl 5 rfl) ?_
        refine rl_iald (r := 10) (i := nI q) hx hb hK hP (RC_f (by decide)) 0 gC_10 rfl (vp_in_nI (Nat.lt_of_lt_of_le hq (by decide)) (by decide)) d_C_difference_62 ?_
        rw [nI_clamp (Nat.lt_of_lt_of_le hq (by decide))]
        refine lv_goto (tgt := 72) hx hb d_C_difference_63 (by decide) ?_
        refine lv_i2l hx hb d_C_difference_72 rfl ?_
        refine lv_lmul hx hb d_C_difference_73 ?_
        refine lv_lstore (lv' := [(7, .long (((σ (10 + (σ 30 i).toNatClampNeg) q).toInt64) * ((σ 5 q).toInt64))), (5, .long ((absL (((σ (1000 + i) q).toInt64) - ((σ (10 + (σ 30 i).toNatClampNeg) q).toInt64))) * 1000)), (4, .int (σ (10 + (σ 30 i).toNatClampNeg) q)), (3, .int (σ (1000 + i) q)), (0, .ref (ad 0)), (1, .ref (ad (200 + i))), (2, .int (nI q))]) hx hb d_C_difference_74 hl (by decide) rfl (fun ls hl => ?_)
        refine lv_lload hx hb d_C_difference_76 (lv_at hl 1 rfl) ?_
        refine lv_lload hx hb d_C_difference_78 (lv_at hl 0 rfl) ?_
        refine W.lcmp hx hb d_C_difference_80 ?_
        refine lv_if_gt (tgt := 86) hx hb d_C_difference_81 (by decide) (fun c_6 => ?_) (fun c_6 => ?_)
        · refine lv_lload hx hb d_C_difference_86 (lv_at hl 1 rfl) ?_
          refine lv_ldc2 (v := 2) hx hb hown (hG _ kw_182) d_C_difference_88 ?_
          refine lv_lload hx hb d_C_difference_91 (lv_at hl 0 rfl) ?_
          refine lv_lmul hx hb d_C_difference_93 ?_
          refine W.lcmp hx hb d_C_difference_94 ?_
          refine lv_if_le (tgt := 102) hx hb d_C_difference_95 (by decide) (fun c_7 => ?_) (fun c_7 => ?_)
          · refine lv_iconst (v := 1) hx hb d_C_difference_102 (by decide) ?_
            exact W.iret (v := 1) hx hb hr (fun t ht hW => ⟨1, rfl, (by unfold dfS diffS; rw [if_neg (fun h => h.elim c_1 c_2), hA, if_pos (lcmp_gt.mp c_6), if_neg (lcmp_le.mp c_7)]), ht⟩) (fun q h => nomatch h) d_C_difference_103
          · refine lv_iconst (v := 2) hx hb d_C_difference_98 (by decide) ?_
            refine lv_goto (tgt := 103) hx hb d_C_difference_99 (by decide) ?_
            exact W.iret (v := 2) hx hb hr (fun t ht hW => ⟨2, rfl, (by unfold dfS diffS; rw [if_neg (fun h => h.elim c_1 c_2), hA, if_pos (lcmp_gt.mp c_6), if_pos (Classical.not_not.mp (fun h => c_7 (lcmp_le.mpr h)))]), ht⟩) (fun q h => nomatch h) d_C_difference_103
        · refine lv_iconst (v := 0) hx hb d_C_difference_84 (by decide) ?_
          exact W.iret (v := 0) hx hb hr (fun t ht hW => ⟨0, rfl, (by unfold dfS diffS; rw [if_neg (fun h => h.elim c_1 c_2), hA, if_neg (fun h => c_6 (lcmp_gt.mpr h))]), ht⟩) (fun q h => nomatch h) d_C_difference_85
    · refine lv_iconst (v := 0) hx hb d_C_difference_31 (by decide) ?_
      exact W.iret (v := 0) hx hb hr (fun t ht hW => ⟨0, rfl, (if_pos (by first | exact Or.inl c_2 | exact Or.inr c_2)).symm, ht⟩) (fun q h => nomatch h) d_C_difference_32
