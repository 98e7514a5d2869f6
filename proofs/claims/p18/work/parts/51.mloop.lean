def slM (τ : Nat → Nat → Int32) (p : Int32) : Nat → Int32
  | 0 => -1
  | k + 1 => if τ 20 k = p then nI k else slM τ p k
def smM (τ : Nat → Nat → Int32) (p : Int32) : Nat → Int32
  | 0 => 0
  | k + 1 => smM τ p k + (if τ 19 k = p then 1 else 0)
def grM (τ : Nat → Nat → Int32) (p b : Int32) : Nat → Int32
  | 0 => 0
  | k + 1 => grM τ p b k + (if dS τ (k / 4) = p ∧ dfM τ (k / 4) (k % 4) = 2 ∧ (¬ b = 0 ∨ τ 22 k = 0) then 1 else 0)
def coM (τ : Nat → Nat → Int32) (nm : Nat) (p : Int32) : Nat → Int32
  | 0 => 0
  | k + 1 => coM τ nm p k + (if τ 5 k = p then 100 * (τ 6 k + 1) * τ 14 k + 50 * smM τ (nI k) nm else 0)
theorem slM_t {τ : Nat → Nat → Int32} {p : Int32} {k : Nat} (h : τ 20 k = p) : slM τ p (k + 1) = nI k := if_pos h
theorem slM_f {τ : Nat → Nat → Int32} {p : Int32} {k : Nat} (h : ¬ τ 20 k = p) : slM τ p (k + 1) = slM τ p k := if_neg h
theorem smM_t {τ : Nat → Nat → Int32} {p : Int32} {k : Nat} (h : τ 19 k = p) : smM τ p (k + 1) = smM τ p k + 1 := by
  show smM τ p k + (if τ 19 k = p then 1 else 0) = _
  rw [if_pos h]
theorem smM_f {τ : Nat → Nat → Int32} {p : Int32} {k : Nat} (h : ¬ τ 19 k = p) : smM τ p (k + 1) = smM τ p k + 0 := by
  show smM τ p k + (if τ 19 k = p then 1 else 0) = _
  rw [if_neg h]
theorem grM_t {τ : Nat → Nat → Int32} {p b : Int32} {k : Nat} (h : dS τ (k / 4) = p ∧ dfM τ (k / 4) (k % 4) = 2 ∧ (¬ b = 0 ∨ τ 22 k = 0)) : grM τ p b (k + 1) = grM τ p b k + 1 := by
  show grM τ p b k + (if dS τ (k / 4) = p ∧ dfM τ (k / 4) (k % 4) = 2 ∧ (¬ b = 0 ∨ τ 22 k = 0) then 1 else 0) = _
  rw [if_pos h]
theorem grM_f {τ : Nat → Nat → Int32} {p b : Int32} {k : Nat} (h : ¬ (dS τ (k / 4) = p ∧ dfM τ (k / 4) (k % 4) = 2 ∧ (¬ b = 0 ∨ τ 22 k = 0))) : grM τ p b (k + 1) = grM τ p b k + 0 := by
  show grM τ p b k + (if dS τ (k / 4) = p ∧ dfM τ (k / 4) (k % 4) = 2 ∧ (¬ b = 0 ∨ τ 22 k = 0) then 1 else 0) = _
  rw [if_neg h]
theorem coM_t {τ : Nat → Nat → Int32} {nm k : Nat} {p : Int32} (h : τ 5 k = p) : coM τ nm p (k + 1) = coM τ nm p k + (100 * (τ 6 k + 1) * τ 14 k + 50 * smM τ (nI k) nm) := by
  show coM τ nm p k + (if τ 5 k = p then _ else 0) = _
  rw [if_pos h]
theorem coM_f {τ : Nat → Nat → Int32} {nm k : Nat} {p : Int32} (h : ¬ τ 5 k = p) : coM τ nm p (k + 1) = coM τ nm p k + 0 := by
  show coM τ nm p k + (if τ 5 k = p then _ else 0) = _
  rw [if_neg h]
set_option maxHeartbeats 4000000 in
set_option maxRecDepth 100000 in
theorem c_M_sealed (l : Launch) (D : va_G) (cs : Nat → ClassId) (ad : Nat → Nat) (τ : Nat → Nat → Int32) (n nm : Nat) (hM : Mv τ n nm) (p0 : Int32) : Met l y_M_sealed (Cond.code y_M_sealed b_M_sealed 4 (some .int) :: GW) ({ frames := 0, cells := 0, slots := 0, locals := 0 }) (va_Pc [.ref (ad 0), .int p0] (rd_B D (tys_ cs) (wM cs ad τ))) (vp_Si (fun r => r = slM τ p0 nm)) 0 0 (fun _ => False) := by
  refine Met.ofW (cc := b_M_sealed) (maxL := 4) (ret := (some .int)) (by decide) rfl ?_
  intro p e s m args below meth c s₁ B hml hv
  obtain ⟨rfl, hP, hK⟩ := hv
  have hx := B.exec
  have hb := B.bytes
  have hr := B.returns
  have hts := atoms_spec (ws := Cond.code y_M_sealed b_M_sealed 4 (some .int) :: GW) B.pre
  have hG : ∀ w ∈ GW, w.before _ s = true := fun w h => hts w (List.mem_cons_of_mem _ h)
  have hown : s.vm.findClass R_M = some m.cls := findClass_of_methodNamed B.named
  have hlocks := B.notSynchronized
  have hn30 : n ≤ 30 := hM.2.2.1
  have hm40 : nm ≤ 40 := hM.2.2.2.1
  have hl := lv_entry ([.ref (ad 0), .int p0]) (n := 4) (Nat.le_of_ble_eq_true rfl)
  rw [lg_entry_eq]
  generalize (lg_sl ([.ref (ad 0), .int p0]) ++ List.replicate (4 - (lg_sl ([.ref (ad 0), .int p0])).length) Slot.unset).toArray = ls at hl ⊢
  have hl : lv_has ls 4 [(0, .ref (ad 0)), (1, .int p0)] := hl
  refine lv_iconst (v := (-1)) hx hb d_M_sealed_0 (by decide) ?_
  refine lv_istore_n (lv' := [(2, .int ((-1))), (0, .ref (ad 0)), (1, .int p0)]) hx hb d_M_sealed_1 rfl hl (by decide) rfl (fun ls hl => ?_)
  refine lv_iconst (v := 0) hx hb d_M_sealed_2 (by decide) ?_
  refine lv_istore_n (lv' := [(3, .int 0), (2, .int ((-1))), (0, .ref (ad 0)), (1, .int p0)]) hx hb d_M_sealed_3 rfl hl (by decide) rfl (fun ls hl => ?_)
  replace hl : ∃ z : Nat, lv_has ls 4 [(3, .int (nI z)), (2, .int (slM τ p0 z)), (0, .ref (ad 0)), (1, .int p0)] ∧ z ≤ nm ∧ (0 ≤ z) := ⟨0, lv_sub hl [0, 1, 2, 3] rfl, Nat.zero_le _, Nat.zero_le _⟩
  obtain ⟨z, hl, hle_z, hinv_z⟩ := hl
  obtain ⟨k_z, hk_z⟩ : ∃ k, nm - z = k := ⟨_, rfl⟩
  induction k_z using Nat.strongRecOn generalizing z ls with
  | _ k_z ih_z =>
    refine lv_iload_n hx hb d_M_sealed_4 rfl (lv_at hl 0 rfl) ?_
    refine lv_aload_n hx hb d_M_sealed_5 rfl (lv_at hl 2 rfl) ?_
    refine rl_get (r := 0) (ci := 4) (v := .int (nI nm)) (C := R_M) (T := F_M) (N := 25) hx hb hG in_M hown hK hP (by decide) gM_0 rfl 2 (by decide) kw_583 (fun _ h9 => h9) (show _ = some (Value.int (nI nm)) by rw [← hM.2.1]; rfl) d_M_sealed_6 ?_
    refine lv_icmp_ge (tgt := 34) hx hb d_M_sealed_9 (by decide) (fun c_1 => ?_) (fun c_1 => ?_)
    · have hz_z : z = nm := nI_exit hle_z c_1 (by omega)
      subst hz_z
      refine lv_iload_n hx hb d_M_sealed_34 rfl (lv_at hl 1 rfl) ?_
      exact W.iret (v := slM τ p0 z) hx hb hr (fun t ht hW => ⟨_, rfl, rfl, ht⟩) (fun q h => nomatch h) d_M_sealed_35
    · have hlt_z : z < nm := nI_go hle_z c_1 (by omega)
      refine lv_aload_n hx hb d_M_sealed_12 rfl (lv_at hl 2 rfl) ?_
      refine rl_get (r := 0) (ci := 4) (v := .ref (ad 20)) (C := R_M) (T := F_M) (N := 25) hx hb hG in_M hown hK hP (by decide) gM_0 rfl 20 (by decide) kw_601 (fun _ h9 => h9) rfl d_M_sealed_13 ?_
      refine lv_iload_n hx hb d_M_sealed_16 rfl (lv_at hl 0 rfl) ?_
      refine rl_iald (r := 20) (i := nI z) (n := 40) hx hb hK hP (by decide) 0 rfl rfl (vp_in_nI (by omega) (by decide)) d_M_sealed_17 ?_
      rw [nI_clamp (by omega)]
      refine lv_iload_n hx hb d_M_sealed_18 rfl (lv_at hl 3 rfl) ?_
      refine lv_icmp_ne (tgt := 26) hx hb d_M_sealed_19 (by decide) (fun c_2 => ?_) (fun c_2 => ?_)
      · refine lv_iload_n hx hb d_M_sealed_26 rfl (lv_at hl 1 rfl) ?_
        refine lv_istore_n (lv' := [(2, .int (slM τ p0 z)), (3, .int (nI z)), (0, .ref (ad 0)), (1, .int p0)]) hx hb d_M_sealed_27 rfl hl (by decide) rfl (fun ls hl => ?_)
        refine lv_iinc (v := nI (z + 1)) (lv' := [(3, .int (nI (z + 1))), (2, .int (slM τ p0 z)), (0, .ref (ad 0)), (1, .int p0)]) hx hb d_M_sealed_28 hl (k := 1) rfl (by exact nI_1 _) (by decide) rfl (fun ls hl => ?_)
        refine lv_goto (tgt := 4) hx hb d_M_sealed_31 (by decide) ?_
        exact ih_z (nm - (z + 1)) (by omega) ls (z + 1) (by rw [slM_f c_2]; exact (lv_sub hl [0, 1, 2, 3] rfl)) hlt_z (Nat.zero_le _) rfl
      · refine lv_iload_n hx hb d_M_sealed_22 rfl (lv_at hl 0 rfl) ?_
        refine lv_goto (tgt := 27) hx hb d_M_sealed_23 (by decide) ?_
        refine lv_istore_n (lv' := [(2, .int (nI z)), (3, .int (nI z)), (0, .ref (ad 0)), (1, .int p0)]) hx hb d_M_sealed_27 rfl hl (by decide) rfl (fun ls hl => ?_)
        refine lv_iinc (v := nI (z + 1)) (lv' := [(3, .int (nI (z + 1))), (2, .int (nI z)), (0, .ref (ad 0)), (1, .int p0)]) hx hb d_M_sealed_28 hl (k := 1) rfl (by exact nI_1 _) (by decide) rfl (fun ls hl => ?_)
        refine lv_goto (tgt := 4) hx hb d_M_sealed_31 (by decide) ?_
        exact ih_z (nm - (z + 1)) (by omega) ls (z + 1) (by rw [slM_t c_2]; exact (lv_sub hl [0, 1, 2, 3] rfl)) hlt_z (Nat.zero_le _) rfl
set_option maxHeartbeats 4000000 in
set_option maxRecDepth 100000 in
theorem c_M_samplesOf (l : Launch) (D : va_G) (cs : Nat → ClassId) (ad : Nat → Nat) (τ : Nat → Nat → Int32) (n nm : Nat) (hM : Mv τ n nm) (p0 : Int32) : Met l y_M_samplesOf (Cond.code y_M_samplesOf b_M_samplesOf 4 (some .int) :: GW) ({ frames := 0, cells := 0, slots := 0, locals := 0 }) (va_Pc [.ref (ad 0), .int p0] (rd_B D (tys_ cs) (wM cs ad τ))) (vp_Si (fun r => r = smM τ p0 nm)) 0 0 (fun _ => False) := by
  refine Met.ofW (cc := b_M_samplesOf) (maxL := 4) (ret := (some .int)) (by decide) rfl ?_
  intro p e s m args below meth c s₁ B hml hv
  obtain ⟨rfl, hP, hK⟩ := hv
  have hx := B.exec
  have hb := B.bytes
  have hr := B.returns
  have hts := atoms_spec (ws := Cond.code y_M_samplesOf b_M_samplesOf 4 (some .int) :: GW) B.pre
  have hG : ∀ w ∈ GW, w.before _ s = true := fun w h => hts w (List.mem_cons_of_mem _ h)
  have hown : s.vm.findClass R_M = some m.cls := findClass_of_methodNamed B.named
  have hlocks := B.notSynchronized
  have hn30 : n ≤ 30 := hM.2.2.1
  have hm40 : nm ≤ 40 := hM.2.2.2.1
  have hl := lv_entry ([.ref (ad 0), .int p0]) (n := 4) (Nat.le_of_ble_eq_true rfl)
  rw [lg_entry_eq]
  generalize (lg_sl ([.ref (ad 0), .int p0]) ++ List.replicate (4 - (lg_sl ([.ref (ad 0), .int p0])).length) Slot.unset).toArray = ls at hl ⊢
  have hl : lv_has ls 4 [(0, .ref (ad 0)), (1, .int p0)] := hl
  refine lv_iconst (v := 0) hx hb d_M_samplesOf_0 (by decide) ?_
  refine lv_istore_n (lv' := [(2, .int 0), (0, .ref (ad 0)), (1, .int p0)]) hx hb d_M_samplesOf_1 rfl hl (by decide) rfl (fun ls hl => ?_)
  refine lv_iconst (v := 0) hx hb d_M_samplesOf_2 (by decide) ?_
  refine lv_istore_n (lv' := [(3, .int 0), (2, .int 0), (0, .ref (ad 0)), (1, .int p0)]) hx hb d_M_samplesOf_3 rfl hl (by decide) rfl (fun ls hl => ?_)
  replace hl : ∃ z : Nat, lv_has ls 4 [(3, .int (nI z)), (2, .int (smM τ p0 z)), (0, .ref (ad 0)), (1, .int p0)] ∧ z ≤ nm ∧ (0 ≤ z) := ⟨0, lv_sub hl [0, 1, 2, 3] rfl, Nat.zero_le _, Nat.zero_le _⟩
  obtain ⟨z, hl, hle_z, hinv_z⟩ := hl
  obtain ⟨k_z, hk_z⟩ : ∃ k, nm - z = k := ⟨_, rfl⟩
  induction k_z using Nat.strongRecOn generalizing z ls with
  | _ k_z ih_z =>
    refine lv_iload_n hx hb d_M_samplesOf_4 rfl (lv_at hl 0 rfl) ?_
    refine lv_aload_n hx hb d_M_samplesOf_5 rfl (lv_at hl 2 rfl) ?_
    refine rl_get (r := 0) (ci := 4) (v := .int (nI nm)) (C := R_M) (T := F_M) (N := 25) hx hb hG in_M hown hK hP (by decide) gM_0 rfl 2 (by decide) kw_583 (fun _ h9 => h9) (show _ = some (Value.int (nI nm)) by rw [← hM.2.1]; rfl) d_M_samplesOf_6 ?_
    refine lv_icmp_ge (tgt := 36) hx hb d_M_samplesOf_9 (by decide) (fun c_1 => ?_) (fun c_1 => ?_)
    · have hz_z : z = nm := nI_exit hle_z c_1 (by omega)
      subst hz_z
      refine lv_iload_n hx hb d_M_samplesOf_36 rfl (lv_at hl 1 rfl) ?_
      exact W.iret (v := smM τ p0 z) hx hb hr (fun t ht hW => ⟨_, rfl, rfl, ht⟩) (fun q h => nomatch h) d_M_samplesOf_37
    · have hlt_z : z < nm := nI_go hle_z c_1 (by omega)
      refine lv_iload_n hx hb d_M_samplesOf_12 rfl (lv_at hl 1 rfl) ?_
      refine lv_aload_n hx hb d_M_samplesOf_13 rfl (lv_at hl 2 rfl) ?_
      refine rl_get (r := 0) (ci := 4) (v := .ref (ad 19)) (C := R_M) (T := F_M) (N := 25) hx hb hG in_M hown hK hP (by decide) gM_0 rfl 19 (by decide) kw_600 (fun _ h9 => h9) rfl d_M_samplesOf_14 ?_
      refine lv_iload_n hx hb d_M_samplesOf_17 rfl (lv_at hl 0 rfl) ?_
      refine rl_iald (r := 19) (i := nI z) (n := 40) hx hb hK hP (by decide) 0 rfl rfl (vp_in_nI (by omega) (by decide)) d_M_samplesOf_18 ?_
      rw [nI_clamp (by omega)]
      refine lv_iload_n hx hb d_M_samplesOf_19 rfl (lv_at hl 3 rfl) ?_
      refine lv_icmp_ne (tgt := 27) hx hb d_M_samplesOf_20 (by decide) (fun c_2 => ?_) (fun c_2 => ?_)
      · refine lv_iconst (v := 0) hx hb d_M_samplesOf_27 (by decide) ?_
        refine lv_iadd hx hb d_M_samplesOf_28 ?_
        refine lv_istore_n (lv' := [(2, .int ((smM τ p0 z) + 0)), (3, .int (nI z)), (0, .ref (ad 0)), (1, .int p0)]) hx hb d_M_samplesOf_29 rfl hl (by decide) rfl (fun ls hl => ?_)
        refine lv_iinc (v := nI (z + 1)) (lv' := [(3, .int (nI (z + 1))), (2, .int ((smM τ p0 z) + 0)), (0, .ref (ad 0)), (1, .int p0)]) hx hb d_M_samplesOf_30 hl (k := 1) rfl (by exact nI_1 _) (by decide) rfl (fun ls hl => ?_)
        refine lv_goto (tgt := 4) hx hb d_M_samplesOf_33 (by decide) ?_
        exact ih_z (nm - (z + 1)) (by omega) ls (z + 1) (by rw [smM_f c_2]; exact (lv_sub hl [0, 1, 2, 3] rfl)) hlt_z (Nat.zero_le _) rfl
      · refine lv_iconst (v := 1) hx hb d_M_samplesOf_23 (by decide) ?_
        refine lv_goto (tgt := 28) hx hb d_M_samplesOf_24 (by decide) ?_
        refine lv_iadd hx hb d_M_samplesOf_28 ?_
        refine lv_istore_n (lv' := [(2, .int ((smM τ p0 z) + 1)), (3, .int (nI z)), (0, .ref (ad 0)), (1, .int p0)]) hx hb d_M_samplesOf_29 rfl hl (by decide) rfl (fun ls hl => ?_)
        refine lv_iinc (v := nI (z + 1)) (lv' := [(3, .int (nI (z + 1))), (2, .int ((smM τ p0 z) + 1)), (0, .ref (ad 0)), (1, .int p0)]) hx hb d_M_samplesOf_30 hl (k := 1) rfl (by exact nI_1 _) (by decide) rfl (fun ls hl => ?_)
        refine lv_goto (tgt := 4) hx hb d_M_samplesOf_33 (by decide) ?_
        exact ih_z (nm - (z + 1)) (by omega) ls (z + 1) (by rw [smM_t c_2]; exact (lv_sub hl [0, 1, 2, 3] rfl)) hlt_z (Nat.zero_le _) rfl
set_option maxHeartbeats 4000000 in
set_option maxRecDepth 100000 in
theorem c_M_great (l : Launch) (D : va_G) (cs : Nat → ClassId) (ad : Nat → Nat) (τ : Nat → Nat → Int32) (n nm : Nat) (hM : Mv τ n nm) (p0 p1 : Int32) : Met l y_M_great (Cond.code y_M_great b_M_great 5 (some .int) :: GW) ({ frames := 1, cells := 0, slots := 0, locals := 32 }) (va_Pc [.ref (ad 0), .int p0, .int p1] (rd_B D (tys_ cs) (wM cs ad τ))) (vp_Si (fun r => r = grM τ p0 p1 (4 * nm))) 0 0 (fun _ => False) := by
  refine Met.ofW (cc := b_M_great) (maxL := 5) (ret := (some .int)) (by decide) rfl ?_
  intro p e s m args below meth c s₁ B hml hv
  obtain ⟨rfl, hP, hK⟩ := hv
  have hx := B.exec
  have hb := B.bytes
  have hr := B.returns
  have hts := atoms_spec (ws := Cond.code y_M_great b_M_great 5 (some .int) :: GW) B.pre
  have hG : ∀ w ∈ GW, w.before _ s = true := fun w h => hts w (List.mem_cons_of_mem _ h)
  have hown : s.vm.findClass R_M = some m.cls := findClass_of_methodNamed B.named
  have hlocks := B.notSynchronized
  have hn30 : n ≤ 30 := hM.2.2.1
  have hm40 : nm ≤ 40 := hM.2.2.2.1
  have hl := lv_entry ([.ref (ad 0), .int p0, .int p1]) (n := 5) (Nat.le_of_ble_eq_true rfl)
  rw [lg_entry_eq]
  generalize (lg_sl ([.ref (ad 0), .int p0, .int p1]) ++ List.replicate (5 - (lg_sl ([.ref (ad 0), .int p0, .int p1])).length) Slot.unset).toArray = ls at hl ⊢
  have hl : lv_has ls 5 [(0, .ref (ad 0)), (1, .int p0), (2, .int p1)] := hl
  refine lv_iconst (v := 0) hx hb d_M_great_0 (by decide) ?_
  refine lv_istore_n (lv' := [(3, .int 0), (0, .ref (ad 0)), (1, .int p0), (2, .int p1)]) hx hb d_M_great_1 rfl hl (by decide) rfl (fun ls hl => ?_)
  refine lv_iconst (v := 0) hx hb d_M_great_2 (by decide) ?_
  refine lv_istore (lv' := [(4, .int 0), (3, .int 0), (0, .ref (ad 0)), (1, .int p0), (2, .int p1)]) hx hb d_M_great_3 hl (by decide) rfl (fun ls hl => ?_)
  replace hl : ∃ z : Nat, lv_has ls 5 [(4, .int (nI z)), (3, .int (grM τ p0 p1 z)), (0, .ref (ad 0)), (1, .int p0), (2, .int p1)] ∧ z ≤ (4 * nm) ∧ (0 ≤ z) := ⟨0, lv_sub hl [0, 1, 2, 3, 4] rfl, Nat.zero_le _, Nat.zero_le _⟩
  obtain ⟨z, hl, hle_z, hinv_z⟩ := hl
  obtain ⟨k_z, hk_z⟩ : ∃ k, (4 * nm) - z = k := ⟨_, rfl⟩
  induction k_z using Nat.strongRecOn generalizing z ls with
  | _ k_z ih_z =>
    refine lv_iload hx hb d_M_great_5 (lv_at hl 0 rfl) ?_
    refine lv_iconst (v := 4) hx hb d_M_great_7 (by decide) ?_
    refine lv_aload_n hx hb d_M_great_8 rfl (lv_at hl 2 rfl) ?_
    refine rl_get (r := 0) (ci := 4) (v := .int (nI nm)) (C := R_M) (T := F_M) (N := 25) hx hb hG in_M hown hK hP (by decide) gM_0 rfl 2 (by decide) kw_583 (fun _ h9 => h9) (show _ = some (Value.int (nI nm)) by rw [← hM.2.1]; rfl) d_M_great_9 ?_
    refine lv_imul hx hb d_M_great_12 ?_
    rw [ix40]
    refine lv_icmp_ge (tgt := 72) hx hb d_M_great_13 (by decide) (fun c_1 => ?_) (fun c_1 => ?_)
    · have hz_z : z = (4 * nm) := nI_exit hle_z c_1 (by omega)
      subst hz_z
      refine lv_iload_n hx hb d_M_great_72 rfl (lv_at hl 1 rfl) ?_
      exact W.iret (v := grM τ p0 p1 ((4 * nm))) hx hb hr (fun t ht hW => ⟨_, rfl, rfl, ht⟩) (fun q h => nomatch h) d_M_great_73
    · have hlt_z : z < (4 * nm) := nI_go hle_z c_1 (by omega)
      refine lv_iload_n hx hb d_M_great_16 rfl (lv_at hl 1 rfl) ?_
      refine lv_aload_n hx hb d_M_great_17 rfl (lv_at hl 2 rfl) ?_
      refine lv_iload hx hb d_M_great_18 (lv_at hl 0 rfl) ?_
      refine lv_iconst (v := 4) hx hb d_M_great_20 (by decide) ?_
      refine lv_idiv hx hb d_M_great_21 (by decide) ?_
      rw [id4 z (by omega)]
      refine lv_iload_n hx hb d_M_great_22 rfl (lv_at hl 3 rfl) ?_
      refine vp_callSi (W.runV (As := [.int (nI (z / 4)), .int p0]) (rest := [.int (grM τ p0 p1 z)]) ⟨hx, hb, hml, hown, hts⟩ (c_M_isOf l D cs ad τ n nm hM (z / 4) (by omega) p0) (cwV 2 hts (gw_V kw_750 kw_752 ks_1_8 kw_6 kw_753) rfl rfl rfl (by decide +kernel) ⟨Nat.le_of_ble_eq_true rfl, Nat.le_of_ble_eq_true rfl⟩) (rd_V hP hK (rl_recv hK hP (by decide) gM_0 rfl)) rfl rfl hl.1 rfl (lv_room (Nat.le_of_ble_eq_true rfl)) d_M_great_23 ⟨Nat.zero_le _, Nat.zero_le _⟩) (fun r_2 h_3 => ?_)
      subst h_3
      refine lv_if_eq (tgt := 63) hx hb d_M_great_26 (by decide) (fun c_4 => ?_) (fun c_4 => ?_)
      · refine lv_iconst (v := 0) hx hb d_M_great_63 (by decide) ?_
        refine lv_iadd hx hb d_M_great_64 ?_
        refine lv_istore_n (lv' := [(3, .int ((grM τ p0 p1 z) + 0)), (4, .int (nI z)), (0, .ref (ad 0)), (1, .int p0), (2, .int p1)]) hx hb d_M_great_65 rfl hl (by decide) rfl (fun ls hl => ?_)
        refine lv_iinc (v := nI (z + 1)) (lv' := [(4, .int (nI (z + 1))), (3, .int ((grM τ p0 p1 z) + 0)), (0, .ref (ad 0)), (1, .int p0), (2, .int p1)]) hx hb d_M_great_66 hl (k := 1) rfl (by exact nI_1 _) (by decide) rfl (fun ls hl => ?_)
        refine lv_goto (tgt := 5) hx hb d_M_great_69 (by decide) ?_
        exact ih_z ((4 * nm) - (z + 1)) (by omega) ls (z + 1) (by rw [grM_f (fun h9 => (b2i_eq0.mp c_4) h9.1)]; exact (lv_sub hl [0, 1, 2, 3, 4] rfl)) hlt_z (Nat.zero_le _) rfl
      · refine lv_aload_n hx hb d_M_great_29 rfl (lv_at hl 2 rfl) ?_
        refine lv_iload hx hb d_M_great_30 (lv_at hl 0 rfl) ?_
        refine lv_iconst (v := 4) hx hb d_M_great_32 (by decide) ?_
        refine lv_idiv hx hb d_M_great_33 (by decide) ?_
        rw [id4 z (by omega)]
        refine lv_iload hx hb d_M_great_34 (lv_at hl 0 rfl) ?_
        refine lv_iconst (v := 4) hx hb d_M_great_36 (by decide) ?_
        refine lv_irem hx hb d_M_great_37 (by decide) ?_
        rw [im4 z (by omega)]
        refine vp_callSi (W.runV (As := [.int (nI (z / 4)), .int (nI (z % 4))]) (rest := [.int (grM τ p0 p1 z)]) ⟨hx, hb, hml, hown, hts⟩ (c_M_differs l D cs ad τ n nm hM (z / 4) (z % 4) (by omega) (by omega)) (cwV 2 hts (gw_V kw_725 kw_727 ks_1_6 kw_6 kw_728) rfl rfl rfl (by decide +kernel) ⟨Nat.le_of_ble_eq_true rfl, Nat.le_of_ble_eq_true rfl⟩) (rd_V hP hK (rl_recv hK hP (by decide) gM_0 rfl)) rfl rfl hl.1 rfl (lv_room (Nat.le_of_ble_eq_true rfl)) d_M_great_38 ⟨Nat.zero_le _, Nat.zero_le _⟩) (fun r_5 h_6 => ?_)
        subst h_6
        refine lv_iconst (v := 2) hx hb d_M_great_41 (by decide) ?_
        refine lv_icmp_ne (tgt := 63) hx hb d_M_great_42 (by decide) (fun c_7 => ?_) (fun c_7 => ?_)
        · refine lv_iconst (v := 0) hx hb d_M_great_63 (by decide) ?_
          refine lv_iadd hx hb d_M_great_64 ?_
          refine lv_istore_n (lv' := [(3, .int ((grM τ p0 p1 z) + 0)), (4, .int (nI z)), (0, .ref (ad 0)), (1, .int p0), (2, .int p1)]) hx hb d_M_great_65 rfl hl (by decide) rfl (fun ls hl => ?_)
          refine lv_iinc (v := nI (z + 1)) (lv' := [(4, .int (nI (z + 1))), (3, .int ((grM τ p0 p1 z) + 0)), (0, .ref (ad 0)), (1, .int p0), (2, .int p1)]) hx hb d_M_great_66 hl (k := 1) rfl (by exact nI_1 _) (by decide) rfl (fun ls hl => ?_)
          refine lv_goto (tgt := 5) hx hb d_M_great_69 (by decide) ?_
          exact ih_z ((4 * nm) - (z + 1)) (by omega) ls (z + 1) (by rw [grM_f (fun h9 => c_7 h9.2.1)]; exact (lv_sub hl [0, 1, 2, 3, 4] rfl)) hlt_z (Nat.zero_le _) rfl
        · refine lv_iload_n hx hb d_M_great_45 rfl (lv_at hl 4 rfl) ?_
          refine lv_if_ne (tgt := 59) hx hb d_M_great_46 (by decide) (fun c_8 => ?_) (fun c_8 => ?_)
          · refine lv_iconst (v := 1) hx hb d_M_great_59 (by decide) ?_
            refine lv_goto (tgt := 64) hx hb d_M_great_60 (by decide) ?_
            refine lv_iadd hx hb d_M_great_64 ?_
            refine lv_istore_n (lv' := [(3, .int ((grM τ p0 p1 z) + 1)), (4, .int (nI z)), (0, .ref (ad 0)), (1, .int p0), (2, .int p1)]) hx hb d_M_great_65 rfl hl (by decide) rfl (fun ls hl => ?_)
            refine lv_iinc (v := nI (z + 1)) (lv' := [(4, .int (nI (z + 1))), (3, .int ((grM τ p0 p1 z) + 1)), (0, .ref (ad 0)), (1, .int p0), (2, .int p1)]) hx hb d_M_great_66 hl (k := 1) rfl (by exact nI_1 _) (by decide) rfl (fun ls hl => ?_)
            refine lv_goto (tgt := 5) hx hb d_M_great_69 (by decide) ?_
            exact ih_z ((4 * nm) - (z + 1)) (by omega) ls (z + 1) (by rw [grM_t ⟨Classical.not_not.mp (fun h => c_4 (b2i_eq0.mpr h)), c_7, Or.inl c_8⟩]; exact (lv_sub hl [0, 1, 2, 3, 4] rfl)) hlt_z (Nat.zero_le _) rfl
          · refine lv_aload_n hx hb d_M_great_49 rfl (lv_at hl 2 rfl) ?_
            refine rl_get (r := 0) (ci := 4) (v := .ref (ad 22)) (C := R_M) (T := F_M) (N := 25) hx hb hG in_M hown hK hP (by decide) gM_0 rfl 22 (by decide) kw_603 (fun _ h9 => h9) rfl d_M_great_50 ?_
            refine lv_iload hx hb d_M_great_53 (lv_at hl 0 rfl) ?_
            refine rl_zald (r := 22) (i := nI z) (n := 160) hx hb hK hP (by decide) 1 rfl rfl (vp_in_nI (by omega) (by decide)) d_M_great_55 ?_
            rw [nI_clamp (by omega)]
            refine lv_if_ne (tgt := 63) hx hb d_M_great_56 (by decide) (fun c_9 => ?_) (fun c_9 => ?_)
            · refine lv_iconst (v := 0) hx hb d_M_great_63 (by decide) ?_
              refine lv_iadd hx hb d_M_great_64 ?_
              refine lv_istore_n (lv' := [(3, .int ((grM τ p0 p1 z) + 0)), (4, .int (nI z)), (0, .ref (ad 0)), (1, .int p0), (2, .int p1)]) hx hb d_M_great_65 rfl hl (by decide) rfl (fun ls hl => ?_)
              refine lv_iinc (v := nI (z + 1)) (lv' := [(4, .int (nI (z + 1))), (3, .int ((grM τ p0 p1 z) + 0)), (0, .ref (ad 0)), (1, .int p0), (2, .int p1)]) hx hb d_M_great_66 hl (k := 1) rfl (by exact nI_1 _) (by decide) rfl (fun ls hl => ?_)
              refine lv_goto (tgt := 5) hx hb d_M_great_69 (by decide) ?_
              exact ih_z ((4 * nm) - (z + 1)) (by omega) ls (z + 1) (by rw [grM_f (fun h9 => h9.2.2.elim (fun h8 => h8 c_8) (fun h8 => c_9 h8))]; exact (lv_sub hl [0, 1, 2, 3, 4] rfl)) hlt_z (Nat.zero_le _) rfl
            · refine lv_iconst (v := 1) hx hb d_M_great_59 (by decide) ?_
              refine lv_goto (tgt := 64) hx hb d_M_great_60 (by decide) ?_
              refine lv_iadd hx hb d_M_great_64 ?_
              refine lv_istore_n (lv' := [(3, .int ((grM τ p0 p1 z) + 1)), (4, .int (nI z)), (0, .ref (ad 0)), (1, .int p0), (2, .int p1)]) hx hb d_M_great_65 rfl hl (by decide) rfl (fun ls hl => ?_)
              refine lv_iinc (v := nI (z + 1)) (lv' := [(4, .int (nI (z + 1))), (3, .int ((grM τ p0 p1 z) + 1)), (0, .ref (ad 0)), (1, .int p0), (2, .int p1)]) hx hb d_M_great_66 hl (k := 1) rfl (by exact nI_1 _) (by decide) rfl (fun ls hl => ?_)
              refine lv_goto (tgt := 5) hx hb d_M_great_69 (by decide) ?_
              exact ih_z ((4 * nm) - (z + 1)) (by omega) ls (z + 1) (by rw [grM_t ⟨Classical.not_not.mp (fun h => c_4 (b2i_eq0.mpr h)), c_7, Or.inr c_9⟩]; exact (lv_sub hl [0, 1, 2, 3, 4] rfl)) hlt_z (Nat.zero_le _) rfl
set_option maxHeartbeats 4000000 in
set_option maxRecDepth 100000 in
theorem c_M_costsOf (l : Launch) (D : va_G) (cs : Nat → ClassId) (ad : Nat → Nat) (τ : Nat → Nat → Int32) (n nm : Nat) (hM : Mv τ n nm) (p0 : Int32) : Met l y_M_costsOf (Cond.code y_M_costsOf b_M_costsOf 4 (some .int) :: GW) ({ frames := 1, cells := 0, slots := 0, locals := 32 }) (va_Pc [.ref (ad 0), .int p0] (rd_B D (tys_ cs) (wM cs ad τ))) (vp_Si (fun r => r = coM τ nm p0 n)) 0 0 (fun _ => False) := by
  refine Met.ofW (cc := b_M_costsOf) (maxL := 4) (ret := (some .int)) (by decide) rfl ?_
  intro p e s m args below meth c s₁ B hml hv
  obtain ⟨rfl, hP, hK⟩ := hv
  have hx := B.exec
  have hb := B.bytes
  have hr := B.returns
  have hts := atoms_spec (ws := Cond.code y_M_costsOf b_M_costsOf 4 (some .int) :: GW) B.pre
  have hG : ∀ w ∈ GW, w.before _ s = true := fun w h => hts w (List.mem_cons_of_mem _ h)
  have hown : s.vm.findClass R_M = some m.cls := findClass_of_methodNamed B.named
  have hlocks := B.notSynchronized
  have hn30 : n ≤ 30 := hM.2.2.1
  have hm40 : nm ≤ 40 := hM.2.2.2.1
  have hl := lv_entry ([.ref (ad 0), .int p0]) (n := 4) (Nat.le_of_ble_eq_true rfl)
  rw [lg_entry_eq]
  generalize (lg_sl ([.ref (ad 0), .int p0]) ++ List.replicate (4 - (lg_sl ([.ref (ad 0), .int p0])).length) Slot.unset).toArray = ls at hl ⊢
  have hl : lv_has ls 4 [(0, .ref (ad 0)), (1, .int p0)] := hl
  refine lv_iconst (v := 0) hx hb d_M_costsOf_0 (by decide) ?_
  refine lv_istore_n (lv' := [(2, .int 0), (0, .ref (ad 0)), (1, .int p0)]) hx hb d_M_costsOf_1 rfl hl (by decide) rfl (fun ls hl => ?_)
  refine lv_iconst (v := 0) hx hb d_M_costsOf_2 (by decide) ?_
  refine lv_istore_n (lv' := [(3, .int 0), (2, .int 0), (0, .ref (ad 0)), (1, .int p0)]) hx hb d_M_costsOf_3 rfl hl (by decide) rfl (fun ls hl => ?_)
  replace hl : ∃ z : Nat, lv_has ls 4 [(3, .int (nI z)), (2, .int (coM τ nm p0 z)), (0, .ref (ad 0)), (1, .int p0)] ∧ z ≤ n ∧ (0 ≤ z) := ⟨0, lv_sub hl [0, 1, 2, 3] rfl, Nat.zero_le _, Nat.zero_le _⟩
  obtain ⟨z, hl, hle_z, hinv_z⟩ := hl
  obtain ⟨k_z, hk_z⟩ : ∃ k, n - z = k := ⟨_, rfl⟩
  induction k_z using Nat.strongRecOn generalizing z ls with
  | _ k_z ih_z =>
    refine lv_iload_n hx hb d_M_costsOf_4 rfl (lv_at hl 0 rfl) ?_
    refine lv_aload_n hx hb d_M_costsOf_5 rfl (lv_at hl 2 rfl) ?_
    refine rl_get (r := 0) (ci := 4) (v := .int (nI n)) (C := R_M) (T := F_M) (N := 25) hx hb hG in_M hown hK hP (by decide) gM_0 rfl 1 (by decide) kw_582 (fun _ h9 => h9) (show _ = some (Value.int (nI n)) by rw [← hM.1]; rfl) d_M_costsOf_6 ?_
    refine lv_icmp_ge (tgt := 62) hx hb d_M_costsOf_9 (by decide) (fun c_1 => ?_) (fun c_1 => ?_)
    · have hz_z : z = n := nI_exit hle_z c_1 (by omega)
      subst hz_z
      refine lv_iload_n hx hb d_M_costsOf_62 rfl (lv_at hl 1 rfl) ?_
      exact W.iret (v := coM τ nm p0 z) hx hb hr (fun t ht hW => ⟨_, rfl, rfl, ht⟩) (fun q h => nomatch h) d_M_costsOf_63
    · have hlt_z : z < n := nI_go hle_z c_1 (by omega)
      refine lv_iload_n hx hb d_M_costsOf_12 rfl (lv_at hl 1 rfl) ?_
      refine lv_aload_n hx hb d_M_costsOf_13 rfl (lv_at hl 2 rfl) ?_
      refine rl_get (r := 0) (ci := 4) (v := .ref (ad 5)) (C := R_M) (T := F_M) (N := 25) hx hb hG in_M hown hK hP (by decide) gM_0 rfl 5 (by decide) kw_586 (fun _ h9 => h9) rfl d_M_costsOf_14 ?_
      refine lv_iload_n hx hb d_M_costsOf_17 rfl (lv_at hl 0 rfl) ?_
      refine rl_iald (r := 5) (i := nI z) (n := 30) hx hb hK hP (by decide) 0 rfl rfl (vp_in_nI (by omega) (by decide)) d_M_costsOf_18 ?_
      rw [nI_clamp (by omega)]
      refine lv_iload_n hx hb d_M_costsOf_19 rfl (lv_at hl 3 rfl) ?_
      refine lv_icmp_ne (tgt := 53) hx hb d_M_costsOf_20 (by decide) (fun c_2 => ?_) (fun c_2 => ?_)
      · refine lv_iconst (v := 0) hx hb d_M_costsOf_53 (by decide) ?_
        refine lv_iadd hx hb d_M_costsOf_54 ?_
        refine lv_istore_n (lv' := [(2, .int ((coM τ nm p0 z) + 0)), (3, .int (nI z)), (0, .ref (ad 0)), (1, .int p0)]) hx hb d_M_costsOf_55 rfl hl (by decide) rfl (fun ls hl => ?_)
        refine lv_iinc (v := nI (z + 1)) (lv' := [(3, .int (nI (z + 1))), (2, .int ((coM τ nm p0 z) + 0)), (0, .ref (ad 0)), (1, .int p0)]) hx hb d_M_costsOf_56 hl (k := 1) rfl (by exact nI_1 _) (by decide) rfl (fun ls hl => ?_)
        refine lv_goto (tgt := 4) hx hb d_M_costsOf_59 (by decide) ?_
        exact ih_z (n - (z + 1)) (by omega) ls (z + 1) (by rw [coM_f c_2]; exact (lv_sub hl [0, 1, 2, 3] rfl)) hlt_z (Nat.zero_le _) rfl
      · refine lv_bipush (v := 100) hx hb d_M_costsOf_23 (by decide) ?_
        refine lv_aload_n hx hb d_M_costsOf_25 rfl (lv_at hl 2 rfl) ?_
        refine rl_get (r := 0) (ci := 4) (v := .ref (ad 6)) (C := R_M) (T := F_M) (N := 25) hx hb hG in_M hown hK hP (by decide) gM_0 rfl 6 (by decide) kw_587 (fun _ h9 => h9) rfl d_M_costsOf_26 ?_
        refine lv_iload_n hx hb d_M_costsOf_29 rfl (lv_at hl 0 rfl) ?_
        refine rl_iald (r := 6) (i := nI z) (n := 30) hx hb hK hP (by decide) 0 rfl rfl (vp_in_nI (by omega) (by decide)) d_M_costsOf_30 ?_
        rw [nI_clamp (by omega)]
        refine lv_iconst (v := 1) hx hb d_M_costsOf_31 (by decide) ?_
        refine lv_iadd hx hb d_M_costsOf_32 ?_
        refine lv_imul hx hb d_M_costsOf_33 ?_
        refine lv_aload_n hx hb d_M_costsOf_34 rfl (lv_at hl 2 rfl) ?_
        refine rl_get (r := 0) (ci := 4) (v := .ref (ad 14)) (C := R_M) (T := F_M) (N := 25) hx hb hG in_M hown hK hP (by decide) gM_0 rfl 14 (by decide) kw_595 (fun _ h9 => h9) rfl d_M_costsOf_35 ?_
        refine lv_iload_n hx hb d_M_costsOf_38 rfl (lv_at hl 0 rfl) ?_
        refine rl_iald (r := 14) (i := nI z) (n := 30) hx hb hK hP (by decide) 0 rfl rfl (vp_in_nI (by omega) (by decide)) d_M_costsOf_39 ?_
        rw [nI_clamp (by omega)]
        refine lv_imul hx hb d_M_costsOf_40 ?_
        refine lv_bipush (v := 50) hx hb d_M_costsOf_41 (by decide) ?_
        refine lv_aload_n hx hb d_M_costsOf_43 rfl (lv_at hl 2 rfl) ?_
        refine lv_iload_n hx hb d_M_costsOf_44 rfl (lv_at hl 0 rfl) ?_
        refine vp_callSi (W.runV (As := [.int (nI z)]) (rest := [.int 50, .int ((100 * ((τ 6 z) + 1)) * (τ 14 z)), .int (coM τ nm p0 z)]) ⟨hx, hb, hml, hown, hts⟩ (c_M_samplesOf l D cs ad τ n nm hM (nI z)) (cwV 1 hts (gw_V kw_770 kw_772 ks_1_10 kw_6 kw_773) rfl rfl rfl (by decide +kernel) ⟨Nat.le_of_ble_eq_true rfl, Nat.le_of_ble_eq_true rfl⟩) (rd_V hP hK (rl_recv hK hP (by decide) gM_0 rfl)) rfl rfl hl.1 rfl (lv_room (Nat.le_of_ble_eq_true rfl)) d_M_costsOf_45 ⟨Nat.zero_le _, Nat.zero_le _⟩) (fun r_3 h_4 => ?_)
        subst h_4
        refine lv_imul hx hb d_M_costsOf_48 ?_
        refine lv_iadd hx hb d_M_costsOf_49 ?_
        refine lv_goto (tgt := 54) hx hb d_M_costsOf_50 (by decide) ?_
        refine lv_iadd hx hb d_M_costsOf_54 ?_
        refine lv_istore_n (lv' := [(2, .int ((coM τ nm p0 z) + (((100 * ((τ 6 z) + 1)) * (τ 14 z)) + (50 * (smM τ (nI z) nm))))), (3, .int (nI z)), (0, .ref (ad 0)), (1, .int p0)]) hx hb d_M_costsOf_55 rfl hl (by decide) rfl (fun ls hl => ?_)
        refine lv_iinc (v := nI (z + 1)) (lv' := [(3, .int (nI (z + 1))), (2, .int ((coM τ nm p0 z) + (((100 * ((τ 6 z) + 1)) * (τ 14 z)) + (50 * (smM τ (nI z) nm))))), (0, .ref (ad 0)), (1, .int p0)]) hx hb d_M_costsOf_56 hl (k := 1) rfl (by exact nI_1 _) (by decide) rfl (fun ls hl => ?_)
        refine lv_goto (tgt := 4) hx hb d_M_costsOf_59 (by decide) ?_
        exact ih_z (n - (z + 1)) (by omega) ls (z + 1) (by rw [coM_t c_2]; exact (lv_sub hl [0, 1, 2, 3] rfl)) hlt_z (Nat.zero_le _) rfl
