def stM (τ : Nat → Nat → Int32) (p : Int32) (z : Nat) : Nat → Nat → Int32 := fun a b => if a = 22 ∧ b < z then (if τ 22 b = 0 ∧ ¬ (dS τ (b / 4) = p ∧ ¬ τ 21 b < 0) then 0 else 1) else τ a b
section STM
variable {τ : Nat → Nat → Int32} {p : Int32} {z n nm : Nat}
theorem stM_0 : stM τ p 0 = τ := funext fun a => funext fun b => if_neg (fun h => absurd h.2 (Nat.not_lt_zero _))
theorem stM_n {a b : Nat} (h : a ≠ 22) : stM τ p z a b = τ a b := if_neg (fun q => h q.1)
theorem stM_at : stM τ p z 22 z = τ 22 z := if_neg (fun q => absurd q.2 (Nat.lt_irrefl _))
theorem stM_s {x : Int32} (h : x = if τ 22 z = 0 ∧ ¬ (dS τ (z / 4) = p ∧ ¬ τ 21 z < 0) then 0 else 1) : su (stM τ p z) 22 z x = stM τ p (z + 1) := funext fun a => funext fun b => by
  unfold su
  by_cases e : a = 22 ∧ b = z
  · obtain ⟨rfl, rfl⟩ := e
    rw [if_pos ⟨rfl, rfl⟩, h]
    exact (if_pos ⟨rfl, by omega⟩).symm
  · rw [if_neg e]
    unfold stM
    by_cases e2 : a = 22 ∧ b < z
    · have e3 : a = 22 ∧ b < z + 1 := ⟨e2.1, by omega⟩
      rw [if_pos e2, if_pos e3]
    · rw [if_neg e2, if_neg (fun q => e2 ⟨q.1, by have := q.2; have := fun q9 => e ⟨q.1, q9⟩; omega⟩)]
theorem stM_s1 (h : ¬ τ 22 z = 0 ∨ (dS τ (z / 4) = p ∧ ¬ τ 21 z < 0)) : su (stM τ p z) 22 z 1 = stM τ p (z + 1) := stM_s (if_neg (fun q => h.elim (fun h9 => h9 q.1) q.2)).symm
theorem stM_s0 (h : τ 22 z = 0) (h2 : ¬ (dS τ (z / 4) = p ∧ ¬ τ 21 z < 0)) : su (stM τ p z) 22 z 0 = stM τ p (z + 1) := stM_s (if_pos ⟨h, h2⟩).symm
theorem Mv_st (h : Mv τ n nm) : Mv (stM τ p z) n nm := by
  obtain ⟨h1, h2, h3, h4, h5, h6⟩ := h
  refine ⟨?_, ?_, h3, h4, ?_, ?_⟩
  · rw [stM_n (by decide)]; exact h1
  · rw [stM_n (by decide)]; exact h2
  · intro i hi; rw [stM_n (by decide), stM_n (by decide)]; exact h5 i hi
  · intro i hi; rw [stM_n (by decide)]; exact h6 i hi
theorem dS_st {i : Nat} : dS (stM τ p z) i = dS τ i := by
  unfold dS
  rw [stM_n (by decide), stM_n (by decide)]
end STM
abbrev lateM (τ : Nat → Nat → Int32) (day : Int32) (b : Nat) : Prop := τ 7 b < day ∧ (day - τ 7 b) - (day - τ 7 b) / 100 * 100 = 1 ∧ τ 9 b < 3 ∧ ¬ τ 8 b = 3 ∧ ¬ τ 8 b = 5
def dyM (τ : Nat → Nat → Int32) (day : Int32) (z : Nat) : Nat → Nat → Int32 := fun a b => if a = 9 ∧ b < z ∧ lateM τ day b then τ 9 b + 1 else τ a b
def dcM (τ : Nat → Nat → Int32) (day : Int32) : Nat → Int32
  | 0 => 0
  | z + 1 => dcM τ day z + (if lateM τ day z then 1 else 0)
def tsM (τ : Nat → Nat → Int32) (w n : Nat) : Nat → Nat → Nat → Int32
  | 0 => τ
  | k + 1 => dyM (tsM τ w n k) (nI (w + 1 + k)) n
def tcM (τ : Nat → Nat → Int32) (w n : Nat) : Nat → Int32
  | 0 => 0
  | k + 1 => tcM τ w n k + dcM (tsM τ w n k) (nI (w + 1 + k)) n
section DYM
variable {τ : Nat → Nat → Int32} {day : Int32} {z : Nat}
theorem dyM_0 : dyM τ day 0 = τ := funext fun a => funext fun b => if_neg (fun h => absurd h.2.1 (Nat.not_lt_zero _))
theorem dyM_n {a b : Nat} (h : a ≠ 9) : dyM τ day z a b = τ a b := if_neg (fun q => h q.1)
theorem dyM_at : dyM τ day z 9 z = τ 9 z := if_neg (fun q => absurd q.2.1 (Nat.lt_irrefl _))
theorem dyM_s {x : Int32} (h : x = if lateM τ day z then τ 9 z + 1 else τ 9 z) : su (dyM τ day z) 9 z x = dyM τ day (z + 1) := funext fun a => funext fun b => by
  unfold su
  by_cases e : a = 9 ∧ b = z
  · obtain ⟨rfl, rfl⟩ := e
    rw [if_pos ⟨rfl, rfl⟩, h]
    unfold dyM
    by_cases hl : lateM τ day b
    · rw [if_pos hl, if_pos ⟨rfl, by omega, hl⟩]
    · rw [if_neg hl, if_neg (fun q => hl q.2.2)]
  · rw [if_neg e]
    unfold dyM
    by_cases e2 : a = 9 ∧ b < z ∧ lateM τ day b
    · rw [if_pos e2, if_pos ⟨e2.1, by omega, e2.2.2⟩]
    · rw [if_neg e2, if_neg (fun q => e2 ⟨q.1, by have := q.2.1; have := fun q9 => e ⟨q.1, q9⟩; omega, q.2.2⟩)]
theorem dyM_t (h : lateM τ day z) : su (dyM τ day z) 9 z (τ 9 z + 1) = dyM τ day (z + 1) := dyM_s (if_pos h).symm
theorem dyM_f (h : ¬ lateM τ day z) : su (dyM τ day z) 9 z (τ 9 z + 0) = dyM τ day (z + 1) := dyM_s (by rw [add_z0]; exact (if_neg h).symm)
theorem dcM_t {x : Int32} (h : lateM τ day z) : x + dcM τ day z + 1 = x + dcM τ day (z + 1) := by
  show _ = x + (dcM τ day z + (if lateM τ day z then 1 else 0))
  rw [if_pos h, Int32.add_assoc]
theorem dcM_f {x : Int32} (h : ¬ lateM τ day z) : x + dcM τ day z + 0 = x + dcM τ day (z + 1) := by
  show _ = x + (dcM τ day z + (if lateM τ day z then 1 else 0))
  rw [if_neg h, Int32.add_assoc]
end DYM
theorem tsM_n {τ : Nat → Nat → Int32} {w n a b : Nat} (h : a ≠ 9) : ∀ k : Nat, tsM τ w n k a b = τ a b
  | 0 => rfl
  | k + 1 => by
    show dyM (tsM τ w n k) (nI (w + 1 + k)) n a b = _
    rw [dyM_n h, tsM_n h k]
set_option maxHeartbeats 4000000 in
set_option maxRecDepth 100000 in
theorem c_M_settle (l : Launch) (D : va_G) (cs : Nat → ClassId) (ad : Nat → Nat) (τ : Nat → Nat → Int32) (n nm : Nat) (hM : Mv τ n nm) (sz : Nat) (p0 : Int32) : Met l y_M_settle (Cond.code y_M_settle b_M_settle 4 (some .int) :: GW) ({ frames := 3, cells := 0, slots := 0, locals := 96 }) (va_Pc [.ref (ad 0), .int p0] (wr_B D cs (wM cs ad τ) sz)) (va_Qi (fun r (u : Nat → Nat → Int32) => (¬ (0 ≤ p0 ∧ p0 < 10) ∧ r = 0 ∧ u = su τ 0 0 1) ∨ ∃ a, a < 10 ∧ p0 = nI a ∧ r = grM τ (nI a) 0 (4 * nm) ∧ u = stM (su τ 0 0 0) (nI a) (4 * nm)) (fun u => wr_T D cs (wM cs ad u) (va_A (wM cs ad τ) sz)) (va_A (wM cs ad τ) sz)) 0 0 (va_A (wM cs ad τ) sz) := by
  refine Met.ofW (cc := b_M_settle) (maxL := 4) (ret := (some .int)) (by decide) rfl ?_
  intro p e s m args below meth c s₁ B hml hv
  obtain ⟨rfl, hsz, hP, hK, hD0⟩ := hv
  have hx := B.exec
  have hb := B.bytes
  have hr := B.returns
  have hts := atoms_spec (ws := Cond.code y_M_settle b_M_settle 4 (some .int) :: GW) B.pre
  have hG : ∀ w ∈ GW, w.before _ s = true := fun w h => hts w (List.mem_cons_of_mem _ h)
  have hown : s.vm.findClass R_M = some m.cls := findClass_of_methodNamed B.named
  have hlocks := B.notSynchronized
  subst hsz
  have hD := hD0.self (sz := s.heap.size)
  generalize hAe : va_A (wM cs ad τ) s.heap.size = A at hD ⊢
  have hA : ∀ q : Nat, s.heap.size ≤ q → A q := fun q h => by rw [← hAe]; exact Or.inr h
  have hS : va_S A s.heap s.heap [] := va_S.rf
  have hn30 : n ≤ 30 := hM.2.2.1
  have hm40 : nm ≤ 40 := hM.2.2.2.1
  have hl := lv_entry ([.ref (ad 0), .int p0]) (n := 4) (Nat.le_of_ble_eq_true rfl)
  rw [lg_entry_eq]
  generalize (lg_sl ([.ref (ad 0), .int p0]) ++ List.replicate (4 - (lg_sl ([.ref (ad 0), .int p0])).length) Slot.unset).toArray = ls at hl ⊢
  have hl : lv_has ls 4 [(0, .ref (ad 0)), (1, .int p0)] := hl
  refine lv_aload_n hx hb d_M_settle_0 rfl (lv_at hl 0 rfl) ?_
  refine lv_iload_n hx hb d_M_settle_1 rfl (lv_at hl 1 rfl) ?_
  refine vp_callSi (W.runS (As := [.int p0]) (rest := [.ref (ad 0)]) ⟨hx, hb, hml, hown, hts⟩ (c_M_isTen l p0) (va_cwS 1 hts (gw_S kw_661 kw_662 kw_6 kw_663) rfl rfl rfl (by decide +kernel) ⟨Nat.le_of_ble_eq_true rfl, Nat.le_of_ble_eq_true rfl⟩) ⟨fun _ _ _ _ q => q, fun U _ _ => ⟨rfl, trivial⟩⟩ rfl rfl hl.1 rfl (lv_room (Nat.le_of_ble_eq_true rfl)) d_M_settle_2 ⟨Nat.zero_le _, Nat.zero_le _⟩) (fun r_1 h_2 => ?_)
  subst h_2
  refine lv_if_eq (tgt := 12) hx hb d_M_settle_5 (by decide) (fun c_3 => ?_) (fun c_3 => ?_)
  · refine lv_iconst (v := 1) hx hb d_M_settle_12 (by decide) ?_
    refine rl_put (r := 0) (ci := 4) (v := .int 1) (ty := .int) (C := R_M) (T := F_M) (N := 25) hx hb hG in_M T_M T_M_ok n_M hown hK hP hD hS (by decide) gM_0 rfl 0 (by decide) kw_581 (fun _ h9 => h9) rfl (by decide +kernel) rfl rfl (Nat.le_of_ble_eq_true rfl) d_M_settle_13 (fun H locs hP hD hS => ?_)
    rw [wM_sc (by decide)] at hP hD
    refine lv_aload_n hx hb d_M_settle_16 rfl (lv_at hl 0 rfl) ?_
    refine rl_get (r := 0) (ci := 4) (v := .int 1) (C := R_M) (T := F_M) (N := 25) hx hb hG in_M hown hK hP (by decide) gM_0 rfl 0 (by decide) kw_581 (fun _ h9 => h9) rfl d_M_settle_17 ?_
    refine lv_if_le (tgt := 25) hx hb d_M_settle_20 (by decide) (fun c_4 => ?_) (fun c_4 => ?_)
    · exact absurd c_4 (by decide)
    · refine lv_iconst (v := 0) hx hb d_M_settle_23 (by decide) ?_
      exact W.iret (v := 0) hx hb hr (fun t ht hW => ⟨⟨0, su τ 0 0 1, rfl, Or.inl ⟨b2i_eq0.mp c_3, rfl, rfl⟩, by rw [ht]; exact hP, va_K.moved hW.alike hK, hD⟩, hS.F ht⟩) hS.2.2 d_M_settle_24
  · obtain ⟨a, ha, rfl⟩ := at10 (Classical.not_not.mp (fun h => c_3 (b2i_eq0.mpr h)))
    refine lv_iconst (v := 0) hx hb d_M_settle_8 (by decide) ?_
    refine lv_goto (tgt := 13) hx hb d_M_settle_9 (by decide) ?_
    refine rl_put (r := 0) (ci := 4) (v := .int 0) (ty := .int) (C := R_M) (T := F_M) (N := 25) hx hb hG in_M T_M T_M_ok n_M hown hK hP hD hS (by decide) gM_0 rfl 0 (by decide) kw_581 (fun _ h9 => h9) rfl (by decide +kernel) rfl rfl (Nat.le_of_ble_eq_true rfl) d_M_settle_13 (fun H locs hP hD hS => ?_)
    rw [wM_sc (by decide)] at hP hD
    refine lv_aload_n hx hb d_M_settle_16 rfl (lv_at hl 0 rfl) ?_
    refine rl_get (r := 0) (ci := 4) (v := .int 0) (C := R_M) (T := F_M) (N := 25) hx hb hG in_M hown hK hP (by decide) gM_0 rfl 0 (by decide) kw_581 (fun _ h9 => h9) rfl d_M_settle_17 ?_
    refine lv_if_le (tgt := 25) hx hb d_M_settle_20 (by decide) (fun c_5 => ?_) (fun c_5 => ?_)
    · refine lv_aload_n hx hb d_M_settle_25 rfl (lv_at hl 0 rfl) ?_
      refine lv_iload_n hx hb d_M_settle_26 rfl (lv_at hl 1 rfl) ?_
      refine lv_iconst (v := 0) hx hb d_M_settle_27 (by decide) ?_
      refine vp_callSi (W.runV (As := [.int (nI a), .int 0]) (rest := []) ⟨hx, hb, hml, hown, hts⟩ (c_M_great l D cs ad (su τ 0 0 0) n nm (Mv_0 hM) (nI a) 0) (cwV 2 hts (gw_V kw_746 kw_748 ks_1_7 kw_6 kw_749) rfl rfl rfl (by decide +kernel) ⟨Nat.le_of_ble_eq_true rfl, Nat.le_of_ble_eq_true rfl⟩) (rd_V hP hK (rl_recv hK hP (by decide) gM_0 rfl)) rfl rfl hl.1 rfl (lv_room (Nat.le_of_ble_eq_true rfl)) d_M_settle_28 ⟨Nat.zero_le _, Nat.zero_le _⟩) (fun r_6 h_7 => ?_)
      subst h_7
      rw [grM_0]
      refine lv_istore_n (lv' := [(2, .int (grM τ (nI a) 0 (4 * nm))), (0, .ref (ad 0)), (1, .int (nI a))]) hx hb d_M_settle_31 rfl hl (by decide) rfl (fun ls hl => ?_)
      refine lv_iconst (v := 0) hx hb d_M_settle_32 (by decide) ?_
      refine lv_istore_n (lv' := [(3, .int 0), (2, .int (grM τ (nI a) 0 (4 * nm))), (0, .ref (ad 0)), (1, .int (nI a))]) hx hb d_M_settle_33 rfl hl (by decide) rfl (fun ls hl => ?_)
      obtain ⟨Hz9, eH⟩ : ∃ H9 : Heap, H9 = H := ⟨_, rfl⟩
      obtain ⟨Lz9, eL⟩ : ∃ L9 : List Loc, L9 = locs := ⟨_, rfl⟩
      have hS : va_S A s.heap Hz9 Lz9 := by rw [eH, eL]; exact hS
      have hP0 : va_P D cls_ (wM cs ad (stM (su τ 0 0 0) (nI a) 0)) Hz9 := by rw [eH, stM_0]; exact hP
      have hD0 : va_D A (wM cs ad (stM (su τ 0 0 0) (nI a) 0)) := by rw [stM_0]; exact hD
      rw [← eH, ← eL]
      clear eH eL
      replace hl : ∃ z : Nat, lv_has ls 4 [(3, .int (nI z)), (2, .int (grM τ (nI a) 0 (4 * nm))), (0, .ref (ad 0)), (1, .int (nI a))] ∧ z ≤ (4 * nm) ∧ va_P D cls_ (wM cs ad (stM (su τ 0 0 0) (nI a) z)) Hz9 ∧ va_D A (wM cs ad (stM (su τ 0 0 0) (nI a) z)) := ⟨0, lv_sub hl [0, 1, 2, 3] rfl, Nat.zero_le _, hP0, hD0⟩
      clear hP0 hD0 hP hD
      obtain ⟨z, hl, hle_z, hP, hD⟩ := hl
      obtain ⟨k_z, hk_z⟩ : ∃ k9, (4 * nm) - z = k9 := ⟨_, rfl⟩
      induction k_z using Nat.strongRecOn generalizing z ls Hz9 Lz9 with
      | _ k_z ih_z =>
        refine lv_iload_n hx hb d_M_settle_34 rfl (lv_at hl 0 rfl) ?_
        refine lv_iconst (v := 4) hx hb d_M_settle_35 (by decide) ?_
        refine lv_aload_n hx hb d_M_settle_36 rfl (lv_at hl 2 rfl) ?_
        refine rl_get (r := 0) (ci := 4) (v := .int (nI nm)) (C := R_M) (T := F_M) (N := 25) hx hb hG in_M hown hK hP (by decide) gM_0 rfl 2 (by decide) kw_583 (fun _ h9 => h9) (show _ = some (Value.int (nI nm)) by rw [← hM.2.1]; rfl) d_M_settle_37 ?_
        refine lv_imul hx hb d_M_settle_40 ?_
        rw [ix40]
        refine lv_icmp_ge (tgt := 90) hx hb d_M_settle_41 (by decide) (fun c_8 => ?_) (fun c_8 => ?_)
        · have hz_z : z = 4 * nm := nI_exit hle_z c_8 (by omega)
          subst hz_z
          refine lv_iload_n hx hb d_M_settle_90 rfl (lv_at hl 1 rfl) ?_
          exact W.iret (v := grM τ (nI a) 0 (4 * nm)) hx hb hr (fun t ht hW => ⟨⟨grM τ (nI a) 0 (4 * nm), stM (su τ 0 0 0) (nI a) (4 * nm), rfl, Or.inr ⟨a, ha, rfl, rfl, rfl⟩, by rw [ht]; exact hP, va_K.moved hW.alike hK, hD⟩, hS.F ht⟩) hS.2.2 d_M_settle_91
        · have hlt_z : z < (4 * nm) := nI_go hle_z c_8 (by omega)
          refine lv_aload_n hx hb d_M_settle_44 rfl (lv_at hl 2 rfl) ?_
          refine rl_get (r := 0) (ci := 4) (v := .ref (ad 22)) (C := R_M) (T := F_M) (N := 25) hx hb hG in_M hown hK hP (by decide) gM_0 rfl 22 (by decide) kw_603 (fun _ h9 => h9) rfl d_M_settle_45 ?_
          refine lv_iload_n hx hb d_M_settle_48 rfl (lv_at hl 0 rfl) ?_
          refine lv_aload_n hx hb d_M_settle_49 rfl (lv_at hl 2 rfl) ?_
          refine rl_get (r := 0) (ci := 4) (v := .ref (ad 22)) (C := R_M) (T := F_M) (N := 25) hx hb hG in_M hown hK hP (by decide) gM_0 rfl 22 (by decide) kw_603 (fun _ h9 => h9) rfl d_M_settle_50 ?_
          refine lv_iload_n hx hb d_M_settle_53 rfl (lv_at hl 0 rfl) ?_
          refine rl_zald (r := 22) (i := nI z) (n := 160) hx hb hK hP (by decide) 1 rfl rfl (vp_in_nI (by omega) (by decide)) d_M_settle_54 ?_
          rw [nI_clamp (by omega)]
          rw [stM_at]
          refine W.eq (g2 := F0 m 55 ls [.int (τ 22 z), .int (nI z), .ref (ad 22)]) rfl ?_
          refine lv_if_ne (tgt := 78) hx hb d_M_settle_55 (by decide) (fun c_9 => ?_) (fun c_9 => ?_)
          · refine lv_iconst (v := 1) hx hb d_M_settle_78 (by decide) ?_
            refine lv_goto (tgt := 83) hx hb d_M_settle_79 (by decide) ?_
            refine rl_zast (r := 22) (i := nI z) (x := 1) (n := 160) hx hb hK hP hD hS (by decide) 1 rfl rfl (vp_in_nI (by omega) (by decide)) d_M_settle_83 (fun H locs hP hD hS => ?_)
            rw [nI_clamp (by omega)] at hP hD
            rw [show vp_nar .boolean (1 : Int32) = 1 from rfl] at hP hD
            rw [show rl_w RM ad (va_up (gM cs ad (stM (su τ 0 0 0) (nI a) z)) 22 (arI (clM cs 22) 160 (upd ((stM (su τ 0 0 0) (nI a) z) 22) z 1))) = wM cs ad (su (stM (su τ 0 0 0) (nI a) z) 22 z 1) from wM_arr (r := 22) (by decide)] at hP hD
            rw [stM_s1 (τ := su τ 0 0 0) (p := nI a) (Or.inl c_9)] at hP hD
            refine lv_iinc (v := nI (z + 1)) (lv' := [(3, .int (nI (z + 1))), (2, .int (grM τ (nI a) 0 (4 * nm))), (0, .ref (ad 0)), (1, .int (nI a))]) hx hb d_M_settle_84 hl (k := 0) rfl (by exact nI_1 _) (by decide) rfl (fun ls hl => ?_)
            refine lv_goto (tgt := 34) hx hb d_M_settle_87 (by decide) ?_
            exact ih_z ((4 * nm) - (z + 1)) (by omega) ls H locs hS (z + 1) (lv_sub hl [0, 1, 2, 3] rfl) hlt_z hP hD rfl
          · refine lv_aload_n hx hb d_M_settle_58 rfl (lv_at hl 2 rfl) ?_
            refine lv_iload_n hx hb d_M_settle_59 rfl (lv_at hl 0 rfl) ?_
            refine lv_iconst (v := 4) hx hb d_M_settle_60 (by decide) ?_
            refine lv_idiv hx hb d_M_settle_61 (by decide) ?_
            rw [id4 z (by omega)]
            refine lv_iload_n hx hb d_M_settle_62 rfl (lv_at hl 3 rfl) ?_
            refine vp_callSi (W.runV (As := [.int (nI (z / 4)), .int (nI a)]) (rest := [.int (nI z), .ref (ad 22)]) ⟨hx, hb, hml, hown, hts⟩ (c_M_isOf l D cs ad (stM (su τ 0 0 0) (nI a) z) n nm (Mv_st (Mv_0 hM)) (z / 4) (by omega) (nI a)) (cwV 2 hts (gw_V kw_750 kw_752 ks_1_8 kw_6 kw_753) rfl rfl rfl (by decide +kernel) ⟨Nat.le_of_ble_eq_true rfl, Nat.le_of_ble_eq_true rfl⟩) (rd_V hP hK (rl_recv hK hP (by decide) gM_0 rfl)) rfl rfl hl.1 rfl (lv_room (Nat.le_of_ble_eq_true rfl)) d_M_settle_63 ⟨Nat.zero_le _, Nat.zero_le _⟩) (fun r_10 h_11 => ?_)
            subst h_11
            rw [dS_st]
            refine W.eq (g2 := F0 m 66 ls [.int (b2i (dS τ (z / 4) = nI a)), .int (nI z), .ref (ad 22)]) rfl ?_
            refine lv_if_eq (tgt := 82) hx hb d_M_settle_66 (by decide) (fun c_12 => ?_) (fun c_12 => ?_)
            · refine lv_iconst (v := 0) hx hb d_M_settle_82 (by decide) ?_
              refine rl_zast (r := 22) (i := nI z) (x := 0) (n := 160) hx hb hK hP hD hS (by decide) 1 rfl rfl (vp_in_nI (by omega) (by decide)) d_M_settle_83 (fun H locs hP hD hS => ?_)
              rw [nI_clamp (by omega)] at hP hD
              rw [show vp_nar .boolean (0 : Int32) = 0 from rfl] at hP hD
              rw [show rl_w RM ad (va_up (gM cs ad (stM (su τ 0 0 0) (nI a) z)) 22 (arI (clM cs 22) 160 (upd ((stM (su τ 0 0 0) (nI a) z) 22) z 0))) = wM cs ad (su (stM (su τ 0 0 0) (nI a) z) 22 z 0) from wM_arr (r := 22) (by decide)] at hP hD
              rw [stM_s0 (τ := su τ 0 0 0) (p := nI a) c_9 (fun h9 => (b2i_eq0.mp c_12) h9.1)] at hP hD
              refine lv_iinc (v := nI (z + 1)) (lv' := [(3, .int (nI (z + 1))), (2, .int (grM τ (nI a) 0 (4 * nm))), (0, .ref (ad 0)), (1, .int (nI a))]) hx hb d_M_settle_84 hl (k := 0) rfl (by exact nI_1 _) (by decide) rfl (fun ls hl => ?_)
              refine lv_goto (tgt := 34) hx hb d_M_settle_87 (by decide) ?_
              exact ih_z ((4 * nm) - (z + 1)) (by omega) ls H locs hS (z + 1) (lv_sub hl [0, 1, 2, 3] rfl) hlt_z hP hD rfl
            · refine lv_aload_n hx hb d_M_settle_69 rfl (lv_at hl 2 rfl) ?_
              refine rl_get (r := 0) (ci := 4) (v := .ref (ad 21)) (C := R_M) (T := F_M) (N := 25) hx hb hG in_M hown hK hP (by decide) gM_0 rfl 21 (by decide) kw_602 (fun _ h9 => h9) rfl d_M_settle_70 ?_
              refine lv_iload_n hx hb d_M_settle_73 rfl (lv_at hl 0 rfl) ?_
              refine rl_iald (r := 21) (i := nI z) (n := 160) hx hb hK hP (by decide) 0 rfl rfl (vp_in_nI (by omega) (by decide)) d_M_settle_74 ?_
              rw [nI_clamp (by omega)]
              rw [stM_n (by decide)]
              refine W.eq (g2 := F0 m 75 ls [.int (τ 21 z), .int (nI z), .ref (ad 22)]) rfl ?_
              refine lv_if_lt (tgt := 82) hx hb d_M_settle_75 (by decide) (fun c_13 => ?_) (fun c_13 => ?_)
              · refine lv_iconst (v := 0) hx hb d_M_settle_82 (by decide) ?_
                refine rl_zast (r := 22) (i := nI z) (x := 0) (n := 160) hx hb hK hP hD hS (by decide) 1 rfl rfl (vp_in_nI (by omega) (by decide)) d_M_settle_83 (fun H locs hP hD hS => ?_)
                rw [nI_clamp (by omega)] at hP hD
                rw [show vp_nar .boolean (0 : Int32) = 0 from rfl] at hP hD
                rw [show rl_w RM ad (va_up (gM cs ad (stM (su τ 0 0 0) (nI a) z)) 22 (arI (clM cs 22) 160 (upd ((stM (su τ 0 0 0) (nI a) z) 22) z 0))) = wM cs ad (su (stM (su τ 0 0 0) (nI a) z) 22 z 0) from wM_arr (r := 22) (by decide)] at hP hD
                rw [stM_s0 (τ := su τ 0 0 0) (p := nI a) c_9 (fun h9 => h9.2 c_13)] at hP hD
                refine lv_iinc (v := nI (z + 1)) (lv' := [(3, .int (nI (z + 1))), (2, .int (grM τ (nI a) 0 (4 * nm))), (0, .ref (ad 0)), (1, .int (nI a))]) hx hb d_M_settle_84 hl (k := 0) rfl (by exact nI_1 _) (by decide) rfl (fun ls hl => ?_)
                refine lv_goto (tgt := 34) hx hb d_M_settle_87 (by decide) ?_
                exact ih_z ((4 * nm) - (z + 1)) (by omega) ls H locs hS (z + 1) (lv_sub hl [0, 1, 2, 3] rfl) hlt_z hP hD rfl
              · refine lv_iconst (v := 1) hx hb d_M_settle_78 (by decide) ?_
                refine lv_goto (tgt := 83) hx hb d_M_settle_79 (by decide) ?_
                refine rl_zast (r := 22) (i := nI z) (x := 1) (n := 160) hx hb hK hP hD hS (by decide) 1 rfl rfl (vp_in_nI (by omega) (by decide)) d_M_settle_83 (fun H locs hP hD hS => ?_)
                rw [nI_clamp (by omega)] at hP hD
                rw [show vp_nar .boolean (1 : Int32) = 1 from rfl] at hP hD
                rw [show rl_w RM ad (va_up (gM cs ad (stM (su τ 0 0 0) (nI a) z)) 22 (arI (clM cs 22) 160 (upd ((stM (su τ 0 0 0) (nI a) z) 22) z 1))) = wM cs ad (su (stM (su τ 0 0 0) (nI a) z) 22 z 1) from wM_arr (r := 22) (by decide)] at hP hD
                rw [stM_s1 (τ := su τ 0 0 0) (p := nI a) (Or.inr ⟨Classical.not_not.mp (fun h => c_12 (b2i_eq0.mpr h)), c_13⟩)] at hP hD
                refine lv_iinc (v := nI (z + 1)) (lv' := [(3, .int (nI (z + 1))), (2, .int (grM τ (nI a) 0 (4 * nm))), (0, .ref (ad 0)), (1, .int (nI a))]) hx hb d_M_settle_84 hl (k := 0) rfl (by exact nI_1 _) (by decide) rfl (fun ls hl => ?_)
                refine lv_goto (tgt := 34) hx hb d_M_settle_87 (by decide) ?_
                exact ih_z ((4 * nm) - (z + 1)) (by omega) ls H locs hS (z + 1) (lv_sub hl [0, 1, 2, 3] rfl) hlt_z hP hD rfl
    · exact absurd (by decide) c_5
set_option maxHeartbeats 4000000 in
set_option maxRecDepth 100000 in
theorem c_M_tick (l : Launch) (D : va_G) (cs : Nat → ClassId) (ad : Nat → Nat) (τ : Nat → Nat → Int32) (n nm : Nat) (hM : Mv τ n nm) (w : Nat) (hw9 : w ≤ 100000) (hw : τ 0 3 = nI w) (sz : Nat) (p0 : Int32) : Met l y_M_tick (Cond.code y_M_tick b_M_tick 6 (some .int) :: GW) ({ frames := 1, cells := 0, slots := 0, locals := 32 }) (va_Pc [.ref (ad 0), .int p0] (wr_B D cs (wM cs ad τ) sz)) (va_Qi (fun r (u : Nat → Nat → Int32) => (¬ (τ 0 3 ≤ p0 ∧ p0 ≤ 100000) ∧ r = 0 ∧ u = su τ 0 0 1) ∨ ∃ T, p0 = nI T ∧ w ≤ T ∧ T ≤ 100000 ∧ r = tcM (su τ 0 0 0) w n (T - w) ∧ u = su (tsM (su τ 0 0 0) w n (T - w)) 0 3 (nI T)) (fun u => wr_T D cs (wM cs ad u) (va_A (wM cs ad τ) sz)) (va_A (wM cs ad τ) sz)) 0 0 (va_A (wM cs ad τ) sz) := by
  refine Met.ofW (cc := b_M_tick) (maxL := 6) (ret := (some .int)) (by decide) rfl ?_
  intro p e s m args below meth c s₁ B hml hv
  obtain ⟨rfl, hsz, hP, hK, hD0⟩ := hv
  have hx := B.exec
  have hb := B.bytes
  have hr := B.returns
  have hts := atoms_spec (ws := Cond.code y_M_tick b_M_tick 6 (some .int) :: GW) B.pre
  have hG : ∀ w ∈ GW, w.before _ s = true := fun w h => hts w (List.mem_cons_of_mem _ h)
  have hown : s.vm.findClass R_M = some m.cls := findClass_of_methodNamed B.named
  have hlocks := B.notSynchronized
  subst hsz
  have hD := hD0.self (sz := s.heap.size)
  generalize hAe : va_A (wM cs ad τ) s.heap.size = A at hD ⊢
  have hA : ∀ q : Nat, s.heap.size ≤ q → A q := fun q h => by rw [← hAe]; exact Or.inr h
  have hS : va_S A s.heap s.heap [] := va_S.rf
  have hn30 : n ≤ 30 := hM.2.2.1
  have hm40 : nm ≤ 40 := hM.2.2.2.1
  have hl := lv_entry ([.ref (ad 0), .int p0]) (n := 6) (Nat.le_of_ble_eq_true rfl)
  rw [lg_entry_eq]
  generalize (lg_sl ([.ref (ad 0), .int p0]) ++ List.replicate (6 - (lg_sl ([.ref (ad 0), .int p0])).length) Slot.unset).toArray = ls at hl ⊢
  have hl : lv_has ls 6 [(0, .ref (ad 0)), (1, .int p0)] := hl
  refine lv_aload_n hx hb d_M_tick_0 rfl (lv_at hl 0 rfl) ?_
  refine lv_aload_n hx hb d_M_tick_1 rfl (lv_at hl 0 rfl) ?_
  refine lv_iload_n hx hb d_M_tick_2 rfl (lv_at hl 1 rfl) ?_
  refine vp_callSi (W.runV (As := [.int p0]) (rest := [.ref (ad 0)]) ⟨hx, hb, hml, hown, hts⟩ (c_M_isTime l D cs ad τ n nm hM p0) (cwV 1 hts (gw_V kw_675 kw_677 ks_1_1 kw_6 kw_678) rfl rfl rfl (by decide +kernel) ⟨Nat.le_of_ble_eq_true rfl, Nat.le_of_ble_eq_true rfl⟩) (rd_V hP hK (rl_recv hK hP (by decide) gM_0 rfl)) rfl rfl hl.1 rfl (lv_room (Nat.le_of_ble_eq_true rfl)) d_M_tick_3 ⟨Nat.zero_le _, Nat.zero_le _⟩) (fun r_1 h_2 => ?_)
  subst h_2
  refine lv_if_eq (tgt := 13) hx hb d_M_tick_6 (by decide) (fun c_3 => ?_) (fun c_3 => ?_)
  · refine lv_iconst (v := 1) hx hb d_M_tick_13 (by decide) ?_
    refine rl_put (r := 0) (ci := 4) (v := .int 1) (ty := .int) (C := R_M) (T := F_M) (N := 25) hx hb hG in_M T_M T_M_ok n_M hown hK hP hD hS (by decide) gM_0 rfl 0 (by decide) kw_581 (fun _ h9 => h9) rfl (by decide +kernel) rfl rfl (Nat.le_of_ble_eq_true rfl) d_M_tick_14 (fun H locs hP hD hS => ?_)
    rw [wM_sc (by decide)] at hP hD
    refine lv_aload_n hx hb d_M_tick_17 rfl (lv_at hl 0 rfl) ?_
    refine rl_get (r := 0) (ci := 4) (v := .int 1) (C := R_M) (T := F_M) (N := 25) hx hb hG in_M hown hK hP (by decide) gM_0 rfl 0 (by decide) kw_581 (fun _ h9 => h9) rfl d_M_tick_18 ?_
    refine lv_if_le (tgt := 26) hx hb d_M_tick_21 (by decide) (fun c_4 => ?_) (fun c_4 => ?_)
    · exact absurd c_4 (by decide)
    · refine lv_iconst (v := 0) hx hb d_M_tick_24 (by decide) ?_
      exact W.iret (v := 0) hx hb hr (fun t ht hW => ⟨⟨0, su τ 0 0 1, rfl, Or.inl ⟨b2i_eq0.mp c_3, rfl, rfl⟩, by rw [ht]; exact hP, va_K.moved hW.alike hK, hD⟩, hS.F ht⟩) hS.2.2 d_M_tick_25
  · have hT9 := Classical.not_not.mp (fun h => c_3 (b2i_eq0.mpr h))
    rw [hw] at hT9
    obtain ⟨T, hT1, rfl⟩ := atN (M := 100000) (N := 100000) (by decide) ⟨Int32.le_trans (nI_pos' (by omega)) hT9.1, hT9.2⟩
    have hwT : w ≤ T := (nI_leI (by omega) (by omega)).mp hT9.1
    refine lv_iconst (v := 0) hx hb d_M_tick_9 (by decide) ?_
    refine lv_goto (tgt := 14) hx hb d_M_tick_10 (by decide) ?_
    refine rl_put (r := 0) (ci := 4) (v := .int 0) (ty := .int) (C := R_M) (T := F_M) (N := 25) hx hb hG in_M T_M T_M_ok n_M hown hK hP hD hS (by decide) gM_0 rfl 0 (by decide) kw_581 (fun _ h9 => h9) rfl (by decide +kernel) rfl rfl (Nat.le_of_ble_eq_true rfl) d_M_tick_14 (fun H locs hP hD hS => ?_)
    rw [wM_sc (by decide)] at hP hD
    refine lv_aload_n hx hb d_M_tick_17 rfl (lv_at hl 0 rfl) ?_
    refine rl_get (r := 0) (ci := 4) (v := .int 0) (C := R_M) (T := F_M) (N := 25) hx hb hG in_M hown hK hP (by decide) gM_0 rfl 0 (by decide) kw_581 (fun _ h9 => h9) rfl d_M_tick_18 ?_
    refine lv_if_le (tgt := 26) hx hb d_M_tick_21 (by decide) (fun c_5 => ?_) (fun c_5 => ?_)
    · refine lv_iconst (v := 0) hx hb d_M_tick_26 (by decide) ?_
      refine lv_istore_n (lv' := [(2, .int 0), (0, .ref (ad 0)), (1, .int (nI T))]) hx hb d_M_tick_27 rfl hl (by decide) rfl (fun ls hl => ?_)
      refine lv_aload_n hx hb d_M_tick_28 rfl (lv_at hl 1 rfl) ?_
      refine rl_get (r := 0) (ci := 4) (v := .int (nI w)) (C := R_M) (T := F_M) (N := 25) hx hb hG in_M hown hK hP (by decide) gM_0 rfl 3 (by decide) kw_584 (fun _ h9 => h9) (show _ = some (Value.int (nI w)) by rw [← hw]; rfl) d_M_tick_29 ?_
      refine lv_iconst (v := 1) hx hb d_M_tick_32 (by decide) ?_
      refine lv_iadd hx hb d_M_tick_33 ?_
      rw [nI_1]
      refine lv_istore_n (lv' := [(3, .int (nI (w + 1))), (2, .int 0), (0, .ref (ad 0)), (1, .int (nI T))]) hx hb d_M_tick_34 rfl hl (by decide) rfl (fun ls hl => ?_)
      obtain ⟨Hk9, eH⟩ : ∃ H9 : Heap, H9 = H := ⟨_, rfl⟩
      obtain ⟨Lk9, eL⟩ : ∃ L9 : List Loc, L9 = locs := ⟨_, rfl⟩
      have hS : va_S A s.heap Hk9 Lk9 := by rw [eH, eL]; exact hS
      have hP0 : va_P D cls_ (wM cs ad (tsM (su τ 0 0 0) w n 0)) Hk9 := by rw [eH]; exact hP
      have hD0 : va_D A (wM cs ad (tsM (su τ 0 0 0) w n 0)) := hD
      rw [← eH, ← eL]
      clear eH eL
      replace hl : ∃ k : Nat, lv_has ls 6 [(3, .int (nI (w + 1 + k))), (2, .int (tcM (su τ 0 0 0) w n k)), (0, .ref (ad 0)), (1, .int (nI T))] ∧ k ≤ (T - w) ∧ va_P D cls_ (wM cs ad (tsM (su τ 0 0 0) w n k)) Hk9 ∧ va_D A (wM cs ad (tsM (su τ 0 0 0) w n k)) := ⟨0, lv_sub hl [0, 1, 2, 3] rfl, Nat.zero_le _, hP0, hD0⟩
      clear hP0 hD0 hP hD
      obtain ⟨k, hl, hle_k, hP, hD⟩ := hl
      obtain ⟨k_k, hk_k⟩ : ∃ k9, (T - w) - k = k9 := ⟨_, rfl⟩
      induction k_k using Nat.strongRecOn generalizing k ls Hk9 Lk9 with
      | _ k_k ih_k =>
        refine lv_iload_n hx hb d_M_tick_35 rfl (lv_at hl 0 rfl) ?_
        refine lv_iload_n hx hb d_M_tick_36 rfl (lv_at hl 3 rfl) ?_
        refine lv_icmp_gt (tgt := 164) hx hb d_M_tick_37 (by decide) (fun c_6 => ?_) (fun c_6 => ?_)
        · have hz_k : k = T - w := by have h9 := (nI_ltI (a := T) (b := w + 1 + k) (by omega) (by omega)).mp c_6; omega
          subst hz_k
          refine lv_aload_n hx hb d_M_tick_164 rfl (lv_at hl 2 rfl) ?_
          refine lv_iload_n hx hb d_M_tick_165 rfl (lv_at hl 3 rfl) ?_
          refine rl_put (r := 0) (ci := 4) (v := .int (nI T)) (ty := .int) (C := R_M) (T := F_M) (N := 25) hx hb hG in_M T_M T_M_ok n_M hown hK hP hD hS (by decide) gM_0 rfl 3 (by decide) kw_584 (fun _ h9 => h9) rfl (by decide +kernel) rfl rfl (Nat.le_of_ble_eq_true rfl) d_M_tick_166 (fun H locs hP hD hS => ?_)
          rw [wM_sc (by decide)] at hP hD
          refine lv_iload_n hx hb d_M_tick_169 rfl (lv_at hl 1 rfl) ?_
          exact W.iret (v := tcM (su τ 0 0 0) w n (T - w)) hx hb hr (fun t ht hW => ⟨⟨tcM (su τ 0 0 0) w n (T - w), su (tsM (su τ 0 0 0) w n (T - w)) 0 3 (nI T), rfl, Or.inr ⟨T, rfl, hwT, by omega, rfl, rfl⟩, by rw [ht]; exact hP, va_K.moved hW.alike hK, hD⟩, hS.F ht⟩) hS.2.2 d_M_tick_170
        · have hlt_k : k < T - w := by have h9 : ¬ T < w + 1 + k := fun h8 => c_6 ((nI_ltI (a := T) (b := w + 1 + k) (by omega) (by omega)).mpr h8); omega
          refine lv_iconst (v := 0) hx hb d_M_tick_40 (by decide) ?_
          refine lv_istore (lv' := [(4, .int 0), (3, .int (nI (w + 1 + k))), (2, .int (tcM (su τ 0 0 0) w n k)), (0, .ref (ad 0)), (1, .int (nI T))]) hx hb d_M_tick_41 hl (by decide) rfl (fun ls hl => ?_)
          obtain ⟨Hz9, eH⟩ : ∃ H9 : Heap, H9 = Hk9 := ⟨_, rfl⟩
          obtain ⟨Lz9, eL⟩ : ∃ L9 : List Loc, L9 = Lk9 := ⟨_, rfl⟩
          have hS : va_S A s.heap Hz9 Lz9 := by rw [eH, eL]; exact hS
          have hP0 : va_P D cls_ (wM cs ad (dyM (tsM (su τ 0 0 0) w n k) (nI (w + 1 + k)) 0)) Hz9 := by rw [eH, dyM_0]; exact hP
          have hD0 : va_D A (wM cs ad (dyM (tsM (su τ 0 0 0) w n k) (nI (w + 1 + k)) 0)) := by rw [dyM_0]; exact hD
          rw [← eH, ← eL]
          clear eH eL
          replace hl : ∃ z : Nat, lv_has ls 6 [(4, .int (nI z)), (3, .int (nI (w + 1 + k))), (2, .int (tcM (su τ 0 0 0) w n k + dcM (tsM (su τ 0 0 0) w n k) (nI (w + 1 + k)) z)), (0, .ref (ad 0)), (1, .int (nI T))] ∧ z ≤ n ∧ va_P D cls_ (wM cs ad (dyM (tsM (su τ 0 0 0) w n k) (nI (w + 1 + k)) z)) Hz9 ∧ va_D A (wM cs ad (dyM (tsM (su τ 0 0 0) w n k) (nI (w + 1 + k)) z)) := ⟨0, (by rw [show tcM (su τ 0 0 0) w n k + dcM (tsM (su τ 0 0 0) w n k) (nI (w + 1 + k)) 0 = tcM (su τ 0 0 0) w n k from add_z0 _]; exact lv_sub hl [0, 1, 2, 3, 4] rfl), Nat.zero_le _, hP0, hD0⟩
          clear hP0 hD0 hP hD
          obtain ⟨z, hl, hle_z, hP, hD⟩ := hl
          obtain ⟨k_z, hk_z⟩ : ∃ k9, n - z = k9 := ⟨_, rfl⟩
          induction k_z using Nat.strongRecOn generalizing z ls Hz9 Lz9 with
          | _ k_z ih_z =>
            have hszn : dyM (tsM (su τ 0 0 0) w n k) (nI (w + 1 + k)) z 0 1 = nI n := by rw [dyM_n (by decide), tsM_n (by decide)]; exact hM.1
            refine lv_iload hx hb d_M_tick_43 (lv_at hl 0 rfl) ?_
            refine lv_aload_n hx hb d_M_tick_45 rfl (lv_at hl 3 rfl) ?_
            refine rl_get (r := 0) (ci := 4) (v := .int (nI n)) (C := R_M) (T := F_M) (N := 25) hx hb hG in_M hown hK hP (by decide) gM_0 rfl 1 (by decide) kw_582 (fun _ h9 => h9) (show _ = some (Value.int (nI n)) by rw [← hszn]; rfl) d_M_tick_46 ?_
            refine lv_icmp_ge (tgt := 158) hx hb d_M_tick_49 (by decide) (fun c_7 => ?_) (fun c_7 => ?_)
            · have hz_z : z = n := nI_exit hle_z c_7 (by omega)
              rw [hz_z] at hl hP hD
              replace hP : va_P D cls_ (wM cs ad (tsM (su τ 0 0 0) w n (k + 1))) _ := hP
              replace hD : va_D A (wM cs ad (tsM (su τ 0 0 0) w n (k + 1))) := hD
              replace hl : lv_has ls 6 [(4, .int (nI n)), (3, .int (nI (w + 1 + k))), (2, .int (tcM (su τ 0 0 0) w n (k + 1))), (0, .ref (ad 0)), (1, .int (nI T))] := hl
              refine lv_iinc (v := nI (w + 1 + (k + 1))) (lv' := [(3, .int (nI (w + 1 + (k + 1)))), (4, .int (nI n)), (2, .int (tcM (su τ 0 0 0) w n (k + 1))), (0, .ref (ad 0)), (1, .int (nI T))]) hx hb d_M_tick_158 hl (k := 1) rfl (by first | exact nI_1 _ | exact nI_1 (w + 1 + k) | rfl) (by decide) rfl (fun ls hl => ?_)
              refine lv_goto (tgt := 35) hx hb d_M_tick_161 (by decide) ?_
              exact ih_k ((T - w) - (k + 1)) (by omega) ls Hz9 Lz9 hS (k + 1) (lv_sub hl [0, 2, 3, 4] rfl) hlt_k hP hD rfl
            · have hlt_z : z < n := nI_go hle_z c_7 (by omega)
              refine lv_iload_n hx hb d_M_tick_52 rfl (lv_at hl 1 rfl) ?_
              refine lv_aload_n hx hb d_M_tick_53 rfl (lv_at hl 3 rfl) ?_
              refine rl_get (r := 0) (ci := 4) (v := .ref (ad 7)) (C := R_M) (T := F_M) (N := 25) hx hb hG in_M hown hK hP (by decide) gM_0 rfl 7 (by decide) kw_588 (fun _ h9 => h9) rfl d_M_tick_54 ?_
              refine lv_iload hx hb d_M_tick_57 (lv_at hl 0 rfl) ?_
              refine rl_iald (r := 7) (i := nI z) (n := 30) hx hb hK hP (by decide) 0 rfl rfl (vp_in_nI (by omega) (by decide)) d_M_tick_59 ?_
              rw [nI_clamp (by omega)]
              rw [dyM_n (by decide)]
              refine lv_icmp_le (tgt := 116) hx hb d_M_tick_60 (by decide) (fun c_8 => ?_) (fun c_8 => ?_)
              · refine lv_iconst (v := 0) hx hb d_M_tick_116 (by decide) ?_
                refine lv_istore (lv' := [(5, .int 0), (4, .int (nI z)), (3, .int (nI (w + 1 + k))), (2, .int (tcM (su τ 0 0 0) w n k + dcM (tsM (su τ 0 0 0) w n k) (nI (w + 1 + k)) z)), (0, .ref (ad 0)), (1, .int (nI T))]) hx hb d_M_tick_117 hl (by decide) rfl (fun ls hl => ?_)
                refine lv_aload_n hx hb d_M_tick_119 rfl (lv_at hl 4 rfl) ?_
                refine rl_get (r := 0) (ci := 4) (v := .ref (ad 9)) (C := R_M) (T := F_M) (N := 25) hx hb hG in_M hown hK hP (by decide) gM_0 rfl 9 (by decide) kw_590 (fun _ h9 => h9) rfl d_M_tick_120 ?_
                refine lv_iload hx hb d_M_tick_123 (lv_at hl 1 rfl) ?_
                refine lv_dup2_11 hx hb d_M_tick_125 rfl rfl ?_
                refine rl_iald (r := 9) (i := nI z) (n := 30) hx hb hK hP (by decide) 0 rfl rfl (vp_in_nI (by omega) (by decide)) d_M_tick_126 ?_
                rw [nI_clamp (by omega)]
                rw [dyM_at]
                refine lv_iload hx hb d_M_tick_127 (lv_at hl 0 rfl) ?_
                refine lv_if_eq (tgt := 136) hx hb d_M_tick_129 (by decide) (fun c_9 => ?_) (fun c_9 => ?_)
                · refine lv_iconst (v := 0) hx hb d_M_tick_136 (by decide) ?_
                  refine lv_iadd hx hb d_M_tick_137 ?_
                  refine rl_iast (r := 9) (i := nI z) (x := (tsM (su τ 0 0 0) w n k 9 z) + 0) (n := 30) hx hb hK hP hD hS (by decide) 0 rfl rfl (vp_in_nI (by omega) (by decide)) d_M_tick_138 (fun H locs hP hD hS => ?_)
                  rw [nI_clamp (by omega)] at hP hD
                  rw [show rl_w RM ad (va_up (gM cs ad (dyM (tsM (su τ 0 0 0) w n k) (nI (w + 1 + k)) z)) 9 (arI (clM cs 9) 30 (upd ((dyM (tsM (su τ 0 0 0) w n k) (nI (w + 1 + k)) z) 9) z ((tsM (su τ 0 0 0) w n k 9 z) + 0)))) = wM cs ad (su (dyM (tsM (su τ 0 0 0) w n k) (nI (w + 1 + k)) z) 9 z ((tsM (su τ 0 0 0) w n k 9 z) + 0)) from wM_arr (r := 9) (by decide)] at hP hD
                  rw [dyM_f (fun h9 => Int32.not_lt.mpr c_8 h9.1)] at hP hD
                  refine lv_iload_n hx hb d_M_tick_139 rfl (lv_at hl 3 rfl) ?_
                  refine lv_iload hx hb d_M_tick_140 (lv_at hl 0 rfl) ?_
                  refine lv_if_eq (tgt := 149) hx hb d_M_tick_142 (by decide) (fun c_10 => ?_) (fun c_10 => ?_)
                  · refine lv_iconst (v := 0) hx hb d_M_tick_149 (by decide) ?_
                    refine lv_iadd hx hb d_M_tick_150 ?_
                    rw [dcM_f (fun h9 => Int32.not_lt.mpr c_8 h9.1)]
                    refine lv_istore_n (lv' := [(2, .int (tcM (su τ 0 0 0) w n k + dcM (tsM (su τ 0 0 0) w n k) (nI (w + 1 + k)) (z + 1))), (5, .int 0), (4, .int (nI z)), (3, .int (nI (w + 1 + k))), (0, .ref (ad 0)), (1, .int (nI T))]) hx hb d_M_tick_151 rfl hl (by decide) rfl (fun ls hl => ?_)
                    refine lv_iinc (v := nI (z + 1)) (lv' := [(4, .int (nI (z + 1))), (2, .int (tcM (su τ 0 0 0) w n k + dcM (tsM (su τ 0 0 0) w n k) (nI (w + 1 + k)) (z + 1))), (5, .int 0), (3, .int (nI (w + 1 + k))), (0, .ref (ad 0)), (1, .int (nI T))]) hx hb d_M_tick_152 hl (k := 2) rfl (by first | exact nI_1 _ | exact nI_1 (w + 1 + k) | rfl) (by decide) rfl (fun ls hl => ?_)
                    refine lv_goto (tgt := 43) hx hb d_M_tick_155 (by decide) ?_
                    exact ih_z (n - (z + 1)) (by omega) ls H locs hS (z + 1) (lv_sub hl [0, 3, 1, 4, 5] rfl) hlt_z hP hD rfl
                  · exact absurd (by decide) c_10
                · exact absurd (by decide) c_9
              · refine lv_iload_n hx hb d_M_tick_63 rfl (lv_at hl 1 rfl) ?_
                refine lv_aload_n hx hb d_M_tick_64 rfl (lv_at hl 3 rfl) ?_
                refine rl_get (r := 0) (ci := 4) (v := .ref (ad 7)) (C := R_M) (T := F_M) (N := 25) hx hb hG in_M hown hK hP (by decide) gM_0 rfl 7 (by decide) kw_588 (fun _ h9 => h9) rfl d_M_tick_65 ?_
                refine lv_iload hx hb d_M_tick_68 (lv_at hl 0 rfl) ?_
                refine rl_iald (r := 7) (i := nI z) (n := 30) hx hb hK hP (by decide) 0 rfl rfl (vp_in_nI (by omega) (by decide)) d_M_tick_70 ?_
                rw [nI_clamp (by omega)]
                rw [dyM_n (by decide)]
                refine lv_isub hx hb d_M_tick_71 ?_
                refine lv_bipush (v := 100) hx hb d_M_tick_72 (by decide) ?_
                refine lv_irem hx hb d_M_tick_74 (by decide) ?_
                refine lv_iconst (v := 1) hx hb d_M_tick_75 (by decide) ?_
                refine lv_icmp_ne (tgt := 116) hx hb d_M_tick_76 (by decide) (fun c_11 => ?_) (fun c_11 => ?_)
                · refine lv_iconst (v := 0) hx hb d_M_tick_116 (by decide) ?_
                  refine lv_istore (lv' := [(5, .int 0), (4, .int (nI z)), (3, .int (nI (w + 1 + k))), (2, .int (tcM (su τ 0 0 0) w n k + dcM (tsM (su τ 0 0 0) w n k) (nI (w + 1 + k)) z)), (0, .ref (ad 0)), (1, .int (nI T))]) hx hb d_M_tick_117 hl (by decide) rfl (fun ls hl => ?_)
                  refine lv_aload_n hx hb d_M_tick_119 rfl (lv_at hl 4 rfl) ?_
                  refine rl_get (r := 0) (ci := 4) (v := .ref (ad 9)) (C := R_M) (T := F_M) (N := 25) hx hb hG in_M hown hK hP (by decide) gM_0 rfl 9 (by decide) kw_590 (fun _ h9 => h9) rfl d_M_tick_120 ?_
                  refine lv_iload hx hb d_M_tick_123 (lv_at hl 1 rfl) ?_
                  refine lv_dup2_11 hx hb d_M_tick_125 rfl rfl ?_
                  refine rl_iald (r := 9) (i := nI z) (n := 30) hx hb hK hP (by decide) 0 rfl rfl (vp_in_nI (by omega) (by decide)) d_M_tick_126 ?_
                  rw [nI_clamp (by omega)]
                  rw [dyM_at]
                  refine lv_iload hx hb d_M_tick_127 (lv_at hl 0 rfl) ?_
                  refine lv_if_eq (tgt := 136) hx hb d_M_tick_129 (by decide) (fun c_12 => ?_) (fun c_12 => ?_)
                  · refine lv_iconst (v := 0) hx hb d_M_tick_136 (by decide) ?_
                    refine lv_iadd hx hb d_M_tick_137 ?_
                    refine rl_iast (r := 9) (i := nI z) (x := (tsM (su τ 0 0 0) w n k 9 z) + 0) (n := 30) hx hb hK hP hD hS (by decide) 0 rfl rfl (vp_in_nI (by omega) (by decide)) d_M_tick_138 (fun H locs hP hD hS => ?_)
                    rw [nI_clamp (by omega)] at hP hD
                    rw [show rl_w RM ad (va_up (gM cs ad (dyM (tsM (su τ 0 0 0) w n k) (nI (w + 1 + k)) z)) 9 (arI (clM cs 9) 30 (upd ((dyM (tsM (su τ 0 0 0) w n k) (nI (w + 1 + k)) z) 9) z ((tsM (su τ 0 0 0) w n k 9 z) + 0)))) = wM cs ad (su (dyM (tsM (su τ 0 0 0) w n k) (nI (w + 1 + k)) z) 9 z ((tsM (su τ 0 0 0) w n k 9 z) + 0)) from wM_arr (r := 9) (by decide)] at hP hD
                    rw [dyM_f (fun h9 => c_11 h9.2.1)] at hP hD
                    refine lv_iload_n hx hb d_M_tick_139 rfl (lv_at hl 3 rfl) ?_
                    refine lv_iload hx hb d_M_tick_140 (lv_at hl 0 rfl) ?_
                    refine lv_if_eq (tgt := 149) hx hb d_M_tick_142 (by decide) (fun c_13 => ?_) (fun c_13 => ?_)
                    · refine lv_iconst (v := 0) hx hb d_M_tick_149 (by decide) ?_
                      refine lv_iadd hx hb d_M_tick_150 ?_
                      rw [dcM_f (fun h9 => c_11 h9.2.1)]
                      refine lv_istore_n (lv' := [(2, .int (tcM (su τ 0 0 0) w n k + dcM (tsM (su τ 0 0 0) w n k) (nI (w + 1 + k)) (z + 1))), (5, .int 0), (4, .int (nI z)), (3, .int (nI (w + 1 + k))), (0, .ref (ad 0)), (1, .int (nI T))]) hx hb d_M_tick_151 rfl hl (by decide) rfl (fun ls hl => ?_)
                      refine lv_iinc (v := nI (z + 1)) (lv' := [(4, .int (nI (z + 1))), (2, .int (tcM (su τ 0 0 0) w n k + dcM (tsM (su τ 0 0 0) w n k) (nI (w + 1 + k)) (z + 1))), (5, .int 0), (3, .int (nI (w + 1 + k))), (0, .ref (ad 0)), (1, .int (nI T))]) hx hb d_M_tick_152 hl (k := 2) rfl (by first | exact nI_1 _ | exact nI_1 (w + 1 + k) | rfl) (by decide) rfl (fun ls hl => ?_)
                      refine lv_goto (tgt := 43) hx hb d_M_tick_155 (by decide) ?_
                      exact ih_z (n - (z + 1)) (by omega) ls H locs hS (z + 1) (lv_sub hl [0, 3, 1, 4, 5] rfl) hlt_z hP hD rfl
                    · exact absurd (by decide) c_13
                  · exact absurd (by decide) c_12
                · refine lv_aload_n hx hb d_M_tick_79 rfl (lv_at hl 3 rfl) ?_
                  refine rl_get (r := 0) (ci := 4) (v := .ref (ad 9)) (C := R_M) (T := F_M) (N := 25) hx hb hG in_M hown hK hP (by decide) gM_0 rfl 9 (by decide) kw_590 (fun _ h9 => h9) rfl d_M_tick_80 ?_
                  refine lv_iload hx hb d_M_tick_83 (lv_at hl 0 rfl) ?_
                  refine rl_iald (r := 9) (i := nI z) (n := 30) hx hb hK hP (by decide) 0 rfl rfl (vp_in_nI (by omega) (by decide)) d_M_tick_85 ?_
                  rw [nI_clamp (by omega)]
                  rw [dyM_at]
                  refine lv_iconst (v := 3) hx hb d_M_tick_86 (by decide) ?_
                  refine lv_icmp_ge (tgt := 116) hx hb d_M_tick_87 (by decide) (fun c_14 => ?_) (fun c_14 => ?_)
                  · refine lv_iconst (v := 0) hx hb d_M_tick_116 (by decide) ?_
                    refine lv_istore (lv' := [(5, .int 0), (4, .int (nI z)), (3, .int (nI (w + 1 + k))), (2, .int (tcM (su τ 0 0 0) w n k + dcM (tsM (su τ 0 0 0) w n k) (nI (w + 1 + k)) z)), (0, .ref (ad 0)), (1, .int (nI T))]) hx hb d_M_tick_117 hl (by decide) rfl (fun ls hl => ?_)
                    refine lv_aload_n hx hb d_M_tick_119 rfl (lv_at hl 4 rfl) ?_
                    refine rl_get (r := 0) (ci := 4) (v := .ref (ad 9)) (C := R_M) (T := F_M) (N := 25) hx hb hG in_M hown hK hP (by decide) gM_0 rfl 9 (by decide) kw_590 (fun _ h9 => h9) rfl d_M_tick_120 ?_
                    refine lv_iload hx hb d_M_tick_123 (lv_at hl 1 rfl) ?_
                    refine lv_dup2_11 hx hb d_M_tick_125 rfl rfl ?_
                    refine rl_iald (r := 9) (i := nI z) (n := 30) hx hb hK hP (by decide) 0 rfl rfl (vp_in_nI (by omega) (by decide)) d_M_tick_126 ?_
                    rw [nI_clamp (by omega)]
                    rw [dyM_at]
                    refine lv_iload hx hb d_M_tick_127 (lv_at hl 0 rfl) ?_
                    refine lv_if_eq (tgt := 136) hx hb d_M_tick_129 (by decide) (fun c_15 => ?_) (fun c_15 => ?_)
                    · refine lv_iconst (v := 0) hx hb d_M_tick_136 (by decide) ?_
                      refine lv_iadd hx hb d_M_tick_137 ?_
                      refine rl_iast (r := 9) (i := nI z) (x := (tsM (su τ 0 0 0) w n k 9 z) + 0) (n := 30) hx hb hK hP hD hS (by decide) 0 rfl rfl (vp_in_nI (by omega) (by decide)) d_M_tick_138 (fun H locs hP hD hS => ?_)
                      rw [nI_clamp (by omega)] at hP hD
                      rw [show rl_w RM ad (va_up (gM cs ad (dyM (tsM (su τ 0 0 0) w n k) (nI (w + 1 + k)) z)) 9 (arI (clM cs 9) 30 (upd ((dyM (tsM (su τ 0 0 0) w n k) (nI (w + 1 + k)) z) 9) z ((tsM (su τ 0 0 0) w n k 9 z) + 0)))) = wM cs ad (su (dyM (tsM (su τ 0 0 0) w n k) (nI (w + 1 + k)) z) 9 z ((tsM (su τ 0 0 0) w n k 9 z) + 0)) from wM_arr (r := 9) (by decide)] at hP hD
                      rw [dyM_f (fun h9 => Int32.not_lt.mpr c_14 h9.2.2.1)] at hP hD
                      refine lv_iload_n hx hb d_M_tick_139 rfl (lv_at hl 3 rfl) ?_
                      refine lv_iload hx hb d_M_tick_140 (lv_at hl 0 rfl) ?_
                      refine lv_if_eq (tgt := 149) hx hb d_M_tick_142 (by decide) (fun c_16 => ?_) (fun c_16 => ?_)
                      · refine lv_iconst (v := 0) hx hb d_M_tick_149 (by decide) ?_
                        refine lv_iadd hx hb d_M_tick_150 ?_
                        rw [dcM_f (fun h9 => Int32.not_lt.mpr c_14 h9.2.2.1)]
                        refine lv_istore_n (lv' := [(2, .int (tcM (su τ 0 0 0) w n k + dcM (tsM (su τ 0 0 0) w n k) (nI (w + 1 + k)) (z + 1))), (5, .int 0), (4, .int (nI z)), (3, .int (nI (w + 1 + k))), (0, .ref (ad 0)), (1, .int (nI T))]) hx hb d_M_tick_151 rfl hl (by decide) rfl (fun ls hl => ?_)
                        refine lv_iinc (v := nI (z + 1)) (lv' := [(4, .int (nI (z + 1))), (2, .int (tcM (su τ 0 0 0) w n k + dcM (tsM (su τ 0 0 0) w n k) (nI (w + 1 + k)) (z + 1))), (5, .int 0), (3, .int (nI (w + 1 + k))), (0, .ref (ad 0)), (1, .int (nI T))]) hx hb d_M_tick_152 hl (k := 2) rfl (by first | exact nI_1 _ | exact nI_1 (w + 1 + k) | rfl) (by decide) rfl (fun ls hl => ?_)
                        refine lv_goto (tgt := 43) hx hb d_M_tick_155 (by decide) ?_
                        exact ih_z (n - (z + 1)) (by omega) ls H locs hS (z + 1) (lv_sub hl [0, 3, 1, 4, 5] rfl) hlt_z hP hD rfl
                      · exact absurd (by decide) c_16
                    · exact absurd (by decide) c_15
                  · refine lv_aload_n hx hb d_M_tick_90 rfl (lv_at hl 3 rfl) ?_
                    refine rl_get (r := 0) (ci := 4) (v := .ref (ad 8)) (C := R_M) (T := F_M) (N := 25) hx hb hG in_M hown hK hP (by decide) gM_0 rfl 8 (by decide) kw_589 (fun _ h9 => h9) rfl d_M_tick_91 ?_
                    refine lv_iload hx hb d_M_tick_94 (lv_at hl 0 rfl) ?_
                    refine rl_iald (r := 8) (i := nI z) (n := 30) hx hb hK hP (by decide) 0 rfl rfl (vp_in_nI (by omega) (by decide)) d_M_tick_96 ?_
                    rw [nI_clamp (by omega)]
                    rw [dyM_n (by decide)]
                    refine lv_iconst (v := 3) hx hb d_M_tick_97 (by decide) ?_
                    refine lv_icmp_eq (tgt := 116) hx hb d_M_tick_98 (by decide) (fun c_17 => ?_) (fun c_17 => ?_)
                    · refine lv_iconst (v := 0) hx hb d_M_tick_116 (by decide) ?_
                      refine lv_istore (lv' := [(5, .int 0), (4, .int (nI z)), (3, .int (nI (w + 1 + k))), (2, .int (tcM (su τ 0 0 0) w n k + dcM (tsM (su τ 0 0 0) w n k) (nI (w + 1 + k)) z)), (0, .ref (ad 0)), (1, .int (nI T))]) hx hb d_M_tick_117 hl (by decide) rfl (fun ls hl => ?_)
                      refine lv_aload_n hx hb d_M_tick_119 rfl (lv_at hl 4 rfl) ?_
                      refine rl_get (r := 0) (ci := 4) (v := .ref (ad 9)) (C := R_M) (T := F_M) (N := 25) hx hb hG in_M hown hK hP (by decide) gM_0 rfl 9 (by decide) kw_590 (fun _ h9 => h9) rfl d_M_tick_120 ?_
                      refine lv_iload hx hb d_M_tick_123 (lv_at hl 1 rfl) ?_
                      refine lv_dup2_11 hx hb d_M_tick_125 rfl rfl ?_
                      refine rl_iald (r := 9) (i := nI z) (n := 30) hx hb hK hP (by decide) 0 rfl rfl (vp_in_nI (by omega) (by decide)) d_M_tick_126 ?_
                      rw [nI_clamp (by omega)]
                      rw [dyM_at]
                      refine lv_iload hx hb d_M_tick_127 (lv_at hl 0 rfl) ?_
                      refine lv_if_eq (tgt := 136) hx hb d_M_tick_129 (by decide) (fun c_18 => ?_) (fun c_18 => ?_)
                      · refine lv_iconst (v := 0) hx hb d_M_tick_136 (by decide) ?_
                        refine lv_iadd hx hb d_M_tick_137 ?_
                        refine rl_iast (r := 9) (i := nI z) (x := (tsM (su τ 0 0 0) w n k 9 z) + 0) (n := 30) hx hb hK hP hD hS (by decide) 0 rfl rfl (vp_in_nI (by omega) (by decide)) d_M_tick_138 (fun H locs hP hD hS => ?_)
                        rw [nI_clamp (by omega)] at hP hD
                        rw [show rl_w RM ad (va_up (gM cs ad (dyM (tsM (su τ 0 0 0) w n k) (nI (w + 1 + k)) z)) 9 (arI (clM cs 9) 30 (upd ((dyM (tsM (su τ 0 0 0) w n k) (nI (w + 1 + k)) z) 9) z ((tsM (su τ 0 0 0) w n k 9 z) + 0)))) = wM cs ad (su (dyM (tsM (su τ 0 0 0) w n k) (nI (w + 1 + k)) z) 9 z ((tsM (su τ 0 0 0) w n k 9 z) + 0)) from wM_arr (r := 9) (by decide)] at hP hD
                        rw [dyM_f (fun h9 => h9.2.2.2.1 c_17)] at hP hD
                        refine lv_iload_n hx hb d_M_tick_139 rfl (lv_at hl 3 rfl) ?_
                        refine lv_iload hx hb d_M_tick_140 (lv_at hl 0 rfl) ?_
                        refine lv_if_eq (tgt := 149) hx hb d_M_tick_142 (by decide) (fun c_19 => ?_) (fun c_19 => ?_)
                        · refine lv_iconst (v := 0) hx hb d_M_tick_149 (by decide) ?_
                          refine lv_iadd hx hb d_M_tick_150 ?_
                          rw [dcM_f (fun h9 => h9.2.2.2.1 c_17)]
                          refine lv_istore_n (lv' := [(2, .int (tcM (su τ 0 0 0) w n k + dcM (tsM (su τ 0 0 0) w n k) (nI (w + 1 + k)) (z + 1))), (5, .int 0), (4, .int (nI z)), (3, .int (nI (w + 1 + k))), (0, .ref (ad 0)), (1, .int (nI T))]) hx hb d_M_tick_151 rfl hl (by decide) rfl (fun ls hl => ?_)
                          refine lv_iinc (v := nI (z + 1)) (lv' := [(4, .int (nI (z + 1))), (2, .int (tcM (su τ 0 0 0) w n k + dcM (tsM (su τ 0 0 0) w n k) (nI (w + 1 + k)) (z + 1))), (5, .int 0), (3, .int (nI (w + 1 + k))), (0, .ref (ad 0)), (1, .int (nI T))]) hx hb d_M_tick_152 hl (k := 2) rfl (by first | exact nI_1 _ | exact nI_1 (w + 1 + k) | rfl) (by decide) rfl (fun ls hl => ?_)
                          refine lv_goto (tgt := 43) hx hb d_M_tick_155 (by decide) ?_
                          exact ih_z (n - (z + 1)) (by omega) ls H locs hS (z + 1) (lv_sub hl [0, 3, 1, 4, 5] rfl) hlt_z hP hD rfl
                        · exact absurd (by decide) c_19
                      · exact absurd (by decide) c_18
                    · refine lv_aload_n hx hb d_M_tick_101 rfl (lv_at hl 3 rfl) ?_
                      refine rl_get (r := 0) (ci := 4) (v := .ref (ad 8)) (C := R_M) (T := F_M) (N := 25) hx hb hG in_M hown hK hP (by decide) gM_0 rfl 8 (by decide) kw_589 (fun _ h9 => h9) rfl d_M_tick_102 ?_
                      refine lv_iload hx hb d_M_tick_105 (lv_at hl 0 rfl) ?_
                      refine rl_iald (r := 8) (i := nI z) (n := 30) hx hb hK hP (by decide) 0 rfl rfl (vp_in_nI (by omega) (by decide)) d_M_tick_107 ?_
                      rw [nI_clamp (by omega)]
                      rw [dyM_n (by decide)]
                      refine lv_iconst (v := 5) hx hb d_M_tick_108 (by decide) ?_
                      refine lv_icmp_eq (tgt := 116) hx hb d_M_tick_109 (by decide) (fun c_20 => ?_) (fun c_20 => ?_)
                      · refine lv_iconst (v := 0) hx hb d_M_tick_116 (by decide) ?_
                        refine lv_istore (lv' := [(5, .int 0), (4, .int (nI z)), (3, .int (nI (w + 1 + k))), (2, .int (tcM (su τ 0 0 0) w n k + dcM (tsM (su τ 0 0 0) w n k) (nI (w + 1 + k)) z)), (0, .ref (ad 0)), (1, .int (nI T))]) hx hb d_M_tick_117 hl (by decide) rfl (fun ls hl => ?_)
                        refine lv_aload_n hx hb d_M_tick_119 rfl (lv_at hl 4 rfl) ?_
                        refine rl_get (r := 0) (ci := 4) (v := .ref (ad 9)) (C := R_M) (T := F_M) (N := 25) hx hb hG in_M hown hK hP (by decide) gM_0 rfl 9 (by decide) kw_590 (fun _ h9 => h9) rfl d_M_tick_120 ?_
                        refine lv_iload hx hb d_M_tick_123 (lv_at hl 1 rfl) ?_
                        refine lv_dup2_11 hx hb d_M_tick_125 rfl rfl ?_
                        refine rl_iald (r := 9) (i := nI z) (n := 30) hx hb hK hP (by decide) 0 rfl rfl (vp_in_nI (by omega) (by decide)) d_M_tick_126 ?_
                        rw [nI_clamp (by omega)]
                        rw [dyM_at]
                        refine lv_iload hx hb d_M_tick_127 (lv_at hl 0 rfl) ?_
                        refine lv_if_eq (tgt := 136) hx hb d_M_tick_129 (by decide) (fun c_21 => ?_) (fun c_21 => ?_)
                        · refine lv_iconst (v := 0) hx hb d_M_tick_136 (by decide) ?_
                          refine lv_iadd hx hb d_M_tick_137 ?_
                          refine rl_iast (r := 9) (i := nI z) (x := (tsM (su τ 0 0 0) w n k 9 z) + 0) (n := 30) hx hb hK hP hD hS (by decide) 0 rfl rfl (vp_in_nI (by omega) (by decide)) d_M_tick_138 (fun H locs hP hD hS => ?_)
                          rw [nI_clamp (by omega)] at hP hD
                          rw [show rl_w RM ad (va_up (gM cs ad (dyM (tsM (su τ 0 0 0) w n k) (nI (w + 1 + k)) z)) 9 (arI (clM cs 9) 30 (upd ((dyM (tsM (su τ 0 0 0) w n k) (nI (w + 1 + k)) z) 9) z ((tsM (su τ 0 0 0) w n k 9 z) + 0)))) = wM cs ad (su (dyM (tsM (su τ 0 0 0) w n k) (nI (w + 1 + k)) z) 9 z ((tsM (su τ 0 0 0) w n k 9 z) + 0)) from wM_arr (r := 9) (by decide)] at hP hD
                          rw [dyM_f (fun h9 => h9.2.2.2.2 c_20)] at hP hD
                          refine lv_iload_n hx hb d_M_tick_139 rfl (lv_at hl 3 rfl) ?_
                          refine lv_iload hx hb d_M_tick_140 (lv_at hl 0 rfl) ?_
                          refine lv_if_eq (tgt := 149) hx hb d_M_tick_142 (by decide) (fun c_22 => ?_) (fun c_22 => ?_)
                          · refine lv_iconst (v := 0) hx hb d_M_tick_149 (by decide) ?_
                            refine lv_iadd hx hb d_M_tick_150 ?_
                            rw [dcM_f (fun h9 => h9.2.2.2.2 c_20)]
                            refine lv_istore_n (lv' := [(2, .int (tcM (su τ 0 0 0) w n k + dcM (tsM (su τ 0 0 0) w n k) (nI (w + 1 + k)) (z + 1))), (5, .int 0), (4, .int (nI z)), (3, .int (nI (w + 1 + k))), (0, .ref (ad 0)), (1, .int (nI T))]) hx hb d_M_tick_151 rfl hl (by decide) rfl (fun ls hl => ?_)
                            refine lv_iinc (v := nI (z + 1)) (lv' := [(4, .int (nI (z + 1))), (2, .int (tcM (su τ 0 0 0) w n k + dcM (tsM (su τ 0 0 0) w n k) (nI (w + 1 + k)) (z + 1))), (5, .int 0), (3, .int (nI (w + 1 + k))), (0, .ref (ad 0)), (1, .int (nI T))]) hx hb d_M_tick_152 hl (k := 2) rfl (by first | exact nI_1 _ | exact nI_1 (w + 1 + k) | rfl) (by decide) rfl (fun ls hl => ?_)
                            refine lv_goto (tgt := 43) hx hb d_M_tick_155 (by decide) ?_
                            exact ih_z (n - (z + 1)) (by omega) ls H locs hS (z + 1) (lv_sub hl [0, 3, 1, 4, 5] rfl) hlt_z hP hD rfl
                          · exact absurd (by decide) c_22
                        · exact absurd (by decide) c_21
                      · refine lv_iconst (v := 1) hx hb d_M_tick_112 (by decide) ?_
                        refine lv_goto (tgt := 117) hx hb d_M_tick_113 (by decide) ?_
                        refine lv_istore (lv' := [(5, .int 1), (4, .int (nI z)), (3, .int (nI (w + 1 + k))), (2, .int (tcM (su τ 0 0 0) w n k + dcM (tsM (su τ 0 0 0) w n k) (nI (w + 1 + k)) z)), (0, .ref (ad 0)), (1, .int (nI T))]) hx hb d_M_tick_117 hl (by decide) rfl (fun ls hl => ?_)
                        refine lv_aload_n hx hb d_M_tick_119 rfl (lv_at hl 4 rfl) ?_
                        refine rl_get (r := 0) (ci := 4) (v := .ref (ad 9)) (C := R_M) (T := F_M) (N := 25) hx hb hG in_M hown hK hP (by decide) gM_0 rfl 9 (by decide) kw_590 (fun _ h9 => h9) rfl d_M_tick_120 ?_
                        refine lv_iload hx hb d_M_tick_123 (lv_at hl 1 rfl) ?_
                        refine lv_dup2_11 hx hb d_M_tick_125 rfl rfl ?_
                        refine rl_iald (r := 9) (i := nI z) (n := 30) hx hb hK hP (by decide) 0 rfl rfl (vp_in_nI (by omega) (by decide)) d_M_tick_126 ?_
                        rw [nI_clamp (by omega)]
                        rw [dyM_at]
                        refine lv_iload hx hb d_M_tick_127 (lv_at hl 0 rfl) ?_
                        refine lv_if_eq (tgt := 136) hx hb d_M_tick_129 (by decide) (fun c_23 => ?_) (fun c_23 => ?_)
                        · exact absurd c_23 (by decide)
                        · refine lv_iconst (v := 1) hx hb d_M_tick_132 (by decide) ?_
                          refine lv_goto (tgt := 137) hx hb d_M_tick_133 (by decide) ?_
                          refine lv_iadd hx hb d_M_tick_137 ?_
                          refine rl_iast (r := 9) (i := nI z) (x := (tsM (su τ 0 0 0) w n k 9 z) + 1) (n := 30) hx hb hK hP hD hS (by decide) 0 rfl rfl (vp_in_nI (by omega) (by decide)) d_M_tick_138 (fun H locs hP hD hS => ?_)
                          rw [nI_clamp (by omega)] at hP hD
                          rw [show rl_w RM ad (va_up (gM cs ad (dyM (tsM (su τ 0 0 0) w n k) (nI (w + 1 + k)) z)) 9 (arI (clM cs 9) 30 (upd ((dyM (tsM (su τ 0 0 0) w n k) (nI (w + 1 + k)) z) 9) z ((tsM (su τ 0 0 0) w n k 9 z) + 1)))) = wM cs ad (su (dyM (tsM (su τ 0 0 0) w n k) (nI (w + 1 + k)) z) 9 z ((tsM (su τ 0 0 0) w n k 9 z) + 1)) from wM_arr (r := 9) (by decide)] at hP hD
                          rw [dyM_t ⟨Int32.not_le.mp c_8, c_11, Int32.not_le.mp c_14, c_17, c_20⟩] at hP hD
                          refine lv_iload_n hx hb d_M_tick_139 rfl (lv_at hl 3 rfl) ?_
                          refine lv_iload hx hb d_M_tick_140 (lv_at hl 0 rfl) ?_
                          refine lv_if_eq (tgt := 149) hx hb d_M_tick_142 (by decide) (fun c_24 => ?_) (fun c_24 => ?_)
                          · exact absurd c_24 (by decide)
                          · refine lv_iconst (v := 1) hx hb d_M_tick_145 (by decide) ?_
                            refine lv_goto (tgt := 150) hx hb d_M_tick_146 (by decide) ?_
                            refine lv_iadd hx hb d_M_tick_150 ?_
                            rw [dcM_t ⟨Int32.not_le.mp c_8, c_11, Int32.not_le.mp c_14, c_17, c_20⟩]
                            refine lv_istore_n (lv' := [(2, .int (tcM (su τ 0 0 0) w n k + dcM (tsM (su τ 0 0 0) w n k) (nI (w + 1 + k)) (z + 1))), (5, .int 1), (4, .int (nI z)), (3, .int (nI (w + 1 + k))), (0, .ref (ad 0)), (1, .int (nI T))]) hx hb d_M_tick_151 rfl hl (by decide) rfl (fun ls hl => ?_)
                            refine lv_iinc (v := nI (z + 1)) (lv' := [(4, .int (nI (z + 1))), (2, .int (tcM (su τ 0 0 0) w n k + dcM (tsM (su τ 0 0 0) w n k) (nI (w + 1 + k)) (z + 1))), (5, .int 1), (3, .int (nI (w + 1 + k))), (0, .ref (ad 0)), (1, .int (nI T))]) hx hb d_M_tick_152 hl (k := 2) rfl (by first | exact nI_1 _ | exact nI_1 (w + 1 + k) | rfl) (by decide) rfl (fun ls hl => ?_)
                            refine lv_goto (tgt := 43) hx hb d_M_tick_155 (by decide) ?_
                            exact ih_z (n - (z + 1)) (by omega) ls H locs hS (z + 1) (lv_sub hl [0, 3, 1, 4, 5] rfl) hlt_z hP hD rfl
    · exact absurd (by decide) c_5
