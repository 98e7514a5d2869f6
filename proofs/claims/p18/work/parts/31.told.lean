/-- of sample i the results told in the first k measures are settled -/
def seM (σ : Nat → Nat → Int32) (i k : Nat) : Nat → Nat → Int32 := fun a b => if a = 2000 + i ∧ b < k ∧ ¬ σ (1000 + i) b = -1 then 1 else σ a b
theorem seM_0 {σ : Nat → Nat → Int32} {i : Nat} : seM σ i 0 = σ := funext fun a => funext fun b => if_neg (fun h => absurd h.2.1 (Nat.not_lt_zero _))
theorem seM_ne {σ : Nat → Nat → Int32} {i k a b : Nat} (h : a ≠ 2000 + i) : seM σ i k a b = σ a b := if_neg (fun q => h q.1)
theorem seM_s {σ : Nat → Nat → Int32} {i z : Nat} (h : ¬ σ (1000 + i) z = -1) : su (seM σ i z) (2000 + i) z 1 = seM σ i (z + 1) := funext fun a => funext fun b => by
  unfold su seM
  by_cases e : a = 2000 + i ∧ b = z
  · rw [if_pos e, if_pos ⟨e.1, by omega, by rw [e.2]; exact h⟩]
  · rw [if_neg e]
    by_cases e2 : a = 2000 + i ∧ b < z ∧ ¬ σ (1000 + i) b = -1
    · rw [if_pos e2, if_pos ⟨e2.1, by omega, e2.2.2⟩]
    · rw [if_neg e2, if_neg (fun q => e2 ⟨q.1, Nat.lt_of_le_of_ne (Nat.le_of_lt_succ q.2.1) (fun w => e ⟨q.1, w⟩), q.2.2⟩)]
theorem seM_k {σ : Nat → Nat → Int32} {i z : Nat} (h : σ (1000 + i) z = -1) : seM σ i (z + 1) = seM σ i z := funext fun a => funext fun b => by
  unfold seM
  by_cases e2 : a = 2000 + i ∧ b < z ∧ ¬ σ (1000 + i) b = -1
  · rw [if_pos e2, if_pos ⟨e2.1, by omega, e2.2.2⟩]
  · rw [if_neg e2, if_neg (fun q => e2 ⟨q.1, Nat.lt_of_le_of_ne (Nat.le_of_lt_succ q.2.1) (fun w => q.2.2 (w ▸ h)), q.2.2⟩)]
set_option maxHeartbeats 4000000 in
set_option maxRecDepth 100000 in
theorem c_S_settleTold (l : Launch) (D : va_G) (cs : Nat → ClassId) (ad : Nat → Nat) (σ : Nat → Nat → Int32) (n nm ci cj E : Nat) (hI : Iv n nm ci cj) (i : Nat) (hi : i < nm) (sz : Nat) : Met l y_S_settleTold (Cond.code y_S_settleTold b_S_settleTold 2 none :: GW) ({ frames := 0, cells := 0, slots := 0, locals := 0 }) (va_Pc [.ref (ad (200 + i))] (wr_B D cs (wC cs ad σ n nm ci cj E) sz)) (va_Qv (fun (u : Nat → Nat → Int32) => u = seM σ i 4) (fun u => wr_T D cs (wC cs ad u n nm ci cj E) (va_A (wC cs ad σ n nm ci cj E) sz)) (va_A (wC cs ad σ n nm ci cj E) sz)) 0 0 (va_A (wC cs ad σ n nm ci cj E) sz) := by
  refine Met.ofW (cc := b_S_settleTold) (maxL := 2) (ret := none) (by decide) rfl ?_
  intro p e s m args below meth c s₁ B hml hv
  obtain ⟨rfl, hsz, hP, hK, hD0⟩ := hv
  have hx := B.exec
  have hb := B.bytes
  have hr := B.returns
  have hts := atoms_spec (ws := Cond.code y_S_settleTold b_S_settleTold 2 none :: GW) B.pre
  have hG : ∀ w ∈ GW, w.before _ s = true := fun w h => hts w (List.mem_cons_of_mem _ h)
  have hown : s.vm.findClass R_S = some m.cls := findClass_of_methodNamed B.named
  have hlocks := B.notSynchronized
  subst hsz
  have hD := hD0.self (sz := s.heap.size)
  generalize hAe : va_A (wC cs ad σ n nm ci cj E) s.heap.size = A at hD ⊢
  have hA : ∀ q : Nat, s.heap.size ≤ q → A q := fun q h => by rw [← hAe]; exact Or.inr h
  have hS : va_S A s.heap s.heap [] := va_S.rf
  have hl := lv_entry ([.ref (ad (200 + i))]) (n := 2) (Nat.le_of_ble_eq_true rfl)
  rw [lg_entry_eq]
  generalize (lg_sl ([.ref (ad (200 + i))]) ++ List.replicate (2 - (lg_sl ([.ref (ad (200 + i))])).length) Slot.unset).toArray = ls at hl ⊢
  have hl : lv_has ls 2 [(0, .ref (ad (200 + i)))] := hl
  refine lv_iconst (v := 0) hx hb d_S_settleTold_0 (by decide) ?_
  refine lv_istore_n (lv' := [(1, .int 0), (0, .ref (ad (200 + i)))]) hx hb d_S_settleTold_1 rfl hl (by decide) rfl (fun ls hl => ?_)
  obtain ⟨H9, eH⟩ : ∃ H9 : Heap, H9 = s.heap := ⟨_, rfl⟩
  obtain ⟨L9, eL⟩ : ∃ L9 : List Loc, L9 = [] := ⟨_, rfl⟩
  have hS : va_S A s.heap H9 L9 := by rw [eH, eL]; exact hS
  have hP0 : va_P D cls_ (wC cs ad (seM σ i 0) n nm ci cj E) H9 := by rw [eH, seM_0]; exact hP
  have hD0 : va_D A (wC cs ad (seM σ i 0) n nm ci cj E) := by rw [seM_0]; exact hD
  rw [← eH, ← eL]
  clear eH eL
  replace hl : ∃ z : Nat, lv_has ls 2 [(1, .int (nI z)), (0, .ref (ad (200 + i)))] ∧ z ≤ 4 ∧ va_P D cls_ (wC cs ad (seM σ i z) n nm ci cj E) H9 ∧ va_D A (wC cs ad (seM σ i z) n nm ci cj E) := ⟨0, hl, Nat.zero_le _, hP0, hD0⟩
  clear hP0 hD0
  obtain ⟨z, hl, hle_z, hP, hD⟩ := hl
  obtain ⟨k_z, hk_z⟩ : ∃ k, 4 - z = k := ⟨_, rfl⟩
  induction k_z using Nat.strongRecOn generalizing z ls H9 L9 with
  | _ k_z ih_z =>
    refine lv_iload_n hx hb d_S_settleTold_2 rfl (lv_at hl 0 rfl) ?_
    refine lv_iconst (v := 4) hx hb d_S_settleTold_3 (by decide) ?_
    refine lv_icmp_ge (tgt := 30) hx hb d_S_settleTold_4 (by decide) (fun c_1 => ?_) (fun c_1 => ?_)
    · have hz_z : z = 4 := nI_exit hle_z c_1 (by decide)
      subst hz_z
      exact W.vret hx hb hr (fun t ht hW => ⟨⟨seM σ i 4, rfl, rfl, by rw [ht]; exact hP, va_K.moved hW.alike hK, hD⟩, hS.F ht⟩) hS.2.2 d_S_settleTold_30
    · have hlt_z : z < 4 := nI_go hle_z c_1 (by decide)
      refine lv_aload_n hx hb d_S_settleTold_7 rfl (lv_at hl 1 rfl) ?_
      refine rl_get (r := 200 + i) (ci := 3) (v := .ref (ad (300 + i))) (C := R_S) (T := F_S) (N := 4) hx hb hG in_S hown hK hP (RC_sam hi) (gC_sam (by have := hI; unfold Iv at this; omega)) rfl 2 (by decide) kw_473 (fun _ h9 => h9) rfl d_S_settleTold_8 ?_
      refine lv_iload_n hx hb d_S_settleTold_11 rfl (lv_at hl 0 rfl) ?_
      refine rl_iald (r := 300 + i) (i := nI z) hx hb hK hP (RC_fou hi) 0 (gC_fou (by have := hI; unfold Iv at this; omega)) rfl (vp_in_nI (Nat.lt_of_lt_of_le hlt_z (by decide)) (by decide)) d_S_settleTold_12 ?_
      rw [nI_clamp (Nat.lt_of_lt_of_le hlt_z (by decide))]
      rw [seM_ne (by omega)]
      refine lv_iconst (v := (-1)) hx hb d_S_settleTold_13 (by decide) ?_
      refine lv_icmp_eq (tgt := 24) hx hb d_S_settleTold_14 (by decide) (fun c_2 => ?_) (fun c_2 => ?_)
      · refine lv_iinc (v := nI (z + 1)) (lv' := [(1, .int (nI (z + 1))), (0, .ref (ad (200 + i)))]) hx hb d_S_settleTold_24 hl (k := 0) rfl (by exact nI_1 _) (by decide) rfl (fun ls hl => ?_)
        refine lv_goto (tgt := 2) hx hb d_S_settleTold_27 (by decide) ?_
        rw [← seM_k c_2] at hP hD
        exact ih_z (4 - (z + 1)) (by omega) ls H9 L9 hS (z + 1) (lv_sub hl [0, 1] rfl) hlt_z hP hD rfl
      · refine lv_aload_n hx hb d_S_settleTold_17 rfl (lv_at hl 1 rfl) ?_
        refine rl_get (r := 200 + i) (ci := 3) (v := .ref (ad (400 + i))) (C := R_S) (T := F_S) (N := 4) hx hb hG in_S hown hK hP (RC_sam hi) (gC_sam (by have := hI; unfold Iv at this; omega)) rfl 3 (by decide) kw_475 (fun _ h9 => h9) rfl d_S_settleTold_18 ?_
        refine lv_iload_n hx hb d_S_settleTold_21 rfl (lv_at hl 0 rfl) ?_
        refine lv_iconst (v := 1) hx hb d_S_settleTold_22 (by decide) ?_
        refine rl_zast (r := 400 + i) (i := nI z) (x := 1) hx hb hK hP hD hS (RC_set hi) 1 (gC_set (by have := hI; unfold Iv at this; omega)) rfl (vp_in_nI hlt_z (by decide)) d_S_settleTold_23 (fun H locs hP hD hS => ?_)
        rw [nI_clamp (Nat.lt_trans hlt_z (by decide)), show vp_nar .boolean (1 : Int32) = 1 from rfl, wC_set (hn_ hI) (hm_ hI) (by have := hI; unfold Iv at this; omega), seM_s c_2] at hP hD
        refine lv_iinc (v := nI (z + 1)) (lv' := [(1, .int (nI (z + 1))), (0, .ref (ad (200 + i)))]) hx hb d_S_settleTold_24 hl (k := 0) rfl (by exact nI_1 _) (by decide) rfl (fun ls hl => ?_)
        refine lv_goto (tgt := 2) hx hb d_S_settleTold_27 (by decide) ?_
        exact ih_z (4 - (z + 1)) (by omega) ls H locs hS (z + 1) (lv_sub hl [0, 1] rfl) hlt_z hP hD rfl
