def xnm (c : Nat) : String := if c = 1 then xe_A else xe_S
theorem va_up_up {α : Type} {g : Nat → α} {r : Nat} {x y : α} : va_up (va_up g r x) r y = va_up g r y := funext fun j => by
  by_cases h : j = r
  · subst h
    rw [va_up_self, va_up_self]
  · rw [va_up_ne _ _ h, va_up_ne _ _ h, va_up_ne _ _ h]
theorem obj_Any {D : va_G} {tys : List (ClassId × FieldType)} {s : State} {H : Heap} {a ci : Nat} {fs : List Value} {r : vw_C} (hK : va_K D cls_ tys s) (h : va_at D cls_ (a, .inr (ci, fs)) H) (hc : cls_[ci]? = some r) (hn : va_Nw (.castable r.1 ob_N) s) : va_Any ob_N s H a :=
  va_rAny (ws := [(a, .inr (ci, fs))]) (q0 := 0) hK (fun k q hk => by
    have h3 := (List.getElem?_eq_some_iff.mp hk).1
    simp at h3
    subst h3
    cases hk
    exact h) rfl hc (fun comp c0 h1 h2 => vb_asgC hn comp c0 h1 h2)
theorem RC_newI {n nm : Nat} (hn : n < 30) (hm : nm ≤ 40) : 100 + n ∉ RC n nm := fun hr => by
  rcases RC_is hr with h | ⟨d, hd, h⟩ | ⟨-, h⟩ | ⟨-, h⟩ | ⟨i, hi, h⟩ | ⟨i, hi, h⟩ | ⟨i, hi, h⟩ | ⟨i, hi, h⟩ <;> first | omega | (simp only [List.mem_cons, List.not_mem_nil, or_false] at h; omega)
theorem adI_pre {D : va_G} {cs : Nat → ClassId} {ad : Nat → Nat} {σ : Nat → Nat → Int32} {n nm ci cj E : Nat} {A : Nat → Prop} {H0 H : Heap} {locs : List Loc} {q : Nat} {fs : List Value} {s : State} (hn : n < 30) (hm : nm ≤ 40) (hK : va_K D cls_ (tys_ cs) s) (hg : va_Nw (.castable R_I ob_N) s)
    (hP : va_P D cls_ (rl_w (RC n nm ++ [100 + n]) (va_up ad (100 + n) q) (va_up (gC cs ad σ n nm ci cj E) (100 + n) (.inr (2, fs)))) H) (hD : va_D A (rl_w (RC n nm ++ [100 + n]) (va_up ad (100 + n) q) (va_up (gC cs ad σ n nm ci cj E) (100 + n) (.inr (2, fs))))) (hS : va_S A H0 H locs) (hA : ∀ x, H0.size ≤ x → A x) :
    va_P D cls_ (adW cs (ad 1) (ad 3) n ci E (σ 7 0) (rowsF 100 n ad)) H ∧ va_D (fun _ => True) (adW cs (ad 1) (ad 3) n ci E (σ 7 0) (rowsF 100 n ad)) ∧ (∀ x, va_A (adW cs (ad 1) (ad 3) n ci E (σ 7 0) (rowsF 100 n ad)) H.size x → A x) ∧ (q ≠ ad 1 ∧ (¬ n = 0 → q ≠ ad 3) ∧ va_Any ob_N s H q) ∧ ∀ i y, i < n → rowsF 100 n ad i = some y → y ≠ ad 3 ∧ y ≠ ad 1 ∧ va_Any ob_N s H y := by
  have hPm := rl_P_iff.mp hP
  have hold : ∀ r, r ∈ RC n nm → r ≠ 100 + n := fun r hr e => RC_newI hn hm (e ▸ hr)
  have adr : ∀ r, r ∈ RC n nm → va_up ad (100 + n) q r = ad r := fun r hr => va_up_ne _ _ (hold r hr)
  have inl : ∀ r, r ∈ RC n nm → r ∈ RC n nm ++ [100 + n] := fun r hr => List.mem_append_left _ hr
  have inr : 100 + n ∈ RC n nm ++ [100 + n] := List.mem_append_right _ (List.mem_singleton.mpr rfl)
  have hat : ∀ r, r ∈ RC n nm → va_at D cls_ (ad r, gC cs ad σ n nm ci cj E r) H := fun r hr => by
    have h := hPm r (inl r hr)
    rw [adr r hr, va_up_ne _ _ (hold r hr)] at h
    exact h
  have hatq : va_at D cls_ (q, .inr (2, fs)) H := by
    have h := hPm _ inr
    rw [va_up_self, va_up_self] at h
    exact h
  have hinj : ∀ r, r ∈ RC n nm → ∀ r', r' ∈ RC n nm → ad r = ad r' → r = r' := fun r hr r' hr' e => rl_D_inj hD (inl r hr) (inl r' hr') (by rw [adr r hr, adr r' hr']; exact e)
  have hqne : ∀ r, r ∈ RC n nm → q ≠ ad r := fun r hr e => hold r hr (rl_D_inj hD (inl r hr) inr (by rw [adr r hr, va_up_self]; exact e.symm))
  have r1 : (1 : Nat) ∈ RC n nm := RC_f (by decide)
  have hA1 : A (ad 1) := by
    have := rl_D_in hD (inl 1 r1)
    rw [adr 1 r1] at this
    exact this
  have h1 := hat 1 r1
  rw [gC_1'] at h1
  refine ⟨?_, ?_, ?_, ⟨hqne 1 r1, fun h0 => hqne 3 (RC_3 (by omega)), obj_Any hK hatq rfl hg⟩, fun i y hi hy => ?_⟩
  · by_cases h0 : n = 0
    · subst h0
      rw [adW_0]
      intro k x hk
      have h3 := (List.getElem?_eq_some_iff.mp hk).1
      simp at h3
      subst h3
      cases hk
      exact h1
    · rw [adW_p h0]
      have h3 := hat 3 (RC_3 (by omega))
      rw [gC_3] at h3
      rw [if_neg h0] at h1
      intro k x hk
      match k, hk with
      | 0, hk => cases hk; exact h1
      | 1, hk => cases hk; exact h3
      | _ + 2, hk => cases hk
  · by_cases h0 : n = 0
    · subst h0
      rw [adW_0]
      exact va_D1
    · rw [adW_p h0]
      refine ⟨fun i j x y hx hy e => ?_, fun _ _ _ => trivial⟩
      match i, hx, j, hy with
      | 0, hx, 0, hy => rfl
      | 1, hx, 1, hy => rfl
      | 0, hx, 1, hy =>
        cases hx
        cases hy
        have := hinj 1 r1 3 (RC_3 (by omega)) e
        omega
      | 1, hx, 0, hy =>
        cases hx
        cases hy
        have := hinj 3 (RC_3 (by omega)) 1 r1 e
        omega
      | _ + 2, hx, _, _ => cases hx
      | _, _, _ + 2, hy => cases hy
  · intro x hx
    rcases adW_in hx with h | ⟨h0, h⟩ | h
    · rw [h]
      exact hA1
    · rw [h]
      have := rl_D_in hD (inl 3 (RC_3 (by omega)))
      rw [adr 3 (RC_3 (by omega))] at this
      exact this
    · exact hA x (Nat.le_trans hS.1 h)
  · have hm9 : 100 + i ∈ RC n nm := RC_ins hi
    rw [show rowsF 100 n ad i = some (ad (100 + i)) from if_pos hi] at hy
    cases hy
    have h9 := hat _ hm9
    rw [gC_ins (by omega)] at h9
    refine ⟨fun e => ?_, fun e => ?_, obj_Any hK h9 rfl hg⟩
    · have := hinj _ hm9 3 (RC_3 (by omega)) e
      omega
    · have := hinj _ hm9 1 r1 e
      omega
set_option maxHeartbeats 4000000 in
set_option maxRecDepth 100000 in
theorem c_C_inspection (l : Launch) (D : va_G) (cs : Nat → ClassId) (ad : Nat → Nat) (σ : Nat → Nat → Int32) (n nm ci cj E : Nat) (hI : Iv n nm ci cj) (mi : Nat) (hst : l.stackTraces = false) (sz : Nat) (p0 p1 p2 : Int32) : vx_Met l y_C_inspection (Cond.code y_C_inspection b_C_inspection 4 (some .int) :: GW) ({ frames := 8, cells := 3, slots := 120, locals := 256 }) (va_Pc [.ref (ad 0), .int p0, .int p1, .int p2] (fun U => xr_B D cs (wC cs ad σ n nm ci cj E) sz U ∧ gr_K mi U ∧ em_E D cs E (va_A (wC cs ad σ n nm ci cj E) sz) U U.heap)) (va_Qi (fun r (u : (Nat → Nat) × Nat) => ((0 ≤ p0 ∧ p0 ≤ 9) ∧ (0 ≤ p1 ∧ p1 ≤ 4) ∧ (σ 0 0 ≤ p2 ∧ p2 ≤ 100000)) ∧ n < 30 ∧ r = nI n ∧ n + 1 ≤ u.2 ∧ u.2 ≤ 100 ∧ u.1 0 = ad 0) (fun u => wr_T D cs (wC cs u.1 (nwI σ n p0 p1 p2) (n + 1) nm u.2 cj E) (va_A (wC cs ad σ n nm ci cj E) sz)) (va_A (wC cs ad σ n nm ci cj E) sz)) (vx_X (fun c : Nat => (c = 1 ∧ ¬ ((0 ≤ p0 ∧ p0 ≤ 9) ∧ (0 ≤ p1 ∧ p1 ≤ 4) ∧ (σ 0 0 ≤ p2 ∧ p2 ≤ 100000))) ∨ (c = 2 ∧ ((0 ≤ p0 ∧ p0 ≤ 9) ∧ (0 ≤ p1 ∧ p1 ≤ 4) ∧ (σ 0 0 ≤ p2 ∧ p2 ≤ 100000)) ∧ n = 30)) (fun E9 c t => E9 = xnm c ∧ wr_T D cs (wC cs ad σ n nm ci cj E) (va_A (wC cs ad σ n nm ci cj E) sz) t) (va_A (wC cs ad σ n nm ci cj E) sz)) 3 120 (va_A (wC cs ad σ n nm ci cj E) sz) := by
  refine vx_ofW (cc := b_C_inspection) (maxL := 4) (ret := (some .int)) (by decide) rfl ?_
  intro p e s m args below meth c s₁ B hml hnt hv
  obtain ⟨rfl, ⟨⟨hsz, hP, hK, hD0⟩, hX, hZ⟩, hg, hE⟩ := hv
  have hx := B.exec
  have hb := B.bytes
  have hr := B.returns
  have hts := atoms_spec (ws := Cond.code y_C_inspection b_C_inspection 4 (some .int) :: GW) B.pre
  have hG : ∀ w ∈ GW, w.before _ s = true := fun w h => hts w (List.mem_cons_of_mem _ h)
  have hown : s.vm.findClass R_C = some m.cls := findClass_of_methodNamed B.named
  have hlocks := B.notSynchronized
  subst hsz
  have hD := hD0.self (sz := s.heap.size)
  generalize hAe : va_A (wC cs ad σ n nm ci cj E) s.heap.size = A at hD hZ hE ⊢
  have hA : ∀ q : Nat, s.heap.size ≤ q → A q := fun q h => by rw [← hAe]; exact Or.inr h
  have hS : va_S A s.heap s.heap [] := va_S.rf
  have hl := lv_entry ([.ref (ad 0), .int p0, .int p1, .int p2]) (n := 4) (Nat.le_of_ble_eq_true rfl)
  rw [lg_entry_eq]
  generalize (lg_sl ([.ref (ad 0), .int p0, .int p1, .int p2]) ++ List.replicate (4 - (lg_sl ([.ref (ad 0), .int p0, .int p1, .int p2])).length) Slot.unset).toArray = ls at hl ⊢
  have hl : lv_has ls 4 [(0, .ref (ad 0)), (1, .int p0), (2, .int p1), (3, .int p2)] := hl
  refine lv_iload_n hx hb d_C_inspection_0 rfl (lv_at hl 1 rfl) ?_
  refine vp_callSi (W.runS (As := [.int p0]) (rest := []) ⟨hx, hb, hml, hown, hts⟩ (c_C_isDeclaration l p0) (va_cwS 1 hts (gw_S kw_143 kw_144 kw_1 kw_145) rfl rfl rfl (by decide +kernel) ⟨Nat.le_of_ble_eq_true rfl, Nat.le_of_ble_eq_true rfl⟩) ⟨fun _ _ _ _ q => q, fun U _ _ => ⟨rfl, trivial⟩⟩ rfl rfl hl.1 rfl (lv_room (Nat.le_of_ble_eq_true rfl)) d_C_inspection_1 ⟨Nat.zero_le _, Nat.zero_le _⟩) (fun r_1 h_2 => ?_)
  subst h_2
  refine lv_if_eq (tgt := 16) hx hb d_C_inspection_4 (by decide) (fun c_3 => ?_) (fun c_3 => ?_)
  · exact vx_throwS (own := "InspectSteps") (cls := xe_A) (text := "no such declaration or kind") (names := xe_up) (ik := 68) (is := 70) (ic := 72) (A := A) hx hb hst hown (by decide) (by decide) (hG _ kw_192) (hG _ kw_10) (hX.2 (70, "no such declaration or kind") (by decide)).choose_spec (xa_A hG hX) xa_A3 hZ.1 hZ.2 hS (hl.1.trans hml.symm) d_C_inspection_16 d_C_inspection_19 d_C_inspection_20 d_C_inspection_22 d_C_inspection_25 (fun x h => (hnt x h).elim) (Nat.le_of_ble_eq_true rfl) (Nat.le_of_ble_eq_true rfl) (Nat.le_of_ble_eq_true rfl) (Nat.le_of_ble_eq_true rfl) hlocks (fun t ha hz hk => ⟨1, Or.inl ⟨rfl, fun h9 => (b2i_eq0.mp c_3) h9.1⟩, ⟨rfl, (thr_T hS hP hK hD ha hz hk).1⟩, (thr_T hS hP hK hD ha hz hk).2⟩) hS.2.2 (Nat.le_of_ble_eq_true rfl) (Nat.le_of_ble_eq_true rfl)
  · refine lv_iload_n hx hb d_C_inspection_7 rfl (lv_at hl 2 rfl) ?_
    refine lv_iconst (v := 0) hx hb d_C_inspection_8 (by decide) ?_
    refine lv_iconst (v := 4) hx hb d_C_inspection_9 (by decide) ?_
    refine vp_callSi (W.runS (As := [.int p1, .int 0, .int 4]) (rest := []) ⟨hx, hb, hml, hown, hts⟩ (c_C_isWithin l p1 0 4) (va_cwS 3 hts (gw_S kw_98 kw_99 kw_1 kw_100) rfl rfl rfl (by decide +kernel) ⟨Nat.le_of_ble_eq_true rfl, Nat.le_of_ble_eq_true rfl⟩) ⟨fun _ _ _ _ q => q, fun U _ _ => ⟨rfl, trivial⟩⟩ rfl rfl hl.1 rfl (lv_room (Nat.le_of_ble_eq_true rfl)) d_C_inspection_10 ⟨Nat.zero_le _, Nat.zero_le _⟩) (fun r_4 h_5 => ?_)
    subst h_5
    refine lv_if_ne (tgt := 26) hx hb d_C_inspection_13 (by decide) (fun c_6 => ?_) (fun c_6 => ?_)
    · refine lv_aload_n hx hb d_C_inspection_26 rfl (lv_at hl 0 rfl) ?_
      refine lv_iload_n hx hb d_C_inspection_27 rfl (lv_at hl 3 rfl) ?_
      refine vp_callSi (W.runV (As := [.int p2]) (rest := []) ⟨hx, hb, hml, hown, hts⟩ (c_C_isTimeToCome l D cs ad σ n nm ci cj E hI p2) (cwV 1 hts (gw_V kw_260 kw_262 ks_0_6 kw_1 kw_263) rfl rfl rfl (by decide +kernel) ⟨Nat.le_of_ble_eq_true rfl, Nat.le_of_ble_eq_true rfl⟩) (rd_V hP hK (rl_recv hK hP (RC_f (by decide)) gC_0 rfl)) rfl rfl hl.1 rfl (lv_room (Nat.le_of_ble_eq_true rfl)) d_C_inspection_28 ⟨Nat.zero_le _, Nat.zero_le _⟩) (fun r_7 h_8 => ?_)
      subst h_8
      refine lv_if_ne (tgt := 44) hx hb d_C_inspection_31 (by decide) (fun c_9 => ?_) (fun c_9 => ?_)
      · refine lv_aload_n hx hb d_C_inspection_44 rfl (lv_at hl 0 rfl) ?_
        refine rl_get (r := 0) (ci := 1) (v := .ref (ad 1)) (C := R_C) (T := F_C) (N := 10) hx hb hG in_C hown hK hP (RC_f (by decide)) gC_0 rfl 0 (by decide) kw_59 (fun _ h9 => h9) rfl d_C_inspection_45 ?_
        refine vp_callSi (W.runV (As := []) (rest := []) ⟨hx, hb, hml, hown, hts⟩ (c_Al_size l D (tys_ cs) (ad 1) (.ref (if n = 0 then E else ad 3)) (nI n) (σ 7 0)) (cwV 0 hts (gw_V kw_116 kw_117 kw_118 kw_4 kw_119) rfl rfl rfl (by decide +kernel) ⟨Nat.le_of_ble_eq_true rfl, Nat.le_of_ble_eq_true rfl⟩) (rd_V (rl_one hP (RC_f (by decide)) gC_1') hK (rl_recv hK hP (RC_f (by decide)) gC_1' rfl)) rfl rfl hl.1 rfl (lv_room (Nat.le_of_ble_eq_true rfl)) d_C_inspection_48 ⟨Nat.zero_le _, Nat.zero_le _⟩) (fun r_10 h_11 => ?_)
        subst h_11
        refine lv_bipush (v := 30) hx hb d_C_inspection_51 (by decide) ?_
        refine lv_icmp_lt (tgt := 66) hx hb d_C_inspection_53 (by decide) (fun c_12 => ?_) (fun c_12 => ?_)
        · have hn30 : n < 30 := (nI_ltI (a := n) (b := 30) (by have := hI; unfold Iv at this; omega) (by decide)).mp c_12
          have hm40 := hm_ hI
          have hrn := RC_newI (n := n) (nm := nm) hn30 hm40
          have inr : 100 + n ∈ RC n nm ++ [100 + n] := List.mem_append_right _ (List.mem_singleton.mpr rfl)
          refine lv_aload_n hx hb d_C_inspection_66 rfl (lv_at hl 0 rfl) ?_
          refine rl_get (r := 0) (ci := 1) (v := .ref (ad 1)) (C := R_C) (T := F_C) (N := 10) hx hb hG in_C hown hK hP (RC_f (by decide)) gC_0 rfl 0 (by decide) kw_59 (fun _ h9 => h9) rfl d_C_inspection_67 ?_
          refine rl_new (C := R_I) (T := F_I) (N := 10) (ci := 2) hx hb hG in_I T_I T_I_ok hown kw_134 kw_282 kw_12 hK hP hD hS hA rfl hrn (fs := [.int 0, .int 0, .int 0, .int 0, .int 0, .int 0, .int 0, .int 0, .int 0, .int 0]) (by decide +kernel) (Nat.le_of_ble_eq_true rfl) (Nat.le_of_ble_eq_true rfl) d_C_inspection_70 (fun q H hP hD hS => ?_)
          have eq : va_up ad (100 + n) q (100 + n) = q := va_up_self _ _ _
          refine lv_dup hx hb d_C_inspection_73 rfl ?_
          refine lv_iload_n hx hb d_C_inspection_74 rfl (lv_at hl 1 rfl) ?_
          refine lv_iload_n hx hb d_C_inspection_75 rfl (lv_at hl 2 rfl) ?_
          refine lv_iload_n hx hb d_C_inspection_76 rfl (lv_at hl 3 rfl) ?_
          have hPc : va_P D cls_ [(q, .inr (2, [.int 0, .int 0, .int 0, .int 0, .int 0, .int 0, .int 0, .int 0, .int 0, .int 0]))] H := by
            have h := rl_one hP inr (va_up_self _ _ _)
            rw [eq] at h
            exact h
          have hFc : ∀ x, va_A [(q, .inr (2, [.int 0, .int 0, .int 0, .int 0, .int 0, .int 0, .int 0, .int 0, .int 0, .int 0]))] H.size x → A x := by
            have h := rl_free1 (r := 100 + n) (x := .inr (2, [.int 0, .int 0, .int 0, .int 0, .int 0, .int 0, .int 0, .int 0, .int 0, .int 0])) hD hS hA inr
            rw [eq] at h
            exact h
          refine va_callv (va_runI (As := [.int p0, .int p1, .int p2]) (rest := [.ref q, .ref (ad 1)]) ⟨hx, hb, hml, hown, hts⟩ (c_I_init l D (tys_ cs) q p0 p1 p2 H.size) (cwI 3 hts (gw_I kw_285) rfl rfl rfl (hG _ kw_12) (hG _ kw_283) (hG _ kw_284) rfl (by decide +kernel) ⟨Nat.le_of_ble_eq_true rfl, Nat.le_of_ble_eq_true rfl⟩) ⟨w1_blind, fun U hU hW => ⟨rfl, by rw [hU], by rw [hU]; exact hPc, va_K.moved hW.alike hK⟩⟩ rfl rfl hl.1 rfl (lv_room (Nat.le_of_ble_eq_true rfl)) d_C_inspection_77 ⟨Nat.le_of_ble_eq_true rfl, Nat.le_of_ble_eq_true rfl⟩) hS (fun q _ h => hFc q h) hFc (fun u t H1 locs ht hvm hw hB hz1 hk1 hS => ?_)
          replace hB : va_P D cls_ [(q, .inr (2, [.int p0, .int p1, .int p2, .int 0, .int 0, .int (-1), .int (-1), .int (-1), .int (-1), .int 0]))] t.heap := hB
          rw [ht, ← eq] at hB
          rw [← eq] at hk1
          obtain ⟨hP, hD⟩ := rl_join1 (r := 100 + n) (x := .inr (2, [.int 0, .int 0, .int 0, .int 0, .int 0, .int 0, .int 0, .int 0, .int 0, .int 0])) hP hD inr hk1 hB
          rw [va_up_up] at hP hD
          obtain ⟨hPa, hDa, hFa, hva, hya⟩ := adI_pre hn30 hm40 hK hg.2.2.2.2.2.1 hP hD hS hA
          refine va_calli (va_runV (As := [.ref q]) (rest := []) ⟨hx, hb, hml, hown, hts⟩ (c_Al_add1 l D cs (ad 1) (ad 3) q mi n ci E (σ 7 0) (rowsF 100 n ad) H1.size (fun _ => hI.2.2.1) hI.2.2.2.2.1 (by omega) (fun j hj => if_neg (by omega))) (cwV 1 hts (gw_V kw_327 kw_328 kw_329 kw_4 kw_330) rfl rfl rfl (by decide +kernel) ⟨Nat.le_of_ble_eq_true rfl, Nat.le_of_ble_eq_true rfl⟩) ⟨ad_blind, va_recv hK hPa (ci := 0) (q0 := 0) rfl rfl, fun U hU hW => ⟨rfl, by rw [hU], by rw [hU]; exact hPa, va_K.moved hW.alike hK, hDa, hg.moved hW.alike, fun _ => by rw [hU]; exact ((hE.kept (fun x h1 h2 => hS.2.1 x h1 h2)).moved hW.alike).narrow hFa, ⟨hva.1, hva.2.1, by rw [hU]; exact hva.2.2.moved hW.alike⟩, fun i y hi hy => ⟨(hya i y hi hy).1, (hya i y hi hy).2.1, by rw [hU]; exact (hya i y hi hy).2.2.moved hW.alike⟩⟩⟩ rfl rfl hl.1 rfl (lv_room (Nat.le_of_ble_eq_true rfl)) d_C_inspection_80 ⟨Nat.le_of_ble_eq_true rfl, Nat.le_of_ble_eq_true rfl⟩) hS (fun x _ h => hFa x h) hFa (fun r u t H2 locs ht hvm hw hB hz2 hk2 hS => ?_)
          obtain ⟨rfl, hu1, hu2⟩ := hw
          obtain ⟨hP2, hD2⟩ := hB
          rw [ht] at hP2
          obtain ⟨hP, hD⟩ := wC_addI hn30 hm40 hP hD hk2 hP2 hD2 hFa
          obtain ⟨e1, cap1⟩ := u
          obtain ⟨ad9, e9⟩ : ∃ ad9, ad9 = va_up (va_up ad (100 + n) q) 3 e1 := ⟨_, rfl⟩
          have e90 : ad9 0 = ad 0 := by rw [e9, va_up_ne _ _ (by omega), va_up_ne _ _ (by omega)]
          rw [← e9] at hP hD
          rw [← e90] at hl
          clear e9
          refine lv_pop hx hb d_C_inspection_83 rfl ?_
          refine lv_aload_n hx hb d_C_inspection_84 rfl (lv_at hl 0 rfl) ?_
          refine rl_get (r := 0) (ci := 1) (v := .ref (ad9 1)) (C := R_C) (T := F_C) (N := 10) hx hb hG in_C hown hK hP (RC_f (by decide)) gC_0 rfl 0 (by decide) kw_59 (fun _ h9 => h9) rfl d_C_inspection_85 ?_
          refine vp_callSi (W.runV (As := []) (rest := []) ⟨hx, hb, hml, hown, hts⟩ (c_Al_size l D (tys_ cs) (ad9 1) (.ref (if n + 1 = 0 then E else ad9 3)) (nI (n + 1)) (nwI σ n p0 p1 p2 7 0)) (cwV 0 hts (gw_V kw_116 kw_117 kw_118 kw_4 kw_119) rfl rfl rfl (by decide +kernel) ⟨Nat.le_of_ble_eq_true rfl, Nat.le_of_ble_eq_true rfl⟩) (rd_V (rl_one hP (RC_f (by decide)) gC_1') hK (rl_recv hK hP (RC_f (by decide)) gC_1' rfl)) rfl rfl hl.1 rfl (lv_room (Nat.le_of_ble_eq_true rfl)) d_C_inspection_88 ⟨Nat.le_of_ble_eq_true rfl, Nat.le_of_ble_eq_true rfl⟩) (fun r_13 h_14 => ?_)
          subst h_14
          refine lv_iconst (v := 1) hx hb d_C_inspection_91 (by decide) ?_
          refine lv_isub hx hb d_C_inspection_92 ?_
          rw [nI_pred]
          refine W.widen (k := 3) (n := 120) (Nat.le_of_ble_eq_true rfl) (Nat.le_of_ble_eq_true rfl) (vx_ret ?_)
          exact W.iret (v := nI n) hx hb hr (fun t ht hW => ⟨⟨nI n, (ad9, cap1), rfl, ⟨⟨Classical.not_not.mp (fun h => c_3 (b2i_eq0.mpr h)), Classical.not_not.mp (fun h => c_6 (b2i_eq0.mpr h)), Classical.not_not.mp (fun h => c_9 (b2i_eq0.mpr h))⟩, hn30, rfl, hu1, hu2, e90⟩, by rw [ht]; exact hP, va_K.moved hW.alike hK, hD⟩, hS.F ht⟩) hS.2.2 d_C_inspection_93
        · exact vx_throwS (own := "InspectSteps") (cls := xe_S) (text := "no more inspections") (names := xe_up) (ik := 84) (is := 86) (ic := 88) (A := A) hx hb hst hown (by decide) (by decide) (hG _ kw_266) (hG _ kw_11) (hX.2 (86, "no more inspections") (by decide)).choose_spec (xa_S hG hX) xa_S3 hZ.1 hZ.2 hS (hl.1.trans hml.symm) d_C_inspection_56 d_C_inspection_59 d_C_inspection_60 d_C_inspection_62 d_C_inspection_65 (fun x h => (hnt x h).elim) (Nat.le_of_ble_eq_true rfl) (Nat.le_of_ble_eq_true rfl) (Nat.le_of_ble_eq_true rfl) (Nat.le_of_ble_eq_true rfl) hlocks (fun t ha hz hk => ⟨2, Or.inr ⟨rfl, ⟨Classical.not_not.mp (fun h => c_3 (b2i_eq0.mpr h)), Classical.not_not.mp (fun h => c_6 (b2i_eq0.mpr h)), Classical.not_not.mp (fun h => c_9 (b2i_eq0.mpr h))⟩, (Nat.le_antisymm (hn_ hI) (Nat.not_lt.mp (fun h9 => c_12 ((nI_ltI (a := n) (b := 30) (by have := hI; unfold Iv at this; omega) (by decide)).mpr h9))))⟩, ⟨rfl, (thr_T hS hP hK hD ha hz hk).1⟩, (thr_T hS hP hK hD ha hz hk).2⟩) hS.2.2 (Nat.le_of_ble_eq_true rfl) (Nat.le_of_ble_eq_true rfl)
      · exact vx_throwS (own := "InspectSteps") (cls := xe_A) (text := "due at no time from now on") (names := xe_up) (ik := 68) (is := 78) (ic := 72) (A := A) hx hb hst hown (by decide) (by decide) (hG _ kw_192) (hG _ kw_10) (hX.2 (78, "due at no time from now on") (by decide)).choose_spec (xa_A hG hX) xa_A3 hZ.1 hZ.2 hS (hl.1.trans hml.symm) d_C_inspection_34 d_C_inspection_37 d_C_inspection_38 d_C_inspection_40 d_C_inspection_43 (fun x h => (hnt x h).elim) (Nat.le_of_ble_eq_true rfl) (Nat.le_of_ble_eq_true rfl) (Nat.le_of_ble_eq_true rfl) (Nat.le_of_ble_eq_true rfl) hlocks (fun t ha hz hk => ⟨1, Or.inl ⟨rfl, fun h9 => (b2i_eq0.mp c_9) h9.2.2⟩, ⟨rfl, (thr_T hS hP hK hD ha hz hk).1⟩, (thr_T hS hP hK hD ha hz hk).2⟩) hS.2.2 (Nat.le_of_ble_eq_true rfl) (Nat.le_of_ble_eq_true rfl)
    · exact vx_throwS (own := "InspectSteps") (cls := xe_A) (text := "no such declaration or kind") (names := xe_up) (ik := 68) (is := 70) (ic := 72) (A := A) hx hb hst hown (by decide) (by decide) (hG _ kw_192) (hG _ kw_10) (hX.2 (70, "no such declaration or kind") (by decide)).choose_spec (xa_A hG hX) xa_A3 hZ.1 hZ.2 hS (hl.1.trans hml.symm) d_C_inspection_16 d_C_inspection_19 d_C_inspection_20 d_C_inspection_22 d_C_inspection_25 (fun x h => (hnt x h).elim) (Nat.le_of_ble_eq_true rfl) (Nat.le_of_ble_eq_true rfl) (Nat.le_of_ble_eq_true rfl) (Nat.le_of_ble_eq_true rfl) hlocks (fun t ha hz hk => ⟨1, Or.inl ⟨rfl, fun h9 => (b2i_eq0.mp c_6) h9.2.1⟩, ⟨rfl, (thr_T hS hP hK hD ha hz hk).1⟩, (thr_T hS hP hK hD ha hz hk).2⟩) hS.2.2 (Nat.le_of_ble_eq_true rfl) (Nat.le_of_ble_eq_true rfl)
