def cr_right (σ : Nat → Nat → Int32) (n nm : Nat) (p0 p1 p2 r : Int32) (u : Nat → Nat → Int32) : Prop := (((0 ≤ p0 ∧ p0 ≤ 9) ∧ (0 ≤ p1 ∧ p1 ≤ 5) ∧ ¬ b2i ((0 ≤ p0 ∧ p0 ≤ 9) ∧ σ 1 p0.toNatClampNeg >>> (p1 &&& 31) &&& 1 = 1) = p2) ∧ r = 1 ∧ u = su σ 1 p0.toNatClampNeg (σ 1 p0.toNatClampNeg ^^^ 1 <<< (p1 &&& 31))) ∨ (¬ ((0 ≤ p0 ∧ p0 ≤ 9) ∧ (0 ≤ p1 ∧ p1 ≤ 5) ∧ ¬ b2i ((0 ≤ p0 ∧ p0 ≤ 9) ∧ σ 1 p0.toNatClampNeg >>> (p1 &&& 31) &&& 1 = 1) = p2) ∧ r = 0 ∧ u = σ)
def cr_hold (σ : Nat → Nat → Int32) (n nm : Nat) (p0 p1 p2 r : Int32) (u : Nat → Nat → Int32) : Prop := (((0 ≤ p0 ∧ p0 ≤ 9) ∧ (0 ≤ p1 ∧ p1 ≤ 7) ∧ ¬ b2i (σ 3 p0.toNatClampNeg >>> (p1 &&& 31) &&& 1 = 1) = p2) ∧ r = 1 ∧ u = su σ 3 p0.toNatClampNeg (σ 3 p0.toNatClampNeg ^^^ 1 <<< (p1 &&& 31))) ∨ (¬ ((0 ≤ p0 ∧ p0 ≤ 9) ∧ (0 ≤ p1 ∧ p1 ≤ 7) ∧ ¬ b2i (σ 3 p0.toNatClampNeg >>> (p1 &&& 31) &&& 1 = 1) = p2) ∧ r = 0 ∧ u = σ)
def cr_declared (σ : Nat → Nat → Int32) (n nm : Nat) (p0 p1 p2 r : Int32) (u : Nat → Nat → Int32) : Prop := (((0 ≤ p0 ∧ p0 ≤ 9) ∧ (0 ≤ p1 ∧ p1 ≤ 3) ∧ (0 ≤ p2 ∧ p2 ≤ 1000000)) ∧ r = 1 ∧ u = su σ (10 + p0.toNatClampNeg) p1.toNatClampNeg p2) ∨ (¬ ((0 ≤ p0 ∧ p0 ≤ 9) ∧ (0 ≤ p1 ∧ p1 ≤ 3) ∧ (0 ≤ p2 ∧ p2 ≤ 1000000)) ∧ r = 0 ∧ u = σ)
def cr_tolerance (σ : Nat → Nat → Int32) (n nm : Nat) (p0 p1 p2 r : Int32) (u : Nat → Nat → Int32) : Prop := (((0 ≤ p0 ∧ p0 ≤ 3) ∧ (0 ≤ p1 ∧ p1 ≤ 1000) ∧ (0 ≤ p2 ∧ p2 ≤ 1000)) ∧ r = 1 ∧ u = su (su σ 5 p0.toNatClampNeg p1) 6 p0.toNatClampNeg p2) ∨ (¬ ((0 ≤ p0 ∧ p0 ≤ 3) ∧ (0 ≤ p1 ∧ p1 ≤ 1000) ∧ (0 ≤ p2 ∧ p2 ≤ 1000)) ∧ r = 0 ∧ u = σ)
def cr_giveUp (σ : Nat → Nat → Int32) (n nm : Nat) (p0 r : Int32) (u : Nat → Nat → Int32) : Prop := (∃ i, i < n ∧ p0 = nI i ∧ (σ 23 i = 0 ∨ σ 23 i = 1 ∨ σ 23 i = 4) ∧ r = 1 ∧ u = su σ 23 i 5) ∨ ((¬ ∃ i, i < n ∧ p0 = nI i ∧ (σ 23 i = 0 ∨ σ 23 i = 1 ∨ σ 23 i = 4)) ∧ r = 0 ∧ u = σ)
def cr_end (σ : Nat → Nat → Int32) (n nm : Nat) (p0 p1 p2 k r : Int32) (u : Nat → Nat → Int32) : Prop := (k = 0 ∧ (∃ i, i < n ∧ p0 = nI i ∧ (0 ≤ p1 ∧ p1 ≤ 9) ∧ ((σ 23 i = 2 ∧ σ 28 i = p1 ∧ r = 1 ∧ u = su σ 23 i (if p2 = 0 then 4 else 3)) ∨ (¬ (σ 23 i = 2 ∧ σ 28 i = p1) ∧ r = 0 ∧ u = σ)))) ∨ (k = 1 ∧ (¬ ((∃ i, i < n ∧ p0 = nI i) ∧ (0 ≤ p1 ∧ p1 ≤ 9))) ∧ u = σ)
def cr_seal (σ : Nat → Nat → Int32) (n nm : Nat) (p0 p1 p2 p3 k r : Int32) (u : Nat → Nat → Int32) : Prop := (k = 0 ∧ (((0 ≤ p0 ∧ p0 ≤ 9) ∧ (0 ≤ p2 ∧ p2 ≤ 9) ∧ (0 ≤ p3 ∧ p3 ≤ 9) ∧ (1 ≤ p1 ∧ p1 ≤ 1000000) ∧ ¬ p2 = p3) ∧ (((σ 2 p0.toNatClampNeg = -1 ∧ (¬ ∃ j, j < n ∧ σ 20 j = p0 ∧ 3 ≤ σ 21 j ∧ σ 23 j = 2) ∧ ((0 ≤ p2 ∧ p2 ≤ 9) ∧ σ 1 p2.toNatClampNeg >>> (5 &&& 31) &&& 1 = 1) ∧ ((0 ≤ p3 ∧ p3 ≤ 9) ∧ σ 1 p3.toNatClampNeg >>> (5 &&& 31) &&& 1 = 1)) ∧ r = 1 ∧ u = su σ 2 p0.toNatClampNeg p1) ∨ (¬ (σ 2 p0.toNatClampNeg = -1 ∧ (¬ ∃ j, j < n ∧ σ 20 j = p0 ∧ 3 ≤ σ 21 j ∧ σ 23 j = 2) ∧ ((0 ≤ p2 ∧ p2 ≤ 9) ∧ σ 1 p2.toNatClampNeg >>> (5 &&& 31) &&& 1 = 1) ∧ ((0 ≤ p3 ∧ p3 ≤ 9) ∧ σ 1 p3.toNatClampNeg >>> (5 &&& 31) &&& 1 = 1)) ∧ r = 0 ∧ u = σ)))) ∨ (k = 1 ∧ (¬ ((0 ≤ p0 ∧ p0 ≤ 9) ∧ (0 ≤ p2 ∧ p2 ≤ 9) ∧ (0 ≤ p3 ∧ p3 ≤ 9) ∧ (1 ≤ p1 ∧ p1 ≤ 1000000) ∧ ¬ p2 = p3)) ∧ u = σ)
def cr_begin (σ : Nat → Nat → Int32) (n nm : Nat) (p0 p1 k r : Int32) (u : Nat → Nat → Int32) : Prop := (k = 0 ∧ (∃ i, i < n ∧ p0 = nI i ∧ (0 ≤ p1 ∧ p1 ≤ 9) ∧ ((((σ 23 i = 1 ∧ σ 26 i ≤ σ 0 0 ∧ σ 0 0 ≤ σ 27 i) ∧ (0 ≤ p1 ∧ p1 ≤ 9) ∧ σ 1 p1.toNatClampNeg >>> (σ 21 i &&& 31) &&& 1 = 1) ∧ r = 1 ∧ ((3 ≤ σ 21 i ∧ u = su (su (su (su σ 23 i 2) 28 i p1) 4 (σ 20 i).toNatClampNeg (σ 4 (σ 20 i).toNatClampNeg + 100 * (σ 21 i + 1))) 2 (σ 20 i).toNatClampNeg (-1)) ∨ (¬ 3 ≤ σ 21 i ∧ u = su (su (su σ 23 i 2) 28 i p1) 4 (σ 20 i).toNatClampNeg (σ 4 (σ 20 i).toNatClampNeg + 100 * (σ 21 i + 1))))) ∨ (¬ ((σ 23 i = 1 ∧ σ 26 i ≤ σ 0 0 ∧ σ 0 0 ≤ σ 27 i) ∧ (0 ≤ p1 ∧ p1 ≤ 9) ∧ σ 1 p1.toNatClampNeg >>> (σ 21 i &&& 31) &&& 1 = 1) ∧ r = 0 ∧ u = σ)))) ∨ (k = 1 ∧ (¬ ((∃ i, i < n ∧ p0 = nI i) ∧ (0 ≤ p1 ∧ p1 ≤ 9))) ∧ u = σ)
def cr_release (σ : Nat → Nat → Int32) (n nm : Nat) (p0 k r : Int32) (u : Nat → Nat → Int32) : Prop := (k = 0 ∧ ((0 ≤ p0 ∧ p0 ≤ 9) ∧ r = relF σ n nm p0 ∧ u = σ)) ∨ (k = 1 ∧ (¬ (0 ≤ p0 ∧ p0 ≤ 9)) ∧ u = σ)
def cr_look (σ : Nat → Nat → Int32) (n nm : Nat) (p0 p1 k r : Int32) (u : Nat → Nat → Int32) : Prop := (k = 0 ∧ (∃ i, i < n ∧ p0 = nI i ∧ (0 ≤ p1 ∧ p1 ≤ 8) ∧ r = lookF σ i p1 ∧ u = σ)) ∨ (k = 1 ∧ (¬ ((∃ i, i < n ∧ p0 = nI i) ∧ (0 ≤ p1 ∧ p1 ≤ 8))) ∧ u = σ)
def cr_plan (σ : Nat → Nat → Int32) (n nm : Nat) (p0 p1 p2 p3 k r : Int32) (u : Nat → Nat → Int32) : Prop := (k = 0 ∧ (∃ i, i < n ∧ p0 = nI i ∧ ((0 ≤ p1 ∧ p1 ≤ 3) ∧ (σ 0 0 ≤ p2 ∧ p2 ≤ 100000) ∧ (σ 0 0 ≤ p3 ∧ p3 ≤ 100000) ∧ p2 < p3) ∧ ((((σ 23 i = 0 ∨ σ 23 i = 4) ∧ ¬ ∃ j, j < n ∧ (σ 23 j = 1 ∨ σ 23 j = 2) ∧ σ 25 j = p1 ∧ σ 26 j < p3 ∧ p2 < σ 27 j) ∧ r = 1 ∧ u = su (su (su (su σ 23 i 1) 25 i p1) 26 i p2) 27 i p3) ∨ (¬ ((σ 23 i = 0 ∨ σ 23 i = 4) ∧ ¬ ∃ j, j < n ∧ (σ 23 j = 1 ∨ σ 23 j = 2) ∧ σ 25 j = p1 ∧ σ 26 j < p3 ∧ p2 < σ 27 j) ∧ r = 0 ∧ u = σ)))) ∨ (k = 1 ∧ (¬ ((∃ i, i < n ∧ p0 = nI i) ∧ ((0 ≤ p1 ∧ p1 ≤ 3) ∧ (σ 0 0 ≤ p2 ∧ p2 ≤ 100000) ∧ (σ 0 0 ≤ p3 ∧ p3 ≤ 100000) ∧ p2 < p3))) ∧ u = σ)
def cr_tick (σ : Nat → Nat → Int32) (n nm : Nat) (p0 k r : Int32) (u : Nat → Nat → Int32) : Prop := (k = 0 ∧ ((σ 0 0 ≤ p0 ∧ p0 ≤ 100000) ∧ r = tkN σ p0 n ∧ u = su (tkS σ p0 n) 0 0 p0)) ∨ (k = 1 ∧ (¬ (σ 0 0 ≤ p0 ∧ p0 ≤ 100000)) ∧ u = σ)
def cr_settle (σ : Nat → Nat → Int32) (n nm : Nat) (p0 k r : Int32) (u : Nat → Nat → Int32) : Prop := (k = 0 ∧ ((0 ≤ p0 ∧ p0 ≤ 9) ∧ r = cntS σ p0 0 nm ∧ u = seS σ p0 nm)) ∨ (k = 1 ∧ (¬ (0 ≤ p0 ∧ p0 ≤ 9)) ∧ u = σ)
def cr_result (σ : Nat → Nat → Int32) (n nm : Nat) (p0 p1 p2 p3 k r : Int32) (u : Nat → Nat → Int32) : Prop := (k = 0 ∧ (∃ i q, i < nm ∧ q < 4 ∧ p0 = nI i ∧ p2 = nI q ∧ (1 ≤ p1 ∧ p1 ≤ 1000000) ∧ (0 ≤ p3 ∧ p3 ≤ 1000000) ∧ ((¬ σ (1000 + i) q = -1 ∧ r = -1 ∧ u = σ) ∨ (σ (1000 + i) q = -1 ∧ ¬ σ 31 i = p1 ∧ r = ifP (∃ j, j < nm ∧ σ 31 j = p1) (-2) (-3) ∧ u = σ) ∨ (σ (1000 + i) q = -1 ∧ σ 31 i = p1 ∧ r = dfS (su σ (1000 + i) q p3) i q ∧ u = su σ (1000 + i) q p3)))) ∨ (k = 1 ∧ (¬ ((∃ i, i < nm ∧ p0 = nI i) ∧ (0 ≤ p2 ∧ p2 ≤ 3) ∧ (1 ≤ p1 ∧ p1 ≤ 1000000) ∧ (0 ≤ p3 ∧ p3 ≤ 1000000))) ∧ u = σ)
def cr_inspection (ad : Nat → Nat) (σ : Nat → Nat → Int32) (n nm ci cj : Nat) (p0 p1 p2 k r : Int32) (u : (Nat → Nat) × Nat × (Nat → Nat → Int32) × Nat) : Prop := (k = 0 ∧ ((0 ≤ p0 ∧ p0 ≤ 9) ∧ (0 ≤ p1 ∧ p1 ≤ 4) ∧ (σ 0 0 ≤ p2 ∧ p2 ≤ 100000)) ∧ n < 30 ∧ r = nI n ∧ n + 1 ≤ u.2.1 ∧ u.2.1 ≤ 100 ∧ u.1 0 = ad 0 ∧ u.2.2.1 = nwI σ n p0 p1 p2 ∧ u.2.2.2 = n + 1) ∨ (((k = 1 ∧ ¬ ((0 ≤ p0 ∧ p0 ≤ 9) ∧ (0 ≤ p1 ∧ p1 ≤ 4) ∧ (σ 0 0 ≤ p2 ∧ p2 ≤ 100000))) ∨ (k = 2 ∧ ((0 ≤ p0 ∧ p0 ≤ 9) ∧ (0 ≤ p1 ∧ p1 ≤ 4) ∧ (σ 0 0 ≤ p2 ∧ p2 ≤ 100000)) ∧ n = 30)) ∧ u = (ad, ci, σ, n))
def cr_sample (ad : Nat → Nat) (σ : Nat → Nat → Int32) (n nm ci cj : Nat) (p0 p1 k r : Int32) (u : (Nat → Nat) × Nat × Nat × (Nat → Nat → Int32)) : Prop := (k = 0 ∧ (∃ i, i < n ∧ p0 = nI i ∧ (1 ≤ p1 ∧ p1 ≤ 1000000) ∧ nm < 40 ∧ u.1 0 = ad 0 ∧ (((3 ≤ σ 21 i ∧ σ 23 i = 2 ∧ ¬ (∃ j, j < nm ∧ σ 31 j = p1)) ∧ r = nI nm ∧ u.2.1 = nm + 1 ∧ nm + 1 ≤ u.2.2.1 ∧ u.2.2.1 ≤ 100 ∧ u.2.2.2 = saT (nwS σ nm (σ 20 i) p1) i) ∨ (¬ (3 ≤ σ 21 i ∧ σ 23 i = 2 ∧ ¬ (∃ j, j < nm ∧ σ 31 j = p1)) ∧ r = -1 ∧ u = (ad, nm, cj, σ))))) ∨ (((k = 1 ∧ ¬ ((∃ i, i < n ∧ p0 = nI i) ∧ (1 ≤ p1 ∧ p1 ≤ 1000000))) ∨ (k = 2 ∧ ((∃ i, i < n ∧ p0 = nI i) ∧ (1 ≤ p1 ∧ p1 ≤ 1000000)) ∧ nm = 40)) ∧ u = (ad, nm, cj, σ))
set_option maxHeartbeats 4000000 in
set_option maxRecDepth 100000 in
theorem c_L_inspection (l : Launch) (D : va_G) (cs : Nat → ClassId) (ad : Nat → Nat) (σ : Nat → Nat → Int32) (n nm ci cj E : Nat) (hI : Iv n nm ci cj) (hJ : Jv σ n nm) (mi : Nat) (hst : l.stackTraces = false) (o : Nat) (f : Nat → Int64) (sz : Nat) (p0 p1 p2 : Int32) : Met l y_L_inspection (Cond.codeWith y_L_inspection b_L_inspection 6 (some .int) [(0, 12, 15, 13), (0, 12, 19, 15)] :: GW) ({ frames := 9, cells := 3, slots := 120, locals := 288 }) (va_Pc [.ref (ad 0), .int p0, .int p1, .int p2, .ref o] (hp_B D cs (wC cs ad σ n nm ci cj E) o f mi E sz)) (va_Qi (fun k (u : ((Nat → Nat) × Nat × (Nat → Nat → Int32) × Nat) × (Nat → Int64)) => ∃ r, cr_inspection ad σ n nm ci cj p0 p1 p2 k r u.1 ∧ (k = 0 → u.2 0 = r.toInt64)) (fun u t => va_P D cls_ (wC cs u.1.1 u.1.2.2.1 u.1.2.2.2 nm u.1.2.1 cj E ++ [(o, outc cs u.2)]) t.heap ∧ va_K D cls_ (tys_ cs) t ∧ va_D (va_A ((wC cs ad σ n nm ci cj E) ++ [(o, outc cs f)]) sz) (wC cs u.1.1 u.1.2.2.1 u.1.2.2.2 nm u.1.2.1 cj E ++ [(o, outc cs u.2)])) (va_A ((wC cs ad σ n nm ci cj E) ++ [(o, outc cs f)]) sz)) 3 120 (va_A ((wC cs ad σ n nm ci cj E) ++ [(o, outc cs f)]) sz) := by
  refine va_MetW (cc := b_L_inspection) (maxL := 6) (ret := (some .int)) (hh := [(0, 12, 15, 13), (0, 12, 19, 15)]) (by decide) rfl ?_
  intro p e s m args below meth c s₁ B hml hv
  obtain ⟨rfl, hsz, hP, hK, hD0, hX, hZ, hg, hE, hnc⟩ := hv
  have hx := B.exec
  have hb := B.bytes
  have hr := B.returns
  have hts := atoms_spec (ws := Cond.codeWith y_L_inspection b_L_inspection 6 (some .int) [(0, 12, 15, 13), (0, 12, 19, 15)] :: GW) B.pre
  have hG : ∀ w ∈ GW, w.before _ s = true := fun w h => hts w (List.mem_cons_of_mem _ h)
  have hTab := vx_table (x := y_L_inspection) B (hts _ List.mem_cons_self)
  have hown : s.vm.findClass R_L = some m.cls := findClass_of_methodNamed B.named
  have hlocks := B.notSynchronized
  subst hsz
  have hD := hD0.self (sz := s.heap.size)
  generalize hAe : va_A ((wC cs ad σ n nm ci cj E) ++ [(o, outc cs f)]) s.heap.size = A at hD hZ hE ⊢
  have hA : ∀ q : Nat, s.heap.size ≤ q → A q := fun q h => by rw [← hAe]; exact Or.inr h
  have hS : va_S A s.heap s.heap [] := va_S.rf
  have hl := lv_entry ([.ref (ad 0), .int p0, .int p1, .int p2, .ref o]) (n := 6) (Nat.le_of_ble_eq_true rfl)
  rw [lg_entry_eq]
  generalize (lg_sl ([.ref (ad 0), .int p0, .int p1, .int p2, .ref o]) ++ List.replicate (6 - (lg_sl ([.ref (ad 0), .int p0, .int p1, .int p2, .ref o])).length) Slot.unset).toArray = ls at hl ⊢
  have hl : lv_has ls 6 [(0, .ref (ad 0)), (1, .int p0), (2, .int p1), (3, .int p2), (4, .ref o)] := hl
  refine lv_aload hx hb d_L_inspection_0 (lv_at hl 4 rfl) ?_
  refine lv_iconst (v := 0) hx hb d_L_inspection_2 (by decide) ?_
  refine lv_aload_n hx hb d_L_inspection_3 rfl (lv_at hl 0 rfl) ?_
  refine lv_iload_n hx hb d_L_inspection_4 rfl (lv_at hl 1 rfl) ?_
  refine lv_iload_n hx hb d_L_inspection_5 rfl (lv_at hl 2 rfl) ?_
  refine lv_iload_n hx hb d_L_inspection_6 rfl (lv_at hl 3 rfl) ?_
  have hPx := fr_l hP
  have hDx := fr_dl hD
  have hFX := fr_A hD hS hA
  refine vx_calli (vx_runV (As := [.int p0, .int p1, .int p2]) (rest := [.int 0, .ref o]) ⟨hx, hb, hml, hown, hts⟩ (c_C_inspection l D cs ad σ n nm ci cj E hI mi hst s.heap.size p0 p1 p2) (cwV 3 hts (gw_V kw_188 kw_189 kw_190 kw_1 kw_191) rfl rfl rfl (by decide +kernel) ⟨Nat.le_of_ble_eq_true rfl, Nat.le_of_ble_eq_true rfl⟩) ⟨(fun b9 U9 g9 mk9 q9 => ⟨q9.1, (xr_blind b9 U9 g9 mk9 ⟨q9.1, q9.2.1⟩).2, gr_K.moved (u := U9) (U := U9.calling g9 mk9 b9) (Vm.Alike.refl U9.vm) q9.2.2.1, em_E.moved (u := U9) (U := U9.calling g9 mk9 b9) (Vm.Alike.refl U9.vm) q9.2.2.2⟩), rl_recv hK hPx (RC_f (by decide)) gC_0 rfl, fun U hU hW => ⟨rfl, ⟨⟨by rw [hU], by rw [hU]; exact hPx, va_K.moved hW.alike hK, hDx.weaken (fun _ _ _ _ => trivial)⟩, hX.warm hW, by rw [hU]; exact (hZ.moved hW.alike).narrow hFX⟩, hg.moved hW.alike, by rw [hU]; exact (hE.moved hW.alike).narrow hFX⟩⟩ rfl rfl hl.1 rfl (lv_room (Nat.le_of_ble_eq_true rfl)) d_L_inspection_7 ⟨Nat.le_of_ble_eq_true rfl, Nat.le_of_ble_eq_true rfl⟩) hS (fun q _ h => hFX q h) hFX (fun q _ h => hFX q h) (fun E9 ce q9 u t H1 locs ht hvm hpx hB hz1 hk1 hS hce hcv hcl => ?_) (fun r u t H1 locs ht hvm hw hB hz1 hk1 hS => ?_)
  · obtain ⟨eE, hP1, -, hD1⟩ := hB
    rw [ht] at hP1
    obtain ⟨hP, hD⟩ := fr_join hP hD hk1 hFX hP1 hD1
    rcases hpx with ⟨rfl, hpx⟩ | ⟨rfl, hpx⟩
    · obtain rfl : E9 = xe_A := eE
      refine vx_catch (name := xe_A) hown [] ⟨0, 12, 15, 13⟩ [⟨0, 12, 19, 15⟩] (hTab.trans rfl) (fun z hz => nomatch hz) (by decide) (by decide) (hG _ kw_186) (va_Nw.use rfl hX.1.1) hce hcv hcl ?_
      refine lv_astore (lv' := [(5, .ref q9), (0, .ref (ad 0)), (1, .int p0), (2, .int p1), (3, .int p2), (4, .ref o)]) hx hb d_L_inspection_15 hl (by decide) rfl (fun ls hl => ?_)
      refine lv_iconst (v := 1) hx hb d_L_inspection_17 (by decide) ?_
      exact W.iret (v := 1) hx hb hr (fun t ht hW => ⟨⟨1, ((ad, ci, σ, n), f), rfl, ⟨0, Or.inr ⟨Or.inl ⟨rfl, hpx⟩, rfl⟩, fun h9 => absurd h9 (by decide)⟩, by show va_P _ _ _ t.heap; rw [ht]; exact hP, va_K.moved hW.alike hK, hD⟩, hS.F ht⟩) hS.2.2 d_L_inspection_18
    · obtain rfl : E9 = xe_S := eE
      refine vx_catch (name := xe_S) hown [⟨0, 12, 15, 13⟩] ⟨0, 12, 19, 15⟩ [] (hTab.trans rfl) (fun z hz => by have hz0 := List.mem_singleton.mp hz; subst hz0; exact Or.inr ⟨by decide, xe_A, hG _ kw_186, hnc⟩) (by decide) (by decide) (hG _ kw_187) (va_Nw.use rfl hX.1.2.1) hce hcv hcl ?_
      refine lv_astore (lv' := [(5, .ref q9), (0, .ref (ad 0)), (1, .int p0), (2, .int p1), (3, .int p2), (4, .ref o)]) hx hb d_L_inspection_19 hl (by decide) rfl (fun ls hl => ?_)
      refine lv_iconst (v := 2) hx hb d_L_inspection_21 (by decide) ?_
      exact W.iret (v := 2) hx hb hr (fun t ht hW => ⟨⟨2, ((ad, ci, σ, n), f), rfl, ⟨0, Or.inr ⟨Or.inr ⟨rfl, hpx⟩, rfl⟩, fun h9 => absurd h9 (by decide)⟩, by show va_P _ _ _ t.heap; rw [ht]; exact hP, va_K.moved hW.alike hK, hD⟩, hS.F ht⟩) hS.2.2 d_L_inspection_22
  · obtain ⟨hP1, -, hD1⟩ := hB
    rw [ht] at hP1
    obtain ⟨hP, hD⟩ := fr_join hP hD hk1 hFX hP1 hD1
    refine lv_i2l hx hb d_L_inspection_10 rfl ?_
    refine lo_last hx hb hK hP hD hS d_L_inspection_11 (fun H locs f1 hf1 hP hD hS => ?_)
    refine lv_goto (tgt := 23) hx hb d_L_inspection_12 (by decide) ?_
    refine lv_iconst (v := 0) hx hb d_L_inspection_23 (by decide) ?_
    exact W.iret (v := 0) hx hb hr (fun t ht hW => ⟨⟨0, ((u.1, u.2, nwI σ n p0 p1 p2, n + 1), f1), rfl, ⟨r, Or.inl ⟨rfl, hw.1, hw.2.1, hw.2.2.1, hw.2.2.2.1, hw.2.2.2.2.1, hw.2.2.2.2.2, rfl, rfl⟩, fun _ => hf1⟩, by show va_P _ _ _ t.heap; rw [ht]; exact hP, va_K.moved hW.alike hK, hD⟩, hS.F ht⟩) hS.2.2 d_L_inspection_24
set_option maxHeartbeats 4000000 in
set_option maxRecDepth 100000 in
theorem c_L_plan (l : Launch) (D : va_G) (cs : Nat → ClassId) (ad : Nat → Nat) (σ : Nat → Nat → Int32) (n nm ci cj E : Nat) (hI : Iv n nm ci cj) (hJ : Jv σ n nm) (mi : Nat) (hst : l.stackTraces = false) (o : Nat) (f : Nat → Int64) (sz : Nat) (p0 p1 p2 p3 : Int32) : Met l y_L_plan (Cond.codeWith y_L_plan b_L_plan 7 (some .int) [(0, 14, 17, 13)] :: GW) ({ frames := 9, cells := 1, slots := 6, locals := 288 }) (va_Pc [.ref (ad 0), .int p0, .int p1, .int p2, .int p3, .ref o] (hp_B D cs (wC cs ad σ n nm ci cj E) o f mi E sz)) (va_Qi (fun k (u : (Nat → Nat → Int32) × (Nat → Int64)) => ∃ r, cr_plan σ n nm p0 p1 p2 p3 k r u.1 ∧ (k = 0 → u.2 0 = r.toInt64)) (fun u t => va_P D cls_ (wC cs ad u.1 n nm ci cj E ++ [(o, outc cs u.2)]) t.heap ∧ va_K D cls_ (tys_ cs) t ∧ va_D (va_A ((wC cs ad σ n nm ci cj E) ++ [(o, outc cs f)]) sz) (wC cs ad u.1 n nm ci cj E ++ [(o, outc cs u.2)])) (va_A ((wC cs ad σ n nm ci cj E) ++ [(o, outc cs f)]) sz)) 1 6 (va_A ((wC cs ad σ n nm ci cj E) ++ [(o, outc cs f)]) sz) := by
  refine va_MetW (cc := b_L_plan) (maxL := 7) (ret := (some .int)) (hh := [(0, 14, 17, 13)]) (by decide) rfl ?_
  intro p e s m args below meth c s₁ B hml hv
  obtain ⟨rfl, hsz, hP, hK, hD0, hX, hZ, hg, hE, hnc⟩ := hv
  have hx := B.exec
  have hb := B.bytes
  have hr := B.returns
  have hts := atoms_spec (ws := Cond.codeWith y_L_plan b_L_plan 7 (some .int) [(0, 14, 17, 13)] :: GW) B.pre
  have hG : ∀ w ∈ GW, w.before _ s = true := fun w h => hts w (List.mem_cons_of_mem _ h)
  have hTab := vx_table (x := y_L_plan) B (hts _ List.mem_cons_self)
  have hown : s.vm.findClass R_L = some m.cls := findClass_of_methodNamed B.named
  have hlocks := B.notSynchronized
  subst hsz
  have hD := hD0.self (sz := s.heap.size)
  generalize hAe : va_A ((wC cs ad σ n nm ci cj E) ++ [(o, outc cs f)]) s.heap.size = A at hD hZ hE ⊢
  have hA : ∀ q : Nat, s.heap.size ≤ q → A q := fun q h => by rw [← hAe]; exact Or.inr h
  have hS : va_S A s.heap s.heap [] := va_S.rf
  have hl := lv_entry ([.ref (ad 0), .int p0, .int p1, .int p2, .int p3, .ref o]) (n := 7) (Nat.le_of_ble_eq_true rfl)
  rw [lg_entry_eq]
  generalize (lg_sl ([.ref (ad 0), .int p0, .int p1, .int p2, .int p3, .ref o]) ++ List.replicate (7 - (lg_sl ([.ref (ad 0), .int p0, .int p1, .int p2, .int p3, .ref o])).length) Slot.unset).toArray = ls at hl ⊢
  have hl : lv_has ls 7 [(0, .ref (ad 0)), (1, .int p0), (2, .int p1), (3, .int p2), (4, .int p3), (5, .ref o)] := hl
  refine lv_aload hx hb d_L_plan_0 (lv_at hl 5 rfl) ?_
  refine lv_iconst (v := 0) hx hb d_L_plan_2 (by decide) ?_
  refine lv_aload_n hx hb d_L_plan_3 rfl (lv_at hl 0 rfl) ?_
  refine lv_iload_n hx hb d_L_plan_4 rfl (lv_at hl 1 rfl) ?_
  refine lv_iload_n hx hb d_L_plan_5 rfl (lv_at hl 2 rfl) ?_
  refine lv_iload_n hx hb d_L_plan_6 rfl (lv_at hl 3 rfl) ?_
  refine lv_iload hx hb d_L_plan_7 (lv_at hl 4 rfl) ?_
  have hPx := fr_l hP
  have hDx := fr_dl hD
  have hFX := fr_A hD hS hA
  refine vx_calli (vx_runV (As := [.int p0, .int p1, .int p2, .int p3]) (rest := [.int 0, .ref o]) ⟨hx, hb, hml, hown, hts⟩ (c_C_plan l D cs ad σ n nm ci cj E hI hst s.heap.size p0 p1 p2 p3) (cwV 4 hts (gw_V kw_385 kw_386 kw_387 kw_1 kw_388) rfl rfl rfl (by decide +kernel) ⟨Nat.le_of_ble_eq_true rfl, Nat.le_of_ble_eq_true rfl⟩) ⟨xr_blind, rl_recv hK hPx (RC_f (by decide)) gC_0 rfl, fun U hU hW => ⟨rfl, ⟨by rw [hU], by rw [hU]; exact hPx, va_K.moved hW.alike hK, hDx.weaken (fun _ _ _ _ => trivial)⟩, hX.warm hW, by rw [hU]; exact (hZ.moved hW.alike).narrow hFX⟩⟩ rfl rfl hl.1 rfl (lv_room (Nat.le_of_ble_eq_true rfl)) d_L_plan_9 ⟨Nat.le_of_ble_eq_true rfl, Nat.le_of_ble_eq_true rfl⟩) hS (fun q _ h => hFX q h) hFX (fun q _ h => hFX q h) (fun E9 ce q9 u t H1 locs ht hvm hpx hB hz1 hk1 hS hce hcv hcl => ?_) (fun r u t H1 locs ht hvm hw hB hz1 hk1 hS => ?_)
  · obtain ⟨rfl, hP1, -, hD1⟩ := hB
    rw [ht] at hP1
    obtain ⟨hP, hD⟩ := fr_join hP hD hk1 hFX hP1 hD1
    refine vx_catch (name := xe_A) hown [] ⟨0, 14, 17, 13⟩ [] (hTab.trans rfl) (fun z hz => nomatch hz) (by decide) (by decide) (hG _ kw_186) (va_Nw.use rfl hX.1.1) hce hcv hcl ?_
    refine lv_astore (lv' := [(6, .ref q9), (0, .ref (ad 0)), (1, .int p0), (2, .int p1), (3, .int p2), (4, .int p3), (5, .ref o)]) hx hb d_L_plan_17 hl (by decide) rfl (fun ls hl => ?_)
    refine lv_iconst (v := 1) hx hb d_L_plan_19 (by decide) ?_
    exact W.iret (v := 1) hx hb hr (fun t ht hW => ⟨⟨1, (σ, f), rfl, ⟨0, Or.inr ⟨rfl, hpx, rfl⟩, fun h9 => absurd h9 (by decide)⟩, by show va_P _ _ _ t.heap; rw [ht]; exact hP, va_K.moved hW.alike hK, hD⟩, hS.F ht⟩) hS.2.2 d_L_plan_20
  · obtain ⟨hP1, -, hD1⟩ := hB
    rw [ht] at hP1
    obtain ⟨hP, hD⟩ := fr_join hP hD hk1 hFX hP1 hD1
    refine lv_i2l hx hb d_L_plan_12 rfl ?_
    refine lo_last hx hb hK hP hD hS d_L_plan_13 (fun H locs f1 hf1 hP hD hS => ?_)
    refine lv_goto (tgt := 21) hx hb d_L_plan_14 (by decide) ?_
    refine lv_iconst (v := 0) hx hb d_L_plan_21 (by decide) ?_
    exact W.iret (v := 0) hx hb hr (fun t ht hW => ⟨⟨0, (u, f1), rfl, ⟨r, Or.inl ⟨rfl, hw⟩, fun _ => hf1⟩, by show va_P _ _ _ t.heap; rw [ht]; exact hP, va_K.moved hW.alike hK, hD⟩, hS.F ht⟩) hS.2.2 d_L_plan_22
set_option maxHeartbeats 4000000 in
set_option maxRecDepth 100000 in
theorem c_L_begin (l : Launch) (D : va_G) (cs : Nat → ClassId) (ad : Nat → Nat) (σ : Nat → Nat → Int32) (n nm ci cj E : Nat) (hI : Iv n nm ci cj) (hJ : Jv σ n nm) (mi : Nat) (hst : l.stackTraces = false) (o : Nat) (f : Nat → Int64) (sz : Nat) (p0 p1 : Int32) : Met l y_L_begin (Cond.codeWith y_L_begin b_L_begin 5 (some .int) [(0, 10, 13, 13)] :: GW) ({ frames := 9, cells := 1, slots := 6, locals := 288 }) (va_Pc [.ref (ad 0), .int p0, .int p1, .ref o] (hp_B D cs (wC cs ad σ n nm ci cj E) o f mi E sz)) (va_Qi (fun k (u : (Nat → Nat → Int32) × (Nat → Int64)) => ∃ r, cr_begin σ n nm p0 p1 k r u.1 ∧ (k = 0 → u.2 0 = r.toInt64)) (fun u t => va_P D cls_ (wC cs ad u.1 n nm ci cj E ++ [(o, outc cs u.2)]) t.heap ∧ va_K D cls_ (tys_ cs) t ∧ va_D (va_A ((wC cs ad σ n nm ci cj E) ++ [(o, outc cs f)]) sz) (wC cs ad u.1 n nm ci cj E ++ [(o, outc cs u.2)])) (va_A ((wC cs ad σ n nm ci cj E) ++ [(o, outc cs f)]) sz)) 1 6 (va_A ((wC cs ad σ n nm ci cj E) ++ [(o, outc cs f)]) sz) := by
  refine va_MetW (cc := b_L_begin) (maxL := 5) (ret := (some .int)) (hh := [(0, 10, 13, 13)]) (by decide) rfl ?_
  intro p e s m args below meth c s₁ B hml hv
  obtain ⟨rfl, hsz, hP, hK, hD0, hX, hZ, hg, hE, hnc⟩ := hv
  have hx := B.exec
  have hb := B.bytes
  have hr := B.returns
  have hts := atoms_spec (ws := Cond.codeWith y_L_begin b_L_begin 5 (some .int) [(0, 10, 13, 13)] :: GW) B.pre
  have hG : ∀ w ∈ GW, w.before _ s = true := fun w h => hts w (List.mem_cons_of_mem _ h)
  have hTab := vx_table (x := y_L_begin) B (hts _ List.mem_cons_self)
  have hown : s.vm.findClass R_L = some m.cls := findClass_of_methodNamed B.named
  have hlocks := B.notSynchronized
  subst hsz
  have hD := hD0.self (sz := s.heap.size)
  generalize hAe : va_A ((wC cs ad σ n nm ci cj E) ++ [(o, outc cs f)]) s.heap.size = A at hD hZ hE ⊢
  have hA : ∀ q : Nat, s.heap.size ≤ q → A q := fun q h => by rw [← hAe]; exact Or.inr h
  have hS : va_S A s.heap s.heap [] := va_S.rf
  have hl := lv_entry ([.ref (ad 0), .int p0, .int p1, .ref o]) (n := 5) (Nat.le_of_ble_eq_true rfl)
  rw [lg_entry_eq]
  generalize (lg_sl ([.ref (ad 0), .int p0, .int p1, .ref o]) ++ List.replicate (5 - (lg_sl ([.ref (ad 0), .int p0, .int p1, .ref o])).length) Slot.unset).toArray = ls at hl ⊢
  have hl : lv_has ls 5 [(0, .ref (ad 0)), (1, .int p0), (2, .int p1), (3, .ref o)] := hl
  refine lv_aload_n hx hb d_L_begin_0 rfl (lv_at hl 3 rfl) ?_
  refine lv_iconst (v := 0) hx hb d_L_begin_1 (by decide) ?_
  refine lv_aload_n hx hb d_L_begin_2 rfl (lv_at hl 0 rfl) ?_
  refine lv_iload_n hx hb d_L_begin_3 rfl (lv_at hl 1 rfl) ?_
  refine lv_iload_n hx hb d_L_begin_4 rfl (lv_at hl 2 rfl) ?_
  have hPx := fr_l hP
  have hDx := fr_dl hD
  have hFX := fr_A hD hS hA
  refine vx_calli (vx_runV (As := [.int p0, .int p1]) (rest := [.int 0, .ref o]) ⟨hx, hb, hml, hown, hts⟩ (c_C_begin l D cs ad σ n nm ci cj E hI hJ hst s.heap.size p0 p1) (cwV 2 hts (gw_V kw_414 kw_415 kw_416 kw_1 kw_417) rfl rfl rfl (by decide +kernel) ⟨Nat.le_of_ble_eq_true rfl, Nat.le_of_ble_eq_true rfl⟩) ⟨xr_blind, rl_recv hK hPx (RC_f (by decide)) gC_0 rfl, fun U hU hW => ⟨rfl, ⟨by rw [hU], by rw [hU]; exact hPx, va_K.moved hW.alike hK, hDx.weaken (fun _ _ _ _ => trivial)⟩, hX.warm hW, by rw [hU]; exact (hZ.moved hW.alike).narrow hFX⟩⟩ rfl rfl hl.1 rfl (lv_room (Nat.le_of_ble_eq_true rfl)) d_L_begin_5 ⟨Nat.le_of_ble_eq_true rfl, Nat.le_of_ble_eq_true rfl⟩) hS (fun q _ h => hFX q h) hFX (fun q _ h => hFX q h) (fun E9 ce q9 u t H1 locs ht hvm hpx hB hz1 hk1 hS hce hcv hcl => ?_) (fun r u t H1 locs ht hvm hw hB hz1 hk1 hS => ?_)
  · obtain ⟨rfl, hP1, -, hD1⟩ := hB
    rw [ht] at hP1
    obtain ⟨hP, hD⟩ := fr_join hP hD hk1 hFX hP1 hD1
    refine vx_catch (name := xe_A) hown [] ⟨0, 10, 13, 13⟩ [] (hTab.trans rfl) (fun z hz => nomatch hz) (by decide) (by decide) (hG _ kw_186) (va_Nw.use rfl hX.1.1) hce hcv hcl ?_
    refine lv_astore (lv' := [(4, .ref q9), (0, .ref (ad 0)), (1, .int p0), (2, .int p1), (3, .ref o)]) hx hb d_L_begin_13 hl (by decide) rfl (fun ls hl => ?_)
    refine lv_iconst (v := 1) hx hb d_L_begin_15 (by decide) ?_
    exact W.iret (v := 1) hx hb hr (fun t ht hW => ⟨⟨1, (σ, f), rfl, ⟨0, Or.inr ⟨rfl, hpx, rfl⟩, fun h9 => absurd h9 (by decide)⟩, by show va_P _ _ _ t.heap; rw [ht]; exact hP, va_K.moved hW.alike hK, hD⟩, hS.F ht⟩) hS.2.2 d_L_begin_16
  · obtain ⟨hP1, -, hD1⟩ := hB
    rw [ht] at hP1
    obtain ⟨hP, hD⟩ := fr_join hP hD hk1 hFX hP1 hD1
    refine lv_i2l hx hb d_L_begin_8 rfl ?_
    refine lo_last hx hb hK hP hD hS d_L_begin_9 (fun H locs f1 hf1 hP hD hS => ?_)
    refine lv_goto (tgt := 17) hx hb d_L_begin_10 (by decide) ?_
    refine lv_iconst (v := 0) hx hb d_L_begin_17 (by decide) ?_
    exact W.iret (v := 0) hx hb hr (fun t ht hW => ⟨⟨0, (u, f1), rfl, ⟨r, Or.inl ⟨rfl, hw⟩, fun _ => hf1⟩, by show va_P _ _ _ t.heap; rw [ht]; exact hP, va_K.moved hW.alike hK, hD⟩, hS.F ht⟩) hS.2.2 d_L_begin_18
set_option maxHeartbeats 4000000 in
set_option maxRecDepth 100000 in
theorem c_L_end (l : Launch) (D : va_G) (cs : Nat → ClassId) (ad : Nat → Nat) (σ : Nat → Nat → Int32) (n nm ci cj E : Nat) (hI : Iv n nm ci cj) (hJ : Jv σ n nm) (mi : Nat) (hst : l.stackTraces = false) (o : Nat) (f : Nat → Int64) (sz : Nat) (p0 p1 p2 : Int32) : Met l y_L_end (Cond.codeWith y_L_end b_L_end 6 (some .int) [(0, 12, 15, 13)] :: GW) ({ frames := 9, cells := 1, slots := 6, locals := 288 }) (va_Pc [.ref (ad 0), .int p0, .int p1, .int p2, .ref o] (hp_B D cs (wC cs ad σ n nm ci cj E) o f mi E sz)) (va_Qi (fun k (u : (Nat → Nat → Int32) × (Nat → Int64)) => ∃ r, cr_end σ n nm p0 p1 p2 k r u.1 ∧ (k = 0 → u.2 0 = r.toInt64)) (fun u t => va_P D cls_ (wC cs ad u.1 n nm ci cj E ++ [(o, outc cs u.2)]) t.heap ∧ va_K D cls_ (tys_ cs) t ∧ va_D (va_A ((wC cs ad σ n nm ci cj E) ++ [(o, outc cs f)]) sz) (wC cs ad u.1 n nm ci cj E ++ [(o, outc cs u.2)])) (va_A ((wC cs ad σ n nm ci cj E) ++ [(o, outc cs f)]) sz)) 1 6 (va_A ((wC cs ad σ n nm ci cj E) ++ [(o, outc cs f)]) sz) := by
  refine va_MetW (cc := b_L_end) (maxL := 6) (ret := (some .int)) (hh := [(0, 12, 15, 13)]) (by decide) rfl ?_
  intro p e s m args below meth c s₁ B hml hv
  obtain ⟨rfl, hsz, hP, hK, hD0, hX, hZ, hg, hE, hnc⟩ := hv
  have hx := B.exec
  have hb := B.bytes
  have hr := B.returns
  have hts := atoms_spec (ws := Cond.codeWith y_L_end b_L_end 6 (some .int) [(0, 12, 15, 13)] :: GW) B.pre
  have hG : ∀ w ∈ GW, w.before _ s = true := fun w h => hts w (List.mem_cons_of_mem _ h)
  have hTab := vx_table (x := y_L_end) B (hts _ List.mem_cons_self)
  have hown : s.vm.findClass R_L = some m.cls := findClass_of_methodNamed B.named
  have hlocks := B.notSynchronized
  subst hsz
  have hD := hD0.self (sz := s.heap.size)
  generalize hAe : va_A ((wC cs ad σ n nm ci cj E) ++ [(o, outc cs f)]) s.heap.size = A at hD hZ hE ⊢
  have hA : ∀ q : Nat, s.heap.size ≤ q → A q := fun q h => by rw [← hAe]; exact Or.inr h
  have hS : va_S A s.heap s.heap [] := va_S.rf
  have hl := lv_entry ([.ref (ad 0), .int p0, .int p1, .int p2, .ref o]) (n := 6) (Nat.le_of_ble_eq_true rfl)
  rw [lg_entry_eq]
  generalize (lg_sl ([.ref (ad 0), .int p0, .int p1, .int p2, .ref o]) ++ List.replicate (6 - (lg_sl ([.ref (ad 0), .int p0, .int p1, .int p2, .ref o])).length) Slot.unset).toArray = ls at hl ⊢
  have hl : lv_has ls 6 [(0, .ref (ad 0)), (1, .int p0), (2, .int p1), (3, .int p2), (4, .ref o)] := hl
  refine lv_aload hx hb d_L_end_0 (lv_at hl 4 rfl) ?_
  refine lv_iconst (v := 0) hx hb d_L_end_2 (by decide) ?_
  refine lv_aload_n hx hb d_L_end_3 rfl (lv_at hl 0 rfl) ?_
  refine lv_iload_n hx hb d_L_end_4 rfl (lv_at hl 1 rfl) ?_
  refine lv_iload_n hx hb d_L_end_5 rfl (lv_at hl 2 rfl) ?_
  refine lv_iload_n hx hb d_L_end_6 rfl (lv_at hl 3 rfl) ?_
  have hPx := fr_l hP
  have hDx := fr_dl hD
  have hFX := fr_A hD hS hA
  refine vx_calli (vx_runV (As := [.int p0, .int p1, .int p2]) (rest := [.int 0, .ref o]) ⟨hx, hb, hml, hown, hts⟩ (c_C_end l D cs ad σ n nm ci cj E hI hst s.heap.size p0 p1 p2) (cwV 3 hts (gw_V kw_430 kw_431 kw_432 kw_1 kw_433) rfl rfl rfl (by decide +kernel) ⟨Nat.le_of_ble_eq_true rfl, Nat.le_of_ble_eq_true rfl⟩) ⟨xr_blind, rl_recv hK hPx (RC_f (by decide)) gC_0 rfl, fun U hU hW => ⟨rfl, ⟨by rw [hU], by rw [hU]; exact hPx, va_K.moved hW.alike hK, hDx.weaken (fun _ _ _ _ => trivial)⟩, hX.warm hW, by rw [hU]; exact (hZ.moved hW.alike).narrow hFX⟩⟩ rfl rfl hl.1 rfl (lv_room (Nat.le_of_ble_eq_true rfl)) d_L_end_7 ⟨Nat.le_of_ble_eq_true rfl, Nat.le_of_ble_eq_true rfl⟩) hS (fun q _ h => hFX q h) hFX (fun q _ h => hFX q h) (fun E9 ce q9 u t H1 locs ht hvm hpx hB hz1 hk1 hS hce hcv hcl => ?_) (fun r u t H1 locs ht hvm hw hB hz1 hk1 hS => ?_)
  · obtain ⟨rfl, hP1, -, hD1⟩ := hB
    rw [ht] at hP1
    obtain ⟨hP, hD⟩ := fr_join hP hD hk1 hFX hP1 hD1
    refine vx_catch (name := xe_A) hown [] ⟨0, 12, 15, 13⟩ [] (hTab.trans rfl) (fun z hz => nomatch hz) (by decide) (by decide) (hG _ kw_186) (va_Nw.use rfl hX.1.1) hce hcv hcl ?_
    refine lv_astore (lv' := [(5, .ref q9), (0, .ref (ad 0)), (1, .int p0), (2, .int p1), (3, .int p2), (4, .ref o)]) hx hb d_L_end_15 hl (by decide) rfl (fun ls hl => ?_)
    refine lv_iconst (v := 1) hx hb d_L_end_17 (by decide) ?_
    exact W.iret (v := 1) hx hb hr (fun t ht hW => ⟨⟨1, (σ, f), rfl, ⟨0, Or.inr ⟨rfl, hpx, rfl⟩, fun h9 => absurd h9 (by decide)⟩, by show va_P _ _ _ t.heap; rw [ht]; exact hP, va_K.moved hW.alike hK, hD⟩, hS.F ht⟩) hS.2.2 d_L_end_18
  · obtain ⟨hP1, -, hD1⟩ := hB
    rw [ht] at hP1
    obtain ⟨hP, hD⟩ := fr_join hP hD hk1 hFX hP1 hD1
    refine lv_i2l hx hb d_L_end_10 rfl ?_
    refine lo_last hx hb hK hP hD hS d_L_end_11 (fun H locs f1 hf1 hP hD hS => ?_)
    refine lv_goto (tgt := 19) hx hb d_L_end_12 (by decide) ?_
    refine lv_iconst (v := 0) hx hb d_L_end_19 (by decide) ?_
    exact W.iret (v := 0) hx hb hr (fun t ht hW => ⟨⟨0, (u, f1), rfl, ⟨r, Or.inl ⟨rfl, hw⟩, fun _ => hf1⟩, by show va_P _ _ _ t.heap; rw [ht]; exact hP, va_K.moved hW.alike hK, hD⟩, hS.F ht⟩) hS.2.2 d_L_end_20
set_option maxHeartbeats 4000000 in
set_option maxRecDepth 100000 in
theorem c_L_seal (l : Launch) (D : va_G) (cs : Nat → ClassId) (ad : Nat → Nat) (σ : Nat → Nat → Int32) (n nm ci cj E : Nat) (hI : Iv n nm ci cj) (hJ : Jv σ n nm) (mi : Nat) (hst : l.stackTraces = false) (o : Nat) (f : Nat → Int64) (sz : Nat) (p0 p1 p2 p3 : Int32) : Met l y_L_seal (Cond.codeWith y_L_seal b_L_seal 7 (some .int) [(0, 14, 17, 13)] :: GW) ({ frames := 9, cells := 1, slots := 6, locals := 288 }) (va_Pc [.ref (ad 0), .int p0, .int p1, .int p2, .int p3, .ref o] (hp_B D cs (wC cs ad σ n nm ci cj E) o f mi E sz)) (va_Qi (fun k (u : (Nat → Nat → Int32) × (Nat → Int64)) => ∃ r, cr_seal σ n nm p0 p1 p2 p3 k r u.1 ∧ (k = 0 → u.2 0 = r.toInt64)) (fun u t => va_P D cls_ (wC cs ad u.1 n nm ci cj E ++ [(o, outc cs u.2)]) t.heap ∧ va_K D cls_ (tys_ cs) t ∧ va_D (va_A ((wC cs ad σ n nm ci cj E) ++ [(o, outc cs f)]) sz) (wC cs ad u.1 n nm ci cj E ++ [(o, outc cs u.2)])) (va_A ((wC cs ad σ n nm ci cj E) ++ [(o, outc cs f)]) sz)) 1 6 (va_A ((wC cs ad σ n nm ci cj E) ++ [(o, outc cs f)]) sz) := by
  refine va_MetW (cc := b_L_seal) (maxL := 7) (ret := (some .int)) (hh := [(0, 14, 17, 13)]) (by decide) rfl ?_
  intro p e s m args below meth c s₁ B hml hv
  obtain ⟨rfl, hsz, hP, hK, hD0, hX, hZ, hg, hE, hnc⟩ := hv
  have hx := B.exec
  have hb := B.bytes
  have hr := B.returns
  have hts := atoms_spec (ws := Cond.codeWith y_L_seal b_L_seal 7 (some .int) [(0, 14, 17, 13)] :: GW) B.pre
  have hG : ∀ w ∈ GW, w.before _ s = true := fun w h => hts w (List.mem_cons_of_mem _ h)
  have hTab := vx_table (x := y_L_seal) B (hts _ List.mem_cons_self)
  have hown : s.vm.findClass R_L = some m.cls := findClass_of_methodNamed B.named
  have hlocks := B.notSynchronized
  subst hsz
  have hD := hD0.self (sz := s.heap.size)
  generalize hAe : va_A ((wC cs ad σ n nm ci cj E) ++ [(o, outc cs f)]) s.heap.size = A at hD hZ hE ⊢
  have hA : ∀ q : Nat, s.heap.size ≤ q → A q := fun q h => by rw [← hAe]; exact Or.inr h
  have hS : va_S A s.heap s.heap [] := va_S.rf
  have hl := lv_entry ([.ref (ad 0), .int p0, .int p1, .int p2, .int p3, .ref o]) (n := 7) (Nat.le_of_ble_eq_true rfl)
  rw [lg_entry_eq]
  generalize (lg_sl ([.ref (ad 0), .int p0, .int p1, .int p2, .int p3, .ref o]) ++ List.replicate (7 - (lg_sl ([.ref (ad 0), .int p0, .int p1, .int p2, .int p3, .ref o])).length) Slot.unset).toArray = ls at hl ⊢
  have hl : lv_has ls 7 [(0, .ref (ad 0)), (1, .int p0), (2, .int p1), (3, .int p2), (4, .int p3), (5, .ref o)] := hl
  refine lv_aload hx hb d_L_seal_0 (lv_at hl 5 rfl) ?_
  refine lv_iconst (v := 0) hx hb d_L_seal_2 (by decide) ?_
  refine lv_aload_n hx hb d_L_seal_3 rfl (lv_at hl 0 rfl) ?_
  refine lv_iload_n hx hb d_L_seal_4 rfl (lv_at hl 1 rfl) ?_
  refine lv_iload_n hx hb d_L_seal_5 rfl (lv_at hl 2 rfl) ?_
  refine lv_iload_n hx hb d_L_seal_6 rfl (lv_at hl 3 rfl) ?_
  refine lv_iload hx hb d_L_seal_7 (lv_at hl 4 rfl) ?_
  have hPx := fr_l hP
  have hDx := fr_dl hD
  have hFX := fr_A hD hS hA
  refine vx_calli (vx_runV (As := [.int p0, .int p1, .int p2, .int p3]) (rest := [.int 0, .ref o]) ⟨hx, hb, hml, hown, hts⟩ (c_C_seal l D cs ad σ n nm ci cj E hI hst s.heap.size p0 p1 p2 p3) (cwV 4 hts (gw_V kw_437 kw_438 kw_439 kw_1 kw_440) rfl rfl rfl (by decide +kernel) ⟨Nat.le_of_ble_eq_true rfl, Nat.le_of_ble_eq_true rfl⟩) ⟨xr_blind, rl_recv hK hPx (RC_f (by decide)) gC_0 rfl, fun U hU hW => ⟨rfl, ⟨by rw [hU], by rw [hU]; exact hPx, va_K.moved hW.alike hK, hDx.weaken (fun _ _ _ _ => trivial)⟩, hX.warm hW, by rw [hU]; exact (hZ.moved hW.alike).narrow hFX⟩⟩ rfl rfl hl.1 rfl (lv_room (Nat.le_of_ble_eq_true rfl)) d_L_seal_9 ⟨Nat.le_of_ble_eq_true rfl, Nat.le_of_ble_eq_true rfl⟩) hS (fun q _ h => hFX q h) hFX (fun q _ h => hFX q h) (fun E9 ce q9 u t H1 locs ht hvm hpx hB hz1 hk1 hS hce hcv hcl => ?_) (fun r u t H1 locs ht hvm hw hB hz1 hk1 hS => ?_)
  · obtain ⟨rfl, hP1, -, hD1⟩ := hB
    rw [ht] at hP1
    obtain ⟨hP, hD⟩ := fr_join hP hD hk1 hFX hP1 hD1
    refine vx_catch (name := xe_A) hown [] ⟨0, 14, 17, 13⟩ [] (hTab.trans rfl) (fun z hz => nomatch hz) (by decide) (by decide) (hG _ kw_186) (va_Nw.use rfl hX.1.1) hce hcv hcl ?_
    refine lv_astore (lv' := [(6, .ref q9), (0, .ref (ad 0)), (1, .int p0), (2, .int p1), (3, .int p2), (4, .int p3), (5, .ref o)]) hx hb d_L_seal_17 hl (by decide) rfl (fun ls hl => ?_)
    refine lv_iconst (v := 1) hx hb d_L_seal_19 (by decide) ?_
    exact W.iret (v := 1) hx hb hr (fun t ht hW => ⟨⟨1, (σ, f), rfl, ⟨0, Or.inr ⟨rfl, hpx, rfl⟩, fun h9 => absurd h9 (by decide)⟩, by show va_P _ _ _ t.heap; rw [ht]; exact hP, va_K.moved hW.alike hK, hD⟩, hS.F ht⟩) hS.2.2 d_L_seal_20
  · obtain ⟨hP1, -, hD1⟩ := hB
    rw [ht] at hP1
    obtain ⟨hP, hD⟩ := fr_join hP hD hk1 hFX hP1 hD1
    refine lv_i2l hx hb d_L_seal_12 rfl ?_
    refine lo_last hx hb hK hP hD hS d_L_seal_13 (fun H locs f1 hf1 hP hD hS => ?_)
    refine lv_goto (tgt := 21) hx hb d_L_seal_14 (by decide) ?_
    refine lv_iconst (v := 0) hx hb d_L_seal_21 (by decide) ?_
    exact W.iret (v := 0) hx hb hr (fun t ht hW => ⟨⟨0, (u, f1), rfl, ⟨r, Or.inl ⟨rfl, hw⟩, fun _ => hf1⟩, by show va_P _ _ _ t.heap; rw [ht]; exact hP, va_K.moved hW.alike hK, hD⟩, hS.F ht⟩) hS.2.2 d_L_seal_22
set_option maxHeartbeats 4000000 in
set_option maxRecDepth 100000 in
theorem c_L_sample (l : Launch) (D : va_G) (cs : Nat → ClassId) (ad : Nat → Nat) (σ : Nat → Nat → Int32) (n nm ci cj E : Nat) (hI : Iv n nm ci cj) (hJ : Jv σ n nm) (mi : Nat) (hst : l.stackTraces = false) (o : Nat) (f : Nat → Int64) (sz : Nat) (p0 p1 : Int32) : Met l y_L_sample (Cond.codeWith y_L_sample b_L_sample 5 (some .int) [(0, 10, 13, 13), (0, 10, 17, 15)] :: GW) ({ frames := 9, cells := 4, slots := 120, locals := 288 }) (va_Pc [.ref (ad 0), .int p0, .int p1, .ref o] (hp_B D cs (wC cs ad σ n nm ci cj E) o f mi E sz)) (va_Qi (fun k (u : ((Nat → Nat) × Nat × Nat × (Nat → Nat → Int32)) × (Nat → Int64)) => ∃ r, cr_sample ad σ n nm ci cj p0 p1 k r u.1 ∧ (k = 0 → u.2 0 = r.toInt64)) (fun u t => va_P D cls_ (wC cs u.1.1 u.1.2.2.2 n u.1.2.1 ci u.1.2.2.1 E ++ [(o, outc cs u.2)]) t.heap ∧ va_K D cls_ (tys_ cs) t ∧ va_D (va_A ((wC cs ad σ n nm ci cj E) ++ [(o, outc cs f)]) sz) (wC cs u.1.1 u.1.2.2.2 n u.1.2.1 ci u.1.2.2.1 E ++ [(o, outc cs u.2)])) (va_A ((wC cs ad σ n nm ci cj E) ++ [(o, outc cs f)]) sz)) 4 120 (va_A ((wC cs ad σ n nm ci cj E) ++ [(o, outc cs f)]) sz) := by
  refine va_MetW (cc := b_L_sample) (maxL := 5) (ret := (some .int)) (hh := [(0, 10, 13, 13), (0, 10, 17, 15)]) (by decide) rfl ?_
  intro p e s m args below meth c s₁ B hml hv
  obtain ⟨rfl, hsz, hP, hK, hD0, hX, hZ, hg, hE, hnc⟩ := hv
  have hx := B.exec
  have hb := B.bytes
  have hr := B.returns
  have hts := atoms_spec (ws := Cond.codeWith y_L_sample b_L_sample 5 (some .int) [(0, 10, 13, 13), (0, 10, 17, 15)] :: GW) B.pre
  have hG : ∀ w ∈ GW, w.before _ s = true := fun w h => hts w (List.mem_cons_of_mem _ h)
  have hTab := vx_table (x := y_L_sample) B (hts _ List.mem_cons_self)
  have hown : s.vm.findClass R_L = some m.cls := findClass_of_methodNamed B.named
  have hlocks := B.notSynchronized
  subst hsz
  have hD := hD0.self (sz := s.heap.size)
  generalize hAe : va_A ((wC cs ad σ n nm ci cj E) ++ [(o, outc cs f)]) s.heap.size = A at hD hZ hE ⊢
  have hA : ∀ q : Nat, s.heap.size ≤ q → A q := fun q h => by rw [← hAe]; exact Or.inr h
  have hS : va_S A s.heap s.heap [] := va_S.rf
  have hl := lv_entry ([.ref (ad 0), .int p0, .int p1, .ref o]) (n := 5) (Nat.le_of_ble_eq_true rfl)
  rw [lg_entry_eq]
  generalize (lg_sl ([.ref (ad 0), .int p0, .int p1, .ref o]) ++ List.replicate (5 - (lg_sl ([.ref (ad 0), .int p0, .int p1, .ref o])).length) Slot.unset).toArray = ls at hl ⊢
  have hl : lv_has ls 5 [(0, .ref (ad 0)), (1, .int p0), (2, .int p1), (3, .ref o)] := hl
  refine lv_aload_n hx hb d_L_sample_0 rfl (lv_at hl 3 rfl) ?_
  refine lv_iconst (v := 0) hx hb d_L_sample_1 (by decide) ?_
  refine lv_aload_n hx hb d_L_sample_2 rfl (lv_at hl 0 rfl) ?_
  refine lv_iload_n hx hb d_L_sample_3 rfl (lv_at hl 1 rfl) ?_
  refine lv_iload_n hx hb d_L_sample_4 rfl (lv_at hl 2 rfl) ?_
  have hPx := fr_l hP
  have hDx := fr_dl hD
  have hFX := fr_A hD hS hA
  refine vx_calli (vx_runV (As := [.int p0, .int p1]) (rest := [.int 0, .ref o]) ⟨hx, hb, hml, hown, hts⟩ (c_C_sample l D cs ad σ n nm ci cj E hI hJ mi hst s.heap.size p0 p1) (cwV 2 hts (gw_V kw_453 kw_454 kw_455 kw_1 kw_456) rfl rfl rfl (by decide +kernel) ⟨Nat.le_of_ble_eq_true rfl, Nat.le_of_ble_eq_true rfl⟩) ⟨(fun b9 U9 g9 mk9 q9 => ⟨q9.1, (xr_blind b9 U9 g9 mk9 ⟨q9.1, q9.2.1⟩).2, gr_K.moved (u := U9) (U := U9.calling g9 mk9 b9) (Vm.Alike.refl U9.vm) q9.2.2.1, em_E.moved (u := U9) (U := U9.calling g9 mk9 b9) (Vm.Alike.refl U9.vm) q9.2.2.2⟩), rl_recv hK hPx (RC_f (by decide)) gC_0 rfl, fun U hU hW => ⟨rfl, ⟨⟨by rw [hU], by rw [hU]; exact hPx, va_K.moved hW.alike hK, hDx.weaken (fun _ _ _ _ => trivial)⟩, hX.warm hW, by rw [hU]; exact (hZ.moved hW.alike).narrow hFX⟩, hg.moved hW.alike, by rw [hU]; exact (hE.moved hW.alike).narrow hFX⟩⟩ rfl rfl hl.1 rfl (lv_room (Nat.le_of_ble_eq_true rfl)) d_L_sample_5 ⟨Nat.le_of_ble_eq_true rfl, Nat.le_of_ble_eq_true rfl⟩) hS (fun q _ h => hFX q h) hFX (fun q _ h => hFX q h) (fun E9 ce q9 u t H1 locs ht hvm hpx hB hz1 hk1 hS hce hcv hcl => ?_) (fun r u t H1 locs ht hvm hw hB hz1 hk1 hS => ?_)
  · obtain ⟨eE, hP1, -, hD1⟩ := hB
    rw [ht] at hP1
    obtain ⟨hP, hD⟩ := fr_join hP hD hk1 hFX hP1 hD1
    rcases hpx with ⟨rfl, hpx⟩ | ⟨rfl, hpx⟩
    · obtain rfl : E9 = xe_A := eE
      refine vx_catch (name := xe_A) hown [] ⟨0, 10, 13, 13⟩ [⟨0, 10, 17, 15⟩] (hTab.trans rfl) (fun z hz => nomatch hz) (by decide) (by decide) (hG _ kw_186) (va_Nw.use rfl hX.1.1) hce hcv hcl ?_
      refine lv_astore (lv' := [(4, .ref q9), (0, .ref (ad 0)), (1, .int p0), (2, .int p1), (3, .ref o)]) hx hb d_L_sample_13 hl (by decide) rfl (fun ls hl => ?_)
      refine lv_iconst (v := 1) hx hb d_L_sample_15 (by decide) ?_
      exact W.iret (v := 1) hx hb hr (fun t ht hW => ⟨⟨1, ((ad, nm, cj, σ), f), rfl, ⟨0, Or.inr ⟨Or.inl ⟨rfl, hpx⟩, rfl⟩, fun h9 => absurd h9 (by decide)⟩, by show va_P _ _ _ t.heap; rw [ht]; exact hP, va_K.moved hW.alike hK, hD⟩, hS.F ht⟩) hS.2.2 d_L_sample_16
    · obtain rfl : E9 = xe_S := eE
      refine vx_catch (name := xe_S) hown [⟨0, 10, 13, 13⟩] ⟨0, 10, 17, 15⟩ [] (hTab.trans rfl) (fun z hz => by have hz0 := List.mem_singleton.mp hz; subst hz0; exact Or.inr ⟨by decide, xe_A, hG _ kw_186, hnc⟩) (by decide) (by decide) (hG _ kw_187) (va_Nw.use rfl hX.1.2.1) hce hcv hcl ?_
      refine lv_astore (lv' := [(4, .ref q9), (0, .ref (ad 0)), (1, .int p0), (2, .int p1), (3, .ref o)]) hx hb d_L_sample_17 hl (by decide) rfl (fun ls hl => ?_)
      refine lv_iconst (v := 2) hx hb d_L_sample_19 (by decide) ?_
      exact W.iret (v := 2) hx hb hr (fun t ht hW => ⟨⟨2, ((ad, nm, cj, σ), f), rfl, ⟨0, Or.inr ⟨Or.inr ⟨rfl, hpx⟩, rfl⟩, fun h9 => absurd h9 (by decide)⟩, by show va_P _ _ _ t.heap; rw [ht]; exact hP, va_K.moved hW.alike hK, hD⟩, hS.F ht⟩) hS.2.2 d_L_sample_20
  · obtain ⟨hP1, -, hD1⟩ := hB
    rw [ht] at hP1
    obtain ⟨hP, hD⟩ := fr_join hP hD hk1 hFX hP1 hD1
    refine lv_i2l hx hb d_L_sample_8 rfl ?_
    refine lo_last hx hb hK hP hD hS d_L_sample_9 (fun H locs f1 hf1 hP hD hS => ?_)
    refine lv_goto (tgt := 21) hx hb d_L_sample_10 (by decide) ?_
    refine lv_iconst (v := 0) hx hb d_L_sample_21 (by decide) ?_
    exact W.iret (v := 0) hx hb hr (fun t ht hW => ⟨⟨0, (u, f1), rfl, ⟨r, Or.inl ⟨rfl, hw⟩, fun _ => hf1⟩, by show va_P _ _ _ t.heap; rw [ht]; exact hP, va_K.moved hW.alike hK, hD⟩, hS.F ht⟩) hS.2.2 d_L_sample_22
set_option maxHeartbeats 4000000 in
set_option maxRecDepth 100000 in
theorem c_L_result (l : Launch) (D : va_G) (cs : Nat → ClassId) (ad : Nat → Nat) (σ : Nat → Nat → Int32) (n nm ci cj E : Nat) (hI : Iv n nm ci cj) (hJ : Jv σ n nm) (mi : Nat) (hst : l.stackTraces = false) (o : Nat) (f : Nat → Int64) (sz : Nat) (p0 p1 p2 p3 : Int32) : Met l y_L_result (Cond.codeWith y_L_result b_L_result 7 (some .int) [(0, 14, 17, 13)] :: GW) ({ frames := 9, cells := 1, slots := 6, locals := 288 }) (va_Pc [.ref (ad 0), .int p0, .int p1, .int p2, .int p3, .ref o] (hp_B D cs (wC cs ad σ n nm ci cj E) o f mi E sz)) (va_Qi (fun k (u : (Nat → Nat → Int32) × (Nat → Int64)) => ∃ r, cr_result σ n nm p0 p1 p2 p3 k r u.1 ∧ (k = 0 → u.2 0 = r.toInt64)) (fun u t => va_P D cls_ (wC cs ad u.1 n nm ci cj E ++ [(o, outc cs u.2)]) t.heap ∧ va_K D cls_ (tys_ cs) t ∧ va_D (va_A ((wC cs ad σ n nm ci cj E) ++ [(o, outc cs f)]) sz) (wC cs ad u.1 n nm ci cj E ++ [(o, outc cs u.2)])) (va_A ((wC cs ad σ n nm ci cj E) ++ [(o, outc cs f)]) sz)) 1 6 (va_A ((wC cs ad σ n nm ci cj E) ++ [(o, outc cs f)]) sz) := by
  refine va_MetW (cc := b_L_result) (maxL := 7) (ret := (some .int)) (hh := [(0, 14, 17, 13)]) (by decide) rfl ?_
  intro p e s m args below meth c s₁ B hml hv
  obtain ⟨rfl, hsz, hP, hK, hD0, hX, hZ, hg, hE, hnc⟩ := hv
  have hx := B.exec
  have hb := B.bytes
  have hr := B.returns
  have hts := atoms_spec (ws := Cond.codeWith y_L_result b_L_result 7 (some .int) [(0, 14, 17, 13)] :: GW) B.pre
  have hG : ∀ w ∈ GW, w.before _ s = true := fun w h => hts w (List.mem_cons_of_mem _ h)
  have hTab := vx_table (x := y_L_result) B (hts _ List.mem_cons_self)
  have hown : s.vm.findClass R_L = some m.cls := findClass_of_methodNamed B.named
  have hlocks := B.notSynchronized
  subst hsz
  have hD := hD0.self (sz := s.heap.size)
  generalize hAe : va_A ((wC cs ad σ n nm ci cj E) ++ [(o, outc cs f)]) s.heap.size = A at hD hZ hE ⊢
  have hA : ∀ q : Nat, s.heap.size ≤ q → A q := fun q h => by rw [← hAe]; exact Or.inr h
  have hS : va_S A s.heap s.heap [] := va_S.rf
  have hl := lv_entry ([.ref (ad 0), .int p0, .int p1, .int p2, .int p3, .ref o]) (n := 7) (Nat.le_of_ble_eq_true rfl)
  rw [lg_entry_eq]
  generalize (lg_sl ([.ref (ad 0), .int p0, .int p1, .int p2, .int p3, .ref o]) ++ List.replicate (7 - (lg_sl ([.ref (ad 0), .int p0, .int p1, .int p2, .int p3, .ref o])).length) Slot.unset).toArray = ls at hl ⊢
  have hl : lv_has ls 7 [(0, .ref (ad 0)), (1, .int p0), (2, .int p1), (3, .int p2), (4, .int p3), (5, .ref o)] := hl
  refine lv_aload hx hb d_L_result_0 (lv_at hl 5 rfl) ?_
  refine lv_iconst (v := 0) hx hb d_L_result_2 (by decide) ?_
  refine lv_aload_n hx hb d_L_result_3 rfl (lv_at hl 0 rfl) ?_
  refine lv_iload_n hx hb d_L_result_4 rfl (lv_at hl 1 rfl) ?_
  refine lv_iload_n hx hb d_L_result_5 rfl (lv_at hl 2 rfl) ?_
  refine lv_iload_n hx hb d_L_result_6 rfl (lv_at hl 3 rfl) ?_
  refine lv_iload hx hb d_L_result_7 (lv_at hl 4 rfl) ?_
  have hPx := fr_l hP
  have hDx := fr_dl hD
  have hFX := fr_A hD hS hA
  refine vx_calli (vx_runV (As := [.int p0, .int p1, .int p2, .int p3]) (rest := [.int 0, .ref o]) ⟨hx, hb, hml, hown, hts⟩ (c_C_result l D cs ad σ n nm ci cj E hI hJ hst s.heap.size p0 p1 p2 p3) (cwV 4 hts (gw_V kw_490 kw_491 kw_492 kw_1 kw_493) rfl rfl rfl (by decide +kernel) ⟨Nat.le_of_ble_eq_true rfl, Nat.le_of_ble_eq_true rfl⟩) ⟨xr_blind, rl_recv hK hPx (RC_f (by decide)) gC_0 rfl, fun U hU hW => ⟨rfl, ⟨by rw [hU], by rw [hU]; exact hPx, va_K.moved hW.alike hK, hDx.weaken (fun _ _ _ _ => trivial)⟩, hX.warm hW, by rw [hU]; exact (hZ.moved hW.alike).narrow hFX⟩⟩ rfl rfl hl.1 rfl (lv_room (Nat.le_of_ble_eq_true rfl)) d_L_result_9 ⟨Nat.le_of_ble_eq_true rfl, Nat.le_of_ble_eq_true rfl⟩) hS (fun q _ h => hFX q h) hFX (fun q _ h => hFX q h) (fun E9 ce q9 u t H1 locs ht hvm hpx hB hz1 hk1 hS hce hcv hcl => ?_) (fun r u t H1 locs ht hvm hw hB hz1 hk1 hS => ?_)
  · obtain ⟨rfl, hP1, -, hD1⟩ := hB
    rw [ht] at hP1
    obtain ⟨hP, hD⟩ := fr_join hP hD hk1 hFX hP1 hD1
    refine vx_catch (name := xe_A) hown [] ⟨0, 14, 17, 13⟩ [] (hTab.trans rfl) (fun z hz => nomatch hz) (by decide) (by decide) (hG _ kw_186) (va_Nw.use rfl hX.1.1) hce hcv hcl ?_
    refine lv_astore (lv' := [(6, .ref q9), (0, .ref (ad 0)), (1, .int p0), (2, .int p1), (3, .int p2), (4, .int p3), (5, .ref o)]) hx hb d_L_result_17 hl (by decide) rfl (fun ls hl => ?_)
    refine lv_iconst (v := 1) hx hb d_L_result_19 (by decide) ?_
    exact W.iret (v := 1) hx hb hr (fun t ht hW => ⟨⟨1, (σ, f), rfl, ⟨0, Or.inr ⟨rfl, hpx, rfl⟩, fun h9 => absurd h9 (by decide)⟩, by show va_P _ _ _ t.heap; rw [ht]; exact hP, va_K.moved hW.alike hK, hD⟩, hS.F ht⟩) hS.2.2 d_L_result_20
  · obtain ⟨hP1, -, hD1⟩ := hB
    rw [ht] at hP1
    obtain ⟨hP, hD⟩ := fr_join hP hD hk1 hFX hP1 hD1
    refine lv_i2l hx hb d_L_result_12 rfl ?_
    refine lo_last hx hb hK hP hD hS d_L_result_13 (fun H locs f1 hf1 hP hD hS => ?_)
    refine lv_goto (tgt := 21) hx hb d_L_result_14 (by decide) ?_
    refine lv_iconst (v := 0) hx hb d_L_result_21 (by decide) ?_
    exact W.iret (v := 0) hx hb hr (fun t ht hW => ⟨⟨0, (u, f1), rfl, ⟨r, Or.inl ⟨rfl, hw⟩, fun _ => hf1⟩, by show va_P _ _ _ t.heap; rw [ht]; exact hP, va_K.moved hW.alike hK, hD⟩, hS.F ht⟩) hS.2.2 d_L_result_22
set_option maxHeartbeats 4000000 in
set_option maxRecDepth 100000 in
theorem c_L_settle (l : Launch) (D : va_G) (cs : Nat → ClassId) (ad : Nat → Nat) (σ : Nat → Nat → Int32) (n nm ci cj E : Nat) (hI : Iv n nm ci cj) (hJ : Jv σ n nm) (mi : Nat) (hst : l.stackTraces = false) (o : Nat) (f : Nat → Int64) (sz : Nat) (p0 : Int32) : Met l y_L_settle (Cond.codeWith y_L_settle b_L_settle 4 (some .int) [(0, 9, 12, 13)] :: GW) ({ frames := 9, cells := 1, slots := 6, locals := 288 }) (va_Pc [.ref (ad 0), .int p0, .ref o] (hp_B D cs (wC cs ad σ n nm ci cj E) o f mi E sz)) (va_Qi (fun k (u : (Nat → Nat → Int32) × (Nat → Int64)) => ∃ r, cr_settle σ n nm p0 k r u.1 ∧ (k = 0 → u.2 0 = r.toInt64)) (fun u t => va_P D cls_ (wC cs ad u.1 n nm ci cj E ++ [(o, outc cs u.2)]) t.heap ∧ va_K D cls_ (tys_ cs) t ∧ va_D (va_A ((wC cs ad σ n nm ci cj E) ++ [(o, outc cs f)]) sz) (wC cs ad u.1 n nm ci cj E ++ [(o, outc cs u.2)])) (va_A ((wC cs ad σ n nm ci cj E) ++ [(o, outc cs f)]) sz)) 1 6 (va_A ((wC cs ad σ n nm ci cj E) ++ [(o, outc cs f)]) sz) := by
  refine va_MetW (cc := b_L_settle) (maxL := 4) (ret := (some .int)) (hh := [(0, 9, 12, 13)]) (by decide) rfl ?_
  intro p e s m args below meth c s₁ B hml hv
  obtain ⟨rfl, hsz, hP, hK, hD0, hX, hZ, hg, hE, hnc⟩ := hv
  have hx := B.exec
  have hb := B.bytes
  have hr := B.returns
  have hts := atoms_spec (ws := Cond.codeWith y_L_settle b_L_settle 4 (some .int) [(0, 9, 12, 13)] :: GW) B.pre
  have hG : ∀ w ∈ GW, w.before _ s = true := fun w h => hts w (List.mem_cons_of_mem _ h)
  have hTab := vx_table (x := y_L_settle) B (hts _ List.mem_cons_self)
  have hown : s.vm.findClass R_L = some m.cls := findClass_of_methodNamed B.named
  have hlocks := B.notSynchronized
  subst hsz
  have hD := hD0.self (sz := s.heap.size)
  generalize hAe : va_A ((wC cs ad σ n nm ci cj E) ++ [(o, outc cs f)]) s.heap.size = A at hD hZ hE ⊢
  have hA : ∀ q : Nat, s.heap.size ≤ q → A q := fun q h => by rw [← hAe]; exact Or.inr h
  have hS : va_S A s.heap s.heap [] := va_S.rf
  have hl := lv_entry ([.ref (ad 0), .int p0, .ref o]) (n := 4) (Nat.le_of_ble_eq_true rfl)
  rw [lg_entry_eq]
  generalize (lg_sl ([.ref (ad 0), .int p0, .ref o]) ++ List.replicate (4 - (lg_sl ([.ref (ad 0), .int p0, .ref o])).length) Slot.unset).toArray = ls at hl ⊢
  have hl : lv_has ls 4 [(0, .ref (ad 0)), (1, .int p0), (2, .ref o)] := hl
  refine lv_aload_n hx hb d_L_settle_0 rfl (lv_at hl 2 rfl) ?_
  refine lv_iconst (v := 0) hx hb d_L_settle_1 (by decide) ?_
  refine lv_aload_n hx hb d_L_settle_2 rfl (lv_at hl 0 rfl) ?_
  refine lv_iload_n hx hb d_L_settle_3 rfl (lv_at hl 1 rfl) ?_
  have hPx := fr_l hP
  have hDx := fr_dl hD
  have hFX := fr_A hD hS hA
  refine vx_calli (vx_runV (As := [.int p0]) (rest := [.int 0, .ref o]) ⟨hx, hb, hml, hown, hts⟩ (c_C_settle l D cs ad σ n nm ci cj E hI hJ hst s.heap.size p0) (cwV 1 hts (gw_V kw_499 kw_500 kw_501 kw_1 kw_502) rfl rfl rfl (by decide +kernel) ⟨Nat.le_of_ble_eq_true rfl, Nat.le_of_ble_eq_true rfl⟩) ⟨xr_blind, rl_recv hK hPx (RC_f (by decide)) gC_0 rfl, fun U hU hW => ⟨rfl, ⟨by rw [hU], by rw [hU]; exact hPx, va_K.moved hW.alike hK, hDx.weaken (fun _ _ _ _ => trivial)⟩, hX.warm hW, by rw [hU]; exact (hZ.moved hW.alike).narrow hFX⟩⟩ rfl rfl hl.1 rfl (lv_room (Nat.le_of_ble_eq_true rfl)) d_L_settle_4 ⟨Nat.le_of_ble_eq_true rfl, Nat.le_of_ble_eq_true rfl⟩) hS (fun q _ h => hFX q h) hFX (fun q _ h => hFX q h) (fun E9 ce q9 u t H1 locs ht hvm hpx hB hz1 hk1 hS hce hcv hcl => ?_) (fun r u t H1 locs ht hvm hw hB hz1 hk1 hS => ?_)
  · obtain ⟨rfl, hP1, -, hD1⟩ := hB
    rw [ht] at hP1
    obtain ⟨hP, hD⟩ := fr_join hP hD hk1 hFX hP1 hD1
    refine vx_catch (name := xe_A) hown [] ⟨0, 9, 12, 13⟩ [] (hTab.trans rfl) (fun z hz => nomatch hz) (by decide) (by decide) (hG _ kw_186) (va_Nw.use rfl hX.1.1) hce hcv hcl ?_
    refine lv_astore_n (lv' := [(3, .ref q9), (0, .ref (ad 0)), (1, .int p0), (2, .ref o)]) hx hb d_L_settle_12 rfl hl (by decide) rfl (fun ls hl => ?_)
    refine lv_iconst (v := 1) hx hb d_L_settle_13 (by decide) ?_
    exact W.iret (v := 1) hx hb hr (fun t ht hW => ⟨⟨1, (σ, f), rfl, ⟨0, Or.inr ⟨rfl, hpx, rfl⟩, fun h9 => absurd h9 (by decide)⟩, by show va_P _ _ _ t.heap; rw [ht]; exact hP, va_K.moved hW.alike hK, hD⟩, hS.F ht⟩) hS.2.2 d_L_settle_14
  · obtain ⟨hP1, -, hD1⟩ := hB
    rw [ht] at hP1
    obtain ⟨hP, hD⟩ := fr_join hP hD hk1 hFX hP1 hD1
    refine lv_i2l hx hb d_L_settle_7 rfl ?_
    refine lo_last hx hb hK hP hD hS d_L_settle_8 (fun H locs f1 hf1 hP hD hS => ?_)
    refine lv_goto (tgt := 15) hx hb d_L_settle_9 (by decide) ?_
    refine lv_iconst (v := 0) hx hb d_L_settle_15 (by decide) ?_
    exact W.iret (v := 0) hx hb hr (fun t ht hW => ⟨⟨0, (u, f1), rfl, ⟨r, Or.inl ⟨rfl, hw⟩, fun _ => hf1⟩, by show va_P _ _ _ t.heap; rw [ht]; exact hP, va_K.moved hW.alike hK, hD⟩, hS.F ht⟩) hS.2.2 d_L_settle_16
set_option maxHeartbeats 4000000 in
set_option maxRecDepth 100000 in
theorem c_L_tick (l : Launch) (D : va_G) (cs : Nat → ClassId) (ad : Nat → Nat) (σ : Nat → Nat → Int32) (n nm ci cj E : Nat) (hI : Iv n nm ci cj) (hJ : Jv σ n nm) (mi : Nat) (hst : l.stackTraces = false) (o : Nat) (f : Nat → Int64) (sz : Nat) (p0 : Int32) : Met l y_L_tick (Cond.codeWith y_L_tick b_L_tick 4 (some .int) [(0, 9, 12, 13)] :: GW) ({ frames := 9, cells := 1, slots := 6, locals := 288 }) (va_Pc [.ref (ad 0), .int p0, .ref o] (hp_B D cs (wC cs ad σ n nm ci cj E) o f mi E sz)) (va_Qi (fun k (u : (Nat → Nat → Int32) × (Nat → Int64)) => ∃ r, cr_tick σ n nm p0 k r u.1 ∧ (k = 0 → u.2 0 = r.toInt64)) (fun u t => va_P D cls_ (wC cs ad u.1 n nm ci cj E ++ [(o, outc cs u.2)]) t.heap ∧ va_K D cls_ (tys_ cs) t ∧ va_D (va_A ((wC cs ad σ n nm ci cj E) ++ [(o, outc cs f)]) sz) (wC cs ad u.1 n nm ci cj E ++ [(o, outc cs u.2)])) (va_A ((wC cs ad σ n nm ci cj E) ++ [(o, outc cs f)]) sz)) 1 6 (va_A ((wC cs ad σ n nm ci cj E) ++ [(o, outc cs f)]) sz) := by
  refine va_MetW (cc := b_L_tick) (maxL := 4) (ret := (some .int)) (hh := [(0, 9, 12, 13)]) (by decide) rfl ?_
  intro p e s m args below meth c s₁ B hml hv
  obtain ⟨rfl, hsz, hP, hK, hD0, hX, hZ, hg, hE, hnc⟩ := hv
  have hx := B.exec
  have hb := B.bytes
  have hr := B.returns
  have hts := atoms_spec (ws := Cond.codeWith y_L_tick b_L_tick 4 (some .int) [(0, 9, 12, 13)] :: GW) B.pre
  have hG : ∀ w ∈ GW, w.before _ s = true := fun w h => hts w (List.mem_cons_of_mem _ h)
  have hTab := vx_table (x := y_L_tick) B (hts _ List.mem_cons_self)
  have hown : s.vm.findClass R_L = some m.cls := findClass_of_methodNamed B.named
  have hlocks := B.notSynchronized
  subst hsz
  have hD := hD0.self (sz := s.heap.size)
  generalize hAe : va_A ((wC cs ad σ n nm ci cj E) ++ [(o, outc cs f)]) s.heap.size = A at hD hZ hE ⊢
  have hA : ∀ q : Nat, s.heap.size ≤ q → A q := fun q h => by rw [← hAe]; exact Or.inr h
  have hS : va_S A s.heap s.heap [] := va_S.rf
  have hl := lv_entry ([.ref (ad 0), .int p0, .ref o]) (n := 4) (Nat.le_of_ble_eq_true rfl)
  rw [lg_entry_eq]
  generalize (lg_sl ([.ref (ad 0), .int p0, .ref o]) ++ List.replicate (4 - (lg_sl ([.ref (ad 0), .int p0, .ref o])).length) Slot.unset).toArray = ls at hl ⊢
  have hl : lv_has ls 4 [(0, .ref (ad 0)), (1, .int p0), (2, .ref o)] := hl
  refine lv_aload_n hx hb d_L_tick_0 rfl (lv_at hl 2 rfl) ?_
  refine lv_iconst (v := 0) hx hb d_L_tick_1 (by decide) ?_
  refine lv_aload_n hx hb d_L_tick_2 rfl (lv_at hl 0 rfl) ?_
  refine lv_iload_n hx hb d_L_tick_3 rfl (lv_at hl 1 rfl) ?_
  have hPx := fr_l hP
  have hDx := fr_dl hD
  have hFX := fr_A hD hS hA
  refine vx_calli (vx_runV (As := [.int p0]) (rest := [.int 0, .ref o]) ⟨hx, hb, hml, hown, hts⟩ (c_C_tick l D cs ad σ n nm ci cj E hI hst s.heap.size p0) (cwV 1 hts (gw_V kw_511 kw_512 kw_513 kw_1 kw_514) rfl rfl rfl (by decide +kernel) ⟨Nat.le_of_ble_eq_true rfl, Nat.le_of_ble_eq_true rfl⟩) ⟨xr_blind, rl_recv hK hPx (RC_f (by decide)) gC_0 rfl, fun U hU hW => ⟨rfl, ⟨by rw [hU], by rw [hU]; exact hPx, va_K.moved hW.alike hK, hDx.weaken (fun _ _ _ _ => trivial)⟩, hX.warm hW, by rw [hU]; exact (hZ.moved hW.alike).narrow hFX⟩⟩ rfl rfl hl.1 rfl (lv_room (Nat.le_of_ble_eq_true rfl)) d_L_tick_4 ⟨Nat.le_of_ble_eq_true rfl, Nat.le_of_ble_eq_true rfl⟩) hS (fun q _ h => hFX q h) hFX (fun q _ h => hFX q h) (fun E9 ce q9 u t H1 locs ht hvm hpx hB hz1 hk1 hS hce hcv hcl => ?_) (fun r u t H1 locs ht hvm hw hB hz1 hk1 hS => ?_)
  · obtain ⟨rfl, hP1, -, hD1⟩ := hB
    rw [ht] at hP1
    obtain ⟨hP, hD⟩ := fr_join hP hD hk1 hFX hP1 hD1
    refine vx_catch (name := xe_A) hown [] ⟨0, 9, 12, 13⟩ [] (hTab.trans rfl) (fun z hz => nomatch hz) (by decide) (by decide) (hG _ kw_186) (va_Nw.use rfl hX.1.1) hce hcv hcl ?_
    refine lv_astore_n (lv' := [(3, .ref q9), (0, .ref (ad 0)), (1, .int p0), (2, .ref o)]) hx hb d_L_tick_12 rfl hl (by decide) rfl (fun ls hl => ?_)
    refine lv_iconst (v := 1) hx hb d_L_tick_13 (by decide) ?_
    exact W.iret (v := 1) hx hb hr (fun t ht hW => ⟨⟨1, (σ, f), rfl, ⟨0, Or.inr ⟨rfl, hpx, rfl⟩, fun h9 => absurd h9 (by decide)⟩, by show va_P _ _ _ t.heap; rw [ht]; exact hP, va_K.moved hW.alike hK, hD⟩, hS.F ht⟩) hS.2.2 d_L_tick_14
  · obtain ⟨hP1, -, hD1⟩ := hB
    rw [ht] at hP1
    obtain ⟨hP, hD⟩ := fr_join hP hD hk1 hFX hP1 hD1
    refine lv_i2l hx hb d_L_tick_7 rfl ?_
    refine lo_last hx hb hK hP hD hS d_L_tick_8 (fun H locs f1 hf1 hP hD hS => ?_)
    refine lv_goto (tgt := 15) hx hb d_L_tick_9 (by decide) ?_
    refine lv_iconst (v := 0) hx hb d_L_tick_15 (by decide) ?_
    exact W.iret (v := 0) hx hb hr (fun t ht hW => ⟨⟨0, (u, f1), rfl, ⟨r, Or.inl ⟨rfl, hw⟩, fun _ => hf1⟩, by show va_P _ _ _ t.heap; rw [ht]; exact hP, va_K.moved hW.alike hK, hD⟩, hS.F ht⟩) hS.2.2 d_L_tick_16
set_option maxHeartbeats 4000000 in
set_option maxRecDepth 100000 in
theorem c_L_release (l : Launch) (D : va_G) (cs : Nat → ClassId) (ad : Nat → Nat) (σ : Nat → Nat → Int32) (n nm ci cj E : Nat) (hI : Iv n nm ci cj) (hJ : Jv σ n nm) (mi : Nat) (hst : l.stackTraces = false) (o : Nat) (f : Nat → Int64) (sz : Nat) (p0 : Int32) : Met l y_L_release (Cond.codeWith y_L_release b_L_release 4 (some .int) [(0, 9, 12, 13)] :: GW) ({ frames := 9, cells := 1, slots := 6, locals := 288 }) (va_Pc [.ref (ad 0), .int p0, .ref o] (hp_B D cs (wC cs ad σ n nm ci cj E) o f mi E sz)) (va_Qi (fun k (u : (Nat → Nat → Int32) × (Nat → Int64)) => ∃ r, cr_release σ n nm p0 k r u.1 ∧ (k = 0 → u.2 0 = r.toInt64)) (fun u t => va_P D cls_ (wC cs ad u.1 n nm ci cj E ++ [(o, outc cs u.2)]) t.heap ∧ va_K D cls_ (tys_ cs) t ∧ va_D (va_A ((wC cs ad σ n nm ci cj E) ++ [(o, outc cs f)]) sz) (wC cs ad u.1 n nm ci cj E ++ [(o, outc cs u.2)])) (va_A ((wC cs ad σ n nm ci cj E) ++ [(o, outc cs f)]) sz)) 1 6 (va_A ((wC cs ad σ n nm ci cj E) ++ [(o, outc cs f)]) sz) := by
  refine va_MetW (cc := b_L_release) (maxL := 4) (ret := (some .int)) (hh := [(0, 9, 12, 13)]) (by decide) rfl ?_
  intro p e s m args below meth c s₁ B hml hv
  obtain ⟨rfl, hsz, hP, hK, hD0, hX, hZ, hg, hE, hnc⟩ := hv
  have hx := B.exec
  have hb := B.bytes
  have hr := B.returns
  have hts := atoms_spec (ws := Cond.codeWith y_L_release b_L_release 4 (some .int) [(0, 9, 12, 13)] :: GW) B.pre
  have hG : ∀ w ∈ GW, w.before _ s = true := fun w h => hts w (List.mem_cons_of_mem _ h)
  have hTab := vx_table (x := y_L_release) B (hts _ List.mem_cons_self)
  have hown : s.vm.findClass R_L = some m.cls := findClass_of_methodNamed B.named
  have hlocks := B.notSynchronized
  subst hsz
  have hD := hD0.self (sz := s.heap.size)
  generalize hAe : va_A ((wC cs ad σ n nm ci cj E) ++ [(o, outc cs f)]) s.heap.size = A at hD hZ hE ⊢
  have hA : ∀ q : Nat, s.heap.size ≤ q → A q := fun q h => by rw [← hAe]; exact Or.inr h
  have hS : va_S A s.heap s.heap [] := va_S.rf
  have hl := lv_entry ([.ref (ad 0), .int p0, .ref o]) (n := 4) (Nat.le_of_ble_eq_true rfl)
  rw [lg_entry_eq]
  generalize (lg_sl ([.ref (ad 0), .int p0, .ref o]) ++ List.replicate (4 - (lg_sl ([.ref (ad 0), .int p0, .ref o])).length) Slot.unset).toArray = ls at hl ⊢
  have hl : lv_has ls 4 [(0, .ref (ad 0)), (1, .int p0), (2, .ref o)] := hl
  refine lv_aload_n hx hb d_L_release_0 rfl (lv_at hl 2 rfl) ?_
  refine lv_iconst (v := 0) hx hb d_L_release_1 (by decide) ?_
  refine lv_aload_n hx hb d_L_release_2 rfl (lv_at hl 0 rfl) ?_
  refine lv_iload_n hx hb d_L_release_3 rfl (lv_at hl 1 rfl) ?_
  have hPx := fr_l hP
  have hDx := fr_dl hD
  have hFX := fr_A hD hS hA
  refine vx_calli (vx_runV (As := [.int p0]) (rest := [.int 0, .ref o]) ⟨hx, hb, hml, hown, hts⟩ (c_C_release l D cs ad σ n nm ci cj E hI hJ hst s.heap.size p0) (cwV 1 hts (gw_V kw_532 kw_533 kw_534 kw_1 kw_535) rfl rfl rfl (by decide +kernel) ⟨Nat.le_of_ble_eq_true rfl, Nat.le_of_ble_eq_true rfl⟩) ⟨xr_blind, rl_recv hK hPx (RC_f (by decide)) gC_0 rfl, fun U hU hW => ⟨rfl, ⟨by rw [hU], by rw [hU]; exact hPx, va_K.moved hW.alike hK, hDx.weaken (fun _ _ _ _ => trivial)⟩, hX.warm hW, by rw [hU]; exact (hZ.moved hW.alike).narrow hFX⟩⟩ rfl rfl hl.1 rfl (lv_room (Nat.le_of_ble_eq_true rfl)) d_L_release_4 ⟨Nat.le_of_ble_eq_true rfl, Nat.le_of_ble_eq_true rfl⟩) hS (fun q _ h => hFX q h) hFX (fun q _ h => hFX q h) (fun E9 ce q9 u t H1 locs ht hvm hpx hB hz1 hk1 hS hce hcv hcl => ?_) (fun r u t H1 locs ht hvm hw hB hz1 hk1 hS => ?_)
  · obtain ⟨rfl, hP1, -, hD1⟩ := hB
    rw [ht] at hP1
    obtain ⟨hP, hD⟩ := fr_join hP hD hk1 hFX hP1 hD1
    refine vx_catch (name := xe_A) hown [] ⟨0, 9, 12, 13⟩ [] (hTab.trans rfl) (fun z hz => nomatch hz) (by decide) (by decide) (hG _ kw_186) (va_Nw.use rfl hX.1.1) hce hcv hcl ?_
    refine lv_astore_n (lv' := [(3, .ref q9), (0, .ref (ad 0)), (1, .int p0), (2, .ref o)]) hx hb d_L_release_12 rfl hl (by decide) rfl (fun ls hl => ?_)
    refine lv_iconst (v := 1) hx hb d_L_release_13 (by decide) ?_
    exact W.iret (v := 1) hx hb hr (fun t ht hW => ⟨⟨1, (σ, f), rfl, ⟨0, Or.inr ⟨rfl, hpx, rfl⟩, fun h9 => absurd h9 (by decide)⟩, by show va_P _ _ _ t.heap; rw [ht]; exact hP, va_K.moved hW.alike hK, hD⟩, hS.F ht⟩) hS.2.2 d_L_release_14
  · obtain ⟨hP1, -, hD1⟩ := hB
    rw [ht] at hP1
    obtain ⟨hP, hD⟩ := fr_join hP hD hk1 hFX hP1 hD1
    refine lv_i2l hx hb d_L_release_7 rfl ?_
    refine lo_last hx hb hK hP hD hS d_L_release_8 (fun H locs f1 hf1 hP hD hS => ?_)
    refine lv_goto (tgt := 15) hx hb d_L_release_9 (by decide) ?_
    refine lv_iconst (v := 0) hx hb d_L_release_15 (by decide) ?_
    exact W.iret (v := 0) hx hb hr (fun t ht hW => ⟨⟨0, (u, f1), rfl, ⟨r, Or.inl ⟨rfl, hw⟩, fun _ => hf1⟩, by show va_P _ _ _ t.heap; rw [ht]; exact hP, va_K.moved hW.alike hK, hD⟩, hS.F ht⟩) hS.2.2 d_L_release_16
set_option maxHeartbeats 4000000 in
set_option maxRecDepth 100000 in
theorem c_L_look (l : Launch) (D : va_G) (cs : Nat → ClassId) (ad : Nat → Nat) (σ : Nat → Nat → Int32) (n nm ci cj E : Nat) (hI : Iv n nm ci cj) (hJ : Jv σ n nm) (mi : Nat) (hst : l.stackTraces = false) (o : Nat) (f : Nat → Int64) (sz : Nat) (p0 p1 : Int32) : Met l y_L_look (Cond.codeWith y_L_look b_L_look 5 (some .int) [(0, 10, 13, 51)] :: GW) ({ frames := 9, cells := 1, slots := 6, locals := 288 }) (va_Pc [.ref (ad 0), .int p0, .int p1, .ref o] (hp_B D cs (wC cs ad σ n nm ci cj E) o f mi E sz)) (va_Qi (fun k (u : (Nat → Nat → Int32) × (Nat → Int64)) => ∃ r, cr_look σ n nm p0 p1 k r u.1 ∧ (k = 0 → u.2 0 = r.toInt64)) (fun u t => va_P D cls_ (wC cs ad u.1 n nm ci cj E ++ [(o, outc cs u.2)]) t.heap ∧ va_K D cls_ (tys_ cs) t ∧ va_D (va_A ((wC cs ad σ n nm ci cj E) ++ [(o, outc cs f)]) sz) (wC cs ad u.1 n nm ci cj E ++ [(o, outc cs u.2)])) (va_A ((wC cs ad σ n nm ci cj E) ++ [(o, outc cs f)]) sz)) 1 6 (va_A ((wC cs ad σ n nm ci cj E) ++ [(o, outc cs f)]) sz) := by
  refine va_MetW (cc := b_L_look) (maxL := 5) (ret := (some .int)) (hh := [(0, 10, 13, 51)]) (by decide) rfl ?_
  intro p e s m args below meth c s₁ B hml hv
  obtain ⟨rfl, hsz, hP, hK, hD0, hX, hZ, hg, hE, hnc⟩ := hv
  have hx := B.exec
  have hb := B.bytes
  have hr := B.returns
  have hts := atoms_spec (ws := Cond.codeWith y_L_look b_L_look 5 (some .int) [(0, 10, 13, 51)] :: GW) B.pre
  have hG : ∀ w ∈ GW, w.before _ s = true := fun w h => hts w (List.mem_cons_of_mem _ h)
  have hTab := vx_table (x := y_L_look) B (hts _ List.mem_cons_self)
  have hown : s.vm.findClass R_L = some m.cls := findClass_of_methodNamed B.named
  have hlocks := B.notSynchronized
  subst hsz
  have hD := hD0.self (sz := s.heap.size)
  generalize hAe : va_A ((wC cs ad σ n nm ci cj E) ++ [(o, outc cs f)]) s.heap.size = A at hD hZ hE ⊢
  have hA : ∀ q : Nat, s.heap.size ≤ q → A q := fun q h => by rw [← hAe]; exact Or.inr h
  have hS : va_S A s.heap s.heap [] := va_S.rf
  have hl := lv_entry ([.ref (ad 0), .int p0, .int p1, .ref o]) (n := 5) (Nat.le_of_ble_eq_true rfl)
  rw [lg_entry_eq]
  generalize (lg_sl ([.ref (ad 0), .int p0, .int p1, .ref o]) ++ List.replicate (5 - (lg_sl ([.ref (ad 0), .int p0, .int p1, .ref o])).length) Slot.unset).toArray = ls at hl ⊢
  have hl : lv_has ls 5 [(0, .ref (ad 0)), (1, .int p0), (2, .int p1), (3, .ref o)] := hl
  refine lv_aload_n hx hb d_L_look_0 rfl (lv_at hl 3 rfl) ?_
  refine lv_iconst (v := 0) hx hb d_L_look_1 (by decide) ?_
  refine lv_aload_n hx hb d_L_look_2 rfl (lv_at hl 0 rfl) ?_
  refine lv_iload_n hx hb d_L_look_3 rfl (lv_at hl 1 rfl) ?_
  refine lv_iload_n hx hb d_L_look_4 rfl (lv_at hl 2 rfl) ?_
  have hPx := fr_l hP
  have hDx := fr_dl hD
  have hFX := fr_A hD hS hA
  refine vx_calli (vx_runV (As := [.int p0, .int p1]) (rest := [.int 0, .ref o]) ⟨hx, hb, hml, hown, hts⟩ (c_C_look l D cs ad σ n nm ci cj E hI hst s.heap.size p0 p1) (cwV 2 hts (gw_V kw_553 kw_554 kw_555 kw_1 kw_556) rfl rfl rfl (by decide +kernel) ⟨Nat.le_of_ble_eq_true rfl, Nat.le_of_ble_eq_true rfl⟩) ⟨xr_blind, rl_recv hK hPx (RC_f (by decide)) gC_0 rfl, fun U hU hW => ⟨rfl, ⟨by rw [hU], by rw [hU]; exact hPx, va_K.moved hW.alike hK, hDx.weaken (fun _ _ _ _ => trivial)⟩, hX.warm hW, by rw [hU]; exact (hZ.moved hW.alike).narrow hFX⟩⟩ rfl rfl hl.1 rfl (lv_room (Nat.le_of_ble_eq_true rfl)) d_L_look_5 ⟨Nat.le_of_ble_eq_true rfl, Nat.le_of_ble_eq_true rfl⟩) hS (fun q _ h => hFX q h) hFX (fun q _ h => hFX q h) (fun E9 ce q9 u t H1 locs ht hvm hpx hB hz1 hk1 hS hce hcv hcl => ?_) (fun r u t H1 locs ht hvm hw hB hz1 hk1 hS => ?_)
  · obtain ⟨rfl, hP1, -, hD1⟩ := hB
    rw [ht] at hP1
    obtain ⟨hP, hD⟩ := fr_join hP hD hk1 hFX hP1 hD1
    refine vx_catch (name := xe_I) hown [] ⟨0, 10, 13, 51⟩ [] (hTab.trans rfl) (fun z hz => nomatch hz) (by decide) (by decide) (hG _ kw_552) (va_Nw.use rfl hX.1.2.2.1) hce hcv hcl ?_
    refine lv_astore (lv' := [(4, .ref q9), (0, .ref (ad 0)), (1, .int p0), (2, .int p1), (3, .ref o)]) hx hb d_L_look_13 hl (by decide) rfl (fun ls hl => ?_)
    refine lv_iconst (v := 1) hx hb d_L_look_15 (by decide) ?_
    exact W.iret (v := 1) hx hb hr (fun t ht hW => ⟨⟨1, (σ, f), rfl, ⟨0, Or.inr ⟨rfl, hpx, rfl⟩, fun h9 => absurd h9 (by decide)⟩, by show va_P _ _ _ t.heap; rw [ht]; exact hP, va_K.moved hW.alike hK, hD⟩, hS.F ht⟩) hS.2.2 d_L_look_16
  · obtain ⟨hP1, -, hD1⟩ := hB
    rw [ht] at hP1
    obtain ⟨hP, hD⟩ := fr_join hP hD hk1 hFX hP1 hD1
    refine lv_i2l hx hb d_L_look_8 rfl ?_
    refine lo_last hx hb hK hP hD hS d_L_look_9 (fun H locs f1 hf1 hP hD hS => ?_)
    refine lv_goto (tgt := 17) hx hb d_L_look_10 (by decide) ?_
    refine lv_iconst (v := 0) hx hb d_L_look_17 (by decide) ?_
    exact W.iret (v := 0) hx hb hr (fun t ht hW => ⟨⟨0, (u, f1), rfl, ⟨r, Or.inl ⟨rfl, hw⟩, fun _ => hf1⟩, by show va_P _ _ _ t.heap; rw [ht]; exact hP, va_K.moved hW.alike hK, hD⟩, hS.F ht⟩) hS.2.2 d_L_look_18
