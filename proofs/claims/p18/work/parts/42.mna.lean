def ao_I (U : State) : Prop := (Cond.arrayOver (.array .int)).before #[] U = true
theorem ao_I.of {A : Array Value} {U : State} (h : (Cond.arrayOver (.array .int)).before A U = true) : ao_I U := h
theorem ao_I.use {A : Array Value} {U : State} (h : ao_I U) : (Cond.arrayOver (.array .int)).before A U = true := h
theorem ao_I.moved {u U : State} (hvm : u.vm.Alike U.vm) (h : ao_I u) : ao_I U := by
  have h1 : (Cond.arrayOver (.array .int)).before #[] (u.setVm U.vm) = true := by
    rw [Cond.arrayOver_setVmC hvm]
    exact h
  exact h1
def mn_rows (cs : Nat → ClassId) (q : Nat) : va_W := (q, .inl (cs 3, 10, .inr (.inr (.inr (.inr (fun i => if i < 10 then some (q + 1 + i) else none)))))) :: (List.range 10).map (fun j => (q + 1 + j, .inl (cs 0, 4, .inl (fun _ => 0))))
theorem mn_outer (c : ClassId) (N h0 : Nat) : ∀ i : Nat, Jvm.Free.Multi.outerC c N h0 i = arrV c N (fun j => va_rf (if j < i then some (h0 + 1 + j) else none))
  | 0 => by
    show ({ cls := c, slots := Array.replicate N .null, vm := .none } : Cell) = _
    rw [arrV_new]
    exact congrArg (arrV c N) (funext fun j => by rw [if_neg (Nat.not_lt_zero j)]; rfl)
  | i + 1 => by
    show (Jvm.Free.Multi.outerC c N h0 i).setSlot i (.ref (h0 + 1 + i)) = _
    rw [mn_outer c N h0 i, arrV_store]
    refine congrArg (arrV c N) (funext fun j => ?_)
    by_cases e : j = i
    · subst e
      simp [updV, va_rf]
    · by_cases h : j < i
      · simp [updV, e, h, Nat.lt_succ_of_lt h]
      · simp [updV, e, h, show ¬ j < i + 1 by omega]
section MNA
variable {p : Program} {l : Launch} {e : Env} {R : Room} {s : State} {m : MethodId} {args : Array Value} {below : List Frame} {meth : Method} {c : Code} {H : Heap} {locs : List Loc} {cells slots : Nat} {Q : State → Prop}
variable {cc : ByteArray} {pc : Nat} {ls : Array Slot} {rest : List Value} {D : va_G} {cl : List vw_C} {A : Nat → Prop} {ws : va_W} {H0 : Heap} {cs : Nat → ClassId}
theorem mn_row (hexec : p.tables.exec = Jvm.exec) (hb : c.code = cc) {own : String} {index : Nat} (hown : s.vm.findClass own = some m.cls) (hclink : (Cond.classLink own index "[[I").before args s = true) (hover : ao_I s) (harr : (Cond.arrayClass .int).before args s = true)
    (hK : va_K D cl (tys_ cs) s) (hP : va_P D cl ws H) (hD : va_D A ws) (hS : va_S A H0 H locs) (hA : ∀ q, H0.size ≤ q → A q) (hcells : cells + (1 + 10) ≤ R.cells) (hslots : slots + (10 + 10 * 4) ≤ R.slots) (hdg : decode cc pc = .ok (.multianewarray index 2, 4))
    (kk : ∀ (q : Nat) (H1 : Heap), va_P D cl (ws ++ mn_rows cs q) H1 → va_D A (ws ++ mn_rows cs q) → va_S A H0 H1 locs → W p l e R s m args below meth c H1 locs (cells + 1 + 10) (slots + 10 + 10 * 4) Q (F0 m (pc + 4) ls (.ref q :: rest))) : W p l e R s m args below meth c H locs cells slots Q (F0 m pc ls (.int 4 :: .int 10 :: rest)) := by
  intro T hT Xs
  obtain ⟨vm₁, cA, comp, -, fA, fC, -, -, X', step⟩ := Xs.multianewarray2F hexec hown (ty := .int) hclink hover.use harr (g := F0 m pc ls (.int 4 :: .int 10 :: rest)) rfl (by rw [hb]; exact hdg) rfl (by decide) (by decide) (by decide) (by decide) (by decide) rfl rfl hcells hslots
  have h3 : s.vm.findClass _ = some (cs 3) := (hK.2 3 _ rfl).2
  have h0 : s.vm.findClass _ = some (cs 0) := (hK.2 0 _ rfl).2
  have e3 : cA = cs 3 := Option.some.inj (fA.symm.trans h3)
  have e0 : comp = cs 0 := Option.some.inj (fC.symm.trans h0)
  subst e3
  subst e0
  have n10 : (10 : Int32).toNatClampNeg = 10 := by decide
  have n4 : (4 : Int32).toNatClampNeg = 4 := by decide
  rw [n10, n4] at X' step
  have hTh : (T.setVm vm₁).heap = H := hT
  obtain ⟨f1, f2, -, -⟩ := Jvm.Free.Multi.fill_facts (T.setVm vm₁) (cs 3) (cs 0) 10 4 (defaultValue .int) 10
  have hold : ∀ x : Nat, x < H.size → (Jvm.Free.Multi.fill (T.setVm vm₁) (cs 3) (cs 0) 10 4 (defaultValue .int) 10).heap[x]? = H[x]? := fun x hx => by
    have := Jvm.Free.Multi.fill_old (T.setVm vm₁) (cs 3) (cs 0) 10 4 (defaultValue .int) (a := x) (by rw [hTh]; exact hx) 10
    rw [hTh] at this
    exact this
  have hrow : ∀ j : Nat, j < 10 → (Jvm.Free.Multi.fill (T.setVm vm₁) (cs 3) (cs 0) 10 4 (defaultValue .int) 10).heap[H.size + 1 + j]? = some (vp_cell (cs 0) (4, .inl (fun _ => 0))) := fun j hj => by
    have := Jvm.Free.Multi.fill_inner (T.setVm vm₁) (cs 3) (cs 0) 10 4 (defaultValue .int) 10 j hj
    rw [hTh] at this
    rw [this]
    rfl
  rw [hTh] at f1 f2
  generalize Jvm.Free.Multi.fill (T.setVm vm₁) (cs 3) (cs 0) 10 4 (defaultValue .int) 10 = F at X' step f1 f2 hold hrow
  rw [mn_outer] at f2
  have hP1 : va_P D cl (ws ++ mn_rows cs H.size) F.heap := (hP.kept (fun k9 x hx => hold x.1 ((hP k9 x hx).lt))).app (fun k9 x hx => by
    cases k9 with
    | zero =>
      cases hx
      show F.heap[H.size]? = some (vp_cell _ _)
      rw [vp_cell_q]
      exact f2
    | succ j =>
      have hx' : ((List.range 10).map (fun j => ((H.size + 1 + j, .inl (cs 0, 4, .inl (fun _ => 0))) : Nat × va_E)))[j]? = some x := hx
      rw [List.getElem?_map] at hx'
      cases hj : (List.range 10)[j]? with
      | none => rw [hj] at hx'; cases hx'
      | some i =>
        rw [hj] at hx'
        cases hx'
        exact hrow i (List.mem_range.mp (List.mem_of_getElem? hj)))
  have hnew : ∀ (j : Nat) (x : Nat × va_E), (mn_rows cs H.size)[j]? = some x → x.1 = H.size + j := fun j x hx => by
    cases j with
    | zero => cases hx; rfl
    | succ j =>
      have hx' : ((List.range 10).map (fun j => ((H.size + 1 + j, .inl (cs 0, 4, .inl (fun _ => 0))) : Nat × va_E)))[j]? = some x := hx
      rw [List.getElem?_map] at hx'
      cases hj : (List.range 10)[j]? with
      | none => rw [hj] at hx'; cases hx'
      | some i =>
        rw [hj] at hx'
        cases hx'
        rw [List.getElem?_range ((List.getElem?_eq_some_iff.mp hj).1 |> fun h => by simpa using h)] at hj
        cases hj
        show H.size + 1 + j = _
        omega
  have hD1 : va_D A (ws ++ mn_rows cs H.size) := hD.app ⟨fun i j x y hx hy e => by have := hnew i x hx; have := hnew j y hy; omega, fun j x hx => by rw [hnew j x hx]; exact hA _ (by have := hS.1; omega)⟩ (fun i j x y hx hy e => by have := hnew j y hy; have := (hP i x hx).lt; omega)
  obtain ⟨t, a1, b1⟩ := kk H.size F.heap hP1 hD1 ⟨Nat.le_trans hS.1 (by rw [f1]; omega), fun x h1 h2 => (hold x (Nat.lt_of_lt_of_le h1 hS.1)).trans (hS.2.1 x h1 h2), hS.2.2⟩ F rfl X'
  refine ⟨t, step t ?_, b1⟩
  rw [hT]
  exact a1
end MNA
/-! worlds by membership -/
theorem rl_P_iff {D : va_G} {cl : List vw_C} {Rl : List Nat} {ad : Nat → Nat} {g : Nat → va_E} {H : Heap} : va_P D cl (rl_w Rl ad g) H ↔ ∀ r ∈ Rl, va_at D cl (ad r, g r) H := by
  constructor
  · intro h r hr
    obtain ⟨k, -, hk⟩ := rl_at (ad := ad) (g := g) hr
    exact h k _ hk
  · intro h k q hk
    simp only [rl_w, List.getElem?_map] at hk
    cases hb : Rl[k]? with
    | none => rw [hb] at hk; cases hk
    | some b =>
      rw [hb] at hk
      cases hk
      exact h b (List.mem_of_getElem? hb)
theorem rl_D_of {A : Nat → Prop} {Rl : List Nat} {ad : Nat → Nat} {g : Nat → va_E} (hn : Rl.Nodup) (h1 : ∀ r ∈ Rl, ∀ q ∈ Rl, ad r = ad q → r = q) (h2 : ∀ r ∈ Rl, A (ad r)) : va_D A (rl_w Rl ad g) := by
  refine ⟨fun i j x y hx hy e => ?_, fun k q hk => ?_⟩
  · simp only [rl_w, List.getElem?_map] at hx hy
    cases hb : Rl[i]? with
    | none => rw [hb] at hx; cases hx
    | some b =>
      cases hc : Rl[j]? with
      | none => rw [hc] at hy; cases hy
      | some c =>
        rw [hb] at hx
        rw [hc] at hy
        cases hx
        cases hy
        have hbc := h1 b (List.mem_of_getElem? hb) c (List.mem_of_getElem? hc) e
        subst hbc
        have hi := (List.getElem?_eq_some_iff.mp hb)
        have hj := (List.getElem?_eq_some_iff.mp hc)
        obtain ⟨hi1, hi2⟩ := hi
        obtain ⟨hj1, hj2⟩ := hj
        have hp := List.pairwise_iff_getElem.mp hn
        rcases Nat.lt_trichotomy i j with h | h | h
        · exact absurd (hi2.trans hj2.symm) (hp i j hi1 hj1 h)
        · exact h
        · exact absurd (hj2.trans hi2.symm) (hp j i hj1 hi1 h)
  · simp only [rl_w, List.getElem?_map] at hk
    cases hb : Rl[k]? with
    | none => rw [hb] at hk; cases hk
    | some b =>
      rw [hb] at hk
      cases hk
      exact h2 b (List.mem_of_getElem? hb)
theorem rl_D_in {A : Nat → Prop} {Rl : List Nat} {ad : Nat → Nat} {g : Nat → va_E} {r : Nat} (hD : va_D A (rl_w Rl ad g)) (hr : r ∈ Rl) : A (ad r) := by
  obtain ⟨k, -, hk⟩ := rl_at (ad := ad) (g := g) hr
  exact hD.2 k _ hk
theorem rl_D_inj {A : Nat → Prop} {Rl : List Nat} {ad : Nat → Nat} {g : Nat → va_E} {r q : Nat} (hD : va_D A (rl_w Rl ad g)) (hr : r ∈ Rl) (hq : q ∈ Rl) (h : ad r = ad q) : r = q := Classical.byContradiction fun hne => rl_ne hD hr hq hne h
