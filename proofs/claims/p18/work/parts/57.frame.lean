/-! two parts of a world; the law's own array of one long -/
def outc (cs : Nat → ClassId) (f : Nat → Int64) : va_E := .inl (cs 4, 1, .inr (.inl f))
section FR
variable {D : va_G} {cl : List vw_C} {W1 W2 W1' W3 : va_W} {A : Nat → Prop} {H H1 : Heap}
theorem fr_l (hP : va_P D cl (W1 ++ W2) H) : va_P D cl W1 H := fun k q hk => hP k q (by rw [List.getElem?_append_left (List.getElem?_eq_some_iff.mp hk).1]; exact hk)
theorem fr_r (hP : va_P D cl (W1 ++ W2) H) : va_P D cl W2 H := fun k q hk => hP (W1.length + k) q (by rw [List.getElem?_append_right (by omega), show W1.length + k - W1.length = k by omega]; exact hk)
theorem fr_dl (hD : va_D A (W1 ++ W2)) : va_D A W1 := ⟨fun i j x y hx hy e => hD.1 i j x y (by rw [List.getElem?_append_left (List.getElem?_eq_some_iff.mp hx).1]; exact hx) (by rw [List.getElem?_append_left (List.getElem?_eq_some_iff.mp hy).1]; exact hy) e, fun k q hk => hD.2 k q (by rw [List.getElem?_append_left (List.getElem?_eq_some_iff.mp hk).1]; exact hk)⟩
theorem fr_dr (hD : va_D A (W1 ++ W2)) : va_D A W2 := ⟨fun i j x y hx hy e => by
  have := hD.1 (W1.length + i) (W1.length + j) x y (by rw [List.getElem?_append_right (by omega), show W1.length + i - W1.length = i by omega]; exact hx) (by rw [List.getElem?_append_right (by omega), show W1.length + j - W1.length = j by omega]; exact hy) e
  omega, fun k q hk => hD.2 (W1.length + k) q (by rw [List.getElem?_append_right (by omega), show W1.length + k - W1.length = k by omega]; exact hk)⟩
theorem fr_x (hD : va_D A (W1 ++ W2)) {i j : Nat} {x y : Nat × va_E} (hx : W1[i]? = some x) (hy : W2[j]? = some y) : x.1 ≠ y.1 := fun e => by
  have hi := (List.getElem?_eq_some_iff.mp hx).1
  have := hD.1 i (W1.length + j) x y (by rw [List.getElem?_append_left hi]; exact hx) (by rw [List.getElem?_append_right (by omega), show W1.length + j - W1.length = j by omega]; exact hy) e
  omega
theorem fr_c (hD : va_D A (W1 ++ W2)) : va_D A (W2 ++ W1) := (fr_dr hD).app (fr_dl hD) (fun _ _ _ _ hx hy e => fr_x hD hy hx e.symm)
theorem fr_A {H0 : Heap} {locs : List Loc} (hD : va_D A (W1 ++ W2)) (hS : va_S A H0 H locs) (hA : ∀ q, H0.size ≤ q → A q) : ∀ q, va_A W1 H.size q → A q := fun q h => by
  rcases h with ⟨k, e, hk⟩ | h
  · exact (fr_dl hD).2 k _ hk
  · exact hA q (Nat.le_trans hS.1 h)
/-- a callee with the first part has run -/
theorem fr_join (hP : va_P D cl (W1 ++ W2) H) (hD : va_D A (W1 ++ W2)) (hk : ∀ q : Nat, q < H.size → ¬ va_A W1 H.size q → H1[q]? = H[q]?) (hF : ∀ q, va_A W1 H.size q → A q) (hP1 : va_P D cl W1' H1) (hD1 : va_D (va_A W1 H.size) W1') : va_P D cl (W1' ++ W2) H1 ∧ va_D A (W1' ++ W2) := by
  have hno : ∀ (k : Nat) (q : Nat × va_E), W2[k]? = some q → q.1 < H.size ∧ ¬ va_A W1 H.size q.1 := fun k q hq => by
    have hlt := (fr_r hP k q hq).lt
    refine ⟨hlt, fun h => ?_⟩
    rcases h with ⟨i, e, hi⟩ | h
    · exact fr_x hD hi hq rfl
    · omega
  refine ⟨hP1.app (fun k q hq => ((fr_r hP) k q hq).kept (hk q.1 (hno k q hq).1 (hno k q hq).2)), (hD1.weaken (fun k q _ h => hF q.1 h)).app (fr_dr hD) (fun i j x y hx hy e => ?_)⟩
  exact (hno j y hy).2 (e ▸ hD1.2 i x hx)
end FR
section LO
variable {p : Program} {l : Launch} {e : Env} {R : Room} {s : State} {m : MethodId} {args : Array Value} {below : List Frame} {meth : Method} {c : Code} {H : Heap} {locs : List Loc} {cells slots : Nat} {Q : State → Prop}
variable {cc : ByteArray} {pc : Nat} {ls : Array Slot} {rest : List Value} {D : va_G} {cl : List vw_C} {A : Nat → Prop} {cs : Nat → ClassId} {X : va_W} {H0 : Heap} {o : Nat} {f : Nat → Int64}
theorem lo_at {x : Nat × va_E} : (X ++ [x])[X.length]? = some x := by
  rw [List.getElem?_append_right (Nat.le_refl _), Nat.sub_self]
  rfl
theorem lo_set {x y : Nat × va_E} : (X ++ [x]).set X.length y = X ++ [y] := by
  rw [List.set_append_right _ _ (Nat.le_refl _), Nat.sub_self]
  rfl
theorem lo_last (hexec : p.tables.exec = Jvm.exec) (hb : c.code = cc) (hK : va_K D cl (tys_ cs) s) (hP : va_P D cl (X ++ [(o, outc cs f)]) H) (hD : va_D A (X ++ [(o, outc cs f)])) (hS : va_S A H0 H locs) {x : Int64} (hdg : decode cc pc = .ok (.lastore, 1))
    (kk : ∀ (H1 : Heap) (locs1 : List Loc) (f1 : Nat → Int64), f1 0 = x → va_P D cl (X ++ [(o, outc cs f1)]) H1 → va_D A (X ++ [(o, outc cs f1)]) → va_S A H0 H1 locs1 → W p l e R s m args below meth c H1 locs1 cells slots Q (F0 m (pc + 1) ls rest)) : W p l e R s m args below meth c H locs cells slots Q (F0 m pc ls (.long x :: .int 0 :: .ref o :: rest)) := by
  refine va_last hexec hb hK hP hD hS X.length 4 lo_at rfl (i := 0) (vp_in_iff.mpr (by decide)) hdg (fun H1 l1 h1 h2 h3 => ?_)
  rw [lo_set] at h1 h2
  exact kk H1 l1 _ (by rw [show (0 : Int32).toNatClampNeg = 0 by decide]; simp [vp_updL]) h1 h2 h3
theorem lo_lald (hexec : p.tables.exec = Jvm.exec) (hb : c.code = cc) (hK : va_K D cl (tys_ cs) s) (hP : va_P D cl (X ++ [(o, outc cs f)]) H) (hdg : decode cc pc = .ok (.laload, 1))
    (kk : W p l e R s m args below meth c H locs cells slots Q (F0 m (pc + 1) ls (.long (f 0) :: rest))) : W p l e R s m args below meth c H locs cells slots Q (F0 m pc ls (.int 0 :: .ref o :: rest)) := by
  refine va_lald hexec hb hK hP X.length 4 lo_at rfl (i := 0) (vp_in_iff.mpr (by decide)) hdg ?_
  rw [show (0 : Int32).toNatClampNeg = 0 by decide]
  exact kk
end LO
/-- a helper's start: the class's world, the law's array -/
abbrev hp_B (D : va_G) (cs : Nat → ClassId) (X : va_W) (o : Nat) (f : Nat → Int64) (mi E : Nat) (sz : Nat) : State → Prop := fun U => U.heap.size = sz ∧ va_P D cls_ (X ++ [(o, outc cs f)]) U.heap ∧ va_K D cls_ (tys_ cs) U ∧ va_D (fun _ => True) (X ++ [(o, outc cs f)]) ∧ xk_K U ∧ xk_Z (va_A (X ++ [(o, outc cs f)]) sz) U U.heap ∧ gr_K mi U ∧ em_E D cs E (va_A (X ++ [(o, outc cs f)]) sz) U U.heap ∧ va_Nc xe_S xe_A U
theorem hp_blind {D : va_G} {cs : Nat → ClassId} {X : va_W} {o : Nat} {f : Nat → Int64} {mi E : Nat} {sz : Nat} {av : List Value} : FrameBlind (va_Pc av (hp_B D cs X o f mi E sz)) := fun b U g mk q => by
  obtain ⟨q0, q1, q2, q3, q4, q5, q6, q7, q8, q9⟩ := q
  exact ⟨q0, q1, q2, va_K.moved (u := U) (U := U.calling g mk b) (Vm.Alike.refl U.vm) q3, q4, xk_K.same (s := U) rfl q5, xk_Z.moved (u := U) (U := U.calling g mk b) (Vm.Alike.refl U.vm) q6, gr_K.moved (u := U) (U := U.calling g mk b) (Vm.Alike.refl U.vm) q7, em_E.moved (u := U) (U := U.calling g mk b) (Vm.Alike.refl U.vm) q8, va_Nc.moved (u := U) (U := U.calling g mk b) (Vm.Alike.refl U.vm) q9⟩
