/-! What a throwing method needs beside its world: words that are not good, the texts, two statics. -/
abbrev xe_A : String := "java/lang/IllegalArgumentException"
abbrev xe_S : String := "java/lang/IllegalStateException"
abbrev xe_I : String := "java/lang/IndexOutOfBoundsException"
abbrev xe_up : List String := ["java/lang/RuntimeException", "java/lang/Exception"]
def xs_l : List (Nat × String) := [(70, "no such declaration or kind"), (78, "due at no time from now on"), (86, "no more inspections"), (101, "no such inspection or place"), (103, "no times from now on, in order"), (119, "no such inspection or person"), (142, "no such declaration or people"), (147, "no such seal, or one person alone"), (152, "no such inspection or seal"), (154, "no more samples"), (170, "no such sample or measure"), (175, "no such seal or value"), (190, "no such declaration"), (200, "no time from now on"), (214, "no such inspection"), (232, "nothing such to look at")]
abbrev xd_1 : Cond := .declares (Bundle.initS "java/lang/RuntimeException")
abbrev xd_2 : Cond := .declares (Bundle.initS "java/lang/Exception")
abbrev xd_3 : Cond := .declares (Bundle.initS Bundle.tN)
def xk_K (U : State) : Prop := (va_Nw (.castable xe_A xe_A) U ∧ va_Nw (.castable xe_S xe_S) U ∧ va_Nw (.castable xe_I xe_I) U ∧ va_Nw xd_1 U ∧ va_Nw xd_2 U ∧ va_Nw xd_3 U) ∧ ∀ q ∈ xs_l, ∃ a : Nat, vk_R "InspectSteps" q.1 q.2 a U
def xk_Z (A : Nat → Prop) (U : State) (H : Heap) : Prop := vx_Zq Bundle.tN "UNASSIGNED_STACK" Bundle.steD A U H ∧ vx_Zq Bundle.tN "SUPPRESSED_SENTINEL" Bundle.listD A U H
theorem xk_K.warm {s U : State} (hW : s.WarmedH U.vm) (h : xk_K s) : xk_K U := ⟨⟨va_Nw.warmC hW h.1.1, va_Nw.warmC hW h.1.2.1, va_Nw.warmC hW h.1.2.2.1, va_Nw.warmD hW h.1.2.2.2.1, va_Nw.warmD hW h.1.2.2.2.2.1, va_Nw.warmD hW h.1.2.2.2.2.2⟩, fun q hq => by
  obtain ⟨a, ha⟩ := h.2 q hq
  exact ⟨a, vk_R.warm hW ha⟩⟩
theorem xk_K.same {s U : State} (hv : U.vm = s.vm) (h : xk_K s) : xk_K U := ⟨⟨va_Nw.same rfl hv.symm h.1.1, va_Nw.same rfl hv.symm h.1.2.1, va_Nw.same rfl hv.symm h.1.2.2.1, va_Nw.same rfl hv.symm h.1.2.2.2.1, va_Nw.same rfl hv.symm h.1.2.2.2.2.1, va_Nw.same rfl hv.symm h.1.2.2.2.2.2⟩, fun q hq => by
  obtain ⟨a, ha⟩ := h.2 q hq
  exact ⟨a, vk_R.same hv ha⟩⟩
theorem xk_Z.moved {A : Nat → Prop} {u U : State} {H : Heap} (hvm : u.vm.Alike U.vm) (h : xk_Z A u H) : xk_Z A U H := ⟨vx_Zq.moved hvm h.1, vx_Zq.moved hvm h.2⟩
theorem xk_Z.kept {A : Nat → Prop} {U : State} {H H1 : Heap} (h : xk_Z A U H) (hq : ∀ a : Nat, a < H.size → ¬ A a → H1[a]? = H[a]?) : xk_Z A U H1 := ⟨h.1.kept hq, h.2.kept hq⟩
theorem xk_Z.narrow {A B : Nat → Prop} {U : State} {H : Heap} (h : xk_Z A U H) (hAB : ∀ q, B q → A q) : xk_Z B U H := ⟨h.1.narrow hAB, h.2.narrow hAB⟩
/-- a throwing method's start -/
abbrev xr_B (D : va_G) (cs : Nat → ClassId) (ws : va_W) (sz : Nat) : State → Prop := fun U => wr_B D cs ws sz U ∧ xk_K U ∧ xk_Z (va_A ws sz) U U.heap
theorem xr_blind {D : va_G} {cs : Nat → ClassId} {ws : va_W} {sz : Nat} {av : List Value} : FrameBlind (va_Pc av (xr_B D cs ws sz)) := fun a U g mk q => by
  obtain ⟨q0, ⟨q1, qP, qK, qD⟩, qX, qZ⟩ := q
  exact ⟨q0, ⟨q1, qP, va_K.moved (u := U) (U := U.calling g mk a) (Vm.Alike.refl U.vm) qK, qD⟩, xk_K.same (s := U) rfl qX, xk_Z.moved (u := U) (U := U.calling g mk a) (Vm.Alike.refl U.vm) qZ⟩
theorem thr_T {D : va_G} {cs : Nat → ClassId} {ws : va_W} {A : Nat → Prop} {s : State} {H : Heap} {locs : List Loc} (hS : va_S A s.heap H locs) (hP : va_P D cls_ ws H) (hK : va_K D cls_ (tys_ cs) s) (hD : va_D A ws) {t : State} (ha : s.vm.Alike t.vm) (hz : H.size ≤ t.heap.size) (hk : ∀ q : Nat, q < H.size → t.heap[q]? = H[q]?) : wr_T D cs ws A t ∧ va_F A s t :=
  ⟨⟨hP.kept (fun k q hq => hk q.1 ((hP k q hq).lt)), va_K.moved ha hK, hD⟩, Nat.le_trans hS.1 hz, fun q h1 h2 => by rw [hk q (Nat.lt_of_lt_of_le h1 hS.1)]; exact hS.2.1 q h1 h2⟩
theorem xa_A1 : ∀ w ∈ (vx_atS "InspectSteps" 72 xe_A xe_up).filter goodWord, w ∈ lw_tbl := by decide +kernel
theorem xa_A2 : ∀ w ∈ (vx_atS "InspectSteps" 72 xe_A xe_up).filter (fun w => !goodWord w), w ∈ [Cond.castable xe_A xe_A, xd_1, xd_2, xd_3] := by decide +kernel
theorem xa_A3 : ∀ w ∈ Cond.classLink "InspectSteps" 68 xe_A :: Cond.initialized xe_A :: vx_atS "InspectSteps" 72 xe_A xe_up, vx_ot w = true := by decide +kernel
theorem xa_A {args : Array Value} {s : State} (hG : ∀ w ∈ GW, w.before args s = true) (hX : xk_K s) : ∀ w ∈ vx_atS "InspectSteps" 72 xe_A xe_up, w.before args s = true :=
  vx_hat (fun w hw => hG w (gw_of (xa_A1 w hw) (List.mem_filter.mp hw).2)) xa_A2 (vx_c (va_Nw.use rfl hX.1.1) (vx_c (va_Nw.use rfl hX.1.2.2.2.1) (vx_c (va_Nw.use rfl hX.1.2.2.2.2.1) (vx_c (va_Nw.use rfl hX.1.2.2.2.2.2) vx_n))))
theorem xa_S1 : ∀ w ∈ (vx_atS "InspectSteps" 88 xe_S xe_up).filter goodWord, w ∈ lw_tbl := by decide +kernel
theorem xa_S2 : ∀ w ∈ (vx_atS "InspectSteps" 88 xe_S xe_up).filter (fun w => !goodWord w), w ∈ [Cond.castable xe_S xe_S, xd_1, xd_2, xd_3] := by decide +kernel
theorem xa_S3 : ∀ w ∈ Cond.classLink "InspectSteps" 84 xe_S :: Cond.initialized xe_S :: vx_atS "InspectSteps" 88 xe_S xe_up, vx_ot w = true := by decide +kernel
theorem xa_S {args : Array Value} {s : State} (hG : ∀ w ∈ GW, w.before args s = true) (hX : xk_K s) : ∀ w ∈ vx_atS "InspectSteps" 88 xe_S xe_up, w.before args s = true :=
  vx_hat (fun w hw => hG w (gw_of (xa_S1 w hw) (List.mem_filter.mp hw).2)) xa_S2 (vx_c (va_Nw.use rfl hX.1.2.1) (vx_c (va_Nw.use rfl hX.1.2.2.2.1) (vx_c (va_Nw.use rfl hX.1.2.2.2.2.1) (vx_c (va_Nw.use rfl hX.1.2.2.2.2.2) vx_n))))
theorem xa_I1 : ∀ w ∈ (vx_atS "InspectSteps" 216 xe_I xe_up).filter goodWord, w ∈ lw_tbl := by decide +kernel
theorem xa_I2 : ∀ w ∈ (vx_atS "InspectSteps" 216 xe_I xe_up).filter (fun w => !goodWord w), w ∈ [Cond.castable xe_I xe_I, xd_1, xd_2, xd_3] := by decide +kernel
theorem xa_I3 : ∀ w ∈ Cond.classLink "InspectSteps" 212 xe_I :: Cond.initialized xe_I :: vx_atS "InspectSteps" 216 xe_I xe_up, vx_ot w = true := by decide +kernel
theorem xa_I {args : Array Value} {s : State} (hG : ∀ w ∈ GW, w.before args s = true) (hX : xk_K s) : ∀ w ∈ vx_atS "InspectSteps" 216 xe_I xe_up, w.before args s = true :=
  vx_hat (fun w hw => hG w (gw_of (xa_I1 w hw) (List.mem_filter.mp hw).2)) xa_I2 (vx_c (va_Nw.use rfl hX.1.2.2.1) (vx_c (va_Nw.use rfl hX.1.2.2.2.1) (vx_c (va_Nw.use rfl hX.1.2.2.2.2.1) (vx_c (va_Nw.use rfl hX.1.2.2.2.2.2) vx_n))))
