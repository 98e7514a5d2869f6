theorem i32_n11 : ((11 : Int32)).toInt = 11 := by decide
theorem i32_n12 : ((12 : Int32)).toInt = 12 := by decide
theorem i32_n13 : ((13 : Int32)).toInt = 13 := by decide
theorem i32_n14 : ((14 : Int32)).toInt = 14 := by decide
theorem i32_n15 : ((15 : Int32)).toInt = 15 := by decide
theorem i32_n16 : ((16 : Int32)).toInt = 16 := by decide
abbrev AL (s : State) : Nat → Prop := fun q => s.heap.size ≤ q
/-- what the law's walk rests on -/
def lw_C (p : Program) (l : Launch) (s : State) (m : MethodId) (meth : Method) (c : Code) (b L : Nat) (xs : Nat → Int32) (D : va_G) (cs : Nat → ClassId) (mi E N : Nat) : Prop :=
  p.tables.exec = Jvm.exec ∧ c.code = b_L_law ∧ meth.sig.returnType = ret ∧ c.maxLocals = 7 ∧ s.vm.findClass R_L = some m.cls ∧ (∀ w ∈ GW, w.before #[Value.ref b] s = true) ∧ va_X b L xs s s.heap ∧ b < s.heap.size ∧ meth.locks = false ∧ va_K D cls_ (tys_ cs) s ∧ xk_K s ∧ xk_Z (AL s) s s.heap ∧ gr_K mi s ∧ em_E D cs E (AL s) s s.heap ∧ va_Nc xe_S xe_A s ∧ l.stackTraces = false ∧ L ≤ N
abbrev wL (cs : Nat → ClassId) (ad : Nat → Nat) (σ : Nat → Nat → Int32) (n nm ci cj E : Nat) (am : Nat → Nat) (τ : Nat → Nat → Int32) (o : Nat) (f : Nat → Int64) : va_W := wC cs ad σ n nm ci cj E ++ (wM cs am τ ++ [(o, outc cs f)])
/-- the loop's head, behind t calls -/
def lpH (hd : Nat) (p : Program) (l : Launch) (e : Env) (s : State) (m : MethodId) (below : List Frame) (meth : Method) (c : Code) (b L : Nat) (D : va_G) (cs : Nat → ClassId) (E : Nat) (t : Nat) : Prop := ∀ (ls : Array Slot) (H : Heap) (locs : List Loc) (ad am : Nat → Nat) (σ τ : Nat → Nat → Int32) (n nm ci cj o : Nat) (f : Nat → Int64), lv_has ls 7 [(0, .ref b), (1, .ref (ad 0)), (2, .ref (am 0)), (3, .ref o), (4, .int (nI (5 * t)))] → 5 * t ≤ L → Iv n nm ci cj → TT σ τ n nm → (t = 0 → nm = 0) → va_P D cls_ (wL cs ad σ n nm ci cj E am τ o f) H → va_D (AL s) (wL cs ad σ n nm ci cj E am τ o f) → va_S (AL s) s.heap H locs → W p l e room_1 s m #[Value.ref b] below meth c H locs (43 + 4 * t) (978 + 120 * t) (lw_Z below #[Value.ref b] s) (F0 m hd ls [])
section PM
variable {D : va_G} {cl : List vw_C} {X Y Z : va_W} {A : Nat → Prop} {H : Heap}
theorem fr_cP (h : va_P D cl (X ++ Y) H) : va_P D cl (Y ++ X) H := (fr_r h).app (fr_l h)
theorem pm_hP (h : va_P D cl (X ++ (Y ++ Z)) H) : va_P D cl ((X ++ Z) ++ Y) H := ((fr_l h).app (fr_r (fr_r h))).app (fr_l (fr_r h))
theorem pm_hP' (h : va_P D cl ((X ++ Z) ++ Y) H) : va_P D cl (X ++ (Y ++ Z)) H := (fr_l (fr_l h)).app ((fr_r h).app (fr_r (fr_l h)))
theorem pm_hD (h : va_D A (X ++ (Y ++ Z))) : va_D A ((X ++ Z) ++ Y) := by
  rw [← List.append_assoc] at h
  exact va_D.swap h
theorem pm_hD' (h : va_D A ((X ++ Z) ++ Y)) : va_D A (X ++ (Y ++ Z)) := by
  rw [← List.append_assoc]
  exact va_D.swap h
theorem pm_mP (h : va_P D cl (X ++ (Y ++ Z)) H) : va_P D cl (Y ++ (X ++ Z)) H := (fr_l (fr_r h)).app ((fr_l h).app (fr_r (fr_r h)))
theorem pm_mD (h : va_D A (X ++ (Y ++ Z))) : va_D A (Y ++ (X ++ Z)) := by
  have h1 := va_D.swap (fr_c h)
  rw [List.append_assoc] at h1
  exact h1
end PM
theorem gw_SW {c0 : Cond} {own : String} {idx n : Nat} {y : MethodName} {b : ByteArray} {r : Option FieldType} {hh : List (Nat × Nat × Nat × Nat)} (h1 : Cond.methodLink own idx y ∈ GW) (h2 : Cond.static y ∈ GW) (h4 : Cond.initialized y.cls ∈ GW) (h5 : Cond.codeWith y b n r hh ∈ GW) : GoodIn (c0 :: GW) (va_wsS own idx y (Cond.codeWith y b n r hh :: GW)) := by
  have hg : ∀ w ∈ va_wsS own idx y (Cond.codeWith y b n r hh :: GW), w ∈ GW := by
    intro w hw
    simp only [va_wsS, List.cons_append, List.nil_append, List.mem_cons] at hw
    rcases hw with rfl | rfl | rfl | rfl | h
    · exact h1
    · exact h2
    · exact h4
    · exact h5
    · exact h
  exact fun w hw => ⟨List.mem_cons_of_mem _ (hg w hw), good_of_word (GW_good w (hg w hw))⟩
section CRA
variable {ad : Nat → Nat} {σ : Nat → Nat → Int32} {n nm ci cj : Nat} {p0 p1 p2 k r : Int32}
theorem cr_ins_ad {u : (Nat → Nat) × Nat × (Nat → Nat → Int32) × Nat} (h : cr_inspection ad σ n nm ci cj p0 p1 p2 k r u) (hI : Iv n nm ci cj) : u.1 0 = ad 0 ∧ Iv u.2.2.2 nm u.2.1 cj := by
  rcases h with ⟨-, -, h1, -, h2, h3, h4, -, h5⟩ | ⟨-, rfl⟩
  · refine ⟨h4, ?_⟩
    rw [h5]
    exact ⟨by omega, hI.2.1, h2, hI.2.2.2.1, h3, hI.2.2.2.2.2⟩
  · exact ⟨rfl, hI⟩
theorem cr_sam_ad {u : (Nat → Nat) × Nat × Nat × (Nat → Nat → Int32)} (h : cr_sample ad σ n nm ci cj p0 p1 k r u) (hI : Iv n nm ci cj) : u.1 0 = ad 0 ∧ Iv n u.2.1 ci u.2.2.1 := by
  rcases h with ⟨-, i, -, -, -, h1, h2, ⟨-, -, h3, h4, h5, -⟩ | ⟨-, -, rfl⟩⟩ | ⟨-, rfl⟩
  · refine ⟨h2, ?_⟩
    rw [h3]
    exact ⟨hI.1, by omega, hI.2.2.1, h4, hI.2.2.2.2.1, h5⟩
  · exact ⟨rfl, hI⟩
  · exact ⟨rfl, hI⟩
end CRA
