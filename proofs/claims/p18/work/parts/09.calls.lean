abbrev cls_ : List vw_C := [(R_Al, F_Al, 3), (R_C, F_C, 10), (R_I, F_I, 10), (R_S, F_S, 4), (R_M, F_M, 25)]
/-- a reader's start: the cells ws, the tables -/
abbrev rd_B (D : va_G) (tys : List (ClassId × FieldType)) (ws : va_W) : State → Prop := fun U => va_P D cls_ ws U.heap ∧ va_K D cls_ tys U
theorem rd_blind {D : va_G} {tys : List (ClassId × FieldType)} {ws : va_W} {av : List Value} : FrameBlind (va_Pc av (rd_B D tys ws)) := fun a U g mk q => by
  obtain ⟨q0, qP, qK⟩ := q
  exact ⟨q0, qP, va_K.moved (u := U) (U := U.calling g mk a) (Vm.Alike.refl U.vm) qK⟩
theorem rd_pre {D : va_G} {tys : List (ClassId × FieldType)} {ws : va_W} {s : State} {H : Heap} {av : List Value} (hP : va_P D cls_ ws H) (hK : va_K D cls_ tys s) : ∀ U : State, U.heap = H → s.WarmedH U.vm → va_Pc av (rd_B D tys ws) av.toArray U := fun U hU hW => ⟨rfl, by rw [hU]; exact hP, va_K.moved hW.alike hK⟩
theorem rd_V {D : va_G} {tys : List (ClassId × FieldType)} {ws : va_W} {s : State} {H : Heap} {C : String} {b : Nat} {As : List Value} (hP : va_P D cls_ ws H) (hK : va_K D cls_ tys s) (hr : ∃ cell : Cell, H[b]? = some cell ∧ cell.vm.isStatics = false ∧ s.vm.findClass C = some cell.cls) : PreV s H C b (va_Pc (.ref b :: As) (rd_B D tys ws)) As := ⟨rd_blind, hr, rd_pre hP hK⟩
theorem rd_S {D : va_G} {tys : List (ClassId × FieldType)} {ws : va_W} {s : State} {H : Heap} {As : List Value} (hP : va_P D cls_ ws H) (hK : va_K D cls_ tys s) : PreS s H (va_Pc As (rd_B D tys ws)) As := ⟨rd_blind, rd_pre hP hK⟩
/-- one cell out of a world by roles -/
theorem rl_one {D : va_G} {cl : List vw_C} {H : Heap} {Rl : List Nat} {ad : Nat → Nat} {g : Nat → va_E} {r : Nat} {x : va_E} (hP : va_P D cl (rl_w Rl ad g) H) (hr : r ∈ Rl) (hg : g r = x) : va_P D cl [(ad r, x)] H := by
  obtain ⟨j, hj, hj'⟩ := rl_at (ad := ad) (g := g) hr
  rw [hg] at hj'
  intro k q hk
  have h0 : k = 0 := by
    have := (List.getElem?_eq_some_iff.mp hk).1
    simp at this
    exact this
  subst h0
  cases hk
  exact hP j _ hj'
