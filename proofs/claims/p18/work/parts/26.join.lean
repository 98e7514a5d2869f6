theorem rl_D {A : Nat → Prop} {Rl : List Nat} {ad : Nat → Nat} {g g' : Nat → va_E} (hD : va_D A (rl_w Rl ad g)) : va_D A (rl_w Rl ad g') := by
  have conv : ∀ (k : Nat) (q : Nat × va_E), (rl_w Rl ad g')[k]? = some q → ∃ q', (rl_w Rl ad g)[k]? = some q' ∧ q'.1 = q.1 := by
    intro k q hk
    simp only [rl_w, List.getElem?_map] at hk ⊢
    cases hb : Rl[k]? with
    | none => rw [hb] at hk; cases hk
    | some b =>
      rw [hb] at hk
      cases hk
      exact ⟨_, rfl, rfl⟩
  refine ⟨fun i j x y hx hy e => ?_, fun k q hk => ?_⟩
  · obtain ⟨x', hx', ex⟩ := conv i x hx
    obtain ⟨y', hy', ey⟩ := conv j y hy
    exact hD.1 i j x' y' hx' hy' (by rw [ex, ey]; exact e)
  · obtain ⟨q', hq', e⟩ := conv k q hk
    rw [← e]
    exact hD.2 k q' hq'
/-- one cell went to a callee and came back changed -/
theorem rl_join1 {D : va_G} {cl : List vw_C} {A : Nat → Prop} {Rl : List Nat} {ad : Nat → Nat} {g : Nat → va_E} {H H1 : Heap} {r : Nat} {x x' : va_E} (hP : va_P D cl (rl_w Rl ad g) H) (hD : va_D A (rl_w Rl ad g)) (hr : r ∈ Rl) (hk : ∀ q : Nat, q < H.size → ¬ va_A [(ad r, x)] H.size q → H1[q]? = H[q]?) (hP1 : va_P D cl [(ad r, x')] H1) : va_P D cl (rl_w Rl ad (va_up g r x')) H1 ∧ va_D A (rl_w Rl ad (va_up g r x')) := by
  refine ⟨fun k q hq => ?_, rl_D hD⟩
  simp only [rl_w, List.getElem?_map] at hq
  cases hb : Rl[k]? with
  | none => rw [hb] at hq; cases hq
  | some b =>
    rw [hb] at hq
    cases hq
    have hbm : b ∈ Rl := List.mem_of_getElem? hb
    show va_at D cl (ad b, va_up g r x' b) H1
    by_cases e : b = r
    · subst e
      rw [va_up_self]
      exact hP1 0 _ rfl
    · rw [va_up_ne _ _ e]
      have hk' : (rl_w Rl ad g)[k]? = some (ad b, g b) := by simp [rl_w, hb]
      have hat := hP k _ hk'
      refine hat.kept (hk _ hat.lt (fun h => ?_))
      rcases h with ⟨j, y, hj⟩ | h
      · have hj0 : j = 0 := by
          have := (List.getElem?_eq_some_iff.mp hj).1
          simp at this
          exact this
        subst hj0
        have : ad r = ad b := by
          have := Option.some.inj hj
          exact congrArg Prod.fst this
        exact rl_ne hD hbm hr e this.symm
      · exact absurd hat.lt (Nat.not_lt.mpr h)
/-- one cell's part is a part of the whole -/
theorem rl_free1 {A0 : Nat → Prop} {Rl : List Nat} {ad : Nat → Nat} {g : Nat → va_E} {H0 H : Heap} {locs : List Loc} {r : Nat} {x : va_E} (hD : va_D A0 (rl_w Rl ad g)) (hS : va_S A0 H0 H locs) (hA : ∀ q, H0.size ≤ q → A0 q) (hr : r ∈ Rl) : ∀ q, va_A [(ad r, x)] H.size q → A0 q := by
  intro q h
  rcases h with ⟨j, y, hj⟩ | h
  · have hj0 : j = 0 := by
      have := (List.getElem?_eq_some_iff.mp hj).1
      simp at this
      exact this
    subst hj0
    obtain ⟨k, hk, hk'⟩ := rl_at (ad := ad) (g := g) hr
    have e : ad r = q := congrArg Prod.fst (Option.some.inj hj)
    rw [← e]
    exact hD.2 k _ hk'
  · exact hA q (Nat.le_trans hS.1 h)
theorem va_D1 {a : Nat} {x : va_E} : va_D (fun _ => True) [(a, x)] := ⟨fun i j p q h1 h2 _ => by
  have h3 := (List.getElem?_eq_some_iff.mp h1).1
  have h4 := (List.getElem?_eq_some_iff.mp h2).1
  simp at h3 h4
  omega, fun _ _ _ => trivial⟩
abbrev w1_B (D : va_G) (tys : List (ClassId × FieldType)) (a : Nat) (x : va_E) (sz : Nat) : State → Prop := fun U => U.heap.size = sz ∧ va_P D cls_ [(a, x)] U.heap ∧ va_K D cls_ tys U
theorem w1_blind {D : va_G} {tys : List (ClassId × FieldType)} {a : Nat} {x : va_E} {sz : Nat} {av : List Value} : FrameBlind (va_Pc av (w1_B D tys a x sz)) := fun _ U g mk q => by
  obtain ⟨q0, q1, qP, qK⟩ := q
  exact ⟨q0, q1, qP, va_K.moved (u := U) (U := U.calling g mk _) (Vm.Alike.refl U.vm) qK⟩
theorem w1_V {D : va_G} {tys : List (ClassId × FieldType)} {x : va_E} {s : State} {H : Heap} {C : String} {b : Nat} {As : List Value} (hP : va_P D cls_ [(b, x)] H) (hK : va_K D cls_ tys s) (hr : ∃ cell : Cell, H[b]? = some cell ∧ cell.vm.isStatics = false ∧ s.vm.findClass C = some cell.cls) : PreV s H C b (va_Pc (.ref b :: As) (w1_B D tys b x H.size)) As :=
  ⟨w1_blind, hr, fun U hU hW => ⟨rfl, by rw [hU], by rw [hU]; exact hP, va_K.moved hW.alike hK⟩⟩
section GI
variable {cs : Nat → ClassId} {ad : Nat → Nat} {σ σ' : Nat → Nat → Int32} {n nm ci cj E : Nat}
/-- an inspection's fields change, nothing else -/
theorem wC_insG {i : Nat} (hn : n ≤ 30) (hm : nm ≤ 40) (hi : i < 100) (h : ∀ k b, ¬ (20 ≤ k ∧ k ≤ 29 ∧ b = i) → σ' k b = σ k b) : rl_w (RC n nm) ad (va_up (gC cs ad σ n nm ci cj E) (100 + i) (.inr (2, insF σ' i))) = wC cs ad σ' n nm ci cj E := by
  apply rl_congr
  intro q hq
  by_cases e : q = 100 + i
  · subst e
    rw [va_up_self, gC_ins hi]
  · rw [va_up_ne _ _ e]
    have hf : ∀ k, ¬ (20 ≤ k ∧ k ≤ 29) → σ' k = σ k := fun k hk => funext fun b => h k b (fun z => hk ⟨z.1, z.2.1⟩)
    rcases RC_cases hq hn hm with h9 | ⟨d, hd, rfl⟩ | rfl | rfl | ⟨j, hj, rfl⟩ | ⟨j, hj, rfl⟩ | ⟨j, hj, rfl⟩ | ⟨j, hj, rfl⟩
    · simp only [List.mem_cons, List.not_mem_nil, or_false] at h9
      rcases h9 with rfl | rfl | rfl | rfl | rfl | rfl | rfl | rfl | rfl | rfl
      · rw [gC_0, gC_0, hf 0 (by omega)]
      · rw [gC_1', gC_1', hf 7 (by omega)]
      · rw [gC_2', gC_2', hf 7 (by omega)]
      · rw [gC_5, gC_5, hf 1 (by omega)]
      · rw [gC_6, gC_6, hf 2 (by omega)]
      · rw [gC_7, gC_7, hf 3 (by omega)]
      · rw [gC_8, gC_8, hf 4 (by omega)]
      · rw [gC_9, gC_9]
      · rw [gC_10, gC_10, hf 5 (by omega)]
      · rw [gC_11, gC_11, hf 6 (by omega)]
    · rw [gC_row hd, gC_row hd, hf (10 + d) (by omega)]
    · rw [gC_3, gC_3]
    · rw [gC_4, gC_4]
    · rw [gC_ins hj, gC_ins hj]
      have hji : j ≠ i := fun z => e (by rw [z])
      simp only [insF, h _ j (fun z => hji z.2.2)]
    · rw [gC_sam hj, gC_sam hj]
      simp only [samF]
      rw [hf 30 (by omega), hf 31 (by omega)]
    · rw [gC_fou hj, gC_fou hj, hf (1000 + j) (by omega)]
    · rw [gC_set hj, gC_set hj, hf (2000 + j) (by omega)]
end GI
