/-! Writes: a changed cell is a changed state. -/
theorem RC_cases {n nm q : Nat} (h : q ∈ RC n nm) (hn : n ≤ 30) (hm : nm ≤ 40) : q ∈ [0, 1, 2, 5, 6, 7, 8, 9, 10, 11] ∨ (∃ d, d < 10 ∧ q = 20 + d) ∨ q = 3 ∨ q = 4 ∨ (∃ i, i < 100 ∧ q = 100 + i) ∨ (∃ i, i < 100 ∧ q = 200 + i) ∨ (∃ i, i < 100 ∧ q = 300 + i) ∨ ∃ i, i < 100 ∧ q = 400 + i := by
  unfold RC at h
  rcases List.mem_append.mp h with h | h
  · exact Or.inl h
  rcases List.mem_append.mp h with h | h
  · obtain ⟨d, hd, rfl⟩ := List.mem_map.mp h
    exact Or.inr (Or.inl ⟨d, List.mem_range.mp hd, rfl⟩)
  rcases List.mem_append.mp h with h | h
  · by_cases h0 : n = 0
    · rw [if_pos h0] at h
      cases h
    · rw [if_neg h0] at h
      exact Or.inr (Or.inr (Or.inl (List.mem_singleton.mp h)))
  rcases List.mem_append.mp h with h | h
  · by_cases h0 : nm = 0
    · rw [if_pos h0] at h
      cases h
    · rw [if_neg h0] at h
      exact Or.inr (Or.inr (Or.inr (Or.inl (List.mem_singleton.mp h))))
  rcases List.mem_append.mp h with h | h
  · obtain ⟨d, hd, rfl⟩ := List.mem_map.mp h
    have := List.mem_range.mp hd
    exact Or.inr (Or.inr (Or.inr (Or.inr (Or.inl ⟨d, by omega, rfl⟩))))
  rcases List.mem_append.mp h with h | h
  · obtain ⟨d, hd, rfl⟩ := List.mem_map.mp h
    have := List.mem_range.mp hd
    exact Or.inr (Or.inr (Or.inr (Or.inr (Or.inr (Or.inl ⟨d, by omega, rfl⟩)))))
  rcases List.mem_append.mp h with h | h
  · obtain ⟨d, hd, rfl⟩ := List.mem_map.mp h
    have := List.mem_range.mp hd
    exact Or.inr (Or.inr (Or.inr (Or.inr (Or.inr (Or.inr (Or.inl ⟨d, by omega, rfl⟩))))))
  · obtain ⟨d, hd, rfl⟩ := List.mem_map.mp h
    have := List.mem_range.mp hd
    exact Or.inr (Or.inr (Or.inr (Or.inr (Or.inr (Or.inr (Or.inr ⟨d, by omega, rfl⟩))))))
theorem su_ne {σ : Nat → Nat → Int32} {k j a b : Nat} {x : Int32} (h : a ≠ k) : su σ k j x a b = σ a b := if_neg (fun q => h q.1)
theorem su_row {σ : Nat → Nat → Int32} {k j a : Nat} {x : Int32} (h : a ≠ k) : su σ k j x a = σ a := funext fun _ => su_ne h
theorem su_same {σ : Nat → Nat → Int32} {k j : Nat} {x : Int32} : su σ k j x k = upd (σ k) j x := funext fun b => by
  unfold su upd
  by_cases h : b = j
  · rw [if_pos ⟨rfl, h⟩, if_pos h]
  · rw [if_neg (fun q => h q.2), if_neg h]
theorem su_nj {σ : Nat → Nat → Int32} {k j a b : Nat} {x : Int32} (h : b ≠ j) : su σ k j x a b = σ a b := if_neg (fun q => h q.2)
theorem su_at {σ : Nat → Nat → Int32} {k j : Nat} {x : Int32} : su σ k j x k j = x := if_pos ⟨rfl, rfl⟩
section GU
variable {cs : Nat → ClassId} {ad : Nat → Nat} {σ : Nat → Nat → Int32} {n nm ci cj E : Nat}
/-- a component that no other cell shows -/
theorem gC_away {k j : Nat} {x : Int32} {q : Nat} (hq : q ∈ RC n nm) (hn : n ≤ 30) (hm : nm ≤ 40)
    (h0 : q = 0 → k ≠ 0) (h1 : q = 1 ∨ q = 2 → k ≠ 7) (hA : ∀ r c, (r, c) ∈ [(5, 1), (6, 2), (7, 3), (8, 4), (10, 5), (11, 6)] → q = r → k ≠ c) (hR : ∀ d, q = 20 + d → k ≠ 10 + d)
    (hi : ∀ i, i < 100 → q = 100 + i → i ≠ j ∨ k < 20 ∨ 29 < k) (hs : ∀ i, i < 100 → q = 200 + i → i ≠ j ∨ (k ≠ 30 ∧ k ≠ 31)) (hf : ∀ i, q = 300 + i → k ≠ 1000 + i) (ht : ∀ i, q = 400 + i → k ≠ 2000 + i) :
    gC cs ad (su σ k j x) n nm ci cj E q = gC cs ad σ n nm ci cj E q := by
  rcases RC_cases hq hn hm with h | ⟨d, hd, rfl⟩ | rfl | rfl | ⟨i, hi', rfl⟩ | ⟨i, hi', rfl⟩ | ⟨i, hi', rfl⟩ | ⟨i, hi', rfl⟩
  · simp only [List.mem_cons, List.not_mem_nil, or_false] at h
    rcases h with rfl | rfl | rfl | rfl | rfl | rfl | rfl | rfl | rfl | rfl
    · rw [gC_0, gC_0, su_ne (h0 rfl).symm]
    · rw [gC_1', gC_1', su_ne (h1 (Or.inl rfl)).symm]
    · rw [gC_2', gC_2', su_ne (h1 (Or.inr rfl)).symm]
    · rw [gC_5, gC_5, su_row (hA 5 1 (by decide) rfl).symm]
    · rw [gC_6, gC_6, su_row (hA 6 2 (by decide) rfl).symm]
    · rw [gC_7, gC_7, su_row (hA 7 3 (by decide) rfl).symm]
    · rw [gC_8, gC_8, su_row (hA 8 4 (by decide) rfl).symm]
    · rw [gC_9, gC_9]
    · rw [gC_10, gC_10, su_row (hA 10 5 (by decide) rfl).symm]
    · rw [gC_11, gC_11, su_row (hA 11 6 (by decide) rfl).symm]
  · rw [gC_row hd, gC_row hd, su_row (hR d rfl).symm]
  · rw [gC_3, gC_3]
  · rw [gC_4, gC_4]
  · rw [gC_ins hi', gC_ins hi']
    rcases hi i hi' rfl with h | h
    · simp only [insF, su_nj h]
    · have e : ∀ f, f < 10 → su σ k j x (20 + f) i = σ (20 + f) i := fun f hf => su_ne (by omega)
      simp only [insF]
      rw [show su σ k j x 20 i = σ 20 i from e 0 (by decide), show su σ k j x 21 i = σ 21 i from e 1 (by decide), show su σ k j x 22 i = σ 22 i from e 2 (by decide), show su σ k j x 23 i = σ 23 i from e 3 (by decide), show su σ k j x 24 i = σ 24 i from e 4 (by decide), show su σ k j x 25 i = σ 25 i from e 5 (by decide), show su σ k j x 26 i = σ 26 i from e 6 (by decide), show su σ k j x 27 i = σ 27 i from e 7 (by decide), show su σ k j x 28 i = σ 28 i from e 8 (by decide), show su σ k j x 29 i = σ 29 i from e 9 (by decide)]
  · rw [gC_sam hi', gC_sam hi']
    rcases hs i hi' rfl with h | ⟨h, h'⟩
    · simp only [samF, su_nj h]
    · simp only [samF, su_ne h.symm, su_ne h'.symm]
  · rw [gC_fou hi', gC_fou hi', su_row (hf i rfl).symm]
  · rw [gC_set hi', gC_set hi', su_row (ht i rfl).symm]
theorem wC_arr {r k N j : Nat} {x : Int32} (hn : n ≤ 30) (hm : nm ≤ 40) (hrk : (r, k, N) ∈ [(5, 1, 10), (6, 2, 10), (7, 3, 10), (8, 4, 10), (10, 5, 4), (11, 6, 4)]) : rl_w (RC n nm) ad (va_up (gC cs ad σ n nm ci cj E) r (arI (cs 0) N (upd (σ k) j x))) = wC cs ad (su σ k j x) n nm ci cj E := by
  apply rl_congr
  intro q hq
  simp only [List.mem_cons, Prod.mk.injEq, List.not_mem_nil, or_false] at hrk
  by_cases e : q = r
  · subst e
    rw [va_up_self]
    rcases hrk with ⟨rfl, rfl, rfl⟩ | ⟨rfl, rfl, rfl⟩ | ⟨rfl, rfl, rfl⟩ | ⟨rfl, rfl, rfl⟩ | ⟨rfl, rfl, rfl⟩ | ⟨rfl, rfl, rfl⟩
    · rw [gC_5, su_same]
    · rw [gC_6, su_same]
    · rw [gC_7, su_same]
    · rw [gC_8, su_same]
    · rw [gC_10, su_same]
    · rw [gC_11, su_same]
  · rw [va_up_ne _ _ e]
    refine (gC_away hq hn hm (by omega) (by omega) (fun r' c h hqr => ?_) (by omega) (fun i hi hqi => Or.inr (by omega)) (fun i hi hqi => Or.inr (by omega)) (by omega) (by omega)).symm
    simp only [List.mem_cons, Prod.mk.injEq, List.not_mem_nil, or_false] at h
    omega
theorem wC_row {d j : Nat} {x : Int32} (hn : n ≤ 30) (hm : nm ≤ 40) (hd : d < 10) : rl_w (RC n nm) ad (va_up (gC cs ad σ n nm ci cj E) (20 + d) (arI (cs 0) 4 (upd (σ (10 + d)) j x))) = wC cs ad (su σ (10 + d) j x) n nm ci cj E := by
  apply rl_congr
  intro q hq
  by_cases e : q = 20 + d
  · subst e
    rw [va_up_self, gC_row hd, su_same]
  · rw [va_up_ne _ _ e]
    refine (gC_away hq hn hm (by omega) (by omega) (fun r' c h hqr => ?_) (by omega) (fun i hi hqi => Or.inr (by omega)) (fun i hi hqi => Or.inr (by omega)) (by omega) (by omega)).symm
    simp only [List.mem_cons, Prod.mk.injEq, List.not_mem_nil, or_false] at h
    omega
theorem wC_fou {i j : Nat} {x : Int32} (hn : n ≤ 30) (hm : nm ≤ 40) (hi : i < 100) : rl_w (RC n nm) ad (va_up (gC cs ad σ n nm ci cj E) (300 + i) (arI (cs 0) 4 (upd (σ (1000 + i)) j x))) = wC cs ad (su σ (1000 + i) j x) n nm ci cj E := by
  apply rl_congr
  intro q hq
  by_cases e : q = 300 + i
  · subst e
    rw [va_up_self, gC_fou hi, su_same]
  · rw [va_up_ne _ _ e]
    refine (gC_away hq hn hm (by omega) (by omega) (fun r' c h hqr => ?_) (fun d hqd => by rcases RC_cases hq hn hm with h | ⟨d', hd', h⟩ | h | h | ⟨d', hd', h⟩ | ⟨d', hd', h⟩ | ⟨d', hd', h⟩ | ⟨d', hd', h⟩ <;> first | omega | (simp only [List.mem_cons, List.not_mem_nil, or_false] at h; omega)) (fun i hi hqi => Or.inr (by omega)) (fun i hi hqi => Or.inr (by omega)) (by omega) (fun i' hqi => by rcases RC_cases hq hn hm with h | ⟨d', hd', h⟩ | h | h | ⟨d', hd', h⟩ | ⟨d', hd', h⟩ | ⟨d', hd', h⟩ | ⟨d', hd', h⟩ <;> first | omega | (simp only [List.mem_cons, List.not_mem_nil, or_false] at h; omega))).symm
    simp only [List.mem_cons, Prod.mk.injEq, List.not_mem_nil, or_false] at h
    omega
theorem wC_now {x : Int32} (hn : n ≤ 30) (hm : nm ≤ 40) : rl_w (RC n nm) ad (va_up (gC cs ad σ n nm ci cj E) 0 (.inr (1, [.ref (ad 1), .ref (ad 2), .ref (ad 5), .ref (ad 6), .ref (ad 7), .ref (ad 8), .ref (ad 9), .ref (ad 10), .ref (ad 11), .int x]))) = wC cs ad (su σ 0 0 x) n nm ci cj E := by
  apply rl_congr
  intro q hq
  by_cases e : q = 0
  · subst e
    rw [va_up_self, gC_0, su_at]
  · rw [va_up_ne _ _ e]
    refine (gC_away hq hn hm (by omega) (by omega) (fun r' c h hqr => ?_) (by omega) (fun i hi hqi => Or.inr (by omega)) (fun i hi hqi => Or.inr (by omega)) (by omega) (by omega)).symm
    simp only [List.mem_cons, Prod.mk.injEq, List.not_mem_nil, or_false] at h
    omega
theorem insF_set {i f : Nat} {x : Int32} (hf : f < 10) : (insF σ i).set f (.int x) = insF (su σ (20 + f) i x) i := by
  have h : f = 0 ∨ f = 1 ∨ f = 2 ∨ f = 3 ∨ f = 4 ∨ f = 5 ∨ f = 6 ∨ f = 7 ∨ f = 8 ∨ f = 9 := by omega
  rcases h with rfl | rfl | rfl | rfl | rfl | rfl | rfl | rfl | rfl | rfl <;> simp [insF, su]
theorem wC_ins {i f : Nat} {x : Int32} (hn : n ≤ 30) (hm : nm ≤ 40) (hi : i < 100) (hf : f < 10) : rl_w (RC n nm) ad (va_up (gC cs ad σ n nm ci cj E) (100 + i) (.inr (2, (insF σ i).set f (.int x)))) = wC cs ad (su σ (20 + f) i x) n nm ci cj E := by
  apply rl_congr
  intro q hq
  by_cases e : q = 100 + i
  · subst e
    rw [va_up_self, gC_ins hi, insF_set hf]
  · rw [va_up_ne _ _ e]
    refine (gC_away hq hn hm (by omega) (by omega) (fun r' c h hqr => ?_) (fun d hqd => by rcases RC_cases hq hn hm with h | ⟨d', hd', h⟩ | h | h | ⟨d', hd', h⟩ | ⟨d', hd', h⟩ | ⟨d', hd', h⟩ | ⟨d', hd', h⟩ <;> first | omega | (simp only [List.mem_cons, List.not_mem_nil, or_false] at h; omega)) (fun i' hi' hqi => Or.inl (by omega)) (fun i hi hqi => Or.inr (by omega)) (by omega) (by omega)).symm
    simp only [List.mem_cons, Prod.mk.injEq, List.not_mem_nil, or_false] at h
    omega
end GU
