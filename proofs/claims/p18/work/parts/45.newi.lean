theorem RC_is {n nm r : Nat} (h : r ∈ RC n nm) : r ∈ [0, 1, 2, 5, 6, 7, 8, 9, 10, 11] ∨ (∃ d, d < 10 ∧ r = 20 + d) ∨ (¬ n = 0 ∧ r = 3) ∨ (¬ nm = 0 ∧ r = 4) ∨ (∃ i, i < n ∧ r = 100 + i) ∨ (∃ i, i < nm ∧ r = 200 + i) ∨ (∃ i, i < nm ∧ r = 300 + i) ∨ ∃ i, i < nm ∧ r = 400 + i := by
  unfold RC at h
  rcases List.mem_append.mp h with h | h
  · exact Or.inl h
  rcases List.mem_append.mp h with h | h
  · obtain ⟨d, hd, rfl⟩ := List.mem_map.mp h
    exact Or.inr (Or.inl ⟨d, List.mem_range.mp hd, rfl⟩)
  rcases List.mem_append.mp h with h | h
  · by_cases h0 : n = 0
    · rw [if_pos h0] at h
      cases h
    · rw [if_neg h0] at h
      exact Or.inr (Or.inr (Or.inl ⟨h0, List.mem_singleton.mp h⟩))
  rcases List.mem_append.mp h with h | h
  · by_cases h0 : nm = 0
    · rw [if_pos h0] at h
      cases h
    · rw [if_neg h0] at h
      exact Or.inr (Or.inr (Or.inr (Or.inl ⟨h0, List.mem_singleton.mp h⟩)))
  rcases List.mem_append.mp h with h | h
  · obtain ⟨i, hi, rfl⟩ := List.mem_map.mp h
    exact Or.inr (Or.inr (Or.inr (Or.inr (Or.inl ⟨i, List.mem_range.mp hi, rfl⟩))))
  rcases List.mem_append.mp h with h | h
  · obtain ⟨i, hi, rfl⟩ := List.mem_map.mp h
    exact Or.inr (Or.inr (Or.inr (Or.inr (Or.inr (Or.inl ⟨i, List.mem_range.mp hi, rfl⟩)))))
  rcases List.mem_append.mp h with h | h
  · obtain ⟨i, hi, rfl⟩ := List.mem_map.mp h
    exact Or.inr (Or.inr (Or.inr (Or.inr (Or.inr (Or.inr (Or.inl ⟨i, List.mem_range.mp hi, rfl⟩))))))
  · obtain ⟨i, hi, rfl⟩ := List.mem_map.mp h
    exact Or.inr (Or.inr (Or.inr (Or.inr (Or.inr (Or.inr (Or.inr ⟨i, List.mem_range.mp hi, rfl⟩))))))
theorem nd_map (b : Nat) (n : Nat) : ((List.range n).map (fun j => b + j)).Nodup := by
  unfold List.Nodup
  rw [List.pairwise_map]
  exact List.Pairwise.imp (fun h e => h (by omega)) (List.nodup_range (n := n))
theorem in_map {b n x : Nat} (h : x ∈ (List.range n).map (fun j => b + j)) : b ≤ x ∧ x < b + n := by
  obtain ⟨i, hi, rfl⟩ := List.mem_map.mp h
  have := List.mem_range.mp hi
  omega
theorem in_opt {P : Prop} [Decidable P] {x y : Nat} (h : x ∈ (if P then [] else [y])) : x = y := by
  by_cases h0 : P
  · rw [if_pos h0] at h
    cases h
  · rw [if_neg h0] at h
    exact List.mem_singleton.mp h
theorem nd_opt {P : Prop} [Decidable P] {y : Nat} : (if P then ([] : List Nat) else [y]).Nodup := by
  by_cases h0 : P
  · rw [if_pos h0]
    exact List.nodup_nil
  · rw [if_neg h0]
    exact List.nodup_cons.mpr ⟨List.not_mem_nil, List.nodup_nil⟩
theorem RC_nodup {n nm : Nat} (hn : n ≤ 30) (hm : nm ≤ 40) : (RC n nm).Nodup := by
  unfold RC
  refine List.nodup_append.mpr ⟨by decide, List.nodup_append.mpr ⟨nd_map _ _, List.nodup_append.mpr ⟨nd_opt, List.nodup_append.mpr ⟨nd_opt, List.nodup_append.mpr ⟨nd_map _ _, List.nodup_append.mpr ⟨nd_map _ _, List.nodup_append.mpr ⟨nd_map _ _, nd_map _ _, ?_⟩, ?_⟩, ?_⟩, ?_⟩, ?_⟩, ?_⟩, ?_⟩
  · intro a ha b hb e
    have h1 := in_map ha
    have h2 := in_map hb
    omega
  · intro a ha b hb e
    have h1 := in_map ha
    rcases List.mem_append.mp hb with h | h
    · have h2 := in_map h
      omega
    · have h2 := in_map h
      omega
  · intro a ha b hb e
    have h1 := in_map ha
    rcases List.mem_append.mp hb with h | h
    · have h2 := in_map h
      omega
    rcases List.mem_append.mp h with h | h
    · have h2 := in_map h
      omega
    · have h2 := in_map h
      omega
  · intro a ha b hb e
    have h1 := in_opt ha
    rcases List.mem_append.mp hb with h | h
    · have h2 := in_map h
      omega
    rcases List.mem_append.mp h with h | h
    · have h2 := in_map h
      omega
    rcases List.mem_append.mp h with h | h
    · have h2 := in_map h
      omega
    · have h2 := in_map h
      omega
  · intro a ha b hb e
    have h1 := in_opt ha
    rcases List.mem_append.mp hb with h | h
    · have h2 := in_opt h
      omega
    rcases List.mem_append.mp h with h | h
    · have h2 := in_map h
      omega
    rcases List.mem_append.mp h with h | h
    · have h2 := in_map h
      omega
    rcases List.mem_append.mp h with h | h
    · have h2 := in_map h
      omega
    · have h2 := in_map h
      omega
  · intro a ha b hb e
    have h1 := in_map ha
    rcases List.mem_append.mp hb with h | h
    · have h2 := in_opt h
      omega
    rcases List.mem_append.mp h with h | h
    · have h2 := in_opt h
      omega
    rcases List.mem_append.mp h with h | h
    · have h2 := in_map h
      omega
    rcases List.mem_append.mp h with h | h
    · have h2 := in_map h
      omega
    rcases List.mem_append.mp h with h | h
    · have h2 := in_map h
      omega
    · have h2 := in_map h
      omega
  · intro a ha b hb e
    have h1 : a ≤ 11 ∧ a ≠ 3 ∧ a ≠ 4 := by
      simp only [List.mem_cons, List.not_mem_nil, or_false] at ha
      omega
    rcases List.mem_append.mp hb with h | h
    · have h2 := in_map h
      omega
    rcases List.mem_append.mp h with h | h
    · have h2 := in_opt h
      omega
    rcases List.mem_append.mp h with h | h
    · have h2 := in_opt h
      omega
    rcases List.mem_append.mp h with h | h
    · have h2 := in_map h
      omega
    rcases List.mem_append.mp h with h | h
    · have h2 := in_map h
      omega
    rcases List.mem_append.mp h with h | h
    · have h2 := in_map h
      omega
    · have h2 := in_map h
      omega
/-- the state with a new inspection n -/
def nwI (σ : Nat → Nat → Int32) (n : Nat) (p0 p1 p2 : Int32) : Nat → Nat → Int32 := fun k i => if i = n ∧ 20 ≤ k ∧ k ≤ 29 then (if k = 20 then p0 else if k = 21 then p1 else if k = 22 then p2 else if 25 ≤ k ∧ k ≤ 28 then -1 else 0) else if k = 7 ∧ i = 0 then σ 7 0 + 1 else σ k i
section NWI
variable {σ : Nat → Nat → Int32} {n : Nat} {p0 p1 p2 : Int32}
theorem nwI_ins : insF (nwI σ n p0 p1 p2) n = [.int p0, .int p1, .int p2, .int 0, .int 0, .int (-1), .int (-1), .int (-1), .int (-1), .int 0] := by
  simp [insF, nwI]
theorem nwI_o {i : Nat} (h : i ≠ n) (k : Nat) (hk : 20 ≤ k ∧ k ≤ 29) : nwI σ n p0 p1 p2 k i = σ k i := by
  unfold nwI
  rw [if_neg (fun q => h q.1), if_neg (by omega)]
theorem nwI_k {k : Nat} (h : ¬ (20 ≤ k ∧ k ≤ 29)) (h7 : k ≠ 7) : nwI σ n p0 p1 p2 k = σ k := funext fun i => by
  unfold nwI
  rw [if_neg (fun q => h q.2), if_neg (by omega)]
theorem nwI_70 : nwI σ n p0 p1 p2 7 0 = σ 7 0 + 1 := by
  unfold nwI
  rw [if_neg (by omega), if_pos ⟨rfl, rfl⟩]
theorem nwI_71 : nwI σ n p0 p1 p2 7 1 = σ 7 1 := by
  unfold nwI
  rw [if_neg (by omega), if_neg (by omega)]
end NWI
theorem rowsF_up {b n q : Nat} {ad : Nat → Nat} (c x : Nat) (hc : ∀ j, j < n + 1 → b + j ≠ c) : va_up (rowsF b n ad) n (some q) = rowsF b (n + 1) (va_up (va_up ad (b + n) q) c x) := funext fun j => by
  unfold rowsF
  by_cases e : j = n
  · subst e
    rw [va_up_self, if_pos (by omega), va_up_ne _ _ (hc j (by omega)), va_up_self]
  · rw [va_up_ne _ _ e]
    by_cases h : j < n
    · rw [if_pos h, if_pos (by omega), va_up_ne _ _ (hc j (by omega)), va_up_ne _ _ (by omega)]
    · rw [if_neg h, if_neg (by omega)]
theorem rowsF_o {b n : Nat} {ad ad' : Nat → Nat} (h : ∀ j, j < n → ad' (b + j) = ad (b + j)) : rowsF b n ad' = rowsF b n ad := funext fun j => by
  unfold rowsF
  by_cases e : j < n
  · rw [if_pos e, if_pos e, h j e]
  · rw [if_neg e, if_neg e]
theorem adW_in {cs : Nat → ClassId} {a e k cap E sz x : Nat} {mc : Int32} {f : Nat → Option Nat} (h : va_A (adW cs a e k cap E mc f) sz x) : x = a ∨ (¬ k = 0 ∧ x = e) ∨ sz ≤ x := by
  rcases h with ⟨i, y, h⟩ | h
  · by_cases h0 : k = 0
    · subst h0
      rw [adW_0] at h
      have h3 := (List.getElem?_eq_some_iff.mp h).1
      simp at h3
      subst h3
      cases h
      exact Or.inl rfl
    · rw [adW_p h0] at h
      match i, h with
      | 0, h => cases h; exact Or.inl rfl
      | 1, h => cases h; exact Or.inr (Or.inl ⟨h0, rfl⟩)
      | _ + 2, h => cases h
  · exact Or.inr (Or.inr h)
section ADI
variable {D : va_G} {cs : Nat → ClassId} {ad : Nat → Nat} {σ : Nat → Nat → Int32} {n nm ci cj E : Nat} {A : Nat → Prop} {H H1 : Heap} {q e' cap' : Nat} {p0 p1 p2 : Int32}
theorem gC_newI (hn : n < 30) (hm : nm ≤ 40) {r : Nat} (hr : r ∈ RC (n + 1) nm) (h1 : r ≠ 1) (h3 : r ≠ 3) (hq : r ≠ 100 + n) : gC cs (va_up (va_up ad (100 + n) q) 3 e') (nwI σ n p0 p1 p2) (n + 1) nm cap' cj E r = gC cs ad σ n nm ci cj E r := by
  have hu : ∀ x, x ≠ 3 → x ≠ 100 + n → va_up (va_up ad (100 + n) q) 3 e' x = ad x := fun x h h' => by rw [va_up_ne _ _ h, va_up_ne _ _ h']
  rcases RC_is hr with h | ⟨d, hd, rfl⟩ | ⟨-, rfl⟩ | ⟨-, rfl⟩ | ⟨i, hi, rfl⟩ | ⟨i, hi, rfl⟩ | ⟨i, hi, rfl⟩ | ⟨i, hi, rfl⟩
  · simp only [List.mem_cons, List.not_mem_nil, or_false] at h
    rcases h with rfl | rfl | rfl | rfl | rfl | rfl | rfl | rfl | rfl | rfl
    · rw [gC_0, gC_0, nwI_k (by omega) (by omega), hu 1 (by omega) (by omega), hu 2 (by omega) (by omega), hu 5 (by omega) (by omega), hu 6 (by omega) (by omega), hu 7 (by omega) (by omega), hu 8 (by omega) (by omega), hu 9 (by omega) (by omega), hu 10 (by omega) (by omega), hu 11 (by omega) (by omega)]
    · exact absurd rfl h1
    · rw [gC_2', gC_2', hu 4 (by omega) (by omega), nwI_71]
    · rw [gC_5, gC_5, nwI_k (by omega) (by omega)]
    · rw [gC_6, gC_6, nwI_k (by omega) (by omega)]
    · rw [gC_7, gC_7, nwI_k (by omega) (by omega)]
    · rw [gC_8, gC_8, nwI_k (by omega) (by omega)]
    · rw [gC_9, gC_9, rowsF_o (fun j hj => hu _ (by omega) (by omega))]
    · rw [gC_10, gC_10, nwI_k (by omega) (by omega)]
    · rw [gC_11, gC_11, nwI_k (by omega) (by omega)]
  · rw [gC_row hd, gC_row hd, nwI_k (by omega) (by omega)]
  · exact absurd rfl h3
  · rw [gC_4, gC_4, rowsF_o (fun j hj => hu _ (by omega) (by omega))]
  · rw [gC_ins (by omega), gC_ins (by omega)]
    have hin : i ≠ n := fun z => hq (by rw [z])
    simp only [insF]
    rw [nwI_o hin 20 (by omega), nwI_o hin 21 (by omega), nwI_o hin 22 (by omega), nwI_o hin 23 (by omega), nwI_o hin 24 (by omega), nwI_o hin 25 (by omega), nwI_o hin 26 (by omega), nwI_o hin 27 (by omega), nwI_o hin 28 (by omega), nwI_o hin 29 (by omega)]
  · rw [gC_sam (by omega), gC_sam (by omega)]
    simp only [samF]
    rw [nwI_k (by omega) (by omega), nwI_k (by omega) (by omega), hu _ (by omega) (by omega), hu _ (by omega) (by omega)]
  · rw [gC_fou (by omega), gC_fou (by omega), nwI_k (by omega) (by omega)]
  · rw [gC_set (by omega), gC_set (by omega), nwI_k (by omega) (by omega)]
theorem wC_addI (hn : n < 30) (hm : nm ≤ 40)
    (hP : va_P D cls_ (rl_w (RC n nm ++ [100 + n]) (va_up ad (100 + n) q) (va_up (gC cs ad σ n nm ci cj E) (100 + n) (.inr (2, [.int p0, .int p1, .int p2, .int 0, .int 0, .int (-1), .int (-1), .int (-1), .int (-1), .int 0])))) H)
    (hD : va_D A (rl_w (RC n nm ++ [100 + n]) (va_up ad (100 + n) q) (va_up (gC cs ad σ n nm ci cj E) (100 + n) (.inr (2, [.int p0, .int p1, .int p2, .int 0, .int 0, .int (-1), .int (-1), .int (-1), .int (-1), .int 0])))))
    (hk : ∀ x : Nat, x < H.size → ¬ va_A (adW cs (ad 1) (ad 3) n ci E (σ 7 0) (rowsF 100 n ad)) H.size x → H1[x]? = H[x]?)
    (hP1 : va_P D cls_ [(ad 1, .inr (0, [.ref e', .int (nI (n + 1)), .int (σ 7 0 + 1)])), (e', ar_O cs cap' (va_up (rowsF 100 n ad) n (some q)))] H1)
    (hD1 : va_D (va_A (adW cs (ad 1) (ad 3) n ci E (σ 7 0) (rowsF 100 n ad)) H.size) [(ad 1, .inr (0, [.ref e', .int (nI (n + 1)), .int (σ 7 0 + 1)])), (e', ar_O cs cap' (va_up (rowsF 100 n ad) n (some q)))])
    (hFc : ∀ x, va_A (adW cs (ad 1) (ad 3) n ci E (σ 7 0) (rowsF 100 n ad)) H.size x → A x) :
    va_P D cls_ (wC cs (va_up (va_up ad (100 + n) q) 3 e') (nwI σ n p0 p1 p2) (n + 1) nm cap' cj E) H1 ∧ va_D A (wC cs (va_up (va_up ad (100 + n) q) 3 e') (nwI σ n p0 p1 p2) (n + 1) nm cap' cj E) := by
  have hPm := rl_P_iff.mp hP
  have hold : ∀ r, r ∈ RC n nm → r ≠ 100 + n := fun r hr e => by
    rcases RC_is hr with h | ⟨d, hd, h⟩ | ⟨-, h⟩ | ⟨-, h⟩ | ⟨i, hi, h⟩ | ⟨i, hi, h⟩ | ⟨i, hi, h⟩ | ⟨i, hi, h⟩ <;> first | omega | (simp only [List.mem_cons, List.not_mem_nil, or_false] at h; omega)
  have hmem : ∀ r, r ∈ RC (n + 1) nm → r ≠ 3 → r ≠ 100 + n → r ∈ RC n nm := fun r hr h3 hq => by
    rcases RC_is hr with h | ⟨d, hd, rfl⟩ | ⟨-, rfl⟩ | ⟨h0, rfl⟩ | ⟨i, hi, rfl⟩ | ⟨i, hi, rfl⟩ | ⟨i, hi, rfl⟩ | ⟨i, hi, rfl⟩
    · exact RC_f h
    · exact RC_row hd
    · exact absurd rfl h3
    · exact RC_4 (by omega)
    · exact RC_ins (by omega)
    · exact RC_sam hi
    · exact RC_fou hi
    · exact RC_set hi
  have adr : ∀ r, r ∈ RC n nm → va_up ad (100 + n) q r = ad r := fun r hr => va_up_ne _ _ (hold r hr)
  have inl : ∀ r, r ∈ RC n nm → r ∈ RC n nm ++ [100 + n] := fun r hr => List.mem_append_left _ hr
  have inr : 100 + n ∈ RC n nm ++ [100 + n] := List.mem_append_right _ (List.mem_singleton.mpr rfl)
  have hat : ∀ r, r ∈ RC n nm → va_at D cls_ (ad r, gC cs ad σ n nm ci cj E r) H := fun r hr => by
    have h := hPm r (inl r hr)
    rw [adr r hr, va_up_ne _ _ (hold r hr)] at h
    exact h
  have hatq : va_at D cls_ (q, .inr (2, [.int p0, .int p1, .int p2, .int 0, .int 0, .int (-1), .int (-1), .int (-1), .int (-1), .int 0])) H := by
    have h := hPm _ inr
    rw [va_up_self, va_up_self] at h
    exact h
  have hinj : ∀ r, r ∈ RC n nm → ∀ r', r' ∈ RC n nm → ad r = ad r' → r = r' := fun r hr r' hr' e => rl_D_inj hD (inl r hr) (inl r' hr') (by rw [adr r hr, adr r' hr']; exact e)
  have hqne : ∀ r, r ∈ RC n nm → ad r ≠ q := fun r hr e => hold r hr (rl_D_inj hD (inl r hr) inr (by rw [adr r hr, va_up_self]; exact e))
  have r1 : (1 : Nat) ∈ RC n nm := RC_f (by decide)
  have hnot : ∀ r, r ∈ RC n nm → r ≠ 1 → r ≠ 3 → ¬ va_A (adW cs (ad 1) (ad 3) n ci E (σ 7 0) (rowsF 100 n ad)) H.size (ad r) := fun r hr h1 h3 h => by
    rcases adW_in h with h | ⟨h0, h⟩ | h
    · exact h1 (hinj r hr 1 r1 h)
    · exact h3 (hinj r hr 3 (RC_3 (by omega)) h)
    · exact absurd (hat r hr).lt (Nat.not_lt.mpr h)
  have hnotq : ¬ va_A (adW cs (ad 1) (ad 3) n ci E (σ 7 0) (rowsF 100 n ad)) H.size q := fun h => by
    rcases adW_in h with h | ⟨h0, h⟩ | h
    · exact hqne 1 r1 h.symm
    · exact hqne 3 (RC_3 (by omega)) h.symm
    · exact absurd hatq.lt (Nat.not_lt.mpr h)
  have he1 : e' ≠ ad 1 := fun h => by
    have := hD1.1 0 1 _ _ rfl rfl h.symm
    omega
  have heA : va_A (adW cs (ad 1) (ad 3) n ci E (σ 7 0) (rowsF 100 n ad)) H.size e' := hD1.2 1 _ rfl
  have hene : ∀ r, r ∈ RC n nm → r ≠ 3 → e' ≠ ad r := fun r hr h3 h => by
    by_cases h1 : r = 1
    · subst h1
      exact he1 h
    · exact hnot r hr h1 h3 (h ▸ heA)
  have heq : e' ≠ q := fun h => hnotq (h ▸ heA)
  have hu : ∀ r, r ∈ RC n nm → r ≠ 3 → va_up (va_up ad (100 + n) q) 3 e' r = ad r := fun r hr h3 => by rw [va_up_ne _ _ h3, adr r hr]
  have hu3 : va_up (va_up ad (100 + n) q) 3 e' 3 = e' := va_up_self _ _ _
  have huq : va_up (va_up ad (100 + n) q) 3 e' (100 + n) = q := by rw [va_up_ne _ _ (by omega), va_up_self]
  constructor
  · refine rl_P_iff.mpr (fun r hr => ?_)
    by_cases h1 : r = 1
    · subst h1
      rw [hu 1 r1 (by omega), gC_1 (by omega), nwI_70, hu3]
      exact hP1 0 _ rfl
    · by_cases h3 : r = 3
      · subst h3
        rw [hu3, gC_3, ← rowsF_up 3 e' (fun j hj => by omega)]
        exact hP1 1 _ rfl
      · by_cases hq : r = 100 + n
        · subst hq
          rw [huq, gC_ins (by omega), nwI_ins]
          exact hatq.kept (hk q hatq.lt hnotq)
        · have hm9 := hmem r hr h3 hq
          rw [hu r hm9 h3, gC_newI hn hm hr h1 h3 hq]
          exact (hat r hm9).kept (hk _ (hat r hm9).lt (hnot r hm9 h1 h3))
  · refine rl_D_of (RC_nodup (by omega) hm) (fun r hr r' hr' h => ?_) (fun r hr => ?_)
    · by_cases h3 : r = 3
      · subst h3
        by_cases h3' : r' = 3
        · exact h3'.symm
        · rw [hu3] at h
          by_cases hq' : r' = 100 + n
          · subst hq'
            rw [huq] at h
            exact absurd h heq
          · have hm9 := hmem r' hr' h3' hq'
            rw [hu r' hm9 h3'] at h
            exact absurd h (hene r' hm9 h3')
      · by_cases hq : r = 100 + n
        · subst hq
          rw [huq] at h
          by_cases h3' : r' = 3
          · subst h3'
            rw [hu3] at h
            exact absurd h.symm heq
          · by_cases hq' : r' = 100 + n
            · exact hq'.symm
            · have hm9 := hmem r' hr' h3' hq'
              rw [hu r' hm9 h3'] at h
              exact absurd h.symm (hqne r' hm9)
        · have hm8 := hmem r hr h3 hq
          rw [hu r hm8 h3] at h
          by_cases h3' : r' = 3
          · subst h3'
            rw [hu3] at h
            exact absurd h.symm (hene r hm8 h3)
          · by_cases hq' : r' = 100 + n
            · subst hq'
              rw [huq] at h
              exact absurd h (hqne r hm8)
            · have hm9 := hmem r' hr' h3' hq'
              rw [hu r' hm9 h3'] at h
              exact hinj r hm8 r' hm9 h
    · by_cases h3 : r = 3
      · subst h3
        rw [hu3]
        exact hFc _ heA
      · by_cases hq : r = 100 + n
        · subst hq
          rw [huq]
          have := rl_D_in hD inr
          rw [va_up_self] at this
          exact this
        · have hm9 := hmem r hr h3 hq
          rw [hu r hm9 h3]
          have := rl_D_in hD (inl r hm9)
          rw [adr r hm9] at this
          exact this
end ADI
