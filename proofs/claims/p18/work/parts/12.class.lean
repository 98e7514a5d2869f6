/-! The class's state: s k i is component k at place i. 0 0: now; 1 rights, 2 seals, 3 holders, 4 costs, 5 up, 6 down; 7: the lists' counts of changes; 10 + d: row d of the declared values; 20 + k: field k of the inspections; 30, 31: declaration and seal of the samples; 1000 + i, 2000 + i: found and settled of sample i. -/
abbrev tys_ (cs : Nat → ClassId) : List (ClassId × FieldType) := [(cs 0, .int), (cs 1, .boolean), (cs 2, .object "java/lang/Object"), (cs 3, .array .int), (cs 4, .long)]
def su (σ : Nat → Nat → Int32) (k i : Nat) (x : Int32) : Nat → Nat → Int32 := fun a b => if a = k ∧ b = i then x else σ a b
def insF (σ : Nat → Nat → Int32) (i : Nat) : List Value := [.int (σ 20 i), .int (σ 21 i), .int (σ 22 i), .int (σ 23 i), .int (σ 24 i), .int (σ 25 i), .int (σ 26 i), .int (σ 27 i), .int (σ 28 i), .int (σ 29 i)]
def samF (ad : Nat → Nat) (σ : Nat → Nat → Int32) (i : Nat) : List Value := [.int (σ 30 i), .int (σ 31 i), .ref (ad (300 + i)), .ref (ad (400 + i))]
abbrev arI (cA : ClassId) (n : Nat) (f : Nat → Int32) : va_E := .inl (cA, n, .inl f)
abbrev arQ (cA : ClassId) (n : Nat) (f : Nat → Option Nat) : va_E := .inl (cA, n, .inr (.inr (.inr (.inr f))))
def rowsF (b n : Nat) (ad : Nat → Nat) : Nat → Option Nat := fun j => if j < n then some (ad (b + j)) else none
def gC (cs : Nat → ClassId) (ad : Nat → Nat) (σ : Nat → Nat → Int32) (n m ci cj E : Nat) : Nat → va_E := fun r =>
  if r < 100 then
    (if r = 0 then .inr (1, [.ref (ad 1), .ref (ad 2), .ref (ad 5), .ref (ad 6), .ref (ad 7), .ref (ad 8), .ref (ad 9), .ref (ad 10), .ref (ad 11), .int (σ 0 0)])
    else if r = 1 then .inr (0, [.ref (if n = 0 then E else ad 3), .int (nI n), .int (σ 7 0)])
    else if r = 2 then .inr (0, [.ref (if m = 0 then E else ad 4), .int (nI m), .int (σ 7 1)])
    else if r = 3 then arQ (cs 2) ci (rowsF 100 n ad)
    else if r = 4 then arQ (cs 2) cj (rowsF 200 m ad)
    else if r = 5 then arI (cs 0) 10 (σ 1)
    else if r = 6 then arI (cs 0) 10 (σ 2)
    else if r = 7 then arI (cs 0) 10 (σ 3)
    else if r = 8 then arI (cs 0) 10 (σ 4)
    else if r = 9 then arQ (cs 3) 10 (rowsF 20 10 ad)
    else if r = 10 then arI (cs 0) 4 (σ 5)
    else if r = 11 then arI (cs 0) 4 (σ 6)
    else arI (cs 0) 4 (σ (r - 10)))
  else if r < 200 then .inr (2, insF σ (r - 100))
  else if r < 300 then .inr (3, samF ad σ (r - 200))
  else if r < 400 then arI (cs 0) 4 (σ (1000 + (r - 300)))
  else arI (cs 1) 4 (σ (2000 + (r - 400)))
def RC (n m : Nat) : List Nat := [0, 1, 2, 5, 6, 7, 8, 9, 10, 11] ++ ((List.range 10).map (fun j => 20 + j) ++ ((if n = 0 then [] else [3]) ++ ((if m = 0 then [] else [4]) ++ ((List.range n).map (fun j => 100 + j) ++ ((List.range m).map (fun j => 200 + j) ++ ((List.range m).map (fun j => 300 + j) ++ (List.range m).map (fun j => 400 + j)))))))
abbrev wC (cs : Nat → ClassId) (ad : Nat → Nat) (σ : Nat → Nat → Int32) (n m ci cj E : Nat) : va_W := rl_w (RC n m) ad (gC cs ad σ n m ci cj E)
/-- sizes -/
def Iv (n m ci cj : Nat) : Prop := n ≤ 30 ∧ m ≤ 40 ∧ n ≤ ci ∧ m ≤ cj ∧ ci ≤ 100 ∧ cj ≤ 100
theorem RC_f {n m r : Nat} (h : r ∈ [0, 1, 2, 5, 6, 7, 8, 9, 10, 11]) : r ∈ RC n m := List.mem_append_left _ h
theorem RC_row {n m d : Nat} (h : d < 10) : 20 + d ∈ RC n m := List.mem_append_right _ (List.mem_append_left _ (List.mem_map.mpr ⟨d, List.mem_range.mpr h, rfl⟩))
theorem RC_3 {n m : Nat} (h : 0 < n) : 3 ∈ RC n m := List.mem_append_right _ (List.mem_append_right _ (List.mem_append_left _ (by rw [if_neg (by omega)]; exact List.mem_singleton.mpr rfl)))
theorem RC_4 {n m : Nat} (h : 0 < m) : 4 ∈ RC n m := List.mem_append_right _ (List.mem_append_right _ (List.mem_append_right _ (List.mem_append_left _ (by rw [if_neg (by omega)]; exact List.mem_singleton.mpr rfl))))
theorem RC_ins {n m i : Nat} (h : i < n) : 100 + i ∈ RC n m := List.mem_append_right _ (List.mem_append_right _ (List.mem_append_right _ (List.mem_append_right _ (List.mem_append_left _ (List.mem_map.mpr ⟨i, List.mem_range.mpr h, rfl⟩)))))
theorem RC_sam {n m i : Nat} (h : i < m) : 200 + i ∈ RC n m := List.mem_append_right _ (List.mem_append_right _ (List.mem_append_right _ (List.mem_append_right _ (List.mem_append_right _ (List.mem_append_left _ (List.mem_map.mpr ⟨i, List.mem_range.mpr h, rfl⟩))))))
theorem RC_fou {n m i : Nat} (h : i < m) : 300 + i ∈ RC n m := List.mem_append_right _ (List.mem_append_right _ (List.mem_append_right _ (List.mem_append_right _ (List.mem_append_right _ (List.mem_append_right _ (List.mem_append_left _ (List.mem_map.mpr ⟨i, List.mem_range.mpr h, rfl⟩)))))))
theorem RC_set {n m i : Nat} (h : i < m) : 400 + i ∈ RC n m := List.mem_append_right _ (List.mem_append_right _ (List.mem_append_right _ (List.mem_append_right _ (List.mem_append_right _ (List.mem_append_right _ (List.mem_append_right _ (List.mem_map.mpr ⟨i, List.mem_range.mpr h, rfl⟩)))))))
section GC
variable {cs : Nat → ClassId} {ad : Nat → Nat} {σ : Nat → Nat → Int32} {n m ci cj E : Nat}
theorem gC_0 : gC cs ad σ n m ci cj E 0 = .inr (1, [.ref (ad 1), .ref (ad 2), .ref (ad 5), .ref (ad 6), .ref (ad 7), .ref (ad 8), .ref (ad 9), .ref (ad 10), .ref (ad 11), .int (σ 0 0)]) := rfl
theorem gC_1 (h : 0 < n) : gC cs ad σ n m ci cj E 1 = .inr (0, [.ref (ad 3), .int (nI n), .int (σ 7 0)]) := by
  show Sum.inr (0, [Value.ref (if n = 0 then E else ad 3), _, _]) = _
  rw [if_neg (by omega)]
theorem gC_1' : gC cs ad σ n m ci cj E 1 = .inr (0, [.ref (if n = 0 then E else ad 3), .int (nI n), .int (σ 7 0)]) := rfl
theorem gC_2 (h : 0 < m) : gC cs ad σ n m ci cj E 2 = .inr (0, [.ref (ad 4), .int (nI m), .int (σ 7 1)]) := by
  show Sum.inr (0, [Value.ref (if m = 0 then E else ad 4), _, _]) = _
  rw [if_neg (by omega)]
theorem gC_2' : gC cs ad σ n m ci cj E 2 = .inr (0, [.ref (if m = 0 then E else ad 4), .int (nI m), .int (σ 7 1)]) := rfl
theorem gC_3 : gC cs ad σ n m ci cj E 3 = arQ (cs 2) ci (rowsF 100 n ad) := rfl
theorem gC_4 : gC cs ad σ n m ci cj E 4 = arQ (cs 2) cj (rowsF 200 m ad) := rfl
theorem gC_5 : gC cs ad σ n m ci cj E 5 = arI (cs 0) 10 (σ 1) := rfl
theorem gC_6 : gC cs ad σ n m ci cj E 6 = arI (cs 0) 10 (σ 2) := rfl
theorem gC_7 : gC cs ad σ n m ci cj E 7 = arI (cs 0) 10 (σ 3) := rfl
theorem gC_8 : gC cs ad σ n m ci cj E 8 = arI (cs 0) 10 (σ 4) := rfl
theorem gC_9 : gC cs ad σ n m ci cj E 9 = arQ (cs 3) 10 (rowsF 20 10 ad) := rfl
theorem gC_10 : gC cs ad σ n m ci cj E 10 = arI (cs 0) 4 (σ 5) := rfl
theorem gC_11 : gC cs ad σ n m ci cj E 11 = arI (cs 0) 4 (σ 6) := rfl
theorem gC_row {d : Nat} (h : d < 10) : gC cs ad σ n m ci cj E (20 + d) = arI (cs 0) 4 (σ (10 + d)) := by
  have e : 20 + d - 10 = 10 + d := by omega
  simp only [gC, e]
  rw [if_pos (by omega), if_neg (by omega), if_neg (by omega), if_neg (by omega), if_neg (by omega), if_neg (by omega), if_neg (by omega), if_neg (by omega), if_neg (by omega), if_neg (by omega), if_neg (by omega), if_neg (by omega), if_neg (by omega)]
theorem gC_ins {i : Nat} (h : i < 100) : gC cs ad σ n m ci cj E (100 + i) = .inr (2, insF σ i) := by
  have e : 100 + i - 100 = i := by omega
  simp only [gC, e]
  rw [if_neg (by omega), if_pos (by omega)]
theorem gC_sam {i : Nat} (h : i < 100) : gC cs ad σ n m ci cj E (200 + i) = .inr (3, samF ad σ i) := by
  have e : 200 + i - 200 = i := by omega
  simp only [gC, e]
  rw [if_neg (by omega), if_neg (by omega), if_pos (by omega)]
theorem gC_fou {i : Nat} (h : i < 100) : gC cs ad σ n m ci cj E (300 + i) = arI (cs 0) 4 (σ (1000 + i)) := by
  have e : 300 + i - 300 = i := by omega
  simp only [gC, e]
  rw [if_neg (by omega), if_neg (by omega), if_neg (by omega), if_pos (by omega)]
theorem gC_set {i : Nat} (h : i < 100) : gC cs ad σ n m ci cj E (400 + i) = arI (cs 1) 4 (σ (2000 + i)) := by
  have e : 400 + i - 400 = i := by omega
  simp only [gC, e]
  rw [if_neg (by omega), if_neg (by omega), if_neg (by omega), if_neg (by omega)]
end GC
theorem rl_two {D : va_G} {cl : List vw_C} {H : Heap} {Rl : List Nat} {ad : Nat → Nat} {g : Nat → va_E} {r q : Nat} {x y : va_E} (hP : va_P D cl (rl_w Rl ad g) H) (hr : r ∈ Rl) (hg : g r = x) (hq : q ∈ Rl) (hg' : g q = y) : va_P D cl [(ad r, x), (ad q, y)] H := by
  have h := (rl_one hP hr hg).app (rl_one hP hq hg')
  exact h
