theorem i32_eq {x y : Int32} : x = y ↔ x.toInt = y.toInt := Int32.toInt_inj.symm
theorem i32_lt {x y : Int32} : x < y ↔ x.toInt < y.toInt := Int32.lt_iff_toInt_lt
theorem i32_le {x y : Int32} : x ≤ y ↔ x.toInt ≤ y.toInt := Int32.le_iff_toInt_le
theorem i32_nm1 : ((-1 : Int32)).toInt = -1 := by decide
theorem i32_n0 : ((0 : Int32)).toInt = 0 := by decide
theorem i32_n1 : ((1 : Int32)).toInt = 1 := by decide
theorem i32_n2 : ((2 : Int32)).toInt = 2 := by decide
theorem i32_n3 : ((3 : Int32)).toInt = 3 := by decide
theorem i32_n4 : ((4 : Int32)).toInt = 4 := by decide
theorem i32_n5 : ((5 : Int32)).toInt = 5 := by decide
theorem i32_n6 : ((6 : Int32)).toInt = 6 := by decide
theorem i32_n7 : ((7 : Int32)).toInt = 7 := by decide
theorem i32_n8 : ((8 : Int32)).toInt = 8 := by decide
theorem i32_n9 : ((9 : Int32)).toInt = 9 := by decide
theorem i32_n10 : ((10 : Int32)).toInt = 10 := by decide
theorem i32_n20 : ((20 : Int32)).toInt = 20 := by decide
theorem i32_n30 : ((30 : Int32)).toInt = 30 := by decide
theorem i32_n31 : ((31 : Int32)).toInt = 31 := by decide
theorem i32_n39 : ((39 : Int32)).toInt = 39 := by decide
theorem i32_n40 : ((40 : Int32)).toInt = 40 := by decide
theorem i32_n49 : ((49 : Int32)).toInt = 49 := by decide
theorem i32_n50 : ((50 : Int32)).toInt = 50 := by decide
theorem i32_n100 : ((100 : Int32)).toInt = 100 := by decide
theorem i32_n160 : ((160 : Int32)).toInt = 160 := by decide
theorem i32_n1000 : ((1000 : Int32)).toInt = 1000 := by decide
theorem i32_n100000 : ((100000 : Int32)).toInt = 100000 := by decide
theorem i32_n1000000 : ((1000000 : Int32)).toInt = 1000000 := by decide
theorem i32_n2147483639 : ((2147483639 : Int32)).toInt = 2147483639 := by decide
noncomputable def b2i (P : Prop) : Int32 := @ite _ P (Classical.propDecidable P) 1 0
theorem b2i_t {P : Prop} (h : P) : b2i P = 1 := if_pos h
theorem b2i_f {P : Prop} (h : ¬ P) : b2i P = 0 := if_neg h
theorem b2i_iff {P Q : Prop} (h : P ↔ Q) : b2i P = b2i Q := by rw [propext h]
theorem b2i_eq0 {P : Prop} : b2i P = 0 ↔ ¬ P := by
  by_cases p : P
  · rw [b2i_t p]; exact ⟨fun h => absurd h (by decide), fun h => absurd p h⟩
  · rw [b2i_f p]; exact ⟨fun _ => p, fun _ => rfl⟩
theorem b2i_nar (P : Prop) : narrow .boolean (.int (b2i P)) = .int (b2i P) := by
  by_cases h : P
  · rw [b2i_t h]; rfl
  · rw [b2i_f h]; rfl
theorem nI_exit {z n : Nat} (h : z ≤ n) (c : nI n ≤ nI z) (hn : n < 2 ^ 31) : z = n := by
  have := (nI_leI hn (by omega)).mp c
  omega
theorem nI_go {z n : Nat} (h : z ≤ n) (c : ¬ nI n ≤ nI z) (hn : n < 2 ^ 31) : z < n := by
  rcases Nat.lt_or_ge z n with q | q
  · exact q
  · exact absurd (nI_le q (by omega)) c
