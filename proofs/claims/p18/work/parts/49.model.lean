/-! The reference's state: t 0 j: thrown, size, samples, now; t k for k = 4 .. 24: the array in field k. -/
abbrev RM : List Nat := [0, 4, 5, 6, 7, 8, 9, 10, 11, 12, 13, 14, 15, 16, 17, 18, 19, 20, 21, 22, 23, 24]
def fldM (ad : Nat → Nat) (τ : Nat → Nat → Int32) : List Value := [.int (τ 0 0), .int (τ 0 1), .int (τ 0 2), .int (τ 0 3), .ref (ad 4), .ref (ad 5), .ref (ad 6), .ref (ad 7), .ref (ad 8), .ref (ad 9), .ref (ad 10), .ref (ad 11), .ref (ad 12), .ref (ad 13), .ref (ad 14), .ref (ad 15), .ref (ad 16), .ref (ad 17), .ref (ad 18), .ref (ad 19), .ref (ad 20), .ref (ad 21), .ref (ad 22), .ref (ad 23), .ref (ad 24)]
def szM (r : Nat) : Nat := if r = 4 then 60 else if r ≤ 14 then 30 else if r ≤ 17 then 10 else if r ≤ 20 then 40 else if r ≤ 22 then 160 else 4
def clM (cs : Nat → ClassId) (r : Nat) : ClassId := if r = 4 ∨ r = 16 ∨ r = 22 then cs 1 else cs 0
def gM (cs : Nat → ClassId) (ad : Nat → Nat) (τ : Nat → Nat → Int32) : Nat → va_E := fun r => if r = 0 then .inr (4, fldM ad τ) else arI (clM cs r) (szM r) (τ r)
abbrev wM (cs : Nat → ClassId) (ad : Nat → Nat) (τ : Nat → Nat → Int32) : va_W := rl_w RM ad (gM cs ad τ)
theorem gM_0 {cs : Nat → ClassId} {ad : Nat → Nat} {τ : Nat → Nat → Int32} : gM cs ad τ 0 = .inr (4, fldM ad τ) := rfl
theorem gM_r {cs : Nat → ClassId} {ad : Nat → Nat} {τ : Nat → Nat → Int32} {r : Nat} (h : r ≠ 0) : gM cs ad τ r = arI (clM cs r) (szM r) (τ r) := if_neg h
theorem wM_arr {cs : Nat → ClassId} {ad : Nat → Nat} {τ : Nat → Nat → Int32} {r j : Nat} {x : Int32} (h : r ≠ 0) : rl_w RM ad (va_up (gM cs ad τ) r (arI (clM cs r) (szM r) (upd (τ r) j x))) = wM cs ad (su τ r j x) := by
  apply rl_congr
  intro q hq
  by_cases e : q = r
  · subst e
    rw [va_up_self, gM_r h, su_same]
  · rw [va_up_ne _ _ e]
    by_cases h0 : q = 0
    · subst h0
      rw [gM_0, gM_0]
      simp only [fldM, su_ne (Ne.symm h)]
    · rw [gM_r h0, gM_r h0, su_row e]
theorem fldM_set {ad : Nat → Nat} {τ : Nat → Nat → Int32} {j : Nat} {x : Int32} (h : j < 4) : (fldM ad τ).set j (.int x) = fldM ad (su τ 0 j x) := by
  have h' : j = 0 ∨ j = 1 ∨ j = 2 ∨ j = 3 := by omega
  rcases h' with rfl | rfl | rfl | rfl <;> simp [fldM, su]
theorem wM_sc {cs : Nat → ClassId} {ad : Nat → Nat} {τ : Nat → Nat → Int32} {j : Nat} {x : Int32} (h : j < 4) : rl_w RM ad (va_up (gM cs ad τ) 0 (.inr (4, (fldM ad τ).set j (.int x)))) = wM cs ad (su τ 0 j x) := by
  apply rl_congr
  intro q hq
  by_cases e : q = 0
  · subst e
    rw [va_up_self, gM_0, fldM_set h]
  · rw [va_up_ne _ _ e, gM_r e, gM_r e, su_row e]
/-- sizes and ranges -/
def Mv (τ : Nat → Nat → Int32) (n nm : Nat) : Prop := τ 0 1 = nI n ∧ τ 0 2 = nI nm ∧ n ≤ 30 ∧ nm ≤ 40 ∧ (∀ i, i < n → vp_in (τ 5 i) 10 ∧ vp_in (τ 6 i) 5) ∧ ∀ i, i < nm → vp_in (τ 19 i) n
theorem at10 {p : Int32} (h : 0 ≤ p ∧ p < 10) : ∃ a : Nat, a < 10 ∧ p = nI a := by
  have h1 := h.1
  have h2 := h.2
  rw [i32_le, i32_n0] at h1
  rw [i32_lt, i32_n10] at h2
  obtain ⟨q, hq, e⟩ := nI_of (x := p) (fun h9 => by rw [i32_lt, i32_n0] at h9; omega)
  subst e
  rw [nI_toInt hq] at h2
  exact ⟨q, by omega, rfl⟩
theorem atN {p M : Int32} {N : Nat} (hM : M.toInt = N) (h : 0 ≤ p ∧ p ≤ M) : ∃ a : Nat, a < N + 1 ∧ p = nI a := by
  obtain ⟨q, hq, e⟩ := nI_of2 (x := p) hM (fun h9 => by rw [i32_lt, i32_n0] at h9; have := h.1; rw [i32_le, i32_n0] at this; omega) h.2
  exact ⟨q, by omega, e⟩
theorem atS {p : Int32} {n : Nat} (hn : n < 2 ^ 31) (h : 0 ≤ p ∧ p < nI n) : ∃ a : Nat, a < n ∧ p = nI a := by
  obtain ⟨q, hq, e⟩ := nI_of (x := p) (fun h9 => by rw [i32_lt, i32_n0] at h9; have := h.1; rw [i32_le, i32_n0] at this; omega)
  subst e
  exact ⟨q, (nI_ltI hq hn).mp h.2, rfl⟩
theorem at_in {x : Int32} {n : Nat} (hn : n < 2 ^ 31) (h : vp_in x n) : ∃ a : Nat, a < n ∧ x = nI a := by
  obtain ⟨q, hq, e⟩ := nI_of (x := x) (fun q => h (Or.inl q))
  subst e
  refine ⟨q, Nat.not_le.mp fun q9 => h (Or.inr ?_), rfl⟩
  rw [nI_clamp hq]
  exact q9
theorem nI_mul (a b : Nat) : nI a * nI b = nI (a * b) := (Int32.ofNat_mul a b).symm
theorem nI_6 : (6 : Int32) = nI 6 := rfl
theorem nI_4 : (4 : Int32) = nI 4 := rfl
theorem ix6 (a b : Nat) : 6 * nI a + nI b = nI (6 * a + b) := by rw [nI_6, nI_mul, nI_add]
theorem ix4 (a b : Nat) : 4 * nI a + nI b = nI (4 * a + b) := by rw [nI_4, nI_mul, nI_add]
theorem ix40 (a : Nat) : 4 * nI a = nI (4 * a) := by rw [nI_4, nI_mul]
theorem id4 (a : Nat) (ha : a < 2 ^ 31) : nI a / 4 = nI (a / 4) := by
  rw [i32_eq, nI_toInt (by omega), Int32.toInt_div, nI_toInt ha, i32_n4, Int.tdiv_eq_ediv_of_nonneg (by omega), Int.bmod_eq_of_le (by omega) (by omega)]
  omega
theorem im4 (a : Nat) (ha : a < 2 ^ 31) : nI a - nI a / 4 * 4 = nI (a % 4) := by
  rw [id4 a ha, nI_4, nI_mul, i32_eq, Int32.toInt_sub, nI_toInt ha, nI_toInt (by omega), nI_toInt (by omega)]
  rw [Int.bmod_eq_of_le (by omega) (by omega)]
  omega
