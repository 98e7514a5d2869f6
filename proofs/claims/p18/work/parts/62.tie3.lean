theorem ifP_iff {P Q : Prop} {x y : Int32} (h : P ↔ Q) : ifP P x y = ifP Q x y := by rw [propext h]
theorem ifP_c {P Q : Prop} {x y x' y' : Int32} (h : P ↔ Q) (h1 : x = x') (h2 : y = y') : ifP P x y = ifP Q x' y' := by rw [propext h, h1, h2]
theorem id10 (a : Nat) (ha : a < 2 ^ 31) : nI a / 10 = nI (a / 10) := by
  rw [i32_eq, nI_toInt (by omega), Int32.toInt_div, nI_toInt ha, i32_n10, Int.tdiv_eq_ediv_of_nonneg (by omega), Int.bmod_eq_of_le (by omega) (by omega)]
  omega
theorem im10 (a : Nat) (ha : a < 2 ^ 31) : nI a - nI a / 10 * 10 = nI (a % 10) := by
  rw [id10 a ha, show (10 : Int32) = nI 10 from rfl, nI_mul, i32_eq, Int32.toInt_sub, nI_toInt ha, nI_toInt (by omega), nI_toInt (by omega)]
  rw [Int.bmod_eq_of_le (by omega) (by omega)]
  omega
section T4
variable {σ τ u u' : Nat → Nat → Int32} {n nm : Nat} {p0 p1 p2 p3 r r' k : Int32}
theorem tt_release (hT : TT σ τ n nm) (hc : cr_release σ n nm p0 k r u) (hm : mr_release τ n nm p0 r' u') : u' 0 0 = k ∧ (k = 0 → r' = r) ∧ TT u u' n nm := by
  have hn : n ≤ 30 := hT.1.2.2.2.1
  have hI := hT.2.2.1
  rcases hm with ⟨hno, rfl, rfl⟩ | ⟨a, ha, rfl, rfl, rfl⟩
  · rcases hc with ⟨rfl, hp, -⟩ | ⟨rfl, -, rfl⟩
    · exact absurd (n9_10.mp hp) hno
    · exact ⟨rfl, fun h => absurd h (by decide), tt_thr hT⟩
  · have g9 : 0 ≤ nI a ∧ nI a ≤ 9 := ⟨nI_pos' (by omega), nI_le (b := 9) (by omega) (by decide)⟩
    rcases hc with ⟨rfl, -, rfl, rfl⟩ | ⟨rfl, hno, -⟩
    · refine ⟨rfl, fun _ => ?_, tt_thr hT⟩
      have hB := hT.2.2.2.2.2.2.2.2.2.2.2.1.1
      have hq := hT.2.2.2.2.2.2.1 a ha
      have hh := (hT.2.2.2.2.2.2.2.1 a ha).1
      unfold relF
      rw [nI_clamp (by omega)]
      refine ifP_c ?_ rfl (ifP_c ?_ rfl (ifP_c ?_ rfl (ifP_c ?_ rfl (ifP_c ?_ rfl rfl))))
      · constructor
        · rintro ⟨j, hj, h5, h6, h7⟩
          obtain ⟨a1, a2, a3, a4, -⟩ := hI j hj
          exact ⟨j, hj, a1 ▸ h5, a4 ▸ h6, a4 ▸ h7⟩
        · rintro ⟨j, hj, h5, h6, h7⟩
          obtain ⟨a1, a2, a3, a4, -⟩ := hI j hj
          exact ⟨j, hj, by rw [a1]; exact h5, by rw [a4]; exact h6, by rw [a4]; exact h7⟩
      · rw [hq.1]
        exact ⟨fun h => Classical.not_not.mp (fun h9 => h (b2i_f h9)), fun h h9 => (b2i_eq0.mp h9) h⟩
      · rw [hh]
      · constructor
        · rintro ⟨j, hj, h5, h6⟩
          refine ⟨j, hj, (dS_eq hT hj).1 ▸ h5, ?_⟩
          rintro ⟨q, hq, h7⟩
          have h8 := hB j q hj hq
          have h9 : τ 21 (4 * j + q) < 0 := by
            have : q = 0 ∨ q = 1 ∨ q = 2 ∨ q = 3 := by omega
            rcases this with rfl | rfl | rfl | rfl
            · exact h6.1
            · exact h6.2.1
            · exact h6.2.2.1
            · exact h6.2.2.2
          rw [h8.1] at h9
          exact h7 ((neg32 h8.2.1.1).mp h9)
        · rintro ⟨j, hj, h5, h6⟩
          have h8 : ∀ q, q < 4 → τ 21 (4 * j + q) < 0 := fun q hq => by
            have h8 := hB j q hj hq
            rw [h8.1]
            exact (neg32 h8.2.1.1).mpr (Classical.not_not.mp (fun h9 => h6 ⟨q, hq, h9⟩))
          exact ⟨j, hj, by rw [(dS_eq hT hj).1]; exact h5, h8 0 (by omega), h8 1 (by omega), h8 2 (by omega), h8 3 (by omega)⟩
      · rw [gr_eq hT nm (Nat.le_refl _)]
    · exact absurd g9 hno
theorem tt_look (hT : TT σ τ n nm) (hc : cr_look σ n nm p0 p1 k r u) (hm : mr_look τ n nm p0 p1 r' u') : u' 0 0 = k ∧ (k = 0 → r' = r) ∧ TT u u' n nm := by
  have hn : n ≤ 30 := hT.1.2.2.2.1
  rcases hm with ⟨hno, rfl, rfl⟩ | ⟨i, hi, rfl, h1, rfl, rfl⟩
  · rcases hc with ⟨rfl, j, hj, rfl, hp, -⟩ | ⟨rfl, -, rfl⟩
    · exact absurd ⟨⟨nI_pos' (by omega), nI_lt hj (by omega)⟩, hp⟩ hno
    · exact ⟨rfl, fun h => absurd h (by decide), tt_thr hT⟩
  · rcases hc with ⟨rfl, j, hj, e, hp, rfl, hu⟩ | ⟨rfl, hno, -⟩
    · have := nI_jn (by omega) (by omega) e
      subst this
      refine ⟨rfl, fun _ => ?_, by rw [hu]; exact tt_thr hT⟩
      obtain ⟨a1, a2, a3, a4, a5, a6⟩ := hT.2.2.1 i hi
      have hC := hT.2.2.2.2.2.2.2.2.2.2.2.2.1 i hi
      unfold lkM lookF
      rw [a1, a2, a4, a5, a6, ← hC]
      by_cases hs : σ 23 i = 1 ∨ σ 23 i = 2
      · obtain ⟨b1, b2, b3⟩ := hT.2.2.2.1 i hi hs
        rw [if_pos hs, if_pos hs, if_pos hs, ifP_t hs, ifP_t hs, ifP_t hs, b1, b2, b3]
      · rw [if_neg hs, if_neg hs, if_neg hs, ifP_f hs, ifP_f hs, ifP_f hs]
    · exact absurd ⟨⟨i, hi, rfl⟩, h1⟩ hno
theorem tt_count (hT : TT σ τ n nm) : cntF σ n nm p0 = cnM τ n nm p0 := by
  have e3 : τ 0 3 = σ 0 0 := hT.1.2.2.1
  by_cases hin : 10 ≤ p0
  · have h10 := hin
    rw [i32_le, i32_n10] at h10
    obtain ⟨c, hc, rfl⟩ := nI_of (x := p0) (fun h9 => by rw [i32_lt, i32_n0] at h9; omega)
    rw [nI_toInt hc] at h10
    have n0 : ¬ nI c = 0 := fun h => by have := nI_jn hc (by decide) (h.trans nI_0.symm); omega
    have n1 : ¬ nI c = 1 := fun h => by have := nI_jn (b := 1) hc (by decide) h; omega
    have n2 : ¬ nI c = 2 := fun h => by have := nI_jn (b := 2) hc (by decide) h; omega
    have nlt : ¬ nI c < 10 := Int32.not_lt.mpr hin
    have hd : c % 10 < 10 := by omega
    have g9 : 0 ≤ nI (c % 10) ∧ nI (c % 10) ≤ 9 := ⟨nI_pos' (by omega), nI_le (b := 9) (by omega) (by decide)⟩
    unfold cntF cntOf cnM
    rw [if_neg n0, if_neg n1, if_neg n2, if_neg nlt, im10 c hc, id10 c hc, if_pos g9, nI_clamp (by omega)]
    have lt_iff : ∀ b : Nat, b < 2 ^ 31 → (nI c < nI b ↔ c < b) := fun b hb => nI_ltI hc hb
    have eq_iff : ∀ b : Nat, b < 2 ^ 31 → (nI (c / 10) = nI b ↔ c / 10 = b) := fun b hb => nI_eq (by omega) hb
    have l20 : nI c < 20 ↔ c < 20 := lt_iff 20 (by decide)
    have l30 : nI c < 30 ↔ c < 30 := lt_iff 30 (by decide)
    have l40 : nI c < 40 ↔ c < 40 := lt_iff 40 (by decide)
    have l50 : nI c < 50 ↔ c < 50 := lt_iff 50 (by decide)
    have q1 : nI (c / 10) = 1 ↔ c / 10 = 1 := eq_iff 1 (by decide)
    have q2 : nI (c / 10) = 2 ↔ c / 10 = 2 := eq_iff 2 (by decide)
    have q3 : nI (c / 10) = 3 ↔ c / 10 = 3 := eq_iff 3 (by decide)
    have q4 : nI (c / 10) = 4 ↔ c / 10 = 4 := eq_iff 4 (by decide)
    simp only [l20, l30, l40, l50, q1, q2, q3, q4]
    by_cases h50 : c < 50
    · have hc50 : 10 ≤ nI c ∧ c < 50 := ⟨hin, h50⟩
      rw [if_pos hc50]
      by_cases h20 : c < 20
      · rw [if_pos (show c / 10 = 1 by omega), if_pos h20]
        have hq := hT.2.2.2.2.2.2.1 (c % 10) hd
        by_cases hb : σ 2 (c % 10) = -1
        · rw [hq.1, b2i_t hb, hb]
          rfl
        · rw [hq.1, b2i_f hb, if_pos rfl, hq.2 hb]
      · rw [if_neg (show ¬ c / 10 = 1 by omega), if_neg h20]
        by_cases h30 : c < 30
        · rw [if_pos (show c / 10 = 2 by omega), if_pos h30, (hT.2.2.2.2.2.2.2.1 (c % 10) hd).1]
        · rw [if_neg (show ¬ c / 10 = 2 by omega), if_neg h30]
          by_cases h40 : c < 40
          · rw [if_pos (show c / 10 = 3 by omega), if_pos h40]
            exact hT.2.2.2.2.2.2.2.2.2.2.2.2.2 (c % 10) hd
          · rw [if_neg (show ¬ c / 10 = 3 by omega), if_neg h40, if_pos (show c / 10 = 4 by omega), gr_eq hT nm (Nat.le_refl _)]
    · have hc50 : ¬ (10 ≤ nI c ∧ c < 50) := fun h => h50 h.2
      rw [if_neg hc50, if_neg (show ¬ c / 10 = 1 by omega), if_neg (show ¬ c / 10 = 2 by omega), if_neg (show ¬ c / 10 = 3 by omega), if_neg (show ¬ c / 10 = 4 by omega), if_neg n0, if_neg n1, if_neg n2]
  · unfold cntF cnM
    have h1 : ¬ (10 ≤ p0 ∧ p0 < 50) := fun h => hin h.1
    have h2 : p0 < 10 := Int32.not_le.mp hin
    rw [if_neg h1, if_pos h2, e3]
theorem slM_is : ∀ z : Nat, (∃ i, i < z ∧ τ 20 i = p0 ∧ slM τ p0 z = nI i) ∨ ((∀ i, i < z → ¬ τ 20 i = p0) ∧ slM τ p0 z = -1)
  | 0 => Or.inr ⟨fun i hi => absurd hi (Nat.not_lt_zero _), rfl⟩
  | z + 1 => by
    by_cases h : τ 20 z = p0
    · exact Or.inl ⟨z, by omega, h, if_pos h⟩
    · have e : slM τ p0 (z + 1) = slM τ p0 z := if_neg h
      rcases slM_is z with ⟨i, hi, h1, h2⟩ | ⟨h1, h2⟩
      · exact Or.inl ⟨i, by omega, h1, e.trans h2⟩
      · refine Or.inr ⟨fun i hi => ?_, e.trans h2⟩
        rcases Nat.lt_succ_iff_lt_or_eq.mp hi with h9 | rfl
        · exact h1 i h9
        · exact h
theorem slM_eq (hT : TT σ τ n nm) {i : Nat} (hi : i < nm) : slM τ p0 nm = nI i ↔ σ 31 i = p0 := by
  have hm : nm ≤ 40 := hT.1.2.2.2.2.1
  have hS := hT.2.2.2.2.2.2.2.2.2.2.1
  rcases slM_is (τ := τ) (p0 := p0) nm with ⟨j, hj, h1, h2⟩ | ⟨h1, h2⟩
  · rw [(hS.1 j hj).2] at h1
    rw [h2]
    constructor
    · intro h
      have := nI_jn (by omega) (by omega) h
      subst this
      exact h1
    · intro h
      rw [hS.2 i j hi hj (h.trans h1.symm)]
  · rw [h2]
    constructor
    · intro h
      exfalso
      have h9 := congrArg Int32.toInt h
      rw [i32_nm1, nI_toInt (by omega)] at h9
      omega
    · intro h
      exact absurd ((hS.1 i hi).2.trans h) (h1 i hi)
theorem slM_neg (hT : TT σ τ n nm) : slM τ p0 nm < 0 ↔ ¬ ∃ j, j < nm ∧ σ 31 j = p0 := by
  have hm : nm ≤ 40 := hT.1.2.2.2.2.1
  have hS := hT.2.2.2.2.2.2.2.2.2.2.1
  rcases slM_is (τ := τ) (p0 := p0) nm with ⟨j, hj, h1, h2⟩ | ⟨h1, h2⟩
  · rw [(hS.1 j hj).2] at h1
    rw [h2]
    exact ⟨fun h => absurd h (nI_pos (by omega)), fun h => absurd ⟨j, hj, h1⟩ h⟩
  · rw [h2]
    refine ⟨fun _ => ?_, fun _ => by decide⟩
    rintro ⟨j, hj, h⟩
    exact h1 j hj ((hS.1 j hj).2.trans h)
theorem tt_found {i q : Nat} {x : Int32} (hT : TT σ τ n nm) (hi : i < nm) (hq : q < 4) (hx : rgV x) : TT (su σ (1000 + i) q x) (su τ 21 (4 * i + q) x) n nm := by
  have hm : nm ≤ 40 := hT.1.2.2.2.2.1
  obtain ⟨hN, hR, hI, hA, hV, hF, hQ, hH, hD, hU, hS, hB, hC, hK⟩ := hT
  have kr : ∀ k, k < 1000 → su σ (1000 + i) q x k = σ k := fun k h => su_row (by omega)
  unfold TT
  rw [kr 0 (by omega), kr 1 (by omega), kr 2 (by omega), kr 3 (by omega), kr 4 (by omega), kr 5 (by omega), kr 6 (by omega), kr 20 (by omega), kr 21 (by omega), kr 22 (by omega), kr 23 (by omega), kr 24 (by omega), kr 25 (by omega), kr 26 (by omega), kr 27 (by omega), kr 28 (by omega), kr 29 (by omega), kr 30 (by omega), kr 31 (by omega)]
  refine ⟨hN, hR, hI, hA, hV, hF, hQ, hH, TTd_su hD (by omega), hU, hS, ⟨fun j y hj hy => ?_, fun k h1 h2 => ?_⟩, TTc_rw hC rfl, TTk_rw hK rfl rfl rfl rfl⟩
  · obtain ⟨b1, b2, b3, b4⟩ := hB.1 j y hj hy
    have e2 : su σ (1000 + i) q x (2000 + j) y = σ (2000 + j) y := su_ne (by omega)
    rw [e2]
    by_cases e : j = i ∧ y = q
    · obtain ⟨rfl, rfl⟩ := e
      rw [su_at, su_at]
      exact ⟨rfl, hx, b3, b4⟩
    · have e1 : su σ (1000 + i) q x (1000 + j) y = σ (1000 + j) y := by
        unfold su
        exact if_neg (by omega)
      rw [e1, su_nj (by omega)]
      exact ⟨b1, b2, b3, b4⟩
  · rw [su_nj (by omega)]
    exact hB.2 k h1 h2
theorem tt_result (hT : TT σ τ n nm) (hc : cr_result σ n nm p0 p1 p2 p3 k r u) (hm : mr_result τ n nm p0 p1 p2 p3 r' u') : u' 0 0 = k ∧ (k = 0 → 0 < nm) ∧ TT u u' n nm := by
  have hmm : nm ≤ 40 := hT.1.2.2.2.2.1
  rcases hm with ⟨hno, rfl, rfl⟩ | ⟨i, q, hi, hq, rfl, rfl, h1, h3, hm⟩
  · rcases hc with ⟨rfl, i, q, hi, hq, rfl, rfl, h1, h3, -⟩ | ⟨rfl, -, rfl⟩
    · exact absurd ⟨⟨nI_pos' (by omega), nI_lt hi (by omega)⟩, h1, ⟨nI_pos' (by omega), nI_le (b := 3) (by omega) (by decide)⟩, h3⟩ hno
    · exact ⟨rfl, fun h => absurd h (by decide), tt_thr hT⟩
  · rcases hc with ⟨rfl, j, y, hj, hy, e, e2, h5, h6, hc⟩ | ⟨rfl, hno, -⟩
    · have := nI_jn (by omega) (by omega) e
      subst this
      have := nI_jn (by omega) (by omega) e2
      subst this
      rw [slM_eq hT hi] at hm
      obtain ⟨b1, b2, b3, b4⟩ := hT.2.2.2.2.2.2.2.2.2.2.2.1.1 i q hi hq
      rw [b1, neg32 b2.1] at hm
      rcases hm with ⟨g1, -, rfl⟩ | ⟨g1, g2, -, rfl⟩ | ⟨g1, g2, -, rfl⟩
      · rcases hc with ⟨-, -, rfl⟩ | ⟨-, -, -, rfl⟩ | ⟨-, g3, -, -⟩
        · exact ⟨rfl, fun _ => by omega, tt_thr hT⟩
        · exact ⟨rfl, fun _ => by omega, tt_thr hT⟩
        · exact absurd g3 g1
      · rcases hc with ⟨-, -, rfl⟩ | ⟨-, -, -, rfl⟩ | ⟨g3, -, -, -⟩
        · exact ⟨rfl, fun _ => by omega, tt_thr hT⟩
        · exact ⟨rfl, fun _ => by omega, tt_thr hT⟩
        · exact absurd g3 g2
      · rcases hc with ⟨g3, -, -⟩ | ⟨-, g3, -, -⟩ | ⟨-, -, -, rfl⟩
        · exact absurd g2 g3
        · exact absurd g1 g3
        · refine ⟨rfl, fun _ => by omega, tt_found (tt_thr hT) hi hq ?_⟩
          unfold rgV
          simp only [i32_le, i32_n0, i32_nm1, i32_n1000000] at h3 ⊢
          omega
    · exact absurd ⟨⟨i, hi, rfl⟩, ⟨nI_pos' (by omega), nI_le (b := 3) (by omega) (by decide)⟩, h1, h3⟩ hno
theorem seS_lo {d : Int32} {a b : Nat} (ha : a < 2000) : ∀ z : Nat, seS σ d z a b = σ a b
  | 0 => rfl
  | z + 1 => by
    show (if σ 30 z = d then seM (seS σ d z) z 4 else seS σ d z) a b = _
    by_cases h : σ 30 z = d
    · rw [if_pos h, seM_ne (by omega), seS_lo ha z]
    · rw [if_neg h, seS_lo ha z]
theorem seS_hi {d : Int32} {i b : Nat} : ∀ z : Nat, z ≤ 40 → seS σ d z (2000 + i) b = if i < z ∧ σ 30 i = d ∧ b < 4 ∧ ¬ σ (1000 + i) b = -1 then 1 else σ (2000 + i) b
  | 0, _ => (if_neg (fun h => absurd h.1 (Nat.not_lt_zero _))).symm
  | z + 1, hz => by
    have ih := seS_hi (d := d) (i := i) (b := b) z (by omega)
    show (if σ 30 z = d then seM (seS σ d z) z 4 else seS σ d z) (2000 + i) b = _
    by_cases h : σ 30 z = d
    · rw [if_pos h]
      by_cases e : i = z
      · subst e
        unfold seM
        rw [seS_lo (a := 1000 + i) (by omega) i, ih, if_neg (c := i < i ∧ _) (fun h => absurd h.1 (Nat.lt_irrefl _))]
        by_cases h2 : b < 4 ∧ ¬ σ (1000 + i) b = -1
        · have h3 : i < i + 1 ∧ σ 30 i = d ∧ b < 4 ∧ ¬ σ (1000 + i) b = -1 := ⟨by omega, h, h2⟩
          rw [if_pos ⟨rfl, h2⟩, if_pos h3]
        · rw [if_neg (fun h9 => h2 h9.2), if_neg (fun h9 => h2 h9.2.2)]
      · rw [seM_ne (by omega), ih]
        by_cases h2 : i < z ∧ σ 30 i = d ∧ b < 4 ∧ ¬ σ (1000 + i) b = -1
        · have h3 : i < z + 1 ∧ σ 30 i = d ∧ b < 4 ∧ ¬ σ (1000 + i) b = -1 := ⟨by omega, h2.2⟩
          rw [if_pos h2, if_pos h3]
        · rw [if_neg h2, if_neg (fun h9 => h2 ⟨by omega, h9.2⟩)]
    · rw [if_neg h, ih]
      by_cases h2 : i < z ∧ σ 30 i = d ∧ b < 4 ∧ ¬ σ (1000 + i) b = -1
      · have h3 : i < z + 1 ∧ σ 30 i = d ∧ b < 4 ∧ ¬ σ (1000 + i) b = -1 := ⟨by omega, h2.2⟩
        rw [if_pos h2, if_pos h3]
      · rw [if_neg h2, if_neg (fun h9 => h2 ⟨by rcases Nat.lt_succ_iff_lt_or_eq.mp h9.1 with q | q; exact q; exact absurd (q ▸ h9.2.1) h, h9.2⟩)]
theorem tt_settle (hT : TT σ τ n nm) (hc : cr_settle σ n nm p0 k r u) (hm : mr_settle τ n nm p0 r' u') : u' 0 0 = k ∧ (k = 0 → r' = r) ∧ TT u u' n nm := by
  have hmm : nm ≤ 40 := hT.1.2.2.2.2.1
  rcases hm with ⟨hno, rfl, rfl⟩ | ⟨a, ha, rfl, rfl, rfl⟩
  · rcases hc with ⟨rfl, hp, -⟩ | ⟨rfl, -, rfl⟩
    · exact absurd (n9_10.mp hp) hno
    · exact ⟨rfl, fun h => absurd h (by decide), tt_thr hT⟩
  · have g9 : 0 ≤ nI a ∧ nI a ≤ 9 := ⟨nI_pos' (by omega), nI_le (b := 9) (by omega) (by decide)⟩
    rcases hc with ⟨rfl, -, rfl, rfl⟩ | ⟨rfl, hno, -⟩
    · refine ⟨rfl, fun _ => gr_eq hT nm (Nat.le_refl _), ?_⟩
      have hT0 := tt_thr (x := 0) hT
      have hds : ∀ i, i < nm → dS (su τ 0 0 0) i = σ 30 i := fun i hi => (dS_eq hT0 hi).1
      obtain ⟨hN, hR, hI, hA, hV, hF, hQ, hH, hD, hU, hS, hB, hC, hK⟩ := hT0
      have kr : ∀ k, k < 2000 → seS σ (nI a) nm k = σ k := fun k h => funext fun b => seS_lo h nm
      have kt : ∀ k, k ≠ 22 → stM (su τ 0 0 0) (nI a) (4 * nm) k = su τ 0 0 0 k := fun k h => funext fun b => stM_n h
      unfold TT
      rw [kr 0 (by omega), kr 1 (by omega), kr 2 (by omega), kr 3 (by omega), kr 4 (by omega), kr 5 (by omega), kr 6 (by omega), kr 20 (by omega), kr 21 (by omega), kr 22 (by omega), kr 23 (by omega), kr 24 (by omega), kr 25 (by omega), kr 26 (by omega), kr 27 (by omega), kr 28 (by omega), kr 29 (by omega), kr 30 (by omega), kr 31 (by omega), kt 0 (by omega), kt 4 (by omega), kt 5 (by omega), kt 6 (by omega), kt 7 (by omega), kt 8 (by omega), kt 9 (by omega), kt 10 (by omega), kt 11 (by omega), kt 12 (by omega), kt 13 (by omega), kt 14 (by omega), kt 15 (by omega), kt 16 (by omega), kt 17 (by omega), kt 18 (by omega), kt 19 (by omega), kt 20 (by omega), kt 21 (by omega), kt 23 (by omega), kt 24 (by omega)]
      refine ⟨hN, hR, hI, hA, hV, hF, hQ, hH, fun d q hd hq => ?_, hU, hS, ⟨fun i q hi hq => ?_, fun k h1 h2 => ?_⟩, TTc_rw hC (kt 19 (by omega)), TTk_rw hK (kt 5 (by omega)) (kt 6 (by omega)) (kt 14 (by omega)) (kt 19 (by omega))⟩
      · rw [kr (10 + d) (by omega)]
        exact hD d q hd hq
      · obtain ⟨b1, b2, b3, b4⟩ := hB.1 i q hi hq
        rw [kr (1000 + i) (by omega), seS_hi nm hmm]
        refine ⟨b1, b2, ?_⟩
        have e1 : (4 * i + q) / 4 = i := by omega
        have e2 : stM (su τ 0 0 0) (nI a) (4 * nm) 22 (4 * i + q) = if su τ 0 0 0 22 (4 * i + q) = 0 ∧ ¬ (dS (su τ 0 0 0) ((4 * i + q) / 4) = nI a ∧ ¬ su τ 0 0 0 21 (4 * i + q) < 0) then 0 else 1 := if_pos ⟨rfl, by omega⟩
        rw [e2, e1, hds i hi, b1, b3]
        have hg := neg32 b2.1
        by_cases h5 : σ 30 i = nI a ∧ ¬ σ (1000 + i) q = -1
        · have h6 : i < nm ∧ σ 30 i = nI a ∧ q < 4 ∧ ¬ σ (1000 + i) q = -1 := ⟨hi, h5.1, hq, h5.2⟩
          have h7 : ¬ (σ (2000 + i) q = 0 ∧ ¬ (σ 30 i = nI a ∧ ¬ σ (1000 + i) q < 0)) := fun h9 => h9.2 ⟨h5.1, fun h8 => h5.2 (hg.mp h8)⟩
          rw [if_neg h7, if_pos h6]
          exact ⟨rfl, Or.inr rfl⟩
        · have h6 : ¬ (i < nm ∧ σ 30 i = nI a ∧ q < 4 ∧ ¬ σ (1000 + i) q = -1) := fun h9 => h5 ⟨h9.2.1, h9.2.2.2⟩
          rw [if_neg h6]
          rcases b4 with h7 | h7
          · have h8 : σ (2000 + i) q = 0 ∧ ¬ (σ 30 i = nI a ∧ ¬ σ (1000 + i) q < 0) := ⟨h7, fun h9 => h5 ⟨h9.1, fun h8 => h9.2 (hg.mpr h8)⟩⟩
            rw [if_pos h8, h7]
            exact ⟨rfl, Or.inl rfl⟩
          · have h8 : ¬ (σ (2000 + i) q = 0 ∧ ¬ (σ 30 i = nI a ∧ ¬ σ (1000 + i) q < 0)) := fun h9 => absurd (h7.symm.trans h9.1) (by decide)
            rw [if_neg h8, h7]
            exact ⟨rfl, Or.inr rfl⟩
      · have e2 : stM (su τ 0 0 0) (nI a) (4 * nm) 22 k = su τ 0 0 0 22 k := if_neg (fun h9 => absurd h9.2 (by omega))
        rw [e2]
        exact hB.2 k h1 h2
    · exact absurd g9 hno
end T4
